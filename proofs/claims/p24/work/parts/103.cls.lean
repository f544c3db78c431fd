theorem dL_earns_0 : decode cL_earns 0 = .ok (.aload_n 3, 1) := by decide +kernel
theorem dL_earns_1 : decode cL_earns 1 = .ok (.iconst 0, 1) := by decide +kernel
theorem dL_earns_10 : decode cL_earns 10 = .ok (.goto 7, 3) := by decide +kernel
theorem dL_earns_13 : decode cL_earns 13 = .ok (.astore 4, 2) := by decide +kernel
theorem dL_earns_15 : decode cL_earns 15 = .ok (.iconst 1, 1) := by decide +kernel
theorem dL_earns_16 : decode cL_earns 16 = .ok (.ireturn, 1) := by decide +kernel
theorem dL_earns_17 : decode cL_earns 17 = .ok (.iconst 0, 1) := by decide +kernel
theorem dL_earns_18 : decode cL_earns 18 = .ok (.ireturn, 1) := by decide +kernel
theorem dL_earns_2 : decode cL_earns 2 = .ok (.aload_n 0, 1) := by decide +kernel
theorem dL_earns_3 : decode cL_earns 3 = .ok (.iload_n 1, 1) := by decide +kernel
theorem dL_earns_4 : decode cL_earns 4 = .ok (.iload_n 2, 1) := by decide +kernel
theorem dL_earns_5 : decode cL_earns 5 = .ok (.invokevirtual 22, 3) := by decide +kernel
theorem dL_earns_8 : decode cL_earns 8 = .ok (.i2l, 1) := by decide +kernel
theorem dL_earns_9 : decode cL_earns 9 = .ok (.lastore, 1) := by decide +kernel
theorem dL_ill_0 : decode cL_ill 0 = .ok (.aload_n 3, 1) := by decide +kernel
theorem dL_ill_1 : decode cL_ill 1 = .ok (.iconst 0, 1) := by decide +kernel
theorem dL_ill_10 : decode cL_ill 10 = .ok (.goto 7, 3) := by decide +kernel
theorem dL_ill_13 : decode cL_ill 13 = .ok (.astore 4, 2) := by decide +kernel
theorem dL_ill_15 : decode cL_ill 15 = .ok (.iconst 1, 1) := by decide +kernel
theorem dL_ill_16 : decode cL_ill 16 = .ok (.ireturn, 1) := by decide +kernel
theorem dL_ill_17 : decode cL_ill 17 = .ok (.iconst 0, 1) := by decide +kernel
theorem dL_ill_18 : decode cL_ill 18 = .ok (.ireturn, 1) := by decide +kernel
theorem dL_ill_2 : decode cL_ill 2 = .ok (.aload_n 0, 1) := by decide +kernel
theorem dL_ill_3 : decode cL_ill 3 = .ok (.iload_n 1, 1) := by decide +kernel
theorem dL_ill_4 : decode cL_ill 4 = .ok (.iload_n 2, 1) := by decide +kernel
theorem dL_ill_5 : decode cL_ill 5 = .ok (.invokevirtual 25, 3) := by decide +kernel
theorem dL_ill_8 : decode cL_ill 8 = .ok (.i2l, 1) := by decide +kernel
theorem dL_ill_9 : decode cL_ill 9 = .ok (.lastore, 1) := by decide +kernel
theorem dL_of_0 : decode cL_of 0 = .ok (.aload_n 3, 1) := by decide +kernel
theorem dL_of_1 : decode cL_of 1 = .ok (.iconst 0, 1) := by decide +kernel
theorem dL_of_10 : decode cL_of 10 = .ok (.goto 7, 3) := by decide +kernel
theorem dL_of_13 : decode cL_of 13 = .ok (.astore 4, 2) := by decide +kernel
theorem dL_of_15 : decode cL_of 15 = .ok (.iconst 1, 1) := by decide +kernel
theorem dL_of_16 : decode cL_of 16 = .ok (.ireturn, 1) := by decide +kernel
theorem dL_of_17 : decode cL_of 17 = .ok (.iconst 0, 1) := by decide +kernel
theorem dL_of_18 : decode cL_of 18 = .ok (.ireturn, 1) := by decide +kernel
theorem dL_of_2 : decode cL_of 2 = .ok (.aload_n 0, 1) := by decide +kernel
theorem dL_of_3 : decode cL_of 3 = .ok (.iload_n 1, 1) := by decide +kernel
theorem dL_of_4 : decode cL_of 4 = .ok (.iload_n 2, 1) := by decide +kernel
theorem dL_of_5 : decode cL_of 5 = .ok (.invokevirtual 7, 3) := by decide +kernel
theorem dL_of_8 : decode cL_of 8 = .ok (.i2l, 1) := by decide +kernel
theorem dL_of_9 : decode cL_of 9 = .ok (.lastore, 1) := by decide +kernel
theorem dL_order_0 : decode cL_order 0 = .ok (.aload_n 3, 1) := by decide +kernel
theorem dL_order_1 : decode cL_order 1 = .ok (.iconst 0, 1) := by decide +kernel
theorem dL_order_10 : decode cL_order 10 = .ok (.goto 7, 3) := by decide +kernel
theorem dL_order_13 : decode cL_order 13 = .ok (.astore 4, 2) := by decide +kernel
theorem dL_order_15 : decode cL_order 15 = .ok (.iconst 1, 1) := by decide +kernel
theorem dL_order_16 : decode cL_order 16 = .ok (.ireturn, 1) := by decide +kernel
theorem dL_order_17 : decode cL_order 17 = .ok (.iconst 0, 1) := by decide +kernel
theorem dL_order_18 : decode cL_order 18 = .ok (.ireturn, 1) := by decide +kernel
theorem dL_order_2 : decode cL_order 2 = .ok (.aload_n 0, 1) := by decide +kernel
theorem dL_order_3 : decode cL_order 3 = .ok (.iload_n 1, 1) := by decide +kernel
theorem dL_order_4 : decode cL_order 4 = .ok (.iload_n 2, 1) := by decide +kernel
theorem dL_order_5 : decode cL_order 5 = .ok (.invokevirtual 15, 3) := by decide +kernel
theorem dL_order_8 : decode cL_order 8 = .ok (.i2l, 1) := by decide +kernel
theorem dL_order_9 : decode cL_order 9 = .ok (.lastore, 1) := by decide +kernel
theorem dL_pay_0 : decode cL_pay 0 = .ok (.aload_n 2, 1) := by decide +kernel
theorem dL_pay_1 : decode cL_pay 1 = .ok (.iconst 0, 1) := by decide +kernel
theorem dL_pay_12 : decode cL_pay 12 = .ok (.astore_n 3, 1) := by decide +kernel
theorem dL_pay_13 : decode cL_pay 13 = .ok (.iconst 1, 1) := by decide +kernel
theorem dL_pay_14 : decode cL_pay 14 = .ok (.ireturn, 1) := by decide +kernel
theorem dL_pay_15 : decode cL_pay 15 = .ok (.iconst 0, 1) := by decide +kernel
theorem dL_pay_16 : decode cL_pay 16 = .ok (.ireturn, 1) := by decide +kernel
theorem dL_pay_2 : decode cL_pay 2 = .ok (.aload_n 0, 1) := by decide +kernel
theorem dL_pay_3 : decode cL_pay 3 = .ok (.iload_n 1, 1) := by decide +kernel
theorem dL_pay_4 : decode cL_pay 4 = .ok (.invokevirtual 18, 3) := by decide +kernel
theorem dL_pay_7 : decode cL_pay 7 = .ok (.i2l, 1) := by decide +kernel
theorem dL_pay_8 : decode cL_pay 8 = .ok (.lastore, 1) := by decide +kernel
theorem dL_pay_9 : decode cL_pay 9 = .ok (.goto 6, 3) := by decide +kernel
theorem dL_row_0 : decode cL_row 0 = .ok (.aload_n 2, 1) := by decide +kernel
theorem dL_row_1 : decode cL_row 1 = .ok (.iconst 0, 1) := by decide +kernel
theorem dL_row_12 : decode cL_row 12 = .ok (.astore_n 3, 1) := by decide +kernel
theorem dL_row_13 : decode cL_row 13 = .ok (.iconst 1, 1) := by decide +kernel
theorem dL_row_14 : decode cL_row 14 = .ok (.ireturn, 1) := by decide +kernel
theorem dL_row_15 : decode cL_row 15 = .ok (.iconst 0, 1) := by decide +kernel
theorem dL_row_16 : decode cL_row 16 = .ok (.ireturn, 1) := by decide +kernel
theorem dL_row_2 : decode cL_row 2 = .ok (.aload_n 0, 1) := by decide +kernel
theorem dL_row_3 : decode cL_row 3 = .ok (.iload_n 1, 1) := by decide +kernel
theorem dL_row_4 : decode cL_row 4 = .ok (.invokevirtual 28, 3) := by decide +kernel
theorem dL_row_7 : decode cL_row 7 = .ok (.i2l, 1) := by decide +kernel
theorem dL_row_8 : decode cL_row 8 = .ok (.lastore, 1) := by decide +kernel
theorem dL_row_9 : decode cL_row 9 = .ok (.goto 6, 3) := by decide +kernel
theorem dX11_as_0 : decode cX11_as 0 = .ok (.iload_n 1, 1) := by decide +kernel
theorem dX11_as_1 : decode cX11_as 1 = .ok (.iconst 0, 1) := by decide +kernel
theorem dX11_as_10 : decode cX11_as 10 = .ok (.iconst (-1), 1) := by decide +kernel
theorem dX11_as_11 : decode cX11_as 11 = .ok (.ireturn, 1) := by decide +kernel
theorem dX11_as_12 : decode cX11_as 12 = .ok (.aload_n 0, 1) := by decide +kernel
theorem dX11_as_13 : decode cX11_as 13 = .ok (.getfield 40, 3) := by decide +kernel
theorem dX11_as_16 : decode cX11_as 16 = .ok (.getfield 245, 3) := by decide +kernel
theorem dX11_as_19 : decode cX11_as 19 = .ok (.istore_n 2, 1) := by decide +kernel
theorem dX11_as_2 : decode cX11_as 2 = .ok (.bipush 99, 2) := by decide +kernel
theorem dX11_as_20 : decode cX11_as 20 = .ok (.aload_n 0, 1) := by decide +kernel
theorem dX11_as_21 : decode cX11_as 21 = .ok (.getfield 40, 3) := by decide +kernel
theorem dX11_as_24 : decode cX11_as 24 = .ok (.iload_n 1, 1) := by decide +kernel
theorem dX11_as_25 : decode cX11_as 25 = .ok (.putfield 245, 3) := by decide +kernel
theorem dX11_as_28 : decode cX11_as 28 = .ok (.iload_n 2, 1) := by decide +kernel
theorem dX11_as_29 : decode cX11_as 29 = .ok (.ireturn, 1) := by decide +kernel
theorem dX11_as_4 : decode cX11_as 4 = .ok (.invokestatic 68, 3) := by decide +kernel
theorem dX11_as_7 : decode cX11_as 7 = .ok (.ifCond .ne 5, 3) := by decide +kernel
theorem dX11_at_0 : decode cX11_at 0 = .ok (.aload_n 0, 1) := by decide +kernel
theorem dX11_at_1 : decode cX11_at 1 = .ok (.getfield 10, 3) := by decide +kernel
theorem dX11_at_102 : decode cX11_at 102 = .ok (.iload_n 1, 1) := by decide +kernel
theorem dX11_at_103 : decode cX11_at 103 = .ok (.iaload, 1) := by decide +kernel
theorem dX11_at_104 : decode cX11_at 104 = .ok (.ireturn, 1) := by decide +kernel
theorem dX11_at_105 : decode cX11_at 105 = .ok (.aload_n 0, 1) := by decide +kernel
theorem dX11_at_106 : decode cX11_at 106 = .ok (.getfield 28, 3) := by decide +kernel
theorem dX11_at_109 : decode cX11_at 109 = .ok (.iload_n 1, 1) := by decide +kernel
theorem dX11_at_11 : decode cX11_at 11 = .ok (.iconst (-1), 1) := by decide +kernel
theorem dX11_at_110 : decode cX11_at 110 = .ok (.invokevirtual 219, 3) := by decide +kernel
theorem dX11_at_113 : decode cX11_at 113 = .ok (.ifCond .eq 7, 3) := by decide +kernel
theorem dX11_at_116 : decode cX11_at 116 = .ok (.iconst 1, 1) := by decide +kernel
theorem dX11_at_117 : decode cX11_at 117 = .ok (.goto 4, 3) := by decide +kernel
theorem dX11_at_12 : decode cX11_at 12 = .ok (.ireturn, 1) := by decide +kernel
theorem dX11_at_120 : decode cX11_at 120 = .ok (.iconst 0, 1) := by decide +kernel
theorem dX11_at_121 : decode cX11_at 121 = .ok (.ireturn, 1) := by decide +kernel
theorem dX11_at_122 : decode cX11_at 122 = .ok (.aload_n 0, 1) := by decide +kernel
theorem dX11_at_123 : decode cX11_at 123 = .ok (.getfield 28, 3) := by decide +kernel
theorem dX11_at_126 : decode cX11_at 126 = .ok (.iload_n 1, 1) := by decide +kernel
theorem dX11_at_127 : decode cX11_at 127 = .ok (.invokevirtual 222, 3) := by decide +kernel
theorem dX11_at_13 : decode cX11_at 13 = .ok (.iload_n 2, 1) := by decide +kernel
theorem dX11_at_130 : decode cX11_at 130 = .ok (.ireturn, 1) := by decide +kernel
theorem dX11_at_131 : decode cX11_at 131 = .ok (.iconst (-1), 1) := by decide +kernel
theorem dX11_at_132 : decode cX11_at 132 = .ok (.ireturn, 1) := by decide +kernel
theorem dX11_at_14 : decode cX11_at 14 = .ok (.tableswitch 117 0 6 #[42, 51, 61, 71, 81, 91, 108], 42) := by decide +kernel
theorem dX11_at_4 : decode cX11_at 4 = .ok (.iload_n 1, 1) := by decide +kernel
theorem dX11_at_5 : decode cX11_at 5 = .ok (.invokevirtual 201, 3) := by decide +kernel
theorem dX11_at_56 : decode cX11_at 56 = .ok (.aload_n 0, 1) := by decide +kernel
theorem dX11_at_57 : decode cX11_at 57 = .ok (.getfield 28, 3) := by decide +kernel
theorem dX11_at_60 : decode cX11_at 60 = .ok (.iload_n 1, 1) := by decide +kernel
theorem dX11_at_61 : decode cX11_at 61 = .ok (.invokevirtual 204, 3) := by decide +kernel
theorem dX11_at_64 : decode cX11_at 64 = .ok (.ireturn, 1) := by decide +kernel
theorem dX11_at_65 : decode cX11_at 65 = .ok (.aload_n 0, 1) := by decide +kernel
theorem dX11_at_66 : decode cX11_at 66 = .ok (.getfield 28, 3) := by decide +kernel
theorem dX11_at_69 : decode cX11_at 69 = .ok (.getfield 207, 3) := by decide +kernel
theorem dX11_at_72 : decode cX11_at 72 = .ok (.iload_n 1, 1) := by decide +kernel
theorem dX11_at_73 : decode cX11_at 73 = .ok (.iaload, 1) := by decide +kernel
theorem dX11_at_74 : decode cX11_at 74 = .ok (.ireturn, 1) := by decide +kernel
theorem dX11_at_75 : decode cX11_at 75 = .ok (.aload_n 0, 1) := by decide +kernel
theorem dX11_at_76 : decode cX11_at 76 = .ok (.getfield 28, 3) := by decide +kernel
theorem dX11_at_79 : decode cX11_at 79 = .ok (.getfield 210, 3) := by decide +kernel
theorem dX11_at_8 : decode cX11_at 8 = .ok (.ifCond .ne 5, 3) := by decide +kernel
theorem dX11_at_82 : decode cX11_at 82 = .ok (.iload_n 1, 1) := by decide +kernel
theorem dX11_at_83 : decode cX11_at 83 = .ok (.iaload, 1) := by decide +kernel
theorem dX11_at_84 : decode cX11_at 84 = .ok (.ireturn, 1) := by decide +kernel
theorem dX11_at_85 : decode cX11_at 85 = .ok (.aload_n 0, 1) := by decide +kernel
theorem dX11_at_86 : decode cX11_at 86 = .ok (.getfield 28, 3) := by decide +kernel
theorem dX11_at_89 : decode cX11_at 89 = .ok (.getfield 213, 3) := by decide +kernel
theorem dX11_at_92 : decode cX11_at 92 = .ok (.iload_n 1, 1) := by decide +kernel
theorem dX11_at_93 : decode cX11_at 93 = .ok (.iaload, 1) := by decide +kernel
theorem dX11_at_94 : decode cX11_at 94 = .ok (.ireturn, 1) := by decide +kernel
theorem dX11_at_95 : decode cX11_at 95 = .ok (.aload_n 0, 1) := by decide +kernel
theorem dX11_at_96 : decode cX11_at 96 = .ok (.getfield 28, 3) := by decide +kernel
theorem dX11_at_99 : decode cX11_at 99 = .ok (.getfield 216, 3) := by decide +kernel
theorem dX11_away_0 : decode cX11_away 0 = .ok (.aload_n 0, 1) := by decide +kernel
theorem dX11_away_1 : decode cX11_away 1 = .ok (.getfield 10, 3) := by decide +kernel
theorem dX11_away_11 : decode cX11_away 11 = .ok (.iload_n 2, 1) := by decide +kernel
theorem dX11_away_12 : decode cX11_away 12 = .ok (.aload_n 0, 1) := by decide +kernel
theorem dX11_away_13 : decode cX11_away 13 = .ok (.getfield 28, 3) := by decide +kernel
theorem dX11_away_16 : decode cX11_away 16 = .ok (.getfield 99, 3) := by decide +kernel
theorem dX11_away_19 : decode cX11_away 19 = .ok (.sipush 4800, 3) := by decide +kernel
theorem dX11_away_22 : decode cX11_away 22 = .ok (.invokestatic 68, 3) := by decide +kernel
theorem dX11_away_25 : decode cX11_away 25 = .ok (.ifCond .eq 19, 3) := by decide +kernel
theorem dX11_away_28 : decode cX11_away 28 = .ok (.iload_n 3, 1) := by decide +kernel
theorem dX11_away_29 : decode cX11_away 29 = .ok (.iload_n 2, 1) := by decide +kernel
theorem dX11_away_30 : decode cX11_away 30 = .ok (.if_icmp .le 14, 3) := by decide +kernel
theorem dX11_away_33 : decode cX11_away 33 = .ok (.iload_n 3, 1) := by decide +kernel
theorem dX11_away_34 : decode cX11_away 34 = .ok (.sipush 4800, 3) := by decide +kernel
theorem dX11_away_37 : decode cX11_away 37 = .ok (.if_icmp .gt 7, 3) := by decide +kernel
theorem dX11_away_4 : decode cX11_away 4 = .ok (.iload_n 1, 1) := by decide +kernel
theorem dX11_away_40 : decode cX11_away 40 = .ok (.iconst 1, 1) := by decide +kernel
theorem dX11_away_41 : decode cX11_away 41 = .ok (.goto 4, 3) := by decide +kernel
theorem dX11_away_44 : decode cX11_away 44 = .ok (.iconst 0, 1) := by decide +kernel
theorem dX11_away_45 : decode cX11_away 45 = .ok (.istore 4, 2) := by decide +kernel
theorem dX11_away_47 : decode cX11_away 47 = .ok (.iload 4, 2) := by decide +kernel
theorem dX11_away_49 : decode cX11_away 49 = .ok (.ifCond .eq 15, 3) := by decide +kernel
theorem dX11_away_5 : decode cX11_away 5 = .ok (.invokevirtual 95, 3) := by decide +kernel
theorem dX11_away_52 : decode cX11_away 52 = .ok (.aload_n 0, 1) := by decide +kernel
theorem dX11_away_53 : decode cX11_away 53 = .ok (.getfield 10, 3) := by decide +kernel
theorem dX11_away_56 : decode cX11_away 56 = .ok (.getfield 102, 3) := by decide +kernel
theorem dX11_away_59 : decode cX11_away 59 = .ok (.bipush 30, 2) := by decide +kernel
theorem dX11_away_61 : decode cX11_away 61 = .ok (.if_icmp .lt 5, 3) := by decide +kernel
theorem dX11_away_64 : decode cX11_away 64 = .ok (.iconst (-1), 1) := by decide +kernel
theorem dX11_away_65 : decode cX11_away 65 = .ok (.ireturn, 1) := by decide +kernel
theorem dX11_away_66 : decode cX11_away 66 = .ok (.aload_n 0, 1) := by decide +kernel
theorem dX11_away_67 : decode cX11_away 67 = .ok (.getfield 10, 3) := by decide +kernel
theorem dX11_away_70 : decode cX11_away 70 = .ok (.new 105, 3) := by decide +kernel
theorem dX11_away_73 : decode cX11_away 73 = .ok (.dup, 1) := by decide +kernel
theorem dX11_away_74 : decode cX11_away 74 = .ok (.iload_n 1, 1) := by decide +kernel
theorem dX11_away_75 : decode cX11_away 75 = .ok (.iload_n 2, 1) := by decide +kernel
theorem dX11_away_76 : decode cX11_away 76 = .ok (.iload_n 3, 1) := by decide +kernel
theorem dX11_away_77 : decode cX11_away 77 = .ok (.invokespecial 107, 3) := by decide +kernel
theorem dX11_away_8 : decode cX11_away 8 = .ok (.ifCond .eq 36, 3) := by decide +kernel
theorem dX11_away_80 : decode cX11_away 80 = .ok (.invokevirtual 108, 3) := by decide +kernel
theorem dX11_away_83 : decode cX11_away 83 = .ok (.aload_n 0, 1) := by decide +kernel
theorem dX11_away_84 : decode cX11_away 84 = .ok (.getfield 10, 3) := by decide +kernel
theorem dX11_away_87 : decode cX11_away 87 = .ok (.getfield 102, 3) := by decide +kernel
theorem dX11_away_90 : decode cX11_away 90 = .ok (.ireturn, 1) := by decide +kernel
theorem dX11_canGoOn_0 : decode cX11_canGoOn 0 = .ok (.iload_n 1, 1) := by decide +kernel
theorem dX11_canGoOn_1 : decode cX11_canGoOn 1 = .ok (.iload_n 2, 1) := by decide +kernel
theorem dX11_canGoOn_11 : decode cX11_canGoOn 11 = .ok (.aload_n 0, 1) := by decide +kernel
theorem dX11_canGoOn_12 : decode cX11_canGoOn 12 = .ok (.getfield 28, 3) := by decide +kernel
theorem dX11_canGoOn_15 : decode cX11_canGoOn 15 = .ok (.getfield 99, 3) := by decide +kernel
theorem dX11_canGoOn_18 : decode cX11_canGoOn 18 = .ok (.iload_n 1, 1) := by decide +kernel
theorem dX11_canGoOn_19 : decode cX11_canGoOn 19 = .ok (.iadd, 1) := by decide +kernel
theorem dX11_canGoOn_2 : decode cX11_canGoOn 2 = .ok (.sipush 960, 3) := by decide +kernel
theorem dX11_canGoOn_20 : decode cX11_canGoOn 20 = .ok (.sipush 4800, 3) := by decide +kernel
theorem dX11_canGoOn_23 : decode cX11_canGoOn 23 = .ok (.if_icmp .gt 7, 3) := by decide +kernel
theorem dX11_canGoOn_26 : decode cX11_canGoOn 26 = .ok (.iconst 1, 1) := by decide +kernel
theorem dX11_canGoOn_27 : decode cX11_canGoOn 27 = .ok (.goto 4, 3) := by decide +kernel
theorem dX11_canGoOn_30 : decode cX11_canGoOn 30 = .ok (.iconst 0, 1) := by decide +kernel
theorem dX11_canGoOn_31 : decode cX11_canGoOn 31 = .ok (.ireturn, 1) := by decide +kernel
theorem dX11_canGoOn_5 : decode cX11_canGoOn 5 = .ok (.invokestatic 68, 3) := by decide +kernel
theorem dX11_canGoOn_8 : decode cX11_canGoOn 8 = .ok (.ifCond .eq 22, 3) := by decide +kernel
theorem dX11_claims_0 : decode cX11_claims 0 = .ok (.iload_n 1, 1) := by decide +kernel
theorem dX11_claims_1 : decode cX11_claims 1 = .ok (.iconst 0, 1) := by decide +kernel
theorem dX11_claims_10 : decode cX11_claims 10 = .ok (.iload_n 2, 1) := by decide +kernel
theorem dX11_claims_11 : decode cX11_claims 11 = .ok (.iconst 0, 1) := by decide +kernel
theorem dX11_claims_12 : decode cX11_claims 12 = .ok (.iconst 4, 1) := by decide +kernel
theorem dX11_claims_13 : decode cX11_claims 13 = .ok (.invokestatic 68, 3) := by decide +kernel
theorem dX11_claims_16 : decode cX11_claims 16 = .ok (.ifCond .ne 5, 3) := by decide +kernel
theorem dX11_claims_19 : decode cX11_claims 19 = .ok (.iconst (-1), 1) := by decide +kernel
theorem dX11_claims_2 : decode cX11_claims 2 = .ok (.bipush 7, 2) := by decide +kernel
theorem dX11_claims_20 : decode cX11_claims 20 = .ok (.ireturn, 1) := by decide +kernel
theorem dX11_claims_21 : decode cX11_claims 21 = .ok (.iload_n 2, 1) := by decide +kernel
theorem dX11_claims_22 : decode cX11_claims 22 = .ok (.ifCond .ne 12, 3) := by decide +kernel
theorem dX11_claims_25 : decode cX11_claims 25 = .ok (.aload_n 0, 1) := by decide +kernel
theorem dX11_claims_26 : decode cX11_claims 26 = .ok (.getfield 28, 3) := by decide +kernel
theorem dX11_claims_29 : decode cX11_claims 29 = .ok (.iload_n 1, 1) := by decide +kernel
theorem dX11_claims_30 : decode cX11_claims 30 = .ok (.invokevirtual 300, 3) := by decide +kernel
theorem dX11_claims_33 : decode cX11_claims 33 = .ok (.ireturn, 1) := by decide +kernel
theorem dX11_claims_34 : decode cX11_claims 34 = .ok (.iconst 0, 1) := by decide +kernel
theorem dX11_claims_35 : decode cX11_claims 35 = .ok (.istore_n 3, 1) := by decide +kernel
theorem dX11_claims_36 : decode cX11_claims 36 = .ok (.iconst 0, 1) := by decide +kernel
theorem dX11_claims_37 : decode cX11_claims 37 = .ok (.istore 4, 2) := by decide +kernel
theorem dX11_claims_39 : decode cX11_claims 39 = .ok (.iload 4, 2) := by decide +kernel
theorem dX11_claims_4 : decode cX11_claims 4 = .ok (.invokestatic 68, 3) := by decide +kernel
theorem dX11_claims_41 : decode cX11_claims 41 = .ok (.aload_n 0, 1) := by decide +kernel
theorem dX11_claims_42 : decode cX11_claims 42 = .ok (.getfield 10, 3) := by decide +kernel
theorem dX11_claims_45 : decode cX11_claims 45 = .ok (.getfield 112, 3) := by decide +kernel
theorem dX11_claims_48 : decode cX11_claims 48 = .ok (.if_icmp .ge 39, 3) := by decide +kernel
theorem dX11_claims_51 : decode cX11_claims 51 = .ok (.aload_n 0, 1) := by decide +kernel
theorem dX11_claims_52 : decode cX11_claims 52 = .ok (.getfield 10, 3) := by decide +kernel
theorem dX11_claims_55 : decode cX11_claims 55 = .ok (.getfield 145, 3) := by decide +kernel
theorem dX11_claims_58 : decode cX11_claims 58 = .ok (.iload 4, 2) := by decide +kernel
theorem dX11_claims_60 : decode cX11_claims 60 = .ok (.aaload, 1) := by decide +kernel
theorem dX11_claims_61 : decode cX11_claims 61 = .ok (.getfield 118, 3) := by decide +kernel
theorem dX11_claims_64 : decode cX11_claims 64 = .ok (.iload_n 1, 1) := by decide +kernel
theorem dX11_claims_65 : decode cX11_claims 65 = .ok (.if_icmp .ne 16, 3) := by decide +kernel
theorem dX11_claims_68 : decode cX11_claims 68 = .ok (.iload_n 3, 1) := by decide +kernel
theorem dX11_claims_69 : decode cX11_claims 69 = .ok (.aload_n 0, 1) := by decide +kernel
theorem dX11_claims_7 : decode cX11_claims 7 = .ok (.ifCond .eq 12, 3) := by decide +kernel
theorem dX11_claims_70 : decode cX11_claims 70 = .ok (.getfield 28, 3) := by decide +kernel
theorem dX11_claims_73 : decode cX11_claims 73 = .ok (.iload 4, 2) := by decide +kernel
theorem dX11_claims_75 : decode cX11_claims 75 = .ok (.iload_n 2, 1) := by decide +kernel
theorem dX11_claims_76 : decode cX11_claims 76 = .ok (.invokevirtual 303, 3) := by decide +kernel
theorem dX11_claims_79 : decode cX11_claims 79 = .ok (.iadd, 1) := by decide +kernel
theorem dX11_claims_80 : decode cX11_claims 80 = .ok (.istore_n 3, 1) := by decide +kernel
theorem dX11_claims_81 : decode cX11_claims 81 = .ok (.iinc 4 1, 3) := by decide +kernel
theorem dX11_claims_84 : decode cX11_claims 84 = .ok (.goto (-45), 3) := by decide +kernel
theorem dX11_claims_87 : decode cX11_claims 87 = .ok (.iload_n 3, 1) := by decide +kernel
theorem dX11_claims_88 : decode cX11_claims 88 = .ok (.ireturn, 1) := by decide +kernel
theorem dX11_correct_0 : decode cX11_correct 0 = .ok (.aload_n 0, 1) := by decide +kernel
theorem dX11_correct_1 : decode cX11_correct 1 = .ok (.getfield 10, 3) := by decide +kernel
theorem dX11_correct_102 : decode cX11_correct 102 = .ok (.getfield 248, 3) := by decide +kernel
theorem dX11_correct_105 : decode cX11_correct 105 = .ok (.iload 7, 2) := by decide +kernel
theorem dX11_correct_107 : decode cX11_correct 107 = .ok (.new 252, 3) := by decide +kernel
theorem dX11_correct_11 : decode cX11_correct 11 = .ok (.aload_n 0, 1) := by decide +kernel
theorem dX11_correct_110 : decode cX11_correct 110 = .ok (.dup, 1) := by decide +kernel
theorem dX11_correct_111 : decode cX11_correct 111 = .ok (.iload_n 1, 1) := by decide +kernel
theorem dX11_correct_112 : decode cX11_correct 112 = .ok (.iload_n 2, 1) := by decide +kernel
theorem dX11_correct_113 : decode cX11_correct 113 = .ok (.iload_n 3, 1) := by decide +kernel
theorem dX11_correct_114 : decode cX11_correct 114 = .ok (.iload 4, 2) := by decide +kernel
theorem dX11_correct_116 : decode cX11_correct 116 = .ok (.iload 5, 2) := by decide +kernel
theorem dX11_correct_118 : decode cX11_correct 118 = .ok (.invokespecial 254, 3) := by decide +kernel
theorem dX11_correct_12 : decode cX11_correct 12 = .ok (.getfield 28, 3) := by decide +kernel
theorem dX11_correct_121 : decode cX11_correct 121 = .ok (.aastore, 1) := by decide +kernel
theorem dX11_correct_122 : decode cX11_correct 122 = .ok (.aload_n 0, 1) := by decide +kernel
theorem dX11_correct_123 : decode cX11_correct 123 = .ok (.getfield 40, 3) := by decide +kernel
theorem dX11_correct_126 : decode cX11_correct 126 = .ok (.dup, 1) := by decide +kernel
theorem dX11_correct_127 : decode cX11_correct 127 = .ok (.getfield 238, 3) := by decide +kernel
theorem dX11_correct_130 : decode cX11_correct 130 = .ok (.iconst 1, 1) := by decide +kernel
theorem dX11_correct_131 : decode cX11_correct 131 = .ok (.iadd, 1) := by decide +kernel
theorem dX11_correct_132 : decode cX11_correct 132 = .ok (.putfield 238, 3) := by decide +kernel
theorem dX11_correct_135 : decode cX11_correct 135 = .ok (.iload 7, 2) := by decide +kernel
theorem dX11_correct_137 : decode cX11_correct 137 = .ok (.ireturn, 1) := by decide +kernel
theorem dX11_correct_15 : decode cX11_correct 15 = .ok (.getfield 213, 3) := by decide +kernel
theorem dX11_correct_18 : decode cX11_correct 18 = .ok (.iload_n 1, 1) := by decide +kernel
theorem dX11_correct_19 : decode cX11_correct 19 = .ok (.iaload, 1) := by decide +kernel
theorem dX11_correct_20 : decode cX11_correct 20 = .ok (.iconst (-1), 1) := by decide +kernel
theorem dX11_correct_21 : decode cX11_correct 21 = .ok (.if_icmp .eq 46, 3) := by decide +kernel
theorem dX11_correct_24 : decode cX11_correct 24 = .ok (.iload_n 2, 1) := by decide +kernel
theorem dX11_correct_25 : decode cX11_correct 25 = .ok (.iconst 0, 1) := by decide +kernel
theorem dX11_correct_26 : decode cX11_correct 26 = .ok (.bipush 99, 2) := by decide +kernel
theorem dX11_correct_28 : decode cX11_correct 28 = .ok (.invokestatic 68, 3) := by decide +kernel
theorem dX11_correct_31 : decode cX11_correct 31 = .ok (.ifCond .eq 36, 3) := by decide +kernel
theorem dX11_correct_34 : decode cX11_correct 34 = .ok (.iload_n 3, 1) := by decide +kernel
theorem dX11_correct_35 : decode cX11_correct 35 = .ok (.iconst 0, 1) := by decide +kernel
theorem dX11_correct_36 : decode cX11_correct 36 = .ok (.iconst 1, 1) := by decide +kernel
theorem dX11_correct_37 : decode cX11_correct 37 = .ok (.invokestatic 68, 3) := by decide +kernel
theorem dX11_correct_4 : decode cX11_correct 4 = .ok (.iload_n 1, 1) := by decide +kernel
theorem dX11_correct_40 : decode cX11_correct 40 = .ok (.ifCond .eq 27, 3) := by decide +kernel
theorem dX11_correct_43 : decode cX11_correct 43 = .ok (.iload 4, 2) := by decide +kernel
theorem dX11_correct_45 : decode cX11_correct 45 = .ok (.iconst 0, 1) := by decide +kernel
theorem dX11_correct_46 : decode cX11_correct 46 = .ok (.iconst 1, 1) := by decide +kernel
theorem dX11_correct_47 : decode cX11_correct 47 = .ok (.invokestatic 68, 3) := by decide +kernel
theorem dX11_correct_5 : decode cX11_correct 5 = .ok (.invokevirtual 201, 3) := by decide +kernel
theorem dX11_correct_50 : decode cX11_correct 50 = .ok (.ifCond .eq 17, 3) := by decide +kernel
theorem dX11_correct_53 : decode cX11_correct 53 = .ok (.iload 5, 2) := by decide +kernel
theorem dX11_correct_55 : decode cX11_correct 55 = .ok (.iconst 0, 1) := by decide +kernel
theorem dX11_correct_56 : decode cX11_correct 56 = .ok (.iconst 1, 1) := by decide +kernel
theorem dX11_correct_57 : decode cX11_correct 57 = .ok (.invokestatic 68, 3) := by decide +kernel
theorem dX11_correct_60 : decode cX11_correct 60 = .ok (.ifCond .eq 7, 3) := by decide +kernel
theorem dX11_correct_63 : decode cX11_correct 63 = .ok (.iconst 1, 1) := by decide +kernel
theorem dX11_correct_64 : decode cX11_correct 64 = .ok (.goto 4, 3) := by decide +kernel
theorem dX11_correct_67 : decode cX11_correct 67 = .ok (.iconst 0, 1) := by decide +kernel
theorem dX11_correct_68 : decode cX11_correct 68 = .ok (.istore 6, 2) := by decide +kernel
theorem dX11_correct_70 : decode cX11_correct 70 = .ok (.iload 6, 2) := by decide +kernel
theorem dX11_correct_72 : decode cX11_correct 72 = .ok (.ifCond .eq 15, 3) := by decide +kernel
theorem dX11_correct_75 : decode cX11_correct 75 = .ok (.aload_n 0, 1) := by decide +kernel
theorem dX11_correct_76 : decode cX11_correct 76 = .ok (.getfield 40, 3) := by decide +kernel
theorem dX11_correct_79 : decode cX11_correct 79 = .ok (.getfield 238, 3) := by decide +kernel
theorem dX11_correct_8 : decode cX11_correct 8 = .ok (.ifCond .eq 59, 3) := by decide +kernel
theorem dX11_correct_82 : decode cX11_correct 82 = .ok (.bipush 40, 2) := by decide +kernel
theorem dX11_correct_84 : decode cX11_correct 84 = .ok (.if_icmp .lt 5, 3) := by decide +kernel
theorem dX11_correct_87 : decode cX11_correct 87 = .ok (.iconst (-1), 1) := by decide +kernel
theorem dX11_correct_88 : decode cX11_correct 88 = .ok (.ireturn, 1) := by decide +kernel
theorem dX11_correct_89 : decode cX11_correct 89 = .ok (.aload_n 0, 1) := by decide +kernel
theorem dX11_correct_90 : decode cX11_correct 90 = .ok (.getfield 40, 3) := by decide +kernel
theorem dX11_correct_93 : decode cX11_correct 93 = .ok (.getfield 238, 3) := by decide +kernel
theorem dX11_correct_96 : decode cX11_correct 96 = .ok (.istore 7, 2) := by decide +kernel
theorem dX11_correct_98 : decode cX11_correct 98 = .ok (.aload_n 0, 1) := by decide +kernel
theorem dX11_correct_99 : decode cX11_correct 99 = .ok (.getfield 40, 3) := by decide +kernel
theorem dX11_count_0 : decode cX11_count 0 = .ok (.iload_n 1, 1) := by decide +kernel
theorem dX11_count_1 : decode cX11_count 1 = .ok (.tableswitch 167 0 12 #[67, 75, 83, 91, 99, 107, 115, 124, 133, 141, 149, 154, 159], 67) := by decide +kernel
theorem dX11_count_100 : decode cX11_count 100 = .ok (.aload_n 0, 1) := by decide +kernel
theorem dX11_count_101 : decode cX11_count 101 = .ok (.getfield 40, 3) := by decide +kernel
theorem dX11_count_104 : decode cX11_count 104 = .ok (.getfield 238, 3) := by decide +kernel
theorem dX11_count_107 : decode cX11_count 107 = .ok (.ireturn, 1) := by decide +kernel
theorem dX11_count_108 : decode cX11_count 108 = .ok (.aload_n 0, 1) := by decide +kernel
theorem dX11_count_109 : decode cX11_count 109 = .ok (.getfield 10, 3) := by decide +kernel
theorem dX11_count_112 : decode cX11_count 112 = .ok (.getfield 102, 3) := by decide +kernel
theorem dX11_count_115 : decode cX11_count 115 = .ok (.ireturn, 1) := by decide +kernel
theorem dX11_count_116 : decode cX11_count 116 = .ok (.aload_n 0, 1) := by decide +kernel
theorem dX11_count_117 : decode cX11_count 117 = .ok (.getfield 28, 3) := by decide +kernel
theorem dX11_count_120 : decode cX11_count 120 = .ok (.iconst 1, 1) := by decide +kernel
theorem dX11_count_121 : decode cX11_count 121 = .ok (.invokevirtual 239, 3) := by decide +kernel
theorem dX11_count_124 : decode cX11_count 124 = .ok (.ireturn, 1) := by decide +kernel
theorem dX11_count_125 : decode cX11_count 125 = .ok (.aload_n 0, 1) := by decide +kernel
theorem dX11_count_126 : decode cX11_count 126 = .ok (.getfield 28, 3) := by decide +kernel
theorem dX11_count_129 : decode cX11_count 129 = .ok (.iconst 3, 1) := by decide +kernel
theorem dX11_count_130 : decode cX11_count 130 = .ok (.invokevirtual 239, 3) := by decide +kernel
theorem dX11_count_133 : decode cX11_count 133 = .ok (.ireturn, 1) := by decide +kernel
theorem dX11_count_134 : decode cX11_count 134 = .ok (.aload_n 0, 1) := by decide +kernel
theorem dX11_count_135 : decode cX11_count 135 = .ok (.getfield 28, 3) := by decide +kernel
theorem dX11_count_138 : decode cX11_count 138 = .ok (.invokevirtual 242, 3) := by decide +kernel
theorem dX11_count_141 : decode cX11_count 141 = .ok (.ireturn, 1) := by decide +kernel
theorem dX11_count_142 : decode cX11_count 142 = .ok (.aload_n 0, 1) := by decide +kernel
theorem dX11_count_143 : decode cX11_count 143 = .ok (.getfield 40, 3) := by decide +kernel
theorem dX11_count_146 : decode cX11_count 146 = .ok (.getfield 245, 3) := by decide +kernel
theorem dX11_count_149 : decode cX11_count 149 = .ok (.ireturn, 1) := by decide +kernel
theorem dX11_count_150 : decode cX11_count 150 = .ok (.aload_n 0, 1) := by decide +kernel
theorem dX11_count_151 : decode cX11_count 151 = .ok (.getfield 65, 3) := by decide +kernel
theorem dX11_count_154 : decode cX11_count 154 = .ok (.ireturn, 1) := by decide +kernel
theorem dX11_count_155 : decode cX11_count 155 = .ok (.aload_n 0, 1) := by decide +kernel
theorem dX11_count_156 : decode cX11_count 156 = .ok (.getfield 57, 3) := by decide +kernel
theorem dX11_count_159 : decode cX11_count 159 = .ok (.ireturn, 1) := by decide +kernel
theorem dX11_count_160 : decode cX11_count 160 = .ok (.aload_n 0, 1) := by decide +kernel
theorem dX11_count_161 : decode cX11_count 161 = .ok (.getfield 10, 3) := by decide +kernel
theorem dX11_count_164 : decode cX11_count 164 = .ok (.getfield 72, 3) := by decide +kernel
theorem dX11_count_167 : decode cX11_count 167 = .ok (.ireturn, 1) := by decide +kernel
theorem dX11_count_168 : decode cX11_count 168 = .ok (.iconst (-1), 1) := by decide +kernel
theorem dX11_count_169 : decode cX11_count 169 = .ok (.ireturn, 1) := by decide +kernel
theorem dX11_count_68 : decode cX11_count 68 = .ok (.aload_n 0, 1) := by decide +kernel
theorem dX11_count_69 : decode cX11_count 69 = .ok (.getfield 28, 3) := by decide +kernel
theorem dX11_count_72 : decode cX11_count 72 = .ok (.getfield 99, 3) := by decide +kernel
theorem dX11_count_75 : decode cX11_count 75 = .ok (.ireturn, 1) := by decide +kernel
theorem dX11_count_76 : decode cX11_count 76 = .ok (.aload_n 0, 1) := by decide +kernel
theorem dX11_count_77 : decode cX11_count 77 = .ok (.getfield 10, 3) := by decide +kernel
theorem dX11_count_80 : decode cX11_count 80 = .ok (.getfield 79, 3) := by decide +kernel
theorem dX11_count_83 : decode cX11_count 83 = .ok (.ireturn, 1) := by decide +kernel
theorem dX11_count_84 : decode cX11_count 84 = .ok (.aload_n 0, 1) := by decide +kernel
theorem dX11_count_85 : decode cX11_count 85 = .ok (.getfield 10, 3) := by decide +kernel
theorem dX11_count_88 : decode cX11_count 88 = .ok (.getfield 112, 3) := by decide +kernel
theorem dX11_count_91 : decode cX11_count 91 = .ok (.ireturn, 1) := by decide +kernel
theorem dX11_count_92 : decode cX11_count 92 = .ok (.aload_n 0, 1) := by decide +kernel
theorem dX11_count_93 : decode cX11_count 93 = .ok (.getfield 19, 3) := by decide +kernel
theorem dX11_count_96 : decode cX11_count 96 = .ok (.getfield 156, 3) := by decide +kernel
theorem dX11_count_99 : decode cX11_count 99 = .ok (.ireturn, 1) := by decide +kernel
theorem dX11_earns_0 : decode cX11_earns 0 = .ok (.aload_n 0, 1) := by decide +kernel
theorem dX11_earns_1 : decode cX11_earns 1 = .ok (.getfield 10, 3) := by decide +kernel
theorem dX11_earns_11 : decode cX11_earns 11 = .ok (.iload_n 2, 1) := by decide +kernel
theorem dX11_earns_12 : decode cX11_earns 12 = .ok (.iconst (-1), 1) := by decide +kernel
theorem dX11_earns_13 : decode cX11_earns 13 = .ok (.bipush 9, 2) := by decide +kernel
theorem dX11_earns_15 : decode cX11_earns 15 = .ok (.invokestatic 68, 3) := by decide +kernel
theorem dX11_earns_18 : decode cX11_earns 18 = .ok (.ifCond .ne 14, 3) := by decide +kernel
theorem dX11_earns_21 : decode cX11_earns 21 = .ok (.new 171, 3) := by decide +kernel
theorem dX11_earns_24 : decode cX11_earns 24 = .ok (.dup, 1) := by decide +kernel
theorem dX11_earns_25 : decode cX11_earns 25 = .ok (.ldc_w 278, 3) := by decide +kernel
theorem dX11_earns_28 : decode cX11_earns 28 = .ok (.invokespecial 175, 3) := by decide +kernel
theorem dX11_earns_31 : decode cX11_earns 31 = .ok (.athrow, 1) := by decide +kernel
theorem dX11_earns_32 : decode cX11_earns 32 = .ok (.aload_n 0, 1) := by decide +kernel
theorem dX11_earns_33 : decode cX11_earns 33 = .ok (.getfield 40, 3) := by decide +kernel
theorem dX11_earns_36 : decode cX11_earns 36 = .ok (.iload_n 1, 1) := by decide +kernel
theorem dX11_earns_37 : decode cX11_earns 37 = .ok (.iload_n 2, 1) := by decide +kernel
theorem dX11_earns_38 : decode cX11_earns 38 = .ok (.invokevirtual 280, 3) := by decide +kernel
theorem dX11_earns_4 : decode cX11_earns 4 = .ok (.iload_n 1, 1) := by decide +kernel
theorem dX11_earns_41 : decode cX11_earns 41 = .ok (.ireturn, 1) := by decide +kernel
theorem dX11_earns_5 : decode cX11_earns 5 = .ok (.invokevirtual 95, 3) := by decide +kernel
theorem dX11_earns_8 : decode cX11_earns 8 = .ok (.ifCond .eq 13, 3) := by decide +kernel
theorem dX11_end_0 : decode cX11_end 0 = .ok (.iload_n 1, 1) := by decide +kernel
theorem dX11_end_1 : decode cX11_end 1 = .ok (.ifCond .lt 11, 3) := by decide +kernel
theorem dX11_end_12 : decode cX11_end 12 = .ok (.iconst 0, 1) := by decide +kernel
theorem dX11_end_13 : decode cX11_end 13 = .ok (.ireturn, 1) := by decide +kernel
theorem dX11_end_14 : decode cX11_end 14 = .ok (.aload_n 0, 1) := by decide +kernel
theorem dX11_end_15 : decode cX11_end 15 = .ok (.iload_n 1, 1) := by decide +kernel
theorem dX11_end_16 : decode cX11_end 16 = .ok (.putfield 57, 3) := by decide +kernel
theorem dX11_end_19 : decode cX11_end 19 = .ok (.iconst 1, 1) := by decide +kernel
theorem dX11_end_20 : decode cX11_end 20 = .ok (.ireturn, 1) := by decide +kernel
theorem dX11_end_4 : decode cX11_end 4 = .ok (.iload_n 1, 1) := by decide +kernel
theorem dX11_end_5 : decode cX11_end 5 = .ok (.aload_n 0, 1) := by decide +kernel
theorem dX11_end_6 : decode cX11_end 6 = .ok (.getfield 57, 3) := by decide +kernel
theorem dX11_end_9 : decode cX11_end 9 = .ok (.if_icmp .le 5, 3) := by decide +kernel
theorem dX11_fault_0 : decode cX11_fault 0 = .ok (.aload_n 0, 1) := by decide +kernel
theorem dX11_fault_1 : decode cX11_fault 1 = .ok (.getfield 40, 3) := by decide +kernel
theorem dX11_fault_11 : decode cX11_fault 11 = .ok (.aload_n 0, 1) := by decide +kernel
theorem dX11_fault_12 : decode cX11_fault 12 = .ok (.getfield 40, 3) := by decide +kernel
theorem dX11_fault_15 : decode cX11_fault 15 = .ok (.iload_n 1, 1) := by decide +kernel
theorem dX11_fault_16 : decode cX11_fault 16 = .ok (.invokevirtual 263, 3) := by decide +kernel
theorem dX11_fault_19 : decode cX11_fault 19 = .ok (.ifCond .ne 5, 3) := by decide +kernel
theorem dX11_fault_22 : decode cX11_fault 22 = .ok (.iconst (-1), 1) := by decide +kernel
theorem dX11_fault_23 : decode cX11_fault 23 = .ok (.ireturn, 1) := by decide +kernel
theorem dX11_fault_24 : decode cX11_fault 24 = .ok (.aload_n 0, 1) := by decide +kernel
theorem dX11_fault_25 : decode cX11_fault 25 = .ok (.getfield 40, 3) := by decide +kernel
theorem dX11_fault_28 : decode cX11_fault 28 = .ok (.iload_n 1, 1) := by decide +kernel
theorem dX11_fault_29 : decode cX11_fault 29 = .ok (.invokevirtual 266, 3) := by decide +kernel
theorem dX11_fault_32 : decode cX11_fault 32 = .ok (.ireturn, 1) := by decide +kernel
theorem dX11_fault_4 : decode cX11_fault 4 = .ok (.iload_n 1, 1) := by decide +kernel
theorem dX11_fault_5 : decode cX11_fault 5 = .ok (.invokevirtual 257, 3) := by decide +kernel
theorem dX11_fault_8 : decode cX11_fault 8 = .ok (.ifCond .eq 14, 3) := by decide +kernel
theorem dX11_faults_0 : decode cX11_faults 0 = .ok (.aload_n 0, 1) := by decide +kernel
theorem dX11_faults_1 : decode cX11_faults 1 = .ok (.getfield 10, 3) := by decide +kernel
theorem dX11_faults_11 : decode cX11_faults 11 = .ok (.iload_n 2, 1) := by decide +kernel
theorem dX11_faults_12 : decode cX11_faults 12 = .ok (.iconst 0, 1) := by decide +kernel
theorem dX11_faults_13 : decode cX11_faults 13 = .ok (.iconst 2, 1) := by decide +kernel
theorem dX11_faults_14 : decode cX11_faults 14 = .ok (.invokestatic 68, 3) := by decide +kernel
theorem dX11_faults_17 : decode cX11_faults 17 = .ok (.ifCond .ne 5, 3) := by decide +kernel
theorem dX11_faults_20 : decode cX11_faults 20 = .ok (.iconst (-1), 1) := by decide +kernel
theorem dX11_faults_21 : decode cX11_faults 21 = .ok (.ireturn, 1) := by decide +kernel
theorem dX11_faults_22 : decode cX11_faults 22 = .ok (.aload_n 0, 1) := by decide +kernel
theorem dX11_faults_23 : decode cX11_faults 23 = .ok (.getfield 40, 3) := by decide +kernel
theorem dX11_faults_26 : decode cX11_faults 26 = .ok (.iload_n 1, 1) := by decide +kernel
theorem dX11_faults_27 : decode cX11_faults 27 = .ok (.iload_n 2, 1) := by decide +kernel
theorem dX11_faults_28 : decode cX11_faults 28 = .ok (.invokevirtual 269, 3) := by decide +kernel
theorem dX11_faults_31 : decode cX11_faults 31 = .ok (.ireturn, 1) := by decide +kernel
theorem dX11_faults_4 : decode cX11_faults 4 = .ok (.iload_n 1, 1) := by decide +kernel
theorem dX11_faults_5 : decode cX11_faults 5 = .ok (.invokevirtual 95, 3) := by decide +kernel
theorem dX11_faults_8 : decode cX11_faults 8 = .ok (.ifCond .eq 12, 3) := by decide +kernel
theorem dX11_goes_0 : decode cX11_goes 0 = .ok (.aload_n 0, 1) := by decide +kernel
theorem dX11_goes_1 : decode cX11_goes 1 = .ok (.getfield 10, 3) := by decide +kernel
theorem dX11_goes_11 : decode cX11_goes 11 = .ok (.aload_n 0, 1) := by decide +kernel
theorem dX11_goes_12 : decode cX11_goes 12 = .ok (.getfield 28, 3) := by decide +kernel
theorem dX11_goes_15 : decode cX11_goes 15 = .ok (.getfield 213, 3) := by decide +kernel
theorem dX11_goes_18 : decode cX11_goes 18 = .ok (.iload_n 1, 1) := by decide +kernel
theorem dX11_goes_19 : decode cX11_goes 19 = .ok (.iaload, 1) := by decide +kernel
theorem dX11_goes_20 : decode cX11_goes 20 = .ok (.iconst (-1), 1) := by decide +kernel
theorem dX11_goes_21 : decode cX11_goes 21 = .ok (.if_icmp .ne 5, 3) := by decide +kernel
theorem dX11_goes_24 : decode cX11_goes 24 = .ok (.iconst (-1), 1) := by decide +kernel
theorem dX11_goes_25 : decode cX11_goes 25 = .ok (.ireturn, 1) := by decide +kernel
theorem dX11_goes_26 : decode cX11_goes 26 = .ok (.aload_n 0, 1) := by decide +kernel
theorem dX11_goes_27 : decode cX11_goes 27 = .ok (.getfield 10, 3) := by decide +kernel
theorem dX11_goes_30 : decode cX11_goes 30 = .ok (.aload_n 0, 1) := by decide +kernel
theorem dX11_goes_31 : decode cX11_goes 31 = .ok (.getfield 28, 3) := by decide +kernel
theorem dX11_goes_34 : decode cX11_goes 34 = .ok (.getfield 213, 3) := by decide +kernel
theorem dX11_goes_37 : decode cX11_goes 37 = .ok (.iload_n 1, 1) := by decide +kernel
theorem dX11_goes_38 : decode cX11_goes 38 = .ok (.iaload, 1) := by decide +kernel
theorem dX11_goes_39 : decode cX11_goes 39 = .ok (.invokevirtual 235, 3) := by decide +kernel
theorem dX11_goes_4 : decode cX11_goes 4 = .ok (.iload_n 1, 1) := by decide +kernel
theorem dX11_goes_42 : decode cX11_goes 42 = .ok (.ireturn, 1) := by decide +kernel
theorem dX11_goes_5 : decode cX11_goes 5 = .ok (.invokevirtual 201, 3) := by decide +kernel
theorem dX11_goes_8 : decode cX11_goes 8 = .ok (.ifCond .eq 16, 3) := by decide +kernel
theorem dX11_ill_0 : decode cX11_ill 0 = .ok (.aload_n 0, 1) := by decide +kernel
theorem dX11_ill_1 : decode cX11_ill 1 = .ok (.getfield 10, 3) := by decide +kernel
theorem dX11_ill_11 : decode cX11_ill 11 = .ok (.aload_n 0, 1) := by decide +kernel
theorem dX11_ill_12 : decode cX11_ill 12 = .ok (.iload_n 2, 1) := by decide +kernel
theorem dX11_ill_13 : decode cX11_ill 13 = .ok (.iconst 1, 1) := by decide +kernel
theorem dX11_ill_14 : decode cX11_ill 14 = .ok (.invokevirtual 163, 3) := by decide +kernel
theorem dX11_ill_17 : decode cX11_ill 17 = .ok (.ifCond .ne 14, 3) := by decide +kernel
theorem dX11_ill_20 : decode cX11_ill 20 = .ok (.new 171, 3) := by decide +kernel
theorem dX11_ill_23 : decode cX11_ill 23 = .ok (.dup, 1) := by decide +kernel
theorem dX11_ill_24 : decode cX11_ill 24 = .ok (.ldc_w 338, 3) := by decide +kernel
theorem dX11_ill_27 : decode cX11_ill 27 = .ok (.invokespecial 175, 3) := by decide +kernel
theorem dX11_ill_30 : decode cX11_ill 30 = .ok (.athrow, 1) := by decide +kernel
theorem dX11_ill_31 : decode cX11_ill 31 = .ok (.aload_n 0, 1) := by decide +kernel
theorem dX11_ill_32 : decode cX11_ill 32 = .ok (.getfield 32, 3) := by decide +kernel
theorem dX11_ill_35 : decode cX11_ill 35 = .ok (.aload_n 0, 1) := by decide +kernel
theorem dX11_ill_36 : decode cX11_ill 36 = .ok (.getfield 28, 3) := by decide +kernel
theorem dX11_ill_39 : decode cX11_ill 39 = .ok (.invokevirtual 330, 3) := by decide +kernel
theorem dX11_ill_4 : decode cX11_ill 4 = .ok (.iload_n 1, 1) := by decide +kernel
theorem dX11_ill_42 : decode cX11_ill 42 = .ok (.aload_n 0, 1) := by decide +kernel
theorem dX11_ill_43 : decode cX11_ill 43 = .ok (.getfield 32, 3) := by decide +kernel
theorem dX11_ill_46 : decode cX11_ill 46 = .ok (.iload_n 2, 1) := by decide +kernel
theorem dX11_ill_47 : decode cX11_ill 47 = .ok (.aconst_null, 1) := by decide +kernel
theorem dX11_ill_48 : decode cX11_ill 48 = .ok (.iconst (-1), 1) := by decide +kernel
theorem dX11_ill_49 : decode cX11_ill 49 = .ok (.invokevirtual 167, 3) := by decide +kernel
theorem dX11_ill_5 : decode cX11_ill 5 = .ok (.invokevirtual 95, 3) := by decide +kernel
theorem dX11_ill_52 : decode cX11_ill 52 = .ok (.aload_n 0, 1) := by decide +kernel
theorem dX11_ill_53 : decode cX11_ill 53 = .ok (.getfield 32, 3) := by decide +kernel
theorem dX11_ill_56 : decode cX11_ill 56 = .ok (.invokevirtual 242, 3) := by decide +kernel
theorem dX11_ill_59 : decode cX11_ill 59 = .ok (.istore_n 3, 1) := by decide +kernel
theorem dX11_ill_60 : decode cX11_ill 60 = .ok (.aload_n 0, 1) := by decide +kernel
theorem dX11_ill_61 : decode cX11_ill 61 = .ok (.getfield 32, 3) := by decide +kernel
theorem dX11_ill_64 : decode cX11_ill 64 = .ok (.aload_n 0, 1) := by decide +kernel
theorem dX11_ill_65 : decode cX11_ill 65 = .ok (.getfield 28, 3) := by decide +kernel
theorem dX11_ill_68 : decode cX11_ill 68 = .ok (.invokevirtual 330, 3) := by decide +kernel
theorem dX11_ill_71 : decode cX11_ill 71 = .ok (.aload_n 0, 1) := by decide +kernel
theorem dX11_ill_72 : decode cX11_ill 72 = .ok (.getfield 32, 3) := by decide +kernel
theorem dX11_ill_75 : decode cX11_ill 75 = .ok (.iload_n 2, 1) := by decide +kernel
theorem dX11_ill_76 : decode cX11_ill 76 = .ok (.aconst_null, 1) := by decide +kernel
theorem dX11_ill_77 : decode cX11_ill 77 = .ok (.iload_n 1, 1) := by decide +kernel
theorem dX11_ill_78 : decode cX11_ill 78 = .ok (.invokevirtual 167, 3) := by decide +kernel
theorem dX11_ill_8 : decode cX11_ill 8 = .ok (.ifCond .eq 12, 3) := by decide +kernel
theorem dX11_ill_81 : decode cX11_ill 81 = .ok (.aload_n 0, 1) := by decide +kernel
theorem dX11_ill_82 : decode cX11_ill 82 = .ok (.getfield 32, 3) := by decide +kernel
theorem dX11_ill_85 : decode cX11_ill 85 = .ok (.invokevirtual 242, 3) := by decide +kernel
theorem dX11_ill_88 : decode cX11_ill 88 = .ok (.iload_n 3, 1) := by decide +kernel
theorem dX11_ill_89 : decode cX11_ill 89 = .ok (.isub, 1) := by decide +kernel
theorem dX11_ill_90 : decode cX11_ill 90 = .ok (.ireturn, 1) := by decide +kernel
theorem dX11_lateness_0 : decode cX11_lateness 0 = .ok (.aload_n 0, 1) := by decide +kernel
theorem dX11_lateness_1 : decode cX11_lateness 1 = .ok (.getfield 49, 3) := by decide +kernel
theorem dX11_lateness_10 : decode cX11_lateness 10 = .ok (.iload_n 3, 1) := by decide +kernel
theorem dX11_lateness_11 : decode cX11_lateness 11 = .ok (.ifCond .ge 7, 3) := by decide +kernel
theorem dX11_lateness_14 : decode cX11_lateness 14 = .ok (.iload_n 3, 1) := by decide +kernel
theorem dX11_lateness_15 : decode cX11_lateness 15 = .ok (.goto 10, 3) := by decide +kernel
theorem dX11_lateness_18 : decode cX11_lateness 18 = .ok (.aload_n 0, 1) := by decide +kernel
theorem dX11_lateness_19 : decode cX11_lateness 19 = .ok (.getfield 49, 3) := by decide +kernel
theorem dX11_lateness_22 : decode cX11_lateness 22 = .ok (.getfield 324, 3) := by decide +kernel
theorem dX11_lateness_25 : decode cX11_lateness 25 = .ok (.ireturn, 1) := by decide +kernel
theorem dX11_lateness_4 : decode cX11_lateness 4 = .ok (.iload_n 1, 1) := by decide +kernel
theorem dX11_lateness_5 : decode cX11_lateness 5 = .ok (.iload_n 2, 1) := by decide +kernel
theorem dX11_lateness_6 : decode cX11_lateness 6 = .ok (.invokevirtual 306, 3) := by decide +kernel
theorem dX11_lateness_9 : decode cX11_lateness 9 = .ok (.istore_n 3, 1) := by decide +kernel
theorem dX11_may_0 : decode cX11_may 0 = .ok (.aload_n 0, 1) := by decide +kernel
theorem dX11_may_1 : decode cX11_may 1 = .ok (.getfield 10, 3) := by decide +kernel
theorem dX11_may_11 : decode cX11_may 11 = .ok (.aload_n 0, 1) := by decide +kernel
theorem dX11_may_12 : decode cX11_may 12 = .ok (.getfield 10, 3) := by decide +kernel
theorem dX11_may_15 : decode cX11_may 15 = .ok (.iload_n 2, 1) := by decide +kernel
theorem dX11_may_16 : decode cX11_may 16 = .ok (.invokevirtual 201, 3) := by decide +kernel
theorem dX11_may_19 : decode cX11_may 19 = .ok (.ifCond .ne 5, 3) := by decide +kernel
theorem dX11_may_22 : decode cX11_may 22 = .ok (.iconst (-1), 1) := by decide +kernel
theorem dX11_may_23 : decode cX11_may 23 = .ok (.ireturn, 1) := by decide +kernel
theorem dX11_may_24 : decode cX11_may 24 = .ok (.aload_n 0, 1) := by decide +kernel
theorem dX11_may_25 : decode cX11_may 25 = .ok (.getfield 28, 3) := by decide +kernel
theorem dX11_may_28 : decode cX11_may 28 = .ok (.iload_n 1, 1) := by decide +kernel
theorem dX11_may_29 : decode cX11_may 29 = .ok (.iload_n 2, 1) := by decide +kernel
theorem dX11_may_30 : decode cX11_may 30 = .ok (.aconst_null, 1) := by decide +kernel
theorem dX11_may_31 : decode cX11_may 31 = .ok (.invokevirtual 225, 3) := by decide +kernel
theorem dX11_may_34 : decode cX11_may 34 = .ok (.ifCond .eq 7, 3) := by decide +kernel
theorem dX11_may_37 : decode cX11_may 37 = .ok (.iconst 1, 1) := by decide +kernel
theorem dX11_may_38 : decode cX11_may 38 = .ok (.goto 4, 3) := by decide +kernel
theorem dX11_may_4 : decode cX11_may 4 = .ok (.iload_n 1, 1) := by decide +kernel
theorem dX11_may_41 : decode cX11_may 41 = .ok (.iconst 0, 1) := by decide +kernel
theorem dX11_may_42 : decode cX11_may 42 = .ok (.ireturn, 1) := by decide +kernel
theorem dX11_may_5 : decode cX11_may 5 = .ok (.invokevirtual 95, 3) := by decide +kernel
theorem dX11_may_8 : decode cX11_may 8 = .ok (.ifCond .eq 14, 3) := by decide +kernel
theorem dX11_of_0 : decode cX11_of 0 = .ok (.aload_n 0, 1) := by decide +kernel
theorem dX11_of_1 : decode cX11_of 1 = .ok (.getfield 10, 3) := by decide +kernel
theorem dX11_of_102 : decode cX11_of 102 = .ok (.ireturn, 1) := by decide +kernel
theorem dX11_of_103 : decode cX11_of 103 = .ok (.aload_n 0, 1) := by decide +kernel
theorem dX11_of_104 : decode cX11_of 104 = .ok (.getfield 28, 3) := by decide +kernel
theorem dX11_of_107 : decode cX11_of 107 = .ok (.iload_n 1, 1) := by decide +kernel
theorem dX11_of_108 : decode cX11_of 108 = .ok (.invokevirtual 190, 3) := by decide +kernel
theorem dX11_of_11 : decode cX11_of 11 = .ok (.new 171, 3) := by decide +kernel
theorem dX11_of_111 : decode cX11_of 111 = .ok (.ireturn, 1) := by decide +kernel
theorem dX11_of_112 : decode cX11_of 112 = .ok (.aload_n 0, 1) := by decide +kernel
theorem dX11_of_113 : decode cX11_of 113 = .ok (.getfield 10, 3) := by decide +kernel
theorem dX11_of_116 : decode cX11_of 116 = .ok (.aload_n 0, 1) := by decide +kernel
theorem dX11_of_117 : decode cX11_of 117 = .ok (.getfield 28, 3) := by decide +kernel
theorem dX11_of_120 : decode cX11_of 120 = .ok (.getfield 99, 3) := by decide +kernel
theorem dX11_of_123 : decode cX11_of 123 = .ok (.invokevirtual 193, 3) := by decide +kernel
theorem dX11_of_126 : decode cX11_of 126 = .ok (.iload_n 1, 1) := by decide +kernel
theorem dX11_of_127 : decode cX11_of 127 = .ok (.ishr, 1) := by decide +kernel
theorem dX11_of_128 : decode cX11_of 128 = .ok (.iconst 1, 1) := by decide +kernel
theorem dX11_of_129 : decode cX11_of 129 = .ok (.iand, 1) := by decide +kernel
theorem dX11_of_130 : decode cX11_of 130 = .ok (.ireturn, 1) := by decide +kernel
theorem dX11_of_131 : decode cX11_of 131 = .ok (.aload_n 0, 1) := by decide +kernel
theorem dX11_of_132 : decode cX11_of 132 = .ok (.getfield 28, 3) := by decide +kernel
theorem dX11_of_135 : decode cX11_of 135 = .ok (.getfield 196, 3) := by decide +kernel
theorem dX11_of_138 : decode cX11_of 138 = .ok (.iload_n 1, 1) := by decide +kernel
theorem dX11_of_139 : decode cX11_of 139 = .ok (.iaload, 1) := by decide +kernel
theorem dX11_of_14 : decode cX11_of 14 = .ok (.dup, 1) := by decide +kernel
theorem dX11_of_140 : decode cX11_of 140 = .ok (.ireturn, 1) := by decide +kernel
theorem dX11_of_141 : decode cX11_of 141 = .ok (.new 171, 3) := by decide +kernel
theorem dX11_of_144 : decode cX11_of 144 = .ok (.dup, 1) := by decide +kernel
theorem dX11_of_145 : decode cX11_of 145 = .ok (.ldc 199, 2) := by decide +kernel
theorem dX11_of_147 : decode cX11_of 147 = .ok (.invokespecial 175, 3) := by decide +kernel
theorem dX11_of_15 : decode cX11_of 15 = .ok (.ldc 173, 2) := by decide +kernel
theorem dX11_of_150 : decode cX11_of 150 = .ok (.athrow, 1) := by decide +kernel
theorem dX11_of_17 : decode cX11_of 17 = .ok (.invokespecial 175, 3) := by decide +kernel
theorem dX11_of_20 : decode cX11_of 20 = .ok (.athrow, 1) := by decide +kernel
theorem dX11_of_21 : decode cX11_of 21 = .ok (.iload_n 2, 1) := by decide +kernel
theorem dX11_of_22 : decode cX11_of 22 = .ok (.tableswitch 119 0 6 #[42, 52, 62, 72, 81, 90, 109], 42) := by decide +kernel
theorem dX11_of_4 : decode cX11_of 4 = .ok (.iload_n 1, 1) := by decide +kernel
theorem dX11_of_5 : decode cX11_of 5 = .ok (.invokevirtual 95, 3) := by decide +kernel
theorem dX11_of_64 : decode cX11_of 64 = .ok (.aload_n 0, 1) := by decide +kernel
theorem dX11_of_65 : decode cX11_of 65 = .ok (.getfield 28, 3) := by decide +kernel
theorem dX11_of_68 : decode cX11_of 68 = .ok (.getfield 178, 3) := by decide +kernel
theorem dX11_of_71 : decode cX11_of 71 = .ok (.iload_n 1, 1) := by decide +kernel
theorem dX11_of_72 : decode cX11_of 72 = .ok (.iaload, 1) := by decide +kernel
theorem dX11_of_73 : decode cX11_of 73 = .ok (.ireturn, 1) := by decide +kernel
theorem dX11_of_74 : decode cX11_of 74 = .ok (.aload_n 0, 1) := by decide +kernel
theorem dX11_of_75 : decode cX11_of 75 = .ok (.getfield 28, 3) := by decide +kernel
theorem dX11_of_78 : decode cX11_of 78 = .ok (.getfield 181, 3) := by decide +kernel
theorem dX11_of_8 : decode cX11_of 8 = .ok (.ifCond .ne 13, 3) := by decide +kernel
theorem dX11_of_81 : decode cX11_of 81 = .ok (.iload_n 1, 1) := by decide +kernel
theorem dX11_of_82 : decode cX11_of 82 = .ok (.iaload, 1) := by decide +kernel
theorem dX11_of_83 : decode cX11_of 83 = .ok (.ireturn, 1) := by decide +kernel
theorem dX11_of_84 : decode cX11_of 84 = .ok (.aload_n 0, 1) := by decide +kernel
theorem dX11_of_85 : decode cX11_of 85 = .ok (.getfield 28, 3) := by decide +kernel
theorem dX11_of_88 : decode cX11_of 88 = .ok (.getfield 183, 3) := by decide +kernel
theorem dX11_of_91 : decode cX11_of 91 = .ok (.iload_n 1, 1) := by decide +kernel
theorem dX11_of_92 : decode cX11_of 92 = .ok (.iaload, 1) := by decide +kernel
theorem dX11_of_93 : decode cX11_of 93 = .ok (.ireturn, 1) := by decide +kernel
theorem dX11_of_94 : decode cX11_of 94 = .ok (.aload_n 0, 1) := by decide +kernel
theorem dX11_of_95 : decode cX11_of 95 = .ok (.getfield 28, 3) := by decide +kernel
theorem dX11_of_98 : decode cX11_of 98 = .ok (.iload_n 1, 1) := by decide +kernel
theorem dX11_of_99 : decode cX11_of 99 = .ok (.invokevirtual 186, 3) := by decide +kernel
theorem dX11_order_0 : decode cX11_order 0 = .ok (.aload_n 0, 1) := by decide +kernel
theorem dX11_order_1 : decode cX11_order 1 = .ok (.getfield 10, 3) := by decide +kernel
theorem dX11_order_11 : decode cX11_order 11 = .ok (.aload_n 0, 1) := by decide +kernel
theorem dX11_order_12 : decode cX11_order 12 = .ok (.getfield 10, 3) := by decide +kernel
theorem dX11_order_15 : decode cX11_order 15 = .ok (.iload_n 2, 1) := by decide +kernel
theorem dX11_order_16 : decode cX11_order 16 = .ok (.invokevirtual 201, 3) := by decide +kernel
theorem dX11_order_19 : decode cX11_order 19 = .ok (.ifCond .ne 13, 3) := by decide +kernel
theorem dX11_order_22 : decode cX11_order 22 = .ok (.new 171, 3) := by decide +kernel
theorem dX11_order_25 : decode cX11_order 25 = .ok (.dup, 1) := by decide +kernel
theorem dX11_order_26 : decode cX11_order 26 = .ok (.ldc 229, 2) := by decide +kernel
theorem dX11_order_28 : decode cX11_order 28 = .ok (.invokespecial 175, 3) := by decide +kernel
theorem dX11_order_31 : decode cX11_order 31 = .ok (.athrow, 1) := by decide +kernel
theorem dX11_order_32 : decode cX11_order 32 = .ok (.aload_n 0, 1) := by decide +kernel
theorem dX11_order_33 : decode cX11_order 33 = .ok (.getfield 28, 3) := by decide +kernel
theorem dX11_order_36 : decode cX11_order 36 = .ok (.iload_n 1, 1) := by decide +kernel
theorem dX11_order_37 : decode cX11_order 37 = .ok (.iload_n 2, 1) := by decide +kernel
theorem dX11_order_38 : decode cX11_order 38 = .ok (.aconst_null, 1) := by decide +kernel
theorem dX11_order_39 : decode cX11_order 39 = .ok (.invokevirtual 231, 3) := by decide +kernel
theorem dX11_order_4 : decode cX11_order 4 = .ok (.iload_n 1, 1) := by decide +kernel
theorem dX11_order_42 : decode cX11_order 42 = .ok (.ireturn, 1) := by decide +kernel
theorem dX11_order_5 : decode cX11_order 5 = .ok (.invokevirtual 95, 3) := by decide +kernel
theorem dX11_order_8 : decode cX11_order 8 = .ok (.ifCond .eq 14, 3) := by decide +kernel
theorem dX11_pay_0 : decode cX11_pay 0 = .ok (.aload_n 0, 1) := by decide +kernel
theorem dX11_pay_1 : decode cX11_pay 1 = .ok (.getfield 10, 3) := by decide +kernel
theorem dX11_pay_11 : decode cX11_pay 11 = .ok (.new 171, 3) := by decide +kernel
theorem dX11_pay_14 : decode cX11_pay 14 = .ok (.dup, 1) := by decide +kernel
theorem dX11_pay_15 : decode cX11_pay 15 = .ok (.ldc_w 273, 3) := by decide +kernel
theorem dX11_pay_18 : decode cX11_pay 18 = .ok (.invokespecial 175, 3) := by decide +kernel
theorem dX11_pay_21 : decode cX11_pay 21 = .ok (.athrow, 1) := by decide +kernel
theorem dX11_pay_22 : decode cX11_pay 22 = .ok (.aload_n 0, 1) := by decide +kernel
theorem dX11_pay_23 : decode cX11_pay 23 = .ok (.getfield 40, 3) := by decide +kernel
theorem dX11_pay_26 : decode cX11_pay 26 = .ok (.iload_n 1, 1) := by decide +kernel
theorem dX11_pay_27 : decode cX11_pay 27 = .ok (.invokevirtual 275, 3) := by decide +kernel
theorem dX11_pay_30 : decode cX11_pay 30 = .ok (.ireturn, 1) := by decide +kernel
theorem dX11_pay_4 : decode cX11_pay 4 = .ok (.iload_n 1, 1) := by decide +kernel
theorem dX11_pay_5 : decode cX11_pay 5 = .ok (.invokevirtual 201, 3) := by decide +kernel
theorem dX11_pay_8 : decode cX11_pay 8 = .ok (.ifCond .ne 14, 3) := by decide +kernel
theorem dX11_plan_0 : decode cX11_plan 0 = .ok (.aload_n 0, 1) := by decide +kernel
theorem dX11_plan_1 : decode cX11_plan 1 = .ok (.getfield 49, 3) := by decide +kernel
theorem dX11_plan_10 : decode cX11_plan 10 = .ok (.iload_n 3, 1) := by decide +kernel
theorem dX11_plan_11 : decode cX11_plan 11 = .ok (.ifCond .ge 5, 3) := by decide +kernel
theorem dX11_plan_14 : decode cX11_plan 14 = .ok (.iload_n 3, 1) := by decide +kernel
theorem dX11_plan_15 : decode cX11_plan 15 = .ok (.ireturn, 1) := by decide +kernel
theorem dX11_plan_16 : decode cX11_plan 16 = .ok (.aload_n 0, 1) := by decide +kernel
theorem dX11_plan_17 : decode cX11_plan 17 = .ok (.aload_n 0, 1) := by decide +kernel
theorem dX11_plan_18 : decode cX11_plan 18 = .ok (.getfield 49, 3) := by decide +kernel
theorem dX11_plan_21 : decode cX11_plan 21 = .ok (.getfield 309, 3) := by decide +kernel
theorem dX11_plan_24 : decode cX11_plan 24 = .ok (.putfield 65, 3) := by decide +kernel
theorem dX11_plan_27 : decode cX11_plan 27 = .ok (.aload_n 0, 1) := by decide +kernel
theorem dX11_plan_28 : decode cX11_plan 28 = .ok (.getfield 49, 3) := by decide +kernel
theorem dX11_plan_31 : decode cX11_plan 31 = .ok (.getfield 312, 3) := by decide +kernel
theorem dX11_plan_34 : decode cX11_plan 34 = .ok (.iconst 0, 1) := by decide +kernel
theorem dX11_plan_35 : decode cX11_plan 35 = .ok (.aload_n 0, 1) := by decide +kernel
theorem dX11_plan_36 : decode cX11_plan 36 = .ok (.getfield 61, 3) := by decide +kernel
theorem dX11_plan_39 : decode cX11_plan 39 = .ok (.iconst 0, 1) := by decide +kernel
theorem dX11_plan_4 : decode cX11_plan 4 = .ok (.iload_n 1, 1) := by decide +kernel
theorem dX11_plan_40 : decode cX11_plan 40 = .ok (.aload_n 0, 1) := by decide +kernel
theorem dX11_plan_41 : decode cX11_plan 41 = .ok (.getfield 65, 3) := by decide +kernel
theorem dX11_plan_44 : decode cX11_plan 44 = .ok (.invokestatic 315, 3) := by decide +kernel
theorem dX11_plan_47 : decode cX11_plan 47 = .ok (.aload_n 0, 1) := by decide +kernel
theorem dX11_plan_48 : decode cX11_plan 48 = .ok (.getfield 49, 3) := by decide +kernel
theorem dX11_plan_5 : decode cX11_plan 5 = .ok (.iload_n 2, 1) := by decide +kernel
theorem dX11_plan_51 : decode cX11_plan 51 = .ok (.getfield 321, 3) := by decide +kernel
theorem dX11_plan_54 : decode cX11_plan 54 = .ok (.ireturn, 1) := by decide +kernel
theorem dX11_plan_6 : decode cX11_plan 6 = .ok (.invokevirtual 306, 3) := by decide +kernel
theorem dX11_plan_9 : decode cX11_plan 9 = .ok (.istore_n 3, 1) := by decide +kernel
theorem dX11_post_0 : decode cX11_post 0 = .ok (.iload_n 1, 1) := by decide +kernel
theorem dX11_post_1 : decode cX11_post 1 = .ok (.iconst 0, 1) := by decide +kernel
theorem dX11_post_11 : decode cX11_post 11 = .ok (.aload_n 0, 1) := by decide +kernel
theorem dX11_post_12 : decode cX11_post 12 = .ok (.getfield 10, 3) := by decide +kernel
theorem dX11_post_15 : decode cX11_post 15 = .ok (.getfield 72, 3) := by decide +kernel
theorem dX11_post_18 : decode cX11_post 18 = .ok (.iconst 4, 1) := by decide +kernel
theorem dX11_post_19 : decode cX11_post 19 = .ok (.if_icmp .lt 5, 3) := by decide +kernel
theorem dX11_post_2 : decode cX11_post 2 = .ok (.sipush 479, 3) := by decide +kernel
theorem dX11_post_22 : decode cX11_post 22 = .ok (.iconst (-1), 1) := by decide +kernel
theorem dX11_post_23 : decode cX11_post 23 = .ok (.ireturn, 1) := by decide +kernel
theorem dX11_post_24 : decode cX11_post 24 = .ok (.aload_n 0, 1) := by decide +kernel
theorem dX11_post_25 : decode cX11_post 25 = .ok (.getfield 10, 3) := by decide +kernel
theorem dX11_post_28 : decode cX11_post 28 = .ok (.getfield 75, 3) := by decide +kernel
theorem dX11_post_31 : decode cX11_post 31 = .ok (.aload_n 0, 1) := by decide +kernel
theorem dX11_post_32 : decode cX11_post 32 = .ok (.getfield 10, 3) := by decide +kernel
theorem dX11_post_35 : decode cX11_post 35 = .ok (.getfield 72, 3) := by decide +kernel
theorem dX11_post_38 : decode cX11_post 38 = .ok (.iload_n 1, 1) := by decide +kernel
theorem dX11_post_39 : decode cX11_post 39 = .ok (.iastore, 1) := by decide +kernel
theorem dX11_post_40 : decode cX11_post 40 = .ok (.aload_n 0, 1) := by decide +kernel
theorem dX11_post_41 : decode cX11_post 41 = .ok (.getfield 10, 3) := by decide +kernel
theorem dX11_post_44 : decode cX11_post 44 = .ok (.dup, 1) := by decide +kernel
theorem dX11_post_45 : decode cX11_post 45 = .ok (.getfield 72, 3) := by decide +kernel
theorem dX11_post_48 : decode cX11_post 48 = .ok (.iconst 1, 1) := by decide +kernel
theorem dX11_post_49 : decode cX11_post 49 = .ok (.iadd, 1) := by decide +kernel
theorem dX11_post_5 : decode cX11_post 5 = .ok (.invokestatic 68, 3) := by decide +kernel
theorem dX11_post_50 : decode cX11_post 50 = .ok (.putfield 72, 3) := by decide +kernel
theorem dX11_post_53 : decode cX11_post 53 = .ok (.aload_n 0, 1) := by decide +kernel
theorem dX11_post_54 : decode cX11_post 54 = .ok (.getfield 10, 3) := by decide +kernel
theorem dX11_post_57 : decode cX11_post 57 = .ok (.getfield 72, 3) := by decide +kernel
theorem dX11_post_60 : decode cX11_post 60 = .ok (.ireturn, 1) := by decide +kernel
theorem dX11_post_8 : decode cX11_post 8 = .ok (.ifCond .eq 14, 3) := by decide +kernel
theorem dX11_quick_0 : decode cX11_quick 0 = .ok (.aload_n 0, 1) := by decide +kernel
theorem dX11_quick_1 : decode cX11_quick 1 = .ok (.getfield 10, 3) := by decide +kernel
theorem dX11_quick_11 : decode cX11_quick 11 = .ok (.aload_n 0, 1) := by decide +kernel
theorem dX11_quick_12 : decode cX11_quick 12 = .ok (.getfield 28, 3) := by decide +kernel
theorem dX11_quick_15 : decode cX11_quick 15 = .ok (.getfield 183, 3) := by decide +kernel
theorem dX11_quick_18 : decode cX11_quick 18 = .ok (.iload_n 1, 1) := by decide +kernel
theorem dX11_quick_19 : decode cX11_quick 19 = .ok (.iaload, 1) := by decide +kernel
theorem dX11_quick_20 : decode cX11_quick 20 = .ok (.iconst 1, 1) := by decide +kernel
theorem dX11_quick_21 : decode cX11_quick 21 = .ok (.if_icmp .ge 5, 3) := by decide +kernel
theorem dX11_quick_24 : decode cX11_quick 24 = .ok (.iconst (-1), 1) := by decide +kernel
theorem dX11_quick_25 : decode cX11_quick 25 = .ok (.ireturn, 1) := by decide +kernel
theorem dX11_quick_26 : decode cX11_quick 26 = .ok (.iload_n 2, 1) := by decide +kernel
theorem dX11_quick_27 : decode cX11_quick 27 = .ok (.lookupswitch 70 #[(0, 25), (1, 47)], 25) := by decide +kernel
theorem dX11_quick_4 : decode cX11_quick 4 = .ok (.iload_n 1, 1) := by decide +kernel
theorem dX11_quick_5 : decode cX11_quick 5 = .ok (.invokevirtual 95, 3) := by decide +kernel
theorem dX11_quick_52 : decode cX11_quick 52 = .ok (.aload_n 0, 1) := by decide +kernel
theorem dX11_quick_53 : decode cX11_quick 53 = .ok (.getfield 28, 3) := by decide +kernel
theorem dX11_quick_56 : decode cX11_quick 56 = .ok (.iload_n 1, 1) := by decide +kernel
theorem dX11_quick_57 : decode cX11_quick 57 = .ok (.invokevirtual 186, 3) := by decide +kernel
theorem dX11_quick_60 : decode cX11_quick 60 = .ok (.bipush 60, 2) := by decide +kernel
theorem dX11_quick_62 : decode cX11_quick 62 = .ok (.imul, 1) := by decide +kernel
theorem dX11_quick_63 : decode cX11_quick 63 = .ok (.aload_n 0, 1) := by decide +kernel
theorem dX11_quick_64 : decode cX11_quick 64 = .ok (.getfield 28, 3) := by decide +kernel
theorem dX11_quick_67 : decode cX11_quick 67 = .ok (.getfield 183, 3) := by decide +kernel
theorem dX11_quick_70 : decode cX11_quick 70 = .ok (.iload_n 1, 1) := by decide +kernel
theorem dX11_quick_71 : decode cX11_quick 71 = .ok (.iaload, 1) := by decide +kernel
theorem dX11_quick_72 : decode cX11_quick 72 = .ok (.idiv, 1) := by decide +kernel
theorem dX11_quick_73 : decode cX11_quick 73 = .ok (.ireturn, 1) := by decide +kernel
theorem dX11_quick_74 : decode cX11_quick 74 = .ok (.aload_n 0, 1) := by decide +kernel
theorem dX11_quick_75 : decode cX11_quick 75 = .ok (.getfield 28, 3) := by decide +kernel
theorem dX11_quick_78 : decode cX11_quick 78 = .ok (.iload_n 1, 1) := by decide +kernel
theorem dX11_quick_79 : decode cX11_quick 79 = .ok (.invokevirtual 297, 3) := by decide +kernel
theorem dX11_quick_8 : decode cX11_quick 8 = .ok (.ifCond .eq 16, 3) := by decide +kernel
theorem dX11_quick_82 : decode cX11_quick 82 = .ok (.sipush 1000, 3) := by decide +kernel
theorem dX11_quick_85 : decode cX11_quick 85 = .ok (.imul, 1) := by decide +kernel
theorem dX11_quick_86 : decode cX11_quick 86 = .ok (.aload_n 0, 1) := by decide +kernel
theorem dX11_quick_87 : decode cX11_quick 87 = .ok (.getfield 28, 3) := by decide +kernel
theorem dX11_quick_90 : decode cX11_quick 90 = .ok (.getfield 183, 3) := by decide +kernel
theorem dX11_quick_93 : decode cX11_quick 93 = .ok (.iload_n 1, 1) := by decide +kernel
theorem dX11_quick_94 : decode cX11_quick 94 = .ok (.iaload, 1) := by decide +kernel
theorem dX11_quick_95 : decode cX11_quick 95 = .ok (.idiv, 1) := by decide +kernel
theorem dX11_quick_96 : decode cX11_quick 96 = .ok (.ireturn, 1) := by decide +kernel
theorem dX11_quick_97 : decode cX11_quick 97 = .ok (.iconst (-1), 1) := by decide +kernel
theorem dX11_quick_98 : decode cX11_quick 98 = .ok (.ireturn, 1) := by decide +kernel
theorem dX11_row_0 : decode cX11_row 0 = .ok (.iload_n 1, 1) := by decide +kernel
theorem dX11_row_1 : decode cX11_row 1 = .ok (.ifCond .lt 11, 3) := by decide +kernel
theorem dX11_row_12 : decode cX11_row 12 = .ok (.new 171, 3) := by decide +kernel
theorem dX11_row_15 : decode cX11_row 15 = .ok (.dup, 1) := by decide +kernel
theorem dX11_row_16 : decode cX11_row 16 = .ok (.ldc_w 340, 3) := by decide +kernel
theorem dX11_row_19 : decode cX11_row 19 = .ok (.invokespecial 175, 3) := by decide +kernel
theorem dX11_row_22 : decode cX11_row 22 = .ok (.athrow, 1) := by decide +kernel
theorem dX11_row_23 : decode cX11_row 23 = .ok (.aload_n 0, 1) := by decide +kernel
theorem dX11_row_24 : decode cX11_row 24 = .ok (.getfield 61, 3) := by decide +kernel
theorem dX11_row_27 : decode cX11_row 27 = .ok (.iload_n 1, 1) := by decide +kernel
theorem dX11_row_28 : decode cX11_row 28 = .ok (.iaload, 1) := by decide +kernel
theorem dX11_row_29 : decode cX11_row 29 = .ok (.ireturn, 1) := by decide +kernel
theorem dX11_row_4 : decode cX11_row 4 = .ok (.iload_n 1, 1) := by decide +kernel
theorem dX11_row_5 : decode cX11_row 5 = .ok (.aload_n 0, 1) := by decide +kernel
theorem dX11_row_6 : decode cX11_row 6 = .ok (.getfield 65, 3) := by decide +kernel
theorem dX11_row_9 : decode cX11_row 9 = .ok (.if_icmp .lt 14, 3) := by decide +kernel
theorem dX11_rule_0 : decode cX11_rule 0 = .ok (.iload_n 1, 1) := by decide +kernel
theorem dX11_rule_1 : decode cX11_rule 1 = .ok (.iconst 0, 1) := by decide +kernel
theorem dX11_rule_10 : decode cX11_rule 10 = .ok (.iconst 0, 1) := by decide +kernel
theorem dX11_rule_11 : decode cX11_rule 11 = .ok (.bipush 9, 2) := by decide +kernel
theorem dX11_rule_13 : decode cX11_rule 13 = .ok (.invokestatic 68, 3) := by decide +kernel
theorem dX11_rule_16 : decode cX11_rule 16 = .ok (.ifCond .eq 7, 3) := by decide +kernel
theorem dX11_rule_19 : decode cX11_rule 19 = .ok (.iconst 1, 1) := by decide +kernel
theorem dX11_rule_2 : decode cX11_rule 2 = .ok (.iconst 3, 1) := by decide +kernel
theorem dX11_rule_20 : decode cX11_rule 20 = .ok (.goto 4, 3) := by decide +kernel
theorem dX11_rule_23 : decode cX11_rule 23 = .ok (.iconst 0, 1) := by decide +kernel
theorem dX11_rule_24 : decode cX11_rule 24 = .ok (.istore_n 3, 1) := by decide +kernel
theorem dX11_rule_25 : decode cX11_rule 25 = .ok (.iload_n 3, 1) := by decide +kernel
theorem dX11_rule_26 : decode cX11_rule 26 = .ok (.ifCond .eq 15, 3) := by decide +kernel
theorem dX11_rule_29 : decode cX11_rule 29 = .ok (.aload_n 0, 1) := by decide +kernel
theorem dX11_rule_3 : decode cX11_rule 3 = .ok (.invokestatic 68, 3) := by decide +kernel
theorem dX11_rule_30 : decode cX11_rule 30 = .ok (.getfield 19, 3) := by decide +kernel
theorem dX11_rule_33 : decode cX11_rule 33 = .ok (.getfield 156, 3) := by decide +kernel
theorem dX11_rule_36 : decode cX11_rule 36 = .ok (.bipush 20, 2) := by decide +kernel
theorem dX11_rule_38 : decode cX11_rule 38 = .ok (.if_icmp .lt 6, 3) := by decide +kernel
theorem dX11_rule_41 : decode cX11_rule 41 = .ok (.bipush (-100), 2) := by decide +kernel
theorem dX11_rule_43 : decode cX11_rule 43 = .ok (.ireturn, 1) := by decide +kernel
theorem dX11_rule_44 : decode cX11_rule 44 = .ok (.aload_n 0, 1) := by decide +kernel
theorem dX11_rule_45 : decode cX11_rule 45 = .ok (.getfield 57, 3) := by decide +kernel
theorem dX11_rule_48 : decode cX11_rule 48 = .ok (.istore 4, 2) := by decide +kernel
theorem dX11_rule_50 : decode cX11_rule 50 = .ok (.aload_n 0, 1) := by decide +kernel
theorem dX11_rule_51 : decode cX11_rule 51 = .ok (.iconst 0, 1) := by decide +kernel
theorem dX11_rule_52 : decode cX11_rule 52 = .ok (.putfield 57, 3) := by decide +kernel
theorem dX11_rule_55 : decode cX11_rule 55 = .ok (.aload_n 0, 1) := by decide +kernel
theorem dX11_rule_56 : decode cX11_rule 56 = .ok (.getfield 19, 3) := by decide +kernel
theorem dX11_rule_59 : decode cX11_rule 59 = .ok (.iload_n 1, 1) := by decide +kernel
theorem dX11_rule_6 : decode cX11_rule 6 = .ok (.ifCond .eq 17, 3) := by decide +kernel
theorem dX11_rule_60 : decode cX11_rule 60 = .ok (.iload_n 2, 1) := by decide +kernel
theorem dX11_rule_61 : decode cX11_rule 61 = .ok (.aload_n 0, 1) := by decide +kernel
theorem dX11_rule_62 : decode cX11_rule 62 = .ok (.getfield 53, 3) := by decide +kernel
theorem dX11_rule_65 : decode cX11_rule 65 = .ok (.iload 4, 2) := by decide +kernel
theorem dX11_rule_67 : decode cX11_rule 67 = .ok (.invokevirtual 159, 3) := by decide +kernel
theorem dX11_rule_70 : decode cX11_rule 70 = .ok (.ireturn, 1) := by decide +kernel
theorem dX11_rule_9 : decode cX11_rule 9 = .ok (.iload_n 2, 1) := by decide +kernel
theorem dX11_sign_0 : decode cX11_sign 0 = .ok (.aload_n 0, 1) := by decide +kernel
theorem dX11_sign_1 : decode cX11_sign 1 = .ok (.getfield 57, 3) := by decide +kernel
theorem dX11_sign_11 : decode cX11_sign 11 = .ok (.iconst (-1), 1) := by decide +kernel
theorem dX11_sign_12 : decode cX11_sign 12 = .ok (.ireturn, 1) := by decide +kernel
theorem dX11_sign_13 : decode cX11_sign 13 = .ok (.bipush 24, 2) := by decide +kernel
theorem dX11_sign_15 : decode cX11_sign 15 = .ok (.istore_n 2, 1) := by decide +kernel
theorem dX11_sign_16 : decode cX11_sign 16 = .ok (.iload_n 2, 1) := by decide +kernel
theorem dX11_sign_17 : decode cX11_sign 17 = .ok (.ifCond .lt 36, 3) := by decide +kernel
theorem dX11_sign_20 : decode cX11_sign 20 = .ok (.aload_n 0, 1) := by decide +kernel
theorem dX11_sign_21 : decode cX11_sign 21 = .ok (.getfield 53, 3) := by decide +kernel
theorem dX11_sign_24 : decode cX11_sign 24 = .ok (.aload_n 0, 1) := by decide +kernel
theorem dX11_sign_25 : decode cX11_sign 25 = .ok (.getfield 57, 3) := by decide +kernel
theorem dX11_sign_28 : decode cX11_sign 28 = .ok (.iload_n 1, 1) := by decide +kernel
theorem dX11_sign_29 : decode cX11_sign 29 = .ok (.iload_n 2, 1) := by decide +kernel
theorem dX11_sign_30 : decode cX11_sign 30 = .ok (.iushr, 1) := by decide +kernel
theorem dX11_sign_31 : decode cX11_sign 31 = .ok (.sipush 255, 3) := by decide +kernel
theorem dX11_sign_34 : decode cX11_sign 34 = .ok (.iand, 1) := by decide +kernel
theorem dX11_sign_35 : decode cX11_sign 35 = .ok (.i2c, 1) := by decide +kernel
theorem dX11_sign_36 : decode cX11_sign 36 = .ok (.castore, 1) := by decide +kernel
theorem dX11_sign_37 : decode cX11_sign 37 = .ok (.aload_n 0, 1) := by decide +kernel
theorem dX11_sign_38 : decode cX11_sign 38 = .ok (.dup, 1) := by decide +kernel
theorem dX11_sign_39 : decode cX11_sign 39 = .ok (.getfield 57, 3) := by decide +kernel
theorem dX11_sign_4 : decode cX11_sign 4 = .ok (.iconst 4, 1) := by decide +kernel
theorem dX11_sign_42 : decode cX11_sign 42 = .ok (.iconst 1, 1) := by decide +kernel
theorem dX11_sign_43 : decode cX11_sign 43 = .ok (.iadd, 1) := by decide +kernel
theorem dX11_sign_44 : decode cX11_sign 44 = .ok (.putfield 57, 3) := by decide +kernel
theorem dX11_sign_47 : decode cX11_sign 47 = .ok (.iinc 2 (-8), 3) := by decide +kernel
theorem dX11_sign_5 : decode cX11_sign 5 = .ok (.iadd, 1) := by decide +kernel
theorem dX11_sign_50 : decode cX11_sign 50 = .ok (.goto (-34), 3) := by decide +kernel
theorem dX11_sign_53 : decode cX11_sign 53 = .ok (.aload_n 0, 1) := by decide +kernel
theorem dX11_sign_54 : decode cX11_sign 54 = .ok (.getfield 57, 3) := by decide +kernel
theorem dX11_sign_57 : decode cX11_sign 57 = .ok (.ireturn, 1) := by decide +kernel
theorem dX11_sign_6 : decode cX11_sign 6 = .ok (.bipush 100, 2) := by decide +kernel
theorem dX11_sign_8 : decode cX11_sign 8 = .ok (.if_icmp .le 5, 3) := by decide +kernel
theorem dX11_tried_0 : decode cX11_tried 0 = .ok (.iload_n 1, 1) := by decide +kernel
theorem dX11_tried_1 : decode cX11_tried 1 = .ok (.iconst (-1), 1) := by decide +kernel
theorem dX11_tried_10 : decode cX11_tried 10 = .ok (.invokevirtual 327, 3) := by decide +kernel
theorem dX11_tried_100 : decode cX11_tried 100 = .ok (.iastore, 1) := by decide +kernel
theorem dX11_tried_101 : decode cX11_tried 101 = .ok (.iinc 4 1, 3) := by decide +kernel
theorem dX11_tried_104 : decode cX11_tried 104 = .ok (.goto (-26), 3) := by decide +kernel
theorem dX11_tried_107 : decode cX11_tried 107 = .ok (.aload_n 0, 1) := by decide +kernel
theorem dX11_tried_108 : decode cX11_tried 108 = .ok (.bipush 8, 2) := by decide +kernel
theorem dX11_tried_110 : decode cX11_tried 110 = .ok (.putfield 65, 3) := by decide +kernel
theorem dX11_tried_113 : decode cX11_tried 113 = .ok (.aload_n 0, 1) := by decide +kernel
theorem dX11_tried_114 : decode cX11_tried 114 = .ok (.getfield 32, 3) := by decide +kernel
theorem dX11_tried_117 : decode cX11_tried 117 = .ok (.invokevirtual 242, 3) := by decide +kernel
theorem dX11_tried_120 : decode cX11_tried 120 = .ok (.ireturn, 1) := by decide +kernel
theorem dX11_tried_13 : decode cX11_tried 13 = .ok (.ifCond .eq 7, 3) := by decide +kernel
theorem dX11_tried_16 : decode cX11_tried 16 = .ok (.iconst 1, 1) := by decide +kernel
theorem dX11_tried_17 : decode cX11_tried 17 = .ok (.goto 4, 3) := by decide +kernel
theorem dX11_tried_2 : decode cX11_tried 2 = .ok (.if_icmp .eq 14, 3) := by decide +kernel
theorem dX11_tried_20 : decode cX11_tried 20 = .ok (.iconst 0, 1) := by decide +kernel
theorem dX11_tried_21 : decode cX11_tried 21 = .ok (.istore_n 3, 1) := by decide +kernel
theorem dX11_tried_22 : decode cX11_tried 22 = .ok (.iload_n 3, 1) := by decide +kernel
theorem dX11_tried_23 : decode cX11_tried 23 = .ok (.ifCond .eq 12, 3) := by decide +kernel
theorem dX11_tried_26 : decode cX11_tried 26 = .ok (.aload_n 0, 1) := by decide +kernel
theorem dX11_tried_27 : decode cX11_tried 27 = .ok (.iload_n 2, 1) := by decide +kernel
theorem dX11_tried_28 : decode cX11_tried 28 = .ok (.iconst 0, 1) := by decide +kernel
theorem dX11_tried_29 : decode cX11_tried 29 = .ok (.invokevirtual 163, 3) := by decide +kernel
theorem dX11_tried_32 : decode cX11_tried 32 = .ok (.ifCond .ne 5, 3) := by decide +kernel
theorem dX11_tried_35 : decode cX11_tried 35 = .ok (.iconst (-1), 1) := by decide +kernel
theorem dX11_tried_36 : decode cX11_tried 36 = .ok (.ireturn, 1) := by decide +kernel
theorem dX11_tried_37 : decode cX11_tried 37 = .ok (.aload_n 0, 1) := by decide +kernel
theorem dX11_tried_38 : decode cX11_tried 38 = .ok (.getfield 32, 3) := by decide +kernel
theorem dX11_tried_41 : decode cX11_tried 41 = .ok (.aload_n 0, 1) := by decide +kernel
theorem dX11_tried_42 : decode cX11_tried 42 = .ok (.getfield 28, 3) := by decide +kernel
theorem dX11_tried_45 : decode cX11_tried 45 = .ok (.invokevirtual 330, 3) := by decide +kernel
theorem dX11_tried_48 : decode cX11_tried 48 = .ok (.aload_n 0, 1) := by decide +kernel
theorem dX11_tried_49 : decode cX11_tried 49 = .ok (.getfield 32, 3) := by decide +kernel
theorem dX11_tried_5 : decode cX11_tried 5 = .ok (.aload_n 0, 1) := by decide +kernel
theorem dX11_tried_52 : decode cX11_tried 52 = .ok (.iload_n 2, 1) := by decide +kernel
theorem dX11_tried_53 : decode cX11_tried 53 = .ok (.iload_n 1, 1) := by decide +kernel
theorem dX11_tried_54 : decode cX11_tried 54 = .ok (.iconst (-1), 1) := by decide +kernel
theorem dX11_tried_55 : decode cX11_tried 55 = .ok (.if_icmp .ne 7, 3) := by decide +kernel
theorem dX11_tried_58 : decode cX11_tried 58 = .ok (.aconst_null, 1) := by decide +kernel
theorem dX11_tried_59 : decode cX11_tried 59 = .ok (.goto 12, 3) := by decide +kernel
theorem dX11_tried_6 : decode cX11_tried 6 = .ok (.getfield 19, 3) := by decide +kernel
theorem dX11_tried_62 : decode cX11_tried 62 = .ok (.aload_n 0, 1) := by decide +kernel
theorem dX11_tried_63 : decode cX11_tried 63 = .ok (.getfield 19, 3) := by decide +kernel
theorem dX11_tried_66 : decode cX11_tried 66 = .ok (.getfield 334, 3) := by decide +kernel
theorem dX11_tried_69 : decode cX11_tried 69 = .ok (.iload_n 1, 1) := by decide +kernel
theorem dX11_tried_70 : decode cX11_tried 70 = .ok (.aaload, 1) := by decide +kernel
theorem dX11_tried_71 : decode cX11_tried 71 = .ok (.iconst (-1), 1) := by decide +kernel
theorem dX11_tried_72 : decode cX11_tried 72 = .ok (.invokevirtual 167, 3) := by decide +kernel
theorem dX11_tried_75 : decode cX11_tried 75 = .ok (.iconst 0, 1) := by decide +kernel
theorem dX11_tried_76 : decode cX11_tried 76 = .ok (.istore 4, 2) := by decide +kernel
theorem dX11_tried_78 : decode cX11_tried 78 = .ok (.iload 4, 2) := by decide +kernel
theorem dX11_tried_80 : decode cX11_tried 80 = .ok (.bipush 8, 2) := by decide +kernel
theorem dX11_tried_82 : decode cX11_tried 82 = .ok (.if_icmp .ge 25, 3) := by decide +kernel
theorem dX11_tried_85 : decode cX11_tried 85 = .ok (.aload_n 0, 1) := by decide +kernel
theorem dX11_tried_86 : decode cX11_tried 86 = .ok (.getfield 61, 3) := by decide +kernel
theorem dX11_tried_89 : decode cX11_tried 89 = .ok (.iload 4, 2) := by decide +kernel
theorem dX11_tried_9 : decode cX11_tried 9 = .ok (.iload_n 1, 1) := by decide +kernel
theorem dX11_tried_91 : decode cX11_tried 91 = .ok (.aload_n 0, 1) := by decide +kernel
theorem dX11_tried_92 : decode cX11_tried 92 = .ok (.getfield 32, 3) := by decide +kernel
theorem dX11_tried_95 : decode cX11_tried 95 = .ok (.iload 4, 2) := by decide +kernel
theorem dX11_tried_97 : decode cX11_tried 97 = .ok (.invokevirtual 300, 3) := by decide +kernel
theorem dX11_undo_0 : decode cX11_undo 0 = .ok (.aload_n 0, 1) := by decide +kernel
theorem dX11_undo_1 : decode cX11_undo 1 = .ok (.getfield 40, 3) := by decide +kernel
theorem dX11_undo_11 : decode cX11_undo 11 = .ok (.iload_n 2, 1) := by decide +kernel
theorem dX11_undo_12 : decode cX11_undo 12 = .ok (.iconst 0, 1) := by decide +kernel
theorem dX11_undo_13 : decode cX11_undo 13 = .ok (.bipush 99, 2) := by decide +kernel
theorem dX11_undo_15 : decode cX11_undo 15 = .ok (.invokestatic 68, 3) := by decide +kernel
theorem dX11_undo_18 : decode cX11_undo 18 = .ok (.ifCond .ne 5, 3) := by decide +kernel
theorem dX11_undo_21 : decode cX11_undo 21 = .ok (.iconst 0, 1) := by decide +kernel
theorem dX11_undo_22 : decode cX11_undo 22 = .ok (.ireturn, 1) := by decide +kernel
theorem dX11_undo_23 : decode cX11_undo 23 = .ok (.aload_n 0, 1) := by decide +kernel
theorem dX11_undo_24 : decode cX11_undo 24 = .ok (.getfield 40, 3) := by decide +kernel
theorem dX11_undo_27 : decode cX11_undo 27 = .ok (.getfield 248, 3) := by decide +kernel
theorem dX11_undo_30 : decode cX11_undo 30 = .ok (.iload_n 1, 1) := by decide +kernel
theorem dX11_undo_31 : decode cX11_undo 31 = .ok (.aaload, 1) := by decide +kernel
theorem dX11_undo_32 : decode cX11_undo 32 = .ok (.iload_n 2, 1) := by decide +kernel
theorem dX11_undo_33 : decode cX11_undo 33 = .ok (.putfield 260, 3) := by decide +kernel
theorem dX11_undo_36 : decode cX11_undo 36 = .ok (.iconst 1, 1) := by decide +kernel
theorem dX11_undo_37 : decode cX11_undo 37 = .ok (.ireturn, 1) := by decide +kernel
theorem dX11_undo_4 : decode cX11_undo 4 = .ok (.iload_n 1, 1) := by decide +kernel
theorem dX11_undo_5 : decode cX11_undo 5 = .ok (.invokevirtual 257, 3) := by decide +kernel
theorem dX11_undo_8 : decode cX11_undo 8 = .ok (.ifCond .eq 13, 3) := by decide +kernel
theorem dX1_addAway_0 : decode cX1_addAway 0 = .ok (.aload_n 0, 1) := by decide +kernel
theorem dX1_addAway_1 : decode cX1_addAway 1 = .ok (.getfield 43, 3) := by decide +kernel
theorem dX1_addAway_10 : decode cX1_addAway 10 = .ok (.getfield 39, 3) := by decide +kernel
theorem dX1_addAway_13 : decode cX1_addAway 13 = .ok (.iload_n 2, 1) := by decide +kernel
theorem dX1_addAway_14 : decode cX1_addAway 14 = .ok (.iconst 1, 1) := by decide +kernel
theorem dX1_addAway_15 : decode cX1_addAway 15 = .ok (.isub, 1) := by decide +kernel
theorem dX1_addAway_16 : decode cX1_addAway 16 = .ok (.aaload, 1) := by decide +kernel
theorem dX1_addAway_17 : decode cX1_addAway 17 = .ok (.getfield 46, 3) := by decide +kernel
theorem dX1_addAway_20 : decode cX1_addAway 20 = .ok (.aload_n 1, 1) := by decide +kernel
theorem dX1_addAway_21 : decode cX1_addAway 21 = .ok (.getfield 46, 3) := by decide +kernel
theorem dX1_addAway_24 : decode cX1_addAway 24 = .ok (.if_icmp .le 23, 3) := by decide +kernel
theorem dX1_addAway_27 : decode cX1_addAway 27 = .ok (.aload_n 0, 1) := by decide +kernel
theorem dX1_addAway_28 : decode cX1_addAway 28 = .ok (.getfield 39, 3) := by decide +kernel
theorem dX1_addAway_31 : decode cX1_addAway 31 = .ok (.iload_n 2, 1) := by decide +kernel
theorem dX1_addAway_32 : decode cX1_addAway 32 = .ok (.aload_n 0, 1) := by decide +kernel
theorem dX1_addAway_33 : decode cX1_addAway 33 = .ok (.getfield 39, 3) := by decide +kernel
theorem dX1_addAway_36 : decode cX1_addAway 36 = .ok (.iload_n 2, 1) := by decide +kernel
theorem dX1_addAway_37 : decode cX1_addAway 37 = .ok (.iconst 1, 1) := by decide +kernel
theorem dX1_addAway_38 : decode cX1_addAway 38 = .ok (.isub, 1) := by decide +kernel
theorem dX1_addAway_39 : decode cX1_addAway 39 = .ok (.aaload, 1) := by decide +kernel
theorem dX1_addAway_4 : decode cX1_addAway 4 = .ok (.istore_n 2, 1) := by decide +kernel
theorem dX1_addAway_40 : decode cX1_addAway 40 = .ok (.aastore, 1) := by decide +kernel
theorem dX1_addAway_41 : decode cX1_addAway 41 = .ok (.iinc 2 (-1), 3) := by decide +kernel
theorem dX1_addAway_44 : decode cX1_addAway 44 = .ok (.goto (-39), 3) := by decide +kernel
theorem dX1_addAway_47 : decode cX1_addAway 47 = .ok (.aload_n 0, 1) := by decide +kernel
theorem dX1_addAway_48 : decode cX1_addAway 48 = .ok (.getfield 39, 3) := by decide +kernel
theorem dX1_addAway_5 : decode cX1_addAway 5 = .ok (.iload_n 2, 1) := by decide +kernel
theorem dX1_addAway_51 : decode cX1_addAway 51 = .ok (.iload_n 2, 1) := by decide +kernel
theorem dX1_addAway_52 : decode cX1_addAway 52 = .ok (.aload_n 1, 1) := by decide +kernel
theorem dX1_addAway_53 : decode cX1_addAway 53 = .ok (.aastore, 1) := by decide +kernel
theorem dX1_addAway_54 : decode cX1_addAway 54 = .ok (.aload_n 0, 1) := by decide +kernel
theorem dX1_addAway_55 : decode cX1_addAway 55 = .ok (.dup, 1) := by decide +kernel
theorem dX1_addAway_56 : decode cX1_addAway 56 = .ok (.getfield 43, 3) := by decide +kernel
theorem dX1_addAway_59 : decode cX1_addAway 59 = .ok (.iconst 1, 1) := by decide +kernel
theorem dX1_addAway_6 : decode cX1_addAway 6 = .ok (.ifCond .le 41, 3) := by decide +kernel
theorem dX1_addAway_60 : decode cX1_addAway 60 = .ok (.iadd, 1) := by decide +kernel
theorem dX1_addAway_61 : decode cX1_addAway 61 = .ok (.putfield 43, 3) := by decide +kernel
theorem dX1_addAway_64 : decode cX1_addAway 64 = .ok (.return_, 1) := by decide +kernel
theorem dX1_addAway_9 : decode cX1_addAway 9 = .ok (.aload_n 0, 1) := by decide +kernel
theorem dX3_takeOver_0 : decode cX3_takeOver 0 = .ok (.aload_n 0, 1) := by decide +kernel
theorem dX3_takeOver_1 : decode cX3_takeOver 1 = .ok (.aload_n 1, 1) := by decide +kernel
theorem dX3_takeOver_102 : decode cX3_takeOver 102 = .ok (.iconst 0, 1) := by decide +kernel
theorem dX3_takeOver_103 : decode cX3_takeOver 103 = .ok (.aload_n 0, 1) := by decide +kernel
theorem dX3_takeOver_104 : decode cX3_takeOver 104 = .ok (.getfield 34, 3) := by decide +kernel
theorem dX3_takeOver_107 : decode cX3_takeOver 107 = .ok (.iconst 0, 1) := by decide +kernel
theorem dX3_takeOver_108 : decode cX3_takeOver 108 = .ok (.bipush 30, 2) := by decide +kernel
theorem dX3_takeOver_110 : decode cX3_takeOver 110 = .ok (.invokestatic 51, 3) := by decide +kernel
theorem dX3_takeOver_113 : decode cX3_takeOver 113 = .ok (.aload_n 1, 1) := by decide +kernel
theorem dX3_takeOver_114 : decode cX3_takeOver 114 = .ok (.getfield 37, 3) := by decide +kernel
theorem dX3_takeOver_117 : decode cX3_takeOver 117 = .ok (.iconst 0, 1) := by decide +kernel
theorem dX3_takeOver_118 : decode cX3_takeOver 118 = .ok (.aload_n 0, 1) := by decide +kernel
theorem dX3_takeOver_119 : decode cX3_takeOver 119 = .ok (.getfield 37, 3) := by decide +kernel
theorem dX3_takeOver_12 : decode cX3_takeOver 12 = .ok (.iconst 0, 1) := by decide +kernel
theorem dX3_takeOver_122 : decode cX3_takeOver 122 = .ok (.iconst 0, 1) := by decide +kernel
theorem dX3_takeOver_123 : decode cX3_takeOver 123 = .ok (.bipush 30, 2) := by decide +kernel
theorem dX3_takeOver_125 : decode cX3_takeOver 125 = .ok (.invokestatic 51, 3) := by decide +kernel
theorem dX3_takeOver_128 : decode cX3_takeOver 128 = .ok (.aload_n 1, 1) := by decide +kernel
theorem dX3_takeOver_129 : decode cX3_takeOver 129 = .ok (.getfield 40, 3) := by decide +kernel
theorem dX3_takeOver_13 : decode cX3_takeOver 13 = .ok (.aload_n 0, 1) := by decide +kernel
theorem dX3_takeOver_132 : decode cX3_takeOver 132 = .ok (.iconst 0, 1) := by decide +kernel
theorem dX3_takeOver_133 : decode cX3_takeOver 133 = .ok (.aload_n 0, 1) := by decide +kernel
theorem dX3_takeOver_134 : decode cX3_takeOver 134 = .ok (.getfield 40, 3) := by decide +kernel
theorem dX3_takeOver_137 : decode cX3_takeOver 137 = .ok (.iconst 0, 1) := by decide +kernel
theorem dX3_takeOver_138 : decode cX3_takeOver 138 = .ok (.bipush 30, 2) := by decide +kernel
theorem dX3_takeOver_14 : decode cX3_takeOver 14 = .ok (.getfield 15, 3) := by decide +kernel
theorem dX3_takeOver_140 : decode cX3_takeOver 140 = .ok (.invokestatic 51, 3) := by decide +kernel
theorem dX3_takeOver_143 : decode cX3_takeOver 143 = .ok (.return_, 1) := by decide +kernel
theorem dX3_takeOver_17 : decode cX3_takeOver 17 = .ok (.iconst 0, 1) := by decide +kernel
theorem dX3_takeOver_18 : decode cX3_takeOver 18 = .ok (.bipush 8, 2) := by decide +kernel
theorem dX3_takeOver_2 : decode cX3_takeOver 2 = .ok (.getfield 9, 3) := by decide +kernel
theorem dX3_takeOver_20 : decode cX3_takeOver 20 = .ok (.invokestatic 51, 3) := by decide +kernel
theorem dX3_takeOver_23 : decode cX3_takeOver 23 = .ok (.aload_n 1, 1) := by decide +kernel
theorem dX3_takeOver_24 : decode cX3_takeOver 24 = .ok (.getfield 19, 3) := by decide +kernel
theorem dX3_takeOver_27 : decode cX3_takeOver 27 = .ok (.iconst 0, 1) := by decide +kernel
theorem dX3_takeOver_28 : decode cX3_takeOver 28 = .ok (.aload_n 0, 1) := by decide +kernel
theorem dX3_takeOver_29 : decode cX3_takeOver 29 = .ok (.getfield 19, 3) := by decide +kernel
theorem dX3_takeOver_32 : decode cX3_takeOver 32 = .ok (.iconst 0, 1) := by decide +kernel
theorem dX3_takeOver_33 : decode cX3_takeOver 33 = .ok (.bipush 8, 2) := by decide +kernel
theorem dX3_takeOver_35 : decode cX3_takeOver 35 = .ok (.invokestatic 51, 3) := by decide +kernel
theorem dX3_takeOver_38 : decode cX3_takeOver 38 = .ok (.aload_n 1, 1) := by decide +kernel
theorem dX3_takeOver_39 : decode cX3_takeOver 39 = .ok (.getfield 22, 3) := by decide +kernel
theorem dX3_takeOver_42 : decode cX3_takeOver 42 = .ok (.iconst 0, 1) := by decide +kernel
theorem dX3_takeOver_43 : decode cX3_takeOver 43 = .ok (.aload_n 0, 1) := by decide +kernel
theorem dX3_takeOver_44 : decode cX3_takeOver 44 = .ok (.getfield 22, 3) := by decide +kernel
theorem dX3_takeOver_47 : decode cX3_takeOver 47 = .ok (.iconst 0, 1) := by decide +kernel
theorem dX3_takeOver_48 : decode cX3_takeOver 48 = .ok (.bipush 8, 2) := by decide +kernel
theorem dX3_takeOver_5 : decode cX3_takeOver 5 = .ok (.putfield 9, 3) := by decide +kernel
theorem dX3_takeOver_50 : decode cX3_takeOver 50 = .ok (.invokestatic 51, 3) := by decide +kernel
theorem dX3_takeOver_53 : decode cX3_takeOver 53 = .ok (.aload_n 1, 1) := by decide +kernel
theorem dX3_takeOver_54 : decode cX3_takeOver 54 = .ok (.getfield 25, 3) := by decide +kernel
theorem dX3_takeOver_57 : decode cX3_takeOver 57 = .ok (.iconst 0, 1) := by decide +kernel
theorem dX3_takeOver_58 : decode cX3_takeOver 58 = .ok (.aload_n 0, 1) := by decide +kernel
theorem dX3_takeOver_59 : decode cX3_takeOver 59 = .ok (.getfield 25, 3) := by decide +kernel
theorem dX3_takeOver_62 : decode cX3_takeOver 62 = .ok (.iconst 0, 1) := by decide +kernel
theorem dX3_takeOver_63 : decode cX3_takeOver 63 = .ok (.bipush 8, 2) := by decide +kernel
theorem dX3_takeOver_65 : decode cX3_takeOver 65 = .ok (.invokestatic 51, 3) := by decide +kernel
theorem dX3_takeOver_68 : decode cX3_takeOver 68 = .ok (.aload_n 1, 1) := by decide +kernel
theorem dX3_takeOver_69 : decode cX3_takeOver 69 = .ok (.getfield 28, 3) := by decide +kernel
theorem dX3_takeOver_72 : decode cX3_takeOver 72 = .ok (.iconst 0, 1) := by decide +kernel
theorem dX3_takeOver_73 : decode cX3_takeOver 73 = .ok (.aload_n 0, 1) := by decide +kernel
theorem dX3_takeOver_74 : decode cX3_takeOver 74 = .ok (.getfield 28, 3) := by decide +kernel
theorem dX3_takeOver_77 : decode cX3_takeOver 77 = .ok (.iconst 0, 1) := by decide +kernel
theorem dX3_takeOver_78 : decode cX3_takeOver 78 = .ok (.bipush 30, 2) := by decide +kernel
theorem dX3_takeOver_8 : decode cX3_takeOver 8 = .ok (.aload_n 1, 1) := by decide +kernel
theorem dX3_takeOver_80 : decode cX3_takeOver 80 = .ok (.invokestatic 51, 3) := by decide +kernel
theorem dX3_takeOver_83 : decode cX3_takeOver 83 = .ok (.aload_n 1, 1) := by decide +kernel
theorem dX3_takeOver_84 : decode cX3_takeOver 84 = .ok (.getfield 31, 3) := by decide +kernel
theorem dX3_takeOver_87 : decode cX3_takeOver 87 = .ok (.iconst 0, 1) := by decide +kernel
theorem dX3_takeOver_88 : decode cX3_takeOver 88 = .ok (.aload_n 0, 1) := by decide +kernel
theorem dX3_takeOver_89 : decode cX3_takeOver 89 = .ok (.getfield 31, 3) := by decide +kernel
theorem dX3_takeOver_9 : decode cX3_takeOver 9 = .ok (.getfield 15, 3) := by decide +kernel
theorem dX3_takeOver_92 : decode cX3_takeOver 92 = .ok (.iconst 0, 1) := by decide +kernel
theorem dX3_takeOver_93 : decode cX3_takeOver 93 = .ok (.bipush 30, 2) := by decide +kernel
theorem dX3_takeOver_95 : decode cX3_takeOver 95 = .ok (.invokestatic 51, 3) := by decide +kernel
theorem dX3_takeOver_98 : decode cX3_takeOver 98 = .ok (.aload_n 1, 1) := by decide +kernel
theorem dX3_takeOver_99 : decode cX3_takeOver 99 = .ok (.getfield 34, 3) := by decide +kernel
theorem dX7_seek_0 : decode cX7_seek 0 = .ok (.aload_n 0, 1) := by decide +kernel
theorem dX7_seek_1 : decode cX7_seek 1 = .ok (.iload_n 1, 1) := by decide +kernel
theorem dX7_seek_10 : decode cX7_seek 10 = .ok (.invokevirtual 39, 3) := by decide +kernel
theorem dX7_seek_13 : decode cX7_seek 13 = .ok (.ifCond .ne 5, 3) := by decide +kernel
theorem dX7_seek_16 : decode cX7_seek 16 = .ok (.iconst (-1), 1) := by decide +kernel
theorem dX7_seek_17 : decode cX7_seek 17 = .ok (.ireturn, 1) := by decide +kernel
theorem dX7_seek_18 : decode cX7_seek 18 = .ok (.iconst 1, 1) := by decide +kernel
theorem dX7_seek_19 : decode cX7_seek 19 = .ok (.aload_n 0, 1) := by decide +kernel
theorem dX7_seek_2 : decode cX7_seek 2 = .ok (.invokevirtual 35, 3) := by decide +kernel
theorem dX7_seek_20 : decode cX7_seek 20 = .ok (.getfield 42, 3) := by decide +kernel
theorem dX7_seek_23 : decode cX7_seek 23 = .ok (.ishl, 1) := by decide +kernel
theorem dX7_seek_24 : decode cX7_seek 24 = .ok (.iconst 1, 1) := by decide +kernel
theorem dX7_seek_25 : decode cX7_seek 25 = .ok (.isub, 1) := by decide +kernel
theorem dX7_seek_26 : decode cX7_seek 26 = .ok (.istore_n 3, 1) := by decide +kernel
theorem dX7_seek_27 : decode cX7_seek 27 = .ok (.aload_n 0, 1) := by decide +kernel
theorem dX7_seek_28 : decode cX7_seek 28 = .ok (.invokevirtual 46, 3) := by decide +kernel
theorem dX7_seek_31 : decode cX7_seek 31 = .ok (.iload_n 3, 1) := by decide +kernel
theorem dX7_seek_32 : decode cX7_seek 32 = .ok (.if_icmp .eq 6, 3) := by decide +kernel
theorem dX7_seek_35 : decode cX7_seek 35 = .ok (.bipush (-2), 2) := by decide +kernel
theorem dX7_seek_37 : decode cX7_seek 37 = .ok (.ireturn, 1) := by decide +kernel
theorem dX7_seek_38 : decode cX7_seek 38 = .ok (.aload_n 0, 1) := by decide +kernel
theorem dX7_seek_39 : decode cX7_seek 39 = .ok (.iconst 0, 1) := by decide +kernel
theorem dX7_seek_40 : decode cX7_seek 40 = .ok (.putfield 50, 3) := by decide +kernel
theorem dX7_seek_43 : decode cX7_seek 43 = .ok (.aload_n 0, 1) := by decide +kernel
theorem dX7_seek_44 : decode cX7_seek 44 = .ok (.iconst 0, 1) := by decide +kernel
theorem dX7_seek_45 : decode cX7_seek 45 = .ok (.putfield 54, 3) := by decide +kernel
theorem dX7_seek_48 : decode cX7_seek 48 = .ok (.aload_n 0, 1) := by decide +kernel
theorem dX7_seek_49 : decode cX7_seek 49 = .ok (.iconst 0, 1) := by decide +kernel
theorem dX7_seek_5 : decode cX7_seek 5 = .ok (.ifCond .eq 11, 3) := by decide +kernel
theorem dX7_seek_50 : decode cX7_seek 50 = .ok (.putfield 57, 3) := by decide +kernel
theorem dX7_seek_53 : decode cX7_seek 53 = .ok (.aload_n 0, 1) := by decide +kernel
theorem dX7_seek_54 : decode cX7_seek 54 = .ok (.iconst 0, 1) := by decide +kernel
theorem dX7_seek_55 : decode cX7_seek 55 = .ok (.putfield 60, 3) := by decide +kernel
theorem dX7_seek_58 : decode cX7_seek 58 = .ok (.aload_n 0, 1) := by decide +kernel
theorem dX7_seek_59 : decode cX7_seek 59 = .ok (.iconst 0, 1) := by decide +kernel
theorem dX7_seek_60 : decode cX7_seek 60 = .ok (.iload_n 3, 1) := by decide +kernel
theorem dX7_seek_61 : decode cX7_seek 61 = .ok (.iconst 0, 1) := by decide +kernel
theorem dX7_seek_62 : decode cX7_seek 62 = .ok (.iconst 0, 1) := by decide +kernel
theorem dX7_seek_63 : decode cX7_seek 63 = .ok (.iconst 0, 1) := by decide +kernel
theorem dX7_seek_64 : decode cX7_seek 64 = .ok (.invokevirtual 63, 3) := by decide +kernel
theorem dX7_seek_67 : decode cX7_seek 67 = .ok (.iconst 0, 1) := by decide +kernel
theorem dX7_seek_68 : decode cX7_seek 68 = .ok (.ireturn, 1) := by decide +kernel
theorem dX7_seek_8 : decode cX7_seek 8 = .ok (.aload_n 0, 1) := by decide +kernel
theorem dX7_seek_9 : decode cX7_seek 9 = .ok (.iload_n 2, 1) := by decide +kernel
def wo_c_canGoOn : List Cond := [.methodLink RX11 68 yX11_within, .static yX11_within, .initialized RX11, .fieldLink RX11 28 "TypingPool" "floor" "LTypingPool$Floor;", .fieldLink RX11 99 "TypingPool$Floor" "now" "I"]
def wm_c_canGoOn : List Cond := .code yX11_canGoOn cX11_canGoOn 3 (some .boolean) :: (wo_c_canGoOn ++ (wm_c_within ++ (wsX110 ++ (wsX30 ++ ([] : List Cond)))))
theorem gd_c_canGoOn : ∀ w ∈ wm_c_canGoOn, goodWord w = true := gd_c rfl (gd_a (by decide) (gd_a gd_c_within (gd_a gd_wsX110 (gd_a gd_wsX30 gd_nil))))
set_option maxRecDepth 20000 in
theorem im_c_canGoOn : ∀ w ∈ wm_c_canGoOn, w ∈ lw_tbl := im_c (in_r [.code yX11_canGoOn cX11_canGoOn 3 (some .boolean)] [750] (by decide +kernel)) (in_app (in_r wo_c_canGoOn [594, 595, 70, 561, 429] (by decide +kernel)) (in_app im_c_within (in_app im_wsX110 (in_app im_wsX30 im_nil))))
set_option maxHeartbeats 4000000 in
set_option maxRecDepth 100000 in
theorem c_canGoOn (l : Launch) (dC : Nat → ClassId) (dI : Nat → Nat → Nat) (ad av : Nat → Nat) (sz : Nat) (a : Nat → Nat) (k : Nat → ClassId) (τ ln : Nat → Nat) (y : Nat → Nat → Int32) (g : Nat → Nat → Option Nat) (u : Nat → Int) (p0 : Int32) (p1 : Int32) (hI : IC a u τ ln y g) : Met l yX11_canGoOn wm_c_canGoOn ({ frames := 1, cells := 0, slots := 0, locals := 60 }) (pw_ ad av (dC, dI) sz [.ref (a 0), .int p0, .int p1] a k τ ln y g) (va_Qi (fun (r u : Int32) => u = r) (fun (r : Int32) (t : State) => (r = 1 ∧ p1.toInt ≤ p0.toInt ∧ p0.toInt ≤ 960 ∧ tw (dC, dI) a k τ ln y g t.heap) ∨ (r = 0 ∧ tw (dC, dI) a k τ ln y g t.heap)) (fr τ sz)) 0 0 (fr τ sz) := by
  refine Met.ofW (cc := cX11_canGoOn) (maxL := 3) (ret := (some .boolean)) (by decide) rfl ?_
  intro p e s m args below meth c s₁ B hml hv
  obtain ⟨rfl, hsz, hT, hK, hM⟩ := hv
  have hx := B.exec
  have hb := B.bytes
  have hr := B.returns
  have hts := atoms_spec (ws := wm_c_canGoOn) B.pre
  have hown : s.vm.findClass RX11 = some m.cls := findClass_of_methodNamed B.named
  have hlocks := B.notSynchronized
  subst hsz
  generalize hAe : fr τ s.heap.size = A at hM ⊢
  have hA : ∀ q : Nat, s.heap.size ≤ q → A q := fun q h => by rw [← hAe]; exact Or.inr h
  have hF : ∀ q, τ q ≠ 0 → A q := fun q h => by rw [← hAe]; exact Or.inl h
  have hS : va_S A s.heap s.heap [] := va_S.rf
  have hX := hI.1
  have hR := ic_r hI
  have hl := lv_entry ([.ref (a 0), .int p0, .int p1]) (n := 3) (Nat.le_of_ble_eq_true rfl)
  rw [lg_entry_eq]
  generalize (lg_sl ([.ref (a 0), .int p0, .int p1]) ++ List.replicate (3 - (lg_sl ([.ref (a 0), .int p0, .int p1])).length) Slot.unset).toArray = ls at hl ⊢
  have hl : lv_has ls 3 [(0, .ref (a 0)), (1, .int p0), (2, .int p1)] := hl
  refine lv_iload_n hx hb dX11_canGoOn_0 rfl (lv_at hl 1 rfl) ?_
  refine lv_iload_n hx hb dX11_canGoOn_1 rfl (lv_at hl 2 rfl) ?_
  refine lv_sipush (v := 960) hx hb dX11_canGoOn_2 (by decide) ?_
  have hFc := tw_free hF hS hA
  have hp_1 : (960 : Int32).toInt = 960 := (zk (x := 960) 960 rfl)
  refine va_calli (va_runS (As := [.int p0, .int p1, .int 960]) (rest := []) ⟨hx, hb, hml, hown, hts⟩ (c_within l dC dI ad av s.heap.size a k τ ln y g u p0 p1 (960 : Int32)  ) (va_cwS 3 hts (gi_3 (List.mem_cons_of_mem _ (List.mem_append_left _ (List.mem_of_getElem? (i := 0) rfl))) (List.mem_cons_of_mem _ (List.mem_append_left _ (List.mem_of_getElem? (i := 1) rfl))) (List.mem_cons_of_mem _ (List.mem_append_left _ (List.mem_of_getElem? (i := 2) rfl))) (fun _ hh => (List.mem_cons_of_mem _ (List.mem_append_right _ (List.mem_append_left _ hh)))) gd_c_within) rfl rfl rfl (by decide +kernel) ⟨Nat.le_of_ble_eq_true rfl, Nat.le_of_ble_eq_true rfl⟩) ⟨pw_blind, pw_use hT hK hFc hS hM⟩ rfl rfl hl.1 rfl (lv_room (Nat.le_of_ble_eq_true rfl)) dX11_canGoOn_5 ⟨Nat.le_of_ble_eq_true rfl, Nat.le_of_ble_eq_true rfl⟩) hS (fun q _ h => hFc q h) hFc (fun r0 r_2 t H locs ht hvm hw hB hz1 hk1 hS => ?_)
  refine W.widen (k := 0) (n := 0) (Nat.le_of_ble_eq_true rfl) (Nat.le_of_ble_eq_true rfl) ?_
  clear hvm hz1 hk1
  subst hw
  rcases hB with ⟨hre, hf_3, hf_4, hT⟩ | ⟨hre, hf_5, hT⟩
  · refine lq_top (v := 1) hre ?_
    rw [ht] at hT
    try simp only [hp_1] at hf_3 hf_4
    clear hp_1
    refine lv_if_eq (tgt := 30) hx hb dX11_canGoOn_8 (by decide) (fun c_6 => absurd c_6 (by decide)) (fun c_6 => ?_)
    refine lv_aload_n hx hb dX11_canGoOn_11 rfl (lv_at hl 0 rfl) ?_
    refine tw_get (D := (dC, dI)) (v := .ref (a 3)) (C := RX11) (T := TX11) (N := 10) hx hb hts (fun _ hh => (List.mem_cons_of_mem _ (List.mem_append_right _ (List.mem_append_right _ (List.mem_append_left _ hh))))) hown hK hT (fx_0 hX) (by decide) cl_e10 rfl 2 (by decide) (hts (.fieldLink RX11 28 "TypingPool" "floor" "LTypingPool$Floor;") (List.mem_cons_of_mem _ (List.mem_append_left _ (List.mem_of_getElem? (i := 3) rfl)))) (fun _ h9 => h9) rfl dX11_canGoOn_12 ?_
    refine tw_get (D := (dC, dI)) (v := .int (y (a 3) 2)) (C := RX3) (T := TX3) (N := 12) hx hb hts (fun _ hh => (List.mem_cons_of_mem _ (List.mem_append_right _ (List.mem_append_right _ (List.mem_append_right _ (List.mem_append_left _ hh)))))) hown hK hT (fx_3 hX) (by decide) cl_e13 rfl 2 (by decide) (hts (.fieldLink RX11 99 "TypingPool$Floor" "now" "I") (List.mem_cons_of_mem _ (List.mem_append_left _ (List.mem_of_getElem? (i := 4) rfl)))) (fun _ h9 => h9) rfl dX11_canGoOn_15 ?_
    refine lv_iload_n hx hb dX11_canGoOn_18 rfl (lv_at hl 1 rfl) ?_
    refine lv_iadd hx hb dX11_canGoOn_19 ?_
    refine lv_topi (fun x_7 ex_7 => ?_)
    refine lv_sipush (v := 4800) hx hb dX11_canGoOn_20 (by decide) ?_
    refine lv_icmp_gt (tgt := 30) hx hb dX11_canGoOn_23 (by decide) (fun c_8 => ?_) (fun c_8 => ?_)
    · have nc_8 := z_lt (zk (x := 4800) 4800 rfl) rfl c_8
      refine lv_iconst (v := 0) hx hb dX11_canGoOn_30 (by decide) ?_
      exact W.zret (v := 0) hx hb hr (by decide) (fun t ht hW9 => ⟨⟨0, 0, rfl, rfl, Or.inr (⟨rfl, tw_at ht hT⟩)⟩, hS.F ht⟩) hS.2.2 dX11_canGoOn_31
    · have nc_8 := z_nlt (zk (x := 4800) 4800 rfl) rfl c_8
      refine lv_iconst (v := 1) hx hb dX11_canGoOn_26 (by decide) ?_
      refine lv_goto (tgt := 31) hx hb dX11_canGoOn_27 (by decide) ?_
      have hrv : (1 : Int32).toInt = 1 := (zk (x := 1) 1 rfl)
      exact W.zret (v := 1) hx hb hr (by decide) (fun t ht hW9 => ⟨⟨1, 1, rfl, rfl, Or.inl ⟨rfl, by omega, by omega, tw_at ht hT⟩⟩, hS.F ht⟩) hS.2.2 dX11_canGoOn_31
  · refine lq_top (v := 0) hre ?_
    rw [ht] at hT
    try simp only [hp_1] at hf_5
    clear hp_1
    refine lv_if_eq (tgt := 30) hx hb dX11_canGoOn_8 (by decide) (fun c_9 => ?_) (fun c_9 => absurd c_9 (by decide))
    refine lv_iconst (v := 0) hx hb dX11_canGoOn_30 (by decide) ?_
    exact W.zret (v := 0) hx hb hr (by decide) (fun t ht hW9 => ⟨⟨0, 0, rfl, rfl, Or.inr (⟨rfl, tw_at ht hT⟩)⟩, hS.F ht⟩) hS.2.2 dX11_canGoOn_31
def wo_c_post : List Cond := [.methodLink RX11 68 yX11_within, .static yX11_within, .initialized RX11, .fieldLink RX11 10 "TypingPool" "book" "LTypingPool$Book;", .fieldLink RX11 72 "TypingPool$Book" "postCount" "I", .fieldLink RX11 75 "TypingPool$Book" "posts" "[I"]
def wm_c_post : List Cond := .code yX11_post cX11_post 2 (some .int) :: (wo_c_post ++ (wm_c_within ++ (wsX110 ++ (wsX10 ++ ([] : List Cond)))))
theorem gd_c_post : ∀ w ∈ wm_c_post, goodWord w = true := gd_c rfl (gd_a (by decide) (gd_a gd_c_within (gd_a gd_wsX110 (gd_a gd_wsX10 gd_nil))))
set_option maxRecDepth 20000 in
theorem im_c_post : ∀ w ∈ wm_c_post, w ∈ lw_tbl := im_c (in_r [.code yX11_post cX11_post 2 (some .int)] [593] (by decide +kernel)) (in_app (in_r wo_c_post [594, 595, 70, 559, 119, 117] (by decide +kernel)) (in_app im_c_within (in_app im_wsX110 (in_app im_wsX10 im_nil))))
set_option maxHeartbeats 4000000 in
set_option maxRecDepth 100000 in
theorem c_post (l : Launch) (dC : Nat → ClassId) (dI : Nat → Nat → Nat) (ad av : Nat → Nat) (sz : Nat) (a : Nat → Nat) (k : Nat → ClassId) (τ ln : Nat → Nat) (y : Nat → Nat → Int32) (g : Nat → Nat → Option Nat) (u : Nat → Int) (p0 : Int32) (hI : IC a u τ ln y g) : Met l yX11_post wm_c_post ({ frames := 1, cells := 0, slots := 0, locals := 60 }) (pw_ ad av (dC, dI) sz [.ref (a 0), .int p0] a k τ ln y g) (va_Qi (fun (r u : Int32) => u = r) (fun (r : Int32) (t : State) => (∃ (u' : Nat → Int), r = (-1) ∧ (∀ i, i ∉ ([] : List Nat) → u' i = u i) ∧ (p0.toInt < 0 ∨ 479 < p0.toInt ∨ 4 ≤ u 0) ∧ pq (dC, dI) a k τ y g u' sz t.heap) ∨ (∃ (u' : Nat → Int), (∀ i, i ∉ ([0] : List Nat) → u' i = u i) ∧ (0 ≤ p0.toInt ∧ p0.toInt ≤ 479 ∧ u 0 < 4) ∧ r.toInt = u 0 + 1 ∧ u' 0 = u 0 + 1 ∧ pq (dC, dI) a k τ y g u' sz t.heap)) (fr τ sz)) 0 0 (fr τ sz) := by
  refine Met.ofW (cc := cX11_post) (maxL := 2) (ret := (some .int)) (by decide) rfl ?_
  intro p e s m args below meth c s₁ B hml hv
  obtain ⟨rfl, hsz, hT, hK, hM⟩ := hv
  have hx := B.exec
  have hb := B.bytes
  have hr := B.returns
  have hts := atoms_spec (ws := wm_c_post) B.pre
  have hown : s.vm.findClass RX11 = some m.cls := findClass_of_methodNamed B.named
  have hlocks := B.notSynchronized
  subst hsz
  generalize hAe : fr τ s.heap.size = A at hM ⊢
  have hA : ∀ q : Nat, s.heap.size ≤ q → A q := fun q h => by rw [← hAe]; exact Or.inr h
  have hF : ∀ q, τ q ≠ 0 → A q := fun q h => by rw [← hAe]; exact Or.inl h
  have hS : va_S A s.heap s.heap [] := va_S.rf
  have hX := hI.1
  have hR := ic_r hI
  have hMo : mono τ τ s.heap.size := mono.rf
  have hKM : kpM τ y g y g := kpM.rf
  have hl := lv_entry ([.ref (a 0), .int p0]) (n := 2) (Nat.le_of_ble_eq_true rfl)
  rw [lg_entry_eq]
  generalize (lg_sl ([.ref (a 0), .int p0]) ++ List.replicate (2 - (lg_sl ([.ref (a 0), .int p0])).length) Slot.unset).toArray = ls at hl ⊢
  have hl : lv_has ls 2 [(0, .ref (a 0)), (1, .int p0)] := hl
  refine lv_iload_n hx hb dX11_post_0 rfl (lv_at hl 1 rfl) ?_
  refine lv_iconst (v := 0) hx hb dX11_post_1 (by decide) ?_
  refine lv_sipush (v := 479) hx hb dX11_post_2 (by decide) ?_
  have hFc := tw_free hF hS hA
  have hp_1 : (0 : Int32).toInt = 0 := (zk (x := 0) 0 rfl)
  have hp_2 : (479 : Int32).toInt = 479 := (zk (x := 479) 479 rfl)
  refine va_calli (va_runS (As := [.int p0, .int 0, .int 479]) (rest := []) ⟨hx, hb, hml, hown, hts⟩ (c_within l dC dI ad av s.heap.size a k τ ln y g u p0 (0 : Int32) (479 : Int32)  ) (va_cwS 3 hts (gi_3 (List.mem_cons_of_mem _ (List.mem_append_left _ (List.mem_of_getElem? (i := 0) rfl))) (List.mem_cons_of_mem _ (List.mem_append_left _ (List.mem_of_getElem? (i := 1) rfl))) (List.mem_cons_of_mem _ (List.mem_append_left _ (List.mem_of_getElem? (i := 2) rfl))) (fun _ hh => (List.mem_cons_of_mem _ (List.mem_append_right _ (List.mem_append_left _ hh)))) gd_c_within) rfl rfl rfl (by decide +kernel) ⟨Nat.le_of_ble_eq_true rfl, Nat.le_of_ble_eq_true rfl⟩) ⟨pw_blind, pw_use hT hK hFc hS hM⟩ rfl rfl hl.1 rfl (lv_room (Nat.le_of_ble_eq_true rfl)) dX11_post_5 ⟨Nat.le_of_ble_eq_true rfl, Nat.le_of_ble_eq_true rfl⟩) hS (fun q _ h => hFc q h) hFc (fun r0 r_3 t H locs ht hvm hw hB hz1 hk1 hS => ?_)
  refine W.widen (k := 0) (n := 0) (Nat.le_of_ble_eq_true rfl) (Nat.le_of_ble_eq_true rfl) ?_
  clear hvm hz1 hk1
  subst hw
  rcases hB with ⟨hre, hf_4, hf_5, hT⟩ | ⟨hre, hf_6, hT⟩
  · refine lq_top (v := 1) hre ?_
    rw [ht] at hT
    try simp only [hp_1, hp_2] at hf_4 hf_5
    clear hp_1 hp_2
    refine lv_if_eq (tgt := 22) hx hb dX11_post_8 (by decide) (fun c_7 => absurd c_7 (by decide)) (fun c_7 => ?_)
    refine lv_aload_n hx hb dX11_post_11 rfl (lv_at hl 0 rfl) ?_
    refine tw_get (D := (dC, dI)) (v := .ref (a 1)) (C := RX11) (T := TX11) (N := 10) hx hb hts (fun _ hh => (List.mem_cons_of_mem _ (List.mem_append_right _ (List.mem_append_right _ (List.mem_append_left _ hh))))) hown hK hT (fx_0 hX) (by decide) cl_e10 rfl 0 (by decide) (hts (.fieldLink RX11 10 "TypingPool" "book" "LTypingPool$Book;") (List.mem_cons_of_mem _ (List.mem_append_left _ (List.mem_of_getElem? (i := 3) rfl)))) (fun _ h9 => h9) rfl dX11_post_12 ?_
    refine tw_get (D := (dC, dI)) (v := .int (y (a 1) 1)) (C := RX1) (T := TX1) (N := 8) hx hb hts (fun _ hh => (List.mem_cons_of_mem _ (List.mem_append_right _ (List.mem_append_right _ (List.mem_append_right _ (List.mem_append_left _ hh)))))) hown hK hT (fx_1 hX) (by decide) cl_e11 rfl 1 (by decide) (hts (.fieldLink RX11 72 "TypingPool$Book" "postCount" "I") (List.mem_cons_of_mem _ (List.mem_append_left _ (List.mem_of_getElem? (i := 4) rfl)))) (fun _ h9 => h9) rfl dX11_post_15 ?_
    have hc_8 := ic_0 hI
    refine lv_iconst (v := 4) hx hb dX11_post_18 (by decide) ?_
    refine lv_icmp_lt (tgt := 24) hx hb dX11_post_19 (by decide) (fun c_9 => ?_) (fun c_9 => ?_)
    · have nc_9 := z_lt hc_8 (zk (x := 4) 4 rfl) c_9
      refine lv_aload_n hx hb dX11_post_24 rfl (lv_at hl 0 rfl) ?_
      refine tw_get (D := (dC, dI)) (v := .ref (a 1)) (C := RX11) (T := TX11) (N := 10) hx hb hts (fun _ hh => (List.mem_cons_of_mem _ (List.mem_append_right _ (List.mem_append_right _ (List.mem_append_left _ hh))))) hown hK hT (fx_0 hX) (by decide) cl_e10 rfl 0 (by decide) (hts (.fieldLink RX11 10 "TypingPool" "book" "LTypingPool$Book;") (List.mem_cons_of_mem _ (List.mem_append_left _ (List.mem_of_getElem? (i := 3) rfl)))) (fun _ h9 => h9) rfl dX11_post_25 ?_
      refine tw_get (D := (dC, dI)) (v := .ref (a 9)) (C := RX1) (T := TX1) (N := 8) hx hb hts (fun _ hh => (List.mem_cons_of_mem _ (List.mem_append_right _ (List.mem_append_right _ (List.mem_append_right _ (List.mem_append_left _ hh)))))) hown hK hT (fx_1 hX) (by decide) cl_e11 rfl 0 (by decide) (hts (.fieldLink RX11 75 "TypingPool$Book" "posts" "[I") (List.mem_cons_of_mem _ (List.mem_append_left _ (List.mem_of_getElem? (i := 5) rfl)))) (fun _ h9 => h9) rfl dX11_post_28 ?_
      refine lv_aload_n hx hb dX11_post_31 rfl (lv_at hl 0 rfl) ?_
      refine tw_get (D := (dC, dI)) (v := .ref (a 1)) (C := RX11) (T := TX11) (N := 10) hx hb hts (fun _ hh => (List.mem_cons_of_mem _ (List.mem_append_right _ (List.mem_append_right _ (List.mem_append_left _ hh))))) hown hK hT (fx_0 hX) (by decide) cl_e10 rfl 0 (by decide) (hts (.fieldLink RX11 10 "TypingPool" "book" "LTypingPool$Book;") (List.mem_cons_of_mem _ (List.mem_append_left _ (List.mem_of_getElem? (i := 3) rfl)))) (fun _ h9 => h9) rfl dX11_post_32 ?_
      refine tw_get (D := (dC, dI)) (v := .int (y (a 1) 1)) (C := RX1) (T := TX1) (N := 8) hx hb hts (fun _ hh => (List.mem_cons_of_mem _ (List.mem_append_right _ (List.mem_append_right _ (List.mem_append_right _ (List.mem_append_left _ hh)))))) hown hK hT (fx_1 hX) (by decide) cl_e11 rfl 1 (by decide) (hts (.fieldLink RX11 72 "TypingPool$Book" "postCount" "I") (List.mem_cons_of_mem _ (List.mem_append_left _ (List.mem_of_getElem? (i := 4) rfl)))) (fun _ h9 => h9) rfl dX11_post_35 ?_
      have hc_10 := ic_0 hI
      refine lv_iload_n hx hb dX11_post_38 rfl (lv_at hl 1 rfl) ?_
      have hbd_11 : 0 ≤ u 0 ∧ u 0 < 4 := by omega
      refine tw_iast hx hb hK hT hF hS 0 (fx_9 hX) (by decide) (fun _ => cl_e19) rfl (z_in hc_10 hbd_11.1 hbd_11.2) dX11_post_39 (fun H locs hT hS => ?_)
      obtain ⟨y_12, hy_12, hT⟩ : ∃ z : Nat → Nat → Int32, z = up2 y (a 9) ((y (a 1) 1).toNatClampNeg) p0 ∧ tw (dC, dI) a k τ ln z g H := ⟨_, rfl, hT⟩
      have hKM : kpM τ y g y_12 g := by rw [hy_12]; exact hKM.up hMo (fx_9 hX) (by decide)
      have hI := hI.ag (S := [19]) (y' := y_12) (by rw [hy_12]; exact ag.one (fx_9 hX)) (by decide)
      refine lv_aload_n hx hb dX11_post_40 rfl (lv_at hl 0 rfl) ?_
      refine tw_get (D := (dC, dI)) (v := .ref (a 1)) (C := RX11) (T := TX11) (N := 10) hx hb hts (fun _ hh => (List.mem_cons_of_mem _ (List.mem_append_right _ (List.mem_append_right _ (List.mem_append_left _ hh))))) hown hK hT (fx_0 hX) (by decide) cl_e10 rfl 0 (by decide) (hts (.fieldLink RX11 10 "TypingPool" "book" "LTypingPool$Book;") (List.mem_cons_of_mem _ (List.mem_append_left _ (List.mem_of_getElem? (i := 3) rfl)))) (fun _ h9 => h9) rfl dX11_post_41 ?_
      refine lv_dup hx hb dX11_post_44 rfl ?_
      refine tw_get (D := (dC, dI)) (v := .int (y_12 (a 1) 1)) (C := RX1) (T := TX1) (N := 8) hx hb hts (fun _ hh => (List.mem_cons_of_mem _ (List.mem_append_right _ (List.mem_append_right _ (List.mem_append_right _ (List.mem_append_left _ hh)))))) hown hK hT (fx_1 hX) (by decide) cl_e11 rfl 1 (by decide) (hts (.fieldLink RX11 72 "TypingPool$Book" "postCount" "I") (List.mem_cons_of_mem _ (List.mem_append_left _ (List.mem_of_getElem? (i := 4) rfl)))) (fun _ h9 => h9) rfl dX11_post_45 ?_
      have hc_13 := ic_0 hI
      refine lv_iconst (v := 1) hx hb dX11_post_48 (by decide) ?_
      refine lv_iadd hx hb dX11_post_49 ?_
      refine lv_topi (fun x_14 ex_14 => ?_)
      have hx_14 := z_add ex_14 hc_13 (zk (x := 1) 1 rfl) (by omega) (by omega)
      refine tw_put (D := (dC, dI)) (x := x_14) (ty := .int) (C := RX1) (T := TX1) (N := 8) hx hb hts (fun _ hh => (List.mem_cons_of_mem _ (List.mem_append_right _ (List.mem_append_right _ (List.mem_append_right _ (List.mem_append_left _ hh)))))) tyX1 tyX1_ok nmX1 hown hK hT hF hS (fx_1 hX) (by decide) cl_e11 rfl 1 (by decide) (hts (.fieldLink RX11 72 "TypingPool$Book" "postCount" "I") (List.mem_cons_of_mem _ (List.mem_append_left _ (List.mem_of_getElem? (i := 4) rfl)))) (fun _ h9 => h9) rfl (tyX1_ok 1 (by decide)) rfl rfl (Nat.le_of_ble_eq_true rfl) rfl dX11_post_50 (fun H locs hT hS => ?_)
      obtain ⟨y_15, hy_15, hT⟩ : ∃ z : Nat → Nat → Int32, z = up2 y_12 (a 1) 1 x_14 ∧ tw (dC, dI) a k τ ln z g H := ⟨_, rfl, hT⟩
      have hKM : kpM τ y g y_15 g := by rw [hy_15]; exact hKM.up hMo (fx_1 hX) (by decide)
      have hp_16 : x_14.toInt = x_14.toInt := rfl
      have hI := hI.cnt0 (by rw [hp_16]; first | done | omega) (by omega)
      rw [← hy_15] at hI
      refine lv_aload_n hx hb dX11_post_53 rfl (lv_at hl 0 rfl) ?_
      refine tw_get (D := (dC, dI)) (v := .ref (a 1)) (C := RX11) (T := TX11) (N := 10) hx hb hts (fun _ hh => (List.mem_cons_of_mem _ (List.mem_append_right _ (List.mem_append_right _ (List.mem_append_left _ hh))))) hown hK hT (fx_0 hX) (by decide) cl_e10 rfl 0 (by decide) (hts (.fieldLink RX11 10 "TypingPool" "book" "LTypingPool$Book;") (List.mem_cons_of_mem _ (List.mem_append_left _ (List.mem_of_getElem? (i := 3) rfl)))) (fun _ h9 => h9) rfl dX11_post_54 ?_
      refine tw_get (D := (dC, dI)) (v := .int (y_15 (a 1) 1)) (C := RX1) (T := TX1) (N := 8) hx hb hts (fun _ hh => (List.mem_cons_of_mem _ (List.mem_append_right _ (List.mem_append_right _ (List.mem_append_right _ (List.mem_append_left _ hh)))))) hown hK hT (fx_1 hX) (by decide) cl_e11 rfl 1 (by decide) (hts (.fieldLink RX11 72 "TypingPool$Book" "postCount" "I") (List.mem_cons_of_mem _ (List.mem_append_left _ (List.mem_of_getElem? (i := 4) rfl)))) (fun _ h9 => h9) rfl dX11_post_57 ?_
      have hc_17 : (y_15 (a 1) 1).toInt = u 0 + 1 := by rw [ic_0 hI]; simp [upc]
      have hrv : (y_15 (a 1) 1).toInt = u 0 + 1 := hc_17
      exact W.iret (v := y_15 (a 1) 1) hx hb hr (fun t ht hW9 => ⟨⟨y_15 (a 1) 1, y_15 (a 1) 1, rfl, rfl, Or.inr (⟨(upc u 0 (u 0 + 1)), (by intro i hi; simp only [List.mem_cons, List.not_mem_nil, or_false, not_or] at hi; unfold upc; repeat rw [if_neg (by omega)]), by omega, by omega, upc_i, ⟨τ, ln, y_15, g, hMo, hKM, hI, tw_at ht hT⟩⟩)⟩, hS.F ht⟩) hS.2.2 dX11_post_60
    · have nc_9 := z_nlt hc_8 (zk (x := 4) 4 rfl) c_9
      refine lv_iconst (v := (-1)) hx hb dX11_post_22 (by decide) ?_
      have hrv : (-1 : Int32).toInt = (-1) := (zk (x := (-1)) (-1) rfl)
      exact W.iret (v := (-1)) hx hb hr (fun t ht hW9 => ⟨⟨(-1), (-1), rfl, rfl, Or.inl ⟨u, rfl, fun _ _ => rfl, by omega, ⟨τ, ln, y, g, hMo, hKM, hI, tw_at ht hT⟩⟩⟩, hS.F ht⟩) hS.2.2 dX11_post_23
  · refine lq_top (v := 0) hre ?_
    rw [ht] at hT
    try simp only [hp_1, hp_2] at hf_6
    clear hp_1 hp_2
    refine lv_if_eq (tgt := 22) hx hb dX11_post_8 (by decide) (fun c_18 => ?_) (fun c_18 => absurd c_18 (by decide))
    refine lv_iconst (v := (-1)) hx hb dX11_post_22 (by decide) ?_
    have hrv : (-1 : Int32).toInt = (-1) := (zk (x := (-1)) (-1) rfl)
    exact W.iret (v := (-1)) hx hb hr (fun t ht hW9 => ⟨⟨(-1), (-1), rfl, rfl, Or.inl ⟨u, rfl, fun _ _ => rfl, by omega, ⟨τ, ln, y, g, hMo, hKM, hI, tw_at ht hT⟩⟩⟩, hS.F ht⟩) hS.2.2 dX11_post_23
def wo_c_sign : List Cond := [.fieldLink RX11 57 "TypingPool" "textLength" "I", .fieldLink RX11 53 "TypingPool" "text" "[C"]
def wm_c_sign : List Cond := .code yX11_sign cX11_sign 3 (some .int) :: (wo_c_sign ++ (wsX110 ++ ([] : List Cond)))
theorem gd_c_sign : ∀ w ∈ wm_c_sign, goodWord w = true := gd_c rfl (gd_a (by decide) (gd_a gd_wsX110 gd_nil))
set_option maxRecDepth 20000 in
theorem im_c_sign : ∀ w ∈ wm_c_sign, w ∈ lw_tbl := im_c (in_r [.code yX11_sign cX11_sign 3 (some .int)] [730] (by decide +kernel)) (in_app (in_r wo_c_sign [566, 565] (by decide +kernel)) (in_app im_wsX110 im_nil))
set_option maxHeartbeats 4000000 in
set_option maxRecDepth 100000 in
theorem c_sign (l : Launch) (dC : Nat → ClassId) (dI : Nat → Nat → Nat) (ad av : Nat → Nat) (sz : Nat) (a : Nat → Nat) (k : Nat → ClassId) (τ ln : Nat → Nat) (y : Nat → Nat → Int32) (g : Nat → Nat → Option Nat) (u : Nat → Int) (p0 : Int32) (hI : IC a u τ ln y g) : Met l yX11_sign wm_c_sign ({ frames := 0, cells := 0, slots := 0, locals := 0 }) (pw_ ad av (dC, dI) sz [.ref (a 0), .int p0] a k τ ln y g) (va_Qi (fun (r u : Int32) => u = r) (fun (r : Int32) (t : State) => (∃ (u' : Nat → Int), (∀ i, i ∉ ([6] : List Nat) → u' i = u i) ∧ pq (dC, dI) a k τ y g u' sz t.heap)) (fr τ sz)) 0 0 (fr τ sz) := by
  refine Met.ofW (cc := cX11_sign) (maxL := 3) (ret := (some .int)) (by decide) rfl ?_
  intro p e s m args below meth c s₁ B hml hv
  obtain ⟨rfl, hsz, hT, hK, hM⟩ := hv
  have hx := B.exec
  have hb := B.bytes
  have hr := B.returns
  have hts := atoms_spec (ws := wm_c_sign) B.pre
  have hown : s.vm.findClass RX11 = some m.cls := findClass_of_methodNamed B.named
  have hlocks := B.notSynchronized
  subst hsz
  generalize hAe : fr τ s.heap.size = A at hM ⊢
  have hA : ∀ q : Nat, s.heap.size ≤ q → A q := fun q h => by rw [← hAe]; exact Or.inr h
  have hF : ∀ q, τ q ≠ 0 → A q := fun q h => by rw [← hAe]; exact Or.inl h
  have hS : va_S A s.heap s.heap [] := va_S.rf
  have hX := hI.1
  have hR := ic_r hI
  have hMo : mono τ τ s.heap.size := mono.rf
  have hKM : kpM τ y g y g := kpM.rf
  have hl := lv_entry ([.ref (a 0), .int p0]) (n := 3) (Nat.le_of_ble_eq_true rfl)
  rw [lg_entry_eq]
  generalize (lg_sl ([.ref (a 0), .int p0]) ++ List.replicate (3 - (lg_sl ([.ref (a 0), .int p0])).length) Slot.unset).toArray = ls at hl ⊢
  have hl : lv_has ls 3 [(0, .ref (a 0)), (1, .int p0)] := hl
  refine lv_aload_n hx hb dX11_sign_0 rfl (lv_at hl 0 rfl) ?_
  refine tw_get (D := (dC, dI)) (v := .int (y (a 0) 7)) (C := RX11) (T := TX11) (N := 10) hx hb hts (fun _ hh => (List.mem_cons_of_mem _ (List.mem_append_right _ (List.mem_append_left _ hh)))) hown hK hT (fx_0 hX) (by decide) cl_e10 rfl 7 (by decide) (hts (.fieldLink RX11 57 "TypingPool" "textLength" "I") (List.mem_cons_of_mem _ (List.mem_append_left _ (List.mem_of_getElem? (i := 0) rfl)))) (fun _ h9 => h9) rfl dX11_sign_1 ?_
  have hc_1 := ic_6 hI
  refine lv_iconst (v := 4) hx hb dX11_sign_4 (by decide) ?_
  refine lv_iadd hx hb dX11_sign_5 ?_
  refine lv_topi (fun x_2 ex_2 => ?_)
  have hx_2 := z_add ex_2 hc_1 (zk (x := 4) 4 rfl) (by omega) (by omega)
  refine lv_bipush (v := 100) hx hb dX11_sign_6 (by decide) ?_
  refine lv_icmp_le (tgt := 13) hx hb dX11_sign_8 (by decide) (fun c_3 => ?_) (fun c_3 => ?_)
  · have nc_3 := z_le rfl (zk (x := 100) 100 rfl) c_3
    refine lv_bipush (v := 24) hx hb dX11_sign_13 (by decide) ?_
    refine lv_istore_n (lv' := [(2, .int 24), (0, .ref (a 0)), (1, .int p0)]) hx hb dX11_sign_15 rfl hl (by decide) rfl (fun ls hl => ?_)
    refine lv_iload_n hx hb dX11_sign_16 rfl (lv_at hl 0 rfl) ?_
    refine lv_if_lt (tgt := 53) hx hb dX11_sign_17 (by decide) (fun c_4 => absurd c_4 (by decide)) (fun c_4 => ?_)
    refine lv_aload_n hx hb dX11_sign_20 rfl (lv_at hl 1 rfl) ?_
    refine tw_get (D := (dC, dI)) (v := .ref (a 7)) (C := RX11) (T := TX11) (N := 10) hx hb hts (fun _ hh => (List.mem_cons_of_mem _ (List.mem_append_right _ (List.mem_append_left _ hh)))) hown hK hT (fx_0 hX) (by decide) cl_e10 rfl 6 (by decide) (hts (.fieldLink RX11 53 "TypingPool" "text" "[C") (List.mem_cons_of_mem _ (List.mem_append_left _ (List.mem_of_getElem? (i := 1) rfl)))) (fun _ h9 => h9) rfl dX11_sign_21 ?_
    refine lv_aload_n hx hb dX11_sign_24 rfl (lv_at hl 1 rfl) ?_
    refine tw_get (D := (dC, dI)) (v := .int (y (a 0) 7)) (C := RX11) (T := TX11) (N := 10) hx hb hts (fun _ hh => (List.mem_cons_of_mem _ (List.mem_append_right _ (List.mem_append_left _ hh)))) hown hK hT (fx_0 hX) (by decide) cl_e10 rfl 7 (by decide) (hts (.fieldLink RX11 57 "TypingPool" "textLength" "I") (List.mem_cons_of_mem _ (List.mem_append_left _ (List.mem_of_getElem? (i := 0) rfl)))) (fun _ h9 => h9) rfl dX11_sign_25 ?_
    have hc_5 := ic_6 hI
    refine lv_iload_n hx hb dX11_sign_28 rfl (lv_at hl 2 rfl) ?_
    refine lv_iload_n hx hb dX11_sign_29 rfl (lv_at hl 0 rfl) ?_
    refine lv_iushr hx hb dX11_sign_30 rfl ?_
    refine lv_topi (fun x_6 ex_6 => ?_)
    refine lv_sipush (v := 255) hx hb dX11_sign_31 (by decide) ?_
    refine lv_iand hx hb dX11_sign_34 ?_
    refine lv_topi (fun x_7 ex_7 => ?_)
    have hx_7 := z_and (x := x_6) (zk (x := 255) 255 rfl) (by omega)
    rw [← ex_7] at hx_7
    refine lv_i2c hx hb dX11_sign_35 rfl ?_
    refine lv_topi (fun x_8 ex_8 => ?_)
    have hbd_9 : 0 ≤ u 6 ∧ u 6 < 100 := by omega
    refine tw_cast hx hb hK hT hF hS 1 (fx_7 hX) (by decide) (fun _ => cl_e17) rfl (z_in hc_5 hbd_9.1 hbd_9.2) dX11_sign_36 (fun H locs hT hS => ?_)
    obtain ⟨y_10, hy_10, hT⟩ : ∃ z : Nat → Nat → Int32, z = up2 y (a 7) ((y (a 0) 7).toNatClampNeg) (vp_nar .char x_8) ∧ tw (dC, dI) a k τ ln z g H := ⟨_, rfl, hT⟩
    have hKM : kpM τ y g y_10 g := by rw [hy_10]; exact hKM.up hMo (fx_7 hX) (by decide)
    have hI := hI.ag (S := [17]) (y' := y_10) (by rw [hy_10]; exact ag.one (fx_7 hX)) (by decide)
    refine lv_aload_n hx hb dX11_sign_37 rfl (lv_at hl 1 rfl) ?_
    refine lv_dup hx hb dX11_sign_38 rfl ?_
    refine tw_get (D := (dC, dI)) (v := .int (y_10 (a 0) 7)) (C := RX11) (T := TX11) (N := 10) hx hb hts (fun _ hh => (List.mem_cons_of_mem _ (List.mem_append_right _ (List.mem_append_left _ hh)))) hown hK hT (fx_0 hX) (by decide) cl_e10 rfl 7 (by decide) (hts (.fieldLink RX11 57 "TypingPool" "textLength" "I") (List.mem_cons_of_mem _ (List.mem_append_left _ (List.mem_of_getElem? (i := 0) rfl)))) (fun _ h9 => h9) rfl dX11_sign_39 ?_
    have hc_11 := ic_6 hI
    refine lv_iconst (v := 1) hx hb dX11_sign_42 (by decide) ?_
    refine lv_iadd hx hb dX11_sign_43 ?_
    refine lv_topi (fun x_12 ex_12 => ?_)
    have hx_12 := z_add ex_12 hc_11 (zk (x := 1) 1 rfl) (by omega) (by omega)
    refine tw_put (D := (dC, dI)) (x := x_12) (ty := .int) (C := RX11) (T := TX11) (N := 10) hx hb hts (fun _ hh => (List.mem_cons_of_mem _ (List.mem_append_right _ (List.mem_append_left _ hh)))) tyX11 tyX11_ok nmX11 hown hK hT hF hS (fx_0 hX) (by decide) cl_e10 rfl 7 (by decide) (hts (.fieldLink RX11 57 "TypingPool" "textLength" "I") (List.mem_cons_of_mem _ (List.mem_append_left _ (List.mem_of_getElem? (i := 0) rfl)))) (fun _ h9 => h9) rfl (tyX11_ok 7 (by decide)) rfl rfl (Nat.le_of_ble_eq_true rfl) rfl dX11_sign_44 (fun H locs hT hS => ?_)
    obtain ⟨y_13, hy_13, hT⟩ : ∃ z : Nat → Nat → Int32, z = up2 y_10 (a 0) 7 x_12 ∧ tw (dC, dI) a k τ ln z g H := ⟨_, rfl, hT⟩
    have hKM : kpM τ y g y_13 g := by rw [hy_13]; exact hKM.up hMo (fx_0 hX) (by decide)
    have hp_14 : x_12.toInt = x_12.toInt := rfl
    have hI := (hI.set6 hp_14 (by omega) (by omega))
    rw [← hy_13] at hI
    refine lv_iinc (v := 16) (lv' := [(2, .int 16), (0, .ref (a 0)), (1, .int p0)]) hx hb dX11_sign_47 hl (k := 0) rfl (by decide) (by decide) rfl (fun ls hl => ?_)
    refine lv_goto (tgt := 16) hx hb dX11_sign_50 (by decide) ?_
    refine lv_iload_n hx hb dX11_sign_16 rfl (lv_at hl 0 rfl) ?_
    refine lv_if_lt (tgt := 53) hx hb dX11_sign_17 (by decide) (fun c_15 => absurd c_15 (by decide)) (fun c_15 => ?_)
    refine lv_aload_n hx hb dX11_sign_20 rfl (lv_at hl 1 rfl) ?_
    refine tw_get (D := (dC, dI)) (v := .ref (a 7)) (C := RX11) (T := TX11) (N := 10) hx hb hts (fun _ hh => (List.mem_cons_of_mem _ (List.mem_append_right _ (List.mem_append_left _ hh)))) hown hK hT (fx_0 hX) (by decide) cl_e10 rfl 6 (by decide) (hts (.fieldLink RX11 53 "TypingPool" "text" "[C") (List.mem_cons_of_mem _ (List.mem_append_left _ (List.mem_of_getElem? (i := 1) rfl)))) (fun _ h9 => h9) rfl dX11_sign_21 ?_
    refine lv_aload_n hx hb dX11_sign_24 rfl (lv_at hl 1 rfl) ?_
    refine tw_get (D := (dC, dI)) (v := .int (y_13 (a 0) 7)) (C := RX11) (T := TX11) (N := 10) hx hb hts (fun _ hh => (List.mem_cons_of_mem _ (List.mem_append_right _ (List.mem_append_left _ hh)))) hown hK hT (fx_0 hX) (by decide) cl_e10 rfl 7 (by decide) (hts (.fieldLink RX11 57 "TypingPool" "textLength" "I") (List.mem_cons_of_mem _ (List.mem_append_left _ (List.mem_of_getElem? (i := 0) rfl)))) (fun _ h9 => h9) rfl dX11_sign_25 ?_
    have hc_16 : (y_13 (a 0) 7).toInt = x_12.toInt := by rw [ic_6 hI]; simp [upc]
    refine lv_iload_n hx hb dX11_sign_28 rfl (lv_at hl 2 rfl) ?_
    refine lv_iload_n hx hb dX11_sign_29 rfl (lv_at hl 0 rfl) ?_
    refine lv_iushr hx hb dX11_sign_30 rfl ?_
    refine lv_topi (fun x_17 ex_17 => ?_)
    refine lv_sipush (v := 255) hx hb dX11_sign_31 (by decide) ?_
    refine lv_iand hx hb dX11_sign_34 ?_
    refine lv_topi (fun x_18 ex_18 => ?_)
    have hx_18 := z_and (x := x_17) (zk (x := 255) 255 rfl) (by omega)
    rw [← ex_18] at hx_18
    refine lv_i2c hx hb dX11_sign_35 rfl ?_
    refine lv_topi (fun x_19 ex_19 => ?_)
    refine tw_cast hx hb hK hT hF hS 1 (fx_7 hX) (by decide) (fun _ => cl_e17) rfl (z_in hc_16 (by omega) (by omega)) dX11_sign_36 (fun H locs hT hS => ?_)
    obtain ⟨y_20, hy_20, hT⟩ : ∃ z : Nat → Nat → Int32, z = up2 y_13 (a 7) ((y_13 (a 0) 7).toNatClampNeg) (vp_nar .char x_19) ∧ tw (dC, dI) a k τ ln z g H := ⟨_, rfl, hT⟩
    have hKM : kpM τ y g y_20 g := by rw [hy_20]; exact hKM.up hMo (fx_7 hX) (by decide)
    have hI := hI.ag (S := [17]) (y' := y_20) (by rw [hy_20]; exact ag.one (fx_7 hX)) (by decide)
    refine lv_aload_n hx hb dX11_sign_37 rfl (lv_at hl 1 rfl) ?_
    refine lv_dup hx hb dX11_sign_38 rfl ?_
    refine tw_get (D := (dC, dI)) (v := .int (y_20 (a 0) 7)) (C := RX11) (T := TX11) (N := 10) hx hb hts (fun _ hh => (List.mem_cons_of_mem _ (List.mem_append_right _ (List.mem_append_left _ hh)))) hown hK hT (fx_0 hX) (by decide) cl_e10 rfl 7 (by decide) (hts (.fieldLink RX11 57 "TypingPool" "textLength" "I") (List.mem_cons_of_mem _ (List.mem_append_left _ (List.mem_of_getElem? (i := 0) rfl)))) (fun _ h9 => h9) rfl dX11_sign_39 ?_
    have hc_21 : (y_20 (a 0) 7).toInt = x_12.toInt := by rw [ic_6 hI]; simp [upc]
    refine lv_iconst (v := 1) hx hb dX11_sign_42 (by decide) ?_
    refine lv_iadd hx hb dX11_sign_43 ?_
    refine lv_topi (fun x_22 ex_22 => ?_)
    have hx_22 := z_add ex_22 hc_21 (zk (x := 1) 1 rfl) (by omega) (by omega)
    refine tw_put (D := (dC, dI)) (x := x_22) (ty := .int) (C := RX11) (T := TX11) (N := 10) hx hb hts (fun _ hh => (List.mem_cons_of_mem _ (List.mem_append_right _ (List.mem_append_left _ hh)))) tyX11 tyX11_ok nmX11 hown hK hT hF hS (fx_0 hX) (by decide) cl_e10 rfl 7 (by decide) (hts (.fieldLink RX11 57 "TypingPool" "textLength" "I") (List.mem_cons_of_mem _ (List.mem_append_left _ (List.mem_of_getElem? (i := 0) rfl)))) (fun _ h9 => h9) rfl (tyX11_ok 7 (by decide)) rfl rfl (Nat.le_of_ble_eq_true rfl) rfl dX11_sign_44 (fun H locs hT hS => ?_)
    obtain ⟨y_23, hy_23, hT⟩ : ∃ z : Nat → Nat → Int32, z = up2 y_20 (a 0) 7 x_22 ∧ tw (dC, dI) a k τ ln z g H := ⟨_, rfl, hT⟩
    have hKM : kpM τ y g y_23 g := by rw [hy_23]; exact hKM.up hMo (fx_0 hX) (by decide)
    have hp_24 : x_22.toInt = x_22.toInt := rfl
    have hI := (hI.set6 hp_24 (by omega) (by omega))
    rw [upc_2, ← hy_23] at hI
    refine lv_iinc (v := 8) (lv' := [(2, .int 8), (0, .ref (a 0)), (1, .int p0)]) hx hb dX11_sign_47 hl (k := 0) rfl (by decide) (by decide) rfl (fun ls hl => ?_)
    refine lv_goto (tgt := 16) hx hb dX11_sign_50 (by decide) ?_
    refine lv_iload_n hx hb dX11_sign_16 rfl (lv_at hl 0 rfl) ?_
    refine lv_if_lt (tgt := 53) hx hb dX11_sign_17 (by decide) (fun c_25 => absurd c_25 (by decide)) (fun c_25 => ?_)
    refine lv_aload_n hx hb dX11_sign_20 rfl (lv_at hl 1 rfl) ?_
    refine tw_get (D := (dC, dI)) (v := .ref (a 7)) (C := RX11) (T := TX11) (N := 10) hx hb hts (fun _ hh => (List.mem_cons_of_mem _ (List.mem_append_right _ (List.mem_append_left _ hh)))) hown hK hT (fx_0 hX) (by decide) cl_e10 rfl 6 (by decide) (hts (.fieldLink RX11 53 "TypingPool" "text" "[C") (List.mem_cons_of_mem _ (List.mem_append_left _ (List.mem_of_getElem? (i := 1) rfl)))) (fun _ h9 => h9) rfl dX11_sign_21 ?_
    refine lv_aload_n hx hb dX11_sign_24 rfl (lv_at hl 1 rfl) ?_
    refine tw_get (D := (dC, dI)) (v := .int (y_23 (a 0) 7)) (C := RX11) (T := TX11) (N := 10) hx hb hts (fun _ hh => (List.mem_cons_of_mem _ (List.mem_append_right _ (List.mem_append_left _ hh)))) hown hK hT (fx_0 hX) (by decide) cl_e10 rfl 7 (by decide) (hts (.fieldLink RX11 57 "TypingPool" "textLength" "I") (List.mem_cons_of_mem _ (List.mem_append_left _ (List.mem_of_getElem? (i := 0) rfl)))) (fun _ h9 => h9) rfl dX11_sign_25 ?_
    have hc_26 : (y_23 (a 0) 7).toInt = x_22.toInt := by rw [ic_6 hI]; simp [upc]
    refine lv_iload_n hx hb dX11_sign_28 rfl (lv_at hl 2 rfl) ?_
    refine lv_iload_n hx hb dX11_sign_29 rfl (lv_at hl 0 rfl) ?_
    refine lv_iushr hx hb dX11_sign_30 rfl ?_
    refine lv_topi (fun x_27 ex_27 => ?_)
    refine lv_sipush (v := 255) hx hb dX11_sign_31 (by decide) ?_
    refine lv_iand hx hb dX11_sign_34 ?_
    refine lv_topi (fun x_28 ex_28 => ?_)
    have hx_28 := z_and (x := x_27) (zk (x := 255) 255 rfl) (by omega)
    rw [← ex_28] at hx_28
    refine lv_i2c hx hb dX11_sign_35 rfl ?_
    refine lv_topi (fun x_29 ex_29 => ?_)
    refine tw_cast hx hb hK hT hF hS 1 (fx_7 hX) (by decide) (fun _ => cl_e17) rfl (z_in hc_26 (by omega) (by omega)) dX11_sign_36 (fun H locs hT hS => ?_)
    obtain ⟨y_30, hy_30, hT⟩ : ∃ z : Nat → Nat → Int32, z = up2 y_23 (a 7) ((y_23 (a 0) 7).toNatClampNeg) (vp_nar .char x_29) ∧ tw (dC, dI) a k τ ln z g H := ⟨_, rfl, hT⟩
    have hKM : kpM τ y g y_30 g := by rw [hy_30]; exact hKM.up hMo (fx_7 hX) (by decide)
    have hI := hI.ag (S := [17]) (y' := y_30) (by rw [hy_30]; exact ag.one (fx_7 hX)) (by decide)
    refine lv_aload_n hx hb dX11_sign_37 rfl (lv_at hl 1 rfl) ?_
    refine lv_dup hx hb dX11_sign_38 rfl ?_
    refine tw_get (D := (dC, dI)) (v := .int (y_30 (a 0) 7)) (C := RX11) (T := TX11) (N := 10) hx hb hts (fun _ hh => (List.mem_cons_of_mem _ (List.mem_append_right _ (List.mem_append_left _ hh)))) hown hK hT (fx_0 hX) (by decide) cl_e10 rfl 7 (by decide) (hts (.fieldLink RX11 57 "TypingPool" "textLength" "I") (List.mem_cons_of_mem _ (List.mem_append_left _ (List.mem_of_getElem? (i := 0) rfl)))) (fun _ h9 => h9) rfl dX11_sign_39 ?_
    have hc_31 : (y_30 (a 0) 7).toInt = x_22.toInt := by rw [ic_6 hI]; simp [upc]
    refine lv_iconst (v := 1) hx hb dX11_sign_42 (by decide) ?_
    refine lv_iadd hx hb dX11_sign_43 ?_
    refine lv_topi (fun x_32 ex_32 => ?_)
    have hx_32 := z_add ex_32 hc_31 (zk (x := 1) 1 rfl) (by omega) (by omega)
    refine tw_put (D := (dC, dI)) (x := x_32) (ty := .int) (C := RX11) (T := TX11) (N := 10) hx hb hts (fun _ hh => (List.mem_cons_of_mem _ (List.mem_append_right _ (List.mem_append_left _ hh)))) tyX11 tyX11_ok nmX11 hown hK hT hF hS (fx_0 hX) (by decide) cl_e10 rfl 7 (by decide) (hts (.fieldLink RX11 57 "TypingPool" "textLength" "I") (List.mem_cons_of_mem _ (List.mem_append_left _ (List.mem_of_getElem? (i := 0) rfl)))) (fun _ h9 => h9) rfl (tyX11_ok 7 (by decide)) rfl rfl (Nat.le_of_ble_eq_true rfl) rfl dX11_sign_44 (fun H locs hT hS => ?_)
    obtain ⟨y_33, hy_33, hT⟩ : ∃ z : Nat → Nat → Int32, z = up2 y_30 (a 0) 7 x_32 ∧ tw (dC, dI) a k τ ln z g H := ⟨_, rfl, hT⟩
    have hKM : kpM τ y g y_33 g := by rw [hy_33]; exact hKM.up hMo (fx_0 hX) (by decide)
    have hp_34 : x_32.toInt = x_32.toInt := rfl
    have hI := (hI.set6 hp_34 (by omega) (by omega))
    rw [upc_2, ← hy_33] at hI
    refine lv_iinc (v := 0) (lv' := [(2, .int 0), (0, .ref (a 0)), (1, .int p0)]) hx hb dX11_sign_47 hl (k := 0) rfl (by decide) (by decide) rfl (fun ls hl => ?_)
    refine lv_goto (tgt := 16) hx hb dX11_sign_50 (by decide) ?_
    refine lv_iload_n hx hb dX11_sign_16 rfl (lv_at hl 0 rfl) ?_
    refine lv_if_lt (tgt := 53) hx hb dX11_sign_17 (by decide) (fun c_35 => absurd c_35 (by decide)) (fun c_35 => ?_)
    refine lv_aload_n hx hb dX11_sign_20 rfl (lv_at hl 1 rfl) ?_
    refine tw_get (D := (dC, dI)) (v := .ref (a 7)) (C := RX11) (T := TX11) (N := 10) hx hb hts (fun _ hh => (List.mem_cons_of_mem _ (List.mem_append_right _ (List.mem_append_left _ hh)))) hown hK hT (fx_0 hX) (by decide) cl_e10 rfl 6 (by decide) (hts (.fieldLink RX11 53 "TypingPool" "text" "[C") (List.mem_cons_of_mem _ (List.mem_append_left _ (List.mem_of_getElem? (i := 1) rfl)))) (fun _ h9 => h9) rfl dX11_sign_21 ?_
    refine lv_aload_n hx hb dX11_sign_24 rfl (lv_at hl 1 rfl) ?_
    refine tw_get (D := (dC, dI)) (v := .int (y_33 (a 0) 7)) (C := RX11) (T := TX11) (N := 10) hx hb hts (fun _ hh => (List.mem_cons_of_mem _ (List.mem_append_right _ (List.mem_append_left _ hh)))) hown hK hT (fx_0 hX) (by decide) cl_e10 rfl 7 (by decide) (hts (.fieldLink RX11 57 "TypingPool" "textLength" "I") (List.mem_cons_of_mem _ (List.mem_append_left _ (List.mem_of_getElem? (i := 0) rfl)))) (fun _ h9 => h9) rfl dX11_sign_25 ?_
    have hc_36 : (y_33 (a 0) 7).toInt = x_32.toInt := by rw [ic_6 hI]; simp [upc]
    refine lv_iload_n hx hb dX11_sign_28 rfl (lv_at hl 2 rfl) ?_
    refine lv_iload_n hx hb dX11_sign_29 rfl (lv_at hl 0 rfl) ?_
    refine lv_iushr hx hb dX11_sign_30 rfl ?_
    refine lv_topi (fun x_37 ex_37 => ?_)
    refine lv_sipush (v := 255) hx hb dX11_sign_31 (by decide) ?_
    refine lv_iand hx hb dX11_sign_34 ?_
    refine lv_topi (fun x_38 ex_38 => ?_)
    have hx_38 := z_and (x := x_37) (zk (x := 255) 255 rfl) (by omega)
    rw [← ex_38] at hx_38
    refine lv_i2c hx hb dX11_sign_35 rfl ?_
    refine lv_topi (fun x_39 ex_39 => ?_)
    refine tw_cast hx hb hK hT hF hS 1 (fx_7 hX) (by decide) (fun _ => cl_e17) rfl (z_in hc_36 (by omega) (by omega)) dX11_sign_36 (fun H locs hT hS => ?_)
    obtain ⟨y_40, hy_40, hT⟩ : ∃ z : Nat → Nat → Int32, z = up2 y_33 (a 7) ((y_33 (a 0) 7).toNatClampNeg) (vp_nar .char x_39) ∧ tw (dC, dI) a k τ ln z g H := ⟨_, rfl, hT⟩
    have hKM : kpM τ y g y_40 g := by rw [hy_40]; exact hKM.up hMo (fx_7 hX) (by decide)
    have hI := hI.ag (S := [17]) (y' := y_40) (by rw [hy_40]; exact ag.one (fx_7 hX)) (by decide)
    refine lv_aload_n hx hb dX11_sign_37 rfl (lv_at hl 1 rfl) ?_
    refine lv_dup hx hb dX11_sign_38 rfl ?_
    refine tw_get (D := (dC, dI)) (v := .int (y_40 (a 0) 7)) (C := RX11) (T := TX11) (N := 10) hx hb hts (fun _ hh => (List.mem_cons_of_mem _ (List.mem_append_right _ (List.mem_append_left _ hh)))) hown hK hT (fx_0 hX) (by decide) cl_e10 rfl 7 (by decide) (hts (.fieldLink RX11 57 "TypingPool" "textLength" "I") (List.mem_cons_of_mem _ (List.mem_append_left _ (List.mem_of_getElem? (i := 0) rfl)))) (fun _ h9 => h9) rfl dX11_sign_39 ?_
    have hc_41 : (y_40 (a 0) 7).toInt = x_32.toInt := by rw [ic_6 hI]; simp [upc]
    refine lv_iconst (v := 1) hx hb dX11_sign_42 (by decide) ?_
    refine lv_iadd hx hb dX11_sign_43 ?_
    refine lv_topi (fun x_42 ex_42 => ?_)
    have hx_42 := z_add ex_42 hc_41 (zk (x := 1) 1 rfl) (by omega) (by omega)
    refine tw_put (D := (dC, dI)) (x := x_42) (ty := .int) (C := RX11) (T := TX11) (N := 10) hx hb hts (fun _ hh => (List.mem_cons_of_mem _ (List.mem_append_right _ (List.mem_append_left _ hh)))) tyX11 tyX11_ok nmX11 hown hK hT hF hS (fx_0 hX) (by decide) cl_e10 rfl 7 (by decide) (hts (.fieldLink RX11 57 "TypingPool" "textLength" "I") (List.mem_cons_of_mem _ (List.mem_append_left _ (List.mem_of_getElem? (i := 0) rfl)))) (fun _ h9 => h9) rfl (tyX11_ok 7 (by decide)) rfl rfl (Nat.le_of_ble_eq_true rfl) rfl dX11_sign_44 (fun H locs hT hS => ?_)
    obtain ⟨y_43, hy_43, hT⟩ : ∃ z : Nat → Nat → Int32, z = up2 y_40 (a 0) 7 x_42 ∧ tw (dC, dI) a k τ ln z g H := ⟨_, rfl, hT⟩
    have hKM : kpM τ y g y_43 g := by rw [hy_43]; exact hKM.up hMo (fx_0 hX) (by decide)
    have hp_44 : x_42.toInt = x_42.toInt := rfl
    have hI := (hI.set6 hp_44 (by omega) (by omega))
    rw [upc_2, ← hy_43] at hI
    refine lv_iinc (v := (-8)) (lv' := [(2, .int (-8)), (0, .ref (a 0)), (1, .int p0)]) hx hb dX11_sign_47 hl (k := 0) rfl (by decide) (by decide) rfl (fun ls hl => ?_)
    refine lv_goto (tgt := 16) hx hb dX11_sign_50 (by decide) ?_
    refine lv_iload_n hx hb dX11_sign_16 rfl (lv_at hl 0 rfl) ?_
    refine lv_if_lt (tgt := 53) hx hb dX11_sign_17 (by decide) (fun c_45 => ?_) (fun c_45 => absurd c_45 (by decide))
    refine lv_aload_n hx hb dX11_sign_53 rfl (lv_at hl 1 rfl) ?_
    refine tw_get (D := (dC, dI)) (v := .int (y_43 (a 0) 7)) (C := RX11) (T := TX11) (N := 10) hx hb hts (fun _ hh => (List.mem_cons_of_mem _ (List.mem_append_right _ (List.mem_append_left _ hh)))) hown hK hT (fx_0 hX) (by decide) cl_e10 rfl 7 (by decide) (hts (.fieldLink RX11 57 "TypingPool" "textLength" "I") (List.mem_cons_of_mem _ (List.mem_append_left _ (List.mem_of_getElem? (i := 0) rfl)))) (fun _ h9 => h9) rfl dX11_sign_54 ?_
    have hc_46 : (y_43 (a 0) 7).toInt = x_42.toInt := by rw [ic_6 hI]; simp [upc]
    exact W.iret (v := y_43 (a 0) 7) hx hb hr (fun t ht hW9 => ⟨⟨y_43 (a 0) 7, y_43 (a 0) 7, rfl, rfl, ⟨(upc u 6 x_42.toInt), (by intro i hi; simp only [List.mem_cons, List.not_mem_nil, or_false, not_or] at hi; unfold upc; repeat rw [if_neg (by omega)]), ⟨τ, ln, y_43, g, hMo, hKM, hI, tw_at ht hT⟩⟩⟩, hS.F ht⟩) hS.2.2 dX11_sign_57
  · have nc_3 := z_nle rfl (zk (x := 100) 100 rfl) c_3
    refine lv_iconst (v := (-1)) hx hb dX11_sign_11 (by decide) ?_
    exact W.iret (v := (-1)) hx hb hr (fun t ht hW9 => ⟨⟨(-1), (-1), rfl, rfl, ⟨u, fun _ _ => rfl, ⟨τ, ln, y, g, hMo, hKM, hI, tw_at ht hT⟩⟩⟩, hS.F ht⟩) hS.2.2 dX11_sign_12
def wo_c_end : List Cond := [.fieldLink RX11 57 "TypingPool" "textLength" "I"]
def wm_c_end : List Cond := .code yX11_end cX11_end 2 (some .boolean) :: (wo_c_end ++ (wsX110 ++ ([] : List Cond)))
theorem gd_c_end : ∀ w ∈ wm_c_end, goodWord w = true := gd_c rfl (gd_a (by decide) (gd_a gd_wsX110 gd_nil))
set_option maxRecDepth 20000 in
theorem im_c_end : ∀ w ∈ wm_c_end, w ∈ lw_tbl := im_c (in_r [.code yX11_end cX11_end 2 (some .boolean)] [734] (by decide +kernel)) (in_app (in_r wo_c_end [566] (by decide +kernel)) (in_app im_wsX110 im_nil))
set_option maxHeartbeats 4000000 in
set_option maxRecDepth 100000 in
theorem c_end (l : Launch) (dC : Nat → ClassId) (dI : Nat → Nat → Nat) (ad av : Nat → Nat) (sz : Nat) (a : Nat → Nat) (k : Nat → ClassId) (τ ln : Nat → Nat) (y : Nat → Nat → Int32) (g : Nat → Nat → Option Nat) (u : Nat → Int) (p0 : Int32) (hI : IC a u τ ln y g) : Met l yX11_end wm_c_end ({ frames := 0, cells := 0, slots := 0, locals := 0 }) (pw_ ad av (dC, dI) sz [.ref (a 0), .int p0] a k τ ln y g) (va_Qi (fun (r u : Int32) => u = r) (fun (r : Int32) (t : State) => (∃ (u' : Nat → Int), r = 1 ∧ (∀ i, i ∉ ([6] : List Nat) → u' i = u i) ∧ pq (dC, dI) a k τ y g u' sz t.heap) ∨ (∃ (u' : Nat → Int), r = 0 ∧ (∀ i, i ∉ ([] : List Nat) → u' i = u i) ∧ pq (dC, dI) a k τ y g u' sz t.heap)) (fr τ sz)) 0 0 (fr τ sz) := by
  refine Met.ofW (cc := cX11_end) (maxL := 2) (ret := (some .boolean)) (by decide) rfl ?_
  intro p e s m args below meth c s₁ B hml hv
  obtain ⟨rfl, hsz, hT, hK, hM⟩ := hv
  have hx := B.exec
  have hb := B.bytes
  have hr := B.returns
  have hts := atoms_spec (ws := wm_c_end) B.pre
  have hown : s.vm.findClass RX11 = some m.cls := findClass_of_methodNamed B.named
  have hlocks := B.notSynchronized
  subst hsz
  generalize hAe : fr τ s.heap.size = A at hM ⊢
  have hA : ∀ q : Nat, s.heap.size ≤ q → A q := fun q h => by rw [← hAe]; exact Or.inr h
  have hF : ∀ q, τ q ≠ 0 → A q := fun q h => by rw [← hAe]; exact Or.inl h
  have hS : va_S A s.heap s.heap [] := va_S.rf
  have hX := hI.1
  have hR := ic_r hI
  have hMo : mono τ τ s.heap.size := mono.rf
  have hKM : kpM τ y g y g := kpM.rf
  have hl := lv_entry ([.ref (a 0), .int p0]) (n := 2) (Nat.le_of_ble_eq_true rfl)
  rw [lg_entry_eq]
  generalize (lg_sl ([.ref (a 0), .int p0]) ++ List.replicate (2 - (lg_sl ([.ref (a 0), .int p0])).length) Slot.unset).toArray = ls at hl ⊢
  have hl : lv_has ls 2 [(0, .ref (a 0)), (1, .int p0)] := hl
  refine lv_iload_n hx hb dX11_end_0 rfl (lv_at hl 1 rfl) ?_
  refine lv_if_lt (tgt := 12) hx hb dX11_end_1 (by decide) (fun c_1 => ?_) (fun c_1 => ?_)
  · have nc_1 := z_lt rfl (zk (x := 0) 0 rfl) c_1
    refine lv_iconst (v := 0) hx hb dX11_end_12 (by decide) ?_
    exact W.zret (v := 0) hx hb hr (by decide) (fun t ht hW9 => ⟨⟨0, 0, rfl, rfl, Or.inr (⟨u, rfl, fun _ _ => rfl, ⟨τ, ln, y, g, hMo, hKM, hI, tw_at ht hT⟩⟩)⟩, hS.F ht⟩) hS.2.2 dX11_end_13
  · have nc_1 := z_nlt rfl (zk (x := 0) 0 rfl) c_1
    refine lv_iload_n hx hb dX11_end_4 rfl (lv_at hl 1 rfl) ?_
    refine lv_aload_n hx hb dX11_end_5 rfl (lv_at hl 0 rfl) ?_
    refine tw_get (D := (dC, dI)) (v := .int (y (a 0) 7)) (C := RX11) (T := TX11) (N := 10) hx hb hts (fun _ hh => (List.mem_cons_of_mem _ (List.mem_append_right _ (List.mem_append_left _ hh)))) hown hK hT (fx_0 hX) (by decide) cl_e10 rfl 7 (by decide) (hts (.fieldLink RX11 57 "TypingPool" "textLength" "I") (List.mem_cons_of_mem _ (List.mem_append_left _ (List.mem_of_getElem? (i := 0) rfl)))) (fun _ h9 => h9) rfl dX11_end_6 ?_
    have hc_2 := ic_6 hI
    refine lv_icmp_le (tgt := 14) hx hb dX11_end_9 (by decide) (fun c_3 => ?_) (fun c_3 => ?_)
    · have nc_3 := z_le rfl hc_2 c_3
      refine lv_aload_n hx hb dX11_end_14 rfl (lv_at hl 0 rfl) ?_
      refine lv_iload_n hx hb dX11_end_15 rfl (lv_at hl 1 rfl) ?_
      refine tw_put (D := (dC, dI)) (x := p0) (ty := .int) (C := RX11) (T := TX11) (N := 10) hx hb hts (fun _ hh => (List.mem_cons_of_mem _ (List.mem_append_right _ (List.mem_append_left _ hh)))) tyX11 tyX11_ok nmX11 hown hK hT hF hS (fx_0 hX) (by decide) cl_e10 rfl 7 (by decide) (hts (.fieldLink RX11 57 "TypingPool" "textLength" "I") (List.mem_cons_of_mem _ (List.mem_append_left _ (List.mem_of_getElem? (i := 0) rfl)))) (fun _ h9 => h9) rfl (tyX11_ok 7 (by decide)) rfl rfl (Nat.le_of_ble_eq_true rfl) rfl dX11_end_16 (fun H locs hT hS => ?_)
      obtain ⟨y_4, hy_4, hT⟩ : ∃ z : Nat → Nat → Int32, z = up2 y (a 0) 7 p0 ∧ tw (dC, dI) a k τ ln z g H := ⟨_, rfl, hT⟩
      have hKM : kpM τ y g y_4 g := by rw [hy_4]; exact hKM.up hMo (fx_0 hX) (by decide)
      have hp_5 : p0.toInt = p0.toInt := rfl
      have hI := (hI.set6 hp_5 (by omega) (by omega))
      rw [← hy_4] at hI
      refine lv_iconst (v := 1) hx hb dX11_end_19 (by decide) ?_
      exact W.zret (v := 1) hx hb hr (by decide) (fun t ht hW9 => ⟨⟨1, 1, rfl, rfl, Or.inl ⟨(upc u 6 p0.toInt), rfl, (by intro i hi; simp only [List.mem_cons, List.not_mem_nil, or_false, not_or] at hi; unfold upc; repeat rw [if_neg (by omega)]), ⟨τ, ln, y_4, g, hMo, hKM, hI, tw_at ht hT⟩⟩⟩, hS.F ht⟩) hS.2.2 dX11_end_20
    · have nc_3 := z_nle rfl hc_2 c_3
      refine lv_iconst (v := 0) hx hb dX11_end_12 (by decide) ?_
      exact W.zret (v := 0) hx hb hr (by decide) (fun t ht hW9 => ⟨⟨0, 0, rfl, rfl, Or.inr (⟨u, rfl, fun _ _ => rfl, ⟨τ, ln, y, g, hMo, hKM, hI, tw_at ht hT⟩⟩)⟩, hS.F ht⟩) hS.2.2 dX11_end_13
def wo_c_rule : List Cond := [.methodLink RX11 68 yX11_within, .static yX11_within, .initialized RX11, .fieldLink RX11 19 "TypingPool" "rules" "LTypingPool$Rules;", .fieldLink RX11 156 "TypingPool$Rules" "count" "I", .fieldLink RX11 57 "TypingPool" "textLength" "I", .fieldLink RX11 53 "TypingPool" "text" "[C", .methodLink RX11 159 yX10_tell, .instanceMethod yX10_tell, .selects RX10 yX10_tell yX10_tell, .initialized RX10]
def wm_c_rule : List Cond := .code yX11_rule cX11_rule 5 (some .int) :: (wo_c_rule ++ (wm_c_within ++ (wsX110 ++ (wsX100 ++ (wm_c_tell ++ ([] : List Cond))))))
theorem gd_c_rule : ∀ w ∈ wm_c_rule, goodWord w = true := gd_c rfl (gd_a (by decide) (gd_a gd_c_within (gd_a gd_wsX110 (gd_a gd_wsX100 (gd_a gd_c_tell gd_nil)))))
set_option maxRecDepth 20000 in
theorem im_c_rule : ∀ w ∈ wm_c_rule, w ∈ lw_tbl := im_c (in_r [.code yX11_rule cX11_rule 5 (some .int)] [738] (by decide +kernel)) (in_app (in_r wo_c_rule [594, 595, 70, 560, 400, 566, 565, 739, 740, 741, 72] (by decide +kernel)) (in_app im_c_within (in_app im_wsX110 (in_app im_wsX100 (in_app im_c_tell im_nil)))))
set_option maxHeartbeats 4000000 in
set_option maxRecDepth 100000 in
theorem c_rule (l : Launch) (dC : Nat → ClassId) (dI : Nat → Nat → Nat) (ad av : Nat → Nat) (sz : Nat) (a : Nat → Nat) (k : Nat → ClassId) (τ ln : Nat → Nat) (y : Nat → Nat → Int32) (g : Nat → Nat → Option Nat) (u : Nat → Int) (p0 : Int32) (p1 : Int32) (hI : IC a u τ ln y g) : Met l yX11_rule wm_c_rule ({ frames := 9, cells := 2, slots := 63, locals := 400 }) (pw_ ad av (dC, dI) sz [.ref (a 0), .int p0, .int p1] a k τ ln y g) (va_Qi (fun (r u : Int32) => u = r) (fun (r : Int32) (t : State) => (∃ (u' : Nat → Int), (∀ i, i ∉ ([4, 6] : List Nat) → u' i = u i) ∧ pq (dC, dI) a k τ y g u' sz t.heap)) (fr τ sz)) 2 63 (fr τ sz) := by
  refine Met.ofW (cc := cX11_rule) (maxL := 5) (ret := (some .int)) (by decide) rfl ?_
  intro p e s m args below meth c s₁ B hml hv
  obtain ⟨rfl, hsz, hT, hK, hM⟩ := hv
  have hx := B.exec
  have hb := B.bytes
  have hr := B.returns
  have hts := atoms_spec (ws := wm_c_rule) B.pre
  have hown : s.vm.findClass RX11 = some m.cls := findClass_of_methodNamed B.named
  have hlocks := B.notSynchronized
  subst hsz
  generalize hAe : fr τ s.heap.size = A at hM ⊢
  have hA : ∀ q : Nat, s.heap.size ≤ q → A q := fun q h => by rw [← hAe]; exact Or.inr h
  have hF : ∀ q, τ q ≠ 0 → A q := fun q h => by rw [← hAe]; exact Or.inl h
  have hS : va_S A s.heap s.heap [] := va_S.rf
  have hX := hI.1
  have hR := ic_r hI
  have hMo : mono τ τ s.heap.size := mono.rf
  have hKM : kpM τ y g y g := kpM.rf
  have hl := lv_entry ([.ref (a 0), .int p0, .int p1]) (n := 5) (Nat.le_of_ble_eq_true rfl)
  rw [lg_entry_eq]
  generalize (lg_sl ([.ref (a 0), .int p0, .int p1]) ++ List.replicate (5 - (lg_sl ([.ref (a 0), .int p0, .int p1])).length) Slot.unset).toArray = ls at hl ⊢
  have hl : lv_has ls 5 [(0, .ref (a 0)), (1, .int p0), (2, .int p1)] := hl
  refine lv_iload_n hx hb dX11_rule_0 rfl (lv_at hl 1 rfl) ?_
  refine lv_iconst (v := 0) hx hb dX11_rule_1 (by decide) ?_
  refine lv_iconst (v := 3) hx hb dX11_rule_2 (by decide) ?_
  have hFc := tw_free hF hS hA
  have hp_1 : (0 : Int32).toInt = 0 := (zk (x := 0) 0 rfl)
  have hp_2 : (3 : Int32).toInt = 3 := (zk (x := 3) 3 rfl)
  refine va_calli (va_runS (As := [.int p0, .int 0, .int 3]) (rest := []) ⟨hx, hb, hml, hown, hts⟩ (c_within l dC dI ad av s.heap.size a k τ ln y g u p0 (0 : Int32) (3 : Int32)  ) (va_cwS 3 hts (gi_3 (List.mem_cons_of_mem _ (List.mem_append_left _ (List.mem_of_getElem? (i := 0) rfl))) (List.mem_cons_of_mem _ (List.mem_append_left _ (List.mem_of_getElem? (i := 1) rfl))) (List.mem_cons_of_mem _ (List.mem_append_left _ (List.mem_of_getElem? (i := 2) rfl))) (fun _ hh => (List.mem_cons_of_mem _ (List.mem_append_right _ (List.mem_append_left _ hh)))) gd_c_within) rfl rfl rfl (by decide +kernel) ⟨Nat.le_of_ble_eq_true rfl, Nat.le_of_ble_eq_true rfl⟩) ⟨pw_blind, pw_use hT hK hFc hS hM⟩ rfl rfl hl.1 rfl (lv_room (Nat.le_of_ble_eq_true rfl)) dX11_rule_3 ⟨Nat.le_of_ble_eq_true rfl, Nat.le_of_ble_eq_true rfl⟩) hS (fun q _ h => hFc q h) hFc (fun r0 r_3 t H locs ht hvm hw hB hz1 hk1 hS => ?_)
  refine W.widen (k := 0) (n := 0) (Nat.le_of_ble_eq_true rfl) (Nat.le_of_ble_eq_true rfl) ?_
  clear hvm hz1 hk1
  subst hw
  rcases hB with ⟨hre, hf_4, hf_5, hT⟩ | ⟨hre, hf_6, hT⟩
  · refine lq_top (v := 1) hre ?_
    rw [ht] at hT
    try simp only [hp_1, hp_2] at hf_4 hf_5
    clear hp_1 hp_2
    refine lv_if_eq (tgt := 23) hx hb dX11_rule_6 (by decide) (fun c_7 => absurd c_7 (by decide)) (fun c_7 => ?_)
    refine lv_iload_n hx hb dX11_rule_9 rfl (lv_at hl 2 rfl) ?_
    refine lv_iconst (v := 0) hx hb dX11_rule_10 (by decide) ?_
    refine lv_bipush (v := 9) hx hb dX11_rule_11 (by decide) ?_
    have hFc := tw_free hF hS hA
    have hp_8 : (0 : Int32).toInt = 0 := (zk (x := 0) 0 rfl)
    have hp_9 : (9 : Int32).toInt = 9 := (zk (x := 9) 9 rfl)
    refine va_calli (va_runS (As := [.int p1, .int 0, .int 9]) (rest := []) ⟨hx, hb, hml, hown, hts⟩ (c_within l dC dI ad av H.size a k τ ln y g u p1 (0 : Int32) (9 : Int32)  ) (va_cwS 3 hts (gi_3 (List.mem_cons_of_mem _ (List.mem_append_left _ (List.mem_of_getElem? (i := 0) rfl))) (List.mem_cons_of_mem _ (List.mem_append_left _ (List.mem_of_getElem? (i := 1) rfl))) (List.mem_cons_of_mem _ (List.mem_append_left _ (List.mem_of_getElem? (i := 2) rfl))) (fun _ hh => (List.mem_cons_of_mem _ (List.mem_append_right _ (List.mem_append_left _ hh)))) gd_c_within) rfl rfl rfl (by decide +kernel) ⟨Nat.le_of_ble_eq_true rfl, Nat.le_of_ble_eq_true rfl⟩) ⟨pw_blind, pw_use hT hK hFc hS hM⟩ rfl rfl hl.1 rfl (lv_room (Nat.le_of_ble_eq_true rfl)) dX11_rule_13 ⟨Nat.le_of_ble_eq_true rfl, Nat.le_of_ble_eq_true rfl⟩) hS (fun q _ h => hFc q h) hFc (fun r0 r_10 t H locs ht hvm hw hB hz1 hk1 hS => ?_)
    refine W.widen (k := 0) (n := 0) (Nat.le_of_ble_eq_true rfl) (Nat.le_of_ble_eq_true rfl) ?_
    clear hvm hz1 hk1
    subst hw
    rcases hB with ⟨hre, hf_11, hf_12, hT⟩ | ⟨hre, hf_13, hT⟩
    · refine lq_top (v := 1) hre ?_
      rw [ht] at hT
      try simp only [hp_8, hp_9] at hf_11 hf_12
      clear hp_8 hp_9
      refine lv_if_eq (tgt := 23) hx hb dX11_rule_16 (by decide) (fun c_14 => absurd c_14 (by decide)) (fun c_14 => ?_)
      refine lv_iconst (v := 1) hx hb dX11_rule_19 (by decide) ?_
      refine lv_goto (tgt := 24) hx hb dX11_rule_20 (by decide) ?_
      refine lv_istore_n (lv' := [(3, .int 1), (0, .ref (a 0)), (1, .int p0), (2, .int p1)]) hx hb dX11_rule_24 rfl hl (by decide) rfl (fun ls hl => ?_)
      refine lv_iload_n hx hb dX11_rule_25 rfl (lv_at hl 0 rfl) ?_
      refine lv_if_eq (tgt := 41) hx hb dX11_rule_26 (by decide) (fun c_15 => absurd c_15 (by decide)) (fun c_15 => ?_)
      refine lv_aload_n hx hb dX11_rule_29 rfl (lv_at hl 1 rfl) ?_
      refine tw_get (D := (dC, dI)) (v := .ref (a 2)) (C := RX11) (T := TX11) (N := 10) hx hb hts (fun _ hh => (List.mem_cons_of_mem _ (List.mem_append_right _ (List.mem_append_right _ (List.mem_append_left _ hh))))) hown hK hT (fx_0 hX) (by decide) cl_e10 rfl 1 (by decide) (hts (.fieldLink RX11 19 "TypingPool" "rules" "LTypingPool$Rules;") (List.mem_cons_of_mem _ (List.mem_append_left _ (List.mem_of_getElem? (i := 3) rfl)))) (fun _ h9 => h9) rfl dX11_rule_30 ?_
      refine tw_get (D := (dC, dI)) (v := .int (y (a 2) 1)) (C := RX10) (T := TX10) (N := 6) hx hb hts (fun _ hh => (List.mem_cons_of_mem _ (List.mem_append_right _ (List.mem_append_right _ (List.mem_append_right _ (List.mem_append_left _ hh)))))) hown hK hT (fx_2 hX) (by decide) cl_e12 rfl 1 (by decide) (hts (.fieldLink RX11 156 "TypingPool$Rules" "count" "I") (List.mem_cons_of_mem _ (List.mem_append_left _ (List.mem_of_getElem? (i := 4) rfl)))) (fun _ h9 => h9) rfl dX11_rule_33 ?_
      have hc_16 := ic_4 hI
      refine lv_bipush (v := 20) hx hb dX11_rule_36 (by decide) ?_
      refine lv_icmp_lt (tgt := 44) hx hb dX11_rule_38 (by decide) (fun c_17 => ?_) (fun c_17 => ?_)
      · have nc_17 := z_lt hc_16 (zk (x := 20) 20 rfl) c_17
        refine lv_aload_n hx hb dX11_rule_44 rfl (lv_at hl 1 rfl) ?_
        refine tw_get (D := (dC, dI)) (v := .int (y (a 0) 7)) (C := RX11) (T := TX11) (N := 10) hx hb hts (fun _ hh => (List.mem_cons_of_mem _ (List.mem_append_right _ (List.mem_append_right _ (List.mem_append_left _ hh))))) hown hK hT (fx_0 hX) (by decide) cl_e10 rfl 7 (by decide) (hts (.fieldLink RX11 57 "TypingPool" "textLength" "I") (List.mem_cons_of_mem _ (List.mem_append_left _ (List.mem_of_getElem? (i := 5) rfl)))) (fun _ h9 => h9) rfl dX11_rule_45 ?_
        have hc_18 := ic_6 hI
        refine lv_istore (lv' := [(4, .int (y (a 0) 7)), (3, .int 1), (0, .ref (a 0)), (1, .int p0), (2, .int p1)]) hx hb dX11_rule_48 hl (by decide) rfl (fun ls hl => ?_)
        refine lv_aload_n hx hb dX11_rule_50 rfl (lv_at hl 2 rfl) ?_
        refine lv_iconst (v := 0) hx hb dX11_rule_51 (by decide) ?_
        refine tw_put (D := (dC, dI)) (x := 0) (ty := .int) (C := RX11) (T := TX11) (N := 10) hx hb hts (fun _ hh => (List.mem_cons_of_mem _ (List.mem_append_right _ (List.mem_append_right _ (List.mem_append_left _ hh))))) tyX11 tyX11_ok nmX11 hown hK hT hF hS (fx_0 hX) (by decide) cl_e10 rfl 7 (by decide) (hts (.fieldLink RX11 57 "TypingPool" "textLength" "I") (List.mem_cons_of_mem _ (List.mem_append_left _ (List.mem_of_getElem? (i := 5) rfl)))) (fun _ h9 => h9) rfl (tyX11_ok 7 (by decide)) rfl rfl (Nat.le_of_ble_eq_true rfl) rfl dX11_rule_52 (fun H locs hT hS => ?_)
        obtain ⟨y_19, hy_19, hT⟩ : ∃ z : Nat → Nat → Int32, z = up2 y (a 0) 7 (0 : Int32) ∧ tw (dC, dI) a k τ ln z g H := ⟨_, rfl, hT⟩
        have hKM : kpM τ y g y_19 g := by rw [hy_19]; exact hKM.up hMo (fx_0 hX) (by decide)
        have hp_20 : (0 : Int32).toInt = 0 := (zk (x := 0) 0 rfl)
        have hI := (hI.set6 hp_20 (by omega) (by omega))
        rw [← hy_19] at hI
        refine lv_aload_n hx hb dX11_rule_55 rfl (lv_at hl 2 rfl) ?_
        refine tw_get (D := (dC, dI)) (v := .ref (a 2)) (C := RX11) (T := TX11) (N := 10) hx hb hts (fun _ hh => (List.mem_cons_of_mem _ (List.mem_append_right _ (List.mem_append_right _ (List.mem_append_left _ hh))))) hown hK hT (fx_0 hX) (by decide) cl_e10 rfl 1 (by decide) (hts (.fieldLink RX11 19 "TypingPool" "rules" "LTypingPool$Rules;") (List.mem_cons_of_mem _ (List.mem_append_left _ (List.mem_of_getElem? (i := 3) rfl)))) (fun _ h9 => h9) rfl dX11_rule_56 ?_
        refine lv_iload_n hx hb dX11_rule_59 rfl (lv_at hl 3 rfl) ?_
        refine lv_iload_n hx hb dX11_rule_60 rfl (lv_at hl 4 rfl) ?_
        refine lv_aload_n hx hb dX11_rule_61 rfl (lv_at hl 2 rfl) ?_
        refine tw_get (D := (dC, dI)) (v := .ref (a 7)) (C := RX11) (T := TX11) (N := 10) hx hb hts (fun _ hh => (List.mem_cons_of_mem _ (List.mem_append_right _ (List.mem_append_right _ (List.mem_append_left _ hh))))) hown hK hT (fx_0 hX) (by decide) cl_e10 rfl 6 (by decide) (hts (.fieldLink RX11 53 "TypingPool" "text" "[C") (List.mem_cons_of_mem _ (List.mem_append_left _ (List.mem_of_getElem? (i := 6) rfl)))) (fun _ h9 => h9) rfl dX11_rule_62 ?_
        refine lv_iload hx hb dX11_rule_65 (lv_at hl 0 rfl) ?_
        have hFc := tw_free hF hS hA
        have hSz := hS.1
        have hp_21 : (y (a 0) 7).toInt = u 6 := hc_18
        refine va_calli (va_runV (As := [.int p0, .int p1, .ref (a 7), .int (y (a 0) 7)]) (rest := []) ⟨hx, hb, hml, hown, hts⟩ (c_tell l dC dI ad av H.size a k τ ln y_19 g (upc u 6 0) p0 p1 (y (a 0) 7) hI (by omega) (by omega) (by omega) (by omega) (by rw [upc_o (by decide)]; omega)) (cwV 4 hts (gi_4 (List.mem_cons_of_mem _ (List.mem_append_left _ (List.mem_of_getElem? (i := 7) rfl))) (List.mem_cons_of_mem _ (List.mem_append_left _ (List.mem_of_getElem? (i := 8) rfl))) (List.mem_cons_of_mem _ (List.mem_append_left _ (List.mem_of_getElem? (i := 9) rfl))) (List.mem_cons_of_mem _ (List.mem_append_left _ (List.mem_of_getElem? (i := 10) rfl))) (fun _ hh => (List.mem_cons_of_mem _ (List.mem_append_right _ (List.mem_append_right _ (List.mem_append_right _ (List.mem_append_right _ (List.mem_append_left _ hh))))))) gd_c_tell) rfl rfl rfl (by decide +kernel) ⟨Nat.le_of_ble_eq_true rfl, Nat.le_of_ble_eq_true rfl⟩) ⟨pw_blind, tw_recv hK hT (fx_2 hX) (by decide) cl_e12 rfl, pw_use hT hK hFc hS hM⟩ rfl rfl hl.1 rfl (lv_room (Nat.le_of_ble_eq_true rfl)) dX11_rule_67 ⟨Nat.le_of_ble_eq_true rfl, Nat.le_of_ble_eq_true rfl⟩) hS (fun q _ h => hFc q h) hFc (fun r0 r_22 t H locs ht hvm hw hB hz1 hk1 hS => ?_)
        refine W.widen (k := 2) (n := 63) (Nat.le_of_ble_eq_true rfl) (Nat.le_of_ble_eq_true rfl) ?_
        clear hvm hz1 hk1
        subst hw
        obtain ⟨u_23, huu_23, ⟨tm_24, lm_24, ym_24, gm_24, hMo1, hKM1, hI, hT⟩⟩ := hB
        rw [ht] at hT
        clear hp_21
        have hKM := hKM.tr hMo hKM1
        have hMo := hMo.tr hMo1 hSz
        have hX := hI.1
        have hF : ∀ q, tm_24 q ≠ 0 → A q := fun q h => by rw [← hAe]; exact hMo.2 q h
        exact W.iret (v := r_22) hx hb hr (fun t ht hW9 => ⟨⟨r_22, r_22, rfl, rfl, ⟨u_23, (by intro i hi; simp only [List.mem_cons, List.not_mem_nil, or_false, not_or] at hi; rw [huu_23 i (by simp <;> omega)]; unfold upc; repeat rw [if_neg (by omega)]), ⟨tm_24, lm_24, ym_24, gm_24, hMo, hKM, hI, tw_at ht hT⟩⟩⟩, hS.F ht⟩) hS.2.2 dX11_rule_70
      · have nc_17 := z_nlt hc_16 (zk (x := 20) 20 rfl) c_17
        refine lv_bipush (v := (-100)) hx hb dX11_rule_41 (by decide) ?_
        refine W.widen (k := 2) (n := 63) (Nat.le_of_ble_eq_true rfl) (Nat.le_of_ble_eq_true rfl) ?_
        exact W.iret (v := (-100)) hx hb hr (fun t ht hW9 => ⟨⟨(-100), (-100), rfl, rfl, ⟨u, fun _ _ => rfl, ⟨τ, ln, y, g, hMo, hKM, hI, tw_at ht hT⟩⟩⟩, hS.F ht⟩) hS.2.2 dX11_rule_43
    · refine lq_top (v := 0) hre ?_
      rw [ht] at hT
      try simp only [hp_8, hp_9] at hf_13
      clear hp_8 hp_9
      refine lv_if_eq (tgt := 23) hx hb dX11_rule_16 (by decide) (fun c_25 => ?_) (fun c_25 => absurd c_25 (by decide))
      refine lv_iconst (v := 0) hx hb dX11_rule_23 (by decide) ?_
      refine lv_istore_n (lv' := [(3, .int 0), (0, .ref (a 0)), (1, .int p0), (2, .int p1)]) hx hb dX11_rule_24 rfl hl (by decide) rfl (fun ls hl => ?_)
      refine lv_iload_n hx hb dX11_rule_25 rfl (lv_at hl 0 rfl) ?_
      refine lv_if_eq (tgt := 41) hx hb dX11_rule_26 (by decide) (fun c_26 => ?_) (fun c_26 => absurd c_26 (by decide))
      refine lv_bipush (v := (-100)) hx hb dX11_rule_41 (by decide) ?_
      refine W.widen (k := 2) (n := 63) (Nat.le_of_ble_eq_true rfl) (Nat.le_of_ble_eq_true rfl) ?_
      exact W.iret (v := (-100)) hx hb hr (fun t ht hW9 => ⟨⟨(-100), (-100), rfl, rfl, ⟨u, fun _ _ => rfl, ⟨τ, ln, y, g, hMo, hKM, hI, tw_at ht hT⟩⟩⟩, hS.F ht⟩) hS.2.2 dX11_rule_43
  · refine lq_top (v := 0) hre ?_
    rw [ht] at hT
    try simp only [hp_1, hp_2] at hf_6
    clear hp_1 hp_2
    refine lv_if_eq (tgt := 23) hx hb dX11_rule_6 (by decide) (fun c_27 => ?_) (fun c_27 => absurd c_27 (by decide))
    refine lv_iconst (v := 0) hx hb dX11_rule_23 (by decide) ?_
    refine lv_istore_n (lv' := [(3, .int 0), (0, .ref (a 0)), (1, .int p0), (2, .int p1)]) hx hb dX11_rule_24 rfl hl (by decide) rfl (fun ls hl => ?_)
    refine lv_iload_n hx hb dX11_rule_25 rfl (lv_at hl 0 rfl) ?_
    refine lv_if_eq (tgt := 41) hx hb dX11_rule_26 (by decide) (fun c_28 => ?_) (fun c_28 => absurd c_28 (by decide))
    refine lv_bipush (v := (-100)) hx hb dX11_rule_41 (by decide) ?_
    refine W.widen (k := 2) (n := 63) (Nat.le_of_ble_eq_true rfl) (Nat.le_of_ble_eq_true rfl) ?_
    exact W.iret (v := (-100)) hx hb hr (fun t ht hW9 => ⟨⟨(-100), (-100), rfl, rfl, ⟨u, fun _ _ => rfl, ⟨τ, ln, y, g, hMo, hKM, hI, tw_at ht hT⟩⟩⟩, hS.F ht⟩) hS.2.2 dX11_rule_43
def wo_c_at : List Cond := [.fieldLink RX11 10 "TypingPool" "book" "LTypingPool$Book;", .methodLink RX11 201 yX1_hasPiece, .instanceMethod yX1_hasPiece, .selects RX1 yX1_hasPiece yX1_hasPiece, .initialized RX1, .fieldLink RX11 28 "TypingPool" "floor" "LTypingPool$Floor;", .methodLink RX11 204 yX3_stateOf, .instanceMethod yX3_stateOf, .selects RX3 yX3_stateOf yX3_stateOf, .initialized RX3, .fieldLink RX11 207 "TypingPool$Floor" "by" "[I", .fieldLink RX11 210 "TypingPool$Floor" "taken" "[I", .fieldLink RX11 213 "TypingPool$Floor" "done" "[I", .fieldLink RX11 216 "TypingPool$Floor" "workLeft" "[I", .methodLink RX11 219 yX3_isLate, .instanceMethod yX3_isLate, .selects RX3 yX3_isLate yX3_isLate, .methodLink RX11 222 yX3_minutesLate, .instanceMethod yX3_minutesLate, .selects RX3 yX3_minutesLate yX3_minutesLate]
def wm_c_at : List Cond := .code yX11_at cX11_at 3 (some .int) :: (wo_c_at ++ (wsX110 ++ (wm_c_hasPiece ++ (wm_c_stateOf ++ (wsX30 ++ (wm_c_isLate ++ (wm_c_minutesLate ++ ([] : List Cond))))))))
theorem gd_c_at : ∀ w ∈ wm_c_at, goodWord w = true := gd_c rfl (gd_a (by decide) (gd_a gd_wsX110 (gd_a gd_c_hasPiece (gd_a gd_c_stateOf (gd_a gd_wsX30 (gd_a gd_c_isLate (gd_a gd_c_minutesLate gd_nil)))))))
set_option maxRecDepth 20000 in
theorem im_c_at : ∀ w ∈ wm_c_at, w ∈ lw_tbl := im_c (in_r [.code yX11_at cX11_at 3 (some .int)] [858] (by decide +kernel)) (in_app (in_r wo_c_at [559, 859, 841, 842, 71, 561, 860, 768, 769, 83, 443, 445, 448, 451, 861, 862, 863, 869, 866, 867] (by decide +kernel)) (in_app im_wsX110 (in_app im_c_hasPiece (in_app im_c_stateOf (in_app im_wsX30 (in_app im_c_isLate (in_app im_c_minutesLate im_nil)))))))
set_option maxHeartbeats 4000000 in
set_option maxRecDepth 100000 in
theorem c_at (l : Launch) (dC : Nat → ClassId) (dI : Nat → Nat → Nat) (ad av : Nat → Nat) (sz : Nat) (a : Nat → Nat) (k : Nat → ClassId) (τ ln : Nat → Nat) (y : Nat → Nat → Int32) (g : Nat → Nat → Option Nat) (u : Nat → Int) (p0 : Int32) (p1 : Int32) (hI : IC a u τ ln y g) : Met l yX11_at wm_c_at ({ frames := 4, cells := 0, slots := 0, locals := 200 }) (pw_ ad av (dC, dI) sz [.ref (a 0), .int p0, .int p1] a k τ ln y g) (va_Qi (fun (r u : Int32) => u = r) (fun (r : Int32) (t : State) => (∃ (u' : Nat → Int), (∀ i, i ∉ ([] : List Nat) → u' i = u i) ∧ pq (dC, dI) a k τ y g u' sz t.heap)) (fr τ sz)) 0 0 (fr τ sz) := by
  refine Met.ofW (cc := cX11_at) (maxL := 3) (ret := (some .int)) (by decide) rfl ?_
  intro p e s m args below meth c s₁ B hml hv
  obtain ⟨rfl, hsz, hT, hK, hM⟩ := hv
  have hx := B.exec
  have hb := B.bytes
  have hr := B.returns
  have hts := atoms_spec (ws := wm_c_at) B.pre
  have hown : s.vm.findClass RX11 = some m.cls := findClass_of_methodNamed B.named
  have hlocks := B.notSynchronized
  subst hsz
  generalize hAe : fr τ s.heap.size = A at hM ⊢
  have hA : ∀ q : Nat, s.heap.size ≤ q → A q := fun q h => by rw [← hAe]; exact Or.inr h
  have hF : ∀ q, τ q ≠ 0 → A q := fun q h => by rw [← hAe]; exact Or.inl h
  have hS : va_S A s.heap s.heap [] := va_S.rf
  have hX := hI.1
  have hR := ic_r hI
  have hMo : mono τ τ s.heap.size := mono.rf
  have hKM : kpM τ y g y g := kpM.rf
  have hl := lv_entry ([.ref (a 0), .int p0, .int p1]) (n := 3) (Nat.le_of_ble_eq_true rfl)
  rw [lg_entry_eq]
  generalize (lg_sl ([.ref (a 0), .int p0, .int p1]) ++ List.replicate (3 - (lg_sl ([.ref (a 0), .int p0, .int p1])).length) Slot.unset).toArray = ls at hl ⊢
  have hl : lv_has ls 3 [(0, .ref (a 0)), (1, .int p0), (2, .int p1)] := hl
  refine lv_aload_n hx hb dX11_at_0 rfl (lv_at hl 0 rfl) ?_
  refine tw_get (D := (dC, dI)) (v := .ref (a 1)) (C := RX11) (T := TX11) (N := 10) hx hb hts (fun _ hh => (List.mem_cons_of_mem _ (List.mem_append_right _ (List.mem_append_left _ hh)))) hown hK hT (fx_0 hX) (by decide) cl_e10 rfl 0 (by decide) (hts (.fieldLink RX11 10 "TypingPool" "book" "LTypingPool$Book;") (List.mem_cons_of_mem _ (List.mem_append_left _ (List.mem_of_getElem? (i := 0) rfl)))) (fun _ h9 => h9) rfl dX11_at_1 ?_
  refine lv_iload_n hx hb dX11_at_4 rfl (lv_at hl 1 rfl) ?_
  have hFc := tw_free hF hS hA
  refine va_calli (va_runV (As := [.int p0]) (rest := []) ⟨hx, hb, hml, hown, hts⟩ (c_hasPiece l dC dI ad av s.heap.size a k τ ln y g u p0 hI ) (cwV 1 hts (gi_4 (List.mem_cons_of_mem _ (List.mem_append_left _ (List.mem_of_getElem? (i := 1) rfl))) (List.mem_cons_of_mem _ (List.mem_append_left _ (List.mem_of_getElem? (i := 2) rfl))) (List.mem_cons_of_mem _ (List.mem_append_left _ (List.mem_of_getElem? (i := 3) rfl))) (List.mem_cons_of_mem _ (List.mem_append_left _ (List.mem_of_getElem? (i := 4) rfl))) (fun _ hh => (List.mem_cons_of_mem _ (List.mem_append_right _ (List.mem_append_right _ (List.mem_append_left _ hh))))) gd_c_hasPiece) rfl rfl rfl (by decide +kernel) ⟨Nat.le_of_ble_eq_true rfl, Nat.le_of_ble_eq_true rfl⟩) ⟨pw_blind, tw_recv hK hT (fx_1 hX) (by decide) cl_e11 rfl, pw_use hT hK hFc hS hM⟩ rfl rfl hl.1 rfl (lv_room (Nat.le_of_ble_eq_true rfl)) dX11_at_5 ⟨Nat.le_of_ble_eq_true rfl, Nat.le_of_ble_eq_true rfl⟩) hS (fun q _ h => hFc q h) hFc (fun r0 r_1 t H locs ht hvm hw hB hz1 hk1 hS => ?_)
  refine W.widen (k := 0) (n := 0) (Nat.le_of_ble_eq_true rfl) (Nat.le_of_ble_eq_true rfl) ?_
  clear hvm hz1 hk1
  subst hw
  rcases hB with ⟨hre, hf_2, hf_3, hT⟩ | ⟨hre, hf_4, hT⟩
  · refine lq_top (v := 1) hre ?_
    rw [ht] at hT
    refine lv_if_ne (tgt := 13) hx hb dX11_at_8 (by decide) (fun c_5 => ?_) (fun c_5 => absurd c_5 (by decide))
    refine lv_iload_n hx hb dX11_at_13 rfl (lv_at hl 2 rfl) ?_
    rcases tb_0_6 p1 with t_6 | t_6 | t_6 | t_6 | t_6 | t_6 | t_6 | t_6
    · refine lq_top (v := 0) t_6 ?_
      have nt_6 := z_eq rfl (zk (x := 0) 0 rfl) t_6
      refine lv_tableIn (tgt := 56) hx hb dX11_at_14 (by decide) (by decide) (off := 42) (by decide) (by decide) ?_
      refine lv_aload_n hx hb dX11_at_56 rfl (lv_at hl 0 rfl) ?_
      refine tw_get (D := (dC, dI)) (v := .ref (a 3)) (C := RX11) (T := TX11) (N := 10) hx hb hts (fun _ hh => (List.mem_cons_of_mem _ (List.mem_append_right _ (List.mem_append_left _ hh)))) hown hK hT (fx_0 hX) (by decide) cl_e10 rfl 2 (by decide) (hts (.fieldLink RX11 28 "TypingPool" "floor" "LTypingPool$Floor;") (List.mem_cons_of_mem _ (List.mem_append_left _ (List.mem_of_getElem? (i := 5) rfl)))) (fun _ h9 => h9) rfl dX11_at_57 ?_
      refine lv_iload_n hx hb dX11_at_60 rfl (lv_at hl 1 rfl) ?_
      have hFc := tw_free hF hS hA
      refine va_calli (va_runV (As := [.int p0]) (rest := []) ⟨hx, hb, hml, hown, hts⟩ (c_stateOf l dC dI ad av H.size a k τ ln y g u p0 hI (by omega) (by omega)) (cwV 1 hts (gi_4 (List.mem_cons_of_mem _ (List.mem_append_left _ (List.mem_of_getElem? (i := 6) rfl))) (List.mem_cons_of_mem _ (List.mem_append_left _ (List.mem_of_getElem? (i := 7) rfl))) (List.mem_cons_of_mem _ (List.mem_append_left _ (List.mem_of_getElem? (i := 8) rfl))) (List.mem_cons_of_mem _ (List.mem_append_left _ (List.mem_of_getElem? (i := 9) rfl))) (fun _ hh => (List.mem_cons_of_mem _ (List.mem_append_right _ (List.mem_append_right _ (List.mem_append_right _ (List.mem_append_left _ hh)))))) gd_c_stateOf) rfl rfl rfl (by decide +kernel) ⟨Nat.le_of_ble_eq_true rfl, Nat.le_of_ble_eq_true rfl⟩) ⟨pw_blind, tw_recv hK hT (fx_3 hX) (by decide) cl_e13 rfl, pw_use hT hK hFc hS hM⟩ rfl rfl hl.1 rfl (lv_room (Nat.le_of_ble_eq_true rfl)) dX11_at_61 ⟨Nat.le_of_ble_eq_true rfl, Nat.le_of_ble_eq_true rfl⟩) hS (fun q _ h => hFc q h) hFc (fun r0 r_7 t H locs ht hvm hw hB hz1 hk1 hS => ?_)
      refine W.widen (k := 0) (n := 0) (Nat.le_of_ble_eq_true rfl) (Nat.le_of_ble_eq_true rfl) ?_
      clear hvm hz1 hk1
      subst hw
      have hT := hB
      rw [ht] at hT
      exact W.iret (v := r_7) hx hb hr (fun t ht hW9 => ⟨⟨r_7, r_7, rfl, rfl, ⟨u, fun _ _ => rfl, ⟨τ, ln, y, g, hMo, hKM, hI, tw_at ht hT⟩⟩⟩, hS.F ht⟩) hS.2.2 dX11_at_64
    · refine lq_top (v := 1) t_6 ?_
      have nt_6 := z_eq rfl (zk (x := 1) 1 rfl) t_6
      refine lv_tableIn (tgt := 65) hx hb dX11_at_14 (by decide) (by decide) (off := 51) (by decide) (by decide) ?_
      refine lv_aload_n hx hb dX11_at_65 rfl (lv_at hl 0 rfl) ?_
      refine tw_get (D := (dC, dI)) (v := .ref (a 3)) (C := RX11) (T := TX11) (N := 10) hx hb hts (fun _ hh => (List.mem_cons_of_mem _ (List.mem_append_right _ (List.mem_append_left _ hh)))) hown hK hT (fx_0 hX) (by decide) cl_e10 rfl 2 (by decide) (hts (.fieldLink RX11 28 "TypingPool" "floor" "LTypingPool$Floor;") (List.mem_cons_of_mem _ (List.mem_append_left _ (List.mem_of_getElem? (i := 5) rfl)))) (fun _ h9 => h9) rfl dX11_at_66 ?_
      refine tw_get (D := (dC, dI)) (v := .ref (a 24)) (C := RX3) (T := TX3) (N := 12) hx hb hts (fun _ hh => (List.mem_cons_of_mem _ (List.mem_append_right _ (List.mem_append_right _ (List.mem_append_right _ (List.mem_append_right _ (List.mem_append_left _ hh))))))) hown hK hT (fx_3 hX) (by decide) cl_e13 rfl 7 (by decide) (hts (.fieldLink RX11 207 "TypingPool$Floor" "by" "[I") (List.mem_cons_of_mem _ (List.mem_append_left _ (List.mem_of_getElem? (i := 10) rfl)))) (fun _ h9 => h9) rfl dX11_at_69 ?_
      refine lv_iload_n hx hb dX11_at_72 rfl (lv_at hl 1 rfl) ?_
      refine tw_iald hx hb hK hT 0 (fx_24 hX) (by decide) cl_e34 rfl (z_in rfl (by omega) (by omega)) dX11_at_73 ?_
      exact W.iret (v := y (a 24) p0.toNatClampNeg) hx hb hr (fun t ht hW9 => ⟨⟨y (a 24) p0.toNatClampNeg, y (a 24) p0.toNatClampNeg, rfl, rfl, ⟨u, fun _ _ => rfl, ⟨τ, ln, y, g, hMo, hKM, hI, tw_at ht hT⟩⟩⟩, hS.F ht⟩) hS.2.2 dX11_at_74
    · refine lq_top (v := 2) t_6 ?_
      have nt_6 := z_eq rfl (zk (x := 2) 2 rfl) t_6
      refine lv_tableIn (tgt := 75) hx hb dX11_at_14 (by decide) (by decide) (off := 61) (by decide) (by decide) ?_
      refine lv_aload_n hx hb dX11_at_75 rfl (lv_at hl 0 rfl) ?_
      refine tw_get (D := (dC, dI)) (v := .ref (a 3)) (C := RX11) (T := TX11) (N := 10) hx hb hts (fun _ hh => (List.mem_cons_of_mem _ (List.mem_append_right _ (List.mem_append_left _ hh)))) hown hK hT (fx_0 hX) (by decide) cl_e10 rfl 2 (by decide) (hts (.fieldLink RX11 28 "TypingPool" "floor" "LTypingPool$Floor;") (List.mem_cons_of_mem _ (List.mem_append_left _ (List.mem_of_getElem? (i := 5) rfl)))) (fun _ h9 => h9) rfl dX11_at_76 ?_
      refine tw_get (D := (dC, dI)) (v := .ref (a 25)) (C := RX3) (T := TX3) (N := 12) hx hb hts (fun _ hh => (List.mem_cons_of_mem _ (List.mem_append_right _ (List.mem_append_right _ (List.mem_append_right _ (List.mem_append_right _ (List.mem_append_left _ hh))))))) hown hK hT (fx_3 hX) (by decide) cl_e13 rfl 8 (by decide) (hts (.fieldLink RX11 210 "TypingPool$Floor" "taken" "[I") (List.mem_cons_of_mem _ (List.mem_append_left _ (List.mem_of_getElem? (i := 11) rfl)))) (fun _ h9 => h9) rfl dX11_at_79 ?_
      refine lv_iload_n hx hb dX11_at_82 rfl (lv_at hl 1 rfl) ?_
      refine tw_iald hx hb hK hT 0 (fx_25 hX) (by decide) cl_e35 rfl (z_in rfl (by omega) (by omega)) dX11_at_83 ?_
      exact W.iret (v := y (a 25) p0.toNatClampNeg) hx hb hr (fun t ht hW9 => ⟨⟨y (a 25) p0.toNatClampNeg, y (a 25) p0.toNatClampNeg, rfl, rfl, ⟨u, fun _ _ => rfl, ⟨τ, ln, y, g, hMo, hKM, hI, tw_at ht hT⟩⟩⟩, hS.F ht⟩) hS.2.2 dX11_at_84
    · refine lq_top (v := 3) t_6 ?_
      have nt_6 := z_eq rfl (zk (x := 3) 3 rfl) t_6
      refine lv_tableIn (tgt := 85) hx hb dX11_at_14 (by decide) (by decide) (off := 71) (by decide) (by decide) ?_
      refine lv_aload_n hx hb dX11_at_85 rfl (lv_at hl 0 rfl) ?_
      refine tw_get (D := (dC, dI)) (v := .ref (a 3)) (C := RX11) (T := TX11) (N := 10) hx hb hts (fun _ hh => (List.mem_cons_of_mem _ (List.mem_append_right _ (List.mem_append_left _ hh)))) hown hK hT (fx_0 hX) (by decide) cl_e10 rfl 2 (by decide) (hts (.fieldLink RX11 28 "TypingPool" "floor" "LTypingPool$Floor;") (List.mem_cons_of_mem _ (List.mem_append_left _ (List.mem_of_getElem? (i := 5) rfl)))) (fun _ h9 => h9) rfl dX11_at_86 ?_
      refine tw_get (D := (dC, dI)) (v := .ref (a 26)) (C := RX3) (T := TX3) (N := 12) hx hb hts (fun _ hh => (List.mem_cons_of_mem _ (List.mem_append_right _ (List.mem_append_right _ (List.mem_append_right _ (List.mem_append_right _ (List.mem_append_left _ hh))))))) hown hK hT (fx_3 hX) (by decide) cl_e13 rfl 9 (by decide) (hts (.fieldLink RX11 213 "TypingPool$Floor" "done" "[I") (List.mem_cons_of_mem _ (List.mem_append_left _ (List.mem_of_getElem? (i := 12) rfl)))) (fun _ h9 => h9) rfl dX11_at_89 ?_
      refine lv_iload_n hx hb dX11_at_92 rfl (lv_at hl 1 rfl) ?_
      refine tw_iald hx hb hK hT 0 (fx_26 hX) (by decide) cl_e36 rfl (z_in rfl (by omega) (by omega)) dX11_at_93 ?_
      exact W.iret (v := y (a 26) p0.toNatClampNeg) hx hb hr (fun t ht hW9 => ⟨⟨y (a 26) p0.toNatClampNeg, y (a 26) p0.toNatClampNeg, rfl, rfl, ⟨u, fun _ _ => rfl, ⟨τ, ln, y, g, hMo, hKM, hI, tw_at ht hT⟩⟩⟩, hS.F ht⟩) hS.2.2 dX11_at_94
    · refine lq_top (v := 4) t_6 ?_
      have nt_6 := z_eq rfl (zk (x := 4) 4 rfl) t_6
      refine lv_tableIn (tgt := 95) hx hb dX11_at_14 (by decide) (by decide) (off := 81) (by decide) (by decide) ?_
      refine lv_aload_n hx hb dX11_at_95 rfl (lv_at hl 0 rfl) ?_
      refine tw_get (D := (dC, dI)) (v := .ref (a 3)) (C := RX11) (T := TX11) (N := 10) hx hb hts (fun _ hh => (List.mem_cons_of_mem _ (List.mem_append_right _ (List.mem_append_left _ hh)))) hown hK hT (fx_0 hX) (by decide) cl_e10 rfl 2 (by decide) (hts (.fieldLink RX11 28 "TypingPool" "floor" "LTypingPool$Floor;") (List.mem_cons_of_mem _ (List.mem_append_left _ (List.mem_of_getElem? (i := 5) rfl)))) (fun _ h9 => h9) rfl dX11_at_96 ?_
      refine tw_get (D := (dC, dI)) (v := .ref (a 27)) (C := RX3) (T := TX3) (N := 12) hx hb hts (fun _ hh => (List.mem_cons_of_mem _ (List.mem_append_right _ (List.mem_append_right _ (List.mem_append_right _ (List.mem_append_right _ (List.mem_append_left _ hh))))))) hown hK hT (fx_3 hX) (by decide) cl_e13 rfl 10 (by decide) (hts (.fieldLink RX11 216 "TypingPool$Floor" "workLeft" "[I") (List.mem_cons_of_mem _ (List.mem_append_left _ (List.mem_of_getElem? (i := 13) rfl)))) (fun _ h9 => h9) rfl dX11_at_99 ?_
      refine lv_iload_n hx hb dX11_at_102 rfl (lv_at hl 1 rfl) ?_
      refine tw_iald hx hb hK hT 0 (fx_27 hX) (by decide) cl_e37 rfl (z_in rfl (by omega) (by omega)) dX11_at_103 ?_
      exact W.iret (v := y (a 27) p0.toNatClampNeg) hx hb hr (fun t ht hW9 => ⟨⟨y (a 27) p0.toNatClampNeg, y (a 27) p0.toNatClampNeg, rfl, rfl, ⟨u, fun _ _ => rfl, ⟨τ, ln, y, g, hMo, hKM, hI, tw_at ht hT⟩⟩⟩, hS.F ht⟩) hS.2.2 dX11_at_104
    · refine lq_top (v := 5) t_6 ?_
      have nt_6 := z_eq rfl (zk (x := 5) 5 rfl) t_6
      refine lv_tableIn (tgt := 105) hx hb dX11_at_14 (by decide) (by decide) (off := 91) (by decide) (by decide) ?_
      refine lv_aload_n hx hb dX11_at_105 rfl (lv_at hl 0 rfl) ?_
      refine tw_get (D := (dC, dI)) (v := .ref (a 3)) (C := RX11) (T := TX11) (N := 10) hx hb hts (fun _ hh => (List.mem_cons_of_mem _ (List.mem_append_right _ (List.mem_append_left _ hh)))) hown hK hT (fx_0 hX) (by decide) cl_e10 rfl 2 (by decide) (hts (.fieldLink RX11 28 "TypingPool" "floor" "LTypingPool$Floor;") (List.mem_cons_of_mem _ (List.mem_append_left _ (List.mem_of_getElem? (i := 5) rfl)))) (fun _ h9 => h9) rfl dX11_at_106 ?_
      refine lv_iload_n hx hb dX11_at_109 rfl (lv_at hl 1 rfl) ?_
      have hFc := tw_free hF hS hA
      refine va_calli (va_runV (As := [.int p0]) (rest := []) ⟨hx, hb, hml, hown, hts⟩ (c_isLate l dC dI ad av H.size a k τ ln y g u p0 hI (by omega) (by omega)) (cwV 1 hts (gi_4 (List.mem_cons_of_mem _ (List.mem_append_left _ (List.mem_of_getElem? (i := 14) rfl))) (List.mem_cons_of_mem _ (List.mem_append_left _ (List.mem_of_getElem? (i := 15) rfl))) (List.mem_cons_of_mem _ (List.mem_append_left _ (List.mem_of_getElem? (i := 16) rfl))) (List.mem_cons_of_mem _ (List.mem_append_left _ (List.mem_of_getElem? (i := 9) rfl))) (fun _ hh => (List.mem_cons_of_mem _ (List.mem_append_right _ (List.mem_append_right _ (List.mem_append_right _ (List.mem_append_right _ (List.mem_append_right _ (List.mem_append_left _ hh)))))))) gd_c_isLate) rfl rfl rfl (by decide +kernel) ⟨Nat.le_of_ble_eq_true rfl, Nat.le_of_ble_eq_true rfl⟩) ⟨pw_blind, tw_recv hK hT (fx_3 hX) (by decide) cl_e13 rfl, pw_use hT hK hFc hS hM⟩ rfl rfl hl.1 rfl (lv_room (Nat.le_of_ble_eq_true rfl)) dX11_at_110 ⟨Nat.le_of_ble_eq_true rfl, Nat.le_of_ble_eq_true rfl⟩) hS (fun q _ h => hFc q h) hFc (fun r0 r_8 t H locs ht hvm hw hB hz1 hk1 hS => ?_)
      refine W.widen (k := 0) (n := 0) (Nat.le_of_ble_eq_true rfl) (Nat.le_of_ble_eq_true rfl) ?_
      clear hvm hz1 hk1
      subst hw
      rcases hB with ⟨hre, hT⟩ | ⟨hre, hT⟩
      · refine lq_top (v := 1) hre ?_
        rw [ht] at hT
        refine lv_if_eq (tgt := 120) hx hb dX11_at_113 (by decide) (fun c_9 => absurd c_9 (by decide)) (fun c_9 => ?_)
        refine lv_iconst (v := 1) hx hb dX11_at_116 (by decide) ?_
        refine lv_goto (tgt := 121) hx hb dX11_at_117 (by decide) ?_
        exact W.iret (v := 1) hx hb hr (fun t ht hW9 => ⟨⟨1, 1, rfl, rfl, ⟨u, fun _ _ => rfl, ⟨τ, ln, y, g, hMo, hKM, hI, tw_at ht hT⟩⟩⟩, hS.F ht⟩) hS.2.2 dX11_at_121
      · refine lq_top (v := 0) hre ?_
        rw [ht] at hT
        refine lv_if_eq (tgt := 120) hx hb dX11_at_113 (by decide) (fun c_10 => ?_) (fun c_10 => absurd c_10 (by decide))
        refine lv_iconst (v := 0) hx hb dX11_at_120 (by decide) ?_
        exact W.iret (v := 0) hx hb hr (fun t ht hW9 => ⟨⟨0, 0, rfl, rfl, ⟨u, fun _ _ => rfl, ⟨τ, ln, y, g, hMo, hKM, hI, tw_at ht hT⟩⟩⟩, hS.F ht⟩) hS.2.2 dX11_at_121
    · refine lq_top (v := 6) t_6 ?_
      have nt_6 := z_eq rfl (zk (x := 6) 6 rfl) t_6
      refine lv_tableIn (tgt := 122) hx hb dX11_at_14 (by decide) (by decide) (off := 108) (by decide) (by decide) ?_
      refine lv_aload_n hx hb dX11_at_122 rfl (lv_at hl 0 rfl) ?_
      refine tw_get (D := (dC, dI)) (v := .ref (a 3)) (C := RX11) (T := TX11) (N := 10) hx hb hts (fun _ hh => (List.mem_cons_of_mem _ (List.mem_append_right _ (List.mem_append_left _ hh)))) hown hK hT (fx_0 hX) (by decide) cl_e10 rfl 2 (by decide) (hts (.fieldLink RX11 28 "TypingPool" "floor" "LTypingPool$Floor;") (List.mem_cons_of_mem _ (List.mem_append_left _ (List.mem_of_getElem? (i := 5) rfl)))) (fun _ h9 => h9) rfl dX11_at_123 ?_
      refine lv_iload_n hx hb dX11_at_126 rfl (lv_at hl 1 rfl) ?_
      have hFc := tw_free hF hS hA
      refine va_calli (va_runV (As := [.int p0]) (rest := []) ⟨hx, hb, hml, hown, hts⟩ (c_minutesLate l dC dI ad av H.size a k τ ln y g u p0 hI (by omega) (by omega)) (cwV 1 hts (gi_4 (List.mem_cons_of_mem _ (List.mem_append_left _ (List.mem_of_getElem? (i := 17) rfl))) (List.mem_cons_of_mem _ (List.mem_append_left _ (List.mem_of_getElem? (i := 18) rfl))) (List.mem_cons_of_mem _ (List.mem_append_left _ (List.mem_of_getElem? (i := 19) rfl))) (List.mem_cons_of_mem _ (List.mem_append_left _ (List.mem_of_getElem? (i := 9) rfl))) (fun _ hh => (List.mem_cons_of_mem _ (List.mem_append_right _ (List.mem_append_right _ (List.mem_append_right _ (List.mem_append_right _ (List.mem_append_right _ (List.mem_append_right _ (List.mem_append_left _ hh))))))))) gd_c_minutesLate) rfl rfl rfl (by decide +kernel) ⟨Nat.le_of_ble_eq_true rfl, Nat.le_of_ble_eq_true rfl⟩) ⟨pw_blind, tw_recv hK hT (fx_3 hX) (by decide) cl_e13 rfl, pw_use hT hK hFc hS hM⟩ rfl rfl hl.1 rfl (lv_room (Nat.le_of_ble_eq_true rfl)) dX11_at_127 ⟨Nat.le_of_ble_eq_true rfl, Nat.le_of_ble_eq_true rfl⟩) hS (fun q _ h => hFc q h) hFc (fun r0 r_11 t H locs ht hvm hw hB hz1 hk1 hS => ?_)
      refine W.widen (k := 0) (n := 0) (Nat.le_of_ble_eq_true rfl) (Nat.le_of_ble_eq_true rfl) ?_
      clear hvm hz1 hk1
      subst hw
      have hT := hB
      rw [ht] at hT
      exact W.iret (v := r_11) hx hb hr (fun t ht hW9 => ⟨⟨r_11, r_11, rfl, rfl, ⟨u, fun _ _ => rfl, ⟨τ, ln, y, g, hMo, hKM, hI, tw_at ht hT⟩⟩⟩, hS.F ht⟩) hS.2.2 dX11_at_130
    · refine lv_tableOut (tgt := 131) hx hb dX11_at_14 t_6 (by decide) ?_
      refine lv_iconst (v := (-1)) hx hb dX11_at_131 (by decide) ?_
      exact W.iret (v := (-1)) hx hb hr (fun t ht hW9 => ⟨⟨(-1), (-1), rfl, rfl, ⟨u, fun _ _ => rfl, ⟨τ, ln, y, g, hMo, hKM, hI, tw_at ht hT⟩⟩⟩, hS.F ht⟩) hS.2.2 dX11_at_132
  · refine lq_top (v := 0) hre ?_
    rw [ht] at hT
    refine lv_if_ne (tgt := 13) hx hb dX11_at_8 (by decide) (fun c_12 => absurd c_12 (by decide)) (fun c_12 => ?_)
    refine lv_iconst (v := (-1)) hx hb dX11_at_11 (by decide) ?_
    exact W.iret (v := (-1)) hx hb hr (fun t ht hW9 => ⟨⟨(-1), (-1), rfl, rfl, ⟨u, fun _ _ => rfl, ⟨τ, ln, y, g, hMo, hKM, hI, tw_at ht hT⟩⟩⟩, hS.F ht⟩) hS.2.2 dX11_at_12
def wo_c_may : List Cond := [.fieldLink RX11 10 "TypingPool" "book" "LTypingPool$Book;", .methodLink RX11 95 yX1_hasHand, .instanceMethod yX1_hasHand, .selects RX1 yX1_hasHand yX1_hasHand, .initialized RX1, .methodLink RX11 201 yX1_hasPiece, .instanceMethod yX1_hasPiece, .selects RX1 yX1_hasPiece yX1_hasPiece, .fieldLink RX11 28 "TypingPool" "floor" "LTypingPool$Floor;", .methodLink RX11 225 yX3_mayDo, .instanceMethod yX3_mayDo, .selects RX3 yX3_mayDo yX3_mayDo, .initialized RX3]
def wm_c_may : List Cond := .code yX11_may cX11_may 3 (some .int) :: (wo_c_may ++ (wsX110 ++ (wm_c_hasHand ++ (wm_c_hasPiece ++ (wm_c_mayDoN ++ ([] : List Cond))))))
theorem gd_c_may : ∀ w ∈ wm_c_may, goodWord w = true := gd_c rfl (gd_a (by decide) (gd_a gd_wsX110 (gd_a gd_c_hasHand (gd_a gd_c_hasPiece (gd_a gd_c_mayDoN gd_nil)))))
set_option maxRecDepth 20000 in
theorem im_c_may : ∀ w ∈ wm_c_may, w ∈ lw_tbl := im_c (in_r [.code yX11_may cX11_may 3 (some .int)] [873] (by decide +kernel)) (in_app (in_r wo_c_may [559, 629, 630, 631, 71, 859, 841, 842, 561, 874, 772, 773, 83] (by decide +kernel)) (in_app im_wsX110 (in_app im_c_hasHand (in_app im_c_hasPiece (in_app im_c_mayDoN im_nil)))))
set_option maxHeartbeats 4000000 in
set_option maxRecDepth 100000 in
theorem c_may (l : Launch) (dC : Nat → ClassId) (dI : Nat → Nat → Nat) (ad av : Nat → Nat) (sz : Nat) (a : Nat → Nat) (k : Nat → ClassId) (τ ln : Nat → Nat) (y : Nat → Nat → Int32) (g : Nat → Nat → Option Nat) (u : Nat → Int) (p0 : Int32) (p1 : Int32) (hI : IC a u τ ln y g) : Met l yX11_may wm_c_may ({ frames := 4, cells := 0, slots := 0, locals := 240 }) (pw_ ad av (dC, dI) sz [.ref (a 0), .int p0, .int p1] a k τ ln y g) (va_Qi (fun (r u : Int32) => u = r) (fun (r : Int32) (t : State) => (∃ (u' : Nat → Int), (∀ i, i ∉ ([] : List Nat) → u' i = u i) ∧ pq (dC, dI) a k τ y g u' sz t.heap)) (fr τ sz)) 0 0 (fr τ sz) := by
  refine Met.ofW (cc := cX11_may) (maxL := 3) (ret := (some .int)) (by decide) rfl ?_
  intro p e s m args below meth c s₁ B hml hv
  obtain ⟨rfl, hsz, hT, hK, hM⟩ := hv
  have hx := B.exec
  have hb := B.bytes
  have hr := B.returns
  have hts := atoms_spec (ws := wm_c_may) B.pre
  have hown : s.vm.findClass RX11 = some m.cls := findClass_of_methodNamed B.named
  have hlocks := B.notSynchronized
  subst hsz
  generalize hAe : fr τ s.heap.size = A at hM ⊢
  have hA : ∀ q : Nat, s.heap.size ≤ q → A q := fun q h => by rw [← hAe]; exact Or.inr h
  have hF : ∀ q, τ q ≠ 0 → A q := fun q h => by rw [← hAe]; exact Or.inl h
  have hS : va_S A s.heap s.heap [] := va_S.rf
  have hX := hI.1
  have hR := ic_r hI
  have hMo : mono τ τ s.heap.size := mono.rf
  have hKM : kpM τ y g y g := kpM.rf
  have hl := lv_entry ([.ref (a 0), .int p0, .int p1]) (n := 3) (Nat.le_of_ble_eq_true rfl)
  rw [lg_entry_eq]
  generalize (lg_sl ([.ref (a 0), .int p0, .int p1]) ++ List.replicate (3 - (lg_sl ([.ref (a 0), .int p0, .int p1])).length) Slot.unset).toArray = ls at hl ⊢
  have hl : lv_has ls 3 [(0, .ref (a 0)), (1, .int p0), (2, .int p1)] := hl
  refine lv_aload_n hx hb dX11_may_0 rfl (lv_at hl 0 rfl) ?_
  refine tw_get (D := (dC, dI)) (v := .ref (a 1)) (C := RX11) (T := TX11) (N := 10) hx hb hts (fun _ hh => (List.mem_cons_of_mem _ (List.mem_append_right _ (List.mem_append_left _ hh)))) hown hK hT (fx_0 hX) (by decide) cl_e10 rfl 0 (by decide) (hts (.fieldLink RX11 10 "TypingPool" "book" "LTypingPool$Book;") (List.mem_cons_of_mem _ (List.mem_append_left _ (List.mem_of_getElem? (i := 0) rfl)))) (fun _ h9 => h9) rfl dX11_may_1 ?_
  refine lv_iload_n hx hb dX11_may_4 rfl (lv_at hl 1 rfl) ?_
  have hFc := tw_free hF hS hA
  refine va_calli (va_runV (As := [.int p0]) (rest := []) ⟨hx, hb, hml, hown, hts⟩ (c_hasHand l dC dI ad av s.heap.size a k τ ln y g u p0 hI ) (cwV 1 hts (gi_4 (List.mem_cons_of_mem _ (List.mem_append_left _ (List.mem_of_getElem? (i := 1) rfl))) (List.mem_cons_of_mem _ (List.mem_append_left _ (List.mem_of_getElem? (i := 2) rfl))) (List.mem_cons_of_mem _ (List.mem_append_left _ (List.mem_of_getElem? (i := 3) rfl))) (List.mem_cons_of_mem _ (List.mem_append_left _ (List.mem_of_getElem? (i := 4) rfl))) (fun _ hh => (List.mem_cons_of_mem _ (List.mem_append_right _ (List.mem_append_right _ (List.mem_append_left _ hh))))) gd_c_hasHand) rfl rfl rfl (by decide +kernel) ⟨Nat.le_of_ble_eq_true rfl, Nat.le_of_ble_eq_true rfl⟩) ⟨pw_blind, tw_recv hK hT (fx_1 hX) (by decide) cl_e11 rfl, pw_use hT hK hFc hS hM⟩ rfl rfl hl.1 rfl (lv_room (Nat.le_of_ble_eq_true rfl)) dX11_may_5 ⟨Nat.le_of_ble_eq_true rfl, Nat.le_of_ble_eq_true rfl⟩) hS (fun q _ h => hFc q h) hFc (fun r0 r_1 t H locs ht hvm hw hB hz1 hk1 hS => ?_)
  refine W.widen (k := 0) (n := 0) (Nat.le_of_ble_eq_true rfl) (Nat.le_of_ble_eq_true rfl) ?_
  clear hvm hz1 hk1
  subst hw
  rcases hB with ⟨hre, hf_2, hf_3, hT⟩ | ⟨hre, hf_4, hT⟩
  · refine lq_top (v := 1) hre ?_
    rw [ht] at hT
    refine lv_if_eq (tgt := 22) hx hb dX11_may_8 (by decide) (fun c_5 => absurd c_5 (by decide)) (fun c_5 => ?_)
    refine lv_aload_n hx hb dX11_may_11 rfl (lv_at hl 0 rfl) ?_
    refine tw_get (D := (dC, dI)) (v := .ref (a 1)) (C := RX11) (T := TX11) (N := 10) hx hb hts (fun _ hh => (List.mem_cons_of_mem _ (List.mem_append_right _ (List.mem_append_left _ hh)))) hown hK hT (fx_0 hX) (by decide) cl_e10 rfl 0 (by decide) (hts (.fieldLink RX11 10 "TypingPool" "book" "LTypingPool$Book;") (List.mem_cons_of_mem _ (List.mem_append_left _ (List.mem_of_getElem? (i := 0) rfl)))) (fun _ h9 => h9) rfl dX11_may_12 ?_
    refine lv_iload_n hx hb dX11_may_15 rfl (lv_at hl 2 rfl) ?_
    have hFc := tw_free hF hS hA
    refine va_calli (va_runV (As := [.int p1]) (rest := []) ⟨hx, hb, hml, hown, hts⟩ (c_hasPiece l dC dI ad av H.size a k τ ln y g u p1 hI ) (cwV 1 hts (gi_4 (List.mem_cons_of_mem _ (List.mem_append_left _ (List.mem_of_getElem? (i := 5) rfl))) (List.mem_cons_of_mem _ (List.mem_append_left _ (List.mem_of_getElem? (i := 6) rfl))) (List.mem_cons_of_mem _ (List.mem_append_left _ (List.mem_of_getElem? (i := 7) rfl))) (List.mem_cons_of_mem _ (List.mem_append_left _ (List.mem_of_getElem? (i := 4) rfl))) (fun _ hh => (List.mem_cons_of_mem _ (List.mem_append_right _ (List.mem_append_right _ (List.mem_append_right _ (List.mem_append_left _ hh)))))) gd_c_hasPiece) rfl rfl rfl (by decide +kernel) ⟨Nat.le_of_ble_eq_true rfl, Nat.le_of_ble_eq_true rfl⟩) ⟨pw_blind, tw_recv hK hT (fx_1 hX) (by decide) cl_e11 rfl, pw_use hT hK hFc hS hM⟩ rfl rfl hl.1 rfl (lv_room (Nat.le_of_ble_eq_true rfl)) dX11_may_16 ⟨Nat.le_of_ble_eq_true rfl, Nat.le_of_ble_eq_true rfl⟩) hS (fun q _ h => hFc q h) hFc (fun r0 r_6 t H locs ht hvm hw hB hz1 hk1 hS => ?_)
    refine W.widen (k := 0) (n := 0) (Nat.le_of_ble_eq_true rfl) (Nat.le_of_ble_eq_true rfl) ?_
    clear hvm hz1 hk1
    subst hw
    rcases hB with ⟨hre, hf_7, hf_8, hT⟩ | ⟨hre, hf_9, hT⟩
    · refine lq_top (v := 1) hre ?_
      rw [ht] at hT
      refine lv_if_ne (tgt := 24) hx hb dX11_may_19 (by decide) (fun c_10 => ?_) (fun c_10 => absurd c_10 (by decide))
      refine lv_aload_n hx hb dX11_may_24 rfl (lv_at hl 0 rfl) ?_
      refine tw_get (D := (dC, dI)) (v := .ref (a 3)) (C := RX11) (T := TX11) (N := 10) hx hb hts (fun _ hh => (List.mem_cons_of_mem _ (List.mem_append_right _ (List.mem_append_left _ hh)))) hown hK hT (fx_0 hX) (by decide) cl_e10 rfl 2 (by decide) (hts (.fieldLink RX11 28 "TypingPool" "floor" "LTypingPool$Floor;") (List.mem_cons_of_mem _ (List.mem_append_left _ (List.mem_of_getElem? (i := 8) rfl)))) (fun _ h9 => h9) rfl dX11_may_25 ?_
      refine lv_iload_n hx hb dX11_may_28 rfl (lv_at hl 1 rfl) ?_
      refine lv_iload_n hx hb dX11_may_29 rfl (lv_at hl 2 rfl) ?_
      refine lv_null hx hb dX11_may_30 ?_
      have hFc := tw_free hF hS hA
      refine va_calli (va_runV (As := [.int p0, .int p1, .null]) (rest := []) ⟨hx, hb, hml, hown, hts⟩ (c_mayDoN l dC dI ad av H.size a k τ ln y g u p0 p1 hI (by omega) (by omega) (by omega) (by omega)) (cwV 3 hts (gi_4 (List.mem_cons_of_mem _ (List.mem_append_left _ (List.mem_of_getElem? (i := 9) rfl))) (List.mem_cons_of_mem _ (List.mem_append_left _ (List.mem_of_getElem? (i := 10) rfl))) (List.mem_cons_of_mem _ (List.mem_append_left _ (List.mem_of_getElem? (i := 11) rfl))) (List.mem_cons_of_mem _ (List.mem_append_left _ (List.mem_of_getElem? (i := 12) rfl))) (fun _ hh => (List.mem_cons_of_mem _ (List.mem_append_right _ (List.mem_append_right _ (List.mem_append_right _ (List.mem_append_right _ (List.mem_append_left _ hh))))))) gd_c_mayDoN) rfl rfl rfl (by decide +kernel) ⟨Nat.le_of_ble_eq_true rfl, Nat.le_of_ble_eq_true rfl⟩) ⟨pw_blind, tw_recv hK hT (fx_3 hX) (by decide) cl_e13 rfl, pw_use hT hK hFc hS hM⟩ rfl rfl hl.1 rfl (lv_room (Nat.le_of_ble_eq_true rfl)) dX11_may_31 ⟨Nat.le_of_ble_eq_true rfl, Nat.le_of_ble_eq_true rfl⟩) hS (fun q _ h => hFc q h) hFc (fun r0 r_11 t H locs ht hvm hw hB hz1 hk1 hS => ?_)
      refine W.widen (k := 0) (n := 0) (Nat.le_of_ble_eq_true rfl) (Nat.le_of_ble_eq_true rfl) ?_
      clear hvm hz1 hk1
      subst hw
      rcases hB with ⟨y_12, hre, hgy_12, hT⟩ | ⟨y_13, hre, hgy_13, hT⟩
      · refine lq_top (v := 1) hre ?_
        rw [ht] at hT
        have hKM := hKM.ag hMo hgy_12 (by decide)
        have hI := hI.ag hgy_12 (by decide)
        refine lv_if_eq (tgt := 41) hx hb dX11_may_34 (by decide) (fun c_14 => absurd c_14 (by decide)) (fun c_14 => ?_)
        refine lv_iconst (v := 1) hx hb dX11_may_37 (by decide) ?_
        refine lv_goto (tgt := 42) hx hb dX11_may_38 (by decide) ?_
        exact W.iret (v := 1) hx hb hr (fun t ht hW9 => ⟨⟨1, 1, rfl, rfl, ⟨u, fun _ _ => rfl, ⟨τ, ln, y_12, g, hMo, hKM, hI, tw_at ht hT⟩⟩⟩, hS.F ht⟩) hS.2.2 dX11_may_42
      · refine lq_top (v := 0) hre ?_
        rw [ht] at hT
        have hKM := hKM.ag hMo hgy_13 (by decide)
        have hI := hI.ag hgy_13 (by decide)
        refine lv_if_eq (tgt := 41) hx hb dX11_may_34 (by decide) (fun c_15 => ?_) (fun c_15 => absurd c_15 (by decide))
        refine lv_iconst (v := 0) hx hb dX11_may_41 (by decide) ?_
        exact W.iret (v := 0) hx hb hr (fun t ht hW9 => ⟨⟨0, 0, rfl, rfl, ⟨u, fun _ _ => rfl, ⟨τ, ln, y_13, g, hMo, hKM, hI, tw_at ht hT⟩⟩⟩, hS.F ht⟩) hS.2.2 dX11_may_42
    · refine lq_top (v := 0) hre ?_
      rw [ht] at hT
      refine lv_if_ne (tgt := 24) hx hb dX11_may_19 (by decide) (fun c_16 => absurd c_16 (by decide)) (fun c_16 => ?_)
      refine lv_iconst (v := (-1)) hx hb dX11_may_22 (by decide) ?_
      exact W.iret (v := (-1)) hx hb hr (fun t ht hW9 => ⟨⟨(-1), (-1), rfl, rfl, ⟨u, fun _ _ => rfl, ⟨τ, ln, y, g, hMo, hKM, hI, tw_at ht hT⟩⟩⟩, hS.F ht⟩) hS.2.2 dX11_may_23
  · refine lq_top (v := 0) hre ?_
    rw [ht] at hT
    refine lv_if_eq (tgt := 22) hx hb dX11_may_8 (by decide) (fun c_17 => ?_) (fun c_17 => absurd c_17 (by decide))
    refine lv_iconst (v := (-1)) hx hb dX11_may_22 (by decide) ?_
    exact W.iret (v := (-1)) hx hb hr (fun t ht hW9 => ⟨⟨(-1), (-1), rfl, rfl, ⟨u, fun _ _ => rfl, ⟨τ, ln, y, g, hMo, hKM, hI, tw_at ht hT⟩⟩⟩, hS.F ht⟩) hS.2.2 dX11_may_23
def wo_c_goes : List Cond := [.fieldLink RX11 10 "TypingPool" "book" "LTypingPool$Book;", .methodLink RX11 201 yX1_hasPiece, .instanceMethod yX1_hasPiece, .selects RX1 yX1_hasPiece yX1_hasPiece, .initialized RX1, .fieldLink RX11 28 "TypingPool" "floor" "LTypingPool$Floor;", .fieldLink RX11 213 "TypingPool$Floor" "done" "[I", .methodLink RX11 235 yX1_postFrom, .instanceMethod yX1_postFrom, .selects RX1 yX1_postFrom yX1_postFrom]
def wm_c_goes : List Cond := .code yX11_goes cX11_goes 2 (some .int) :: (wo_c_goes ++ (wsX110 ++ (wm_c_hasPiece ++ (wsX30 ++ (wm_c_postFrom ++ ([] : List Cond))))))
theorem gd_c_goes : ∀ w ∈ wm_c_goes, goodWord w = true := gd_c rfl (gd_a (by decide) (gd_a gd_wsX110 (gd_a gd_c_hasPiece (gd_a gd_wsX30 (gd_a gd_c_postFrom gd_nil)))))
set_option maxRecDepth 20000 in
theorem im_c_goes : ∀ w ∈ wm_c_goes, w ∈ lw_tbl := im_c (in_r [.code yX11_goes cX11_goes 2 (some .int)] [878] (by decide +kernel)) (in_app (in_r wo_c_goes [559, 859, 841, 842, 71, 561, 448, 879, 880, 881] (by decide +kernel)) (in_app im_wsX110 (in_app im_c_hasPiece (in_app im_wsX30 (in_app im_c_postFrom im_nil)))))
set_option maxHeartbeats 4000000 in
set_option maxRecDepth 100000 in
theorem c_goes (l : Launch) (dC : Nat → ClassId) (dI : Nat → Nat → Nat) (ad av : Nat → Nat) (sz : Nat) (a : Nat → Nat) (k : Nat → ClassId) (τ ln : Nat → Nat) (y : Nat → Nat → Int32) (g : Nat → Nat → Option Nat) (u : Nat → Int) (p0 : Int32) (hI : IC a u τ ln y g) : Met l yX11_goes wm_c_goes ({ frames := 1, cells := 0, slots := 0, locals := 60 }) (pw_ ad av (dC, dI) sz [.ref (a 0), .int p0] a k τ ln y g) (va_Qi (fun (r u : Int32) => u = r) (fun (r : Int32) (t : State) => (∃ (u' : Nat → Int), (∀ i, i ∉ ([] : List Nat) → u' i = u i) ∧ pq (dC, dI) a k τ y g u' sz t.heap)) (fr τ sz)) 0 0 (fr τ sz) := by
  refine Met.ofW (cc := cX11_goes) (maxL := 2) (ret := (some .int)) (by decide) rfl ?_
  intro p e s m args below meth c s₁ B hml hv
  obtain ⟨rfl, hsz, hT, hK, hM⟩ := hv
  have hx := B.exec
  have hb := B.bytes
  have hr := B.returns
  have hts := atoms_spec (ws := wm_c_goes) B.pre
  have hown : s.vm.findClass RX11 = some m.cls := findClass_of_methodNamed B.named
  have hlocks := B.notSynchronized
  subst hsz
  generalize hAe : fr τ s.heap.size = A at hM ⊢
  have hA : ∀ q : Nat, s.heap.size ≤ q → A q := fun q h => by rw [← hAe]; exact Or.inr h
  have hF : ∀ q, τ q ≠ 0 → A q := fun q h => by rw [← hAe]; exact Or.inl h
  have hS : va_S A s.heap s.heap [] := va_S.rf
  have hX := hI.1
  have hR := ic_r hI
  have hMo : mono τ τ s.heap.size := mono.rf
  have hKM : kpM τ y g y g := kpM.rf
  have hl := lv_entry ([.ref (a 0), .int p0]) (n := 2) (Nat.le_of_ble_eq_true rfl)
  rw [lg_entry_eq]
  generalize (lg_sl ([.ref (a 0), .int p0]) ++ List.replicate (2 - (lg_sl ([.ref (a 0), .int p0])).length) Slot.unset).toArray = ls at hl ⊢
  have hl : lv_has ls 2 [(0, .ref (a 0)), (1, .int p0)] := hl
  refine lv_aload_n hx hb dX11_goes_0 rfl (lv_at hl 0 rfl) ?_
  refine tw_get (D := (dC, dI)) (v := .ref (a 1)) (C := RX11) (T := TX11) (N := 10) hx hb hts (fun _ hh => (List.mem_cons_of_mem _ (List.mem_append_right _ (List.mem_append_left _ hh)))) hown hK hT (fx_0 hX) (by decide) cl_e10 rfl 0 (by decide) (hts (.fieldLink RX11 10 "TypingPool" "book" "LTypingPool$Book;") (List.mem_cons_of_mem _ (List.mem_append_left _ (List.mem_of_getElem? (i := 0) rfl)))) (fun _ h9 => h9) rfl dX11_goes_1 ?_
  refine lv_iload_n hx hb dX11_goes_4 rfl (lv_at hl 1 rfl) ?_
  have hFc := tw_free hF hS hA
  refine va_calli (va_runV (As := [.int p0]) (rest := []) ⟨hx, hb, hml, hown, hts⟩ (c_hasPiece l dC dI ad av s.heap.size a k τ ln y g u p0 hI ) (cwV 1 hts (gi_4 (List.mem_cons_of_mem _ (List.mem_append_left _ (List.mem_of_getElem? (i := 1) rfl))) (List.mem_cons_of_mem _ (List.mem_append_left _ (List.mem_of_getElem? (i := 2) rfl))) (List.mem_cons_of_mem _ (List.mem_append_left _ (List.mem_of_getElem? (i := 3) rfl))) (List.mem_cons_of_mem _ (List.mem_append_left _ (List.mem_of_getElem? (i := 4) rfl))) (fun _ hh => (List.mem_cons_of_mem _ (List.mem_append_right _ (List.mem_append_right _ (List.mem_append_left _ hh))))) gd_c_hasPiece) rfl rfl rfl (by decide +kernel) ⟨Nat.le_of_ble_eq_true rfl, Nat.le_of_ble_eq_true rfl⟩) ⟨pw_blind, tw_recv hK hT (fx_1 hX) (by decide) cl_e11 rfl, pw_use hT hK hFc hS hM⟩ rfl rfl hl.1 rfl (lv_room (Nat.le_of_ble_eq_true rfl)) dX11_goes_5 ⟨Nat.le_of_ble_eq_true rfl, Nat.le_of_ble_eq_true rfl⟩) hS (fun q _ h => hFc q h) hFc (fun r0 r_1 t H locs ht hvm hw hB hz1 hk1 hS => ?_)
  refine W.widen (k := 0) (n := 0) (Nat.le_of_ble_eq_true rfl) (Nat.le_of_ble_eq_true rfl) ?_
  clear hvm hz1 hk1
  subst hw
  rcases hB with ⟨hre, hf_2, hf_3, hT⟩ | ⟨hre, hf_4, hT⟩
  · refine lq_top (v := 1) hre ?_
    rw [ht] at hT
    refine lv_if_eq (tgt := 24) hx hb dX11_goes_8 (by decide) (fun c_5 => absurd c_5 (by decide)) (fun c_5 => ?_)
    refine lv_aload_n hx hb dX11_goes_11 rfl (lv_at hl 0 rfl) ?_
    refine tw_get (D := (dC, dI)) (v := .ref (a 3)) (C := RX11) (T := TX11) (N := 10) hx hb hts (fun _ hh => (List.mem_cons_of_mem _ (List.mem_append_right _ (List.mem_append_left _ hh)))) hown hK hT (fx_0 hX) (by decide) cl_e10 rfl 2 (by decide) (hts (.fieldLink RX11 28 "TypingPool" "floor" "LTypingPool$Floor;") (List.mem_cons_of_mem _ (List.mem_append_left _ (List.mem_of_getElem? (i := 5) rfl)))) (fun _ h9 => h9) rfl dX11_goes_12 ?_
    refine tw_get (D := (dC, dI)) (v := .ref (a 26)) (C := RX3) (T := TX3) (N := 12) hx hb hts (fun _ hh => (List.mem_cons_of_mem _ (List.mem_append_right _ (List.mem_append_right _ (List.mem_append_right _ (List.mem_append_left _ hh)))))) hown hK hT (fx_3 hX) (by decide) cl_e13 rfl 9 (by decide) (hts (.fieldLink RX11 213 "TypingPool$Floor" "done" "[I") (List.mem_cons_of_mem _ (List.mem_append_left _ (List.mem_of_getElem? (i := 6) rfl)))) (fun _ h9 => h9) rfl dX11_goes_15 ?_
    refine lv_iload_n hx hb dX11_goes_18 rfl (lv_at hl 1 rfl) ?_
    refine tw_iald hx hb hK hT 0 (fx_26 hX) (by decide) cl_e36 rfl (z_in rfl (by omega) (by omega)) dX11_goes_19 ?_
    refine lv_iconst (v := (-1)) hx hb dX11_goes_20 (by decide) ?_
    refine lv_icmp_ne (tgt := 26) hx hb dX11_goes_21 (by decide) (fun c_6 => ?_) (fun c_6 => ?_)
    · have nc_6 := z_ne rfl (zk (x := (-1)) (-1) rfl) c_6
      refine lv_aload_n hx hb dX11_goes_26 rfl (lv_at hl 0 rfl) ?_
      refine tw_get (D := (dC, dI)) (v := .ref (a 1)) (C := RX11) (T := TX11) (N := 10) hx hb hts (fun _ hh => (List.mem_cons_of_mem _ (List.mem_append_right _ (List.mem_append_left _ hh)))) hown hK hT (fx_0 hX) (by decide) cl_e10 rfl 0 (by decide) (hts (.fieldLink RX11 10 "TypingPool" "book" "LTypingPool$Book;") (List.mem_cons_of_mem _ (List.mem_append_left _ (List.mem_of_getElem? (i := 0) rfl)))) (fun _ h9 => h9) rfl dX11_goes_27 ?_
      refine lv_aload_n hx hb dX11_goes_30 rfl (lv_at hl 0 rfl) ?_
      refine tw_get (D := (dC, dI)) (v := .ref (a 3)) (C := RX11) (T := TX11) (N := 10) hx hb hts (fun _ hh => (List.mem_cons_of_mem _ (List.mem_append_right _ (List.mem_append_left _ hh)))) hown hK hT (fx_0 hX) (by decide) cl_e10 rfl 2 (by decide) (hts (.fieldLink RX11 28 "TypingPool" "floor" "LTypingPool$Floor;") (List.mem_cons_of_mem _ (List.mem_append_left _ (List.mem_of_getElem? (i := 5) rfl)))) (fun _ h9 => h9) rfl dX11_goes_31 ?_
      refine tw_get (D := (dC, dI)) (v := .ref (a 26)) (C := RX3) (T := TX3) (N := 12) hx hb hts (fun _ hh => (List.mem_cons_of_mem _ (List.mem_append_right _ (List.mem_append_right _ (List.mem_append_right _ (List.mem_append_left _ hh)))))) hown hK hT (fx_3 hX) (by decide) cl_e13 rfl 9 (by decide) (hts (.fieldLink RX11 213 "TypingPool$Floor" "done" "[I") (List.mem_cons_of_mem _ (List.mem_append_left _ (List.mem_of_getElem? (i := 6) rfl)))) (fun _ h9 => h9) rfl dX11_goes_34 ?_
      refine lv_iload_n hx hb dX11_goes_37 rfl (lv_at hl 1 rfl) ?_
      refine tw_iald hx hb hK hT 0 (fx_26 hX) (by decide) cl_e36 rfl (z_in rfl (by omega) (by omega)) dX11_goes_38 ?_
      have hFc := tw_free hF hS hA
      refine va_calli (va_runV (As := [.int (y (a 26) p0.toNatClampNeg)]) (rest := []) ⟨hx, hb, hml, hown, hts⟩ (c_postFrom l dC dI ad av H.size a k τ ln y g u (y (a 26) p0.toNatClampNeg) hI ) (cwV 1 hts (gi_4 (List.mem_cons_of_mem _ (List.mem_append_left _ (List.mem_of_getElem? (i := 7) rfl))) (List.mem_cons_of_mem _ (List.mem_append_left _ (List.mem_of_getElem? (i := 8) rfl))) (List.mem_cons_of_mem _ (List.mem_append_left _ (List.mem_of_getElem? (i := 9) rfl))) (List.mem_cons_of_mem _ (List.mem_append_left _ (List.mem_of_getElem? (i := 4) rfl))) (fun _ hh => (List.mem_cons_of_mem _ (List.mem_append_right _ (List.mem_append_right _ (List.mem_append_right _ (List.mem_append_right _ (List.mem_append_left _ hh))))))) gd_c_postFrom) rfl rfl rfl (by decide +kernel) ⟨Nat.le_of_ble_eq_true rfl, Nat.le_of_ble_eq_true rfl⟩) ⟨pw_blind, tw_recv hK hT (fx_1 hX) (by decide) cl_e11 rfl, pw_use hT hK hFc hS hM⟩ rfl rfl hl.1 rfl (lv_room (Nat.le_of_ble_eq_true rfl)) dX11_goes_39 ⟨Nat.le_of_ble_eq_true rfl, Nat.le_of_ble_eq_true rfl⟩) hS (fun q _ h => hFc q h) hFc (fun r0 r_7 t H locs ht hvm hw hB hz1 hk1 hS => ?_)
      refine W.widen (k := 0) (n := 0) (Nat.le_of_ble_eq_true rfl) (Nat.le_of_ble_eq_true rfl) ?_
      clear hvm hz1 hk1
      subst hw
      have hT := hB
      rw [ht] at hT
      exact W.iret (v := r_7) hx hb hr (fun t ht hW9 => ⟨⟨r_7, r_7, rfl, rfl, ⟨u, fun _ _ => rfl, ⟨τ, ln, y, g, hMo, hKM, hI, tw_at ht hT⟩⟩⟩, hS.F ht⟩) hS.2.2 dX11_goes_42
    · have nc_6 := z_eq rfl (zk (x := (-1)) (-1) rfl) c_6
      refine lv_iconst (v := (-1)) hx hb dX11_goes_24 (by decide) ?_
      exact W.iret (v := (-1)) hx hb hr (fun t ht hW9 => ⟨⟨(-1), (-1), rfl, rfl, ⟨u, fun _ _ => rfl, ⟨τ, ln, y, g, hMo, hKM, hI, tw_at ht hT⟩⟩⟩, hS.F ht⟩) hS.2.2 dX11_goes_25
  · refine lq_top (v := 0) hre ?_
    rw [ht] at hT
    refine lv_if_eq (tgt := 24) hx hb dX11_goes_8 (by decide) (fun c_8 => ?_) (fun c_8 => absurd c_8 (by decide))
    refine lv_iconst (v := (-1)) hx hb dX11_goes_24 (by decide) ?_
    exact W.iret (v := (-1)) hx hb hr (fun t ht hW9 => ⟨⟨(-1), (-1), rfl, rfl, ⟨u, fun _ _ => rfl, ⟨τ, ln, y, g, hMo, hKM, hI, tw_at ht hT⟩⟩⟩, hS.F ht⟩) hS.2.2 dX11_goes_25
def wo_c_count : List Cond := [.fieldLink RX11 28 "TypingPool" "floor" "LTypingPool$Floor;", .fieldLink RX11 99 "TypingPool$Floor" "now" "I", .fieldLink RX11 10 "TypingPool" "book" "LTypingPool$Book;", .fieldLink RX11 79 "TypingPool$Book" "handCount" "I", .fieldLink RX11 112 "TypingPool$Book" "pieceCount" "I", .fieldLink RX11 19 "TypingPool" "rules" "LTypingPool$Rules;", .fieldLink RX11 156 "TypingPool$Rules" "count" "I", .fieldLink RX11 40 "TypingPool" "ledger" "LTypingPool$Ledger;", .fieldLink RX11 238 "TypingPool$Ledger" "count" "I", .fieldLink RX11 102 "TypingPool$Book" "awayCount" "I", .methodLink RX11 239 yX3_inState, .instanceMethod yX3_inState, .selects RX3 yX3_inState yX3_inState, .initialized RX3, .methodLink RX11 242 yX3_lateOnes, .instanceMethod yX3_lateOnes, .selects RX3 yX3_lateOnes yX3_lateOnes, .fieldLink RX11 245 "TypingPool$Ledger" "as" "I", .fieldLink RX11 65 "TypingPool" "rowLength" "I", .fieldLink RX11 57 "TypingPool" "textLength" "I", .fieldLink RX11 72 "TypingPool$Book" "postCount" "I"]
def wm_c_count : List Cond := .code yX11_count cX11_count 2 (some .int) :: (wo_c_count ++ (wsX110 ++ (wsX30 ++ (wsX10 ++ (wsX100 ++ (wsX50 ++ (wm_c_inState ++ (wm_c_lateOnes ++ ([] : List Cond)))))))))
theorem gd_c_count : ∀ w ∈ wm_c_count, goodWord w = true := gd_c rfl (gd_a (by decide) (gd_a gd_wsX110 (gd_a gd_wsX30 (gd_a gd_wsX10 (gd_a gd_wsX100 (gd_a gd_wsX50 (gd_a gd_c_inState (gd_a gd_c_lateOnes gd_nil))))))))
set_option maxRecDepth 20000 in
theorem im_c_count : ∀ w ∈ wm_c_count, w ∈ lw_tbl := im_c (in_r [.code yX11_count cX11_count 2 (some .int)] [886] (by decide +kernel)) (in_app (in_r wo_c_count [561, 429, 559, 124, 133, 560, 400, 563, 493, 137, 887, 888, 889, 83, 891, 892, 893, 495, 568, 566, 119] (by decide +kernel)) (in_app im_wsX110 (in_app im_wsX30 (in_app im_wsX10 (in_app im_wsX100 (in_app im_wsX50 (in_app im_c_inState (in_app im_c_lateOnes im_nil))))))))
set_option maxHeartbeats 4000000 in
set_option maxRecDepth 100000 in
theorem c_count (l : Launch) (dC : Nat → ClassId) (dI : Nat → Nat → Nat) (ad av : Nat → Nat) (sz : Nat) (a : Nat → Nat) (k : Nat → ClassId) (τ ln : Nat → Nat) (y : Nat → Nat → Int32) (g : Nat → Nat → Option Nat) (u : Nat → Int) (p0 : Int32) (hI : IC a u τ ln y g) : Met l yX11_count wm_c_count ({ frames := 5, cells := 0, slots := 0, locals := 260 }) (pw_ ad av (dC, dI) sz [.ref (a 0), .int p0] a k τ ln y g) (va_Qi (fun (r u : Int32) => u = r) (fun (r : Int32) (t : State) => (∃ (u' : Nat → Int), (∀ i, i ∉ ([] : List Nat) → u' i = u i) ∧ pq (dC, dI) a k τ y g u' sz t.heap)) (fr τ sz)) 0 0 (fr τ sz) := by
  refine Met.ofW (cc := cX11_count) (maxL := 2) (ret := (some .int)) (by decide) rfl ?_
  intro p e s m args below meth c s₁ B hml hv
  obtain ⟨rfl, hsz, hT, hK, hM⟩ := hv
  have hx := B.exec
  have hb := B.bytes
  have hr := B.returns
  have hts := atoms_spec (ws := wm_c_count) B.pre
  have hown : s.vm.findClass RX11 = some m.cls := findClass_of_methodNamed B.named
  have hlocks := B.notSynchronized
  subst hsz
  generalize hAe : fr τ s.heap.size = A at hM ⊢
  have hA : ∀ q : Nat, s.heap.size ≤ q → A q := fun q h => by rw [← hAe]; exact Or.inr h
  have hF : ∀ q, τ q ≠ 0 → A q := fun q h => by rw [← hAe]; exact Or.inl h
  have hS : va_S A s.heap s.heap [] := va_S.rf
  have hX := hI.1
  have hR := ic_r hI
  have hMo : mono τ τ s.heap.size := mono.rf
  have hKM : kpM τ y g y g := kpM.rf
  have hl := lv_entry ([.ref (a 0), .int p0]) (n := 2) (Nat.le_of_ble_eq_true rfl)
  rw [lg_entry_eq]
  generalize (lg_sl ([.ref (a 0), .int p0]) ++ List.replicate (2 - (lg_sl ([.ref (a 0), .int p0])).length) Slot.unset).toArray = ls at hl ⊢
  have hl : lv_has ls 2 [(0, .ref (a 0)), (1, .int p0)] := hl
  refine lv_iload_n hx hb dX11_count_0 rfl (lv_at hl 1 rfl) ?_
  rcases tb_0_12 p0 with t_1 | t_1 | t_1 | t_1 | t_1 | t_1 | t_1 | t_1 | t_1 | t_1 | t_1 | t_1 | t_1 | t_1
  · refine lq_top (v := 0) t_1 ?_
    have nt_1 := z_eq rfl (zk (x := 0) 0 rfl) t_1
    refine lv_tableIn (tgt := 68) hx hb dX11_count_1 (by decide) (by decide) (off := 67) (by decide) (by decide) ?_
    refine lv_aload_n hx hb dX11_count_68 rfl (lv_at hl 0 rfl) ?_
    refine tw_get (D := (dC, dI)) (v := .ref (a 3)) (C := RX11) (T := TX11) (N := 10) hx hb hts (fun _ hh => (List.mem_cons_of_mem _ (List.mem_append_right _ (List.mem_append_left _ hh)))) hown hK hT (fx_0 hX) (by decide) cl_e10 rfl 2 (by decide) (hts (.fieldLink RX11 28 "TypingPool" "floor" "LTypingPool$Floor;") (List.mem_cons_of_mem _ (List.mem_append_left _ (List.mem_of_getElem? (i := 0) rfl)))) (fun _ h9 => h9) rfl dX11_count_69 ?_
    refine tw_get (D := (dC, dI)) (v := .int (y (a 3) 2)) (C := RX3) (T := TX3) (N := 12) hx hb hts (fun _ hh => (List.mem_cons_of_mem _ (List.mem_append_right _ (List.mem_append_right _ (List.mem_append_left _ hh))))) hown hK hT (fx_3 hX) (by decide) cl_e13 rfl 2 (by decide) (hts (.fieldLink RX11 99 "TypingPool$Floor" "now" "I") (List.mem_cons_of_mem _ (List.mem_append_left _ (List.mem_of_getElem? (i := 1) rfl)))) (fun _ h9 => h9) rfl dX11_count_72 ?_
    exact W.iret (v := y (a 3) 2) hx hb hr (fun t ht hW9 => ⟨⟨y (a 3) 2, y (a 3) 2, rfl, rfl, ⟨u, fun _ _ => rfl, ⟨τ, ln, y, g, hMo, hKM, hI, tw_at ht hT⟩⟩⟩, hS.F ht⟩) hS.2.2 dX11_count_75
  · refine lq_top (v := 1) t_1 ?_
    have nt_1 := z_eq rfl (zk (x := 1) 1 rfl) t_1
    refine lv_tableIn (tgt := 76) hx hb dX11_count_1 (by decide) (by decide) (off := 75) (by decide) (by decide) ?_
    refine lv_aload_n hx hb dX11_count_76 rfl (lv_at hl 0 rfl) ?_
    refine tw_get (D := (dC, dI)) (v := .ref (a 1)) (C := RX11) (T := TX11) (N := 10) hx hb hts (fun _ hh => (List.mem_cons_of_mem _ (List.mem_append_right _ (List.mem_append_left _ hh)))) hown hK hT (fx_0 hX) (by decide) cl_e10 rfl 0 (by decide) (hts (.fieldLink RX11 10 "TypingPool" "book" "LTypingPool$Book;") (List.mem_cons_of_mem _ (List.mem_append_left _ (List.mem_of_getElem? (i := 2) rfl)))) (fun _ h9 => h9) rfl dX11_count_77 ?_
    refine tw_get (D := (dC, dI)) (v := .int (y (a 1) 3)) (C := RX1) (T := TX1) (N := 8) hx hb hts (fun _ hh => (List.mem_cons_of_mem _ (List.mem_append_right _ (List.mem_append_right _ (List.mem_append_right _ (List.mem_append_left _ hh)))))) hown hK hT (fx_1 hX) (by decide) cl_e11 rfl 3 (by decide) (hts (.fieldLink RX11 79 "TypingPool$Book" "handCount" "I") (List.mem_cons_of_mem _ (List.mem_append_left _ (List.mem_of_getElem? (i := 3) rfl)))) (fun _ h9 => h9) rfl dX11_count_80 ?_
    have hc_2 := ic_1 hI
    exact W.iret (v := y (a 1) 3) hx hb hr (fun t ht hW9 => ⟨⟨y (a 1) 3, y (a 1) 3, rfl, rfl, ⟨u, fun _ _ => rfl, ⟨τ, ln, y, g, hMo, hKM, hI, tw_at ht hT⟩⟩⟩, hS.F ht⟩) hS.2.2 dX11_count_83
  · refine lq_top (v := 2) t_1 ?_
    have nt_1 := z_eq rfl (zk (x := 2) 2 rfl) t_1
    refine lv_tableIn (tgt := 84) hx hb dX11_count_1 (by decide) (by decide) (off := 83) (by decide) (by decide) ?_
    refine lv_aload_n hx hb dX11_count_84 rfl (lv_at hl 0 rfl) ?_
    refine tw_get (D := (dC, dI)) (v := .ref (a 1)) (C := RX11) (T := TX11) (N := 10) hx hb hts (fun _ hh => (List.mem_cons_of_mem _ (List.mem_append_right _ (List.mem_append_left _ hh)))) hown hK hT (fx_0 hX) (by decide) cl_e10 rfl 0 (by decide) (hts (.fieldLink RX11 10 "TypingPool" "book" "LTypingPool$Book;") (List.mem_cons_of_mem _ (List.mem_append_left _ (List.mem_of_getElem? (i := 2) rfl)))) (fun _ h9 => h9) rfl dX11_count_85 ?_
    refine tw_get (D := (dC, dI)) (v := .int (y (a 1) 5)) (C := RX1) (T := TX1) (N := 8) hx hb hts (fun _ hh => (List.mem_cons_of_mem _ (List.mem_append_right _ (List.mem_append_right _ (List.mem_append_right _ (List.mem_append_left _ hh)))))) hown hK hT (fx_1 hX) (by decide) cl_e11 rfl 5 (by decide) (hts (.fieldLink RX11 112 "TypingPool$Book" "pieceCount" "I") (List.mem_cons_of_mem _ (List.mem_append_left _ (List.mem_of_getElem? (i := 4) rfl)))) (fun _ h9 => h9) rfl dX11_count_88 ?_
    have hc_3 := ic_2 hI
    exact W.iret (v := y (a 1) 5) hx hb hr (fun t ht hW9 => ⟨⟨y (a 1) 5, y (a 1) 5, rfl, rfl, ⟨u, fun _ _ => rfl, ⟨τ, ln, y, g, hMo, hKM, hI, tw_at ht hT⟩⟩⟩, hS.F ht⟩) hS.2.2 dX11_count_91
  · refine lq_top (v := 3) t_1 ?_
    have nt_1 := z_eq rfl (zk (x := 3) 3 rfl) t_1
    refine lv_tableIn (tgt := 92) hx hb dX11_count_1 (by decide) (by decide) (off := 91) (by decide) (by decide) ?_
    refine lv_aload_n hx hb dX11_count_92 rfl (lv_at hl 0 rfl) ?_
    refine tw_get (D := (dC, dI)) (v := .ref (a 2)) (C := RX11) (T := TX11) (N := 10) hx hb hts (fun _ hh => (List.mem_cons_of_mem _ (List.mem_append_right _ (List.mem_append_left _ hh)))) hown hK hT (fx_0 hX) (by decide) cl_e10 rfl 1 (by decide) (hts (.fieldLink RX11 19 "TypingPool" "rules" "LTypingPool$Rules;") (List.mem_cons_of_mem _ (List.mem_append_left _ (List.mem_of_getElem? (i := 5) rfl)))) (fun _ h9 => h9) rfl dX11_count_93 ?_
    refine tw_get (D := (dC, dI)) (v := .int (y (a 2) 1)) (C := RX10) (T := TX10) (N := 6) hx hb hts (fun _ hh => (List.mem_cons_of_mem _ (List.mem_append_right _ (List.mem_append_right _ (List.mem_append_right _ (List.mem_append_right _ (List.mem_append_left _ hh))))))) hown hK hT (fx_2 hX) (by decide) cl_e12 rfl 1 (by decide) (hts (.fieldLink RX11 156 "TypingPool$Rules" "count" "I") (List.mem_cons_of_mem _ (List.mem_append_left _ (List.mem_of_getElem? (i := 6) rfl)))) (fun _ h9 => h9) rfl dX11_count_96 ?_
    have hc_4 := ic_4 hI
    exact W.iret (v := y (a 2) 1) hx hb hr (fun t ht hW9 => ⟨⟨y (a 2) 1, y (a 2) 1, rfl, rfl, ⟨u, fun _ _ => rfl, ⟨τ, ln, y, g, hMo, hKM, hI, tw_at ht hT⟩⟩⟩, hS.F ht⟩) hS.2.2 dX11_count_99
  · refine lq_top (v := 4) t_1 ?_
    have nt_1 := z_eq rfl (zk (x := 4) 4 rfl) t_1
    refine lv_tableIn (tgt := 100) hx hb dX11_count_1 (by decide) (by decide) (off := 99) (by decide) (by decide) ?_
    refine lv_aload_n hx hb dX11_count_100 rfl (lv_at hl 0 rfl) ?_
    refine tw_get (D := (dC, dI)) (v := .ref (a 5)) (C := RX11) (T := TX11) (N := 10) hx hb hts (fun _ hh => (List.mem_cons_of_mem _ (List.mem_append_right _ (List.mem_append_left _ hh)))) hown hK hT (fx_0 hX) (by decide) cl_e10 rfl 4 (by decide) (hts (.fieldLink RX11 40 "TypingPool" "ledger" "LTypingPool$Ledger;") (List.mem_cons_of_mem _ (List.mem_append_left _ (List.mem_of_getElem? (i := 7) rfl)))) (fun _ h9 => h9) rfl dX11_count_101 ?_
    refine tw_get (D := (dC, dI)) (v := .int (y (a 5) 4)) (C := RX5) (T := TX5) (N := 6) hx hb hts (fun _ hh => (List.mem_cons_of_mem _ (List.mem_append_right _ (List.mem_append_right _ (List.mem_append_right _ (List.mem_append_right _ (List.mem_append_right _ (List.mem_append_left _ hh)))))))) hown hK hT (fx_5 hX) (by decide) cl_e15 rfl 4 (by decide) (hts (.fieldLink RX11 238 "TypingPool$Ledger" "count" "I") (List.mem_cons_of_mem _ (List.mem_append_left _ (List.mem_of_getElem? (i := 8) rfl)))) (fun _ h9 => h9) rfl dX11_count_104 ?_
    have hc_5 := ic_5 hI
    exact W.iret (v := y (a 5) 4) hx hb hr (fun t ht hW9 => ⟨⟨y (a 5) 4, y (a 5) 4, rfl, rfl, ⟨u, fun _ _ => rfl, ⟨τ, ln, y, g, hMo, hKM, hI, tw_at ht hT⟩⟩⟩, hS.F ht⟩) hS.2.2 dX11_count_107
  · refine lq_top (v := 5) t_1 ?_
    have nt_1 := z_eq rfl (zk (x := 5) 5 rfl) t_1
    refine lv_tableIn (tgt := 108) hx hb dX11_count_1 (by decide) (by decide) (off := 107) (by decide) (by decide) ?_
    refine lv_aload_n hx hb dX11_count_108 rfl (lv_at hl 0 rfl) ?_
    refine tw_get (D := (dC, dI)) (v := .ref (a 1)) (C := RX11) (T := TX11) (N := 10) hx hb hts (fun _ hh => (List.mem_cons_of_mem _ (List.mem_append_right _ (List.mem_append_left _ hh)))) hown hK hT (fx_0 hX) (by decide) cl_e10 rfl 0 (by decide) (hts (.fieldLink RX11 10 "TypingPool" "book" "LTypingPool$Book;") (List.mem_cons_of_mem _ (List.mem_append_left _ (List.mem_of_getElem? (i := 2) rfl)))) (fun _ h9 => h9) rfl dX11_count_109 ?_
    refine tw_get (D := (dC, dI)) (v := .int (y (a 1) 7)) (C := RX1) (T := TX1) (N := 8) hx hb hts (fun _ hh => (List.mem_cons_of_mem _ (List.mem_append_right _ (List.mem_append_right _ (List.mem_append_right _ (List.mem_append_left _ hh)))))) hown hK hT (fx_1 hX) (by decide) cl_e11 rfl 7 (by decide) (hts (.fieldLink RX11 102 "TypingPool$Book" "awayCount" "I") (List.mem_cons_of_mem _ (List.mem_append_left _ (List.mem_of_getElem? (i := 9) rfl)))) (fun _ h9 => h9) rfl dX11_count_112 ?_
    have hc_6 := ic_3 hI
    exact W.iret (v := y (a 1) 7) hx hb hr (fun t ht hW9 => ⟨⟨y (a 1) 7, y (a 1) 7, rfl, rfl, ⟨u, fun _ _ => rfl, ⟨τ, ln, y, g, hMo, hKM, hI, tw_at ht hT⟩⟩⟩, hS.F ht⟩) hS.2.2 dX11_count_115
  · refine lq_top (v := 6) t_1 ?_
    have nt_1 := z_eq rfl (zk (x := 6) 6 rfl) t_1
    refine lv_tableIn (tgt := 116) hx hb dX11_count_1 (by decide) (by decide) (off := 115) (by decide) (by decide) ?_
    refine lv_aload_n hx hb dX11_count_116 rfl (lv_at hl 0 rfl) ?_
    refine tw_get (D := (dC, dI)) (v := .ref (a 3)) (C := RX11) (T := TX11) (N := 10) hx hb hts (fun _ hh => (List.mem_cons_of_mem _ (List.mem_append_right _ (List.mem_append_left _ hh)))) hown hK hT (fx_0 hX) (by decide) cl_e10 rfl 2 (by decide) (hts (.fieldLink RX11 28 "TypingPool" "floor" "LTypingPool$Floor;") (List.mem_cons_of_mem _ (List.mem_append_left _ (List.mem_of_getElem? (i := 0) rfl)))) (fun _ h9 => h9) rfl dX11_count_117 ?_
    refine lv_iconst (v := 1) hx hb dX11_count_120 (by decide) ?_
    have hFc := tw_free hF hS hA
    have hp_7 : (1 : Int32).toInt = 1 := (zk (x := 1) 1 rfl)
    refine va_calli (va_runV (As := [.int 1]) (rest := []) ⟨hx, hb, hml, hown, hts⟩ (c_inState l dC dI ad av s.heap.size a k τ ln y g u (1 : Int32) hI ) (cwV 1 hts (gi_4 (List.mem_cons_of_mem _ (List.mem_append_left _ (List.mem_of_getElem? (i := 10) rfl))) (List.mem_cons_of_mem _ (List.mem_append_left _ (List.mem_of_getElem? (i := 11) rfl))) (List.mem_cons_of_mem _ (List.mem_append_left _ (List.mem_of_getElem? (i := 12) rfl))) (List.mem_cons_of_mem _ (List.mem_append_left _ (List.mem_of_getElem? (i := 13) rfl))) (fun _ hh => (List.mem_cons_of_mem _ (List.mem_append_right _ (List.mem_append_right _ (List.mem_append_right _ (List.mem_append_right _ (List.mem_append_right _ (List.mem_append_right _ (List.mem_append_left _ hh))))))))) gd_c_inState) rfl rfl rfl (by decide +kernel) ⟨Nat.le_of_ble_eq_true rfl, Nat.le_of_ble_eq_true rfl⟩) ⟨pw_blind, tw_recv hK hT (fx_3 hX) (by decide) cl_e13 rfl, pw_use hT hK hFc hS hM⟩ rfl rfl hl.1 rfl (lv_room (Nat.le_of_ble_eq_true rfl)) dX11_count_121 ⟨Nat.le_of_ble_eq_true rfl, Nat.le_of_ble_eq_true rfl⟩) hS (fun q _ h => hFc q h) hFc (fun r0 r_8 t H locs ht hvm hw hB hz1 hk1 hS => ?_)
    refine W.widen (k := 0) (n := 0) (Nat.le_of_ble_eq_true rfl) (Nat.le_of_ble_eq_true rfl) ?_
    clear hvm hz1 hk1
    subst hw
    have hT := hB
    rw [ht] at hT
    clear hp_7
    exact W.iret (v := r_8) hx hb hr (fun t ht hW9 => ⟨⟨r_8, r_8, rfl, rfl, ⟨u, fun _ _ => rfl, ⟨τ, ln, y, g, hMo, hKM, hI, tw_at ht hT⟩⟩⟩, hS.F ht⟩) hS.2.2 dX11_count_124
  · refine lq_top (v := 7) t_1 ?_
    have nt_1 := z_eq rfl (zk (x := 7) 7 rfl) t_1
    refine lv_tableIn (tgt := 125) hx hb dX11_count_1 (by decide) (by decide) (off := 124) (by decide) (by decide) ?_
    refine lv_aload_n hx hb dX11_count_125 rfl (lv_at hl 0 rfl) ?_
    refine tw_get (D := (dC, dI)) (v := .ref (a 3)) (C := RX11) (T := TX11) (N := 10) hx hb hts (fun _ hh => (List.mem_cons_of_mem _ (List.mem_append_right _ (List.mem_append_left _ hh)))) hown hK hT (fx_0 hX) (by decide) cl_e10 rfl 2 (by decide) (hts (.fieldLink RX11 28 "TypingPool" "floor" "LTypingPool$Floor;") (List.mem_cons_of_mem _ (List.mem_append_left _ (List.mem_of_getElem? (i := 0) rfl)))) (fun _ h9 => h9) rfl dX11_count_126 ?_
    refine lv_iconst (v := 3) hx hb dX11_count_129 (by decide) ?_
    have hFc := tw_free hF hS hA
    have hp_9 : (3 : Int32).toInt = 3 := (zk (x := 3) 3 rfl)
    refine va_calli (va_runV (As := [.int 3]) (rest := []) ⟨hx, hb, hml, hown, hts⟩ (c_inState l dC dI ad av s.heap.size a k τ ln y g u (3 : Int32) hI ) (cwV 1 hts (gi_4 (List.mem_cons_of_mem _ (List.mem_append_left _ (List.mem_of_getElem? (i := 10) rfl))) (List.mem_cons_of_mem _ (List.mem_append_left _ (List.mem_of_getElem? (i := 11) rfl))) (List.mem_cons_of_mem _ (List.mem_append_left _ (List.mem_of_getElem? (i := 12) rfl))) (List.mem_cons_of_mem _ (List.mem_append_left _ (List.mem_of_getElem? (i := 13) rfl))) (fun _ hh => (List.mem_cons_of_mem _ (List.mem_append_right _ (List.mem_append_right _ (List.mem_append_right _ (List.mem_append_right _ (List.mem_append_right _ (List.mem_append_right _ (List.mem_append_left _ hh))))))))) gd_c_inState) rfl rfl rfl (by decide +kernel) ⟨Nat.le_of_ble_eq_true rfl, Nat.le_of_ble_eq_true rfl⟩) ⟨pw_blind, tw_recv hK hT (fx_3 hX) (by decide) cl_e13 rfl, pw_use hT hK hFc hS hM⟩ rfl rfl hl.1 rfl (lv_room (Nat.le_of_ble_eq_true rfl)) dX11_count_130 ⟨Nat.le_of_ble_eq_true rfl, Nat.le_of_ble_eq_true rfl⟩) hS (fun q _ h => hFc q h) hFc (fun r0 r_10 t H locs ht hvm hw hB hz1 hk1 hS => ?_)
    refine W.widen (k := 0) (n := 0) (Nat.le_of_ble_eq_true rfl) (Nat.le_of_ble_eq_true rfl) ?_
    clear hvm hz1 hk1
    subst hw
    have hT := hB
    rw [ht] at hT
    clear hp_9
    exact W.iret (v := r_10) hx hb hr (fun t ht hW9 => ⟨⟨r_10, r_10, rfl, rfl, ⟨u, fun _ _ => rfl, ⟨τ, ln, y, g, hMo, hKM, hI, tw_at ht hT⟩⟩⟩, hS.F ht⟩) hS.2.2 dX11_count_133
  · refine lq_top (v := 8) t_1 ?_
    have nt_1 := z_eq rfl (zk (x := 8) 8 rfl) t_1
    refine lv_tableIn (tgt := 134) hx hb dX11_count_1 (by decide) (by decide) (off := 133) (by decide) (by decide) ?_
    refine lv_aload_n hx hb dX11_count_134 rfl (lv_at hl 0 rfl) ?_
    refine tw_get (D := (dC, dI)) (v := .ref (a 3)) (C := RX11) (T := TX11) (N := 10) hx hb hts (fun _ hh => (List.mem_cons_of_mem _ (List.mem_append_right _ (List.mem_append_left _ hh)))) hown hK hT (fx_0 hX) (by decide) cl_e10 rfl 2 (by decide) (hts (.fieldLink RX11 28 "TypingPool" "floor" "LTypingPool$Floor;") (List.mem_cons_of_mem _ (List.mem_append_left _ (List.mem_of_getElem? (i := 0) rfl)))) (fun _ h9 => h9) rfl dX11_count_135 ?_
    have hFc := tw_free hF hS hA
    refine va_calli (va_runV (As := []) (rest := []) ⟨hx, hb, hml, hown, hts⟩ (c_lateOnes l dC dI ad av s.heap.size a k τ ln y g u  hI ) (cwV 0 hts (gi_4 (List.mem_cons_of_mem _ (List.mem_append_left _ (List.mem_of_getElem? (i := 14) rfl))) (List.mem_cons_of_mem _ (List.mem_append_left _ (List.mem_of_getElem? (i := 15) rfl))) (List.mem_cons_of_mem _ (List.mem_append_left _ (List.mem_of_getElem? (i := 16) rfl))) (List.mem_cons_of_mem _ (List.mem_append_left _ (List.mem_of_getElem? (i := 13) rfl))) (fun _ hh => (List.mem_cons_of_mem _ (List.mem_append_right _ (List.mem_append_right _ (List.mem_append_right _ (List.mem_append_right _ (List.mem_append_right _ (List.mem_append_right _ (List.mem_append_right _ (List.mem_append_left _ hh)))))))))) gd_c_lateOnes) rfl rfl rfl (by decide +kernel) ⟨Nat.le_of_ble_eq_true rfl, Nat.le_of_ble_eq_true rfl⟩) ⟨pw_blind, tw_recv hK hT (fx_3 hX) (by decide) cl_e13 rfl, pw_use hT hK hFc hS hM⟩ rfl rfl hl.1 rfl (lv_room (Nat.le_of_ble_eq_true rfl)) dX11_count_138 ⟨Nat.le_of_ble_eq_true rfl, Nat.le_of_ble_eq_true rfl⟩) hS (fun q _ h => hFc q h) hFc (fun r0 r_11 t H locs ht hvm hw hB hz1 hk1 hS => ?_)
    refine W.widen (k := 0) (n := 0) (Nat.le_of_ble_eq_true rfl) (Nat.le_of_ble_eq_true rfl) ?_
    clear hvm hz1 hk1
    subst hw
    have hT := hB
    rw [ht] at hT
    exact W.iret (v := r_11) hx hb hr (fun t ht hW9 => ⟨⟨r_11, r_11, rfl, rfl, ⟨u, fun _ _ => rfl, ⟨τ, ln, y, g, hMo, hKM, hI, tw_at ht hT⟩⟩⟩, hS.F ht⟩) hS.2.2 dX11_count_141
  · refine lq_top (v := 9) t_1 ?_
    have nt_1 := z_eq rfl (zk (x := 9) 9 rfl) t_1
    refine lv_tableIn (tgt := 142) hx hb dX11_count_1 (by decide) (by decide) (off := 141) (by decide) (by decide) ?_
    refine lv_aload_n hx hb dX11_count_142 rfl (lv_at hl 0 rfl) ?_
    refine tw_get (D := (dC, dI)) (v := .ref (a 5)) (C := RX11) (T := TX11) (N := 10) hx hb hts (fun _ hh => (List.mem_cons_of_mem _ (List.mem_append_right _ (List.mem_append_left _ hh)))) hown hK hT (fx_0 hX) (by decide) cl_e10 rfl 4 (by decide) (hts (.fieldLink RX11 40 "TypingPool" "ledger" "LTypingPool$Ledger;") (List.mem_cons_of_mem _ (List.mem_append_left _ (List.mem_of_getElem? (i := 7) rfl)))) (fun _ h9 => h9) rfl dX11_count_143 ?_
    refine tw_get (D := (dC, dI)) (v := .int (y (a 5) 5)) (C := RX5) (T := TX5) (N := 6) hx hb hts (fun _ hh => (List.mem_cons_of_mem _ (List.mem_append_right _ (List.mem_append_right _ (List.mem_append_right _ (List.mem_append_right _ (List.mem_append_right _ (List.mem_append_left _ hh)))))))) hown hK hT (fx_5 hX) (by decide) cl_e15 rfl 5 (by decide) (hts (.fieldLink RX11 245 "TypingPool$Ledger" "as" "I") (List.mem_cons_of_mem _ (List.mem_append_left _ (List.mem_of_getElem? (i := 17) rfl)))) (fun _ h9 => h9) rfl dX11_count_146 ?_
    have hc_12 := ic_8 hI
    exact W.iret (v := y (a 5) 5) hx hb hr (fun t ht hW9 => ⟨⟨y (a 5) 5, y (a 5) 5, rfl, rfl, ⟨u, fun _ _ => rfl, ⟨τ, ln, y, g, hMo, hKM, hI, tw_at ht hT⟩⟩⟩, hS.F ht⟩) hS.2.2 dX11_count_149
  · refine lq_top (v := 10) t_1 ?_
    have nt_1 := z_eq rfl (zk (x := 10) 10 rfl) t_1
    refine lv_tableIn (tgt := 150) hx hb dX11_count_1 (by decide) (by decide) (off := 149) (by decide) (by decide) ?_
    refine lv_aload_n hx hb dX11_count_150 rfl (lv_at hl 0 rfl) ?_
    refine tw_get (D := (dC, dI)) (v := .int (y (a 0) 9)) (C := RX11) (T := TX11) (N := 10) hx hb hts (fun _ hh => (List.mem_cons_of_mem _ (List.mem_append_right _ (List.mem_append_left _ hh)))) hown hK hT (fx_0 hX) (by decide) cl_e10 rfl 9 (by decide) (hts (.fieldLink RX11 65 "TypingPool" "rowLength" "I") (List.mem_cons_of_mem _ (List.mem_append_left _ (List.mem_of_getElem? (i := 18) rfl)))) (fun _ h9 => h9) rfl dX11_count_151 ?_
    have hc_13 := ic_7 hI
    exact W.iret (v := y (a 0) 9) hx hb hr (fun t ht hW9 => ⟨⟨y (a 0) 9, y (a 0) 9, rfl, rfl, ⟨u, fun _ _ => rfl, ⟨τ, ln, y, g, hMo, hKM, hI, tw_at ht hT⟩⟩⟩, hS.F ht⟩) hS.2.2 dX11_count_154
  · refine lq_top (v := 11) t_1 ?_
    have nt_1 := z_eq rfl (zk (x := 11) 11 rfl) t_1
    refine lv_tableIn (tgt := 155) hx hb dX11_count_1 (by decide) (by decide) (off := 154) (by decide) (by decide) ?_
    refine lv_aload_n hx hb dX11_count_155 rfl (lv_at hl 0 rfl) ?_
    refine tw_get (D := (dC, dI)) (v := .int (y (a 0) 7)) (C := RX11) (T := TX11) (N := 10) hx hb hts (fun _ hh => (List.mem_cons_of_mem _ (List.mem_append_right _ (List.mem_append_left _ hh)))) hown hK hT (fx_0 hX) (by decide) cl_e10 rfl 7 (by decide) (hts (.fieldLink RX11 57 "TypingPool" "textLength" "I") (List.mem_cons_of_mem _ (List.mem_append_left _ (List.mem_of_getElem? (i := 19) rfl)))) (fun _ h9 => h9) rfl dX11_count_156 ?_
    have hc_14 := ic_6 hI
    exact W.iret (v := y (a 0) 7) hx hb hr (fun t ht hW9 => ⟨⟨y (a 0) 7, y (a 0) 7, rfl, rfl, ⟨u, fun _ _ => rfl, ⟨τ, ln, y, g, hMo, hKM, hI, tw_at ht hT⟩⟩⟩, hS.F ht⟩) hS.2.2 dX11_count_159
  · refine lq_top (v := 12) t_1 ?_
    have nt_1 := z_eq rfl (zk (x := 12) 12 rfl) t_1
    refine lv_tableIn (tgt := 160) hx hb dX11_count_1 (by decide) (by decide) (off := 159) (by decide) (by decide) ?_
    refine lv_aload_n hx hb dX11_count_160 rfl (lv_at hl 0 rfl) ?_
    refine tw_get (D := (dC, dI)) (v := .ref (a 1)) (C := RX11) (T := TX11) (N := 10) hx hb hts (fun _ hh => (List.mem_cons_of_mem _ (List.mem_append_right _ (List.mem_append_left _ hh)))) hown hK hT (fx_0 hX) (by decide) cl_e10 rfl 0 (by decide) (hts (.fieldLink RX11 10 "TypingPool" "book" "LTypingPool$Book;") (List.mem_cons_of_mem _ (List.mem_append_left _ (List.mem_of_getElem? (i := 2) rfl)))) (fun _ h9 => h9) rfl dX11_count_161 ?_
    refine tw_get (D := (dC, dI)) (v := .int (y (a 1) 1)) (C := RX1) (T := TX1) (N := 8) hx hb hts (fun _ hh => (List.mem_cons_of_mem _ (List.mem_append_right _ (List.mem_append_right _ (List.mem_append_right _ (List.mem_append_left _ hh)))))) hown hK hT (fx_1 hX) (by decide) cl_e11 rfl 1 (by decide) (hts (.fieldLink RX11 72 "TypingPool$Book" "postCount" "I") (List.mem_cons_of_mem _ (List.mem_append_left _ (List.mem_of_getElem? (i := 20) rfl)))) (fun _ h9 => h9) rfl dX11_count_164 ?_
    have hc_15 := ic_0 hI
    exact W.iret (v := y (a 1) 1) hx hb hr (fun t ht hW9 => ⟨⟨y (a 1) 1, y (a 1) 1, rfl, rfl, ⟨u, fun _ _ => rfl, ⟨τ, ln, y, g, hMo, hKM, hI, tw_at ht hT⟩⟩⟩, hS.F ht⟩) hS.2.2 dX11_count_167
  · refine lv_tableOut (tgt := 168) hx hb dX11_count_1 t_1 (by decide) ?_
    refine lv_iconst (v := (-1)) hx hb dX11_count_168 (by decide) ?_
    exact W.iret (v := (-1)) hx hb hr (fun t ht hW9 => ⟨⟨(-1), (-1), rfl, rfl, ⟨u, fun _ _ => rfl, ⟨τ, ln, y, g, hMo, hKM, hI, tw_at ht hT⟩⟩⟩, hS.F ht⟩) hS.2.2 dX11_count_169
def wo_c_correct : List Cond := [.fieldLink RX11 10 "TypingPool" "book" "LTypingPool$Book;", .methodLink RX11 201 yX1_hasPiece, .instanceMethod yX1_hasPiece, .selects RX1 yX1_hasPiece yX1_hasPiece, .initialized RX1, .fieldLink RX11 28 "TypingPool" "floor" "LTypingPool$Floor;", .fieldLink RX11 213 "TypingPool$Floor" "done" "[I", .methodLink RX11 68 yX11_within, .static yX11_within, .initialized RX11, .fieldLink RX11 40 "TypingPool" "ledger" "LTypingPool$Ledger;", .fieldLink RX11 238 "TypingPool$Ledger" "count" "I", .fieldLink RX11 248 "TypingPool$Ledger" "corrections" "[LTypingPool$Correction;", .classLink RX11 252 RX2, .instantiable RX2 6, .initialized RX2, .instanceMethod yX2_init, .methodLink RX11 254 yX2_init]
def wm_c_correct : List Cond := .code yX11_correct cX11_correct 8 (some .int) :: (wo_c_correct ++ (wsX110 ++ (wm_c_hasPiece ++ (wsX30 ++ (wm_c_within ++ (wsX50 ++ (wsX20 ++ (wm_c_Corr_init ++ ([] : List Cond)))))))))
theorem gd_c_correct : ∀ w ∈ wm_c_correct, goodWord w = true := gd_c rfl (gd_a (by decide) (gd_a gd_wsX110 (gd_a gd_c_hasPiece (gd_a gd_wsX30 (gd_a gd_c_within (gd_a gd_wsX50 (gd_a gd_wsX20 (gd_a gd_c_Corr_init gd_nil))))))))
set_option maxRecDepth 20000 in
theorem im_c_correct : ∀ w ∈ wm_c_correct, w ∈ lw_tbl := im_c (in_r [.code yX11_correct cX11_correct 8 (some .int)] [899] (by decide +kernel)) (in_app (in_r wo_c_correct [559, 859, 841, 842, 71, 561, 448, 594, 595, 70, 563, 493, 491, 900, 901, 95, 903, 902] (by decide +kernel)) (in_app im_wsX110 (in_app im_c_hasPiece (in_app im_wsX30 (in_app im_c_within (in_app im_wsX50 (in_app im_wsX20 (in_app im_c_Corr_init im_nil))))))))
set_option maxHeartbeats 4000000 in
set_option maxRecDepth 100000 in
theorem c_correct (l : Launch) (dC : Nat → ClassId) (dI : Nat → Nat → Nat) (ad av : Nat → Nat) (sz : Nat) (a : Nat → Nat) (k : Nat → ClassId) (τ ln : Nat → Nat) (y : Nat → Nat → Int32) (g : Nat → Nat → Option Nat) (u : Nat → Int) (p0 : Int32) (p1 : Int32) (p2 : Int32) (p3 : Int32) (p4 : Int32) (hI : IC a u τ ln y g) : Met l yX11_correct wm_c_correct ({ frames := 3, cells := 1, slots := 6, locals := 140 }) (pw_ ad av (dC, dI) sz [.ref (a 0), .int p0, .int p1, .int p2, .int p3, .int p4] a k τ ln y g) (va_Qi (fun (r u : Int32) => u = r) (fun (r : Int32) (t : State) => (∃ (u' : Nat → Int), (∀ i, i ∉ ([5] : List Nat) → u' i = u i) ∧ pq (dC, dI) a k τ y g u' sz t.heap)) (fr τ sz)) 1 6 (fr τ sz) := by
  refine Met.ofW (cc := cX11_correct) (maxL := 8) (ret := (some .int)) (by decide) rfl ?_
  intro p e s m args below meth c s₁ B hml hv
  obtain ⟨rfl, hsz, hT, hK, hM⟩ := hv
  have hx := B.exec
  have hb := B.bytes
  have hr := B.returns
  have hts := atoms_spec (ws := wm_c_correct) B.pre
  have hown : s.vm.findClass RX11 = some m.cls := findClass_of_methodNamed B.named
  have hlocks := B.notSynchronized
  subst hsz
  generalize hAe : fr τ s.heap.size = A at hM ⊢
  have hA : ∀ q : Nat, s.heap.size ≤ q → A q := fun q h => by rw [← hAe]; exact Or.inr h
  have hF : ∀ q, τ q ≠ 0 → A q := fun q h => by rw [← hAe]; exact Or.inl h
  have hS : va_S A s.heap s.heap [] := va_S.rf
  have hX := hI.1
  have hR := ic_r hI
  have hMo : mono τ τ s.heap.size := mono.rf
  have hKM : kpM τ y g y g := kpM.rf
  have hl := lv_entry ([.ref (a 0), .int p0, .int p1, .int p2, .int p3, .int p4]) (n := 8) (Nat.le_of_ble_eq_true rfl)
  rw [lg_entry_eq]
  generalize (lg_sl ([.ref (a 0), .int p0, .int p1, .int p2, .int p3, .int p4]) ++ List.replicate (8 - (lg_sl ([.ref (a 0), .int p0, .int p1, .int p2, .int p3, .int p4])).length) Slot.unset).toArray = ls at hl ⊢
  have hl : lv_has ls 8 [(0, .ref (a 0)), (1, .int p0), (2, .int p1), (3, .int p2), (4, .int p3), (5, .int p4)] := hl
  refine lv_aload_n hx hb dX11_correct_0 rfl (lv_at hl 0 rfl) ?_
  refine tw_get (D := (dC, dI)) (v := .ref (a 1)) (C := RX11) (T := TX11) (N := 10) hx hb hts (fun _ hh => (List.mem_cons_of_mem _ (List.mem_append_right _ (List.mem_append_left _ hh)))) hown hK hT (fx_0 hX) (by decide) cl_e10 rfl 0 (by decide) (hts (.fieldLink RX11 10 "TypingPool" "book" "LTypingPool$Book;") (List.mem_cons_of_mem _ (List.mem_append_left _ (List.mem_of_getElem? (i := 0) rfl)))) (fun _ h9 => h9) rfl dX11_correct_1 ?_
  refine lv_iload_n hx hb dX11_correct_4 rfl (lv_at hl 1 rfl) ?_
  have hFc := tw_free hF hS hA
  refine va_calli (va_runV (As := [.int p0]) (rest := []) ⟨hx, hb, hml, hown, hts⟩ (c_hasPiece l dC dI ad av s.heap.size a k τ ln y g u p0 hI ) (cwV 1 hts (gi_4 (List.mem_cons_of_mem _ (List.mem_append_left _ (List.mem_of_getElem? (i := 1) rfl))) (List.mem_cons_of_mem _ (List.mem_append_left _ (List.mem_of_getElem? (i := 2) rfl))) (List.mem_cons_of_mem _ (List.mem_append_left _ (List.mem_of_getElem? (i := 3) rfl))) (List.mem_cons_of_mem _ (List.mem_append_left _ (List.mem_of_getElem? (i := 4) rfl))) (fun _ hh => (List.mem_cons_of_mem _ (List.mem_append_right _ (List.mem_append_right _ (List.mem_append_left _ hh))))) gd_c_hasPiece) rfl rfl rfl (by decide +kernel) ⟨Nat.le_of_ble_eq_true rfl, Nat.le_of_ble_eq_true rfl⟩) ⟨pw_blind, tw_recv hK hT (fx_1 hX) (by decide) cl_e11 rfl, pw_use hT hK hFc hS hM⟩ rfl rfl hl.1 rfl (lv_room (Nat.le_of_ble_eq_true rfl)) dX11_correct_5 ⟨Nat.le_of_ble_eq_true rfl, Nat.le_of_ble_eq_true rfl⟩) hS (fun q _ h => hFc q h) hFc (fun r0 r_1 t H locs ht hvm hw hB hz1 hk1 hS => ?_)
  refine W.widen (k := 0) (n := 0) (Nat.le_of_ble_eq_true rfl) (Nat.le_of_ble_eq_true rfl) ?_
  clear hvm hz1 hk1
  subst hw
  rcases hB with ⟨hre, hf_2, hf_3, hT⟩ | ⟨hre, hf_4, hT⟩
  · refine lq_top (v := 1) hre ?_
    rw [ht] at hT
    refine lv_if_eq (tgt := 67) hx hb dX11_correct_8 (by decide) (fun c_5 => absurd c_5 (by decide)) (fun c_5 => ?_)
    refine lv_aload_n hx hb dX11_correct_11 rfl (lv_at hl 0 rfl) ?_
    refine tw_get (D := (dC, dI)) (v := .ref (a 3)) (C := RX11) (T := TX11) (N := 10) hx hb hts (fun _ hh => (List.mem_cons_of_mem _ (List.mem_append_right _ (List.mem_append_left _ hh)))) hown hK hT (fx_0 hX) (by decide) cl_e10 rfl 2 (by decide) (hts (.fieldLink RX11 28 "TypingPool" "floor" "LTypingPool$Floor;") (List.mem_cons_of_mem _ (List.mem_append_left _ (List.mem_of_getElem? (i := 5) rfl)))) (fun _ h9 => h9) rfl dX11_correct_12 ?_
    refine tw_get (D := (dC, dI)) (v := .ref (a 26)) (C := RX3) (T := TX3) (N := 12) hx hb hts (fun _ hh => (List.mem_cons_of_mem _ (List.mem_append_right _ (List.mem_append_right _ (List.mem_append_right _ (List.mem_append_left _ hh)))))) hown hK hT (fx_3 hX) (by decide) cl_e13 rfl 9 (by decide) (hts (.fieldLink RX11 213 "TypingPool$Floor" "done" "[I") (List.mem_cons_of_mem _ (List.mem_append_left _ (List.mem_of_getElem? (i := 6) rfl)))) (fun _ h9 => h9) rfl dX11_correct_15 ?_
    refine lv_iload_n hx hb dX11_correct_18 rfl (lv_at hl 1 rfl) ?_
    refine tw_iald hx hb hK hT 0 (fx_26 hX) (by decide) cl_e36 rfl (z_in rfl (by omega) (by omega)) dX11_correct_19 ?_
    refine lv_iconst (v := (-1)) hx hb dX11_correct_20 (by decide) ?_
    refine lv_icmp_eq (tgt := 67) hx hb dX11_correct_21 (by decide) (fun c_6 => ?_) (fun c_6 => ?_)
    · have nc_6 := z_eq rfl (zk (x := (-1)) (-1) rfl) c_6
      refine lv_iconst (v := 0) hx hb dX11_correct_67 (by decide) ?_
      refine lv_istore (lv' := [(6, .int 0), (0, .ref (a 0)), (1, .int p0), (2, .int p1), (3, .int p2), (4, .int p3), (5, .int p4)]) hx hb dX11_correct_68 hl (by decide) rfl (fun ls hl => ?_)
      refine lv_iload hx hb dX11_correct_70 (lv_at hl 0 rfl) ?_
      refine lv_if_eq (tgt := 87) hx hb dX11_correct_72 (by decide) (fun c_7 => ?_) (fun c_7 => absurd c_7 (by decide))
      refine lv_iconst (v := (-1)) hx hb dX11_correct_87 (by decide) ?_
      refine W.widen (k := 1) (n := 6) (Nat.le_of_ble_eq_true rfl) (Nat.le_of_ble_eq_true rfl) ?_
      exact W.iret (v := (-1)) hx hb hr (fun t ht hW9 => ⟨⟨(-1), (-1), rfl, rfl, ⟨u, fun _ _ => rfl, ⟨τ, ln, y, g, hMo, hKM, hI, tw_at ht hT⟩⟩⟩, hS.F ht⟩) hS.2.2 dX11_correct_88
    · have nc_6 := z_ne rfl (zk (x := (-1)) (-1) rfl) c_6
      refine lv_iload_n hx hb dX11_correct_24 rfl (lv_at hl 2 rfl) ?_
      refine lv_iconst (v := 0) hx hb dX11_correct_25 (by decide) ?_
      refine lv_bipush (v := 99) hx hb dX11_correct_26 (by decide) ?_
      have hFc := tw_free hF hS hA
      have hp_8 : (0 : Int32).toInt = 0 := (zk (x := 0) 0 rfl)
      have hp_9 : (99 : Int32).toInt = 99 := (zk (x := 99) 99 rfl)
      refine va_calli (va_runS (As := [.int p1, .int 0, .int 99]) (rest := []) ⟨hx, hb, hml, hown, hts⟩ (c_within l dC dI ad av H.size a k τ ln y g u p1 (0 : Int32) (99 : Int32)  ) (va_cwS 3 hts (gi_3 (List.mem_cons_of_mem _ (List.mem_append_left _ (List.mem_of_getElem? (i := 7) rfl))) (List.mem_cons_of_mem _ (List.mem_append_left _ (List.mem_of_getElem? (i := 8) rfl))) (List.mem_cons_of_mem _ (List.mem_append_left _ (List.mem_of_getElem? (i := 9) rfl))) (fun _ hh => (List.mem_cons_of_mem _ (List.mem_append_right _ (List.mem_append_right _ (List.mem_append_right _ (List.mem_append_right _ (List.mem_append_left _ hh))))))) gd_c_within) rfl rfl rfl (by decide +kernel) ⟨Nat.le_of_ble_eq_true rfl, Nat.le_of_ble_eq_true rfl⟩) ⟨pw_blind, pw_use hT hK hFc hS hM⟩ rfl rfl hl.1 rfl (lv_room (Nat.le_of_ble_eq_true rfl)) dX11_correct_28 ⟨Nat.le_of_ble_eq_true rfl, Nat.le_of_ble_eq_true rfl⟩) hS (fun q _ h => hFc q h) hFc (fun r0 r_10 t H locs ht hvm hw hB hz1 hk1 hS => ?_)
      refine W.widen (k := 0) (n := 0) (Nat.le_of_ble_eq_true rfl) (Nat.le_of_ble_eq_true rfl) ?_
      clear hvm hz1 hk1
      subst hw
      rcases hB with ⟨hre, hf_11, hf_12, hT⟩ | ⟨hre, hf_13, hT⟩
      · refine lq_top (v := 1) hre ?_
        rw [ht] at hT
        try simp only [hp_8, hp_9] at hf_11 hf_12
        clear hp_8 hp_9
        refine lv_if_eq (tgt := 67) hx hb dX11_correct_31 (by decide) (fun c_14 => absurd c_14 (by decide)) (fun c_14 => ?_)
        refine lv_iload_n hx hb dX11_correct_34 rfl (lv_at hl 3 rfl) ?_
        refine lv_iconst (v := 0) hx hb dX11_correct_35 (by decide) ?_
        refine lv_iconst (v := 1) hx hb dX11_correct_36 (by decide) ?_
        have hFc := tw_free hF hS hA
        have hp_15 : (0 : Int32).toInt = 0 := (zk (x := 0) 0 rfl)
        have hp_16 : (1 : Int32).toInt = 1 := (zk (x := 1) 1 rfl)
        refine va_calli (va_runS (As := [.int p2, .int 0, .int 1]) (rest := []) ⟨hx, hb, hml, hown, hts⟩ (c_within l dC dI ad av H.size a k τ ln y g u p2 (0 : Int32) (1 : Int32)  ) (va_cwS 3 hts (gi_3 (List.mem_cons_of_mem _ (List.mem_append_left _ (List.mem_of_getElem? (i := 7) rfl))) (List.mem_cons_of_mem _ (List.mem_append_left _ (List.mem_of_getElem? (i := 8) rfl))) (List.mem_cons_of_mem _ (List.mem_append_left _ (List.mem_of_getElem? (i := 9) rfl))) (fun _ hh => (List.mem_cons_of_mem _ (List.mem_append_right _ (List.mem_append_right _ (List.mem_append_right _ (List.mem_append_right _ (List.mem_append_left _ hh))))))) gd_c_within) rfl rfl rfl (by decide +kernel) ⟨Nat.le_of_ble_eq_true rfl, Nat.le_of_ble_eq_true rfl⟩) ⟨pw_blind, pw_use hT hK hFc hS hM⟩ rfl rfl hl.1 rfl (lv_room (Nat.le_of_ble_eq_true rfl)) dX11_correct_37 ⟨Nat.le_of_ble_eq_true rfl, Nat.le_of_ble_eq_true rfl⟩) hS (fun q _ h => hFc q h) hFc (fun r0 r_17 t H locs ht hvm hw hB hz1 hk1 hS => ?_)
        refine W.widen (k := 0) (n := 0) (Nat.le_of_ble_eq_true rfl) (Nat.le_of_ble_eq_true rfl) ?_
        clear hvm hz1 hk1
        subst hw
        rcases hB with ⟨hre, hf_18, hf_19, hT⟩ | ⟨hre, hf_20, hT⟩
        · refine lq_top (v := 1) hre ?_
          rw [ht] at hT
          try simp only [hp_15, hp_16] at hf_18 hf_19
          clear hp_15 hp_16
          refine lv_if_eq (tgt := 67) hx hb dX11_correct_40 (by decide) (fun c_21 => absurd c_21 (by decide)) (fun c_21 => ?_)
          refine lv_iload hx hb dX11_correct_43 (lv_at hl 4 rfl) ?_
          refine lv_iconst (v := 0) hx hb dX11_correct_45 (by decide) ?_
          refine lv_iconst (v := 1) hx hb dX11_correct_46 (by decide) ?_
          have hFc := tw_free hF hS hA
          have hp_22 : (0 : Int32).toInt = 0 := (zk (x := 0) 0 rfl)
          have hp_23 : (1 : Int32).toInt = 1 := (zk (x := 1) 1 rfl)
          refine va_calli (va_runS (As := [.int p3, .int 0, .int 1]) (rest := []) ⟨hx, hb, hml, hown, hts⟩ (c_within l dC dI ad av H.size a k τ ln y g u p3 (0 : Int32) (1 : Int32)  ) (va_cwS 3 hts (gi_3 (List.mem_cons_of_mem _ (List.mem_append_left _ (List.mem_of_getElem? (i := 7) rfl))) (List.mem_cons_of_mem _ (List.mem_append_left _ (List.mem_of_getElem? (i := 8) rfl))) (List.mem_cons_of_mem _ (List.mem_append_left _ (List.mem_of_getElem? (i := 9) rfl))) (fun _ hh => (List.mem_cons_of_mem _ (List.mem_append_right _ (List.mem_append_right _ (List.mem_append_right _ (List.mem_append_right _ (List.mem_append_left _ hh))))))) gd_c_within) rfl rfl rfl (by decide +kernel) ⟨Nat.le_of_ble_eq_true rfl, Nat.le_of_ble_eq_true rfl⟩) ⟨pw_blind, pw_use hT hK hFc hS hM⟩ rfl rfl hl.1 rfl (lv_room (Nat.le_of_ble_eq_true rfl)) dX11_correct_47 ⟨Nat.le_of_ble_eq_true rfl, Nat.le_of_ble_eq_true rfl⟩) hS (fun q _ h => hFc q h) hFc (fun r0 r_24 t H locs ht hvm hw hB hz1 hk1 hS => ?_)
          refine W.widen (k := 0) (n := 0) (Nat.le_of_ble_eq_true rfl) (Nat.le_of_ble_eq_true rfl) ?_
          clear hvm hz1 hk1
          subst hw
          rcases hB with ⟨hre, hf_25, hf_26, hT⟩ | ⟨hre, hf_27, hT⟩
          · refine lq_top (v := 1) hre ?_
            rw [ht] at hT
            try simp only [hp_22, hp_23] at hf_25 hf_26
            clear hp_22 hp_23
            refine lv_if_eq (tgt := 67) hx hb dX11_correct_50 (by decide) (fun c_28 => absurd c_28 (by decide)) (fun c_28 => ?_)
            refine lv_iload hx hb dX11_correct_53 (lv_at hl 5 rfl) ?_
            refine lv_iconst (v := 0) hx hb dX11_correct_55 (by decide) ?_
            refine lv_iconst (v := 1) hx hb dX11_correct_56 (by decide) ?_
            have hFc := tw_free hF hS hA
            have hp_29 : (0 : Int32).toInt = 0 := (zk (x := 0) 0 rfl)
            have hp_30 : (1 : Int32).toInt = 1 := (zk (x := 1) 1 rfl)
            refine va_calli (va_runS (As := [.int p4, .int 0, .int 1]) (rest := []) ⟨hx, hb, hml, hown, hts⟩ (c_within l dC dI ad av H.size a k τ ln y g u p4 (0 : Int32) (1 : Int32)  ) (va_cwS 3 hts (gi_3 (List.mem_cons_of_mem _ (List.mem_append_left _ (List.mem_of_getElem? (i := 7) rfl))) (List.mem_cons_of_mem _ (List.mem_append_left _ (List.mem_of_getElem? (i := 8) rfl))) (List.mem_cons_of_mem _ (List.mem_append_left _ (List.mem_of_getElem? (i := 9) rfl))) (fun _ hh => (List.mem_cons_of_mem _ (List.mem_append_right _ (List.mem_append_right _ (List.mem_append_right _ (List.mem_append_right _ (List.mem_append_left _ hh))))))) gd_c_within) rfl rfl rfl (by decide +kernel) ⟨Nat.le_of_ble_eq_true rfl, Nat.le_of_ble_eq_true rfl⟩) ⟨pw_blind, pw_use hT hK hFc hS hM⟩ rfl rfl hl.1 rfl (lv_room (Nat.le_of_ble_eq_true rfl)) dX11_correct_57 ⟨Nat.le_of_ble_eq_true rfl, Nat.le_of_ble_eq_true rfl⟩) hS (fun q _ h => hFc q h) hFc (fun r0 r_31 t H locs ht hvm hw hB hz1 hk1 hS => ?_)
            refine W.widen (k := 0) (n := 0) (Nat.le_of_ble_eq_true rfl) (Nat.le_of_ble_eq_true rfl) ?_
            clear hvm hz1 hk1
            subst hw
            rcases hB with ⟨hre, hf_32, hf_33, hT⟩ | ⟨hre, hf_34, hT⟩
            · refine lq_top (v := 1) hre ?_
              rw [ht] at hT
              try simp only [hp_29, hp_30] at hf_32 hf_33
              clear hp_29 hp_30
              refine lv_if_eq (tgt := 67) hx hb dX11_correct_60 (by decide) (fun c_35 => absurd c_35 (by decide)) (fun c_35 => ?_)
              refine lv_iconst (v := 1) hx hb dX11_correct_63 (by decide) ?_
              refine lv_goto (tgt := 68) hx hb dX11_correct_64 (by decide) ?_
              refine lv_istore (lv' := [(6, .int 1), (0, .ref (a 0)), (1, .int p0), (2, .int p1), (3, .int p2), (4, .int p3), (5, .int p4)]) hx hb dX11_correct_68 hl (by decide) rfl (fun ls hl => ?_)
              refine lv_iload hx hb dX11_correct_70 (lv_at hl 0 rfl) ?_
              refine lv_if_eq (tgt := 87) hx hb dX11_correct_72 (by decide) (fun c_36 => absurd c_36 (by decide)) (fun c_36 => ?_)
              refine lv_aload_n hx hb dX11_correct_75 rfl (lv_at hl 1 rfl) ?_
              refine tw_get (D := (dC, dI)) (v := .ref (a 5)) (C := RX11) (T := TX11) (N := 10) hx hb hts (fun _ hh => (List.mem_cons_of_mem _ (List.mem_append_right _ (List.mem_append_left _ hh)))) hown hK hT (fx_0 hX) (by decide) cl_e10 rfl 4 (by decide) (hts (.fieldLink RX11 40 "TypingPool" "ledger" "LTypingPool$Ledger;") (List.mem_cons_of_mem _ (List.mem_append_left _ (List.mem_of_getElem? (i := 10) rfl)))) (fun _ h9 => h9) rfl dX11_correct_76 ?_
              refine tw_get (D := (dC, dI)) (v := .int (y (a 5) 4)) (C := RX5) (T := TX5) (N := 6) hx hb hts (fun _ hh => (List.mem_cons_of_mem _ (List.mem_append_right _ (List.mem_append_right _ (List.mem_append_right _ (List.mem_append_right _ (List.mem_append_right _ (List.mem_append_left _ hh)))))))) hown hK hT (fx_5 hX) (by decide) cl_e15 rfl 4 (by decide) (hts (.fieldLink RX11 238 "TypingPool$Ledger" "count" "I") (List.mem_cons_of_mem _ (List.mem_append_left _ (List.mem_of_getElem? (i := 11) rfl)))) (fun _ h9 => h9) rfl dX11_correct_79 ?_
              have hc_37 := ic_5 hI
              refine lv_bipush (v := 40) hx hb dX11_correct_82 (by decide) ?_
              refine lv_icmp_lt (tgt := 89) hx hb dX11_correct_84 (by decide) (fun c_38 => ?_) (fun c_38 => ?_)
              · have nc_38 := z_lt hc_37 (zk (x := 40) 40 rfl) c_38
                refine lv_aload_n hx hb dX11_correct_89 rfl (lv_at hl 1 rfl) ?_
                refine tw_get (D := (dC, dI)) (v := .ref (a 5)) (C := RX11) (T := TX11) (N := 10) hx hb hts (fun _ hh => (List.mem_cons_of_mem _ (List.mem_append_right _ (List.mem_append_left _ hh)))) hown hK hT (fx_0 hX) (by decide) cl_e10 rfl 4 (by decide) (hts (.fieldLink RX11 40 "TypingPool" "ledger" "LTypingPool$Ledger;") (List.mem_cons_of_mem _ (List.mem_append_left _ (List.mem_of_getElem? (i := 10) rfl)))) (fun _ h9 => h9) rfl dX11_correct_90 ?_
                refine tw_get (D := (dC, dI)) (v := .int (y (a 5) 4)) (C := RX5) (T := TX5) (N := 6) hx hb hts (fun _ hh => (List.mem_cons_of_mem _ (List.mem_append_right _ (List.mem_append_right _ (List.mem_append_right _ (List.mem_append_right _ (List.mem_append_right _ (List.mem_append_left _ hh)))))))) hown hK hT (fx_5 hX) (by decide) cl_e15 rfl 4 (by decide) (hts (.fieldLink RX11 238 "TypingPool$Ledger" "count" "I") (List.mem_cons_of_mem _ (List.mem_append_left _ (List.mem_of_getElem? (i := 11) rfl)))) (fun _ h9 => h9) rfl dX11_correct_93 ?_
                have hc_39 := ic_5 hI
                refine lv_istore (lv' := [(7, .int (y (a 5) 4)), (6, .int 1), (0, .ref (a 0)), (1, .int p0), (2, .int p1), (3, .int p2), (4, .int p3), (5, .int p4)]) hx hb dX11_correct_96 hl (by decide) rfl (fun ls hl => ?_)
                refine lv_aload_n hx hb dX11_correct_98 rfl (lv_at hl 2 rfl) ?_
                refine tw_get (D := (dC, dI)) (v := .ref (a 5)) (C := RX11) (T := TX11) (N := 10) hx hb hts (fun _ hh => (List.mem_cons_of_mem _ (List.mem_append_right _ (List.mem_append_left _ hh)))) hown hK hT (fx_0 hX) (by decide) cl_e10 rfl 4 (by decide) (hts (.fieldLink RX11 40 "TypingPool" "ledger" "LTypingPool$Ledger;") (List.mem_cons_of_mem _ (List.mem_append_left _ (List.mem_of_getElem? (i := 10) rfl)))) (fun _ h9 => h9) rfl dX11_correct_99 ?_
                refine tw_get (D := (dC, dI)) (v := .ref (a 40)) (C := RX5) (T := TX5) (N := 6) hx hb hts (fun _ hh => (List.mem_cons_of_mem _ (List.mem_append_right _ (List.mem_append_right _ (List.mem_append_right _ (List.mem_append_right _ (List.mem_append_right _ (List.mem_append_left _ hh)))))))) hown hK hT (fx_5 hX) (by decide) cl_e15 rfl 3 (by decide) (hts (.fieldLink RX11 248 "TypingPool$Ledger" "corrections" "[LTypingPool$Correction;") (List.mem_cons_of_mem _ (List.mem_append_left _ (List.mem_of_getElem? (i := 12) rfl)))) (fun _ h9 => h9) rfl dX11_correct_102 ?_
                refine lv_iload hx hb dX11_correct_105 (lv_at hl 0 rfl) ?_
                refine tw_new (ci := 2) (fs := [.int 0, .int 0, .int 0, .int 0, .int 0, .int 0]) (C := RX2) (T := TX2) (N := 6) hx hb hts (fun _ hh => (List.mem_cons_of_mem _ (List.mem_append_right _ (List.mem_append_right _ (List.mem_append_right _ (List.mem_append_right _ (List.mem_append_right _ (List.mem_append_right _ (List.mem_append_left _ hh))))))))) tyX2 tyX2_ok hown (hts (.classLink RX11 252 RX2) (List.mem_cons_of_mem _ (List.mem_append_left _ (List.mem_of_getElem? (i := 13) rfl)))) (hts (.instantiable RX2 6) (List.mem_cons_of_mem _ (List.mem_append_left _ (List.mem_of_getElem? (i := 14) rfl)))) (hts (.initialized RX2) (List.mem_cons_of_mem _ (List.mem_append_left _ (List.mem_of_getElem? (i := 15) rfl)))) hK hT hF hS hA 8 rfl (fun j hj => by rcases (show j = 0 ∨ j = 1 ∨ j = 2 ∨ j = 3 ∨ j = 4 ∨ j = 5 by omega) with rfl | rfl | rfl | rfl | rfl | rfl <;> rfl) (fun _ => cl_e8) (Nat.le_of_ble_eq_true rfl) (Nat.le_of_ble_eq_true rfl) dX11_correct_107 (fun q_40 H hq0 hAq hT hS => ?_)
                refine W.widen (k := 1) (n := 6) (Nat.le_of_ble_eq_true rfl) (Nat.le_of_ble_eq_true rfl) ?_
                obtain ⟨tm_41, lm_41, ym_41, gm_41, htm_41, hlm_41, hym_41, hgm_41, hT⟩ : ∃ (z1 z2 : Nat → Nat) (z3 : Nat → Nat → Int32) (z4 : Nat → Nat → Option Nat), z1 = nwt τ q_40 8 ∧ z2 = ln ∧ z3 = nwy y q_40 (fun _ => 0) ∧ z4 = nwg g q_40 ∧ tw (dC, dI) a k z1 z2 z3 z4 H := ⟨_, _, _, _, rfl, rfl, rfl, rfl, hT⟩
                have hKM : kpM τ y g ym_41 gm_41 := by rw [hym_41, hgm_41]; exact hKM.nw hMo hq0
                have hMo : mono τ tm_41 s.heap.size := by rw [htm_41]; exact hMo.nw hq0 (by rw [hAe]; exact hAq)
                have hI : IC a u tm_41 lm_41 ym_41 gm_41 := by rw [htm_41, hlm_41, hym_41, hgm_41]; exact hI.nw hq0 (Or.inl rfl) (by decide)
                have hX := hI.1
                have hF : ∀ q, tm_41 q ≠ 0 → A q := fun q h => by rw [← hAe]; exact hMo.2 q h
                have hk_42 : tm_41 q_40 = 8 := by rw [htm_41]; exact nwt_i
                refine lv_dup hx hb dX11_correct_110 rfl ?_
                refine lv_iload_n hx hb dX11_correct_111 rfl (lv_at hl 3 rfl) ?_
                refine lv_iload_n hx hb dX11_correct_112 rfl (lv_at hl 4 rfl) ?_
                refine lv_iload_n hx hb dX11_correct_113 rfl (lv_at hl 5 rfl) ?_
                refine lv_iload hx hb dX11_correct_114 (lv_at hl 6 rfl) ?_
                refine lv_iload hx hb dX11_correct_116 (lv_at hl 7 rfl) ?_
                have hFc := tw_free hF hS hA
                refine va_callv (va_runI (As := [.int p0, .int p1, .int p2, .int p3, .int p4]) (rest := [.ref q_40, .int (y (a 5) 4), .ref (a 40)]) ⟨hx, hb, hml, hown, hts⟩ (c_Corr_init l dC dI ad av H.size a k tm_41 lm_41 ym_41 gm_41 u q_40 p0 p1 p2 p3 p4 hI hk_42) (cwI 5 hts (gi_0  (fun _ hh => (List.mem_cons_of_mem _ (List.mem_append_right _ (List.mem_append_right _ (List.mem_append_right _ (List.mem_append_right _ (List.mem_append_right _ (List.mem_append_right _ (List.mem_append_right _ (List.mem_append_left _ hh)))))))))) gd_c_Corr_init) rfl rfl rfl (hts (.initialized RX2) (List.mem_cons_of_mem _ (List.mem_append_left _ (List.mem_of_getElem? (i := 15) rfl)))) (hts (.methodLink RX11 254 yX2_init) (List.mem_cons_of_mem _ (List.mem_append_left _ (List.mem_of_getElem? (i := 17) rfl)))) (hts (.instanceMethod yX2_init) (List.mem_cons_of_mem _ (List.mem_append_left _ (List.mem_of_getElem? (i := 16) rfl)))) rfl (by decide +kernel) ⟨Nat.le_of_ble_eq_true rfl, Nat.le_of_ble_eq_true rfl⟩) ⟨pw_blind, pw_use hT hK hFc hS hM⟩ rfl rfl hl.1 rfl (lv_room (Nat.le_of_ble_eq_true rfl)) dX11_correct_118 ⟨Nat.le_of_ble_eq_true rfl, Nat.le_of_ble_eq_true rfl⟩) hS (fun q _ h => hFc q h) hFc (fun u0 t H locs ht hvm hw hB hz1 hk1 hS => ?_)
                refine W.widen (k := 1) (n := 6) (Nat.le_of_ble_eq_true rfl) (Nat.le_of_ble_eq_true rfl) ?_
                clear hvm hz1 hk1
                obtain ⟨y_44, hgy_44, hf_45, hT⟩ := hB
                rw [ht] at hT
                have hKM := hKM.ag hMo hgy_44 (by decide)
                have hI := hI.ag hgy_44 (by decide)
                have hT := hT.rek (t := 4) hk_42 (by decide) (fun _ _ _ => rfl)
                have hI := hI.rekC hk_42 (by omega)
                have hMo := hMo.rek (t := 4) hk_42 (by decide) (by decide)
                obtain ⟨tm_46, htm_46, hT⟩ : ∃ z : Nat → Nat, z = nwt tm_41 q_40 4 ∧ tw (dC, dI) a k z lm_41 y_44 gm_41 H := ⟨_, rfl, hT⟩
                rw [← htm_46] at hI
                rw [← htm_46] at hMo
                have hX := hI.1
                have hF : ∀ q, tm_46 q ≠ 0 → A q := fun q h => by rw [← hAe]; exact hMo.2 q h
                have hk_47 : tm_46 q_40 = 4 := by rw [htm_46]; exact nwt_i
                have hbd_48 : 0 ≤ u 5 ∧ u 5 < 40 := by omega
                refine tw_aast (r := (RX2, TX2, 6)) hx hb hK hT hF hS 7 (fx_40 hX) (by decide) (fun _ => cl_e50) rfl hk_47 (by decide) cl_e4 rfl (z_in hc_39 hbd_48.1 hbd_48.2) dX11_correct_121 (fun H locs hT hS => ?_)
                obtain ⟨g_49, hg_49, hT⟩ : ∃ z : Nat → Nat → Option Nat, z = upg gm_41 (a 40) (y (a 5) 4).toNatClampNeg (some q_40) ∧ tw (dC, dI) a k tm_46 lm_41 y_44 z H := ⟨_, rfl, hT⟩
                have hKM : kpM τ y g y_44 g_49 := by rw [hg_49]; exact hKM.upg hMo (fx_40 hX) (by decide)
                have hI : IC a u tm_46 lm_41 y_44 g_49 := by rw [hg_49]; exact hI.put40 hk_47
                have hent_50 : g_49 (a 40) (y (a 5) 4).toNatClampNeg = some q_40 := by rw [hg_49]; exact upg_i
                refine lv_aload_n hx hb dX11_correct_122 rfl (lv_at hl 2 rfl) ?_
                refine tw_get (D := (dC, dI)) (v := .ref (a 5)) (C := RX11) (T := TX11) (N := 10) hx hb hts (fun _ hh => (List.mem_cons_of_mem _ (List.mem_append_right _ (List.mem_append_left _ hh)))) hown hK hT (fx_0 hX) (by decide) cl_e10 rfl 4 (by decide) (hts (.fieldLink RX11 40 "TypingPool" "ledger" "LTypingPool$Ledger;") (List.mem_cons_of_mem _ (List.mem_append_left _ (List.mem_of_getElem? (i := 10) rfl)))) (fun _ h9 => h9) rfl dX11_correct_123 ?_
                refine lv_dup hx hb dX11_correct_126 rfl ?_
                refine tw_get (D := (dC, dI)) (v := .int (y_44 (a 5) 4)) (C := RX5) (T := TX5) (N := 6) hx hb hts (fun _ hh => (List.mem_cons_of_mem _ (List.mem_append_right _ (List.mem_append_right _ (List.mem_append_right _ (List.mem_append_right _ (List.mem_append_right _ (List.mem_append_left _ hh)))))))) hown hK hT (fx_5 hX) (by decide) cl_e15 rfl 4 (by decide) (hts (.fieldLink RX11 238 "TypingPool$Ledger" "count" "I") (List.mem_cons_of_mem _ (List.mem_append_left _ (List.mem_of_getElem? (i := 11) rfl)))) (fun _ h9 => h9) rfl dX11_correct_127 ?_
                have hc_51 := ic_5 hI
                refine lv_iconst (v := 1) hx hb dX11_correct_130 (by decide) ?_
                refine lv_iadd hx hb dX11_correct_131 ?_
                refine lv_topi (fun x_52 ex_52 => ?_)
                have hx_52 := z_add ex_52 hc_51 (zk (x := 1) 1 rfl) (by omega) (by omega)
                refine tw_put (D := (dC, dI)) (x := x_52) (ty := .int) (C := RX5) (T := TX5) (N := 6) hx hb hts (fun _ hh => (List.mem_cons_of_mem _ (List.mem_append_right _ (List.mem_append_right _ (List.mem_append_right _ (List.mem_append_right _ (List.mem_append_right _ (List.mem_append_left _ hh)))))))) tyX5 tyX5_ok nmX5 hown hK hT hF hS (fx_5 hX) (by decide) cl_e15 rfl 4 (by decide) (hts (.fieldLink RX11 238 "TypingPool$Ledger" "count" "I") (List.mem_cons_of_mem _ (List.mem_append_left _ (List.mem_of_getElem? (i := 11) rfl)))) (fun _ h9 => h9) rfl (tyX5_ok 4 (by decide)) rfl rfl (Nat.le_of_ble_eq_true rfl) rfl dX11_correct_132 (fun H locs hT hS => ?_)
                obtain ⟨y_53, hy_53, hT⟩ : ∃ z : Nat → Nat → Int32, z = up2 y_44 (a 5) 4 x_52 ∧ tw (dC, dI) a k tm_46 lm_41 z g_49 H := ⟨_, rfl, hT⟩
                have hKM : kpM τ y g y_53 g_49 := by rw [hy_53]; exact hKM.up hMo (fx_5 hX) (by decide)
                have hp_54 : x_52.toInt = x_52.toInt := rfl
                have hI := hI.cnt5 (by rw [hp_54]; first | done | omega) (by omega) (by rw [← z_nat hc_39]; exact hent_50) hk_47
                rw [← hy_53] at hI
                refine lv_iload hx hb dX11_correct_135 (lv_at hl 0 rfl) ?_
                exact W.iret (v := y (a 5) 4) hx hb hr (fun t ht hW9 => ⟨⟨y (a 5) 4, y (a 5) 4, rfl, rfl, ⟨(upc u 5 (u 5 + 1)), (by intro i hi; simp only [List.mem_cons, List.not_mem_nil, or_false, not_or] at hi; unfold upc; repeat rw [if_neg (by omega)]), ⟨tm_46, lm_41, y_53, g_49, hMo, hKM, hI, tw_at ht hT⟩⟩⟩, hS.F ht⟩) hS.2.2 dX11_correct_137
              · have nc_38 := z_nlt hc_37 (zk (x := 40) 40 rfl) c_38
                refine lv_iconst (v := (-1)) hx hb dX11_correct_87 (by decide) ?_
                refine W.widen (k := 1) (n := 6) (Nat.le_of_ble_eq_true rfl) (Nat.le_of_ble_eq_true rfl) ?_
                exact W.iret (v := (-1)) hx hb hr (fun t ht hW9 => ⟨⟨(-1), (-1), rfl, rfl, ⟨u, fun _ _ => rfl, ⟨τ, ln, y, g, hMo, hKM, hI, tw_at ht hT⟩⟩⟩, hS.F ht⟩) hS.2.2 dX11_correct_88
            · refine lq_top (v := 0) hre ?_
              rw [ht] at hT
              try simp only [hp_29, hp_30] at hf_34
              clear hp_29 hp_30
              refine lv_if_eq (tgt := 67) hx hb dX11_correct_60 (by decide) (fun c_55 => ?_) (fun c_55 => absurd c_55 (by decide))
              refine lv_iconst (v := 0) hx hb dX11_correct_67 (by decide) ?_
              refine lv_istore (lv' := [(6, .int 0), (0, .ref (a 0)), (1, .int p0), (2, .int p1), (3, .int p2), (4, .int p3), (5, .int p4)]) hx hb dX11_correct_68 hl (by decide) rfl (fun ls hl => ?_)
              refine lv_iload hx hb dX11_correct_70 (lv_at hl 0 rfl) ?_
              refine lv_if_eq (tgt := 87) hx hb dX11_correct_72 (by decide) (fun c_56 => ?_) (fun c_56 => absurd c_56 (by decide))
              refine lv_iconst (v := (-1)) hx hb dX11_correct_87 (by decide) ?_
              refine W.widen (k := 1) (n := 6) (Nat.le_of_ble_eq_true rfl) (Nat.le_of_ble_eq_true rfl) ?_
              exact W.iret (v := (-1)) hx hb hr (fun t ht hW9 => ⟨⟨(-1), (-1), rfl, rfl, ⟨u, fun _ _ => rfl, ⟨τ, ln, y, g, hMo, hKM, hI, tw_at ht hT⟩⟩⟩, hS.F ht⟩) hS.2.2 dX11_correct_88
          · refine lq_top (v := 0) hre ?_
            rw [ht] at hT
            try simp only [hp_22, hp_23] at hf_27
            clear hp_22 hp_23
            refine lv_if_eq (tgt := 67) hx hb dX11_correct_50 (by decide) (fun c_57 => ?_) (fun c_57 => absurd c_57 (by decide))
            refine lv_iconst (v := 0) hx hb dX11_correct_67 (by decide) ?_
            refine lv_istore (lv' := [(6, .int 0), (0, .ref (a 0)), (1, .int p0), (2, .int p1), (3, .int p2), (4, .int p3), (5, .int p4)]) hx hb dX11_correct_68 hl (by decide) rfl (fun ls hl => ?_)
            refine lv_iload hx hb dX11_correct_70 (lv_at hl 0 rfl) ?_
            refine lv_if_eq (tgt := 87) hx hb dX11_correct_72 (by decide) (fun c_58 => ?_) (fun c_58 => absurd c_58 (by decide))
            refine lv_iconst (v := (-1)) hx hb dX11_correct_87 (by decide) ?_
            refine W.widen (k := 1) (n := 6) (Nat.le_of_ble_eq_true rfl) (Nat.le_of_ble_eq_true rfl) ?_
            exact W.iret (v := (-1)) hx hb hr (fun t ht hW9 => ⟨⟨(-1), (-1), rfl, rfl, ⟨u, fun _ _ => rfl, ⟨τ, ln, y, g, hMo, hKM, hI, tw_at ht hT⟩⟩⟩, hS.F ht⟩) hS.2.2 dX11_correct_88
        · refine lq_top (v := 0) hre ?_
          rw [ht] at hT
          try simp only [hp_15, hp_16] at hf_20
          clear hp_15 hp_16
          refine lv_if_eq (tgt := 67) hx hb dX11_correct_40 (by decide) (fun c_59 => ?_) (fun c_59 => absurd c_59 (by decide))
          refine lv_iconst (v := 0) hx hb dX11_correct_67 (by decide) ?_
          refine lv_istore (lv' := [(6, .int 0), (0, .ref (a 0)), (1, .int p0), (2, .int p1), (3, .int p2), (4, .int p3), (5, .int p4)]) hx hb dX11_correct_68 hl (by decide) rfl (fun ls hl => ?_)
          refine lv_iload hx hb dX11_correct_70 (lv_at hl 0 rfl) ?_
          refine lv_if_eq (tgt := 87) hx hb dX11_correct_72 (by decide) (fun c_60 => ?_) (fun c_60 => absurd c_60 (by decide))
          refine lv_iconst (v := (-1)) hx hb dX11_correct_87 (by decide) ?_
          refine W.widen (k := 1) (n := 6) (Nat.le_of_ble_eq_true rfl) (Nat.le_of_ble_eq_true rfl) ?_
          exact W.iret (v := (-1)) hx hb hr (fun t ht hW9 => ⟨⟨(-1), (-1), rfl, rfl, ⟨u, fun _ _ => rfl, ⟨τ, ln, y, g, hMo, hKM, hI, tw_at ht hT⟩⟩⟩, hS.F ht⟩) hS.2.2 dX11_correct_88
      · refine lq_top (v := 0) hre ?_
        rw [ht] at hT
        try simp only [hp_8, hp_9] at hf_13
        clear hp_8 hp_9
        refine lv_if_eq (tgt := 67) hx hb dX11_correct_31 (by decide) (fun c_61 => ?_) (fun c_61 => absurd c_61 (by decide))
        refine lv_iconst (v := 0) hx hb dX11_correct_67 (by decide) ?_
        refine lv_istore (lv' := [(6, .int 0), (0, .ref (a 0)), (1, .int p0), (2, .int p1), (3, .int p2), (4, .int p3), (5, .int p4)]) hx hb dX11_correct_68 hl (by decide) rfl (fun ls hl => ?_)
        refine lv_iload hx hb dX11_correct_70 (lv_at hl 0 rfl) ?_
        refine lv_if_eq (tgt := 87) hx hb dX11_correct_72 (by decide) (fun c_62 => ?_) (fun c_62 => absurd c_62 (by decide))
        refine lv_iconst (v := (-1)) hx hb dX11_correct_87 (by decide) ?_
        refine W.widen (k := 1) (n := 6) (Nat.le_of_ble_eq_true rfl) (Nat.le_of_ble_eq_true rfl) ?_
        exact W.iret (v := (-1)) hx hb hr (fun t ht hW9 => ⟨⟨(-1), (-1), rfl, rfl, ⟨u, fun _ _ => rfl, ⟨τ, ln, y, g, hMo, hKM, hI, tw_at ht hT⟩⟩⟩, hS.F ht⟩) hS.2.2 dX11_correct_88
  · refine lq_top (v := 0) hre ?_
    rw [ht] at hT
    refine lv_if_eq (tgt := 67) hx hb dX11_correct_8 (by decide) (fun c_63 => ?_) (fun c_63 => absurd c_63 (by decide))
    refine lv_iconst (v := 0) hx hb dX11_correct_67 (by decide) ?_
    refine lv_istore (lv' := [(6, .int 0), (0, .ref (a 0)), (1, .int p0), (2, .int p1), (3, .int p2), (4, .int p3), (5, .int p4)]) hx hb dX11_correct_68 hl (by decide) rfl (fun ls hl => ?_)
    refine lv_iload hx hb dX11_correct_70 (lv_at hl 0 rfl) ?_
    refine lv_if_eq (tgt := 87) hx hb dX11_correct_72 (by decide) (fun c_64 => ?_) (fun c_64 => absurd c_64 (by decide))
    refine lv_iconst (v := (-1)) hx hb dX11_correct_87 (by decide) ?_
    refine W.widen (k := 1) (n := 6) (Nat.le_of_ble_eq_true rfl) (Nat.le_of_ble_eq_true rfl) ?_
    exact W.iret (v := (-1)) hx hb hr (fun t ht hW9 => ⟨⟨(-1), (-1), rfl, rfl, ⟨u, fun _ _ => rfl, ⟨τ, ln, y, g, hMo, hKM, hI, tw_at ht hT⟩⟩⟩, hS.F ht⟩) hS.2.2 dX11_correct_88
def wo_c_undo : List Cond := [.fieldLink RX11 40 "TypingPool" "ledger" "LTypingPool$Ledger;", .methodLink RX11 257 yX5_hasCorrection, .instanceMethod yX5_hasCorrection, .selects RX5 yX5_hasCorrection yX5_hasCorrection, .initialized RX5, .methodLink RX11 68 yX11_within, .static yX11_within, .initialized RX11, .fieldLink RX11 248 "TypingPool$Ledger" "corrections" "[LTypingPool$Correction;", .fieldLink RX11 260 "TypingPool$Correction" "undone" "I"]
def wm_c_undo : List Cond := .code yX11_undo cX11_undo 3 (some .boolean) :: (wo_c_undo ++ (wsX110 ++ (wm_c_hasCorrection ++ (wm_c_within ++ (wsX50 ++ (wsX20 ++ ([] : List Cond)))))))
theorem gd_c_undo : ∀ w ∈ wm_c_undo, goodWord w = true := gd_c rfl (gd_a (by decide) (gd_a gd_wsX110 (gd_a gd_c_hasCorrection (gd_a gd_c_within (gd_a gd_wsX50 (gd_a gd_wsX20 gd_nil))))))
set_option maxRecDepth 20000 in
theorem im_c_undo : ∀ w ∈ wm_c_undo, w ∈ lw_tbl := im_c (in_r [.code yX11_undo cX11_undo 3 (some .boolean)] [935] (by decide +kernel)) (in_app (in_r wo_c_undo [563, 936, 937, 938, 84, 594, 595, 70, 491, 918] (by decide +kernel)) (in_app im_wsX110 (in_app im_c_hasCorrection (in_app im_c_within (in_app im_wsX50 (in_app im_wsX20 im_nil))))))
set_option maxHeartbeats 4000000 in
set_option maxRecDepth 100000 in
theorem c_undo (l : Launch) (dC : Nat → ClassId) (dI : Nat → Nat → Nat) (ad av : Nat → Nat) (sz : Nat) (a : Nat → Nat) (k : Nat → ClassId) (τ ln : Nat → Nat) (y : Nat → Nat → Int32) (g : Nat → Nat → Option Nat) (u : Nat → Int) (p0 : Int32) (p1 : Int32) (hI : IC a u τ ln y g) : Met l yX11_undo wm_c_undo ({ frames := 1, cells := 0, slots := 0, locals := 60 }) (pw_ ad av (dC, dI) sz [.ref (a 0), .int p0, .int p1] a k τ ln y g) (va_Qi (fun (r u : Int32) => u = r) (fun (r : Int32) (t : State) => (∃ (u' : Nat → Int), r = 1 ∧ (∀ i, i ∉ ([] : List Nat) → u' i = u i) ∧ pq (dC, dI) a k τ y g u' sz t.heap) ∨ (∃ (u' : Nat → Int), r = 0 ∧ (∀ i, i ∉ ([] : List Nat) → u' i = u i) ∧ pq (dC, dI) a k τ y g u' sz t.heap)) (fr τ sz)) 0 0 (fr τ sz) := by
  refine Met.ofW (cc := cX11_undo) (maxL := 3) (ret := (some .boolean)) (by decide) rfl ?_
  intro p e s m args below meth c s₁ B hml hv
  obtain ⟨rfl, hsz, hT, hK, hM⟩ := hv
  have hx := B.exec
  have hb := B.bytes
  have hr := B.returns
  have hts := atoms_spec (ws := wm_c_undo) B.pre
  have hown : s.vm.findClass RX11 = some m.cls := findClass_of_methodNamed B.named
  have hlocks := B.notSynchronized
  subst hsz
  generalize hAe : fr τ s.heap.size = A at hM ⊢
  have hA : ∀ q : Nat, s.heap.size ≤ q → A q := fun q h => by rw [← hAe]; exact Or.inr h
  have hF : ∀ q, τ q ≠ 0 → A q := fun q h => by rw [← hAe]; exact Or.inl h
  have hS : va_S A s.heap s.heap [] := va_S.rf
  have hX := hI.1
  have hR := ic_r hI
  have hMo : mono τ τ s.heap.size := mono.rf
  have hKM : kpM τ y g y g := kpM.rf
  have hl := lv_entry ([.ref (a 0), .int p0, .int p1]) (n := 3) (Nat.le_of_ble_eq_true rfl)
  rw [lg_entry_eq]
  generalize (lg_sl ([.ref (a 0), .int p0, .int p1]) ++ List.replicate (3 - (lg_sl ([.ref (a 0), .int p0, .int p1])).length) Slot.unset).toArray = ls at hl ⊢
  have hl : lv_has ls 3 [(0, .ref (a 0)), (1, .int p0), (2, .int p1)] := hl
  refine lv_aload_n hx hb dX11_undo_0 rfl (lv_at hl 0 rfl) ?_
  refine tw_get (D := (dC, dI)) (v := .ref (a 5)) (C := RX11) (T := TX11) (N := 10) hx hb hts (fun _ hh => (List.mem_cons_of_mem _ (List.mem_append_right _ (List.mem_append_left _ hh)))) hown hK hT (fx_0 hX) (by decide) cl_e10 rfl 4 (by decide) (hts (.fieldLink RX11 40 "TypingPool" "ledger" "LTypingPool$Ledger;") (List.mem_cons_of_mem _ (List.mem_append_left _ (List.mem_of_getElem? (i := 0) rfl)))) (fun _ h9 => h9) rfl dX11_undo_1 ?_
  refine lv_iload_n hx hb dX11_undo_4 rfl (lv_at hl 1 rfl) ?_
  have hFc := tw_free hF hS hA
  refine va_calli (va_runV (As := [.int p0]) (rest := []) ⟨hx, hb, hml, hown, hts⟩ (c_hasCorrection l dC dI ad av s.heap.size a k τ ln y g u p0 hI ) (cwV 1 hts (gi_4 (List.mem_cons_of_mem _ (List.mem_append_left _ (List.mem_of_getElem? (i := 1) rfl))) (List.mem_cons_of_mem _ (List.mem_append_left _ (List.mem_of_getElem? (i := 2) rfl))) (List.mem_cons_of_mem _ (List.mem_append_left _ (List.mem_of_getElem? (i := 3) rfl))) (List.mem_cons_of_mem _ (List.mem_append_left _ (List.mem_of_getElem? (i := 4) rfl))) (fun _ hh => (List.mem_cons_of_mem _ (List.mem_append_right _ (List.mem_append_right _ (List.mem_append_left _ hh))))) gd_c_hasCorrection) rfl rfl rfl (by decide +kernel) ⟨Nat.le_of_ble_eq_true rfl, Nat.le_of_ble_eq_true rfl⟩) ⟨pw_blind, tw_recv hK hT (fx_5 hX) (by decide) cl_e15 rfl, pw_use hT hK hFc hS hM⟩ rfl rfl hl.1 rfl (lv_room (Nat.le_of_ble_eq_true rfl)) dX11_undo_5 ⟨Nat.le_of_ble_eq_true rfl, Nat.le_of_ble_eq_true rfl⟩) hS (fun q _ h => hFc q h) hFc (fun r0 r_1 t H locs ht hvm hw hB hz1 hk1 hS => ?_)
  refine W.widen (k := 0) (n := 0) (Nat.le_of_ble_eq_true rfl) (Nat.le_of_ble_eq_true rfl) ?_
  clear hvm hz1 hk1
  subst hw
  rcases hB with ⟨hre, hf_2, hf_3, hT⟩ | ⟨hre, hT⟩
  · refine lq_top (v := 1) hre ?_
    rw [ht] at hT
    refine lv_if_eq (tgt := 21) hx hb dX11_undo_8 (by decide) (fun c_4 => absurd c_4 (by decide)) (fun c_4 => ?_)
    refine lv_iload_n hx hb dX11_undo_11 rfl (lv_at hl 2 rfl) ?_
    refine lv_iconst (v := 0) hx hb dX11_undo_12 (by decide) ?_
    refine lv_bipush (v := 99) hx hb dX11_undo_13 (by decide) ?_
    have hFc := tw_free hF hS hA
    have hp_5 : (0 : Int32).toInt = 0 := (zk (x := 0) 0 rfl)
    have hp_6 : (99 : Int32).toInt = 99 := (zk (x := 99) 99 rfl)
    refine va_calli (va_runS (As := [.int p1, .int 0, .int 99]) (rest := []) ⟨hx, hb, hml, hown, hts⟩ (c_within l dC dI ad av H.size a k τ ln y g u p1 (0 : Int32) (99 : Int32)  ) (va_cwS 3 hts (gi_3 (List.mem_cons_of_mem _ (List.mem_append_left _ (List.mem_of_getElem? (i := 5) rfl))) (List.mem_cons_of_mem _ (List.mem_append_left _ (List.mem_of_getElem? (i := 6) rfl))) (List.mem_cons_of_mem _ (List.mem_append_left _ (List.mem_of_getElem? (i := 7) rfl))) (fun _ hh => (List.mem_cons_of_mem _ (List.mem_append_right _ (List.mem_append_right _ (List.mem_append_right _ (List.mem_append_left _ hh)))))) gd_c_within) rfl rfl rfl (by decide +kernel) ⟨Nat.le_of_ble_eq_true rfl, Nat.le_of_ble_eq_true rfl⟩) ⟨pw_blind, pw_use hT hK hFc hS hM⟩ rfl rfl hl.1 rfl (lv_room (Nat.le_of_ble_eq_true rfl)) dX11_undo_15 ⟨Nat.le_of_ble_eq_true rfl, Nat.le_of_ble_eq_true rfl⟩) hS (fun q _ h => hFc q h) hFc (fun r0 r_7 t H locs ht hvm hw hB hz1 hk1 hS => ?_)
    refine W.widen (k := 0) (n := 0) (Nat.le_of_ble_eq_true rfl) (Nat.le_of_ble_eq_true rfl) ?_
    clear hvm hz1 hk1
    subst hw
    rcases hB with ⟨hre, hf_8, hf_9, hT⟩ | ⟨hre, hf_10, hT⟩
    · refine lq_top (v := 1) hre ?_
      rw [ht] at hT
      try simp only [hp_5, hp_6] at hf_8 hf_9
      clear hp_5 hp_6
      refine lv_if_ne (tgt := 23) hx hb dX11_undo_18 (by decide) (fun c_11 => ?_) (fun c_11 => absurd c_11 (by decide))
      refine lv_aload_n hx hb dX11_undo_23 rfl (lv_at hl 0 rfl) ?_
      refine tw_get (D := (dC, dI)) (v := .ref (a 5)) (C := RX11) (T := TX11) (N := 10) hx hb hts (fun _ hh => (List.mem_cons_of_mem _ (List.mem_append_right _ (List.mem_append_left _ hh)))) hown hK hT (fx_0 hX) (by decide) cl_e10 rfl 4 (by decide) (hts (.fieldLink RX11 40 "TypingPool" "ledger" "LTypingPool$Ledger;") (List.mem_cons_of_mem _ (List.mem_append_left _ (List.mem_of_getElem? (i := 0) rfl)))) (fun _ h9 => h9) rfl dX11_undo_24 ?_
      refine tw_get (D := (dC, dI)) (v := .ref (a 40)) (C := RX5) (T := TX5) (N := 6) hx hb hts (fun _ hh => (List.mem_cons_of_mem _ (List.mem_append_right _ (List.mem_append_right _ (List.mem_append_right _ (List.mem_append_right _ (List.mem_append_left _ hh))))))) hown hK hT (fx_5 hX) (by decide) cl_e15 rfl 3 (by decide) (hts (.fieldLink RX11 248 "TypingPool$Ledger" "corrections" "[LTypingPool$Correction;") (List.mem_cons_of_mem _ (List.mem_append_left _ (List.mem_of_getElem? (i := 8) rfl)))) (fun _ h9 => h9) rfl dX11_undo_27 ?_
      refine lv_iload_n hx hb dX11_undo_30 rfl (lv_at hl 1 rfl) ?_
      refine tw_aald hx hb hK hT 7 (fx_40 hX) (by decide) cl_e50 rfl (z_in rfl (by omega) (by omega)) dX11_undo_31 ?_
      obtain ⟨q_12, hgq_12, htq_12⟩ := ic_l40 hI (x := p0) rfl (by omega) (by omega)
      refine lq_topr hgq_12 ?_
      refine lv_iload_n hx hb dX11_undo_32 rfl (lv_at hl 2 rfl) ?_
      refine tw_put (D := (dC, dI)) (x := p1) (ty := .int) (C := RX2) (T := TX2) (N := 6) hx hb hts (fun _ hh => (List.mem_cons_of_mem _ (List.mem_append_right _ (List.mem_append_right _ (List.mem_append_right _ (List.mem_append_right _ (List.mem_append_right _ (List.mem_append_left _ hh)))))))) tyX2 tyX2_ok nmX2 hown hK hT hF hS htq_12 (by decide) cl_e4 rfl 5 (by decide) (hts (.fieldLink RX11 260 "TypingPool$Correction" "undone" "I") (List.mem_cons_of_mem _ (List.mem_append_left _ (List.mem_of_getElem? (i := 9) rfl)))) (fun _ h9 => h9) rfl (tyX2_ok 5 (by decide)) rfl rfl (Nat.le_of_ble_eq_true rfl) rfl dX11_undo_33 (fun H locs hT hS => ?_)
      obtain ⟨y_13, hy_13, hT⟩ : ∃ z : Nat → Nat → Int32, z = up2 y q_12 5 p1 ∧ tw (dC, dI) a k τ ln z g H := ⟨_, rfl, hT⟩
      have hKM : kpM τ y g y_13 g := by rw [hy_13]; exact hKM.up hMo htq_12 (by decide)
      have hI := hI.und (x := p1) htq_12
      rw [← hy_13] at hI
      refine lv_iconst (v := 1) hx hb dX11_undo_36 (by decide) ?_
      exact W.zret (v := 1) hx hb hr (by decide) (fun t ht hW9 => ⟨⟨1, 1, rfl, rfl, Or.inl ⟨u, rfl, fun _ _ => rfl, ⟨τ, ln, y_13, g, hMo, hKM, hI, tw_at ht hT⟩⟩⟩, hS.F ht⟩) hS.2.2 dX11_undo_37
    · refine lq_top (v := 0) hre ?_
      rw [ht] at hT
      try simp only [hp_5, hp_6] at hf_10
      clear hp_5 hp_6
      refine lv_if_ne (tgt := 23) hx hb dX11_undo_18 (by decide) (fun c_14 => absurd c_14 (by decide)) (fun c_14 => ?_)
      refine lv_iconst (v := 0) hx hb dX11_undo_21 (by decide) ?_
      exact W.zret (v := 0) hx hb hr (by decide) (fun t ht hW9 => ⟨⟨0, 0, rfl, rfl, Or.inr (⟨u, rfl, fun _ _ => rfl, ⟨τ, ln, y, g, hMo, hKM, hI, tw_at ht hT⟩⟩)⟩, hS.F ht⟩) hS.2.2 dX11_undo_22
  · refine lq_top (v := 0) hre ?_
    rw [ht] at hT
    refine lv_if_eq (tgt := 21) hx hb dX11_undo_8 (by decide) (fun c_15 => ?_) (fun c_15 => absurd c_15 (by decide))
    refine lv_iconst (v := 0) hx hb dX11_undo_21 (by decide) ?_
    exact W.zret (v := 0) hx hb hr (by decide) (fun t ht hW9 => ⟨⟨0, 0, rfl, rfl, Or.inr (⟨u, rfl, fun _ _ => rfl, ⟨τ, ln, y, g, hMo, hKM, hI, tw_at ht hT⟩⟩)⟩, hS.F ht⟩) hS.2.2 dX11_undo_22
def wo_c_as : List Cond := [.methodLink RX11 68 yX11_within, .static yX11_within, .initialized RX11, .fieldLink RX11 40 "TypingPool" "ledger" "LTypingPool$Ledger;", .fieldLink RX11 245 "TypingPool$Ledger" "as" "I"]
def wm_c_as : List Cond := .code yX11_as cX11_as 3 (some .int) :: (wo_c_as ++ (wm_c_within ++ (wsX110 ++ (wsX50 ++ ([] : List Cond)))))
theorem gd_c_as : ∀ w ∈ wm_c_as, goodWord w = true := gd_c rfl (gd_a (by decide) (gd_a gd_c_within (gd_a gd_wsX110 (gd_a gd_wsX50 gd_nil))))
set_option maxRecDepth 20000 in
theorem im_c_as : ∀ w ∈ wm_c_as, w ∈ lw_tbl := im_c (in_r [.code yX11_as cX11_as 3 (some .int)] [943] (by decide +kernel)) (in_app (in_r wo_c_as [594, 595, 70, 563, 495] (by decide +kernel)) (in_app im_c_within (in_app im_wsX110 (in_app im_wsX50 im_nil))))
set_option maxHeartbeats 4000000 in
set_option maxRecDepth 100000 in
theorem c_as (l : Launch) (dC : Nat → ClassId) (dI : Nat → Nat → Nat) (ad av : Nat → Nat) (sz : Nat) (a : Nat → Nat) (k : Nat → ClassId) (τ ln : Nat → Nat) (y : Nat → Nat → Int32) (g : Nat → Nat → Option Nat) (u : Nat → Int) (p0 : Int32) (hI : IC a u τ ln y g) : Met l yX11_as wm_c_as ({ frames := 1, cells := 0, slots := 0, locals := 60 }) (pw_ ad av (dC, dI) sz [.ref (a 0), .int p0] a k τ ln y g) (va_Qi (fun (r u : Int32) => u = r) (fun (r : Int32) (t : State) => (∃ (u' : Nat → Int), r = (-1) ∧ (∀ i, i ∉ ([] : List Nat) → u' i = u i) ∧ (p0.toInt < 0 ∨ 99 < p0.toInt) ∧ pq (dC, dI) a k τ y g u' sz t.heap) ∨ (∃ (u' : Nat → Int), (∀ i, i ∉ ([8] : List Nat) → u' i = u i) ∧ (0 ≤ p0.toInt ∧ p0.toInt ≤ 99) ∧ r.toInt = u 8 ∧ u' 8 = p0.toInt ∧ pq (dC, dI) a k τ y g u' sz t.heap)) (fr τ sz)) 0 0 (fr τ sz) := by
  refine Met.ofW (cc := cX11_as) (maxL := 3) (ret := (some .int)) (by decide) rfl ?_
  intro p e s m args below meth c s₁ B hml hv
  obtain ⟨rfl, hsz, hT, hK, hM⟩ := hv
  have hx := B.exec
  have hb := B.bytes
  have hr := B.returns
  have hts := atoms_spec (ws := wm_c_as) B.pre
  have hown : s.vm.findClass RX11 = some m.cls := findClass_of_methodNamed B.named
  have hlocks := B.notSynchronized
  subst hsz
  generalize hAe : fr τ s.heap.size = A at hM ⊢
  have hA : ∀ q : Nat, s.heap.size ≤ q → A q := fun q h => by rw [← hAe]; exact Or.inr h
  have hF : ∀ q, τ q ≠ 0 → A q := fun q h => by rw [← hAe]; exact Or.inl h
  have hS : va_S A s.heap s.heap [] := va_S.rf
  have hX := hI.1
  have hR := ic_r hI
  have hMo : mono τ τ s.heap.size := mono.rf
  have hKM : kpM τ y g y g := kpM.rf
  have hl := lv_entry ([.ref (a 0), .int p0]) (n := 3) (Nat.le_of_ble_eq_true rfl)
  rw [lg_entry_eq]
  generalize (lg_sl ([.ref (a 0), .int p0]) ++ List.replicate (3 - (lg_sl ([.ref (a 0), .int p0])).length) Slot.unset).toArray = ls at hl ⊢
  have hl : lv_has ls 3 [(0, .ref (a 0)), (1, .int p0)] := hl
  refine lv_iload_n hx hb dX11_as_0 rfl (lv_at hl 1 rfl) ?_
  refine lv_iconst (v := 0) hx hb dX11_as_1 (by decide) ?_
  refine lv_bipush (v := 99) hx hb dX11_as_2 (by decide) ?_
  have hFc := tw_free hF hS hA
  have hp_1 : (0 : Int32).toInt = 0 := (zk (x := 0) 0 rfl)
  have hp_2 : (99 : Int32).toInt = 99 := (zk (x := 99) 99 rfl)
  refine va_calli (va_runS (As := [.int p0, .int 0, .int 99]) (rest := []) ⟨hx, hb, hml, hown, hts⟩ (c_within l dC dI ad av s.heap.size a k τ ln y g u p0 (0 : Int32) (99 : Int32)  ) (va_cwS 3 hts (gi_3 (List.mem_cons_of_mem _ (List.mem_append_left _ (List.mem_of_getElem? (i := 0) rfl))) (List.mem_cons_of_mem _ (List.mem_append_left _ (List.mem_of_getElem? (i := 1) rfl))) (List.mem_cons_of_mem _ (List.mem_append_left _ (List.mem_of_getElem? (i := 2) rfl))) (fun _ hh => (List.mem_cons_of_mem _ (List.mem_append_right _ (List.mem_append_left _ hh)))) gd_c_within) rfl rfl rfl (by decide +kernel) ⟨Nat.le_of_ble_eq_true rfl, Nat.le_of_ble_eq_true rfl⟩) ⟨pw_blind, pw_use hT hK hFc hS hM⟩ rfl rfl hl.1 rfl (lv_room (Nat.le_of_ble_eq_true rfl)) dX11_as_4 ⟨Nat.le_of_ble_eq_true rfl, Nat.le_of_ble_eq_true rfl⟩) hS (fun q _ h => hFc q h) hFc (fun r0 r_3 t H locs ht hvm hw hB hz1 hk1 hS => ?_)
  refine W.widen (k := 0) (n := 0) (Nat.le_of_ble_eq_true rfl) (Nat.le_of_ble_eq_true rfl) ?_
  clear hvm hz1 hk1
  subst hw
  rcases hB with ⟨hre, hf_4, hf_5, hT⟩ | ⟨hre, hf_6, hT⟩
  · refine lq_top (v := 1) hre ?_
    rw [ht] at hT
    try simp only [hp_1, hp_2] at hf_4 hf_5
    clear hp_1 hp_2
    refine lv_if_ne (tgt := 12) hx hb dX11_as_7 (by decide) (fun c_7 => ?_) (fun c_7 => absurd c_7 (by decide))
    refine lv_aload_n hx hb dX11_as_12 rfl (lv_at hl 0 rfl) ?_
    refine tw_get (D := (dC, dI)) (v := .ref (a 5)) (C := RX11) (T := TX11) (N := 10) hx hb hts (fun _ hh => (List.mem_cons_of_mem _ (List.mem_append_right _ (List.mem_append_right _ (List.mem_append_left _ hh))))) hown hK hT (fx_0 hX) (by decide) cl_e10 rfl 4 (by decide) (hts (.fieldLink RX11 40 "TypingPool" "ledger" "LTypingPool$Ledger;") (List.mem_cons_of_mem _ (List.mem_append_left _ (List.mem_of_getElem? (i := 3) rfl)))) (fun _ h9 => h9) rfl dX11_as_13 ?_
    refine tw_get (D := (dC, dI)) (v := .int (y (a 5) 5)) (C := RX5) (T := TX5) (N := 6) hx hb hts (fun _ hh => (List.mem_cons_of_mem _ (List.mem_append_right _ (List.mem_append_right _ (List.mem_append_right _ (List.mem_append_left _ hh)))))) hown hK hT (fx_5 hX) (by decide) cl_e15 rfl 5 (by decide) (hts (.fieldLink RX11 245 "TypingPool$Ledger" "as" "I") (List.mem_cons_of_mem _ (List.mem_append_left _ (List.mem_of_getElem? (i := 4) rfl)))) (fun _ h9 => h9) rfl dX11_as_16 ?_
    have hc_8 := ic_8 hI
    refine lv_istore_n (lv' := [(2, .int (y (a 5) 5)), (0, .ref (a 0)), (1, .int p0)]) hx hb dX11_as_19 rfl hl (by decide) rfl (fun ls hl => ?_)
    refine lv_aload_n hx hb dX11_as_20 rfl (lv_at hl 1 rfl) ?_
    refine tw_get (D := (dC, dI)) (v := .ref (a 5)) (C := RX11) (T := TX11) (N := 10) hx hb hts (fun _ hh => (List.mem_cons_of_mem _ (List.mem_append_right _ (List.mem_append_right _ (List.mem_append_left _ hh))))) hown hK hT (fx_0 hX) (by decide) cl_e10 rfl 4 (by decide) (hts (.fieldLink RX11 40 "TypingPool" "ledger" "LTypingPool$Ledger;") (List.mem_cons_of_mem _ (List.mem_append_left _ (List.mem_of_getElem? (i := 3) rfl)))) (fun _ h9 => h9) rfl dX11_as_21 ?_
    refine lv_iload_n hx hb dX11_as_24 rfl (lv_at hl 2 rfl) ?_
    refine tw_put (D := (dC, dI)) (x := p0) (ty := .int) (C := RX5) (T := TX5) (N := 6) hx hb hts (fun _ hh => (List.mem_cons_of_mem _ (List.mem_append_right _ (List.mem_append_right _ (List.mem_append_right _ (List.mem_append_left _ hh)))))) tyX5 tyX5_ok nmX5 hown hK hT hF hS (fx_5 hX) (by decide) cl_e15 rfl 5 (by decide) (hts (.fieldLink RX11 245 "TypingPool$Ledger" "as" "I") (List.mem_cons_of_mem _ (List.mem_append_left _ (List.mem_of_getElem? (i := 4) rfl)))) (fun _ h9 => h9) rfl (tyX5_ok 5 (by decide)) rfl rfl (Nat.le_of_ble_eq_true rfl) rfl dX11_as_25 (fun H locs hT hS => ?_)
    obtain ⟨y_9, hy_9, hT⟩ : ∃ z : Nat → Nat → Int32, z = up2 y (a 5) 5 p0 ∧ tw (dC, dI) a k τ ln z g H := ⟨_, rfl, hT⟩
    have hKM : kpM τ y g y_9 g := by rw [hy_9]; exact hKM.up hMo (fx_5 hX) (by decide)
    have hp_10 : p0.toInt = p0.toInt := rfl
    have hI := (hI.set8 hp_10)
    rw [← hy_9] at hI
    refine lv_iload_n hx hb dX11_as_28 rfl (lv_at hl 0 rfl) ?_
    have hrv : (y (a 5) 5).toInt = u 8 := hc_8
    exact W.iret (v := y (a 5) 5) hx hb hr (fun t ht hW9 => ⟨⟨y (a 5) 5, y (a 5) 5, rfl, rfl, Or.inr (⟨(upc u 8 p0.toInt), (by intro i hi; simp only [List.mem_cons, List.not_mem_nil, or_false, not_or] at hi; unfold upc; repeat rw [if_neg (by omega)]), by omega, by omega, upc_i, ⟨τ, ln, y_9, g, hMo, hKM, hI, tw_at ht hT⟩⟩)⟩, hS.F ht⟩) hS.2.2 dX11_as_29
  · refine lq_top (v := 0) hre ?_
    rw [ht] at hT
    try simp only [hp_1, hp_2] at hf_6
    clear hp_1 hp_2
    refine lv_if_ne (tgt := 12) hx hb dX11_as_7 (by decide) (fun c_11 => absurd c_11 (by decide)) (fun c_11 => ?_)
    refine lv_iconst (v := (-1)) hx hb dX11_as_10 (by decide) ?_
    have hrv : (-1 : Int32).toInt = (-1) := (zk (x := (-1)) (-1) rfl)
    exact W.iret (v := (-1)) hx hb hr (fun t ht hW9 => ⟨⟨(-1), (-1), rfl, rfl, Or.inl ⟨u, rfl, fun _ _ => rfl, by omega, ⟨τ, ln, y, g, hMo, hKM, hI, tw_at ht hT⟩⟩⟩, hS.F ht⟩) hS.2.2 dX11_as_11
def wo_c_fault : List Cond := [.fieldLink RX11 40 "TypingPool" "ledger" "LTypingPool$Ledger;", .methodLink RX11 257 yX5_hasCorrection, .instanceMethod yX5_hasCorrection, .selects RX5 yX5_hasCorrection yX5_hasCorrection, .initialized RX5, .methodLink RX11 263 yX5_isKnown, .instanceMethod yX5_isKnown, .selects RX5 yX5_isKnown yX5_isKnown, .methodLink RX11 266 yX5_whose, .instanceMethod yX5_whose, .selects RX5 yX5_whose yX5_whose]
def wm_c_fault : List Cond := .code yX11_fault cX11_fault 2 (some .int) :: (wo_c_fault ++ (wsX110 ++ (wm_c_hasCorrection ++ (wm_c_isKnown ++ (wm_c_whose ++ ([] : List Cond))))))
theorem gd_c_fault : ∀ w ∈ wm_c_fault, goodWord w = true := gd_c rfl (gd_a (by decide) (gd_a gd_wsX110 (gd_a gd_c_hasCorrection (gd_a gd_c_isKnown (gd_a gd_c_whose gd_nil)))))
set_option maxRecDepth 20000 in
theorem im_c_fault : ∀ w ∈ wm_c_fault, w ∈ lw_tbl := im_c (in_r [.code yX11_fault cX11_fault 2 (some .int)] [947] (by decide +kernel)) (in_app (in_r wo_c_fault [563, 936, 937, 938, 84, 948, 949, 950, 952, 953, 954] (by decide +kernel)) (in_app im_wsX110 (in_app im_c_hasCorrection (in_app im_c_isKnown (in_app im_c_whose im_nil)))))
set_option maxHeartbeats 4000000 in
set_option maxRecDepth 100000 in
theorem c_fault (l : Launch) (dC : Nat → ClassId) (dI : Nat → Nat → Nat) (ad av : Nat → Nat) (sz : Nat) (a : Nat → Nat) (k : Nat → ClassId) (τ ln : Nat → Nat) (y : Nat → Nat → Int32) (g : Nat → Nat → Option Nat) (u : Nat → Int) (p0 : Int32) (hI : IC a u τ ln y g) : Met l yX11_fault wm_c_fault ({ frames := 4, cells := 0, slots := 0, locals := 240 }) (pw_ ad av (dC, dI) sz [.ref (a 0), .int p0] a k τ ln y g) (va_Qi (fun (r u : Int32) => u = r) (fun (r : Int32) (t : State) => (∃ (u' : Nat → Int), (∀ i, i ∉ ([] : List Nat) → u' i = u i) ∧ pq (dC, dI) a k τ y g u' sz t.heap)) (fr τ sz)) 0 0 (fr τ sz) := by
  refine Met.ofW (cc := cX11_fault) (maxL := 2) (ret := (some .int)) (by decide) rfl ?_
  intro p e s m args below meth c s₁ B hml hv
  obtain ⟨rfl, hsz, hT, hK, hM⟩ := hv
  have hx := B.exec
  have hb := B.bytes
  have hr := B.returns
  have hts := atoms_spec (ws := wm_c_fault) B.pre
  have hown : s.vm.findClass RX11 = some m.cls := findClass_of_methodNamed B.named
  have hlocks := B.notSynchronized
  subst hsz
  generalize hAe : fr τ s.heap.size = A at hM ⊢
  have hA : ∀ q : Nat, s.heap.size ≤ q → A q := fun q h => by rw [← hAe]; exact Or.inr h
  have hF : ∀ q, τ q ≠ 0 → A q := fun q h => by rw [← hAe]; exact Or.inl h
  have hS : va_S A s.heap s.heap [] := va_S.rf
  have hX := hI.1
  have hR := ic_r hI
  have hMo : mono τ τ s.heap.size := mono.rf
  have hKM : kpM τ y g y g := kpM.rf
  have hl := lv_entry ([.ref (a 0), .int p0]) (n := 2) (Nat.le_of_ble_eq_true rfl)
  rw [lg_entry_eq]
  generalize (lg_sl ([.ref (a 0), .int p0]) ++ List.replicate (2 - (lg_sl ([.ref (a 0), .int p0])).length) Slot.unset).toArray = ls at hl ⊢
  have hl : lv_has ls 2 [(0, .ref (a 0)), (1, .int p0)] := hl
  refine lv_aload_n hx hb dX11_fault_0 rfl (lv_at hl 0 rfl) ?_
  refine tw_get (D := (dC, dI)) (v := .ref (a 5)) (C := RX11) (T := TX11) (N := 10) hx hb hts (fun _ hh => (List.mem_cons_of_mem _ (List.mem_append_right _ (List.mem_append_left _ hh)))) hown hK hT (fx_0 hX) (by decide) cl_e10 rfl 4 (by decide) (hts (.fieldLink RX11 40 "TypingPool" "ledger" "LTypingPool$Ledger;") (List.mem_cons_of_mem _ (List.mem_append_left _ (List.mem_of_getElem? (i := 0) rfl)))) (fun _ h9 => h9) rfl dX11_fault_1 ?_
  refine lv_iload_n hx hb dX11_fault_4 rfl (lv_at hl 1 rfl) ?_
  have hFc := tw_free hF hS hA
  refine va_calli (va_runV (As := [.int p0]) (rest := []) ⟨hx, hb, hml, hown, hts⟩ (c_hasCorrection l dC dI ad av s.heap.size a k τ ln y g u p0 hI ) (cwV 1 hts (gi_4 (List.mem_cons_of_mem _ (List.mem_append_left _ (List.mem_of_getElem? (i := 1) rfl))) (List.mem_cons_of_mem _ (List.mem_append_left _ (List.mem_of_getElem? (i := 2) rfl))) (List.mem_cons_of_mem _ (List.mem_append_left _ (List.mem_of_getElem? (i := 3) rfl))) (List.mem_cons_of_mem _ (List.mem_append_left _ (List.mem_of_getElem? (i := 4) rfl))) (fun _ hh => (List.mem_cons_of_mem _ (List.mem_append_right _ (List.mem_append_right _ (List.mem_append_left _ hh))))) gd_c_hasCorrection) rfl rfl rfl (by decide +kernel) ⟨Nat.le_of_ble_eq_true rfl, Nat.le_of_ble_eq_true rfl⟩) ⟨pw_blind, tw_recv hK hT (fx_5 hX) (by decide) cl_e15 rfl, pw_use hT hK hFc hS hM⟩ rfl rfl hl.1 rfl (lv_room (Nat.le_of_ble_eq_true rfl)) dX11_fault_5 ⟨Nat.le_of_ble_eq_true rfl, Nat.le_of_ble_eq_true rfl⟩) hS (fun q _ h => hFc q h) hFc (fun r0 r_1 t H locs ht hvm hw hB hz1 hk1 hS => ?_)
  refine W.widen (k := 0) (n := 0) (Nat.le_of_ble_eq_true rfl) (Nat.le_of_ble_eq_true rfl) ?_
  clear hvm hz1 hk1
  subst hw
  rcases hB with ⟨hre, hf_2, hf_3, hT⟩ | ⟨hre, hT⟩
  · refine lq_top (v := 1) hre ?_
    rw [ht] at hT
    refine lv_if_eq (tgt := 22) hx hb dX11_fault_8 (by decide) (fun c_4 => absurd c_4 (by decide)) (fun c_4 => ?_)
    refine lv_aload_n hx hb dX11_fault_11 rfl (lv_at hl 0 rfl) ?_
    refine tw_get (D := (dC, dI)) (v := .ref (a 5)) (C := RX11) (T := TX11) (N := 10) hx hb hts (fun _ hh => (List.mem_cons_of_mem _ (List.mem_append_right _ (List.mem_append_left _ hh)))) hown hK hT (fx_0 hX) (by decide) cl_e10 rfl 4 (by decide) (hts (.fieldLink RX11 40 "TypingPool" "ledger" "LTypingPool$Ledger;") (List.mem_cons_of_mem _ (List.mem_append_left _ (List.mem_of_getElem? (i := 0) rfl)))) (fun _ h9 => h9) rfl dX11_fault_12 ?_
    refine lv_iload_n hx hb dX11_fault_15 rfl (lv_at hl 1 rfl) ?_
    have hFc := tw_free hF hS hA
    refine va_calli (va_runV (As := [.int p0]) (rest := []) ⟨hx, hb, hml, hown, hts⟩ (c_isKnown l dC dI ad av H.size a k τ ln y g u p0 hI (by omega) (by omega)) (cwV 1 hts (gi_4 (List.mem_cons_of_mem _ (List.mem_append_left _ (List.mem_of_getElem? (i := 5) rfl))) (List.mem_cons_of_mem _ (List.mem_append_left _ (List.mem_of_getElem? (i := 6) rfl))) (List.mem_cons_of_mem _ (List.mem_append_left _ (List.mem_of_getElem? (i := 7) rfl))) (List.mem_cons_of_mem _ (List.mem_append_left _ (List.mem_of_getElem? (i := 4) rfl))) (fun _ hh => (List.mem_cons_of_mem _ (List.mem_append_right _ (List.mem_append_right _ (List.mem_append_right _ (List.mem_append_left _ hh)))))) gd_c_isKnown) rfl rfl rfl (by decide +kernel) ⟨Nat.le_of_ble_eq_true rfl, Nat.le_of_ble_eq_true rfl⟩) ⟨pw_blind, tw_recv hK hT (fx_5 hX) (by decide) cl_e15 rfl, pw_use hT hK hFc hS hM⟩ rfl rfl hl.1 rfl (lv_room (Nat.le_of_ble_eq_true rfl)) dX11_fault_16 ⟨Nat.le_of_ble_eq_true rfl, Nat.le_of_ble_eq_true rfl⟩) hS (fun q _ h => hFc q h) hFc (fun r0 r_5 t H locs ht hvm hw hB hz1 hk1 hS => ?_)
    refine W.widen (k := 0) (n := 0) (Nat.le_of_ble_eq_true rfl) (Nat.le_of_ble_eq_true rfl) ?_
    clear hvm hz1 hk1
    subst hw
    rcases hB with ⟨hre, hT⟩ | ⟨hre, hT⟩
    · refine lq_top (v := 1) hre ?_
      rw [ht] at hT
      refine lv_if_ne (tgt := 24) hx hb dX11_fault_19 (by decide) (fun c_6 => ?_) (fun c_6 => absurd c_6 (by decide))
      refine lv_aload_n hx hb dX11_fault_24 rfl (lv_at hl 0 rfl) ?_
      refine tw_get (D := (dC, dI)) (v := .ref (a 5)) (C := RX11) (T := TX11) (N := 10) hx hb hts (fun _ hh => (List.mem_cons_of_mem _ (List.mem_append_right _ (List.mem_append_left _ hh)))) hown hK hT (fx_0 hX) (by decide) cl_e10 rfl 4 (by decide) (hts (.fieldLink RX11 40 "TypingPool" "ledger" "LTypingPool$Ledger;") (List.mem_cons_of_mem _ (List.mem_append_left _ (List.mem_of_getElem? (i := 0) rfl)))) (fun _ h9 => h9) rfl dX11_fault_25 ?_
      refine lv_iload_n hx hb dX11_fault_28 rfl (lv_at hl 1 rfl) ?_
      have hFc := tw_free hF hS hA
      refine va_calli (va_runV (As := [.int p0]) (rest := []) ⟨hx, hb, hml, hown, hts⟩ (c_whose l dC dI ad av H.size a k τ ln y g u p0 hI (by omega) (by omega)) (cwV 1 hts (gi_4 (List.mem_cons_of_mem _ (List.mem_append_left _ (List.mem_of_getElem? (i := 8) rfl))) (List.mem_cons_of_mem _ (List.mem_append_left _ (List.mem_of_getElem? (i := 9) rfl))) (List.mem_cons_of_mem _ (List.mem_append_left _ (List.mem_of_getElem? (i := 10) rfl))) (List.mem_cons_of_mem _ (List.mem_append_left _ (List.mem_of_getElem? (i := 4) rfl))) (fun _ hh => (List.mem_cons_of_mem _ (List.mem_append_right _ (List.mem_append_right _ (List.mem_append_right _ (List.mem_append_right _ (List.mem_append_left _ hh))))))) gd_c_whose) rfl rfl rfl (by decide +kernel) ⟨Nat.le_of_ble_eq_true rfl, Nat.le_of_ble_eq_true rfl⟩) ⟨pw_blind, tw_recv hK hT (fx_5 hX) (by decide) cl_e15 rfl, pw_use hT hK hFc hS hM⟩ rfl rfl hl.1 rfl (lv_room (Nat.le_of_ble_eq_true rfl)) dX11_fault_29 ⟨Nat.le_of_ble_eq_true rfl, Nat.le_of_ble_eq_true rfl⟩) hS (fun q _ h => hFc q h) hFc (fun r0 r_7 t H locs ht hvm hw hB hz1 hk1 hS => ?_)
      refine W.widen (k := 0) (n := 0) (Nat.le_of_ble_eq_true rfl) (Nat.le_of_ble_eq_true rfl) ?_
      clear hvm hz1 hk1
      subst hw
      obtain ⟨y_8, hgy_8, hT⟩ := hB
      rw [ht] at hT
      have hKM := hKM.ag hMo hgy_8 (by decide)
      have hI := hI.ag hgy_8 (by decide)
      exact W.iret (v := r_7) hx hb hr (fun t ht hW9 => ⟨⟨r_7, r_7, rfl, rfl, ⟨u, fun _ _ => rfl, ⟨τ, ln, y_8, g, hMo, hKM, hI, tw_at ht hT⟩⟩⟩, hS.F ht⟩) hS.2.2 dX11_fault_32
    · refine lq_top (v := 0) hre ?_
      rw [ht] at hT
      refine lv_if_ne (tgt := 24) hx hb dX11_fault_19 (by decide) (fun c_9 => absurd c_9 (by decide)) (fun c_9 => ?_)
      refine lv_iconst (v := (-1)) hx hb dX11_fault_22 (by decide) ?_
      exact W.iret (v := (-1)) hx hb hr (fun t ht hW9 => ⟨⟨(-1), (-1), rfl, rfl, ⟨u, fun _ _ => rfl, ⟨τ, ln, y, g, hMo, hKM, hI, tw_at ht hT⟩⟩⟩, hS.F ht⟩) hS.2.2 dX11_fault_23
  · refine lq_top (v := 0) hre ?_
    rw [ht] at hT
    refine lv_if_eq (tgt := 22) hx hb dX11_fault_8 (by decide) (fun c_10 => ?_) (fun c_10 => absurd c_10 (by decide))
    refine lv_iconst (v := (-1)) hx hb dX11_fault_22 (by decide) ?_
    exact W.iret (v := (-1)) hx hb hr (fun t ht hW9 => ⟨⟨(-1), (-1), rfl, rfl, ⟨u, fun _ _ => rfl, ⟨τ, ln, y, g, hMo, hKM, hI, tw_at ht hT⟩⟩⟩, hS.F ht⟩) hS.2.2 dX11_fault_23
def wo_c_faults : List Cond := [.fieldLink RX11 10 "TypingPool" "book" "LTypingPool$Book;", .methodLink RX11 95 yX1_hasHand, .instanceMethod yX1_hasHand, .selects RX1 yX1_hasHand yX1_hasHand, .initialized RX1, .methodLink RX11 68 yX11_within, .static yX11_within, .initialized RX11, .fieldLink RX11 40 "TypingPool" "ledger" "LTypingPool$Ledger;", .methodLink RX11 269 yX5_faultsWith, .instanceMethod yX5_faultsWith, .selects RX5 yX5_faultsWith yX5_faultsWith, .initialized RX5]
def wm_c_faults : List Cond := .code yX11_faults cX11_faults 3 (some .int) :: (wo_c_faults ++ (wsX110 ++ (wm_c_hasHand ++ (wm_c_within ++ (wm_c_faultsWith ++ ([] : List Cond))))))
theorem gd_c_faults : ∀ w ∈ wm_c_faults, goodWord w = true := gd_c rfl (gd_a (by decide) (gd_a gd_wsX110 (gd_a gd_c_hasHand (gd_a gd_c_within (gd_a gd_c_faultsWith gd_nil)))))
set_option maxRecDepth 20000 in
theorem im_c_faults : ∀ w ∈ wm_c_faults, w ∈ lw_tbl := im_c (in_r [.code yX11_faults cX11_faults 3 (some .int)] [961] (by decide +kernel)) (in_app (in_r wo_c_faults [559, 629, 630, 631, 71, 594, 595, 70, 563, 962, 963, 964, 84] (by decide +kernel)) (in_app im_wsX110 (in_app im_c_hasHand (in_app im_c_within (in_app im_c_faultsWith im_nil)))))
set_option maxHeartbeats 4000000 in
set_option maxRecDepth 100000 in
theorem c_faults (l : Launch) (dC : Nat → ClassId) (dI : Nat → Nat → Nat) (ad av : Nat → Nat) (sz : Nat) (a : Nat → Nat) (k : Nat → ClassId) (τ ln : Nat → Nat) (y : Nat → Nat → Int32) (g : Nat → Nat → Option Nat) (u : Nat → Int) (p0 : Int32) (p1 : Int32) (hI : IC a u τ ln y g) : Met l yX11_faults wm_c_faults ({ frames := 6, cells := 0, slots := 0, locals := 360 }) (pw_ ad av (dC, dI) sz [.ref (a 0), .int p0, .int p1] a k τ ln y g) (va_Qi (fun (r u : Int32) => u = r) (fun (r : Int32) (t : State) => (∃ (u' : Nat → Int), (∀ i, i ∉ ([] : List Nat) → u' i = u i) ∧ pq (dC, dI) a k τ y g u' sz t.heap)) (fr τ sz)) 0 0 (fr τ sz) := by
  refine Met.ofW (cc := cX11_faults) (maxL := 3) (ret := (some .int)) (by decide) rfl ?_
  intro p e s m args below meth c s₁ B hml hv
  obtain ⟨rfl, hsz, hT, hK, hM⟩ := hv
  have hx := B.exec
  have hb := B.bytes
  have hr := B.returns
  have hts := atoms_spec (ws := wm_c_faults) B.pre
  have hown : s.vm.findClass RX11 = some m.cls := findClass_of_methodNamed B.named
  have hlocks := B.notSynchronized
  subst hsz
  generalize hAe : fr τ s.heap.size = A at hM ⊢
  have hA : ∀ q : Nat, s.heap.size ≤ q → A q := fun q h => by rw [← hAe]; exact Or.inr h
  have hF : ∀ q, τ q ≠ 0 → A q := fun q h => by rw [← hAe]; exact Or.inl h
  have hS : va_S A s.heap s.heap [] := va_S.rf
  have hX := hI.1
  have hR := ic_r hI
  have hMo : mono τ τ s.heap.size := mono.rf
  have hKM : kpM τ y g y g := kpM.rf
  have hl := lv_entry ([.ref (a 0), .int p0, .int p1]) (n := 3) (Nat.le_of_ble_eq_true rfl)
  rw [lg_entry_eq]
  generalize (lg_sl ([.ref (a 0), .int p0, .int p1]) ++ List.replicate (3 - (lg_sl ([.ref (a 0), .int p0, .int p1])).length) Slot.unset).toArray = ls at hl ⊢
  have hl : lv_has ls 3 [(0, .ref (a 0)), (1, .int p0), (2, .int p1)] := hl
  refine lv_aload_n hx hb dX11_faults_0 rfl (lv_at hl 0 rfl) ?_
  refine tw_get (D := (dC, dI)) (v := .ref (a 1)) (C := RX11) (T := TX11) (N := 10) hx hb hts (fun _ hh => (List.mem_cons_of_mem _ (List.mem_append_right _ (List.mem_append_left _ hh)))) hown hK hT (fx_0 hX) (by decide) cl_e10 rfl 0 (by decide) (hts (.fieldLink RX11 10 "TypingPool" "book" "LTypingPool$Book;") (List.mem_cons_of_mem _ (List.mem_append_left _ (List.mem_of_getElem? (i := 0) rfl)))) (fun _ h9 => h9) rfl dX11_faults_1 ?_
  refine lv_iload_n hx hb dX11_faults_4 rfl (lv_at hl 1 rfl) ?_
  have hFc := tw_free hF hS hA
  refine va_calli (va_runV (As := [.int p0]) (rest := []) ⟨hx, hb, hml, hown, hts⟩ (c_hasHand l dC dI ad av s.heap.size a k τ ln y g u p0 hI ) (cwV 1 hts (gi_4 (List.mem_cons_of_mem _ (List.mem_append_left _ (List.mem_of_getElem? (i := 1) rfl))) (List.mem_cons_of_mem _ (List.mem_append_left _ (List.mem_of_getElem? (i := 2) rfl))) (List.mem_cons_of_mem _ (List.mem_append_left _ (List.mem_of_getElem? (i := 3) rfl))) (List.mem_cons_of_mem _ (List.mem_append_left _ (List.mem_of_getElem? (i := 4) rfl))) (fun _ hh => (List.mem_cons_of_mem _ (List.mem_append_right _ (List.mem_append_right _ (List.mem_append_left _ hh))))) gd_c_hasHand) rfl rfl rfl (by decide +kernel) ⟨Nat.le_of_ble_eq_true rfl, Nat.le_of_ble_eq_true rfl⟩) ⟨pw_blind, tw_recv hK hT (fx_1 hX) (by decide) cl_e11 rfl, pw_use hT hK hFc hS hM⟩ rfl rfl hl.1 rfl (lv_room (Nat.le_of_ble_eq_true rfl)) dX11_faults_5 ⟨Nat.le_of_ble_eq_true rfl, Nat.le_of_ble_eq_true rfl⟩) hS (fun q _ h => hFc q h) hFc (fun r0 r_1 t H locs ht hvm hw hB hz1 hk1 hS => ?_)
  refine W.widen (k := 0) (n := 0) (Nat.le_of_ble_eq_true rfl) (Nat.le_of_ble_eq_true rfl) ?_
  clear hvm hz1 hk1
  subst hw
  rcases hB with ⟨hre, hf_2, hf_3, hT⟩ | ⟨hre, hf_4, hT⟩
  · refine lq_top (v := 1) hre ?_
    rw [ht] at hT
    refine lv_if_eq (tgt := 20) hx hb dX11_faults_8 (by decide) (fun c_5 => absurd c_5 (by decide)) (fun c_5 => ?_)
    refine lv_iload_n hx hb dX11_faults_11 rfl (lv_at hl 2 rfl) ?_
    refine lv_iconst (v := 0) hx hb dX11_faults_12 (by decide) ?_
    refine lv_iconst (v := 2) hx hb dX11_faults_13 (by decide) ?_
    have hFc := tw_free hF hS hA
    have hp_6 : (0 : Int32).toInt = 0 := (zk (x := 0) 0 rfl)
    have hp_7 : (2 : Int32).toInt = 2 := (zk (x := 2) 2 rfl)
    refine va_calli (va_runS (As := [.int p1, .int 0, .int 2]) (rest := []) ⟨hx, hb, hml, hown, hts⟩ (c_within l dC dI ad av H.size a k τ ln y g u p1 (0 : Int32) (2 : Int32)  ) (va_cwS 3 hts (gi_3 (List.mem_cons_of_mem _ (List.mem_append_left _ (List.mem_of_getElem? (i := 5) rfl))) (List.mem_cons_of_mem _ (List.mem_append_left _ (List.mem_of_getElem? (i := 6) rfl))) (List.mem_cons_of_mem _ (List.mem_append_left _ (List.mem_of_getElem? (i := 7) rfl))) (fun _ hh => (List.mem_cons_of_mem _ (List.mem_append_right _ (List.mem_append_right _ (List.mem_append_right _ (List.mem_append_left _ hh)))))) gd_c_within) rfl rfl rfl (by decide +kernel) ⟨Nat.le_of_ble_eq_true rfl, Nat.le_of_ble_eq_true rfl⟩) ⟨pw_blind, pw_use hT hK hFc hS hM⟩ rfl rfl hl.1 rfl (lv_room (Nat.le_of_ble_eq_true rfl)) dX11_faults_14 ⟨Nat.le_of_ble_eq_true rfl, Nat.le_of_ble_eq_true rfl⟩) hS (fun q _ h => hFc q h) hFc (fun r0 r_8 t H locs ht hvm hw hB hz1 hk1 hS => ?_)
    refine W.widen (k := 0) (n := 0) (Nat.le_of_ble_eq_true rfl) (Nat.le_of_ble_eq_true rfl) ?_
    clear hvm hz1 hk1
    subst hw
    rcases hB with ⟨hre, hf_9, hf_10, hT⟩ | ⟨hre, hf_11, hT⟩
    · refine lq_top (v := 1) hre ?_
      rw [ht] at hT
      try simp only [hp_6, hp_7] at hf_9 hf_10
      clear hp_6 hp_7
      refine lv_if_ne (tgt := 22) hx hb dX11_faults_17 (by decide) (fun c_12 => ?_) (fun c_12 => absurd c_12 (by decide))
      refine lv_aload_n hx hb dX11_faults_22 rfl (lv_at hl 0 rfl) ?_
      refine tw_get (D := (dC, dI)) (v := .ref (a 5)) (C := RX11) (T := TX11) (N := 10) hx hb hts (fun _ hh => (List.mem_cons_of_mem _ (List.mem_append_right _ (List.mem_append_left _ hh)))) hown hK hT (fx_0 hX) (by decide) cl_e10 rfl 4 (by decide) (hts (.fieldLink RX11 40 "TypingPool" "ledger" "LTypingPool$Ledger;") (List.mem_cons_of_mem _ (List.mem_append_left _ (List.mem_of_getElem? (i := 8) rfl)))) (fun _ h9 => h9) rfl dX11_faults_23 ?_
      refine lv_iload_n hx hb dX11_faults_26 rfl (lv_at hl 1 rfl) ?_
      refine lv_iload_n hx hb dX11_faults_27 rfl (lv_at hl 2 rfl) ?_
      have hFc := tw_free hF hS hA
      refine va_calli (va_runV (As := [.int p0, .int p1]) (rest := []) ⟨hx, hb, hml, hown, hts⟩ (c_faultsWith l dC dI ad av H.size a k τ ln y g u p0 p1 hI ) (cwV 2 hts (gi_4 (List.mem_cons_of_mem _ (List.mem_append_left _ (List.mem_of_getElem? (i := 9) rfl))) (List.mem_cons_of_mem _ (List.mem_append_left _ (List.mem_of_getElem? (i := 10) rfl))) (List.mem_cons_of_mem _ (List.mem_append_left _ (List.mem_of_getElem? (i := 11) rfl))) (List.mem_cons_of_mem _ (List.mem_append_left _ (List.mem_of_getElem? (i := 12) rfl))) (fun _ hh => (List.mem_cons_of_mem _ (List.mem_append_right _ (List.mem_append_right _ (List.mem_append_right _ (List.mem_append_right _ (List.mem_append_left _ hh))))))) gd_c_faultsWith) rfl rfl rfl (by decide +kernel) ⟨Nat.le_of_ble_eq_true rfl, Nat.le_of_ble_eq_true rfl⟩) ⟨pw_blind, tw_recv hK hT (fx_5 hX) (by decide) cl_e15 rfl, pw_use hT hK hFc hS hM⟩ rfl rfl hl.1 rfl (lv_room (Nat.le_of_ble_eq_true rfl)) dX11_faults_28 ⟨Nat.le_of_ble_eq_true rfl, Nat.le_of_ble_eq_true rfl⟩) hS (fun q _ h => hFc q h) hFc (fun r0 r_13 t H locs ht hvm hw hB hz1 hk1 hS => ?_)
      refine W.widen (k := 0) (n := 0) (Nat.le_of_ble_eq_true rfl) (Nat.le_of_ble_eq_true rfl) ?_
      clear hvm hz1 hk1
      subst hw
      obtain ⟨y_14, hgy_14, hT⟩ := hB
      rw [ht] at hT
      have hKM := hKM.ag hMo hgy_14 (by decide)
      have hI := hI.ag hgy_14 (by decide)
      exact W.iret (v := r_13) hx hb hr (fun t ht hW9 => ⟨⟨r_13, r_13, rfl, rfl, ⟨u, fun _ _ => rfl, ⟨τ, ln, y_14, g, hMo, hKM, hI, tw_at ht hT⟩⟩⟩, hS.F ht⟩) hS.2.2 dX11_faults_31
    · refine lq_top (v := 0) hre ?_
      rw [ht] at hT
      try simp only [hp_6, hp_7] at hf_11
      clear hp_6 hp_7
      refine lv_if_ne (tgt := 22) hx hb dX11_faults_17 (by decide) (fun c_15 => absurd c_15 (by decide)) (fun c_15 => ?_)
      refine lv_iconst (v := (-1)) hx hb dX11_faults_20 (by decide) ?_
      exact W.iret (v := (-1)) hx hb hr (fun t ht hW9 => ⟨⟨(-1), (-1), rfl, rfl, ⟨u, fun _ _ => rfl, ⟨τ, ln, y, g, hMo, hKM, hI, tw_at ht hT⟩⟩⟩, hS.F ht⟩) hS.2.2 dX11_faults_21
  · refine lq_top (v := 0) hre ?_
    rw [ht] at hT
    refine lv_if_eq (tgt := 20) hx hb dX11_faults_8 (by decide) (fun c_16 => ?_) (fun c_16 => absurd c_16 (by decide))
    refine lv_iconst (v := (-1)) hx hb dX11_faults_20 (by decide) ?_
    exact W.iret (v := (-1)) hx hb hr (fun t ht hW9 => ⟨⟨(-1), (-1), rfl, rfl, ⟨u, fun _ _ => rfl, ⟨τ, ln, y, g, hMo, hKM, hI, tw_at ht hT⟩⟩⟩, hS.F ht⟩) hS.2.2 dX11_faults_21
def wo_c_quick : List Cond := [.fieldLink RX11 10 "TypingPool" "book" "LTypingPool$Book;", .methodLink RX11 95 yX1_hasHand, .instanceMethod yX1_hasHand, .selects RX1 yX1_hasHand yX1_hasHand, .initialized RX1, .fieldLink RX11 28 "TypingPool" "floor" "LTypingPool$Floor;", .fieldLink RX11 183 "TypingPool$Floor" "worked" "[I", .methodLink RX11 186 yX3_linesDoneBy, .instanceMethod yX3_linesDoneBy, .selects RX3 yX3_linesDoneBy yX3_linesDoneBy, .initialized RX3, .methodLink RX11 297 yX3_plainMinutesOf, .instanceMethod yX3_plainMinutesOf, .selects RX3 yX3_plainMinutesOf yX3_plainMinutesOf]
def wm_c_quick : List Cond := .code yX11_quick cX11_quick 3 (some .int) :: (wo_c_quick ++ (wsX110 ++ (wm_c_hasHand ++ (wsX30 ++ (wm_c_linesDoneBy ++ (wm_c_plainMinutesOf ++ ([] : List Cond)))))))
theorem gd_c_quick : ∀ w ∈ wm_c_quick, goodWord w = true := gd_c rfl (gd_a (by decide) (gd_a gd_wsX110 (gd_a gd_c_hasHand (gd_a gd_wsX30 (gd_a gd_c_linesDoneBy (gd_a gd_c_plainMinutesOf gd_nil))))))
set_option maxRecDepth 20000 in
theorem im_c_quick : ∀ w ∈ wm_c_quick, w ∈ lw_tbl := im_c (in_r [.code yX11_quick cX11_quick 3 (some .int)] [992] (by decide +kernel)) (in_app (in_r wo_c_quick [559, 629, 630, 631, 71, 561, 441, 993, 994, 995, 83, 998, 999, 1000] (by decide +kernel)) (in_app im_wsX110 (in_app im_c_hasHand (in_app im_wsX30 (in_app im_c_linesDoneBy (in_app im_c_plainMinutesOf im_nil))))))
set_option maxHeartbeats 4000000 in
set_option maxRecDepth 100000 in
theorem c_quick (l : Launch) (dC : Nat → ClassId) (dI : Nat → Nat → Nat) (ad av : Nat → Nat) (sz : Nat) (a : Nat → Nat) (k : Nat → ClassId) (τ ln : Nat → Nat) (y : Nat → Nat → Int32) (g : Nat → Nat → Option Nat) (u : Nat → Int) (p0 : Int32) (p1 : Int32) (hI : IC a u τ ln y g) : Met l yX11_quick wm_c_quick ({ frames := 2, cells := 0, slots := 0, locals := 120 }) (pw_ ad av (dC, dI) sz [.ref (a 0), .int p0, .int p1] a k τ ln y g) (va_Qi (fun (r u : Int32) => u = r) (fun (r : Int32) (t : State) => (∃ (u' : Nat → Int), (∀ i, i ∉ ([] : List Nat) → u' i = u i) ∧ pq (dC, dI) a k τ y g u' sz t.heap)) (fr τ sz)) 0 0 (fr τ sz) := by
  refine Met.ofW (cc := cX11_quick) (maxL := 3) (ret := (some .int)) (by decide) rfl ?_
  intro p e s m args below meth c s₁ B hml hv
  obtain ⟨rfl, hsz, hT, hK, hM⟩ := hv
  have hx := B.exec
  have hb := B.bytes
  have hr := B.returns
  have hts := atoms_spec (ws := wm_c_quick) B.pre
  have hown : s.vm.findClass RX11 = some m.cls := findClass_of_methodNamed B.named
  have hlocks := B.notSynchronized
  subst hsz
  generalize hAe : fr τ s.heap.size = A at hM ⊢
  have hA : ∀ q : Nat, s.heap.size ≤ q → A q := fun q h => by rw [← hAe]; exact Or.inr h
  have hF : ∀ q, τ q ≠ 0 → A q := fun q h => by rw [← hAe]; exact Or.inl h
  have hS : va_S A s.heap s.heap [] := va_S.rf
  have hX := hI.1
  have hR := ic_r hI
  have hMo : mono τ τ s.heap.size := mono.rf
  have hKM : kpM τ y g y g := kpM.rf
  have hl := lv_entry ([.ref (a 0), .int p0, .int p1]) (n := 3) (Nat.le_of_ble_eq_true rfl)
  rw [lg_entry_eq]
  generalize (lg_sl ([.ref (a 0), .int p0, .int p1]) ++ List.replicate (3 - (lg_sl ([.ref (a 0), .int p0, .int p1])).length) Slot.unset).toArray = ls at hl ⊢
  have hl : lv_has ls 3 [(0, .ref (a 0)), (1, .int p0), (2, .int p1)] := hl
  refine lv_aload_n hx hb dX11_quick_0 rfl (lv_at hl 0 rfl) ?_
  refine tw_get (D := (dC, dI)) (v := .ref (a 1)) (C := RX11) (T := TX11) (N := 10) hx hb hts (fun _ hh => (List.mem_cons_of_mem _ (List.mem_append_right _ (List.mem_append_left _ hh)))) hown hK hT (fx_0 hX) (by decide) cl_e10 rfl 0 (by decide) (hts (.fieldLink RX11 10 "TypingPool" "book" "LTypingPool$Book;") (List.mem_cons_of_mem _ (List.mem_append_left _ (List.mem_of_getElem? (i := 0) rfl)))) (fun _ h9 => h9) rfl dX11_quick_1 ?_
  refine lv_iload_n hx hb dX11_quick_4 rfl (lv_at hl 1 rfl) ?_
  have hFc := tw_free hF hS hA
  refine va_calli (va_runV (As := [.int p0]) (rest := []) ⟨hx, hb, hml, hown, hts⟩ (c_hasHand l dC dI ad av s.heap.size a k τ ln y g u p0 hI ) (cwV 1 hts (gi_4 (List.mem_cons_of_mem _ (List.mem_append_left _ (List.mem_of_getElem? (i := 1) rfl))) (List.mem_cons_of_mem _ (List.mem_append_left _ (List.mem_of_getElem? (i := 2) rfl))) (List.mem_cons_of_mem _ (List.mem_append_left _ (List.mem_of_getElem? (i := 3) rfl))) (List.mem_cons_of_mem _ (List.mem_append_left _ (List.mem_of_getElem? (i := 4) rfl))) (fun _ hh => (List.mem_cons_of_mem _ (List.mem_append_right _ (List.mem_append_right _ (List.mem_append_left _ hh))))) gd_c_hasHand) rfl rfl rfl (by decide +kernel) ⟨Nat.le_of_ble_eq_true rfl, Nat.le_of_ble_eq_true rfl⟩) ⟨pw_blind, tw_recv hK hT (fx_1 hX) (by decide) cl_e11 rfl, pw_use hT hK hFc hS hM⟩ rfl rfl hl.1 rfl (lv_room (Nat.le_of_ble_eq_true rfl)) dX11_quick_5 ⟨Nat.le_of_ble_eq_true rfl, Nat.le_of_ble_eq_true rfl⟩) hS (fun q _ h => hFc q h) hFc (fun r0 r_1 t H locs ht hvm hw hB hz1 hk1 hS => ?_)
  refine W.widen (k := 0) (n := 0) (Nat.le_of_ble_eq_true rfl) (Nat.le_of_ble_eq_true rfl) ?_
  clear hvm hz1 hk1
  subst hw
  rcases hB with ⟨hre, hf_2, hf_3, hT⟩ | ⟨hre, hf_4, hT⟩
  · refine lq_top (v := 1) hre ?_
    rw [ht] at hT
    refine lv_if_eq (tgt := 24) hx hb dX11_quick_8 (by decide) (fun c_5 => absurd c_5 (by decide)) (fun c_5 => ?_)
    refine lv_aload_n hx hb dX11_quick_11 rfl (lv_at hl 0 rfl) ?_
    refine tw_get (D := (dC, dI)) (v := .ref (a 3)) (C := RX11) (T := TX11) (N := 10) hx hb hts (fun _ hh => (List.mem_cons_of_mem _ (List.mem_append_right _ (List.mem_append_left _ hh)))) hown hK hT (fx_0 hX) (by decide) cl_e10 rfl 2 (by decide) (hts (.fieldLink RX11 28 "TypingPool" "floor" "LTypingPool$Floor;") (List.mem_cons_of_mem _ (List.mem_append_left _ (List.mem_of_getElem? (i := 5) rfl)))) (fun _ h9 => h9) rfl dX11_quick_12 ?_
    refine tw_get (D := (dC, dI)) (v := .ref (a 23)) (C := RX3) (T := TX3) (N := 12) hx hb hts (fun _ hh => (List.mem_cons_of_mem _ (List.mem_append_right _ (List.mem_append_right _ (List.mem_append_right _ (List.mem_append_left _ hh)))))) hown hK hT (fx_3 hX) (by decide) cl_e13 rfl 6 (by decide) (hts (.fieldLink RX11 183 "TypingPool$Floor" "worked" "[I") (List.mem_cons_of_mem _ (List.mem_append_left _ (List.mem_of_getElem? (i := 6) rfl)))) (fun _ h9 => h9) rfl dX11_quick_15 ?_
    refine lv_iload_n hx hb dX11_quick_18 rfl (lv_at hl 1 rfl) ?_
    refine tw_iald hx hb hK hT 0 (fx_23 hX) (by decide) cl_e33 rfl (z_in rfl (by omega) (by omega)) dX11_quick_19 ?_
    refine lv_iconst (v := 1) hx hb dX11_quick_20 (by decide) ?_
    refine lv_icmp_ge (tgt := 26) hx hb dX11_quick_21 (by decide) (fun c_6 => ?_) (fun c_6 => ?_)
    · have nc_6 := z_le (zk (x := 1) 1 rfl) rfl c_6
      refine lv_iload_n hx hb dX11_quick_26 rfl (lv_at hl 2 rfl) ?_
      by_cases w_7 : p1 = 0
      · refine lq_top (v := 0) w_7 ?_
        refine lv_lookup (tgt := 52) hx hb dX11_quick_27 (by decide) (off := 25) (by decide) (by decide) ?_
        refine lv_aload_n hx hb dX11_quick_52 rfl (lv_at hl 0 rfl) ?_
        refine tw_get (D := (dC, dI)) (v := .ref (a 3)) (C := RX11) (T := TX11) (N := 10) hx hb hts (fun _ hh => (List.mem_cons_of_mem _ (List.mem_append_right _ (List.mem_append_left _ hh)))) hown hK hT (fx_0 hX) (by decide) cl_e10 rfl 2 (by decide) (hts (.fieldLink RX11 28 "TypingPool" "floor" "LTypingPool$Floor;") (List.mem_cons_of_mem _ (List.mem_append_left _ (List.mem_of_getElem? (i := 5) rfl)))) (fun _ h9 => h9) rfl dX11_quick_53 ?_
        refine lv_iload_n hx hb dX11_quick_56 rfl (lv_at hl 1 rfl) ?_
        have hFc := tw_free hF hS hA
        refine va_calli (va_runV (As := [.int p0]) (rest := []) ⟨hx, hb, hml, hown, hts⟩ (c_linesDoneBy l dC dI ad av H.size a k τ ln y g u p0 hI ) (cwV 1 hts (gi_4 (List.mem_cons_of_mem _ (List.mem_append_left _ (List.mem_of_getElem? (i := 7) rfl))) (List.mem_cons_of_mem _ (List.mem_append_left _ (List.mem_of_getElem? (i := 8) rfl))) (List.mem_cons_of_mem _ (List.mem_append_left _ (List.mem_of_getElem? (i := 9) rfl))) (List.mem_cons_of_mem _ (List.mem_append_left _ (List.mem_of_getElem? (i := 10) rfl))) (fun _ hh => (List.mem_cons_of_mem _ (List.mem_append_right _ (List.mem_append_right _ (List.mem_append_right _ (List.mem_append_right _ (List.mem_append_left _ hh))))))) gd_c_linesDoneBy) rfl rfl rfl (by decide +kernel) ⟨Nat.le_of_ble_eq_true rfl, Nat.le_of_ble_eq_true rfl⟩) ⟨pw_blind, tw_recv hK hT (fx_3 hX) (by decide) cl_e13 rfl, pw_use hT hK hFc hS hM⟩ rfl rfl hl.1 rfl (lv_room (Nat.le_of_ble_eq_true rfl)) dX11_quick_57 ⟨Nat.le_of_ble_eq_true rfl, Nat.le_of_ble_eq_true rfl⟩) hS (fun q _ h => hFc q h) hFc (fun r0 r_8 t H locs ht hvm hw hB hz1 hk1 hS => ?_)
        refine W.widen (k := 0) (n := 0) (Nat.le_of_ble_eq_true rfl) (Nat.le_of_ble_eq_true rfl) ?_
        clear hvm hz1 hk1
        subst hw
        have hT := hB
        rw [ht] at hT
        refine lv_bipush (v := 60) hx hb dX11_quick_60 (by decide) ?_
        refine lv_imul hx hb dX11_quick_62 ?_
        refine lv_topi (fun x_9 ex_9 => ?_)
        refine lv_aload_n hx hb dX11_quick_63 rfl (lv_at hl 0 rfl) ?_
        refine tw_get (D := (dC, dI)) (v := .ref (a 3)) (C := RX11) (T := TX11) (N := 10) hx hb hts (fun _ hh => (List.mem_cons_of_mem _ (List.mem_append_right _ (List.mem_append_left _ hh)))) hown hK hT (fx_0 hX) (by decide) cl_e10 rfl 2 (by decide) (hts (.fieldLink RX11 28 "TypingPool" "floor" "LTypingPool$Floor;") (List.mem_cons_of_mem _ (List.mem_append_left _ (List.mem_of_getElem? (i := 5) rfl)))) (fun _ h9 => h9) rfl dX11_quick_64 ?_
        refine tw_get (D := (dC, dI)) (v := .ref (a 23)) (C := RX3) (T := TX3) (N := 12) hx hb hts (fun _ hh => (List.mem_cons_of_mem _ (List.mem_append_right _ (List.mem_append_right _ (List.mem_append_right _ (List.mem_append_left _ hh)))))) hown hK hT (fx_3 hX) (by decide) cl_e13 rfl 6 (by decide) (hts (.fieldLink RX11 183 "TypingPool$Floor" "worked" "[I") (List.mem_cons_of_mem _ (List.mem_append_left _ (List.mem_of_getElem? (i := 6) rfl)))) (fun _ h9 => h9) rfl dX11_quick_67 ?_
        refine lv_iload_n hx hb dX11_quick_70 rfl (lv_at hl 1 rfl) ?_
        refine tw_iald hx hb hK hT 0 (fx_23 hX) (by decide) cl_e33 rfl (z_in rfl (by omega) (by omega)) dX11_quick_71 ?_
        refine lv_idiv hx hb dX11_quick_72 (z_n0 rfl (by omega)) ?_
        refine lv_topi (fun x_10 ex_10 => ?_)
        exact W.iret (v := x_10) hx hb hr (fun t ht hW9 => ⟨⟨x_10, x_10, rfl, rfl, ⟨u, fun _ _ => rfl, ⟨τ, ln, y, g, hMo, hKM, hI, tw_at ht hT⟩⟩⟩, hS.F ht⟩) hS.2.2 dX11_quick_73
      by_cases w_11 : p1 = 1
      · refine lq_top (v := 1) w_11 ?_
        refine lv_lookup (tgt := 74) hx hb dX11_quick_27 (by decide) (off := 47) (by decide) (by decide) ?_
        refine lv_aload_n hx hb dX11_quick_74 rfl (lv_at hl 0 rfl) ?_
        refine tw_get (D := (dC, dI)) (v := .ref (a 3)) (C := RX11) (T := TX11) (N := 10) hx hb hts (fun _ hh => (List.mem_cons_of_mem _ (List.mem_append_right _ (List.mem_append_left _ hh)))) hown hK hT (fx_0 hX) (by decide) cl_e10 rfl 2 (by decide) (hts (.fieldLink RX11 28 "TypingPool" "floor" "LTypingPool$Floor;") (List.mem_cons_of_mem _ (List.mem_append_left _ (List.mem_of_getElem? (i := 5) rfl)))) (fun _ h9 => h9) rfl dX11_quick_75 ?_
        refine lv_iload_n hx hb dX11_quick_78 rfl (lv_at hl 1 rfl) ?_
        have hFc := tw_free hF hS hA
        refine va_calli (va_runV (As := [.int p0]) (rest := []) ⟨hx, hb, hml, hown, hts⟩ (c_plainMinutesOf l dC dI ad av H.size a k τ ln y g u p0 hI ) (cwV 1 hts (gi_4 (List.mem_cons_of_mem _ (List.mem_append_left _ (List.mem_of_getElem? (i := 11) rfl))) (List.mem_cons_of_mem _ (List.mem_append_left _ (List.mem_of_getElem? (i := 12) rfl))) (List.mem_cons_of_mem _ (List.mem_append_left _ (List.mem_of_getElem? (i := 13) rfl))) (List.mem_cons_of_mem _ (List.mem_append_left _ (List.mem_of_getElem? (i := 10) rfl))) (fun _ hh => (List.mem_cons_of_mem _ (List.mem_append_right _ (List.mem_append_right _ (List.mem_append_right _ (List.mem_append_right _ (List.mem_append_right _ (List.mem_append_left _ hh)))))))) gd_c_plainMinutesOf) rfl rfl rfl (by decide +kernel) ⟨Nat.le_of_ble_eq_true rfl, Nat.le_of_ble_eq_true rfl⟩) ⟨pw_blind, tw_recv hK hT (fx_3 hX) (by decide) cl_e13 rfl, pw_use hT hK hFc hS hM⟩ rfl rfl hl.1 rfl (lv_room (Nat.le_of_ble_eq_true rfl)) dX11_quick_79 ⟨Nat.le_of_ble_eq_true rfl, Nat.le_of_ble_eq_true rfl⟩) hS (fun q _ h => hFc q h) hFc (fun r0 r_12 t H locs ht hvm hw hB hz1 hk1 hS => ?_)
        refine W.widen (k := 0) (n := 0) (Nat.le_of_ble_eq_true rfl) (Nat.le_of_ble_eq_true rfl) ?_
        clear hvm hz1 hk1
        subst hw
        have hT := hB
        rw [ht] at hT
        refine lv_sipush (v := 1000) hx hb dX11_quick_82 (by decide) ?_
        refine lv_imul hx hb dX11_quick_85 ?_
        refine lv_topi (fun x_13 ex_13 => ?_)
        refine lv_aload_n hx hb dX11_quick_86 rfl (lv_at hl 0 rfl) ?_
        refine tw_get (D := (dC, dI)) (v := .ref (a 3)) (C := RX11) (T := TX11) (N := 10) hx hb hts (fun _ hh => (List.mem_cons_of_mem _ (List.mem_append_right _ (List.mem_append_left _ hh)))) hown hK hT (fx_0 hX) (by decide) cl_e10 rfl 2 (by decide) (hts (.fieldLink RX11 28 "TypingPool" "floor" "LTypingPool$Floor;") (List.mem_cons_of_mem _ (List.mem_append_left _ (List.mem_of_getElem? (i := 5) rfl)))) (fun _ h9 => h9) rfl dX11_quick_87 ?_
        refine tw_get (D := (dC, dI)) (v := .ref (a 23)) (C := RX3) (T := TX3) (N := 12) hx hb hts (fun _ hh => (List.mem_cons_of_mem _ (List.mem_append_right _ (List.mem_append_right _ (List.mem_append_right _ (List.mem_append_left _ hh)))))) hown hK hT (fx_3 hX) (by decide) cl_e13 rfl 6 (by decide) (hts (.fieldLink RX11 183 "TypingPool$Floor" "worked" "[I") (List.mem_cons_of_mem _ (List.mem_append_left _ (List.mem_of_getElem? (i := 6) rfl)))) (fun _ h9 => h9) rfl dX11_quick_90 ?_
        refine lv_iload_n hx hb dX11_quick_93 rfl (lv_at hl 1 rfl) ?_
        refine tw_iald hx hb hK hT 0 (fx_23 hX) (by decide) cl_e33 rfl (z_in rfl (by omega) (by omega)) dX11_quick_94 ?_
        refine lv_idiv hx hb dX11_quick_95 (z_n0 rfl (by omega)) ?_
        refine lv_topi (fun x_14 ex_14 => ?_)
        exact W.iret (v := x_14) hx hb hr (fun t ht hW9 => ⟨⟨x_14, x_14, rfl, rfl, ⟨u, fun _ _ => rfl, ⟨τ, ln, y, g, hMo, hKM, hI, tw_at ht hT⟩⟩⟩, hS.F ht⟩) hS.2.2 dX11_quick_96
      refine lv_lookup (tgt := 97) hx hb dX11_quick_27 (by decide) (off := 70) ((lv_osw w_7 rfl).trans ((lv_osw w_11 rfl).trans (rfl))) (by decide) ?_
      refine lv_iconst (v := (-1)) hx hb dX11_quick_97 (by decide) ?_
      exact W.iret (v := (-1)) hx hb hr (fun t ht hW9 => ⟨⟨(-1), (-1), rfl, rfl, ⟨u, fun _ _ => rfl, ⟨τ, ln, y, g, hMo, hKM, hI, tw_at ht hT⟩⟩⟩, hS.F ht⟩) hS.2.2 dX11_quick_98
    · have nc_6 := z_nle (zk (x := 1) 1 rfl) rfl c_6
      refine lv_iconst (v := (-1)) hx hb dX11_quick_24 (by decide) ?_
      exact W.iret (v := (-1)) hx hb hr (fun t ht hW9 => ⟨⟨(-1), (-1), rfl, rfl, ⟨u, fun _ _ => rfl, ⟨τ, ln, y, g, hMo, hKM, hI, tw_at ht hT⟩⟩⟩, hS.F ht⟩) hS.2.2 dX11_quick_25
  · refine lq_top (v := 0) hre ?_
    rw [ht] at hT
    refine lv_if_eq (tgt := 24) hx hb dX11_quick_8 (by decide) (fun c_15 => ?_) (fun c_15 => absurd c_15 (by decide))
    refine lv_iconst (v := (-1)) hx hb dX11_quick_24 (by decide) ?_
    exact W.iret (v := (-1)) hx hb hr (fun t ht hW9 => ⟨⟨(-1), (-1), rfl, rfl, ⟨u, fun _ _ => rfl, ⟨τ, ln, y, g, hMo, hKM, hI, tw_at ht hT⟩⟩⟩, hS.F ht⟩) hS.2.2 dX11_quick_25
def wo_c_claims : List Cond := [.methodLink RX11 68 yX11_within, .static yX11_within, .initialized RX11, .fieldLink RX11 10 "TypingPool" "book" "LTypingPool$Book;", .fieldLink RX11 112 "TypingPool$Book" "pieceCount" "I", .fieldLink RX11 145 "TypingPool$Book" "pieces" "[LTypingPool$Piece;", .fieldLink RX11 118 "TypingPool$Piece" "department" "I", .fieldLink RX11 28 "TypingPool" "floor" "LTypingPool$Floor;", .methodLink RX11 303 yX3_countsFor, .instanceMethod yX3_countsFor, .selects RX3 yX3_countsFor yX3_countsFor, .initialized RX3, .methodLink RX11 300 yX3_waitedIn, .instanceMethod yX3_waitedIn, .selects RX3 yX3_waitedIn yX3_waitedIn]
def wm_c_claims : List Cond := .code yX11_claims cX11_claims 5 (some .int) :: (wo_c_claims ++ (wm_c_within ++ (wsX110 ++ (wsX10 ++ (wsX60 ++ (wm_c_countsFor ++ (wm_c_waitedIn ++ ([] : List Cond))))))))
theorem gd_c_claims : ∀ w ∈ wm_c_claims, goodWord w = true := gd_c rfl (gd_a (by decide) (gd_a gd_c_within (gd_a gd_wsX110 (gd_a gd_wsX10 (gd_a gd_wsX60 (gd_a gd_c_countsFor (gd_a gd_c_waitedIn gd_nil)))))))
set_option maxRecDepth 20000 in
theorem im_c_claims : ∀ w ∈ wm_c_claims, w ∈ lw_tbl := im_c (in_r [.code yX11_claims cX11_claims 5 (some .int)] [1006] (by decide +kernel)) (in_app (in_r wo_c_claims [594, 595, 70, 559, 133, 127, 666, 561, 1011, 1012, 1013, 83, 1007, 1008, 1009] (by decide +kernel)) (in_app im_c_within (in_app im_wsX110 (in_app im_wsX10 (in_app im_wsX60 (in_app im_c_countsFor (in_app im_c_waitedIn im_nil)))))))
set_option maxHeartbeats 4000000 in
set_option maxRecDepth 100000 in
theorem c_claims (l : Launch) (dC : Nat → ClassId) (dI : Nat → Nat → Nat) (ad av : Nat → Nat) (sz : Nat) (a : Nat → Nat) (k : Nat → ClassId) (τ ln : Nat → Nat) (y : Nat → Nat → Int32) (g : Nat → Nat → Option Nat) (u : Nat → Int) (p0 : Int32) (p1 : Int32) (hI : IC a u τ ln y g) : Met l yX11_claims wm_c_claims ({ frames := 5, cells := 0, slots := 0, locals := 260 }) (pw_ ad av (dC, dI) sz [.ref (a 0), .int p0, .int p1] a k τ ln y g) (va_Qi (fun (r u : Int32) => u = r) (fun (r : Int32) (t : State) => (∃ (u' : Nat → Int), (∀ i, i ∉ ([] : List Nat) → u' i = u i) ∧ pq (dC, dI) a k τ y g u' sz t.heap)) (fr τ sz)) 0 0 (fr τ sz) := by
  refine Met.ofW (cc := cX11_claims) (maxL := 5) (ret := (some .int)) (by decide) rfl ?_
  intro p e s m args below meth c s₁ B hml hv
  obtain ⟨rfl, hsz, hT, hK, hM⟩ := hv
  have hx := B.exec
  have hb := B.bytes
  have hr := B.returns
  have hts := atoms_spec (ws := wm_c_claims) B.pre
  have hown : s.vm.findClass RX11 = some m.cls := findClass_of_methodNamed B.named
  have hlocks := B.notSynchronized
  subst hsz
  generalize hAe : fr τ s.heap.size = A at hM ⊢
  have hA : ∀ q : Nat, s.heap.size ≤ q → A q := fun q h => by rw [← hAe]; exact Or.inr h
  have hF : ∀ q, τ q ≠ 0 → A q := fun q h => by rw [← hAe]; exact Or.inl h
  have hS : va_S A s.heap s.heap [] := va_S.rf
  have hX := hI.1
  have hR := ic_r hI
  have hMo : mono τ τ s.heap.size := mono.rf
  have hKM : kpM τ y g y g := kpM.rf
  have hl := lv_entry ([.ref (a 0), .int p0, .int p1]) (n := 5) (Nat.le_of_ble_eq_true rfl)
  rw [lg_entry_eq]
  generalize (lg_sl ([.ref (a 0), .int p0, .int p1]) ++ List.replicate (5 - (lg_sl ([.ref (a 0), .int p0, .int p1])).length) Slot.unset).toArray = ls at hl ⊢
  have hl : lv_has ls 5 [(0, .ref (a 0)), (1, .int p0), (2, .int p1)] := hl
  refine lv_iload_n hx hb dX11_claims_0 rfl (lv_at hl 1 rfl) ?_
  refine lv_iconst (v := 0) hx hb dX11_claims_1 (by decide) ?_
  refine lv_bipush (v := 7) hx hb dX11_claims_2 (by decide) ?_
  have hFc := tw_free hF hS hA
  have hp_1 : (0 : Int32).toInt = 0 := (zk (x := 0) 0 rfl)
  have hp_2 : (7 : Int32).toInt = 7 := (zk (x := 7) 7 rfl)
  refine va_calli (va_runS (As := [.int p0, .int 0, .int 7]) (rest := []) ⟨hx, hb, hml, hown, hts⟩ (c_within l dC dI ad av s.heap.size a k τ ln y g u p0 (0 : Int32) (7 : Int32)  ) (va_cwS 3 hts (gi_3 (List.mem_cons_of_mem _ (List.mem_append_left _ (List.mem_of_getElem? (i := 0) rfl))) (List.mem_cons_of_mem _ (List.mem_append_left _ (List.mem_of_getElem? (i := 1) rfl))) (List.mem_cons_of_mem _ (List.mem_append_left _ (List.mem_of_getElem? (i := 2) rfl))) (fun _ hh => (List.mem_cons_of_mem _ (List.mem_append_right _ (List.mem_append_left _ hh)))) gd_c_within) rfl rfl rfl (by decide +kernel) ⟨Nat.le_of_ble_eq_true rfl, Nat.le_of_ble_eq_true rfl⟩) ⟨pw_blind, pw_use hT hK hFc hS hM⟩ rfl rfl hl.1 rfl (lv_room (Nat.le_of_ble_eq_true rfl)) dX11_claims_4 ⟨Nat.le_of_ble_eq_true rfl, Nat.le_of_ble_eq_true rfl⟩) hS (fun q _ h => hFc q h) hFc (fun r0 r_3 t H locs ht hvm hw hB hz1 hk1 hS => ?_)
  refine W.widen (k := 0) (n := 0) (Nat.le_of_ble_eq_true rfl) (Nat.le_of_ble_eq_true rfl) ?_
  clear hvm hz1 hk1
  subst hw
  rcases hB with ⟨hre, hf_4, hf_5, hT⟩ | ⟨hre, hf_6, hT⟩
  · refine lq_top (v := 1) hre ?_
    rw [ht] at hT
    try simp only [hp_1, hp_2] at hf_4 hf_5
    clear hp_1 hp_2
    refine lv_if_eq (tgt := 19) hx hb dX11_claims_7 (by decide) (fun c_7 => absurd c_7 (by decide)) (fun c_7 => ?_)
    refine lv_iload_n hx hb dX11_claims_10 rfl (lv_at hl 2 rfl) ?_
    refine lv_iconst (v := 0) hx hb dX11_claims_11 (by decide) ?_
    refine lv_iconst (v := 4) hx hb dX11_claims_12 (by decide) ?_
    have hFc := tw_free hF hS hA
    have hp_8 : (0 : Int32).toInt = 0 := (zk (x := 0) 0 rfl)
    have hp_9 : (4 : Int32).toInt = 4 := (zk (x := 4) 4 rfl)
    refine va_calli (va_runS (As := [.int p1, .int 0, .int 4]) (rest := []) ⟨hx, hb, hml, hown, hts⟩ (c_within l dC dI ad av H.size a k τ ln y g u p1 (0 : Int32) (4 : Int32)  ) (va_cwS 3 hts (gi_3 (List.mem_cons_of_mem _ (List.mem_append_left _ (List.mem_of_getElem? (i := 0) rfl))) (List.mem_cons_of_mem _ (List.mem_append_left _ (List.mem_of_getElem? (i := 1) rfl))) (List.mem_cons_of_mem _ (List.mem_append_left _ (List.mem_of_getElem? (i := 2) rfl))) (fun _ hh => (List.mem_cons_of_mem _ (List.mem_append_right _ (List.mem_append_left _ hh)))) gd_c_within) rfl rfl rfl (by decide +kernel) ⟨Nat.le_of_ble_eq_true rfl, Nat.le_of_ble_eq_true rfl⟩) ⟨pw_blind, pw_use hT hK hFc hS hM⟩ rfl rfl hl.1 rfl (lv_room (Nat.le_of_ble_eq_true rfl)) dX11_claims_13 ⟨Nat.le_of_ble_eq_true rfl, Nat.le_of_ble_eq_true rfl⟩) hS (fun q _ h => hFc q h) hFc (fun r0 r_10 t H locs ht hvm hw hB hz1 hk1 hS => ?_)
    refine W.widen (k := 0) (n := 0) (Nat.le_of_ble_eq_true rfl) (Nat.le_of_ble_eq_true rfl) ?_
    clear hvm hz1 hk1
    subst hw
    rcases hB with ⟨hre, hf_11, hf_12, hT⟩ | ⟨hre, hf_13, hT⟩
    · refine lq_top (v := 1) hre ?_
      rw [ht] at hT
      try simp only [hp_8, hp_9] at hf_11 hf_12
      clear hp_8 hp_9
      refine lv_if_ne (tgt := 21) hx hb dX11_claims_16 (by decide) (fun c_14 => ?_) (fun c_14 => absurd c_14 (by decide))
      refine lv_iload_n hx hb dX11_claims_21 rfl (lv_at hl 2 rfl) ?_
      refine lv_if_ne (tgt := 34) hx hb dX11_claims_22 (by decide) (fun c_15 => ?_) (fun c_15 => ?_)
      · have nc_15 := z_ne rfl (zk (x := 0) 0 rfl) c_15
        refine lv_iconst (v := 0) hx hb dX11_claims_34 (by decide) ?_
        refine lv_istore_n (lv' := [(3, .int 0), (0, .ref (a 0)), (1, .int p0), (2, .int p1)]) hx hb dX11_claims_35 rfl hl (by decide) rfl (fun ls hl => ?_)
        refine lv_iconst (v := 0) hx hb dX11_claims_36 (by decide) ?_
        refine lv_istore (lv' := [(4, .int 0), (3, .int 0), (0, .ref (a 0)), (1, .int p0), (2, .int p1)]) hx hb dX11_claims_37 hl (by decide) rfl (fun ls hl => ?_)
        have loop_39 : ∀ (n : Nat) (w3 : Int32) (i4 : Int32) (y_L39 : Nat → Nat → Int32) (H : Heap) (locs : List Loc) (ls : Array Slot), (u 2 - i4.toInt).toNat < n → kpM τ y g y_L39 g → IC a u τ ln y_L39 g → 0 ≤ i4.toInt → i4.toInt ≤ u 2 → tw (dC, dI) a k τ ln y_L39 g H → va_S A s.heap H locs → lv_has ls 5 [(0, .ref (a 0)), (1, .int p0), (2, .int p1), (3, .int w3), (4, .int i4)] → W p l e (headSpec wm_c_claims ({ frames := 5, cells := 0, slots := 0, locals := 260 })).room s m ([.ref (a 0), .int p0, .int p1] : List Value).toArray below meth c H locs 0 0 (MQ below (va_Qi (fun (r u : Int32) => u = r) (fun (r : Int32) (t : State) => (∃ (u' : Nat → Int), (∀ i, i ∉ ([] : List Nat) → u' i = u i) ∧ pq (dC, dI) a k τ y g u' s.heap.size t.heap)) A) ([.ref (a 0), .int p0, .int p1] : List Value).toArray s 0 0 A) (F0 m 39 ls []) := by
          intro n
          induction n with
          | zero => intro w3 i4 y_L39 H locs ls hlt; exact absurd hlt (Nat.not_lt_zero _)
          | succ n ih_39 =>
            intro w3 i4 y_L39 H locs ls hlt hKM hI hi39_0 hi39_1 hT hS hl
            refine lv_iload hx hb dX11_claims_39 (lv_at hl 4 rfl) ?_
            refine lv_aload_n hx hb dX11_claims_41 rfl (lv_at hl 0 rfl) ?_
            refine tw_get (D := (dC, dI)) (v := .ref (a 1)) (C := RX11) (T := TX11) (N := 10) hx hb hts (fun _ hh => (List.mem_cons_of_mem _ (List.mem_append_right _ (List.mem_append_right _ (List.mem_append_left _ hh))))) hown hK hT (fx_0 hX) (by decide) cl_e10 rfl 0 (by decide) (hts (.fieldLink RX11 10 "TypingPool" "book" "LTypingPool$Book;") (List.mem_cons_of_mem _ (List.mem_append_left _ (List.mem_of_getElem? (i := 3) rfl)))) (fun _ h9 => h9) rfl dX11_claims_42 ?_
            refine tw_get (D := (dC, dI)) (v := .int (y_L39 (a 1) 5)) (C := RX1) (T := TX1) (N := 8) hx hb hts (fun _ hh => (List.mem_cons_of_mem _ (List.mem_append_right _ (List.mem_append_right _ (List.mem_append_right _ (List.mem_append_left _ hh)))))) hown hK hT (fx_1 hX) (by decide) cl_e11 rfl 5 (by decide) (hts (.fieldLink RX11 112 "TypingPool$Book" "pieceCount" "I") (List.mem_cons_of_mem _ (List.mem_append_left _ (List.mem_of_getElem? (i := 4) rfl)))) (fun _ h9 => h9) rfl dX11_claims_45 ?_
            have hc_16 := ic_2 hI
            refine lv_icmp_ge (tgt := 87) hx hb dX11_claims_48 (by decide) (fun c_17 => ?_) (fun c_17 => ?_)
            · have nc_17 := z_le hc_16 rfl c_17
              refine lv_iload_n hx hb dX11_claims_87 rfl (lv_at hl 3 rfl) ?_
              exact W.iret (v := w3) hx hb hr (fun t ht hW9 => ⟨⟨w3, w3, rfl, rfl, ⟨u, fun _ _ => rfl, ⟨τ, ln, y_L39, g, hMo, hKM, hI, tw_at ht hT⟩⟩⟩, hS.F ht⟩) hS.2.2 dX11_claims_88
            · have nc_17 := z_nle hc_16 rfl c_17
              refine lv_aload_n hx hb dX11_claims_51 rfl (lv_at hl 0 rfl) ?_
              refine tw_get (D := (dC, dI)) (v := .ref (a 1)) (C := RX11) (T := TX11) (N := 10) hx hb hts (fun _ hh => (List.mem_cons_of_mem _ (List.mem_append_right _ (List.mem_append_right _ (List.mem_append_left _ hh))))) hown hK hT (fx_0 hX) (by decide) cl_e10 rfl 0 (by decide) (hts (.fieldLink RX11 10 "TypingPool" "book" "LTypingPool$Book;") (List.mem_cons_of_mem _ (List.mem_append_left _ (List.mem_of_getElem? (i := 3) rfl)))) (fun _ h9 => h9) rfl dX11_claims_52 ?_
              refine tw_get (D := (dC, dI)) (v := .ref (a 11)) (C := RX1) (T := TX1) (N := 8) hx hb hts (fun _ hh => (List.mem_cons_of_mem _ (List.mem_append_right _ (List.mem_append_right _ (List.mem_append_right _ (List.mem_append_left _ hh)))))) hown hK hT (fx_1 hX) (by decide) cl_e11 rfl 4 (by decide) (hts (.fieldLink RX11 145 "TypingPool$Book" "pieces" "[LTypingPool$Piece;") (List.mem_cons_of_mem _ (List.mem_append_left _ (List.mem_of_getElem? (i := 5) rfl)))) (fun _ h9 => h9) rfl dX11_claims_55 ?_
              refine lv_iload hx hb dX11_claims_58 (lv_at hl 4 rfl) ?_
              refine tw_aald hx hb hK hT 4 (fx_11 hX) (by decide) cl_e21 rfl (z_in rfl (by omega) (by omega)) dX11_claims_60 ?_
              obtain ⟨q_18, hgq_18, htq_18⟩ := ic_l11 hI (x := i4) rfl (by omega) (by omega)
              refine lq_topr hgq_18 ?_
              refine tw_get (D := (dC, dI)) (v := .int (y_L39 q_18 0)) (C := RX6) (T := TX6) (N := 11) hx hb hts (fun _ hh => (List.mem_cons_of_mem _ (List.mem_append_right _ (List.mem_append_right _ (List.mem_append_right _ (List.mem_append_right _ (List.mem_append_left _ hh))))))) hown hK hT htq_18 (by decide) cl_e2 rfl 0 (by decide) (hts (.fieldLink RX11 118 "TypingPool$Piece" "department" "I") (List.mem_cons_of_mem _ (List.mem_append_left _ (List.mem_of_getElem? (i := 6) rfl)))) (fun _ h9 => h9) rfl dX11_claims_61 ?_
              refine lv_iload_n hx hb dX11_claims_64 rfl (lv_at hl 1 rfl) ?_
              refine lv_icmp_ne (tgt := 81) hx hb dX11_claims_65 (by decide) (fun c_19 => ?_) (fun c_19 => ?_)
              · have nc_19 := z_ne rfl rfl c_19
                obtain ⟨x_20, ex_20⟩ : ∃ y : Int32, y = i4 + Int32.ofInt 1 := ⟨_, rfl⟩
                have hx_20 := z_add ex_20 rfl (zk (x := Int32.ofInt 1) 1 rfl) (by omega) (by omega)
                refine lv_iinc (v := x_20) (lv' := [(4, .int x_20), (0, .ref (a 0)), (1, .int p0), (2, .int p1), (3, .int w3)]) hx hb dX11_claims_81 hl (k := 4) rfl ex_20.symm (by decide) rfl (fun ls hl => ?_)
                refine lv_goto (tgt := 39) hx hb dX11_claims_84 (by decide) ?_
                exact ih_39  w3 x_20 y_L39 H _ ls (by omega) hKM hI (by omega) (by omega) hT hS (lv_sub hl [1, 2, 3, 4, 0] rfl)
              · have nc_19 := z_eq rfl rfl c_19
                refine lv_iload_n hx hb dX11_claims_68 rfl (lv_at hl 3 rfl) ?_
                refine lv_aload_n hx hb dX11_claims_69 rfl (lv_at hl 0 rfl) ?_
                refine tw_get (D := (dC, dI)) (v := .ref (a 3)) (C := RX11) (T := TX11) (N := 10) hx hb hts (fun _ hh => (List.mem_cons_of_mem _ (List.mem_append_right _ (List.mem_append_right _ (List.mem_append_left _ hh))))) hown hK hT (fx_0 hX) (by decide) cl_e10 rfl 2 (by decide) (hts (.fieldLink RX11 28 "TypingPool" "floor" "LTypingPool$Floor;") (List.mem_cons_of_mem _ (List.mem_append_left _ (List.mem_of_getElem? (i := 7) rfl)))) (fun _ h9 => h9) rfl dX11_claims_70 ?_
                refine lv_iload hx hb dX11_claims_73 (lv_at hl 4 rfl) ?_
                refine lv_iload_n hx hb dX11_claims_75 rfl (lv_at hl 2 rfl) ?_
                have hFc := tw_free hF hS hA
                refine va_calli (va_runV (As := [.int i4, .int p1]) (rest := [.int w3]) ⟨hx, hb, hml, hown, hts⟩ (c_countsFor l dC dI ad av H.size a k τ ln y_L39 g u i4 p1 hI (by omega) (by omega)) (cwV 2 hts (gi_4 (List.mem_cons_of_mem _ (List.mem_append_left _ (List.mem_of_getElem? (i := 8) rfl))) (List.mem_cons_of_mem _ (List.mem_append_left _ (List.mem_of_getElem? (i := 9) rfl))) (List.mem_cons_of_mem _ (List.mem_append_left _ (List.mem_of_getElem? (i := 10) rfl))) (List.mem_cons_of_mem _ (List.mem_append_left _ (List.mem_of_getElem? (i := 11) rfl))) (fun _ hh => (List.mem_cons_of_mem _ (List.mem_append_right _ (List.mem_append_right _ (List.mem_append_right _ (List.mem_append_right _ (List.mem_append_right _ (List.mem_append_left _ hh)))))))) gd_c_countsFor) rfl rfl rfl (by decide +kernel) ⟨Nat.le_of_ble_eq_true rfl, Nat.le_of_ble_eq_true rfl⟩) ⟨pw_blind, tw_recv hK hT (fx_3 hX) (by decide) cl_e13 rfl, pw_use hT hK hFc hS hM⟩ rfl rfl hl.1 rfl (lv_room (Nat.le_of_ble_eq_true rfl)) dX11_claims_76 ⟨Nat.le_of_ble_eq_true rfl, Nat.le_of_ble_eq_true rfl⟩) hS (fun q _ h => hFc q h) hFc (fun r0 r_21 t H locs ht hvm hw hB hz1 hk1 hS => ?_)
                refine W.widen (k := 0) (n := 0) (Nat.le_of_ble_eq_true rfl) (Nat.le_of_ble_eq_true rfl) ?_
                clear hvm hz1 hk1
                subst hw
                have hT := hB
                rw [ht] at hT
                refine lv_iadd hx hb dX11_claims_79 ?_
                refine lv_topi (fun x_22 ex_22 => ?_)
                refine lv_istore_n (lv' := [(3, .int x_22), (0, .ref (a 0)), (1, .int p0), (2, .int p1), (4, .int i4)]) hx hb dX11_claims_80 rfl hl (by decide) rfl (fun ls hl => ?_)
                obtain ⟨x_23, ex_23⟩ : ∃ y : Int32, y = i4 + Int32.ofInt 1 := ⟨_, rfl⟩
                have hx_23 := z_add ex_23 rfl (zk (x := Int32.ofInt 1) 1 rfl) (by omega) (by omega)
                refine lv_iinc (v := x_23) (lv' := [(4, .int x_23), (3, .int x_22), (0, .ref (a 0)), (1, .int p0), (2, .int p1)]) hx hb dX11_claims_81 hl (k := 4) rfl ex_23.symm (by decide) rfl (fun ls hl => ?_)
                refine lv_goto (tgt := 39) hx hb dX11_claims_84 (by decide) ?_
                exact ih_39  x_22 x_23 y_L39 H _ ls (by omega) hKM hI (by omega) (by omega) hT hS (lv_sub hl [2, 3, 4, 1, 0] rfl)
        have hp_24 : (0 : Int32).toInt = 0 := (zk (x := 0) 0 rfl)
        have hp_25 : (0 : Int32).toInt = 0 := (zk (x := 0) 0 rfl)
        exact loop_39 _ (0 : Int32) (0 : Int32) y H _ ls (Nat.lt_succ_self _) hKM hI (by omega) (by omega) hT hS (lv_sub hl [2, 3, 4, 1, 0] rfl)
      · have nc_15 := z_eq rfl (zk (x := 0) 0 rfl) c_15
        refine lv_aload_n hx hb dX11_claims_25 rfl (lv_at hl 0 rfl) ?_
        refine tw_get (D := (dC, dI)) (v := .ref (a 3)) (C := RX11) (T := TX11) (N := 10) hx hb hts (fun _ hh => (List.mem_cons_of_mem _ (List.mem_append_right _ (List.mem_append_right _ (List.mem_append_left _ hh))))) hown hK hT (fx_0 hX) (by decide) cl_e10 rfl 2 (by decide) (hts (.fieldLink RX11 28 "TypingPool" "floor" "LTypingPool$Floor;") (List.mem_cons_of_mem _ (List.mem_append_left _ (List.mem_of_getElem? (i := 7) rfl)))) (fun _ h9 => h9) rfl dX11_claims_26 ?_
        refine lv_iload_n hx hb dX11_claims_29 rfl (lv_at hl 1 rfl) ?_
        have hFc := tw_free hF hS hA
        refine va_calli (va_runV (As := [.int p0]) (rest := []) ⟨hx, hb, hml, hown, hts⟩ (c_waitedIn l dC dI ad av H.size a k τ ln y g u p0 hI ) (cwV 1 hts (gi_4 (List.mem_cons_of_mem _ (List.mem_append_left _ (List.mem_of_getElem? (i := 12) rfl))) (List.mem_cons_of_mem _ (List.mem_append_left _ (List.mem_of_getElem? (i := 13) rfl))) (List.mem_cons_of_mem _ (List.mem_append_left _ (List.mem_of_getElem? (i := 14) rfl))) (List.mem_cons_of_mem _ (List.mem_append_left _ (List.mem_of_getElem? (i := 11) rfl))) (fun _ hh => (List.mem_cons_of_mem _ (List.mem_append_right _ (List.mem_append_right _ (List.mem_append_right _ (List.mem_append_right _ (List.mem_append_right _ (List.mem_append_right _ (List.mem_append_left _ hh))))))))) gd_c_waitedIn) rfl rfl rfl (by decide +kernel) ⟨Nat.le_of_ble_eq_true rfl, Nat.le_of_ble_eq_true rfl⟩) ⟨pw_blind, tw_recv hK hT (fx_3 hX) (by decide) cl_e13 rfl, pw_use hT hK hFc hS hM⟩ rfl rfl hl.1 rfl (lv_room (Nat.le_of_ble_eq_true rfl)) dX11_claims_30 ⟨Nat.le_of_ble_eq_true rfl, Nat.le_of_ble_eq_true rfl⟩) hS (fun q _ h => hFc q h) hFc (fun r0 r_26 t H locs ht hvm hw hB hz1 hk1 hS => ?_)
        refine W.widen (k := 0) (n := 0) (Nat.le_of_ble_eq_true rfl) (Nat.le_of_ble_eq_true rfl) ?_
        clear hvm hz1 hk1
        subst hw
        have hT := hB
        rw [ht] at hT
        exact W.iret (v := r_26) hx hb hr (fun t ht hW9 => ⟨⟨r_26, r_26, rfl, rfl, ⟨u, fun _ _ => rfl, ⟨τ, ln, y, g, hMo, hKM, hI, tw_at ht hT⟩⟩⟩, hS.F ht⟩) hS.2.2 dX11_claims_33
    · refine lq_top (v := 0) hre ?_
      rw [ht] at hT
      try simp only [hp_8, hp_9] at hf_13
      clear hp_8 hp_9
      refine lv_if_ne (tgt := 21) hx hb dX11_claims_16 (by decide) (fun c_27 => absurd c_27 (by decide)) (fun c_27 => ?_)
      refine lv_iconst (v := (-1)) hx hb dX11_claims_19 (by decide) ?_
      exact W.iret (v := (-1)) hx hb hr (fun t ht hW9 => ⟨⟨(-1), (-1), rfl, rfl, ⟨u, fun _ _ => rfl, ⟨τ, ln, y, g, hMo, hKM, hI, tw_at ht hT⟩⟩⟩, hS.F ht⟩) hS.2.2 dX11_claims_20
  · refine lq_top (v := 0) hre ?_
    rw [ht] at hT
    try simp only [hp_1, hp_2] at hf_6
    clear hp_1 hp_2
    refine lv_if_eq (tgt := 19) hx hb dX11_claims_7 (by decide) (fun c_28 => ?_) (fun c_28 => absurd c_28 (by decide))
    refine lv_iconst (v := (-1)) hx hb dX11_claims_19 (by decide) ?_
    exact W.iret (v := (-1)) hx hb hr (fun t ht hW9 => ⟨⟨(-1), (-1), rfl, rfl, ⟨u, fun _ _ => rfl, ⟨τ, ln, y, g, hMo, hKM, hI, tw_at ht hT⟩⟩⟩, hS.F ht⟩) hS.2.2 dX11_claims_20
def wo_c_addAway : List Cond := [.fieldLink RX1 43 "TypingPool$Book" "awayCount" "I", .fieldLink RX1 39 "TypingPool$Book" "aways" "[LTypingPool$Away;", .fieldLink RX1 46 "TypingPool$Away" "from" "I"]
def wm_c_addAway : List Cond := .code yX1_addAway cX1_addAway 3 none :: (wo_c_addAway ++ (wsX10 ++ (wsX00 ++ ([] : List Cond))))
theorem gd_c_addAway : ∀ w ∈ wm_c_addAway, goodWord w = true := gd_c rfl (gd_a (by decide) (gd_a gd_wsX10 (gd_a gd_wsX00 gd_nil)))
set_option maxRecDepth 20000 in
theorem im_c_addAway : ∀ w ∈ wm_c_addAway, w ∈ lw_tbl := im_c (in_r [.code yX1_addAway cX1_addAway 3 none] [655] (by decide +kernel)) (in_app (in_r wo_c_addAway [136, 135, 642] (by decide +kernel)) (in_app im_wsX10 (in_app im_wsX00 im_nil)))
set_option maxHeartbeats 4000000 in
set_option maxRecDepth 100000 in
theorem c_addAway (l : Launch) (dC : Nat → ClassId) (dI : Nat → Nat → Nat) (ad av : Nat → Nat) (sz : Nat) (a : Nat → Nat) (k : Nat → ClassId) (τ ln : Nat → Nat) (y : Nat → Nat → Int32) (g : Nat → Nat → Option Nat) (u : Nat → Int) (b0 : Nat) (hI : IC a u τ ln y g) (h_b0 : τ b0 = 3) (hcc : u 3 < 30) : Met l yX1_addAway wm_c_addAway ({ frames := 0, cells := 0, slots := 0, locals := 0 }) (pw_ ad av (dC, dI) sz [.ref (a 1), .ref b0] a k τ ln y g) (va_Qv (fun (_ : Unit) => True) (fun (_ : Unit) (t : State) => (∃ (u' : Nat → Int), (∀ i, i ∉ ([3] : List Nat) → u' i = u i) ∧ u' 3 = u 3 + 1 ∧ pq (dC, dI) a k τ y g u' sz t.heap)) (fr τ sz)) 0 0 (fr τ sz) := by
  refine Met.ofW (cc := cX1_addAway) (maxL := 3) (ret := none) (by decide) rfl ?_
  intro p e s m args below meth c s₁ B hml hv
  obtain ⟨rfl, hsz, hT, hK, hM⟩ := hv
  have hx := B.exec
  have hb := B.bytes
  have hr := B.returns
  have hts := atoms_spec (ws := wm_c_addAway) B.pre
  have hown : s.vm.findClass RX1 = some m.cls := findClass_of_methodNamed B.named
  have hlocks := B.notSynchronized
  subst hsz
  generalize hAe : fr τ s.heap.size = A at hM ⊢
  have hA : ∀ q : Nat, s.heap.size ≤ q → A q := fun q h => by rw [← hAe]; exact Or.inr h
  have hF : ∀ q, τ q ≠ 0 → A q := fun q h => by rw [← hAe]; exact Or.inl h
  have hS : va_S A s.heap s.heap [] := va_S.rf
  have hX := hI.1
  have hR := ic_r hI
  have hMo : mono τ τ s.heap.size := mono.rf
  have hKM : kpM τ y g y g := kpM.rf
  have hl := lv_entry ([.ref (a 1), .ref b0]) (n := 3) (Nat.le_of_ble_eq_true rfl)
  rw [lg_entry_eq]
  generalize (lg_sl ([.ref (a 1), .ref b0]) ++ List.replicate (3 - (lg_sl ([.ref (a 1), .ref b0])).length) Slot.unset).toArray = ls at hl ⊢
  have hl : lv_has ls 3 [(0, .ref (a 1)), (1, .ref b0)] := hl
  refine lv_aload_n hx hb dX1_addAway_0 rfl (lv_at hl 0 rfl) ?_
  refine tw_get (D := (dC, dI)) (v := .int (y (a 1) 7)) (C := RX1) (T := TX1) (N := 8) hx hb hts (fun _ hh => (List.mem_cons_of_mem _ (List.mem_append_right _ (List.mem_append_left _ hh)))) hown hK hT (fx_1 hX) (by decide) cl_e11 rfl 7 (by decide) (hts (.fieldLink RX1 43 "TypingPool$Book" "awayCount" "I") (List.mem_cons_of_mem _ (List.mem_append_left _ (List.mem_of_getElem? (i := 0) rfl)))) (fun _ h9 => h9) rfl dX1_addAway_1 ?_
  have hc_1 := ic_3 hI
  refine lv_istore_n (lv' := [(2, .int (y (a 1) 7)), (0, .ref (a 1)), (1, .ref b0)]) hx hb dX1_addAway_4 rfl hl (by decide) rfl (fun ls hl => ?_)
  have loop_5 : ∀ (n : Nat) (i2 : Int32) (y_L5 : Nat → Nat → Int32) (g_L5 : Nat → Nat → Option Nat) (H : Heap) (locs : List Loc) (ls : Array Slot), i2.toInt.toNat < n → kpM τ y g y_L5 g_L5 → IC a u τ ln y_L5 g_L5 → 0 ≤ i2.toInt → i2.toInt ≤ u 3 → (i2.toInt < u 3 → awt τ (g_L5 (a 12)) (u 3)) → tw (dC, dI) a k τ ln y_L5 g_L5 H → va_S A s.heap H locs → lv_has ls 3 [(0, .ref (a 1)), (1, .ref b0), (2, .int i2)] → W p l e (headSpec wm_c_addAway ({ frames := 0, cells := 0, slots := 0, locals := 0 })).room s m ([.ref (a 1), .ref b0] : List Value).toArray below meth c H locs 0 0 (MQ below (va_Qv (fun (_ : Unit) => True) (fun (_ : Unit) (t : State) => (∃ (u' : Nat → Int), (∀ i, i ∉ ([3] : List Nat) → u' i = u i) ∧ u' 3 = u 3 + 1 ∧ pq (dC, dI) a k τ y g u' s.heap.size t.heap)) A) ([.ref (a 1), .ref b0] : List Value).toArray s 0 0 A) (F0 m 5 ls []) := by
    intro n
    induction n with
    | zero => intro i2 y_L5 g_L5 H locs ls hlt; exact absurd hlt (Nat.not_lt_zero _)
    | succ n ih_5 =>
      intro i2 y_L5 g_L5 H locs ls hlt hKM hI hi5_0 hi5_1 hi5_2 hT hS hl
      refine lv_iload_n hx hb dX1_addAway_5 rfl (lv_at hl 2 rfl) ?_
      refine lv_if_le (tgt := 47) hx hb dX1_addAway_6 (by decide) (fun c_2 => ?_) (fun c_2 => ?_)
      · have nc_2 := z_le rfl (zk (x := 0) 0 rfl) c_2
        refine lv_aload_n hx hb dX1_addAway_47 rfl (lv_at hl 0 rfl) ?_
        refine tw_get (D := (dC, dI)) (v := .ref (a 12)) (C := RX1) (T := TX1) (N := 8) hx hb hts (fun _ hh => (List.mem_cons_of_mem _ (List.mem_append_right _ (List.mem_append_left _ hh)))) hown hK hT (fx_1 hX) (by decide) cl_e11 rfl 6 (by decide) (hts (.fieldLink RX1 39 "TypingPool$Book" "aways" "[LTypingPool$Away;") (List.mem_cons_of_mem _ (List.mem_append_left _ (List.mem_of_getElem? (i := 1) rfl)))) (fun _ h9 => h9) rfl dX1_addAway_48 ?_
        refine lv_iload_n hx hb dX1_addAway_51 rfl (lv_at hl 2 rfl) ?_
        refine lv_aload_n hx hb dX1_addAway_52 rfl (lv_at hl 1 rfl) ?_
        refine tw_aast (r := (RX0, TX0, 3)) hx hb hK hT hF hS 5 (fx_12 hX) (by decide) (fun _ => cl_e22) rfl h_b0 (by decide) cl_e3 rfl (z_in rfl (by omega) (by omega)) dX1_addAway_53 (fun H locs hT hS => ?_)
        obtain ⟨g_3, hg_3, hT⟩ : ∃ z : Nat → Nat → Option Nat, z = upg g_L5 (a 12) i2.toNatClampNeg (some b0) ∧ tw (dC, dI) a k τ ln y_L5 z H := ⟨_, rfl, hT⟩
        have hKM : kpM τ y g y_L5 g_3 := by rw [hg_3]; exact hKM.upg hMo (fx_12 hX) (by decide)
        have hI : IC a u τ ln y_L5 g_3 := by rw [hg_3]; exact hI.put12 h_b0
        have hent_4 : g_3 (a 12) i2.toNatClampNeg = some b0 := by rw [hg_3]; exact upg_i
        have haw := aw_step hi5_2 (x := i2) rfl (by omega) (by omega) h_b0
        rw [← hg_3] at haw
        refine lv_aload_n hx hb dX1_addAway_54 rfl (lv_at hl 0 rfl) ?_
        refine lv_dup hx hb dX1_addAway_55 rfl ?_
        refine tw_get (D := (dC, dI)) (v := .int (y_L5 (a 1) 7)) (C := RX1) (T := TX1) (N := 8) hx hb hts (fun _ hh => (List.mem_cons_of_mem _ (List.mem_append_right _ (List.mem_append_left _ hh)))) hown hK hT (fx_1 hX) (by decide) cl_e11 rfl 7 (by decide) (hts (.fieldLink RX1 43 "TypingPool$Book" "awayCount" "I") (List.mem_cons_of_mem _ (List.mem_append_left _ (List.mem_of_getElem? (i := 0) rfl)))) (fun _ h9 => h9) rfl dX1_addAway_56 ?_
        have hc_5 := ic_3 hI
        refine lv_iconst (v := 1) hx hb dX1_addAway_59 (by decide) ?_
        refine lv_iadd hx hb dX1_addAway_60 ?_
        refine lv_topi (fun x_6 ex_6 => ?_)
        have hx_6 := z_add ex_6 hc_5 (zk (x := 1) 1 rfl) (by omega) (by omega)
        refine tw_put (D := (dC, dI)) (x := x_6) (ty := .int) (C := RX1) (T := TX1) (N := 8) hx hb hts (fun _ hh => (List.mem_cons_of_mem _ (List.mem_append_right _ (List.mem_append_left _ hh)))) tyX1 tyX1_ok nmX1 hown hK hT hF hS (fx_1 hX) (by decide) cl_e11 rfl 7 (by decide) (hts (.fieldLink RX1 43 "TypingPool$Book" "awayCount" "I") (List.mem_cons_of_mem _ (List.mem_append_left _ (List.mem_of_getElem? (i := 0) rfl)))) (fun _ h9 => h9) rfl (tyX1_ok 7 (by decide)) rfl rfl (Nat.le_of_ble_eq_true rfl) rfl dX1_addAway_61 (fun H locs hT hS => ?_)
        obtain ⟨y_7, hy_7, hT⟩ : ∃ z : Nat → Nat → Int32, z = up2 y_L5 (a 1) 7 x_6 ∧ tw (dC, dI) a k τ ln z g_3 H := ⟨_, rfl, hT⟩
        have hKM : kpM τ y g y_7 g_3 := by rw [hy_7]; exact hKM.up hMo (fx_1 hX) (by decide)
        have hp_8 : x_6.toInt = x_6.toInt := rfl
        obtain ⟨qe, hge, hqe⟩ := haw
        have hI := hI.cnt3 (by rw [hp_8]; first | done | omega) (by omega) hge hqe
        rw [← hy_7] at hI
        exact W.vret hx hb hr (fun t ht hW9 => ⟨⟨(), rfl, trivial, ⟨(upc u 3 (u 3 + 1)), (by intro i hi; simp only [List.mem_cons, List.not_mem_nil, or_false, not_or] at hi; unfold upc; repeat rw [if_neg (by omega)]), upc_i, ⟨τ, ln, y_7, g_3, hMo, hKM, hI, tw_at ht hT⟩⟩⟩, hS.F ht⟩) hS.2.2 dX1_addAway_64
      · have nc_2 := z_nle rfl (zk (x := 0) 0 rfl) c_2
        refine lv_aload_n hx hb dX1_addAway_9 rfl (lv_at hl 0 rfl) ?_
        refine tw_get (D := (dC, dI)) (v := .ref (a 12)) (C := RX1) (T := TX1) (N := 8) hx hb hts (fun _ hh => (List.mem_cons_of_mem _ (List.mem_append_right _ (List.mem_append_left _ hh)))) hown hK hT (fx_1 hX) (by decide) cl_e11 rfl 6 (by decide) (hts (.fieldLink RX1 39 "TypingPool$Book" "aways" "[LTypingPool$Away;") (List.mem_cons_of_mem _ (List.mem_append_left _ (List.mem_of_getElem? (i := 1) rfl)))) (fun _ h9 => h9) rfl dX1_addAway_10 ?_
        refine lv_iload_n hx hb dX1_addAway_13 rfl (lv_at hl 2 rfl) ?_
        refine lv_iconst (v := 1) hx hb dX1_addAway_14 (by decide) ?_
        refine lv_isub hx hb dX1_addAway_15 ?_
        refine lv_topi (fun x_9 ex_9 => ?_)
        have hx_9 := z_sub ex_9 rfl (zk (x := 1) 1 rfl) (by omega) (by omega)
        refine tw_aald hx hb hK hT 5 (fx_12 hX) (by decide) cl_e22 rfl (z_in rfl (by omega) (by omega)) dX1_addAway_16 ?_
        obtain ⟨q_10, hgq_10, htq_10⟩ := ic_l12 hI (x := x_9) rfl (by omega) (by omega)
        refine lq_topr hgq_10 ?_
        refine tw_get (D := (dC, dI)) (v := .int (y_L5 q_10 1)) (C := RX0) (T := TX0) (N := 3) hx hb hts (fun _ hh => (List.mem_cons_of_mem _ (List.mem_append_right _ (List.mem_append_right _ (List.mem_append_left _ hh))))) hown hK hT htq_10 (by decide) cl_e3 rfl 1 (by decide) (hts (.fieldLink RX1 46 "TypingPool$Away" "from" "I") (List.mem_cons_of_mem _ (List.mem_append_left _ (List.mem_of_getElem? (i := 2) rfl)))) (fun _ h9 => h9) rfl dX1_addAway_17 ?_
        refine lv_aload_n hx hb dX1_addAway_20 rfl (lv_at hl 1 rfl) ?_
        refine tw_get (D := (dC, dI)) (v := .int (y_L5 b0 1)) (C := RX0) (T := TX0) (N := 3) hx hb hts (fun _ hh => (List.mem_cons_of_mem _ (List.mem_append_right _ (List.mem_append_right _ (List.mem_append_left _ hh))))) hown hK hT h_b0 (by decide) cl_e3 rfl 1 (by decide) (hts (.fieldLink RX1 46 "TypingPool$Away" "from" "I") (List.mem_cons_of_mem _ (List.mem_append_left _ (List.mem_of_getElem? (i := 2) rfl)))) (fun _ h9 => h9) rfl dX1_addAway_21 ?_
        refine lv_icmp_le (tgt := 47) hx hb dX1_addAway_24 (by decide) (fun c_11 => ?_) (fun c_11 => ?_)
        · have nc_11 := z_le rfl rfl c_11
          refine lv_aload_n hx hb dX1_addAway_47 rfl (lv_at hl 0 rfl) ?_
          refine tw_get (D := (dC, dI)) (v := .ref (a 12)) (C := RX1) (T := TX1) (N := 8) hx hb hts (fun _ hh => (List.mem_cons_of_mem _ (List.mem_append_right _ (List.mem_append_left _ hh)))) hown hK hT (fx_1 hX) (by decide) cl_e11 rfl 6 (by decide) (hts (.fieldLink RX1 39 "TypingPool$Book" "aways" "[LTypingPool$Away;") (List.mem_cons_of_mem _ (List.mem_append_left _ (List.mem_of_getElem? (i := 1) rfl)))) (fun _ h9 => h9) rfl dX1_addAway_48 ?_
          refine lv_iload_n hx hb dX1_addAway_51 rfl (lv_at hl 2 rfl) ?_
          refine lv_aload_n hx hb dX1_addAway_52 rfl (lv_at hl 1 rfl) ?_
          refine tw_aast (r := (RX0, TX0, 3)) hx hb hK hT hF hS 5 (fx_12 hX) (by decide) (fun _ => cl_e22) rfl h_b0 (by decide) cl_e3 rfl (z_in rfl (by omega) (by omega)) dX1_addAway_53 (fun H locs hT hS => ?_)
          obtain ⟨g_12, hg_12, hT⟩ : ∃ z : Nat → Nat → Option Nat, z = upg g_L5 (a 12) i2.toNatClampNeg (some b0) ∧ tw (dC, dI) a k τ ln y_L5 z H := ⟨_, rfl, hT⟩
          have hKM : kpM τ y g y_L5 g_12 := by rw [hg_12]; exact hKM.upg hMo (fx_12 hX) (by decide)
          have hI : IC a u τ ln y_L5 g_12 := by rw [hg_12]; exact hI.put12 h_b0
          have hent_13 : g_12 (a 12) i2.toNatClampNeg = some b0 := by rw [hg_12]; exact upg_i
          have haw := aw_step hi5_2 (x := i2) rfl (by omega) (by omega) h_b0
          rw [← hg_12] at haw
          refine lv_aload_n hx hb dX1_addAway_54 rfl (lv_at hl 0 rfl) ?_
          refine lv_dup hx hb dX1_addAway_55 rfl ?_
          refine tw_get (D := (dC, dI)) (v := .int (y_L5 (a 1) 7)) (C := RX1) (T := TX1) (N := 8) hx hb hts (fun _ hh => (List.mem_cons_of_mem _ (List.mem_append_right _ (List.mem_append_left _ hh)))) hown hK hT (fx_1 hX) (by decide) cl_e11 rfl 7 (by decide) (hts (.fieldLink RX1 43 "TypingPool$Book" "awayCount" "I") (List.mem_cons_of_mem _ (List.mem_append_left _ (List.mem_of_getElem? (i := 0) rfl)))) (fun _ h9 => h9) rfl dX1_addAway_56 ?_
          have hc_14 := ic_3 hI
          refine lv_iconst (v := 1) hx hb dX1_addAway_59 (by decide) ?_
          refine lv_iadd hx hb dX1_addAway_60 ?_
          refine lv_topi (fun x_15 ex_15 => ?_)
          have hx_15 := z_add ex_15 hc_14 (zk (x := 1) 1 rfl) (by omega) (by omega)
          refine tw_put (D := (dC, dI)) (x := x_15) (ty := .int) (C := RX1) (T := TX1) (N := 8) hx hb hts (fun _ hh => (List.mem_cons_of_mem _ (List.mem_append_right _ (List.mem_append_left _ hh)))) tyX1 tyX1_ok nmX1 hown hK hT hF hS (fx_1 hX) (by decide) cl_e11 rfl 7 (by decide) (hts (.fieldLink RX1 43 "TypingPool$Book" "awayCount" "I") (List.mem_cons_of_mem _ (List.mem_append_left _ (List.mem_of_getElem? (i := 0) rfl)))) (fun _ h9 => h9) rfl (tyX1_ok 7 (by decide)) rfl rfl (Nat.le_of_ble_eq_true rfl) rfl dX1_addAway_61 (fun H locs hT hS => ?_)
          obtain ⟨y_16, hy_16, hT⟩ : ∃ z : Nat → Nat → Int32, z = up2 y_L5 (a 1) 7 x_15 ∧ tw (dC, dI) a k τ ln z g_12 H := ⟨_, rfl, hT⟩
          have hKM : kpM τ y g y_16 g_12 := by rw [hy_16]; exact hKM.up hMo (fx_1 hX) (by decide)
          have hp_17 : x_15.toInt = x_15.toInt := rfl
          obtain ⟨qe, hge, hqe⟩ := haw
          have hI := hI.cnt3 (by rw [hp_17]; first | done | omega) (by omega) hge hqe
          rw [← hy_16] at hI
          exact W.vret hx hb hr (fun t ht hW9 => ⟨⟨(), rfl, trivial, ⟨(upc u 3 (u 3 + 1)), (by intro i hi; simp only [List.mem_cons, List.not_mem_nil, or_false, not_or] at hi; unfold upc; repeat rw [if_neg (by omega)]), upc_i, ⟨τ, ln, y_16, g_12, hMo, hKM, hI, tw_at ht hT⟩⟩⟩, hS.F ht⟩) hS.2.2 dX1_addAway_64
        · have nc_11 := z_nle rfl rfl c_11
          refine lv_aload_n hx hb dX1_addAway_27 rfl (lv_at hl 0 rfl) ?_
          refine tw_get (D := (dC, dI)) (v := .ref (a 12)) (C := RX1) (T := TX1) (N := 8) hx hb hts (fun _ hh => (List.mem_cons_of_mem _ (List.mem_append_right _ (List.mem_append_left _ hh)))) hown hK hT (fx_1 hX) (by decide) cl_e11 rfl 6 (by decide) (hts (.fieldLink RX1 39 "TypingPool$Book" "aways" "[LTypingPool$Away;") (List.mem_cons_of_mem _ (List.mem_append_left _ (List.mem_of_getElem? (i := 1) rfl)))) (fun _ h9 => h9) rfl dX1_addAway_28 ?_
          refine lv_iload_n hx hb dX1_addAway_31 rfl (lv_at hl 2 rfl) ?_
          refine lv_aload_n hx hb dX1_addAway_32 rfl (lv_at hl 0 rfl) ?_
          refine tw_get (D := (dC, dI)) (v := .ref (a 12)) (C := RX1) (T := TX1) (N := 8) hx hb hts (fun _ hh => (List.mem_cons_of_mem _ (List.mem_append_right _ (List.mem_append_left _ hh)))) hown hK hT (fx_1 hX) (by decide) cl_e11 rfl 6 (by decide) (hts (.fieldLink RX1 39 "TypingPool$Book" "aways" "[LTypingPool$Away;") (List.mem_cons_of_mem _ (List.mem_append_left _ (List.mem_of_getElem? (i := 1) rfl)))) (fun _ h9 => h9) rfl dX1_addAway_33 ?_
          refine lv_iload_n hx hb dX1_addAway_36 rfl (lv_at hl 2 rfl) ?_
          refine lv_iconst (v := 1) hx hb dX1_addAway_37 (by decide) ?_
          refine lv_isub hx hb dX1_addAway_38 ?_
          refine lv_topi (fun x_18 ex_18 => ?_)
          have hx_18 := z_sub ex_18 rfl (zk (x := 1) 1 rfl) (by omega) (by omega)
          refine tw_aald hx hb hK hT 5 (fx_12 hX) (by decide) cl_e22 rfl (z_in rfl (by omega) (by omega)) dX1_addAway_39 ?_
          obtain ⟨q_19, hgq_19, htq_19⟩ := ic_l12 hI (x := x_18) rfl (by omega) (by omega)
          refine lq_topr hgq_19 ?_
          refine tw_aast (r := (RX0, TX0, 3)) hx hb hK hT hF hS 5 (fx_12 hX) (by decide) (fun _ => cl_e22) rfl htq_19 (by decide) cl_e3 rfl (z_in rfl (by omega) (by omega)) dX1_addAway_40 (fun H locs hT hS => ?_)
          obtain ⟨g_20, hg_20, hT⟩ : ∃ z : Nat → Nat → Option Nat, z = upg g_L5 (a 12) i2.toNatClampNeg (some q_19) ∧ tw (dC, dI) a k τ ln y_L5 z H := ⟨_, rfl, hT⟩
          have hKM : kpM τ y g y_L5 g_20 := by rw [hg_20]; exact hKM.upg hMo (fx_12 hX) (by decide)
          have hI : IC a u τ ln y_L5 g_20 := by rw [hg_20]; exact hI.put12 htq_19
          have hent_21 : g_20 (a 12) i2.toNatClampNeg = some q_19 := by rw [hg_20]; exact upg_i
          have haw := aw_step hi5_2 (x := i2) rfl (by omega) (by omega) htq_19
          rw [← hg_20] at haw
          obtain ⟨x_22, ex_22⟩ : ∃ y : Int32, y = i2 + Int32.ofInt (-1) := ⟨_, rfl⟩
          have hx_22 := z_add ex_22 rfl (zk (x := Int32.ofInt (-1)) (-1) rfl) (by omega) (by omega)
          refine lv_iinc (v := x_22) (lv' := [(2, .int x_22), (0, .ref (a 1)), (1, .ref b0)]) hx hb dX1_addAway_41 hl (k := 2) rfl ex_22.symm (by decide) rfl (fun ls hl => ?_)
          refine lv_goto (tgt := 5) hx hb dX1_addAway_44 (by decide) ?_
          exact ih_5  x_22 y_L5 g_20 H _ ls (by omega) hKM hI (by omega) (by omega) (fun _ => haw) hT hS (lv_sub hl [1, 2, 0] rfl)
  have hp_23 : (y (a 1) 7).toInt = u 3 := hc_1
  exact loop_5 _ (y (a 1) 7) y g s.heap _ ls (Nat.lt_succ_self _) hKM hI (by omega) (by omega) (fun h => absurd h (by omega)) hT hS (lv_sub hl [1, 2, 0] rfl)
def wo_c_away : List Cond := [.fieldLink RX11 10 "TypingPool" "book" "LTypingPool$Book;", .methodLink RX11 95 yX1_hasHand, .instanceMethod yX1_hasHand, .selects RX1 yX1_hasHand yX1_hasHand, .initialized RX1, .fieldLink RX11 28 "TypingPool" "floor" "LTypingPool$Floor;", .fieldLink RX11 99 "TypingPool$Floor" "now" "I", .methodLink RX11 68 yX11_within, .static yX11_within, .initialized RX11, .fieldLink RX11 102 "TypingPool$Book" "awayCount" "I", .classLink RX11 105 RX0, .instantiable RX0 3, .initialized RX0, .instanceMethod yX0_init, .methodLink RX11 107 yX0_init, .methodLink RX11 108 yX1_addAway, .instanceMethod yX1_addAway, .selects RX1 yX1_addAway yX1_addAway]
def wm_c_away : List Cond := .code yX11_away cX11_away 5 (some .int) :: (wo_c_away ++ (wsX110 ++ (wm_c_hasHand ++ (wsX30 ++ (wm_c_within ++ (wsX10 ++ (wsX00 ++ (wm_c_Away_init ++ (wm_c_addAway ++ ([] : List Cond))))))))))
theorem gd_c_away : ∀ w ∈ wm_c_away, goodWord w = true := gd_c rfl (gd_a (by decide) (gd_a gd_wsX110 (gd_a gd_c_hasHand (gd_a gd_wsX30 (gd_a gd_c_within (gd_a gd_wsX10 (gd_a gd_wsX00 (gd_a gd_c_Away_init (gd_a gd_c_addAway gd_nil)))))))))
set_option maxRecDepth 20000 in
theorem im_c_away : ∀ w ∈ wm_c_away, w ∈ lw_tbl := im_c (in_r [.code yX11_away cX11_away 5 (some .int)] [628] (by decide +kernel)) (in_app (in_r wo_c_away [559, 629, 630, 631, 71, 561, 429, 594, 595, 70, 137, 633, 634, 88, 636, 635, 652, 653, 654] (by decide +kernel)) (in_app im_wsX110 (in_app im_c_hasHand (in_app im_wsX30 (in_app im_c_within (in_app im_wsX10 (in_app im_wsX00 (in_app im_c_Away_init (in_app im_c_addAway im_nil)))))))))
set_option maxHeartbeats 4000000 in
set_option maxRecDepth 100000 in
theorem c_away (l : Launch) (dC : Nat → ClassId) (dI : Nat → Nat → Nat) (ad av : Nat → Nat) (sz : Nat) (a : Nat → Nat) (k : Nat → ClassId) (τ ln : Nat → Nat) (y : Nat → Nat → Int32) (g : Nat → Nat → Option Nat) (u : Nat → Int) (p0 : Int32) (p1 : Int32) (p2 : Int32) (hI : IC a u τ ln y g) (hNow : (y (a 3) 2).toInt = u 9) : Met l yX11_away wm_c_away ({ frames := 3, cells := 1, slots := 3, locals := 140 }) (pw_ ad av (dC, dI) sz [.ref (a 0), .int p0, .int p1, .int p2] a k τ ln y g) (va_Qi (fun (r u : Int32) => u = r) (fun (r : Int32) (t : State) => (∃ (u' : Nat → Int), r = (-1) ∧ (∀ i, i ∉ ([] : List Nat) → u' i = u i) ∧ (¬ (0 ≤ p0.toInt ∧ p0.toInt < u 1 ∧ u 9 ≤ p1.toInt ∧ p1.toInt < p2.toInt ∧ p2.toInt ≤ 4800 ∧ u 3 < 30)) ∧ pq (dC, dI) a k τ y g u' sz t.heap) ∨ (∃ (u' : Nat → Int), (∀ i, i ∉ ([3] : List Nat) → u' i = u i) ∧ ((0 ≤ p0.toInt ∧ p0.toInt < u 1 ∧ u 9 ≤ p1.toInt ∧ p1.toInt < p2.toInt ∧ p2.toInt ≤ 4800 ∧ u 3 < 30)) ∧ r.toInt = u 3 + 1 ∧ u' 3 = u 3 + 1 ∧ pq (dC, dI) a k τ y g u' sz t.heap)) (fr τ sz)) 1 3 (fr τ sz) := by
  refine Met.ofW (cc := cX11_away) (maxL := 5) (ret := (some .int)) (by decide) rfl ?_
  intro p e s m args below meth c s₁ B hml hv
  obtain ⟨rfl, hsz, hT, hK, hM⟩ := hv
  have hx := B.exec
  have hb := B.bytes
  have hr := B.returns
  have hts := atoms_spec (ws := wm_c_away) B.pre
  have hown : s.vm.findClass RX11 = some m.cls := findClass_of_methodNamed B.named
  have hlocks := B.notSynchronized
  subst hsz
  generalize hAe : fr τ s.heap.size = A at hM ⊢
  have hA : ∀ q : Nat, s.heap.size ≤ q → A q := fun q h => by rw [← hAe]; exact Or.inr h
  have hF : ∀ q, τ q ≠ 0 → A q := fun q h => by rw [← hAe]; exact Or.inl h
  have hS : va_S A s.heap s.heap [] := va_S.rf
  have hX := hI.1
  have hR := ic_r hI
  have hMo : mono τ τ s.heap.size := mono.rf
  have hKM : kpM τ y g y g := kpM.rf
  have hl := lv_entry ([.ref (a 0), .int p0, .int p1, .int p2]) (n := 5) (Nat.le_of_ble_eq_true rfl)
  rw [lg_entry_eq]
  generalize (lg_sl ([.ref (a 0), .int p0, .int p1, .int p2]) ++ List.replicate (5 - (lg_sl ([.ref (a 0), .int p0, .int p1, .int p2])).length) Slot.unset).toArray = ls at hl ⊢
  have hl : lv_has ls 5 [(0, .ref (a 0)), (1, .int p0), (2, .int p1), (3, .int p2)] := hl
  refine lv_aload_n hx hb dX11_away_0 rfl (lv_at hl 0 rfl) ?_
  refine tw_get (D := (dC, dI)) (v := .ref (a 1)) (C := RX11) (T := TX11) (N := 10) hx hb hts (fun _ hh => (List.mem_cons_of_mem _ (List.mem_append_right _ (List.mem_append_left _ hh)))) hown hK hT (fx_0 hX) (by decide) cl_e10 rfl 0 (by decide) (hts (.fieldLink RX11 10 "TypingPool" "book" "LTypingPool$Book;") (List.mem_cons_of_mem _ (List.mem_append_left _ (List.mem_of_getElem? (i := 0) rfl)))) (fun _ h9 => h9) rfl dX11_away_1 ?_
  refine lv_iload_n hx hb dX11_away_4 rfl (lv_at hl 1 rfl) ?_
  have hFc := tw_free hF hS hA
  refine va_calli (va_runV (As := [.int p0]) (rest := []) ⟨hx, hb, hml, hown, hts⟩ (c_hasHand l dC dI ad av s.heap.size a k τ ln y g u p0 hI ) (cwV 1 hts (gi_4 (List.mem_cons_of_mem _ (List.mem_append_left _ (List.mem_of_getElem? (i := 1) rfl))) (List.mem_cons_of_mem _ (List.mem_append_left _ (List.mem_of_getElem? (i := 2) rfl))) (List.mem_cons_of_mem _ (List.mem_append_left _ (List.mem_of_getElem? (i := 3) rfl))) (List.mem_cons_of_mem _ (List.mem_append_left _ (List.mem_of_getElem? (i := 4) rfl))) (fun _ hh => (List.mem_cons_of_mem _ (List.mem_append_right _ (List.mem_append_right _ (List.mem_append_left _ hh))))) gd_c_hasHand) rfl rfl rfl (by decide +kernel) ⟨Nat.le_of_ble_eq_true rfl, Nat.le_of_ble_eq_true rfl⟩) ⟨pw_blind, tw_recv hK hT (fx_1 hX) (by decide) cl_e11 rfl, pw_use hT hK hFc hS hM⟩ rfl rfl hl.1 rfl (lv_room (Nat.le_of_ble_eq_true rfl)) dX11_away_5 ⟨Nat.le_of_ble_eq_true rfl, Nat.le_of_ble_eq_true rfl⟩) hS (fun q _ h => hFc q h) hFc (fun r0 r_1 t H locs ht hvm hw hB hz1 hk1 hS => ?_)
  refine W.widen (k := 0) (n := 0) (Nat.le_of_ble_eq_true rfl) (Nat.le_of_ble_eq_true rfl) ?_
  clear hvm hz1 hk1
  subst hw
  rcases hB with ⟨hre, hf_2, hf_3, hT⟩ | ⟨hre, hf_4, hT⟩
  · refine lq_top (v := 1) hre ?_
    rw [ht] at hT
    refine lv_if_eq (tgt := 44) hx hb dX11_away_8 (by decide) (fun c_5 => absurd c_5 (by decide)) (fun c_5 => ?_)
    refine lv_iload_n hx hb dX11_away_11 rfl (lv_at hl 2 rfl) ?_
    refine lv_aload_n hx hb dX11_away_12 rfl (lv_at hl 0 rfl) ?_
    refine tw_get (D := (dC, dI)) (v := .ref (a 3)) (C := RX11) (T := TX11) (N := 10) hx hb hts (fun _ hh => (List.mem_cons_of_mem _ (List.mem_append_right _ (List.mem_append_left _ hh)))) hown hK hT (fx_0 hX) (by decide) cl_e10 rfl 2 (by decide) (hts (.fieldLink RX11 28 "TypingPool" "floor" "LTypingPool$Floor;") (List.mem_cons_of_mem _ (List.mem_append_left _ (List.mem_of_getElem? (i := 5) rfl)))) (fun _ h9 => h9) rfl dX11_away_13 ?_
    refine tw_get (D := (dC, dI)) (v := .int (y (a 3) 2)) (C := RX3) (T := TX3) (N := 12) hx hb hts (fun _ hh => (List.mem_cons_of_mem _ (List.mem_append_right _ (List.mem_append_right _ (List.mem_append_right _ (List.mem_append_left _ hh)))))) hown hK hT (fx_3 hX) (by decide) cl_e13 rfl 2 (by decide) (hts (.fieldLink RX11 99 "TypingPool$Floor" "now" "I") (List.mem_cons_of_mem _ (List.mem_append_left _ (List.mem_of_getElem? (i := 6) rfl)))) (fun _ h9 => h9) rfl dX11_away_16 ?_
    refine lv_sipush (v := 4800) hx hb dX11_away_19 (by decide) ?_
    have hFc := tw_free hF hS hA
    have hp_6 : (4800 : Int32).toInt = 4800 := (zk (x := 4800) 4800 rfl)
    refine va_calli (va_runS (As := [.int p1, .int (y (a 3) 2), .int 4800]) (rest := []) ⟨hx, hb, hml, hown, hts⟩ (c_within l dC dI ad av H.size a k τ ln y g u p1 (y (a 3) 2) (4800 : Int32)  ) (va_cwS 3 hts (gi_3 (List.mem_cons_of_mem _ (List.mem_append_left _ (List.mem_of_getElem? (i := 7) rfl))) (List.mem_cons_of_mem _ (List.mem_append_left _ (List.mem_of_getElem? (i := 8) rfl))) (List.mem_cons_of_mem _ (List.mem_append_left _ (List.mem_of_getElem? (i := 9) rfl))) (fun _ hh => (List.mem_cons_of_mem _ (List.mem_append_right _ (List.mem_append_right _ (List.mem_append_right _ (List.mem_append_right _ (List.mem_append_left _ hh))))))) gd_c_within) rfl rfl rfl (by decide +kernel) ⟨Nat.le_of_ble_eq_true rfl, Nat.le_of_ble_eq_true rfl⟩) ⟨pw_blind, pw_use hT hK hFc hS hM⟩ rfl rfl hl.1 rfl (lv_room (Nat.le_of_ble_eq_true rfl)) dX11_away_22 ⟨Nat.le_of_ble_eq_true rfl, Nat.le_of_ble_eq_true rfl⟩) hS (fun q _ h => hFc q h) hFc (fun r0 r_7 t H locs ht hvm hw hB hz1 hk1 hS => ?_)
    refine W.widen (k := 0) (n := 0) (Nat.le_of_ble_eq_true rfl) (Nat.le_of_ble_eq_true rfl) ?_
    clear hvm hz1 hk1
    subst hw
    rcases hB with ⟨hre, hf_8, hf_9, hT⟩ | ⟨hre, hf_10, hT⟩
    · refine lq_top (v := 1) hre ?_
      rw [ht] at hT
      try simp only [hp_6] at hf_8 hf_9
      clear hp_6
      refine lv_if_eq (tgt := 44) hx hb dX11_away_25 (by decide) (fun c_11 => absurd c_11 (by decide)) (fun c_11 => ?_)
      refine lv_iload_n hx hb dX11_away_28 rfl (lv_at hl 3 rfl) ?_
      refine lv_iload_n hx hb dX11_away_29 rfl (lv_at hl 2 rfl) ?_
      refine lv_icmp_le (tgt := 44) hx hb dX11_away_30 (by decide) (fun c_12 => ?_) (fun c_12 => ?_)
      · have nc_12 := z_le rfl rfl c_12
        refine lv_iconst (v := 0) hx hb dX11_away_44 (by decide) ?_
        refine lv_istore (lv' := [(4, .int 0), (0, .ref (a 0)), (1, .int p0), (2, .int p1), (3, .int p2)]) hx hb dX11_away_45 hl (by decide) rfl (fun ls hl => ?_)
        refine lv_iload hx hb dX11_away_47 (lv_at hl 0 rfl) ?_
        refine lv_if_eq (tgt := 64) hx hb dX11_away_49 (by decide) (fun c_13 => ?_) (fun c_13 => absurd c_13 (by decide))
        refine lv_iconst (v := (-1)) hx hb dX11_away_64 (by decide) ?_
        refine W.widen (k := 1) (n := 3) (Nat.le_of_ble_eq_true rfl) (Nat.le_of_ble_eq_true rfl) ?_
        have hrv : (-1 : Int32).toInt = (-1) := (zk (x := (-1)) (-1) rfl)
        exact W.iret (v := (-1)) hx hb hr (fun t ht hW9 => ⟨⟨(-1), (-1), rfl, rfl, Or.inl ⟨u, rfl, fun _ _ => rfl, by omega, ⟨τ, ln, y, g, hMo, hKM, hI, tw_at ht hT⟩⟩⟩, hS.F ht⟩) hS.2.2 dX11_away_65
      · have nc_12 := z_nle rfl rfl c_12
        refine lv_iload_n hx hb dX11_away_33 rfl (lv_at hl 3 rfl) ?_
        refine lv_sipush (v := 4800) hx hb dX11_away_34 (by decide) ?_
        refine lv_icmp_gt (tgt := 44) hx hb dX11_away_37 (by decide) (fun c_14 => ?_) (fun c_14 => ?_)
        · have nc_14 := z_lt (zk (x := 4800) 4800 rfl) rfl c_14
          refine lv_iconst (v := 0) hx hb dX11_away_44 (by decide) ?_
          refine lv_istore (lv' := [(4, .int 0), (0, .ref (a 0)), (1, .int p0), (2, .int p1), (3, .int p2)]) hx hb dX11_away_45 hl (by decide) rfl (fun ls hl => ?_)
          refine lv_iload hx hb dX11_away_47 (lv_at hl 0 rfl) ?_
          refine lv_if_eq (tgt := 64) hx hb dX11_away_49 (by decide) (fun c_15 => ?_) (fun c_15 => absurd c_15 (by decide))
          refine lv_iconst (v := (-1)) hx hb dX11_away_64 (by decide) ?_
          refine W.widen (k := 1) (n := 3) (Nat.le_of_ble_eq_true rfl) (Nat.le_of_ble_eq_true rfl) ?_
          have hrv : (-1 : Int32).toInt = (-1) := (zk (x := (-1)) (-1) rfl)
          exact W.iret (v := (-1)) hx hb hr (fun t ht hW9 => ⟨⟨(-1), (-1), rfl, rfl, Or.inl ⟨u, rfl, fun _ _ => rfl, by omega, ⟨τ, ln, y, g, hMo, hKM, hI, tw_at ht hT⟩⟩⟩, hS.F ht⟩) hS.2.2 dX11_away_65
        · have nc_14 := z_nlt (zk (x := 4800) 4800 rfl) rfl c_14
          refine lv_iconst (v := 1) hx hb dX11_away_40 (by decide) ?_
          refine lv_goto (tgt := 45) hx hb dX11_away_41 (by decide) ?_
          refine lv_istore (lv' := [(4, .int 1), (0, .ref (a 0)), (1, .int p0), (2, .int p1), (3, .int p2)]) hx hb dX11_away_45 hl (by decide) rfl (fun ls hl => ?_)
          refine lv_iload hx hb dX11_away_47 (lv_at hl 0 rfl) ?_
          refine lv_if_eq (tgt := 64) hx hb dX11_away_49 (by decide) (fun c_16 => absurd c_16 (by decide)) (fun c_16 => ?_)
          refine lv_aload_n hx hb dX11_away_52 rfl (lv_at hl 1 rfl) ?_
          refine tw_get (D := (dC, dI)) (v := .ref (a 1)) (C := RX11) (T := TX11) (N := 10) hx hb hts (fun _ hh => (List.mem_cons_of_mem _ (List.mem_append_right _ (List.mem_append_left _ hh)))) hown hK hT (fx_0 hX) (by decide) cl_e10 rfl 0 (by decide) (hts (.fieldLink RX11 10 "TypingPool" "book" "LTypingPool$Book;") (List.mem_cons_of_mem _ (List.mem_append_left _ (List.mem_of_getElem? (i := 0) rfl)))) (fun _ h9 => h9) rfl dX11_away_53 ?_
          refine tw_get (D := (dC, dI)) (v := .int (y (a 1) 7)) (C := RX1) (T := TX1) (N := 8) hx hb hts (fun _ hh => (List.mem_cons_of_mem _ (List.mem_append_right _ (List.mem_append_right _ (List.mem_append_right _ (List.mem_append_right _ (List.mem_append_right _ (List.mem_append_left _ hh)))))))) hown hK hT (fx_1 hX) (by decide) cl_e11 rfl 7 (by decide) (hts (.fieldLink RX11 102 "TypingPool$Book" "awayCount" "I") (List.mem_cons_of_mem _ (List.mem_append_left _ (List.mem_of_getElem? (i := 10) rfl)))) (fun _ h9 => h9) rfl dX11_away_56 ?_
          have hc_17 := ic_3 hI
          refine lv_bipush (v := 30) hx hb dX11_away_59 (by decide) ?_
          refine lv_icmp_lt (tgt := 66) hx hb dX11_away_61 (by decide) (fun c_18 => ?_) (fun c_18 => ?_)
          · have nc_18 := z_lt hc_17 (zk (x := 30) 30 rfl) c_18
            refine lv_aload_n hx hb dX11_away_66 rfl (lv_at hl 1 rfl) ?_
            refine tw_get (D := (dC, dI)) (v := .ref (a 1)) (C := RX11) (T := TX11) (N := 10) hx hb hts (fun _ hh => (List.mem_cons_of_mem _ (List.mem_append_right _ (List.mem_append_left _ hh)))) hown hK hT (fx_0 hX) (by decide) cl_e10 rfl 0 (by decide) (hts (.fieldLink RX11 10 "TypingPool" "book" "LTypingPool$Book;") (List.mem_cons_of_mem _ (List.mem_append_left _ (List.mem_of_getElem? (i := 0) rfl)))) (fun _ h9 => h9) rfl dX11_away_67 ?_
            refine tw_new (ci := 0) (fs := [.int 0, .int 0, .int 0]) (C := RX0) (T := TX0) (N := 3) hx hb hts (fun _ hh => (List.mem_cons_of_mem _ (List.mem_append_right _ (List.mem_append_right _ (List.mem_append_right _ (List.mem_append_right _ (List.mem_append_right _ (List.mem_append_right _ (List.mem_append_left _ hh))))))))) tyX0 tyX0_ok hown (hts (.classLink RX11 105 RX0) (List.mem_cons_of_mem _ (List.mem_append_left _ (List.mem_of_getElem? (i := 11) rfl)))) (hts (.instantiable RX0 3) (List.mem_cons_of_mem _ (List.mem_append_left _ (List.mem_of_getElem? (i := 12) rfl)))) (hts (.initialized RX0) (List.mem_cons_of_mem _ (List.mem_append_left _ (List.mem_of_getElem? (i := 13) rfl)))) hK hT hF hS hA 3 rfl (fun j hj => by rcases (show j = 0 ∨ j = 1 ∨ j = 2 by omega) with rfl | rfl | rfl <;> rfl) (fun _ => cl_e3) (Nat.le_of_ble_eq_true rfl) (Nat.le_of_ble_eq_true rfl) dX11_away_70 (fun q_19 H hq0 hAq hT hS => ?_)
            refine W.widen (k := 1) (n := 3) (Nat.le_of_ble_eq_true rfl) (Nat.le_of_ble_eq_true rfl) ?_
            obtain ⟨tm_20, lm_20, ym_20, gm_20, htm_20, hlm_20, hym_20, hgm_20, hT⟩ : ∃ (z1 z2 : Nat → Nat) (z3 : Nat → Nat → Int32) (z4 : Nat → Nat → Option Nat), z1 = nwt τ q_19 3 ∧ z2 = ln ∧ z3 = nwy y q_19 (fun _ => 0) ∧ z4 = nwg g q_19 ∧ tw (dC, dI) a k z1 z2 z3 z4 H := ⟨_, _, _, _, rfl, rfl, rfl, rfl, hT⟩
            have hKM : kpM τ y g ym_20 gm_20 := by rw [hym_20, hgm_20]; exact hKM.nw hMo hq0
            have hMo : mono τ tm_20 s.heap.size := by rw [htm_20]; exact hMo.nw hq0 (by rw [hAe]; exact hAq)
            have hI : IC a u tm_20 lm_20 ym_20 gm_20 := by rw [htm_20, hlm_20, hym_20, hgm_20]; exact hI.nw hq0 (Or.inl rfl) (by decide)
            have : (ym_20 (a 3) 2).toInt = (y (a 3) 2).toInt := by rw [hym_20, nwy_o (kd_ne (fx_3 hX) hq0 (by decide))]
            have hX := hI.1
            have hF : ∀ q, tm_20 q ≠ 0 → A q := fun q h => by rw [← hAe]; exact hMo.2 q h
            have hk_21 : tm_20 q_19 = 3 := by rw [htm_20]; exact nwt_i
            refine lv_dup hx hb dX11_away_73 rfl ?_
            refine lv_iload_n hx hb dX11_away_74 rfl (lv_at hl 2 rfl) ?_
            refine lv_iload_n hx hb dX11_away_75 rfl (lv_at hl 3 rfl) ?_
            refine lv_iload_n hx hb dX11_away_76 rfl (lv_at hl 4 rfl) ?_
            have hFc := tw_free hF hS hA
            refine va_callv (va_runI (As := [.int p0, .int p1, .int p2]) (rest := [.ref q_19, .ref (a 1)]) ⟨hx, hb, hml, hown, hts⟩ (c_Away_init l dC dI ad av H.size a k tm_20 lm_20 ym_20 gm_20 u q_19 p0 p1 p2 hI hk_21) (cwI 3 hts (gi_0  (fun _ hh => (List.mem_cons_of_mem _ (List.mem_append_right _ (List.mem_append_right _ (List.mem_append_right _ (List.mem_append_right _ (List.mem_append_right _ (List.mem_append_right _ (List.mem_append_right _ (List.mem_append_left _ hh)))))))))) gd_c_Away_init) rfl rfl rfl (hts (.initialized RX0) (List.mem_cons_of_mem _ (List.mem_append_left _ (List.mem_of_getElem? (i := 13) rfl)))) (hts (.methodLink RX11 107 yX0_init) (List.mem_cons_of_mem _ (List.mem_append_left _ (List.mem_of_getElem? (i := 15) rfl)))) (hts (.instanceMethod yX0_init) (List.mem_cons_of_mem _ (List.mem_append_left _ (List.mem_of_getElem? (i := 14) rfl)))) rfl (by decide +kernel) ⟨Nat.le_of_ble_eq_true rfl, Nat.le_of_ble_eq_true rfl⟩) ⟨pw_blind, pw_use hT hK hFc hS hM⟩ rfl rfl hl.1 rfl (lv_room (Nat.le_of_ble_eq_true rfl)) dX11_away_77 ⟨Nat.le_of_ble_eq_true rfl, Nat.le_of_ble_eq_true rfl⟩) hS (fun q _ h => hFc q h) hFc (fun u0 t H locs ht hvm hw hB hz1 hk1 hS => ?_)
            refine W.widen (k := 1) (n := 3) (Nat.le_of_ble_eq_true rfl) (Nat.le_of_ble_eq_true rfl) ?_
            clear hvm hz1 hk1
            obtain ⟨y_23, hgy_23, hT⟩ := hB
            rw [ht] at hT
            have hKM := hKM.ag hMo hgy_23 (by decide)
            have : (y_23 (a 3) 2).toInt = (ym_20 (a 3) 2).toInt := by rw [hgy_23.at (fx_3 hX) (by decide)]
            have hI := hI.ag hgy_23 (by decide)
            have hFc := tw_free hF hS hA
            have hSz := hS.1
            refine va_callv (va_runV (As := [.ref q_19]) (rest := []) ⟨hx, hb, hml, hown, hts⟩ (c_addAway l dC dI ad av H.size a k tm_20 lm_20 y_23 gm_20 u q_19 hI hk_21 (by omega)) (cwV 1 hts (gi_4 (List.mem_cons_of_mem _ (List.mem_append_left _ (List.mem_of_getElem? (i := 16) rfl))) (List.mem_cons_of_mem _ (List.mem_append_left _ (List.mem_of_getElem? (i := 17) rfl))) (List.mem_cons_of_mem _ (List.mem_append_left _ (List.mem_of_getElem? (i := 18) rfl))) (List.mem_cons_of_mem _ (List.mem_append_left _ (List.mem_of_getElem? (i := 4) rfl))) (fun _ hh => (List.mem_cons_of_mem _ (List.mem_append_right _ (List.mem_append_right _ (List.mem_append_right _ (List.mem_append_right _ (List.mem_append_right _ (List.mem_append_right _ (List.mem_append_right _ (List.mem_append_right _ (List.mem_append_left _ hh))))))))))) gd_c_addAway) rfl rfl rfl (by decide +kernel) ⟨Nat.le_of_ble_eq_true rfl, Nat.le_of_ble_eq_true rfl⟩) ⟨pw_blind, tw_recv hK hT (fx_1 hX) (by decide) cl_e11 rfl, pw_use hT hK hFc hS hM⟩ rfl rfl hl.1 rfl (lv_room (Nat.le_of_ble_eq_true rfl)) dX11_away_80 ⟨Nat.le_of_ble_eq_true rfl, Nat.le_of_ble_eq_true rfl⟩) hS (fun q _ h => hFc q h) hFc (fun u0 t H locs ht hvm hw hB hz1 hk1 hS => ?_)
            refine W.widen (k := 1) (n := 3) (Nat.le_of_ble_eq_true rfl) (Nat.le_of_ble_eq_true rfl) ?_
            clear hvm hz1 hk1
            obtain ⟨u_25, huu_25, hf_26, ⟨tm_27, lm_27, ym_27, gm_27, hMo1, hKM1, hI, hT⟩⟩ := hB
            rw [ht] at hT
            have hKM := hKM.tr hMo hKM1
            have hMo := hMo.tr hMo1 hSz
            have hX := hI.1
            have hF : ∀ q, tm_27 q ≠ 0 → A q := fun q h => by rw [← hAe]; exact hMo.2 q h
            refine lv_aload_n hx hb dX11_away_83 rfl (lv_at hl 1 rfl) ?_
            refine tw_get (D := (dC, dI)) (v := .ref (a 1)) (C := RX11) (T := TX11) (N := 10) hx hb hts (fun _ hh => (List.mem_cons_of_mem _ (List.mem_append_right _ (List.mem_append_left _ hh)))) hown hK hT (fx_0 hX) (by decide) cl_e10 rfl 0 (by decide) (hts (.fieldLink RX11 10 "TypingPool" "book" "LTypingPool$Book;") (List.mem_cons_of_mem _ (List.mem_append_left _ (List.mem_of_getElem? (i := 0) rfl)))) (fun _ h9 => h9) rfl dX11_away_84 ?_
            refine tw_get (D := (dC, dI)) (v := .int (ym_27 (a 1) 7)) (C := RX1) (T := TX1) (N := 8) hx hb hts (fun _ hh => (List.mem_cons_of_mem _ (List.mem_append_right _ (List.mem_append_right _ (List.mem_append_right _ (List.mem_append_right _ (List.mem_append_right _ (List.mem_append_left _ hh)))))))) hown hK hT (fx_1 hX) (by decide) cl_e11 rfl 7 (by decide) (hts (.fieldLink RX11 102 "TypingPool$Book" "awayCount" "I") (List.mem_cons_of_mem _ (List.mem_append_left _ (List.mem_of_getElem? (i := 10) rfl)))) (fun _ h9 => h9) rfl dX11_away_87 ?_
            have hc_28 := ic_3 hI
            have hrv : (ym_27 (a 1) 7).toInt = u_25 3 := hc_28
            exact W.iret (v := ym_27 (a 1) 7) hx hb hr (fun t ht hW9 => ⟨⟨ym_27 (a 1) 7, ym_27 (a 1) 7, rfl, rfl, Or.inr (⟨u_25, (by intro i hi; simp only [List.mem_cons, List.not_mem_nil, or_false, not_or] at hi; rw [huu_25 i (by simp <;> omega)]), by omega, by omega, by omega, ⟨tm_27, lm_27, ym_27, gm_27, hMo, hKM, hI, tw_at ht hT⟩⟩)⟩, hS.F ht⟩) hS.2.2 dX11_away_90
          · have nc_18 := z_nlt hc_17 (zk (x := 30) 30 rfl) c_18
            refine lv_iconst (v := (-1)) hx hb dX11_away_64 (by decide) ?_
            refine W.widen (k := 1) (n := 3) (Nat.le_of_ble_eq_true rfl) (Nat.le_of_ble_eq_true rfl) ?_
            have hrv : (-1 : Int32).toInt = (-1) := (zk (x := (-1)) (-1) rfl)
            exact W.iret (v := (-1)) hx hb hr (fun t ht hW9 => ⟨⟨(-1), (-1), rfl, rfl, Or.inl ⟨u, rfl, fun _ _ => rfl, by omega, ⟨τ, ln, y, g, hMo, hKM, hI, tw_at ht hT⟩⟩⟩, hS.F ht⟩) hS.2.2 dX11_away_65
    · refine lq_top (v := 0) hre ?_
      rw [ht] at hT
      try simp only [hp_6] at hf_10
      clear hp_6
      refine lv_if_eq (tgt := 44) hx hb dX11_away_25 (by decide) (fun c_29 => ?_) (fun c_29 => absurd c_29 (by decide))
      refine lv_iconst (v := 0) hx hb dX11_away_44 (by decide) ?_
      refine lv_istore (lv' := [(4, .int 0), (0, .ref (a 0)), (1, .int p0), (2, .int p1), (3, .int p2)]) hx hb dX11_away_45 hl (by decide) rfl (fun ls hl => ?_)
      refine lv_iload hx hb dX11_away_47 (lv_at hl 0 rfl) ?_
      refine lv_if_eq (tgt := 64) hx hb dX11_away_49 (by decide) (fun c_30 => ?_) (fun c_30 => absurd c_30 (by decide))
      refine lv_iconst (v := (-1)) hx hb dX11_away_64 (by decide) ?_
      refine W.widen (k := 1) (n := 3) (Nat.le_of_ble_eq_true rfl) (Nat.le_of_ble_eq_true rfl) ?_
      have hrv : (-1 : Int32).toInt = (-1) := (zk (x := (-1)) (-1) rfl)
      exact W.iret (v := (-1)) hx hb hr (fun t ht hW9 => ⟨⟨(-1), (-1), rfl, rfl, Or.inl ⟨u, rfl, fun _ _ => rfl, by omega, ⟨τ, ln, y, g, hMo, hKM, hI, tw_at ht hT⟩⟩⟩, hS.F ht⟩) hS.2.2 dX11_away_65
  · refine lq_top (v := 0) hre ?_
    rw [ht] at hT
    refine lv_if_eq (tgt := 44) hx hb dX11_away_8 (by decide) (fun c_31 => ?_) (fun c_31 => absurd c_31 (by decide))
    refine lv_iconst (v := 0) hx hb dX11_away_44 (by decide) ?_
    refine lv_istore (lv' := [(4, .int 0), (0, .ref (a 0)), (1, .int p0), (2, .int p1), (3, .int p2)]) hx hb dX11_away_45 hl (by decide) rfl (fun ls hl => ?_)
    refine lv_iload hx hb dX11_away_47 (lv_at hl 0 rfl) ?_
    refine lv_if_eq (tgt := 64) hx hb dX11_away_49 (by decide) (fun c_32 => ?_) (fun c_32 => absurd c_32 (by decide))
    refine lv_iconst (v := (-1)) hx hb dX11_away_64 (by decide) ?_
    refine W.widen (k := 1) (n := 3) (Nat.le_of_ble_eq_true rfl) (Nat.le_of_ble_eq_true rfl) ?_
    have hrv : (-1 : Int32).toInt = (-1) := (zk (x := (-1)) (-1) rfl)
    exact W.iret (v := (-1)) hx hb hr (fun t ht hW9 => ⟨⟨(-1), (-1), rfl, rfl, Or.inl ⟨u, rfl, fun _ _ => rfl, by omega, ⟨τ, ln, y, g, hMo, hKM, hI, tw_at ht hT⟩⟩⟩, hS.F ht⟩) hS.2.2 dX11_away_65
def wo_c_seek : List Cond := [.methodLink RX7 35 yX7_listPieces, .instanceMethod yX7_listPieces, .selects RX7 yX7_listPieces yX7_listPieces, .initialized RX7, .methodLink RX7 39 yX7_listHands, .instanceMethod yX7_listHands, .selects RX7 yX7_listHands yX7_listHands, .fieldLink RX7 42 "TypingPool$Planner" "pieceCount" "I", .methodLink RX7 46 yX7_allowAll, .instanceMethod yX7_allowAll, .selects RX7 yX7_allowAll yX7_allowAll, .fieldLink RX7 50 "TypingPool$Planner" "found" "Z", .fieldLink RX7 54 "TypingPool$Planner" "bestLength" "I", .fieldLink RX7 57 "TypingPool$Planner" "bestLate" "I", .fieldLink RX7 60 "TypingPool$Planner" "bestLateness" "I", .methodLink RX7 63 yX7_beginHand, .instanceMethod yX7_beginHand, .selects RX7 yX7_beginHand yX7_beginHand]
def wm_c_seek : List Cond := .code yX7_seek cX7_seek 4 (some .int) :: (wo_c_seek ++ (wm_c_listPieces ++ (wm_c_listHands ++ (wsX70 ++ (wm_c_allowAll ++ (wm_c_beginHand0 ++ ([] : List Cond)))))))
theorem gd_c_seek : ∀ w ∈ wm_c_seek, goodWord w = true := gd_c rfl (gd_a (by decide) (gd_a gd_c_listPieces (gd_a gd_c_listHands (gd_a gd_wsX70 (gd_a gd_c_allowAll (gd_a gd_c_beginHand0 gd_nil))))))
set_option maxRecDepth 20000 in
theorem im_c_seek : ∀ w ∈ wm_c_seek, w ∈ lw_tbl := im_c (in_r [.code yX7_seek cX7_seek 4 (some .int)] [1022] (by decide +kernel)) (in_app (in_r wo_c_seek [1023, 1025, 18, 85, 1029, 1031, 19, 518, 1034, 1036, 20, 531, 525, 527, 529, 1039, 1041, 21] (by decide +kernel)) (in_app im_c_listPieces (in_app im_c_listHands (in_app im_wsX70 (in_app im_c_allowAll (in_app im_c_beginHand0 im_nil))))))
set_option maxHeartbeats 4000000 in
set_option maxRecDepth 100000 in
theorem c_seek (l : Launch) (dC : Nat → ClassId) (dI : Nat → Nat → Nat) (ad av : Nat → Nat) (sz : Nat) (a : Nat → Nat) (k : Nat → ClassId) (τ ln : Nat → Nat) (y : Nat → Nat → Int32) (g : Nat → Nat → Option Nat) (u : Nat → Int) (p0 : Int32) (p1 : Int32) (hI : IC a u τ ln y g) : Met l yX7_seek wm_c_seek ({ frames := 20, cells := 0, slots := 0, locals := 1200 }) (pw_ ad av (dC, dI) sz [.ref (a 6), .int p0, .int p1] a k τ ln y g) (va_Qi (fun (r u : Int32) => u = r) (fun (r : Int32) (t : State) => (∃ (y' : Nat → Nat → Int32), r = 0 ∧ ag τ [16, 51, 52, 53, 24, 27, 54, 55] y y' ∧ (0 ≤ (y' (a 6) 9).toInt ∧ (y' (a 6) 9).toInt ≤ 8) ∧ tw (dC, dI) a k τ ln y' g t.heap) ∨ (∃ (y' : Nat → Nat → Int32), r = (-1) ∧ ag τ [16, 51, 52, 53, 24, 27, 54, 55] y y' ∧ tw (dC, dI) a k τ ln y' g t.heap) ∨ (∃ (y' : Nat → Nat → Int32), r = (-2) ∧ ag τ [16, 51, 52, 53, 24, 27, 54, 55] y y' ∧ tw (dC, dI) a k τ ln y' g t.heap)) (fr τ sz)) 0 0 (fr τ sz) := by
  refine Met.ofW (cc := cX7_seek) (maxL := 4) (ret := (some .int)) (by decide) rfl ?_
  intro p e s m args below meth c s₁ B hml hv
  obtain ⟨rfl, hsz, hT, hK, hM⟩ := hv
  have hx := B.exec
  have hb := B.bytes
  have hr := B.returns
  have hts := atoms_spec (ws := wm_c_seek) B.pre
  have hown : s.vm.findClass RX7 = some m.cls := findClass_of_methodNamed B.named
  have hlocks := B.notSynchronized
  subst hsz
  generalize hAe : fr τ s.heap.size = A at hM ⊢
  have hA : ∀ q : Nat, s.heap.size ≤ q → A q := fun q h => by rw [← hAe]; exact Or.inr h
  have hF : ∀ q, τ q ≠ 0 → A q := fun q h => by rw [← hAe]; exact Or.inl h
  have hS : va_S A s.heap s.heap [] := va_S.rf
  have hX := hI.1
  have hR := ic_r hI
  have hG : ag τ [16, 51, 52, 53, 24, 27, 54, 55] y y := ag.rf
  have hl := lv_entry ([.ref (a 6), .int p0, .int p1]) (n := 4) (Nat.le_of_ble_eq_true rfl)
  rw [lg_entry_eq]
  generalize (lg_sl ([.ref (a 6), .int p0, .int p1]) ++ List.replicate (4 - (lg_sl ([.ref (a 6), .int p0, .int p1])).length) Slot.unset).toArray = ls at hl ⊢
  have hl : lv_has ls 4 [(0, .ref (a 6)), (1, .int p0), (2, .int p1)] := hl
  refine lv_aload_n hx hb dX7_seek_0 rfl (lv_at hl 0 rfl) ?_
  refine lv_iload_n hx hb dX7_seek_1 rfl (lv_at hl 1 rfl) ?_
  have hFc := tw_free hF hS hA
  refine va_calli (va_runV (As := [.int p0]) (rest := []) ⟨hx, hb, hml, hown, hts⟩ (c_listPieces l dC dI ad av s.heap.size a k τ ln y g u p0 hI ) (cwV 1 hts (gi_4 (List.mem_cons_of_mem _ (List.mem_append_left _ (List.mem_of_getElem? (i := 0) rfl))) (List.mem_cons_of_mem _ (List.mem_append_left _ (List.mem_of_getElem? (i := 1) rfl))) (List.mem_cons_of_mem _ (List.mem_append_left _ (List.mem_of_getElem? (i := 2) rfl))) (List.mem_cons_of_mem _ (List.mem_append_left _ (List.mem_of_getElem? (i := 3) rfl))) (fun _ hh => (List.mem_cons_of_mem _ (List.mem_append_right _ (List.mem_append_left _ hh)))) gd_c_listPieces) rfl rfl rfl (by decide +kernel) ⟨Nat.le_of_ble_eq_true rfl, Nat.le_of_ble_eq_true rfl⟩) ⟨pw_blind, tw_recv hK hT (fx_6 hX) (by decide) cl_e16 rfl, pw_use hT hK hFc hS hM⟩ rfl rfl hl.1 rfl (lv_room (Nat.le_of_ble_eq_true rfl)) dX7_seek_2 ⟨Nat.le_of_ble_eq_true rfl, Nat.le_of_ble_eq_true rfl⟩) hS (fun q _ h => hFc q h) hFc (fun r0 r_1 t H locs ht hvm hw hB hz1 hk1 hS => ?_)
  refine W.widen (k := 0) (n := 0) (Nat.le_of_ble_eq_true rfl) (Nat.le_of_ble_eq_true rfl) ?_
  clear hvm hz1 hk1
  subst hw
  rcases hB with ⟨y_2, hre, hgy_2, hf_3, hf_4, hT⟩ | ⟨y_5, hre, hgy_5, hT⟩
  · refine lq_top (v := 1) hre ?_
    rw [ht] at hT
    have hG := hG.tr hgy_2 (by decide)
    have hI := hI.ag hgy_2 (by decide)
    refine lv_if_eq (tgt := 16) hx hb dX7_seek_5 (by decide) (fun c_6 => absurd c_6 (by decide)) (fun c_6 => ?_)
    refine lv_aload_n hx hb dX7_seek_8 rfl (lv_at hl 0 rfl) ?_
    refine lv_iload_n hx hb dX7_seek_9 rfl (lv_at hl 2 rfl) ?_
    have hFc := tw_free hF hS hA
    refine va_calli (va_runV (As := [.int p1]) (rest := []) ⟨hx, hb, hml, hown, hts⟩ (c_listHands l dC dI ad av H.size a k τ ln y_2 g u p1 hI ) (cwV 1 hts (gi_4 (List.mem_cons_of_mem _ (List.mem_append_left _ (List.mem_of_getElem? (i := 4) rfl))) (List.mem_cons_of_mem _ (List.mem_append_left _ (List.mem_of_getElem? (i := 5) rfl))) (List.mem_cons_of_mem _ (List.mem_append_left _ (List.mem_of_getElem? (i := 6) rfl))) (List.mem_cons_of_mem _ (List.mem_append_left _ (List.mem_of_getElem? (i := 3) rfl))) (fun _ hh => (List.mem_cons_of_mem _ (List.mem_append_right _ (List.mem_append_right _ (List.mem_append_left _ hh))))) gd_c_listHands) rfl rfl rfl (by decide +kernel) ⟨Nat.le_of_ble_eq_true rfl, Nat.le_of_ble_eq_true rfl⟩) ⟨pw_blind, tw_recv hK hT (fx_6 hX) (by decide) cl_e16 rfl, pw_use hT hK hFc hS hM⟩ rfl rfl hl.1 rfl (lv_room (Nat.le_of_ble_eq_true rfl)) dX7_seek_10 ⟨Nat.le_of_ble_eq_true rfl, Nat.le_of_ble_eq_true rfl⟩) hS (fun q _ h => hFc q h) hFc (fun r0 r_7 t H locs ht hvm hw hB hz1 hk1 hS => ?_)
    refine W.widen (k := 0) (n := 0) (Nat.le_of_ble_eq_true rfl) (Nat.le_of_ble_eq_true rfl) ?_
    clear hvm hz1 hk1
    subst hw
    rcases hB with ⟨y_8, hre, hgy_8, hf_9, hf_10, hf_11, hT⟩ | ⟨y_12, hre, hgy_12, hT⟩
    · refine lq_top (v := 1) hre ?_
      rw [ht] at hT
      have hG := hG.tr hgy_8 (by decide)
      have hI := hI.ag hgy_8 (by decide)
      have ha_13 : y_8 (a 41) = y_2 (a 41) := (hgy_8.at (fx_41 hX) (by decide)).trans rfl
      refine lv_if_ne (tgt := 18) hx hb dX7_seek_13 (by decide) (fun c_14 => ?_) (fun c_14 => absurd c_14 (by decide))
      refine lv_iconst (v := 1) hx hb dX7_seek_18 (by decide) ?_
      refine lv_aload_n hx hb dX7_seek_19 rfl (lv_at hl 0 rfl) ?_
      refine tw_get (D := (dC, dI)) (v := .int (y_8 (a 6) 3)) (C := RX7) (T := TX7) (N := 13) hx hb hts (fun _ hh => (List.mem_cons_of_mem _ (List.mem_append_right _ (List.mem_append_right _ (List.mem_append_right _ (List.mem_append_left _ hh)))))) hown hK hT (fx_6 hX) (by decide) cl_e16 rfl 3 (by decide) (hts (.fieldLink RX7 42 "TypingPool$Planner" "pieceCount" "I") (List.mem_cons_of_mem _ (List.mem_append_left _ (List.mem_of_getElem? (i := 7) rfl)))) (fun _ h9 => h9) rfl dX7_seek_20 ?_
      refine lv_ishl hx hb dX7_seek_23 ?_
      refine lv_topi (fun x_15 ex_15 => ?_)
      refine lv_iconst (v := 1) hx hb dX7_seek_24 (by decide) ?_
      refine lv_isub hx hb dX7_seek_25 ?_
      refine lv_topi (fun x_16 ex_16 => ?_)
      refine lv_istore_n (lv' := [(3, .int x_16), (0, .ref (a 6)), (1, .int p0), (2, .int p1)]) hx hb dX7_seek_26 rfl hl (by decide) rfl (fun ls hl => ?_)
      refine lv_aload_n hx hb dX7_seek_27 rfl (lv_at hl 1 rfl) ?_
      have hFc := tw_free hF hS hA
      refine va_calli (va_runV (As := []) (rest := []) ⟨hx, hb, hml, hown, hts⟩ (c_allowAll l dC dI ad av H.size a k τ ln y_8 g u ((y_8 (a 6) 3).toInt) ((y_8 (a 6) 5).toInt) hI rfl rfl (by omega) (vl_mv hf_4 (by omega) ha_13) (vl_mv hf_10 (by omega) rfl)) (cwV 0 hts (gi_4 (List.mem_cons_of_mem _ (List.mem_append_left _ (List.mem_of_getElem? (i := 8) rfl))) (List.mem_cons_of_mem _ (List.mem_append_left _ (List.mem_of_getElem? (i := 9) rfl))) (List.mem_cons_of_mem _ (List.mem_append_left _ (List.mem_of_getElem? (i := 10) rfl))) (List.mem_cons_of_mem _ (List.mem_append_left _ (List.mem_of_getElem? (i := 3) rfl))) (fun _ hh => (List.mem_cons_of_mem _ (List.mem_append_right _ (List.mem_append_right _ (List.mem_append_right _ (List.mem_append_right _ (List.mem_append_left _ hh))))))) gd_c_allowAll) rfl rfl rfl (by decide +kernel) ⟨Nat.le_of_ble_eq_true rfl, Nat.le_of_ble_eq_true rfl⟩) ⟨pw_blind, tw_recv hK hT (fx_6 hX) (by decide) cl_e16 rfl, pw_use hT hK hFc hS hM⟩ rfl rfl hl.1 rfl (lv_room (Nat.le_of_ble_eq_true rfl)) dX7_seek_28 ⟨Nat.le_of_ble_eq_true rfl, Nat.le_of_ble_eq_true rfl⟩) hS (fun q _ h => hFc q h) hFc (fun r0 r_17 t H locs ht hvm hw hB hz1 hk1 hS => ?_)
      refine W.widen (k := 0) (n := 0) (Nat.le_of_ble_eq_true rfl) (Nat.le_of_ble_eq_true rfl) ?_
      clear hvm hz1 hk1
      subst hw
      obtain ⟨y_18, hgy_18, hT⟩ := hB
      rw [ht] at hT
      have hG := hG.tr hgy_18 (by decide)
      have : (y_18 (a 6) 3).toInt = (y_8 (a 6) 3).toInt := by rw [hgy_18.at (fx_6 hX) (by decide)]
      have : (y_18 (a 6) 5).toInt = (y_8 (a 6) 5).toInt := by rw [hgy_18.at (fx_6 hX) (by decide)]
      have : (y_18 (a 6) 9).toInt = (y_8 (a 6) 9).toInt := by rw [hgy_18.at (fx_6 hX) (by decide)]
      have hI := hI.ag hgy_18 (by decide)
      have ha_19 : y_18 (a 41) = y_2 (a 41) := (hgy_18.at (fx_41 hX) (by decide)).trans ha_13
      have ha_20 : y_18 (a 42) = y_8 (a 42) := (hgy_18.at (fx_42 hX) (by decide)).trans rfl
      refine lv_iload_n hx hb dX7_seek_31 rfl (lv_at hl 0 rfl) ?_
      refine lv_icmp_eq (tgt := 38) hx hb dX7_seek_32 (by decide) (fun c_21 => ?_) (fun c_21 => ?_)
      · have nc_21 := z_eq rfl rfl c_21
        refine lv_aload_n hx hb dX7_seek_38 rfl (lv_at hl 1 rfl) ?_
        refine lv_iconst (v := 0) hx hb dX7_seek_39 (by decide) ?_
        refine tw_put (D := (dC, dI)) (x := 0) (ty := .boolean) (C := RX7) (T := TX7) (N := 13) hx hb hts (fun _ hh => (List.mem_cons_of_mem _ (List.mem_append_right _ (List.mem_append_right _ (List.mem_append_right _ (List.mem_append_left _ hh)))))) tyX7 tyX7_ok nmX7 hown hK hT hF hS (fx_6 hX) (by decide) cl_e16 rfl 12 (by decide) (hts (.fieldLink RX7 50 "TypingPool$Planner" "found" "Z") (List.mem_cons_of_mem _ (List.mem_append_left _ (List.mem_of_getElem? (i := 11) rfl)))) (fun _ h9 => h9) rfl (tyX7_ok 12 (by decide)) rfl rfl (Nat.le_of_ble_eq_true rfl) rfl dX7_seek_40 (fun H locs hT hS => ?_)
        obtain ⟨y_22, hy_22, hT⟩ : ∃ z : Nat → Nat → Int32, z = up2 y_18 (a 6) 12 (0 : Int32) ∧ tw (dC, dI) a k τ ln z g H := ⟨_, rfl, hT⟩
        have hG : ag τ [16, 51, 52, 53, 24, 27, 54, 55] y y_22 := by rw [hy_22]; exact hG.up (fx_6 hX) (by decide)
        have ha_23 : y_22 (a 41) = y_2 (a 41) := (show y_22 (a 41) = y_18 (a 41) from by rw [hy_22]; exact up2_o (kd_ne (fx_41 hX) (fx_6 hX) (by decide))).trans ha_19
        have ha_24 : y_22 (a 42) = y_8 (a 42) := (show y_22 (a 42) = y_18 (a 42) from by rw [hy_22]; exact up2_o (kd_ne (fx_42 hX) (fx_6 hX) (by decide))).trans ha_20
        have : (y_22 (a 6) 3).toInt = (y_18 (a 6) 3).toInt := by rw [hy_22, up2_e (by decide)]
        have : (y_22 (a 6) 5).toInt = (y_18 (a 6) 5).toInt := by rw [hy_22, up2_e (by decide)]
        have : (y_22 (a 6) 9).toInt = (y_18 (a 6) 9).toInt := by rw [hy_22, up2_e (by decide)]
        have hI := hI.ag (S := [16]) (y' := y_22) (by rw [hy_22]; exact ag.one (fx_6 hX)) (by decide)
        refine lv_aload_n hx hb dX7_seek_43 rfl (lv_at hl 1 rfl) ?_
        refine lv_iconst (v := 0) hx hb dX7_seek_44 (by decide) ?_
        refine tw_put (D := (dC, dI)) (x := 0) (ty := .int) (C := RX7) (T := TX7) (N := 13) hx hb hts (fun _ hh => (List.mem_cons_of_mem _ (List.mem_append_right _ (List.mem_append_right _ (List.mem_append_right _ (List.mem_append_left _ hh)))))) tyX7 tyX7_ok nmX7 hown hK hT hF hS (fx_6 hX) (by decide) cl_e16 rfl 9 (by decide) (hts (.fieldLink RX7 54 "TypingPool$Planner" "bestLength" "I") (List.mem_cons_of_mem _ (List.mem_append_left _ (List.mem_of_getElem? (i := 12) rfl)))) (fun _ h9 => h9) rfl (tyX7_ok 9 (by decide)) rfl rfl (Nat.le_of_ble_eq_true rfl) rfl dX7_seek_45 (fun H locs hT hS => ?_)
        obtain ⟨y_25, hy_25, hT⟩ : ∃ z : Nat → Nat → Int32, z = up2 y_22 (a 6) 9 (0 : Int32) ∧ tw (dC, dI) a k τ ln z g H := ⟨_, rfl, hT⟩
        have hG : ag τ [16, 51, 52, 53, 24, 27, 54, 55] y y_25 := by rw [hy_25]; exact hG.up (fx_6 hX) (by decide)
        have ha_26 : y_25 (a 41) = y_2 (a 41) := (show y_25 (a 41) = y_22 (a 41) from by rw [hy_25]; exact up2_o (kd_ne (fx_41 hX) (fx_6 hX) (by decide))).trans ha_23
        have ha_27 : y_25 (a 42) = y_8 (a 42) := (show y_25 (a 42) = y_22 (a 42) from by rw [hy_25]; exact up2_o (kd_ne (fx_42 hX) (fx_6 hX) (by decide))).trans ha_24
        have : (y_25 (a 6) 3).toInt = (y_22 (a 6) 3).toInt := by rw [hy_25, up2_e (by decide)]
        have : (y_25 (a 6) 5).toInt = (y_22 (a 6) 5).toInt := by rw [hy_25, up2_e (by decide)]
        have : (y_25 (a 6) 9).toInt = 0 := (congrArg Int32.toInt (show y_25 (a 6) 9 = (0 : Int32) from by rw [hy_25]; exact up2_i)).trans (zk (x := 0) 0 rfl)
        have hI := hI.ag (S := [16]) (y' := y_25) (by rw [hy_25]; exact ag.one (fx_6 hX)) (by decide)
        refine lv_aload_n hx hb dX7_seek_48 rfl (lv_at hl 1 rfl) ?_
        refine lv_iconst (v := 0) hx hb dX7_seek_49 (by decide) ?_
        refine tw_put (D := (dC, dI)) (x := 0) (ty := .int) (C := RX7) (T := TX7) (N := 13) hx hb hts (fun _ hh => (List.mem_cons_of_mem _ (List.mem_append_right _ (List.mem_append_right _ (List.mem_append_right _ (List.mem_append_left _ hh)))))) tyX7 tyX7_ok nmX7 hown hK hT hF hS (fx_6 hX) (by decide) cl_e16 rfl 10 (by decide) (hts (.fieldLink RX7 57 "TypingPool$Planner" "bestLate" "I") (List.mem_cons_of_mem _ (List.mem_append_left _ (List.mem_of_getElem? (i := 13) rfl)))) (fun _ h9 => h9) rfl (tyX7_ok 10 (by decide)) rfl rfl (Nat.le_of_ble_eq_true rfl) rfl dX7_seek_50 (fun H locs hT hS => ?_)
        obtain ⟨y_28, hy_28, hT⟩ : ∃ z : Nat → Nat → Int32, z = up2 y_25 (a 6) 10 (0 : Int32) ∧ tw (dC, dI) a k τ ln z g H := ⟨_, rfl, hT⟩
        have hG : ag τ [16, 51, 52, 53, 24, 27, 54, 55] y y_28 := by rw [hy_28]; exact hG.up (fx_6 hX) (by decide)
        have ha_29 : y_28 (a 41) = y_2 (a 41) := (show y_28 (a 41) = y_25 (a 41) from by rw [hy_28]; exact up2_o (kd_ne (fx_41 hX) (fx_6 hX) (by decide))).trans ha_26
        have ha_30 : y_28 (a 42) = y_8 (a 42) := (show y_28 (a 42) = y_25 (a 42) from by rw [hy_28]; exact up2_o (kd_ne (fx_42 hX) (fx_6 hX) (by decide))).trans ha_27
        have : (y_28 (a 6) 3).toInt = (y_25 (a 6) 3).toInt := by rw [hy_28, up2_e (by decide)]
        have : (y_28 (a 6) 5).toInt = (y_25 (a 6) 5).toInt := by rw [hy_28, up2_e (by decide)]
        have : (y_28 (a 6) 9).toInt = (y_25 (a 6) 9).toInt := by rw [hy_28, up2_e (by decide)]
        have hI := hI.ag (S := [16]) (y' := y_28) (by rw [hy_28]; exact ag.one (fx_6 hX)) (by decide)
        refine lv_aload_n hx hb dX7_seek_53 rfl (lv_at hl 1 rfl) ?_
        refine lv_iconst (v := 0) hx hb dX7_seek_54 (by decide) ?_
        refine tw_put (D := (dC, dI)) (x := 0) (ty := .int) (C := RX7) (T := TX7) (N := 13) hx hb hts (fun _ hh => (List.mem_cons_of_mem _ (List.mem_append_right _ (List.mem_append_right _ (List.mem_append_right _ (List.mem_append_left _ hh)))))) tyX7 tyX7_ok nmX7 hown hK hT hF hS (fx_6 hX) (by decide) cl_e16 rfl 11 (by decide) (hts (.fieldLink RX7 60 "TypingPool$Planner" "bestLateness" "I") (List.mem_cons_of_mem _ (List.mem_append_left _ (List.mem_of_getElem? (i := 14) rfl)))) (fun _ h9 => h9) rfl (tyX7_ok 11 (by decide)) rfl rfl (Nat.le_of_ble_eq_true rfl) rfl dX7_seek_55 (fun H locs hT hS => ?_)
        obtain ⟨y_31, hy_31, hT⟩ : ∃ z : Nat → Nat → Int32, z = up2 y_28 (a 6) 11 (0 : Int32) ∧ tw (dC, dI) a k τ ln z g H := ⟨_, rfl, hT⟩
        have hG : ag τ [16, 51, 52, 53, 24, 27, 54, 55] y y_31 := by rw [hy_31]; exact hG.up (fx_6 hX) (by decide)
        have ha_32 : y_31 (a 41) = y_2 (a 41) := (show y_31 (a 41) = y_28 (a 41) from by rw [hy_31]; exact up2_o (kd_ne (fx_41 hX) (fx_6 hX) (by decide))).trans ha_29
        have ha_33 : y_31 (a 42) = y_8 (a 42) := (show y_31 (a 42) = y_28 (a 42) from by rw [hy_31]; exact up2_o (kd_ne (fx_42 hX) (fx_6 hX) (by decide))).trans ha_30
        have : (y_31 (a 6) 3).toInt = (y_28 (a 6) 3).toInt := by rw [hy_31, up2_e (by decide)]
        have : (y_31 (a 6) 5).toInt = (y_28 (a 6) 5).toInt := by rw [hy_31, up2_e (by decide)]
        have : (y_31 (a 6) 9).toInt = (y_28 (a 6) 9).toInt := by rw [hy_31, up2_e (by decide)]
        have hI := hI.ag (S := [16]) (y' := y_31) (by rw [hy_31]; exact ag.one (fx_6 hX)) (by decide)
        refine lv_aload_n hx hb dX7_seek_58 rfl (lv_at hl 1 rfl) ?_
        refine lv_iconst (v := 0) hx hb dX7_seek_59 (by decide) ?_
        refine lv_iload_n hx hb dX7_seek_60 rfl (lv_at hl 0 rfl) ?_
        refine lv_iconst (v := 0) hx hb dX7_seek_61 (by decide) ?_
        refine lv_iconst (v := 0) hx hb dX7_seek_62 (by decide) ?_
        refine lv_iconst (v := 0) hx hb dX7_seek_63 (by decide) ?_
        have hFc := tw_free hF hS hA
        have hp_34 : (0 : Int32).toInt = 0 := (zk (x := 0) 0 rfl)
        have hp_35 : (0 : Int32).toInt = 0 := (zk (x := 0) 0 rfl)
        have hp_36 : (0 : Int32).toInt = 0 := (zk (x := 0) 0 rfl)
        have hp_37 : (0 : Int32).toInt = 0 := (zk (x := 0) 0 rfl)
        refine va_callv (va_runV (As := [.int 0, .int x_16, .int 0, .int 0, .int 0]) (rest := []) ⟨hx, hb, hml, hown, hts⟩ (c_beginHand0 l dC dI ad av H.size a k τ ln y_31 g u (0 : Int32) x_16 (0 : Int32) (0 : Int32) (0 : Int32) ((y_31 (a 6) 3).toInt) ((y_31 (a 6) 5).toInt) hI rfl rfl (by omega) (vl_mv hf_4 (by omega) ha_32) (vl_mv hf_10 (by omega) ha_33) (by omega) (by decide) (by decide)) (cwV 5 hts (gi_4 (List.mem_cons_of_mem _ (List.mem_append_left _ (List.mem_of_getElem? (i := 15) rfl))) (List.mem_cons_of_mem _ (List.mem_append_left _ (List.mem_of_getElem? (i := 16) rfl))) (List.mem_cons_of_mem _ (List.mem_append_left _ (List.mem_of_getElem? (i := 17) rfl))) (List.mem_cons_of_mem _ (List.mem_append_left _ (List.mem_of_getElem? (i := 3) rfl))) (fun _ hh => (List.mem_cons_of_mem _ (List.mem_append_right _ (List.mem_append_right _ (List.mem_append_right _ (List.mem_append_right _ (List.mem_append_right _ (List.mem_append_left _ hh)))))))) gd_c_beginHand0) rfl rfl rfl (by decide +kernel) ⟨Nat.le_of_ble_eq_true rfl, Nat.le_of_ble_eq_true rfl⟩) ⟨pw_blind, tw_recv hK hT (fx_6 hX) (by decide) cl_e16 rfl, pw_use hT hK hFc hS hM⟩ rfl rfl hl.1 rfl (lv_room (Nat.le_of_ble_eq_true rfl)) dX7_seek_64 ⟨Nat.le_of_ble_eq_true rfl, Nat.le_of_ble_eq_true rfl⟩) hS (fun q _ h => hFc q h) hFc (fun u0 t H locs ht hvm hw hB hz1 hk1 hS => ?_)
        refine W.widen (k := 0) (n := 0) (Nat.le_of_ble_eq_true rfl) (Nat.le_of_ble_eq_true rfl) ?_
        clear hvm hz1 hk1
        obtain ⟨y_39, hgy_39, hf_40, hf_41, hf_42, hT⟩ := hB
        rw [ht] at hT
        have hG := hG.tr hgy_39 (by decide)
        have hI := hI.ag hgy_39 (by decide)
        have ha_43 : y_39 (a 41) = y_2 (a 41) := (hgy_39.at (fx_41 hX) (by decide)).trans ha_32
        have ha_44 : y_39 (a 42) = y_8 (a 42) := (hgy_39.at (fx_42 hX) (by decide)).trans ha_33
        try simp only [hp_34, hp_35, hp_36, hp_37] at hf_40 hf_41 hf_42
        clear hp_34 hp_35 hp_36 hp_37
        refine lv_iconst (v := 0) hx hb dX7_seek_67 (by decide) ?_
        have hrv : (0 : Int32).toInt = 0 := (zk (x := 0) 0 rfl)
        exact W.iret (v := 0) hx hb hr (fun t ht hW9 => ⟨⟨0, 0, rfl, rfl, Or.inl ⟨y_39, rfl, hG, by omega, tw_at ht hT⟩⟩, hS.F ht⟩) hS.2.2 dX7_seek_68
      · have nc_21 := z_ne rfl rfl c_21
        refine lv_bipush (v := (-2)) hx hb dX7_seek_35 (by decide) ?_
        exact W.iret (v := (-2)) hx hb hr (fun t ht hW9 => ⟨⟨(-2), (-2), rfl, rfl, Or.inr (Or.inr (⟨y_18, rfl, hG, tw_at ht hT⟩))⟩, hS.F ht⟩) hS.2.2 dX7_seek_37
    · refine lq_top (v := 0) hre ?_
      rw [ht] at hT
      have hG := hG.tr hgy_12 (by decide)
      have hI := hI.ag hgy_12 (by decide)
      have ha_45 : y_12 (a 41) = y_2 (a 41) := (hgy_12.at (fx_41 hX) (by decide)).trans rfl
      refine lv_if_ne (tgt := 18) hx hb dX7_seek_13 (by decide) (fun c_46 => absurd c_46 (by decide)) (fun c_46 => ?_)
      refine lv_iconst (v := (-1)) hx hb dX7_seek_16 (by decide) ?_
      exact W.iret (v := (-1)) hx hb hr (fun t ht hW9 => ⟨⟨(-1), (-1), rfl, rfl, Or.inr (Or.inl ⟨y_12, rfl, hG, tw_at ht hT⟩)⟩, hS.F ht⟩) hS.2.2 dX7_seek_17
  · refine lq_top (v := 0) hre ?_
    rw [ht] at hT
    have hG := hG.tr hgy_5 (by decide)
    have hI := hI.ag hgy_5 (by decide)
    refine lv_if_eq (tgt := 16) hx hb dX7_seek_5 (by decide) (fun c_47 => ?_) (fun c_47 => absurd c_47 (by decide))
    refine lv_iconst (v := (-1)) hx hb dX7_seek_16 (by decide) ?_
    exact W.iret (v := (-1)) hx hb hr (fun t ht hW9 => ⟨⟨(-1), (-1), rfl, rfl, Or.inr (Or.inl ⟨y_5, rfl, hG, tw_at ht hT⟩)⟩, hS.F ht⟩) hS.2.2 dX7_seek_17
def wo_c_plan : List Cond := [.fieldLink RX11 49 "TypingPool" "planner" "LTypingPool$Planner;", .methodLink RX11 306 yX7_seek, .instanceMethod yX7_seek, .selects RX7 yX7_seek yX7_seek, .initialized RX7, .fieldLink RX11 309 "TypingPool$Planner" "bestLength" "I", .fieldLink RX11 65 "TypingPool" "rowLength" "I", .fieldLink RX11 312 "TypingPool$Planner" "best" "[I", .fieldLink RX11 61 "TypingPool" "row" "[I", .methodLink RX11 315 arraycopyName, .native arraycopyName, .static arraycopyName, .initialized "java/lang/System", .fieldLink RX11 321 "TypingPool$Planner" "bestLate" "I"]
def wm_c_plan : List Cond := .code yX11_plan cX11_plan 4 (some .int) :: (wo_c_plan ++ (wsX110 ++ (wm_c_seek ++ (wsX70 ++ ([] : List Cond)))))
theorem gd_c_plan : ∀ w ∈ wm_c_plan, goodWord w = true := gd_c rfl (gd_a (by decide) (gd_a gd_wsX110 (gd_a gd_c_seek (gd_a gd_wsX70 gd_nil))))
set_option maxRecDepth 20000 in
theorem im_c_plan : ∀ w ∈ wm_c_plan, w ∈ lw_tbl := im_c (in_r [.code yX11_plan cX11_plan 4 (some .int)] [1018] (by decide +kernel)) (in_app (in_r wo_c_plan [564, 1019, 1020, 1021, 85, 526, 568, 524, 567, 1064, 378, 377, 82, 528] (by decide +kernel)) (in_app im_wsX110 (in_app im_c_seek (in_app im_wsX70 im_nil))))
set_option maxHeartbeats 4000000 in
set_option maxRecDepth 100000 in
theorem c_plan (l : Launch) (dC : Nat → ClassId) (dI : Nat → Nat → Nat) (ad av : Nat → Nat) (sz : Nat) (a : Nat → Nat) (k : Nat → ClassId) (τ ln : Nat → Nat) (y : Nat → Nat → Int32) (g : Nat → Nat → Option Nat) (u : Nat → Int) (p0 : Int32) (p1 : Int32) (hI : IC a u τ ln y g) : Met l yX11_plan wm_c_plan ({ frames := 21, cells := 0, slots := 0, locals := 1260 }) (pw_ ad av (dC, dI) sz [.ref (a 0), .int p0, .int p1] a k τ ln y g) (va_Qi (fun (r u : Int32) => u = r) (fun (r : Int32) (t : State) => (∃ (u' : Nat → Int), (∀ i, i ∉ ([7] : List Nat) → u' i = u i) ∧ pq (dC, dI) a k τ y g u' sz t.heap)) (fr τ sz)) 0 0 (fr τ sz) := by
  refine Met.ofW (cc := cX11_plan) (maxL := 4) (ret := (some .int)) (by decide) rfl ?_
  intro p e s m args below meth c s₁ B hml hv
  obtain ⟨rfl, hsz, hT, hK, hM⟩ := hv
  have hx := B.exec
  have hb := B.bytes
  have hr := B.returns
  have hts := atoms_spec (ws := wm_c_plan) B.pre
  have hown : s.vm.findClass RX11 = some m.cls := findClass_of_methodNamed B.named
  have hlocks := B.notSynchronized
  subst hsz
  generalize hAe : fr τ s.heap.size = A at hM ⊢
  have hA : ∀ q : Nat, s.heap.size ≤ q → A q := fun q h => by rw [← hAe]; exact Or.inr h
  have hF : ∀ q, τ q ≠ 0 → A q := fun q h => by rw [← hAe]; exact Or.inl h
  have hS : va_S A s.heap s.heap [] := va_S.rf
  have hX := hI.1
  have hR := ic_r hI
  have hMo : mono τ τ s.heap.size := mono.rf
  have hKM : kpM τ y g y g := kpM.rf
  have hl := lv_entry ([.ref (a 0), .int p0, .int p1]) (n := 4) (Nat.le_of_ble_eq_true rfl)
  rw [lg_entry_eq]
  generalize (lg_sl ([.ref (a 0), .int p0, .int p1]) ++ List.replicate (4 - (lg_sl ([.ref (a 0), .int p0, .int p1])).length) Slot.unset).toArray = ls at hl ⊢
  have hl : lv_has ls 4 [(0, .ref (a 0)), (1, .int p0), (2, .int p1)] := hl
  refine lv_aload_n hx hb dX11_plan_0 rfl (lv_at hl 0 rfl) ?_
  refine tw_get (D := (dC, dI)) (v := .ref (a 6)) (C := RX11) (T := TX11) (N := 10) hx hb hts (fun _ hh => (List.mem_cons_of_mem _ (List.mem_append_right _ (List.mem_append_left _ hh)))) hown hK hT (fx_0 hX) (by decide) cl_e10 rfl 5 (by decide) (hts (.fieldLink RX11 49 "TypingPool" "planner" "LTypingPool$Planner;") (List.mem_cons_of_mem _ (List.mem_append_left _ (List.mem_of_getElem? (i := 0) rfl)))) (fun _ h9 => h9) rfl dX11_plan_1 ?_
  refine lv_iload_n hx hb dX11_plan_4 rfl (lv_at hl 1 rfl) ?_
  refine lv_iload_n hx hb dX11_plan_5 rfl (lv_at hl 2 rfl) ?_
  have hFc := tw_free hF hS hA
  refine va_calli (va_runV (As := [.int p0, .int p1]) (rest := []) ⟨hx, hb, hml, hown, hts⟩ (c_seek l dC dI ad av s.heap.size a k τ ln y g u p0 p1 hI ) (cwV 2 hts (gi_4 (List.mem_cons_of_mem _ (List.mem_append_left _ (List.mem_of_getElem? (i := 1) rfl))) (List.mem_cons_of_mem _ (List.mem_append_left _ (List.mem_of_getElem? (i := 2) rfl))) (List.mem_cons_of_mem _ (List.mem_append_left _ (List.mem_of_getElem? (i := 3) rfl))) (List.mem_cons_of_mem _ (List.mem_append_left _ (List.mem_of_getElem? (i := 4) rfl))) (fun _ hh => (List.mem_cons_of_mem _ (List.mem_append_right _ (List.mem_append_right _ (List.mem_append_left _ hh))))) gd_c_seek) rfl rfl rfl (by decide +kernel) ⟨Nat.le_of_ble_eq_true rfl, Nat.le_of_ble_eq_true rfl⟩) ⟨pw_blind, tw_recv hK hT (fx_6 hX) (by decide) cl_e16 rfl, pw_use hT hK hFc hS hM⟩ rfl rfl hl.1 rfl (lv_room (Nat.le_of_ble_eq_true rfl)) dX11_plan_6 ⟨Nat.le_of_ble_eq_true rfl, Nat.le_of_ble_eq_true rfl⟩) hS (fun q _ h => hFc q h) hFc (fun r0 r_1 t H locs ht hvm hw hB hz1 hk1 hS => ?_)
  refine W.widen (k := 0) (n := 0) (Nat.le_of_ble_eq_true rfl) (Nat.le_of_ble_eq_true rfl) ?_
  clear hvm hz1 hk1
  subst hw
  rcases hB with ⟨y_2, hre, hgy_2, hf_3, hT⟩ | ⟨y_4, hre, hgy_4, hT⟩ | ⟨y_5, hre, hgy_5, hT⟩
  · refine lq_top (v := 0) hre ?_
    rw [ht] at hT
    have hKM := hKM.ag hMo hgy_2 (by decide)
    have hI := hI.ag hgy_2 (by decide)
    refine lv_istore_n (lv' := [(3, .int 0), (0, .ref (a 0)), (1, .int p0), (2, .int p1)]) hx hb dX11_plan_9 rfl hl (by decide) rfl (fun ls hl => ?_)
    refine lv_iload_n hx hb dX11_plan_10 rfl (lv_at hl 0 rfl) ?_
    refine lv_if_ge (tgt := 16) hx hb dX11_plan_11 (by decide) (fun c_6 => ?_) (fun c_6 => absurd c_6 (by decide))
    refine lv_aload_n hx hb dX11_plan_16 rfl (lv_at hl 1 rfl) ?_
    refine lv_aload_n hx hb dX11_plan_17 rfl (lv_at hl 1 rfl) ?_
    refine tw_get (D := (dC, dI)) (v := .ref (a 6)) (C := RX11) (T := TX11) (N := 10) hx hb hts (fun _ hh => (List.mem_cons_of_mem _ (List.mem_append_right _ (List.mem_append_left _ hh)))) hown hK hT (fx_0 hX) (by decide) cl_e10 rfl 5 (by decide) (hts (.fieldLink RX11 49 "TypingPool" "planner" "LTypingPool$Planner;") (List.mem_cons_of_mem _ (List.mem_append_left _ (List.mem_of_getElem? (i := 0) rfl)))) (fun _ h9 => h9) rfl dX11_plan_18 ?_
    refine tw_get (D := (dC, dI)) (v := .int (y_2 (a 6) 9)) (C := RX7) (T := TX7) (N := 13) hx hb hts (fun _ hh => (List.mem_cons_of_mem _ (List.mem_append_right _ (List.mem_append_right _ (List.mem_append_right _ (List.mem_append_left _ hh)))))) hown hK hT (fx_6 hX) (by decide) cl_e16 rfl 9 (by decide) (hts (.fieldLink RX11 309 "TypingPool$Planner" "bestLength" "I") (List.mem_cons_of_mem _ (List.mem_append_left _ (List.mem_of_getElem? (i := 5) rfl)))) (fun _ h9 => h9) rfl dX11_plan_21 ?_
    refine tw_put (D := (dC, dI)) (x := y_2 (a 6) 9) (ty := .int) (C := RX11) (T := TX11) (N := 10) hx hb hts (fun _ hh => (List.mem_cons_of_mem _ (List.mem_append_right _ (List.mem_append_left _ hh)))) tyX11 tyX11_ok nmX11 hown hK hT hF hS (fx_0 hX) (by decide) cl_e10 rfl 9 (by decide) (hts (.fieldLink RX11 65 "TypingPool" "rowLength" "I") (List.mem_cons_of_mem _ (List.mem_append_left _ (List.mem_of_getElem? (i := 6) rfl)))) (fun _ h9 => h9) rfl (tyX11_ok 9 (by decide)) rfl rfl (Nat.le_of_ble_eq_true rfl) rfl dX11_plan_24 (fun H locs hT hS => ?_)
    obtain ⟨y_7, hy_7, hT⟩ : ∃ z : Nat → Nat → Int32, z = up2 y_2 (a 0) 9 (y_2 (a 6) 9) ∧ tw (dC, dI) a k τ ln z g H := ⟨_, rfl, hT⟩
    have hKM : kpM τ y g y_7 g := by rw [hy_7]; exact hKM.up hMo (fx_0 hX) (by decide)
    have : (y_7 (a 6) 9).toInt = (y_2 (a 6) 9).toInt := by rw [hy_7, up2_o (kd_ne (fx_6 hX) (fx_0 hX) (by decide))]
    have hp_8 : (y_2 (a 6) 9).toInt = (y_2 (a 6) 9).toInt := rfl
    have hI := (hI.set7 hp_8 (by omega) (by omega))
    rw [← hy_7] at hI
    refine lv_aload_n hx hb dX11_plan_27 rfl (lv_at hl 1 rfl) ?_
    refine tw_get (D := (dC, dI)) (v := .ref (a 6)) (C := RX11) (T := TX11) (N := 10) hx hb hts (fun _ hh => (List.mem_cons_of_mem _ (List.mem_append_right _ (List.mem_append_left _ hh)))) hown hK hT (fx_0 hX) (by decide) cl_e10 rfl 5 (by decide) (hts (.fieldLink RX11 49 "TypingPool" "planner" "LTypingPool$Planner;") (List.mem_cons_of_mem _ (List.mem_append_left _ (List.mem_of_getElem? (i := 0) rfl)))) (fun _ h9 => h9) rfl dX11_plan_28 ?_
    refine tw_get (D := (dC, dI)) (v := .ref (a 45)) (C := RX7) (T := TX7) (N := 13) hx hb hts (fun _ hh => (List.mem_cons_of_mem _ (List.mem_append_right _ (List.mem_append_right _ (List.mem_append_right _ (List.mem_append_left _ hh)))))) hown hK hT (fx_6 hX) (by decide) cl_e16 rfl 8 (by decide) (hts (.fieldLink RX11 312 "TypingPool$Planner" "best" "[I") (List.mem_cons_of_mem _ (List.mem_append_left _ (List.mem_of_getElem? (i := 7) rfl)))) (fun _ h9 => h9) rfl dX11_plan_31 ?_
    refine lv_iconst (v := 0) hx hb dX11_plan_34 (by decide) ?_
    refine lv_aload_n hx hb dX11_plan_35 rfl (lv_at hl 1 rfl) ?_
    refine tw_get (D := (dC, dI)) (v := .ref (a 8)) (C := RX11) (T := TX11) (N := 10) hx hb hts (fun _ hh => (List.mem_cons_of_mem _ (List.mem_append_right _ (List.mem_append_left _ hh)))) hown hK hT (fx_0 hX) (by decide) cl_e10 rfl 8 (by decide) (hts (.fieldLink RX11 61 "TypingPool" "row" "[I") (List.mem_cons_of_mem _ (List.mem_append_left _ (List.mem_of_getElem? (i := 8) rfl)))) (fun _ h9 => h9) rfl dX11_plan_36 ?_
    refine lv_iconst (v := 0) hx hb dX11_plan_39 (by decide) ?_
    refine lv_aload_n hx hb dX11_plan_40 rfl (lv_at hl 1 rfl) ?_
    refine tw_get (D := (dC, dI)) (v := .int (y_7 (a 0) 9)) (C := RX11) (T := TX11) (N := 10) hx hb hts (fun _ hh => (List.mem_cons_of_mem _ (List.mem_append_right _ (List.mem_append_left _ hh)))) hown hK hT (fx_0 hX) (by decide) cl_e10 rfl 9 (by decide) (hts (.fieldLink RX11 65 "TypingPool" "rowLength" "I") (List.mem_cons_of_mem _ (List.mem_append_left _ (List.mem_of_getElem? (i := 6) rfl)))) (fun _ h9 => h9) rfl dX11_plan_41 ?_
    have hc_9 : (y_7 (a 0) 9).toInt = (y_2 (a 6) 9).toInt := by rw [ic_7 hI]; simp [upc]
    have hcn0 : (y_7 (a 0) 9).toInt = (y_2 (a 6) 9).toInt := hc_9
    refine tw_copy (n := (y_7 (a 0) 9)) hx hb (by rw [hml]; exact hl.1.symm) hown (hts (.methodLink RX11 315 arraycopyName) (List.mem_cons_of_mem _ (List.mem_append_left _ (List.mem_of_getElem? (i := 9) rfl)))) (hts (.native arraycopyName) (List.mem_cons_of_mem _ (List.mem_append_left _ (List.mem_of_getElem? (i := 10) rfl)))) (hts (.static arraycopyName) (List.mem_cons_of_mem _ (List.mem_append_left _ (List.mem_of_getElem? (i := 11) rfl)))) (hts (.initialized "java/lang/System") (List.mem_cons_of_mem _ (List.mem_append_left _ (List.mem_of_getElem? (i := 12) rfl)))) hK hT hF hS (fx_45 hX) (by decide) cl_e55 (fx_8 hX) (by decide) (fun _ => cl_e18) (by decide) (by decide) (cp_n0 hc_9 (by omega)) (cp_le hc_9 (by omega) (by omega)) (cp_le hc_9 (by omega) (by omega)) (Nat.le_of_ble_eq_true rfl) (Nat.le_of_ble_eq_true rfl) dX11_plan_44 (fun H locs hT hS => ?_)
    obtain ⟨y_10, hy_10, hT⟩ : ∃ z : Nat → Nat → Int32, ag τ [18] y_7 z ∧ tw (dC, dI) a k τ ln z g H := ⟨_, ag_nw (fx_8 hX), hT⟩
    have hKM := hKM.ag hMo hy_10 (by decide)
    have hI := hI.ag hy_10 (by decide)
    have : (y_10 (a 6) 9).toInt = (y_7 (a 6) 9).toInt := by rw [hy_10.at (fx_6 hX) (by decide)]
    refine lv_aload_n hx hb dX11_plan_47 rfl (lv_at hl 1 rfl) ?_
    refine tw_get (D := (dC, dI)) (v := .ref (a 6)) (C := RX11) (T := TX11) (N := 10) hx hb hts (fun _ hh => (List.mem_cons_of_mem _ (List.mem_append_right _ (List.mem_append_left _ hh)))) hown hK hT (fx_0 hX) (by decide) cl_e10 rfl 5 (by decide) (hts (.fieldLink RX11 49 "TypingPool" "planner" "LTypingPool$Planner;") (List.mem_cons_of_mem _ (List.mem_append_left _ (List.mem_of_getElem? (i := 0) rfl)))) (fun _ h9 => h9) rfl dX11_plan_48 ?_
    refine tw_get (D := (dC, dI)) (v := .int (y_10 (a 6) 10)) (C := RX7) (T := TX7) (N := 13) hx hb hts (fun _ hh => (List.mem_cons_of_mem _ (List.mem_append_right _ (List.mem_append_right _ (List.mem_append_right _ (List.mem_append_left _ hh)))))) hown hK hT (fx_6 hX) (by decide) cl_e16 rfl 10 (by decide) (hts (.fieldLink RX11 321 "TypingPool$Planner" "bestLate" "I") (List.mem_cons_of_mem _ (List.mem_append_left _ (List.mem_of_getElem? (i := 13) rfl)))) (fun _ h9 => h9) rfl dX11_plan_51 ?_
    exact W.iret (v := y_10 (a 6) 10) hx hb hr (fun t ht hW9 => ⟨⟨y_10 (a 6) 10, y_10 (a 6) 10, rfl, rfl, ⟨(upc u 7 ((y_2 (a 6) 9).toInt)), (by intro i hi; simp only [List.mem_cons, List.not_mem_nil, or_false, not_or] at hi; unfold upc; repeat rw [if_neg (by omega)]), ⟨τ, ln, y_10, g, hMo, hKM, hI, tw_at ht hT⟩⟩⟩, hS.F ht⟩) hS.2.2 dX11_plan_54
  · refine lq_top (v := (-1)) hre ?_
    rw [ht] at hT
    have hKM := hKM.ag hMo hgy_4 (by decide)
    have hI := hI.ag hgy_4 (by decide)
    refine lv_istore_n (lv' := [(3, .int (-1)), (0, .ref (a 0)), (1, .int p0), (2, .int p1)]) hx hb dX11_plan_9 rfl hl (by decide) rfl (fun ls hl => ?_)
    refine lv_iload_n hx hb dX11_plan_10 rfl (lv_at hl 0 rfl) ?_
    refine lv_if_ge (tgt := 16) hx hb dX11_plan_11 (by decide) (fun c_11 => absurd c_11 (by decide)) (fun c_11 => ?_)
    refine lv_iload_n hx hb dX11_plan_14 rfl (lv_at hl 0 rfl) ?_
    exact W.iret (v := (-1)) hx hb hr (fun t ht hW9 => ⟨⟨(-1), (-1), rfl, rfl, ⟨u, fun _ _ => rfl, ⟨τ, ln, y_4, g, hMo, hKM, hI, tw_at ht hT⟩⟩⟩, hS.F ht⟩) hS.2.2 dX11_plan_15
  · refine lq_top (v := (-2)) hre ?_
    rw [ht] at hT
    have hKM := hKM.ag hMo hgy_5 (by decide)
    have hI := hI.ag hgy_5 (by decide)
    refine lv_istore_n (lv' := [(3, .int (-2)), (0, .ref (a 0)), (1, .int p0), (2, .int p1)]) hx hb dX11_plan_9 rfl hl (by decide) rfl (fun ls hl => ?_)
    refine lv_iload_n hx hb dX11_plan_10 rfl (lv_at hl 0 rfl) ?_
    refine lv_if_ge (tgt := 16) hx hb dX11_plan_11 (by decide) (fun c_12 => absurd c_12 (by decide)) (fun c_12 => ?_)
    refine lv_iload_n hx hb dX11_plan_14 rfl (lv_at hl 0 rfl) ?_
    exact W.iret (v := (-2)) hx hb hr (fun t ht hW9 => ⟨⟨(-2), (-2), rfl, rfl, ⟨u, fun _ _ => rfl, ⟨τ, ln, y_5, g, hMo, hKM, hI, tw_at ht hT⟩⟩⟩, hS.F ht⟩) hS.2.2 dX11_plan_15
def wo_c_lateness : List Cond := [.fieldLink RX11 49 "TypingPool" "planner" "LTypingPool$Planner;", .methodLink RX11 306 yX7_seek, .instanceMethod yX7_seek, .selects RX7 yX7_seek yX7_seek, .initialized RX7, .fieldLink RX11 324 "TypingPool$Planner" "bestLateness" "I"]
def wm_c_lateness : List Cond := .code yX11_lateness cX11_lateness 4 (some .int) :: (wo_c_lateness ++ (wsX110 ++ (wm_c_seek ++ (wsX70 ++ ([] : List Cond)))))
theorem gd_c_lateness : ∀ w ∈ wm_c_lateness, goodWord w = true := gd_c rfl (gd_a (by decide) (gd_a gd_wsX110 (gd_a gd_c_seek (gd_a gd_wsX70 gd_nil))))
set_option maxRecDepth 20000 in
theorem im_c_lateness : ∀ w ∈ wm_c_lateness, w ∈ lw_tbl := im_c (in_r [.code yX11_lateness cX11_lateness 4 (some .int)] [1068] (by decide +kernel)) (in_app (in_r wo_c_lateness [564, 1019, 1020, 1021, 85, 530] (by decide +kernel)) (in_app im_wsX110 (in_app im_c_seek (in_app im_wsX70 im_nil))))
set_option maxHeartbeats 4000000 in
set_option maxRecDepth 100000 in
theorem c_lateness (l : Launch) (dC : Nat → ClassId) (dI : Nat → Nat → Nat) (ad av : Nat → Nat) (sz : Nat) (a : Nat → Nat) (k : Nat → ClassId) (τ ln : Nat → Nat) (y : Nat → Nat → Int32) (g : Nat → Nat → Option Nat) (u : Nat → Int) (p0 : Int32) (p1 : Int32) (hI : IC a u τ ln y g) : Met l yX11_lateness wm_c_lateness ({ frames := 21, cells := 0, slots := 0, locals := 1260 }) (pw_ ad av (dC, dI) sz [.ref (a 0), .int p0, .int p1] a k τ ln y g) (va_Qi (fun (r u : Int32) => u = r) (fun (r : Int32) (t : State) => (∃ (u' : Nat → Int), (∀ i, i ∉ ([] : List Nat) → u' i = u i) ∧ pq (dC, dI) a k τ y g u' sz t.heap)) (fr τ sz)) 0 0 (fr τ sz) := by
  refine Met.ofW (cc := cX11_lateness) (maxL := 4) (ret := (some .int)) (by decide) rfl ?_
  intro p e s m args below meth c s₁ B hml hv
  obtain ⟨rfl, hsz, hT, hK, hM⟩ := hv
  have hx := B.exec
  have hb := B.bytes
  have hr := B.returns
  have hts := atoms_spec (ws := wm_c_lateness) B.pre
  have hown : s.vm.findClass RX11 = some m.cls := findClass_of_methodNamed B.named
  have hlocks := B.notSynchronized
  subst hsz
  generalize hAe : fr τ s.heap.size = A at hM ⊢
  have hA : ∀ q : Nat, s.heap.size ≤ q → A q := fun q h => by rw [← hAe]; exact Or.inr h
  have hF : ∀ q, τ q ≠ 0 → A q := fun q h => by rw [← hAe]; exact Or.inl h
  have hS : va_S A s.heap s.heap [] := va_S.rf
  have hX := hI.1
  have hR := ic_r hI
  have hMo : mono τ τ s.heap.size := mono.rf
  have hKM : kpM τ y g y g := kpM.rf
  have hl := lv_entry ([.ref (a 0), .int p0, .int p1]) (n := 4) (Nat.le_of_ble_eq_true rfl)
  rw [lg_entry_eq]
  generalize (lg_sl ([.ref (a 0), .int p0, .int p1]) ++ List.replicate (4 - (lg_sl ([.ref (a 0), .int p0, .int p1])).length) Slot.unset).toArray = ls at hl ⊢
  have hl : lv_has ls 4 [(0, .ref (a 0)), (1, .int p0), (2, .int p1)] := hl
  refine lv_aload_n hx hb dX11_lateness_0 rfl (lv_at hl 0 rfl) ?_
  refine tw_get (D := (dC, dI)) (v := .ref (a 6)) (C := RX11) (T := TX11) (N := 10) hx hb hts (fun _ hh => (List.mem_cons_of_mem _ (List.mem_append_right _ (List.mem_append_left _ hh)))) hown hK hT (fx_0 hX) (by decide) cl_e10 rfl 5 (by decide) (hts (.fieldLink RX11 49 "TypingPool" "planner" "LTypingPool$Planner;") (List.mem_cons_of_mem _ (List.mem_append_left _ (List.mem_of_getElem? (i := 0) rfl)))) (fun _ h9 => h9) rfl dX11_lateness_1 ?_
  refine lv_iload_n hx hb dX11_lateness_4 rfl (lv_at hl 1 rfl) ?_
  refine lv_iload_n hx hb dX11_lateness_5 rfl (lv_at hl 2 rfl) ?_
  have hFc := tw_free hF hS hA
  refine va_calli (va_runV (As := [.int p0, .int p1]) (rest := []) ⟨hx, hb, hml, hown, hts⟩ (c_seek l dC dI ad av s.heap.size a k τ ln y g u p0 p1 hI ) (cwV 2 hts (gi_4 (List.mem_cons_of_mem _ (List.mem_append_left _ (List.mem_of_getElem? (i := 1) rfl))) (List.mem_cons_of_mem _ (List.mem_append_left _ (List.mem_of_getElem? (i := 2) rfl))) (List.mem_cons_of_mem _ (List.mem_append_left _ (List.mem_of_getElem? (i := 3) rfl))) (List.mem_cons_of_mem _ (List.mem_append_left _ (List.mem_of_getElem? (i := 4) rfl))) (fun _ hh => (List.mem_cons_of_mem _ (List.mem_append_right _ (List.mem_append_right _ (List.mem_append_left _ hh))))) gd_c_seek) rfl rfl rfl (by decide +kernel) ⟨Nat.le_of_ble_eq_true rfl, Nat.le_of_ble_eq_true rfl⟩) ⟨pw_blind, tw_recv hK hT (fx_6 hX) (by decide) cl_e16 rfl, pw_use hT hK hFc hS hM⟩ rfl rfl hl.1 rfl (lv_room (Nat.le_of_ble_eq_true rfl)) dX11_lateness_6 ⟨Nat.le_of_ble_eq_true rfl, Nat.le_of_ble_eq_true rfl⟩) hS (fun q _ h => hFc q h) hFc (fun r0 r_1 t H locs ht hvm hw hB hz1 hk1 hS => ?_)
  refine W.widen (k := 0) (n := 0) (Nat.le_of_ble_eq_true rfl) (Nat.le_of_ble_eq_true rfl) ?_
  clear hvm hz1 hk1
  subst hw
  rcases hB with ⟨y_2, hre, hgy_2, hf_3, hT⟩ | ⟨y_4, hre, hgy_4, hT⟩ | ⟨y_5, hre, hgy_5, hT⟩
  · refine lq_top (v := 0) hre ?_
    rw [ht] at hT
    have hKM := hKM.ag hMo hgy_2 (by decide)
    have hI := hI.ag hgy_2 (by decide)
    refine lv_istore_n (lv' := [(3, .int 0), (0, .ref (a 0)), (1, .int p0), (2, .int p1)]) hx hb dX11_lateness_9 rfl hl (by decide) rfl (fun ls hl => ?_)
    refine lv_iload_n hx hb dX11_lateness_10 rfl (lv_at hl 0 rfl) ?_
    refine lv_if_ge (tgt := 18) hx hb dX11_lateness_11 (by decide) (fun c_6 => ?_) (fun c_6 => absurd c_6 (by decide))
    refine lv_aload_n hx hb dX11_lateness_18 rfl (lv_at hl 1 rfl) ?_
    refine tw_get (D := (dC, dI)) (v := .ref (a 6)) (C := RX11) (T := TX11) (N := 10) hx hb hts (fun _ hh => (List.mem_cons_of_mem _ (List.mem_append_right _ (List.mem_append_left _ hh)))) hown hK hT (fx_0 hX) (by decide) cl_e10 rfl 5 (by decide) (hts (.fieldLink RX11 49 "TypingPool" "planner" "LTypingPool$Planner;") (List.mem_cons_of_mem _ (List.mem_append_left _ (List.mem_of_getElem? (i := 0) rfl)))) (fun _ h9 => h9) rfl dX11_lateness_19 ?_
    refine tw_get (D := (dC, dI)) (v := .int (y_2 (a 6) 11)) (C := RX7) (T := TX7) (N := 13) hx hb hts (fun _ hh => (List.mem_cons_of_mem _ (List.mem_append_right _ (List.mem_append_right _ (List.mem_append_right _ (List.mem_append_left _ hh)))))) hown hK hT (fx_6 hX) (by decide) cl_e16 rfl 11 (by decide) (hts (.fieldLink RX11 324 "TypingPool$Planner" "bestLateness" "I") (List.mem_cons_of_mem _ (List.mem_append_left _ (List.mem_of_getElem? (i := 5) rfl)))) (fun _ h9 => h9) rfl dX11_lateness_22 ?_
    exact W.iret (v := y_2 (a 6) 11) hx hb hr (fun t ht hW9 => ⟨⟨y_2 (a 6) 11, y_2 (a 6) 11, rfl, rfl, ⟨u, fun _ _ => rfl, ⟨τ, ln, y_2, g, hMo, hKM, hI, tw_at ht hT⟩⟩⟩, hS.F ht⟩) hS.2.2 dX11_lateness_25
  · refine lq_top (v := (-1)) hre ?_
    rw [ht] at hT
    have hKM := hKM.ag hMo hgy_4 (by decide)
    have hI := hI.ag hgy_4 (by decide)
    refine lv_istore_n (lv' := [(3, .int (-1)), (0, .ref (a 0)), (1, .int p0), (2, .int p1)]) hx hb dX11_lateness_9 rfl hl (by decide) rfl (fun ls hl => ?_)
    refine lv_iload_n hx hb dX11_lateness_10 rfl (lv_at hl 0 rfl) ?_
    refine lv_if_ge (tgt := 18) hx hb dX11_lateness_11 (by decide) (fun c_7 => absurd c_7 (by decide)) (fun c_7 => ?_)
    refine lv_iload_n hx hb dX11_lateness_14 rfl (lv_at hl 0 rfl) ?_
    refine lv_goto (tgt := 25) hx hb dX11_lateness_15 (by decide) ?_
    exact W.iret (v := (-1)) hx hb hr (fun t ht hW9 => ⟨⟨(-1), (-1), rfl, rfl, ⟨u, fun _ _ => rfl, ⟨τ, ln, y_4, g, hMo, hKM, hI, tw_at ht hT⟩⟩⟩, hS.F ht⟩) hS.2.2 dX11_lateness_25
  · refine lq_top (v := (-2)) hre ?_
    rw [ht] at hT
    have hKM := hKM.ag hMo hgy_5 (by decide)
    have hI := hI.ag hgy_5 (by decide)
    refine lv_istore_n (lv' := [(3, .int (-2)), (0, .ref (a 0)), (1, .int p0), (2, .int p1)]) hx hb dX11_lateness_9 rfl hl (by decide) rfl (fun ls hl => ?_)
    refine lv_iload_n hx hb dX11_lateness_10 rfl (lv_at hl 0 rfl) ?_
    refine lv_if_ge (tgt := 18) hx hb dX11_lateness_11 (by decide) (fun c_8 => absurd c_8 (by decide)) (fun c_8 => ?_)
    refine lv_iload_n hx hb dX11_lateness_14 rfl (lv_at hl 0 rfl) ?_
    refine lv_goto (tgt := 25) hx hb dX11_lateness_15 (by decide) ?_
    exact W.iret (v := (-2)) hx hb hr (fun t ht hW9 => ⟨⟨(-2), (-2), rfl, rfl, ⟨u, fun _ _ => rfl, ⟨τ, ln, y_5, g, hMo, hKM, hI, tw_at ht hT⟩⟩⟩, hS.F ht⟩) hS.2.2 dX11_lateness_25
def wo_c_takeOver : List Cond := [.fieldLink RX3 9 "TypingPool$Floor" "now" "I", .fieldLink RX3 15 "TypingPool$Floor" "has" "[I", .methodLink RX3 51 arraycopyName, .native arraycopyName, .static arraycopyName, .initialized "java/lang/System", .fieldLink RX3 19 "TypingPool$Floor" "rate" "[I", .fieldLink RX3 22 "TypingPool$Floor" "words" "[I", .fieldLink RX3 25 "TypingPool$Floor" "worked" "[I", .fieldLink RX3 28 "TypingPool$Floor" "by" "[I", .fieldLink RX3 31 "TypingPool$Floor" "taken" "[I", .fieldLink RX3 34 "TypingPool$Floor" "done" "[I", .fieldLink RX3 37 "TypingPool$Floor" "workLeft" "[I", .fieldLink RX3 40 "TypingPool$Floor" "knew" "[I"]
def wm_c_takeOver : List Cond := .code yX3_takeOver cX3_takeOver 2 none :: (wo_c_takeOver ++ (wsX30 ++ ([] : List Cond)))
theorem gd_c_takeOver : ∀ w ∈ wm_c_takeOver, goodWord w = true := gd_c rfl (gd_a (by decide) (gd_a gd_wsX30 gd_nil))
set_option maxRecDepth 20000 in
theorem im_c_takeOver : ∀ w ∈ wm_c_takeOver, w ∈ lw_tbl := im_c (in_r [.code yX3_takeOver cX3_takeOver 2 none] [1080] (by decide +kernel)) (in_app (in_r wo_c_takeOver [428, 431, 1081, 378, 377, 82, 434, 437, 440, 442, 444, 446, 449, 452] (by decide +kernel)) (in_app im_wsX30 im_nil))
set_option maxHeartbeats 4000000 in
set_option maxRecDepth 100000 in
theorem c_takeOver (l : Launch) (dC : Nat → ClassId) (dI : Nat → Nat → Nat) (ad av : Nat → Nat) (sz : Nat) (a : Nat → Nat) (k : Nat → ClassId) (τ ln : Nat → Nat) (y : Nat → Nat → Int32) (g : Nat → Nat → Option Nat) (u : Nat → Int) (hI : IC a u τ ln y g) : Met l yX3_takeOver wm_c_takeOver ({ frames := 2, cells := 0, slots := 0, locals := 120 }) (pw_ ad av (dC, dI) sz [.ref (a 4), .ref (a 3)] a k τ ln y g) (va_Qv (fun (_ : Unit) => True) (fun (_ : Unit) (t : State) => (∃ (y' : Nat → Nat → Int32), ag τ [14, 40, 41, 42, 43, 44, 45, 46, 47, 48] y y' ∧ tw (dC, dI) a k τ ln y' g t.heap)) (fr τ sz)) 0 0 (fr τ sz) := by
  refine Met.ofW (cc := cX3_takeOver) (maxL := 2) (ret := none) (by decide) rfl ?_
  intro p e s m args below meth c s₁ B hml hv
  obtain ⟨rfl, hsz, hT, hK, hM⟩ := hv
  have hx := B.exec
  have hb := B.bytes
  have hr := B.returns
  have hts := atoms_spec (ws := wm_c_takeOver) B.pre
  have hown : s.vm.findClass RX3 = some m.cls := findClass_of_methodNamed B.named
  have hlocks := B.notSynchronized
  subst hsz
  generalize hAe : fr τ s.heap.size = A at hM ⊢
  have hA : ∀ q : Nat, s.heap.size ≤ q → A q := fun q h => by rw [← hAe]; exact Or.inr h
  have hF : ∀ q, τ q ≠ 0 → A q := fun q h => by rw [← hAe]; exact Or.inl h
  have hS : va_S A s.heap s.heap [] := va_S.rf
  have hX := hI.1
  have hR := ic_r hI
  have hG : ag τ [14, 40, 41, 42, 43, 44, 45, 46, 47, 48] y y := ag.rf
  have hl := lv_entry ([.ref (a 4), .ref (a 3)]) (n := 2) (Nat.le_of_ble_eq_true rfl)
  rw [lg_entry_eq]
  generalize (lg_sl ([.ref (a 4), .ref (a 3)]) ++ List.replicate (2 - (lg_sl ([.ref (a 4), .ref (a 3)])).length) Slot.unset).toArray = ls at hl ⊢
  have hl : lv_has ls 2 [(0, .ref (a 4)), (1, .ref (a 3))] := hl
  refine lv_aload_n hx hb dX3_takeOver_0 rfl (lv_at hl 0 rfl) ?_
  refine lv_aload_n hx hb dX3_takeOver_1 rfl (lv_at hl 1 rfl) ?_
  refine tw_get (D := (dC, dI)) (v := .int (y (a 3) 2)) (C := RX3) (T := TX3) (N := 12) hx hb hts (fun _ hh => (List.mem_cons_of_mem _ (List.mem_append_right _ (List.mem_append_left _ hh)))) hown hK hT (fx_3 hX) (by decide) cl_e13 rfl 2 (by decide) (hts (.fieldLink RX3 9 "TypingPool$Floor" "now" "I") (List.mem_cons_of_mem _ (List.mem_append_left _ (List.mem_of_getElem? (i := 0) rfl)))) (fun _ h9 => h9) rfl dX3_takeOver_2 ?_
  refine tw_put (D := (dC, dI)) (x := y (a 3) 2) (ty := .int) (C := RX3) (T := TX3) (N := 12) hx hb hts (fun _ hh => (List.mem_cons_of_mem _ (List.mem_append_right _ (List.mem_append_left _ hh)))) tyX3 tyX3_ok nmX3 hown hK hT hF hS (fx_4 hX) (by decide) cl_e14 rfl 2 (by decide) (hts (.fieldLink RX3 9 "TypingPool$Floor" "now" "I") (List.mem_cons_of_mem _ (List.mem_append_left _ (List.mem_of_getElem? (i := 0) rfl)))) (fun _ h9 => h9) rfl (tyX3_ok 2 (by decide)) rfl rfl (Nat.le_of_ble_eq_true rfl) rfl dX3_takeOver_5 (fun H locs hT hS => ?_)
  obtain ⟨y_1, hy_1, hT⟩ : ∃ z : Nat → Nat → Int32, z = up2 y (a 4) 2 (y (a 3) 2) ∧ tw (dC, dI) a k τ ln z g H := ⟨_, rfl, hT⟩
  have hG : ag τ [14, 40, 41, 42, 43, 44, 45, 46, 47, 48] y y_1 := by rw [hy_1]; exact hG.up (fx_4 hX) (by decide)
  have hI := hI.ag (S := [14]) (y' := y_1) (by rw [hy_1]; exact ag.one (fx_4 hX)) (by decide)
  refine lv_aload_n hx hb dX3_takeOver_8 rfl (lv_at hl 1 rfl) ?_
  refine tw_get (D := (dC, dI)) (v := .ref (a 20)) (C := RX3) (T := TX3) (N := 12) hx hb hts (fun _ hh => (List.mem_cons_of_mem _ (List.mem_append_right _ (List.mem_append_left _ hh)))) hown hK hT (fx_3 hX) (by decide) cl_e13 rfl 3 (by decide) (hts (.fieldLink RX3 15 "TypingPool$Floor" "has" "[I") (List.mem_cons_of_mem _ (List.mem_append_left _ (List.mem_of_getElem? (i := 1) rfl)))) (fun _ h9 => h9) rfl dX3_takeOver_9 ?_
  refine lv_iconst (v := 0) hx hb dX3_takeOver_12 (by decide) ?_
  refine lv_aload_n hx hb dX3_takeOver_13 rfl (lv_at hl 0 rfl) ?_
  refine tw_get (D := (dC, dI)) (v := .ref (a 30)) (C := RX3) (T := TX3) (N := 12) hx hb hts (fun _ hh => (List.mem_cons_of_mem _ (List.mem_append_right _ (List.mem_append_left _ hh)))) hown hK hT (fx_4 hX) (by decide) cl_e14 rfl 3 (by decide) (hts (.fieldLink RX3 15 "TypingPool$Floor" "has" "[I") (List.mem_cons_of_mem _ (List.mem_append_left _ (List.mem_of_getElem? (i := 1) rfl)))) (fun _ h9 => h9) rfl dX3_takeOver_14 ?_
  refine lv_iconst (v := 0) hx hb dX3_takeOver_17 (by decide) ?_
  refine lv_bipush (v := 8) hx hb dX3_takeOver_18 (by decide) ?_
  have hcn0 : (8 : Int32).toInt = 8 := (zk (x := 8) 8 rfl)
  refine tw_copy (n := (8 : Int32)) hx hb (by rw [hml]; exact hl.1.symm) hown (hts (.methodLink RX3 51 arraycopyName) (List.mem_cons_of_mem _ (List.mem_append_left _ (List.mem_of_getElem? (i := 2) rfl)))) (hts (.native arraycopyName) (List.mem_cons_of_mem _ (List.mem_append_left _ (List.mem_of_getElem? (i := 3) rfl)))) (hts (.static arraycopyName) (List.mem_cons_of_mem _ (List.mem_append_left _ (List.mem_of_getElem? (i := 4) rfl)))) (hts (.initialized "java/lang/System") (List.mem_cons_of_mem _ (List.mem_append_left _ (List.mem_of_getElem? (i := 5) rfl)))) hK hT hF hS (fx_20 hX) (by decide) cl_e30 (fx_30 hX) (by decide) (fun _ => cl_e40) (by decide) (by decide) (cp_n0 (zk (x := 8) 8 rfl) (by omega)) (cp_le (zk (x := 8) 8 rfl) (by omega) (by omega)) (cp_le (zk (x := 8) 8 rfl) (by omega) (by omega)) (Nat.le_of_ble_eq_true rfl) (Nat.le_of_ble_eq_true rfl) dX3_takeOver_20 (fun H locs hT hS => ?_)
  obtain ⟨y_2, hy_2, hT⟩ : ∃ z : Nat → Nat → Int32, ag τ [40] y_1 z ∧ tw (dC, dI) a k τ ln z g H := ⟨_, ag_nw (fx_30 hX), hT⟩
  have hG := hG.tr hy_2 (by decide)
  have hI := hI.ag hy_2 (by decide)
  refine lv_aload_n hx hb dX3_takeOver_23 rfl (lv_at hl 1 rfl) ?_
  refine tw_get (D := (dC, dI)) (v := .ref (a 21)) (C := RX3) (T := TX3) (N := 12) hx hb hts (fun _ hh => (List.mem_cons_of_mem _ (List.mem_append_right _ (List.mem_append_left _ hh)))) hown hK hT (fx_3 hX) (by decide) cl_e13 rfl 4 (by decide) (hts (.fieldLink RX3 19 "TypingPool$Floor" "rate" "[I") (List.mem_cons_of_mem _ (List.mem_append_left _ (List.mem_of_getElem? (i := 6) rfl)))) (fun _ h9 => h9) rfl dX3_takeOver_24 ?_
  refine lv_iconst (v := 0) hx hb dX3_takeOver_27 (by decide) ?_
  refine lv_aload_n hx hb dX3_takeOver_28 rfl (lv_at hl 0 rfl) ?_
  refine tw_get (D := (dC, dI)) (v := .ref (a 31)) (C := RX3) (T := TX3) (N := 12) hx hb hts (fun _ hh => (List.mem_cons_of_mem _ (List.mem_append_right _ (List.mem_append_left _ hh)))) hown hK hT (fx_4 hX) (by decide) cl_e14 rfl 4 (by decide) (hts (.fieldLink RX3 19 "TypingPool$Floor" "rate" "[I") (List.mem_cons_of_mem _ (List.mem_append_left _ (List.mem_of_getElem? (i := 6) rfl)))) (fun _ h9 => h9) rfl dX3_takeOver_29 ?_
  refine lv_iconst (v := 0) hx hb dX3_takeOver_32 (by decide) ?_
  refine lv_bipush (v := 8) hx hb dX3_takeOver_33 (by decide) ?_
  have hcn0 : (8 : Int32).toInt = 8 := (zk (x := 8) 8 rfl)
  refine tw_copy (n := (8 : Int32)) hx hb (by rw [hml]; exact hl.1.symm) hown (hts (.methodLink RX3 51 arraycopyName) (List.mem_cons_of_mem _ (List.mem_append_left _ (List.mem_of_getElem? (i := 2) rfl)))) (hts (.native arraycopyName) (List.mem_cons_of_mem _ (List.mem_append_left _ (List.mem_of_getElem? (i := 3) rfl)))) (hts (.static arraycopyName) (List.mem_cons_of_mem _ (List.mem_append_left _ (List.mem_of_getElem? (i := 4) rfl)))) (hts (.initialized "java/lang/System") (List.mem_cons_of_mem _ (List.mem_append_left _ (List.mem_of_getElem? (i := 5) rfl)))) hK hT hF hS (fx_21 hX) (by decide) cl_e31 (fx_31 hX) (by decide) (fun _ => cl_e41) (by decide) (by decide) (cp_n0 (zk (x := 8) 8 rfl) (by omega)) (cp_le (zk (x := 8) 8 rfl) (by omega) (by omega)) (cp_le (zk (x := 8) 8 rfl) (by omega) (by omega)) (Nat.le_of_ble_eq_true rfl) (Nat.le_of_ble_eq_true rfl) dX3_takeOver_35 (fun H locs hT hS => ?_)
  obtain ⟨y_3, hy_3, hT⟩ : ∃ z : Nat → Nat → Int32, ag τ [41] y_2 z ∧ tw (dC, dI) a k τ ln z g H := ⟨_, ag_nw (fx_31 hX), hT⟩
  have hG := hG.tr hy_3 (by decide)
  have hI := hI.ag hy_3 (by decide)
  refine lv_aload_n hx hb dX3_takeOver_38 rfl (lv_at hl 1 rfl) ?_
  refine tw_get (D := (dC, dI)) (v := .ref (a 22)) (C := RX3) (T := TX3) (N := 12) hx hb hts (fun _ hh => (List.mem_cons_of_mem _ (List.mem_append_right _ (List.mem_append_left _ hh)))) hown hK hT (fx_3 hX) (by decide) cl_e13 rfl 5 (by decide) (hts (.fieldLink RX3 22 "TypingPool$Floor" "words" "[I") (List.mem_cons_of_mem _ (List.mem_append_left _ (List.mem_of_getElem? (i := 7) rfl)))) (fun _ h9 => h9) rfl dX3_takeOver_39 ?_
  refine lv_iconst (v := 0) hx hb dX3_takeOver_42 (by decide) ?_
  refine lv_aload_n hx hb dX3_takeOver_43 rfl (lv_at hl 0 rfl) ?_
  refine tw_get (D := (dC, dI)) (v := .ref (a 32)) (C := RX3) (T := TX3) (N := 12) hx hb hts (fun _ hh => (List.mem_cons_of_mem _ (List.mem_append_right _ (List.mem_append_left _ hh)))) hown hK hT (fx_4 hX) (by decide) cl_e14 rfl 5 (by decide) (hts (.fieldLink RX3 22 "TypingPool$Floor" "words" "[I") (List.mem_cons_of_mem _ (List.mem_append_left _ (List.mem_of_getElem? (i := 7) rfl)))) (fun _ h9 => h9) rfl dX3_takeOver_44 ?_
  refine lv_iconst (v := 0) hx hb dX3_takeOver_47 (by decide) ?_
  refine lv_bipush (v := 8) hx hb dX3_takeOver_48 (by decide) ?_
  have hcn0 : (8 : Int32).toInt = 8 := (zk (x := 8) 8 rfl)
  refine tw_copy (n := (8 : Int32)) hx hb (by rw [hml]; exact hl.1.symm) hown (hts (.methodLink RX3 51 arraycopyName) (List.mem_cons_of_mem _ (List.mem_append_left _ (List.mem_of_getElem? (i := 2) rfl)))) (hts (.native arraycopyName) (List.mem_cons_of_mem _ (List.mem_append_left _ (List.mem_of_getElem? (i := 3) rfl)))) (hts (.static arraycopyName) (List.mem_cons_of_mem _ (List.mem_append_left _ (List.mem_of_getElem? (i := 4) rfl)))) (hts (.initialized "java/lang/System") (List.mem_cons_of_mem _ (List.mem_append_left _ (List.mem_of_getElem? (i := 5) rfl)))) hK hT hF hS (fx_22 hX) (by decide) cl_e32 (fx_32 hX) (by decide) (fun _ => cl_e42) (by decide) (by decide) (cp_n0 (zk (x := 8) 8 rfl) (by omega)) (cp_le (zk (x := 8) 8 rfl) (by omega) (by omega)) (cp_le (zk (x := 8) 8 rfl) (by omega) (by omega)) (Nat.le_of_ble_eq_true rfl) (Nat.le_of_ble_eq_true rfl) dX3_takeOver_50 (fun H locs hT hS => ?_)
  obtain ⟨y_4, hy_4, hT⟩ : ∃ z : Nat → Nat → Int32, ag τ [42] y_3 z ∧ tw (dC, dI) a k τ ln z g H := ⟨_, ag_nw (fx_32 hX), hT⟩
  have hG := hG.tr hy_4 (by decide)
  have hI := hI.ag hy_4 (by decide)
  refine lv_aload_n hx hb dX3_takeOver_53 rfl (lv_at hl 1 rfl) ?_
  refine tw_get (D := (dC, dI)) (v := .ref (a 23)) (C := RX3) (T := TX3) (N := 12) hx hb hts (fun _ hh => (List.mem_cons_of_mem _ (List.mem_append_right _ (List.mem_append_left _ hh)))) hown hK hT (fx_3 hX) (by decide) cl_e13 rfl 6 (by decide) (hts (.fieldLink RX3 25 "TypingPool$Floor" "worked" "[I") (List.mem_cons_of_mem _ (List.mem_append_left _ (List.mem_of_getElem? (i := 8) rfl)))) (fun _ h9 => h9) rfl dX3_takeOver_54 ?_
  refine lv_iconst (v := 0) hx hb dX3_takeOver_57 (by decide) ?_
  refine lv_aload_n hx hb dX3_takeOver_58 rfl (lv_at hl 0 rfl) ?_
  refine tw_get (D := (dC, dI)) (v := .ref (a 33)) (C := RX3) (T := TX3) (N := 12) hx hb hts (fun _ hh => (List.mem_cons_of_mem _ (List.mem_append_right _ (List.mem_append_left _ hh)))) hown hK hT (fx_4 hX) (by decide) cl_e14 rfl 6 (by decide) (hts (.fieldLink RX3 25 "TypingPool$Floor" "worked" "[I") (List.mem_cons_of_mem _ (List.mem_append_left _ (List.mem_of_getElem? (i := 8) rfl)))) (fun _ h9 => h9) rfl dX3_takeOver_59 ?_
  refine lv_iconst (v := 0) hx hb dX3_takeOver_62 (by decide) ?_
  refine lv_bipush (v := 8) hx hb dX3_takeOver_63 (by decide) ?_
  have hcn0 : (8 : Int32).toInt = 8 := (zk (x := 8) 8 rfl)
  refine tw_copy (n := (8 : Int32)) hx hb (by rw [hml]; exact hl.1.symm) hown (hts (.methodLink RX3 51 arraycopyName) (List.mem_cons_of_mem _ (List.mem_append_left _ (List.mem_of_getElem? (i := 2) rfl)))) (hts (.native arraycopyName) (List.mem_cons_of_mem _ (List.mem_append_left _ (List.mem_of_getElem? (i := 3) rfl)))) (hts (.static arraycopyName) (List.mem_cons_of_mem _ (List.mem_append_left _ (List.mem_of_getElem? (i := 4) rfl)))) (hts (.initialized "java/lang/System") (List.mem_cons_of_mem _ (List.mem_append_left _ (List.mem_of_getElem? (i := 5) rfl)))) hK hT hF hS (fx_23 hX) (by decide) cl_e33 (fx_33 hX) (by decide) (fun _ => cl_e43) (by decide) (by decide) (cp_n0 (zk (x := 8) 8 rfl) (by omega)) (cp_le (zk (x := 8) 8 rfl) (by omega) (by omega)) (cp_le (zk (x := 8) 8 rfl) (by omega) (by omega)) (Nat.le_of_ble_eq_true rfl) (Nat.le_of_ble_eq_true rfl) dX3_takeOver_65 (fun H locs hT hS => ?_)
  obtain ⟨y_5, hy_5, hT⟩ : ∃ z : Nat → Nat → Int32, ag τ [43] y_4 z ∧ tw (dC, dI) a k τ ln z g H := ⟨_, ag_nw (fx_33 hX), hT⟩
  have hG := hG.tr hy_5 (by decide)
  have hI := hI.ag hy_5 (by decide)
  refine lv_aload_n hx hb dX3_takeOver_68 rfl (lv_at hl 1 rfl) ?_
  refine tw_get (D := (dC, dI)) (v := .ref (a 24)) (C := RX3) (T := TX3) (N := 12) hx hb hts (fun _ hh => (List.mem_cons_of_mem _ (List.mem_append_right _ (List.mem_append_left _ hh)))) hown hK hT (fx_3 hX) (by decide) cl_e13 rfl 7 (by decide) (hts (.fieldLink RX3 28 "TypingPool$Floor" "by" "[I") (List.mem_cons_of_mem _ (List.mem_append_left _ (List.mem_of_getElem? (i := 9) rfl)))) (fun _ h9 => h9) rfl dX3_takeOver_69 ?_
  refine lv_iconst (v := 0) hx hb dX3_takeOver_72 (by decide) ?_
  refine lv_aload_n hx hb dX3_takeOver_73 rfl (lv_at hl 0 rfl) ?_
  refine tw_get (D := (dC, dI)) (v := .ref (a 34)) (C := RX3) (T := TX3) (N := 12) hx hb hts (fun _ hh => (List.mem_cons_of_mem _ (List.mem_append_right _ (List.mem_append_left _ hh)))) hown hK hT (fx_4 hX) (by decide) cl_e14 rfl 7 (by decide) (hts (.fieldLink RX3 28 "TypingPool$Floor" "by" "[I") (List.mem_cons_of_mem _ (List.mem_append_left _ (List.mem_of_getElem? (i := 9) rfl)))) (fun _ h9 => h9) rfl dX3_takeOver_74 ?_
  refine lv_iconst (v := 0) hx hb dX3_takeOver_77 (by decide) ?_
  refine lv_bipush (v := 30) hx hb dX3_takeOver_78 (by decide) ?_
  have hcn0 : (30 : Int32).toInt = 30 := (zk (x := 30) 30 rfl)
  refine tw_copy (n := (30 : Int32)) hx hb (by rw [hml]; exact hl.1.symm) hown (hts (.methodLink RX3 51 arraycopyName) (List.mem_cons_of_mem _ (List.mem_append_left _ (List.mem_of_getElem? (i := 2) rfl)))) (hts (.native arraycopyName) (List.mem_cons_of_mem _ (List.mem_append_left _ (List.mem_of_getElem? (i := 3) rfl)))) (hts (.static arraycopyName) (List.mem_cons_of_mem _ (List.mem_append_left _ (List.mem_of_getElem? (i := 4) rfl)))) (hts (.initialized "java/lang/System") (List.mem_cons_of_mem _ (List.mem_append_left _ (List.mem_of_getElem? (i := 5) rfl)))) hK hT hF hS (fx_24 hX) (by decide) cl_e34 (fx_34 hX) (by decide) (fun _ => cl_e44) (by decide) (by decide) (cp_n0 (zk (x := 30) 30 rfl) (by omega)) (cp_le (zk (x := 30) 30 rfl) (by omega) (by omega)) (cp_le (zk (x := 30) 30 rfl) (by omega) (by omega)) (Nat.le_of_ble_eq_true rfl) (Nat.le_of_ble_eq_true rfl) dX3_takeOver_80 (fun H locs hT hS => ?_)
  obtain ⟨y_6, hy_6, hT⟩ : ∃ z : Nat → Nat → Int32, ag τ [44] y_5 z ∧ tw (dC, dI) a k τ ln z g H := ⟨_, ag_nw (fx_34 hX), hT⟩
  have hG := hG.tr hy_6 (by decide)
  have hI := hI.ag hy_6 (by decide)
  refine lv_aload_n hx hb dX3_takeOver_83 rfl (lv_at hl 1 rfl) ?_
  refine tw_get (D := (dC, dI)) (v := .ref (a 25)) (C := RX3) (T := TX3) (N := 12) hx hb hts (fun _ hh => (List.mem_cons_of_mem _ (List.mem_append_right _ (List.mem_append_left _ hh)))) hown hK hT (fx_3 hX) (by decide) cl_e13 rfl 8 (by decide) (hts (.fieldLink RX3 31 "TypingPool$Floor" "taken" "[I") (List.mem_cons_of_mem _ (List.mem_append_left _ (List.mem_of_getElem? (i := 10) rfl)))) (fun _ h9 => h9) rfl dX3_takeOver_84 ?_
  refine lv_iconst (v := 0) hx hb dX3_takeOver_87 (by decide) ?_
  refine lv_aload_n hx hb dX3_takeOver_88 rfl (lv_at hl 0 rfl) ?_
  refine tw_get (D := (dC, dI)) (v := .ref (a 35)) (C := RX3) (T := TX3) (N := 12) hx hb hts (fun _ hh => (List.mem_cons_of_mem _ (List.mem_append_right _ (List.mem_append_left _ hh)))) hown hK hT (fx_4 hX) (by decide) cl_e14 rfl 8 (by decide) (hts (.fieldLink RX3 31 "TypingPool$Floor" "taken" "[I") (List.mem_cons_of_mem _ (List.mem_append_left _ (List.mem_of_getElem? (i := 10) rfl)))) (fun _ h9 => h9) rfl dX3_takeOver_89 ?_
  refine lv_iconst (v := 0) hx hb dX3_takeOver_92 (by decide) ?_
  refine lv_bipush (v := 30) hx hb dX3_takeOver_93 (by decide) ?_
  have hcn0 : (30 : Int32).toInt = 30 := (zk (x := 30) 30 rfl)
  refine tw_copy (n := (30 : Int32)) hx hb (by rw [hml]; exact hl.1.symm) hown (hts (.methodLink RX3 51 arraycopyName) (List.mem_cons_of_mem _ (List.mem_append_left _ (List.mem_of_getElem? (i := 2) rfl)))) (hts (.native arraycopyName) (List.mem_cons_of_mem _ (List.mem_append_left _ (List.mem_of_getElem? (i := 3) rfl)))) (hts (.static arraycopyName) (List.mem_cons_of_mem _ (List.mem_append_left _ (List.mem_of_getElem? (i := 4) rfl)))) (hts (.initialized "java/lang/System") (List.mem_cons_of_mem _ (List.mem_append_left _ (List.mem_of_getElem? (i := 5) rfl)))) hK hT hF hS (fx_25 hX) (by decide) cl_e35 (fx_35 hX) (by decide) (fun _ => cl_e45) (by decide) (by decide) (cp_n0 (zk (x := 30) 30 rfl) (by omega)) (cp_le (zk (x := 30) 30 rfl) (by omega) (by omega)) (cp_le (zk (x := 30) 30 rfl) (by omega) (by omega)) (Nat.le_of_ble_eq_true rfl) (Nat.le_of_ble_eq_true rfl) dX3_takeOver_95 (fun H locs hT hS => ?_)
  obtain ⟨y_7, hy_7, hT⟩ : ∃ z : Nat → Nat → Int32, ag τ [45] y_6 z ∧ tw (dC, dI) a k τ ln z g H := ⟨_, ag_nw (fx_35 hX), hT⟩
  have hG := hG.tr hy_7 (by decide)
  have hI := hI.ag hy_7 (by decide)
  refine lv_aload_n hx hb dX3_takeOver_98 rfl (lv_at hl 1 rfl) ?_
  refine tw_get (D := (dC, dI)) (v := .ref (a 26)) (C := RX3) (T := TX3) (N := 12) hx hb hts (fun _ hh => (List.mem_cons_of_mem _ (List.mem_append_right _ (List.mem_append_left _ hh)))) hown hK hT (fx_3 hX) (by decide) cl_e13 rfl 9 (by decide) (hts (.fieldLink RX3 34 "TypingPool$Floor" "done" "[I") (List.mem_cons_of_mem _ (List.mem_append_left _ (List.mem_of_getElem? (i := 11) rfl)))) (fun _ h9 => h9) rfl dX3_takeOver_99 ?_
  refine lv_iconst (v := 0) hx hb dX3_takeOver_102 (by decide) ?_
  refine lv_aload_n hx hb dX3_takeOver_103 rfl (lv_at hl 0 rfl) ?_
  refine tw_get (D := (dC, dI)) (v := .ref (a 36)) (C := RX3) (T := TX3) (N := 12) hx hb hts (fun _ hh => (List.mem_cons_of_mem _ (List.mem_append_right _ (List.mem_append_left _ hh)))) hown hK hT (fx_4 hX) (by decide) cl_e14 rfl 9 (by decide) (hts (.fieldLink RX3 34 "TypingPool$Floor" "done" "[I") (List.mem_cons_of_mem _ (List.mem_append_left _ (List.mem_of_getElem? (i := 11) rfl)))) (fun _ h9 => h9) rfl dX3_takeOver_104 ?_
  refine lv_iconst (v := 0) hx hb dX3_takeOver_107 (by decide) ?_
  refine lv_bipush (v := 30) hx hb dX3_takeOver_108 (by decide) ?_
  have hcn0 : (30 : Int32).toInt = 30 := (zk (x := 30) 30 rfl)
  refine tw_copy (n := (30 : Int32)) hx hb (by rw [hml]; exact hl.1.symm) hown (hts (.methodLink RX3 51 arraycopyName) (List.mem_cons_of_mem _ (List.mem_append_left _ (List.mem_of_getElem? (i := 2) rfl)))) (hts (.native arraycopyName) (List.mem_cons_of_mem _ (List.mem_append_left _ (List.mem_of_getElem? (i := 3) rfl)))) (hts (.static arraycopyName) (List.mem_cons_of_mem _ (List.mem_append_left _ (List.mem_of_getElem? (i := 4) rfl)))) (hts (.initialized "java/lang/System") (List.mem_cons_of_mem _ (List.mem_append_left _ (List.mem_of_getElem? (i := 5) rfl)))) hK hT hF hS (fx_26 hX) (by decide) cl_e36 (fx_36 hX) (by decide) (fun _ => cl_e46) (by decide) (by decide) (cp_n0 (zk (x := 30) 30 rfl) (by omega)) (cp_le (zk (x := 30) 30 rfl) (by omega) (by omega)) (cp_le (zk (x := 30) 30 rfl) (by omega) (by omega)) (Nat.le_of_ble_eq_true rfl) (Nat.le_of_ble_eq_true rfl) dX3_takeOver_110 (fun H locs hT hS => ?_)
  obtain ⟨y_8, hy_8, hT⟩ : ∃ z : Nat → Nat → Int32, ag τ [46] y_7 z ∧ tw (dC, dI) a k τ ln z g H := ⟨_, ag_nw (fx_36 hX), hT⟩
  have hG := hG.tr hy_8 (by decide)
  have hI := hI.ag hy_8 (by decide)
  refine lv_aload_n hx hb dX3_takeOver_113 rfl (lv_at hl 1 rfl) ?_
  refine tw_get (D := (dC, dI)) (v := .ref (a 27)) (C := RX3) (T := TX3) (N := 12) hx hb hts (fun _ hh => (List.mem_cons_of_mem _ (List.mem_append_right _ (List.mem_append_left _ hh)))) hown hK hT (fx_3 hX) (by decide) cl_e13 rfl 10 (by decide) (hts (.fieldLink RX3 37 "TypingPool$Floor" "workLeft" "[I") (List.mem_cons_of_mem _ (List.mem_append_left _ (List.mem_of_getElem? (i := 12) rfl)))) (fun _ h9 => h9) rfl dX3_takeOver_114 ?_
  refine lv_iconst (v := 0) hx hb dX3_takeOver_117 (by decide) ?_
  refine lv_aload_n hx hb dX3_takeOver_118 rfl (lv_at hl 0 rfl) ?_
  refine tw_get (D := (dC, dI)) (v := .ref (a 37)) (C := RX3) (T := TX3) (N := 12) hx hb hts (fun _ hh => (List.mem_cons_of_mem _ (List.mem_append_right _ (List.mem_append_left _ hh)))) hown hK hT (fx_4 hX) (by decide) cl_e14 rfl 10 (by decide) (hts (.fieldLink RX3 37 "TypingPool$Floor" "workLeft" "[I") (List.mem_cons_of_mem _ (List.mem_append_left _ (List.mem_of_getElem? (i := 12) rfl)))) (fun _ h9 => h9) rfl dX3_takeOver_119 ?_
  refine lv_iconst (v := 0) hx hb dX3_takeOver_122 (by decide) ?_
  refine lv_bipush (v := 30) hx hb dX3_takeOver_123 (by decide) ?_
  have hcn0 : (30 : Int32).toInt = 30 := (zk (x := 30) 30 rfl)
  refine tw_copy (n := (30 : Int32)) hx hb (by rw [hml]; exact hl.1.symm) hown (hts (.methodLink RX3 51 arraycopyName) (List.mem_cons_of_mem _ (List.mem_append_left _ (List.mem_of_getElem? (i := 2) rfl)))) (hts (.native arraycopyName) (List.mem_cons_of_mem _ (List.mem_append_left _ (List.mem_of_getElem? (i := 3) rfl)))) (hts (.static arraycopyName) (List.mem_cons_of_mem _ (List.mem_append_left _ (List.mem_of_getElem? (i := 4) rfl)))) (hts (.initialized "java/lang/System") (List.mem_cons_of_mem _ (List.mem_append_left _ (List.mem_of_getElem? (i := 5) rfl)))) hK hT hF hS (fx_27 hX) (by decide) cl_e37 (fx_37 hX) (by decide) (fun _ => cl_e47) (by decide) (by decide) (cp_n0 (zk (x := 30) 30 rfl) (by omega)) (cp_le (zk (x := 30) 30 rfl) (by omega) (by omega)) (cp_le (zk (x := 30) 30 rfl) (by omega) (by omega)) (Nat.le_of_ble_eq_true rfl) (Nat.le_of_ble_eq_true rfl) dX3_takeOver_125 (fun H locs hT hS => ?_)
  obtain ⟨y_9, hy_9, hT⟩ : ∃ z : Nat → Nat → Int32, ag τ [47] y_8 z ∧ tw (dC, dI) a k τ ln z g H := ⟨_, ag_nw (fx_37 hX), hT⟩
  have hG := hG.tr hy_9 (by decide)
  have hI := hI.ag hy_9 (by decide)
  refine lv_aload_n hx hb dX3_takeOver_128 rfl (lv_at hl 1 rfl) ?_
  refine tw_get (D := (dC, dI)) (v := .ref (a 28)) (C := RX3) (T := TX3) (N := 12) hx hb hts (fun _ hh => (List.mem_cons_of_mem _ (List.mem_append_right _ (List.mem_append_left _ hh)))) hown hK hT (fx_3 hX) (by decide) cl_e13 rfl 11 (by decide) (hts (.fieldLink RX3 40 "TypingPool$Floor" "knew" "[I") (List.mem_cons_of_mem _ (List.mem_append_left _ (List.mem_of_getElem? (i := 13) rfl)))) (fun _ h9 => h9) rfl dX3_takeOver_129 ?_
  refine lv_iconst (v := 0) hx hb dX3_takeOver_132 (by decide) ?_
  refine lv_aload_n hx hb dX3_takeOver_133 rfl (lv_at hl 0 rfl) ?_
  refine tw_get (D := (dC, dI)) (v := .ref (a 38)) (C := RX3) (T := TX3) (N := 12) hx hb hts (fun _ hh => (List.mem_cons_of_mem _ (List.mem_append_right _ (List.mem_append_left _ hh)))) hown hK hT (fx_4 hX) (by decide) cl_e14 rfl 11 (by decide) (hts (.fieldLink RX3 40 "TypingPool$Floor" "knew" "[I") (List.mem_cons_of_mem _ (List.mem_append_left _ (List.mem_of_getElem? (i := 13) rfl)))) (fun _ h9 => h9) rfl dX3_takeOver_134 ?_
  refine lv_iconst (v := 0) hx hb dX3_takeOver_137 (by decide) ?_
  refine lv_bipush (v := 30) hx hb dX3_takeOver_138 (by decide) ?_
  have hcn0 : (30 : Int32).toInt = 30 := (zk (x := 30) 30 rfl)
  refine tw_copy (n := (30 : Int32)) hx hb (by rw [hml]; exact hl.1.symm) hown (hts (.methodLink RX3 51 arraycopyName) (List.mem_cons_of_mem _ (List.mem_append_left _ (List.mem_of_getElem? (i := 2) rfl)))) (hts (.native arraycopyName) (List.mem_cons_of_mem _ (List.mem_append_left _ (List.mem_of_getElem? (i := 3) rfl)))) (hts (.static arraycopyName) (List.mem_cons_of_mem _ (List.mem_append_left _ (List.mem_of_getElem? (i := 4) rfl)))) (hts (.initialized "java/lang/System") (List.mem_cons_of_mem _ (List.mem_append_left _ (List.mem_of_getElem? (i := 5) rfl)))) hK hT hF hS (fx_28 hX) (by decide) cl_e38 (fx_38 hX) (by decide) (fun _ => cl_e48) (by decide) (by decide) (cp_n0 (zk (x := 30) 30 rfl) (by omega)) (cp_le (zk (x := 30) 30 rfl) (by omega) (by omega)) (cp_le (zk (x := 30) 30 rfl) (by omega) (by omega)) (Nat.le_of_ble_eq_true rfl) (Nat.le_of_ble_eq_true rfl) dX3_takeOver_140 (fun H locs hT hS => ?_)
  obtain ⟨y_10, hy_10, hT⟩ : ∃ z : Nat → Nat → Int32, ag τ [48] y_9 z ∧ tw (dC, dI) a k τ ln z g H := ⟨_, ag_nw (fx_38 hX), hT⟩
  have hG := hG.tr hy_10 (by decide)
  have hI := hI.ag hy_10 (by decide)
  exact W.vret hx hb hr (fun t ht hW9 => ⟨⟨(), rfl, trivial, ⟨y_10, hG, tw_at ht hT⟩⟩, hS.F ht⟩) hS.2.2 dX3_takeOver_143
def wo_c_tried : List Cond := [.methodLink RX11 163 yX11_canGoOn, .instanceMethod yX11_canGoOn, .selects RX11 yX11_canGoOn yX11_canGoOn, .initialized RX11, .fieldLink RX11 32 "TypingPool" "trial" "LTypingPool$Floor;", .fieldLink RX11 28 "TypingPool" "floor" "LTypingPool$Floor;", .methodLink RX11 330 yX3_takeOver, .instanceMethod yX3_takeOver, .selects RX3 yX3_takeOver yX3_takeOver, .initialized RX3, .fieldLink RX11 19 "TypingPool" "rules" "LTypingPool$Rules;", .fieldLink RX11 334 "TypingPool$Rules" "told" "[LTypingPool$Rule;", .methodLink RX11 167 yX3_runOn, .instanceMethod yX3_runOn, .selects RX3 yX3_runOn yX3_runOn, .fieldLink RX11 65 "TypingPool" "rowLength" "I", .methodLink RX11 242 yX3_lateOnes, .instanceMethod yX3_lateOnes, .selects RX3 yX3_lateOnes yX3_lateOnes, .fieldLink RX11 61 "TypingPool" "row" "[I", .methodLink RX11 300 yX3_waitedIn, .instanceMethod yX3_waitedIn, .selects RX3 yX3_waitedIn yX3_waitedIn, .methodLink RX11 327 yX10_isTriable, .instanceMethod yX10_isTriable, .selects RX10 yX10_isTriable yX10_isTriable, .initialized RX10]
def wm_c_tried : List Cond := .code yX11_tried cX11_tried 5 (some .int) :: (wo_c_tried ++ (wm_c_canGoOn ++ (wsX110 ++ (wm_c_takeOver ++ (wsX100 ++ (wm_c_runOntR ++ (wm_c_lateOnest ++ (wm_c_waitedInt ++ (wm_c_runOntN ++ (wm_c_isTriable ++ ([] : List Cond)))))))))))
theorem gd_c_tried : ∀ w ∈ wm_c_tried, goodWord w = true := gd_c rfl (gd_a (by decide) (gd_a gd_c_canGoOn (gd_a gd_wsX110 (gd_a gd_c_takeOver (gd_a gd_wsX100 (gd_a gd_c_runOntR (gd_a gd_c_lateOnest (gd_a gd_c_waitedInt (gd_a gd_c_runOntN (gd_a gd_c_isTriable gd_nil))))))))))
set_option maxRecDepth 20000 in
theorem im_c_tried : ∀ w ∈ wm_c_tried, w ∈ lw_tbl := im_c (in_r [.code yX11_tried cX11_tried 5 (some .int)] [1072] (by decide +kernel)) (in_app (in_r wo_c_tried [747, 749, 7, 70, 562, 561, 1077, 1078, 1079, 83, 560, 398, 751, 752, 753, 568, 891, 892, 893, 567, 1007, 1008, 1009, 1073, 1074, 1075, 72] (by decide +kernel)) (in_app im_c_canGoOn (in_app im_wsX110 (in_app im_c_takeOver (in_app im_wsX100 (in_app im_c_runOntR (in_app im_c_lateOnest (in_app im_c_waitedInt (in_app im_c_runOntN (in_app im_c_isTriable im_nil))))))))))
set_option maxHeartbeats 4000000 in
set_option maxRecDepth 100000 in
theorem c_tried (l : Launch) (dC : Nat → ClassId) (dI : Nat → Nat → Nat) (ad av : Nat → Nat) (sz : Nat) (a : Nat → Nat) (k : Nat → ClassId) (τ ln : Nat → Nat) (y : Nat → Nat → Int32) (g : Nat → Nat → Option Nat) (u : Nat → Int) (p0 : Int32) (p1 : Int32) (hI : IC a u τ ln y g) : Met l yX11_tried wm_c_tried ({ frames := 7, cells := 0, slots := 0, locals := 420 }) (pw_ ad av (dC, dI) sz [.ref (a 0), .int p0, .int p1] a k τ ln y g) (va_Qi (fun (r u : Int32) => u = r) (fun (r : Int32) (t : State) => (∃ (u' : Nat → Int), (∀ i, i ∉ ([7] : List Nat) → u' i = u i) ∧ pq (dC, dI) a k τ y g u' sz t.heap)) (fr τ sz)) 0 0 (fr τ sz) := by
  refine Met.ofW (cc := cX11_tried) (maxL := 5) (ret := (some .int)) (by decide) rfl ?_
  intro p e s m args below meth c s₁ B hml hv
  obtain ⟨rfl, hsz, hT, hK, hM⟩ := hv
  have hx := B.exec
  have hb := B.bytes
  have hr := B.returns
  have hts := atoms_spec (ws := wm_c_tried) B.pre
  have hown : s.vm.findClass RX11 = some m.cls := findClass_of_methodNamed B.named
  have hlocks := B.notSynchronized
  subst hsz
  generalize hAe : fr τ s.heap.size = A at hM ⊢
  have hA : ∀ q : Nat, s.heap.size ≤ q → A q := fun q h => by rw [← hAe]; exact Or.inr h
  have hF : ∀ q, τ q ≠ 0 → A q := fun q h => by rw [← hAe]; exact Or.inl h
  have hS : va_S A s.heap s.heap [] := va_S.rf
  have hX := hI.1
  have hR := ic_r hI
  have hMo : mono τ τ s.heap.size := mono.rf
  have hKM : kpM τ y g y g := kpM.rf
  have hl := lv_entry ([.ref (a 0), .int p0, .int p1]) (n := 5) (Nat.le_of_ble_eq_true rfl)
  rw [lg_entry_eq]
  generalize (lg_sl ([.ref (a 0), .int p0, .int p1]) ++ List.replicate (5 - (lg_sl ([.ref (a 0), .int p0, .int p1])).length) Slot.unset).toArray = ls at hl ⊢
  have hl : lv_has ls 5 [(0, .ref (a 0)), (1, .int p0), (2, .int p1)] := hl
  refine lv_iload_n hx hb dX11_tried_0 rfl (lv_at hl 1 rfl) ?_
  refine lv_iconst (v := (-1)) hx hb dX11_tried_1 (by decide) ?_
  refine lv_icmp_eq (tgt := 16) hx hb dX11_tried_2 (by decide) (fun c_1 => ?_) (fun c_1 => ?_)
  · have nc_1 := z_eq rfl (zk (x := (-1)) (-1) rfl) c_1
    refine lv_iconst (v := 1) hx hb dX11_tried_16 (by decide) ?_
    refine lv_goto (tgt := 21) hx hb dX11_tried_17 (by decide) ?_
    refine lv_istore_n (lv' := [(3, .int 1), (0, .ref (a 0)), (1, .int p0), (2, .int p1)]) hx hb dX11_tried_21 rfl hl (by decide) rfl (fun ls hl => ?_)
    refine lv_iload_n hx hb dX11_tried_22 rfl (lv_at hl 0 rfl) ?_
    refine lv_if_eq (tgt := 35) hx hb dX11_tried_23 (by decide) (fun c_2 => absurd c_2 (by decide)) (fun c_2 => ?_)
    refine lv_aload_n hx hb dX11_tried_26 rfl (lv_at hl 1 rfl) ?_
    refine lv_iload_n hx hb dX11_tried_27 rfl (lv_at hl 3 rfl) ?_
    refine lv_iconst (v := 0) hx hb dX11_tried_28 (by decide) ?_
    have hFc := tw_free hF hS hA
    have hp_3 : (0 : Int32).toInt = 0 := (zk (x := 0) 0 rfl)
    refine va_calli (va_runV (As := [.int p1, .int 0]) (rest := []) ⟨hx, hb, hml, hown, hts⟩ (c_canGoOn l dC dI ad av s.heap.size a k τ ln y g u p1 (0 : Int32) hI ) (cwV 2 hts (gi_4 (List.mem_cons_of_mem _ (List.mem_append_left _ (List.mem_of_getElem? (i := 0) rfl))) (List.mem_cons_of_mem _ (List.mem_append_left _ (List.mem_of_getElem? (i := 1) rfl))) (List.mem_cons_of_mem _ (List.mem_append_left _ (List.mem_of_getElem? (i := 2) rfl))) (List.mem_cons_of_mem _ (List.mem_append_left _ (List.mem_of_getElem? (i := 3) rfl))) (fun _ hh => (List.mem_cons_of_mem _ (List.mem_append_right _ (List.mem_append_left _ hh)))) gd_c_canGoOn) rfl rfl rfl (by decide +kernel) ⟨Nat.le_of_ble_eq_true rfl, Nat.le_of_ble_eq_true rfl⟩) ⟨pw_blind, tw_recv hK hT (fx_0 hX) (by decide) cl_e10 rfl, pw_use hT hK hFc hS hM⟩ rfl rfl hl.1 rfl (lv_room (Nat.le_of_ble_eq_true rfl)) dX11_tried_29 ⟨Nat.le_of_ble_eq_true rfl, Nat.le_of_ble_eq_true rfl⟩) hS (fun q _ h => hFc q h) hFc (fun r0 r_4 t H locs ht hvm hw hB hz1 hk1 hS => ?_)
    refine W.widen (k := 0) (n := 0) (Nat.le_of_ble_eq_true rfl) (Nat.le_of_ble_eq_true rfl) ?_
    clear hvm hz1 hk1
    subst hw
    rcases hB with ⟨hre, hf_5, hf_6, hT⟩ | ⟨hre, hT⟩
    · refine lq_top (v := 1) hre ?_
      rw [ht] at hT
      try simp only [hp_3] at hf_5 hf_6
      clear hp_3
      refine lv_if_ne (tgt := 37) hx hb dX11_tried_32 (by decide) (fun c_7 => ?_) (fun c_7 => absurd c_7 (by decide))
      refine lv_aload_n hx hb dX11_tried_37 rfl (lv_at hl 1 rfl) ?_
      refine tw_get (D := (dC, dI)) (v := .ref (a 4)) (C := RX11) (T := TX11) (N := 10) hx hb hts (fun _ hh => (List.mem_cons_of_mem _ (List.mem_append_right _ (List.mem_append_right _ (List.mem_append_left _ hh))))) hown hK hT (fx_0 hX) (by decide) cl_e10 rfl 3 (by decide) (hts (.fieldLink RX11 32 "TypingPool" "trial" "LTypingPool$Floor;") (List.mem_cons_of_mem _ (List.mem_append_left _ (List.mem_of_getElem? (i := 4) rfl)))) (fun _ h9 => h9) rfl dX11_tried_38 ?_
      refine lv_aload_n hx hb dX11_tried_41 rfl (lv_at hl 1 rfl) ?_
      refine tw_get (D := (dC, dI)) (v := .ref (a 3)) (C := RX11) (T := TX11) (N := 10) hx hb hts (fun _ hh => (List.mem_cons_of_mem _ (List.mem_append_right _ (List.mem_append_right _ (List.mem_append_left _ hh))))) hown hK hT (fx_0 hX) (by decide) cl_e10 rfl 2 (by decide) (hts (.fieldLink RX11 28 "TypingPool" "floor" "LTypingPool$Floor;") (List.mem_cons_of_mem _ (List.mem_append_left _ (List.mem_of_getElem? (i := 5) rfl)))) (fun _ h9 => h9) rfl dX11_tried_42 ?_
      have hFc := tw_free hF hS hA
      refine va_callv (va_runV (As := [.ref (a 3)]) (rest := []) ⟨hx, hb, hml, hown, hts⟩ (c_takeOver l dC dI ad av H.size a k τ ln y g u  hI ) (cwV 1 hts (gi_4 (List.mem_cons_of_mem _ (List.mem_append_left _ (List.mem_of_getElem? (i := 6) rfl))) (List.mem_cons_of_mem _ (List.mem_append_left _ (List.mem_of_getElem? (i := 7) rfl))) (List.mem_cons_of_mem _ (List.mem_append_left _ (List.mem_of_getElem? (i := 8) rfl))) (List.mem_cons_of_mem _ (List.mem_append_left _ (List.mem_of_getElem? (i := 9) rfl))) (fun _ hh => (List.mem_cons_of_mem _ (List.mem_append_right _ (List.mem_append_right _ (List.mem_append_right _ (List.mem_append_left _ hh)))))) gd_c_takeOver) rfl rfl rfl (by decide +kernel) ⟨Nat.le_of_ble_eq_true rfl, Nat.le_of_ble_eq_true rfl⟩) ⟨pw_blind, tw_recv hK hT (fx_4 hX) (by decide) cl_e14 rfl, pw_use hT hK hFc hS hM⟩ rfl rfl hl.1 rfl (lv_room (Nat.le_of_ble_eq_true rfl)) dX11_tried_45 ⟨Nat.le_of_ble_eq_true rfl, Nat.le_of_ble_eq_true rfl⟩) hS (fun q _ h => hFc q h) hFc (fun u0 t H locs ht hvm hw hB hz1 hk1 hS => ?_)
      refine W.widen (k := 0) (n := 0) (Nat.le_of_ble_eq_true rfl) (Nat.le_of_ble_eq_true rfl) ?_
      clear hvm hz1 hk1
      obtain ⟨y_9, hgy_9, hT⟩ := hB
      rw [ht] at hT
      have hKM := hKM.ag hMo hgy_9 (by decide)
      have hI := hI.ag hgy_9 (by decide)
      refine lv_aload_n hx hb dX11_tried_48 rfl (lv_at hl 1 rfl) ?_
      refine tw_get (D := (dC, dI)) (v := .ref (a 4)) (C := RX11) (T := TX11) (N := 10) hx hb hts (fun _ hh => (List.mem_cons_of_mem _ (List.mem_append_right _ (List.mem_append_right _ (List.mem_append_left _ hh))))) hown hK hT (fx_0 hX) (by decide) cl_e10 rfl 3 (by decide) (hts (.fieldLink RX11 32 "TypingPool" "trial" "LTypingPool$Floor;") (List.mem_cons_of_mem _ (List.mem_append_left _ (List.mem_of_getElem? (i := 4) rfl)))) (fun _ h9 => h9) rfl dX11_tried_49 ?_
      refine lv_iload_n hx hb dX11_tried_52 rfl (lv_at hl 3 rfl) ?_
      refine lv_iload_n hx hb dX11_tried_53 rfl (lv_at hl 2 rfl) ?_
      refine lv_iconst (v := (-1)) hx hb dX11_tried_54 (by decide) ?_
      refine lv_icmp_ne (tgt := 62) hx hb dX11_tried_55 (by decide) (fun c_10 => ?_) (fun c_10 => ?_)
      · have nc_10 := z_ne rfl (zk (x := (-1)) (-1) rfl) c_10
        refine lv_aload_n hx hb dX11_tried_62 rfl (lv_at hl 1 rfl) ?_
        refine tw_get (D := (dC, dI)) (v := .ref (a 2)) (C := RX11) (T := TX11) (N := 10) hx hb hts (fun _ hh => (List.mem_cons_of_mem _ (List.mem_append_right _ (List.mem_append_right _ (List.mem_append_left _ hh))))) hown hK hT (fx_0 hX) (by decide) cl_e10 rfl 1 (by decide) (hts (.fieldLink RX11 19 "TypingPool" "rules" "LTypingPool$Rules;") (List.mem_cons_of_mem _ (List.mem_append_left _ (List.mem_of_getElem? (i := 10) rfl)))) (fun _ h9 => h9) rfl dX11_tried_63 ?_
        refine tw_get (D := (dC, dI)) (v := .ref (a 13)) (C := RX10) (T := TX10) (N := 6) hx hb hts (fun _ hh => (List.mem_cons_of_mem _ (List.mem_append_right _ (List.mem_append_right _ (List.mem_append_right _ (List.mem_append_right _ (List.mem_append_left _ hh))))))) hown hK hT (fx_2 hX) (by decide) cl_e12 rfl 0 (by decide) (hts (.fieldLink RX11 334 "TypingPool$Rules" "told" "[LTypingPool$Rule;") (List.mem_cons_of_mem _ (List.mem_append_left _ (List.mem_of_getElem? (i := 11) rfl)))) (fun _ h9 => h9) rfl dX11_tried_66 ?_
        refine lv_iload_n hx hb dX11_tried_69 rfl (lv_at hl 2 rfl) ?_
        refine tw_aald hx hb hK hT 6 (fx_13 hX) (by decide) cl_e23 rfl (z_in rfl (by omega) (by omega)) dX11_tried_70 ?_
        obtain ⟨q_11, hgq_11, htq_11⟩ := ic_l13 hI (x := p0) rfl (by omega) (by omega)
        refine lq_topr hgq_11 ?_
        refine lv_iconst (v := (-1)) hx hb dX11_tried_71 (by decide) ?_
        have hFc := tw_free hF hS hA
        have hp_12 : (-1 : Int32).toInt = (-1) := (zk (x := (-1)) (-1) rfl)
        refine va_callv (va_runV (As := [.int p1, .ref q_11, .int (-1)]) (rest := []) ⟨hx, hb, hml, hown, hts⟩ (c_runOntR l dC dI ad av H.size a k τ ln y_9 g u p1 q_11 (-1 : Int32) hI htq_11 (by omega)) (cwV 3 hts (gi_4 (List.mem_cons_of_mem _ (List.mem_append_left _ (List.mem_of_getElem? (i := 12) rfl))) (List.mem_cons_of_mem _ (List.mem_append_left _ (List.mem_of_getElem? (i := 13) rfl))) (List.mem_cons_of_mem _ (List.mem_append_left _ (List.mem_of_getElem? (i := 14) rfl))) (List.mem_cons_of_mem _ (List.mem_append_left _ (List.mem_of_getElem? (i := 9) rfl))) (fun _ hh => (List.mem_cons_of_mem _ (List.mem_append_right _ (List.mem_append_right _ (List.mem_append_right _ (List.mem_append_right _ (List.mem_append_right _ (List.mem_append_left _ hh)))))))) gd_c_runOntR) rfl rfl rfl (by decide +kernel) ⟨Nat.le_of_ble_eq_true rfl, Nat.le_of_ble_eq_true rfl⟩) ⟨pw_blind, tw_recv hK hT (fx_4 hX) (by decide) cl_e14 rfl, pw_use hT hK hFc hS hM⟩ rfl rfl hl.1 rfl (lv_room (Nat.le_of_ble_eq_true rfl)) dX11_tried_72 ⟨Nat.le_of_ble_eq_true rfl, Nat.le_of_ble_eq_true rfl⟩) hS (fun q _ h => hFc q h) hFc (fun u0 t H locs ht hvm hw hB hz1 hk1 hS => ?_)
        refine W.widen (k := 0) (n := 0) (Nat.le_of_ble_eq_true rfl) (Nat.le_of_ble_eq_true rfl) ?_
        clear hvm hz1 hk1
        obtain ⟨y_14, hgy_14, hT⟩ := hB
        rw [ht] at hT
        have hKM := hKM.ag hMo hgy_14 (by decide)
        have hI := hI.ag hgy_14 (by decide)
        clear hp_12
        refine lv_iconst (v := 0) hx hb dX11_tried_75 (by decide) ?_
        refine lv_istore (lv' := [(4, .int 0), (3, .int 1), (0, .ref (a 0)), (1, .int p0), (2, .int p1)]) hx hb dX11_tried_76 hl (by decide) rfl (fun ls hl => ?_)
        have loop_78 : ∀ (n : Nat) (i4 : Int32) (y_L78 : Nat → Nat → Int32) (H : Heap) (locs : List Loc) (ls : Array Slot), (8 - i4.toInt).toNat < n → kpM τ y g y_L78 g → IC a u τ ln y_L78 g → 0 ≤ i4.toInt → i4.toInt ≤ 8 → tw (dC, dI) a k τ ln y_L78 g H → va_S A s.heap H locs → lv_has ls 5 [(0, .ref (a 0)), (1, .int p0), (2, .int p1), (3, .int 1), (4, .int i4)] → W p l e (headSpec wm_c_tried ({ frames := 7, cells := 0, slots := 0, locals := 420 })).room s m ([.ref (a 0), .int p0, .int p1] : List Value).toArray below meth c H locs 0 0 (MQ below (va_Qi (fun (r u : Int32) => u = r) (fun (r : Int32) (t : State) => (∃ (u' : Nat → Int), (∀ i, i ∉ ([7] : List Nat) → u' i = u i) ∧ pq (dC, dI) a k τ y g u' s.heap.size t.heap)) A) ([.ref (a 0), .int p0, .int p1] : List Value).toArray s 0 0 A) (F0 m 78 ls []) := by
          intro n
          induction n with
          | zero => intro i4 y_L78 H locs ls hlt; exact absurd hlt (Nat.not_lt_zero _)
          | succ n ih_78 =>
            intro i4 y_L78 H locs ls hlt hKM hI hi78_0 hi78_1 hT hS hl
            refine lv_iload hx hb dX11_tried_78 (lv_at hl 4 rfl) ?_
            refine lv_bipush (v := 8) hx hb dX11_tried_80 (by decide) ?_
            refine lv_icmp_ge (tgt := 107) hx hb dX11_tried_82 (by decide) (fun c_15 => ?_) (fun c_15 => ?_)
            · have nc_15 := z_le (zk (x := 8) 8 rfl) rfl c_15
              refine lv_aload_n hx hb dX11_tried_107 rfl (lv_at hl 0 rfl) ?_
              refine lv_bipush (v := 8) hx hb dX11_tried_108 (by decide) ?_
              refine tw_put (D := (dC, dI)) (x := 8) (ty := .int) (C := RX11) (T := TX11) (N := 10) hx hb hts (fun _ hh => (List.mem_cons_of_mem _ (List.mem_append_right _ (List.mem_append_right _ (List.mem_append_left _ hh))))) tyX11 tyX11_ok nmX11 hown hK hT hF hS (fx_0 hX) (by decide) cl_e10 rfl 9 (by decide) (hts (.fieldLink RX11 65 "TypingPool" "rowLength" "I") (List.mem_cons_of_mem _ (List.mem_append_left _ (List.mem_of_getElem? (i := 15) rfl)))) (fun _ h9 => h9) rfl (tyX11_ok 9 (by decide)) rfl rfl (Nat.le_of_ble_eq_true rfl) rfl dX11_tried_110 (fun H locs hT hS => ?_)
              obtain ⟨y_16, hy_16, hT⟩ : ∃ z : Nat → Nat → Int32, z = up2 y_L78 (a 0) 9 (8 : Int32) ∧ tw (dC, dI) a k τ ln z g H := ⟨_, rfl, hT⟩
              have hKM : kpM τ y g y_16 g := by rw [hy_16]; exact hKM.up hMo (fx_0 hX) (by decide)
              have hp_17 : (8 : Int32).toInt = 8 := (zk (x := 8) 8 rfl)
              have hI := (hI.set7 hp_17 (by omega) (by omega))
              rw [← hy_16] at hI
              refine lv_aload_n hx hb dX11_tried_113 rfl (lv_at hl 0 rfl) ?_
              refine tw_get (D := (dC, dI)) (v := .ref (a 4)) (C := RX11) (T := TX11) (N := 10) hx hb hts (fun _ hh => (List.mem_cons_of_mem _ (List.mem_append_right _ (List.mem_append_right _ (List.mem_append_left _ hh))))) hown hK hT (fx_0 hX) (by decide) cl_e10 rfl 3 (by decide) (hts (.fieldLink RX11 32 "TypingPool" "trial" "LTypingPool$Floor;") (List.mem_cons_of_mem _ (List.mem_append_left _ (List.mem_of_getElem? (i := 4) rfl)))) (fun _ h9 => h9) rfl dX11_tried_114 ?_
              have hFc := tw_free hF hS hA
              refine va_calli (va_runV (As := []) (rest := []) ⟨hx, hb, hml, hown, hts⟩ (c_lateOnest l dC dI ad av H.size a k τ ln y_16 g (upc u 7 8)  hI ) (cwV 0 hts (gi_4 (List.mem_cons_of_mem _ (List.mem_append_left _ (List.mem_of_getElem? (i := 16) rfl))) (List.mem_cons_of_mem _ (List.mem_append_left _ (List.mem_of_getElem? (i := 17) rfl))) (List.mem_cons_of_mem _ (List.mem_append_left _ (List.mem_of_getElem? (i := 18) rfl))) (List.mem_cons_of_mem _ (List.mem_append_left _ (List.mem_of_getElem? (i := 9) rfl))) (fun _ hh => (List.mem_cons_of_mem _ (List.mem_append_right _ (List.mem_append_right _ (List.mem_append_right _ (List.mem_append_right _ (List.mem_append_right _ (List.mem_append_right _ (List.mem_append_left _ hh))))))))) gd_c_lateOnest) rfl rfl rfl (by decide +kernel) ⟨Nat.le_of_ble_eq_true rfl, Nat.le_of_ble_eq_true rfl⟩) ⟨pw_blind, tw_recv hK hT (fx_4 hX) (by decide) cl_e14 rfl, pw_use hT hK hFc hS hM⟩ rfl rfl hl.1 rfl (lv_room (Nat.le_of_ble_eq_true rfl)) dX11_tried_117 ⟨Nat.le_of_ble_eq_true rfl, Nat.le_of_ble_eq_true rfl⟩) hS (fun q _ h => hFc q h) hFc (fun r0 r_18 t H locs ht hvm hw hB hz1 hk1 hS => ?_)
              refine W.widen (k := 0) (n := 0) (Nat.le_of_ble_eq_true rfl) (Nat.le_of_ble_eq_true rfl) ?_
              clear hvm hz1 hk1
              subst hw
              have hT := hB
              rw [ht] at hT
              exact W.iret (v := r_18) hx hb hr (fun t ht hW9 => ⟨⟨r_18, r_18, rfl, rfl, ⟨(upc u 7 8), (by intro i hi; simp only [List.mem_cons, List.not_mem_nil, or_false, not_or] at hi; unfold upc; repeat rw [if_neg (by omega)]), ⟨τ, ln, y_16, g, hMo, hKM, hI, tw_at ht hT⟩⟩⟩, hS.F ht⟩) hS.2.2 dX11_tried_120
            · have nc_15 := z_nle (zk (x := 8) 8 rfl) rfl c_15
              refine lv_aload_n hx hb dX11_tried_85 rfl (lv_at hl 0 rfl) ?_
              refine tw_get (D := (dC, dI)) (v := .ref (a 8)) (C := RX11) (T := TX11) (N := 10) hx hb hts (fun _ hh => (List.mem_cons_of_mem _ (List.mem_append_right _ (List.mem_append_right _ (List.mem_append_left _ hh))))) hown hK hT (fx_0 hX) (by decide) cl_e10 rfl 8 (by decide) (hts (.fieldLink RX11 61 "TypingPool" "row" "[I") (List.mem_cons_of_mem _ (List.mem_append_left _ (List.mem_of_getElem? (i := 19) rfl)))) (fun _ h9 => h9) rfl dX11_tried_86 ?_
              refine lv_iload hx hb dX11_tried_89 (lv_at hl 4 rfl) ?_
              refine lv_aload_n hx hb dX11_tried_91 rfl (lv_at hl 0 rfl) ?_
              refine tw_get (D := (dC, dI)) (v := .ref (a 4)) (C := RX11) (T := TX11) (N := 10) hx hb hts (fun _ hh => (List.mem_cons_of_mem _ (List.mem_append_right _ (List.mem_append_right _ (List.mem_append_left _ hh))))) hown hK hT (fx_0 hX) (by decide) cl_e10 rfl 3 (by decide) (hts (.fieldLink RX11 32 "TypingPool" "trial" "LTypingPool$Floor;") (List.mem_cons_of_mem _ (List.mem_append_left _ (List.mem_of_getElem? (i := 4) rfl)))) (fun _ h9 => h9) rfl dX11_tried_92 ?_
              refine lv_iload hx hb dX11_tried_95 (lv_at hl 4 rfl) ?_
              have hFc := tw_free hF hS hA
              refine va_calli (va_runV (As := [.int i4]) (rest := [.int i4, .ref (a 8)]) ⟨hx, hb, hml, hown, hts⟩ (c_waitedInt l dC dI ad av H.size a k τ ln y_L78 g u i4 hI ) (cwV 1 hts (gi_4 (List.mem_cons_of_mem _ (List.mem_append_left _ (List.mem_of_getElem? (i := 20) rfl))) (List.mem_cons_of_mem _ (List.mem_append_left _ (List.mem_of_getElem? (i := 21) rfl))) (List.mem_cons_of_mem _ (List.mem_append_left _ (List.mem_of_getElem? (i := 22) rfl))) (List.mem_cons_of_mem _ (List.mem_append_left _ (List.mem_of_getElem? (i := 9) rfl))) (fun _ hh => (List.mem_cons_of_mem _ (List.mem_append_right _ (List.mem_append_right _ (List.mem_append_right _ (List.mem_append_right _ (List.mem_append_right _ (List.mem_append_right _ (List.mem_append_right _ (List.mem_append_left _ hh)))))))))) gd_c_waitedInt) rfl rfl rfl (by decide +kernel) ⟨Nat.le_of_ble_eq_true rfl, Nat.le_of_ble_eq_true rfl⟩) ⟨pw_blind, tw_recv hK hT (fx_4 hX) (by decide) cl_e14 rfl, pw_use hT hK hFc hS hM⟩ rfl rfl hl.1 rfl (lv_room (Nat.le_of_ble_eq_true rfl)) dX11_tried_97 ⟨Nat.le_of_ble_eq_true rfl, Nat.le_of_ble_eq_true rfl⟩) hS (fun q _ h => hFc q h) hFc (fun r0 r_19 t H locs ht hvm hw hB hz1 hk1 hS => ?_)
              refine W.widen (k := 0) (n := 0) (Nat.le_of_ble_eq_true rfl) (Nat.le_of_ble_eq_true rfl) ?_
              clear hvm hz1 hk1
              subst hw
              have hT := hB
              rw [ht] at hT
              refine tw_iast hx hb hK hT hF hS 0 (fx_8 hX) (by decide) (fun _ => cl_e18) rfl (z_in rfl (by omega) (by omega)) dX11_tried_100 (fun H locs hT hS => ?_)
              obtain ⟨y_20, hy_20, hT⟩ : ∃ z : Nat → Nat → Int32, z = up2 y_L78 (a 8) i4.toNatClampNeg r_19 ∧ tw (dC, dI) a k τ ln z g H := ⟨_, rfl, hT⟩
              have hKM : kpM τ y g y_20 g := by rw [hy_20]; exact hKM.up hMo (fx_8 hX) (by decide)
              have hI := hI.ag (S := [18]) (y' := y_20) (by rw [hy_20]; exact ag.one (fx_8 hX)) (by decide)
              obtain ⟨x_21, ex_21⟩ : ∃ y : Int32, y = i4 + Int32.ofInt 1 := ⟨_, rfl⟩
              have hx_21 := z_add ex_21 rfl (zk (x := Int32.ofInt 1) 1 rfl) (by omega) (by omega)
              refine lv_iinc (v := x_21) (lv' := [(4, .int x_21), (0, .ref (a 0)), (1, .int p0), (2, .int p1), (3, .int 1)]) hx hb dX11_tried_101 hl (k := 4) rfl ex_21.symm (by decide) rfl (fun ls hl => ?_)
              refine lv_goto (tgt := 78) hx hb dX11_tried_104 (by decide) ?_
              exact ih_78  x_21 y_20 H _ ls (by omega) hKM hI (by omega) (by omega) hT hS (lv_sub hl [1, 2, 3, 4, 0] rfl)
        have hp_22 : (0 : Int32).toInt = 0 := (zk (x := 0) 0 rfl)
        exact loop_78 _ (0 : Int32) y_14 H _ ls (Nat.lt_succ_self _) hKM hI (by omega) (by omega) hT hS (lv_sub hl [2, 3, 4, 1, 0] rfl)
      · have nc_10 := z_eq rfl (zk (x := (-1)) (-1) rfl) c_10
        refine lv_null hx hb dX11_tried_58 ?_
        refine lv_goto (tgt := 71) hx hb dX11_tried_59 (by decide) ?_
        refine lv_iconst (v := (-1)) hx hb dX11_tried_71 (by decide) ?_
        have hFc := tw_free hF hS hA
        have hp_23 : (-1 : Int32).toInt = (-1) := (zk (x := (-1)) (-1) rfl)
        refine va_callv (va_runV (As := [.int p1, .null, .int (-1)]) (rest := []) ⟨hx, hb, hml, hown, hts⟩ (c_runOntN l dC dI ad av H.size a k τ ln y_9 g u p1 (-1 : Int32) hI (by omega)) (cwV 3 hts (gi_4 (List.mem_cons_of_mem _ (List.mem_append_left _ (List.mem_of_getElem? (i := 12) rfl))) (List.mem_cons_of_mem _ (List.mem_append_left _ (List.mem_of_getElem? (i := 13) rfl))) (List.mem_cons_of_mem _ (List.mem_append_left _ (List.mem_of_getElem? (i := 14) rfl))) (List.mem_cons_of_mem _ (List.mem_append_left _ (List.mem_of_getElem? (i := 9) rfl))) (fun _ hh => (List.mem_cons_of_mem _ (List.mem_append_right _ (List.mem_append_right _ (List.mem_append_right _ (List.mem_append_right _ (List.mem_append_right _ (List.mem_append_right _ (List.mem_append_right _ (List.mem_append_right _ (List.mem_append_left _ hh))))))))))) gd_c_runOntN) rfl rfl rfl (by decide +kernel) ⟨Nat.le_of_ble_eq_true rfl, Nat.le_of_ble_eq_true rfl⟩) ⟨pw_blind, tw_recv hK hT (fx_4 hX) (by decide) cl_e14 rfl, pw_use hT hK hFc hS hM⟩ rfl rfl hl.1 rfl (lv_room (Nat.le_of_ble_eq_true rfl)) dX11_tried_72 ⟨Nat.le_of_ble_eq_true rfl, Nat.le_of_ble_eq_true rfl⟩) hS (fun q _ h => hFc q h) hFc (fun u0 t H locs ht hvm hw hB hz1 hk1 hS => ?_)
        refine W.widen (k := 0) (n := 0) (Nat.le_of_ble_eq_true rfl) (Nat.le_of_ble_eq_true rfl) ?_
        clear hvm hz1 hk1
        obtain ⟨y_25, hgy_25, hT⟩ := hB
        rw [ht] at hT
        have hKM := hKM.ag hMo hgy_25 (by decide)
        have hI := hI.ag hgy_25 (by decide)
        clear hp_23
        refine lv_iconst (v := 0) hx hb dX11_tried_75 (by decide) ?_
        refine lv_istore (lv' := [(4, .int 0), (3, .int 1), (0, .ref (a 0)), (1, .int p0), (2, .int p1)]) hx hb dX11_tried_76 hl (by decide) rfl (fun ls hl => ?_)
        have loop_78 : ∀ (n : Nat) (i4 : Int32) (y_L78 : Nat → Nat → Int32) (H : Heap) (locs : List Loc) (ls : Array Slot), (8 - i4.toInt).toNat < n → kpM τ y g y_L78 g → IC a u τ ln y_L78 g → 0 ≤ i4.toInt → i4.toInt ≤ 8 → tw (dC, dI) a k τ ln y_L78 g H → va_S A s.heap H locs → lv_has ls 5 [(0, .ref (a 0)), (1, .int p0), (2, .int p1), (3, .int 1), (4, .int i4)] → W p l e (headSpec wm_c_tried ({ frames := 7, cells := 0, slots := 0, locals := 420 })).room s m ([.ref (a 0), .int p0, .int p1] : List Value).toArray below meth c H locs 0 0 (MQ below (va_Qi (fun (r u : Int32) => u = r) (fun (r : Int32) (t : State) => (∃ (u' : Nat → Int), (∀ i, i ∉ ([7] : List Nat) → u' i = u i) ∧ pq (dC, dI) a k τ y g u' s.heap.size t.heap)) A) ([.ref (a 0), .int p0, .int p1] : List Value).toArray s 0 0 A) (F0 m 78 ls []) := by
          intro n
          induction n with
          | zero => intro i4 y_L78 H locs ls hlt; exact absurd hlt (Nat.not_lt_zero _)
          | succ n ih_78 =>
            intro i4 y_L78 H locs ls hlt hKM hI hi78_0 hi78_1 hT hS hl
            refine lv_iload hx hb dX11_tried_78 (lv_at hl 4 rfl) ?_
            refine lv_bipush (v := 8) hx hb dX11_tried_80 (by decide) ?_
            refine lv_icmp_ge (tgt := 107) hx hb dX11_tried_82 (by decide) (fun c_26 => ?_) (fun c_26 => ?_)
            · have nc_26 := z_le (zk (x := 8) 8 rfl) rfl c_26
              refine lv_aload_n hx hb dX11_tried_107 rfl (lv_at hl 0 rfl) ?_
              refine lv_bipush (v := 8) hx hb dX11_tried_108 (by decide) ?_
              refine tw_put (D := (dC, dI)) (x := 8) (ty := .int) (C := RX11) (T := TX11) (N := 10) hx hb hts (fun _ hh => (List.mem_cons_of_mem _ (List.mem_append_right _ (List.mem_append_right _ (List.mem_append_left _ hh))))) tyX11 tyX11_ok nmX11 hown hK hT hF hS (fx_0 hX) (by decide) cl_e10 rfl 9 (by decide) (hts (.fieldLink RX11 65 "TypingPool" "rowLength" "I") (List.mem_cons_of_mem _ (List.mem_append_left _ (List.mem_of_getElem? (i := 15) rfl)))) (fun _ h9 => h9) rfl (tyX11_ok 9 (by decide)) rfl rfl (Nat.le_of_ble_eq_true rfl) rfl dX11_tried_110 (fun H locs hT hS => ?_)
              obtain ⟨y_27, hy_27, hT⟩ : ∃ z : Nat → Nat → Int32, z = up2 y_L78 (a 0) 9 (8 : Int32) ∧ tw (dC, dI) a k τ ln z g H := ⟨_, rfl, hT⟩
              have hKM : kpM τ y g y_27 g := by rw [hy_27]; exact hKM.up hMo (fx_0 hX) (by decide)
              have hp_28 : (8 : Int32).toInt = 8 := (zk (x := 8) 8 rfl)
              have hI := (hI.set7 hp_28 (by omega) (by omega))
              rw [← hy_27] at hI
              refine lv_aload_n hx hb dX11_tried_113 rfl (lv_at hl 0 rfl) ?_
              refine tw_get (D := (dC, dI)) (v := .ref (a 4)) (C := RX11) (T := TX11) (N := 10) hx hb hts (fun _ hh => (List.mem_cons_of_mem _ (List.mem_append_right _ (List.mem_append_right _ (List.mem_append_left _ hh))))) hown hK hT (fx_0 hX) (by decide) cl_e10 rfl 3 (by decide) (hts (.fieldLink RX11 32 "TypingPool" "trial" "LTypingPool$Floor;") (List.mem_cons_of_mem _ (List.mem_append_left _ (List.mem_of_getElem? (i := 4) rfl)))) (fun _ h9 => h9) rfl dX11_tried_114 ?_
              have hFc := tw_free hF hS hA
              refine va_calli (va_runV (As := []) (rest := []) ⟨hx, hb, hml, hown, hts⟩ (c_lateOnest l dC dI ad av H.size a k τ ln y_27 g (upc u 7 8)  hI ) (cwV 0 hts (gi_4 (List.mem_cons_of_mem _ (List.mem_append_left _ (List.mem_of_getElem? (i := 16) rfl))) (List.mem_cons_of_mem _ (List.mem_append_left _ (List.mem_of_getElem? (i := 17) rfl))) (List.mem_cons_of_mem _ (List.mem_append_left _ (List.mem_of_getElem? (i := 18) rfl))) (List.mem_cons_of_mem _ (List.mem_append_left _ (List.mem_of_getElem? (i := 9) rfl))) (fun _ hh => (List.mem_cons_of_mem _ (List.mem_append_right _ (List.mem_append_right _ (List.mem_append_right _ (List.mem_append_right _ (List.mem_append_right _ (List.mem_append_right _ (List.mem_append_left _ hh))))))))) gd_c_lateOnest) rfl rfl rfl (by decide +kernel) ⟨Nat.le_of_ble_eq_true rfl, Nat.le_of_ble_eq_true rfl⟩) ⟨pw_blind, tw_recv hK hT (fx_4 hX) (by decide) cl_e14 rfl, pw_use hT hK hFc hS hM⟩ rfl rfl hl.1 rfl (lv_room (Nat.le_of_ble_eq_true rfl)) dX11_tried_117 ⟨Nat.le_of_ble_eq_true rfl, Nat.le_of_ble_eq_true rfl⟩) hS (fun q _ h => hFc q h) hFc (fun r0 r_29 t H locs ht hvm hw hB hz1 hk1 hS => ?_)
              refine W.widen (k := 0) (n := 0) (Nat.le_of_ble_eq_true rfl) (Nat.le_of_ble_eq_true rfl) ?_
              clear hvm hz1 hk1
              subst hw
              have hT := hB
              rw [ht] at hT
              exact W.iret (v := r_29) hx hb hr (fun t ht hW9 => ⟨⟨r_29, r_29, rfl, rfl, ⟨(upc u 7 8), (by intro i hi; simp only [List.mem_cons, List.not_mem_nil, or_false, not_or] at hi; unfold upc; repeat rw [if_neg (by omega)]), ⟨τ, ln, y_27, g, hMo, hKM, hI, tw_at ht hT⟩⟩⟩, hS.F ht⟩) hS.2.2 dX11_tried_120
            · have nc_26 := z_nle (zk (x := 8) 8 rfl) rfl c_26
              refine lv_aload_n hx hb dX11_tried_85 rfl (lv_at hl 0 rfl) ?_
              refine tw_get (D := (dC, dI)) (v := .ref (a 8)) (C := RX11) (T := TX11) (N := 10) hx hb hts (fun _ hh => (List.mem_cons_of_mem _ (List.mem_append_right _ (List.mem_append_right _ (List.mem_append_left _ hh))))) hown hK hT (fx_0 hX) (by decide) cl_e10 rfl 8 (by decide) (hts (.fieldLink RX11 61 "TypingPool" "row" "[I") (List.mem_cons_of_mem _ (List.mem_append_left _ (List.mem_of_getElem? (i := 19) rfl)))) (fun _ h9 => h9) rfl dX11_tried_86 ?_
              refine lv_iload hx hb dX11_tried_89 (lv_at hl 4 rfl) ?_
              refine lv_aload_n hx hb dX11_tried_91 rfl (lv_at hl 0 rfl) ?_
              refine tw_get (D := (dC, dI)) (v := .ref (a 4)) (C := RX11) (T := TX11) (N := 10) hx hb hts (fun _ hh => (List.mem_cons_of_mem _ (List.mem_append_right _ (List.mem_append_right _ (List.mem_append_left _ hh))))) hown hK hT (fx_0 hX) (by decide) cl_e10 rfl 3 (by decide) (hts (.fieldLink RX11 32 "TypingPool" "trial" "LTypingPool$Floor;") (List.mem_cons_of_mem _ (List.mem_append_left _ (List.mem_of_getElem? (i := 4) rfl)))) (fun _ h9 => h9) rfl dX11_tried_92 ?_
              refine lv_iload hx hb dX11_tried_95 (lv_at hl 4 rfl) ?_
              have hFc := tw_free hF hS hA
              refine va_calli (va_runV (As := [.int i4]) (rest := [.int i4, .ref (a 8)]) ⟨hx, hb, hml, hown, hts⟩ (c_waitedInt l dC dI ad av H.size a k τ ln y_L78 g u i4 hI ) (cwV 1 hts (gi_4 (List.mem_cons_of_mem _ (List.mem_append_left _ (List.mem_of_getElem? (i := 20) rfl))) (List.mem_cons_of_mem _ (List.mem_append_left _ (List.mem_of_getElem? (i := 21) rfl))) (List.mem_cons_of_mem _ (List.mem_append_left _ (List.mem_of_getElem? (i := 22) rfl))) (List.mem_cons_of_mem _ (List.mem_append_left _ (List.mem_of_getElem? (i := 9) rfl))) (fun _ hh => (List.mem_cons_of_mem _ (List.mem_append_right _ (List.mem_append_right _ (List.mem_append_right _ (List.mem_append_right _ (List.mem_append_right _ (List.mem_append_right _ (List.mem_append_right _ (List.mem_append_left _ hh)))))))))) gd_c_waitedInt) rfl rfl rfl (by decide +kernel) ⟨Nat.le_of_ble_eq_true rfl, Nat.le_of_ble_eq_true rfl⟩) ⟨pw_blind, tw_recv hK hT (fx_4 hX) (by decide) cl_e14 rfl, pw_use hT hK hFc hS hM⟩ rfl rfl hl.1 rfl (lv_room (Nat.le_of_ble_eq_true rfl)) dX11_tried_97 ⟨Nat.le_of_ble_eq_true rfl, Nat.le_of_ble_eq_true rfl⟩) hS (fun q _ h => hFc q h) hFc (fun r0 r_30 t H locs ht hvm hw hB hz1 hk1 hS => ?_)
              refine W.widen (k := 0) (n := 0) (Nat.le_of_ble_eq_true rfl) (Nat.le_of_ble_eq_true rfl) ?_
              clear hvm hz1 hk1
              subst hw
              have hT := hB
              rw [ht] at hT
              refine tw_iast hx hb hK hT hF hS 0 (fx_8 hX) (by decide) (fun _ => cl_e18) rfl (z_in rfl (by omega) (by omega)) dX11_tried_100 (fun H locs hT hS => ?_)
              obtain ⟨y_31, hy_31, hT⟩ : ∃ z : Nat → Nat → Int32, z = up2 y_L78 (a 8) i4.toNatClampNeg r_30 ∧ tw (dC, dI) a k τ ln z g H := ⟨_, rfl, hT⟩
              have hKM : kpM τ y g y_31 g := by rw [hy_31]; exact hKM.up hMo (fx_8 hX) (by decide)
              have hI := hI.ag (S := [18]) (y' := y_31) (by rw [hy_31]; exact ag.one (fx_8 hX)) (by decide)
              obtain ⟨x_32, ex_32⟩ : ∃ y : Int32, y = i4 + Int32.ofInt 1 := ⟨_, rfl⟩
              have hx_32 := z_add ex_32 rfl (zk (x := Int32.ofInt 1) 1 rfl) (by omega) (by omega)
              refine lv_iinc (v := x_32) (lv' := [(4, .int x_32), (0, .ref (a 0)), (1, .int p0), (2, .int p1), (3, .int 1)]) hx hb dX11_tried_101 hl (k := 4) rfl ex_32.symm (by decide) rfl (fun ls hl => ?_)
              refine lv_goto (tgt := 78) hx hb dX11_tried_104 (by decide) ?_
              exact ih_78  x_32 y_31 H _ ls (by omega) hKM hI (by omega) (by omega) hT hS (lv_sub hl [1, 2, 3, 4, 0] rfl)
        have hp_33 : (0 : Int32).toInt = 0 := (zk (x := 0) 0 rfl)
        exact loop_78 _ (0 : Int32) y_25 H _ ls (Nat.lt_succ_self _) hKM hI (by omega) (by omega) hT hS (lv_sub hl [2, 3, 4, 1, 0] rfl)
    · refine lq_top (v := 0) hre ?_
      rw [ht] at hT
      clear hp_3
      refine lv_if_ne (tgt := 37) hx hb dX11_tried_32 (by decide) (fun c_34 => absurd c_34 (by decide)) (fun c_34 => ?_)
      refine lv_iconst (v := (-1)) hx hb dX11_tried_35 (by decide) ?_
      exact W.iret (v := (-1)) hx hb hr (fun t ht hW9 => ⟨⟨(-1), (-1), rfl, rfl, ⟨u, fun _ _ => rfl, ⟨τ, ln, y, g, hMo, hKM, hI, tw_at ht hT⟩⟩⟩, hS.F ht⟩) hS.2.2 dX11_tried_36
  · have nc_1 := z_ne rfl (zk (x := (-1)) (-1) rfl) c_1
    refine lv_aload_n hx hb dX11_tried_5 rfl (lv_at hl 0 rfl) ?_
    refine tw_get (D := (dC, dI)) (v := .ref (a 2)) (C := RX11) (T := TX11) (N := 10) hx hb hts (fun _ hh => (List.mem_cons_of_mem _ (List.mem_append_right _ (List.mem_append_right _ (List.mem_append_left _ hh))))) hown hK hT (fx_0 hX) (by decide) cl_e10 rfl 1 (by decide) (hts (.fieldLink RX11 19 "TypingPool" "rules" "LTypingPool$Rules;") (List.mem_cons_of_mem _ (List.mem_append_left _ (List.mem_of_getElem? (i := 10) rfl)))) (fun _ h9 => h9) rfl dX11_tried_6 ?_
    refine lv_iload_n hx hb dX11_tried_9 rfl (lv_at hl 1 rfl) ?_
    have hFc := tw_free hF hS hA
    refine va_calli (va_runV (As := [.int p0]) (rest := []) ⟨hx, hb, hml, hown, hts⟩ (c_isTriable l dC dI ad av s.heap.size a k τ ln y g u p0 hI ) (cwV 1 hts (gi_4 (List.mem_cons_of_mem _ (List.mem_append_left _ (List.mem_of_getElem? (i := 23) rfl))) (List.mem_cons_of_mem _ (List.mem_append_left _ (List.mem_of_getElem? (i := 24) rfl))) (List.mem_cons_of_mem _ (List.mem_append_left _ (List.mem_of_getElem? (i := 25) rfl))) (List.mem_cons_of_mem _ (List.mem_append_left _ (List.mem_of_getElem? (i := 26) rfl))) (fun _ hh => (List.mem_cons_of_mem _ (List.mem_append_right _ (List.mem_append_right _ (List.mem_append_right _ (List.mem_append_right _ (List.mem_append_right _ (List.mem_append_right _ (List.mem_append_right _ (List.mem_append_right _ (List.mem_append_right _ (List.mem_append_left _ hh)))))))))))) gd_c_isTriable) rfl rfl rfl (by decide +kernel) ⟨Nat.le_of_ble_eq_true rfl, Nat.le_of_ble_eq_true rfl⟩) ⟨pw_blind, tw_recv hK hT (fx_2 hX) (by decide) cl_e12 rfl, pw_use hT hK hFc hS hM⟩ rfl rfl hl.1 rfl (lv_room (Nat.le_of_ble_eq_true rfl)) dX11_tried_10 ⟨Nat.le_of_ble_eq_true rfl, Nat.le_of_ble_eq_true rfl⟩) hS (fun q _ h => hFc q h) hFc (fun r0 r_35 t H locs ht hvm hw hB hz1 hk1 hS => ?_)
    refine W.widen (k := 0) (n := 0) (Nat.le_of_ble_eq_true rfl) (Nat.le_of_ble_eq_true rfl) ?_
    clear hvm hz1 hk1
    subst hw
    rcases hB with ⟨hre, hf_36, hf_37, hT⟩ | ⟨hre, hT⟩
    · refine lq_top (v := 1) hre ?_
      rw [ht] at hT
      refine lv_if_eq (tgt := 20) hx hb dX11_tried_13 (by decide) (fun c_38 => absurd c_38 (by decide)) (fun c_38 => ?_)
      refine lv_iconst (v := 1) hx hb dX11_tried_16 (by decide) ?_
      refine lv_goto (tgt := 21) hx hb dX11_tried_17 (by decide) ?_
      refine lv_istore_n (lv' := [(3, .int 1), (0, .ref (a 0)), (1, .int p0), (2, .int p1)]) hx hb dX11_tried_21 rfl hl (by decide) rfl (fun ls hl => ?_)
      refine lv_iload_n hx hb dX11_tried_22 rfl (lv_at hl 0 rfl) ?_
      refine lv_if_eq (tgt := 35) hx hb dX11_tried_23 (by decide) (fun c_39 => absurd c_39 (by decide)) (fun c_39 => ?_)
      refine lv_aload_n hx hb dX11_tried_26 rfl (lv_at hl 1 rfl) ?_
      refine lv_iload_n hx hb dX11_tried_27 rfl (lv_at hl 3 rfl) ?_
      refine lv_iconst (v := 0) hx hb dX11_tried_28 (by decide) ?_
      have hFc := tw_free hF hS hA
      have hp_40 : (0 : Int32).toInt = 0 := (zk (x := 0) 0 rfl)
      refine va_calli (va_runV (As := [.int p1, .int 0]) (rest := []) ⟨hx, hb, hml, hown, hts⟩ (c_canGoOn l dC dI ad av H.size a k τ ln y g u p1 (0 : Int32) hI ) (cwV 2 hts (gi_4 (List.mem_cons_of_mem _ (List.mem_append_left _ (List.mem_of_getElem? (i := 0) rfl))) (List.mem_cons_of_mem _ (List.mem_append_left _ (List.mem_of_getElem? (i := 1) rfl))) (List.mem_cons_of_mem _ (List.mem_append_left _ (List.mem_of_getElem? (i := 2) rfl))) (List.mem_cons_of_mem _ (List.mem_append_left _ (List.mem_of_getElem? (i := 3) rfl))) (fun _ hh => (List.mem_cons_of_mem _ (List.mem_append_right _ (List.mem_append_left _ hh)))) gd_c_canGoOn) rfl rfl rfl (by decide +kernel) ⟨Nat.le_of_ble_eq_true rfl, Nat.le_of_ble_eq_true rfl⟩) ⟨pw_blind, tw_recv hK hT (fx_0 hX) (by decide) cl_e10 rfl, pw_use hT hK hFc hS hM⟩ rfl rfl hl.1 rfl (lv_room (Nat.le_of_ble_eq_true rfl)) dX11_tried_29 ⟨Nat.le_of_ble_eq_true rfl, Nat.le_of_ble_eq_true rfl⟩) hS (fun q _ h => hFc q h) hFc (fun r0 r_41 t H locs ht hvm hw hB hz1 hk1 hS => ?_)
      refine W.widen (k := 0) (n := 0) (Nat.le_of_ble_eq_true rfl) (Nat.le_of_ble_eq_true rfl) ?_
      clear hvm hz1 hk1
      subst hw
      rcases hB with ⟨hre, hf_42, hf_43, hT⟩ | ⟨hre, hT⟩
      · refine lq_top (v := 1) hre ?_
        rw [ht] at hT
        try simp only [hp_40] at hf_42 hf_43
        clear hp_40
        refine lv_if_ne (tgt := 37) hx hb dX11_tried_32 (by decide) (fun c_44 => ?_) (fun c_44 => absurd c_44 (by decide))
        refine lv_aload_n hx hb dX11_tried_37 rfl (lv_at hl 1 rfl) ?_
        refine tw_get (D := (dC, dI)) (v := .ref (a 4)) (C := RX11) (T := TX11) (N := 10) hx hb hts (fun _ hh => (List.mem_cons_of_mem _ (List.mem_append_right _ (List.mem_append_right _ (List.mem_append_left _ hh))))) hown hK hT (fx_0 hX) (by decide) cl_e10 rfl 3 (by decide) (hts (.fieldLink RX11 32 "TypingPool" "trial" "LTypingPool$Floor;") (List.mem_cons_of_mem _ (List.mem_append_left _ (List.mem_of_getElem? (i := 4) rfl)))) (fun _ h9 => h9) rfl dX11_tried_38 ?_
        refine lv_aload_n hx hb dX11_tried_41 rfl (lv_at hl 1 rfl) ?_
        refine tw_get (D := (dC, dI)) (v := .ref (a 3)) (C := RX11) (T := TX11) (N := 10) hx hb hts (fun _ hh => (List.mem_cons_of_mem _ (List.mem_append_right _ (List.mem_append_right _ (List.mem_append_left _ hh))))) hown hK hT (fx_0 hX) (by decide) cl_e10 rfl 2 (by decide) (hts (.fieldLink RX11 28 "TypingPool" "floor" "LTypingPool$Floor;") (List.mem_cons_of_mem _ (List.mem_append_left _ (List.mem_of_getElem? (i := 5) rfl)))) (fun _ h9 => h9) rfl dX11_tried_42 ?_
        have hFc := tw_free hF hS hA
        refine va_callv (va_runV (As := [.ref (a 3)]) (rest := []) ⟨hx, hb, hml, hown, hts⟩ (c_takeOver l dC dI ad av H.size a k τ ln y g u  hI ) (cwV 1 hts (gi_4 (List.mem_cons_of_mem _ (List.mem_append_left _ (List.mem_of_getElem? (i := 6) rfl))) (List.mem_cons_of_mem _ (List.mem_append_left _ (List.mem_of_getElem? (i := 7) rfl))) (List.mem_cons_of_mem _ (List.mem_append_left _ (List.mem_of_getElem? (i := 8) rfl))) (List.mem_cons_of_mem _ (List.mem_append_left _ (List.mem_of_getElem? (i := 9) rfl))) (fun _ hh => (List.mem_cons_of_mem _ (List.mem_append_right _ (List.mem_append_right _ (List.mem_append_right _ (List.mem_append_left _ hh)))))) gd_c_takeOver) rfl rfl rfl (by decide +kernel) ⟨Nat.le_of_ble_eq_true rfl, Nat.le_of_ble_eq_true rfl⟩) ⟨pw_blind, tw_recv hK hT (fx_4 hX) (by decide) cl_e14 rfl, pw_use hT hK hFc hS hM⟩ rfl rfl hl.1 rfl (lv_room (Nat.le_of_ble_eq_true rfl)) dX11_tried_45 ⟨Nat.le_of_ble_eq_true rfl, Nat.le_of_ble_eq_true rfl⟩) hS (fun q _ h => hFc q h) hFc (fun u0 t H locs ht hvm hw hB hz1 hk1 hS => ?_)
        refine W.widen (k := 0) (n := 0) (Nat.le_of_ble_eq_true rfl) (Nat.le_of_ble_eq_true rfl) ?_
        clear hvm hz1 hk1
        obtain ⟨y_46, hgy_46, hT⟩ := hB
        rw [ht] at hT
        have hKM := hKM.ag hMo hgy_46 (by decide)
        have hI := hI.ag hgy_46 (by decide)
        refine lv_aload_n hx hb dX11_tried_48 rfl (lv_at hl 1 rfl) ?_
        refine tw_get (D := (dC, dI)) (v := .ref (a 4)) (C := RX11) (T := TX11) (N := 10) hx hb hts (fun _ hh => (List.mem_cons_of_mem _ (List.mem_append_right _ (List.mem_append_right _ (List.mem_append_left _ hh))))) hown hK hT (fx_0 hX) (by decide) cl_e10 rfl 3 (by decide) (hts (.fieldLink RX11 32 "TypingPool" "trial" "LTypingPool$Floor;") (List.mem_cons_of_mem _ (List.mem_append_left _ (List.mem_of_getElem? (i := 4) rfl)))) (fun _ h9 => h9) rfl dX11_tried_49 ?_
        refine lv_iload_n hx hb dX11_tried_52 rfl (lv_at hl 3 rfl) ?_
        refine lv_iload_n hx hb dX11_tried_53 rfl (lv_at hl 2 rfl) ?_
        refine lv_iconst (v := (-1)) hx hb dX11_tried_54 (by decide) ?_
        refine lv_icmp_ne (tgt := 62) hx hb dX11_tried_55 (by decide) (fun c_47 => ?_) (fun c_47 => ?_)
        · have nc_47 := z_ne rfl (zk (x := (-1)) (-1) rfl) c_47
          refine lv_aload_n hx hb dX11_tried_62 rfl (lv_at hl 1 rfl) ?_
          refine tw_get (D := (dC, dI)) (v := .ref (a 2)) (C := RX11) (T := TX11) (N := 10) hx hb hts (fun _ hh => (List.mem_cons_of_mem _ (List.mem_append_right _ (List.mem_append_right _ (List.mem_append_left _ hh))))) hown hK hT (fx_0 hX) (by decide) cl_e10 rfl 1 (by decide) (hts (.fieldLink RX11 19 "TypingPool" "rules" "LTypingPool$Rules;") (List.mem_cons_of_mem _ (List.mem_append_left _ (List.mem_of_getElem? (i := 10) rfl)))) (fun _ h9 => h9) rfl dX11_tried_63 ?_
          refine tw_get (D := (dC, dI)) (v := .ref (a 13)) (C := RX10) (T := TX10) (N := 6) hx hb hts (fun _ hh => (List.mem_cons_of_mem _ (List.mem_append_right _ (List.mem_append_right _ (List.mem_append_right _ (List.mem_append_right _ (List.mem_append_left _ hh))))))) hown hK hT (fx_2 hX) (by decide) cl_e12 rfl 0 (by decide) (hts (.fieldLink RX11 334 "TypingPool$Rules" "told" "[LTypingPool$Rule;") (List.mem_cons_of_mem _ (List.mem_append_left _ (List.mem_of_getElem? (i := 11) rfl)))) (fun _ h9 => h9) rfl dX11_tried_66 ?_
          refine lv_iload_n hx hb dX11_tried_69 rfl (lv_at hl 2 rfl) ?_
          refine tw_aald hx hb hK hT 6 (fx_13 hX) (by decide) cl_e23 rfl (z_in rfl (by omega) (by omega)) dX11_tried_70 ?_
          obtain ⟨q_48, hgq_48, htq_48⟩ := ic_l13 hI (x := p0) rfl (by omega) (by omega)
          refine lq_topr hgq_48 ?_
          refine lv_iconst (v := (-1)) hx hb dX11_tried_71 (by decide) ?_
          have hFc := tw_free hF hS hA
          have hp_49 : (-1 : Int32).toInt = (-1) := (zk (x := (-1)) (-1) rfl)
          refine va_callv (va_runV (As := [.int p1, .ref q_48, .int (-1)]) (rest := []) ⟨hx, hb, hml, hown, hts⟩ (c_runOntR l dC dI ad av H.size a k τ ln y_46 g u p1 q_48 (-1 : Int32) hI htq_48 (by omega)) (cwV 3 hts (gi_4 (List.mem_cons_of_mem _ (List.mem_append_left _ (List.mem_of_getElem? (i := 12) rfl))) (List.mem_cons_of_mem _ (List.mem_append_left _ (List.mem_of_getElem? (i := 13) rfl))) (List.mem_cons_of_mem _ (List.mem_append_left _ (List.mem_of_getElem? (i := 14) rfl))) (List.mem_cons_of_mem _ (List.mem_append_left _ (List.mem_of_getElem? (i := 9) rfl))) (fun _ hh => (List.mem_cons_of_mem _ (List.mem_append_right _ (List.mem_append_right _ (List.mem_append_right _ (List.mem_append_right _ (List.mem_append_right _ (List.mem_append_left _ hh)))))))) gd_c_runOntR) rfl rfl rfl (by decide +kernel) ⟨Nat.le_of_ble_eq_true rfl, Nat.le_of_ble_eq_true rfl⟩) ⟨pw_blind, tw_recv hK hT (fx_4 hX) (by decide) cl_e14 rfl, pw_use hT hK hFc hS hM⟩ rfl rfl hl.1 rfl (lv_room (Nat.le_of_ble_eq_true rfl)) dX11_tried_72 ⟨Nat.le_of_ble_eq_true rfl, Nat.le_of_ble_eq_true rfl⟩) hS (fun q _ h => hFc q h) hFc (fun u0 t H locs ht hvm hw hB hz1 hk1 hS => ?_)
          refine W.widen (k := 0) (n := 0) (Nat.le_of_ble_eq_true rfl) (Nat.le_of_ble_eq_true rfl) ?_
          clear hvm hz1 hk1
          obtain ⟨y_51, hgy_51, hT⟩ := hB
          rw [ht] at hT
          have hKM := hKM.ag hMo hgy_51 (by decide)
          have hI := hI.ag hgy_51 (by decide)
          clear hp_49
          refine lv_iconst (v := 0) hx hb dX11_tried_75 (by decide) ?_
          refine lv_istore (lv' := [(4, .int 0), (3, .int 1), (0, .ref (a 0)), (1, .int p0), (2, .int p1)]) hx hb dX11_tried_76 hl (by decide) rfl (fun ls hl => ?_)
          have loop_78 : ∀ (n : Nat) (i4 : Int32) (y_L78 : Nat → Nat → Int32) (H : Heap) (locs : List Loc) (ls : Array Slot), (8 - i4.toInt).toNat < n → kpM τ y g y_L78 g → IC a u τ ln y_L78 g → 0 ≤ i4.toInt → i4.toInt ≤ 8 → tw (dC, dI) a k τ ln y_L78 g H → va_S A s.heap H locs → lv_has ls 5 [(0, .ref (a 0)), (1, .int p0), (2, .int p1), (3, .int 1), (4, .int i4)] → W p l e (headSpec wm_c_tried ({ frames := 7, cells := 0, slots := 0, locals := 420 })).room s m ([.ref (a 0), .int p0, .int p1] : List Value).toArray below meth c H locs 0 0 (MQ below (va_Qi (fun (r u : Int32) => u = r) (fun (r : Int32) (t : State) => (∃ (u' : Nat → Int), (∀ i, i ∉ ([7] : List Nat) → u' i = u i) ∧ pq (dC, dI) a k τ y g u' s.heap.size t.heap)) A) ([.ref (a 0), .int p0, .int p1] : List Value).toArray s 0 0 A) (F0 m 78 ls []) := by
            intro n
            induction n with
            | zero => intro i4 y_L78 H locs ls hlt; exact absurd hlt (Nat.not_lt_zero _)
            | succ n ih_78 =>
              intro i4 y_L78 H locs ls hlt hKM hI hi78_0 hi78_1 hT hS hl
              refine lv_iload hx hb dX11_tried_78 (lv_at hl 4 rfl) ?_
              refine lv_bipush (v := 8) hx hb dX11_tried_80 (by decide) ?_
              refine lv_icmp_ge (tgt := 107) hx hb dX11_tried_82 (by decide) (fun c_52 => ?_) (fun c_52 => ?_)
              · have nc_52 := z_le (zk (x := 8) 8 rfl) rfl c_52
                refine lv_aload_n hx hb dX11_tried_107 rfl (lv_at hl 0 rfl) ?_
                refine lv_bipush (v := 8) hx hb dX11_tried_108 (by decide) ?_
                refine tw_put (D := (dC, dI)) (x := 8) (ty := .int) (C := RX11) (T := TX11) (N := 10) hx hb hts (fun _ hh => (List.mem_cons_of_mem _ (List.mem_append_right _ (List.mem_append_right _ (List.mem_append_left _ hh))))) tyX11 tyX11_ok nmX11 hown hK hT hF hS (fx_0 hX) (by decide) cl_e10 rfl 9 (by decide) (hts (.fieldLink RX11 65 "TypingPool" "rowLength" "I") (List.mem_cons_of_mem _ (List.mem_append_left _ (List.mem_of_getElem? (i := 15) rfl)))) (fun _ h9 => h9) rfl (tyX11_ok 9 (by decide)) rfl rfl (Nat.le_of_ble_eq_true rfl) rfl dX11_tried_110 (fun H locs hT hS => ?_)
                obtain ⟨y_53, hy_53, hT⟩ : ∃ z : Nat → Nat → Int32, z = up2 y_L78 (a 0) 9 (8 : Int32) ∧ tw (dC, dI) a k τ ln z g H := ⟨_, rfl, hT⟩
                have hKM : kpM τ y g y_53 g := by rw [hy_53]; exact hKM.up hMo (fx_0 hX) (by decide)
                have hp_54 : (8 : Int32).toInt = 8 := (zk (x := 8) 8 rfl)
                have hI := (hI.set7 hp_54 (by omega) (by omega))
                rw [← hy_53] at hI
                refine lv_aload_n hx hb dX11_tried_113 rfl (lv_at hl 0 rfl) ?_
                refine tw_get (D := (dC, dI)) (v := .ref (a 4)) (C := RX11) (T := TX11) (N := 10) hx hb hts (fun _ hh => (List.mem_cons_of_mem _ (List.mem_append_right _ (List.mem_append_right _ (List.mem_append_left _ hh))))) hown hK hT (fx_0 hX) (by decide) cl_e10 rfl 3 (by decide) (hts (.fieldLink RX11 32 "TypingPool" "trial" "LTypingPool$Floor;") (List.mem_cons_of_mem _ (List.mem_append_left _ (List.mem_of_getElem? (i := 4) rfl)))) (fun _ h9 => h9) rfl dX11_tried_114 ?_
                have hFc := tw_free hF hS hA
                refine va_calli (va_runV (As := []) (rest := []) ⟨hx, hb, hml, hown, hts⟩ (c_lateOnest l dC dI ad av H.size a k τ ln y_53 g (upc u 7 8)  hI ) (cwV 0 hts (gi_4 (List.mem_cons_of_mem _ (List.mem_append_left _ (List.mem_of_getElem? (i := 16) rfl))) (List.mem_cons_of_mem _ (List.mem_append_left _ (List.mem_of_getElem? (i := 17) rfl))) (List.mem_cons_of_mem _ (List.mem_append_left _ (List.mem_of_getElem? (i := 18) rfl))) (List.mem_cons_of_mem _ (List.mem_append_left _ (List.mem_of_getElem? (i := 9) rfl))) (fun _ hh => (List.mem_cons_of_mem _ (List.mem_append_right _ (List.mem_append_right _ (List.mem_append_right _ (List.mem_append_right _ (List.mem_append_right _ (List.mem_append_right _ (List.mem_append_left _ hh))))))))) gd_c_lateOnest) rfl rfl rfl (by decide +kernel) ⟨Nat.le_of_ble_eq_true rfl, Nat.le_of_ble_eq_true rfl⟩) ⟨pw_blind, tw_recv hK hT (fx_4 hX) (by decide) cl_e14 rfl, pw_use hT hK hFc hS hM⟩ rfl rfl hl.1 rfl (lv_room (Nat.le_of_ble_eq_true rfl)) dX11_tried_117 ⟨Nat.le_of_ble_eq_true rfl, Nat.le_of_ble_eq_true rfl⟩) hS (fun q _ h => hFc q h) hFc (fun r0 r_55 t H locs ht hvm hw hB hz1 hk1 hS => ?_)
                refine W.widen (k := 0) (n := 0) (Nat.le_of_ble_eq_true rfl) (Nat.le_of_ble_eq_true rfl) ?_
                clear hvm hz1 hk1
                subst hw
                have hT := hB
                rw [ht] at hT
                exact W.iret (v := r_55) hx hb hr (fun t ht hW9 => ⟨⟨r_55, r_55, rfl, rfl, ⟨(upc u 7 8), (by intro i hi; simp only [List.mem_cons, List.not_mem_nil, or_false, not_or] at hi; unfold upc; repeat rw [if_neg (by omega)]), ⟨τ, ln, y_53, g, hMo, hKM, hI, tw_at ht hT⟩⟩⟩, hS.F ht⟩) hS.2.2 dX11_tried_120
              · have nc_52 := z_nle (zk (x := 8) 8 rfl) rfl c_52
                refine lv_aload_n hx hb dX11_tried_85 rfl (lv_at hl 0 rfl) ?_
                refine tw_get (D := (dC, dI)) (v := .ref (a 8)) (C := RX11) (T := TX11) (N := 10) hx hb hts (fun _ hh => (List.mem_cons_of_mem _ (List.mem_append_right _ (List.mem_append_right _ (List.mem_append_left _ hh))))) hown hK hT (fx_0 hX) (by decide) cl_e10 rfl 8 (by decide) (hts (.fieldLink RX11 61 "TypingPool" "row" "[I") (List.mem_cons_of_mem _ (List.mem_append_left _ (List.mem_of_getElem? (i := 19) rfl)))) (fun _ h9 => h9) rfl dX11_tried_86 ?_
                refine lv_iload hx hb dX11_tried_89 (lv_at hl 4 rfl) ?_
                refine lv_aload_n hx hb dX11_tried_91 rfl (lv_at hl 0 rfl) ?_
                refine tw_get (D := (dC, dI)) (v := .ref (a 4)) (C := RX11) (T := TX11) (N := 10) hx hb hts (fun _ hh => (List.mem_cons_of_mem _ (List.mem_append_right _ (List.mem_append_right _ (List.mem_append_left _ hh))))) hown hK hT (fx_0 hX) (by decide) cl_e10 rfl 3 (by decide) (hts (.fieldLink RX11 32 "TypingPool" "trial" "LTypingPool$Floor;") (List.mem_cons_of_mem _ (List.mem_append_left _ (List.mem_of_getElem? (i := 4) rfl)))) (fun _ h9 => h9) rfl dX11_tried_92 ?_
                refine lv_iload hx hb dX11_tried_95 (lv_at hl 4 rfl) ?_
                have hFc := tw_free hF hS hA
                refine va_calli (va_runV (As := [.int i4]) (rest := [.int i4, .ref (a 8)]) ⟨hx, hb, hml, hown, hts⟩ (c_waitedInt l dC dI ad av H.size a k τ ln y_L78 g u i4 hI ) (cwV 1 hts (gi_4 (List.mem_cons_of_mem _ (List.mem_append_left _ (List.mem_of_getElem? (i := 20) rfl))) (List.mem_cons_of_mem _ (List.mem_append_left _ (List.mem_of_getElem? (i := 21) rfl))) (List.mem_cons_of_mem _ (List.mem_append_left _ (List.mem_of_getElem? (i := 22) rfl))) (List.mem_cons_of_mem _ (List.mem_append_left _ (List.mem_of_getElem? (i := 9) rfl))) (fun _ hh => (List.mem_cons_of_mem _ (List.mem_append_right _ (List.mem_append_right _ (List.mem_append_right _ (List.mem_append_right _ (List.mem_append_right _ (List.mem_append_right _ (List.mem_append_right _ (List.mem_append_left _ hh)))))))))) gd_c_waitedInt) rfl rfl rfl (by decide +kernel) ⟨Nat.le_of_ble_eq_true rfl, Nat.le_of_ble_eq_true rfl⟩) ⟨pw_blind, tw_recv hK hT (fx_4 hX) (by decide) cl_e14 rfl, pw_use hT hK hFc hS hM⟩ rfl rfl hl.1 rfl (lv_room (Nat.le_of_ble_eq_true rfl)) dX11_tried_97 ⟨Nat.le_of_ble_eq_true rfl, Nat.le_of_ble_eq_true rfl⟩) hS (fun q _ h => hFc q h) hFc (fun r0 r_56 t H locs ht hvm hw hB hz1 hk1 hS => ?_)
                refine W.widen (k := 0) (n := 0) (Nat.le_of_ble_eq_true rfl) (Nat.le_of_ble_eq_true rfl) ?_
                clear hvm hz1 hk1
                subst hw
                have hT := hB
                rw [ht] at hT
                refine tw_iast hx hb hK hT hF hS 0 (fx_8 hX) (by decide) (fun _ => cl_e18) rfl (z_in rfl (by omega) (by omega)) dX11_tried_100 (fun H locs hT hS => ?_)
                obtain ⟨y_57, hy_57, hT⟩ : ∃ z : Nat → Nat → Int32, z = up2 y_L78 (a 8) i4.toNatClampNeg r_56 ∧ tw (dC, dI) a k τ ln z g H := ⟨_, rfl, hT⟩
                have hKM : kpM τ y g y_57 g := by rw [hy_57]; exact hKM.up hMo (fx_8 hX) (by decide)
                have hI := hI.ag (S := [18]) (y' := y_57) (by rw [hy_57]; exact ag.one (fx_8 hX)) (by decide)
                obtain ⟨x_58, ex_58⟩ : ∃ y : Int32, y = i4 + Int32.ofInt 1 := ⟨_, rfl⟩
                have hx_58 := z_add ex_58 rfl (zk (x := Int32.ofInt 1) 1 rfl) (by omega) (by omega)
                refine lv_iinc (v := x_58) (lv' := [(4, .int x_58), (0, .ref (a 0)), (1, .int p0), (2, .int p1), (3, .int 1)]) hx hb dX11_tried_101 hl (k := 4) rfl ex_58.symm (by decide) rfl (fun ls hl => ?_)
                refine lv_goto (tgt := 78) hx hb dX11_tried_104 (by decide) ?_
                exact ih_78  x_58 y_57 H _ ls (by omega) hKM hI (by omega) (by omega) hT hS (lv_sub hl [1, 2, 3, 4, 0] rfl)
          have hp_59 : (0 : Int32).toInt = 0 := (zk (x := 0) 0 rfl)
          exact loop_78 _ (0 : Int32) y_51 H _ ls (Nat.lt_succ_self _) hKM hI (by omega) (by omega) hT hS (lv_sub hl [2, 3, 4, 1, 0] rfl)
        · have nc_47 := z_eq rfl (zk (x := (-1)) (-1) rfl) c_47
          refine lv_null hx hb dX11_tried_58 ?_
          refine lv_goto (tgt := 71) hx hb dX11_tried_59 (by decide) ?_
          refine lv_iconst (v := (-1)) hx hb dX11_tried_71 (by decide) ?_
          have hFc := tw_free hF hS hA
          have hp_60 : (-1 : Int32).toInt = (-1) := (zk (x := (-1)) (-1) rfl)
          refine va_callv (va_runV (As := [.int p1, .null, .int (-1)]) (rest := []) ⟨hx, hb, hml, hown, hts⟩ (c_runOntN l dC dI ad av H.size a k τ ln y_46 g u p1 (-1 : Int32) hI (by omega)) (cwV 3 hts (gi_4 (List.mem_cons_of_mem _ (List.mem_append_left _ (List.mem_of_getElem? (i := 12) rfl))) (List.mem_cons_of_mem _ (List.mem_append_left _ (List.mem_of_getElem? (i := 13) rfl))) (List.mem_cons_of_mem _ (List.mem_append_left _ (List.mem_of_getElem? (i := 14) rfl))) (List.mem_cons_of_mem _ (List.mem_append_left _ (List.mem_of_getElem? (i := 9) rfl))) (fun _ hh => (List.mem_cons_of_mem _ (List.mem_append_right _ (List.mem_append_right _ (List.mem_append_right _ (List.mem_append_right _ (List.mem_append_right _ (List.mem_append_right _ (List.mem_append_right _ (List.mem_append_right _ (List.mem_append_left _ hh))))))))))) gd_c_runOntN) rfl rfl rfl (by decide +kernel) ⟨Nat.le_of_ble_eq_true rfl, Nat.le_of_ble_eq_true rfl⟩) ⟨pw_blind, tw_recv hK hT (fx_4 hX) (by decide) cl_e14 rfl, pw_use hT hK hFc hS hM⟩ rfl rfl hl.1 rfl (lv_room (Nat.le_of_ble_eq_true rfl)) dX11_tried_72 ⟨Nat.le_of_ble_eq_true rfl, Nat.le_of_ble_eq_true rfl⟩) hS (fun q _ h => hFc q h) hFc (fun u0 t H locs ht hvm hw hB hz1 hk1 hS => ?_)
          refine W.widen (k := 0) (n := 0) (Nat.le_of_ble_eq_true rfl) (Nat.le_of_ble_eq_true rfl) ?_
          clear hvm hz1 hk1
          obtain ⟨y_62, hgy_62, hT⟩ := hB
          rw [ht] at hT
          have hKM := hKM.ag hMo hgy_62 (by decide)
          have hI := hI.ag hgy_62 (by decide)
          clear hp_60
          refine lv_iconst (v := 0) hx hb dX11_tried_75 (by decide) ?_
          refine lv_istore (lv' := [(4, .int 0), (3, .int 1), (0, .ref (a 0)), (1, .int p0), (2, .int p1)]) hx hb dX11_tried_76 hl (by decide) rfl (fun ls hl => ?_)
          have loop_78 : ∀ (n : Nat) (i4 : Int32) (y_L78 : Nat → Nat → Int32) (H : Heap) (locs : List Loc) (ls : Array Slot), (8 - i4.toInt).toNat < n → kpM τ y g y_L78 g → IC a u τ ln y_L78 g → 0 ≤ i4.toInt → i4.toInt ≤ 8 → tw (dC, dI) a k τ ln y_L78 g H → va_S A s.heap H locs → lv_has ls 5 [(0, .ref (a 0)), (1, .int p0), (2, .int p1), (3, .int 1), (4, .int i4)] → W p l e (headSpec wm_c_tried ({ frames := 7, cells := 0, slots := 0, locals := 420 })).room s m ([.ref (a 0), .int p0, .int p1] : List Value).toArray below meth c H locs 0 0 (MQ below (va_Qi (fun (r u : Int32) => u = r) (fun (r : Int32) (t : State) => (∃ (u' : Nat → Int), (∀ i, i ∉ ([7] : List Nat) → u' i = u i) ∧ pq (dC, dI) a k τ y g u' s.heap.size t.heap)) A) ([.ref (a 0), .int p0, .int p1] : List Value).toArray s 0 0 A) (F0 m 78 ls []) := by
            intro n
            induction n with
            | zero => intro i4 y_L78 H locs ls hlt; exact absurd hlt (Nat.not_lt_zero _)
            | succ n ih_78 =>
              intro i4 y_L78 H locs ls hlt hKM hI hi78_0 hi78_1 hT hS hl
              refine lv_iload hx hb dX11_tried_78 (lv_at hl 4 rfl) ?_
              refine lv_bipush (v := 8) hx hb dX11_tried_80 (by decide) ?_
              refine lv_icmp_ge (tgt := 107) hx hb dX11_tried_82 (by decide) (fun c_63 => ?_) (fun c_63 => ?_)
              · have nc_63 := z_le (zk (x := 8) 8 rfl) rfl c_63
                refine lv_aload_n hx hb dX11_tried_107 rfl (lv_at hl 0 rfl) ?_
                refine lv_bipush (v := 8) hx hb dX11_tried_108 (by decide) ?_
                refine tw_put (D := (dC, dI)) (x := 8) (ty := .int) (C := RX11) (T := TX11) (N := 10) hx hb hts (fun _ hh => (List.mem_cons_of_mem _ (List.mem_append_right _ (List.mem_append_right _ (List.mem_append_left _ hh))))) tyX11 tyX11_ok nmX11 hown hK hT hF hS (fx_0 hX) (by decide) cl_e10 rfl 9 (by decide) (hts (.fieldLink RX11 65 "TypingPool" "rowLength" "I") (List.mem_cons_of_mem _ (List.mem_append_left _ (List.mem_of_getElem? (i := 15) rfl)))) (fun _ h9 => h9) rfl (tyX11_ok 9 (by decide)) rfl rfl (Nat.le_of_ble_eq_true rfl) rfl dX11_tried_110 (fun H locs hT hS => ?_)
                obtain ⟨y_64, hy_64, hT⟩ : ∃ z : Nat → Nat → Int32, z = up2 y_L78 (a 0) 9 (8 : Int32) ∧ tw (dC, dI) a k τ ln z g H := ⟨_, rfl, hT⟩
                have hKM : kpM τ y g y_64 g := by rw [hy_64]; exact hKM.up hMo (fx_0 hX) (by decide)
                have hp_65 : (8 : Int32).toInt = 8 := (zk (x := 8) 8 rfl)
                have hI := (hI.set7 hp_65 (by omega) (by omega))
                rw [← hy_64] at hI
                refine lv_aload_n hx hb dX11_tried_113 rfl (lv_at hl 0 rfl) ?_
                refine tw_get (D := (dC, dI)) (v := .ref (a 4)) (C := RX11) (T := TX11) (N := 10) hx hb hts (fun _ hh => (List.mem_cons_of_mem _ (List.mem_append_right _ (List.mem_append_right _ (List.mem_append_left _ hh))))) hown hK hT (fx_0 hX) (by decide) cl_e10 rfl 3 (by decide) (hts (.fieldLink RX11 32 "TypingPool" "trial" "LTypingPool$Floor;") (List.mem_cons_of_mem _ (List.mem_append_left _ (List.mem_of_getElem? (i := 4) rfl)))) (fun _ h9 => h9) rfl dX11_tried_114 ?_
                have hFc := tw_free hF hS hA
                refine va_calli (va_runV (As := []) (rest := []) ⟨hx, hb, hml, hown, hts⟩ (c_lateOnest l dC dI ad av H.size a k τ ln y_64 g (upc u 7 8)  hI ) (cwV 0 hts (gi_4 (List.mem_cons_of_mem _ (List.mem_append_left _ (List.mem_of_getElem? (i := 16) rfl))) (List.mem_cons_of_mem _ (List.mem_append_left _ (List.mem_of_getElem? (i := 17) rfl))) (List.mem_cons_of_mem _ (List.mem_append_left _ (List.mem_of_getElem? (i := 18) rfl))) (List.mem_cons_of_mem _ (List.mem_append_left _ (List.mem_of_getElem? (i := 9) rfl))) (fun _ hh => (List.mem_cons_of_mem _ (List.mem_append_right _ (List.mem_append_right _ (List.mem_append_right _ (List.mem_append_right _ (List.mem_append_right _ (List.mem_append_right _ (List.mem_append_left _ hh))))))))) gd_c_lateOnest) rfl rfl rfl (by decide +kernel) ⟨Nat.le_of_ble_eq_true rfl, Nat.le_of_ble_eq_true rfl⟩) ⟨pw_blind, tw_recv hK hT (fx_4 hX) (by decide) cl_e14 rfl, pw_use hT hK hFc hS hM⟩ rfl rfl hl.1 rfl (lv_room (Nat.le_of_ble_eq_true rfl)) dX11_tried_117 ⟨Nat.le_of_ble_eq_true rfl, Nat.le_of_ble_eq_true rfl⟩) hS (fun q _ h => hFc q h) hFc (fun r0 r_66 t H locs ht hvm hw hB hz1 hk1 hS => ?_)
                refine W.widen (k := 0) (n := 0) (Nat.le_of_ble_eq_true rfl) (Nat.le_of_ble_eq_true rfl) ?_
                clear hvm hz1 hk1
                subst hw
                have hT := hB
                rw [ht] at hT
                exact W.iret (v := r_66) hx hb hr (fun t ht hW9 => ⟨⟨r_66, r_66, rfl, rfl, ⟨(upc u 7 8), (by intro i hi; simp only [List.mem_cons, List.not_mem_nil, or_false, not_or] at hi; unfold upc; repeat rw [if_neg (by omega)]), ⟨τ, ln, y_64, g, hMo, hKM, hI, tw_at ht hT⟩⟩⟩, hS.F ht⟩) hS.2.2 dX11_tried_120
              · have nc_63 := z_nle (zk (x := 8) 8 rfl) rfl c_63
                refine lv_aload_n hx hb dX11_tried_85 rfl (lv_at hl 0 rfl) ?_
                refine tw_get (D := (dC, dI)) (v := .ref (a 8)) (C := RX11) (T := TX11) (N := 10) hx hb hts (fun _ hh => (List.mem_cons_of_mem _ (List.mem_append_right _ (List.mem_append_right _ (List.mem_append_left _ hh))))) hown hK hT (fx_0 hX) (by decide) cl_e10 rfl 8 (by decide) (hts (.fieldLink RX11 61 "TypingPool" "row" "[I") (List.mem_cons_of_mem _ (List.mem_append_left _ (List.mem_of_getElem? (i := 19) rfl)))) (fun _ h9 => h9) rfl dX11_tried_86 ?_
                refine lv_iload hx hb dX11_tried_89 (lv_at hl 4 rfl) ?_
                refine lv_aload_n hx hb dX11_tried_91 rfl (lv_at hl 0 rfl) ?_
                refine tw_get (D := (dC, dI)) (v := .ref (a 4)) (C := RX11) (T := TX11) (N := 10) hx hb hts (fun _ hh => (List.mem_cons_of_mem _ (List.mem_append_right _ (List.mem_append_right _ (List.mem_append_left _ hh))))) hown hK hT (fx_0 hX) (by decide) cl_e10 rfl 3 (by decide) (hts (.fieldLink RX11 32 "TypingPool" "trial" "LTypingPool$Floor;") (List.mem_cons_of_mem _ (List.mem_append_left _ (List.mem_of_getElem? (i := 4) rfl)))) (fun _ h9 => h9) rfl dX11_tried_92 ?_
                refine lv_iload hx hb dX11_tried_95 (lv_at hl 4 rfl) ?_
                have hFc := tw_free hF hS hA
                refine va_calli (va_runV (As := [.int i4]) (rest := [.int i4, .ref (a 8)]) ⟨hx, hb, hml, hown, hts⟩ (c_waitedInt l dC dI ad av H.size a k τ ln y_L78 g u i4 hI ) (cwV 1 hts (gi_4 (List.mem_cons_of_mem _ (List.mem_append_left _ (List.mem_of_getElem? (i := 20) rfl))) (List.mem_cons_of_mem _ (List.mem_append_left _ (List.mem_of_getElem? (i := 21) rfl))) (List.mem_cons_of_mem _ (List.mem_append_left _ (List.mem_of_getElem? (i := 22) rfl))) (List.mem_cons_of_mem _ (List.mem_append_left _ (List.mem_of_getElem? (i := 9) rfl))) (fun _ hh => (List.mem_cons_of_mem _ (List.mem_append_right _ (List.mem_append_right _ (List.mem_append_right _ (List.mem_append_right _ (List.mem_append_right _ (List.mem_append_right _ (List.mem_append_right _ (List.mem_append_left _ hh)))))))))) gd_c_waitedInt) rfl rfl rfl (by decide +kernel) ⟨Nat.le_of_ble_eq_true rfl, Nat.le_of_ble_eq_true rfl⟩) ⟨pw_blind, tw_recv hK hT (fx_4 hX) (by decide) cl_e14 rfl, pw_use hT hK hFc hS hM⟩ rfl rfl hl.1 rfl (lv_room (Nat.le_of_ble_eq_true rfl)) dX11_tried_97 ⟨Nat.le_of_ble_eq_true rfl, Nat.le_of_ble_eq_true rfl⟩) hS (fun q _ h => hFc q h) hFc (fun r0 r_67 t H locs ht hvm hw hB hz1 hk1 hS => ?_)
                refine W.widen (k := 0) (n := 0) (Nat.le_of_ble_eq_true rfl) (Nat.le_of_ble_eq_true rfl) ?_
                clear hvm hz1 hk1
                subst hw
                have hT := hB
                rw [ht] at hT
                refine tw_iast hx hb hK hT hF hS 0 (fx_8 hX) (by decide) (fun _ => cl_e18) rfl (z_in rfl (by omega) (by omega)) dX11_tried_100 (fun H locs hT hS => ?_)
                obtain ⟨y_68, hy_68, hT⟩ : ∃ z : Nat → Nat → Int32, z = up2 y_L78 (a 8) i4.toNatClampNeg r_67 ∧ tw (dC, dI) a k τ ln z g H := ⟨_, rfl, hT⟩
                have hKM : kpM τ y g y_68 g := by rw [hy_68]; exact hKM.up hMo (fx_8 hX) (by decide)
                have hI := hI.ag (S := [18]) (y' := y_68) (by rw [hy_68]; exact ag.one (fx_8 hX)) (by decide)
                obtain ⟨x_69, ex_69⟩ : ∃ y : Int32, y = i4 + Int32.ofInt 1 := ⟨_, rfl⟩
                have hx_69 := z_add ex_69 rfl (zk (x := Int32.ofInt 1) 1 rfl) (by omega) (by omega)
                refine lv_iinc (v := x_69) (lv' := [(4, .int x_69), (0, .ref (a 0)), (1, .int p0), (2, .int p1), (3, .int 1)]) hx hb dX11_tried_101 hl (k := 4) rfl ex_69.symm (by decide) rfl (fun ls hl => ?_)
                refine lv_goto (tgt := 78) hx hb dX11_tried_104 (by decide) ?_
                exact ih_78  x_69 y_68 H _ ls (by omega) hKM hI (by omega) (by omega) hT hS (lv_sub hl [1, 2, 3, 4, 0] rfl)
          have hp_70 : (0 : Int32).toInt = 0 := (zk (x := 0) 0 rfl)
          exact loop_78 _ (0 : Int32) y_62 H _ ls (Nat.lt_succ_self _) hKM hI (by omega) (by omega) hT hS (lv_sub hl [2, 3, 4, 1, 0] rfl)
      · refine lq_top (v := 0) hre ?_
        rw [ht] at hT
        clear hp_40
        refine lv_if_ne (tgt := 37) hx hb dX11_tried_32 (by decide) (fun c_71 => absurd c_71 (by decide)) (fun c_71 => ?_)
        refine lv_iconst (v := (-1)) hx hb dX11_tried_35 (by decide) ?_
        exact W.iret (v := (-1)) hx hb hr (fun t ht hW9 => ⟨⟨(-1), (-1), rfl, rfl, ⟨u, fun _ _ => rfl, ⟨τ, ln, y, g, hMo, hKM, hI, tw_at ht hT⟩⟩⟩, hS.F ht⟩) hS.2.2 dX11_tried_36
    · refine lq_top (v := 0) hre ?_
      rw [ht] at hT
      refine lv_if_eq (tgt := 20) hx hb dX11_tried_13 (by decide) (fun c_72 => ?_) (fun c_72 => absurd c_72 (by decide))
      refine lv_iconst (v := 0) hx hb dX11_tried_20 (by decide) ?_
      refine lv_istore_n (lv' := [(3, .int 0), (0, .ref (a 0)), (1, .int p0), (2, .int p1)]) hx hb dX11_tried_21 rfl hl (by decide) rfl (fun ls hl => ?_)
      refine lv_iload_n hx hb dX11_tried_22 rfl (lv_at hl 0 rfl) ?_
      refine lv_if_eq (tgt := 35) hx hb dX11_tried_23 (by decide) (fun c_73 => ?_) (fun c_73 => absurd c_73 (by decide))
      refine lv_iconst (v := (-1)) hx hb dX11_tried_35 (by decide) ?_
      exact W.iret (v := (-1)) hx hb hr (fun t ht hW9 => ⟨⟨(-1), (-1), rfl, rfl, ⟨u, fun _ _ => rfl, ⟨τ, ln, y, g, hMo, hKM, hI, tw_at ht hT⟩⟩⟩, hS.F ht⟩) hS.2.2 dX11_tried_36
def wo_t_of : List Cond := [.fieldLink RX11 10 "TypingPool" "book" "LTypingPool$Book;", .methodLink RX11 95 yX1_hasHand, .instanceMethod yX1_hasHand, .selects RX1 yX1_hasHand yX1_hasHand, .initialized RX1, .fieldLink RX11 28 "TypingPool" "floor" "LTypingPool$Floor;", .fieldLink RX11 178 "TypingPool$Floor" "has" "[I", .fieldLink RX11 181 "TypingPool$Floor" "words" "[I", .fieldLink RX11 183 "TypingPool$Floor" "worked" "[I", .methodLink RX11 186 yX3_linesDoneBy, .instanceMethod yX3_linesDoneBy, .selects RX3 yX3_linesDoneBy yX3_linesDoneBy, .initialized RX3, .methodLink RX11 190 yX3_piecesDoneBy, .instanceMethod yX3_piecesDoneBy, .selects RX3 yX3_piecesDoneBy yX3_piecesDoneBy, .fieldLink RX11 99 "TypingPool$Floor" "now" "I", .methodLink RX11 193 yX1_awayMask, .instanceMethod yX1_awayMask, .selects RX1 yX1_awayMask yX1_awayMask, .fieldLink RX11 196 "TypingPool$Floor" "rate" "[I", .classLink RX11 171 "java/util/NoSuchElementException", .initialized "java/util/NoSuchElementException"]
def wm_t_of : List Cond := .code yX11_of cX11_of 3 (some .int) :: (wo_t_of ++ (wsX110 ++ (wm_c_hasHand ++ (wsX30 ++ (wm_c_linesDoneBy ++ (wm_c_piecesDoneBy ++ (wm_c_awayMask ++ (ux_at ++ ([] : List Cond)))))))))
theorem gd_t_of : ∀ w ∈ wm_t_of, goodWord w = true := gd_c rfl (gd_a (by decide) (gd_a gd_wsX110 (gd_a gd_c_hasHand (gd_a gd_wsX30 (gd_a gd_c_linesDoneBy (gd_a gd_c_piecesDoneBy (gd_a gd_c_awayMask (gd_a gd_ux_at gd_nil))))))))
set_option maxRecDepth 20000 in
theorem im_t_of : ∀ w ∈ wm_t_of, w ∈ lw_tbl := im_c (in_r [.code yX11_of cX11_of 3 (some .int)] [1089] (by decide +kernel)) (in_app (in_r wo_t_of [559, 629, 630, 631, 71, 561, 433, 439, 441, 993, 994, 995, 83, 1155, 1156, 1157, 429, 1159, 756, 757, 436, 1090, 94] (by decide +kernel)) (in_app im_wsX110 (in_app im_c_hasHand (in_app im_wsX30 (in_app im_c_linesDoneBy (in_app im_c_piecesDoneBy (in_app im_c_awayMask (in_app im_ux_at im_nil))))))))
set_option maxHeartbeats 4000000 in
set_option maxRecDepth 100000 in
theorem t_of (l : Launch) (hst : l.stackTraces = false) (dC : Nat → ClassId) (dI : Nat → Nat → Nat) (ad av : Nat → Nat) (sz : Nat) (a : Nat → Nat) (k : Nat → ClassId) (τ ln : Nat → Nat) (y : Nat → Nat → Int32) (g : Nat → Nat → Option Nat) (u : Nat → Int) (p0 : Int32) (p1 : Int32) (hI : IC a u τ ln y g) : vx_Met l yX11_of wm_t_of ({ frames := 8, cells := 1, slots := 6, locals := 200 }) (pw_ ad av (dC, dI) sz [.ref (a 0), .int p0, .int p1] a k τ ln y g) (va_Qi (fun (r u : Int32) => u = r) (fun (r : Int32) (t : State) => (∃ (u' : Nat → Int), (∀ i, i ∉ ([] : List Nat) → u' i = u i) ∧ pq (dC, dI) a k τ y g u' sz t.heap)) (fr τ sz)) (vx_X (fun (_ : Unit) => True) (fun (E : String) (_ : Unit) (t : State) => E = NSE ∧ pq (dC, dI) a k τ y g u sz t.heap) (fr τ sz)) 1 6 (fr τ sz) := by
  refine vx_ofW (cc := cX11_of) (maxL := 3) (ret := (some .int)) (by decide) rfl ?_
  intro p e s m args below meth c s₁ B hml hex hv
  obtain ⟨rfl, hsz, hT, hK, hM⟩ := hv
  have hx := B.exec
  have hb := B.bytes
  have hr := B.returns
  have hts := atoms_spec (ws := wm_t_of) B.pre
  have hown : s.vm.findClass RX11 = some m.cls := findClass_of_methodNamed B.named
  have hlocks := B.notSynchronized
  subst hsz
  generalize hAe : fr τ s.heap.size = A at hM ⊢
  have hA : ∀ q : Nat, s.heap.size ≤ q → A q := fun q h => by rw [← hAe]; exact Or.inr h
  have hF : ∀ q, τ q ≠ 0 → A q := fun q h => by rw [← hAe]; exact Or.inl h
  have hS : va_S A s.heap s.heap [] := va_S.rf
  have hX := hI.1
  have hR := ic_r hI
  have hMo : mono τ τ s.heap.size := mono.rf
  have hKM : kpM τ y g y g := kpM.rf
  have hl := lv_entry ([.ref (a 0), .int p0, .int p1]) (n := 3) (Nat.le_of_ble_eq_true rfl)
  rw [lg_entry_eq]
  generalize (lg_sl ([.ref (a 0), .int p0, .int p1]) ++ List.replicate (3 - (lg_sl ([.ref (a 0), .int p0, .int p1])).length) Slot.unset).toArray = ls at hl ⊢
  have hl : lv_has ls 3 [(0, .ref (a 0)), (1, .int p0), (2, .int p1)] := hl
  refine lv_aload_n hx hb dX11_of_0 rfl (lv_at hl 0 rfl) ?_
  refine tw_get (D := (dC, dI)) (v := .ref (a 1)) (C := RX11) (T := TX11) (N := 10) hx hb hts (fun _ hh => (List.mem_cons_of_mem _ (List.mem_append_right _ (List.mem_append_left _ hh)))) hown hK hT (fx_0 hX) (by decide) cl_e10 rfl 0 (by decide) (hts (.fieldLink RX11 10 "TypingPool" "book" "LTypingPool$Book;") (List.mem_cons_of_mem _ (List.mem_append_left _ (List.mem_of_getElem? (i := 0) rfl)))) (fun _ h9 => h9) rfl dX11_of_1 ?_
  refine lv_iload_n hx hb dX11_of_4 rfl (lv_at hl 1 rfl) ?_
  have hFc := tw_free hF hS hA
  refine va_calli (va_runV (As := [.int p0]) (rest := []) ⟨hx, hb, hml, hown, hts⟩ (c_hasHand l dC dI ad av s.heap.size a k τ ln y g u p0 hI ) (cwV 1 hts (gi_4 (List.mem_cons_of_mem _ (List.mem_append_left _ (List.mem_of_getElem? (i := 1) rfl))) (List.mem_cons_of_mem _ (List.mem_append_left _ (List.mem_of_getElem? (i := 2) rfl))) (List.mem_cons_of_mem _ (List.mem_append_left _ (List.mem_of_getElem? (i := 3) rfl))) (List.mem_cons_of_mem _ (List.mem_append_left _ (List.mem_of_getElem? (i := 4) rfl))) (fun _ hh => (List.mem_cons_of_mem _ (List.mem_append_right _ (List.mem_append_right _ (List.mem_append_left _ hh))))) gd_c_hasHand) rfl rfl rfl (by decide +kernel) ⟨Nat.le_of_ble_eq_true rfl, Nat.le_of_ble_eq_true rfl⟩) ⟨pw_blind, tw_recv hK hT (fx_1 hX) (by decide) cl_e11 rfl, pw_use hT hK hFc hS hM⟩ rfl rfl hl.1 rfl (lv_room (Nat.le_of_ble_eq_true rfl)) dX11_of_5 ⟨Nat.le_of_ble_eq_true rfl, Nat.le_of_ble_eq_true rfl⟩) hS (fun q _ h => hFc q h) hFc (fun r0 r_1 t H locs ht hvm hw hB hz1 hk1 hS => ?_)
  refine W.widen (k := 0) (n := 0) (Nat.le_of_ble_eq_true rfl) (Nat.le_of_ble_eq_true rfl) ?_
  clear hvm hz1 hk1
  subst hw
  rcases hB with ⟨hre, hf_2, hf_3, hT⟩ | ⟨hre, hf_4, hT⟩
  · refine lq_top (v := 1) hre ?_
    rw [ht] at hT
    refine lv_if_ne (tgt := 21) hx hb dX11_of_8 (by decide) (fun c_5 => ?_) (fun c_5 => absurd c_5 (by decide))
    refine lv_iload_n hx hb dX11_of_21 rfl (lv_at hl 2 rfl) ?_
    rcases tb_0_6 p1 with t_6 | t_6 | t_6 | t_6 | t_6 | t_6 | t_6 | t_6
    · refine lq_top (v := 0) t_6 ?_
      have nt_6 := z_eq rfl (zk (x := 0) 0 rfl) t_6
      refine lv_tableIn (tgt := 64) hx hb dX11_of_22 (by decide) (by decide) (off := 42) (by decide) (by decide) ?_
      refine lv_aload_n hx hb dX11_of_64 rfl (lv_at hl 0 rfl) ?_
      refine tw_get (D := (dC, dI)) (v := .ref (a 3)) (C := RX11) (T := TX11) (N := 10) hx hb hts (fun _ hh => (List.mem_cons_of_mem _ (List.mem_append_right _ (List.mem_append_left _ hh)))) hown hK hT (fx_0 hX) (by decide) cl_e10 rfl 2 (by decide) (hts (.fieldLink RX11 28 "TypingPool" "floor" "LTypingPool$Floor;") (List.mem_cons_of_mem _ (List.mem_append_left _ (List.mem_of_getElem? (i := 5) rfl)))) (fun _ h9 => h9) rfl dX11_of_65 ?_
      refine tw_get (D := (dC, dI)) (v := .ref (a 20)) (C := RX3) (T := TX3) (N := 12) hx hb hts (fun _ hh => (List.mem_cons_of_mem _ (List.mem_append_right _ (List.mem_append_right _ (List.mem_append_right _ (List.mem_append_left _ hh)))))) hown hK hT (fx_3 hX) (by decide) cl_e13 rfl 3 (by decide) (hts (.fieldLink RX11 178 "TypingPool$Floor" "has" "[I") (List.mem_cons_of_mem _ (List.mem_append_left _ (List.mem_of_getElem? (i := 6) rfl)))) (fun _ h9 => h9) rfl dX11_of_68 ?_
      refine lv_iload_n hx hb dX11_of_71 rfl (lv_at hl 1 rfl) ?_
      refine tw_iald hx hb hK hT 0 (fx_20 hX) (by decide) cl_e30 rfl (z_in rfl (by omega) (by omega)) dX11_of_72 ?_
      refine W.widen (k := 1) (n := 6) (Nat.le_of_ble_eq_true rfl) (Nat.le_of_ble_eq_true rfl) ?_
      refine vx_ret ?_
      exact W.iret (v := y (a 20) p0.toNatClampNeg) hx hb hr (fun t ht hW9 => ⟨⟨y (a 20) p0.toNatClampNeg, y (a 20) p0.toNatClampNeg, rfl, rfl, ⟨u, fun _ _ => rfl, ⟨τ, ln, y, g, hMo, hKM, hI, tw_at ht hT⟩⟩⟩, hS.F ht⟩) hS.2.2 dX11_of_73
    · refine lq_top (v := 1) t_6 ?_
      have nt_6 := z_eq rfl (zk (x := 1) 1 rfl) t_6
      refine lv_tableIn (tgt := 74) hx hb dX11_of_22 (by decide) (by decide) (off := 52) (by decide) (by decide) ?_
      refine lv_aload_n hx hb dX11_of_74 rfl (lv_at hl 0 rfl) ?_
      refine tw_get (D := (dC, dI)) (v := .ref (a 3)) (C := RX11) (T := TX11) (N := 10) hx hb hts (fun _ hh => (List.mem_cons_of_mem _ (List.mem_append_right _ (List.mem_append_left _ hh)))) hown hK hT (fx_0 hX) (by decide) cl_e10 rfl 2 (by decide) (hts (.fieldLink RX11 28 "TypingPool" "floor" "LTypingPool$Floor;") (List.mem_cons_of_mem _ (List.mem_append_left _ (List.mem_of_getElem? (i := 5) rfl)))) (fun _ h9 => h9) rfl dX11_of_75 ?_
      refine tw_get (D := (dC, dI)) (v := .ref (a 22)) (C := RX3) (T := TX3) (N := 12) hx hb hts (fun _ hh => (List.mem_cons_of_mem _ (List.mem_append_right _ (List.mem_append_right _ (List.mem_append_right _ (List.mem_append_left _ hh)))))) hown hK hT (fx_3 hX) (by decide) cl_e13 rfl 5 (by decide) (hts (.fieldLink RX11 181 "TypingPool$Floor" "words" "[I") (List.mem_cons_of_mem _ (List.mem_append_left _ (List.mem_of_getElem? (i := 7) rfl)))) (fun _ h9 => h9) rfl dX11_of_78 ?_
      refine lv_iload_n hx hb dX11_of_81 rfl (lv_at hl 1 rfl) ?_
      refine tw_iald hx hb hK hT 0 (fx_22 hX) (by decide) cl_e32 rfl (z_in rfl (by omega) (by omega)) dX11_of_82 ?_
      refine W.widen (k := 1) (n := 6) (Nat.le_of_ble_eq_true rfl) (Nat.le_of_ble_eq_true rfl) ?_
      refine vx_ret ?_
      exact W.iret (v := y (a 22) p0.toNatClampNeg) hx hb hr (fun t ht hW9 => ⟨⟨y (a 22) p0.toNatClampNeg, y (a 22) p0.toNatClampNeg, rfl, rfl, ⟨u, fun _ _ => rfl, ⟨τ, ln, y, g, hMo, hKM, hI, tw_at ht hT⟩⟩⟩, hS.F ht⟩) hS.2.2 dX11_of_83
    · refine lq_top (v := 2) t_6 ?_
      have nt_6 := z_eq rfl (zk (x := 2) 2 rfl) t_6
      refine lv_tableIn (tgt := 84) hx hb dX11_of_22 (by decide) (by decide) (off := 62) (by decide) (by decide) ?_
      refine lv_aload_n hx hb dX11_of_84 rfl (lv_at hl 0 rfl) ?_
      refine tw_get (D := (dC, dI)) (v := .ref (a 3)) (C := RX11) (T := TX11) (N := 10) hx hb hts (fun _ hh => (List.mem_cons_of_mem _ (List.mem_append_right _ (List.mem_append_left _ hh)))) hown hK hT (fx_0 hX) (by decide) cl_e10 rfl 2 (by decide) (hts (.fieldLink RX11 28 "TypingPool" "floor" "LTypingPool$Floor;") (List.mem_cons_of_mem _ (List.mem_append_left _ (List.mem_of_getElem? (i := 5) rfl)))) (fun _ h9 => h9) rfl dX11_of_85 ?_
      refine tw_get (D := (dC, dI)) (v := .ref (a 23)) (C := RX3) (T := TX3) (N := 12) hx hb hts (fun _ hh => (List.mem_cons_of_mem _ (List.mem_append_right _ (List.mem_append_right _ (List.mem_append_right _ (List.mem_append_left _ hh)))))) hown hK hT (fx_3 hX) (by decide) cl_e13 rfl 6 (by decide) (hts (.fieldLink RX11 183 "TypingPool$Floor" "worked" "[I") (List.mem_cons_of_mem _ (List.mem_append_left _ (List.mem_of_getElem? (i := 8) rfl)))) (fun _ h9 => h9) rfl dX11_of_88 ?_
      refine lv_iload_n hx hb dX11_of_91 rfl (lv_at hl 1 rfl) ?_
      refine tw_iald hx hb hK hT 0 (fx_23 hX) (by decide) cl_e33 rfl (z_in rfl (by omega) (by omega)) dX11_of_92 ?_
      refine W.widen (k := 1) (n := 6) (Nat.le_of_ble_eq_true rfl) (Nat.le_of_ble_eq_true rfl) ?_
      refine vx_ret ?_
      exact W.iret (v := y (a 23) p0.toNatClampNeg) hx hb hr (fun t ht hW9 => ⟨⟨y (a 23) p0.toNatClampNeg, y (a 23) p0.toNatClampNeg, rfl, rfl, ⟨u, fun _ _ => rfl, ⟨τ, ln, y, g, hMo, hKM, hI, tw_at ht hT⟩⟩⟩, hS.F ht⟩) hS.2.2 dX11_of_93
    · refine lq_top (v := 3) t_6 ?_
      have nt_6 := z_eq rfl (zk (x := 3) 3 rfl) t_6
      refine lv_tableIn (tgt := 94) hx hb dX11_of_22 (by decide) (by decide) (off := 72) (by decide) (by decide) ?_
      refine lv_aload_n hx hb dX11_of_94 rfl (lv_at hl 0 rfl) ?_
      refine tw_get (D := (dC, dI)) (v := .ref (a 3)) (C := RX11) (T := TX11) (N := 10) hx hb hts (fun _ hh => (List.mem_cons_of_mem _ (List.mem_append_right _ (List.mem_append_left _ hh)))) hown hK hT (fx_0 hX) (by decide) cl_e10 rfl 2 (by decide) (hts (.fieldLink RX11 28 "TypingPool" "floor" "LTypingPool$Floor;") (List.mem_cons_of_mem _ (List.mem_append_left _ (List.mem_of_getElem? (i := 5) rfl)))) (fun _ h9 => h9) rfl dX11_of_95 ?_
      refine lv_iload_n hx hb dX11_of_98 rfl (lv_at hl 1 rfl) ?_
      have hFc := tw_free hF hS hA
      refine va_calli (va_runV (As := [.int p0]) (rest := []) ⟨hx, hb, hml, hown, hts⟩ (c_linesDoneBy l dC dI ad av H.size a k τ ln y g u p0 hI ) (cwV 1 hts (gi_4 (List.mem_cons_of_mem _ (List.mem_append_left _ (List.mem_of_getElem? (i := 9) rfl))) (List.mem_cons_of_mem _ (List.mem_append_left _ (List.mem_of_getElem? (i := 10) rfl))) (List.mem_cons_of_mem _ (List.mem_append_left _ (List.mem_of_getElem? (i := 11) rfl))) (List.mem_cons_of_mem _ (List.mem_append_left _ (List.mem_of_getElem? (i := 12) rfl))) (fun _ hh => (List.mem_cons_of_mem _ (List.mem_append_right _ (List.mem_append_right _ (List.mem_append_right _ (List.mem_append_right _ (List.mem_append_left _ hh))))))) gd_c_linesDoneBy) rfl rfl rfl (by decide +kernel) ⟨Nat.le_of_ble_eq_true rfl, Nat.le_of_ble_eq_true rfl⟩) ⟨pw_blind, tw_recv hK hT (fx_3 hX) (by decide) cl_e13 rfl, pw_use hT hK hFc hS hM⟩ rfl rfl hl.1 rfl (lv_room (Nat.le_of_ble_eq_true rfl)) dX11_of_99 ⟨Nat.le_of_ble_eq_true rfl, Nat.le_of_ble_eq_true rfl⟩) hS (fun q _ h => hFc q h) hFc (fun r0 r_7 t H locs ht hvm hw hB hz1 hk1 hS => ?_)
      refine W.widen (k := 0) (n := 0) (Nat.le_of_ble_eq_true rfl) (Nat.le_of_ble_eq_true rfl) ?_
      clear hvm hz1 hk1
      subst hw
      have hT := hB
      rw [ht] at hT
      refine W.widen (k := 1) (n := 6) (Nat.le_of_ble_eq_true rfl) (Nat.le_of_ble_eq_true rfl) ?_
      refine vx_ret ?_
      exact W.iret (v := r_7) hx hb hr (fun t ht hW9 => ⟨⟨r_7, r_7, rfl, rfl, ⟨u, fun _ _ => rfl, ⟨τ, ln, y, g, hMo, hKM, hI, tw_at ht hT⟩⟩⟩, hS.F ht⟩) hS.2.2 dX11_of_102
    · refine lq_top (v := 4) t_6 ?_
      have nt_6 := z_eq rfl (zk (x := 4) 4 rfl) t_6
      refine lv_tableIn (tgt := 103) hx hb dX11_of_22 (by decide) (by decide) (off := 81) (by decide) (by decide) ?_
      refine lv_aload_n hx hb dX11_of_103 rfl (lv_at hl 0 rfl) ?_
      refine tw_get (D := (dC, dI)) (v := .ref (a 3)) (C := RX11) (T := TX11) (N := 10) hx hb hts (fun _ hh => (List.mem_cons_of_mem _ (List.mem_append_right _ (List.mem_append_left _ hh)))) hown hK hT (fx_0 hX) (by decide) cl_e10 rfl 2 (by decide) (hts (.fieldLink RX11 28 "TypingPool" "floor" "LTypingPool$Floor;") (List.mem_cons_of_mem _ (List.mem_append_left _ (List.mem_of_getElem? (i := 5) rfl)))) (fun _ h9 => h9) rfl dX11_of_104 ?_
      refine lv_iload_n hx hb dX11_of_107 rfl (lv_at hl 1 rfl) ?_
      have hFc := tw_free hF hS hA
      refine va_calli (va_runV (As := [.int p0]) (rest := []) ⟨hx, hb, hml, hown, hts⟩ (c_piecesDoneBy l dC dI ad av H.size a k τ ln y g u p0 hI ) (cwV 1 hts (gi_4 (List.mem_cons_of_mem _ (List.mem_append_left _ (List.mem_of_getElem? (i := 13) rfl))) (List.mem_cons_of_mem _ (List.mem_append_left _ (List.mem_of_getElem? (i := 14) rfl))) (List.mem_cons_of_mem _ (List.mem_append_left _ (List.mem_of_getElem? (i := 15) rfl))) (List.mem_cons_of_mem _ (List.mem_append_left _ (List.mem_of_getElem? (i := 12) rfl))) (fun _ hh => (List.mem_cons_of_mem _ (List.mem_append_right _ (List.mem_append_right _ (List.mem_append_right _ (List.mem_append_right _ (List.mem_append_right _ (List.mem_append_left _ hh)))))))) gd_c_piecesDoneBy) rfl rfl rfl (by decide +kernel) ⟨Nat.le_of_ble_eq_true rfl, Nat.le_of_ble_eq_true rfl⟩) ⟨pw_blind, tw_recv hK hT (fx_3 hX) (by decide) cl_e13 rfl, pw_use hT hK hFc hS hM⟩ rfl rfl hl.1 rfl (lv_room (Nat.le_of_ble_eq_true rfl)) dX11_of_108 ⟨Nat.le_of_ble_eq_true rfl, Nat.le_of_ble_eq_true rfl⟩) hS (fun q _ h => hFc q h) hFc (fun r0 r_8 t H locs ht hvm hw hB hz1 hk1 hS => ?_)
      refine W.widen (k := 0) (n := 0) (Nat.le_of_ble_eq_true rfl) (Nat.le_of_ble_eq_true rfl) ?_
      clear hvm hz1 hk1
      subst hw
      have hT := hB
      rw [ht] at hT
      refine W.widen (k := 1) (n := 6) (Nat.le_of_ble_eq_true rfl) (Nat.le_of_ble_eq_true rfl) ?_
      refine vx_ret ?_
      exact W.iret (v := r_8) hx hb hr (fun t ht hW9 => ⟨⟨r_8, r_8, rfl, rfl, ⟨u, fun _ _ => rfl, ⟨τ, ln, y, g, hMo, hKM, hI, tw_at ht hT⟩⟩⟩, hS.F ht⟩) hS.2.2 dX11_of_111
    · refine lq_top (v := 5) t_6 ?_
      have nt_6 := z_eq rfl (zk (x := 5) 5 rfl) t_6
      refine lv_tableIn (tgt := 112) hx hb dX11_of_22 (by decide) (by decide) (off := 90) (by decide) (by decide) ?_
      refine lv_aload_n hx hb dX11_of_112 rfl (lv_at hl 0 rfl) ?_
      refine tw_get (D := (dC, dI)) (v := .ref (a 1)) (C := RX11) (T := TX11) (N := 10) hx hb hts (fun _ hh => (List.mem_cons_of_mem _ (List.mem_append_right _ (List.mem_append_left _ hh)))) hown hK hT (fx_0 hX) (by decide) cl_e10 rfl 0 (by decide) (hts (.fieldLink RX11 10 "TypingPool" "book" "LTypingPool$Book;") (List.mem_cons_of_mem _ (List.mem_append_left _ (List.mem_of_getElem? (i := 0) rfl)))) (fun _ h9 => h9) rfl dX11_of_113 ?_
      refine lv_aload_n hx hb dX11_of_116 rfl (lv_at hl 0 rfl) ?_
      refine tw_get (D := (dC, dI)) (v := .ref (a 3)) (C := RX11) (T := TX11) (N := 10) hx hb hts (fun _ hh => (List.mem_cons_of_mem _ (List.mem_append_right _ (List.mem_append_left _ hh)))) hown hK hT (fx_0 hX) (by decide) cl_e10 rfl 2 (by decide) (hts (.fieldLink RX11 28 "TypingPool" "floor" "LTypingPool$Floor;") (List.mem_cons_of_mem _ (List.mem_append_left _ (List.mem_of_getElem? (i := 5) rfl)))) (fun _ h9 => h9) rfl dX11_of_117 ?_
      refine tw_get (D := (dC, dI)) (v := .int (y (a 3) 2)) (C := RX3) (T := TX3) (N := 12) hx hb hts (fun _ hh => (List.mem_cons_of_mem _ (List.mem_append_right _ (List.mem_append_right _ (List.mem_append_right _ (List.mem_append_left _ hh)))))) hown hK hT (fx_3 hX) (by decide) cl_e13 rfl 2 (by decide) (hts (.fieldLink RX11 99 "TypingPool$Floor" "now" "I") (List.mem_cons_of_mem _ (List.mem_append_left _ (List.mem_of_getElem? (i := 16) rfl)))) (fun _ h9 => h9) rfl dX11_of_120 ?_
      have hFc := tw_free hF hS hA
      refine va_calli (va_runV (As := [.int (y (a 3) 2)]) (rest := []) ⟨hx, hb, hml, hown, hts⟩ (c_awayMask l dC dI ad av H.size a k τ ln y g u (y (a 3) 2) hI ) (cwV 1 hts (gi_4 (List.mem_cons_of_mem _ (List.mem_append_left _ (List.mem_of_getElem? (i := 17) rfl))) (List.mem_cons_of_mem _ (List.mem_append_left _ (List.mem_of_getElem? (i := 18) rfl))) (List.mem_cons_of_mem _ (List.mem_append_left _ (List.mem_of_getElem? (i := 19) rfl))) (List.mem_cons_of_mem _ (List.mem_append_left _ (List.mem_of_getElem? (i := 4) rfl))) (fun _ hh => (List.mem_cons_of_mem _ (List.mem_append_right _ (List.mem_append_right _ (List.mem_append_right _ (List.mem_append_right _ (List.mem_append_right _ (List.mem_append_right _ (List.mem_append_left _ hh))))))))) gd_c_awayMask) rfl rfl rfl (by decide +kernel) ⟨Nat.le_of_ble_eq_true rfl, Nat.le_of_ble_eq_true rfl⟩) ⟨pw_blind, tw_recv hK hT (fx_1 hX) (by decide) cl_e11 rfl, pw_use hT hK hFc hS hM⟩ rfl rfl hl.1 rfl (lv_room (Nat.le_of_ble_eq_true rfl)) dX11_of_123 ⟨Nat.le_of_ble_eq_true rfl, Nat.le_of_ble_eq_true rfl⟩) hS (fun q _ h => hFc q h) hFc (fun r0 r_9 t H locs ht hvm hw hB hz1 hk1 hS => ?_)
      refine W.widen (k := 0) (n := 0) (Nat.le_of_ble_eq_true rfl) (Nat.le_of_ble_eq_true rfl) ?_
      clear hvm hz1 hk1
      subst hw
      have hT := hB
      rw [ht] at hT
      refine lv_iload_n hx hb dX11_of_126 rfl (lv_at hl 1 rfl) ?_
      refine lv_ishr hx hb dX11_of_127 ?_
      refine lv_topi (fun x_10 ex_10 => ?_)
      refine lv_iconst (v := 1) hx hb dX11_of_128 (by decide) ?_
      refine lv_iand hx hb dX11_of_129 ?_
      refine lv_topi (fun x_11 ex_11 => ?_)
      have hx_11 := z_and (x := x_10) (zk (x := 1) 1 rfl) (by omega)
      rw [← ex_11] at hx_11
      refine W.widen (k := 1) (n := 6) (Nat.le_of_ble_eq_true rfl) (Nat.le_of_ble_eq_true rfl) ?_
      refine vx_ret ?_
      exact W.iret (v := x_11) hx hb hr (fun t ht hW9 => ⟨⟨x_11, x_11, rfl, rfl, ⟨u, fun _ _ => rfl, ⟨τ, ln, y, g, hMo, hKM, hI, tw_at ht hT⟩⟩⟩, hS.F ht⟩) hS.2.2 dX11_of_130
    · refine lq_top (v := 6) t_6 ?_
      have nt_6 := z_eq rfl (zk (x := 6) 6 rfl) t_6
      refine lv_tableIn (tgt := 131) hx hb dX11_of_22 (by decide) (by decide) (off := 109) (by decide) (by decide) ?_
      refine lv_aload_n hx hb dX11_of_131 rfl (lv_at hl 0 rfl) ?_
      refine tw_get (D := (dC, dI)) (v := .ref (a 3)) (C := RX11) (T := TX11) (N := 10) hx hb hts (fun _ hh => (List.mem_cons_of_mem _ (List.mem_append_right _ (List.mem_append_left _ hh)))) hown hK hT (fx_0 hX) (by decide) cl_e10 rfl 2 (by decide) (hts (.fieldLink RX11 28 "TypingPool" "floor" "LTypingPool$Floor;") (List.mem_cons_of_mem _ (List.mem_append_left _ (List.mem_of_getElem? (i := 5) rfl)))) (fun _ h9 => h9) rfl dX11_of_132 ?_
      refine tw_get (D := (dC, dI)) (v := .ref (a 21)) (C := RX3) (T := TX3) (N := 12) hx hb hts (fun _ hh => (List.mem_cons_of_mem _ (List.mem_append_right _ (List.mem_append_right _ (List.mem_append_right _ (List.mem_append_left _ hh)))))) hown hK hT (fx_3 hX) (by decide) cl_e13 rfl 4 (by decide) (hts (.fieldLink RX11 196 "TypingPool$Floor" "rate" "[I") (List.mem_cons_of_mem _ (List.mem_append_left _ (List.mem_of_getElem? (i := 20) rfl)))) (fun _ h9 => h9) rfl dX11_of_135 ?_
      refine lv_iload_n hx hb dX11_of_138 rfl (lv_at hl 1 rfl) ?_
      refine tw_iald hx hb hK hT 0 (fx_21 hX) (by decide) cl_e31 rfl (z_in rfl (by omega) (by omega)) dX11_of_139 ?_
      refine W.widen (k := 1) (n := 6) (Nat.le_of_ble_eq_true rfl) (Nat.le_of_ble_eq_true rfl) ?_
      refine vx_ret ?_
      exact W.iret (v := y (a 21) p0.toNatClampNeg) hx hb hr (fun t ht hW9 => ⟨⟨y (a 21) p0.toNatClampNeg, y (a 21) p0.toNatClampNeg, rfl, rfl, ⟨u, fun _ _ => rfl, ⟨τ, ln, y, g, hMo, hKM, hI, tw_at ht hT⟩⟩⟩, hS.F ht⟩) hS.2.2 dX11_of_140
    · refine lv_tableOut (tgt := 141) hx hb dX11_of_22 t_6 (by decide) ?_
      exact ux_throw hx hb hst hown (hts (.classLink RX11 171 "java/util/NoSuchElementException") (List.mem_cons_of_mem _ (List.mem_append_left _ (List.mem_of_getElem? (i := 21) rfl)))) (hts (.initialized "java/util/NoSuchElementException") (List.mem_cons_of_mem _ (List.mem_append_left _ (List.mem_of_getElem? (i := 22) rfl)))) (hM.2.2.1 14 _ rfl).1 (fun w h => hts w (List.mem_cons_of_mem _ (List.mem_append_right _ (List.mem_append_right _ (List.mem_append_right _ (List.mem_append_right _ (List.mem_append_right _ (List.mem_append_right _ (List.mem_append_right _ (List.mem_append_left _ h)))))))))) hM.2.2.2.2.2.2.1 hM.2.2.2.2.1 hM.2.2.2.2.2.1 hS (by rw [hml]; exact hl.1) dX11_of_141 dX11_of_144 dX11_of_145 dX11_of_147 dX11_of_150 (fun x hx => (hex x hx).elim) (Nat.le_of_ble_eq_true rfl) (Nat.le_of_ble_eq_true rfl) (Nat.le_of_ble_eq_true rfl) (Nat.le_of_ble_eq_true rfl) hlocks (fun t ht hz hk => ⟨(), trivial, ⟨rfl, ⟨τ, ln, y, g, hMo, hKM, hI, hT.kept (fun q h9 _ => hk q h9)⟩⟩, Nat.le_trans hS.1 hz, fun q h1 h2 => (hk q (Nat.lt_of_lt_of_le h1 hS.1)).trans (hS.2.1 q h1 h2)⟩) hS.2.2 (Nat.le_of_ble_eq_true rfl) (Nat.le_of_ble_eq_true rfl)
  · refine lq_top (v := 0) hre ?_
    rw [ht] at hT
    refine lv_if_ne (tgt := 21) hx hb dX11_of_8 (by decide) (fun c_12 => absurd c_12 (by decide)) (fun c_12 => ?_)
    exact ux_throw hx hb hst hown (hts (.classLink RX11 171 "java/util/NoSuchElementException") (List.mem_cons_of_mem _ (List.mem_append_left _ (List.mem_of_getElem? (i := 21) rfl)))) (hts (.initialized "java/util/NoSuchElementException") (List.mem_cons_of_mem _ (List.mem_append_left _ (List.mem_of_getElem? (i := 22) rfl)))) (hM.2.2.1 13 _ rfl).1 (fun w h => hts w (List.mem_cons_of_mem _ (List.mem_append_right _ (List.mem_append_right _ (List.mem_append_right _ (List.mem_append_right _ (List.mem_append_right _ (List.mem_append_right _ (List.mem_append_right _ (List.mem_append_left _ h)))))))))) hM.2.2.2.2.2.2.1 hM.2.2.2.2.1 hM.2.2.2.2.2.1 hS (by rw [hml]; exact hl.1) dX11_of_11 dX11_of_14 dX11_of_15 dX11_of_17 dX11_of_20 (fun x hx => (hex x hx).elim) (Nat.le_of_ble_eq_true rfl) (Nat.le_of_ble_eq_true rfl) (Nat.le_of_ble_eq_true rfl) (Nat.le_of_ble_eq_true rfl) hlocks (fun t ht hz hk => ⟨(), trivial, ⟨rfl, ⟨τ, ln, y, g, hMo, hKM, hI, hT.kept (fun q h9 _ => hk q h9)⟩⟩, Nat.le_trans hS.1 hz, fun q h1 h2 => (hk q (Nat.lt_of_lt_of_le h1 hS.1)).trans (hS.2.1 q h1 h2)⟩) hS.2.2 (Nat.le_of_ble_eq_true rfl) (Nat.le_of_ble_eq_true rfl)
def wo_t_order : List Cond := [.fieldLink RX11 10 "TypingPool" "book" "LTypingPool$Book;", .methodLink RX11 95 yX1_hasHand, .instanceMethod yX1_hasHand, .selects RX1 yX1_hasHand yX1_hasHand, .initialized RX1, .methodLink RX11 201 yX1_hasPiece, .instanceMethod yX1_hasPiece, .selects RX1 yX1_hasPiece yX1_hasPiece, .fieldLink RX11 28 "TypingPool" "floor" "LTypingPool$Floor;", .methodLink RX11 231 yX3_haste, .instanceMethod yX3_haste, .selects RX3 yX3_haste yX3_haste, .initialized RX3, .classLink RX11 171 "java/util/NoSuchElementException", .initialized "java/util/NoSuchElementException"]
def wm_t_order : List Cond := .code yX11_order cX11_order 3 (some .int) :: (wo_t_order ++ (wsX110 ++ (wm_c_hasHand ++ (wm_c_hasPiece ++ (wm_c_hasteN ++ (ux_at ++ ([] : List Cond)))))))
theorem gd_t_order : ∀ w ∈ wm_t_order, goodWord w = true := gd_c rfl (gd_a (by decide) (gd_a gd_wsX110 (gd_a gd_c_hasHand (gd_a gd_c_hasPiece (gd_a gd_c_hasteN (gd_a gd_ux_at gd_nil))))))
set_option maxRecDepth 20000 in
theorem im_t_order : ∀ w ∈ wm_t_order, w ∈ lw_tbl := im_c (in_r [.code yX11_order cX11_order 3 (some .int)] [1167] (by decide +kernel)) (in_app (in_r wo_t_order [559, 629, 630, 631, 71, 859, 841, 842, 561, 1169, 798, 799, 83, 1090, 94] (by decide +kernel)) (in_app im_wsX110 (in_app im_c_hasHand (in_app im_c_hasPiece (in_app im_c_hasteN (in_app im_ux_at im_nil))))))
set_option maxHeartbeats 4000000 in
set_option maxRecDepth 100000 in
theorem t_order (l : Launch) (hst : l.stackTraces = false) (dC : Nat → ClassId) (dI : Nat → Nat → Nat) (ad av : Nat → Nat) (sz : Nat) (a : Nat → Nat) (k : Nat → ClassId) (τ ln : Nat → Nat) (y : Nat → Nat → Int32) (g : Nat → Nat → Option Nat) (u : Nat → Int) (p0 : Int32) (p1 : Int32) (hI : IC a u τ ln y g) : vx_Met l yX11_order wm_t_order ({ frames := 8, cells := 1, slots := 6, locals := 240 }) (pw_ ad av (dC, dI) sz [.ref (a 0), .int p0, .int p1] a k τ ln y g) (va_Qi (fun (r u : Int32) => u = r) (fun (r : Int32) (t : State) => (∃ (u' : Nat → Int), (∀ i, i ∉ ([] : List Nat) → u' i = u i) ∧ pq (dC, dI) a k τ y g u' sz t.heap)) (fr τ sz)) (vx_X (fun (_ : Unit) => True) (fun (E : String) (_ : Unit) (t : State) => E = NSE ∧ pq (dC, dI) a k τ y g u sz t.heap) (fr τ sz)) 1 6 (fr τ sz) := by
  refine vx_ofW (cc := cX11_order) (maxL := 3) (ret := (some .int)) (by decide) rfl ?_
  intro p e s m args below meth c s₁ B hml hex hv
  obtain ⟨rfl, hsz, hT, hK, hM⟩ := hv
  have hx := B.exec
  have hb := B.bytes
  have hr := B.returns
  have hts := atoms_spec (ws := wm_t_order) B.pre
  have hown : s.vm.findClass RX11 = some m.cls := findClass_of_methodNamed B.named
  have hlocks := B.notSynchronized
  subst hsz
  generalize hAe : fr τ s.heap.size = A at hM ⊢
  have hA : ∀ q : Nat, s.heap.size ≤ q → A q := fun q h => by rw [← hAe]; exact Or.inr h
  have hF : ∀ q, τ q ≠ 0 → A q := fun q h => by rw [← hAe]; exact Or.inl h
  have hS : va_S A s.heap s.heap [] := va_S.rf
  have hX := hI.1
  have hR := ic_r hI
  have hMo : mono τ τ s.heap.size := mono.rf
  have hKM : kpM τ y g y g := kpM.rf
  have hl := lv_entry ([.ref (a 0), .int p0, .int p1]) (n := 3) (Nat.le_of_ble_eq_true rfl)
  rw [lg_entry_eq]
  generalize (lg_sl ([.ref (a 0), .int p0, .int p1]) ++ List.replicate (3 - (lg_sl ([.ref (a 0), .int p0, .int p1])).length) Slot.unset).toArray = ls at hl ⊢
  have hl : lv_has ls 3 [(0, .ref (a 0)), (1, .int p0), (2, .int p1)] := hl
  refine lv_aload_n hx hb dX11_order_0 rfl (lv_at hl 0 rfl) ?_
  refine tw_get (D := (dC, dI)) (v := .ref (a 1)) (C := RX11) (T := TX11) (N := 10) hx hb hts (fun _ hh => (List.mem_cons_of_mem _ (List.mem_append_right _ (List.mem_append_left _ hh)))) hown hK hT (fx_0 hX) (by decide) cl_e10 rfl 0 (by decide) (hts (.fieldLink RX11 10 "TypingPool" "book" "LTypingPool$Book;") (List.mem_cons_of_mem _ (List.mem_append_left _ (List.mem_of_getElem? (i := 0) rfl)))) (fun _ h9 => h9) rfl dX11_order_1 ?_
  refine lv_iload_n hx hb dX11_order_4 rfl (lv_at hl 1 rfl) ?_
  have hFc := tw_free hF hS hA
  refine va_calli (va_runV (As := [.int p0]) (rest := []) ⟨hx, hb, hml, hown, hts⟩ (c_hasHand l dC dI ad av s.heap.size a k τ ln y g u p0 hI ) (cwV 1 hts (gi_4 (List.mem_cons_of_mem _ (List.mem_append_left _ (List.mem_of_getElem? (i := 1) rfl))) (List.mem_cons_of_mem _ (List.mem_append_left _ (List.mem_of_getElem? (i := 2) rfl))) (List.mem_cons_of_mem _ (List.mem_append_left _ (List.mem_of_getElem? (i := 3) rfl))) (List.mem_cons_of_mem _ (List.mem_append_left _ (List.mem_of_getElem? (i := 4) rfl))) (fun _ hh => (List.mem_cons_of_mem _ (List.mem_append_right _ (List.mem_append_right _ (List.mem_append_left _ hh))))) gd_c_hasHand) rfl rfl rfl (by decide +kernel) ⟨Nat.le_of_ble_eq_true rfl, Nat.le_of_ble_eq_true rfl⟩) ⟨pw_blind, tw_recv hK hT (fx_1 hX) (by decide) cl_e11 rfl, pw_use hT hK hFc hS hM⟩ rfl rfl hl.1 rfl (lv_room (Nat.le_of_ble_eq_true rfl)) dX11_order_5 ⟨Nat.le_of_ble_eq_true rfl, Nat.le_of_ble_eq_true rfl⟩) hS (fun q _ h => hFc q h) hFc (fun r0 r_1 t H locs ht hvm hw hB hz1 hk1 hS => ?_)
  refine W.widen (k := 0) (n := 0) (Nat.le_of_ble_eq_true rfl) (Nat.le_of_ble_eq_true rfl) ?_
  clear hvm hz1 hk1
  subst hw
  rcases hB with ⟨hre, hf_2, hf_3, hT⟩ | ⟨hre, hf_4, hT⟩
  · refine lq_top (v := 1) hre ?_
    rw [ht] at hT
    refine lv_if_eq (tgt := 22) hx hb dX11_order_8 (by decide) (fun c_5 => absurd c_5 (by decide)) (fun c_5 => ?_)
    refine lv_aload_n hx hb dX11_order_11 rfl (lv_at hl 0 rfl) ?_
    refine tw_get (D := (dC, dI)) (v := .ref (a 1)) (C := RX11) (T := TX11) (N := 10) hx hb hts (fun _ hh => (List.mem_cons_of_mem _ (List.mem_append_right _ (List.mem_append_left _ hh)))) hown hK hT (fx_0 hX) (by decide) cl_e10 rfl 0 (by decide) (hts (.fieldLink RX11 10 "TypingPool" "book" "LTypingPool$Book;") (List.mem_cons_of_mem _ (List.mem_append_left _ (List.mem_of_getElem? (i := 0) rfl)))) (fun _ h9 => h9) rfl dX11_order_12 ?_
    refine lv_iload_n hx hb dX11_order_15 rfl (lv_at hl 2 rfl) ?_
    have hFc := tw_free hF hS hA
    refine va_calli (va_runV (As := [.int p1]) (rest := []) ⟨hx, hb, hml, hown, hts⟩ (c_hasPiece l dC dI ad av H.size a k τ ln y g u p1 hI ) (cwV 1 hts (gi_4 (List.mem_cons_of_mem _ (List.mem_append_left _ (List.mem_of_getElem? (i := 5) rfl))) (List.mem_cons_of_mem _ (List.mem_append_left _ (List.mem_of_getElem? (i := 6) rfl))) (List.mem_cons_of_mem _ (List.mem_append_left _ (List.mem_of_getElem? (i := 7) rfl))) (List.mem_cons_of_mem _ (List.mem_append_left _ (List.mem_of_getElem? (i := 4) rfl))) (fun _ hh => (List.mem_cons_of_mem _ (List.mem_append_right _ (List.mem_append_right _ (List.mem_append_right _ (List.mem_append_left _ hh)))))) gd_c_hasPiece) rfl rfl rfl (by decide +kernel) ⟨Nat.le_of_ble_eq_true rfl, Nat.le_of_ble_eq_true rfl⟩) ⟨pw_blind, tw_recv hK hT (fx_1 hX) (by decide) cl_e11 rfl, pw_use hT hK hFc hS hM⟩ rfl rfl hl.1 rfl (lv_room (Nat.le_of_ble_eq_true rfl)) dX11_order_16 ⟨Nat.le_of_ble_eq_true rfl, Nat.le_of_ble_eq_true rfl⟩) hS (fun q _ h => hFc q h) hFc (fun r0 r_6 t H locs ht hvm hw hB hz1 hk1 hS => ?_)
    refine W.widen (k := 0) (n := 0) (Nat.le_of_ble_eq_true rfl) (Nat.le_of_ble_eq_true rfl) ?_
    clear hvm hz1 hk1
    subst hw
    rcases hB with ⟨hre, hf_7, hf_8, hT⟩ | ⟨hre, hf_9, hT⟩
    · refine lq_top (v := 1) hre ?_
      rw [ht] at hT
      refine lv_if_ne (tgt := 32) hx hb dX11_order_19 (by decide) (fun c_10 => ?_) (fun c_10 => absurd c_10 (by decide))
      refine lv_aload_n hx hb dX11_order_32 rfl (lv_at hl 0 rfl) ?_
      refine tw_get (D := (dC, dI)) (v := .ref (a 3)) (C := RX11) (T := TX11) (N := 10) hx hb hts (fun _ hh => (List.mem_cons_of_mem _ (List.mem_append_right _ (List.mem_append_left _ hh)))) hown hK hT (fx_0 hX) (by decide) cl_e10 rfl 2 (by decide) (hts (.fieldLink RX11 28 "TypingPool" "floor" "LTypingPool$Floor;") (List.mem_cons_of_mem _ (List.mem_append_left _ (List.mem_of_getElem? (i := 8) rfl)))) (fun _ h9 => h9) rfl dX11_order_33 ?_
      refine lv_iload_n hx hb dX11_order_36 rfl (lv_at hl 1 rfl) ?_
      refine lv_iload_n hx hb dX11_order_37 rfl (lv_at hl 2 rfl) ?_
      refine lv_null hx hb dX11_order_38 ?_
      have hFc := tw_free hF hS hA
      refine va_calli (va_runV (As := [.int p0, .int p1, .null]) (rest := []) ⟨hx, hb, hml, hown, hts⟩ (c_hasteN l dC dI ad av H.size a k τ ln y g u p0 p1 hI (by omega) (by omega) (by omega) (by omega)) (cwV 3 hts (gi_4 (List.mem_cons_of_mem _ (List.mem_append_left _ (List.mem_of_getElem? (i := 9) rfl))) (List.mem_cons_of_mem _ (List.mem_append_left _ (List.mem_of_getElem? (i := 10) rfl))) (List.mem_cons_of_mem _ (List.mem_append_left _ (List.mem_of_getElem? (i := 11) rfl))) (List.mem_cons_of_mem _ (List.mem_append_left _ (List.mem_of_getElem? (i := 12) rfl))) (fun _ hh => (List.mem_cons_of_mem _ (List.mem_append_right _ (List.mem_append_right _ (List.mem_append_right _ (List.mem_append_right _ (List.mem_append_left _ hh))))))) gd_c_hasteN) rfl rfl rfl (by decide +kernel) ⟨Nat.le_of_ble_eq_true rfl, Nat.le_of_ble_eq_true rfl⟩) ⟨pw_blind, tw_recv hK hT (fx_3 hX) (by decide) cl_e13 rfl, pw_use hT hK hFc hS hM⟩ rfl rfl hl.1 rfl (lv_room (Nat.le_of_ble_eq_true rfl)) dX11_order_39 ⟨Nat.le_of_ble_eq_true rfl, Nat.le_of_ble_eq_true rfl⟩) hS (fun q _ h => hFc q h) hFc (fun r0 r_11 t H locs ht hvm hw hB hz1 hk1 hS => ?_)
      refine W.widen (k := 0) (n := 0) (Nat.le_of_ble_eq_true rfl) (Nat.le_of_ble_eq_true rfl) ?_
      clear hvm hz1 hk1
      subst hw
      obtain ⟨y_12, hgy_12, hT⟩ := hB
      rw [ht] at hT
      have hKM := hKM.ag hMo hgy_12 (by decide)
      have hI := hI.ag hgy_12 (by decide)
      refine W.widen (k := 1) (n := 6) (Nat.le_of_ble_eq_true rfl) (Nat.le_of_ble_eq_true rfl) ?_
      refine vx_ret ?_
      exact W.iret (v := r_11) hx hb hr (fun t ht hW9 => ⟨⟨r_11, r_11, rfl, rfl, ⟨u, fun _ _ => rfl, ⟨τ, ln, y_12, g, hMo, hKM, hI, tw_at ht hT⟩⟩⟩, hS.F ht⟩) hS.2.2 dX11_order_42
    · refine lq_top (v := 0) hre ?_
      rw [ht] at hT
      refine lv_if_ne (tgt := 32) hx hb dX11_order_19 (by decide) (fun c_13 => absurd c_13 (by decide)) (fun c_13 => ?_)
      exact ux_throw hx hb hst hown (hts (.classLink RX11 171 "java/util/NoSuchElementException") (List.mem_cons_of_mem _ (List.mem_append_left _ (List.mem_of_getElem? (i := 13) rfl)))) (hts (.initialized "java/util/NoSuchElementException") (List.mem_cons_of_mem _ (List.mem_append_left _ (List.mem_of_getElem? (i := 14) rfl)))) (hM.2.2.1 15 _ rfl).1 (fun w h => hts w (List.mem_cons_of_mem _ (List.mem_append_right _ (List.mem_append_right _ (List.mem_append_right _ (List.mem_append_right _ (List.mem_append_right _ (List.mem_append_left _ h)))))))) hM.2.2.2.2.2.2.1 hM.2.2.2.2.1 hM.2.2.2.2.2.1 hS (by rw [hml]; exact hl.1) dX11_order_22 dX11_order_25 dX11_order_26 dX11_order_28 dX11_order_31 (fun x hx => (hex x hx).elim) (Nat.le_of_ble_eq_true rfl) (Nat.le_of_ble_eq_true rfl) (Nat.le_of_ble_eq_true rfl) (Nat.le_of_ble_eq_true rfl) hlocks (fun t ht hz hk => ⟨(), trivial, ⟨rfl, ⟨τ, ln, y, g, hMo, hKM, hI, hT.kept (fun q h9 _ => hk q h9)⟩⟩, Nat.le_trans hS.1 hz, fun q h1 h2 => (hk q (Nat.lt_of_lt_of_le h1 hS.1)).trans (hS.2.1 q h1 h2)⟩) hS.2.2 (Nat.le_of_ble_eq_true rfl) (Nat.le_of_ble_eq_true rfl)
  · refine lq_top (v := 0) hre ?_
    rw [ht] at hT
    refine lv_if_eq (tgt := 22) hx hb dX11_order_8 (by decide) (fun c_14 => ?_) (fun c_14 => absurd c_14 (by decide))
    exact ux_throw hx hb hst hown (hts (.classLink RX11 171 "java/util/NoSuchElementException") (List.mem_cons_of_mem _ (List.mem_append_left _ (List.mem_of_getElem? (i := 13) rfl)))) (hts (.initialized "java/util/NoSuchElementException") (List.mem_cons_of_mem _ (List.mem_append_left _ (List.mem_of_getElem? (i := 14) rfl)))) (hM.2.2.1 15 _ rfl).1 (fun w h => hts w (List.mem_cons_of_mem _ (List.mem_append_right _ (List.mem_append_right _ (List.mem_append_right _ (List.mem_append_right _ (List.mem_append_right _ (List.mem_append_left _ h)))))))) hM.2.2.2.2.2.2.1 hM.2.2.2.2.1 hM.2.2.2.2.2.1 hS (by rw [hml]; exact hl.1) dX11_order_22 dX11_order_25 dX11_order_26 dX11_order_28 dX11_order_31 (fun x hx => (hex x hx).elim) (Nat.le_of_ble_eq_true rfl) (Nat.le_of_ble_eq_true rfl) (Nat.le_of_ble_eq_true rfl) (Nat.le_of_ble_eq_true rfl) hlocks (fun t ht hz hk => ⟨(), trivial, ⟨rfl, ⟨τ, ln, y, g, hMo, hKM, hI, hT.kept (fun q h9 _ => hk q h9)⟩⟩, Nat.le_trans hS.1 hz, fun q h1 h2 => (hk q (Nat.lt_of_lt_of_le h1 hS.1)).trans (hS.2.1 q h1 h2)⟩) hS.2.2 (Nat.le_of_ble_eq_true rfl) (Nat.le_of_ble_eq_true rfl)
def wo_t_pay : List Cond := [.fieldLink RX11 10 "TypingPool" "book" "LTypingPool$Book;", .methodLink RX11 201 yX1_hasPiece, .instanceMethod yX1_hasPiece, .selects RX1 yX1_hasPiece yX1_hasPiece, .initialized RX1, .fieldLink RX11 40 "TypingPool" "ledger" "LTypingPool$Ledger;", .methodLink RX11 275 yX5_payFor, .instanceMethod yX5_payFor, .selects RX5 yX5_payFor yX5_payFor, .initialized RX5, .classLink RX11 171 "java/util/NoSuchElementException", .initialized "java/util/NoSuchElementException"]
def wm_t_pay : List Cond := .code yX11_pay cX11_pay 2 (some .int) :: (wo_t_pay ++ (wsX110 ++ (wm_c_hasPiece ++ (wm_c_payFor ++ (ux_at ++ ([] : List Cond))))))
theorem gd_t_pay : ∀ w ∈ wm_t_pay, goodWord w = true := gd_c rfl (gd_a (by decide) (gd_a gd_wsX110 (gd_a gd_c_hasPiece (gd_a gd_c_payFor (gd_a gd_ux_at gd_nil)))))
set_option maxRecDepth 20000 in
theorem im_t_pay : ∀ w ∈ wm_t_pay, w ∈ lw_tbl := im_c (in_r [.code yX11_pay cX11_pay 2 (some .int)] [1176] (by decide +kernel)) (in_app (in_r wo_t_pay [559, 859, 841, 842, 71, 563, 1178, 1179, 1180, 84, 1090, 94] (by decide +kernel)) (in_app im_wsX110 (in_app im_c_hasPiece (in_app im_c_payFor (in_app im_ux_at im_nil)))))
set_option maxHeartbeats 4000000 in
set_option maxRecDepth 100000 in
theorem t_pay (l : Launch) (hst : l.stackTraces = false) (dC : Nat → ClassId) (dI : Nat → Nat → Nat) (ad av : Nat → Nat) (sz : Nat) (a : Nat → Nat) (k : Nat → ClassId) (τ ln : Nat → Nat) (y : Nat → Nat → Int32) (g : Nat → Nat → Option Nat) (u : Nat → Int) (p0 : Int32) (hI : IC a u τ ln y g) : vx_Met l yX11_pay wm_t_pay ({ frames := 8, cells := 1, slots := 6, locals := 360 }) (pw_ ad av (dC, dI) sz [.ref (a 0), .int p0] a k τ ln y g) (va_Qi (fun (r u : Int32) => u = r) (fun (r : Int32) (t : State) => (∃ (u' : Nat → Int), (∀ i, i ∉ ([] : List Nat) → u' i = u i) ∧ pq (dC, dI) a k τ y g u' sz t.heap)) (fr τ sz)) (vx_X (fun (_ : Unit) => True) (fun (E : String) (_ : Unit) (t : State) => E = NSE ∧ pq (dC, dI) a k τ y g u sz t.heap) (fr τ sz)) 1 6 (fr τ sz) := by
  refine vx_ofW (cc := cX11_pay) (maxL := 2) (ret := (some .int)) (by decide) rfl ?_
  intro p e s m args below meth c s₁ B hml hex hv
  obtain ⟨rfl, hsz, hT, hK, hM⟩ := hv
  have hx := B.exec
  have hb := B.bytes
  have hr := B.returns
  have hts := atoms_spec (ws := wm_t_pay) B.pre
  have hown : s.vm.findClass RX11 = some m.cls := findClass_of_methodNamed B.named
  have hlocks := B.notSynchronized
  subst hsz
  generalize hAe : fr τ s.heap.size = A at hM ⊢
  have hA : ∀ q : Nat, s.heap.size ≤ q → A q := fun q h => by rw [← hAe]; exact Or.inr h
  have hF : ∀ q, τ q ≠ 0 → A q := fun q h => by rw [← hAe]; exact Or.inl h
  have hS : va_S A s.heap s.heap [] := va_S.rf
  have hX := hI.1
  have hR := ic_r hI
  have hMo : mono τ τ s.heap.size := mono.rf
  have hKM : kpM τ y g y g := kpM.rf
  have hl := lv_entry ([.ref (a 0), .int p0]) (n := 2) (Nat.le_of_ble_eq_true rfl)
  rw [lg_entry_eq]
  generalize (lg_sl ([.ref (a 0), .int p0]) ++ List.replicate (2 - (lg_sl ([.ref (a 0), .int p0])).length) Slot.unset).toArray = ls at hl ⊢
  have hl : lv_has ls 2 [(0, .ref (a 0)), (1, .int p0)] := hl
  refine lv_aload_n hx hb dX11_pay_0 rfl (lv_at hl 0 rfl) ?_
  refine tw_get (D := (dC, dI)) (v := .ref (a 1)) (C := RX11) (T := TX11) (N := 10) hx hb hts (fun _ hh => (List.mem_cons_of_mem _ (List.mem_append_right _ (List.mem_append_left _ hh)))) hown hK hT (fx_0 hX) (by decide) cl_e10 rfl 0 (by decide) (hts (.fieldLink RX11 10 "TypingPool" "book" "LTypingPool$Book;") (List.mem_cons_of_mem _ (List.mem_append_left _ (List.mem_of_getElem? (i := 0) rfl)))) (fun _ h9 => h9) rfl dX11_pay_1 ?_
  refine lv_iload_n hx hb dX11_pay_4 rfl (lv_at hl 1 rfl) ?_
  have hFc := tw_free hF hS hA
  refine va_calli (va_runV (As := [.int p0]) (rest := []) ⟨hx, hb, hml, hown, hts⟩ (c_hasPiece l dC dI ad av s.heap.size a k τ ln y g u p0 hI ) (cwV 1 hts (gi_4 (List.mem_cons_of_mem _ (List.mem_append_left _ (List.mem_of_getElem? (i := 1) rfl))) (List.mem_cons_of_mem _ (List.mem_append_left _ (List.mem_of_getElem? (i := 2) rfl))) (List.mem_cons_of_mem _ (List.mem_append_left _ (List.mem_of_getElem? (i := 3) rfl))) (List.mem_cons_of_mem _ (List.mem_append_left _ (List.mem_of_getElem? (i := 4) rfl))) (fun _ hh => (List.mem_cons_of_mem _ (List.mem_append_right _ (List.mem_append_right _ (List.mem_append_left _ hh))))) gd_c_hasPiece) rfl rfl rfl (by decide +kernel) ⟨Nat.le_of_ble_eq_true rfl, Nat.le_of_ble_eq_true rfl⟩) ⟨pw_blind, tw_recv hK hT (fx_1 hX) (by decide) cl_e11 rfl, pw_use hT hK hFc hS hM⟩ rfl rfl hl.1 rfl (lv_room (Nat.le_of_ble_eq_true rfl)) dX11_pay_5 ⟨Nat.le_of_ble_eq_true rfl, Nat.le_of_ble_eq_true rfl⟩) hS (fun q _ h => hFc q h) hFc (fun r0 r_1 t H locs ht hvm hw hB hz1 hk1 hS => ?_)
  refine W.widen (k := 0) (n := 0) (Nat.le_of_ble_eq_true rfl) (Nat.le_of_ble_eq_true rfl) ?_
  clear hvm hz1 hk1
  subst hw
  rcases hB with ⟨hre, hf_2, hf_3, hT⟩ | ⟨hre, hf_4, hT⟩
  · refine lq_top (v := 1) hre ?_
    rw [ht] at hT
    refine lv_if_ne (tgt := 22) hx hb dX11_pay_8 (by decide) (fun c_5 => ?_) (fun c_5 => absurd c_5 (by decide))
    refine lv_aload_n hx hb dX11_pay_22 rfl (lv_at hl 0 rfl) ?_
    refine tw_get (D := (dC, dI)) (v := .ref (a 5)) (C := RX11) (T := TX11) (N := 10) hx hb hts (fun _ hh => (List.mem_cons_of_mem _ (List.mem_append_right _ (List.mem_append_left _ hh)))) hown hK hT (fx_0 hX) (by decide) cl_e10 rfl 4 (by decide) (hts (.fieldLink RX11 40 "TypingPool" "ledger" "LTypingPool$Ledger;") (List.mem_cons_of_mem _ (List.mem_append_left _ (List.mem_of_getElem? (i := 5) rfl)))) (fun _ h9 => h9) rfl dX11_pay_23 ?_
    refine lv_iload_n hx hb dX11_pay_26 rfl (lv_at hl 1 rfl) ?_
    have hFc := tw_free hF hS hA
    refine va_calli (va_runV (As := [.int p0]) (rest := []) ⟨hx, hb, hml, hown, hts⟩ (c_payFor l dC dI ad av H.size a k τ ln y g u p0 hI (by omega) (by omega)) (cwV 1 hts (gi_4 (List.mem_cons_of_mem _ (List.mem_append_left _ (List.mem_of_getElem? (i := 6) rfl))) (List.mem_cons_of_mem _ (List.mem_append_left _ (List.mem_of_getElem? (i := 7) rfl))) (List.mem_cons_of_mem _ (List.mem_append_left _ (List.mem_of_getElem? (i := 8) rfl))) (List.mem_cons_of_mem _ (List.mem_append_left _ (List.mem_of_getElem? (i := 9) rfl))) (fun _ hh => (List.mem_cons_of_mem _ (List.mem_append_right _ (List.mem_append_right _ (List.mem_append_right _ (List.mem_append_left _ hh)))))) gd_c_payFor) rfl rfl rfl (by decide +kernel) ⟨Nat.le_of_ble_eq_true rfl, Nat.le_of_ble_eq_true rfl⟩) ⟨pw_blind, tw_recv hK hT (fx_5 hX) (by decide) cl_e15 rfl, pw_use hT hK hFc hS hM⟩ rfl rfl hl.1 rfl (lv_room (Nat.le_of_ble_eq_true rfl)) dX11_pay_27 ⟨Nat.le_of_ble_eq_true rfl, Nat.le_of_ble_eq_true rfl⟩) hS (fun q _ h => hFc q h) hFc (fun r0 r_6 t H locs ht hvm hw hB hz1 hk1 hS => ?_)
    refine W.widen (k := 0) (n := 0) (Nat.le_of_ble_eq_true rfl) (Nat.le_of_ble_eq_true rfl) ?_
    clear hvm hz1 hk1
    subst hw
    obtain ⟨y_7, hgy_7, hT⟩ := hB
    rw [ht] at hT
    have hKM := hKM.ag hMo hgy_7 (by decide)
    have hI := hI.ag hgy_7 (by decide)
    refine W.widen (k := 1) (n := 6) (Nat.le_of_ble_eq_true rfl) (Nat.le_of_ble_eq_true rfl) ?_
    refine vx_ret ?_
    exact W.iret (v := r_6) hx hb hr (fun t ht hW9 => ⟨⟨r_6, r_6, rfl, rfl, ⟨u, fun _ _ => rfl, ⟨τ, ln, y_7, g, hMo, hKM, hI, tw_at ht hT⟩⟩⟩, hS.F ht⟩) hS.2.2 dX11_pay_30
  · refine lq_top (v := 0) hre ?_
    rw [ht] at hT
    refine lv_if_ne (tgt := 22) hx hb dX11_pay_8 (by decide) (fun c_8 => absurd c_8 (by decide)) (fun c_8 => ?_)
    exact ux_throwW hx hb hst hown (hts (.classLink RX11 171 "java/util/NoSuchElementException") (List.mem_cons_of_mem _ (List.mem_append_left _ (List.mem_of_getElem? (i := 10) rfl)))) (hts (.initialized "java/util/NoSuchElementException") (List.mem_cons_of_mem _ (List.mem_append_left _ (List.mem_of_getElem? (i := 11) rfl)))) (hM.2.2.1 16 _ rfl).1 (fun w h => hts w (List.mem_cons_of_mem _ (List.mem_append_right _ (List.mem_append_right _ (List.mem_append_right _ (List.mem_append_right _ (List.mem_append_left _ h))))))) hM.2.2.2.2.2.2.1 hM.2.2.2.2.1 hM.2.2.2.2.2.1 hS (by rw [hml]; exact hl.1) dX11_pay_11 dX11_pay_14 dX11_pay_15 dX11_pay_18 dX11_pay_21 (fun x hx => (hex x hx).elim) (Nat.le_of_ble_eq_true rfl) (Nat.le_of_ble_eq_true rfl) (Nat.le_of_ble_eq_true rfl) (Nat.le_of_ble_eq_true rfl) hlocks (fun t ht hz hk => ⟨(), trivial, ⟨rfl, ⟨τ, ln, y, g, hMo, hKM, hI, hT.kept (fun q h9 _ => hk q h9)⟩⟩, Nat.le_trans hS.1 hz, fun q h1 h2 => (hk q (Nat.lt_of_lt_of_le h1 hS.1)).trans (hS.2.1 q h1 h2)⟩) hS.2.2 (Nat.le_of_ble_eq_true rfl) (Nat.le_of_ble_eq_true rfl)
def wo_t_earns : List Cond := [.fieldLink RX11 10 "TypingPool" "book" "LTypingPool$Book;", .methodLink RX11 95 yX1_hasHand, .instanceMethod yX1_hasHand, .selects RX1 yX1_hasHand yX1_hasHand, .initialized RX1, .methodLink RX11 68 yX11_within, .static yX11_within, .initialized RX11, .fieldLink RX11 40 "TypingPool" "ledger" "LTypingPool$Ledger;", .methodLink RX11 280 yX5_payOf, .instanceMethod yX5_payOf, .selects RX5 yX5_payOf yX5_payOf, .initialized RX5, .classLink RX11 171 "java/util/NoSuchElementException", .initialized "java/util/NoSuchElementException"]
def wm_t_earns : List Cond := .code yX11_earns cX11_earns 3 (some .int) :: (wo_t_earns ++ (wsX110 ++ (wm_c_hasHand ++ (wm_c_within ++ (wm_c_payOf ++ (ux_at ++ ([] : List Cond)))))))
theorem gd_t_earns : ∀ w ∈ wm_t_earns, goodWord w = true := gd_c rfl (gd_a (by decide) (gd_a gd_wsX110 (gd_a gd_c_hasHand (gd_a gd_c_within (gd_a gd_c_payOf (gd_a gd_ux_at gd_nil))))))
set_option maxRecDepth 20000 in
theorem im_t_earns : ∀ w ∈ wm_t_earns, w ∈ lw_tbl := im_c (in_r [.code yX11_earns cX11_earns 3 (some .int)] [1189] (by decide +kernel)) (in_app (in_r wo_t_earns [559, 629, 630, 631, 71, 594, 595, 70, 563, 1191, 1192, 1193, 84, 1090, 94] (by decide +kernel)) (in_app im_wsX110 (in_app im_c_hasHand (in_app im_c_within (in_app im_c_payOf (in_app im_ux_at im_nil))))))
set_option maxHeartbeats 4000000 in
set_option maxRecDepth 100000 in
theorem t_earns (l : Launch) (hst : l.stackTraces = false) (dC : Nat → ClassId) (dI : Nat → Nat → Nat) (ad av : Nat → Nat) (sz : Nat) (a : Nat → Nat) (k : Nat → ClassId) (τ ln : Nat → Nat) (y : Nat → Nat → Int32) (g : Nat → Nat → Option Nat) (u : Nat → Int) (p0 : Int32) (p1 : Int32) (hI : IC a u τ ln y g) : vx_Met l yX11_earns wm_t_earns ({ frames := 8, cells := 1, slots := 6, locals := 420 }) (pw_ ad av (dC, dI) sz [.ref (a 0), .int p0, .int p1] a k τ ln y g) (va_Qi (fun (r u : Int32) => u = r) (fun (r : Int32) (t : State) => (∃ (u' : Nat → Int), (∀ i, i ∉ ([] : List Nat) → u' i = u i) ∧ pq (dC, dI) a k τ y g u' sz t.heap)) (fr τ sz)) (vx_X (fun (_ : Unit) => True) (fun (E : String) (_ : Unit) (t : State) => E = NSE ∧ pq (dC, dI) a k τ y g u sz t.heap) (fr τ sz)) 1 6 (fr τ sz) := by
  refine vx_ofW (cc := cX11_earns) (maxL := 3) (ret := (some .int)) (by decide) rfl ?_
  intro p e s m args below meth c s₁ B hml hex hv
  obtain ⟨rfl, hsz, hT, hK, hM⟩ := hv
  have hx := B.exec
  have hb := B.bytes
  have hr := B.returns
  have hts := atoms_spec (ws := wm_t_earns) B.pre
  have hown : s.vm.findClass RX11 = some m.cls := findClass_of_methodNamed B.named
  have hlocks := B.notSynchronized
  subst hsz
  generalize hAe : fr τ s.heap.size = A at hM ⊢
  have hA : ∀ q : Nat, s.heap.size ≤ q → A q := fun q h => by rw [← hAe]; exact Or.inr h
  have hF : ∀ q, τ q ≠ 0 → A q := fun q h => by rw [← hAe]; exact Or.inl h
  have hS : va_S A s.heap s.heap [] := va_S.rf
  have hX := hI.1
  have hR := ic_r hI
  have hMo : mono τ τ s.heap.size := mono.rf
  have hKM : kpM τ y g y g := kpM.rf
  have hl := lv_entry ([.ref (a 0), .int p0, .int p1]) (n := 3) (Nat.le_of_ble_eq_true rfl)
  rw [lg_entry_eq]
  generalize (lg_sl ([.ref (a 0), .int p0, .int p1]) ++ List.replicate (3 - (lg_sl ([.ref (a 0), .int p0, .int p1])).length) Slot.unset).toArray = ls at hl ⊢
  have hl : lv_has ls 3 [(0, .ref (a 0)), (1, .int p0), (2, .int p1)] := hl
  refine lv_aload_n hx hb dX11_earns_0 rfl (lv_at hl 0 rfl) ?_
  refine tw_get (D := (dC, dI)) (v := .ref (a 1)) (C := RX11) (T := TX11) (N := 10) hx hb hts (fun _ hh => (List.mem_cons_of_mem _ (List.mem_append_right _ (List.mem_append_left _ hh)))) hown hK hT (fx_0 hX) (by decide) cl_e10 rfl 0 (by decide) (hts (.fieldLink RX11 10 "TypingPool" "book" "LTypingPool$Book;") (List.mem_cons_of_mem _ (List.mem_append_left _ (List.mem_of_getElem? (i := 0) rfl)))) (fun _ h9 => h9) rfl dX11_earns_1 ?_
  refine lv_iload_n hx hb dX11_earns_4 rfl (lv_at hl 1 rfl) ?_
  have hFc := tw_free hF hS hA
  refine va_calli (va_runV (As := [.int p0]) (rest := []) ⟨hx, hb, hml, hown, hts⟩ (c_hasHand l dC dI ad av s.heap.size a k τ ln y g u p0 hI ) (cwV 1 hts (gi_4 (List.mem_cons_of_mem _ (List.mem_append_left _ (List.mem_of_getElem? (i := 1) rfl))) (List.mem_cons_of_mem _ (List.mem_append_left _ (List.mem_of_getElem? (i := 2) rfl))) (List.mem_cons_of_mem _ (List.mem_append_left _ (List.mem_of_getElem? (i := 3) rfl))) (List.mem_cons_of_mem _ (List.mem_append_left _ (List.mem_of_getElem? (i := 4) rfl))) (fun _ hh => (List.mem_cons_of_mem _ (List.mem_append_right _ (List.mem_append_right _ (List.mem_append_left _ hh))))) gd_c_hasHand) rfl rfl rfl (by decide +kernel) ⟨Nat.le_of_ble_eq_true rfl, Nat.le_of_ble_eq_true rfl⟩) ⟨pw_blind, tw_recv hK hT (fx_1 hX) (by decide) cl_e11 rfl, pw_use hT hK hFc hS hM⟩ rfl rfl hl.1 rfl (lv_room (Nat.le_of_ble_eq_true rfl)) dX11_earns_5 ⟨Nat.le_of_ble_eq_true rfl, Nat.le_of_ble_eq_true rfl⟩) hS (fun q _ h => hFc q h) hFc (fun r0 r_1 t H locs ht hvm hw hB hz1 hk1 hS => ?_)
  refine W.widen (k := 0) (n := 0) (Nat.le_of_ble_eq_true rfl) (Nat.le_of_ble_eq_true rfl) ?_
  clear hvm hz1 hk1
  subst hw
  rcases hB with ⟨hre, hf_2, hf_3, hT⟩ | ⟨hre, hf_4, hT⟩
  · refine lq_top (v := 1) hre ?_
    rw [ht] at hT
    refine lv_if_eq (tgt := 21) hx hb dX11_earns_8 (by decide) (fun c_5 => absurd c_5 (by decide)) (fun c_5 => ?_)
    refine lv_iload_n hx hb dX11_earns_11 rfl (lv_at hl 2 rfl) ?_
    refine lv_iconst (v := (-1)) hx hb dX11_earns_12 (by decide) ?_
    refine lv_bipush (v := 9) hx hb dX11_earns_13 (by decide) ?_
    have hFc := tw_free hF hS hA
    have hp_6 : (-1 : Int32).toInt = (-1) := (zk (x := (-1)) (-1) rfl)
    have hp_7 : (9 : Int32).toInt = 9 := (zk (x := 9) 9 rfl)
    refine va_calli (va_runS (As := [.int p1, .int (-1), .int 9]) (rest := []) ⟨hx, hb, hml, hown, hts⟩ (c_within l dC dI ad av H.size a k τ ln y g u p1 (-1 : Int32) (9 : Int32)  ) (va_cwS 3 hts (gi_3 (List.mem_cons_of_mem _ (List.mem_append_left _ (List.mem_of_getElem? (i := 5) rfl))) (List.mem_cons_of_mem _ (List.mem_append_left _ (List.mem_of_getElem? (i := 6) rfl))) (List.mem_cons_of_mem _ (List.mem_append_left _ (List.mem_of_getElem? (i := 7) rfl))) (fun _ hh => (List.mem_cons_of_mem _ (List.mem_append_right _ (List.mem_append_right _ (List.mem_append_right _ (List.mem_append_left _ hh)))))) gd_c_within) rfl rfl rfl (by decide +kernel) ⟨Nat.le_of_ble_eq_true rfl, Nat.le_of_ble_eq_true rfl⟩) ⟨pw_blind, pw_use hT hK hFc hS hM⟩ rfl rfl hl.1 rfl (lv_room (Nat.le_of_ble_eq_true rfl)) dX11_earns_15 ⟨Nat.le_of_ble_eq_true rfl, Nat.le_of_ble_eq_true rfl⟩) hS (fun q _ h => hFc q h) hFc (fun r0 r_8 t H locs ht hvm hw hB hz1 hk1 hS => ?_)
    refine W.widen (k := 0) (n := 0) (Nat.le_of_ble_eq_true rfl) (Nat.le_of_ble_eq_true rfl) ?_
    clear hvm hz1 hk1
    subst hw
    rcases hB with ⟨hre, hf_9, hf_10, hT⟩ | ⟨hre, hf_11, hT⟩
    · refine lq_top (v := 1) hre ?_
      rw [ht] at hT
      try simp only [hp_6, hp_7] at hf_9 hf_10
      clear hp_6 hp_7
      refine lv_if_ne (tgt := 32) hx hb dX11_earns_18 (by decide) (fun c_12 => ?_) (fun c_12 => absurd c_12 (by decide))
      refine lv_aload_n hx hb dX11_earns_32 rfl (lv_at hl 0 rfl) ?_
      refine tw_get (D := (dC, dI)) (v := .ref (a 5)) (C := RX11) (T := TX11) (N := 10) hx hb hts (fun _ hh => (List.mem_cons_of_mem _ (List.mem_append_right _ (List.mem_append_left _ hh)))) hown hK hT (fx_0 hX) (by decide) cl_e10 rfl 4 (by decide) (hts (.fieldLink RX11 40 "TypingPool" "ledger" "LTypingPool$Ledger;") (List.mem_cons_of_mem _ (List.mem_append_left _ (List.mem_of_getElem? (i := 8) rfl)))) (fun _ h9 => h9) rfl dX11_earns_33 ?_
      refine lv_iload_n hx hb dX11_earns_36 rfl (lv_at hl 1 rfl) ?_
      refine lv_iload_n hx hb dX11_earns_37 rfl (lv_at hl 2 rfl) ?_
      have hFc := tw_free hF hS hA
      refine va_calli (va_runV (As := [.int p0, .int p1]) (rest := []) ⟨hx, hb, hml, hown, hts⟩ (c_payOf l dC dI ad av H.size a k τ ln y g u p0 p1 hI ) (cwV 2 hts (gi_4 (List.mem_cons_of_mem _ (List.mem_append_left _ (List.mem_of_getElem? (i := 9) rfl))) (List.mem_cons_of_mem _ (List.mem_append_left _ (List.mem_of_getElem? (i := 10) rfl))) (List.mem_cons_of_mem _ (List.mem_append_left _ (List.mem_of_getElem? (i := 11) rfl))) (List.mem_cons_of_mem _ (List.mem_append_left _ (List.mem_of_getElem? (i := 12) rfl))) (fun _ hh => (List.mem_cons_of_mem _ (List.mem_append_right _ (List.mem_append_right _ (List.mem_append_right _ (List.mem_append_right _ (List.mem_append_left _ hh))))))) gd_c_payOf) rfl rfl rfl (by decide +kernel) ⟨Nat.le_of_ble_eq_true rfl, Nat.le_of_ble_eq_true rfl⟩) ⟨pw_blind, tw_recv hK hT (fx_5 hX) (by decide) cl_e15 rfl, pw_use hT hK hFc hS hM⟩ rfl rfl hl.1 rfl (lv_room (Nat.le_of_ble_eq_true rfl)) dX11_earns_38 ⟨Nat.le_of_ble_eq_true rfl, Nat.le_of_ble_eq_true rfl⟩) hS (fun q _ h => hFc q h) hFc (fun r0 r_13 t H locs ht hvm hw hB hz1 hk1 hS => ?_)
      refine W.widen (k := 0) (n := 0) (Nat.le_of_ble_eq_true rfl) (Nat.le_of_ble_eq_true rfl) ?_
      clear hvm hz1 hk1
      subst hw
      obtain ⟨y_14, hgy_14, hT⟩ := hB
      rw [ht] at hT
      have hKM := hKM.ag hMo hgy_14 (by decide)
      have hI := hI.ag hgy_14 (by decide)
      refine W.widen (k := 1) (n := 6) (Nat.le_of_ble_eq_true rfl) (Nat.le_of_ble_eq_true rfl) ?_
      refine vx_ret ?_
      exact W.iret (v := r_13) hx hb hr (fun t ht hW9 => ⟨⟨r_13, r_13, rfl, rfl, ⟨u, fun _ _ => rfl, ⟨τ, ln, y_14, g, hMo, hKM, hI, tw_at ht hT⟩⟩⟩, hS.F ht⟩) hS.2.2 dX11_earns_41
    · refine lq_top (v := 0) hre ?_
      rw [ht] at hT
      try simp only [hp_6, hp_7] at hf_11
      clear hp_6 hp_7
      refine lv_if_ne (tgt := 32) hx hb dX11_earns_18 (by decide) (fun c_15 => absurd c_15 (by decide)) (fun c_15 => ?_)
      exact ux_throwW hx hb hst hown (hts (.classLink RX11 171 "java/util/NoSuchElementException") (List.mem_cons_of_mem _ (List.mem_append_left _ (List.mem_of_getElem? (i := 13) rfl)))) (hts (.initialized "java/util/NoSuchElementException") (List.mem_cons_of_mem _ (List.mem_append_left _ (List.mem_of_getElem? (i := 14) rfl)))) (hM.2.2.1 17 _ rfl).1 (fun w h => hts w (List.mem_cons_of_mem _ (List.mem_append_right _ (List.mem_append_right _ (List.mem_append_right _ (List.mem_append_right _ (List.mem_append_right _ (List.mem_append_left _ h)))))))) hM.2.2.2.2.2.2.1 hM.2.2.2.2.1 hM.2.2.2.2.2.1 hS (by rw [hml]; exact hl.1) dX11_earns_21 dX11_earns_24 dX11_earns_25 dX11_earns_28 dX11_earns_31 (fun x hx => (hex x hx).elim) (Nat.le_of_ble_eq_true rfl) (Nat.le_of_ble_eq_true rfl) (Nat.le_of_ble_eq_true rfl) (Nat.le_of_ble_eq_true rfl) hlocks (fun t ht hz hk => ⟨(), trivial, ⟨rfl, ⟨τ, ln, y, g, hMo, hKM, hI, hT.kept (fun q h9 _ => hk q h9)⟩⟩, Nat.le_trans hS.1 hz, fun q h1 h2 => (hk q (Nat.lt_of_lt_of_le h1 hS.1)).trans (hS.2.1 q h1 h2)⟩) hS.2.2 (Nat.le_of_ble_eq_true rfl) (Nat.le_of_ble_eq_true rfl)
  · refine lq_top (v := 0) hre ?_
    rw [ht] at hT
    refine lv_if_eq (tgt := 21) hx hb dX11_earns_8 (by decide) (fun c_16 => ?_) (fun c_16 => absurd c_16 (by decide))
    exact ux_throwW hx hb hst hown (hts (.classLink RX11 171 "java/util/NoSuchElementException") (List.mem_cons_of_mem _ (List.mem_append_left _ (List.mem_of_getElem? (i := 13) rfl)))) (hts (.initialized "java/util/NoSuchElementException") (List.mem_cons_of_mem _ (List.mem_append_left _ (List.mem_of_getElem? (i := 14) rfl)))) (hM.2.2.1 17 _ rfl).1 (fun w h => hts w (List.mem_cons_of_mem _ (List.mem_append_right _ (List.mem_append_right _ (List.mem_append_right _ (List.mem_append_right _ (List.mem_append_right _ (List.mem_append_left _ h)))))))) hM.2.2.2.2.2.2.1 hM.2.2.2.2.1 hM.2.2.2.2.2.1 hS (by rw [hml]; exact hl.1) dX11_earns_21 dX11_earns_24 dX11_earns_25 dX11_earns_28 dX11_earns_31 (fun x hx => (hex x hx).elim) (Nat.le_of_ble_eq_true rfl) (Nat.le_of_ble_eq_true rfl) (Nat.le_of_ble_eq_true rfl) (Nat.le_of_ble_eq_true rfl) hlocks (fun t ht hz hk => ⟨(), trivial, ⟨rfl, ⟨τ, ln, y, g, hMo, hKM, hI, hT.kept (fun q h9 _ => hk q h9)⟩⟩, Nat.le_trans hS.1 hz, fun q h1 h2 => (hk q (Nat.lt_of_lt_of_le h1 hS.1)).trans (hS.2.1 q h1 h2)⟩) hS.2.2 (Nat.le_of_ble_eq_true rfl) (Nat.le_of_ble_eq_true rfl)
def wo_t_ill : List Cond := [.fieldLink RX11 10 "TypingPool" "book" "LTypingPool$Book;", .methodLink RX11 95 yX1_hasHand, .instanceMethod yX1_hasHand, .selects RX1 yX1_hasHand yX1_hasHand, .initialized RX1, .methodLink RX11 163 yX11_canGoOn, .instanceMethod yX11_canGoOn, .selects RX11 yX11_canGoOn yX11_canGoOn, .initialized RX11, .fieldLink RX11 32 "TypingPool" "trial" "LTypingPool$Floor;", .fieldLink RX11 28 "TypingPool" "floor" "LTypingPool$Floor;", .methodLink RX11 330 yX3_takeOver, .instanceMethod yX3_takeOver, .selects RX3 yX3_takeOver yX3_takeOver, .initialized RX3, .methodLink RX11 167 yX3_runOn, .instanceMethod yX3_runOn, .selects RX3 yX3_runOn yX3_runOn, .methodLink RX11 242 yX3_lateOnes, .instanceMethod yX3_lateOnes, .selects RX3 yX3_lateOnes yX3_lateOnes, .classLink RX11 171 "java/util/NoSuchElementException", .initialized "java/util/NoSuchElementException"]
def wm_t_ill : List Cond := .code yX11_ill cX11_ill 4 (some .int) :: (wo_t_ill ++ (wsX110 ++ (wm_c_hasHand ++ (wm_c_canGoOn ++ (wm_c_takeOver ++ (wm_c_runOntN ++ (wm_c_lateOnest ++ (ux_at ++ ([] : List Cond)))))))))
theorem gd_t_ill : ∀ w ∈ wm_t_ill, goodWord w = true := gd_c rfl (gd_a (by decide) (gd_a gd_wsX110 (gd_a gd_c_hasHand (gd_a gd_c_canGoOn (gd_a gd_c_takeOver (gd_a gd_c_runOntN (gd_a gd_c_lateOnest (gd_a gd_ux_at gd_nil))))))))
set_option maxRecDepth 20000 in
theorem im_t_ill : ∀ w ∈ wm_t_ill, w ∈ lw_tbl := im_c (in_r [.code yX11_ill cX11_ill 4 (some .int)] [1202] (by decide +kernel)) (in_app (in_r wo_t_ill [559, 629, 630, 631, 71, 747, 749, 7, 70, 562, 561, 1077, 1078, 1079, 83, 751, 752, 753, 891, 892, 893, 1090, 94] (by decide +kernel)) (in_app im_wsX110 (in_app im_c_hasHand (in_app im_c_canGoOn (in_app im_c_takeOver (in_app im_c_runOntN (in_app im_c_lateOnest (in_app im_ux_at im_nil))))))))
set_option maxHeartbeats 4000000 in
set_option maxRecDepth 100000 in
theorem t_ill (l : Launch) (hst : l.stackTraces = false) (dC : Nat → ClassId) (dI : Nat → Nat → Nat) (ad av : Nat → Nat) (sz : Nat) (a : Nat → Nat) (k : Nat → ClassId) (τ ln : Nat → Nat) (y : Nat → Nat → Int32) (g : Nat → Nat → Option Nat) (u : Nat → Int) (p0 : Int32) (p1 : Int32) (hI : IC a u τ ln y g) : vx_Met l yX11_ill wm_t_ill ({ frames := 8, cells := 1, slots := 6, locals := 420 }) (pw_ ad av (dC, dI) sz [.ref (a 0), .int p0, .int p1] a k τ ln y g) (va_Qi (fun (r u : Int32) => u = r) (fun (r : Int32) (t : State) => (∃ (u' : Nat → Int), (∀ i, i ∉ ([] : List Nat) → u' i = u i) ∧ pq (dC, dI) a k τ y g u' sz t.heap)) (fr τ sz)) (vx_X (fun (_ : Unit) => True) (fun (E : String) (_ : Unit) (t : State) => E = NSE ∧ pq (dC, dI) a k τ y g u sz t.heap) (fr τ sz)) 1 6 (fr τ sz) := by
  refine vx_ofW (cc := cX11_ill) (maxL := 4) (ret := (some .int)) (by decide) rfl ?_
  intro p e s m args below meth c s₁ B hml hex hv
  obtain ⟨rfl, hsz, hT, hK, hM⟩ := hv
  have hx := B.exec
  have hb := B.bytes
  have hr := B.returns
  have hts := atoms_spec (ws := wm_t_ill) B.pre
  have hown : s.vm.findClass RX11 = some m.cls := findClass_of_methodNamed B.named
  have hlocks := B.notSynchronized
  subst hsz
  generalize hAe : fr τ s.heap.size = A at hM ⊢
  have hA : ∀ q : Nat, s.heap.size ≤ q → A q := fun q h => by rw [← hAe]; exact Or.inr h
  have hF : ∀ q, τ q ≠ 0 → A q := fun q h => by rw [← hAe]; exact Or.inl h
  have hS : va_S A s.heap s.heap [] := va_S.rf
  have hX := hI.1
  have hR := ic_r hI
  have hMo : mono τ τ s.heap.size := mono.rf
  have hKM : kpM τ y g y g := kpM.rf
  have hl := lv_entry ([.ref (a 0), .int p0, .int p1]) (n := 4) (Nat.le_of_ble_eq_true rfl)
  rw [lg_entry_eq]
  generalize (lg_sl ([.ref (a 0), .int p0, .int p1]) ++ List.replicate (4 - (lg_sl ([.ref (a 0), .int p0, .int p1])).length) Slot.unset).toArray = ls at hl ⊢
  have hl : lv_has ls 4 [(0, .ref (a 0)), (1, .int p0), (2, .int p1)] := hl
  refine lv_aload_n hx hb dX11_ill_0 rfl (lv_at hl 0 rfl) ?_
  refine tw_get (D := (dC, dI)) (v := .ref (a 1)) (C := RX11) (T := TX11) (N := 10) hx hb hts (fun _ hh => (List.mem_cons_of_mem _ (List.mem_append_right _ (List.mem_append_left _ hh)))) hown hK hT (fx_0 hX) (by decide) cl_e10 rfl 0 (by decide) (hts (.fieldLink RX11 10 "TypingPool" "book" "LTypingPool$Book;") (List.mem_cons_of_mem _ (List.mem_append_left _ (List.mem_of_getElem? (i := 0) rfl)))) (fun _ h9 => h9) rfl dX11_ill_1 ?_
  refine lv_iload_n hx hb dX11_ill_4 rfl (lv_at hl 1 rfl) ?_
  have hFc := tw_free hF hS hA
  refine va_calli (va_runV (As := [.int p0]) (rest := []) ⟨hx, hb, hml, hown, hts⟩ (c_hasHand l dC dI ad av s.heap.size a k τ ln y g u p0 hI ) (cwV 1 hts (gi_4 (List.mem_cons_of_mem _ (List.mem_append_left _ (List.mem_of_getElem? (i := 1) rfl))) (List.mem_cons_of_mem _ (List.mem_append_left _ (List.mem_of_getElem? (i := 2) rfl))) (List.mem_cons_of_mem _ (List.mem_append_left _ (List.mem_of_getElem? (i := 3) rfl))) (List.mem_cons_of_mem _ (List.mem_append_left _ (List.mem_of_getElem? (i := 4) rfl))) (fun _ hh => (List.mem_cons_of_mem _ (List.mem_append_right _ (List.mem_append_right _ (List.mem_append_left _ hh))))) gd_c_hasHand) rfl rfl rfl (by decide +kernel) ⟨Nat.le_of_ble_eq_true rfl, Nat.le_of_ble_eq_true rfl⟩) ⟨pw_blind, tw_recv hK hT (fx_1 hX) (by decide) cl_e11 rfl, pw_use hT hK hFc hS hM⟩ rfl rfl hl.1 rfl (lv_room (Nat.le_of_ble_eq_true rfl)) dX11_ill_5 ⟨Nat.le_of_ble_eq_true rfl, Nat.le_of_ble_eq_true rfl⟩) hS (fun q _ h => hFc q h) hFc (fun r0 r_1 t H locs ht hvm hw hB hz1 hk1 hS => ?_)
  refine W.widen (k := 0) (n := 0) (Nat.le_of_ble_eq_true rfl) (Nat.le_of_ble_eq_true rfl) ?_
  clear hvm hz1 hk1
  subst hw
  rcases hB with ⟨hre, hf_2, hf_3, hT⟩ | ⟨hre, hf_4, hT⟩
  · refine lq_top (v := 1) hre ?_
    rw [ht] at hT
    refine lv_if_eq (tgt := 20) hx hb dX11_ill_8 (by decide) (fun c_5 => absurd c_5 (by decide)) (fun c_5 => ?_)
    refine lv_aload_n hx hb dX11_ill_11 rfl (lv_at hl 0 rfl) ?_
    refine lv_iload_n hx hb dX11_ill_12 rfl (lv_at hl 2 rfl) ?_
    refine lv_iconst (v := 1) hx hb dX11_ill_13 (by decide) ?_
    have hFc := tw_free hF hS hA
    have hp_6 : (1 : Int32).toInt = 1 := (zk (x := 1) 1 rfl)
    refine va_calli (va_runV (As := [.int p1, .int 1]) (rest := []) ⟨hx, hb, hml, hown, hts⟩ (c_canGoOn l dC dI ad av H.size a k τ ln y g u p1 (1 : Int32) hI ) (cwV 2 hts (gi_4 (List.mem_cons_of_mem _ (List.mem_append_left _ (List.mem_of_getElem? (i := 5) rfl))) (List.mem_cons_of_mem _ (List.mem_append_left _ (List.mem_of_getElem? (i := 6) rfl))) (List.mem_cons_of_mem _ (List.mem_append_left _ (List.mem_of_getElem? (i := 7) rfl))) (List.mem_cons_of_mem _ (List.mem_append_left _ (List.mem_of_getElem? (i := 8) rfl))) (fun _ hh => (List.mem_cons_of_mem _ (List.mem_append_right _ (List.mem_append_right _ (List.mem_append_right _ (List.mem_append_left _ hh)))))) gd_c_canGoOn) rfl rfl rfl (by decide +kernel) ⟨Nat.le_of_ble_eq_true rfl, Nat.le_of_ble_eq_true rfl⟩) ⟨pw_blind, tw_recv hK hT (fx_0 hX) (by decide) cl_e10 rfl, pw_use hT hK hFc hS hM⟩ rfl rfl hl.1 rfl (lv_room (Nat.le_of_ble_eq_true rfl)) dX11_ill_14 ⟨Nat.le_of_ble_eq_true rfl, Nat.le_of_ble_eq_true rfl⟩) hS (fun q _ h => hFc q h) hFc (fun r0 r_7 t H locs ht hvm hw hB hz1 hk1 hS => ?_)
    refine W.widen (k := 0) (n := 0) (Nat.le_of_ble_eq_true rfl) (Nat.le_of_ble_eq_true rfl) ?_
    clear hvm hz1 hk1
    subst hw
    rcases hB with ⟨hre, hf_8, hf_9, hT⟩ | ⟨hre, hT⟩
    · refine lq_top (v := 1) hre ?_
      rw [ht] at hT
      try simp only [hp_6] at hf_8 hf_9
      clear hp_6
      refine lv_if_ne (tgt := 31) hx hb dX11_ill_17 (by decide) (fun c_10 => ?_) (fun c_10 => absurd c_10 (by decide))
      refine lv_aload_n hx hb dX11_ill_31 rfl (lv_at hl 0 rfl) ?_
      refine tw_get (D := (dC, dI)) (v := .ref (a 4)) (C := RX11) (T := TX11) (N := 10) hx hb hts (fun _ hh => (List.mem_cons_of_mem _ (List.mem_append_right _ (List.mem_append_left _ hh)))) hown hK hT (fx_0 hX) (by decide) cl_e10 rfl 3 (by decide) (hts (.fieldLink RX11 32 "TypingPool" "trial" "LTypingPool$Floor;") (List.mem_cons_of_mem _ (List.mem_append_left _ (List.mem_of_getElem? (i := 9) rfl)))) (fun _ h9 => h9) rfl dX11_ill_32 ?_
      refine lv_aload_n hx hb dX11_ill_35 rfl (lv_at hl 0 rfl) ?_
      refine tw_get (D := (dC, dI)) (v := .ref (a 3)) (C := RX11) (T := TX11) (N := 10) hx hb hts (fun _ hh => (List.mem_cons_of_mem _ (List.mem_append_right _ (List.mem_append_left _ hh)))) hown hK hT (fx_0 hX) (by decide) cl_e10 rfl 2 (by decide) (hts (.fieldLink RX11 28 "TypingPool" "floor" "LTypingPool$Floor;") (List.mem_cons_of_mem _ (List.mem_append_left _ (List.mem_of_getElem? (i := 10) rfl)))) (fun _ h9 => h9) rfl dX11_ill_36 ?_
      have hFc := tw_free hF hS hA
      refine va_callv (va_runV (As := [.ref (a 3)]) (rest := []) ⟨hx, hb, hml, hown, hts⟩ (c_takeOver l dC dI ad av H.size a k τ ln y g u  hI ) (cwV 1 hts (gi_4 (List.mem_cons_of_mem _ (List.mem_append_left _ (List.mem_of_getElem? (i := 11) rfl))) (List.mem_cons_of_mem _ (List.mem_append_left _ (List.mem_of_getElem? (i := 12) rfl))) (List.mem_cons_of_mem _ (List.mem_append_left _ (List.mem_of_getElem? (i := 13) rfl))) (List.mem_cons_of_mem _ (List.mem_append_left _ (List.mem_of_getElem? (i := 14) rfl))) (fun _ hh => (List.mem_cons_of_mem _ (List.mem_append_right _ (List.mem_append_right _ (List.mem_append_right _ (List.mem_append_right _ (List.mem_append_left _ hh))))))) gd_c_takeOver) rfl rfl rfl (by decide +kernel) ⟨Nat.le_of_ble_eq_true rfl, Nat.le_of_ble_eq_true rfl⟩) ⟨pw_blind, tw_recv hK hT (fx_4 hX) (by decide) cl_e14 rfl, pw_use hT hK hFc hS hM⟩ rfl rfl hl.1 rfl (lv_room (Nat.le_of_ble_eq_true rfl)) dX11_ill_39 ⟨Nat.le_of_ble_eq_true rfl, Nat.le_of_ble_eq_true rfl⟩) hS (fun q _ h => hFc q h) hFc (fun u0 t H locs ht hvm hw hB hz1 hk1 hS => ?_)
      refine W.widen (k := 0) (n := 0) (Nat.le_of_ble_eq_true rfl) (Nat.le_of_ble_eq_true rfl) ?_
      clear hvm hz1 hk1
      obtain ⟨y_12, hgy_12, hT⟩ := hB
      rw [ht] at hT
      have hKM := hKM.ag hMo hgy_12 (by decide)
      have hI := hI.ag hgy_12 (by decide)
      refine lv_aload_n hx hb dX11_ill_42 rfl (lv_at hl 0 rfl) ?_
      refine tw_get (D := (dC, dI)) (v := .ref (a 4)) (C := RX11) (T := TX11) (N := 10) hx hb hts (fun _ hh => (List.mem_cons_of_mem _ (List.mem_append_right _ (List.mem_append_left _ hh)))) hown hK hT (fx_0 hX) (by decide) cl_e10 rfl 3 (by decide) (hts (.fieldLink RX11 32 "TypingPool" "trial" "LTypingPool$Floor;") (List.mem_cons_of_mem _ (List.mem_append_left _ (List.mem_of_getElem? (i := 9) rfl)))) (fun _ h9 => h9) rfl dX11_ill_43 ?_
      refine lv_iload_n hx hb dX11_ill_46 rfl (lv_at hl 2 rfl) ?_
      refine lv_null hx hb dX11_ill_47 ?_
      refine lv_iconst (v := (-1)) hx hb dX11_ill_48 (by decide) ?_
      have hFc := tw_free hF hS hA
      have hp_13 : (-1 : Int32).toInt = (-1) := (zk (x := (-1)) (-1) rfl)
      refine va_callv (va_runV (As := [.int p1, .null, .int (-1)]) (rest := []) ⟨hx, hb, hml, hown, hts⟩ (c_runOntN l dC dI ad av H.size a k τ ln y_12 g u p1 (-1 : Int32) hI (by omega)) (cwV 3 hts (gi_4 (List.mem_cons_of_mem _ (List.mem_append_left _ (List.mem_of_getElem? (i := 15) rfl))) (List.mem_cons_of_mem _ (List.mem_append_left _ (List.mem_of_getElem? (i := 16) rfl))) (List.mem_cons_of_mem _ (List.mem_append_left _ (List.mem_of_getElem? (i := 17) rfl))) (List.mem_cons_of_mem _ (List.mem_append_left _ (List.mem_of_getElem? (i := 14) rfl))) (fun _ hh => (List.mem_cons_of_mem _ (List.mem_append_right _ (List.mem_append_right _ (List.mem_append_right _ (List.mem_append_right _ (List.mem_append_right _ (List.mem_append_left _ hh)))))))) gd_c_runOntN) rfl rfl rfl (by decide +kernel) ⟨Nat.le_of_ble_eq_true rfl, Nat.le_of_ble_eq_true rfl⟩) ⟨pw_blind, tw_recv hK hT (fx_4 hX) (by decide) cl_e14 rfl, pw_use hT hK hFc hS hM⟩ rfl rfl hl.1 rfl (lv_room (Nat.le_of_ble_eq_true rfl)) dX11_ill_49 ⟨Nat.le_of_ble_eq_true rfl, Nat.le_of_ble_eq_true rfl⟩) hS (fun q _ h => hFc q h) hFc (fun u0 t H locs ht hvm hw hB hz1 hk1 hS => ?_)
      refine W.widen (k := 0) (n := 0) (Nat.le_of_ble_eq_true rfl) (Nat.le_of_ble_eq_true rfl) ?_
      clear hvm hz1 hk1
      obtain ⟨y_15, hgy_15, hT⟩ := hB
      rw [ht] at hT
      have hKM := hKM.ag hMo hgy_15 (by decide)
      have hI := hI.ag hgy_15 (by decide)
      clear hp_13
      refine lv_aload_n hx hb dX11_ill_52 rfl (lv_at hl 0 rfl) ?_
      refine tw_get (D := (dC, dI)) (v := .ref (a 4)) (C := RX11) (T := TX11) (N := 10) hx hb hts (fun _ hh => (List.mem_cons_of_mem _ (List.mem_append_right _ (List.mem_append_left _ hh)))) hown hK hT (fx_0 hX) (by decide) cl_e10 rfl 3 (by decide) (hts (.fieldLink RX11 32 "TypingPool" "trial" "LTypingPool$Floor;") (List.mem_cons_of_mem _ (List.mem_append_left _ (List.mem_of_getElem? (i := 9) rfl)))) (fun _ h9 => h9) rfl dX11_ill_53 ?_
      have hFc := tw_free hF hS hA
      refine va_calli (va_runV (As := []) (rest := []) ⟨hx, hb, hml, hown, hts⟩ (c_lateOnest l dC dI ad av H.size a k τ ln y_15 g u  hI ) (cwV 0 hts (gi_4 (List.mem_cons_of_mem _ (List.mem_append_left _ (List.mem_of_getElem? (i := 18) rfl))) (List.mem_cons_of_mem _ (List.mem_append_left _ (List.mem_of_getElem? (i := 19) rfl))) (List.mem_cons_of_mem _ (List.mem_append_left _ (List.mem_of_getElem? (i := 20) rfl))) (List.mem_cons_of_mem _ (List.mem_append_left _ (List.mem_of_getElem? (i := 14) rfl))) (fun _ hh => (List.mem_cons_of_mem _ (List.mem_append_right _ (List.mem_append_right _ (List.mem_append_right _ (List.mem_append_right _ (List.mem_append_right _ (List.mem_append_right _ (List.mem_append_left _ hh))))))))) gd_c_lateOnest) rfl rfl rfl (by decide +kernel) ⟨Nat.le_of_ble_eq_true rfl, Nat.le_of_ble_eq_true rfl⟩) ⟨pw_blind, tw_recv hK hT (fx_4 hX) (by decide) cl_e14 rfl, pw_use hT hK hFc hS hM⟩ rfl rfl hl.1 rfl (lv_room (Nat.le_of_ble_eq_true rfl)) dX11_ill_56 ⟨Nat.le_of_ble_eq_true rfl, Nat.le_of_ble_eq_true rfl⟩) hS (fun q _ h => hFc q h) hFc (fun r0 r_16 t H locs ht hvm hw hB hz1 hk1 hS => ?_)
      refine W.widen (k := 0) (n := 0) (Nat.le_of_ble_eq_true rfl) (Nat.le_of_ble_eq_true rfl) ?_
      clear hvm hz1 hk1
      subst hw
      have hT := hB
      rw [ht] at hT
      refine lv_istore_n (lv' := [(3, .int r_16), (0, .ref (a 0)), (1, .int p0), (2, .int p1)]) hx hb dX11_ill_59 rfl hl (by decide) rfl (fun ls hl => ?_)
      refine lv_aload_n hx hb dX11_ill_60 rfl (lv_at hl 1 rfl) ?_
      refine tw_get (D := (dC, dI)) (v := .ref (a 4)) (C := RX11) (T := TX11) (N := 10) hx hb hts (fun _ hh => (List.mem_cons_of_mem _ (List.mem_append_right _ (List.mem_append_left _ hh)))) hown hK hT (fx_0 hX) (by decide) cl_e10 rfl 3 (by decide) (hts (.fieldLink RX11 32 "TypingPool" "trial" "LTypingPool$Floor;") (List.mem_cons_of_mem _ (List.mem_append_left _ (List.mem_of_getElem? (i := 9) rfl)))) (fun _ h9 => h9) rfl dX11_ill_61 ?_
      refine lv_aload_n hx hb dX11_ill_64 rfl (lv_at hl 1 rfl) ?_
      refine tw_get (D := (dC, dI)) (v := .ref (a 3)) (C := RX11) (T := TX11) (N := 10) hx hb hts (fun _ hh => (List.mem_cons_of_mem _ (List.mem_append_right _ (List.mem_append_left _ hh)))) hown hK hT (fx_0 hX) (by decide) cl_e10 rfl 2 (by decide) (hts (.fieldLink RX11 28 "TypingPool" "floor" "LTypingPool$Floor;") (List.mem_cons_of_mem _ (List.mem_append_left _ (List.mem_of_getElem? (i := 10) rfl)))) (fun _ h9 => h9) rfl dX11_ill_65 ?_
      have hFc := tw_free hF hS hA
      refine va_callv (va_runV (As := [.ref (a 3)]) (rest := []) ⟨hx, hb, hml, hown, hts⟩ (c_takeOver l dC dI ad av H.size a k τ ln y_15 g u  hI ) (cwV 1 hts (gi_4 (List.mem_cons_of_mem _ (List.mem_append_left _ (List.mem_of_getElem? (i := 11) rfl))) (List.mem_cons_of_mem _ (List.mem_append_left _ (List.mem_of_getElem? (i := 12) rfl))) (List.mem_cons_of_mem _ (List.mem_append_left _ (List.mem_of_getElem? (i := 13) rfl))) (List.mem_cons_of_mem _ (List.mem_append_left _ (List.mem_of_getElem? (i := 14) rfl))) (fun _ hh => (List.mem_cons_of_mem _ (List.mem_append_right _ (List.mem_append_right _ (List.mem_append_right _ (List.mem_append_right _ (List.mem_append_left _ hh))))))) gd_c_takeOver) rfl rfl rfl (by decide +kernel) ⟨Nat.le_of_ble_eq_true rfl, Nat.le_of_ble_eq_true rfl⟩) ⟨pw_blind, tw_recv hK hT (fx_4 hX) (by decide) cl_e14 rfl, pw_use hT hK hFc hS hM⟩ rfl rfl hl.1 rfl (lv_room (Nat.le_of_ble_eq_true rfl)) dX11_ill_68 ⟨Nat.le_of_ble_eq_true rfl, Nat.le_of_ble_eq_true rfl⟩) hS (fun q _ h => hFc q h) hFc (fun u0 t H locs ht hvm hw hB hz1 hk1 hS => ?_)
      refine W.widen (k := 0) (n := 0) (Nat.le_of_ble_eq_true rfl) (Nat.le_of_ble_eq_true rfl) ?_
      clear hvm hz1 hk1
      obtain ⟨y_18, hgy_18, hT⟩ := hB
      rw [ht] at hT
      have hKM := hKM.ag hMo hgy_18 (by decide)
      have hI := hI.ag hgy_18 (by decide)
      refine lv_aload_n hx hb dX11_ill_71 rfl (lv_at hl 1 rfl) ?_
      refine tw_get (D := (dC, dI)) (v := .ref (a 4)) (C := RX11) (T := TX11) (N := 10) hx hb hts (fun _ hh => (List.mem_cons_of_mem _ (List.mem_append_right _ (List.mem_append_left _ hh)))) hown hK hT (fx_0 hX) (by decide) cl_e10 rfl 3 (by decide) (hts (.fieldLink RX11 32 "TypingPool" "trial" "LTypingPool$Floor;") (List.mem_cons_of_mem _ (List.mem_append_left _ (List.mem_of_getElem? (i := 9) rfl)))) (fun _ h9 => h9) rfl dX11_ill_72 ?_
      refine lv_iload_n hx hb dX11_ill_75 rfl (lv_at hl 3 rfl) ?_
      refine lv_null hx hb dX11_ill_76 ?_
      refine lv_iload_n hx hb dX11_ill_77 rfl (lv_at hl 2 rfl) ?_
      have hFc := tw_free hF hS hA
      refine va_callv (va_runV (As := [.int p1, .null, .int p0]) (rest := []) ⟨hx, hb, hml, hown, hts⟩ (c_runOntN l dC dI ad av H.size a k τ ln y_18 g u p1 p0 hI (by omega)) (cwV 3 hts (gi_4 (List.mem_cons_of_mem _ (List.mem_append_left _ (List.mem_of_getElem? (i := 15) rfl))) (List.mem_cons_of_mem _ (List.mem_append_left _ (List.mem_of_getElem? (i := 16) rfl))) (List.mem_cons_of_mem _ (List.mem_append_left _ (List.mem_of_getElem? (i := 17) rfl))) (List.mem_cons_of_mem _ (List.mem_append_left _ (List.mem_of_getElem? (i := 14) rfl))) (fun _ hh => (List.mem_cons_of_mem _ (List.mem_append_right _ (List.mem_append_right _ (List.mem_append_right _ (List.mem_append_right _ (List.mem_append_right _ (List.mem_append_left _ hh)))))))) gd_c_runOntN) rfl rfl rfl (by decide +kernel) ⟨Nat.le_of_ble_eq_true rfl, Nat.le_of_ble_eq_true rfl⟩) ⟨pw_blind, tw_recv hK hT (fx_4 hX) (by decide) cl_e14 rfl, pw_use hT hK hFc hS hM⟩ rfl rfl hl.1 rfl (lv_room (Nat.le_of_ble_eq_true rfl)) dX11_ill_78 ⟨Nat.le_of_ble_eq_true rfl, Nat.le_of_ble_eq_true rfl⟩) hS (fun q _ h => hFc q h) hFc (fun u0 t H locs ht hvm hw hB hz1 hk1 hS => ?_)
      refine W.widen (k := 0) (n := 0) (Nat.le_of_ble_eq_true rfl) (Nat.le_of_ble_eq_true rfl) ?_
      clear hvm hz1 hk1
      obtain ⟨y_20, hgy_20, hT⟩ := hB
      rw [ht] at hT
      have hKM := hKM.ag hMo hgy_20 (by decide)
      have hI := hI.ag hgy_20 (by decide)
      refine lv_aload_n hx hb dX11_ill_81 rfl (lv_at hl 1 rfl) ?_
      refine tw_get (D := (dC, dI)) (v := .ref (a 4)) (C := RX11) (T := TX11) (N := 10) hx hb hts (fun _ hh => (List.mem_cons_of_mem _ (List.mem_append_right _ (List.mem_append_left _ hh)))) hown hK hT (fx_0 hX) (by decide) cl_e10 rfl 3 (by decide) (hts (.fieldLink RX11 32 "TypingPool" "trial" "LTypingPool$Floor;") (List.mem_cons_of_mem _ (List.mem_append_left _ (List.mem_of_getElem? (i := 9) rfl)))) (fun _ h9 => h9) rfl dX11_ill_82 ?_
      have hFc := tw_free hF hS hA
      refine va_calli (va_runV (As := []) (rest := []) ⟨hx, hb, hml, hown, hts⟩ (c_lateOnest l dC dI ad av H.size a k τ ln y_20 g u  hI ) (cwV 0 hts (gi_4 (List.mem_cons_of_mem _ (List.mem_append_left _ (List.mem_of_getElem? (i := 18) rfl))) (List.mem_cons_of_mem _ (List.mem_append_left _ (List.mem_of_getElem? (i := 19) rfl))) (List.mem_cons_of_mem _ (List.mem_append_left _ (List.mem_of_getElem? (i := 20) rfl))) (List.mem_cons_of_mem _ (List.mem_append_left _ (List.mem_of_getElem? (i := 14) rfl))) (fun _ hh => (List.mem_cons_of_mem _ (List.mem_append_right _ (List.mem_append_right _ (List.mem_append_right _ (List.mem_append_right _ (List.mem_append_right _ (List.mem_append_right _ (List.mem_append_left _ hh))))))))) gd_c_lateOnest) rfl rfl rfl (by decide +kernel) ⟨Nat.le_of_ble_eq_true rfl, Nat.le_of_ble_eq_true rfl⟩) ⟨pw_blind, tw_recv hK hT (fx_4 hX) (by decide) cl_e14 rfl, pw_use hT hK hFc hS hM⟩ rfl rfl hl.1 rfl (lv_room (Nat.le_of_ble_eq_true rfl)) dX11_ill_85 ⟨Nat.le_of_ble_eq_true rfl, Nat.le_of_ble_eq_true rfl⟩) hS (fun q _ h => hFc q h) hFc (fun r0 r_21 t H locs ht hvm hw hB hz1 hk1 hS => ?_)
      refine W.widen (k := 0) (n := 0) (Nat.le_of_ble_eq_true rfl) (Nat.le_of_ble_eq_true rfl) ?_
      clear hvm hz1 hk1
      subst hw
      have hT := hB
      rw [ht] at hT
      refine lv_iload_n hx hb dX11_ill_88 rfl (lv_at hl 0 rfl) ?_
      refine lv_isub hx hb dX11_ill_89 ?_
      refine lv_topi (fun x_22 ex_22 => ?_)
      refine W.widen (k := 1) (n := 6) (Nat.le_of_ble_eq_true rfl) (Nat.le_of_ble_eq_true rfl) ?_
      refine vx_ret ?_
      exact W.iret (v := x_22) hx hb hr (fun t ht hW9 => ⟨⟨x_22, x_22, rfl, rfl, ⟨u, fun _ _ => rfl, ⟨τ, ln, y_20, g, hMo, hKM, hI, tw_at ht hT⟩⟩⟩, hS.F ht⟩) hS.2.2 dX11_ill_90
    · refine lq_top (v := 0) hre ?_
      rw [ht] at hT
      clear hp_6
      refine lv_if_ne (tgt := 31) hx hb dX11_ill_17 (by decide) (fun c_23 => absurd c_23 (by decide)) (fun c_23 => ?_)
      exact ux_throwW hx hb hst hown (hts (.classLink RX11 171 "java/util/NoSuchElementException") (List.mem_cons_of_mem _ (List.mem_append_left _ (List.mem_of_getElem? (i := 21) rfl)))) (hts (.initialized "java/util/NoSuchElementException") (List.mem_cons_of_mem _ (List.mem_append_left _ (List.mem_of_getElem? (i := 22) rfl)))) (hM.2.2.1 18 _ rfl).1 (fun w h => hts w (List.mem_cons_of_mem _ (List.mem_append_right _ (List.mem_append_right _ (List.mem_append_right _ (List.mem_append_right _ (List.mem_append_right _ (List.mem_append_right _ (List.mem_append_right _ (List.mem_append_left _ h)))))))))) hM.2.2.2.2.2.2.1 hM.2.2.2.2.1 hM.2.2.2.2.2.1 hS (by rw [hml]; exact hl.1) dX11_ill_20 dX11_ill_23 dX11_ill_24 dX11_ill_27 dX11_ill_30 (fun x hx => (hex x hx).elim) (Nat.le_of_ble_eq_true rfl) (Nat.le_of_ble_eq_true rfl) (Nat.le_of_ble_eq_true rfl) (Nat.le_of_ble_eq_true rfl) hlocks (fun t ht hz hk => ⟨(), trivial, ⟨rfl, ⟨τ, ln, y, g, hMo, hKM, hI, hT.kept (fun q h9 _ => hk q h9)⟩⟩, Nat.le_trans hS.1 hz, fun q h1 h2 => (hk q (Nat.lt_of_lt_of_le h1 hS.1)).trans (hS.2.1 q h1 h2)⟩) hS.2.2 (Nat.le_of_ble_eq_true rfl) (Nat.le_of_ble_eq_true rfl)
  · refine lq_top (v := 0) hre ?_
    rw [ht] at hT
    refine lv_if_eq (tgt := 20) hx hb dX11_ill_8 (by decide) (fun c_24 => ?_) (fun c_24 => absurd c_24 (by decide))
    exact ux_throwW hx hb hst hown (hts (.classLink RX11 171 "java/util/NoSuchElementException") (List.mem_cons_of_mem _ (List.mem_append_left _ (List.mem_of_getElem? (i := 21) rfl)))) (hts (.initialized "java/util/NoSuchElementException") (List.mem_cons_of_mem _ (List.mem_append_left _ (List.mem_of_getElem? (i := 22) rfl)))) (hM.2.2.1 18 _ rfl).1 (fun w h => hts w (List.mem_cons_of_mem _ (List.mem_append_right _ (List.mem_append_right _ (List.mem_append_right _ (List.mem_append_right _ (List.mem_append_right _ (List.mem_append_right _ (List.mem_append_right _ (List.mem_append_left _ h)))))))))) hM.2.2.2.2.2.2.1 hM.2.2.2.2.1 hM.2.2.2.2.2.1 hS (by rw [hml]; exact hl.1) dX11_ill_20 dX11_ill_23 dX11_ill_24 dX11_ill_27 dX11_ill_30 (fun x hx => (hex x hx).elim) (Nat.le_of_ble_eq_true rfl) (Nat.le_of_ble_eq_true rfl) (Nat.le_of_ble_eq_true rfl) (Nat.le_of_ble_eq_true rfl) hlocks (fun t ht hz hk => ⟨(), trivial, ⟨rfl, ⟨τ, ln, y, g, hMo, hKM, hI, hT.kept (fun q h9 _ => hk q h9)⟩⟩, Nat.le_trans hS.1 hz, fun q h1 h2 => (hk q (Nat.lt_of_lt_of_le h1 hS.1)).trans (hS.2.1 q h1 h2)⟩) hS.2.2 (Nat.le_of_ble_eq_true rfl) (Nat.le_of_ble_eq_true rfl)
def wo_t_row : List Cond := [.classLink RX11 171 "java/util/NoSuchElementException", .initialized "java/util/NoSuchElementException", .fieldLink RX11 65 "TypingPool" "rowLength" "I", .fieldLink RX11 61 "TypingPool" "row" "[I"]
def wm_t_row : List Cond := .code yX11_row cX11_row 2 (some .int) :: (wo_t_row ++ (ux_at ++ (wsX110 ++ ([] : List Cond))))
theorem gd_t_row : ∀ w ∈ wm_t_row, goodWord w = true := gd_c rfl (gd_a (by decide) (gd_a gd_ux_at (gd_a gd_wsX110 gd_nil)))
set_option maxRecDepth 20000 in
theorem im_t_row : ∀ w ∈ wm_t_row, w ∈ lw_tbl := im_c (in_r [.code yX11_row cX11_row 2 (some .int)] [1210] (by decide +kernel)) (in_app (in_r wo_t_row [1090, 94, 568, 567] (by decide +kernel)) (in_app im_ux_at (in_app im_wsX110 im_nil)))
set_option maxHeartbeats 4000000 in
set_option maxRecDepth 100000 in
theorem t_row (l : Launch) (hst : l.stackTraces = false) (dC : Nat → ClassId) (dI : Nat → Nat → Nat) (ad av : Nat → Nat) (sz : Nat) (a : Nat → Nat) (k : Nat → ClassId) (τ ln : Nat → Nat) (y : Nat → Nat → Int32) (g : Nat → Nat → Option Nat) (u : Nat → Int) (p0 : Int32) (hI : IC a u τ ln y g) : vx_Met l yX11_row wm_t_row ({ frames := 8, cells := 1, slots := 6, locals := 200 }) (pw_ ad av (dC, dI) sz [.ref (a 0), .int p0] a k τ ln y g) (va_Qi (fun (r u : Int32) => u = r) (fun (r : Int32) (t : State) => (∃ (u' : Nat → Int), (∀ i, i ∉ ([] : List Nat) → u' i = u i) ∧ pq (dC, dI) a k τ y g u' sz t.heap)) (fr τ sz)) (vx_X (fun (_ : Unit) => True) (fun (E : String) (_ : Unit) (t : State) => E = NSE ∧ pq (dC, dI) a k τ y g u sz t.heap) (fr τ sz)) 1 6 (fr τ sz) := by
  refine vx_ofW (cc := cX11_row) (maxL := 2) (ret := (some .int)) (by decide) rfl ?_
  intro p e s m args below meth c s₁ B hml hex hv
  obtain ⟨rfl, hsz, hT, hK, hM⟩ := hv
  have hx := B.exec
  have hb := B.bytes
  have hr := B.returns
  have hts := atoms_spec (ws := wm_t_row) B.pre
  have hown : s.vm.findClass RX11 = some m.cls := findClass_of_methodNamed B.named
  have hlocks := B.notSynchronized
  subst hsz
  generalize hAe : fr τ s.heap.size = A at hM ⊢
  have hA : ∀ q : Nat, s.heap.size ≤ q → A q := fun q h => by rw [← hAe]; exact Or.inr h
  have hF : ∀ q, τ q ≠ 0 → A q := fun q h => by rw [← hAe]; exact Or.inl h
  have hS : va_S A s.heap s.heap [] := va_S.rf
  have hX := hI.1
  have hR := ic_r hI
  have hMo : mono τ τ s.heap.size := mono.rf
  have hKM : kpM τ y g y g := kpM.rf
  have hl := lv_entry ([.ref (a 0), .int p0]) (n := 2) (Nat.le_of_ble_eq_true rfl)
  rw [lg_entry_eq]
  generalize (lg_sl ([.ref (a 0), .int p0]) ++ List.replicate (2 - (lg_sl ([.ref (a 0), .int p0])).length) Slot.unset).toArray = ls at hl ⊢
  have hl : lv_has ls 2 [(0, .ref (a 0)), (1, .int p0)] := hl
  refine lv_iload_n hx hb dX11_row_0 rfl (lv_at hl 1 rfl) ?_
  refine lv_if_lt (tgt := 12) hx hb dX11_row_1 (by decide) (fun c_1 => ?_) (fun c_1 => ?_)
  · have nc_1 := z_lt rfl (zk (x := 0) 0 rfl) c_1
    exact ux_throwW hx hb hst hown (hts (.classLink RX11 171 "java/util/NoSuchElementException") (List.mem_cons_of_mem _ (List.mem_append_left _ (List.mem_of_getElem? (i := 0) rfl)))) (hts (.initialized "java/util/NoSuchElementException") (List.mem_cons_of_mem _ (List.mem_append_left _ (List.mem_of_getElem? (i := 1) rfl)))) (hM.2.2.1 19 _ rfl).1 (fun w h => hts w (List.mem_cons_of_mem _ (List.mem_append_right _ (List.mem_append_left _ h)))) hM.2.2.2.2.2.2.1 hM.2.2.2.2.1 hM.2.2.2.2.2.1 hS (by rw [hml]; exact hl.1) dX11_row_12 dX11_row_15 dX11_row_16 dX11_row_19 dX11_row_22 (fun x hx => (hex x hx).elim) (Nat.le_of_ble_eq_true rfl) (Nat.le_of_ble_eq_true rfl) (Nat.le_of_ble_eq_true rfl) (Nat.le_of_ble_eq_true rfl) hlocks (fun t ht hz hk => ⟨(), trivial, ⟨rfl, ⟨τ, ln, y, g, hMo, hKM, hI, hT.kept (fun q h9 _ => hk q h9)⟩⟩, Nat.le_trans hS.1 hz, fun q h1 h2 => (hk q (Nat.lt_of_lt_of_le h1 hS.1)).trans (hS.2.1 q h1 h2)⟩) hS.2.2 (Nat.le_of_ble_eq_true rfl) (Nat.le_of_ble_eq_true rfl)
  · have nc_1 := z_nlt rfl (zk (x := 0) 0 rfl) c_1
    refine lv_iload_n hx hb dX11_row_4 rfl (lv_at hl 1 rfl) ?_
    refine lv_aload_n hx hb dX11_row_5 rfl (lv_at hl 0 rfl) ?_
    refine tw_get (D := (dC, dI)) (v := .int (y (a 0) 9)) (C := RX11) (T := TX11) (N := 10) hx hb hts (fun _ hh => (List.mem_cons_of_mem _ (List.mem_append_right _ (List.mem_append_right _ (List.mem_append_left _ hh))))) hown hK hT (fx_0 hX) (by decide) cl_e10 rfl 9 (by decide) (hts (.fieldLink RX11 65 "TypingPool" "rowLength" "I") (List.mem_cons_of_mem _ (List.mem_append_left _ (List.mem_of_getElem? (i := 2) rfl)))) (fun _ h9 => h9) rfl dX11_row_6 ?_
    have hc_2 := ic_7 hI
    refine lv_icmp_lt (tgt := 23) hx hb dX11_row_9 (by decide) (fun c_3 => ?_) (fun c_3 => ?_)
    · have nc_3 := z_lt rfl hc_2 c_3
      refine lv_aload_n hx hb dX11_row_23 rfl (lv_at hl 0 rfl) ?_
      refine tw_get (D := (dC, dI)) (v := .ref (a 8)) (C := RX11) (T := TX11) (N := 10) hx hb hts (fun _ hh => (List.mem_cons_of_mem _ (List.mem_append_right _ (List.mem_append_right _ (List.mem_append_left _ hh))))) hown hK hT (fx_0 hX) (by decide) cl_e10 rfl 8 (by decide) (hts (.fieldLink RX11 61 "TypingPool" "row" "[I") (List.mem_cons_of_mem _ (List.mem_append_left _ (List.mem_of_getElem? (i := 3) rfl)))) (fun _ h9 => h9) rfl dX11_row_24 ?_
      refine lv_iload_n hx hb dX11_row_27 rfl (lv_at hl 1 rfl) ?_
      refine tw_iald hx hb hK hT 0 (fx_8 hX) (by decide) cl_e18 rfl (z_in rfl (by omega) (by omega)) dX11_row_28 ?_
      refine W.widen (k := 1) (n := 6) (Nat.le_of_ble_eq_true rfl) (Nat.le_of_ble_eq_true rfl) ?_
      refine vx_ret ?_
      exact W.iret (v := y (a 8) p0.toNatClampNeg) hx hb hr (fun t ht hW9 => ⟨⟨y (a 8) p0.toNatClampNeg, y (a 8) p0.toNatClampNeg, rfl, rfl, ⟨u, fun _ _ => rfl, ⟨τ, ln, y, g, hMo, hKM, hI, tw_at ht hT⟩⟩⟩, hS.F ht⟩) hS.2.2 dX11_row_29
    · have nc_3 := z_nlt rfl hc_2 c_3
      exact ux_throwW hx hb hst hown (hts (.classLink RX11 171 "java/util/NoSuchElementException") (List.mem_cons_of_mem _ (List.mem_append_left _ (List.mem_of_getElem? (i := 0) rfl)))) (hts (.initialized "java/util/NoSuchElementException") (List.mem_cons_of_mem _ (List.mem_append_left _ (List.mem_of_getElem? (i := 1) rfl)))) (hM.2.2.1 19 _ rfl).1 (fun w h => hts w (List.mem_cons_of_mem _ (List.mem_append_right _ (List.mem_append_left _ h)))) hM.2.2.2.2.2.2.1 hM.2.2.2.2.1 hM.2.2.2.2.2.1 hS (by rw [hml]; exact hl.1) dX11_row_12 dX11_row_15 dX11_row_16 dX11_row_19 dX11_row_22 (fun x hx => (hex x hx).elim) (Nat.le_of_ble_eq_true rfl) (Nat.le_of_ble_eq_true rfl) (Nat.le_of_ble_eq_true rfl) (Nat.le_of_ble_eq_true rfl) hlocks (fun t ht hz hk => ⟨(), trivial, ⟨rfl, ⟨τ, ln, y, g, hMo, hKM, hI, hT.kept (fun q h9 _ => hk q h9)⟩⟩, Nat.le_trans hS.1 hz, fun q h1 h2 => (hk q (Nat.lt_of_lt_of_le h1 hS.1)).trans (hS.2.1 q h1 h2)⟩) hS.2.2 (Nat.le_of_ble_eq_true rfl) (Nat.le_of_ble_eq_true rfl)
def wo_k_of : List Cond := [.methodLink RL 7 yX11_of, .instanceMethod yX11_of, .selects RX11 yX11_of yX11_of, .initialized RX11, .classLink RL 13 "java/util/NoSuchElementException"]
def wm_k_of : List Cond := .codeWith yL_of cL_of 5 (some .int) [(0, 10, 13, 13)] :: (wo_k_of ++ (wm_t_of ++ ([] : List Cond)))
theorem gd_k_of : ∀ w ∈ wm_k_of, goodWord w = true := gd_c rfl (gd_a (by decide) (gd_a gd_t_of gd_nil))
set_option maxRecDepth 20000 in
theorem im_k_of : ∀ w ∈ wm_k_of, w ∈ lw_tbl := im_c (in_r [.codeWith yL_of cL_of 5 (some .int) [(0, 10, 13, 13)]] [1084] (by decide +kernel)) (in_app (in_r wo_k_of [1086, 1087, 1088, 70, 1085] (by decide +kernel)) (in_app im_t_of im_nil))
set_option maxHeartbeats 4000000 in
set_option maxRecDepth 100000 in
theorem k_of (l : Launch) (hst : l.stackTraces = false) (dC : Nat → ClassId) (dI : Nat → Nat → Nat) (ad av : Nat → Nat) (sz : Nat) (a : Nat → Nat) (k : Nat → ClassId) (τ ln : Nat → Nat) (y : Nat → Nat → Int32) (g : Nat → Nat → Option Nat) (u : Nat → Int) (p0 : Int32) (p1 : Int32) (hI : IC a u τ ln y g) : Met l yL_of wm_k_of ({ frames := 9, cells := 1, slots := 6, locals := 260 }) (pw_ ad av (dC, dI) sz [.ref (a 0), .int p0, .int p1, .ref (a 49)] a k τ ln y g) (va_Qi (fun (r u : Int32) => u = r) (fun (r : Int32) (t : State) => (∃ (u' : Nat → Int), (∀ i, i ∉ ([] : List Nat) → u' i = u i) ∧ pq (dC, dI) a k τ y g u' sz t.heap)) (fr τ sz)) 1 6 (fr τ sz) := by
  refine va_MetW (cc := cL_of) (maxL := 5) (ret := (some .int)) (by decide) rfl ?_
  intro p e s m args below meth c s₁ B hml hv
  obtain ⟨rfl, hsz, hT, hK, hM⟩ := hv
  have hx := B.exec
  have hb := B.bytes
  have hr := B.returns
  have hts := atoms_spec (ws := wm_k_of) B.pre
  have hown : s.vm.findClass RL = some m.cls := findClass_of_methodNamed B.named
  have hlocks := B.notSynchronized
  subst hsz
  generalize hAe : fr τ s.heap.size = A at hM ⊢
  have hA : ∀ q : Nat, s.heap.size ≤ q → A q := fun q h => by rw [← hAe]; exact Or.inr h
  have hF : ∀ q, τ q ≠ 0 → A q := fun q h => by rw [← hAe]; exact Or.inl h
  have hS : va_S A s.heap s.heap [] := va_S.rf
  have hX := hI.1
  have hR := ic_r hI
  have hMo : mono τ τ s.heap.size := mono.rf
  have hKM : kpM τ y g y g := kpM.rf
  have hl := lv_entry ([.ref (a 0), .int p0, .int p1, .ref (a 49)]) (n := 5) (Nat.le_of_ble_eq_true rfl)
  rw [lg_entry_eq]
  generalize (lg_sl ([.ref (a 0), .int p0, .int p1, .ref (a 49)]) ++ List.replicate (5 - (lg_sl ([.ref (a 0), .int p0, .int p1, .ref (a 49)])).length) Slot.unset).toArray = ls at hl ⊢
  have hl : lv_has ls 5 [(0, .ref (a 0)), (1, .int p0), (2, .int p1), (3, .ref (a 49))] := hl
  refine lv_aload_n hx hb dL_of_0 rfl (lv_at hl 3 rfl) ?_
  refine lv_iconst (v := 0) hx hb dL_of_1 (by decide) ?_
  refine lv_aload_n hx hb dL_of_2 rfl (lv_at hl 0 rfl) ?_
  refine lv_iload_n hx hb dL_of_3 rfl (lv_at hl 1 rfl) ?_
  refine lv_iload_n hx hb dL_of_4 rfl (lv_at hl 2 rfl) ?_
  have hFc := tw_free hF hS hA
  have hSz := hS.1
  have htb := vx_table (x := yL_of) B (hts _ List.mem_cons_self)
  refine vx_calli (vx_runV (As := [.int p0, .int p1]) (rest := [.int 0, .ref (a 49)]) ⟨hx, hb, hml, hown, hts⟩ (t_of l hst dC dI ad av s.heap.size a k τ ln y g u p0 p1 hI) (cwV 2 hts (gi_4 (List.mem_cons_of_mem _ (List.mem_append_left _ (List.mem_of_getElem? (i := 0) rfl))) (List.mem_cons_of_mem _ (List.mem_append_left _ (List.mem_of_getElem? (i := 1) rfl))) (List.mem_cons_of_mem _ (List.mem_append_left _ (List.mem_of_getElem? (i := 2) rfl))) (List.mem_cons_of_mem _ (List.mem_append_left _ (List.mem_of_getElem? (i := 3) rfl))) (fun _ hh => (List.mem_cons_of_mem _ (List.mem_append_right _ (List.mem_append_left _ hh)))) gd_t_of) rfl rfl rfl (by decide +kernel) ⟨Nat.le_of_ble_eq_true rfl, Nat.le_of_ble_eq_true rfl⟩) ⟨pw_blind, tw_recv hK hT (fx_0 hX) (by decide) cl_e10 rfl, pw_use hT hK hFc hS hM⟩ rfl rfl hl.1 rfl (lv_room (Nat.le_of_ble_eq_true rfl)) dL_of_5 ⟨Nat.le_of_ble_eq_true rfl, Nat.le_of_ble_eq_true rfl⟩) hS (fun q _ h => hFc q h) hFc (fun q _ h => hFc q h) (fun E ce q9 u9 t H locs ht hvm hpx hBX hz1 hk1 hS hce hcv hcl => ?_) (fun r0 r9 t H locs ht hvm hw hB hz1 hk1 hS => ?_)
  · obtain ⟨hE, ⟨t1, l1, y1, g1, hMo1, hKM1, hI, hT⟩⟩ := hBX
    subst hE
    rw [ht] at hT
    have hKM := hKM.tr hMo hKM1
    have hMo := hMo.tr hMo1 hSz
    have hX := hI.1
    have hF : ∀ q, t1 q ≠ 0 → A q := fun q h => by rw [← hAe]; exact hMo.2 q h
    refine vx_widen (k := 1) (n := 6) (Nat.le_of_ble_eq_true rfl) (Nat.le_of_ble_eq_true rfl) ?_
    refine ux_catch (name := NSE) hown _ [] htb (by decide) (by decide) (hts (.classLink RL 13 "java/util/NoSuchElementException") (List.mem_cons_of_mem _ (List.mem_append_left _ (List.mem_of_getElem? (i := 4) rfl)))) (va_Nw.use rfl hM.2.2.2.2.2.2.1.2.2.2) hce hcv hcl ?_
    refine W.eq (g2 := F0 m 13 ls [.ref q9]) rfl ?_
    refine lv_astore (lv' := [(4, .ref q9), (0, .ref (a 0)), (1, .int p0), (2, .int p1), (3, .ref (a 49))]) hx hb dL_of_13 hl (by decide) rfl (fun ls hl => ?_)
    refine lv_iconst (v := 1) hx hb dL_of_15 (by decide) ?_
    exact W.iret (v := 1) hx hb hr (fun t ht hW9 => ⟨⟨1, 1, rfl, rfl, ⟨u, fun _ _ => rfl, ⟨t1, l1, y1, g1, hMo, hKM, hI, tw_at ht hT⟩⟩⟩, hS.F ht⟩) hS.2.2 dL_of_16
  · subst hw
    obtain ⟨u2, hu2, ⟨t1, l1, y1, g1, hMo1, hKM1, hI, hT⟩⟩ := hB
    rw [ht] at hT
    have hKM := hKM.tr hMo hKM1
    have hMo := hMo.tr hMo1 hSz
    have hX := hI.1
    have hF : ∀ q, t1 q ≠ 0 → A q := fun q h => by rw [← hAe]; exact hMo.2 q h
    refine W.widen (k := 1) (n := 6) (Nat.le_of_ble_eq_true rfl) (Nat.le_of_ble_eq_true rfl) ?_
    refine lv_i2l hx hb dL_of_8 rfl ?_
    refine tw_last (x := r9) hx hb hK hT hF hS (fx_49 hX) dL_of_9 (fun H locs hT hS => ?_)
    obtain ⟨y_1, hy_1, hT⟩ : ∃ z : Nat → Nat → Int32, z = up2 y1 (a 49) ((0 : Int32).toNatClampNeg) r9 ∧ tw (dC, dI) a k t1 l1 z g1 H := ⟨_, rfl, hT⟩
    have hKM : kpM τ y g y_1 g1 := by rw [hy_1]; exact hKM.up hMo (fx_49 hX) (by decide)
    have hI := hI.ag (S := [59]) (y' := y_1) (by rw [hy_1]; exact ag.one (fx_49 hX)) (by decide)
    refine lv_goto (tgt := 17) hx hb dL_of_10 (by decide) ?_
    refine lv_iconst (v := 0) hx hb dL_of_17 (by decide) ?_
    exact W.iret (v := 0) hx hb hr (fun t ht hW9 => ⟨⟨0, 0, rfl, rfl, ⟨u2, (by intro i hi; simp only [List.mem_cons, List.not_mem_nil, or_false, not_or] at hi; rw [hu2 i (by simp <;> omega)]), ⟨t1, l1, y_1, g1, hMo, hKM, hI, tw_at ht hT⟩⟩⟩, hS.F ht⟩) hS.2.2 dL_of_18
def wo_k_order : List Cond := [.methodLink RL 15 yX11_order, .instanceMethod yX11_order, .selects RX11 yX11_order yX11_order, .initialized RX11, .classLink RL 13 "java/util/NoSuchElementException"]
def wm_k_order : List Cond := .codeWith yL_order cL_order 5 (some .int) [(0, 10, 13, 13)] :: (wo_k_order ++ (wm_t_order ++ ([] : List Cond)))
theorem gd_k_order : ∀ w ∈ wm_k_order, goodWord w = true := gd_c rfl (gd_a (by decide) (gd_a gd_t_order gd_nil))
set_option maxRecDepth 20000 in
theorem im_k_order : ∀ w ∈ wm_k_order, w ∈ lw_tbl := im_c (in_r [.codeWith yL_order cL_order 5 (some .int) [(0, 10, 13, 13)]] [1163] (by decide +kernel)) (in_app (in_r wo_k_order [1164, 1165, 1166, 70, 1085] (by decide +kernel)) (in_app im_t_order im_nil))
set_option maxHeartbeats 4000000 in
set_option maxRecDepth 100000 in
theorem k_order (l : Launch) (hst : l.stackTraces = false) (dC : Nat → ClassId) (dI : Nat → Nat → Nat) (ad av : Nat → Nat) (sz : Nat) (a : Nat → Nat) (k : Nat → ClassId) (τ ln : Nat → Nat) (y : Nat → Nat → Int32) (g : Nat → Nat → Option Nat) (u : Nat → Int) (p0 : Int32) (p1 : Int32) (hI : IC a u τ ln y g) : Met l yL_order wm_k_order ({ frames := 9, cells := 1, slots := 6, locals := 300 }) (pw_ ad av (dC, dI) sz [.ref (a 0), .int p0, .int p1, .ref (a 49)] a k τ ln y g) (va_Qi (fun (r u : Int32) => u = r) (fun (r : Int32) (t : State) => (∃ (u' : Nat → Int), (∀ i, i ∉ ([] : List Nat) → u' i = u i) ∧ pq (dC, dI) a k τ y g u' sz t.heap)) (fr τ sz)) 1 6 (fr τ sz) := by
  refine va_MetW (cc := cL_order) (maxL := 5) (ret := (some .int)) (by decide) rfl ?_
  intro p e s m args below meth c s₁ B hml hv
  obtain ⟨rfl, hsz, hT, hK, hM⟩ := hv
  have hx := B.exec
  have hb := B.bytes
  have hr := B.returns
  have hts := atoms_spec (ws := wm_k_order) B.pre
  have hown : s.vm.findClass RL = some m.cls := findClass_of_methodNamed B.named
  have hlocks := B.notSynchronized
  subst hsz
  generalize hAe : fr τ s.heap.size = A at hM ⊢
  have hA : ∀ q : Nat, s.heap.size ≤ q → A q := fun q h => by rw [← hAe]; exact Or.inr h
  have hF : ∀ q, τ q ≠ 0 → A q := fun q h => by rw [← hAe]; exact Or.inl h
  have hS : va_S A s.heap s.heap [] := va_S.rf
  have hX := hI.1
  have hR := ic_r hI
  have hMo : mono τ τ s.heap.size := mono.rf
  have hKM : kpM τ y g y g := kpM.rf
  have hl := lv_entry ([.ref (a 0), .int p0, .int p1, .ref (a 49)]) (n := 5) (Nat.le_of_ble_eq_true rfl)
  rw [lg_entry_eq]
  generalize (lg_sl ([.ref (a 0), .int p0, .int p1, .ref (a 49)]) ++ List.replicate (5 - (lg_sl ([.ref (a 0), .int p0, .int p1, .ref (a 49)])).length) Slot.unset).toArray = ls at hl ⊢
  have hl : lv_has ls 5 [(0, .ref (a 0)), (1, .int p0), (2, .int p1), (3, .ref (a 49))] := hl
  refine lv_aload_n hx hb dL_order_0 rfl (lv_at hl 3 rfl) ?_
  refine lv_iconst (v := 0) hx hb dL_order_1 (by decide) ?_
  refine lv_aload_n hx hb dL_order_2 rfl (lv_at hl 0 rfl) ?_
  refine lv_iload_n hx hb dL_order_3 rfl (lv_at hl 1 rfl) ?_
  refine lv_iload_n hx hb dL_order_4 rfl (lv_at hl 2 rfl) ?_
  have hFc := tw_free hF hS hA
  have hSz := hS.1
  have htb := vx_table (x := yL_order) B (hts _ List.mem_cons_self)
  refine vx_calli (vx_runV (As := [.int p0, .int p1]) (rest := [.int 0, .ref (a 49)]) ⟨hx, hb, hml, hown, hts⟩ (t_order l hst dC dI ad av s.heap.size a k τ ln y g u p0 p1 hI) (cwV 2 hts (gi_4 (List.mem_cons_of_mem _ (List.mem_append_left _ (List.mem_of_getElem? (i := 0) rfl))) (List.mem_cons_of_mem _ (List.mem_append_left _ (List.mem_of_getElem? (i := 1) rfl))) (List.mem_cons_of_mem _ (List.mem_append_left _ (List.mem_of_getElem? (i := 2) rfl))) (List.mem_cons_of_mem _ (List.mem_append_left _ (List.mem_of_getElem? (i := 3) rfl))) (fun _ hh => (List.mem_cons_of_mem _ (List.mem_append_right _ (List.mem_append_left _ hh)))) gd_t_order) rfl rfl rfl (by decide +kernel) ⟨Nat.le_of_ble_eq_true rfl, Nat.le_of_ble_eq_true rfl⟩) ⟨pw_blind, tw_recv hK hT (fx_0 hX) (by decide) cl_e10 rfl, pw_use hT hK hFc hS hM⟩ rfl rfl hl.1 rfl (lv_room (Nat.le_of_ble_eq_true rfl)) dL_order_5 ⟨Nat.le_of_ble_eq_true rfl, Nat.le_of_ble_eq_true rfl⟩) hS (fun q _ h => hFc q h) hFc (fun q _ h => hFc q h) (fun E ce q9 u9 t H locs ht hvm hpx hBX hz1 hk1 hS hce hcv hcl => ?_) (fun r0 r9 t H locs ht hvm hw hB hz1 hk1 hS => ?_)
  · obtain ⟨hE, ⟨t1, l1, y1, g1, hMo1, hKM1, hI, hT⟩⟩ := hBX
    subst hE
    rw [ht] at hT
    have hKM := hKM.tr hMo hKM1
    have hMo := hMo.tr hMo1 hSz
    have hX := hI.1
    have hF : ∀ q, t1 q ≠ 0 → A q := fun q h => by rw [← hAe]; exact hMo.2 q h
    refine vx_widen (k := 1) (n := 6) (Nat.le_of_ble_eq_true rfl) (Nat.le_of_ble_eq_true rfl) ?_
    refine ux_catch (name := NSE) hown _ [] htb (by decide) (by decide) (hts (.classLink RL 13 "java/util/NoSuchElementException") (List.mem_cons_of_mem _ (List.mem_append_left _ (List.mem_of_getElem? (i := 4) rfl)))) (va_Nw.use rfl hM.2.2.2.2.2.2.1.2.2.2) hce hcv hcl ?_
    refine W.eq (g2 := F0 m 13 ls [.ref q9]) rfl ?_
    refine lv_astore (lv' := [(4, .ref q9), (0, .ref (a 0)), (1, .int p0), (2, .int p1), (3, .ref (a 49))]) hx hb dL_order_13 hl (by decide) rfl (fun ls hl => ?_)
    refine lv_iconst (v := 1) hx hb dL_order_15 (by decide) ?_
    exact W.iret (v := 1) hx hb hr (fun t ht hW9 => ⟨⟨1, 1, rfl, rfl, ⟨u, fun _ _ => rfl, ⟨t1, l1, y1, g1, hMo, hKM, hI, tw_at ht hT⟩⟩⟩, hS.F ht⟩) hS.2.2 dL_order_16
  · subst hw
    obtain ⟨u2, hu2, ⟨t1, l1, y1, g1, hMo1, hKM1, hI, hT⟩⟩ := hB
    rw [ht] at hT
    have hKM := hKM.tr hMo hKM1
    have hMo := hMo.tr hMo1 hSz
    have hX := hI.1
    have hF : ∀ q, t1 q ≠ 0 → A q := fun q h => by rw [← hAe]; exact hMo.2 q h
    refine W.widen (k := 1) (n := 6) (Nat.le_of_ble_eq_true rfl) (Nat.le_of_ble_eq_true rfl) ?_
    refine lv_i2l hx hb dL_order_8 rfl ?_
    refine tw_last (x := r9) hx hb hK hT hF hS (fx_49 hX) dL_order_9 (fun H locs hT hS => ?_)
    obtain ⟨y_1, hy_1, hT⟩ : ∃ z : Nat → Nat → Int32, z = up2 y1 (a 49) ((0 : Int32).toNatClampNeg) r9 ∧ tw (dC, dI) a k t1 l1 z g1 H := ⟨_, rfl, hT⟩
    have hKM : kpM τ y g y_1 g1 := by rw [hy_1]; exact hKM.up hMo (fx_49 hX) (by decide)
    have hI := hI.ag (S := [59]) (y' := y_1) (by rw [hy_1]; exact ag.one (fx_49 hX)) (by decide)
    refine lv_goto (tgt := 17) hx hb dL_order_10 (by decide) ?_
    refine lv_iconst (v := 0) hx hb dL_order_17 (by decide) ?_
    exact W.iret (v := 0) hx hb hr (fun t ht hW9 => ⟨⟨0, 0, rfl, rfl, ⟨u2, (by intro i hi; simp only [List.mem_cons, List.not_mem_nil, or_false, not_or] at hi; rw [hu2 i (by simp <;> omega)]), ⟨t1, l1, y_1, g1, hMo, hKM, hI, tw_at ht hT⟩⟩⟩, hS.F ht⟩) hS.2.2 dL_order_18
def wo_k_pay : List Cond := [.methodLink RL 18 yX11_pay, .instanceMethod yX11_pay, .selects RX11 yX11_pay yX11_pay, .initialized RX11, .classLink RL 13 "java/util/NoSuchElementException"]
def wm_k_pay : List Cond := .codeWith yL_pay cL_pay 4 (some .int) [(0, 9, 12, 13)] :: (wo_k_pay ++ (wm_t_pay ++ ([] : List Cond)))
theorem gd_k_pay : ∀ w ∈ wm_k_pay, goodWord w = true := gd_c rfl (gd_a (by decide) (gd_a gd_t_pay gd_nil))
set_option maxRecDepth 20000 in
theorem im_k_pay : ∀ w ∈ wm_k_pay, w ∈ lw_tbl := im_c (in_r [.codeWith yL_pay cL_pay 4 (some .int) [(0, 9, 12, 13)]] [1172] (by decide +kernel)) (in_app (in_r wo_k_pay [1173, 1174, 1175, 70, 1085] (by decide +kernel)) (in_app im_t_pay im_nil))
set_option maxHeartbeats 4000000 in
set_option maxRecDepth 100000 in
theorem k_pay (l : Launch) (hst : l.stackTraces = false) (dC : Nat → ClassId) (dI : Nat → Nat → Nat) (ad av : Nat → Nat) (sz : Nat) (a : Nat → Nat) (k : Nat → ClassId) (τ ln : Nat → Nat) (y : Nat → Nat → Int32) (g : Nat → Nat → Option Nat) (u : Nat → Int) (p0 : Int32) (hI : IC a u τ ln y g) : Met l yL_pay wm_k_pay ({ frames := 9, cells := 1, slots := 6, locals := 420 }) (pw_ ad av (dC, dI) sz [.ref (a 0), .int p0, .ref (a 49)] a k τ ln y g) (va_Qi (fun (r u : Int32) => u = r) (fun (r : Int32) (t : State) => (∃ (u' : Nat → Int), (∀ i, i ∉ ([] : List Nat) → u' i = u i) ∧ pq (dC, dI) a k τ y g u' sz t.heap)) (fr τ sz)) 1 6 (fr τ sz) := by
  refine va_MetW (cc := cL_pay) (maxL := 4) (ret := (some .int)) (by decide) rfl ?_
  intro p e s m args below meth c s₁ B hml hv
  obtain ⟨rfl, hsz, hT, hK, hM⟩ := hv
  have hx := B.exec
  have hb := B.bytes
  have hr := B.returns
  have hts := atoms_spec (ws := wm_k_pay) B.pre
  have hown : s.vm.findClass RL = some m.cls := findClass_of_methodNamed B.named
  have hlocks := B.notSynchronized
  subst hsz
  generalize hAe : fr τ s.heap.size = A at hM ⊢
  have hA : ∀ q : Nat, s.heap.size ≤ q → A q := fun q h => by rw [← hAe]; exact Or.inr h
  have hF : ∀ q, τ q ≠ 0 → A q := fun q h => by rw [← hAe]; exact Or.inl h
  have hS : va_S A s.heap s.heap [] := va_S.rf
  have hX := hI.1
  have hR := ic_r hI
  have hMo : mono τ τ s.heap.size := mono.rf
  have hKM : kpM τ y g y g := kpM.rf
  have hl := lv_entry ([.ref (a 0), .int p0, .ref (a 49)]) (n := 4) (Nat.le_of_ble_eq_true rfl)
  rw [lg_entry_eq]
  generalize (lg_sl ([.ref (a 0), .int p0, .ref (a 49)]) ++ List.replicate (4 - (lg_sl ([.ref (a 0), .int p0, .ref (a 49)])).length) Slot.unset).toArray = ls at hl ⊢
  have hl : lv_has ls 4 [(0, .ref (a 0)), (1, .int p0), (2, .ref (a 49))] := hl
  refine lv_aload_n hx hb dL_pay_0 rfl (lv_at hl 2 rfl) ?_
  refine lv_iconst (v := 0) hx hb dL_pay_1 (by decide) ?_
  refine lv_aload_n hx hb dL_pay_2 rfl (lv_at hl 0 rfl) ?_
  refine lv_iload_n hx hb dL_pay_3 rfl (lv_at hl 1 rfl) ?_
  have hFc := tw_free hF hS hA
  have hSz := hS.1
  have htb := vx_table (x := yL_pay) B (hts _ List.mem_cons_self)
  refine vx_calli (vx_runV (As := [.int p0]) (rest := [.int 0, .ref (a 49)]) ⟨hx, hb, hml, hown, hts⟩ (t_pay l hst dC dI ad av s.heap.size a k τ ln y g u p0 hI) (cwV 1 hts (gi_4 (List.mem_cons_of_mem _ (List.mem_append_left _ (List.mem_of_getElem? (i := 0) rfl))) (List.mem_cons_of_mem _ (List.mem_append_left _ (List.mem_of_getElem? (i := 1) rfl))) (List.mem_cons_of_mem _ (List.mem_append_left _ (List.mem_of_getElem? (i := 2) rfl))) (List.mem_cons_of_mem _ (List.mem_append_left _ (List.mem_of_getElem? (i := 3) rfl))) (fun _ hh => (List.mem_cons_of_mem _ (List.mem_append_right _ (List.mem_append_left _ hh)))) gd_t_pay) rfl rfl rfl (by decide +kernel) ⟨Nat.le_of_ble_eq_true rfl, Nat.le_of_ble_eq_true rfl⟩) ⟨pw_blind, tw_recv hK hT (fx_0 hX) (by decide) cl_e10 rfl, pw_use hT hK hFc hS hM⟩ rfl rfl hl.1 rfl (lv_room (Nat.le_of_ble_eq_true rfl)) dL_pay_4 ⟨Nat.le_of_ble_eq_true rfl, Nat.le_of_ble_eq_true rfl⟩) hS (fun q _ h => hFc q h) hFc (fun q _ h => hFc q h) (fun E ce q9 u9 t H locs ht hvm hpx hBX hz1 hk1 hS hce hcv hcl => ?_) (fun r0 r9 t H locs ht hvm hw hB hz1 hk1 hS => ?_)
  · obtain ⟨hE, ⟨t1, l1, y1, g1, hMo1, hKM1, hI, hT⟩⟩ := hBX
    subst hE
    rw [ht] at hT
    have hKM := hKM.tr hMo hKM1
    have hMo := hMo.tr hMo1 hSz
    have hX := hI.1
    have hF : ∀ q, t1 q ≠ 0 → A q := fun q h => by rw [← hAe]; exact hMo.2 q h
    refine vx_widen (k := 1) (n := 6) (Nat.le_of_ble_eq_true rfl) (Nat.le_of_ble_eq_true rfl) ?_
    refine ux_catch (name := NSE) hown _ [] htb (by decide) (by decide) (hts (.classLink RL 13 "java/util/NoSuchElementException") (List.mem_cons_of_mem _ (List.mem_append_left _ (List.mem_of_getElem? (i := 4) rfl)))) (va_Nw.use rfl hM.2.2.2.2.2.2.1.2.2.2) hce hcv hcl ?_
    refine W.eq (g2 := F0 m 12 ls [.ref q9]) rfl ?_
    refine lv_astore_n (lv' := [(3, .ref q9), (0, .ref (a 0)), (1, .int p0), (2, .ref (a 49))]) hx hb dL_pay_12 rfl hl (by decide) rfl (fun ls hl => ?_)
    refine lv_iconst (v := 1) hx hb dL_pay_13 (by decide) ?_
    exact W.iret (v := 1) hx hb hr (fun t ht hW9 => ⟨⟨1, 1, rfl, rfl, ⟨u, fun _ _ => rfl, ⟨t1, l1, y1, g1, hMo, hKM, hI, tw_at ht hT⟩⟩⟩, hS.F ht⟩) hS.2.2 dL_pay_14
  · subst hw
    obtain ⟨u2, hu2, ⟨t1, l1, y1, g1, hMo1, hKM1, hI, hT⟩⟩ := hB
    rw [ht] at hT
    have hKM := hKM.tr hMo hKM1
    have hMo := hMo.tr hMo1 hSz
    have hX := hI.1
    have hF : ∀ q, t1 q ≠ 0 → A q := fun q h => by rw [← hAe]; exact hMo.2 q h
    refine W.widen (k := 1) (n := 6) (Nat.le_of_ble_eq_true rfl) (Nat.le_of_ble_eq_true rfl) ?_
    refine lv_i2l hx hb dL_pay_7 rfl ?_
    refine tw_last (x := r9) hx hb hK hT hF hS (fx_49 hX) dL_pay_8 (fun H locs hT hS => ?_)
    obtain ⟨y_1, hy_1, hT⟩ : ∃ z : Nat → Nat → Int32, z = up2 y1 (a 49) ((0 : Int32).toNatClampNeg) r9 ∧ tw (dC, dI) a k t1 l1 z g1 H := ⟨_, rfl, hT⟩
    have hKM : kpM τ y g y_1 g1 := by rw [hy_1]; exact hKM.up hMo (fx_49 hX) (by decide)
    have hI := hI.ag (S := [59]) (y' := y_1) (by rw [hy_1]; exact ag.one (fx_49 hX)) (by decide)
    refine lv_goto (tgt := 15) hx hb dL_pay_9 (by decide) ?_
    refine lv_iconst (v := 0) hx hb dL_pay_15 (by decide) ?_
    exact W.iret (v := 0) hx hb hr (fun t ht hW9 => ⟨⟨0, 0, rfl, rfl, ⟨u2, (by intro i hi; simp only [List.mem_cons, List.not_mem_nil, or_false, not_or] at hi; rw [hu2 i (by simp <;> omega)]), ⟨t1, l1, y_1, g1, hMo, hKM, hI, tw_at ht hT⟩⟩⟩, hS.F ht⟩) hS.2.2 dL_pay_16
def wo_k_earns : List Cond := [.methodLink RL 22 yX11_earns, .instanceMethod yX11_earns, .selects RX11 yX11_earns yX11_earns, .initialized RX11, .classLink RL 13 "java/util/NoSuchElementException"]
def wm_k_earns : List Cond := .codeWith yL_earns cL_earns 5 (some .int) [(0, 10, 13, 13)] :: (wo_k_earns ++ (wm_t_earns ++ ([] : List Cond)))
theorem gd_k_earns : ∀ w ∈ wm_k_earns, goodWord w = true := gd_c rfl (gd_a (by decide) (gd_a gd_t_earns gd_nil))
set_option maxRecDepth 20000 in
theorem im_k_earns : ∀ w ∈ wm_k_earns, w ∈ lw_tbl := im_c (in_r [.codeWith yL_earns cL_earns 5 (some .int) [(0, 10, 13, 13)]] [1185] (by decide +kernel)) (in_app (in_r wo_k_earns [1186, 1187, 1188, 70, 1085] (by decide +kernel)) (in_app im_t_earns im_nil))
set_option maxHeartbeats 4000000 in
set_option maxRecDepth 100000 in
theorem k_earns (l : Launch) (hst : l.stackTraces = false) (dC : Nat → ClassId) (dI : Nat → Nat → Nat) (ad av : Nat → Nat) (sz : Nat) (a : Nat → Nat) (k : Nat → ClassId) (τ ln : Nat → Nat) (y : Nat → Nat → Int32) (g : Nat → Nat → Option Nat) (u : Nat → Int) (p0 : Int32) (p1 : Int32) (hI : IC a u τ ln y g) : Met l yL_earns wm_k_earns ({ frames := 9, cells := 1, slots := 6, locals := 480 }) (pw_ ad av (dC, dI) sz [.ref (a 0), .int p0, .int p1, .ref (a 49)] a k τ ln y g) (va_Qi (fun (r u : Int32) => u = r) (fun (r : Int32) (t : State) => (∃ (u' : Nat → Int), (∀ i, i ∉ ([] : List Nat) → u' i = u i) ∧ pq (dC, dI) a k τ y g u' sz t.heap)) (fr τ sz)) 1 6 (fr τ sz) := by
  refine va_MetW (cc := cL_earns) (maxL := 5) (ret := (some .int)) (by decide) rfl ?_
  intro p e s m args below meth c s₁ B hml hv
  obtain ⟨rfl, hsz, hT, hK, hM⟩ := hv
  have hx := B.exec
  have hb := B.bytes
  have hr := B.returns
  have hts := atoms_spec (ws := wm_k_earns) B.pre
  have hown : s.vm.findClass RL = some m.cls := findClass_of_methodNamed B.named
  have hlocks := B.notSynchronized
  subst hsz
  generalize hAe : fr τ s.heap.size = A at hM ⊢
  have hA : ∀ q : Nat, s.heap.size ≤ q → A q := fun q h => by rw [← hAe]; exact Or.inr h
  have hF : ∀ q, τ q ≠ 0 → A q := fun q h => by rw [← hAe]; exact Or.inl h
  have hS : va_S A s.heap s.heap [] := va_S.rf
  have hX := hI.1
  have hR := ic_r hI
  have hMo : mono τ τ s.heap.size := mono.rf
  have hKM : kpM τ y g y g := kpM.rf
  have hl := lv_entry ([.ref (a 0), .int p0, .int p1, .ref (a 49)]) (n := 5) (Nat.le_of_ble_eq_true rfl)
  rw [lg_entry_eq]
  generalize (lg_sl ([.ref (a 0), .int p0, .int p1, .ref (a 49)]) ++ List.replicate (5 - (lg_sl ([.ref (a 0), .int p0, .int p1, .ref (a 49)])).length) Slot.unset).toArray = ls at hl ⊢
  have hl : lv_has ls 5 [(0, .ref (a 0)), (1, .int p0), (2, .int p1), (3, .ref (a 49))] := hl
  refine lv_aload_n hx hb dL_earns_0 rfl (lv_at hl 3 rfl) ?_
  refine lv_iconst (v := 0) hx hb dL_earns_1 (by decide) ?_
  refine lv_aload_n hx hb dL_earns_2 rfl (lv_at hl 0 rfl) ?_
  refine lv_iload_n hx hb dL_earns_3 rfl (lv_at hl 1 rfl) ?_
  refine lv_iload_n hx hb dL_earns_4 rfl (lv_at hl 2 rfl) ?_
  have hFc := tw_free hF hS hA
  have hSz := hS.1
  have htb := vx_table (x := yL_earns) B (hts _ List.mem_cons_self)
  refine vx_calli (vx_runV (As := [.int p0, .int p1]) (rest := [.int 0, .ref (a 49)]) ⟨hx, hb, hml, hown, hts⟩ (t_earns l hst dC dI ad av s.heap.size a k τ ln y g u p0 p1 hI) (cwV 2 hts (gi_4 (List.mem_cons_of_mem _ (List.mem_append_left _ (List.mem_of_getElem? (i := 0) rfl))) (List.mem_cons_of_mem _ (List.mem_append_left _ (List.mem_of_getElem? (i := 1) rfl))) (List.mem_cons_of_mem _ (List.mem_append_left _ (List.mem_of_getElem? (i := 2) rfl))) (List.mem_cons_of_mem _ (List.mem_append_left _ (List.mem_of_getElem? (i := 3) rfl))) (fun _ hh => (List.mem_cons_of_mem _ (List.mem_append_right _ (List.mem_append_left _ hh)))) gd_t_earns) rfl rfl rfl (by decide +kernel) ⟨Nat.le_of_ble_eq_true rfl, Nat.le_of_ble_eq_true rfl⟩) ⟨pw_blind, tw_recv hK hT (fx_0 hX) (by decide) cl_e10 rfl, pw_use hT hK hFc hS hM⟩ rfl rfl hl.1 rfl (lv_room (Nat.le_of_ble_eq_true rfl)) dL_earns_5 ⟨Nat.le_of_ble_eq_true rfl, Nat.le_of_ble_eq_true rfl⟩) hS (fun q _ h => hFc q h) hFc (fun q _ h => hFc q h) (fun E ce q9 u9 t H locs ht hvm hpx hBX hz1 hk1 hS hce hcv hcl => ?_) (fun r0 r9 t H locs ht hvm hw hB hz1 hk1 hS => ?_)
  · obtain ⟨hE, ⟨t1, l1, y1, g1, hMo1, hKM1, hI, hT⟩⟩ := hBX
    subst hE
    rw [ht] at hT
    have hKM := hKM.tr hMo hKM1
    have hMo := hMo.tr hMo1 hSz
    have hX := hI.1
    have hF : ∀ q, t1 q ≠ 0 → A q := fun q h => by rw [← hAe]; exact hMo.2 q h
    refine vx_widen (k := 1) (n := 6) (Nat.le_of_ble_eq_true rfl) (Nat.le_of_ble_eq_true rfl) ?_
    refine ux_catch (name := NSE) hown _ [] htb (by decide) (by decide) (hts (.classLink RL 13 "java/util/NoSuchElementException") (List.mem_cons_of_mem _ (List.mem_append_left _ (List.mem_of_getElem? (i := 4) rfl)))) (va_Nw.use rfl hM.2.2.2.2.2.2.1.2.2.2) hce hcv hcl ?_
    refine W.eq (g2 := F0 m 13 ls [.ref q9]) rfl ?_
    refine lv_astore (lv' := [(4, .ref q9), (0, .ref (a 0)), (1, .int p0), (2, .int p1), (3, .ref (a 49))]) hx hb dL_earns_13 hl (by decide) rfl (fun ls hl => ?_)
    refine lv_iconst (v := 1) hx hb dL_earns_15 (by decide) ?_
    exact W.iret (v := 1) hx hb hr (fun t ht hW9 => ⟨⟨1, 1, rfl, rfl, ⟨u, fun _ _ => rfl, ⟨t1, l1, y1, g1, hMo, hKM, hI, tw_at ht hT⟩⟩⟩, hS.F ht⟩) hS.2.2 dL_earns_16
  · subst hw
    obtain ⟨u2, hu2, ⟨t1, l1, y1, g1, hMo1, hKM1, hI, hT⟩⟩ := hB
    rw [ht] at hT
    have hKM := hKM.tr hMo hKM1
    have hMo := hMo.tr hMo1 hSz
    have hX := hI.1
    have hF : ∀ q, t1 q ≠ 0 → A q := fun q h => by rw [← hAe]; exact hMo.2 q h
    refine W.widen (k := 1) (n := 6) (Nat.le_of_ble_eq_true rfl) (Nat.le_of_ble_eq_true rfl) ?_
    refine lv_i2l hx hb dL_earns_8 rfl ?_
    refine tw_last (x := r9) hx hb hK hT hF hS (fx_49 hX) dL_earns_9 (fun H locs hT hS => ?_)
    obtain ⟨y_1, hy_1, hT⟩ : ∃ z : Nat → Nat → Int32, z = up2 y1 (a 49) ((0 : Int32).toNatClampNeg) r9 ∧ tw (dC, dI) a k t1 l1 z g1 H := ⟨_, rfl, hT⟩
    have hKM : kpM τ y g y_1 g1 := by rw [hy_1]; exact hKM.up hMo (fx_49 hX) (by decide)
    have hI := hI.ag (S := [59]) (y' := y_1) (by rw [hy_1]; exact ag.one (fx_49 hX)) (by decide)
    refine lv_goto (tgt := 17) hx hb dL_earns_10 (by decide) ?_
    refine lv_iconst (v := 0) hx hb dL_earns_17 (by decide) ?_
    exact W.iret (v := 0) hx hb hr (fun t ht hW9 => ⟨⟨0, 0, rfl, rfl, ⟨u2, (by intro i hi; simp only [List.mem_cons, List.not_mem_nil, or_false, not_or] at hi; rw [hu2 i (by simp <;> omega)]), ⟨t1, l1, y_1, g1, hMo, hKM, hI, tw_at ht hT⟩⟩⟩, hS.F ht⟩) hS.2.2 dL_earns_18
def wo_k_ill : List Cond := [.methodLink RL 25 yX11_ill, .instanceMethod yX11_ill, .selects RX11 yX11_ill yX11_ill, .initialized RX11, .classLink RL 13 "java/util/NoSuchElementException"]
def wm_k_ill : List Cond := .codeWith yL_ill cL_ill 5 (some .int) [(0, 10, 13, 13)] :: (wo_k_ill ++ (wm_t_ill ++ ([] : List Cond)))
theorem gd_k_ill : ∀ w ∈ wm_k_ill, goodWord w = true := gd_c rfl (gd_a (by decide) (gd_a gd_t_ill gd_nil))
set_option maxRecDepth 20000 in
theorem im_k_ill : ∀ w ∈ wm_k_ill, w ∈ lw_tbl := im_c (in_r [.codeWith yL_ill cL_ill 5 (some .int) [(0, 10, 13, 13)]] [1198] (by decide +kernel)) (in_app (in_r wo_k_ill [1199, 1200, 1201, 70, 1085] (by decide +kernel)) (in_app im_t_ill im_nil))
set_option maxHeartbeats 4000000 in
set_option maxRecDepth 100000 in
theorem k_ill (l : Launch) (hst : l.stackTraces = false) (dC : Nat → ClassId) (dI : Nat → Nat → Nat) (ad av : Nat → Nat) (sz : Nat) (a : Nat → Nat) (k : Nat → ClassId) (τ ln : Nat → Nat) (y : Nat → Nat → Int32) (g : Nat → Nat → Option Nat) (u : Nat → Int) (p0 : Int32) (p1 : Int32) (hI : IC a u τ ln y g) : Met l yL_ill wm_k_ill ({ frames := 9, cells := 1, slots := 6, locals := 480 }) (pw_ ad av (dC, dI) sz [.ref (a 0), .int p0, .int p1, .ref (a 49)] a k τ ln y g) (va_Qi (fun (r u : Int32) => u = r) (fun (r : Int32) (t : State) => (∃ (u' : Nat → Int), (∀ i, i ∉ ([] : List Nat) → u' i = u i) ∧ pq (dC, dI) a k τ y g u' sz t.heap)) (fr τ sz)) 1 6 (fr τ sz) := by
  refine va_MetW (cc := cL_ill) (maxL := 5) (ret := (some .int)) (by decide) rfl ?_
  intro p e s m args below meth c s₁ B hml hv
  obtain ⟨rfl, hsz, hT, hK, hM⟩ := hv
  have hx := B.exec
  have hb := B.bytes
  have hr := B.returns
  have hts := atoms_spec (ws := wm_k_ill) B.pre
  have hown : s.vm.findClass RL = some m.cls := findClass_of_methodNamed B.named
  have hlocks := B.notSynchronized
  subst hsz
  generalize hAe : fr τ s.heap.size = A at hM ⊢
  have hA : ∀ q : Nat, s.heap.size ≤ q → A q := fun q h => by rw [← hAe]; exact Or.inr h
  have hF : ∀ q, τ q ≠ 0 → A q := fun q h => by rw [← hAe]; exact Or.inl h
  have hS : va_S A s.heap s.heap [] := va_S.rf
  have hX := hI.1
  have hR := ic_r hI
  have hMo : mono τ τ s.heap.size := mono.rf
  have hKM : kpM τ y g y g := kpM.rf
  have hl := lv_entry ([.ref (a 0), .int p0, .int p1, .ref (a 49)]) (n := 5) (Nat.le_of_ble_eq_true rfl)
  rw [lg_entry_eq]
  generalize (lg_sl ([.ref (a 0), .int p0, .int p1, .ref (a 49)]) ++ List.replicate (5 - (lg_sl ([.ref (a 0), .int p0, .int p1, .ref (a 49)])).length) Slot.unset).toArray = ls at hl ⊢
  have hl : lv_has ls 5 [(0, .ref (a 0)), (1, .int p0), (2, .int p1), (3, .ref (a 49))] := hl
  refine lv_aload_n hx hb dL_ill_0 rfl (lv_at hl 3 rfl) ?_
  refine lv_iconst (v := 0) hx hb dL_ill_1 (by decide) ?_
  refine lv_aload_n hx hb dL_ill_2 rfl (lv_at hl 0 rfl) ?_
  refine lv_iload_n hx hb dL_ill_3 rfl (lv_at hl 1 rfl) ?_
  refine lv_iload_n hx hb dL_ill_4 rfl (lv_at hl 2 rfl) ?_
  have hFc := tw_free hF hS hA
  have hSz := hS.1
  have htb := vx_table (x := yL_ill) B (hts _ List.mem_cons_self)
  refine vx_calli (vx_runV (As := [.int p0, .int p1]) (rest := [.int 0, .ref (a 49)]) ⟨hx, hb, hml, hown, hts⟩ (t_ill l hst dC dI ad av s.heap.size a k τ ln y g u p0 p1 hI) (cwV 2 hts (gi_4 (List.mem_cons_of_mem _ (List.mem_append_left _ (List.mem_of_getElem? (i := 0) rfl))) (List.mem_cons_of_mem _ (List.mem_append_left _ (List.mem_of_getElem? (i := 1) rfl))) (List.mem_cons_of_mem _ (List.mem_append_left _ (List.mem_of_getElem? (i := 2) rfl))) (List.mem_cons_of_mem _ (List.mem_append_left _ (List.mem_of_getElem? (i := 3) rfl))) (fun _ hh => (List.mem_cons_of_mem _ (List.mem_append_right _ (List.mem_append_left _ hh)))) gd_t_ill) rfl rfl rfl (by decide +kernel) ⟨Nat.le_of_ble_eq_true rfl, Nat.le_of_ble_eq_true rfl⟩) ⟨pw_blind, tw_recv hK hT (fx_0 hX) (by decide) cl_e10 rfl, pw_use hT hK hFc hS hM⟩ rfl rfl hl.1 rfl (lv_room (Nat.le_of_ble_eq_true rfl)) dL_ill_5 ⟨Nat.le_of_ble_eq_true rfl, Nat.le_of_ble_eq_true rfl⟩) hS (fun q _ h => hFc q h) hFc (fun q _ h => hFc q h) (fun E ce q9 u9 t H locs ht hvm hpx hBX hz1 hk1 hS hce hcv hcl => ?_) (fun r0 r9 t H locs ht hvm hw hB hz1 hk1 hS => ?_)
  · obtain ⟨hE, ⟨t1, l1, y1, g1, hMo1, hKM1, hI, hT⟩⟩ := hBX
    subst hE
    rw [ht] at hT
    have hKM := hKM.tr hMo hKM1
    have hMo := hMo.tr hMo1 hSz
    have hX := hI.1
    have hF : ∀ q, t1 q ≠ 0 → A q := fun q h => by rw [← hAe]; exact hMo.2 q h
    refine vx_widen (k := 1) (n := 6) (Nat.le_of_ble_eq_true rfl) (Nat.le_of_ble_eq_true rfl) ?_
    refine ux_catch (name := NSE) hown _ [] htb (by decide) (by decide) (hts (.classLink RL 13 "java/util/NoSuchElementException") (List.mem_cons_of_mem _ (List.mem_append_left _ (List.mem_of_getElem? (i := 4) rfl)))) (va_Nw.use rfl hM.2.2.2.2.2.2.1.2.2.2) hce hcv hcl ?_
    refine W.eq (g2 := F0 m 13 ls [.ref q9]) rfl ?_
    refine lv_astore (lv' := [(4, .ref q9), (0, .ref (a 0)), (1, .int p0), (2, .int p1), (3, .ref (a 49))]) hx hb dL_ill_13 hl (by decide) rfl (fun ls hl => ?_)
    refine lv_iconst (v := 1) hx hb dL_ill_15 (by decide) ?_
    exact W.iret (v := 1) hx hb hr (fun t ht hW9 => ⟨⟨1, 1, rfl, rfl, ⟨u, fun _ _ => rfl, ⟨t1, l1, y1, g1, hMo, hKM, hI, tw_at ht hT⟩⟩⟩, hS.F ht⟩) hS.2.2 dL_ill_16
  · subst hw
    obtain ⟨u2, hu2, ⟨t1, l1, y1, g1, hMo1, hKM1, hI, hT⟩⟩ := hB
    rw [ht] at hT
    have hKM := hKM.tr hMo hKM1
    have hMo := hMo.tr hMo1 hSz
    have hX := hI.1
    have hF : ∀ q, t1 q ≠ 0 → A q := fun q h => by rw [← hAe]; exact hMo.2 q h
    refine W.widen (k := 1) (n := 6) (Nat.le_of_ble_eq_true rfl) (Nat.le_of_ble_eq_true rfl) ?_
    refine lv_i2l hx hb dL_ill_8 rfl ?_
    refine tw_last (x := r9) hx hb hK hT hF hS (fx_49 hX) dL_ill_9 (fun H locs hT hS => ?_)
    obtain ⟨y_1, hy_1, hT⟩ : ∃ z : Nat → Nat → Int32, z = up2 y1 (a 49) ((0 : Int32).toNatClampNeg) r9 ∧ tw (dC, dI) a k t1 l1 z g1 H := ⟨_, rfl, hT⟩
    have hKM : kpM τ y g y_1 g1 := by rw [hy_1]; exact hKM.up hMo (fx_49 hX) (by decide)
    have hI := hI.ag (S := [59]) (y' := y_1) (by rw [hy_1]; exact ag.one (fx_49 hX)) (by decide)
    refine lv_goto (tgt := 17) hx hb dL_ill_10 (by decide) ?_
    refine lv_iconst (v := 0) hx hb dL_ill_17 (by decide) ?_
    exact W.iret (v := 0) hx hb hr (fun t ht hW9 => ⟨⟨0, 0, rfl, rfl, ⟨u2, (by intro i hi; simp only [List.mem_cons, List.not_mem_nil, or_false, not_or] at hi; rw [hu2 i (by simp <;> omega)]), ⟨t1, l1, y_1, g1, hMo, hKM, hI, tw_at ht hT⟩⟩⟩, hS.F ht⟩) hS.2.2 dL_ill_18
def wo_k_row : List Cond := [.methodLink RL 28 yX11_row, .instanceMethod yX11_row, .selects RX11 yX11_row yX11_row, .initialized RX11, .classLink RL 13 "java/util/NoSuchElementException"]
def wm_k_row : List Cond := .codeWith yL_row cL_row 4 (some .int) [(0, 9, 12, 13)] :: (wo_k_row ++ (wm_t_row ++ ([] : List Cond)))
theorem gd_k_row : ∀ w ∈ wm_k_row, goodWord w = true := gd_c rfl (gd_a (by decide) (gd_a gd_t_row gd_nil))
set_option maxRecDepth 20000 in
theorem im_k_row : ∀ w ∈ wm_k_row, w ∈ lw_tbl := im_c (in_r [.codeWith yL_row cL_row 4 (some .int) [(0, 9, 12, 13)]] [1206] (by decide +kernel)) (in_app (in_r wo_k_row [1207, 1208, 1209, 70, 1085] (by decide +kernel)) (in_app im_t_row im_nil))
set_option maxHeartbeats 4000000 in
set_option maxRecDepth 100000 in
theorem k_row (l : Launch) (hst : l.stackTraces = false) (dC : Nat → ClassId) (dI : Nat → Nat → Nat) (ad av : Nat → Nat) (sz : Nat) (a : Nat → Nat) (k : Nat → ClassId) (τ ln : Nat → Nat) (y : Nat → Nat → Int32) (g : Nat → Nat → Option Nat) (u : Nat → Int) (p0 : Int32) (hI : IC a u τ ln y g) : Met l yL_row wm_k_row ({ frames := 9, cells := 1, slots := 6, locals := 260 }) (pw_ ad av (dC, dI) sz [.ref (a 0), .int p0, .ref (a 49)] a k τ ln y g) (va_Qi (fun (r u : Int32) => u = r) (fun (r : Int32) (t : State) => (∃ (u' : Nat → Int), (∀ i, i ∉ ([] : List Nat) → u' i = u i) ∧ pq (dC, dI) a k τ y g u' sz t.heap)) (fr τ sz)) 1 6 (fr τ sz) := by
  refine va_MetW (cc := cL_row) (maxL := 4) (ret := (some .int)) (by decide) rfl ?_
  intro p e s m args below meth c s₁ B hml hv
  obtain ⟨rfl, hsz, hT, hK, hM⟩ := hv
  have hx := B.exec
  have hb := B.bytes
  have hr := B.returns
  have hts := atoms_spec (ws := wm_k_row) B.pre
  have hown : s.vm.findClass RL = some m.cls := findClass_of_methodNamed B.named
  have hlocks := B.notSynchronized
  subst hsz
  generalize hAe : fr τ s.heap.size = A at hM ⊢
  have hA : ∀ q : Nat, s.heap.size ≤ q → A q := fun q h => by rw [← hAe]; exact Or.inr h
  have hF : ∀ q, τ q ≠ 0 → A q := fun q h => by rw [← hAe]; exact Or.inl h
  have hS : va_S A s.heap s.heap [] := va_S.rf
  have hX := hI.1
  have hR := ic_r hI
  have hMo : mono τ τ s.heap.size := mono.rf
  have hKM : kpM τ y g y g := kpM.rf
  have hl := lv_entry ([.ref (a 0), .int p0, .ref (a 49)]) (n := 4) (Nat.le_of_ble_eq_true rfl)
  rw [lg_entry_eq]
  generalize (lg_sl ([.ref (a 0), .int p0, .ref (a 49)]) ++ List.replicate (4 - (lg_sl ([.ref (a 0), .int p0, .ref (a 49)])).length) Slot.unset).toArray = ls at hl ⊢
  have hl : lv_has ls 4 [(0, .ref (a 0)), (1, .int p0), (2, .ref (a 49))] := hl
  refine lv_aload_n hx hb dL_row_0 rfl (lv_at hl 2 rfl) ?_
  refine lv_iconst (v := 0) hx hb dL_row_1 (by decide) ?_
  refine lv_aload_n hx hb dL_row_2 rfl (lv_at hl 0 rfl) ?_
  refine lv_iload_n hx hb dL_row_3 rfl (lv_at hl 1 rfl) ?_
  have hFc := tw_free hF hS hA
  have hSz := hS.1
  have htb := vx_table (x := yL_row) B (hts _ List.mem_cons_self)
  refine vx_calli (vx_runV (As := [.int p0]) (rest := [.int 0, .ref (a 49)]) ⟨hx, hb, hml, hown, hts⟩ (t_row l hst dC dI ad av s.heap.size a k τ ln y g u p0 hI) (cwV 1 hts (gi_4 (List.mem_cons_of_mem _ (List.mem_append_left _ (List.mem_of_getElem? (i := 0) rfl))) (List.mem_cons_of_mem _ (List.mem_append_left _ (List.mem_of_getElem? (i := 1) rfl))) (List.mem_cons_of_mem _ (List.mem_append_left _ (List.mem_of_getElem? (i := 2) rfl))) (List.mem_cons_of_mem _ (List.mem_append_left _ (List.mem_of_getElem? (i := 3) rfl))) (fun _ hh => (List.mem_cons_of_mem _ (List.mem_append_right _ (List.mem_append_left _ hh)))) gd_t_row) rfl rfl rfl (by decide +kernel) ⟨Nat.le_of_ble_eq_true rfl, Nat.le_of_ble_eq_true rfl⟩) ⟨pw_blind, tw_recv hK hT (fx_0 hX) (by decide) cl_e10 rfl, pw_use hT hK hFc hS hM⟩ rfl rfl hl.1 rfl (lv_room (Nat.le_of_ble_eq_true rfl)) dL_row_4 ⟨Nat.le_of_ble_eq_true rfl, Nat.le_of_ble_eq_true rfl⟩) hS (fun q _ h => hFc q h) hFc (fun q _ h => hFc q h) (fun E ce q9 u9 t H locs ht hvm hpx hBX hz1 hk1 hS hce hcv hcl => ?_) (fun r0 r9 t H locs ht hvm hw hB hz1 hk1 hS => ?_)
  · obtain ⟨hE, ⟨t1, l1, y1, g1, hMo1, hKM1, hI, hT⟩⟩ := hBX
    subst hE
    rw [ht] at hT
    have hKM := hKM.tr hMo hKM1
    have hMo := hMo.tr hMo1 hSz
    have hX := hI.1
    have hF : ∀ q, t1 q ≠ 0 → A q := fun q h => by rw [← hAe]; exact hMo.2 q h
    refine vx_widen (k := 1) (n := 6) (Nat.le_of_ble_eq_true rfl) (Nat.le_of_ble_eq_true rfl) ?_
    refine ux_catch (name := NSE) hown _ [] htb (by decide) (by decide) (hts (.classLink RL 13 "java/util/NoSuchElementException") (List.mem_cons_of_mem _ (List.mem_append_left _ (List.mem_of_getElem? (i := 4) rfl)))) (va_Nw.use rfl hM.2.2.2.2.2.2.1.2.2.2) hce hcv hcl ?_
    refine W.eq (g2 := F0 m 12 ls [.ref q9]) rfl ?_
    refine lv_astore_n (lv' := [(3, .ref q9), (0, .ref (a 0)), (1, .int p0), (2, .ref (a 49))]) hx hb dL_row_12 rfl hl (by decide) rfl (fun ls hl => ?_)
    refine lv_iconst (v := 1) hx hb dL_row_13 (by decide) ?_
    exact W.iret (v := 1) hx hb hr (fun t ht hW9 => ⟨⟨1, 1, rfl, rfl, ⟨u, fun _ _ => rfl, ⟨t1, l1, y1, g1, hMo, hKM, hI, tw_at ht hT⟩⟩⟩, hS.F ht⟩) hS.2.2 dL_row_14
  · subst hw
    obtain ⟨u2, hu2, ⟨t1, l1, y1, g1, hMo1, hKM1, hI, hT⟩⟩ := hB
    rw [ht] at hT
    have hKM := hKM.tr hMo hKM1
    have hMo := hMo.tr hMo1 hSz
    have hX := hI.1
    have hF : ∀ q, t1 q ≠ 0 → A q := fun q h => by rw [← hAe]; exact hMo.2 q h
    refine W.widen (k := 1) (n := 6) (Nat.le_of_ble_eq_true rfl) (Nat.le_of_ble_eq_true rfl) ?_
    refine lv_i2l hx hb dL_row_7 rfl ?_
    refine tw_last (x := r9) hx hb hK hT hF hS (fx_49 hX) dL_row_8 (fun H locs hT hS => ?_)
    obtain ⟨y_1, hy_1, hT⟩ : ∃ z : Nat → Nat → Int32, z = up2 y1 (a 49) ((0 : Int32).toNatClampNeg) r9 ∧ tw (dC, dI) a k t1 l1 z g1 H := ⟨_, rfl, hT⟩
    have hKM : kpM τ y g y_1 g1 := by rw [hy_1]; exact hKM.up hMo (fx_49 hX) (by decide)
    have hI := hI.ag (S := [59]) (y' := y_1) (by rw [hy_1]; exact ag.one (fx_49 hX)) (by decide)
    refine lv_goto (tgt := 15) hx hb dL_row_9 (by decide) ?_
    refine lv_iconst (v := 0) hx hb dL_row_15 (by decide) ?_
    exact W.iret (v := 0) hx hb hr (fun t ht hW9 => ⟨⟨0, 0, rfl, rfl, ⟨u2, (by intro i hi; simp only [List.mem_cons, List.not_mem_nil, or_false, not_or] at hi; rw [hu2 i (by simp <;> omega)]), ⟨t1, l1, y_1, g1, hMo, hKM, hI, tw_at ht hT⟩⟩⟩, hS.F ht⟩) hS.2.2 dL_row_16
theorem z_rem2 {x y r : Int32} {a b : Int} (he : r = x - x / y * y) (hx : x.toInt = a) (hy : y.toInt = b) (h0 : 0 ≤ a) (h1 : 1 ≤ b) : 0 ≤ r.toInt ∧ r.toInt < b := by
  have hr := (z_rg x).2
  rw [hx] at hr
  have e0 := z_divb (r := x / y) rfl hx hy h0 h1
  have e4 : (x / y).toInt = a / b := by
    rw [Int32.toInt_div, hx, hy, Int.tdiv_eq_ediv_of_nonneg h0]
    have g1 : 0 ≤ a / b := Int.ediv_nonneg h0 (by omega)
    have g2 : a / b ≤ a := Int.ediv_le_self b h0
    exact z_bm (by omega) (by omega)
  have e5 : a / b * b ≤ a := Int.ediv_mul_le a (by omega)
  have e6 : 0 ≤ a / b * b := Int.mul_nonneg (Int.ediv_nonneg h0 (by omega)) (by omega)
  have e8 := Int.emod_def a b
  rw [Int.mul_comm] at e8
  have e9 := Int.emod_nonneg a (b := b) (by omega)
  have e10 := Int.emod_lt_of_pos a (b := b) (by omega)
  generalize hm : a / b * b = m at *
  have e7 : (x / y * y).toInt = m := by rw [← hm]; exact z_mul rfl e4 hy (by rw [hm]; omega) (by rw [hm]; omega)
  have e11 := z_sub he hx e7 (by omega) (by omega)
  omega

def wo_c_stateOfF : List Cond := [.fieldLink RX3 34 "TypingPool$Floor" "done" "[I", .fieldLink RX3 31 "TypingPool$Floor" "taken" "[I", .fieldLink RX3 43 "TypingPool$Floor" "book" "LTypingPool$Book;", .fieldLink RX3 103 "TypingPool$Book" "pieces" "[LTypingPool$Piece;", .fieldLink RX3 184 "TypingPool$Piece" "comes" "I", .fieldLink RX3 9 "TypingPool$Floor" "now" "I"]
def wm_c_stateOfF : List Cond := .code yX3_stateOf cX3_stateOf 2 (some .int) :: (wo_c_stateOfF ++ (wsX30 ++ (wsX10 ++ (wsX60 ++ ([] : List Cond)))))
theorem gd_c_stateOfF : ∀ w ∈ wm_c_stateOfF, goodWord w = true := gd_c rfl (gd_a (by decide) (gd_a gd_wsX30 (gd_a gd_wsX10 (gd_a gd_wsX60 gd_nil))))
set_option maxRecDepth 20000 in
theorem im_c_stateOfF : ∀ w ∈ wm_c_stateOfF, w ∈ lw_tbl := im_c (in_r [.code yX3_stateOf cX3_stateOf 2 (some .int)] [770] (by decide +kernel)) (in_app (in_r wo_c_stateOfF [446, 444, 426, 130, 681, 428] (by decide +kernel)) (in_app im_wsX30 (in_app im_wsX10 (in_app im_wsX60 im_nil))))
set_option maxHeartbeats 4000000 in
set_option maxRecDepth 100000 in
theorem c_stateOfF (l : Launch) (dC : Nat → ClassId) (dI : Nat → Nat → Nat) (ad av : Nat → Nat) (sz : Nat) (a : Nat → Nat) (k : Nat → ClassId) (τ ln : Nat → Nat) (y : Nat → Nat → Int32) (g : Nat → Nat → Option Nat) (u : Nat → Int) (p0 : Int32) (hI : IC a u τ ln y g) (hlp0 : 0 ≤ p0.toInt) (hup0 : p0.toInt < u 2) : Met l yX3_stateOf wm_c_stateOfF ({ frames := 0, cells := 0, slots := 0, locals := 0 }) (pw_ ad av (dC, dI) sz [.ref (a 3), .int p0] a k τ ln y g) (va_Qi (fun (r u : Int32) => u = r) (fun (r : Int32) (t : State) => (r = 1 ∧ (y (a 25) p0.toNatClampNeg).toInt = -1 ∧ tw (dC, dI) a k τ ln y g t.heap) ∨ (r = 3 ∧ tw (dC, dI) a k τ ln y g t.heap) ∨ (r = 2 ∧ tw (dC, dI) a k τ ln y g t.heap) ∨ (r = 0 ∧ tw (dC, dI) a k τ ln y g t.heap)) (fr τ sz)) 0 0 (fr τ sz) := by
  refine Met.ofW (cc := cX3_stateOf) (maxL := 2) (ret := (some .int)) (by decide) rfl ?_
  intro p e s m args below meth c s₁ B hml hv
  obtain ⟨rfl, hsz, hT, hK, hM⟩ := hv
  have hx := B.exec
  have hb := B.bytes
  have hr := B.returns
  have hts := atoms_spec (ws := wm_c_stateOfF) B.pre
  have hown : s.vm.findClass RX3 = some m.cls := findClass_of_methodNamed B.named
  have hlocks := B.notSynchronized
  subst hsz
  generalize hAe : fr τ s.heap.size = A at hM ⊢
  have hA : ∀ q : Nat, s.heap.size ≤ q → A q := fun q h => by rw [← hAe]; exact Or.inr h
  have hF : ∀ q, τ q ≠ 0 → A q := fun q h => by rw [← hAe]; exact Or.inl h
  have hS : va_S A s.heap s.heap [] := va_S.rf
  have hX := hI.1
  have hR := ic_r hI
  have hl := lv_entry ([.ref (a 3), .int p0]) (n := 2) (Nat.le_of_ble_eq_true rfl)
  rw [lg_entry_eq]
  generalize (lg_sl ([.ref (a 3), .int p0]) ++ List.replicate (2 - (lg_sl ([.ref (a 3), .int p0])).length) Slot.unset).toArray = ls at hl ⊢
  have hl : lv_has ls 2 [(0, .ref (a 3)), (1, .int p0)] := hl
  refine lv_aload_n hx hb dX3_stateOf_0 rfl (lv_at hl 0 rfl) ?_
  refine tw_get (D := (dC, dI)) (v := .ref (a 26)) (C := RX3) (T := TX3) (N := 12) hx hb hts (fun _ hh => (List.mem_cons_of_mem _ (List.mem_append_right _ (List.mem_append_left _ hh)))) hown hK hT (fx_3 hX) (by decide) cl_e13 rfl 9 (by decide) (hts (.fieldLink RX3 34 "TypingPool$Floor" "done" "[I") (List.mem_cons_of_mem _ (List.mem_append_left _ (List.mem_of_getElem? (i := 0) rfl)))) (fun _ h9 => h9) rfl dX3_stateOf_1 ?_
  refine lv_iload_n hx hb dX3_stateOf_4 rfl (lv_at hl 1 rfl) ?_
  refine tw_iald hx hb hK hT 0 (fx_26 hX) (by decide) cl_e36 rfl (z_in rfl (by omega) (by omega)) dX3_stateOf_5 ?_
  refine lv_iconst (v := (-1)) hx hb dX3_stateOf_6 (by decide) ?_
  refine lv_icmp_eq (tgt := 12) hx hb dX3_stateOf_7 (by decide) (fun c_1 => ?_) (fun c_1 => ?_)
  · have nc_1 := z_eq rfl (zk (x := (-1)) (-1) rfl) c_1
    refine lv_aload_n hx hb dX3_stateOf_12 rfl (lv_at hl 0 rfl) ?_
    refine tw_get (D := (dC, dI)) (v := .ref (a 25)) (C := RX3) (T := TX3) (N := 12) hx hb hts (fun _ hh => (List.mem_cons_of_mem _ (List.mem_append_right _ (List.mem_append_left _ hh)))) hown hK hT (fx_3 hX) (by decide) cl_e13 rfl 8 (by decide) (hts (.fieldLink RX3 31 "TypingPool$Floor" "taken" "[I") (List.mem_cons_of_mem _ (List.mem_append_left _ (List.mem_of_getElem? (i := 1) rfl)))) (fun _ h9 => h9) rfl dX3_stateOf_13 ?_
    refine lv_iload_n hx hb dX3_stateOf_16 rfl (lv_at hl 1 rfl) ?_
    refine tw_iald hx hb hK hT 0 (fx_25 hX) (by decide) cl_e35 rfl (z_in rfl (by omega) (by omega)) dX3_stateOf_17 ?_
    refine lv_iconst (v := (-1)) hx hb dX3_stateOf_18 (by decide) ?_
    refine lv_icmp_eq (tgt := 24) hx hb dX3_stateOf_19 (by decide) (fun c_2 => ?_) (fun c_2 => ?_)
    · have nc_2 := z_eq rfl (zk (x := (-1)) (-1) rfl) c_2
      refine lv_aload_n hx hb dX3_stateOf_24 rfl (lv_at hl 0 rfl) ?_
      refine tw_get (D := (dC, dI)) (v := .ref (a 1)) (C := RX3) (T := TX3) (N := 12) hx hb hts (fun _ hh => (List.mem_cons_of_mem _ (List.mem_append_right _ (List.mem_append_left _ hh)))) hown hK hT (fx_3 hX) (by decide) cl_e13 rfl 0 (by decide) (hts (.fieldLink RX3 43 "TypingPool$Floor" "book" "LTypingPool$Book;") (List.mem_cons_of_mem _ (List.mem_append_left _ (List.mem_of_getElem? (i := 2) rfl)))) (fun _ h9 => h9) rfl dX3_stateOf_25 ?_
      refine tw_get (D := (dC, dI)) (v := .ref (a 11)) (C := RX1) (T := TX1) (N := 8) hx hb hts (fun _ hh => (List.mem_cons_of_mem _ (List.mem_append_right _ (List.mem_append_right _ (List.mem_append_left _ hh))))) hown hK hT (fx_1 hX) (by decide) cl_e11 rfl 4 (by decide) (hts (.fieldLink RX3 103 "TypingPool$Book" "pieces" "[LTypingPool$Piece;") (List.mem_cons_of_mem _ (List.mem_append_left _ (List.mem_of_getElem? (i := 3) rfl)))) (fun _ h9 => h9) rfl dX3_stateOf_28 ?_
      refine lv_iload_n hx hb dX3_stateOf_31 rfl (lv_at hl 1 rfl) ?_
      refine tw_aald hx hb hK hT 4 (fx_11 hX) (by decide) cl_e21 rfl (z_in rfl (by omega) (by omega)) dX3_stateOf_32 ?_
      obtain ⟨q_3, hgq_3, htq_3⟩ := ic_l11 hI (x := p0) rfl (by omega) (by omega)
      refine lq_topr hgq_3 ?_
      refine tw_get (D := (dC, dI)) (v := .int (y q_3 5)) (C := RX6) (T := TX6) (N := 11) hx hb hts (fun _ hh => (List.mem_cons_of_mem _ (List.mem_append_right _ (List.mem_append_right _ (List.mem_append_right _ (List.mem_append_left _ hh)))))) hown hK hT htq_3 (by decide) cl_e2 rfl 5 (by decide) (hts (.fieldLink RX3 184 "TypingPool$Piece" "comes" "I") (List.mem_cons_of_mem _ (List.mem_append_left _ (List.mem_of_getElem? (i := 4) rfl)))) (fun _ h9 => h9) rfl dX3_stateOf_33 ?_
      refine lv_aload_n hx hb dX3_stateOf_36 rfl (lv_at hl 0 rfl) ?_
      refine tw_get (D := (dC, dI)) (v := .int (y (a 3) 2)) (C := RX3) (T := TX3) (N := 12) hx hb hts (fun _ hh => (List.mem_cons_of_mem _ (List.mem_append_right _ (List.mem_append_left _ hh)))) hown hK hT (fx_3 hX) (by decide) cl_e13 rfl 2 (by decide) (hts (.fieldLink RX3 9 "TypingPool$Floor" "now" "I") (List.mem_cons_of_mem _ (List.mem_append_left _ (List.mem_of_getElem? (i := 5) rfl)))) (fun _ h9 => h9) rfl dX3_stateOf_37 ?_
      refine lv_icmp_gt (tgt := 47) hx hb dX3_stateOf_40 (by decide) (fun c_4 => ?_) (fun c_4 => ?_)
      · have nc_4 := z_lt rfl rfl c_4
        refine lv_iconst (v := 0) hx hb dX3_stateOf_47 (by decide) ?_
        exact W.iret (v := 0) hx hb hr (fun t ht hW9 => ⟨⟨0, 0, rfl, rfl, Or.inr (Or.inr (Or.inr (⟨rfl, tw_at ht hT⟩)))⟩, hS.F ht⟩) hS.2.2 dX3_stateOf_48
      · have nc_4 := z_nlt rfl rfl c_4
        refine lv_iconst (v := 1) hx hb dX3_stateOf_43 (by decide) ?_
        refine lv_goto (tgt := 48) hx hb dX3_stateOf_44 (by decide) ?_
        have hrv : (1 : Int32).toInt = 1 := (zk (x := 1) 1 rfl)
        exact W.iret (v := 1) hx hb hr (fun t ht hW9 => ⟨⟨1, 1, rfl, rfl, Or.inl ⟨rfl, by omega, tw_at ht hT⟩⟩, hS.F ht⟩) hS.2.2 dX3_stateOf_48
    · have nc_2 := z_ne rfl (zk (x := (-1)) (-1) rfl) c_2
      refine lv_iconst (v := 2) hx hb dX3_stateOf_22 (by decide) ?_
      exact W.iret (v := 2) hx hb hr (fun t ht hW9 => ⟨⟨2, 2, rfl, rfl, Or.inr (Or.inr (Or.inl ⟨rfl, tw_at ht hT⟩))⟩, hS.F ht⟩) hS.2.2 dX3_stateOf_23
  · have nc_1 := z_ne rfl (zk (x := (-1)) (-1) rfl) c_1
    refine lv_iconst (v := 3) hx hb dX3_stateOf_10 (by decide) ?_
    exact W.iret (v := 3) hx hb hr (fun t ht hW9 => ⟨⟨3, 3, rfl, rfl, Or.inr (Or.inl ⟨rfl, tw_at ht hT⟩)⟩, hS.F ht⟩) hS.2.2 dX3_stateOf_11
def wo_c_firstForF : List Cond := [.fieldLink RX3 43 "TypingPool$Floor" "book" "LTypingPool$Book;", .fieldLink RX3 85 "TypingPool$Book" "pieceCount" "I", .methodLink RX3 88 yX3_stateOf, .instanceMethod yX3_stateOf, .selects RX3 yX3_stateOf yX3_stateOf, .initialized RX3, .methodLink RX3 91 yX3_mayDo, .instanceMethod yX3_mayDo, .selects RX3 yX3_mayDo yX3_mayDo, .methodLink RX3 95 yX3_haste, .instanceMethod yX3_haste, .selects RX3 yX3_haste yX3_haste]
def wm_c_firstForF : List Cond := .code yX3_firstFor cX3_firstFor 7 (some .int) :: (wo_c_firstForF ++ (wsX30 ++ (wsX10 ++ (wm_c_stateOfF ++ (wm_c_mayDoN ++ (wm_c_hasteN ++ ([] : List Cond)))))))
theorem gd_c_firstForF : ∀ w ∈ wm_c_firstForF, goodWord w = true := gd_c rfl (gd_a (by decide) (gd_a gd_wsX30 (gd_a gd_wsX10 (gd_a gd_c_stateOfF (gd_a gd_c_mayDoN (gd_a gd_c_hasteN gd_nil))))))
set_option maxRecDepth 20000 in
theorem im_c_firstForF : ∀ w ∈ wm_c_firstForF, w ∈ lw_tbl := im_c (in_r [.code yX3_firstFor cX3_firstFor 7 (some .int)] [766] (by decide +kernel)) (in_app (in_r wo_c_firstForF [426, 134, 767, 768, 769, 83, 771, 772, 773, 797, 798, 799] (by decide +kernel)) (in_app im_wsX30 (in_app im_wsX10 (in_app im_c_stateOfF (in_app im_c_mayDoN (in_app im_c_hasteN im_nil))))))
set_option maxHeartbeats 4000000 in
set_option maxRecDepth 100000 in
theorem c_firstForF (l : Launch) (dC : Nat → ClassId) (dI : Nat → Nat → Nat) (ad av : Nat → Nat) (sz : Nat) (a : Nat → Nat) (k : Nat → ClassId) (τ ln : Nat → Nat) (y : Nat → Nat → Int32) (g : Nat → Nat → Option Nat) (u : Nat → Int) (p0 : Int32) (hI : IC a u τ ln y g) (hlp0 : 0 ≤ p0.toInt) (hup0 : p0.toInt < u 1) : Met l yX3_firstFor wm_c_firstForF ({ frames := 4, cells := 0, slots := 0, locals := 240 }) (pw_ ad av (dC, dI) sz [.ref (a 3), .int p0, .null] a k τ ln y g) (va_Qi (fun (r u : Int32) => u = r) (fun (r : Int32) (t : State) => (∃ (y' : Nat → Nat → Int32), ag τ [24, 27] y y' ∧ (r.toInt = -1 ∨ ((0 ≤ r.toInt ∧ r.toInt < u 2) ∧ (y (a 25) r.toNatClampNeg).toInt = -1)) ∧ tw (dC, dI) a k τ ln y' g t.heap)) (fr τ sz)) 0 0 (fr τ sz) := by
  refine Met.ofW (cc := cX3_firstFor) (maxL := 7) (ret := (some .int)) (by decide) rfl ?_
  intro p e s m args below meth c s₁ B hml hv
  obtain ⟨rfl, hsz, hT, hK, hM⟩ := hv
  have hx := B.exec
  have hb := B.bytes
  have hr := B.returns
  have hts := atoms_spec (ws := wm_c_firstForF) B.pre
  have hown : s.vm.findClass RX3 = some m.cls := findClass_of_methodNamed B.named
  have hlocks := B.notSynchronized
  subst hsz
  generalize hAe : fr τ s.heap.size = A at hM ⊢
  have hA : ∀ q : Nat, s.heap.size ≤ q → A q := fun q h => by rw [← hAe]; exact Or.inr h
  have hF : ∀ q, τ q ≠ 0 → A q := fun q h => by rw [← hAe]; exact Or.inl h
  have hS : va_S A s.heap s.heap [] := va_S.rf
  have hX := hI.1
  have hR := ic_r hI
  have hG : ag τ [24, 27] y y := ag.rf
  have hl := lv_entry ([.ref (a 3), .int p0, .null]) (n := 7) (Nat.le_of_ble_eq_true rfl)
  rw [lg_entry_eq]
  generalize (lg_sl ([.ref (a 3), .int p0, .null]) ++ List.replicate (7 - (lg_sl ([.ref (a 3), .int p0, .null])).length) Slot.unset).toArray = ls at hl ⊢
  have hl : lv_has ls 7 [(0, .ref (a 3)), (1, .int p0), (2, .null)] := hl
  refine lv_iconst (v := (-1)) hx hb dX3_firstFor_0 (by decide) ?_
  refine lv_istore_n (lv' := [(3, .int (-1)), (0, .ref (a 3)), (1, .int p0), (2, .null)]) hx hb dX3_firstFor_1 rfl hl (by decide) rfl (fun ls hl => ?_)
  refine lv_iconst (v := 0) hx hb dX3_firstFor_2 (by decide) ?_
  refine lv_istore (lv' := [(4, .int 0), (3, .int (-1)), (0, .ref (a 3)), (1, .int p0), (2, .null)]) hx hb dX3_firstFor_3 hl (by decide) rfl (fun ls hl => ?_)
  refine lv_iconst (v := 0) hx hb dX3_firstFor_5 (by decide) ?_
  refine lv_istore (lv' := [(5, .int 0), (4, .int 0), (3, .int (-1)), (0, .ref (a 3)), (1, .int p0), (2, .null)]) hx hb dX3_firstFor_6 hl (by decide) rfl (fun ls hl => ?_)
  have loop_8 : ∀ (n : Nat) (i3 : Int32) (w4 : Int32) (i5 : Int32) (y_L8 : Nat → Nat → Int32) (H : Heap) (locs : List Loc) (ls : Array Slot), (u 2 - i5.toInt).toNat < n → ag τ [24, 27] y y_L8 → IC a u τ ln y_L8 g → 0 ≤ i5.toInt → i5.toInt ≤ u 2 → i3.toInt = -1 ∨ ((0 ≤ i3.toInt ∧ i3.toInt < u 2) ∧ (y (a 25) i3.toNatClampNeg).toInt = -1) → tw (dC, dI) a k τ ln y_L8 g H → va_S A s.heap H locs → lv_has ls 7 [(0, .ref (a 3)), (1, .int p0), (2, .null), (3, .int i3), (4, .int w4), (5, .int i5)] → W p l e (headSpec wm_c_firstForF ({ frames := 4, cells := 0, slots := 0, locals := 240 })).room s m ([.ref (a 3), .int p0, .null] : List Value).toArray below meth c H locs 0 0 (MQ below (va_Qi (fun (r u : Int32) => u = r) (fun (r : Int32) (t : State) => (∃ (y' : Nat → Nat → Int32), ag τ [24, 27] y y' ∧ (r.toInt = -1 ∨ ((0 ≤ r.toInt ∧ r.toInt < u 2) ∧ (y (a 25) r.toNatClampNeg).toInt = -1)) ∧ tw (dC, dI) a k τ ln y' g t.heap)) A) ([.ref (a 3), .int p0, .null] : List Value).toArray s 0 0 A) (F0 m 8 ls []) := by
    intro n
    induction n with
    | zero => intro i3 w4 i5 y_L8 H locs ls hlt; exact absurd hlt (Nat.not_lt_zero _)
    | succ n ih_8 =>
      intro i3 w4 i5 y_L8 H locs ls hlt hG hI hi8_0 hi8_1 hi8_2 hT hS hl
      refine lv_iload hx hb dX3_firstFor_8 (lv_at hl 5 rfl) ?_
      refine lv_aload_n hx hb dX3_firstFor_10 rfl (lv_at hl 0 rfl) ?_
      refine tw_get (D := (dC, dI)) (v := .ref (a 1)) (C := RX3) (T := TX3) (N := 12) hx hb hts (fun _ hh => (List.mem_cons_of_mem _ (List.mem_append_right _ (List.mem_append_left _ hh)))) hown hK hT (fx_3 hX) (by decide) cl_e13 rfl 0 (by decide) (hts (.fieldLink RX3 43 "TypingPool$Floor" "book" "LTypingPool$Book;") (List.mem_cons_of_mem _ (List.mem_append_left _ (List.mem_of_getElem? (i := 0) rfl)))) (fun _ h9 => h9) rfl dX3_firstFor_11 ?_
      refine tw_get (D := (dC, dI)) (v := .int (y_L8 (a 1) 5)) (C := RX1) (T := TX1) (N := 8) hx hb hts (fun _ hh => (List.mem_cons_of_mem _ (List.mem_append_right _ (List.mem_append_right _ (List.mem_append_left _ hh))))) hown hK hT (fx_1 hX) (by decide) cl_e11 rfl 5 (by decide) (hts (.fieldLink RX3 85 "TypingPool$Book" "pieceCount" "I") (List.mem_cons_of_mem _ (List.mem_append_left _ (List.mem_of_getElem? (i := 1) rfl)))) (fun _ h9 => h9) rfl dX3_firstFor_14 ?_
      have hc_1 := ic_2 hI
      refine lv_icmp_ge (tgt := 76) hx hb dX3_firstFor_17 (by decide) (fun c_2 => ?_) (fun c_2 => ?_)
      · have nc_2 := z_le hc_1 rfl c_2
        refine lv_iload_n hx hb dX3_firstFor_76 rfl (lv_at hl 3 rfl) ?_
        have hrv : i3.toInt = i3.toInt := rfl
        exact W.iret (v := i3) hx hb hr (fun t ht hW9 => ⟨⟨i3, i3, rfl, rfl, ⟨y_L8, hG, by omega, tw_at ht hT⟩⟩, hS.F ht⟩) hS.2.2 dX3_firstFor_77
      · have nc_2 := z_nle hc_1 rfl c_2
        refine lv_aload_n hx hb dX3_firstFor_20 rfl (lv_at hl 0 rfl) ?_
        refine lv_iload hx hb dX3_firstFor_21 (lv_at hl 5 rfl) ?_
        have hFc := tw_free hF hS hA
        refine va_calli (va_runV (As := [.int i5]) (rest := []) ⟨hx, hb, hml, hown, hts⟩ (c_stateOfF l dC dI ad av H.size a k τ ln y_L8 g u i5 hI (by omega) (by omega)) (cwV 1 hts (gi_4 (List.mem_cons_of_mem _ (List.mem_append_left _ (List.mem_of_getElem? (i := 2) rfl))) (List.mem_cons_of_mem _ (List.mem_append_left _ (List.mem_of_getElem? (i := 3) rfl))) (List.mem_cons_of_mem _ (List.mem_append_left _ (List.mem_of_getElem? (i := 4) rfl))) (List.mem_cons_of_mem _ (List.mem_append_left _ (List.mem_of_getElem? (i := 5) rfl))) (fun _ hh => (List.mem_cons_of_mem _ (List.mem_append_right _ (List.mem_append_right _ (List.mem_append_right _ (List.mem_append_left _ hh)))))) gd_c_stateOfF) rfl rfl rfl (by decide +kernel) ⟨Nat.le_of_ble_eq_true rfl, Nat.le_of_ble_eq_true rfl⟩) ⟨pw_blind, tw_recv hK hT (fx_3 hX) (by decide) cl_e13 rfl, pw_use hT hK hFc hS hM⟩ rfl rfl hl.1 rfl (lv_room (Nat.le_of_ble_eq_true rfl)) dX3_firstFor_23 ⟨Nat.le_of_ble_eq_true rfl, Nat.le_of_ble_eq_true rfl⟩) hS (fun q _ h => hFc q h) hFc (fun r0 r_3 t H locs ht hvm hw hB hz1 hk1 hS => ?_)
        refine W.widen (k := 0) (n := 0) (Nat.le_of_ble_eq_true rfl) (Nat.le_of_ble_eq_true rfl) ?_
        clear hvm hz1 hk1
        subst hw
        rcases hB with ⟨hre, hf_4, hT⟩ | ⟨hre, hT⟩ | ⟨hre, hT⟩ | ⟨hre, hT⟩
        · refine lq_top (v := 1) hre ?_
          rw [ht] at hT
          have hq25 : (y (a 25) i5.toNatClampNeg).toInt = -1 := by rw [← hG.at (fx_25 hX) (by decide)]; exact hf_4
          refine lv_iconst (v := 1) hx hb dX3_firstFor_26 (by decide) ?_
          refine lv_icmp_ne (tgt := 70) hx hb dX3_firstFor_27 (by decide) (fun c_5 => absurd c_5 (by decide)) (fun c_5 => ?_)
          refine lv_aload_n hx hb dX3_firstFor_30 rfl (lv_at hl 0 rfl) ?_
          refine lv_iload_n hx hb dX3_firstFor_31 rfl (lv_at hl 1 rfl) ?_
          refine lv_iload hx hb dX3_firstFor_32 (lv_at hl 5 rfl) ?_
          refine lv_aload_nN hx hb dX3_firstFor_34 rfl (lv_at hl 2 rfl) ?_
          have hFc := tw_free hF hS hA
          refine va_calli (va_runV (As := [.int p0, .int i5, .null]) (rest := []) ⟨hx, hb, hml, hown, hts⟩ (c_mayDoN l dC dI ad av H.size a k τ ln y_L8 g u p0 i5 hI (by omega) (by omega) (by omega) (by omega)) (cwV 3 hts (gi_4 (List.mem_cons_of_mem _ (List.mem_append_left _ (List.mem_of_getElem? (i := 6) rfl))) (List.mem_cons_of_mem _ (List.mem_append_left _ (List.mem_of_getElem? (i := 7) rfl))) (List.mem_cons_of_mem _ (List.mem_append_left _ (List.mem_of_getElem? (i := 8) rfl))) (List.mem_cons_of_mem _ (List.mem_append_left _ (List.mem_of_getElem? (i := 5) rfl))) (fun _ hh => (List.mem_cons_of_mem _ (List.mem_append_right _ (List.mem_append_right _ (List.mem_append_right _ (List.mem_append_right _ (List.mem_append_left _ hh))))))) gd_c_mayDoN) rfl rfl rfl (by decide +kernel) ⟨Nat.le_of_ble_eq_true rfl, Nat.le_of_ble_eq_true rfl⟩) ⟨pw_blind, tw_recv hK hT (fx_3 hX) (by decide) cl_e13 rfl, pw_use hT hK hFc hS hM⟩ rfl rfl hl.1 rfl (lv_room (Nat.le_of_ble_eq_true rfl)) dX3_firstFor_35 ⟨Nat.le_of_ble_eq_true rfl, Nat.le_of_ble_eq_true rfl⟩) hS (fun q _ h => hFc q h) hFc (fun r0 r_6 t H locs ht hvm hw hB hz1 hk1 hS => ?_)
          refine W.widen (k := 0) (n := 0) (Nat.le_of_ble_eq_true rfl) (Nat.le_of_ble_eq_true rfl) ?_
          clear hvm hz1 hk1
          subst hw
          rcases hB with ⟨y_7, hre, hgy_7, hT⟩ | ⟨y_8, hre, hgy_8, hT⟩
          · refine lq_top (v := 1) hre ?_
            rw [ht] at hT
            have hG := hG.tr hgy_7 (by decide)
            have hI := hI.ag hgy_7 (by decide)
            refine lv_if_eq (tgt := 70) hx hb dX3_firstFor_38 (by decide) (fun c_9 => absurd c_9 (by decide)) (fun c_9 => ?_)
            refine lv_aload_n hx hb dX3_firstFor_41 rfl (lv_at hl 0 rfl) ?_
            refine lv_iload_n hx hb dX3_firstFor_42 rfl (lv_at hl 1 rfl) ?_
            refine lv_iload hx hb dX3_firstFor_43 (lv_at hl 5 rfl) ?_
            refine lv_aload_nN hx hb dX3_firstFor_45 rfl (lv_at hl 2 rfl) ?_
            have hFc := tw_free hF hS hA
            refine va_calli (va_runV (As := [.int p0, .int i5, .null]) (rest := []) ⟨hx, hb, hml, hown, hts⟩ (c_hasteN l dC dI ad av H.size a k τ ln y_7 g u p0 i5 hI (by omega) (by omega) (by omega) (by omega)) (cwV 3 hts (gi_4 (List.mem_cons_of_mem _ (List.mem_append_left _ (List.mem_of_getElem? (i := 9) rfl))) (List.mem_cons_of_mem _ (List.mem_append_left _ (List.mem_of_getElem? (i := 10) rfl))) (List.mem_cons_of_mem _ (List.mem_append_left _ (List.mem_of_getElem? (i := 11) rfl))) (List.mem_cons_of_mem _ (List.mem_append_left _ (List.mem_of_getElem? (i := 5) rfl))) (fun _ hh => (List.mem_cons_of_mem _ (List.mem_append_right _ (List.mem_append_right _ (List.mem_append_right _ (List.mem_append_right _ (List.mem_append_right _ (List.mem_append_left _ hh)))))))) gd_c_hasteN) rfl rfl rfl (by decide +kernel) ⟨Nat.le_of_ble_eq_true rfl, Nat.le_of_ble_eq_true rfl⟩) ⟨pw_blind, tw_recv hK hT (fx_3 hX) (by decide) cl_e13 rfl, pw_use hT hK hFc hS hM⟩ rfl rfl hl.1 rfl (lv_room (Nat.le_of_ble_eq_true rfl)) dX3_firstFor_46 ⟨Nat.le_of_ble_eq_true rfl, Nat.le_of_ble_eq_true rfl⟩) hS (fun q _ h => hFc q h) hFc (fun r0 r_10 t H locs ht hvm hw hB hz1 hk1 hS => ?_)
            refine W.widen (k := 0) (n := 0) (Nat.le_of_ble_eq_true rfl) (Nat.le_of_ble_eq_true rfl) ?_
            clear hvm hz1 hk1
            subst hw
            obtain ⟨y_11, hgy_11, hT⟩ := hB
            rw [ht] at hT
            have hG := hG.tr hgy_11 (by decide)
            have hI := hI.ag hgy_11 (by decide)
            refine lv_istore (lv' := [(6, .int r_10), (0, .ref (a 3)), (1, .int p0), (2, .null), (3, .int i3), (4, .int w4), (5, .int i5)]) hx hb dX3_firstFor_49 hl (by decide) rfl (fun ls hl => ?_)
            refine lv_iload_n hx hb dX3_firstFor_51 rfl (lv_at hl 4 rfl) ?_
            refine lv_iconst (v := (-1)) hx hb dX3_firstFor_52 (by decide) ?_
            refine lv_icmp_eq (tgt := 63) hx hb dX3_firstFor_53 (by decide) (fun c_12 => ?_) (fun c_12 => ?_)
            · have nc_12 := z_eq rfl (zk (x := (-1)) (-1) rfl) c_12
              refine lv_iload hx hb dX3_firstFor_63 (lv_at hl 6 rfl) ?_
              refine lv_istore_n (lv' := [(3, .int i5), (6, .int r_10), (0, .ref (a 3)), (1, .int p0), (2, .null), (4, .int w4), (5, .int i5)]) hx hb dX3_firstFor_65 rfl hl (by decide) rfl (fun ls hl => ?_)
              refine lv_iload hx hb dX3_firstFor_66 (lv_at hl 1 rfl) ?_
              refine lv_istore (lv' := [(4, .int r_10), (3, .int i5), (6, .int r_10), (0, .ref (a 3)), (1, .int p0), (2, .null), (5, .int i5)]) hx hb dX3_firstFor_68 hl (by decide) rfl (fun ls hl => ?_)
              obtain ⟨x_13, ex_13⟩ : ∃ y : Int32, y = i5 + Int32.ofInt 1 := ⟨_, rfl⟩
              have hx_13 := z_add ex_13 rfl (zk (x := Int32.ofInt 1) 1 rfl) (by omega) (by omega)
              refine lv_iinc (v := x_13) (lv' := [(5, .int x_13), (4, .int r_10), (3, .int i5), (6, .int r_10), (0, .ref (a 3)), (1, .int p0), (2, .null)]) hx hb dX3_firstFor_70 hl (k := 6) rfl ex_13.symm (by decide) rfl (fun ls hl => ?_)
              refine lv_goto (tgt := 8) hx hb dX3_firstFor_73 (by decide) ?_
              exact ih_8  i5 r_10 x_13 y_11 H _ ls (by omega) hG hI (by omega) (by omega) (by omega) hT hS (lv_sub hl [4, 5, 6, 2, 1, 0] rfl)
            · have nc_12 := z_ne rfl (zk (x := (-1)) (-1) rfl) c_12
              refine lv_iload hx hb dX3_firstFor_56 (lv_at hl 0 rfl) ?_
              refine lv_iload hx hb dX3_firstFor_58 (lv_at hl 5 rfl) ?_
              refine lv_icmp_ge (tgt := 70) hx hb dX3_firstFor_60 (by decide) (fun c_14 => ?_) (fun c_14 => ?_)
              · have nc_14 := z_le rfl rfl c_14
                obtain ⟨x_15, ex_15⟩ : ∃ y : Int32, y = i5 + Int32.ofInt 1 := ⟨_, rfl⟩
                have hx_15 := z_add ex_15 rfl (zk (x := Int32.ofInt 1) 1 rfl) (by omega) (by omega)
                refine lv_iinc (v := x_15) (lv' := [(5, .int x_15), (6, .int r_10), (0, .ref (a 3)), (1, .int p0), (2, .null), (3, .int i3), (4, .int w4)]) hx hb dX3_firstFor_70 hl (k := 6) rfl ex_15.symm (by decide) rfl (fun ls hl => ?_)
                refine lv_goto (tgt := 8) hx hb dX3_firstFor_73 (by decide) ?_
                exact ih_8  i3 w4 x_15 y_11 H _ ls (by omega) hG hI (by omega) (by omega) (by omega) hT hS (lv_sub hl [2, 3, 4, 5, 6, 0] rfl)
              · have nc_14 := z_nle rfl rfl c_14
                refine lv_iload hx hb dX3_firstFor_63 (lv_at hl 6 rfl) ?_
                refine lv_istore_n (lv' := [(3, .int i5), (6, .int r_10), (0, .ref (a 3)), (1, .int p0), (2, .null), (4, .int w4), (5, .int i5)]) hx hb dX3_firstFor_65 rfl hl (by decide) rfl (fun ls hl => ?_)
                refine lv_iload hx hb dX3_firstFor_66 (lv_at hl 1 rfl) ?_
                refine lv_istore (lv' := [(4, .int r_10), (3, .int i5), (6, .int r_10), (0, .ref (a 3)), (1, .int p0), (2, .null), (5, .int i5)]) hx hb dX3_firstFor_68 hl (by decide) rfl (fun ls hl => ?_)
                obtain ⟨x_16, ex_16⟩ : ∃ y : Int32, y = i5 + Int32.ofInt 1 := ⟨_, rfl⟩
                have hx_16 := z_add ex_16 rfl (zk (x := Int32.ofInt 1) 1 rfl) (by omega) (by omega)
                refine lv_iinc (v := x_16) (lv' := [(5, .int x_16), (4, .int r_10), (3, .int i5), (6, .int r_10), (0, .ref (a 3)), (1, .int p0), (2, .null)]) hx hb dX3_firstFor_70 hl (k := 6) rfl ex_16.symm (by decide) rfl (fun ls hl => ?_)
                refine lv_goto (tgt := 8) hx hb dX3_firstFor_73 (by decide) ?_
                exact ih_8  i5 r_10 x_16 y_11 H _ ls (by omega) hG hI (by omega) (by omega) (by omega) hT hS (lv_sub hl [4, 5, 6, 2, 1, 0] rfl)
          · refine lq_top (v := 0) hre ?_
            rw [ht] at hT
            have hG := hG.tr hgy_8 (by decide)
            have hI := hI.ag hgy_8 (by decide)
            refine lv_if_eq (tgt := 70) hx hb dX3_firstFor_38 (by decide) (fun c_17 => ?_) (fun c_17 => absurd c_17 (by decide))
            obtain ⟨x_18, ex_18⟩ : ∃ y : Int32, y = i5 + Int32.ofInt 1 := ⟨_, rfl⟩
            have hx_18 := z_add ex_18 rfl (zk (x := Int32.ofInt 1) 1 rfl) (by omega) (by omega)
            refine lv_iinc (v := x_18) (lv' := [(5, .int x_18), (0, .ref (a 3)), (1, .int p0), (2, .null), (3, .int i3), (4, .int w4)]) hx hb dX3_firstFor_70 hl (k := 5) rfl ex_18.symm (by decide) rfl (fun ls hl => ?_)
            refine lv_goto (tgt := 8) hx hb dX3_firstFor_73 (by decide) ?_
            exact ih_8  i3 w4 x_18 y_8 H _ ls (by omega) hG hI (by omega) (by omega) (by omega) hT hS (lv_sub hl [1, 2, 3, 4, 5, 0] rfl)
        · refine lq_top (v := 3) hre ?_
          rw [ht] at hT
          refine lv_iconst (v := 1) hx hb dX3_firstFor_26 (by decide) ?_
          refine lv_icmp_ne (tgt := 70) hx hb dX3_firstFor_27 (by decide) (fun c_19 => ?_) (fun c_19 => absurd c_19 (by decide))
          obtain ⟨x_20, ex_20⟩ : ∃ y : Int32, y = i5 + Int32.ofInt 1 := ⟨_, rfl⟩
          have hx_20 := z_add ex_20 rfl (zk (x := Int32.ofInt 1) 1 rfl) (by omega) (by omega)
          refine lv_iinc (v := x_20) (lv' := [(5, .int x_20), (0, .ref (a 3)), (1, .int p0), (2, .null), (3, .int i3), (4, .int w4)]) hx hb dX3_firstFor_70 hl (k := 5) rfl ex_20.symm (by decide) rfl (fun ls hl => ?_)
          refine lv_goto (tgt := 8) hx hb dX3_firstFor_73 (by decide) ?_
          exact ih_8  i3 w4 x_20 y_L8 H _ ls (by omega) hG hI (by omega) (by omega) (by omega) hT hS (lv_sub hl [1, 2, 3, 4, 5, 0] rfl)
        · refine lq_top (v := 2) hre ?_
          rw [ht] at hT
          refine lv_iconst (v := 1) hx hb dX3_firstFor_26 (by decide) ?_
          refine lv_icmp_ne (tgt := 70) hx hb dX3_firstFor_27 (by decide) (fun c_21 => ?_) (fun c_21 => absurd c_21 (by decide))
          obtain ⟨x_22, ex_22⟩ : ∃ y : Int32, y = i5 + Int32.ofInt 1 := ⟨_, rfl⟩
          have hx_22 := z_add ex_22 rfl (zk (x := Int32.ofInt 1) 1 rfl) (by omega) (by omega)
          refine lv_iinc (v := x_22) (lv' := [(5, .int x_22), (0, .ref (a 3)), (1, .int p0), (2, .null), (3, .int i3), (4, .int w4)]) hx hb dX3_firstFor_70 hl (k := 5) rfl ex_22.symm (by decide) rfl (fun ls hl => ?_)
          refine lv_goto (tgt := 8) hx hb dX3_firstFor_73 (by decide) ?_
          exact ih_8  i3 w4 x_22 y_L8 H _ ls (by omega) hG hI (by omega) (by omega) (by omega) hT hS (lv_sub hl [1, 2, 3, 4, 5, 0] rfl)
        · refine lq_top (v := 0) hre ?_
          rw [ht] at hT
          refine lv_iconst (v := 1) hx hb dX3_firstFor_26 (by decide) ?_
          refine lv_icmp_ne (tgt := 70) hx hb dX3_firstFor_27 (by decide) (fun c_23 => ?_) (fun c_23 => absurd c_23 (by decide))
          obtain ⟨x_24, ex_24⟩ : ∃ y : Int32, y = i5 + Int32.ofInt 1 := ⟨_, rfl⟩
          have hx_24 := z_add ex_24 rfl (zk (x := Int32.ofInt 1) 1 rfl) (by omega) (by omega)
          refine lv_iinc (v := x_24) (lv' := [(5, .int x_24), (0, .ref (a 3)), (1, .int p0), (2, .null), (3, .int i3), (4, .int w4)]) hx hb dX3_firstFor_70 hl (k := 5) rfl ex_24.symm (by decide) rfl (fun ls hl => ?_)
          refine lv_goto (tgt := 8) hx hb dX3_firstFor_73 (by decide) ?_
          exact ih_8  i3 w4 x_24 y_L8 H _ ls (by omega) hG hI (by omega) (by omega) (by omega) hT hS (lv_sub hl [1, 2, 3, 4, 5, 0] rfl)
  have hp_25 : (-1 : Int32).toInt = (-1) := (zk (x := (-1)) (-1) rfl)
  have hp_26 : (0 : Int32).toInt = 0 := (zk (x := 0) 0 rfl)
  have hp_27 : (0 : Int32).toInt = 0 := (zk (x := 0) 0 rfl)
  exact loop_8 _ (-1 : Int32) (0 : Int32) (0 : Int32) y s.heap _ ls (Nat.lt_succ_self _) hG hI (by omega) (by omega) (by omega) hT hS (lv_sub hl [3, 4, 5, 2, 1, 0] rfl)
def wo_c_rateForF : List Cond := [.fieldLink RX3 43 "TypingPool$Floor" "book" "LTypingPool$Book;", .fieldLink RX3 112 "TypingPool$Book" "hands" "[LTypingPool$Hand;", .fieldLink RX3 116 "TypingPool$Hand" "speed" "I", .fieldLink RX3 103 "TypingPool$Book" "pieces" "[LTypingPool$Piece;", .methodLink RX3 107 yX6_unknownTo, .instanceMethod yX6_unknownTo, .selects RX6 yX6_unknownTo yX6_unknownTo, .initialized RX6, .methodLink RX3 121 Lib.Math.max.name, .static Lib.Math.max.name, .initialized "java/lang/Math", .code Lib.Math.max.name Lib.Math.max.code 2 (some .int)]
def wm_c_rateForF : List Cond := .code yX3_rateFor cX3_rateFor 4 (some .int) :: (wo_c_rateForF ++ (wsX30 ++ (wsX10 ++ (wsX40 ++ (wm_c_unknownTo ++ ([] : List Cond))))))
theorem gd_c_rateForF : ∀ w ∈ wm_c_rateForF, goodWord w = true := gd_c rfl (gd_a (by decide) (gd_a gd_wsX30 (gd_a gd_wsX10 (gd_a gd_wsX40 (gd_a gd_c_unknownTo gd_nil)))))
set_option maxRecDepth 20000 in
theorem im_c_rateForF : ∀ w ∈ wm_c_rateForF, w ∈ lw_tbl := im_c (in_r [.code yX3_rateFor cX3_rateFor 4 (some .int)] [822] (by decide +kernel)) (in_app (in_r wo_c_rateForF [426, 122, 609, 130, 801, 802, 803, 89, 823, 289, 78, 290] (by decide +kernel)) (in_app im_wsX30 (in_app im_wsX10 (in_app im_wsX40 (in_app im_c_unknownTo im_nil)))))
set_option maxHeartbeats 4000000 in
set_option maxRecDepth 100000 in
theorem c_rateForF (l : Launch) (dC : Nat → ClassId) (dI : Nat → Nat → Nat) (ad av : Nat → Nat) (sz : Nat) (a : Nat → Nat) (k : Nat → ClassId) (τ ln : Nat → Nat) (y : Nat → Nat → Int32) (g : Nat → Nat → Option Nat) (u : Nat → Int) (p0 : Int32) (p1 : Int32) (p2 : Int32) (hI : IC a u τ ln y g) (hlp0 : 0 ≤ p0.toInt) (hup0 : p0.toInt < u 1) (hlp1 : 0 ≤ p1.toInt) (hup1 : p1.toInt < u 2) (hsp : spA (u 1) a g y) : Met l yX3_rateFor wm_c_rateForF ({ frames := 2, cells := 0, slots := 0, locals := 120 }) (pw_ ad av (dC, dI) sz [.ref (a 3), .int p0, .int p1, .int p2] a k τ ln y g) (va_Qi (fun (r u : Int32) => u = r) (fun (r : Int32) (t : State) => (5 ≤ r.toInt ∧ r.toInt ≤ 200 ∧ tw (dC, dI) a k τ ln y g t.heap)) (fr τ sz)) 0 0 (fr τ sz) := by
  refine Met.ofW (cc := cX3_rateFor) (maxL := 4) (ret := (some .int)) (by decide) rfl ?_
  intro p e s m args below meth c s₁ B hml hv
  obtain ⟨rfl, hsz, hT, hK, hM⟩ := hv
  have hx := B.exec
  have hb := B.bytes
  have hr := B.returns
  have hts := atoms_spec (ws := wm_c_rateForF) B.pre
  have hown : s.vm.findClass RX3 = some m.cls := findClass_of_methodNamed B.named
  have hlocks := B.notSynchronized
  subst hsz
  generalize hAe : fr τ s.heap.size = A at hM ⊢
  have hA : ∀ q : Nat, s.heap.size ≤ q → A q := fun q h => by rw [← hAe]; exact Or.inr h
  have hF : ∀ q, τ q ≠ 0 → A q := fun q h => by rw [← hAe]; exact Or.inl h
  have hS : va_S A s.heap s.heap [] := va_S.rf
  have hX := hI.1
  have hR := ic_r hI
  have hl := lv_entry ([.ref (a 3), .int p0, .int p1, .int p2]) (n := 4) (Nat.le_of_ble_eq_true rfl)
  rw [lg_entry_eq]
  generalize (lg_sl ([.ref (a 3), .int p0, .int p1, .int p2]) ++ List.replicate (4 - (lg_sl ([.ref (a 3), .int p0, .int p1, .int p2])).length) Slot.unset).toArray = ls at hl ⊢
  have hl : lv_has ls 4 [(0, .ref (a 3)), (1, .int p0), (2, .int p1), (3, .int p2)] := hl
  refine lv_iconst (v := 5) hx hb dX3_rateFor_0 (by decide) ?_
  refine lv_aload_n hx hb dX3_rateFor_1 rfl (lv_at hl 0 rfl) ?_
  refine tw_get (D := (dC, dI)) (v := .ref (a 1)) (C := RX3) (T := TX3) (N := 12) hx hb hts (fun _ hh => (List.mem_cons_of_mem _ (List.mem_append_right _ (List.mem_append_left _ hh)))) hown hK hT (fx_3 hX) (by decide) cl_e13 rfl 0 (by decide) (hts (.fieldLink RX3 43 "TypingPool$Floor" "book" "LTypingPool$Book;") (List.mem_cons_of_mem _ (List.mem_append_left _ (List.mem_of_getElem? (i := 0) rfl)))) (fun _ h9 => h9) rfl dX3_rateFor_2 ?_
  refine tw_get (D := (dC, dI)) (v := .ref (a 10)) (C := RX1) (T := TX1) (N := 8) hx hb hts (fun _ hh => (List.mem_cons_of_mem _ (List.mem_append_right _ (List.mem_append_right _ (List.mem_append_left _ hh))))) hown hK hT (fx_1 hX) (by decide) cl_e11 rfl 2 (by decide) (hts (.fieldLink RX3 112 "TypingPool$Book" "hands" "[LTypingPool$Hand;") (List.mem_cons_of_mem _ (List.mem_append_left _ (List.mem_of_getElem? (i := 1) rfl)))) (fun _ h9 => h9) rfl dX3_rateFor_5 ?_
  refine lv_iload_n hx hb dX3_rateFor_8 rfl (lv_at hl 1 rfl) ?_
  refine tw_aald hx hb hK hT 3 (fx_10 hX) (by decide) cl_e20 rfl (z_in rfl (by omega) (by omega)) dX3_rateFor_9 ?_
  obtain ⟨q_1, hgq_1, htq_1⟩ := ic_l10 hI (x := p0) rfl (by omega) (by omega)
  refine lq_topr hgq_1 ?_
  refine tw_get (D := (dC, dI)) (v := .int (y q_1 0)) (C := RX4) (T := TX4) (N := 3) hx hb hts (fun _ hh => (List.mem_cons_of_mem _ (List.mem_append_right _ (List.mem_append_right _ (List.mem_append_right _ (List.mem_append_left _ hh)))))) hown hK hT htq_1 (by decide) cl_e1 rfl 0 (by decide) (hts (.fieldLink RX3 116 "TypingPool$Hand" "speed" "I") (List.mem_cons_of_mem _ (List.mem_append_left _ (List.mem_of_getElem? (i := 2) rfl)))) (fun _ h9 => h9) rfl dX3_rateFor_10 ?_
  have hsa_2 := sp_at hsp (x := p0) rfl (by omega) (by omega) hgq_1
  refine lv_iconst (v := 5) hx hb dX3_rateFor_13 (by decide) ?_
  refine lv_aload_n hx hb dX3_rateFor_14 rfl (lv_at hl 0 rfl) ?_
  refine tw_get (D := (dC, dI)) (v := .ref (a 1)) (C := RX3) (T := TX3) (N := 12) hx hb hts (fun _ hh => (List.mem_cons_of_mem _ (List.mem_append_right _ (List.mem_append_left _ hh)))) hown hK hT (fx_3 hX) (by decide) cl_e13 rfl 0 (by decide) (hts (.fieldLink RX3 43 "TypingPool$Floor" "book" "LTypingPool$Book;") (List.mem_cons_of_mem _ (List.mem_append_left _ (List.mem_of_getElem? (i := 0) rfl)))) (fun _ h9 => h9) rfl dX3_rateFor_15 ?_
  refine tw_get (D := (dC, dI)) (v := .ref (a 11)) (C := RX1) (T := TX1) (N := 8) hx hb hts (fun _ hh => (List.mem_cons_of_mem _ (List.mem_append_right _ (List.mem_append_right _ (List.mem_append_left _ hh))))) hown hK hT (fx_1 hX) (by decide) cl_e11 rfl 4 (by decide) (hts (.fieldLink RX3 103 "TypingPool$Book" "pieces" "[LTypingPool$Piece;") (List.mem_cons_of_mem _ (List.mem_append_left _ (List.mem_of_getElem? (i := 3) rfl)))) (fun _ h9 => h9) rfl dX3_rateFor_18 ?_
  refine lv_iload_n hx hb dX3_rateFor_21 rfl (lv_at hl 2 rfl) ?_
  refine tw_aald hx hb hK hT 4 (fx_11 hX) (by decide) cl_e21 rfl (z_in rfl (by omega) (by omega)) dX3_rateFor_22 ?_
  obtain ⟨q_3, hgq_3, htq_3⟩ := ic_l11 hI (x := p1) rfl (by omega) (by omega)
  refine lq_topr hgq_3 ?_
  refine lv_iload_n hx hb dX3_rateFor_23 rfl (lv_at hl 3 rfl) ?_
  have hFc := tw_free hF hS hA
  refine va_calli (va_runV (As := [.int p2]) (rest := [.int 5, .int (y q_1 0), .int 5]) ⟨hx, hb, hml, hown, hts⟩ (c_unknownTo l dC dI ad av s.heap.size a k τ ln y g u q_3 p2 hI htq_3) (cwV 1 hts (gi_4 (List.mem_cons_of_mem _ (List.mem_append_left _ (List.mem_of_getElem? (i := 4) rfl))) (List.mem_cons_of_mem _ (List.mem_append_left _ (List.mem_of_getElem? (i := 5) rfl))) (List.mem_cons_of_mem _ (List.mem_append_left _ (List.mem_of_getElem? (i := 6) rfl))) (List.mem_cons_of_mem _ (List.mem_append_left _ (List.mem_of_getElem? (i := 7) rfl))) (fun _ hh => (List.mem_cons_of_mem _ (List.mem_append_right _ (List.mem_append_right _ (List.mem_append_right _ (List.mem_append_right _ (List.mem_append_left _ hh))))))) gd_c_unknownTo) rfl rfl rfl (by decide +kernel) ⟨Nat.le_of_ble_eq_true rfl, Nat.le_of_ble_eq_true rfl⟩) ⟨pw_blind, tw_recv hK hT htq_3 (by decide) cl_e2 rfl, pw_use hT hK hFc hS hM⟩ rfl rfl hl.1 rfl (lv_room (Nat.le_of_ble_eq_true rfl)) dX3_rateFor_24 ⟨Nat.le_of_ble_eq_true rfl, Nat.le_of_ble_eq_true rfl⟩) hS (fun q _ h => hFc q h) hFc (fun r0 r_4 t H locs ht hvm hw hB hz1 hk1 hS => ?_)
  refine W.widen (k := 0) (n := 0) (Nat.le_of_ble_eq_true rfl) (Nat.le_of_ble_eq_true rfl) ?_
  clear hvm hz1 hk1
  subst hw
  obtain ⟨hf_5, hf_6, hT⟩ := hB
  rw [ht] at hT
  refine lv_imul hx hb dX3_rateFor_27 ?_
  refine lv_topi (fun x_7 ex_7 => ?_)
  have hx_7 := z_mul ex_7 (zk (x := 5) 5 rfl) rfl (by omega) (by omega)
  refine lv_isub hx hb dX3_rateFor_28 ?_
  refine lv_topi (fun x_8 ex_8 => ?_)
  have hx_8 := z_sub ex_8 rfl rfl (by omega) (by omega)
  refine va_mmax hx hb (by rw [hml]; exact hl.1.symm) hown (hts (.methodLink RX3 121 Lib.Math.max.name) (List.mem_cons_of_mem _ (List.mem_append_left _ (List.mem_of_getElem? (i := 8) rfl)))) (hts (.static Lib.Math.max.name) (List.mem_cons_of_mem _ (List.mem_append_left _ (List.mem_of_getElem? (i := 9) rfl)))) (hts (.initialized "java/lang/Math") (List.mem_cons_of_mem _ (List.mem_append_left _ (List.mem_of_getElem? (i := 10) rfl)))) (hts (.code Lib.Math.max.name Lib.Math.max.code 2 (some .int)) (List.mem_cons_of_mem _ (List.mem_append_left _ (List.mem_of_getElem? (i := 11) rfl)))) (Nat.le_of_ble_eq_true rfl) (Nat.le_of_ble_eq_true rfl) (Nat.le_of_ble_eq_true rfl) (Nat.le_of_ble_eq_true rfl) dX3_rateFor_29 ?_
  refine lv_topi (fun x_9 ex_9 => ?_)
  have hx_9 := z_max ex_9 (zk (x := 5) 5 rfl) rfl
  have hrv : x_9.toInt = x_9.toInt := rfl
  exact W.iret (v := x_9) hx hb hr (fun t ht hW9 => ⟨⟨x_9, x_9, rfl, rfl, ⟨by omega, by omega, tw_at ht hT⟩⟩, hS.F ht⟩) hS.2.2 dX3_rateFor_32
def wo_c_takeF : List Cond := [.fieldLink RX3 15 "TypingPool$Floor" "has" "[I", .fieldLink RX3 19 "TypingPool$Floor" "rate" "[I", .fieldLink RX3 22 "TypingPool$Floor" "words" "[I", .methodLink RX3 99 yX3_rateFor, .instanceMethod yX3_rateFor, .selects RX3 yX3_rateFor yX3_rateFor, .initialized RX3, .fieldLink RX3 28 "TypingPool$Floor" "by" "[I", .fieldLink RX3 31 "TypingPool$Floor" "taken" "[I", .fieldLink RX3 9 "TypingPool$Floor" "now" "I", .fieldLink RX3 40 "TypingPool$Floor" "knew" "[I", .fieldLink RX3 43 "TypingPool$Floor" "book" "LTypingPool$Book;", .fieldLink RX3 103 "TypingPool$Book" "pieces" "[LTypingPool$Piece;", .methodLink RX3 107 yX6_unknownTo, .instanceMethod yX6_unknownTo, .selects RX6 yX6_unknownTo yX6_unknownTo, .initialized RX6]
def wm_c_takeF : List Cond := .code yX3_take cX3_take 3 none :: (wo_c_takeF ++ (wsX30 ++ (wm_c_rateForF ++ (wsX10 ++ (wm_c_unknownTo ++ ([] : List Cond))))))
theorem gd_c_takeF : ∀ w ∈ wm_c_takeF, goodWord w = true := gd_c rfl (gd_a (by decide) (gd_a gd_wsX30 (gd_a gd_c_rateForF (gd_a gd_wsX10 (gd_a gd_c_unknownTo gd_nil)))))
set_option maxRecDepth 20000 in
theorem im_c_takeF : ∀ w ∈ wm_c_takeF, w ∈ lw_tbl := im_c (in_r [.code yX3_take cX3_take 3 none] [818] (by decide +kernel)) (in_app (in_r wo_c_takeF [431, 434, 437, 819, 820, 821, 83, 442, 444, 428, 452, 426, 130, 801, 802, 803, 89] (by decide +kernel)) (in_app im_wsX30 (in_app im_c_rateForF (in_app im_wsX10 (in_app im_c_unknownTo im_nil)))))
set_option maxHeartbeats 4000000 in
set_option maxRecDepth 100000 in
theorem c_takeF (l : Launch) (dC : Nat → ClassId) (dI : Nat → Nat → Nat) (ad av : Nat → Nat) (sz : Nat) (a : Nat → Nat) (k : Nat → ClassId) (τ ln : Nat → Nat) (y : Nat → Nat → Int32) (g : Nat → Nat → Option Nat) (u : Nat → Int) (p0 : Int32) (p1 : Int32) (hI : IC a u τ ln y g) (hlp0 : 0 ≤ p0.toInt) (hup0 : p0.toInt < u 1) (hlp1 : 0 ≤ p1.toInt) (hup1 : p1.toInt < u 2) (hFl : FL a (u 1) (u 2) y) (hsp : spA (u 1) a g y) (hn0 : 0 ≤ (y (a 3) 2).toInt) (hn1 : (y (a 3) 2).toInt ≤ 4800) (htk : (y (a 25) p1.toNatClampNeg).toInt = -1) : Met l yX3_take wm_c_takeF ({ frames := 3, cells := 0, slots := 0, locals := 180 }) (pw_ ad av (dC, dI) sz [.ref (a 3), .int p0, .int p1] a k τ ln y g) (va_Qv (fun (_ : Unit) => True) (fun (_ : Unit) (t : State) => (∃ (y' : Nat → Nat → Int32), ag τ [30, 31, 34, 35, 38] y y' ∧ FL a (u 1) (u 2) y' ∧ tw (dC, dI) a k τ ln y' g t.heap)) (fr τ sz)) 0 0 (fr τ sz) := by
  refine Met.ofW (cc := cX3_take) (maxL := 3) (ret := none) (by decide) rfl ?_
  intro p e s m args below meth c s₁ B hml hv
  obtain ⟨rfl, hsz, hT, hK, hM⟩ := hv
  have hx := B.exec
  have hb := B.bytes
  have hr := B.returns
  have hts := atoms_spec (ws := wm_c_takeF) B.pre
  have hown : s.vm.findClass RX3 = some m.cls := findClass_of_methodNamed B.named
  have hlocks := B.notSynchronized
  subst hsz
  generalize hAe : fr τ s.heap.size = A at hM ⊢
  have hA : ∀ q : Nat, s.heap.size ≤ q → A q := fun q h => by rw [← hAe]; exact Or.inr h
  have hF : ∀ q, τ q ≠ 0 → A q := fun q h => by rw [← hAe]; exact Or.inl h
  have hS : va_S A s.heap s.heap [] := va_S.rf
  have hX := hI.1
  have hR := ic_r hI
  have hG : ag τ [30, 31, 34, 35, 38] y y := ag.rf
  have hl := lv_entry ([.ref (a 3), .int p0, .int p1]) (n := 3) (Nat.le_of_ble_eq_true rfl)
  rw [lg_entry_eq]
  generalize (lg_sl ([.ref (a 3), .int p0, .int p1]) ++ List.replicate (3 - (lg_sl ([.ref (a 3), .int p0, .int p1])).length) Slot.unset).toArray = ls at hl ⊢
  have hl : lv_has ls 3 [(0, .ref (a 3)), (1, .int p0), (2, .int p1)] := hl
  have hFl0 := hFl
  refine lv_aload_n hx hb dX3_take_0 rfl (lv_at hl 0 rfl) ?_
  refine tw_get (D := (dC, dI)) (v := .ref (a 20)) (C := RX3) (T := TX3) (N := 12) hx hb hts (fun _ hh => (List.mem_cons_of_mem _ (List.mem_append_right _ (List.mem_append_left _ hh)))) hown hK hT (fx_3 hX) (by decide) cl_e13 rfl 3 (by decide) (hts (.fieldLink RX3 15 "TypingPool$Floor" "has" "[I") (List.mem_cons_of_mem _ (List.mem_append_left _ (List.mem_of_getElem? (i := 0) rfl)))) (fun _ h9 => h9) rfl dX3_take_1 ?_
  refine lv_iload_n hx hb dX3_take_4 rfl (lv_at hl 1 rfl) ?_
  refine lv_iload_n hx hb dX3_take_5 rfl (lv_at hl 2 rfl) ?_
  refine tw_iast hx hb hK hT hF hS 0 (fx_20 hX) (by decide) (fun _ => cl_e30) rfl (z_in rfl (by omega) (by omega)) dX3_take_6 (fun H locs hT hS => ?_)
  obtain ⟨y_1, hy_1, hT⟩ : ∃ z : Nat → Nat → Int32, z = up2 y (a 20) p0.toNatClampNeg p1 ∧ tw (dC, dI) a k τ ln z g H := ⟨_, rfl, hT⟩
  have hG : ag τ [30, 31, 34, 35, 38] y y_1 := by rw [hy_1]; exact hG.up (fx_20 hX) (by decide)
  have : (y_1 (a 3) 2).toInt = (y (a 3) 2).toInt := by rw [hy_1, up2_o (kd_ne (fx_3 hX) (fx_20 hX) (by decide))]
  have hI := hI.ag (S := [30]) (y' := y_1) (by rw [hy_1]; exact ag.one (fx_20 hX)) (by decide)
  refine lv_aload_n hx hb dX3_take_7 rfl (lv_at hl 0 rfl) ?_
  refine tw_get (D := (dC, dI)) (v := .ref (a 21)) (C := RX3) (T := TX3) (N := 12) hx hb hts (fun _ hh => (List.mem_cons_of_mem _ (List.mem_append_right _ (List.mem_append_left _ hh)))) hown hK hT (fx_3 hX) (by decide) cl_e13 rfl 4 (by decide) (hts (.fieldLink RX3 19 "TypingPool$Floor" "rate" "[I") (List.mem_cons_of_mem _ (List.mem_append_left _ (List.mem_of_getElem? (i := 1) rfl)))) (fun _ h9 => h9) rfl dX3_take_8 ?_
  refine lv_iload_n hx hb dX3_take_11 rfl (lv_at hl 1 rfl) ?_
  refine lv_aload_n hx hb dX3_take_12 rfl (lv_at hl 0 rfl) ?_
  refine lv_iload_n hx hb dX3_take_13 rfl (lv_at hl 1 rfl) ?_
  refine lv_iload_n hx hb dX3_take_14 rfl (lv_at hl 2 rfl) ?_
  refine lv_aload_n hx hb dX3_take_15 rfl (lv_at hl 0 rfl) ?_
  refine tw_get (D := (dC, dI)) (v := .ref (a 22)) (C := RX3) (T := TX3) (N := 12) hx hb hts (fun _ hh => (List.mem_cons_of_mem _ (List.mem_append_right _ (List.mem_append_left _ hh)))) hown hK hT (fx_3 hX) (by decide) cl_e13 rfl 5 (by decide) (hts (.fieldLink RX3 22 "TypingPool$Floor" "words" "[I") (List.mem_cons_of_mem _ (List.mem_append_left _ (List.mem_of_getElem? (i := 2) rfl)))) (fun _ h9 => h9) rfl dX3_take_16 ?_
  refine lv_iload_n hx hb dX3_take_19 rfl (lv_at hl 1 rfl) ?_
  refine tw_iald hx hb hK hT 0 (fx_22 hX) (by decide) cl_e32 rfl (z_in rfl (by omega) (by omega)) dX3_take_20 ?_
  have hFc := tw_free hF hS hA
  refine va_calli (va_runV (As := [.int p0, .int p1, .int (y_1 (a 22) p0.toNatClampNeg)]) (rest := [.int p0, .ref (a 21)]) ⟨hx, hb, hml, hown, hts⟩ (c_rateForF l dC dI ad av H.size a k τ ln y_1 g u p0 p1 (y_1 (a 22) p0.toNatClampNeg) hI (by omega) (by omega) (by omega) (by omega) (hsp.ag hI hG (by decide))) (cwV 3 hts (gi_4 (List.mem_cons_of_mem _ (List.mem_append_left _ (List.mem_of_getElem? (i := 3) rfl))) (List.mem_cons_of_mem _ (List.mem_append_left _ (List.mem_of_getElem? (i := 4) rfl))) (List.mem_cons_of_mem _ (List.mem_append_left _ (List.mem_of_getElem? (i := 5) rfl))) (List.mem_cons_of_mem _ (List.mem_append_left _ (List.mem_of_getElem? (i := 6) rfl))) (fun _ hh => (List.mem_cons_of_mem _ (List.mem_append_right _ (List.mem_append_right _ (List.mem_append_left _ hh))))) gd_c_rateForF) rfl rfl rfl (by decide +kernel) ⟨Nat.le_of_ble_eq_true rfl, Nat.le_of_ble_eq_true rfl⟩) ⟨pw_blind, tw_recv hK hT (fx_3 hX) (by decide) cl_e13 rfl, pw_use hT hK hFc hS hM⟩ rfl rfl hl.1 rfl (lv_room (Nat.le_of_ble_eq_true rfl)) dX3_take_21 ⟨Nat.le_of_ble_eq_true rfl, Nat.le_of_ble_eq_true rfl⟩) hS (fun q _ h => hFc q h) hFc (fun r0 r_2 t H locs ht hvm hw hB hz1 hk1 hS => ?_)
  refine W.widen (k := 0) (n := 0) (Nat.le_of_ble_eq_true rfl) (Nat.le_of_ble_eq_true rfl) ?_
  clear hvm hz1 hk1
  subst hw
  obtain ⟨hf_3, hf_4, hT⟩ := hB
  rw [ht] at hT
  refine tw_iast hx hb hK hT hF hS 0 (fx_21 hX) (by decide) (fun _ => cl_e31) rfl (z_in rfl (by omega) (by omega)) dX3_take_24 (fun H locs hT hS => ?_)
  obtain ⟨y_5, hy_5, hT⟩ : ∃ z : Nat → Nat → Int32, z = up2 y_1 (a 21) p0.toNatClampNeg r_2 ∧ tw (dC, dI) a k τ ln z g H := ⟨_, rfl, hT⟩
  have hG : ag τ [30, 31, 34, 35, 38] y y_5 := by rw [hy_5]; exact hG.up (fx_21 hX) (by decide)
  have : (y_5 (a 3) 2).toInt = (y_1 (a 3) 2).toInt := by rw [hy_5, up2_o (kd_ne (fx_3 hX) (fx_21 hX) (by decide))]
  have hI := hI.ag (S := [31]) (y' := y_5) (by rw [hy_5]; exact ag.one (fx_21 hX)) (by decide)
  refine lv_aload_n hx hb dX3_take_25 rfl (lv_at hl 0 rfl) ?_
  refine tw_get (D := (dC, dI)) (v := .ref (a 24)) (C := RX3) (T := TX3) (N := 12) hx hb hts (fun _ hh => (List.mem_cons_of_mem _ (List.mem_append_right _ (List.mem_append_left _ hh)))) hown hK hT (fx_3 hX) (by decide) cl_e13 rfl 7 (by decide) (hts (.fieldLink RX3 28 "TypingPool$Floor" "by" "[I") (List.mem_cons_of_mem _ (List.mem_append_left _ (List.mem_of_getElem? (i := 7) rfl)))) (fun _ h9 => h9) rfl dX3_take_26 ?_
  refine lv_iload_n hx hb dX3_take_29 rfl (lv_at hl 2 rfl) ?_
  refine lv_iload_n hx hb dX3_take_30 rfl (lv_at hl 1 rfl) ?_
  refine tw_iast hx hb hK hT hF hS 0 (fx_24 hX) (by decide) (fun _ => cl_e34) rfl (z_in rfl (by omega) (by omega)) dX3_take_31 (fun H locs hT hS => ?_)
  obtain ⟨y_6, hy_6, hT⟩ : ∃ z : Nat → Nat → Int32, z = up2 y_5 (a 24) p1.toNatClampNeg p0 ∧ tw (dC, dI) a k τ ln z g H := ⟨_, rfl, hT⟩
  have hG : ag τ [30, 31, 34, 35, 38] y y_6 := by rw [hy_6]; exact hG.up (fx_24 hX) (by decide)
  have : (y_6 (a 3) 2).toInt = (y_5 (a 3) 2).toInt := by rw [hy_6, up2_o (kd_ne (fx_3 hX) (fx_24 hX) (by decide))]
  have hI := hI.ag (S := [34]) (y' := y_6) (by rw [hy_6]; exact ag.one (fx_24 hX)) (by decide)
  refine lv_aload_n hx hb dX3_take_32 rfl (lv_at hl 0 rfl) ?_
  refine tw_get (D := (dC, dI)) (v := .ref (a 25)) (C := RX3) (T := TX3) (N := 12) hx hb hts (fun _ hh => (List.mem_cons_of_mem _ (List.mem_append_right _ (List.mem_append_left _ hh)))) hown hK hT (fx_3 hX) (by decide) cl_e13 rfl 8 (by decide) (hts (.fieldLink RX3 31 "TypingPool$Floor" "taken" "[I") (List.mem_cons_of_mem _ (List.mem_append_left _ (List.mem_of_getElem? (i := 8) rfl)))) (fun _ h9 => h9) rfl dX3_take_33 ?_
  refine lv_iload_n hx hb dX3_take_36 rfl (lv_at hl 2 rfl) ?_
  refine lv_aload_n hx hb dX3_take_37 rfl (lv_at hl 0 rfl) ?_
  refine tw_get (D := (dC, dI)) (v := .int (y_6 (a 3) 2)) (C := RX3) (T := TX3) (N := 12) hx hb hts (fun _ hh => (List.mem_cons_of_mem _ (List.mem_append_right _ (List.mem_append_left _ hh)))) hown hK hT (fx_3 hX) (by decide) cl_e13 rfl 2 (by decide) (hts (.fieldLink RX3 9 "TypingPool$Floor" "now" "I") (List.mem_cons_of_mem _ (List.mem_append_left _ (List.mem_of_getElem? (i := 9) rfl)))) (fun _ h9 => h9) rfl dX3_take_38 ?_
  refine tw_iast hx hb hK hT hF hS 0 (fx_25 hX) (by decide) (fun _ => cl_e35) rfl (z_in rfl (by omega) (by omega)) dX3_take_41 (fun H locs hT hS => ?_)
  obtain ⟨y_7, hy_7, hT⟩ : ∃ z : Nat → Nat → Int32, z = up2 y_6 (a 25) p1.toNatClampNeg (y_6 (a 3) 2) ∧ tw (dC, dI) a k τ ln z g H := ⟨_, rfl, hT⟩
  have hG : ag τ [30, 31, 34, 35, 38] y y_7 := by rw [hy_7]; exact hG.up (fx_25 hX) (by decide)
  have : (y_7 (a 3) 2).toInt = (y_6 (a 3) 2).toInt := by rw [hy_7, up2_o (kd_ne (fx_3 hX) (fx_25 hX) (by decide))]
  have hI := hI.ag (S := [35]) (y' := y_7) (by rw [hy_7]; exact ag.one (fx_25 hX)) (by decide)
  refine lv_aload_n hx hb dX3_take_42 rfl (lv_at hl 0 rfl) ?_
  refine tw_get (D := (dC, dI)) (v := .ref (a 28)) (C := RX3) (T := TX3) (N := 12) hx hb hts (fun _ hh => (List.mem_cons_of_mem _ (List.mem_append_right _ (List.mem_append_left _ hh)))) hown hK hT (fx_3 hX) (by decide) cl_e13 rfl 11 (by decide) (hts (.fieldLink RX3 40 "TypingPool$Floor" "knew" "[I") (List.mem_cons_of_mem _ (List.mem_append_left _ (List.mem_of_getElem? (i := 10) rfl)))) (fun _ h9 => h9) rfl dX3_take_43 ?_
  refine lv_iload_n hx hb dX3_take_46 rfl (lv_at hl 2 rfl) ?_
  refine lv_aload_n hx hb dX3_take_47 rfl (lv_at hl 0 rfl) ?_
  refine tw_get (D := (dC, dI)) (v := .ref (a 1)) (C := RX3) (T := TX3) (N := 12) hx hb hts (fun _ hh => (List.mem_cons_of_mem _ (List.mem_append_right _ (List.mem_append_left _ hh)))) hown hK hT (fx_3 hX) (by decide) cl_e13 rfl 0 (by decide) (hts (.fieldLink RX3 43 "TypingPool$Floor" "book" "LTypingPool$Book;") (List.mem_cons_of_mem _ (List.mem_append_left _ (List.mem_of_getElem? (i := 11) rfl)))) (fun _ h9 => h9) rfl dX3_take_48 ?_
  refine tw_get (D := (dC, dI)) (v := .ref (a 11)) (C := RX1) (T := TX1) (N := 8) hx hb hts (fun _ hh => (List.mem_cons_of_mem _ (List.mem_append_right _ (List.mem_append_right _ (List.mem_append_right _ (List.mem_append_left _ hh)))))) hown hK hT (fx_1 hX) (by decide) cl_e11 rfl 4 (by decide) (hts (.fieldLink RX3 103 "TypingPool$Book" "pieces" "[LTypingPool$Piece;") (List.mem_cons_of_mem _ (List.mem_append_left _ (List.mem_of_getElem? (i := 12) rfl)))) (fun _ h9 => h9) rfl dX3_take_51 ?_
  refine lv_iload_n hx hb dX3_take_54 rfl (lv_at hl 2 rfl) ?_
  refine tw_aald hx hb hK hT 4 (fx_11 hX) (by decide) cl_e21 rfl (z_in rfl (by omega) (by omega)) dX3_take_55 ?_
  obtain ⟨q_8, hgq_8, htq_8⟩ := ic_l11 hI (x := p1) rfl (by omega) (by omega)
  refine lq_topr hgq_8 ?_
  refine lv_aload_n hx hb dX3_take_56 rfl (lv_at hl 0 rfl) ?_
  refine tw_get (D := (dC, dI)) (v := .ref (a 22)) (C := RX3) (T := TX3) (N := 12) hx hb hts (fun _ hh => (List.mem_cons_of_mem _ (List.mem_append_right _ (List.mem_append_left _ hh)))) hown hK hT (fx_3 hX) (by decide) cl_e13 rfl 5 (by decide) (hts (.fieldLink RX3 22 "TypingPool$Floor" "words" "[I") (List.mem_cons_of_mem _ (List.mem_append_left _ (List.mem_of_getElem? (i := 2) rfl)))) (fun _ h9 => h9) rfl dX3_take_57 ?_
  refine lv_iload_n hx hb dX3_take_60 rfl (lv_at hl 1 rfl) ?_
  refine tw_iald hx hb hK hT 0 (fx_22 hX) (by decide) cl_e32 rfl (z_in rfl (by omega) (by omega)) dX3_take_61 ?_
  have hFc := tw_free hF hS hA
  refine va_calli (va_runV (As := [.int (y_7 (a 22) p0.toNatClampNeg)]) (rest := [.int p1, .ref (a 28)]) ⟨hx, hb, hml, hown, hts⟩ (c_unknownTo l dC dI ad av H.size a k τ ln y_7 g u q_8 (y_7 (a 22) p0.toNatClampNeg) hI htq_8) (cwV 1 hts (gi_4 (List.mem_cons_of_mem _ (List.mem_append_left _ (List.mem_of_getElem? (i := 13) rfl))) (List.mem_cons_of_mem _ (List.mem_append_left _ (List.mem_of_getElem? (i := 14) rfl))) (List.mem_cons_of_mem _ (List.mem_append_left _ (List.mem_of_getElem? (i := 15) rfl))) (List.mem_cons_of_mem _ (List.mem_append_left _ (List.mem_of_getElem? (i := 16) rfl))) (fun _ hh => (List.mem_cons_of_mem _ (List.mem_append_right _ (List.mem_append_right _ (List.mem_append_right _ (List.mem_append_right _ (List.mem_append_left _ hh))))))) gd_c_unknownTo) rfl rfl rfl (by decide +kernel) ⟨Nat.le_of_ble_eq_true rfl, Nat.le_of_ble_eq_true rfl⟩) ⟨pw_blind, tw_recv hK hT htq_8 (by decide) cl_e2 rfl, pw_use hT hK hFc hS hM⟩ rfl rfl hl.1 rfl (lv_room (Nat.le_of_ble_eq_true rfl)) dX3_take_62 ⟨Nat.le_of_ble_eq_true rfl, Nat.le_of_ble_eq_true rfl⟩) hS (fun q _ h => hFc q h) hFc (fun r0 r_9 t H locs ht hvm hw hB hz1 hk1 hS => ?_)
  refine W.widen (k := 0) (n := 0) (Nat.le_of_ble_eq_true rfl) (Nat.le_of_ble_eq_true rfl) ?_
  clear hvm hz1 hk1
  subst hw
  obtain ⟨hf_10, hf_11, hT⟩ := hB
  rw [ht] at hT
  refine lv_if_ne (tgt := 72) hx hb dX3_take_65 (by decide) (fun c_12 => ?_) (fun c_12 => ?_)
  · have nc_12 := z_ne rfl (zk (x := 0) 0 rfl) c_12
    refine lv_iconst (v := 0) hx hb dX3_take_72 (by decide) ?_
    refine tw_iast hx hb hK hT hF hS 0 (fx_28 hX) (by decide) (fun _ => cl_e38) rfl (z_in rfl (by omega) (by omega)) dX3_take_73 (fun H locs hT hS => ?_)
    obtain ⟨y_13, hy_13, hT⟩ : ∃ z : Nat → Nat → Int32, z = up2 y_7 (a 28) p1.toNatClampNeg (0 : Int32) ∧ tw (dC, dI) a k τ ln z g H := ⟨_, rfl, hT⟩
    have hG : ag τ [30, 31, 34, 35, 38] y y_13 := by rw [hy_13]; exact hG.up (fx_28 hX) (by decide)
    have : (y_13 (a 3) 2).toInt = (y_7 (a 3) 2).toInt := by rw [hy_13, up2_o (kd_ne (fx_3 hX) (fx_28 hX) (by decide))]
    have hI := hI.ag (S := [38]) (y' := y_13) (by rw [hy_13]; exact ag.one (fx_28 hX)) (by decide)
    exact W.vret hx hb hr (fun t ht hW9 => ⟨⟨(), rfl, trivial, ⟨y_13, hG, (fl_take hFl0 (h := p0) (p := p1) (r := r_2) (t := (y_6 (a 3) 2)) rfl (by omega) (by omega) rfl (by omega) (by omega) rfl (by omega) (by omega) htk (by omega) (by rw [hy_13, up2_o (kd_ne (fx_20 hX) (fx_28 hX) (by decide)), hy_7, up2_o (kd_ne (fx_20 hX) (fx_25 hX) (by decide)), hy_6, up2_o (kd_ne (fx_20 hX) (fx_24 hX) (by decide)), hy_5, up2_o (kd_ne (fx_20 hX) (fx_21 hX) (by decide)), hy_1, up2_q]) (by rw [hy_13, up2_o (kd_ne (fx_21 hX) (fx_28 hX) (by decide)), hy_7, up2_o (kd_ne (fx_21 hX) (fx_25 hX) (by decide)), hy_6, up2_o (kd_ne (fx_21 hX) (fx_24 hX) (by decide)), hy_5, up2_q, hy_1, up2_o (kd_ne (fx_21 hX) (fx_20 hX) (by decide))]) (by rw [hy_13, up2_o (kd_ne (fx_24 hX) (fx_28 hX) (by decide)), hy_7, up2_o (kd_ne (fx_24 hX) (fx_25 hX) (by decide)), hy_6, up2_q, hy_5, up2_o (kd_ne (fx_24 hX) (fx_21 hX) (by decide)), hy_1, up2_o (kd_ne (fx_24 hX) (fx_20 hX) (by decide))]) (by rw [hy_13, up2_o (kd_ne (fx_25 hX) (fx_28 hX) (by decide)), hy_7, up2_q, hy_6, up2_o (kd_ne (fx_25 hX) (fx_24 hX) (by decide)), hy_5, up2_o (kd_ne (fx_25 hX) (fx_21 hX) (by decide)), hy_1, up2_o (kd_ne (fx_25 hX) (fx_20 hX) (by decide))]) (by rw [hy_13, up2_o (kd_ne (fx_27 hX) (fx_28 hX) (by decide)), hy_7, up2_o (kd_ne (fx_27 hX) (fx_25 hX) (by decide)), hy_6, up2_o (kd_ne (fx_27 hX) (fx_24 hX) (by decide)), hy_5, up2_o (kd_ne (fx_27 hX) (fx_21 hX) (by decide)), hy_1, up2_o (kd_ne (fx_27 hX) (fx_20 hX) (by decide))])), tw_at ht hT⟩⟩, hS.F ht⟩) hS.2.2 dX3_take_74
  · have nc_12 := z_eq rfl (zk (x := 0) 0 rfl) c_12
    refine lv_iconst (v := 1) hx hb dX3_take_68 (by decide) ?_
    refine lv_goto (tgt := 73) hx hb dX3_take_69 (by decide) ?_
    refine tw_iast hx hb hK hT hF hS 0 (fx_28 hX) (by decide) (fun _ => cl_e38) rfl (z_in rfl (by omega) (by omega)) dX3_take_73 (fun H locs hT hS => ?_)
    obtain ⟨y_14, hy_14, hT⟩ : ∃ z : Nat → Nat → Int32, z = up2 y_7 (a 28) p1.toNatClampNeg (1 : Int32) ∧ tw (dC, dI) a k τ ln z g H := ⟨_, rfl, hT⟩
    have hG : ag τ [30, 31, 34, 35, 38] y y_14 := by rw [hy_14]; exact hG.up (fx_28 hX) (by decide)
    have : (y_14 (a 3) 2).toInt = (y_7 (a 3) 2).toInt := by rw [hy_14, up2_o (kd_ne (fx_3 hX) (fx_28 hX) (by decide))]
    have hI := hI.ag (S := [38]) (y' := y_14) (by rw [hy_14]; exact ag.one (fx_28 hX)) (by decide)
    exact W.vret hx hb hr (fun t ht hW9 => ⟨⟨(), rfl, trivial, ⟨y_14, hG, (fl_take hFl0 (h := p0) (p := p1) (r := r_2) (t := (y_6 (a 3) 2)) rfl (by omega) (by omega) rfl (by omega) (by omega) rfl (by omega) (by omega) htk (by omega) (by rw [hy_14, up2_o (kd_ne (fx_20 hX) (fx_28 hX) (by decide)), hy_7, up2_o (kd_ne (fx_20 hX) (fx_25 hX) (by decide)), hy_6, up2_o (kd_ne (fx_20 hX) (fx_24 hX) (by decide)), hy_5, up2_o (kd_ne (fx_20 hX) (fx_21 hX) (by decide)), hy_1, up2_q]) (by rw [hy_14, up2_o (kd_ne (fx_21 hX) (fx_28 hX) (by decide)), hy_7, up2_o (kd_ne (fx_21 hX) (fx_25 hX) (by decide)), hy_6, up2_o (kd_ne (fx_21 hX) (fx_24 hX) (by decide)), hy_5, up2_q, hy_1, up2_o (kd_ne (fx_21 hX) (fx_20 hX) (by decide))]) (by rw [hy_14, up2_o (kd_ne (fx_24 hX) (fx_28 hX) (by decide)), hy_7, up2_o (kd_ne (fx_24 hX) (fx_25 hX) (by decide)), hy_6, up2_q, hy_5, up2_o (kd_ne (fx_24 hX) (fx_21 hX) (by decide)), hy_1, up2_o (kd_ne (fx_24 hX) (fx_20 hX) (by decide))]) (by rw [hy_14, up2_o (kd_ne (fx_25 hX) (fx_28 hX) (by decide)), hy_7, up2_q, hy_6, up2_o (kd_ne (fx_25 hX) (fx_24 hX) (by decide)), hy_5, up2_o (kd_ne (fx_25 hX) (fx_21 hX) (by decide)), hy_1, up2_o (kd_ne (fx_25 hX) (fx_20 hX) (by decide))]) (by rw [hy_14, up2_o (kd_ne (fx_27 hX) (fx_28 hX) (by decide)), hy_7, up2_o (kd_ne (fx_27 hX) (fx_25 hX) (by decide)), hy_6, up2_o (kd_ne (fx_27 hX) (fx_24 hX) (by decide)), hy_5, up2_o (kd_ne (fx_27 hX) (fx_21 hX) (by decide)), hy_1, up2_o (kd_ne (fx_27 hX) (fx_20 hX) (by decide))])), tw_at ht hT⟩⟩, hS.F ht⟩) hS.2.2 dX3_take_74
def wo_c_takeAllF : List Cond := [.fieldLink RX3 43 "TypingPool$Floor" "book" "LTypingPool$Book;", .fieldLink RX3 75 "TypingPool$Book" "handCount" "I", .fieldLink RX3 15 "TypingPool$Floor" "has" "[I", .methodLink RX3 78 yX3_firstFor, .instanceMethod yX3_firstFor, .selects RX3 yX3_firstFor yX3_firstFor, .initialized RX3, .methodLink RX3 82 yX3_take, .instanceMethod yX3_take, .selects RX3 yX3_take yX3_take]
def wm_c_takeAllF : List Cond := .code yX3_takeAll cX3_takeAll 5 none :: (wo_c_takeAllF ++ (wsX30 ++ (wsX10 ++ (wm_c_firstForF ++ (wm_c_takeF ++ ([] : List Cond))))))
theorem gd_c_takeAllF : ∀ w ∈ wm_c_takeAllF, goodWord w = true := gd_c rfl (gd_a (by decide) (gd_a gd_wsX30 (gd_a gd_wsX10 (gd_a gd_c_firstForF (gd_a gd_c_takeF gd_nil)))))
set_option maxRecDepth 20000 in
theorem im_c_takeAllF : ∀ w ∈ wm_c_takeAllF, w ∈ lw_tbl := im_c (in_r [.code yX3_takeAll cX3_takeAll 5 none] [762] (by decide +kernel)) (in_app (in_r wo_c_takeAllF [426, 125, 431, 763, 765, 9, 83, 815, 817, 12] (by decide +kernel)) (in_app im_wsX30 (in_app im_wsX10 (in_app im_c_firstForF (in_app im_c_takeF im_nil)))))
set_option maxHeartbeats 4000000 in
set_option maxRecDepth 100000 in
theorem c_takeAllF (l : Launch) (dC : Nat → ClassId) (dI : Nat → Nat → Nat) (ad av : Nat → Nat) (sz : Nat) (a : Nat → Nat) (k : Nat → ClassId) (τ ln : Nat → Nat) (y : Nat → Nat → Int32) (g : Nat → Nat → Option Nat) (u : Nat → Int) (p0 : Int32) (hI : IC a u τ ln y g) (hFl : FL a (u 1) (u 2) y) (hsp : spA (u 1) a g y) (hn0 : 0 ≤ (y (a 3) 2).toInt) (hn1 : (y (a 3) 2).toInt ≤ 4800) : Met l yX3_takeAll wm_c_takeAllF ({ frames := 5, cells := 0, slots := 0, locals := 300 }) (pw_ ad av (dC, dI) sz [.ref (a 3), .int p0, .null] a k τ ln y g) (va_Qv (fun (_ : Unit) => True) (fun (_ : Unit) (t : State) => (∃ (y' : Nat → Nat → Int32), ag τ [24, 27, 30, 31, 34, 35, 38] y y' ∧ FL a (u 1) (u 2) y' ∧ tw (dC, dI) a k τ ln y' g t.heap)) (fr τ sz)) 0 0 (fr τ sz) := by
  refine Met.ofW (cc := cX3_takeAll) (maxL := 5) (ret := none) (by decide) rfl ?_
  intro p e s m args below meth c s₁ B hml hv
  obtain ⟨rfl, hsz, hT, hK, hM⟩ := hv
  have hx := B.exec
  have hb := B.bytes
  have hr := B.returns
  have hts := atoms_spec (ws := wm_c_takeAllF) B.pre
  have hown : s.vm.findClass RX3 = some m.cls := findClass_of_methodNamed B.named
  have hlocks := B.notSynchronized
  subst hsz
  generalize hAe : fr τ s.heap.size = A at hM ⊢
  have hA : ∀ q : Nat, s.heap.size ≤ q → A q := fun q h => by rw [← hAe]; exact Or.inr h
  have hF : ∀ q, τ q ≠ 0 → A q := fun q h => by rw [← hAe]; exact Or.inl h
  have hS : va_S A s.heap s.heap [] := va_S.rf
  have hX := hI.1
  have hR := ic_r hI
  have hG : ag τ [24, 27, 30, 31, 34, 35, 38] y y := ag.rf
  have hl := lv_entry ([.ref (a 3), .int p0, .null]) (n := 5) (Nat.le_of_ble_eq_true rfl)
  rw [lg_entry_eq]
  generalize (lg_sl ([.ref (a 3), .int p0, .null]) ++ List.replicate (5 - (lg_sl ([.ref (a 3), .int p0, .null])).length) Slot.unset).toArray = ls at hl ⊢
  have hl : lv_has ls 5 [(0, .ref (a 3)), (1, .int p0), (2, .null)] := hl
  refine lv_iconst (v := 0) hx hb dX3_takeAll_0 (by decide) ?_
  refine lv_istore_n (lv' := [(3, .int 0), (0, .ref (a 3)), (1, .int p0), (2, .null)]) hx hb dX3_takeAll_1 rfl hl (by decide) rfl (fun ls hl => ?_)
  have loop_2 : ∀ (n : Nat) (i3 : Int32) (y_L2 : Nat → Nat → Int32) (H : Heap) (locs : List Loc) (ls : Array Slot), (u 1 - i3.toInt).toNat < n → ag τ [24, 27, 30, 31, 34, 35, 38] y y_L2 → IC a u τ ln y_L2 g → FL a (u 1) (u 2) y_L2 → 0 ≤ i3.toInt → i3.toInt ≤ u 1 → (y_L2 (a 3) 2).toInt = (y (a 3) 2).toInt → tw (dC, dI) a k τ ln y_L2 g H → va_S A s.heap H locs → lv_has ls 5 [(0, .ref (a 3)), (1, .int p0), (2, .null), (3, .int i3)] → W p l e (headSpec wm_c_takeAllF ({ frames := 5, cells := 0, slots := 0, locals := 300 })).room s m ([.ref (a 3), .int p0, .null] : List Value).toArray below meth c H locs 0 0 (MQ below (va_Qv (fun (_ : Unit) => True) (fun (_ : Unit) (t : State) => (∃ (y' : Nat → Nat → Int32), ag τ [24, 27, 30, 31, 34, 35, 38] y y' ∧ FL a (u 1) (u 2) y' ∧ tw (dC, dI) a k τ ln y' g t.heap)) A) ([.ref (a 3), .int p0, .null] : List Value).toArray s 0 0 A) (F0 m 2 ls []) := by
    intro n
    induction n with
    | zero => intro i3 y_L2 H locs ls hlt; exact absurd hlt (Nat.not_lt_zero _)
    | succ n ih_2 =>
      intro i3 y_L2 H locs ls hlt hG hI hFl hi2_0 hi2_1 hi2_2 hT hS hl
      refine lv_iload_n hx hb dX3_takeAll_2 rfl (lv_at hl 3 rfl) ?_
      refine lv_aload_n hx hb dX3_takeAll_3 rfl (lv_at hl 0 rfl) ?_
      refine tw_get (D := (dC, dI)) (v := .ref (a 1)) (C := RX3) (T := TX3) (N := 12) hx hb hts (fun _ hh => (List.mem_cons_of_mem _ (List.mem_append_right _ (List.mem_append_left _ hh)))) hown hK hT (fx_3 hX) (by decide) cl_e13 rfl 0 (by decide) (hts (.fieldLink RX3 43 "TypingPool$Floor" "book" "LTypingPool$Book;") (List.mem_cons_of_mem _ (List.mem_append_left _ (List.mem_of_getElem? (i := 0) rfl)))) (fun _ h9 => h9) rfl dX3_takeAll_4 ?_
      refine tw_get (D := (dC, dI)) (v := .int (y_L2 (a 1) 3)) (C := RX1) (T := TX1) (N := 8) hx hb hts (fun _ hh => (List.mem_cons_of_mem _ (List.mem_append_right _ (List.mem_append_right _ (List.mem_append_left _ hh))))) hown hK hT (fx_1 hX) (by decide) cl_e11 rfl 3 (by decide) (hts (.fieldLink RX3 75 "TypingPool$Book" "handCount" "I") (List.mem_cons_of_mem _ (List.mem_append_left _ (List.mem_of_getElem? (i := 1) rfl)))) (fun _ h9 => h9) rfl dX3_takeAll_7 ?_
      have hc_1 := ic_1 hI
      refine lv_icmp_ge (tgt := 58) hx hb dX3_takeAll_10 (by decide) (fun c_2 => ?_) (fun c_2 => ?_)
      · have nc_2 := z_le hc_1 rfl c_2
        exact W.vret hx hb hr (fun t ht hW9 => ⟨⟨(), rfl, trivial, ⟨y_L2, hG, hFl, tw_at ht hT⟩⟩, hS.F ht⟩) hS.2.2 dX3_takeAll_58
      · have nc_2 := z_nle hc_1 rfl c_2
        refine lv_iload_n hx hb dX3_takeAll_13 rfl (lv_at hl 1 rfl) ?_
        refine lv_iload_n hx hb dX3_takeAll_14 rfl (lv_at hl 3 rfl) ?_
        refine lv_ishr hx hb dX3_takeAll_15 ?_
        refine lv_topi (fun x_3 ex_3 => ?_)
        refine lv_iconst (v := 1) hx hb dX3_takeAll_16 (by decide) ?_
        refine lv_iand hx hb dX3_takeAll_17 ?_
        refine lv_topi (fun x_4 ex_4 => ?_)
        have hx_4 := z_and (x := x_3) (zk (x := 1) 1 rfl) (by omega)
        rw [← ex_4] at hx_4
        refine lv_if_ne (tgt := 52) hx hb dX3_takeAll_18 (by decide) (fun c_5 => ?_) (fun c_5 => ?_)
        · have nc_5 := z_ne rfl (zk (x := 0) 0 rfl) c_5
          obtain ⟨x_6, ex_6⟩ : ∃ y : Int32, y = i3 + Int32.ofInt 1 := ⟨_, rfl⟩
          have hx_6 := z_add ex_6 rfl (zk (x := Int32.ofInt 1) 1 rfl) (by omega) (by omega)
          refine lv_iinc (v := x_6) (lv' := [(3, .int x_6), (0, .ref (a 3)), (1, .int p0), (2, .null)]) hx hb dX3_takeAll_52 hl (k := 3) rfl ex_6.symm (by decide) rfl (fun ls hl => ?_)
          refine lv_goto (tgt := 2) hx hb dX3_takeAll_55 (by decide) ?_
          exact ih_2  x_6 y_L2 H _ ls (by omega) hG hI hFl (by omega) (by omega) (by omega) hT hS (lv_sub hl [1, 2, 3, 0] rfl)
        · have nc_5 := z_eq rfl (zk (x := 0) 0 rfl) c_5
          refine lv_aload_n hx hb dX3_takeAll_21 rfl (lv_at hl 0 rfl) ?_
          refine tw_get (D := (dC, dI)) (v := .ref (a 20)) (C := RX3) (T := TX3) (N := 12) hx hb hts (fun _ hh => (List.mem_cons_of_mem _ (List.mem_append_right _ (List.mem_append_left _ hh)))) hown hK hT (fx_3 hX) (by decide) cl_e13 rfl 3 (by decide) (hts (.fieldLink RX3 15 "TypingPool$Floor" "has" "[I") (List.mem_cons_of_mem _ (List.mem_append_left _ (List.mem_of_getElem? (i := 2) rfl)))) (fun _ h9 => h9) rfl dX3_takeAll_22 ?_
          refine lv_iload_n hx hb dX3_takeAll_25 rfl (lv_at hl 3 rfl) ?_
          refine tw_iald hx hb hK hT 0 (fx_20 hX) (by decide) cl_e30 rfl (z_in rfl (by omega) (by omega)) dX3_takeAll_26 ?_
          refine lv_iconst (v := (-1)) hx hb dX3_takeAll_27 (by decide) ?_
          refine lv_icmp_ne (tgt := 52) hx hb dX3_takeAll_28 (by decide) (fun c_7 => ?_) (fun c_7 => ?_)
          · have nc_7 := z_ne rfl (zk (x := (-1)) (-1) rfl) c_7
            obtain ⟨x_8, ex_8⟩ : ∃ y : Int32, y = i3 + Int32.ofInt 1 := ⟨_, rfl⟩
            have hx_8 := z_add ex_8 rfl (zk (x := Int32.ofInt 1) 1 rfl) (by omega) (by omega)
            refine lv_iinc (v := x_8) (lv' := [(3, .int x_8), (0, .ref (a 3)), (1, .int p0), (2, .null)]) hx hb dX3_takeAll_52 hl (k := 3) rfl ex_8.symm (by decide) rfl (fun ls hl => ?_)
            refine lv_goto (tgt := 2) hx hb dX3_takeAll_55 (by decide) ?_
            exact ih_2  x_8 y_L2 H _ ls (by omega) hG hI hFl (by omega) (by omega) (by omega) hT hS (lv_sub hl [1, 2, 3, 0] rfl)
          · have nc_7 := z_eq rfl (zk (x := (-1)) (-1) rfl) c_7
            refine lv_aload_n hx hb dX3_takeAll_31 rfl (lv_at hl 0 rfl) ?_
            refine lv_iload_n hx hb dX3_takeAll_32 rfl (lv_at hl 3 rfl) ?_
            refine lv_aload_nN hx hb dX3_takeAll_33 rfl (lv_at hl 2 rfl) ?_
            have hFc := tw_free hF hS hA
            refine va_calli (va_runV (As := [.int i3, .null]) (rest := []) ⟨hx, hb, hml, hown, hts⟩ (c_firstForF l dC dI ad av H.size a k τ ln y_L2 g u i3 hI (by omega) (by omega)) (cwV 2 hts (gi_4 (List.mem_cons_of_mem _ (List.mem_append_left _ (List.mem_of_getElem? (i := 3) rfl))) (List.mem_cons_of_mem _ (List.mem_append_left _ (List.mem_of_getElem? (i := 4) rfl))) (List.mem_cons_of_mem _ (List.mem_append_left _ (List.mem_of_getElem? (i := 5) rfl))) (List.mem_cons_of_mem _ (List.mem_append_left _ (List.mem_of_getElem? (i := 6) rfl))) (fun _ hh => (List.mem_cons_of_mem _ (List.mem_append_right _ (List.mem_append_right _ (List.mem_append_right _ (List.mem_append_left _ hh)))))) gd_c_firstForF) rfl rfl rfl (by decide +kernel) ⟨Nat.le_of_ble_eq_true rfl, Nat.le_of_ble_eq_true rfl⟩) ⟨pw_blind, tw_recv hK hT (fx_3 hX) (by decide) cl_e13 rfl, pw_use hT hK hFc hS hM⟩ rfl rfl hl.1 rfl (lv_room (Nat.le_of_ble_eq_true rfl)) dX3_takeAll_34 ⟨Nat.le_of_ble_eq_true rfl, Nat.le_of_ble_eq_true rfl⟩) hS (fun q _ h => hFc q h) hFc (fun r0 r_9 t H locs ht hvm hw hB hz1 hk1 hS => ?_)
            refine W.widen (k := 0) (n := 0) (Nat.le_of_ble_eq_true rfl) (Nat.le_of_ble_eq_true rfl) ?_
            clear hvm hz1 hk1
            subst hw
            obtain ⟨y_10, hgy_10, hf_11, hT⟩ := hB
            rw [ht] at hT
            have hG := hG.tr hgy_10 (by decide)
            have : (y_10 (a 3) 2).toInt = (y_L2 (a 3) 2).toInt := by rw [hgy_10.at (fx_3 hX) (by decide)]
            have hI := hI.ag hgy_10 (by decide)
            have hFl := hFl.ag hX hgy_10 (by decide)
            rw [← hgy_10.at (fx_25 hX) (by decide)] at hf_11
            refine lv_istore (lv' := [(4, .int r_9), (0, .ref (a 3)), (1, .int p0), (2, .null), (3, .int i3)]) hx hb dX3_takeAll_37 hl (by decide) rfl (fun ls hl => ?_)
            refine lv_iload hx hb dX3_takeAll_39 (lv_at hl 0 rfl) ?_
            refine lv_iconst (v := (-1)) hx hb dX3_takeAll_41 (by decide) ?_
            refine lv_icmp_eq (tgt := 52) hx hb dX3_takeAll_42 (by decide) (fun c_12 => ?_) (fun c_12 => ?_)
            · have nc_12 := z_eq rfl (zk (x := (-1)) (-1) rfl) c_12
              obtain ⟨x_13, ex_13⟩ : ∃ y : Int32, y = i3 + Int32.ofInt 1 := ⟨_, rfl⟩
              have hx_13 := z_add ex_13 rfl (zk (x := Int32.ofInt 1) 1 rfl) (by omega) (by omega)
              refine lv_iinc (v := x_13) (lv' := [(3, .int x_13), (4, .int r_9), (0, .ref (a 3)), (1, .int p0), (2, .null)]) hx hb dX3_takeAll_52 hl (k := 4) rfl ex_13.symm (by decide) rfl (fun ls hl => ?_)
              refine lv_goto (tgt := 2) hx hb dX3_takeAll_55 (by decide) ?_
              exact ih_2  x_13 y_10 H _ ls (by omega) hG hI hFl (by omega) (by omega) (by omega) hT hS (lv_sub hl [2, 3, 4, 0] rfl)
            · have nc_12 := z_ne rfl (zk (x := (-1)) (-1) rfl) c_12
              refine lv_aload_n hx hb dX3_takeAll_45 rfl (lv_at hl 1 rfl) ?_
              refine lv_iload_n hx hb dX3_takeAll_46 rfl (lv_at hl 4 rfl) ?_
              refine lv_iload hx hb dX3_takeAll_47 (lv_at hl 0 rfl) ?_
              have hFc := tw_free hF hS hA
              refine va_callv (va_runV (As := [.int i3, .int r_9]) (rest := []) ⟨hx, hb, hml, hown, hts⟩ (c_takeF l dC dI ad av H.size a k τ ln y_10 g u i3 r_9 hI (by omega) (by omega) (by omega) (by omega) hFl (hsp.ag hI hG (by decide)) (by omega) (by omega) (by omega)) (cwV 2 hts (gi_4 (List.mem_cons_of_mem _ (List.mem_append_left _ (List.mem_of_getElem? (i := 7) rfl))) (List.mem_cons_of_mem _ (List.mem_append_left _ (List.mem_of_getElem? (i := 8) rfl))) (List.mem_cons_of_mem _ (List.mem_append_left _ (List.mem_of_getElem? (i := 9) rfl))) (List.mem_cons_of_mem _ (List.mem_append_left _ (List.mem_of_getElem? (i := 6) rfl))) (fun _ hh => (List.mem_cons_of_mem _ (List.mem_append_right _ (List.mem_append_right _ (List.mem_append_right _ (List.mem_append_right _ (List.mem_append_left _ hh))))))) gd_c_takeF) rfl rfl rfl (by decide +kernel) ⟨Nat.le_of_ble_eq_true rfl, Nat.le_of_ble_eq_true rfl⟩) ⟨pw_blind, tw_recv hK hT (fx_3 hX) (by decide) cl_e13 rfl, pw_use hT hK hFc hS hM⟩ rfl rfl hl.1 rfl (lv_room (Nat.le_of_ble_eq_true rfl)) dX3_takeAll_49 ⟨Nat.le_of_ble_eq_true rfl, Nat.le_of_ble_eq_true rfl⟩) hS (fun q _ h => hFc q h) hFc (fun u0 t H locs ht hvm hw hB hz1 hk1 hS => ?_)
              refine W.widen (k := 0) (n := 0) (Nat.le_of_ble_eq_true rfl) (Nat.le_of_ble_eq_true rfl) ?_
              clear hvm hz1 hk1
              obtain ⟨y_15, hgy_15, hf_16, hT⟩ := hB
              rw [ht] at hT
              have hG := hG.tr hgy_15 (by decide)
              have : (y_15 (a 3) 2).toInt = (y_10 (a 3) 2).toInt := by rw [hgy_15.at (fx_3 hX) (by decide)]
              have hI := hI.ag hgy_15 (by decide)
              have hFl := hf_16
              obtain ⟨x_17, ex_17⟩ : ∃ y : Int32, y = i3 + Int32.ofInt 1 := ⟨_, rfl⟩
              have hx_17 := z_add ex_17 rfl (zk (x := Int32.ofInt 1) 1 rfl) (by omega) (by omega)
              refine lv_iinc (v := x_17) (lv' := [(3, .int x_17), (4, .int r_9), (0, .ref (a 3)), (1, .int p0), (2, .null)]) hx hb dX3_takeAll_52 hl (k := 4) rfl ex_17.symm (by decide) rfl (fun ls hl => ?_)
              refine lv_goto (tgt := 2) hx hb dX3_takeAll_55 (by decide) ?_
              exact ih_2  x_17 y_15 H _ ls (by omega) hG hI hFl (by omega) (by omega) (by omega) hT hS (lv_sub hl [2, 3, 4, 0] rfl)
  have hp_18 : (0 : Int32).toInt = 0 := (zk (x := 0) 0 rfl)
  exact loop_2 _ (0 : Int32) y s.heap _ ls (Nat.lt_succ_self _) hG hI hFl (by omega) (by omega) (by omega) hT hS (lv_sub hl [1, 2, 3, 0] rfl)
def wo_c_earlierBehindF : List Cond := []
def wm_c_earlierBehindF : List Cond := .code yX1_earlierBehind cX1_earlierBehind 3 (some .int) :: (wo_c_earlierBehindF ++ ([] : List Cond))
theorem gd_c_earlierBehindF : ∀ w ∈ wm_c_earlierBehindF, goodWord w = true := gd_c rfl (gd_a (by decide) gd_nil)
set_option maxRecDepth 20000 in
theorem im_c_earlierBehindF : ∀ w ∈ wm_c_earlierBehindF, w ∈ lw_tbl := im_c (in_r [.code yX1_earlierBehind cX1_earlierBehind 3 (some .int)] [835] (by decide +kernel)) (in_app (in_r wo_c_earlierBehindF [] (by decide +kernel)) im_nil)
set_option maxHeartbeats 4000000 in
set_option maxRecDepth 100000 in
theorem c_earlierBehindF (l : Launch) (dC : Nat → ClassId) (dI : Nat → Nat → Nat) (ad av : Nat → Nat) (sz : Nat) (a : Nat → Nat) (k : Nat → ClassId) (τ ln : Nat → Nat) (y : Nat → Nat → Int32) (g : Nat → Nat → Option Nat) (u : Nat → Int) (p0 : Int32) (p1 : Int32) (p2 : Int32) : Met l yX1_earlierBehind wm_c_earlierBehindF ({ frames := 0, cells := 0, slots := 0, locals := 0 }) (pw_ ad av (dC, dI) sz [.int p0, .int p1, .int p2] a k τ ln y g) (va_Qi (fun (r u : Int32) => u = r) (fun (r : Int32) (t : State) => ((r.toInt = p2.toInt ∨ (p0.toInt < r.toInt ∧ r.toInt < p2.toInt)) ∧ tw (dC, dI) a k τ ln y g t.heap)) (fr τ sz)) 0 0 (fr τ sz) := by
  refine Met.ofW (cc := cX1_earlierBehind) (maxL := 3) (ret := (some .int)) (by decide) rfl ?_
  intro p e s m args below meth c s₁ B hml hv
  obtain ⟨rfl, hsz, hT, hK, hM⟩ := hv
  have hx := B.exec
  have hb := B.bytes
  have hr := B.returns
  have hts := atoms_spec (ws := wm_c_earlierBehindF) B.pre
  have hown : s.vm.findClass RX1 = some m.cls := findClass_of_methodNamed B.named
  have hlocks := B.notSynchronized
  subst hsz
  generalize hAe : fr τ s.heap.size = A at hM ⊢
  have hA : ∀ q : Nat, s.heap.size ≤ q → A q := fun q h => by rw [← hAe]; exact Or.inr h
  have hF : ∀ q, τ q ≠ 0 → A q := fun q h => by rw [← hAe]; exact Or.inl h
  have hS : va_S A s.heap s.heap [] := va_S.rf
  have hl := lv_entry ([.int p0, .int p1, .int p2]) (n := 3) (Nat.le_of_ble_eq_true rfl)
  rw [lg_entry_eq]
  generalize (lg_sl ([.int p0, .int p1, .int p2]) ++ List.replicate (3 - (lg_sl ([.int p0, .int p1, .int p2])).length) Slot.unset).toArray = ls at hl ⊢
  have hl : lv_has ls 3 [(0, .int p0), (1, .int p1), (2, .int p2)] := hl
  refine lv_iload_n hx hb dX1_earlierBehind_0 rfl (lv_at hl 1 rfl) ?_
  refine lv_iload_n hx hb dX1_earlierBehind_1 rfl (lv_at hl 0 rfl) ?_
  refine lv_icmp_le (tgt := 14) hx hb dX1_earlierBehind_2 (by decide) (fun c_1 => ?_) (fun c_1 => ?_)
  · have nc_1 := z_le rfl rfl c_1
    refine lv_iload_n hx hb dX1_earlierBehind_14 rfl (lv_at hl 2 rfl) ?_
    have hrv : p2.toInt = p2.toInt := rfl
    exact W.iret (v := p2) hx hb hr (fun t ht hW9 => ⟨⟨p2, p2, rfl, rfl, ⟨by omega, tw_at ht hT⟩⟩, hS.F ht⟩) hS.2.2 dX1_earlierBehind_15
  · have nc_1 := z_nle rfl rfl c_1
    refine lv_iload_n hx hb dX1_earlierBehind_5 rfl (lv_at hl 1 rfl) ?_
    refine lv_iload_n hx hb dX1_earlierBehind_6 rfl (lv_at hl 2 rfl) ?_
    refine lv_icmp_ge (tgt := 14) hx hb dX1_earlierBehind_7 (by decide) (fun c_2 => ?_) (fun c_2 => ?_)
    · have nc_2 := z_le rfl rfl c_2
      refine lv_iload_n hx hb dX1_earlierBehind_14 rfl (lv_at hl 2 rfl) ?_
      have hrv : p2.toInt = p2.toInt := rfl
      exact W.iret (v := p2) hx hb hr (fun t ht hW9 => ⟨⟨p2, p2, rfl, rfl, ⟨by omega, tw_at ht hT⟩⟩, hS.F ht⟩) hS.2.2 dX1_earlierBehind_15
    · have nc_2 := z_nle rfl rfl c_2
      refine lv_iload_n hx hb dX1_earlierBehind_10 rfl (lv_at hl 1 rfl) ?_
      refine lv_goto (tgt := 15) hx hb dX1_earlierBehind_11 (by decide) ?_
      have hrv : p1.toInt = p1.toInt := rfl
      exact W.iret (v := p1) hx hb hr (fun t ht hW9 => ⟨⟨p1, p1, rfl, rfl, ⟨by omega, tw_at ht hT⟩⟩, hS.F ht⟩) hS.2.2 dX1_earlierBehind_15
def wo_c_changeBehindF : List Cond := [.fieldLink RX1 34 "TypingPool$Book" "pieceCount" "I", .fieldLink RX1 43 "TypingPool$Book" "awayCount" "I", .fieldLink RX1 39 "TypingPool$Book" "aways" "[LTypingPool$Away;", .fieldLink RX1 46 "TypingPool$Away" "from" "I", .methodLink RX1 58 yX1_earlierBehind, .static yX1_earlierBehind, .initialized RX1, .fieldLink RX1 49 "TypingPool$Away" "to" "I", .fieldLink RX1 30 "TypingPool$Book" "pieces" "[LTypingPool$Piece;", .fieldLink RX1 55 "TypingPool$Piece" "comes" "I"]
def wm_c_changeBehindF : List Cond := .code yX1_changeBehind cX1_changeBehind 5 (some .int) :: (wo_c_changeBehindF ++ (wsX10 ++ (wsX00 ++ (wm_c_earlierBehindF ++ (wsX60 ++ ([] : List Cond))))))
theorem gd_c_changeBehindF : ∀ w ∈ wm_c_changeBehindF, goodWord w = true := gd_c rfl (gd_a (by decide) (gd_a gd_wsX10 (gd_a gd_wsX00 (gd_a gd_c_earlierBehindF (gd_a gd_wsX60 gd_nil)))))
set_option maxRecDepth 20000 in
theorem im_c_changeBehindF : ∀ w ∈ wm_c_changeBehindF, w ∈ lw_tbl := im_c (in_r [.code yX1_changeBehind cX1_changeBehind 5 (some .int)] [832] (by decide +kernel)) (in_app (in_r wo_c_changeBehindF [131, 136, 135, 642, 833, 834, 71, 644, 126, 680] (by decide +kernel)) (in_app im_wsX10 (in_app im_wsX00 (in_app im_c_earlierBehindF (in_app im_wsX60 im_nil)))))
set_option maxHeartbeats 4000000 in
set_option maxRecDepth 100000 in
theorem c_changeBehindF (l : Launch) (dC : Nat → ClassId) (dI : Nat → Nat → Nat) (ad av : Nat → Nat) (sz : Nat) (a : Nat → Nat) (k : Nat → ClassId) (τ ln : Nat → Nat) (y : Nat → Nat → Int32) (g : Nat → Nat → Option Nat) (u : Nat → Int) (p0 : Int32) (p1 : Int32) (hI : IC a u τ ln y g) (hlt : p0.toInt < p1.toInt) : Met l yX1_changeBehind wm_c_changeBehindF ({ frames := 1, cells := 0, slots := 0, locals := 60 }) (pw_ ad av (dC, dI) sz [.ref (a 1), .int p0, .int p1] a k τ ln y g) (va_Qi (fun (r u : Int32) => u = r) (fun (r : Int32) (t : State) => (p0.toInt < r.toInt ∧ r.toInt ≤ p1.toInt ∧ tw (dC, dI) a k τ ln y g t.heap)) (fr τ sz)) 0 0 (fr τ sz) := by
  refine Met.ofW (cc := cX1_changeBehind) (maxL := 5) (ret := (some .int)) (by decide) rfl ?_
  intro p e s m args below meth c s₁ B hml hv
  obtain ⟨rfl, hsz, hT, hK, hM⟩ := hv
  have hx := B.exec
  have hb := B.bytes
  have hr := B.returns
  have hts := atoms_spec (ws := wm_c_changeBehindF) B.pre
  have hown : s.vm.findClass RX1 = some m.cls := findClass_of_methodNamed B.named
  have hlocks := B.notSynchronized
  subst hsz
  generalize hAe : fr τ s.heap.size = A at hM ⊢
  have hA : ∀ q : Nat, s.heap.size ≤ q → A q := fun q h => by rw [← hAe]; exact Or.inr h
  have hF : ∀ q, τ q ≠ 0 → A q := fun q h => by rw [← hAe]; exact Or.inl h
  have hS : va_S A s.heap s.heap [] := va_S.rf
  have hX := hI.1
  have hR := ic_r hI
  have hl := lv_entry ([.ref (a 1), .int p0, .int p1]) (n := 5) (Nat.le_of_ble_eq_true rfl)
  rw [lg_entry_eq]
  generalize (lg_sl ([.ref (a 1), .int p0, .int p1]) ++ List.replicate (5 - (lg_sl ([.ref (a 1), .int p0, .int p1])).length) Slot.unset).toArray = ls at hl ⊢
  have hl : lv_has ls 5 [(0, .ref (a 1)), (1, .int p0), (2, .int p1)] := hl
  refine lv_iload_n hx hb dX1_changeBehind_0 rfl (lv_at hl 2 rfl) ?_
  refine lv_istore_n (lv' := [(3, .int p1), (0, .ref (a 1)), (1, .int p0), (2, .int p1)]) hx hb dX1_changeBehind_1 rfl hl (by decide) rfl (fun ls hl => ?_)
  refine lv_iconst (v := 0) hx hb dX1_changeBehind_2 (by decide) ?_
  refine lv_istore (lv' := [(4, .int 0), (3, .int p1), (0, .ref (a 1)), (1, .int p0), (2, .int p1)]) hx hb dX1_changeBehind_3 hl (by decide) rfl (fun ls hl => ?_)
  have loop_5 : ∀ (n : Nat) (i3 : Int32) (i4 : Int32) (H : Heap) (locs : List Loc) (ls : Array Slot), (u 2 - i4.toInt).toNat < n → 0 ≤ i4.toInt → i4.toInt ≤ u 2 → p0.toInt < i3.toInt → i3.toInt ≤ p1.toInt → tw (dC, dI) a k τ ln y g H → va_S A s.heap H locs → lv_has ls 5 [(0, .ref (a 1)), (1, .int p0), (2, .int p1), (3, .int i3), (4, .int i4)] → W p l e (headSpec wm_c_changeBehindF ({ frames := 1, cells := 0, slots := 0, locals := 60 })).room s m ([.ref (a 1), .int p0, .int p1] : List Value).toArray below meth c H locs 0 0 (MQ below (va_Qi (fun (r u : Int32) => u = r) (fun (r : Int32) (t : State) => (p0.toInt < r.toInt ∧ r.toInt ≤ p1.toInt ∧ tw (dC, dI) a k τ ln y g t.heap)) A) ([.ref (a 1), .int p0, .int p1] : List Value).toArray s 0 0 A) (F0 m 5 ls []) := by
    intro n
    induction n with
    | zero => intro i3 i4 H locs ls hlt; exact absurd hlt (Nat.not_lt_zero _)
    | succ n ih_5 =>
      intro i3 i4 H locs ls hlt hi5_0 hi5_1 hi5_2 hi5_3 hT hS hl
      refine lv_iload hx hb dX1_changeBehind_5 (lv_at hl 4 rfl) ?_
      refine lv_aload_n hx hb dX1_changeBehind_7 rfl (lv_at hl 0 rfl) ?_
      refine tw_get (D := (dC, dI)) (v := .int (y (a 1) 5)) (C := RX1) (T := TX1) (N := 8) hx hb hts (fun _ hh => (List.mem_cons_of_mem _ (List.mem_append_right _ (List.mem_append_left _ hh)))) hown hK hT (fx_1 hX) (by decide) cl_e11 rfl 5 (by decide) (hts (.fieldLink RX1 34 "TypingPool$Book" "pieceCount" "I") (List.mem_cons_of_mem _ (List.mem_append_left _ (List.mem_of_getElem? (i := 0) rfl)))) (fun _ h9 => h9) rfl dX1_changeBehind_8 ?_
      have hc_1 := ic_2 hI
      refine lv_icmp_ge (tgt := 36) hx hb dX1_changeBehind_11 (by decide) (fun c_2 => ?_) (fun c_2 => ?_)
      · have nc_2 := z_le hc_1 rfl c_2
        refine lv_iconst (v := 0) hx hb dX1_changeBehind_36 (by decide) ?_
        refine lv_istore (lv' := [(4, .int 0), (0, .ref (a 1)), (1, .int p0), (2, .int p1), (3, .int i3)]) hx hb dX1_changeBehind_37 hl (by decide) rfl (fun ls hl => ?_)
        have loop_39 : ∀ (n : Nat) (i3 : Int32) (i4 : Int32) (H : Heap) (locs : List Loc) (ls : Array Slot), (u 3 - i4.toInt).toNat < n → 0 ≤ i4.toInt → i4.toInt ≤ u 3 → p0.toInt < i3.toInt → i3.toInt ≤ p1.toInt → tw (dC, dI) a k τ ln y g H → va_S A s.heap H locs → lv_has ls 5 [(0, .ref (a 1)), (1, .int p0), (2, .int p1), (3, .int i3), (4, .int i4)] → W p l e (headSpec wm_c_changeBehindF ({ frames := 1, cells := 0, slots := 0, locals := 60 })).room s m ([.ref (a 1), .int p0, .int p1] : List Value).toArray below meth c H locs 0 0 (MQ below (va_Qi (fun (r u : Int32) => u = r) (fun (r : Int32) (t : State) => (p0.toInt < r.toInt ∧ r.toInt ≤ p1.toInt ∧ tw (dC, dI) a k τ ln y g t.heap)) A) ([.ref (a 1), .int p0, .int p1] : List Value).toArray s 0 0 A) (F0 m 39 ls []) := by
          intro n
          induction n with
          | zero => intro i3 i4 H locs ls hlt; exact absurd hlt (Nat.not_lt_zero _)
          | succ n ih_39 =>
            intro i3 i4 H locs ls hlt hi39_0 hi39_1 hi39_2 hi39_3 hT hS hl
            refine lv_iload hx hb dX1_changeBehind_39 (lv_at hl 4 rfl) ?_
            refine lv_aload_n hx hb dX1_changeBehind_41 rfl (lv_at hl 0 rfl) ?_
            refine tw_get (D := (dC, dI)) (v := .int (y (a 1) 7)) (C := RX1) (T := TX1) (N := 8) hx hb hts (fun _ hh => (List.mem_cons_of_mem _ (List.mem_append_right _ (List.mem_append_left _ hh)))) hown hK hT (fx_1 hX) (by decide) cl_e11 rfl 7 (by decide) (hts (.fieldLink RX1 43 "TypingPool$Book" "awayCount" "I") (List.mem_cons_of_mem _ (List.mem_append_left _ (List.mem_of_getElem? (i := 1) rfl)))) (fun _ h9 => h9) rfl dX1_changeBehind_42 ?_
            have hc_3 := ic_3 hI
            refine lv_icmp_ge (tgt := 86) hx hb dX1_changeBehind_45 (by decide) (fun c_4 => ?_) (fun c_4 => ?_)
            · have nc_4 := z_le hc_3 rfl c_4
              refine lv_iload_n hx hb dX1_changeBehind_86 rfl (lv_at hl 3 rfl) ?_
              have hrv : i3.toInt = i3.toInt := rfl
              exact W.iret (v := i3) hx hb hr (fun t ht hW9 => ⟨⟨i3, i3, rfl, rfl, ⟨by omega, by omega, tw_at ht hT⟩⟩, hS.F ht⟩) hS.2.2 dX1_changeBehind_87
            · have nc_4 := z_nle hc_3 rfl c_4
              refine lv_iload_n hx hb dX1_changeBehind_48 rfl (lv_at hl 1 rfl) ?_
              refine lv_aload_n hx hb dX1_changeBehind_49 rfl (lv_at hl 0 rfl) ?_
              refine tw_get (D := (dC, dI)) (v := .ref (a 12)) (C := RX1) (T := TX1) (N := 8) hx hb hts (fun _ hh => (List.mem_cons_of_mem _ (List.mem_append_right _ (List.mem_append_left _ hh)))) hown hK hT (fx_1 hX) (by decide) cl_e11 rfl 6 (by decide) (hts (.fieldLink RX1 39 "TypingPool$Book" "aways" "[LTypingPool$Away;") (List.mem_cons_of_mem _ (List.mem_append_left _ (List.mem_of_getElem? (i := 2) rfl)))) (fun _ h9 => h9) rfl dX1_changeBehind_50 ?_
              refine lv_iload hx hb dX1_changeBehind_53 (lv_at hl 4 rfl) ?_
              refine tw_aald hx hb hK hT 5 (fx_12 hX) (by decide) cl_e22 rfl (z_in rfl (by omega) (by omega)) dX1_changeBehind_55 ?_
              obtain ⟨q_5, hgq_5, htq_5⟩ := ic_l12 hI (x := i4) rfl (by omega) (by omega)
              refine lq_topr hgq_5 ?_
              refine tw_get (D := (dC, dI)) (v := .int (y q_5 1)) (C := RX0) (T := TX0) (N := 3) hx hb hts (fun _ hh => (List.mem_cons_of_mem _ (List.mem_append_right _ (List.mem_append_right _ (List.mem_append_left _ hh))))) hown hK hT htq_5 (by decide) cl_e3 rfl 1 (by decide) (hts (.fieldLink RX1 46 "TypingPool$Away" "from" "I") (List.mem_cons_of_mem _ (List.mem_append_left _ (List.mem_of_getElem? (i := 3) rfl)))) (fun _ h9 => h9) rfl dX1_changeBehind_56 ?_
              refine lv_iload_n hx hb dX1_changeBehind_59 rfl (lv_at hl 3 rfl) ?_
              have hFc := tw_free hF hS hA
              refine va_calli (va_runS (As := [.int p0, .int (y q_5 1), .int i3]) (rest := []) ⟨hx, hb, hml, hown, hts⟩ (c_earlierBehindF l dC dI ad av H.size a k τ ln y g u p0 (y q_5 1) i3  ) (va_cwS 3 hts (gi_3 (List.mem_cons_of_mem _ (List.mem_append_left _ (List.mem_of_getElem? (i := 4) rfl))) (List.mem_cons_of_mem _ (List.mem_append_left _ (List.mem_of_getElem? (i := 5) rfl))) (List.mem_cons_of_mem _ (List.mem_append_left _ (List.mem_of_getElem? (i := 6) rfl))) (fun _ hh => (List.mem_cons_of_mem _ (List.mem_append_right _ (List.mem_append_right _ (List.mem_append_right _ (List.mem_append_left _ hh)))))) gd_c_earlierBehindF) rfl rfl rfl (by decide +kernel) ⟨Nat.le_of_ble_eq_true rfl, Nat.le_of_ble_eq_true rfl⟩) ⟨pw_blind, pw_use hT hK hFc hS hM⟩ rfl rfl hl.1 rfl (lv_room (Nat.le_of_ble_eq_true rfl)) dX1_changeBehind_60 ⟨Nat.le_of_ble_eq_true rfl, Nat.le_of_ble_eq_true rfl⟩) hS (fun q _ h => hFc q h) hFc (fun r0 r_6 t H locs ht hvm hw hB hz1 hk1 hS => ?_)
              refine W.widen (k := 0) (n := 0) (Nat.le_of_ble_eq_true rfl) (Nat.le_of_ble_eq_true rfl) ?_
              clear hvm hz1 hk1
              subst hw
              obtain ⟨hf_7, hT⟩ := hB
              rw [ht] at hT
              refine lv_istore_n (lv' := [(3, .int r_6), (0, .ref (a 1)), (1, .int p0), (2, .int p1), (4, .int i4)]) hx hb dX1_changeBehind_63 rfl hl (by decide) rfl (fun ls hl => ?_)
              refine lv_iload_n hx hb dX1_changeBehind_64 rfl (lv_at hl 2 rfl) ?_
              refine lv_aload_n hx hb dX1_changeBehind_65 rfl (lv_at hl 1 rfl) ?_
              refine tw_get (D := (dC, dI)) (v := .ref (a 12)) (C := RX1) (T := TX1) (N := 8) hx hb hts (fun _ hh => (List.mem_cons_of_mem _ (List.mem_append_right _ (List.mem_append_left _ hh)))) hown hK hT (fx_1 hX) (by decide) cl_e11 rfl 6 (by decide) (hts (.fieldLink RX1 39 "TypingPool$Book" "aways" "[LTypingPool$Away;") (List.mem_cons_of_mem _ (List.mem_append_left _ (List.mem_of_getElem? (i := 2) rfl)))) (fun _ h9 => h9) rfl dX1_changeBehind_66 ?_
              refine lv_iload hx hb dX1_changeBehind_69 (lv_at hl 4 rfl) ?_
              refine tw_aald hx hb hK hT 5 (fx_12 hX) (by decide) cl_e22 rfl (z_in rfl (by omega) (by omega)) dX1_changeBehind_71 ?_
              obtain ⟨q_8, hgq_8, htq_8⟩ := ic_l12 hI (x := i4) rfl (by omega) (by omega)
              refine lq_topr hgq_8 ?_
              refine tw_get (D := (dC, dI)) (v := .int (y q_8 2)) (C := RX0) (T := TX0) (N := 3) hx hb hts (fun _ hh => (List.mem_cons_of_mem _ (List.mem_append_right _ (List.mem_append_right _ (List.mem_append_left _ hh))))) hown hK hT htq_8 (by decide) cl_e3 rfl 2 (by decide) (hts (.fieldLink RX1 49 "TypingPool$Away" "to" "I") (List.mem_cons_of_mem _ (List.mem_append_left _ (List.mem_of_getElem? (i := 7) rfl)))) (fun _ h9 => h9) rfl dX1_changeBehind_72 ?_
              refine lv_iload_n hx hb dX1_changeBehind_75 rfl (lv_at hl 0 rfl) ?_
              have hFc := tw_free hF hS hA
              refine va_calli (va_runS (As := [.int p0, .int (y q_8 2), .int r_6]) (rest := []) ⟨hx, hb, hml, hown, hts⟩ (c_earlierBehindF l dC dI ad av H.size a k τ ln y g u p0 (y q_8 2) r_6  ) (va_cwS 3 hts (gi_3 (List.mem_cons_of_mem _ (List.mem_append_left _ (List.mem_of_getElem? (i := 4) rfl))) (List.mem_cons_of_mem _ (List.mem_append_left _ (List.mem_of_getElem? (i := 5) rfl))) (List.mem_cons_of_mem _ (List.mem_append_left _ (List.mem_of_getElem? (i := 6) rfl))) (fun _ hh => (List.mem_cons_of_mem _ (List.mem_append_right _ (List.mem_append_right _ (List.mem_append_right _ (List.mem_append_left _ hh)))))) gd_c_earlierBehindF) rfl rfl rfl (by decide +kernel) ⟨Nat.le_of_ble_eq_true rfl, Nat.le_of_ble_eq_true rfl⟩) ⟨pw_blind, pw_use hT hK hFc hS hM⟩ rfl rfl hl.1 rfl (lv_room (Nat.le_of_ble_eq_true rfl)) dX1_changeBehind_76 ⟨Nat.le_of_ble_eq_true rfl, Nat.le_of_ble_eq_true rfl⟩) hS (fun q _ h => hFc q h) hFc (fun r0 r_9 t H locs ht hvm hw hB hz1 hk1 hS => ?_)
              refine W.widen (k := 0) (n := 0) (Nat.le_of_ble_eq_true rfl) (Nat.le_of_ble_eq_true rfl) ?_
              clear hvm hz1 hk1
              subst hw
              obtain ⟨hf_10, hT⟩ := hB
              rw [ht] at hT
              refine lv_istore_n (lv' := [(3, .int r_9), (0, .ref (a 1)), (1, .int p0), (2, .int p1), (4, .int i4)]) hx hb dX1_changeBehind_79 rfl hl (by decide) rfl (fun ls hl => ?_)
              obtain ⟨x_11, ex_11⟩ : ∃ y : Int32, y = i4 + Int32.ofInt 1 := ⟨_, rfl⟩
              have hx_11 := z_add ex_11 rfl (zk (x := Int32.ofInt 1) 1 rfl) (by omega) (by omega)
              refine lv_iinc (v := x_11) (lv' := [(4, .int x_11), (3, .int r_9), (0, .ref (a 1)), (1, .int p0), (2, .int p1)]) hx hb dX1_changeBehind_80 hl (k := 4) rfl ex_11.symm (by decide) rfl (fun ls hl => ?_)
              refine lv_goto (tgt := 39) hx hb dX1_changeBehind_83 (by decide) ?_
              exact ih_39  r_9 x_11 H _ ls (by omega) (by omega) (by omega) (by omega) (by omega) hT hS (lv_sub hl [2, 3, 4, 1, 0] rfl)
        have hp_12 : (0 : Int32).toInt = 0 := (zk (x := 0) 0 rfl)
        exact loop_39 _ i3 (0 : Int32) H _ ls (Nat.lt_succ_self _) (by omega) (by omega) (by omega) (by omega) hT hS (lv_sub hl [1, 2, 3, 4, 0] rfl)
      · have nc_2 := z_nle hc_1 rfl c_2
        refine lv_iload_n hx hb dX1_changeBehind_14 rfl (lv_at hl 1 rfl) ?_
        refine lv_aload_n hx hb dX1_changeBehind_15 rfl (lv_at hl 0 rfl) ?_
        refine tw_get (D := (dC, dI)) (v := .ref (a 11)) (C := RX1) (T := TX1) (N := 8) hx hb hts (fun _ hh => (List.mem_cons_of_mem _ (List.mem_append_right _ (List.mem_append_left _ hh)))) hown hK hT (fx_1 hX) (by decide) cl_e11 rfl 4 (by decide) (hts (.fieldLink RX1 30 "TypingPool$Book" "pieces" "[LTypingPool$Piece;") (List.mem_cons_of_mem _ (List.mem_append_left _ (List.mem_of_getElem? (i := 8) rfl)))) (fun _ h9 => h9) rfl dX1_changeBehind_16 ?_
        refine lv_iload hx hb dX1_changeBehind_19 (lv_at hl 4 rfl) ?_
        refine tw_aald hx hb hK hT 4 (fx_11 hX) (by decide) cl_e21 rfl (z_in rfl (by omega) (by omega)) dX1_changeBehind_21 ?_
        obtain ⟨q_13, hgq_13, htq_13⟩ := ic_l11 hI (x := i4) rfl (by omega) (by omega)
        refine lq_topr hgq_13 ?_
        refine tw_get (D := (dC, dI)) (v := .int (y q_13 5)) (C := RX6) (T := TX6) (N := 11) hx hb hts (fun _ hh => (List.mem_cons_of_mem _ (List.mem_append_right _ (List.mem_append_right _ (List.mem_append_right _ (List.mem_append_right _ (List.mem_append_left _ hh))))))) hown hK hT htq_13 (by decide) cl_e2 rfl 5 (by decide) (hts (.fieldLink RX1 55 "TypingPool$Piece" "comes" "I") (List.mem_cons_of_mem _ (List.mem_append_left _ (List.mem_of_getElem? (i := 9) rfl)))) (fun _ h9 => h9) rfl dX1_changeBehind_22 ?_
        refine lv_iload_n hx hb dX1_changeBehind_25 rfl (lv_at hl 3 rfl) ?_
        have hFc := tw_free hF hS hA
        refine va_calli (va_runS (As := [.int p0, .int (y q_13 5), .int i3]) (rest := []) ⟨hx, hb, hml, hown, hts⟩ (c_earlierBehindF l dC dI ad av H.size a k τ ln y g u p0 (y q_13 5) i3  ) (va_cwS 3 hts (gi_3 (List.mem_cons_of_mem _ (List.mem_append_left _ (List.mem_of_getElem? (i := 4) rfl))) (List.mem_cons_of_mem _ (List.mem_append_left _ (List.mem_of_getElem? (i := 5) rfl))) (List.mem_cons_of_mem _ (List.mem_append_left _ (List.mem_of_getElem? (i := 6) rfl))) (fun _ hh => (List.mem_cons_of_mem _ (List.mem_append_right _ (List.mem_append_right _ (List.mem_append_right _ (List.mem_append_left _ hh)))))) gd_c_earlierBehindF) rfl rfl rfl (by decide +kernel) ⟨Nat.le_of_ble_eq_true rfl, Nat.le_of_ble_eq_true rfl⟩) ⟨pw_blind, pw_use hT hK hFc hS hM⟩ rfl rfl hl.1 rfl (lv_room (Nat.le_of_ble_eq_true rfl)) dX1_changeBehind_26 ⟨Nat.le_of_ble_eq_true rfl, Nat.le_of_ble_eq_true rfl⟩) hS (fun q _ h => hFc q h) hFc (fun r0 r_14 t H locs ht hvm hw hB hz1 hk1 hS => ?_)
        refine W.widen (k := 0) (n := 0) (Nat.le_of_ble_eq_true rfl) (Nat.le_of_ble_eq_true rfl) ?_
        clear hvm hz1 hk1
        subst hw
        obtain ⟨hf_15, hT⟩ := hB
        rw [ht] at hT
        refine lv_istore_n (lv' := [(3, .int r_14), (0, .ref (a 1)), (1, .int p0), (2, .int p1), (4, .int i4)]) hx hb dX1_changeBehind_29 rfl hl (by decide) rfl (fun ls hl => ?_)
        obtain ⟨x_16, ex_16⟩ : ∃ y : Int32, y = i4 + Int32.ofInt 1 := ⟨_, rfl⟩
        have hx_16 := z_add ex_16 rfl (zk (x := Int32.ofInt 1) 1 rfl) (by omega) (by omega)
        refine lv_iinc (v := x_16) (lv' := [(4, .int x_16), (3, .int r_14), (0, .ref (a 1)), (1, .int p0), (2, .int p1)]) hx hb dX1_changeBehind_30 hl (k := 4) rfl ex_16.symm (by decide) rfl (fun ls hl => ?_)
        refine lv_goto (tgt := 5) hx hb dX1_changeBehind_33 (by decide) ?_
        exact ih_5  r_14 x_16 H _ ls (by omega) (by omega) (by omega) (by omega) (by omega) hT hS (lv_sub hl [2, 3, 4, 1, 0] rfl)
  have hp_17 : (0 : Int32).toInt = 0 := (zk (x := 0) 0 rfl)
  exact loop_5 _ p1 (0 : Int32) s.heap _ ls (Nat.lt_succ_self _) (by omega) (by omega) (by omega) (by omega) hT hS (lv_sub hl [2, 3, 4, 1, 0] rfl)
def wo_c_minutesForF : List Cond := []
def wm_c_minutesForF : List Cond := .code yX11_minutesFor cX11_minutesFor 2 (some .int) :: (wo_c_minutesForF ++ ([] : List Cond))
theorem gd_c_minutesForF : ∀ w ∈ wm_c_minutesForF, goodWord w = true := gd_c rfl (gd_a (by decide) gd_nil)
set_option maxRecDepth 20000 in
theorem im_c_minutesForF : ∀ w ∈ wm_c_minutesForF, w ∈ lw_tbl := im_c (in_r [.code yX11_minutesFor cX11_minutesFor 2 (some .int)] [846] (by decide +kernel)) (in_app (in_r wo_c_minutesForF [] (by decide +kernel)) im_nil)
set_option maxHeartbeats 4000000 in
set_option maxRecDepth 100000 in
theorem c_minutesForF (l : Launch) (dC : Nat → ClassId) (dI : Nat → Nat → Nat) (ad av : Nat → Nat) (sz : Nat) (a : Nat → Nat) (k : Nat → ClassId) (τ ln : Nat → Nat) (y : Nat → Nat → Int32) (g : Nat → Nat → Option Nat) (u : Nat → Int) (p0 : Int32) (p1 : Int32) (hw0 : 1 ≤ p0.toInt) (hw1 : p0.toInt ≤ 28800) (hr0 : 1 ≤ p1.toInt) (hr1 : p1.toInt ≤ 200) : Met l yX11_minutesFor wm_c_minutesForF ({ frames := 0, cells := 0, slots := 0, locals := 0 }) (pw_ ad av (dC, dI) sz [.int p0, .int p1] a k τ ln y g) (va_Qi (fun (r u : Int32) => u = r) (fun (r : Int32) (t : State) => (1 ≤ r.toInt ∧ r.toInt ≤ 29000 ∧ tw (dC, dI) a k τ ln y g t.heap)) (fr τ sz)) 0 0 (fr τ sz) := by
  refine Met.ofW (cc := cX11_minutesFor) (maxL := 2) (ret := (some .int)) (by decide) rfl ?_
  intro p e s m args below meth c s₁ B hml hv
  obtain ⟨rfl, hsz, hT, hK, hM⟩ := hv
  have hx := B.exec
  have hb := B.bytes
  have hr := B.returns
  have hts := atoms_spec (ws := wm_c_minutesForF) B.pre
  have hown : s.vm.findClass RX11 = some m.cls := findClass_of_methodNamed B.named
  have hlocks := B.notSynchronized
  subst hsz
  generalize hAe : fr τ s.heap.size = A at hM ⊢
  have hA : ∀ q : Nat, s.heap.size ≤ q → A q := fun q h => by rw [← hAe]; exact Or.inr h
  have hF : ∀ q, τ q ≠ 0 → A q := fun q h => by rw [← hAe]; exact Or.inl h
  have hS : va_S A s.heap s.heap [] := va_S.rf
  have hl := lv_entry ([.int p0, .int p1]) (n := 2) (Nat.le_of_ble_eq_true rfl)
  rw [lg_entry_eq]
  generalize (lg_sl ([.int p0, .int p1]) ++ List.replicate (2 - (lg_sl ([.int p0, .int p1])).length) Slot.unset).toArray = ls at hl ⊢
  have hl : lv_has ls 2 [(0, .int p0), (1, .int p1)] := hl
  refine lv_iload_n hx hb dX11_minutesFor_0 rfl (lv_at hl 1 rfl) ?_
  refine lv_iconst (v := 1) hx hb dX11_minutesFor_1 (by decide) ?_
  refine lv_icmp_ge (tgt := 9) hx hb dX11_minutesFor_2 (by decide) (fun c_1 => ?_) (fun c_1 => ?_)
  · have nc_1 := z_le (zk (x := 1) 1 rfl) rfl c_1
    refine lv_iload_n hx hb dX11_minutesFor_9 rfl (lv_at hl 0 rfl) ?_
    refine lv_iload_n hx hb dX11_minutesFor_10 rfl (lv_at hl 1 rfl) ?_
    refine lv_iadd hx hb dX11_minutesFor_11 ?_
    refine lv_topi (fun x_2 ex_2 => ?_)
    have hx_2 := z_add ex_2 rfl rfl (by omega) (by omega)
    refine lv_iconst (v := 1) hx hb dX11_minutesFor_12 (by decide) ?_
    refine lv_isub hx hb dX11_minutesFor_13 ?_
    refine lv_topi (fun x_3 ex_3 => ?_)
    have hx_3 := z_sub ex_3 rfl (zk (x := 1) 1 rfl) (by omega) (by omega)
    refine lv_iload_n hx hb dX11_minutesFor_14 rfl (lv_at hl 1 rfl) ?_
    refine lv_idiv hx hb dX11_minutesFor_15 (z_n0 rfl (by omega)) ?_
    refine lv_topi (fun x_4 ex_4 => ?_)
    have hx_4 := z_divc ex_4 rfl rfl (by omega) (by omega) (by omega)
    have hrv : x_4.toInt = x_4.toInt := rfl
    exact W.iret (v := x_4) hx hb hr (fun t ht hW9 => ⟨⟨x_4, x_4, rfl, rfl, ⟨by omega, by omega, tw_at ht hT⟩⟩, hS.F ht⟩) hS.2.2 dX11_minutesFor_16
  · have nc_1 := z_nle (zk (x := 1) 1 rfl) rfl c_1
    refine lv_iconst (v := 1) hx hb dX11_minutesFor_5 (by decide) ?_
    refine lv_goto (tgt := 16) hx hb dX11_minutesFor_6 (by decide) ?_
    have hrv : (1 : Int32).toInt = 1 := (zk (x := 1) 1 rfl)
    exact W.iret (v := 1) hx hb hr (fun t ht hW9 => ⟨⟨1, 1, rfl, rfl, ⟨by omega, by omega, tw_at ht hT⟩⟩, hS.F ht⟩) hS.2.2 dX11_minutesFor_16
def wo_c_changeFromF : List Cond := [.fieldLink RX3 9 "TypingPool$Floor" "now" "I", .fieldLink RX3 43 "TypingPool$Floor" "book" "LTypingPool$Book;", .methodLink RX3 126 Lib.Math.min.name, .static Lib.Math.min.name, .initialized "java/lang/Math", .code Lib.Math.min.name Lib.Math.min.code 2 (some .int), .methodLink RX3 129 yX1_changeBehind, .instanceMethod yX1_changeBehind, .selects RX1 yX1_changeBehind yX1_changeBehind, .initialized RX1, .fieldLink RX3 75 "TypingPool$Book" "handCount" "I", .methodLink RX3 132 yX3_isBusy, .instanceMethod yX3_isBusy, .selects RX3 yX3_isBusy yX3_isBusy, .initialized RX3, .fieldLink RX3 37 "TypingPool$Floor" "workLeft" "[I", .fieldLink RX3 15 "TypingPool$Floor" "has" "[I", .fieldLink RX3 19 "TypingPool$Floor" "rate" "[I", .initialized RX11, .static yX11_minutesFor]
def wm_c_changeFromF : List Cond := .code yX3_changeFrom cX3_changeFrom 6 (some .int) :: (wo_c_changeFromF ++ (wsX30 ++ (wm_c_changeBehindF ++ (wsX10 ++ (wm_c_isBusy ++ (wm_c_minutesForF ++ ([] : List Cond)))))))
theorem gd_c_changeFromF : ∀ w ∈ wm_c_changeFromF, goodWord w = true := gd_c rfl (gd_a (by decide) (gd_a gd_wsX30 (gd_a gd_c_changeBehindF (gd_a gd_wsX10 (gd_a gd_c_isBusy (gd_a gd_c_minutesForF gd_nil))))))
set_option maxRecDepth 20000 in
theorem im_c_changeFromF : ∀ w ∈ wm_c_changeFromF, w ∈ lw_tbl := im_c (in_r [.code yX3_changeFrom cX3_changeFrom 6 (some .int)] [827] (by decide +kernel)) (in_app (in_r wo_c_changeFromF [428, 426, 828, 260, 78, 261, 829, 830, 831, 71, 125, 836, 838, 14, 83, 449, 431, 434, 70, 845] (by decide +kernel)) (in_app im_wsX30 (in_app im_c_changeBehindF (in_app im_wsX10 (in_app im_c_isBusy (in_app im_c_minutesForF im_nil))))))
set_option maxHeartbeats 4000000 in
set_option maxRecDepth 100000 in
theorem c_changeFromF (l : Launch) (dC : Nat → ClassId) (dI : Nat → Nat → Nat) (ad av : Nat → Nat) (sz : Nat) (a : Nat → Nat) (k : Nat → ClassId) (τ ln : Nat → Nat) (y : Nat → Nat → Int32) (g : Nat → Nat → Option Nat) (u : Nat → Int) (p0 : Int32) (p1 : Int32) (hI : IC a u τ ln y g) (hFl : FL a (u 1) (u 2) y) (hn0 : 0 ≤ (y (a 3) 2).toInt) (hn1 : (y (a 3) 2).toInt ≤ 4800) (hlt : (y (a 3) 2).toInt < p1.toInt) (he : p1.toInt ≤ 4800) : Met l yX3_changeFrom wm_c_changeFromF ({ frames := 2, cells := 0, slots := 0, locals := 120 }) (pw_ ad av (dC, dI) sz [.ref (a 3), .int p0, .int p1] a k τ ln y g) (va_Qi (fun (r u : Int32) => u = r) (fun (r : Int32) (t : State) => ((y (a 3) 2).toInt < r.toInt ∧ r.toInt ≤ p1.toInt ∧ tw (dC, dI) a k τ ln y g t.heap)) (fr τ sz)) 0 0 (fr τ sz) := by
  refine Met.ofW (cc := cX3_changeFrom) (maxL := 6) (ret := (some .int)) (by decide) rfl ?_
  intro p e s m args below meth c s₁ B hml hv
  obtain ⟨rfl, hsz, hT, hK, hM⟩ := hv
  have hx := B.exec
  have hb := B.bytes
  have hr := B.returns
  have hts := atoms_spec (ws := wm_c_changeFromF) B.pre
  have hown : s.vm.findClass RX3 = some m.cls := findClass_of_methodNamed B.named
  have hlocks := B.notSynchronized
  subst hsz
  generalize hAe : fr τ s.heap.size = A at hM ⊢
  have hA : ∀ q : Nat, s.heap.size ≤ q → A q := fun q h => by rw [← hAe]; exact Or.inr h
  have hF : ∀ q, τ q ≠ 0 → A q := fun q h => by rw [← hAe]; exact Or.inl h
  have hS : va_S A s.heap s.heap [] := va_S.rf
  have hX := hI.1
  have hR := ic_r hI
  have hl := lv_entry ([.ref (a 3), .int p0, .int p1]) (n := 6) (Nat.le_of_ble_eq_true rfl)
  rw [lg_entry_eq]
  generalize (lg_sl ([.ref (a 3), .int p0, .int p1]) ++ List.replicate (6 - (lg_sl ([.ref (a 3), .int p0, .int p1])).length) Slot.unset).toArray = ls at hl ⊢
  have hl : lv_has ls 6 [(0, .ref (a 3)), (1, .int p0), (2, .int p1)] := hl
  refine lv_aload_n hx hb dX3_changeFrom_0 rfl (lv_at hl 0 rfl) ?_
  refine tw_get (D := (dC, dI)) (v := .int (y (a 3) 2)) (C := RX3) (T := TX3) (N := 12) hx hb hts (fun _ hh => (List.mem_cons_of_mem _ (List.mem_append_right _ (List.mem_append_left _ hh)))) hown hK hT (fx_3 hX) (by decide) cl_e13 rfl 2 (by decide) (hts (.fieldLink RX3 9 "TypingPool$Floor" "now" "I") (List.mem_cons_of_mem _ (List.mem_append_left _ (List.mem_of_getElem? (i := 0) rfl)))) (fun _ h9 => h9) rfl dX3_changeFrom_1 ?_
  refine lv_aload_n hx hb dX3_changeFrom_4 rfl (lv_at hl 0 rfl) ?_
  refine tw_get (D := (dC, dI)) (v := .int (y (a 3) 2)) (C := RX3) (T := TX3) (N := 12) hx hb hts (fun _ hh => (List.mem_cons_of_mem _ (List.mem_append_right _ (List.mem_append_left _ hh)))) hown hK hT (fx_3 hX) (by decide) cl_e13 rfl 2 (by decide) (hts (.fieldLink RX3 9 "TypingPool$Floor" "now" "I") (List.mem_cons_of_mem _ (List.mem_append_left _ (List.mem_of_getElem? (i := 0) rfl)))) (fun _ h9 => h9) rfl dX3_changeFrom_5 ?_
  refine lv_sipush (v := 480) hx hb dX3_changeFrom_8 (by decide) ?_
  refine lv_irem hx hb dX3_changeFrom_11 (by decide) ?_
  refine lv_topi (fun x_1 ex_1 => ?_)
  have hx_1 := z_rem2 ex_1 rfl (zk (x := 480) 480 rfl) (by omega) (by omega)
  refine lv_isub hx hb dX3_changeFrom_12 ?_
  refine lv_topi (fun x_2 ex_2 => ?_)
  have hx_2 := z_sub ex_2 rfl rfl (by omega) (by omega)
  refine lv_sipush (v := 480) hx hb dX3_changeFrom_13 (by decide) ?_
  refine lv_iadd hx hb dX3_changeFrom_16 ?_
  refine lv_topi (fun x_3 ex_3 => ?_)
  have hx_3 := z_add ex_3 rfl (zk (x := 480) 480 rfl) (by omega) (by omega)
  refine lv_istore_n (lv' := [(3, .int x_3), (0, .ref (a 3)), (1, .int p0), (2, .int p1)]) hx hb dX3_changeFrom_17 rfl hl (by decide) rfl (fun ls hl => ?_)
  refine lv_aload_n hx hb dX3_changeFrom_18 rfl (lv_at hl 1 rfl) ?_
  refine tw_get (D := (dC, dI)) (v := .ref (a 1)) (C := RX3) (T := TX3) (N := 12) hx hb hts (fun _ hh => (List.mem_cons_of_mem _ (List.mem_append_right _ (List.mem_append_left _ hh)))) hown hK hT (fx_3 hX) (by decide) cl_e13 rfl 0 (by decide) (hts (.fieldLink RX3 43 "TypingPool$Floor" "book" "LTypingPool$Book;") (List.mem_cons_of_mem _ (List.mem_append_left _ (List.mem_of_getElem? (i := 1) rfl)))) (fun _ h9 => h9) rfl dX3_changeFrom_19 ?_
  refine lv_aload_n hx hb dX3_changeFrom_22 rfl (lv_at hl 1 rfl) ?_
  refine tw_get (D := (dC, dI)) (v := .int (y (a 3) 2)) (C := RX3) (T := TX3) (N := 12) hx hb hts (fun _ hh => (List.mem_cons_of_mem _ (List.mem_append_right _ (List.mem_append_left _ hh)))) hown hK hT (fx_3 hX) (by decide) cl_e13 rfl 2 (by decide) (hts (.fieldLink RX3 9 "TypingPool$Floor" "now" "I") (List.mem_cons_of_mem _ (List.mem_append_left _ (List.mem_of_getElem? (i := 0) rfl)))) (fun _ h9 => h9) rfl dX3_changeFrom_23 ?_
  refine lv_iload_n hx hb dX3_changeFrom_26 rfl (lv_at hl 3 rfl) ?_
  refine lv_iload_n hx hb dX3_changeFrom_27 rfl (lv_at hl 0 rfl) ?_
  refine va_mmin hx hb (by rw [hml]; exact hl.1.symm) hown (hts (.methodLink RX3 126 Lib.Math.min.name) (List.mem_cons_of_mem _ (List.mem_append_left _ (List.mem_of_getElem? (i := 2) rfl)))) (hts (.static Lib.Math.min.name) (List.mem_cons_of_mem _ (List.mem_append_left _ (List.mem_of_getElem? (i := 3) rfl)))) (hts (.initialized "java/lang/Math") (List.mem_cons_of_mem _ (List.mem_append_left _ (List.mem_of_getElem? (i := 4) rfl)))) (hts (.code Lib.Math.min.name Lib.Math.min.code 2 (some .int)) (List.mem_cons_of_mem _ (List.mem_append_left _ (List.mem_of_getElem? (i := 5) rfl)))) (Nat.le_of_ble_eq_true rfl) (Nat.le_of_ble_eq_true rfl) (Nat.le_of_ble_eq_true rfl) (Nat.le_of_ble_eq_true rfl) dX3_changeFrom_28 ?_
  refine lv_topi (fun x_4 ex_4 => ?_)
  have hx_4 := z_min ex_4 rfl rfl
  have hFc := tw_free hF hS hA
  refine va_calli (va_runV (As := [.int (y (a 3) 2), .int x_4]) (rest := []) ⟨hx, hb, hml, hown, hts⟩ (c_changeBehindF l dC dI ad av s.heap.size a k τ ln y g u (y (a 3) 2) x_4 hI (by omega)) (cwV 2 hts (gi_4 (List.mem_cons_of_mem _ (List.mem_append_left _ (List.mem_of_getElem? (i := 6) rfl))) (List.mem_cons_of_mem _ (List.mem_append_left _ (List.mem_of_getElem? (i := 7) rfl))) (List.mem_cons_of_mem _ (List.mem_append_left _ (List.mem_of_getElem? (i := 8) rfl))) (List.mem_cons_of_mem _ (List.mem_append_left _ (List.mem_of_getElem? (i := 9) rfl))) (fun _ hh => (List.mem_cons_of_mem _ (List.mem_append_right _ (List.mem_append_right _ (List.mem_append_left _ hh))))) gd_c_changeBehindF) rfl rfl rfl (by decide +kernel) ⟨Nat.le_of_ble_eq_true rfl, Nat.le_of_ble_eq_true rfl⟩) ⟨pw_blind, tw_recv hK hT (fx_1 hX) (by decide) cl_e11 rfl, pw_use hT hK hFc hS hM⟩ rfl rfl hl.1 rfl (lv_room (Nat.le_of_ble_eq_true rfl)) dX3_changeFrom_31 ⟨Nat.le_of_ble_eq_true rfl, Nat.le_of_ble_eq_true rfl⟩) hS (fun q _ h => hFc q h) hFc (fun r0 r_5 t H locs ht hvm hw hB hz1 hk1 hS => ?_)
  refine W.widen (k := 0) (n := 0) (Nat.le_of_ble_eq_true rfl) (Nat.le_of_ble_eq_true rfl) ?_
  clear hvm hz1 hk1
  subst hw
  obtain ⟨hf_6, hf_7, hT⟩ := hB
  rw [ht] at hT
  refine lv_istore (lv' := [(4, .int r_5), (3, .int x_3), (0, .ref (a 3)), (1, .int p0), (2, .int p1)]) hx hb dX3_changeFrom_34 hl (by decide) rfl (fun ls hl => ?_)
  refine lv_iconst (v := 0) hx hb dX3_changeFrom_36 (by decide) ?_
  refine lv_istore (lv' := [(5, .int 0), (4, .int r_5), (3, .int x_3), (0, .ref (a 3)), (1, .int p0), (2, .int p1)]) hx hb dX3_changeFrom_37 hl (by decide) rfl (fun ls hl => ?_)
  have loop_39 : ∀ (n : Nat) (i4 : Int32) (i5 : Int32) (H : Heap) (locs : List Loc) (ls : Array Slot), (u 1 - i5.toInt).toNat < n → 0 ≤ i5.toInt → i5.toInt ≤ u 1 → (y (a 3) 2).toInt < i4.toInt → i4.toInt ≤ p1.toInt → tw (dC, dI) a k τ ln y g H → va_S A s.heap H locs → lv_has ls 6 [(0, .ref (a 3)), (1, .int p0), (2, .int p1), (3, .int x_3), (4, .int i4), (5, .int i5)] → W p l e (headSpec wm_c_changeFromF ({ frames := 2, cells := 0, slots := 0, locals := 120 })).room s m ([.ref (a 3), .int p0, .int p1] : List Value).toArray below meth c H locs 0 0 (MQ below (va_Qi (fun (r u : Int32) => u = r) (fun (r : Int32) (t : State) => ((y (a 3) 2).toInt < r.toInt ∧ r.toInt ≤ p1.toInt ∧ tw (dC, dI) a k τ ln y g t.heap)) A) ([.ref (a 3), .int p0, .int p1] : List Value).toArray s 0 0 A) (F0 m 39 ls []) := by
    intro n
    induction n with
    | zero => intro i4 i5 H locs ls hlt; exact absurd hlt (Nat.not_lt_zero _)
    | succ n ih_39 =>
      intro i4 i5 H locs ls hlt hi39_0 hi39_1 hi39_2 hi39_3 hT hS hl
      refine lv_iload hx hb dX3_changeFrom_39 (lv_at hl 5 rfl) ?_
      refine lv_aload_n hx hb dX3_changeFrom_41 rfl (lv_at hl 0 rfl) ?_
      refine tw_get (D := (dC, dI)) (v := .ref (a 1)) (C := RX3) (T := TX3) (N := 12) hx hb hts (fun _ hh => (List.mem_cons_of_mem _ (List.mem_append_right _ (List.mem_append_left _ hh)))) hown hK hT (fx_3 hX) (by decide) cl_e13 rfl 0 (by decide) (hts (.fieldLink RX3 43 "TypingPool$Floor" "book" "LTypingPool$Book;") (List.mem_cons_of_mem _ (List.mem_append_left _ (List.mem_of_getElem? (i := 1) rfl)))) (fun _ h9 => h9) rfl dX3_changeFrom_42 ?_
      refine tw_get (D := (dC, dI)) (v := .int (y (a 1) 3)) (C := RX1) (T := TX1) (N := 8) hx hb hts (fun _ hh => (List.mem_cons_of_mem _ (List.mem_append_right _ (List.mem_append_right _ (List.mem_append_right _ (List.mem_append_left _ hh)))))) hown hK hT (fx_1 hX) (by decide) cl_e11 rfl 3 (by decide) (hts (.fieldLink RX3 75 "TypingPool$Book" "handCount" "I") (List.mem_cons_of_mem _ (List.mem_append_left _ (List.mem_of_getElem? (i := 10) rfl)))) (fun _ h9 => h9) rfl dX3_changeFrom_45 ?_
      have hc_8 := ic_1 hI
      refine lv_icmp_ge (tgt := 101) hx hb dX3_changeFrom_48 (by decide) (fun c_9 => ?_) (fun c_9 => ?_)
      · have nc_9 := z_le hc_8 rfl c_9
        refine lv_iload hx hb dX3_changeFrom_101 (lv_at hl 4 rfl) ?_
        have hrv : i4.toInt = i4.toInt := rfl
        exact W.iret (v := i4) hx hb hr (fun t ht hW9 => ⟨⟨i4, i4, rfl, rfl, ⟨by omega, by omega, tw_at ht hT⟩⟩, hS.F ht⟩) hS.2.2 dX3_changeFrom_103
      · have nc_9 := z_nle hc_8 rfl c_9
        refine lv_aload_n hx hb dX3_changeFrom_51 rfl (lv_at hl 0 rfl) ?_
        refine lv_iload hx hb dX3_changeFrom_52 (lv_at hl 5 rfl) ?_
        refine lv_iload_n hx hb dX3_changeFrom_54 rfl (lv_at hl 1 rfl) ?_
        have hFc := tw_free hF hS hA
        refine va_calli (va_runV (As := [.int i5, .int p0]) (rest := []) ⟨hx, hb, hml, hown, hts⟩ (c_isBusy l dC dI ad av H.size a k τ ln y g u i5 p0 hI (by omega) (by omega)) (cwV 2 hts (gi_4 (List.mem_cons_of_mem _ (List.mem_append_left _ (List.mem_of_getElem? (i := 11) rfl))) (List.mem_cons_of_mem _ (List.mem_append_left _ (List.mem_of_getElem? (i := 12) rfl))) (List.mem_cons_of_mem _ (List.mem_append_left _ (List.mem_of_getElem? (i := 13) rfl))) (List.mem_cons_of_mem _ (List.mem_append_left _ (List.mem_of_getElem? (i := 14) rfl))) (fun _ hh => (List.mem_cons_of_mem _ (List.mem_append_right _ (List.mem_append_right _ (List.mem_append_right _ (List.mem_append_right _ (List.mem_append_left _ hh))))))) gd_c_isBusy) rfl rfl rfl (by decide +kernel) ⟨Nat.le_of_ble_eq_true rfl, Nat.le_of_ble_eq_true rfl⟩) ⟨pw_blind, tw_recv hK hT (fx_3 hX) (by decide) cl_e13 rfl, pw_use hT hK hFc hS hM⟩ rfl rfl hl.1 rfl (lv_room (Nat.le_of_ble_eq_true rfl)) dX3_changeFrom_55 ⟨Nat.le_of_ble_eq_true rfl, Nat.le_of_ble_eq_true rfl⟩) hS (fun q _ h => hFc q h) hFc (fun r0 r_10 t H locs ht hvm hw hB hz1 hk1 hS => ?_)
        refine W.widen (k := 0) (n := 0) (Nat.le_of_ble_eq_true rfl) (Nat.le_of_ble_eq_true rfl) ?_
        clear hvm hz1 hk1
        subst hw
        rcases hB with ⟨hre, hf_11, hf_12, hT⟩ | ⟨hre, hT⟩
        · refine lq_top (v := 1) hre ?_
          rw [ht] at hT
          have hfh_13 := fl_h hFl (x := i5) rfl (by omega) (by omega)
          refine lv_if_eq (tgt := 95) hx hb dX3_changeFrom_58 (by decide) (fun c_14 => absurd c_14 (by decide)) (fun c_14 => ?_)
          refine lv_iload hx hb dX3_changeFrom_61 (lv_at hl 4 rfl) ?_
          refine lv_aload_n hx hb dX3_changeFrom_63 rfl (lv_at hl 0 rfl) ?_
          refine tw_get (D := (dC, dI)) (v := .int (y (a 3) 2)) (C := RX3) (T := TX3) (N := 12) hx hb hts (fun _ hh => (List.mem_cons_of_mem _ (List.mem_append_right _ (List.mem_append_left _ hh)))) hown hK hT (fx_3 hX) (by decide) cl_e13 rfl 2 (by decide) (hts (.fieldLink RX3 9 "TypingPool$Floor" "now" "I") (List.mem_cons_of_mem _ (List.mem_append_left _ (List.mem_of_getElem? (i := 0) rfl)))) (fun _ h9 => h9) rfl dX3_changeFrom_64 ?_
          refine lv_aload_n hx hb dX3_changeFrom_67 rfl (lv_at hl 0 rfl) ?_
          refine tw_get (D := (dC, dI)) (v := .ref (a 27)) (C := RX3) (T := TX3) (N := 12) hx hb hts (fun _ hh => (List.mem_cons_of_mem _ (List.mem_append_right _ (List.mem_append_left _ hh)))) hown hK hT (fx_3 hX) (by decide) cl_e13 rfl 10 (by decide) (hts (.fieldLink RX3 37 "TypingPool$Floor" "workLeft" "[I") (List.mem_cons_of_mem _ (List.mem_append_left _ (List.mem_of_getElem? (i := 15) rfl)))) (fun _ h9 => h9) rfl dX3_changeFrom_68 ?_
          refine lv_aload_n hx hb dX3_changeFrom_71 rfl (lv_at hl 0 rfl) ?_
          refine tw_get (D := (dC, dI)) (v := .ref (a 20)) (C := RX3) (T := TX3) (N := 12) hx hb hts (fun _ hh => (List.mem_cons_of_mem _ (List.mem_append_right _ (List.mem_append_left _ hh)))) hown hK hT (fx_3 hX) (by decide) cl_e13 rfl 3 (by decide) (hts (.fieldLink RX3 15 "TypingPool$Floor" "has" "[I") (List.mem_cons_of_mem _ (List.mem_append_left _ (List.mem_of_getElem? (i := 16) rfl)))) (fun _ h9 => h9) rfl dX3_changeFrom_72 ?_
          refine lv_iload hx hb dX3_changeFrom_75 (lv_at hl 5 rfl) ?_
          refine tw_iald hx hb hK hT 0 (fx_20 hX) (by decide) cl_e30 rfl (z_in rfl (by omega) (by omega)) dX3_changeFrom_77 ?_
          refine tw_iald hx hb hK hT 0 (fx_27 hX) (by decide) cl_e37 rfl (z_in rfl (by omega) (by omega)) dX3_changeFrom_78 ?_
          refine lv_aload_n hx hb dX3_changeFrom_79 rfl (lv_at hl 0 rfl) ?_
          refine tw_get (D := (dC, dI)) (v := .ref (a 21)) (C := RX3) (T := TX3) (N := 12) hx hb hts (fun _ hh => (List.mem_cons_of_mem _ (List.mem_append_right _ (List.mem_append_left _ hh)))) hown hK hT (fx_3 hX) (by decide) cl_e13 rfl 4 (by decide) (hts (.fieldLink RX3 19 "TypingPool$Floor" "rate" "[I") (List.mem_cons_of_mem _ (List.mem_append_left _ (List.mem_of_getElem? (i := 17) rfl)))) (fun _ h9 => h9) rfl dX3_changeFrom_80 ?_
          refine lv_iload hx hb dX3_changeFrom_83 (lv_at hl 5 rfl) ?_
          refine tw_iald hx hb hK hT 0 (fx_21 hX) (by decide) cl_e31 rfl (z_in rfl (by omega) (by omega)) dX3_changeFrom_85 ?_
          have hFc := tw_free hF hS hA
          refine va_calli (va_runSN (As := [.int (y (a 27) (y (a 20) i5.toNatClampNeg).toNatClampNeg), .int (y (a 21) i5.toNatClampNeg)]) (rest := [.int (y (a 3) 2), .int i4]) ⟨hx, hb, hml, hown, hts⟩ (c_minutesForF l dC dI ad av H.size a k τ ln y g u (y (a 27) (y (a 20) i5.toNatClampNeg).toNatClampNeg) (y (a 21) i5.toNatClampNeg)  (by omega) (by omega) (by omega) (by omega)) ⟨va_cnB 2 hts (gi_0  (fun _ hh => (List.mem_cons_of_mem _ (List.mem_append_right _ (List.mem_append_right _ (List.mem_append_right _ (List.mem_append_right _ (List.mem_append_right _ (List.mem_append_left _ hh)))))))) gd_c_minutesForF) rfl rfl rfl hM.1.2.2.1 (hts (.initialized RX11) (List.mem_cons_of_mem _ (List.mem_append_left _ (List.mem_of_getElem? (i := 18) rfl)))) (by decide +kernel) ⟨Nat.le_of_ble_eq_true rfl, Nat.le_of_ble_eq_true rfl⟩, (hts (.static yX11_minutesFor) (List.mem_cons_of_mem _ (List.mem_append_left _ (List.mem_of_getElem? (i := 19) rfl)))), trivial⟩ ⟨pw_blind, pw_use hT hK hFc hS hM⟩ rfl rfl hl.1 rfl (lv_room (Nat.le_of_ble_eq_true rfl)) dX3_changeFrom_86 ⟨Nat.le_of_ble_eq_true rfl, Nat.le_of_ble_eq_true rfl⟩) hS (fun q _ h => hFc q h) hFc (fun r0 r_15 t H locs ht hvm hw hB hz1 hk1 hS => ?_)
          refine W.widen (k := 0) (n := 0) (Nat.le_of_ble_eq_true rfl) (Nat.le_of_ble_eq_true rfl) ?_
          clear hvm hz1 hk1
          subst hw
          obtain ⟨hf_16, hf_17, hT⟩ := hB
          rw [ht] at hT
          refine lv_iadd hx hb dX3_changeFrom_89 ?_
          refine lv_topi (fun x_18 ex_18 => ?_)
          have hx_18 := z_add ex_18 rfl rfl (by omega) (by omega)
          refine va_mmin hx hb (by rw [hml]; exact hl.1.symm) hown (hts (.methodLink RX3 126 Lib.Math.min.name) (List.mem_cons_of_mem _ (List.mem_append_left _ (List.mem_of_getElem? (i := 2) rfl)))) (hts (.static Lib.Math.min.name) (List.mem_cons_of_mem _ (List.mem_append_left _ (List.mem_of_getElem? (i := 3) rfl)))) (hts (.initialized "java/lang/Math") (List.mem_cons_of_mem _ (List.mem_append_left _ (List.mem_of_getElem? (i := 4) rfl)))) (hts (.code Lib.Math.min.name Lib.Math.min.code 2 (some .int)) (List.mem_cons_of_mem _ (List.mem_append_left _ (List.mem_of_getElem? (i := 5) rfl)))) (Nat.le_of_ble_eq_true rfl) (Nat.le_of_ble_eq_true rfl) (Nat.le_of_ble_eq_true rfl) (Nat.le_of_ble_eq_true rfl) dX3_changeFrom_90 ?_
          refine lv_topi (fun x_19 ex_19 => ?_)
          have hx_19 := z_min ex_19 rfl rfl
          refine lv_istore (lv' := [(4, .int x_19), (0, .ref (a 3)), (1, .int p0), (2, .int p1), (3, .int x_3), (5, .int i5)]) hx hb dX3_changeFrom_93 hl (by decide) rfl (fun ls hl => ?_)
          obtain ⟨x_20, ex_20⟩ : ∃ y : Int32, y = i5 + Int32.ofInt 1 := ⟨_, rfl⟩
          have hx_20 := z_add ex_20 rfl (zk (x := Int32.ofInt 1) 1 rfl) (by omega) (by omega)
          refine lv_iinc (v := x_20) (lv' := [(5, .int x_20), (4, .int x_19), (0, .ref (a 3)), (1, .int p0), (2, .int p1), (3, .int x_3)]) hx hb dX3_changeFrom_95 hl (k := 5) rfl ex_20.symm (by decide) rfl (fun ls hl => ?_)
          refine lv_goto (tgt := 39) hx hb dX3_changeFrom_98 (by decide) ?_
          exact ih_39  x_19 x_20 H _ ls (by omega) (by omega) (by omega) (by omega) (by omega) hT hS (lv_sub hl [2, 3, 4, 5, 1, 0] rfl)
        · refine lq_top (v := 0) hre ?_
          rw [ht] at hT
          refine lv_if_eq (tgt := 95) hx hb dX3_changeFrom_58 (by decide) (fun c_21 => ?_) (fun c_21 => absurd c_21 (by decide))
          obtain ⟨x_22, ex_22⟩ : ∃ y : Int32, y = i5 + Int32.ofInt 1 := ⟨_, rfl⟩
          have hx_22 := z_add ex_22 rfl (zk (x := Int32.ofInt 1) 1 rfl) (by omega) (by omega)
          refine lv_iinc (v := x_22) (lv' := [(5, .int x_22), (0, .ref (a 3)), (1, .int p0), (2, .int p1), (3, .int x_3), (4, .int i4)]) hx hb dX3_changeFrom_95 hl (k := 5) rfl ex_22.symm (by decide) rfl (fun ls hl => ?_)
          refine lv_goto (tgt := 39) hx hb dX3_changeFrom_98 (by decide) ?_
          exact ih_39  i4 x_22 H _ ls (by omega) (by omega) (by omega) (by omega) (by omega) hT hS (lv_sub hl [1, 2, 3, 4, 5, 0] rfl)
  have hp_23 : (0 : Int32).toInt = 0 := (zk (x := 0) 0 rfl)
  exact loop_39 _ r_5 (0 : Int32) H _ ls (Nat.lt_succ_self _) (by omega) (by omega) (by omega) (by omega) hT hS (lv_sub hl [3, 4, 5, 2, 1, 0] rfl)
def wo_c_finishF : List Cond := [.fieldLink RX3 37 "TypingPool$Floor" "workLeft" "[I", .fieldLink RX3 34 "TypingPool$Floor" "done" "[I", .fieldLink RX3 22 "TypingPool$Floor" "words" "[I", .fieldLink RX3 43 "TypingPool$Floor" "book" "LTypingPool$Book;", .fieldLink RX3 103 "TypingPool$Book" "pieces" "[LTypingPool$Piece;", .fieldLink RX3 147 "TypingPool$Piece" "words" "I", .fieldLink RX3 15 "TypingPool$Floor" "has" "[I", .fieldLink RX3 19 "TypingPool$Floor" "rate" "[I"]
def wm_c_finishF : List Cond := .code yX3_finish cX3_finish 4 none :: (wo_c_finishF ++ (wsX30 ++ (wsX10 ++ (wsX60 ++ ([] : List Cond)))))
theorem gd_c_finishF : ∀ w ∈ wm_c_finishF, goodWord w = true := gd_c rfl (gd_a (by decide) (gd_a gd_wsX30 (gd_a gd_wsX10 (gd_a gd_wsX60 gd_nil))))
set_option maxRecDepth 20000 in
theorem im_c_finishF : ∀ w ∈ wm_c_finishF, w ∈ lw_tbl := im_c (in_r [.code yX3_finish cX3_finish 4 none] [854] (by decide +kernel)) (in_app (in_r wo_c_finishF [449, 446, 437, 426, 130, 688, 431, 434] (by decide +kernel)) (in_app im_wsX30 (in_app im_wsX10 (in_app im_wsX60 im_nil))))
set_option maxHeartbeats 4000000 in
set_option maxRecDepth 100000 in
theorem c_finishF (l : Launch) (dC : Nat → ClassId) (dI : Nat → Nat → Nat) (ad av : Nat → Nat) (sz : Nat) (a : Nat → Nat) (k : Nat → ClassId) (τ ln : Nat → Nat) (y : Nat → Nat → Int32) (g : Nat → Nat → Option Nat) (u : Nat → Int) (p0 : Int32) (p1 : Int32) (p2 : Int32) (hI : IC a u τ ln y g) (hlp0 : 0 ≤ p0.toInt) (hup0 : p0.toInt < u 1) (hlp1 : 0 ≤ p1.toInt) (hup1 : p1.toInt < u 2) : Met l yX3_finish wm_c_finishF ({ frames := 0, cells := 0, slots := 0, locals := 0 }) (pw_ ad av (dC, dI) sz [.ref (a 3), .int p0, .int p1, .int p2] a k τ ln y g) (va_Qv (fun (_ : Unit) => True) (fun (_ : Unit) (t : State) => (∃ (y' : Nat → Nat → Int32), ag τ [30, 31, 32, 36, 37] y y' ∧ y' (a 20) = upd (y (a 20)) p0.toNatClampNeg (-1) ∧ y' (a 21) = upd (y (a 21)) p0.toNatClampNeg (-1) ∧ y' (a 27) = upd (y (a 27)) p1.toNatClampNeg 0 ∧ tw (dC, dI) a k τ ln y' g t.heap)) (fr τ sz)) 0 0 (fr τ sz) := by
  refine Met.ofW (cc := cX3_finish) (maxL := 4) (ret := none) (by decide) rfl ?_
  intro p e s m args below meth c s₁ B hml hv
  obtain ⟨rfl, hsz, hT, hK, hM⟩ := hv
  have hx := B.exec
  have hb := B.bytes
  have hr := B.returns
  have hts := atoms_spec (ws := wm_c_finishF) B.pre
  have hown : s.vm.findClass RX3 = some m.cls := findClass_of_methodNamed B.named
  have hlocks := B.notSynchronized
  subst hsz
  generalize hAe : fr τ s.heap.size = A at hM ⊢
  have hA : ∀ q : Nat, s.heap.size ≤ q → A q := fun q h => by rw [← hAe]; exact Or.inr h
  have hF : ∀ q, τ q ≠ 0 → A q := fun q h => by rw [← hAe]; exact Or.inl h
  have hS : va_S A s.heap s.heap [] := va_S.rf
  have hX := hI.1
  have hR := ic_r hI
  have hG : ag τ [30, 31, 32, 36, 37] y y := ag.rf
  have hl := lv_entry ([.ref (a 3), .int p0, .int p1, .int p2]) (n := 4) (Nat.le_of_ble_eq_true rfl)
  rw [lg_entry_eq]
  generalize (lg_sl ([.ref (a 3), .int p0, .int p1, .int p2]) ++ List.replicate (4 - (lg_sl ([.ref (a 3), .int p0, .int p1, .int p2])).length) Slot.unset).toArray = ls at hl ⊢
  have hl : lv_has ls 4 [(0, .ref (a 3)), (1, .int p0), (2, .int p1), (3, .int p2)] := hl
  refine lv_aload_n hx hb dX3_finish_0 rfl (lv_at hl 0 rfl) ?_
  refine tw_get (D := (dC, dI)) (v := .ref (a 27)) (C := RX3) (T := TX3) (N := 12) hx hb hts (fun _ hh => (List.mem_cons_of_mem _ (List.mem_append_right _ (List.mem_append_left _ hh)))) hown hK hT (fx_3 hX) (by decide) cl_e13 rfl 10 (by decide) (hts (.fieldLink RX3 37 "TypingPool$Floor" "workLeft" "[I") (List.mem_cons_of_mem _ (List.mem_append_left _ (List.mem_of_getElem? (i := 0) rfl)))) (fun _ h9 => h9) rfl dX3_finish_1 ?_
  refine lv_iload_n hx hb dX3_finish_4 rfl (lv_at hl 2 rfl) ?_
  refine lv_iconst (v := 0) hx hb dX3_finish_5 (by decide) ?_
  refine tw_iast hx hb hK hT hF hS 0 (fx_27 hX) (by decide) (fun _ => cl_e37) rfl (z_in rfl (by omega) (by omega)) dX3_finish_6 (fun H locs hT hS => ?_)
  obtain ⟨y_1, hy_1, hT⟩ : ∃ z : Nat → Nat → Int32, z = up2 y (a 27) p1.toNatClampNeg (0 : Int32) ∧ tw (dC, dI) a k τ ln z g H := ⟨_, rfl, hT⟩
  have hG : ag τ [30, 31, 32, 36, 37] y y_1 := by rw [hy_1]; exact hG.up (fx_27 hX) (by decide)
  have hI := hI.ag (S := [37]) (y' := y_1) (by rw [hy_1]; exact ag.one (fx_27 hX)) (by decide)
  refine lv_aload_n hx hb dX3_finish_7 rfl (lv_at hl 0 rfl) ?_
  refine tw_get (D := (dC, dI)) (v := .ref (a 26)) (C := RX3) (T := TX3) (N := 12) hx hb hts (fun _ hh => (List.mem_cons_of_mem _ (List.mem_append_right _ (List.mem_append_left _ hh)))) hown hK hT (fx_3 hX) (by decide) cl_e13 rfl 9 (by decide) (hts (.fieldLink RX3 34 "TypingPool$Floor" "done" "[I") (List.mem_cons_of_mem _ (List.mem_append_left _ (List.mem_of_getElem? (i := 1) rfl)))) (fun _ h9 => h9) rfl dX3_finish_8 ?_
  refine lv_iload_n hx hb dX3_finish_11 rfl (lv_at hl 2 rfl) ?_
  refine lv_iload_n hx hb dX3_finish_12 rfl (lv_at hl 3 rfl) ?_
  refine tw_iast hx hb hK hT hF hS 0 (fx_26 hX) (by decide) (fun _ => cl_e36) rfl (z_in rfl (by omega) (by omega)) dX3_finish_13 (fun H locs hT hS => ?_)
  obtain ⟨y_2, hy_2, hT⟩ : ∃ z : Nat → Nat → Int32, z = up2 y_1 (a 26) p1.toNatClampNeg p2 ∧ tw (dC, dI) a k τ ln z g H := ⟨_, rfl, hT⟩
  have hG : ag τ [30, 31, 32, 36, 37] y y_2 := by rw [hy_2]; exact hG.up (fx_26 hX) (by decide)
  have hI := hI.ag (S := [36]) (y' := y_2) (by rw [hy_2]; exact ag.one (fx_26 hX)) (by decide)
  refine lv_aload_n hx hb dX3_finish_14 rfl (lv_at hl 0 rfl) ?_
  refine tw_get (D := (dC, dI)) (v := .ref (a 22)) (C := RX3) (T := TX3) (N := 12) hx hb hts (fun _ hh => (List.mem_cons_of_mem _ (List.mem_append_right _ (List.mem_append_left _ hh)))) hown hK hT (fx_3 hX) (by decide) cl_e13 rfl 5 (by decide) (hts (.fieldLink RX3 22 "TypingPool$Floor" "words" "[I") (List.mem_cons_of_mem _ (List.mem_append_left _ (List.mem_of_getElem? (i := 2) rfl)))) (fun _ h9 => h9) rfl dX3_finish_15 ?_
  refine lv_iload_n hx hb dX3_finish_18 rfl (lv_at hl 1 rfl) ?_
  refine lv_dup2_11 hx hb dX3_finish_19 rfl rfl ?_
  refine tw_iald hx hb hK hT 0 (fx_22 hX) (by decide) cl_e32 rfl (z_in rfl (by omega) (by omega)) dX3_finish_20 ?_
  refine lv_aload_n hx hb dX3_finish_21 rfl (lv_at hl 0 rfl) ?_
  refine tw_get (D := (dC, dI)) (v := .ref (a 1)) (C := RX3) (T := TX3) (N := 12) hx hb hts (fun _ hh => (List.mem_cons_of_mem _ (List.mem_append_right _ (List.mem_append_left _ hh)))) hown hK hT (fx_3 hX) (by decide) cl_e13 rfl 0 (by decide) (hts (.fieldLink RX3 43 "TypingPool$Floor" "book" "LTypingPool$Book;") (List.mem_cons_of_mem _ (List.mem_append_left _ (List.mem_of_getElem? (i := 3) rfl)))) (fun _ h9 => h9) rfl dX3_finish_22 ?_
  refine tw_get (D := (dC, dI)) (v := .ref (a 11)) (C := RX1) (T := TX1) (N := 8) hx hb hts (fun _ hh => (List.mem_cons_of_mem _ (List.mem_append_right _ (List.mem_append_right _ (List.mem_append_left _ hh))))) hown hK hT (fx_1 hX) (by decide) cl_e11 rfl 4 (by decide) (hts (.fieldLink RX3 103 "TypingPool$Book" "pieces" "[LTypingPool$Piece;") (List.mem_cons_of_mem _ (List.mem_append_left _ (List.mem_of_getElem? (i := 4) rfl)))) (fun _ h9 => h9) rfl dX3_finish_25 ?_
  refine lv_iload_n hx hb dX3_finish_28 rfl (lv_at hl 2 rfl) ?_
  refine tw_aald hx hb hK hT 4 (fx_11 hX) (by decide) cl_e21 rfl (z_in rfl (by omega) (by omega)) dX3_finish_29 ?_
  obtain ⟨q_3, hgq_3, htq_3⟩ := ic_l11 hI (x := p1) rfl (by omega) (by omega)
  refine lq_topr hgq_3 ?_
  refine tw_get (D := (dC, dI)) (v := .int (y_2 q_3 7)) (C := RX6) (T := TX6) (N := 11) hx hb hts (fun _ hh => (List.mem_cons_of_mem _ (List.mem_append_right _ (List.mem_append_right _ (List.mem_append_right _ (List.mem_append_left _ hh)))))) hown hK hT htq_3 (by decide) cl_e2 rfl 7 (by decide) (hts (.fieldLink RX3 147 "TypingPool$Piece" "words" "I") (List.mem_cons_of_mem _ (List.mem_append_left _ (List.mem_of_getElem? (i := 5) rfl)))) (fun _ h9 => h9) rfl dX3_finish_30 ?_
  refine lv_ior hx hb dX3_finish_33 ?_
  refine lv_topi (fun x_4 ex_4 => ?_)
  refine tw_iast hx hb hK hT hF hS 0 (fx_22 hX) (by decide) (fun _ => cl_e32) rfl (z_in rfl (by omega) (by omega)) dX3_finish_34 (fun H locs hT hS => ?_)
  obtain ⟨y_5, hy_5, hT⟩ : ∃ z : Nat → Nat → Int32, z = up2 y_2 (a 22) p0.toNatClampNeg x_4 ∧ tw (dC, dI) a k τ ln z g H := ⟨_, rfl, hT⟩
  have hG : ag τ [30, 31, 32, 36, 37] y y_5 := by rw [hy_5]; exact hG.up (fx_22 hX) (by decide)
  have hI := hI.ag (S := [32]) (y' := y_5) (by rw [hy_5]; exact ag.one (fx_22 hX)) (by decide)
  refine lv_aload_n hx hb dX3_finish_35 rfl (lv_at hl 0 rfl) ?_
  refine tw_get (D := (dC, dI)) (v := .ref (a 20)) (C := RX3) (T := TX3) (N := 12) hx hb hts (fun _ hh => (List.mem_cons_of_mem _ (List.mem_append_right _ (List.mem_append_left _ hh)))) hown hK hT (fx_3 hX) (by decide) cl_e13 rfl 3 (by decide) (hts (.fieldLink RX3 15 "TypingPool$Floor" "has" "[I") (List.mem_cons_of_mem _ (List.mem_append_left _ (List.mem_of_getElem? (i := 6) rfl)))) (fun _ h9 => h9) rfl dX3_finish_36 ?_
  refine lv_iload_n hx hb dX3_finish_39 rfl (lv_at hl 1 rfl) ?_
  refine lv_iconst (v := (-1)) hx hb dX3_finish_40 (by decide) ?_
  refine tw_iast hx hb hK hT hF hS 0 (fx_20 hX) (by decide) (fun _ => cl_e30) rfl (z_in rfl (by omega) (by omega)) dX3_finish_41 (fun H locs hT hS => ?_)
  obtain ⟨y_6, hy_6, hT⟩ : ∃ z : Nat → Nat → Int32, z = up2 y_5 (a 20) p0.toNatClampNeg (-1 : Int32) ∧ tw (dC, dI) a k τ ln z g H := ⟨_, rfl, hT⟩
  have hG : ag τ [30, 31, 32, 36, 37] y y_6 := by rw [hy_6]; exact hG.up (fx_20 hX) (by decide)
  have hI := hI.ag (S := [30]) (y' := y_6) (by rw [hy_6]; exact ag.one (fx_20 hX)) (by decide)
  refine lv_aload_n hx hb dX3_finish_42 rfl (lv_at hl 0 rfl) ?_
  refine tw_get (D := (dC, dI)) (v := .ref (a 21)) (C := RX3) (T := TX3) (N := 12) hx hb hts (fun _ hh => (List.mem_cons_of_mem _ (List.mem_append_right _ (List.mem_append_left _ hh)))) hown hK hT (fx_3 hX) (by decide) cl_e13 rfl 4 (by decide) (hts (.fieldLink RX3 19 "TypingPool$Floor" "rate" "[I") (List.mem_cons_of_mem _ (List.mem_append_left _ (List.mem_of_getElem? (i := 7) rfl)))) (fun _ h9 => h9) rfl dX3_finish_43 ?_
  refine lv_iload_n hx hb dX3_finish_46 rfl (lv_at hl 1 rfl) ?_
  refine lv_iconst (v := (-1)) hx hb dX3_finish_47 (by decide) ?_
  refine tw_iast hx hb hK hT hF hS 0 (fx_21 hX) (by decide) (fun _ => cl_e31) rfl (z_in rfl (by omega) (by omega)) dX3_finish_48 (fun H locs hT hS => ?_)
  obtain ⟨y_7, hy_7, hT⟩ : ∃ z : Nat → Nat → Int32, z = up2 y_6 (a 21) p0.toNatClampNeg (-1 : Int32) ∧ tw (dC, dI) a k τ ln z g H := ⟨_, rfl, hT⟩
  have hG : ag τ [30, 31, 32, 36, 37] y y_7 := by rw [hy_7]; exact hG.up (fx_21 hX) (by decide)
  have hI := hI.ag (S := [31]) (y' := y_7) (by rw [hy_7]; exact ag.one (fx_21 hX)) (by decide)
  exact W.vret hx hb hr (fun t ht hW9 => ⟨⟨(), rfl, trivial, ⟨y_7, hG, (by rw [hy_7, up2_o (kd_ne (fx_20 hX) (fx_21 hX) (by decide)), hy_6, up2_q, hy_5, up2_o (kd_ne (fx_20 hX) (fx_22 hX) (by decide)), hy_2, up2_o (kd_ne (fx_20 hX) (fx_26 hX) (by decide)), hy_1, up2_o (kd_ne (fx_20 hX) (fx_27 hX) (by decide))]), (by rw [hy_7, up2_q, hy_6, up2_o (kd_ne (fx_21 hX) (fx_20 hX) (by decide)), hy_5, up2_o (kd_ne (fx_21 hX) (fx_22 hX) (by decide)), hy_2, up2_o (kd_ne (fx_21 hX) (fx_26 hX) (by decide)), hy_1, up2_o (kd_ne (fx_21 hX) (fx_27 hX) (by decide))]), (by rw [hy_7, up2_o (kd_ne (fx_27 hX) (fx_21 hX) (by decide)), hy_6, up2_o (kd_ne (fx_27 hX) (fx_20 hX) (by decide)), hy_5, up2_o (kd_ne (fx_27 hX) (fx_22 hX) (by decide)), hy_2, up2_o (kd_ne (fx_27 hX) (fx_26 hX) (by decide)), hy_1, up2_q]), tw_at ht hT⟩⟩, hS.F ht⟩) hS.2.2 dX3_finish_49
def wo_c_workAllF : List Cond := [.fieldLink RX3 43 "TypingPool$Floor" "book" "LTypingPool$Book;", .fieldLink RX3 75 "TypingPool$Book" "handCount" "I", .methodLink RX3 132 yX3_isBusy, .instanceMethod yX3_isBusy, .selects RX3 yX3_isBusy yX3_isBusy, .initialized RX3, .fieldLink RX3 15 "TypingPool$Floor" "has" "[I", .fieldLink RX3 25 "TypingPool$Floor" "worked" "[I", .fieldLink RX3 37 "TypingPool$Floor" "workLeft" "[I", .fieldLink RX3 19 "TypingPool$Floor" "rate" "[I", .fieldLink RX3 9 "TypingPool$Floor" "now" "I", .methodLink RX3 143 yX3_finish, .instanceMethod yX3_finish, .selects RX3 yX3_finish yX3_finish]
def wm_c_workAllF : List Cond := .code yX3_workAll cX3_workAll 5 none :: (wo_c_workAllF ++ (wsX30 ++ (wsX10 ++ (wm_c_isBusy ++ (wm_c_finishF ++ ([] : List Cond))))))
theorem gd_c_workAllF : ∀ w ∈ wm_c_workAllF, goodWord w = true := gd_c rfl (gd_a (by decide) (gd_a gd_wsX30 (gd_a gd_wsX10 (gd_a gd_c_isBusy (gd_a gd_c_finishF gd_nil)))))
set_option maxRecDepth 20000 in
theorem im_c_workAllF : ∀ w ∈ wm_c_workAllF, w ∈ lw_tbl := im_c (in_r [.code yX3_workAll cX3_workAll 5 none] [850] (by decide +kernel)) (in_app (in_r wo_c_workAllF [426, 125, 836, 838, 14, 83, 431, 440, 449, 434, 428, 851, 853, 16] (by decide +kernel)) (in_app im_wsX30 (in_app im_wsX10 (in_app im_c_isBusy (in_app im_c_finishF im_nil)))))
set_option maxHeartbeats 4000000 in
set_option maxRecDepth 100000 in
theorem c_workAllF (l : Launch) (dC : Nat → ClassId) (dI : Nat → Nat → Nat) (ad av : Nat → Nat) (sz : Nat) (a : Nat → Nat) (k : Nat → ClassId) (τ ln : Nat → Nat) (y : Nat → Nat → Int32) (g : Nat → Nat → Option Nat) (u : Nat → Int) (p0 : Int32) (p1 : Int32) (hI : IC a u τ ln y g) (hFl : FL a (u 1) (u 2) y) (hn0 : 0 ≤ (y (a 3) 2).toInt) (hn1 : (y (a 3) 2).toInt ≤ 4800) (hm0 : 0 ≤ p1.toInt) (hm1 : p1.toInt ≤ 4800) : Met l yX3_workAll wm_c_workAllF ({ frames := 2, cells := 0, slots := 0, locals := 120 }) (pw_ ad av (dC, dI) sz [.ref (a 3), .int p0, .int p1] a k τ ln y g) (va_Qv (fun (_ : Unit) => True) (fun (_ : Unit) (t : State) => (∃ (y' : Nat → Nat → Int32), ag τ [30, 31, 32, 33, 36, 37] y y' ∧ FL a (u 1) (u 2) y' ∧ tw (dC, dI) a k τ ln y' g t.heap)) (fr τ sz)) 0 0 (fr τ sz) := by
  refine Met.ofW (cc := cX3_workAll) (maxL := 5) (ret := none) (by decide) rfl ?_
  intro p e s m args below meth c s₁ B hml hv
  obtain ⟨rfl, hsz, hT, hK, hM⟩ := hv
  have hx := B.exec
  have hb := B.bytes
  have hr := B.returns
  have hts := atoms_spec (ws := wm_c_workAllF) B.pre
  have hown : s.vm.findClass RX3 = some m.cls := findClass_of_methodNamed B.named
  have hlocks := B.notSynchronized
  subst hsz
  generalize hAe : fr τ s.heap.size = A at hM ⊢
  have hA : ∀ q : Nat, s.heap.size ≤ q → A q := fun q h => by rw [← hAe]; exact Or.inr h
  have hF : ∀ q, τ q ≠ 0 → A q := fun q h => by rw [← hAe]; exact Or.inl h
  have hS : va_S A s.heap s.heap [] := va_S.rf
  have hX := hI.1
  have hR := ic_r hI
  have hG : ag τ [30, 31, 32, 33, 36, 37] y y := ag.rf
  have hl := lv_entry ([.ref (a 3), .int p0, .int p1]) (n := 5) (Nat.le_of_ble_eq_true rfl)
  rw [lg_entry_eq]
  generalize (lg_sl ([.ref (a 3), .int p0, .int p1]) ++ List.replicate (5 - (lg_sl ([.ref (a 3), .int p0, .int p1])).length) Slot.unset).toArray = ls at hl ⊢
  have hl : lv_has ls 5 [(0, .ref (a 3)), (1, .int p0), (2, .int p1)] := hl
  refine lv_iconst (v := 0) hx hb dX3_workAll_0 (by decide) ?_
  refine lv_istore_n (lv' := [(3, .int 0), (0, .ref (a 3)), (1, .int p0), (2, .int p1)]) hx hb dX3_workAll_1 rfl hl (by decide) rfl (fun ls hl => ?_)
  have loop_2 : ∀ (n : Nat) (i3 : Int32) (y_L2 : Nat → Nat → Int32) (H : Heap) (locs : List Loc) (ls : Array Slot), (u 1 - i3.toInt).toNat < n → ag τ [30, 31, 32, 33, 36, 37] y y_L2 → IC a u τ ln y_L2 g → FL a (u 1) (u 2) y_L2 → 0 ≤ i3.toInt → i3.toInt ≤ u 1 → (y_L2 (a 3) 2).toInt = (y (a 3) 2).toInt → tw (dC, dI) a k τ ln y_L2 g H → va_S A s.heap H locs → lv_has ls 5 [(0, .ref (a 3)), (1, .int p0), (2, .int p1), (3, .int i3)] → W p l e (headSpec wm_c_workAllF ({ frames := 2, cells := 0, slots := 0, locals := 120 })).room s m ([.ref (a 3), .int p0, .int p1] : List Value).toArray below meth c H locs 0 0 (MQ below (va_Qv (fun (_ : Unit) => True) (fun (_ : Unit) (t : State) => (∃ (y' : Nat → Nat → Int32), ag τ [30, 31, 32, 33, 36, 37] y y' ∧ FL a (u 1) (u 2) y' ∧ tw (dC, dI) a k τ ln y' g t.heap)) A) ([.ref (a 3), .int p0, .int p1] : List Value).toArray s 0 0 A) (F0 m 2 ls []) := by
    intro n
    induction n with
    | zero => intro i3 y_L2 H locs ls hlt; exact absurd hlt (Nat.not_lt_zero _)
    | succ n ih_2 =>
      intro i3 y_L2 H locs ls hlt hG hI hFl hi2_0 hi2_1 hi2_2 hT hS hl
      refine lv_iload_n hx hb dX3_workAll_2 rfl (lv_at hl 3 rfl) ?_
      refine lv_aload_n hx hb dX3_workAll_3 rfl (lv_at hl 0 rfl) ?_
      refine tw_get (D := (dC, dI)) (v := .ref (a 1)) (C := RX3) (T := TX3) (N := 12) hx hb hts (fun _ hh => (List.mem_cons_of_mem _ (List.mem_append_right _ (List.mem_append_left _ hh)))) hown hK hT (fx_3 hX) (by decide) cl_e13 rfl 0 (by decide) (hts (.fieldLink RX3 43 "TypingPool$Floor" "book" "LTypingPool$Book;") (List.mem_cons_of_mem _ (List.mem_append_left _ (List.mem_of_getElem? (i := 0) rfl)))) (fun _ h9 => h9) rfl dX3_workAll_4 ?_
      refine tw_get (D := (dC, dI)) (v := .int (y_L2 (a 1) 3)) (C := RX1) (T := TX1) (N := 8) hx hb hts (fun _ hh => (List.mem_cons_of_mem _ (List.mem_append_right _ (List.mem_append_right _ (List.mem_append_left _ hh))))) hown hK hT (fx_1 hX) (by decide) cl_e11 rfl 3 (by decide) (hts (.fieldLink RX3 75 "TypingPool$Book" "handCount" "I") (List.mem_cons_of_mem _ (List.mem_append_left _ (List.mem_of_getElem? (i := 1) rfl)))) (fun _ h9 => h9) rfl dX3_workAll_7 ?_
      have hc_1 := ic_1 hI
      refine lv_icmp_ge (tgt := 87) hx hb dX3_workAll_10 (by decide) (fun c_2 => ?_) (fun c_2 => ?_)
      · have nc_2 := z_le hc_1 rfl c_2
        exact W.vret hx hb hr (fun t ht hW9 => ⟨⟨(), rfl, trivial, ⟨y_L2, hG, hFl, tw_at ht hT⟩⟩, hS.F ht⟩) hS.2.2 dX3_workAll_87
      · have nc_2 := z_nle hc_1 rfl c_2
        refine lv_aload_n hx hb dX3_workAll_13 rfl (lv_at hl 0 rfl) ?_
        refine lv_iload_n hx hb dX3_workAll_14 rfl (lv_at hl 3 rfl) ?_
        refine lv_iload_n hx hb dX3_workAll_15 rfl (lv_at hl 1 rfl) ?_
        have hFc := tw_free hF hS hA
        refine va_calli (va_runV (As := [.int i3, .int p0]) (rest := []) ⟨hx, hb, hml, hown, hts⟩ (c_isBusy l dC dI ad av H.size a k τ ln y_L2 g u i3 p0 hI (by omega) (by omega)) (cwV 2 hts (gi_4 (List.mem_cons_of_mem _ (List.mem_append_left _ (List.mem_of_getElem? (i := 2) rfl))) (List.mem_cons_of_mem _ (List.mem_append_left _ (List.mem_of_getElem? (i := 3) rfl))) (List.mem_cons_of_mem _ (List.mem_append_left _ (List.mem_of_getElem? (i := 4) rfl))) (List.mem_cons_of_mem _ (List.mem_append_left _ (List.mem_of_getElem? (i := 5) rfl))) (fun _ hh => (List.mem_cons_of_mem _ (List.mem_append_right _ (List.mem_append_right _ (List.mem_append_right _ (List.mem_append_left _ hh)))))) gd_c_isBusy) rfl rfl rfl (by decide +kernel) ⟨Nat.le_of_ble_eq_true rfl, Nat.le_of_ble_eq_true rfl⟩) ⟨pw_blind, tw_recv hK hT (fx_3 hX) (by decide) cl_e13 rfl, pw_use hT hK hFc hS hM⟩ rfl rfl hl.1 rfl (lv_room (Nat.le_of_ble_eq_true rfl)) dX3_workAll_16 ⟨Nat.le_of_ble_eq_true rfl, Nat.le_of_ble_eq_true rfl⟩) hS (fun q _ h => hFc q h) hFc (fun r0 r_3 t H locs ht hvm hw hB hz1 hk1 hS => ?_)
        refine W.widen (k := 0) (n := 0) (Nat.le_of_ble_eq_true rfl) (Nat.le_of_ble_eq_true rfl) ?_
        clear hvm hz1 hk1
        subst hw
        rcases hB with ⟨hre, hf_4, hf_5, hT⟩ | ⟨hre, hT⟩
        · refine lq_top (v := 1) hre ?_
          rw [ht] at hT
          have hfh_6 := fl_h hFl (x := i3) rfl (by omega) (by omega)
          refine lv_if_eq (tgt := 81) hx hb dX3_workAll_19 (by decide) (fun c_7 => absurd c_7 (by decide)) (fun c_7 => ?_)
          refine lv_aload_n hx hb dX3_workAll_22 rfl (lv_at hl 0 rfl) ?_
          refine tw_get (D := (dC, dI)) (v := .ref (a 20)) (C := RX3) (T := TX3) (N := 12) hx hb hts (fun _ hh => (List.mem_cons_of_mem _ (List.mem_append_right _ (List.mem_append_left _ hh)))) hown hK hT (fx_3 hX) (by decide) cl_e13 rfl 3 (by decide) (hts (.fieldLink RX3 15 "TypingPool$Floor" "has" "[I") (List.mem_cons_of_mem _ (List.mem_append_left _ (List.mem_of_getElem? (i := 6) rfl)))) (fun _ h9 => h9) rfl dX3_workAll_23 ?_
          refine lv_iload_n hx hb dX3_workAll_26 rfl (lv_at hl 3 rfl) ?_
          refine tw_iald hx hb hK hT 0 (fx_20 hX) (by decide) cl_e30 rfl (z_in rfl (by omega) (by omega)) dX3_workAll_27 ?_
          refine lv_istore (lv' := [(4, .int (y_L2 (a 20) i3.toNatClampNeg)), (0, .ref (a 3)), (1, .int p0), (2, .int p1), (3, .int i3)]) hx hb dX3_workAll_28 hl (by decide) rfl (fun ls hl => ?_)
          refine lv_aload_n hx hb dX3_workAll_30 rfl (lv_at hl 1 rfl) ?_
          refine tw_get (D := (dC, dI)) (v := .ref (a 23)) (C := RX3) (T := TX3) (N := 12) hx hb hts (fun _ hh => (List.mem_cons_of_mem _ (List.mem_append_right _ (List.mem_append_left _ hh)))) hown hK hT (fx_3 hX) (by decide) cl_e13 rfl 6 (by decide) (hts (.fieldLink RX3 25 "TypingPool$Floor" "worked" "[I") (List.mem_cons_of_mem _ (List.mem_append_left _ (List.mem_of_getElem? (i := 7) rfl)))) (fun _ h9 => h9) rfl dX3_workAll_31 ?_
          refine lv_iload_n hx hb dX3_workAll_34 rfl (lv_at hl 4 rfl) ?_
          refine lv_dup2_11 hx hb dX3_workAll_35 rfl rfl ?_
          refine tw_iald hx hb hK hT 0 (fx_23 hX) (by decide) cl_e33 rfl (z_in rfl (by omega) (by omega)) dX3_workAll_36 ?_
          refine lv_iload_n hx hb dX3_workAll_37 rfl (lv_at hl 3 rfl) ?_
          refine lv_iadd hx hb dX3_workAll_38 ?_
          refine lv_topi (fun x_8 ex_8 => ?_)
          refine tw_iast hx hb hK hT hF hS 0 (fx_23 hX) (by decide) (fun _ => cl_e33) rfl (z_in rfl (by omega) (by omega)) dX3_workAll_39 (fun H locs hT hS => ?_)
          obtain ⟨y_9, hy_9, hT⟩ : ∃ z : Nat → Nat → Int32, z = up2 y_L2 (a 23) i3.toNatClampNeg x_8 ∧ tw (dC, dI) a k τ ln z g H := ⟨_, rfl, hT⟩
          have hG : ag τ [30, 31, 32, 33, 36, 37] y y_9 := by rw [hy_9]; exact hG.up (fx_23 hX) (by decide)
          have ha_10 : y_9 (a 20) = y_L2 (a 20) := (show y_9 (a 20) = y_L2 (a 20) from by rw [hy_9]; exact up2_o (kd_ne (fx_20 hX) (fx_23 hX) (by decide))).trans rfl
          have ha_11 : y_9 (a 21) = y_L2 (a 21) := (show y_9 (a 21) = y_L2 (a 21) from by rw [hy_9]; exact up2_o (kd_ne (fx_21 hX) (fx_23 hX) (by decide))).trans rfl
          have ha_12 : y_9 (a 24) = y_L2 (a 24) := (show y_9 (a 24) = y_L2 (a 24) from by rw [hy_9]; exact up2_o (kd_ne (fx_24 hX) (fx_23 hX) (by decide))).trans rfl
          have ha_13 : y_9 (a 25) = y_L2 (a 25) := (show y_9 (a 25) = y_L2 (a 25) from by rw [hy_9]; exact up2_o (kd_ne (fx_25 hX) (fx_23 hX) (by decide))).trans rfl
          have ha_14 : y_9 (a 27) = y_L2 (a 27) := (show y_9 (a 27) = y_L2 (a 27) from by rw [hy_9]; exact up2_o (kd_ne (fx_27 hX) (fx_23 hX) (by decide))).trans rfl
          have : (y_9 (a 3) 2).toInt = (y_L2 (a 3) 2).toInt := by rw [hy_9, up2_o (kd_ne (fx_3 hX) (fx_23 hX) (by decide))]
          have hFl := hFl.ag hX (S := [33]) (y' := y_9) (by rw [hy_9]; exact ag.one (fx_23 hX)) (by decide)
          have hI := hI.ag (S := [33]) (y' := y_9) (by rw [hy_9]; exact ag.one (fx_23 hX)) (by decide)
          refine lv_aload_n hx hb dX3_workAll_40 rfl (lv_at hl 1 rfl) ?_
          refine tw_get (D := (dC, dI)) (v := .ref (a 27)) (C := RX3) (T := TX3) (N := 12) hx hb hts (fun _ hh => (List.mem_cons_of_mem _ (List.mem_append_right _ (List.mem_append_left _ hh)))) hown hK hT (fx_3 hX) (by decide) cl_e13 rfl 10 (by decide) (hts (.fieldLink RX3 37 "TypingPool$Floor" "workLeft" "[I") (List.mem_cons_of_mem _ (List.mem_append_left _ (List.mem_of_getElem? (i := 8) rfl)))) (fun _ h9 => h9) rfl dX3_workAll_41 ?_
          refine lv_iload hx hb dX3_workAll_44 (lv_at hl 0 rfl) ?_
          refine lv_dup2_11 hx hb dX3_workAll_46 rfl rfl ?_
          refine tw_iald hx hb hK hT 0 (fx_27 hX) (by decide) cl_e37 rfl (z_in rfl (by omega) (by omega)) dX3_workAll_47 ?_
          have hrd_15 : (y_9 (a 27) (y_L2 (a 20) i3.toNatClampNeg).toNatClampNeg).toInt = (y_L2 (a 27) (y_L2 (a 20) i3.toNatClampNeg).toNatClampNeg).toInt := by rw [ha_14]
          refine lv_aload_n hx hb dX3_workAll_48 rfl (lv_at hl 1 rfl) ?_
          refine tw_get (D := (dC, dI)) (v := .ref (a 21)) (C := RX3) (T := TX3) (N := 12) hx hb hts (fun _ hh => (List.mem_cons_of_mem _ (List.mem_append_right _ (List.mem_append_left _ hh)))) hown hK hT (fx_3 hX) (by decide) cl_e13 rfl 4 (by decide) (hts (.fieldLink RX3 19 "TypingPool$Floor" "rate" "[I") (List.mem_cons_of_mem _ (List.mem_append_left _ (List.mem_of_getElem? (i := 9) rfl)))) (fun _ h9 => h9) rfl dX3_workAll_49 ?_
          refine lv_iload_n hx hb dX3_workAll_52 rfl (lv_at hl 4 rfl) ?_
          refine tw_iald hx hb hK hT 0 (fx_21 hX) (by decide) cl_e31 rfl (z_in rfl (by omega) (by omega)) dX3_workAll_53 ?_
          have hrd_16 : (y_9 (a 21) i3.toNatClampNeg).toInt = (y_L2 (a 21) i3.toNatClampNeg).toInt := by rw [ha_11]
          refine lv_iload_n hx hb dX3_workAll_54 rfl (lv_at hl 3 rfl) ?_
          refine lv_imul hx hb dX3_workAll_55 ?_
          refine lv_topi (fun x_17 ex_17 => ?_)
          have hx_17 := z_mulb 200 4800 ex_17 rfl rfl (by omega) (by omega) (by omega) (by omega) (by decide)
          refine lv_isub hx hb dX3_workAll_56 ?_
          refine lv_topi (fun x_18 ex_18 => ?_)
          have hx_18 := z_sub ex_18 rfl rfl (by omega) (by omega)
          refine tw_iast hx hb hK hT hF hS 0 (fx_27 hX) (by decide) (fun _ => cl_e37) rfl (z_in rfl (by omega) (by omega)) dX3_workAll_57 (fun H locs hT hS => ?_)
          obtain ⟨y_19, hy_19, hT⟩ : ∃ z : Nat → Nat → Int32, z = up2 y_9 (a 27) ((y_L2 (a 20) i3.toNatClampNeg).toNatClampNeg) x_18 ∧ tw (dC, dI) a k τ ln z g H := ⟨_, rfl, hT⟩
          have hG : ag τ [30, 31, 32, 33, 36, 37] y y_19 := by rw [hy_19]; exact hG.up (fx_27 hX) (by decide)
          have ha_20 : y_19 (a 20) = y_L2 (a 20) := (show y_19 (a 20) = y_9 (a 20) from by rw [hy_19]; exact up2_o (kd_ne (fx_20 hX) (fx_27 hX) (by decide))).trans ha_10
          have ha_21 : y_19 (a 21) = y_L2 (a 21) := (show y_19 (a 21) = y_9 (a 21) from by rw [hy_19]; exact up2_o (kd_ne (fx_21 hX) (fx_27 hX) (by decide))).trans ha_11
          have ha_22 : y_19 (a 24) = y_L2 (a 24) := (show y_19 (a 24) = y_9 (a 24) from by rw [hy_19]; exact up2_o (kd_ne (fx_24 hX) (fx_27 hX) (by decide))).trans ha_12
          have ha_23 : y_19 (a 25) = y_L2 (a 25) := (show y_19 (a 25) = y_9 (a 25) from by rw [hy_19]; exact up2_o (kd_ne (fx_25 hX) (fx_27 hX) (by decide))).trans ha_13
          have : (y_19 (a 3) 2).toInt = (y_9 (a 3) 2).toInt := by rw [hy_19, up2_o (kd_ne (fx_3 hX) (fx_27 hX) (by decide))]
          have hI := hI.ag (S := [37]) (y' := y_19) (by rw [hy_19]; exact ag.one (fx_27 hX)) (by decide)
          refine lv_aload_n hx hb dX3_workAll_58 rfl (lv_at hl 1 rfl) ?_
          refine tw_get (D := (dC, dI)) (v := .ref (a 27)) (C := RX3) (T := TX3) (N := 12) hx hb hts (fun _ hh => (List.mem_cons_of_mem _ (List.mem_append_right _ (List.mem_append_left _ hh)))) hown hK hT (fx_3 hX) (by decide) cl_e13 rfl 10 (by decide) (hts (.fieldLink RX3 37 "TypingPool$Floor" "workLeft" "[I") (List.mem_cons_of_mem _ (List.mem_append_left _ (List.mem_of_getElem? (i := 8) rfl)))) (fun _ h9 => h9) rfl dX3_workAll_59 ?_
          refine lv_iload hx hb dX3_workAll_62 (lv_at hl 0 rfl) ?_
          refine tw_iald hx hb hK hT 0 (fx_27 hX) (by decide) cl_e37 rfl (z_in rfl (by omega) (by omega)) dX3_workAll_64 ?_
          have hrd_24 : (y_19 (a 27) (y_L2 (a 20) i3.toNatClampNeg).toNatClampNeg).toInt = x_18.toInt := (congrArg Int32.toInt (show y_19 (a 27) (y_L2 (a 20) i3.toNatClampNeg).toNatClampNeg = x_18 from by rw [hy_19]; exact up2_i)).trans rfl
          refine lv_if_gt (tgt := 81) hx hb dX3_workAll_65 (by decide) (fun c_25 => ?_) (fun c_25 => ?_)
          · have nc_25 := z_lt (zk (x := 0) 0 rfl) rfl c_25
            obtain ⟨x_26, ex_26⟩ : ∃ y : Int32, y = i3 + Int32.ofInt 1 := ⟨_, rfl⟩
            have hx_26 := z_add ex_26 rfl (zk (x := Int32.ofInt 1) 1 rfl) (by omega) (by omega)
            refine lv_iinc (v := x_26) (lv' := [(3, .int x_26), (4, .int (y_L2 (a 20) i3.toNatClampNeg)), (0, .ref (a 3)), (1, .int p0), (2, .int p1)]) hx hb dX3_workAll_81 hl (k := 4) rfl ex_26.symm (by decide) rfl (fun ls hl => ?_)
            refine lv_goto (tgt := 2) hx hb dX3_workAll_84 (by decide) ?_
            exact ih_2  x_26 y_19 H _ ls (by omega) hG hI (fl_work hFl (x := x_18) rfl (by omega) (by omega) (show y_19 (a 20) = y_9 (a 20) from by rw [hy_19, up2_o (kd_ne (fx_20 hX) (fx_27 hX) (by decide))]) (show y_19 (a 21) = y_9 (a 21) from by rw [hy_19, up2_o (kd_ne (fx_21 hX) (fx_27 hX) (by decide))]) (show y_19 (a 24) = y_9 (a 24) from by rw [hy_19, up2_o (kd_ne (fx_24 hX) (fx_27 hX) (by decide))]) (show y_19 (a 25) = y_9 (a 25) from by rw [hy_19, up2_o (kd_ne (fx_25 hX) (fx_27 hX) (by decide))]) (show y_19 (a 27) = _ from by rw [hy_19]; exact up2_q)) (by omega) (by omega) (by omega) hT hS (lv_sub hl [2, 3, 4, 0] rfl)
          · have nc_25 := z_nlt (zk (x := 0) 0 rfl) rfl c_25
            refine lv_aload_n hx hb dX3_workAll_68 rfl (lv_at hl 1 rfl) ?_
            refine lv_iload_n hx hb dX3_workAll_69 rfl (lv_at hl 4 rfl) ?_
            refine lv_iload hx hb dX3_workAll_70 (lv_at hl 0 rfl) ?_
            refine lv_aload_n hx hb dX3_workAll_72 rfl (lv_at hl 1 rfl) ?_
            refine tw_get (D := (dC, dI)) (v := .int (y_19 (a 3) 2)) (C := RX3) (T := TX3) (N := 12) hx hb hts (fun _ hh => (List.mem_cons_of_mem _ (List.mem_append_right _ (List.mem_append_left _ hh)))) hown hK hT (fx_3 hX) (by decide) cl_e13 rfl 2 (by decide) (hts (.fieldLink RX3 9 "TypingPool$Floor" "now" "I") (List.mem_cons_of_mem _ (List.mem_append_left _ (List.mem_of_getElem? (i := 10) rfl)))) (fun _ h9 => h9) rfl dX3_workAll_73 ?_
            refine lv_iload_n hx hb dX3_workAll_76 rfl (lv_at hl 3 rfl) ?_
            refine lv_iadd hx hb dX3_workAll_77 ?_
            refine lv_topi (fun x_27 ex_27 => ?_)
            have hx_27 := z_add ex_27 rfl rfl (by omega) (by omega)
            have hFc := tw_free hF hS hA
            refine va_callv (va_runV (As := [.int i3, .int (y_L2 (a 20) i3.toNatClampNeg), .int x_27]) (rest := []) ⟨hx, hb, hml, hown, hts⟩ (c_finishF l dC dI ad av H.size a k τ ln y_19 g u i3 (y_L2 (a 20) i3.toNatClampNeg) x_27 hI (by omega) (by omega) (by omega) (by omega)) (cwV 3 hts (gi_4 (List.mem_cons_of_mem _ (List.mem_append_left _ (List.mem_of_getElem? (i := 11) rfl))) (List.mem_cons_of_mem _ (List.mem_append_left _ (List.mem_of_getElem? (i := 12) rfl))) (List.mem_cons_of_mem _ (List.mem_append_left _ (List.mem_of_getElem? (i := 13) rfl))) (List.mem_cons_of_mem _ (List.mem_append_left _ (List.mem_of_getElem? (i := 5) rfl))) (fun _ hh => (List.mem_cons_of_mem _ (List.mem_append_right _ (List.mem_append_right _ (List.mem_append_right _ (List.mem_append_right _ (List.mem_append_left _ hh))))))) gd_c_finishF) rfl rfl rfl (by decide +kernel) ⟨Nat.le_of_ble_eq_true rfl, Nat.le_of_ble_eq_true rfl⟩) ⟨pw_blind, tw_recv hK hT (fx_3 hX) (by decide) cl_e13 rfl, pw_use hT hK hFc hS hM⟩ rfl rfl hl.1 rfl (lv_room (Nat.le_of_ble_eq_true rfl)) dX3_workAll_78 ⟨Nat.le_of_ble_eq_true rfl, Nat.le_of_ble_eq_true rfl⟩) hS (fun q _ h => hFc q h) hFc (fun u0 t H locs ht hvm hw hB hz1 hk1 hS => ?_)
            refine W.widen (k := 0) (n := 0) (Nat.le_of_ble_eq_true rfl) (Nat.le_of_ble_eq_true rfl) ?_
            clear hvm hz1 hk1
            obtain ⟨y_29, hgy_29, hf_30, hf_31, hf_32, hT⟩ := hB
            rw [ht] at hT
            have hG := hG.tr hgy_29 (by decide)
            have : (y_29 (a 3) 2).toInt = (y_19 (a 3) 2).toInt := by rw [hgy_29.at (fx_3 hX) (by decide)]
            have hI := hI.ag hgy_29 (by decide)
            have ha_33 : y_29 (a 24) = y_L2 (a 24) := (hgy_29.at (fx_24 hX) (by decide)).trans ha_22
            have ha_34 : y_29 (a 25) = y_L2 (a 25) := (hgy_29.at (fx_25 hX) (by decide)).trans ha_23
            obtain ⟨x_35, ex_35⟩ : ∃ y : Int32, y = i3 + Int32.ofInt 1 := ⟨_, rfl⟩
            have hx_35 := z_add ex_35 rfl (zk (x := Int32.ofInt 1) 1 rfl) (by omega) (by omega)
            refine lv_iinc (v := x_35) (lv' := [(3, .int x_35), (4, .int (y_L2 (a 20) i3.toNatClampNeg)), (0, .ref (a 3)), (1, .int p0), (2, .int p1)]) hx hb dX3_workAll_81 hl (k := 4) rfl ex_35.symm (by decide) rfl (fun ls hl => ?_)
            refine lv_goto (tgt := 2) hx hb dX3_workAll_84 (by decide) ?_
            exact ih_2  x_35 y_29 H _ ls (by omega) hG hI (fl_fin hFl (h := i3) (p := (y_L2 (a 20) i3.toNatClampNeg)) (x := (-1)) (r := (-1)) rfl (by omega) (by omega) rfl (by omega) rfl (by rw [ha_12]; omega) (by rw [ha_13]; omega) (by rw [hf_30, show y_19 (a 20) = y_9 (a 20) from by rw [hy_19, up2_o (kd_ne (fx_20 hX) (fx_27 hX) (by decide))]]) (by rw [hf_31, show y_19 (a 21) = y_9 (a 21) from by rw [hy_19, up2_o (kd_ne (fx_21 hX) (fx_27 hX) (by decide))]]) ((hgy_29.at (fx_24 hX) (by decide)).trans (show y_19 (a 24) = y_9 (a 24) from by rw [hy_19, up2_o (kd_ne (fx_24 hX) (fx_27 hX) (by decide))])) ((hgy_29.at (fx_25 hX) (by decide)).trans (show y_19 (a 25) = y_9 (a 25) from by rw [hy_19, up2_o (kd_ne (fx_25 hX) (fx_27 hX) (by decide))])) (fun k hk => by rw [hf_32]; exact (if_neg hk).trans (by rw [hy_19, up2_q]; exact if_neg hk))) (by omega) (by omega) (by omega) hT hS (lv_sub hl [2, 3, 4, 0] rfl)
        · refine lq_top (v := 0) hre ?_
          rw [ht] at hT
          refine lv_if_eq (tgt := 81) hx hb dX3_workAll_19 (by decide) (fun c_36 => ?_) (fun c_36 => absurd c_36 (by decide))
          obtain ⟨x_37, ex_37⟩ : ∃ y : Int32, y = i3 + Int32.ofInt 1 := ⟨_, rfl⟩
          have hx_37 := z_add ex_37 rfl (zk (x := Int32.ofInt 1) 1 rfl) (by omega) (by omega)
          refine lv_iinc (v := x_37) (lv' := [(3, .int x_37), (0, .ref (a 3)), (1, .int p0), (2, .int p1)]) hx hb dX3_workAll_81 hl (k := 3) rfl ex_37.symm (by decide) rfl (fun ls hl => ?_)
          refine lv_goto (tgt := 2) hx hb dX3_workAll_84 (by decide) ?_
          exact ih_2  x_37 y_L2 H _ ls (by omega) hG hI hFl (by omega) (by omega) (by omega) hT hS (lv_sub hl [1, 2, 3, 0] rfl)
  have hp_38 : (0 : Int32).toInt = 0 := (zk (x := 0) 0 rfl)
  exact loop_2 _ (0 : Int32) y s.heap _ ls (Nat.lt_succ_self _) hG hI hFl (by omega) (by omega) (by omega) hT hS (lv_sub hl [1, 2, 3, 0] rfl)
def wo_c_runOnF : List Cond := [.fieldLink RX3 9 "TypingPool$Floor" "now" "I", .fieldLink RX3 43 "TypingPool$Floor" "book" "LTypingPool$Book;", .methodLink RX3 57 yX1_awayMask, .instanceMethod yX1_awayMask, .selects RX1 yX1_awayMask yX1_awayMask, .initialized RX1, .methodLink RX3 63 yX3_takeAll, .instanceMethod yX3_takeAll, .selects RX3 yX3_takeAll yX3_takeAll, .initialized RX3, .methodLink RX3 67 yX3_changeFrom, .instanceMethod yX3_changeFrom, .selects RX3 yX3_changeFrom yX3_changeFrom, .methodLink RX3 71 yX3_workAll, .instanceMethod yX3_workAll, .selects RX3 yX3_workAll yX3_workAll]
def wm_c_runOnF : List Cond := .code yX3_runOn cX3_runOn 8 none :: (wo_c_runOnF ++ (wsX30 ++ (wm_c_awayMask ++ (wm_c_takeAllF ++ (wm_c_changeFromF ++ (wm_c_workAllF ++ ([] : List Cond)))))))
theorem gd_c_runOnF : ∀ w ∈ wm_c_runOnF, goodWord w = true := gd_c rfl (gd_a (by decide) (gd_a gd_wsX30 (gd_a gd_c_awayMask (gd_a gd_c_takeAllF (gd_a gd_c_changeFromF (gd_a gd_c_workAllF gd_nil))))))
set_option maxRecDepth 20000 in
theorem im_c_runOnF : ∀ w ∈ wm_c_runOnF, w ∈ lw_tbl := im_c (in_r [.code yX3_runOn cX3_runOn 8 none] [754] (by decide +kernel)) (in_app (in_r wo_c_runOnF [428, 426, 755, 756, 757, 71, 759, 761, 8, 83, 824, 826, 13, 847, 849, 15] (by decide +kernel)) (in_app im_wsX30 (in_app im_c_awayMask (in_app im_c_takeAllF (in_app im_c_changeFromF (in_app im_c_workAllF im_nil))))))
set_option maxHeartbeats 4000000 in
set_option maxRecDepth 100000 in
theorem c_runOnF (l : Launch) (dC : Nat → ClassId) (dI : Nat → Nat → Nat) (ad av : Nat → Nat) (sz : Nat) (a : Nat → Nat) (k : Nat → ClassId) (τ ln : Nat → Nat) (y : Nat → Nat → Int32) (g : Nat → Nat → Option Nat) (u : Nat → Int) (p0 : Int32) (p1 : Int32) (hI : IC a u τ ln y g) (hl0 : 0 ≤ p0.toInt) (hup0 : p0.toInt ≤ 960) (hn0 : 0 ≤ (y (a 3) 2).toInt) (hn1 : (y (a 3) 2).toInt ≤ 4800) (hend : (y (a 3) 2).toInt + p0.toInt ≤ 4800) (hFl : FL a (u 1) (u 2) y) (hsp : spA (u 1) a g y) : Met l yX3_runOn wm_c_runOnF ({ frames := 6, cells := 0, slots := 0, locals := 360 }) (pw_ ad av (dC, dI) sz [.ref (a 3), .int p0, .null, .int p1] a k τ ln y g) (va_Qv (fun (_ : Unit) => True) (fun (_ : Unit) (t : State) => (∃ (y' : Nat → Nat → Int32), ag τ [13, 24, 27, 30, 31, 32, 33, 34, 35, 36, 37, 38] y y' ∧ (y' (a 3) 2).toInt = (y (a 3) 2).toInt + p0.toInt ∧ FL a (u 1) (u 2) y' ∧ tw (dC, dI) a k τ ln y' g t.heap)) (fr τ sz)) 0 0 (fr τ sz) := by
  refine Met.ofW (cc := cX3_runOn) (maxL := 8) (ret := none) (by decide) rfl ?_
  intro p e s m args below meth c s₁ B hml hv
  obtain ⟨rfl, hsz, hT, hK, hM⟩ := hv
  have hx := B.exec
  have hb := B.bytes
  have hr := B.returns
  have hts := atoms_spec (ws := wm_c_runOnF) B.pre
  have hown : s.vm.findClass RX3 = some m.cls := findClass_of_methodNamed B.named
  have hlocks := B.notSynchronized
  subst hsz
  generalize hAe : fr τ s.heap.size = A at hM ⊢
  have hA : ∀ q : Nat, s.heap.size ≤ q → A q := fun q h => by rw [← hAe]; exact Or.inr h
  have hF : ∀ q, τ q ≠ 0 → A q := fun q h => by rw [← hAe]; exact Or.inl h
  have hS : va_S A s.heap s.heap [] := va_S.rf
  have hX := hI.1
  have hR := ic_r hI
  have hG : ag τ [13, 24, 27, 30, 31, 32, 33, 34, 35, 36, 37, 38] y y := ag.rf
  have hl := lv_entry ([.ref (a 3), .int p0, .null, .int p1]) (n := 8) (Nat.le_of_ble_eq_true rfl)
  rw [lg_entry_eq]
  generalize (lg_sl ([.ref (a 3), .int p0, .null, .int p1]) ++ List.replicate (8 - (lg_sl ([.ref (a 3), .int p0, .null, .int p1])).length) Slot.unset).toArray = ls at hl ⊢
  have hl : lv_has ls 8 [(0, .ref (a 3)), (1, .int p0), (2, .null), (3, .int p1)] := hl
  refine lv_aload_n hx hb dX3_runOn_0 rfl (lv_at hl 0 rfl) ?_
  refine tw_get (D := (dC, dI)) (v := .int (y (a 3) 2)) (C := RX3) (T := TX3) (N := 12) hx hb hts (fun _ hh => (List.mem_cons_of_mem _ (List.mem_append_right _ (List.mem_append_left _ hh)))) hown hK hT (fx_3 hX) (by decide) cl_e13 rfl 2 (by decide) (hts (.fieldLink RX3 9 "TypingPool$Floor" "now" "I") (List.mem_cons_of_mem _ (List.mem_append_left _ (List.mem_of_getElem? (i := 0) rfl)))) (fun _ h9 => h9) rfl dX3_runOn_1 ?_
  refine lv_iload_n hx hb dX3_runOn_4 rfl (lv_at hl 1 rfl) ?_
  refine lv_iadd hx hb dX3_runOn_5 ?_
  refine lv_topi (fun x_1 ex_1 => ?_)
  have hx_1 := z_add ex_1 rfl rfl (by omega) (by omega)
  refine lv_istore (lv' := [(4, .int x_1), (0, .ref (a 3)), (1, .int p0), (2, .null), (3, .int p1)]) hx hb dX3_runOn_6 hl (by decide) rfl (fun ls hl => ?_)
  refine lv_iconst (v := 0) hx hb dX3_runOn_8 (by decide) ?_
  refine lv_istore (lv' := [(5, .int 0), (4, .int x_1), (0, .ref (a 3)), (1, .int p0), (2, .null), (3, .int p1)]) hx hb dX3_runOn_9 hl (by decide) rfl (fun ls hl => ?_)
  have loop_11 : ∀ (n : Nat) (i5 : Int32) (y_L11 : Nat → Nat → Int32) (H : Heap) (locs : List Loc) (ls : Array Slot), (p0.toInt - i5.toInt).toNat < n → ag τ [13, 24, 27, 30, 31, 32, 33, 34, 35, 36, 37, 38] y y_L11 → IC a u τ ln y_L11 g → FL a (u 1) (u 2) y_L11 → 0 ≤ i5.toInt → (y (a 3) 2).toInt + i5.toInt ≤ (y_L11 (a 3) 2).toInt → (y_L11 (a 3) 2).toInt ≤ (y (a 3) 2).toInt + p0.toInt → tw (dC, dI) a k τ ln y_L11 g H → va_S A s.heap H locs → lv_has ls 8 [(0, .ref (a 3)), (1, .int p0), (2, .null), (3, .int p1), (4, .int x_1), (5, .int i5)] → W p l e (headSpec wm_c_runOnF ({ frames := 6, cells := 0, slots := 0, locals := 360 })).room s m ([.ref (a 3), .int p0, .null, .int p1] : List Value).toArray below meth c H locs 0 0 (MQ below (va_Qv (fun (_ : Unit) => True) (fun (_ : Unit) (t : State) => (∃ (y' : Nat → Nat → Int32), ag τ [13, 24, 27, 30, 31, 32, 33, 34, 35, 36, 37, 38] y y' ∧ (y' (a 3) 2).toInt = (y (a 3) 2).toInt + p0.toInt ∧ FL a (u 1) (u 2) y' ∧ tw (dC, dI) a k τ ln y' g t.heap)) A) ([.ref (a 3), .int p0, .null, .int p1] : List Value).toArray s 0 0 A) (F0 m 11 ls []) := by
    intro n
    induction n with
    | zero => intro i5 y_L11 H locs ls hlt; exact absurd hlt (Nat.not_lt_zero _)
    | succ n ih_11 =>
      intro i5 y_L11 H locs ls hlt hG hI hFl hi11_0 hi11_1 hi11_2 hT hS hl
      refine lv_iload hx hb dX3_runOn_11 (lv_at hl 5 rfl) ?_
      refine lv_iload_n hx hb dX3_runOn_13 rfl (lv_at hl 1 rfl) ?_
      refine lv_icmp_ge (tgt := 99) hx hb dX3_runOn_14 (by decide) (fun c_2 => ?_) (fun c_2 => ?_)
      · have nc_2 := z_le rfl rfl c_2
        exact W.vret hx hb hr (fun t ht hW9 => ⟨⟨(), rfl, trivial, ⟨y_L11, hG, by omega, hFl, tw_at ht hT⟩⟩, hS.F ht⟩) hS.2.2 dX3_runOn_99
      · have nc_2 := z_nle rfl rfl c_2
        refine lv_aload_n hx hb dX3_runOn_17 rfl (lv_at hl 0 rfl) ?_
        refine tw_get (D := (dC, dI)) (v := .int (y_L11 (a 3) 2)) (C := RX3) (T := TX3) (N := 12) hx hb hts (fun _ hh => (List.mem_cons_of_mem _ (List.mem_append_right _ (List.mem_append_left _ hh)))) hown hK hT (fx_3 hX) (by decide) cl_e13 rfl 2 (by decide) (hts (.fieldLink RX3 9 "TypingPool$Floor" "now" "I") (List.mem_cons_of_mem _ (List.mem_append_left _ (List.mem_of_getElem? (i := 0) rfl)))) (fun _ h9 => h9) rfl dX3_runOn_18 ?_
        refine lv_iload hx hb dX3_runOn_21 (lv_at hl 4 rfl) ?_
        refine lv_icmp_ge (tgt := 99) hx hb dX3_runOn_23 (by decide) (fun c_3 => ?_) (fun c_3 => ?_)
        · have nc_3 := z_le rfl rfl c_3
          exact W.vret hx hb hr (fun t ht hW9 => ⟨⟨(), rfl, trivial, ⟨y_L11, hG, by omega, hFl, tw_at ht hT⟩⟩, hS.F ht⟩) hS.2.2 dX3_runOn_99
        · have nc_3 := z_nle rfl rfl c_3
          refine lv_aload_n hx hb dX3_runOn_26 rfl (lv_at hl 0 rfl) ?_
          refine tw_get (D := (dC, dI)) (v := .ref (a 1)) (C := RX3) (T := TX3) (N := 12) hx hb hts (fun _ hh => (List.mem_cons_of_mem _ (List.mem_append_right _ (List.mem_append_left _ hh)))) hown hK hT (fx_3 hX) (by decide) cl_e13 rfl 0 (by decide) (hts (.fieldLink RX3 43 "TypingPool$Floor" "book" "LTypingPool$Book;") (List.mem_cons_of_mem _ (List.mem_append_left _ (List.mem_of_getElem? (i := 1) rfl)))) (fun _ h9 => h9) rfl dX3_runOn_27 ?_
          refine lv_aload_n hx hb dX3_runOn_30 rfl (lv_at hl 0 rfl) ?_
          refine tw_get (D := (dC, dI)) (v := .int (y_L11 (a 3) 2)) (C := RX3) (T := TX3) (N := 12) hx hb hts (fun _ hh => (List.mem_cons_of_mem _ (List.mem_append_right _ (List.mem_append_left _ hh)))) hown hK hT (fx_3 hX) (by decide) cl_e13 rfl 2 (by decide) (hts (.fieldLink RX3 9 "TypingPool$Floor" "now" "I") (List.mem_cons_of_mem _ (List.mem_append_left _ (List.mem_of_getElem? (i := 0) rfl)))) (fun _ h9 => h9) rfl dX3_runOn_31 ?_
          have hFc := tw_free hF hS hA
          refine va_calli (va_runV (As := [.int (y_L11 (a 3) 2)]) (rest := []) ⟨hx, hb, hml, hown, hts⟩ (c_awayMask l dC dI ad av H.size a k τ ln y_L11 g u (y_L11 (a 3) 2) hI ) (cwV 1 hts (gi_4 (List.mem_cons_of_mem _ (List.mem_append_left _ (List.mem_of_getElem? (i := 2) rfl))) (List.mem_cons_of_mem _ (List.mem_append_left _ (List.mem_of_getElem? (i := 3) rfl))) (List.mem_cons_of_mem _ (List.mem_append_left _ (List.mem_of_getElem? (i := 4) rfl))) (List.mem_cons_of_mem _ (List.mem_append_left _ (List.mem_of_getElem? (i := 5) rfl))) (fun _ hh => (List.mem_cons_of_mem _ (List.mem_append_right _ (List.mem_append_right _ (List.mem_append_left _ hh))))) gd_c_awayMask) rfl rfl rfl (by decide +kernel) ⟨Nat.le_of_ble_eq_true rfl, Nat.le_of_ble_eq_true rfl⟩) ⟨pw_blind, tw_recv hK hT (fx_1 hX) (by decide) cl_e11 rfl, pw_use hT hK hFc hS hM⟩ rfl rfl hl.1 rfl (lv_room (Nat.le_of_ble_eq_true rfl)) dX3_runOn_34 ⟨Nat.le_of_ble_eq_true rfl, Nat.le_of_ble_eq_true rfl⟩) hS (fun q _ h => hFc q h) hFc (fun r0 r_4 t H locs ht hvm hw hB hz1 hk1 hS => ?_)
          refine W.widen (k := 0) (n := 0) (Nat.le_of_ble_eq_true rfl) (Nat.le_of_ble_eq_true rfl) ?_
          clear hvm hz1 hk1
          subst hw
          have hT := hB
          rw [ht] at hT
          refine lv_iload_n hx hb dX3_runOn_37 rfl (lv_at hl 3 rfl) ?_
          refine lv_iconst (v := (-1)) hx hb dX3_runOn_38 (by decide) ?_
          refine lv_icmp_ne (tgt := 46) hx hb dX3_runOn_39 (by decide) (fun c_5 => ?_) (fun c_5 => ?_)
          · have nc_5 := z_ne rfl (zk (x := (-1)) (-1) rfl) c_5
            refine lv_iconst (v := 1) hx hb dX3_runOn_46 (by decide) ?_
            refine lv_iload_n hx hb dX3_runOn_47 rfl (lv_at hl 3 rfl) ?_
            refine lv_ishl hx hb dX3_runOn_48 ?_
            refine lv_topi (fun x_6 ex_6 => ?_)
            refine lv_ior hx hb dX3_runOn_49 ?_
            refine lv_topi (fun x_7 ex_7 => ?_)
            refine lv_istore (lv' := [(6, .int x_7), (0, .ref (a 3)), (1, .int p0), (2, .null), (3, .int p1), (4, .int x_1), (5, .int i5)]) hx hb dX3_runOn_50 hl (by decide) rfl (fun ls hl => ?_)
            refine lv_aload_n hx hb dX3_runOn_52 rfl (lv_at hl 1 rfl) ?_
            refine lv_iload hx hb dX3_runOn_53 (lv_at hl 0 rfl) ?_
            refine lv_aload_nN hx hb dX3_runOn_55 rfl (lv_at hl 3 rfl) ?_
            have hFc := tw_free hF hS hA
            refine va_callv (va_runV (As := [.int x_7, .null]) (rest := []) ⟨hx, hb, hml, hown, hts⟩ (c_takeAllF l dC dI ad av H.size a k τ ln y_L11 g u x_7 hI hFl (hsp.ag hI hG (by decide)) (by omega) (by omega)) (cwV 2 hts (gi_4 (List.mem_cons_of_mem _ (List.mem_append_left _ (List.mem_of_getElem? (i := 6) rfl))) (List.mem_cons_of_mem _ (List.mem_append_left _ (List.mem_of_getElem? (i := 7) rfl))) (List.mem_cons_of_mem _ (List.mem_append_left _ (List.mem_of_getElem? (i := 8) rfl))) (List.mem_cons_of_mem _ (List.mem_append_left _ (List.mem_of_getElem? (i := 9) rfl))) (fun _ hh => (List.mem_cons_of_mem _ (List.mem_append_right _ (List.mem_append_right _ (List.mem_append_right _ (List.mem_append_left _ hh)))))) gd_c_takeAllF) rfl rfl rfl (by decide +kernel) ⟨Nat.le_of_ble_eq_true rfl, Nat.le_of_ble_eq_true rfl⟩) ⟨pw_blind, tw_recv hK hT (fx_3 hX) (by decide) cl_e13 rfl, pw_use hT hK hFc hS hM⟩ rfl rfl hl.1 rfl (lv_room (Nat.le_of_ble_eq_true rfl)) dX3_runOn_56 ⟨Nat.le_of_ble_eq_true rfl, Nat.le_of_ble_eq_true rfl⟩) hS (fun q _ h => hFc q h) hFc (fun u0 t H locs ht hvm hw hB hz1 hk1 hS => ?_)
            refine W.widen (k := 0) (n := 0) (Nat.le_of_ble_eq_true rfl) (Nat.le_of_ble_eq_true rfl) ?_
            clear hvm hz1 hk1
            obtain ⟨y_9, hgy_9, hf_10, hT⟩ := hB
            rw [ht] at hT
            have hG := hG.tr hgy_9 (by decide)
            have : (y_9 (a 3) 2).toInt = (y_L11 (a 3) 2).toInt := by rw [hgy_9.at (fx_3 hX) (by decide)]
            have hI := hI.ag hgy_9 (by decide)
            have hFl := hf_10
            refine lv_aload_n hx hb dX3_runOn_59 rfl (lv_at hl 1 rfl) ?_
            refine lv_iload hx hb dX3_runOn_60 (lv_at hl 0 rfl) ?_
            refine lv_iload hx hb dX3_runOn_62 (lv_at hl 5 rfl) ?_
            have hFc := tw_free hF hS hA
            refine va_calli (va_runV (As := [.int x_7, .int x_1]) (rest := []) ⟨hx, hb, hml, hown, hts⟩ (c_changeFromF l dC dI ad av H.size a k τ ln y_9 g u x_7 x_1 hI hFl (by omega) (by omega) (by omega) (by omega)) (cwV 2 hts (gi_4 (List.mem_cons_of_mem _ (List.mem_append_left _ (List.mem_of_getElem? (i := 10) rfl))) (List.mem_cons_of_mem _ (List.mem_append_left _ (List.mem_of_getElem? (i := 11) rfl))) (List.mem_cons_of_mem _ (List.mem_append_left _ (List.mem_of_getElem? (i := 12) rfl))) (List.mem_cons_of_mem _ (List.mem_append_left _ (List.mem_of_getElem? (i := 9) rfl))) (fun _ hh => (List.mem_cons_of_mem _ (List.mem_append_right _ (List.mem_append_right _ (List.mem_append_right _ (List.mem_append_right _ (List.mem_append_left _ hh))))))) gd_c_changeFromF) rfl rfl rfl (by decide +kernel) ⟨Nat.le_of_ble_eq_true rfl, Nat.le_of_ble_eq_true rfl⟩) ⟨pw_blind, tw_recv hK hT (fx_3 hX) (by decide) cl_e13 rfl, pw_use hT hK hFc hS hM⟩ rfl rfl hl.1 rfl (lv_room (Nat.le_of_ble_eq_true rfl)) dX3_runOn_64 ⟨Nat.le_of_ble_eq_true rfl, Nat.le_of_ble_eq_true rfl⟩) hS (fun q _ h => hFc q h) hFc (fun r0 r_11 t H locs ht hvm hw hB hz1 hk1 hS => ?_)
            refine W.widen (k := 0) (n := 0) (Nat.le_of_ble_eq_true rfl) (Nat.le_of_ble_eq_true rfl) ?_
            clear hvm hz1 hk1
            subst hw
            obtain ⟨hf_12, hf_13, hT⟩ := hB
            rw [ht] at hT
            refine lv_aload_n hx hb dX3_runOn_67 rfl (lv_at hl 1 rfl) ?_
            refine tw_get (D := (dC, dI)) (v := .int (y_9 (a 3) 2)) (C := RX3) (T := TX3) (N := 12) hx hb hts (fun _ hh => (List.mem_cons_of_mem _ (List.mem_append_right _ (List.mem_append_left _ hh)))) hown hK hT (fx_3 hX) (by decide) cl_e13 rfl 2 (by decide) (hts (.fieldLink RX3 9 "TypingPool$Floor" "now" "I") (List.mem_cons_of_mem _ (List.mem_append_left _ (List.mem_of_getElem? (i := 0) rfl)))) (fun _ h9 => h9) rfl dX3_runOn_68 ?_
            refine lv_isub hx hb dX3_runOn_71 ?_
            refine lv_topi (fun x_14 ex_14 => ?_)
            have hx_14 := z_sub ex_14 rfl rfl (by omega) (by omega)
            refine lv_istore (lv' := [(7, .int x_14), (6, .int x_7), (0, .ref (a 3)), (1, .int p0), (2, .null), (3, .int p1), (4, .int x_1), (5, .int i5)]) hx hb dX3_runOn_72 hl (by decide) rfl (fun ls hl => ?_)
            refine lv_aload_n hx hb dX3_runOn_74 rfl (lv_at hl 2 rfl) ?_
            refine lv_iload hx hb dX3_runOn_75 (lv_at hl 1 rfl) ?_
            refine lv_iload hx hb dX3_runOn_77 (lv_at hl 0 rfl) ?_
            have hFc := tw_free hF hS hA
            refine va_callv (va_runV (As := [.int x_7, .int x_14]) (rest := []) ⟨hx, hb, hml, hown, hts⟩ (c_workAllF l dC dI ad av H.size a k τ ln y_9 g u x_7 x_14 hI hFl (by omega) (by omega) (by omega) (by omega)) (cwV 2 hts (gi_4 (List.mem_cons_of_mem _ (List.mem_append_left _ (List.mem_of_getElem? (i := 13) rfl))) (List.mem_cons_of_mem _ (List.mem_append_left _ (List.mem_of_getElem? (i := 14) rfl))) (List.mem_cons_of_mem _ (List.mem_append_left _ (List.mem_of_getElem? (i := 15) rfl))) (List.mem_cons_of_mem _ (List.mem_append_left _ (List.mem_of_getElem? (i := 9) rfl))) (fun _ hh => (List.mem_cons_of_mem _ (List.mem_append_right _ (List.mem_append_right _ (List.mem_append_right _ (List.mem_append_right _ (List.mem_append_right _ (List.mem_append_left _ hh)))))))) gd_c_workAllF) rfl rfl rfl (by decide +kernel) ⟨Nat.le_of_ble_eq_true rfl, Nat.le_of_ble_eq_true rfl⟩) ⟨pw_blind, tw_recv hK hT (fx_3 hX) (by decide) cl_e13 rfl, pw_use hT hK hFc hS hM⟩ rfl rfl hl.1 rfl (lv_room (Nat.le_of_ble_eq_true rfl)) dX3_runOn_79 ⟨Nat.le_of_ble_eq_true rfl, Nat.le_of_ble_eq_true rfl⟩) hS (fun q _ h => hFc q h) hFc (fun u0 t H locs ht hvm hw hB hz1 hk1 hS => ?_)
            refine W.widen (k := 0) (n := 0) (Nat.le_of_ble_eq_true rfl) (Nat.le_of_ble_eq_true rfl) ?_
            clear hvm hz1 hk1
            obtain ⟨y_16, hgy_16, hf_17, hT⟩ := hB
            rw [ht] at hT
            have hG := hG.tr hgy_16 (by decide)
            have : (y_16 (a 3) 2).toInt = (y_9 (a 3) 2).toInt := by rw [hgy_16.at (fx_3 hX) (by decide)]
            have hI := hI.ag hgy_16 (by decide)
            have hFl := hf_17
            refine lv_aload_n hx hb dX3_runOn_82 rfl (lv_at hl 2 rfl) ?_
            refine lv_dup hx hb dX3_runOn_83 rfl ?_
            refine tw_get (D := (dC, dI)) (v := .int (y_16 (a 3) 2)) (C := RX3) (T := TX3) (N := 12) hx hb hts (fun _ hh => (List.mem_cons_of_mem _ (List.mem_append_right _ (List.mem_append_left _ hh)))) hown hK hT (fx_3 hX) (by decide) cl_e13 rfl 2 (by decide) (hts (.fieldLink RX3 9 "TypingPool$Floor" "now" "I") (List.mem_cons_of_mem _ (List.mem_append_left _ (List.mem_of_getElem? (i := 0) rfl)))) (fun _ h9 => h9) rfl dX3_runOn_84 ?_
            refine lv_iload hx hb dX3_runOn_87 (lv_at hl 0 rfl) ?_
            refine lv_iadd hx hb dX3_runOn_89 ?_
            refine lv_topi (fun x_18 ex_18 => ?_)
            have hx_18 := z_add ex_18 rfl rfl (by omega) (by omega)
            refine tw_put (D := (dC, dI)) (x := x_18) (ty := .int) (C := RX3) (T := TX3) (N := 12) hx hb hts (fun _ hh => (List.mem_cons_of_mem _ (List.mem_append_right _ (List.mem_append_left _ hh)))) tyX3 tyX3_ok nmX3 hown hK hT hF hS (fx_3 hX) (by decide) cl_e13 rfl 2 (by decide) (hts (.fieldLink RX3 9 "TypingPool$Floor" "now" "I") (List.mem_cons_of_mem _ (List.mem_append_left _ (List.mem_of_getElem? (i := 0) rfl)))) (fun _ h9 => h9) rfl (tyX3_ok 2 (by decide)) rfl rfl (Nat.le_of_ble_eq_true rfl) rfl dX3_runOn_90 (fun H locs hT hS => ?_)
            obtain ⟨y_19, hy_19, hT⟩ : ∃ z : Nat → Nat → Int32, z = up2 y_16 (a 3) 2 x_18 ∧ tw (dC, dI) a k τ ln z g H := ⟨_, rfl, hT⟩
            have hG : ag τ [13, 24, 27, 30, 31, 32, 33, 34, 35, 36, 37, 38] y y_19 := by rw [hy_19]; exact hG.up (fx_3 hX) (by decide)
            have : (y_19 (a 3) 2).toInt = x_18.toInt := (congrArg Int32.toInt (show y_19 (a 3) 2 = x_18 from by rw [hy_19]; exact up2_i)).trans rfl
            have hFl := hFl.ag hX (S := [13]) (y' := y_19) (by rw [hy_19]; exact ag.one (fx_3 hX)) (by decide)
            have hI := hI.ag (S := [13]) (y' := y_19) (by rw [hy_19]; exact ag.one (fx_3 hX)) (by decide)
            obtain ⟨x_20, ex_20⟩ : ∃ y : Int32, y = i5 + Int32.ofInt 1 := ⟨_, rfl⟩
            have hx_20 := z_add ex_20 rfl (zk (x := Int32.ofInt 1) 1 rfl) (by omega) (by omega)
            refine lv_iinc (v := x_20) (lv' := [(5, .int x_20), (7, .int x_14), (6, .int x_7), (0, .ref (a 3)), (1, .int p0), (2, .null), (3, .int p1), (4, .int x_1)]) hx hb dX3_runOn_93 hl (k := 7) rfl ex_20.symm (by decide) rfl (fun ls hl => ?_)
            refine lv_goto (tgt := 11) hx hb dX3_runOn_96 (by decide) ?_
            exact ih_11  x_20 y_19 H _ ls (by omega) hG hI hFl (by omega) (by omega) (by omega) hT hS (lv_sub hl [3, 4, 5, 6, 7, 0] rfl)
          · have nc_5 := z_eq rfl (zk (x := (-1)) (-1) rfl) c_5
            refine lv_iconst (v := 0) hx hb dX3_runOn_42 (by decide) ?_
            refine lv_goto (tgt := 49) hx hb dX3_runOn_43 (by decide) ?_
            refine lv_ior hx hb dX3_runOn_49 ?_
            refine lv_topi (fun x_21 ex_21 => ?_)
            refine lv_istore (lv' := [(6, .int x_21), (0, .ref (a 3)), (1, .int p0), (2, .null), (3, .int p1), (4, .int x_1), (5, .int i5)]) hx hb dX3_runOn_50 hl (by decide) rfl (fun ls hl => ?_)
            refine lv_aload_n hx hb dX3_runOn_52 rfl (lv_at hl 1 rfl) ?_
            refine lv_iload hx hb dX3_runOn_53 (lv_at hl 0 rfl) ?_
            refine lv_aload_nN hx hb dX3_runOn_55 rfl (lv_at hl 3 rfl) ?_
            have hFc := tw_free hF hS hA
            refine va_callv (va_runV (As := [.int x_21, .null]) (rest := []) ⟨hx, hb, hml, hown, hts⟩ (c_takeAllF l dC dI ad av H.size a k τ ln y_L11 g u x_21 hI hFl (hsp.ag hI hG (by decide)) (by omega) (by omega)) (cwV 2 hts (gi_4 (List.mem_cons_of_mem _ (List.mem_append_left _ (List.mem_of_getElem? (i := 6) rfl))) (List.mem_cons_of_mem _ (List.mem_append_left _ (List.mem_of_getElem? (i := 7) rfl))) (List.mem_cons_of_mem _ (List.mem_append_left _ (List.mem_of_getElem? (i := 8) rfl))) (List.mem_cons_of_mem _ (List.mem_append_left _ (List.mem_of_getElem? (i := 9) rfl))) (fun _ hh => (List.mem_cons_of_mem _ (List.mem_append_right _ (List.mem_append_right _ (List.mem_append_right _ (List.mem_append_left _ hh)))))) gd_c_takeAllF) rfl rfl rfl (by decide +kernel) ⟨Nat.le_of_ble_eq_true rfl, Nat.le_of_ble_eq_true rfl⟩) ⟨pw_blind, tw_recv hK hT (fx_3 hX) (by decide) cl_e13 rfl, pw_use hT hK hFc hS hM⟩ rfl rfl hl.1 rfl (lv_room (Nat.le_of_ble_eq_true rfl)) dX3_runOn_56 ⟨Nat.le_of_ble_eq_true rfl, Nat.le_of_ble_eq_true rfl⟩) hS (fun q _ h => hFc q h) hFc (fun u0 t H locs ht hvm hw hB hz1 hk1 hS => ?_)
            refine W.widen (k := 0) (n := 0) (Nat.le_of_ble_eq_true rfl) (Nat.le_of_ble_eq_true rfl) ?_
            clear hvm hz1 hk1
            obtain ⟨y_23, hgy_23, hf_24, hT⟩ := hB
            rw [ht] at hT
            have hG := hG.tr hgy_23 (by decide)
            have : (y_23 (a 3) 2).toInt = (y_L11 (a 3) 2).toInt := by rw [hgy_23.at (fx_3 hX) (by decide)]
            have hI := hI.ag hgy_23 (by decide)
            have hFl := hf_24
            refine lv_aload_n hx hb dX3_runOn_59 rfl (lv_at hl 1 rfl) ?_
            refine lv_iload hx hb dX3_runOn_60 (lv_at hl 0 rfl) ?_
            refine lv_iload hx hb dX3_runOn_62 (lv_at hl 5 rfl) ?_
            have hFc := tw_free hF hS hA
            refine va_calli (va_runV (As := [.int x_21, .int x_1]) (rest := []) ⟨hx, hb, hml, hown, hts⟩ (c_changeFromF l dC dI ad av H.size a k τ ln y_23 g u x_21 x_1 hI hFl (by omega) (by omega) (by omega) (by omega)) (cwV 2 hts (gi_4 (List.mem_cons_of_mem _ (List.mem_append_left _ (List.mem_of_getElem? (i := 10) rfl))) (List.mem_cons_of_mem _ (List.mem_append_left _ (List.mem_of_getElem? (i := 11) rfl))) (List.mem_cons_of_mem _ (List.mem_append_left _ (List.mem_of_getElem? (i := 12) rfl))) (List.mem_cons_of_mem _ (List.mem_append_left _ (List.mem_of_getElem? (i := 9) rfl))) (fun _ hh => (List.mem_cons_of_mem _ (List.mem_append_right _ (List.mem_append_right _ (List.mem_append_right _ (List.mem_append_right _ (List.mem_append_left _ hh))))))) gd_c_changeFromF) rfl rfl rfl (by decide +kernel) ⟨Nat.le_of_ble_eq_true rfl, Nat.le_of_ble_eq_true rfl⟩) ⟨pw_blind, tw_recv hK hT (fx_3 hX) (by decide) cl_e13 rfl, pw_use hT hK hFc hS hM⟩ rfl rfl hl.1 rfl (lv_room (Nat.le_of_ble_eq_true rfl)) dX3_runOn_64 ⟨Nat.le_of_ble_eq_true rfl, Nat.le_of_ble_eq_true rfl⟩) hS (fun q _ h => hFc q h) hFc (fun r0 r_25 t H locs ht hvm hw hB hz1 hk1 hS => ?_)
            refine W.widen (k := 0) (n := 0) (Nat.le_of_ble_eq_true rfl) (Nat.le_of_ble_eq_true rfl) ?_
            clear hvm hz1 hk1
            subst hw
            obtain ⟨hf_26, hf_27, hT⟩ := hB
            rw [ht] at hT
            refine lv_aload_n hx hb dX3_runOn_67 rfl (lv_at hl 1 rfl) ?_
            refine tw_get (D := (dC, dI)) (v := .int (y_23 (a 3) 2)) (C := RX3) (T := TX3) (N := 12) hx hb hts (fun _ hh => (List.mem_cons_of_mem _ (List.mem_append_right _ (List.mem_append_left _ hh)))) hown hK hT (fx_3 hX) (by decide) cl_e13 rfl 2 (by decide) (hts (.fieldLink RX3 9 "TypingPool$Floor" "now" "I") (List.mem_cons_of_mem _ (List.mem_append_left _ (List.mem_of_getElem? (i := 0) rfl)))) (fun _ h9 => h9) rfl dX3_runOn_68 ?_
            refine lv_isub hx hb dX3_runOn_71 ?_
            refine lv_topi (fun x_28 ex_28 => ?_)
            have hx_28 := z_sub ex_28 rfl rfl (by omega) (by omega)
            refine lv_istore (lv' := [(7, .int x_28), (6, .int x_21), (0, .ref (a 3)), (1, .int p0), (2, .null), (3, .int p1), (4, .int x_1), (5, .int i5)]) hx hb dX3_runOn_72 hl (by decide) rfl (fun ls hl => ?_)
            refine lv_aload_n hx hb dX3_runOn_74 rfl (lv_at hl 2 rfl) ?_
            refine lv_iload hx hb dX3_runOn_75 (lv_at hl 1 rfl) ?_
            refine lv_iload hx hb dX3_runOn_77 (lv_at hl 0 rfl) ?_
            have hFc := tw_free hF hS hA
            refine va_callv (va_runV (As := [.int x_21, .int x_28]) (rest := []) ⟨hx, hb, hml, hown, hts⟩ (c_workAllF l dC dI ad av H.size a k τ ln y_23 g u x_21 x_28 hI hFl (by omega) (by omega) (by omega) (by omega)) (cwV 2 hts (gi_4 (List.mem_cons_of_mem _ (List.mem_append_left _ (List.mem_of_getElem? (i := 13) rfl))) (List.mem_cons_of_mem _ (List.mem_append_left _ (List.mem_of_getElem? (i := 14) rfl))) (List.mem_cons_of_mem _ (List.mem_append_left _ (List.mem_of_getElem? (i := 15) rfl))) (List.mem_cons_of_mem _ (List.mem_append_left _ (List.mem_of_getElem? (i := 9) rfl))) (fun _ hh => (List.mem_cons_of_mem _ (List.mem_append_right _ (List.mem_append_right _ (List.mem_append_right _ (List.mem_append_right _ (List.mem_append_right _ (List.mem_append_left _ hh)))))))) gd_c_workAllF) rfl rfl rfl (by decide +kernel) ⟨Nat.le_of_ble_eq_true rfl, Nat.le_of_ble_eq_true rfl⟩) ⟨pw_blind, tw_recv hK hT (fx_3 hX) (by decide) cl_e13 rfl, pw_use hT hK hFc hS hM⟩ rfl rfl hl.1 rfl (lv_room (Nat.le_of_ble_eq_true rfl)) dX3_runOn_79 ⟨Nat.le_of_ble_eq_true rfl, Nat.le_of_ble_eq_true rfl⟩) hS (fun q _ h => hFc q h) hFc (fun u0 t H locs ht hvm hw hB hz1 hk1 hS => ?_)
            refine W.widen (k := 0) (n := 0) (Nat.le_of_ble_eq_true rfl) (Nat.le_of_ble_eq_true rfl) ?_
            clear hvm hz1 hk1
            obtain ⟨y_30, hgy_30, hf_31, hT⟩ := hB
            rw [ht] at hT
            have hG := hG.tr hgy_30 (by decide)
            have : (y_30 (a 3) 2).toInt = (y_23 (a 3) 2).toInt := by rw [hgy_30.at (fx_3 hX) (by decide)]
            have hI := hI.ag hgy_30 (by decide)
            have hFl := hf_31
            refine lv_aload_n hx hb dX3_runOn_82 rfl (lv_at hl 2 rfl) ?_
            refine lv_dup hx hb dX3_runOn_83 rfl ?_
            refine tw_get (D := (dC, dI)) (v := .int (y_30 (a 3) 2)) (C := RX3) (T := TX3) (N := 12) hx hb hts (fun _ hh => (List.mem_cons_of_mem _ (List.mem_append_right _ (List.mem_append_left _ hh)))) hown hK hT (fx_3 hX) (by decide) cl_e13 rfl 2 (by decide) (hts (.fieldLink RX3 9 "TypingPool$Floor" "now" "I") (List.mem_cons_of_mem _ (List.mem_append_left _ (List.mem_of_getElem? (i := 0) rfl)))) (fun _ h9 => h9) rfl dX3_runOn_84 ?_
            refine lv_iload hx hb dX3_runOn_87 (lv_at hl 0 rfl) ?_
            refine lv_iadd hx hb dX3_runOn_89 ?_
            refine lv_topi (fun x_32 ex_32 => ?_)
            have hx_32 := z_add ex_32 rfl rfl (by omega) (by omega)
            refine tw_put (D := (dC, dI)) (x := x_32) (ty := .int) (C := RX3) (T := TX3) (N := 12) hx hb hts (fun _ hh => (List.mem_cons_of_mem _ (List.mem_append_right _ (List.mem_append_left _ hh)))) tyX3 tyX3_ok nmX3 hown hK hT hF hS (fx_3 hX) (by decide) cl_e13 rfl 2 (by decide) (hts (.fieldLink RX3 9 "TypingPool$Floor" "now" "I") (List.mem_cons_of_mem _ (List.mem_append_left _ (List.mem_of_getElem? (i := 0) rfl)))) (fun _ h9 => h9) rfl (tyX3_ok 2 (by decide)) rfl rfl (Nat.le_of_ble_eq_true rfl) rfl dX3_runOn_90 (fun H locs hT hS => ?_)
            obtain ⟨y_33, hy_33, hT⟩ : ∃ z : Nat → Nat → Int32, z = up2 y_30 (a 3) 2 x_32 ∧ tw (dC, dI) a k τ ln z g H := ⟨_, rfl, hT⟩
            have hG : ag τ [13, 24, 27, 30, 31, 32, 33, 34, 35, 36, 37, 38] y y_33 := by rw [hy_33]; exact hG.up (fx_3 hX) (by decide)
            have : (y_33 (a 3) 2).toInt = x_32.toInt := (congrArg Int32.toInt (show y_33 (a 3) 2 = x_32 from by rw [hy_33]; exact up2_i)).trans rfl
            have hFl := hFl.ag hX (S := [13]) (y' := y_33) (by rw [hy_33]; exact ag.one (fx_3 hX)) (by decide)
            have hI := hI.ag (S := [13]) (y' := y_33) (by rw [hy_33]; exact ag.one (fx_3 hX)) (by decide)
            obtain ⟨x_34, ex_34⟩ : ∃ y : Int32, y = i5 + Int32.ofInt 1 := ⟨_, rfl⟩
            have hx_34 := z_add ex_34 rfl (zk (x := Int32.ofInt 1) 1 rfl) (by omega) (by omega)
            refine lv_iinc (v := x_34) (lv' := [(5, .int x_34), (7, .int x_28), (6, .int x_21), (0, .ref (a 3)), (1, .int p0), (2, .null), (3, .int p1), (4, .int x_1)]) hx hb dX3_runOn_93 hl (k := 7) rfl ex_34.symm (by decide) rfl (fun ls hl => ?_)
            refine lv_goto (tgt := 11) hx hb dX3_runOn_96 (by decide) ?_
            exact ih_11  x_34 y_33 H _ ls (by omega) hG hI hFl (by omega) (by omega) (by omega) hT hS (lv_sub hl [3, 4, 5, 6, 7, 0] rfl)
  have hp_35 : (0 : Int32).toInt = 0 := (zk (x := 0) 0 rfl)
  exact loop_11 _ (0 : Int32) y s.heap _ ls (Nat.lt_succ_self _) hG hI hFl (by omega) (by omega) (by omega) hT hS (lv_sub hl [2, 3, 4, 5, 1, 0] rfl)
