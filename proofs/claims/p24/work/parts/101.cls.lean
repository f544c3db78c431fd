theorem dX5_faultsOn_0 : decode cX5_faultsOn 0 = .ok (.iconst 0, 1) := by decide +kernel
theorem dX5_faultsOn_1 : decode cX5_faultsOn 1 = .ok (.istore_n 3, 1) := by decide +kernel
theorem dX5_faultsOn_11 : decode cX5_faultsOn 11 = .ok (.if_icmp .ge 45, 3) := by decide +kernel
theorem dX5_faultsOn_14 : decode cX5_faultsOn 14 = .ok (.aload_n 0, 1) := by decide +kernel
theorem dX5_faultsOn_15 : decode cX5_faultsOn 15 = .ok (.getfield 11, 3) := by decide +kernel
theorem dX5_faultsOn_18 : decode cX5_faultsOn 18 = .ok (.iload 4, 2) := by decide +kernel
theorem dX5_faultsOn_2 : decode cX5_faultsOn 2 = .ok (.iconst 0, 1) := by decide +kernel
theorem dX5_faultsOn_20 : decode cX5_faultsOn 20 = .ok (.aaload, 1) := by decide +kernel
theorem dX5_faultsOn_21 : decode cX5_faultsOn 21 = .ok (.getfield 62, 3) := by decide +kernel
theorem dX5_faultsOn_24 : decode cX5_faultsOn 24 = .ok (.iload_n 1, 1) := by decide +kernel
theorem dX5_faultsOn_25 : decode cX5_faultsOn 25 = .ok (.if_icmp .ne 25, 3) := by decide +kernel
theorem dX5_faultsOn_28 : decode cX5_faultsOn 28 = .ok (.aload_n 0, 1) := by decide +kernel
theorem dX5_faultsOn_29 : decode cX5_faultsOn 29 = .ok (.iload 4, 2) := by decide +kernel
theorem dX5_faultsOn_3 : decode cX5_faultsOn 3 = .ok (.istore 4, 2) := by decide +kernel
theorem dX5_faultsOn_31 : decode cX5_faultsOn 31 = .ok (.invokevirtual 86, 3) := by decide +kernel
theorem dX5_faultsOn_34 : decode cX5_faultsOn 34 = .ok (.ifCond .eq 16, 3) := by decide +kernel
theorem dX5_faultsOn_37 : decode cX5_faultsOn 37 = .ok (.aload_n 0, 1) := by decide +kernel
theorem dX5_faultsOn_38 : decode cX5_faultsOn 38 = .ok (.iload 4, 2) := by decide +kernel
theorem dX5_faultsOn_40 : decode cX5_faultsOn 40 = .ok (.invokevirtual 90, 3) := by decide +kernel
theorem dX5_faultsOn_43 : decode cX5_faultsOn 43 = .ok (.iload_n 2, 1) := by decide +kernel
theorem dX5_faultsOn_44 : decode cX5_faultsOn 44 = .ok (.if_icmp .ne 6, 3) := by decide +kernel
theorem dX5_faultsOn_47 : decode cX5_faultsOn 47 = .ok (.iinc 3 1, 3) := by decide +kernel
theorem dX5_faultsOn_5 : decode cX5_faultsOn 5 = .ok (.iload 4, 2) := by decide +kernel
theorem dX5_faultsOn_50 : decode cX5_faultsOn 50 = .ok (.iinc 4 1, 3) := by decide +kernel
theorem dX5_faultsOn_53 : decode cX5_faultsOn 53 = .ok (.goto (-48), 3) := by decide +kernel
theorem dX5_faultsOn_56 : decode cX5_faultsOn 56 = .ok (.iload_n 3, 1) := by decide +kernel
theorem dX5_faultsOn_57 : decode cX5_faultsOn 57 = .ok (.ireturn, 1) := by decide +kernel
theorem dX5_faultsOn_7 : decode cX5_faultsOn 7 = .ok (.aload_n 0, 1) := by decide +kernel
theorem dX5_faultsOn_8 : decode cX5_faultsOn 8 = .ok (.getfield 17, 3) := by decide +kernel
theorem dX5_faultsWith_0 : decode cX5_faultsWith 0 = .ok (.iconst 0, 1) := by decide +kernel
theorem dX5_faultsWith_1 : decode cX5_faultsWith 1 = .ok (.istore_n 3, 1) := by decide +kernel
theorem dX5_faultsWith_11 : decode cX5_faultsWith 11 = .ok (.getfield 73, 3) := by decide +kernel
theorem dX5_faultsWith_14 : decode cX5_faultsWith 14 = .ok (.if_icmp .ge 32, 3) := by decide +kernel
theorem dX5_faultsWith_17 : decode cX5_faultsWith 17 = .ok (.aload_n 0, 1) := by decide +kernel
theorem dX5_faultsWith_18 : decode cX5_faultsWith 18 = .ok (.getfield 32, 3) := by decide +kernel
theorem dX5_faultsWith_2 : decode cX5_faultsWith 2 = .ok (.iconst 0, 1) := by decide +kernel
theorem dX5_faultsWith_21 : decode cX5_faultsWith 21 = .ok (.iload 4, 2) := by decide +kernel
theorem dX5_faultsWith_23 : decode cX5_faultsWith 23 = .ok (.iload_n 1, 1) := by decide +kernel
theorem dX5_faultsWith_24 : decode cX5_faultsWith 24 = .ok (.invokevirtual 78, 3) := by decide +kernel
theorem dX5_faultsWith_27 : decode cX5_faultsWith 27 = .ok (.ifCond .eq 13, 3) := by decide +kernel
theorem dX5_faultsWith_3 : decode cX5_faultsWith 3 = .ok (.istore 4, 2) := by decide +kernel
theorem dX5_faultsWith_30 : decode cX5_faultsWith 30 = .ok (.iload_n 3, 1) := by decide +kernel
theorem dX5_faultsWith_31 : decode cX5_faultsWith 31 = .ok (.aload_n 0, 1) := by decide +kernel
theorem dX5_faultsWith_32 : decode cX5_faultsWith 32 = .ok (.iload 4, 2) := by decide +kernel
theorem dX5_faultsWith_34 : decode cX5_faultsWith 34 = .ok (.iload_n 2, 1) := by decide +kernel
theorem dX5_faultsWith_35 : decode cX5_faultsWith 35 = .ok (.invokevirtual 82, 3) := by decide +kernel
theorem dX5_faultsWith_38 : decode cX5_faultsWith 38 = .ok (.iadd, 1) := by decide +kernel
theorem dX5_faultsWith_39 : decode cX5_faultsWith 39 = .ok (.istore_n 3, 1) := by decide +kernel
theorem dX5_faultsWith_40 : decode cX5_faultsWith 40 = .ok (.iinc 4 1, 3) := by decide +kernel
theorem dX5_faultsWith_43 : decode cX5_faultsWith 43 = .ok (.goto (-38), 3) := by decide +kernel
theorem dX5_faultsWith_46 : decode cX5_faultsWith 46 = .ok (.iload_n 3, 1) := by decide +kernel
theorem dX5_faultsWith_47 : decode cX5_faultsWith 47 = .ok (.ireturn, 1) := by decide +kernel
theorem dX5_faultsWith_5 : decode cX5_faultsWith 5 = .ok (.iload 4, 2) := by decide +kernel
theorem dX5_faultsWith_7 : decode cX5_faultsWith 7 = .ok (.aload_n 0, 1) := by decide +kernel
theorem dX5_faultsWith_8 : decode cX5_faultsWith 8 = .ok (.getfield 24, 3) := by decide +kernel
theorem dX5_isKnown_0 : decode cX5_isKnown 0 = .ok (.aload_n 0, 1) := by decide +kernel
theorem dX5_isKnown_1 : decode cX5_isKnown 1 = .ok (.getfield 11, 3) := by decide +kernel
theorem dX5_isKnown_11 : decode cX5_isKnown 11 = .ok (.aload_n 0, 1) := by decide +kernel
theorem dX5_isKnown_12 : decode cX5_isKnown 12 = .ok (.getfield 21, 3) := by decide +kernel
theorem dX5_isKnown_15 : decode cX5_isKnown 15 = .ok (.if_icmp .gt 26, 3) := by decide +kernel
theorem dX5_isKnown_18 : decode cX5_isKnown 18 = .ok (.aload_n 2, 1) := by decide +kernel
theorem dX5_isKnown_19 : decode cX5_isKnown 19 = .ok (.getfield 39, 3) := by decide +kernel
theorem dX5_isKnown_22 : decode cX5_isKnown 22 = .ok (.iconst (-1), 1) := by decide +kernel
theorem dX5_isKnown_23 : decode cX5_isKnown 23 = .ok (.if_icmp .eq 14, 3) := by decide +kernel
theorem dX5_isKnown_26 : decode cX5_isKnown 26 = .ok (.aload_n 2, 1) := by decide +kernel
theorem dX5_isKnown_27 : decode cX5_isKnown 27 = .ok (.getfield 39, 3) := by decide +kernel
theorem dX5_isKnown_30 : decode cX5_isKnown 30 = .ok (.aload_n 0, 1) := by decide +kernel
theorem dX5_isKnown_31 : decode cX5_isKnown 31 = .ok (.getfield 21, 3) := by decide +kernel
theorem dX5_isKnown_34 : decode cX5_isKnown 34 = .ok (.if_icmp .le 7, 3) := by decide +kernel
theorem dX5_isKnown_37 : decode cX5_isKnown 37 = .ok (.iconst 1, 1) := by decide +kernel
theorem dX5_isKnown_38 : decode cX5_isKnown 38 = .ok (.goto 4, 3) := by decide +kernel
theorem dX5_isKnown_4 : decode cX5_isKnown 4 = .ok (.iload_n 1, 1) := by decide +kernel
theorem dX5_isKnown_41 : decode cX5_isKnown 41 = .ok (.iconst 0, 1) := by decide +kernel
theorem dX5_isKnown_42 : decode cX5_isKnown 42 = .ok (.ireturn, 1) := by decide +kernel
theorem dX5_isKnown_5 : decode cX5_isKnown 5 = .ok (.aaload, 1) := by decide +kernel
theorem dX5_isKnown_6 : decode cX5_isKnown 6 = .ok (.astore_n 2, 1) := by decide +kernel
theorem dX5_isKnown_7 : decode cX5_isKnown 7 = .ok (.aload_n 2, 1) := by decide +kernel
theorem dX5_isKnown_8 : decode cX5_isKnown 8 = .ok (.getfield 36, 3) := by decide +kernel
theorem dX5_payFor_0 : decode cX5_payFor 0 = .ok (.aload_n 0, 1) := by decide +kernel
theorem dX5_payFor_1 : decode cX5_payFor 1 = .ok (.getfield 32, 3) := by decide +kernel
theorem dX5_payFor_10 : decode cX5_payFor 10 = .ok (.if_icmp .ne 5, 3) := by decide +kernel
theorem dX5_payFor_100 : decode cX5_payFor 100 = .ok (.sipush 480, 3) := by decide +kernel
theorem dX5_payFor_103 : decode cX5_payFor 103 = .ok (.idiv, 1) := by decide +kernel
theorem dX5_payFor_104 : decode cX5_payFor 104 = .ok (.aconst_null, 1) := by decide +kernel
theorem dX5_payFor_105 : decode cX5_payFor 105 = .ok (.invokevirtual 65, 3) := by decide +kernel
theorem dX5_payFor_108 : decode cX5_payFor 108 = .ok (.invokevirtual 69, 3) := by decide +kernel
theorem dX5_payFor_111 : decode cX5_payFor 111 = .ok (.ireturn, 1) := by decide +kernel
theorem dX5_payFor_13 : decode cX5_payFor 13 = .ok (.iconst 0, 1) := by decide +kernel
theorem dX5_payFor_14 : decode cX5_payFor 14 = .ok (.ireturn, 1) := by decide +kernel
theorem dX5_payFor_15 : decode cX5_payFor 15 = .ok (.aload_n 0, 1) := by decide +kernel
theorem dX5_payFor_16 : decode cX5_payFor 16 = .ok (.iload_n 1, 1) := by decide +kernel
theorem dX5_payFor_17 : decode cX5_payFor 17 = .ok (.iconst 1, 1) := by decide +kernel
theorem dX5_payFor_18 : decode cX5_payFor 18 = .ok (.invokevirtual 82, 3) := by decide +kernel
theorem dX5_payFor_21 : decode cX5_payFor 21 = .ok (.istore_n 2, 1) := by decide +kernel
theorem dX5_payFor_22 : decode cX5_payFor 22 = .ok (.aload_n 0, 1) := by decide +kernel
theorem dX5_payFor_23 : decode cX5_payFor 23 = .ok (.getfield 24, 3) := by decide +kernel
theorem dX5_payFor_26 : decode cX5_payFor 26 = .ok (.getfield 97, 3) := by decide +kernel
theorem dX5_payFor_29 : decode cX5_payFor 29 = .ok (.iload_n 1, 1) := by decide +kernel
theorem dX5_payFor_30 : decode cX5_payFor 30 = .ok (.aaload, 1) := by decide +kernel
theorem dX5_payFor_31 : decode cX5_payFor 31 = .ok (.astore_n 3, 1) := by decide +kernel
theorem dX5_payFor_32 : decode cX5_payFor 32 = .ok (.aload_n 0, 1) := by decide +kernel
theorem dX5_payFor_33 : decode cX5_payFor 33 = .ok (.getfield 28, 3) := by decide +kernel
theorem dX5_payFor_36 : decode cX5_payFor 36 = .ok (.getfield 42, 3) := by decide +kernel
theorem dX5_payFor_39 : decode cX5_payFor 39 = .ok (.astore 4, 2) := by decide +kernel
theorem dX5_payFor_4 : decode cX5_payFor 4 = .ok (.getfield 94, 3) := by decide +kernel
theorem dX5_payFor_41 : decode cX5_payFor 41 = .ok (.aload 4, 2) := by decide +kernel
theorem dX5_payFor_43 : decode cX5_payFor 43 = .ok (.iconst 0, 1) := by decide +kernel
theorem dX5_payFor_44 : decode cX5_payFor 44 = .ok (.aload_n 3, 1) := by decide +kernel
theorem dX5_payFor_45 : decode cX5_payFor 45 = .ok (.getfield 101, 3) := by decide +kernel
theorem dX5_payFor_48 : decode cX5_payFor 48 = .ok (.iastore, 1) := by decide +kernel
theorem dX5_payFor_49 : decode cX5_payFor 49 = .ok (.aload 4, 2) := by decide +kernel
theorem dX5_payFor_51 : decode cX5_payFor 51 = .ok (.iconst 1, 1) := by decide +kernel
theorem dX5_payFor_52 : decode cX5_payFor 52 = .ok (.aload_n 3, 1) := by decide +kernel
theorem dX5_payFor_53 : decode cX5_payFor 53 = .ok (.getfield 106, 3) := by decide +kernel
theorem dX5_payFor_56 : decode cX5_payFor 56 = .ok (.iastore, 1) := by decide +kernel
theorem dX5_payFor_57 : decode cX5_payFor 57 = .ok (.aload 4, 2) := by decide +kernel
theorem dX5_payFor_59 : decode cX5_payFor 59 = .ok (.iconst 2, 1) := by decide +kernel
theorem dX5_payFor_60 : decode cX5_payFor 60 = .ok (.aload_n 3, 1) := by decide +kernel
theorem dX5_payFor_61 : decode cX5_payFor 61 = .ok (.getfield 109, 3) := by decide +kernel
theorem dX5_payFor_64 : decode cX5_payFor 64 = .ok (.iastore, 1) := by decide +kernel
theorem dX5_payFor_65 : decode cX5_payFor 65 = .ok (.aload 4, 2) := by decide +kernel
theorem dX5_payFor_67 : decode cX5_payFor 67 = .ok (.iconst 3, 1) := by decide +kernel
theorem dX5_payFor_68 : decode cX5_payFor 68 = .ok (.aload_n 0, 1) := by decide +kernel
theorem dX5_payFor_69 : decode cX5_payFor 69 = .ok (.getfield 32, 3) := by decide +kernel
theorem dX5_payFor_7 : decode cX5_payFor 7 = .ok (.iload_n 1, 1) := by decide +kernel
theorem dX5_payFor_72 : decode cX5_payFor 72 = .ok (.iload_n 1, 1) := by decide +kernel
theorem dX5_payFor_73 : decode cX5_payFor 73 = .ok (.invokevirtual 112, 3) := by decide +kernel
theorem dX5_payFor_76 : decode cX5_payFor 76 = .ok (.iastore, 1) := by decide +kernel
theorem dX5_payFor_77 : decode cX5_payFor 77 = .ok (.aload 4, 2) := by decide +kernel
theorem dX5_payFor_79 : decode cX5_payFor 79 = .ok (.iconst 4, 1) := by decide +kernel
theorem dX5_payFor_8 : decode cX5_payFor 8 = .ok (.iaload, 1) := by decide +kernel
theorem dX5_payFor_80 : decode cX5_payFor 80 = .ok (.iload_n 2, 1) := by decide +kernel
theorem dX5_payFor_81 : decode cX5_payFor 81 = .ok (.iastore, 1) := by decide +kernel
theorem dX5_payFor_82 : decode cX5_payFor 82 = .ok (.aload_n 0, 1) := by decide +kernel
theorem dX5_payFor_83 : decode cX5_payFor 83 = .ok (.getfield 28, 3) := by decide +kernel
theorem dX5_payFor_86 : decode cX5_payFor 86 = .ok (.aload_n 0, 1) := by decide +kernel
theorem dX5_payFor_87 : decode cX5_payFor 87 = .ok (.getfield 28, 3) := by decide +kernel
theorem dX5_payFor_9 : decode cX5_payFor 9 = .ok (.iconst (-1), 1) := by decide +kernel
theorem dX5_payFor_90 : decode cX5_payFor 90 = .ok (.iconst 3, 1) := by decide +kernel
theorem dX5_payFor_91 : decode cX5_payFor 91 = .ok (.aload_n 0, 1) := by decide +kernel
theorem dX5_payFor_92 : decode cX5_payFor 92 = .ok (.getfield 32, 3) := by decide +kernel
theorem dX5_payFor_95 : decode cX5_payFor 95 = .ok (.getfield 94, 3) := by decide +kernel
theorem dX5_payFor_98 : decode cX5_payFor 98 = .ok (.iload_n 1, 1) := by decide +kernel
theorem dX5_payFor_99 : decode cX5_payFor 99 = .ok (.iaload, 1) := by decide +kernel
theorem dX5_payOf_0 : decode cX5_payOf 0 = .ok (.iconst 0, 1) := by decide +kernel
theorem dX5_payOf_1 : decode cX5_payOf 1 = .ok (.istore_n 3, 1) := by decide +kernel
theorem dX5_payOf_11 : decode cX5_payOf 11 = .ok (.getfield 73, 3) := by decide +kernel
theorem dX5_payOf_14 : decode cX5_payOf 14 = .ok (.if_icmp .ge 66, 3) := by decide +kernel
theorem dX5_payOf_17 : decode cX5_payOf 17 = .ok (.aload_n 0, 1) := by decide +kernel
theorem dX5_payOf_18 : decode cX5_payOf 18 = .ok (.getfield 32, 3) := by decide +kernel
theorem dX5_payOf_2 : decode cX5_payOf 2 = .ok (.iconst 0, 1) := by decide +kernel
theorem dX5_payOf_21 : decode cX5_payOf 21 = .ok (.iload 4, 2) := by decide +kernel
theorem dX5_payOf_23 : decode cX5_payOf 23 = .ok (.iload_n 1, 1) := by decide +kernel
theorem dX5_payOf_24 : decode cX5_payOf 24 = .ok (.invokevirtual 78, 3) := by decide +kernel
theorem dX5_payOf_27 : decode cX5_payOf 27 = .ok (.ifCond .eq 30, 3) := by decide +kernel
theorem dX5_payOf_3 : decode cX5_payOf 3 = .ok (.istore 4, 2) := by decide +kernel
theorem dX5_payOf_30 : decode cX5_payOf 30 = .ok (.iload_n 2, 1) := by decide +kernel
theorem dX5_payOf_31 : decode cX5_payOf 31 = .ok (.iconst (-1), 1) := by decide +kernel
theorem dX5_payOf_32 : decode cX5_payOf 32 = .ok (.if_icmp .eq 21, 3) := by decide +kernel
theorem dX5_payOf_35 : decode cX5_payOf 35 = .ok (.aload_n 0, 1) := by decide +kernel
theorem dX5_payOf_36 : decode cX5_payOf 36 = .ok (.getfield 32, 3) := by decide +kernel
theorem dX5_payOf_39 : decode cX5_payOf 39 = .ok (.getfield 94, 3) := by decide +kernel
theorem dX5_payOf_42 : decode cX5_payOf 42 = .ok (.iload 4, 2) := by decide +kernel
theorem dX5_payOf_44 : decode cX5_payOf 44 = .ok (.iaload, 1) := by decide +kernel
theorem dX5_payOf_45 : decode cX5_payOf 45 = .ok (.sipush 480, 3) := by decide +kernel
theorem dX5_payOf_48 : decode cX5_payOf 48 = .ok (.idiv, 1) := by decide +kernel
theorem dX5_payOf_49 : decode cX5_payOf 49 = .ok (.iload_n 2, 1) := by decide +kernel
theorem dX5_payOf_5 : decode cX5_payOf 5 = .ok (.iload 4, 2) := by decide +kernel
theorem dX5_payOf_50 : decode cX5_payOf 50 = .ok (.if_icmp .ne 7, 3) := by decide +kernel
theorem dX5_payOf_53 : decode cX5_payOf 53 = .ok (.iconst 1, 1) := by decide +kernel
theorem dX5_payOf_54 : decode cX5_payOf 54 = .ok (.goto 4, 3) := by decide +kernel
theorem dX5_payOf_57 : decode cX5_payOf 57 = .ok (.iconst 0, 1) := by decide +kernel
theorem dX5_payOf_58 : decode cX5_payOf 58 = .ok (.istore 5, 2) := by decide +kernel
theorem dX5_payOf_60 : decode cX5_payOf 60 = .ok (.iload 5, 2) := by decide +kernel
theorem dX5_payOf_62 : decode cX5_payOf 62 = .ok (.ifCond .eq 12, 3) := by decide +kernel
theorem dX5_payOf_65 : decode cX5_payOf 65 = .ok (.iload_n 3, 1) := by decide +kernel
theorem dX5_payOf_66 : decode cX5_payOf 66 = .ok (.aload_n 0, 1) := by decide +kernel
theorem dX5_payOf_67 : decode cX5_payOf 67 = .ok (.iload 4, 2) := by decide +kernel
theorem dX5_payOf_69 : decode cX5_payOf 69 = .ok (.invokevirtual 115, 3) := by decide +kernel
theorem dX5_payOf_7 : decode cX5_payOf 7 = .ok (.aload_n 0, 1) := by decide +kernel
theorem dX5_payOf_72 : decode cX5_payOf 72 = .ok (.iadd, 1) := by decide +kernel
theorem dX5_payOf_73 : decode cX5_payOf 73 = .ok (.istore_n 3, 1) := by decide +kernel
theorem dX5_payOf_74 : decode cX5_payOf 74 = .ok (.iinc 4 1, 3) := by decide +kernel
theorem dX5_payOf_77 : decode cX5_payOf 77 = .ok (.goto (-72), 3) := by decide +kernel
theorem dX5_payOf_8 : decode cX5_payOf 8 = .ok (.getfield 24, 3) := by decide +kernel
theorem dX5_payOf_80 : decode cX5_payOf 80 = .ok (.iload_n 3, 1) := by decide +kernel
theorem dX5_payOf_81 : decode cX5_payOf 81 = .ok (.ireturn, 1) := by decide +kernel
theorem dX5_whose_0 : decode cX5_whose 0 = .ok (.aload_n 0, 1) := by decide +kernel
theorem dX5_whose_1 : decode cX5_whose 1 = .ok (.getfield 11, 3) := by decide +kernel
theorem dX5_whose_11 : decode cX5_whose 11 = .ok (.getfield 42, 3) := by decide +kernel
theorem dX5_whose_14 : decode cX5_whose 14 = .ok (.astore_n 3, 1) := by decide +kernel
theorem dX5_whose_15 : decode cX5_whose 15 = .ok (.aload_n 3, 1) := by decide +kernel
theorem dX5_whose_16 : decode cX5_whose 16 = .ok (.iconst 0, 1) := by decide +kernel
theorem dX5_whose_17 : decode cX5_whose 17 = .ok (.aload_n 2, 1) := by decide +kernel
theorem dX5_whose_18 : decode cX5_whose 18 = .ok (.getfield 48, 3) := by decide +kernel
theorem dX5_whose_21 : decode cX5_whose 21 = .ok (.iastore, 1) := by decide +kernel
theorem dX5_whose_22 : decode cX5_whose 22 = .ok (.aload_n 3, 1) := by decide +kernel
theorem dX5_whose_23 : decode cX5_whose 23 = .ok (.iconst 1, 1) := by decide +kernel
theorem dX5_whose_24 : decode cX5_whose 24 = .ok (.aload_n 2, 1) := by decide +kernel
theorem dX5_whose_25 : decode cX5_whose 25 = .ok (.getfield 51, 3) := by decide +kernel
theorem dX5_whose_28 : decode cX5_whose 28 = .ok (.iastore, 1) := by decide +kernel
theorem dX5_whose_29 : decode cX5_whose 29 = .ok (.aload_n 3, 1) := by decide +kernel
theorem dX5_whose_30 : decode cX5_whose 30 = .ok (.iconst 2, 1) := by decide +kernel
theorem dX5_whose_31 : decode cX5_whose 31 = .ok (.aload_n 2, 1) := by decide +kernel
theorem dX5_whose_32 : decode cX5_whose 32 = .ok (.getfield 54, 3) := by decide +kernel
theorem dX5_whose_35 : decode cX5_whose 35 = .ok (.iastore, 1) := by decide +kernel
theorem dX5_whose_36 : decode cX5_whose 36 = .ok (.aload_n 3, 1) := by decide +kernel
theorem dX5_whose_37 : decode cX5_whose 37 = .ok (.iconst 3, 1) := by decide +kernel
theorem dX5_whose_38 : decode cX5_whose 38 = .ok (.aload_n 0, 1) := by decide +kernel
theorem dX5_whose_39 : decode cX5_whose 39 = .ok (.getfield 32, 3) := by decide +kernel
theorem dX5_whose_4 : decode cX5_whose 4 = .ok (.iload_n 1, 1) := by decide +kernel
theorem dX5_whose_42 : decode cX5_whose 42 = .ok (.getfield 57, 3) := by decide +kernel
theorem dX5_whose_45 : decode cX5_whose 45 = .ok (.aload_n 2, 1) := by decide +kernel
theorem dX5_whose_46 : decode cX5_whose 46 = .ok (.getfield 62, 3) := by decide +kernel
theorem dX5_whose_49 : decode cX5_whose 49 = .ok (.iaload, 1) := by decide +kernel
theorem dX5_whose_5 : decode cX5_whose 5 = .ok (.aaload, 1) := by decide +kernel
theorem dX5_whose_50 : decode cX5_whose 50 = .ok (.iastore, 1) := by decide +kernel
theorem dX5_whose_51 : decode cX5_whose 51 = .ok (.aload_n 0, 1) := by decide +kernel
theorem dX5_whose_52 : decode cX5_whose 52 = .ok (.getfield 28, 3) := by decide +kernel
theorem dX5_whose_55 : decode cX5_whose 55 = .ok (.aload_n 0, 1) := by decide +kernel
theorem dX5_whose_56 : decode cX5_whose 56 = .ok (.getfield 28, 3) := by decide +kernel
theorem dX5_whose_59 : decode cX5_whose 59 = .ok (.iconst 2, 1) := by decide +kernel
theorem dX5_whose_6 : decode cX5_whose 6 = .ok (.astore_n 2, 1) := by decide +kernel
theorem dX5_whose_60 : decode cX5_whose 60 = .ok (.aload_n 2, 1) := by decide +kernel
theorem dX5_whose_61 : decode cX5_whose 61 = .ok (.getfield 36, 3) := by decide +kernel
theorem dX5_whose_64 : decode cX5_whose 64 = .ok (.aconst_null, 1) := by decide +kernel
theorem dX5_whose_65 : decode cX5_whose 65 = .ok (.invokevirtual 65, 3) := by decide +kernel
theorem dX5_whose_68 : decode cX5_whose 68 = .ok (.invokevirtual 69, 3) := by decide +kernel
theorem dX5_whose_7 : decode cX5_whose 7 = .ok (.aload_n 0, 1) := by decide +kernel
theorem dX5_whose_71 : decode cX5_whose 71 = .ok (.istore 4, 2) := by decide +kernel
theorem dX5_whose_73 : decode cX5_whose 73 = .ok (.iload 4, 2) := by decide +kernel
theorem dX5_whose_75 : decode cX5_whose 75 = .ok (.iconst 1, 1) := by decide +kernel
theorem dX5_whose_76 : decode cX5_whose 76 = .ok (.if_icmp .eq 9, 3) := by decide +kernel
theorem dX5_whose_79 : decode cX5_whose 79 = .ok (.iload 4, 2) := by decide +kernel
theorem dX5_whose_8 : decode cX5_whose 8 = .ok (.getfield 28, 3) := by decide +kernel
theorem dX5_whose_81 : decode cX5_whose 81 = .ok (.iconst 2, 1) := by decide +kernel
theorem dX5_whose_82 : decode cX5_whose 82 = .ok (.if_icmp .ne 8, 3) := by decide +kernel
theorem dX5_whose_85 : decode cX5_whose 85 = .ok (.iload 4, 2) := by decide +kernel
theorem dX5_whose_87 : decode cX5_whose 87 = .ok (.goto 4, 3) := by decide +kernel
theorem dX5_whose_90 : decode cX5_whose 90 = .ok (.iconst 0, 1) := by decide +kernel
theorem dX5_whose_91 : decode cX5_whose 91 = .ok (.ireturn, 1) := by decide +kernel
theorem dX7_allowAll_0 : decode cX7_allowAll 0 = .ok (.iconst 0, 1) := by decide +kernel
theorem dX7_allowAll_1 : decode cX7_allowAll 1 = .ok (.istore_n 1, 1) := by decide +kernel
theorem dX7_allowAll_12 : decode cX7_allowAll 12 = .ok (.aload_n 0, 1) := by decide +kernel
theorem dX7_allowAll_13 : decode cX7_allowAll 13 = .ok (.getfield 18, 3) := by decide +kernel
theorem dX7_allowAll_16 : decode cX7_allowAll 16 = .ok (.iload_n 2, 1) := by decide +kernel
theorem dX7_allowAll_17 : decode cX7_allowAll 17 = .ok (.iconst 0, 1) := by decide +kernel
theorem dX7_allowAll_18 : decode cX7_allowAll 18 = .ok (.iastore, 1) := by decide +kernel
theorem dX7_allowAll_19 : decode cX7_allowAll 19 = .ok (.iconst 0, 1) := by decide +kernel
theorem dX7_allowAll_2 : decode cX7_allowAll 2 = .ok (.iconst 0, 1) := by decide +kernel
theorem dX7_allowAll_20 : decode cX7_allowAll 20 = .ok (.istore_n 3, 1) := by decide +kernel
theorem dX7_allowAll_21 : decode cX7_allowAll 21 = .ok (.iload_n 3, 1) := by decide +kernel
theorem dX7_allowAll_22 : decode cX7_allowAll 22 = .ok (.aload_n 0, 1) := by decide +kernel
theorem dX7_allowAll_23 : decode cX7_allowAll 23 = .ok (.getfield 42, 3) := by decide +kernel
theorem dX7_allowAll_26 : decode cX7_allowAll 26 = .ok (.if_icmp .ge 44, 3) := by decide +kernel
theorem dX7_allowAll_29 : decode cX7_allowAll 29 = .ok (.aload_n 0, 1) := by decide +kernel
theorem dX7_allowAll_3 : decode cX7_allowAll 3 = .ok (.istore_n 2, 1) := by decide +kernel
theorem dX7_allowAll_30 : decode cX7_allowAll 30 = .ok (.getfield 31, 3) := by decide +kernel
theorem dX7_allowAll_33 : decode cX7_allowAll 33 = .ok (.aload_n 0, 1) := by decide +kernel
theorem dX7_allowAll_34 : decode cX7_allowAll 34 = .ok (.getfield 15, 3) := by decide +kernel
theorem dX7_allowAll_37 : decode cX7_allowAll 37 = .ok (.iload_n 2, 1) := by decide +kernel
theorem dX7_allowAll_38 : decode cX7_allowAll 38 = .ok (.iaload, 1) := by decide +kernel
theorem dX7_allowAll_39 : decode cX7_allowAll 39 = .ok (.aload_n 0, 1) := by decide +kernel
theorem dX7_allowAll_4 : decode cX7_allowAll 4 = .ok (.iload_n 2, 1) := by decide +kernel
theorem dX7_allowAll_40 : decode cX7_allowAll 40 = .ok (.getfield 9, 3) := by decide +kernel
theorem dX7_allowAll_43 : decode cX7_allowAll 43 = .ok (.iload_n 3, 1) := by decide +kernel
theorem dX7_allowAll_44 : decode cX7_allowAll 44 = .ok (.iaload, 1) := by decide +kernel
theorem dX7_allowAll_45 : decode cX7_allowAll 45 = .ok (.aconst_null, 1) := by decide +kernel
theorem dX7_allowAll_46 : decode cX7_allowAll 46 = .ok (.invokevirtual 84, 3) := by decide +kernel
theorem dX7_allowAll_49 : decode cX7_allowAll 49 = .ok (.ifCond .eq 15, 3) := by decide +kernel
theorem dX7_allowAll_5 : decode cX7_allowAll 5 = .ok (.aload_n 0, 1) := by decide +kernel
theorem dX7_allowAll_52 : decode cX7_allowAll 52 = .ok (.aload_n 0, 1) := by decide +kernel
theorem dX7_allowAll_53 : decode cX7_allowAll 53 = .ok (.getfield 18, 3) := by decide +kernel
theorem dX7_allowAll_56 : decode cX7_allowAll 56 = .ok (.iload_n 2, 1) := by decide +kernel
theorem dX7_allowAll_57 : decode cX7_allowAll 57 = .ok (.dup2, 1) := by decide +kernel
theorem dX7_allowAll_58 : decode cX7_allowAll 58 = .ok (.iaload, 1) := by decide +kernel
theorem dX7_allowAll_59 : decode cX7_allowAll 59 = .ok (.iconst 1, 1) := by decide +kernel
theorem dX7_allowAll_6 : decode cX7_allowAll 6 = .ok (.getfield 78, 3) := by decide +kernel
theorem dX7_allowAll_60 : decode cX7_allowAll 60 = .ok (.iload_n 3, 1) := by decide +kernel
theorem dX7_allowAll_61 : decode cX7_allowAll 61 = .ok (.ishl, 1) := by decide +kernel
theorem dX7_allowAll_62 : decode cX7_allowAll 62 = .ok (.ior, 1) := by decide +kernel
theorem dX7_allowAll_63 : decode cX7_allowAll 63 = .ok (.iastore, 1) := by decide +kernel
theorem dX7_allowAll_64 : decode cX7_allowAll 64 = .ok (.iinc 3 1, 3) := by decide +kernel
theorem dX7_allowAll_67 : decode cX7_allowAll 67 = .ok (.goto (-46), 3) := by decide +kernel
theorem dX7_allowAll_70 : decode cX7_allowAll 70 = .ok (.iload_n 1, 1) := by decide +kernel
theorem dX7_allowAll_71 : decode cX7_allowAll 71 = .ok (.aload_n 0, 1) := by decide +kernel
theorem dX7_allowAll_72 : decode cX7_allowAll 72 = .ok (.getfield 18, 3) := by decide +kernel
theorem dX7_allowAll_75 : decode cX7_allowAll 75 = .ok (.iload_n 2, 1) := by decide +kernel
theorem dX7_allowAll_76 : decode cX7_allowAll 76 = .ok (.iaload, 1) := by decide +kernel
theorem dX7_allowAll_77 : decode cX7_allowAll 77 = .ok (.ior, 1) := by decide +kernel
theorem dX7_allowAll_78 : decode cX7_allowAll 78 = .ok (.istore_n 1, 1) := by decide +kernel
theorem dX7_allowAll_79 : decode cX7_allowAll 79 = .ok (.iinc 2 1, 3) := by decide +kernel
theorem dX7_allowAll_82 : decode cX7_allowAll 82 = .ok (.goto (-78), 3) := by decide +kernel
theorem dX7_allowAll_85 : decode cX7_allowAll 85 = .ok (.iload_n 1, 1) := by decide +kernel
theorem dX7_allowAll_86 : decode cX7_allowAll 86 = .ok (.ireturn, 1) := by decide +kernel
theorem dX7_allowAll_9 : decode cX7_allowAll 9 = .ok (.if_icmp .ge 76, 3) := by decide +kernel
theorem dX7_isBetter_0 : decode cX7_isBetter 0 = .ok (.aload_n 0, 1) := by decide +kernel
theorem dX7_isBetter_1 : decode cX7_isBetter 1 = .ok (.getfield 50, 3) := by decide +kernel
theorem dX7_isBetter_12 : decode cX7_isBetter 12 = .ok (.if_icmp .lt 19, 3) := by decide +kernel
theorem dX7_isBetter_15 : decode cX7_isBetter 15 = .ok (.iload_n 1, 1) := by decide +kernel
theorem dX7_isBetter_16 : decode cX7_isBetter 16 = .ok (.aload_n 0, 1) := by decide +kernel
theorem dX7_isBetter_17 : decode cX7_isBetter 17 = .ok (.getfield 57, 3) := by decide +kernel
theorem dX7_isBetter_20 : decode cX7_isBetter 20 = .ok (.if_icmp .ne 15, 3) := by decide +kernel
theorem dX7_isBetter_23 : decode cX7_isBetter 23 = .ok (.iload_n 2, 1) := by decide +kernel
theorem dX7_isBetter_24 : decode cX7_isBetter 24 = .ok (.aload_n 0, 1) := by decide +kernel
theorem dX7_isBetter_25 : decode cX7_isBetter 25 = .ok (.getfield 60, 3) := by decide +kernel
theorem dX7_isBetter_28 : decode cX7_isBetter 28 = .ok (.if_icmp .ge 7, 3) := by decide +kernel
theorem dX7_isBetter_31 : decode cX7_isBetter 31 = .ok (.iconst 1, 1) := by decide +kernel
theorem dX7_isBetter_32 : decode cX7_isBetter 32 = .ok (.goto 4, 3) := by decide +kernel
theorem dX7_isBetter_35 : decode cX7_isBetter 35 = .ok (.iconst 0, 1) := by decide +kernel
theorem dX7_isBetter_36 : decode cX7_isBetter 36 = .ok (.ireturn, 1) := by decide +kernel
theorem dX7_isBetter_4 : decode cX7_isBetter 4 = .ok (.ifCond .eq 27, 3) := by decide +kernel
theorem dX7_isBetter_7 : decode cX7_isBetter 7 = .ok (.iload_n 1, 1) := by decide +kernel
theorem dX7_isBetter_8 : decode cX7_isBetter 8 = .ok (.aload_n 0, 1) := by decide +kernel
theorem dX7_isBetter_9 : decode cX7_isBetter 9 = .ok (.getfield 57, 3) := by decide +kernel
theorem dX7_listHands_0 : decode cX7_listHands 0 = .ok (.aload_n 0, 1) := by decide +kernel
theorem dX7_listHands_1 : decode cX7_listHands 1 = .ok (.iconst 0, 1) := by decide +kernel
theorem dX7_listHands_10 : decode cX7_listHands 10 = .ok (.if_icmp .ge 59, 3) := by decide +kernel
theorem dX7_listHands_13 : decode cX7_listHands 13 = .ok (.iload_n 1, 1) := by decide +kernel
theorem dX7_listHands_14 : decode cX7_listHands 14 = .ok (.iload_n 2, 1) := by decide +kernel
theorem dX7_listHands_15 : decode cX7_listHands 15 = .ok (.iushr, 1) := by decide +kernel
theorem dX7_listHands_16 : decode cX7_listHands 16 = .ok (.iconst 1, 1) := by decide +kernel
theorem dX7_listHands_17 : decode cX7_listHands 17 = .ok (.iand, 1) := by decide +kernel
theorem dX7_listHands_18 : decode cX7_listHands 18 = .ok (.iconst 1, 1) := by decide +kernel
theorem dX7_listHands_19 : decode cX7_listHands 19 = .ok (.if_icmp .ne 44, 3) := by decide +kernel
theorem dX7_listHands_2 : decode cX7_listHands 2 = .ok (.putfield 78, 3) := by decide +kernel
theorem dX7_listHands_22 : decode cX7_listHands 22 = .ok (.aload_n 0, 1) := by decide +kernel
theorem dX7_listHands_23 : decode cX7_listHands 23 = .ok (.getfield 27, 3) := by decide +kernel
theorem dX7_listHands_26 : decode cX7_listHands 26 = .ok (.iload_n 2, 1) := by decide +kernel
theorem dX7_listHands_27 : decode cX7_listHands 27 = .ok (.invokevirtual 81, 3) := by decide +kernel
theorem dX7_listHands_30 : decode cX7_listHands 30 = .ok (.ifCond .eq 11, 3) := by decide +kernel
theorem dX7_listHands_33 : decode cX7_listHands 33 = .ok (.aload_n 0, 1) := by decide +kernel
theorem dX7_listHands_34 : decode cX7_listHands 34 = .ok (.getfield 78, 3) := by decide +kernel
theorem dX7_listHands_37 : decode cX7_listHands 37 = .ok (.iconst 3, 1) := by decide +kernel
theorem dX7_listHands_38 : decode cX7_listHands 38 = .ok (.if_icmp .lt 5, 3) := by decide +kernel
theorem dX7_listHands_41 : decode cX7_listHands 41 = .ok (.iconst 0, 1) := by decide +kernel
theorem dX7_listHands_42 : decode cX7_listHands 42 = .ok (.ireturn, 1) := by decide +kernel
theorem dX7_listHands_43 : decode cX7_listHands 43 = .ok (.aload_n 0, 1) := by decide +kernel
theorem dX7_listHands_44 : decode cX7_listHands 44 = .ok (.getfield 15, 3) := by decide +kernel
theorem dX7_listHands_47 : decode cX7_listHands 47 = .ok (.aload_n 0, 1) := by decide +kernel
theorem dX7_listHands_48 : decode cX7_listHands 48 = .ok (.getfield 78, 3) := by decide +kernel
theorem dX7_listHands_5 : decode cX7_listHands 5 = .ok (.iconst 0, 1) := by decide +kernel
theorem dX7_listHands_51 : decode cX7_listHands 51 = .ok (.iload_n 2, 1) := by decide +kernel
theorem dX7_listHands_52 : decode cX7_listHands 52 = .ok (.iastore, 1) := by decide +kernel
theorem dX7_listHands_53 : decode cX7_listHands 53 = .ok (.aload_n 0, 1) := by decide +kernel
theorem dX7_listHands_54 : decode cX7_listHands 54 = .ok (.dup, 1) := by decide +kernel
theorem dX7_listHands_55 : decode cX7_listHands 55 = .ok (.getfield 78, 3) := by decide +kernel
theorem dX7_listHands_58 : decode cX7_listHands 58 = .ok (.iconst 1, 1) := by decide +kernel
theorem dX7_listHands_59 : decode cX7_listHands 59 = .ok (.iadd, 1) := by decide +kernel
theorem dX7_listHands_6 : decode cX7_listHands 6 = .ok (.istore_n 2, 1) := by decide +kernel
theorem dX7_listHands_60 : decode cX7_listHands 60 = .ok (.putfield 78, 3) := by decide +kernel
theorem dX7_listHands_63 : decode cX7_listHands 63 = .ok (.iinc 2 1, 3) := by decide +kernel
theorem dX7_listHands_66 : decode cX7_listHands 66 = .ok (.goto (-59), 3) := by decide +kernel
theorem dX7_listHands_69 : decode cX7_listHands 69 = .ok (.aload_n 0, 1) := by decide +kernel
theorem dX7_listHands_7 : decode cX7_listHands 7 = .ok (.iload_n 2, 1) := by decide +kernel
theorem dX7_listHands_70 : decode cX7_listHands 70 = .ok (.getfield 78, 3) := by decide +kernel
theorem dX7_listHands_73 : decode cX7_listHands 73 = .ok (.ifCond .le 7, 3) := by decide +kernel
theorem dX7_listHands_76 : decode cX7_listHands 76 = .ok (.iconst 1, 1) := by decide +kernel
theorem dX7_listHands_77 : decode cX7_listHands 77 = .ok (.goto 4, 3) := by decide +kernel
theorem dX7_listHands_8 : decode cX7_listHands 8 = .ok (.bipush 32, 2) := by decide +kernel
theorem dX7_listHands_80 : decode cX7_listHands 80 = .ok (.iconst 0, 1) := by decide +kernel
theorem dX7_listHands_81 : decode cX7_listHands 81 = .ok (.ireturn, 1) := by decide +kernel
theorem dX7_listPieces_0 : decode cX7_listPieces 0 = .ok (.aload_n 0, 1) := by decide +kernel
theorem dX7_listPieces_1 : decode cX7_listPieces 1 = .ok (.iconst 0, 1) := by decide +kernel
theorem dX7_listPieces_10 : decode cX7_listPieces 10 = .ok (.if_icmp .ge 81, 3) := by decide +kernel
theorem dX7_listPieces_102 : decode cX7_listPieces 102 = .ok (.iconst 0, 1) := by decide +kernel
theorem dX7_listPieces_103 : decode cX7_listPieces 103 = .ok (.ireturn, 1) := by decide +kernel
theorem dX7_listPieces_13 : decode cX7_listPieces 13 = .ok (.iload_n 1, 1) := by decide +kernel
theorem dX7_listPieces_14 : decode cX7_listPieces 14 = .ok (.iload_n 2, 1) := by decide +kernel
theorem dX7_listPieces_15 : decode cX7_listPieces 15 = .ok (.iushr, 1) := by decide +kernel
theorem dX7_listPieces_16 : decode cX7_listPieces 16 = .ok (.iconst 1, 1) := by decide +kernel
theorem dX7_listPieces_17 : decode cX7_listPieces 17 = .ok (.iand, 1) := by decide +kernel
theorem dX7_listPieces_18 : decode cX7_listPieces 18 = .ok (.iconst 1, 1) := by decide +kernel
theorem dX7_listPieces_19 : decode cX7_listPieces 19 = .ok (.if_icmp .ne 66, 3) := by decide +kernel
theorem dX7_listPieces_2 : decode cX7_listPieces 2 = .ok (.putfield 42, 3) := by decide +kernel
theorem dX7_listPieces_22 : decode cX7_listPieces 22 = .ok (.aload_n 0, 1) := by decide +kernel
theorem dX7_listPieces_23 : decode cX7_listPieces 23 = .ok (.getfield 27, 3) := by decide +kernel
theorem dX7_listPieces_26 : decode cX7_listPieces 26 = .ok (.iload_n 2, 1) := by decide +kernel
theorem dX7_listPieces_27 : decode cX7_listPieces 27 = .ok (.invokevirtual 67, 3) := by decide +kernel
theorem dX7_listPieces_30 : decode cX7_listPieces 30 = .ok (.ifCond .eq 27, 3) := by decide +kernel
theorem dX7_listPieces_33 : decode cX7_listPieces 33 = .ok (.aload_n 0, 1) := by decide +kernel
theorem dX7_listPieces_34 : decode cX7_listPieces 34 = .ok (.getfield 31, 3) := by decide +kernel
theorem dX7_listPieces_37 : decode cX7_listPieces 37 = .ok (.iload_n 2, 1) := by decide +kernel
theorem dX7_listPieces_38 : decode cX7_listPieces 38 = .ok (.invokevirtual 72, 3) := by decide +kernel
theorem dX7_listPieces_41 : decode cX7_listPieces 41 = .ok (.iconst 1, 1) := by decide +kernel
theorem dX7_listPieces_42 : decode cX7_listPieces 42 = .ok (.if_icmp .ne 15, 3) := by decide +kernel
theorem dX7_listPieces_45 : decode cX7_listPieces 45 = .ok (.aload_n 0, 1) := by decide +kernel
theorem dX7_listPieces_46 : decode cX7_listPieces 46 = .ok (.getfield 42, 3) := by decide +kernel
theorem dX7_listPieces_49 : decode cX7_listPieces 49 = .ok (.iconst 5, 1) := by decide +kernel
theorem dX7_listPieces_5 : decode cX7_listPieces 5 = .ok (.iconst 0, 1) := by decide +kernel
theorem dX7_listPieces_50 : decode cX7_listPieces 50 = .ok (.if_icmp .ge 7, 3) := by decide +kernel
theorem dX7_listPieces_53 : decode cX7_listPieces 53 = .ok (.iconst 1, 1) := by decide +kernel
theorem dX7_listPieces_54 : decode cX7_listPieces 54 = .ok (.goto 4, 3) := by decide +kernel
theorem dX7_listPieces_57 : decode cX7_listPieces 57 = .ok (.iconst 0, 1) := by decide +kernel
theorem dX7_listPieces_58 : decode cX7_listPieces 58 = .ok (.istore_n 3, 1) := by decide +kernel
theorem dX7_listPieces_59 : decode cX7_listPieces 59 = .ok (.iload_n 3, 1) := by decide +kernel
theorem dX7_listPieces_6 : decode cX7_listPieces 6 = .ok (.istore_n 2, 1) := by decide +kernel
theorem dX7_listPieces_60 : decode cX7_listPieces 60 = .ok (.ifCond .ne 5, 3) := by decide +kernel
theorem dX7_listPieces_63 : decode cX7_listPieces 63 = .ok (.iconst 0, 1) := by decide +kernel
theorem dX7_listPieces_64 : decode cX7_listPieces 64 = .ok (.ireturn, 1) := by decide +kernel
theorem dX7_listPieces_65 : decode cX7_listPieces 65 = .ok (.aload_n 0, 1) := by decide +kernel
theorem dX7_listPieces_66 : decode cX7_listPieces 66 = .ok (.getfield 9, 3) := by decide +kernel
theorem dX7_listPieces_69 : decode cX7_listPieces 69 = .ok (.aload_n 0, 1) := by decide +kernel
theorem dX7_listPieces_7 : decode cX7_listPieces 7 = .ok (.iload_n 2, 1) := by decide +kernel
theorem dX7_listPieces_70 : decode cX7_listPieces 70 = .ok (.getfield 42, 3) := by decide +kernel
theorem dX7_listPieces_73 : decode cX7_listPieces 73 = .ok (.iload_n 2, 1) := by decide +kernel
theorem dX7_listPieces_74 : decode cX7_listPieces 74 = .ok (.iastore, 1) := by decide +kernel
theorem dX7_listPieces_75 : decode cX7_listPieces 75 = .ok (.aload_n 0, 1) := by decide +kernel
theorem dX7_listPieces_76 : decode cX7_listPieces 76 = .ok (.dup, 1) := by decide +kernel
theorem dX7_listPieces_77 : decode cX7_listPieces 77 = .ok (.getfield 42, 3) := by decide +kernel
theorem dX7_listPieces_8 : decode cX7_listPieces 8 = .ok (.bipush 32, 2) := by decide +kernel
theorem dX7_listPieces_80 : decode cX7_listPieces 80 = .ok (.iconst 1, 1) := by decide +kernel
theorem dX7_listPieces_81 : decode cX7_listPieces 81 = .ok (.iadd, 1) := by decide +kernel
theorem dX7_listPieces_82 : decode cX7_listPieces 82 = .ok (.putfield 42, 3) := by decide +kernel
theorem dX7_listPieces_85 : decode cX7_listPieces 85 = .ok (.iinc 2 1, 3) := by decide +kernel
theorem dX7_listPieces_88 : decode cX7_listPieces 88 = .ok (.goto (-81), 3) := by decide +kernel
theorem dX7_listPieces_91 : decode cX7_listPieces 91 = .ok (.aload_n 0, 1) := by decide +kernel
theorem dX7_listPieces_92 : decode cX7_listPieces 92 = .ok (.getfield 42, 3) := by decide +kernel
theorem dX7_listPieces_95 : decode cX7_listPieces 95 = .ok (.ifCond .le 7, 3) := by decide +kernel
theorem dX7_listPieces_98 : decode cX7_listPieces 98 = .ok (.iconst 1, 1) := by decide +kernel
theorem dX7_listPieces_99 : decode cX7_listPieces 99 = .ok (.goto 4, 3) := by decide +kernel
theorem dX8_beginsThing_0 : decode cX8_beginsThing 0 = .ok (.aload_n 2, 1) := by decide +kernel
theorem dX8_beginsThing_1 : decode cX8_beginsThing 1 = .ok (.iload_n 1, 1) := by decide +kernel
theorem dX8_beginsThing_10 : decode cX8_beginsThing 10 = .ok (.ifCond .ne 7, 3) := by decide +kernel
theorem dX8_beginsThing_102 : decode cX8_beginsThing 102 = .ok (.iconst 0, 1) := by decide +kernel
theorem dX8_beginsThing_103 : decode cX8_beginsThing 103 = .ok (.ireturn, 1) := by decide +kernel
theorem dX8_beginsThing_104 : decode cX8_beginsThing 104 = .ok (.aload_n 0, 1) := by decide +kernel
theorem dX8_beginsThing_105 : decode cX8_beginsThing 105 = .ok (.iload_n 1, 1) := by decide +kernel
theorem dX8_beginsThing_106 : decode cX8_beginsThing 106 = .ok (.invokevirtual 75, 3) := by decide +kernel
theorem dX8_beginsThing_109 : decode cX8_beginsThing 109 = .ok (.aload_n 0, 1) := by decide +kernel
theorem dX8_beginsThing_110 : decode cX8_beginsThing 110 = .ok (.dup, 1) := by decide +kernel
theorem dX8_beginsThing_111 : decode cX8_beginsThing 111 = .ok (.getfield 26, 3) := by decide +kernel
theorem dX8_beginsThing_114 : decode cX8_beginsThing 114 = .ok (.iconst 1, 1) := by decide +kernel
theorem dX8_beginsThing_115 : decode cX8_beginsThing 115 = .ok (.iadd, 1) := by decide +kernel
theorem dX8_beginsThing_116 : decode cX8_beginsThing 116 = .ok (.putfield 26, 3) := by decide +kernel
theorem dX8_beginsThing_119 : decode cX8_beginsThing 119 = .ok (.aload_n 0, 1) := by decide +kernel
theorem dX8_beginsThing_120 : decode cX8_beginsThing 120 = .ok (.dup, 1) := by decide +kernel
theorem dX8_beginsThing_121 : decode cX8_beginsThing 121 = .ok (.getfield 29, 3) := by decide +kernel
theorem dX8_beginsThing_124 : decode cX8_beginsThing 124 = .ok (.iconst 1, 1) := by decide +kernel
theorem dX8_beginsThing_125 : decode cX8_beginsThing 125 = .ok (.aload_n 0, 1) := by decide +kernel
theorem dX8_beginsThing_126 : decode cX8_beginsThing 126 = .ok (.getfield 26, 3) := by decide +kernel
theorem dX8_beginsThing_129 : decode cX8_beginsThing 129 = .ok (.ishl, 1) := by decide +kernel
theorem dX8_beginsThing_13 : decode cX8_beginsThing 13 = .ok (.iload_n 3, 1) := by decide +kernel
theorem dX8_beginsThing_130 : decode cX8_beginsThing 130 = .ok (.iconst (-1), 1) := by decide +kernel
theorem dX8_beginsThing_131 : decode cX8_beginsThing 131 = .ok (.ixor, 1) := by decide +kernel
theorem dX8_beginsThing_132 : decode cX8_beginsThing 132 = .ok (.iand, 1) := by decide +kernel
theorem dX8_beginsThing_133 : decode cX8_beginsThing 133 = .ok (.putfield 29, 3) := by decide +kernel
theorem dX8_beginsThing_136 : decode cX8_beginsThing 136 = .ok (.iconst 1, 1) := by decide +kernel
theorem dX8_beginsThing_137 : decode cX8_beginsThing 137 = .ok (.ireturn, 1) := by decide +kernel
theorem dX8_beginsThing_14 : decode cX8_beginsThing 14 = .ok (.ifCond .lt 43, 3) := by decide +kernel
theorem dX8_beginsThing_17 : decode cX8_beginsThing 17 = .ok (.aload_n 0, 1) := by decide +kernel
theorem dX8_beginsThing_18 : decode cX8_beginsThing 18 = .ok (.iload_n 3, 1) := by decide +kernel
theorem dX8_beginsThing_19 : decode cX8_beginsThing 19 = .ok (.ifCond .lt 11, 3) := by decide +kernel
theorem dX8_beginsThing_2 : decode cX8_beginsThing 2 = .ok (.invokevirtual 63, 3) := by decide +kernel
theorem dX8_beginsThing_22 : decode cX8_beginsThing 22 = .ok (.sipush 10000, 3) := by decide +kernel
theorem dX8_beginsThing_25 : decode cX8_beginsThing 25 = .ok (.iload_n 3, 1) := by decide +kernel
theorem dX8_beginsThing_26 : decode cX8_beginsThing 26 = .ok (.iadd, 1) := by decide +kernel
theorem dX8_beginsThing_27 : decode cX8_beginsThing 27 = .ok (.goto 7, 3) := by decide +kernel
theorem dX8_beginsThing_30 : decode cX8_beginsThing 30 = .ok (.iload_n 1, 1) := by decide +kernel
theorem dX8_beginsThing_31 : decode cX8_beginsThing 31 = .ok (.bipush 48, 2) := by decide +kernel
theorem dX8_beginsThing_33 : decode cX8_beginsThing 33 = .ok (.isub, 1) := by decide +kernel
theorem dX8_beginsThing_34 : decode cX8_beginsThing 34 = .ok (.invokevirtual 72, 3) := by decide +kernel
theorem dX8_beginsThing_37 : decode cX8_beginsThing 37 = .ok (.aload_n 0, 1) := by decide +kernel
theorem dX8_beginsThing_38 : decode cX8_beginsThing 38 = .ok (.iload_n 3, 1) := by decide +kernel
theorem dX8_beginsThing_39 : decode cX8_beginsThing 39 = .ok (.ifCond .lt 7, 3) := by decide +kernel
theorem dX8_beginsThing_42 : decode cX8_beginsThing 42 = .ok (.iconst 0, 1) := by decide +kernel
theorem dX8_beginsThing_43 : decode cX8_beginsThing 43 = .ok (.goto 4, 3) := by decide +kernel
theorem dX8_beginsThing_46 : decode cX8_beginsThing 46 = .ok (.iconst 1, 1) := by decide +kernel
theorem dX8_beginsThing_47 : decode cX8_beginsThing 47 = .ok (.putfield 32, 3) := by decide +kernel
theorem dX8_beginsThing_5 : decode cX8_beginsThing 5 = .ok (.istore_n 3, 1) := by decide +kernel
theorem dX8_beginsThing_50 : decode cX8_beginsThing 50 = .ok (.aload_n 0, 1) := by decide +kernel
theorem dX8_beginsThing_51 : decode cX8_beginsThing 51 = .ok (.iconst 0, 1) := by decide +kernel
theorem dX8_beginsThing_52 : decode cX8_beginsThing 52 = .ok (.putfield 35, 3) := by decide +kernel
theorem dX8_beginsThing_55 : decode cX8_beginsThing 55 = .ok (.iconst 1, 1) := by decide +kernel
theorem dX8_beginsThing_56 : decode cX8_beginsThing 56 = .ok (.ireturn, 1) := by decide +kernel
theorem dX8_beginsThing_57 : decode cX8_beginsThing 57 = .ok (.iload_n 1, 1) := by decide +kernel
theorem dX8_beginsThing_58 : decode cX8_beginsThing 58 = .ok (.bipush 33, 2) := by decide +kernel
theorem dX8_beginsThing_6 : decode cX8_beginsThing 6 = .ok (.iload_n 1, 1) := by decide +kernel
theorem dX8_beginsThing_60 : decode cX8_beginsThing 60 = .ok (.if_icmp .eq 9, 3) := by decide +kernel
theorem dX8_beginsThing_63 : decode cX8_beginsThing 63 = .ok (.iload_n 1, 1) := by decide +kernel
theorem dX8_beginsThing_64 : decode cX8_beginsThing 64 = .ok (.bipush 45, 2) := by decide +kernel
theorem dX8_beginsThing_66 : decode cX8_beginsThing 66 = .ok (.if_icmp .ne 21, 3) := by decide +kernel
theorem dX8_beginsThing_69 : decode cX8_beginsThing 69 = .ok (.aload_n 0, 1) := by decide +kernel
theorem dX8_beginsThing_7 : decode cX8_beginsThing 7 = .ok (.invokestatic 69, 3) := by decide +kernel
theorem dX8_beginsThing_70 : decode cX8_beginsThing 70 = .ok (.iload_n 1, 1) := by decide +kernel
theorem dX8_beginsThing_71 : decode cX8_beginsThing 71 = .ok (.bipush 45, 2) := by decide +kernel
theorem dX8_beginsThing_73 : decode cX8_beginsThing 73 = .ok (.if_icmp .ne 8, 3) := by decide +kernel
theorem dX8_beginsThing_76 : decode cX8_beginsThing 76 = .ok (.bipush 126, 2) := by decide +kernel
theorem dX8_beginsThing_78 : decode cX8_beginsThing 78 = .ok (.goto 4, 3) := by decide +kernel
theorem dX8_beginsThing_81 : decode cX8_beginsThing 81 = .ok (.iload_n 1, 1) := by decide +kernel
theorem dX8_beginsThing_82 : decode cX8_beginsThing 82 = .ok (.invokevirtual 75, 3) := by decide +kernel
theorem dX8_beginsThing_85 : decode cX8_beginsThing 85 = .ok (.iconst 1, 1) := by decide +kernel
theorem dX8_beginsThing_86 : decode cX8_beginsThing 86 = .ok (.ireturn, 1) := by decide +kernel
theorem dX8_beginsThing_87 : decode cX8_beginsThing 87 = .ok (.iload_n 1, 1) := by decide +kernel
theorem dX8_beginsThing_88 : decode cX8_beginsThing 88 = .ok (.bipush 40, 2) := by decide +kernel
theorem dX8_beginsThing_90 : decode cX8_beginsThing 90 = .ok (.if_icmp .ne 12, 3) := by decide +kernel
theorem dX8_beginsThing_93 : decode cX8_beginsThing 93 = .ok (.aload_n 0, 1) := by decide +kernel
theorem dX8_beginsThing_94 : decode cX8_beginsThing 94 = .ok (.getfield 26, 3) := by decide +kernel
theorem dX8_beginsThing_97 : decode cX8_beginsThing 97 = .ok (.bipush 6, 2) := by decide +kernel
theorem dX8_beginsThing_99 : decode cX8_beginsThing 99 = .ok (.if_icmp .lt 5, 3) := by decide +kernel
theorem dX8_binding_0 : decode cX8_binding 0 = .ok (.iload_n 0, 1) := by decide +kernel
theorem dX8_binding_1 : decode cX8_binding 1 = .ok (.lookupswitch 104 #[(33, 101), (38, 93), (42, 99), (43, 97), (45, 97), (60, 95), (61, 95), (62, 95), (124, 91), (126, 101)], 91) := by decide +kernel
theorem dX8_binding_100 : decode cX8_binding 100 = .ok (.iconst 5, 1) := by decide +kernel
theorem dX8_binding_101 : decode cX8_binding 101 = .ok (.ireturn, 1) := by decide +kernel
theorem dX8_binding_102 : decode cX8_binding 102 = .ok (.bipush 6, 2) := by decide +kernel
theorem dX8_binding_104 : decode cX8_binding 104 = .ok (.ireturn, 1) := by decide +kernel
theorem dX8_binding_105 : decode cX8_binding 105 = .ok (.iconst 0, 1) := by decide +kernel
theorem dX8_binding_106 : decode cX8_binding 106 = .ok (.ireturn, 1) := by decide +kernel
theorem dX8_binding_92 : decode cX8_binding 92 = .ok (.iconst 1, 1) := by decide +kernel
theorem dX8_binding_93 : decode cX8_binding 93 = .ok (.ireturn, 1) := by decide +kernel
theorem dX8_binding_94 : decode cX8_binding 94 = .ok (.iconst 2, 1) := by decide +kernel
theorem dX8_binding_95 : decode cX8_binding 95 = .ok (.ireturn, 1) := by decide +kernel
theorem dX8_binding_96 : decode cX8_binding 96 = .ok (.iconst 3, 1) := by decide +kernel
theorem dX8_binding_97 : decode cX8_binding 97 = .ok (.ireturn, 1) := by decide +kernel
theorem dX8_binding_98 : decode cX8_binding 98 = .ok (.iconst 4, 1) := by decide +kernel
theorem dX8_binding_99 : decode cX8_binding 99 = .ok (.ireturn, 1) := by decide +kernel
theorem dX8_close_0 : decode cX8_close 0 = .ok (.aload_n 0, 1) := by decide +kernel
theorem dX8_close_1 : decode cX8_close 1 = .ok (.getfield 23, 3) := by decide +kernel
theorem dX8_close_11 : decode cX8_close 11 = .ok (.aload_n 0, 1) := by decide +kernel
theorem dX8_close_12 : decode cX8_close 12 = .ok (.getfield 23, 3) := by decide +kernel
theorem dX8_close_15 : decode cX8_close 15 = .ok (.iconst 1, 1) := by decide +kernel
theorem dX8_close_16 : decode cX8_close 16 = .ok (.isub, 1) := by decide +kernel
theorem dX8_close_17 : decode cX8_close 17 = .ok (.caload, 1) := by decide +kernel
theorem dX8_close_18 : decode cX8_close 18 = .ok (.invokestatic 86, 3) := by decide +kernel
theorem dX8_close_21 : decode cX8_close 21 = .ok (.iload_n 1, 1) := by decide +kernel
theorem dX8_close_22 : decode cX8_close 22 = .ok (.if_icmp .lt 33, 3) := by decide +kernel
theorem dX8_close_25 : decode cX8_close 25 = .ok (.aload_n 0, 1) := by decide +kernel
theorem dX8_close_26 : decode cX8_close 26 = .ok (.dup, 1) := by decide +kernel
theorem dX8_close_27 : decode cX8_close 27 = .ok (.getfield 23, 3) := by decide +kernel
theorem dX8_close_30 : decode cX8_close 30 = .ok (.iconst 1, 1) := by decide +kernel
theorem dX8_close_31 : decode cX8_close 31 = .ok (.isub, 1) := by decide +kernel
theorem dX8_close_32 : decode cX8_close 32 = .ok (.putfield 23, 3) := by decide +kernel
theorem dX8_close_35 : decode cX8_close 35 = .ok (.aload_n 0, 1) := by decide +kernel
theorem dX8_close_36 : decode cX8_close 36 = .ok (.sipush 20000, 3) := by decide +kernel
theorem dX8_close_39 : decode cX8_close 39 = .ok (.aload_n 0, 1) := by decide +kernel
theorem dX8_close_4 : decode cX8_close 4 = .ok (.ifCond .le 51, 3) := by decide +kernel
theorem dX8_close_40 : decode cX8_close 40 = .ok (.getfield 15, 3) := by decide +kernel
theorem dX8_close_43 : decode cX8_close 43 = .ok (.aload_n 0, 1) := by decide +kernel
theorem dX8_close_44 : decode cX8_close 44 = .ok (.getfield 23, 3) := by decide +kernel
theorem dX8_close_47 : decode cX8_close 47 = .ok (.caload, 1) := by decide +kernel
theorem dX8_close_48 : decode cX8_close 48 = .ok (.iadd, 1) := by decide +kernel
theorem dX8_close_49 : decode cX8_close 49 = .ok (.invokevirtual 72, 3) := by decide +kernel
theorem dX8_close_52 : decode cX8_close 52 = .ok (.goto (-52), 3) := by decide +kernel
theorem dX8_close_55 : decode cX8_close 55 = .ok (.return_, 1) := by decide +kernel
theorem dX8_close_7 : decode cX8_close 7 = .ok (.aload_n 0, 1) := by decide +kernel
theorem dX8_close_8 : decode cX8_close 8 = .ok (.getfield 15, 3) := by decide +kernel
theorem dX8_closesBracket_0 : decode cX8_closesBracket 0 = .ok (.aload_n 0, 1) := by decide +kernel
theorem dX8_closesBracket_1 : decode cX8_closesBracket 1 = .ok (.getfield 26, 3) := by decide +kernel
theorem dX8_closesBracket_10 : decode cX8_closesBracket 10 = .ok (.iconst 1, 1) := by decide +kernel
theorem dX8_closesBracket_11 : decode cX8_closesBracket 11 = .ok (.invokevirtual 53, 3) := by decide +kernel
theorem dX8_closesBracket_14 : decode cX8_closesBracket 14 = .ok (.aload_n 0, 1) := by decide +kernel
theorem dX8_closesBracket_15 : decode cX8_closesBracket 15 = .ok (.getfield 23, 3) := by decide +kernel
theorem dX8_closesBracket_18 : decode cX8_closesBracket 18 = .ok (.ifCond .le 13, 3) := by decide +kernel
theorem dX8_closesBracket_21 : decode cX8_closesBracket 21 = .ok (.aload_n 0, 1) := by decide +kernel
theorem dX8_closesBracket_22 : decode cX8_closesBracket 22 = .ok (.dup, 1) := by decide +kernel
theorem dX8_closesBracket_23 : decode cX8_closesBracket 23 = .ok (.getfield 23, 3) := by decide +kernel
theorem dX8_closesBracket_26 : decode cX8_closesBracket 26 = .ok (.iconst 1, 1) := by decide +kernel
theorem dX8_closesBracket_27 : decode cX8_closesBracket 27 = .ok (.isub, 1) := by decide +kernel
theorem dX8_closesBracket_28 : decode cX8_closesBracket 28 = .ok (.putfield 23, 3) := by decide +kernel
theorem dX8_closesBracket_31 : decode cX8_closesBracket 31 = .ok (.aload_n 0, 1) := by decide +kernel
theorem dX8_closesBracket_32 : decode cX8_closesBracket 32 = .ok (.dup, 1) := by decide +kernel
theorem dX8_closesBracket_33 : decode cX8_closesBracket 33 = .ok (.getfield 26, 3) := by decide +kernel
theorem dX8_closesBracket_36 : decode cX8_closesBracket 36 = .ok (.iconst 1, 1) := by decide +kernel
theorem dX8_closesBracket_37 : decode cX8_closesBracket 37 = .ok (.isub, 1) := by decide +kernel
theorem dX8_closesBracket_38 : decode cX8_closesBracket 38 = .ok (.putfield 26, 3) := by decide +kernel
theorem dX8_closesBracket_4 : decode cX8_closesBracket 4 = .ok (.ifCond .ne 5, 3) := by decide +kernel
theorem dX8_closesBracket_41 : decode cX8_closesBracket 41 = .ok (.iconst 1, 1) := by decide +kernel
theorem dX8_closesBracket_42 : decode cX8_closesBracket 42 = .ok (.ireturn, 1) := by decide +kernel
theorem dX8_closesBracket_7 : decode cX8_closesBracket 7 = .ok (.iconst 0, 1) := by decide +kernel
theorem dX8_closesBracket_8 : decode cX8_closesBracket 8 = .ok (.ireturn, 1) := by decide +kernel
theorem dX8_closesBracket_9 : decode cX8_closesBracket 9 = .ok (.aload_n 0, 1) := by decide +kernel
theorem dX8_followsThing_0 : decode cX8_followsThing 0 = .ok (.iload_n 1, 1) := by decide +kernel
theorem dX8_followsThing_1 : decode cX8_followsThing 1 = .ok (.invokestatic 69, 3) := by decide +kernel
theorem dX8_followsThing_101 : decode cX8_followsThing 101 = .ok (.ishl, 1) := by decide +kernel
theorem dX8_followsThing_102 : decode cX8_followsThing 102 = .ok (.iconst (-1), 1) := by decide +kernel
theorem dX8_followsThing_103 : decode cX8_followsThing 103 = .ok (.ixor, 1) := by decide +kernel
theorem dX8_followsThing_104 : decode cX8_followsThing 104 = .ok (.iand, 1) := by decide +kernel
theorem dX8_followsThing_105 : decode cX8_followsThing 105 = .ok (.putfield 29, 3) := by decide +kernel
theorem dX8_followsThing_108 : decode cX8_followsThing 108 = .ok (.aload_n 0, 1) := by decide +kernel
theorem dX8_followsThing_109 : decode cX8_followsThing 109 = .ok (.iload_n 2, 1) := by decide +kernel
theorem dX8_followsThing_110 : decode cX8_followsThing 110 = .ok (.invokevirtual 53, 3) := by decide +kernel
theorem dX8_followsThing_113 : decode cX8_followsThing 113 = .ok (.aload_n 0, 1) := by decide +kernel
theorem dX8_followsThing_114 : decode cX8_followsThing 114 = .ok (.iload_n 1, 1) := by decide +kernel
theorem dX8_followsThing_115 : decode cX8_followsThing 115 = .ok (.invokevirtual 75, 3) := by decide +kernel
theorem dX8_followsThing_118 : decode cX8_followsThing 118 = .ok (.aload_n 0, 1) := by decide +kernel
theorem dX8_followsThing_119 : decode cX8_followsThing 119 = .ok (.iconst 1, 1) := by decide +kernel
theorem dX8_followsThing_12 : decode cX8_followsThing 12 = .ok (.ireturn, 1) := by decide +kernel
theorem dX8_followsThing_120 : decode cX8_followsThing 120 = .ok (.putfield 35, 3) := by decide +kernel
theorem dX8_followsThing_123 : decode cX8_followsThing 123 = .ok (.iconst 1, 1) := by decide +kernel
theorem dX8_followsThing_124 : decode cX8_followsThing 124 = .ok (.ireturn, 1) := by decide +kernel
theorem dX8_followsThing_13 : decode cX8_followsThing 13 = .ok (.aload_n 0, 1) := by decide +kernel
theorem dX8_followsThing_14 : decode cX8_followsThing 14 = .ok (.iconst 0, 1) := by decide +kernel
theorem dX8_followsThing_15 : decode cX8_followsThing 15 = .ok (.putfield 32, 3) := by decide +kernel
theorem dX8_followsThing_18 : decode cX8_followsThing 18 = .ok (.iload_n 1, 1) := by decide +kernel
theorem dX8_followsThing_19 : decode cX8_followsThing 19 = .ok (.bipush 41, 2) := by decide +kernel
theorem dX8_followsThing_21 : decode cX8_followsThing 21 = .ok (.if_icmp .ne 8, 3) := by decide +kernel
theorem dX8_followsThing_24 : decode cX8_followsThing 24 = .ok (.aload_n 0, 1) := by decide +kernel
theorem dX8_followsThing_25 : decode cX8_followsThing 25 = .ok (.invokevirtual 82, 3) := by decide +kernel
theorem dX8_followsThing_28 : decode cX8_followsThing 28 = .ok (.ireturn, 1) := by decide +kernel
theorem dX8_followsThing_29 : decode cX8_followsThing 29 = .ok (.iload_n 1, 1) := by decide +kernel
theorem dX8_followsThing_30 : decode cX8_followsThing 30 = .ok (.invokestatic 86, 3) := by decide +kernel
theorem dX8_followsThing_33 : decode cX8_followsThing 33 = .ok (.istore_n 2, 1) := by decide +kernel
theorem dX8_followsThing_34 : decode cX8_followsThing 34 = .ok (.iload_n 2, 1) := by decide +kernel
theorem dX8_followsThing_35 : decode cX8_followsThing 35 = .ok (.ifCond .eq 9, 3) := by decide +kernel
theorem dX8_followsThing_38 : decode cX8_followsThing 38 = .ok (.iload_n 2, 1) := by decide +kernel
theorem dX8_followsThing_39 : decode cX8_followsThing 39 = .ok (.bipush 6, 2) := by decide +kernel
theorem dX8_followsThing_4 : decode cX8_followsThing 4 = .ok (.ifCond .eq 9, 3) := by decide +kernel
theorem dX8_followsThing_41 : decode cX8_followsThing 41 = .ok (.if_icmp .ne 5, 3) := by decide +kernel
theorem dX8_followsThing_44 : decode cX8_followsThing 44 = .ok (.iconst 0, 1) := by decide +kernel
theorem dX8_followsThing_45 : decode cX8_followsThing 45 = .ok (.ireturn, 1) := by decide +kernel
theorem dX8_followsThing_46 : decode cX8_followsThing 46 = .ok (.iload_n 2, 1) := by decide +kernel
theorem dX8_followsThing_47 : decode cX8_followsThing 47 = .ok (.iconst 3, 1) := by decide +kernel
theorem dX8_followsThing_48 : decode cX8_followsThing 48 = .ok (.if_icmp .ne 38, 3) := by decide +kernel
theorem dX8_followsThing_51 : decode cX8_followsThing 51 = .ok (.aload_n 0, 1) := by decide +kernel
theorem dX8_followsThing_52 : decode cX8_followsThing 52 = .ok (.getfield 29, 3) := by decide +kernel
theorem dX8_followsThing_55 : decode cX8_followsThing 55 = .ok (.aload_n 0, 1) := by decide +kernel
theorem dX8_followsThing_56 : decode cX8_followsThing 56 = .ok (.getfield 26, 3) := by decide +kernel
theorem dX8_followsThing_59 : decode cX8_followsThing 59 = .ok (.ishr, 1) := by decide +kernel
theorem dX8_followsThing_60 : decode cX8_followsThing 60 = .ok (.iconst 1, 1) := by decide +kernel
theorem dX8_followsThing_61 : decode cX8_followsThing 61 = .ok (.iand, 1) := by decide +kernel
theorem dX8_followsThing_62 : decode cX8_followsThing 62 = .ok (.iconst 1, 1) := by decide +kernel
theorem dX8_followsThing_63 : decode cX8_followsThing 63 = .ok (.if_icmp .ne 5, 3) := by decide +kernel
theorem dX8_followsThing_66 : decode cX8_followsThing 66 = .ok (.iconst 0, 1) := by decide +kernel
theorem dX8_followsThing_67 : decode cX8_followsThing 67 = .ok (.ireturn, 1) := by decide +kernel
theorem dX8_followsThing_68 : decode cX8_followsThing 68 = .ok (.aload_n 0, 1) := by decide +kernel
theorem dX8_followsThing_69 : decode cX8_followsThing 69 = .ok (.dup, 1) := by decide +kernel
theorem dX8_followsThing_7 : decode cX8_followsThing 7 = .ok (.aload_n 0, 1) := by decide +kernel
theorem dX8_followsThing_70 : decode cX8_followsThing 70 = .ok (.getfield 29, 3) := by decide +kernel
theorem dX8_followsThing_73 : decode cX8_followsThing 73 = .ok (.iconst 1, 1) := by decide +kernel
theorem dX8_followsThing_74 : decode cX8_followsThing 74 = .ok (.aload_n 0, 1) := by decide +kernel
theorem dX8_followsThing_75 : decode cX8_followsThing 75 = .ok (.getfield 26, 3) := by decide +kernel
theorem dX8_followsThing_78 : decode cX8_followsThing 78 = .ok (.ishl, 1) := by decide +kernel
theorem dX8_followsThing_79 : decode cX8_followsThing 79 = .ok (.ior, 1) := by decide +kernel
theorem dX8_followsThing_8 : decode cX8_followsThing 8 = .ok (.iload_n 1, 1) := by decide +kernel
theorem dX8_followsThing_80 : decode cX8_followsThing 80 = .ok (.putfield 29, 3) := by decide +kernel
theorem dX8_followsThing_83 : decode cX8_followsThing 83 = .ok (.goto 25, 3) := by decide +kernel
theorem dX8_followsThing_86 : decode cX8_followsThing 86 = .ok (.iload_n 2, 1) := by decide +kernel
theorem dX8_followsThing_87 : decode cX8_followsThing 87 = .ok (.iconst 3, 1) := by decide +kernel
theorem dX8_followsThing_88 : decode cX8_followsThing 88 = .ok (.if_icmp .ge 20, 3) := by decide +kernel
theorem dX8_followsThing_9 : decode cX8_followsThing 9 = .ok (.invokevirtual 79, 3) := by decide +kernel
theorem dX8_followsThing_91 : decode cX8_followsThing 91 = .ok (.aload_n 0, 1) := by decide +kernel
theorem dX8_followsThing_92 : decode cX8_followsThing 92 = .ok (.dup, 1) := by decide +kernel
theorem dX8_followsThing_93 : decode cX8_followsThing 93 = .ok (.getfield 29, 3) := by decide +kernel
theorem dX8_followsThing_96 : decode cX8_followsThing 96 = .ok (.iconst 1, 1) := by decide +kernel
theorem dX8_followsThing_97 : decode cX8_followsThing 97 = .ok (.aload_n 0, 1) := by decide +kernel
theorem dX8_followsThing_98 : decode cX8_followsThing 98 = .ok (.getfield 26, 3) := by decide +kernel
theorem dX8_goesOnNumber_0 : decode cX8_goesOnNumber 0 = .ok (.aload_n 0, 1) := by decide +kernel
theorem dX8_goesOnNumber_1 : decode cX8_goesOnNumber 1 = .ok (.getfield 32, 3) := by decide +kernel
theorem dX8_goesOnNumber_11 : decode cX8_goesOnNumber 11 = .ok (.iconst 4, 1) := by decide +kernel
theorem dX8_goesOnNumber_12 : decode cX8_goesOnNumber 12 = .ok (.if_icmp .ge 11, 3) := by decide +kernel
theorem dX8_goesOnNumber_15 : decode cX8_goesOnNumber 15 = .ok (.aload_n 0, 1) := by decide +kernel
theorem dX8_goesOnNumber_16 : decode cX8_goesOnNumber 16 = .ok (.getfield 19, 3) := by decide +kernel
theorem dX8_goesOnNumber_19 : decode cX8_goesOnNumber 19 = .ok (.iconst 1, 1) := by decide +kernel
theorem dX8_goesOnNumber_20 : decode cX8_goesOnNumber 20 = .ok (.if_icmp .ge 5, 3) := by decide +kernel
theorem dX8_goesOnNumber_23 : decode cX8_goesOnNumber 23 = .ok (.iconst 0, 1) := by decide +kernel
theorem dX8_goesOnNumber_24 : decode cX8_goesOnNumber 24 = .ok (.ireturn, 1) := by decide +kernel
theorem dX8_goesOnNumber_25 : decode cX8_goesOnNumber 25 = .ok (.aload_n 0, 1) := by decide +kernel
theorem dX8_goesOnNumber_26 : decode cX8_goesOnNumber 26 = .ok (.getfield 11, 3) := by decide +kernel
theorem dX8_goesOnNumber_29 : decode cX8_goesOnNumber 29 = .ok (.aload_n 0, 1) := by decide +kernel
theorem dX8_goesOnNumber_30 : decode cX8_goesOnNumber 30 = .ok (.getfield 19, 3) := by decide +kernel
theorem dX8_goesOnNumber_33 : decode cX8_goesOnNumber 33 = .ok (.iconst 1, 1) := by decide +kernel
theorem dX8_goesOnNumber_34 : decode cX8_goesOnNumber 34 = .ok (.isub, 1) := by decide +kernel
theorem dX8_goesOnNumber_35 : decode cX8_goesOnNumber 35 = .ok (.aload_n 0, 1) := by decide +kernel
theorem dX8_goesOnNumber_36 : decode cX8_goesOnNumber 36 = .ok (.getfield 11, 3) := by decide +kernel
theorem dX8_goesOnNumber_39 : decode cX8_goesOnNumber 39 = .ok (.aload_n 0, 1) := by decide +kernel
theorem dX8_goesOnNumber_4 : decode cX8_goesOnNumber 4 = .ok (.ifCond .eq 19, 3) := by decide +kernel
theorem dX8_goesOnNumber_40 : decode cX8_goesOnNumber 40 = .ok (.getfield 19, 3) := by decide +kernel
theorem dX8_goesOnNumber_43 : decode cX8_goesOnNumber 43 = .ok (.iconst 1, 1) := by decide +kernel
theorem dX8_goesOnNumber_44 : decode cX8_goesOnNumber 44 = .ok (.isub, 1) := by decide +kernel
theorem dX8_goesOnNumber_45 : decode cX8_goesOnNumber 45 = .ok (.iaload, 1) := by decide +kernel
theorem dX8_goesOnNumber_46 : decode cX8_goesOnNumber 46 = .ok (.bipush 10, 2) := by decide +kernel
theorem dX8_goesOnNumber_48 : decode cX8_goesOnNumber 48 = .ok (.imul, 1) := by decide +kernel
theorem dX8_goesOnNumber_49 : decode cX8_goesOnNumber 49 = .ok (.iload_n 1, 1) := by decide +kernel
theorem dX8_goesOnNumber_50 : decode cX8_goesOnNumber 50 = .ok (.bipush 48, 2) := by decide +kernel
theorem dX8_goesOnNumber_52 : decode cX8_goesOnNumber 52 = .ok (.isub, 1) := by decide +kernel
theorem dX8_goesOnNumber_53 : decode cX8_goesOnNumber 53 = .ok (.iadd, 1) := by decide +kernel
theorem dX8_goesOnNumber_54 : decode cX8_goesOnNumber 54 = .ok (.iastore, 1) := by decide +kernel
theorem dX8_goesOnNumber_55 : decode cX8_goesOnNumber 55 = .ok (.aload_n 0, 1) := by decide +kernel
theorem dX8_goesOnNumber_56 : decode cX8_goesOnNumber 56 = .ok (.dup, 1) := by decide +kernel
theorem dX8_goesOnNumber_57 : decode cX8_goesOnNumber 57 = .ok (.getfield 32, 3) := by decide +kernel
theorem dX8_goesOnNumber_60 : decode cX8_goesOnNumber 60 = .ok (.iconst 1, 1) := by decide +kernel
theorem dX8_goesOnNumber_61 : decode cX8_goesOnNumber 61 = .ok (.iadd, 1) := by decide +kernel
theorem dX8_goesOnNumber_62 : decode cX8_goesOnNumber 62 = .ok (.putfield 32, 3) := by decide +kernel
theorem dX8_goesOnNumber_65 : decode cX8_goesOnNumber 65 = .ok (.iconst 1, 1) := by decide +kernel
theorem dX8_goesOnNumber_66 : decode cX8_goesOnNumber 66 = .ok (.ireturn, 1) := by decide +kernel
theorem dX8_goesOnNumber_7 : decode cX8_goesOnNumber 7 = .ok (.aload_n 0, 1) := by decide +kernel
theorem dX8_goesOnNumber_8 : decode cX8_goesOnNumber 8 = .ok (.getfield 32, 3) := by decide +kernel
theorem dX8_isDigit_0 : decode cX8_isDigit 0 = .ok (.iload_n 0, 1) := by decide +kernel
theorem dX8_isDigit_1 : decode cX8_isDigit 1 = .ok (.bipush 48, 2) := by decide +kernel
theorem dX8_isDigit_12 : decode cX8_isDigit 12 = .ok (.iconst 1, 1) := by decide +kernel
theorem dX8_isDigit_13 : decode cX8_isDigit 13 = .ok (.goto 4, 3) := by decide +kernel
theorem dX8_isDigit_16 : decode cX8_isDigit 16 = .ok (.iconst 0, 1) := by decide +kernel
theorem dX8_isDigit_17 : decode cX8_isDigit 17 = .ok (.ireturn, 1) := by decide +kernel
theorem dX8_isDigit_3 : decode cX8_isDigit 3 = .ok (.if_icmp .lt 13, 3) := by decide +kernel
theorem dX8_isDigit_6 : decode cX8_isDigit 6 = .ok (.iload_n 0, 1) := by decide +kernel
theorem dX8_isDigit_7 : decode cX8_isDigit 7 = .ok (.bipush 57, 2) := by decide +kernel
theorem dX8_isDigit_9 : decode cX8_isDigit 9 = .ok (.if_icmp .gt 7, 3) := by decide +kernel
theorem dX8_keepOpen_0 : decode cX8_keepOpen 0 = .ok (.aload_n 0, 1) := by decide +kernel
theorem dX8_keepOpen_1 : decode cX8_keepOpen 1 = .ok (.getfield 23, 3) := by decide +kernel
theorem dX8_keepOpen_12 : decode cX8_keepOpen 12 = .ok (.aload_n 0, 1) := by decide +kernel
theorem dX8_keepOpen_13 : decode cX8_keepOpen 13 = .ok (.getfield 15, 3) := by decide +kernel
theorem dX8_keepOpen_16 : decode cX8_keepOpen 16 = .ok (.aload_n 0, 1) := by decide +kernel
theorem dX8_keepOpen_17 : decode cX8_keepOpen 17 = .ok (.getfield 23, 3) := by decide +kernel
theorem dX8_keepOpen_20 : decode cX8_keepOpen 20 = .ok (.iload_n 1, 1) := by decide +kernel
theorem dX8_keepOpen_21 : decode cX8_keepOpen 21 = .ok (.castore, 1) := by decide +kernel
theorem dX8_keepOpen_22 : decode cX8_keepOpen 22 = .ok (.aload_n 0, 1) := by decide +kernel
theorem dX8_keepOpen_23 : decode cX8_keepOpen 23 = .ok (.dup, 1) := by decide +kernel
theorem dX8_keepOpen_24 : decode cX8_keepOpen 24 = .ok (.getfield 23, 3) := by decide +kernel
theorem dX8_keepOpen_27 : decode cX8_keepOpen 27 = .ok (.iconst 1, 1) := by decide +kernel
theorem dX8_keepOpen_28 : decode cX8_keepOpen 28 = .ok (.iadd, 1) := by decide +kernel
theorem dX8_keepOpen_29 : decode cX8_keepOpen 29 = .ok (.putfield 23, 3) := by decide +kernel
theorem dX8_keepOpen_32 : decode cX8_keepOpen 32 = .ok (.return_, 1) := by decide +kernel
theorem dX8_keepOpen_4 : decode cX8_keepOpen 4 = .ok (.aload_n 0, 1) := by decide +kernel
theorem dX8_keepOpen_5 : decode cX8_keepOpen 5 = .ok (.getfield 15, 3) := by decide +kernel
theorem dX8_keepOpen_8 : decode cX8_keepOpen 8 = .ok (.arraylength, 1) := by decide +kernel
theorem dX8_keepOpen_9 : decode cX8_keepOpen 9 = .ok (.if_icmp .ge 23, 3) := by decide +kernel
theorem dX8_read_0 : decode cX8_read 0 = .ok (.aload_n 0, 1) := by decide +kernel
theorem dX8_read_1 : decode cX8_read 1 = .ok (.iconst 0, 1) := by decide +kernel
theorem dX8_read_10 : decode cX8_read 10 = .ok (.aload_n 0, 1) := by decide +kernel
theorem dX8_read_102 : decode cX8_read 102 = .ok (.bipush 60, 2) := by decide +kernel
theorem dX8_read_104 : decode cX8_read 104 = .ok (.ireturn, 1) := by decide +kernel
theorem dX8_read_105 : decode cX8_read 105 = .ok (.aload_n 0, 1) := by decide +kernel
theorem dX8_read_106 : decode cX8_read 106 = .ok (.getfield 35, 3) := by decide +kernel
theorem dX8_read_109 : decode cX8_read 109 = .ok (.ifCond .ne 10, 3) := by decide +kernel
theorem dX8_read_11 : decode cX8_read 11 = .ok (.iconst 0, 1) := by decide +kernel
theorem dX8_read_112 : decode cX8_read 112 = .ok (.aload_n 0, 1) := by decide +kernel
theorem dX8_read_113 : decode cX8_read 113 = .ok (.getfield 26, 3) := by decide +kernel
theorem dX8_read_116 : decode cX8_read 116 = .ok (.ifCond .le 5, 3) := by decide +kernel
theorem dX8_read_119 : decode cX8_read 119 = .ok (.iload_n 2, 1) := by decide +kernel
theorem dX8_read_12 : decode cX8_read 12 = .ok (.putfield 26, 3) := by decide +kernel
theorem dX8_read_120 : decode cX8_read 120 = .ok (.ireturn, 1) := by decide +kernel
theorem dX8_read_121 : decode cX8_read 121 = .ok (.aload_n 0, 1) := by decide +kernel
theorem dX8_read_122 : decode cX8_read 122 = .ok (.iconst 1, 1) := by decide +kernel
theorem dX8_read_123 : decode cX8_read 123 = .ok (.invokevirtual 53, 3) := by decide +kernel
theorem dX8_read_126 : decode cX8_read 126 = .ok (.iconst (-1), 1) := by decide +kernel
theorem dX8_read_127 : decode cX8_read 127 = .ok (.ireturn, 1) := by decide +kernel
theorem dX8_read_15 : decode cX8_read 15 = .ok (.aload_n 0, 1) := by decide +kernel
theorem dX8_read_16 : decode cX8_read 16 = .ok (.iconst 0, 1) := by decide +kernel
theorem dX8_read_17 : decode cX8_read 17 = .ok (.putfield 29, 3) := by decide +kernel
theorem dX8_read_2 : decode cX8_read 2 = .ok (.putfield 19, 3) := by decide +kernel
theorem dX8_read_20 : decode cX8_read 20 = .ok (.aload_n 0, 1) := by decide +kernel
theorem dX8_read_21 : decode cX8_read 21 = .ok (.iconst 0, 1) := by decide +kernel
theorem dX8_read_22 : decode cX8_read 22 = .ok (.putfield 32, 3) := by decide +kernel
theorem dX8_read_25 : decode cX8_read 25 = .ok (.aload_n 0, 1) := by decide +kernel
theorem dX8_read_26 : decode cX8_read 26 = .ok (.iconst 1, 1) := by decide +kernel
theorem dX8_read_27 : decode cX8_read 27 = .ok (.putfield 35, 3) := by decide +kernel
theorem dX8_read_30 : decode cX8_read 30 = .ok (.iload_n 2, 1) := by decide +kernel
theorem dX8_read_31 : decode cX8_read 31 = .ok (.bipush 60, 2) := by decide +kernel
theorem dX8_read_33 : decode cX8_read 33 = .ok (.invokestatic 39, 3) := by decide +kernel
theorem dX8_read_36 : decode cX8_read 36 = .ok (.aload_n 1, 1) := by decide +kernel
theorem dX8_read_37 : decode cX8_read 37 = .ok (.arraylength, 1) := by decide +kernel
theorem dX8_read_38 : decode cX8_read 38 = .ok (.invokestatic 39, 3) := by decide +kernel
theorem dX8_read_41 : decode cX8_read 41 = .ok (.istore 4, 2) := by decide +kernel
theorem dX8_read_43 : decode cX8_read 43 = .ok (.iconst 0, 1) := by decide +kernel
theorem dX8_read_44 : decode cX8_read 44 = .ok (.istore 5, 2) := by decide +kernel
theorem dX8_read_46 : decode cX8_read 46 = .ok (.iload 5, 2) := by decide +kernel
theorem dX8_read_48 : decode cX8_read 48 = .ok (.iload 4, 2) := by decide +kernel
theorem dX8_read_5 : decode cX8_read 5 = .ok (.aload_n 0, 1) := by decide +kernel
theorem dX8_read_50 : decode cX8_read 50 = .ok (.if_icmp .ge 46, 3) := by decide +kernel
theorem dX8_read_53 : decode cX8_read 53 = .ok (.aload_n 0, 1) := by decide +kernel
theorem dX8_read_54 : decode cX8_read 54 = .ok (.getfield 35, 3) := by decide +kernel
theorem dX8_read_57 : decode cX8_read 57 = .ok (.ifCond .eq 15, 3) := by decide +kernel
theorem dX8_read_6 : decode cX8_read 6 = .ok (.iconst 0, 1) := by decide +kernel
theorem dX8_read_60 : decode cX8_read 60 = .ok (.aload_n 0, 1) := by decide +kernel
theorem dX8_read_61 : decode cX8_read 61 = .ok (.aload_n 1, 1) := by decide +kernel
theorem dX8_read_62 : decode cX8_read 62 = .ok (.iload 5, 2) := by decide +kernel
theorem dX8_read_64 : decode cX8_read 64 = .ok (.caload, 1) := by decide +kernel
theorem dX8_read_65 : decode cX8_read 65 = .ok (.aload_n 3, 1) := by decide +kernel
theorem dX8_read_66 : decode cX8_read 66 = .ok (.invokevirtual 45, 3) := by decide +kernel
theorem dX8_read_69 : decode cX8_read 69 = .ok (.goto 11, 3) := by decide +kernel
theorem dX8_read_7 : decode cX8_read 7 = .ok (.putfield 23, 3) := by decide +kernel
theorem dX8_read_72 : decode cX8_read 72 = .ok (.aload_n 0, 1) := by decide +kernel
theorem dX8_read_73 : decode cX8_read 73 = .ok (.aload_n 1, 1) := by decide +kernel
theorem dX8_read_74 : decode cX8_read 74 = .ok (.iload 5, 2) := by decide +kernel
theorem dX8_read_76 : decode cX8_read 76 = .ok (.caload, 1) := by decide +kernel
theorem dX8_read_77 : decode cX8_read 77 = .ok (.invokevirtual 49, 3) := by decide +kernel
theorem dX8_read_80 : decode cX8_read 80 = .ok (.istore 6, 2) := by decide +kernel
theorem dX8_read_82 : decode cX8_read 82 = .ok (.iload 6, 2) := by decide +kernel
theorem dX8_read_84 : decode cX8_read 84 = .ok (.ifCond .ne 6, 3) := by decide +kernel
theorem dX8_read_87 : decode cX8_read 87 = .ok (.iload 5, 2) := by decide +kernel
theorem dX8_read_89 : decode cX8_read 89 = .ok (.ireturn, 1) := by decide +kernel
theorem dX8_read_90 : decode cX8_read 90 = .ok (.iinc 5 1, 3) := by decide +kernel
theorem dX8_read_93 : decode cX8_read 93 = .ok (.goto (-47), 3) := by decide +kernel
theorem dX8_read_96 : decode cX8_read 96 = .ok (.iload_n 2, 1) := by decide +kernel
theorem dX8_read_97 : decode cX8_read 97 = .ok (.bipush 60, 2) := by decide +kernel
theorem dX8_read_99 : decode cX8_read 99 = .ok (.if_icmp .le 6, 3) := by decide +kernel
theorem dX8_write_0 : decode cX8_write 0 = .ok (.aload_n 0, 1) := by decide +kernel
theorem dX8_write_1 : decode cX8_write 1 = .ok (.getfield 19, 3) := by decide +kernel
theorem dX8_write_12 : decode cX8_write 12 = .ok (.aload_n 0, 1) := by decide +kernel
theorem dX8_write_13 : decode cX8_write 13 = .ok (.getfield 11, 3) := by decide +kernel
theorem dX8_write_16 : decode cX8_write 16 = .ok (.aload_n 0, 1) := by decide +kernel
theorem dX8_write_17 : decode cX8_write 17 = .ok (.getfield 19, 3) := by decide +kernel
theorem dX8_write_20 : decode cX8_write 20 = .ok (.iload_n 1, 1) := by decide +kernel
theorem dX8_write_21 : decode cX8_write 21 = .ok (.iastore, 1) := by decide +kernel
theorem dX8_write_22 : decode cX8_write 22 = .ok (.aload_n 0, 1) := by decide +kernel
theorem dX8_write_23 : decode cX8_write 23 = .ok (.dup, 1) := by decide +kernel
theorem dX8_write_24 : decode cX8_write 24 = .ok (.getfield 19, 3) := by decide +kernel
theorem dX8_write_27 : decode cX8_write 27 = .ok (.iconst 1, 1) := by decide +kernel
theorem dX8_write_28 : decode cX8_write 28 = .ok (.iadd, 1) := by decide +kernel
theorem dX8_write_29 : decode cX8_write 29 = .ok (.putfield 19, 3) := by decide +kernel
theorem dX8_write_32 : decode cX8_write 32 = .ok (.return_, 1) := by decide +kernel
theorem dX8_write_4 : decode cX8_write 4 = .ok (.aload_n 0, 1) := by decide +kernel
theorem dX8_write_5 : decode cX8_write 5 = .ok (.getfield 11, 3) := by decide +kernel
theorem dX8_write_8 : decode cX8_write 8 = .ok (.arraylength, 1) := by decide +kernel
theorem dX8_write_9 : decode cX8_write 9 = .ok (.if_icmp .ge 23, 3) := by decide +kernel
def wo_c_plainMinutesOft : List Cond := [.fieldLink RX3 43 "TypingPool$Floor" "book" "LTypingPool$Book;", .fieldLink RX3 85 "TypingPool$Book" "pieceCount" "I", .methodLink RX3 202 yX3_isDoneBy, .instanceMethod yX3_isDoneBy, .selects RX3 yX3_isDoneBy yX3_isDoneBy, .initialized RX3, .fieldLink RX3 103 "TypingPool$Book" "pieces" "[LTypingPool$Piece;", .methodLink RX3 205 yX6_allWork, .instanceMethod yX6_allWork, .selects RX6 yX6_allWork yX6_allWork, .initialized RX6, .initialized RX11, .static yX11_minutesFor]
def wm_c_plainMinutesOft : List Cond := .code yX3_plainMinutesOf cX3_plainMinutesOf 4 (some .int) :: (wo_c_plainMinutesOft ++ (wsX30 ++ (wsX10 ++ (wm_c_isDoneByt ++ (wm_c_allWork ++ (wm_c_minutesFor ++ ([] : List Cond)))))))
theorem gd_c_plainMinutesOft : ∀ w ∈ wm_c_plainMinutesOft, goodWord w = true := gd_c rfl (gd_a (by decide) (gd_a gd_wsX30 (gd_a gd_wsX10 (gd_a gd_c_isDoneByt (gd_a gd_c_allWork (gd_a gd_c_minutesFor gd_nil))))))
set_option maxRecDepth 20000 in
theorem im_c_plainMinutesOft : ∀ w ∈ wm_c_plainMinutesOft, w ∈ lw_tbl := im_c (in_r [.code yX3_plainMinutesOf cX3_plainMinutesOf 4 (some .int)] [1001] (by decide +kernel)) (in_app (in_r wo_c_plainMinutesOft [426, 134, 997, 967, 968, 83, 130, 1002, 720, 721, 89, 70, 845] (by decide +kernel)) (in_app im_wsX30 (in_app im_wsX10 (in_app im_c_isDoneByt (in_app im_c_allWork (in_app im_c_minutesFor im_nil))))))
set_option maxHeartbeats 4000000 in
set_option maxRecDepth 100000 in
theorem c_plainMinutesOft (l : Launch) (dC : Nat → ClassId) (dI : Nat → Nat → Nat) (ad av : Nat → Nat) (sz : Nat) (a : Nat → Nat) (k : Nat → ClassId) (τ ln : Nat → Nat) (y : Nat → Nat → Int32) (g : Nat → Nat → Option Nat) (u : Nat → Int) (p0 : Int32) (hI : IC a u τ ln y g) : Met l yX3_plainMinutesOf wm_c_plainMinutesOft ({ frames := 1, cells := 0, slots := 0, locals := 60 }) (pw_ ad av (dC, dI) sz [.ref (a 4), .int p0] a k τ ln y g) (va_Qi (fun (r u : Int32) => u = r) (fun (r : Int32) (t : State) => (tw (dC, dI) a k τ ln y g t.heap)) (fr τ sz)) 0 0 (fr τ sz) := by
  refine Met.ofW (cc := cX3_plainMinutesOf) (maxL := 4) (ret := (some .int)) (by decide) rfl ?_
  intro p e s m args below meth c s₁ B hml hv
  obtain ⟨rfl, hsz, hT, hK, hM⟩ := hv
  have hx := B.exec
  have hb := B.bytes
  have hr := B.returns
  have hts := atoms_spec (ws := wm_c_plainMinutesOft) B.pre
  have hown : s.vm.findClass RX3 = some m.cls := findClass_of_methodNamed B.named
  have hlocks := B.notSynchronized
  subst hsz
  generalize hAe : fr τ s.heap.size = A at hM ⊢
  have hA : ∀ q : Nat, s.heap.size ≤ q → A q := fun q h => by rw [← hAe]; exact Or.inr h
  have hF : ∀ q, τ q ≠ 0 → A q := fun q h => by rw [← hAe]; exact Or.inl h
  have hS : va_S A s.heap s.heap [] := va_S.rf
  have hX := hI.1
  have hR := ic_r hI
  have hl := lv_entry ([.ref (a 4), .int p0]) (n := 4) (Nat.le_of_ble_eq_true rfl)
  rw [lg_entry_eq]
  generalize (lg_sl ([.ref (a 4), .int p0]) ++ List.replicate (4 - (lg_sl ([.ref (a 4), .int p0])).length) Slot.unset).toArray = ls at hl ⊢
  have hl : lv_has ls 4 [(0, .ref (a 4)), (1, .int p0)] := hl
  refine lv_iconst (v := 0) hx hb dX3_plainMinutesOf_0 (by decide) ?_
  refine lv_istore_n (lv' := [(2, .int 0), (0, .ref (a 4)), (1, .int p0)]) hx hb dX3_plainMinutesOf_1 rfl hl (by decide) rfl (fun ls hl => ?_)
  refine lv_iconst (v := 0) hx hb dX3_plainMinutesOf_2 (by decide) ?_
  refine lv_istore_n (lv' := [(3, .int 0), (2, .int 0), (0, .ref (a 4)), (1, .int p0)]) hx hb dX3_plainMinutesOf_3 rfl hl (by decide) rfl (fun ls hl => ?_)
  have loop_4 : ∀ (n : Nat) (w2 : Int32) (i3 : Int32) (H : Heap) (locs : List Loc) (ls : Array Slot), (u 2 - i3.toInt).toNat < n → 0 ≤ i3.toInt → i3.toInt ≤ u 2 → tw (dC, dI) a k τ ln y g H → va_S A s.heap H locs → lv_has ls 4 [(0, .ref (a 4)), (1, .int p0), (2, .int w2), (3, .int i3)] → W p l e (headSpec wm_c_plainMinutesOft ({ frames := 1, cells := 0, slots := 0, locals := 60 })).room s m ([.ref (a 4), .int p0] : List Value).toArray below meth c H locs 0 0 (MQ below (va_Qi (fun (r u : Int32) => u = r) (fun (r : Int32) (t : State) => (tw (dC, dI) a k τ ln y g t.heap)) A) ([.ref (a 4), .int p0] : List Value).toArray s 0 0 A) (F0 m 4 ls []) := by
    intro n
    induction n with
    | zero => intro w2 i3 H locs ls hlt; exact absurd hlt (Nat.not_lt_zero _)
    | succ n ih_4 =>
      intro w2 i3 H locs ls hlt hi4_0 hi4_1 hT hS hl
      refine lv_iload_n hx hb dX3_plainMinutesOf_4 rfl (lv_at hl 3 rfl) ?_
      refine lv_aload_n hx hb dX3_plainMinutesOf_5 rfl (lv_at hl 0 rfl) ?_
      refine tw_get (D := (dC, dI)) (v := .ref (a 1)) (C := RX3) (T := TX3) (N := 12) hx hb hts (fun _ hh => (List.mem_cons_of_mem _ (List.mem_append_right _ (List.mem_append_left _ hh)))) hown hK hT (fx_4 hX) (by decide) cl_e14 rfl 0 (by decide) (hts (.fieldLink RX3 43 "TypingPool$Floor" "book" "LTypingPool$Book;") (List.mem_cons_of_mem _ (List.mem_append_left _ (List.mem_of_getElem? (i := 0) rfl)))) (fun _ h9 => h9) rfl dX3_plainMinutesOf_6 ?_
      refine tw_get (D := (dC, dI)) (v := .int (y (a 1) 5)) (C := RX1) (T := TX1) (N := 8) hx hb hts (fun _ hh => (List.mem_cons_of_mem _ (List.mem_append_right _ (List.mem_append_right _ (List.mem_append_left _ hh))))) hown hK hT (fx_1 hX) (by decide) cl_e11 rfl 5 (by decide) (hts (.fieldLink RX3 85 "TypingPool$Book" "pieceCount" "I") (List.mem_cons_of_mem _ (List.mem_append_left _ (List.mem_of_getElem? (i := 1) rfl)))) (fun _ h9 => h9) rfl dX3_plainMinutesOf_9 ?_
      have hc_1 := ic_2 hI
      refine lv_icmp_ge (tgt := 50) hx hb dX3_plainMinutesOf_12 (by decide) (fun c_2 => ?_) (fun c_2 => ?_)
      · have nc_2 := z_le hc_1 rfl c_2
        refine lv_iload_n hx hb dX3_plainMinutesOf_50 rfl (lv_at hl 2 rfl) ?_
        exact W.iret (v := w2) hx hb hr (fun t ht hW9 => ⟨⟨w2, w2, rfl, rfl, (tw_at ht hT)⟩, hS.F ht⟩) hS.2.2 dX3_plainMinutesOf_51
      · have nc_2 := z_nle hc_1 rfl c_2
        refine lv_aload_n hx hb dX3_plainMinutesOf_15 rfl (lv_at hl 0 rfl) ?_
        refine lv_iload_n hx hb dX3_plainMinutesOf_16 rfl (lv_at hl 3 rfl) ?_
        refine lv_iload_n hx hb dX3_plainMinutesOf_17 rfl (lv_at hl 1 rfl) ?_
        have hFc := tw_free hF hS hA
        refine va_calli (va_runV (As := [.int i3, .int p0]) (rest := []) ⟨hx, hb, hml, hown, hts⟩ (c_isDoneByt l dC dI ad av H.size a k τ ln y g u i3 p0 hI (by omega) (by omega)) (cwV 2 hts (gi_4 (List.mem_cons_of_mem _ (List.mem_append_left _ (List.mem_of_getElem? (i := 2) rfl))) (List.mem_cons_of_mem _ (List.mem_append_left _ (List.mem_of_getElem? (i := 3) rfl))) (List.mem_cons_of_mem _ (List.mem_append_left _ (List.mem_of_getElem? (i := 4) rfl))) (List.mem_cons_of_mem _ (List.mem_append_left _ (List.mem_of_getElem? (i := 5) rfl))) (fun _ hh => (List.mem_cons_of_mem _ (List.mem_append_right _ (List.mem_append_right _ (List.mem_append_right _ (List.mem_append_left _ hh)))))) gd_c_isDoneByt) rfl rfl rfl (by decide +kernel) ⟨Nat.le_of_ble_eq_true rfl, Nat.le_of_ble_eq_true rfl⟩) ⟨pw_blind, tw_recv hK hT (fx_4 hX) (by decide) cl_e14 rfl, pw_use hT hK hFc hS hM⟩ rfl rfl hl.1 rfl (lv_room (Nat.le_of_ble_eq_true rfl)) dX3_plainMinutesOf_18 ⟨Nat.le_of_ble_eq_true rfl, Nat.le_of_ble_eq_true rfl⟩) hS (fun q _ h => hFc q h) hFc (fun r0 r_3 t H locs ht hvm hw hB hz1 hk1 hS => ?_)
        refine W.widen (k := 0) (n := 0) (Nat.le_of_ble_eq_true rfl) (Nat.le_of_ble_eq_true rfl) ?_
        clear hvm hz1 hk1
        subst hw
        rcases hB with ⟨hre, hT⟩ | ⟨hre, hT⟩
        · refine lq_top (v := 1) hre ?_
          rw [ht] at hT
          refine lv_if_eq (tgt := 44) hx hb dX3_plainMinutesOf_21 (by decide) (fun c_4 => absurd c_4 (by decide)) (fun c_4 => ?_)
          refine lv_iload_n hx hb dX3_plainMinutesOf_24 rfl (lv_at hl 2 rfl) ?_
          refine lv_aload_n hx hb dX3_plainMinutesOf_25 rfl (lv_at hl 0 rfl) ?_
          refine tw_get (D := (dC, dI)) (v := .ref (a 1)) (C := RX3) (T := TX3) (N := 12) hx hb hts (fun _ hh => (List.mem_cons_of_mem _ (List.mem_append_right _ (List.mem_append_left _ hh)))) hown hK hT (fx_4 hX) (by decide) cl_e14 rfl 0 (by decide) (hts (.fieldLink RX3 43 "TypingPool$Floor" "book" "LTypingPool$Book;") (List.mem_cons_of_mem _ (List.mem_append_left _ (List.mem_of_getElem? (i := 0) rfl)))) (fun _ h9 => h9) rfl dX3_plainMinutesOf_26 ?_
          refine tw_get (D := (dC, dI)) (v := .ref (a 11)) (C := RX1) (T := TX1) (N := 8) hx hb hts (fun _ hh => (List.mem_cons_of_mem _ (List.mem_append_right _ (List.mem_append_right _ (List.mem_append_left _ hh))))) hown hK hT (fx_1 hX) (by decide) cl_e11 rfl 4 (by decide) (hts (.fieldLink RX3 103 "TypingPool$Book" "pieces" "[LTypingPool$Piece;") (List.mem_cons_of_mem _ (List.mem_append_left _ (List.mem_of_getElem? (i := 6) rfl)))) (fun _ h9 => h9) rfl dX3_plainMinutesOf_29 ?_
          refine lv_iload_n hx hb dX3_plainMinutesOf_32 rfl (lv_at hl 3 rfl) ?_
          refine tw_aald hx hb hK hT 4 (fx_11 hX) (by decide) cl_e21 rfl (z_in rfl (by omega) (by omega)) dX3_plainMinutesOf_33 ?_
          obtain ⟨q_5, hgq_5, htq_5⟩ := ic_l11 hI (x := i3) rfl (by omega) (by omega)
          refine lq_topr hgq_5 ?_
          have hFc := tw_free hF hS hA
          refine va_calli (va_runV (As := []) (rest := [.int w2]) ⟨hx, hb, hml, hown, hts⟩ (c_allWork l dC dI ad av H.size a k τ ln y g u q_5 hI htq_5) (cwV 0 hts (gi_4 (List.mem_cons_of_mem _ (List.mem_append_left _ (List.mem_of_getElem? (i := 7) rfl))) (List.mem_cons_of_mem _ (List.mem_append_left _ (List.mem_of_getElem? (i := 8) rfl))) (List.mem_cons_of_mem _ (List.mem_append_left _ (List.mem_of_getElem? (i := 9) rfl))) (List.mem_cons_of_mem _ (List.mem_append_left _ (List.mem_of_getElem? (i := 10) rfl))) (fun _ hh => (List.mem_cons_of_mem _ (List.mem_append_right _ (List.mem_append_right _ (List.mem_append_right _ (List.mem_append_right _ (List.mem_append_left _ hh))))))) gd_c_allWork) rfl rfl rfl (by decide +kernel) ⟨Nat.le_of_ble_eq_true rfl, Nat.le_of_ble_eq_true rfl⟩) ⟨pw_blind, tw_recv hK hT htq_5 (by decide) cl_e2 rfl, pw_use hT hK hFc hS hM⟩ rfl rfl hl.1 rfl (lv_room (Nat.le_of_ble_eq_true rfl)) dX3_plainMinutesOf_34 ⟨Nat.le_of_ble_eq_true rfl, Nat.le_of_ble_eq_true rfl⟩) hS (fun q _ h => hFc q h) hFc (fun r0 r_6 t H locs ht hvm hw hB hz1 hk1 hS => ?_)
          refine W.widen (k := 0) (n := 0) (Nat.le_of_ble_eq_true rfl) (Nat.le_of_ble_eq_true rfl) ?_
          clear hvm hz1 hk1
          subst hw
          have hT := hB
          rw [ht] at hT
          refine lv_bipush (v := 60) hx hb dX3_plainMinutesOf_37 (by decide) ?_
          have hFc := tw_free hF hS hA
          have hp_7 : (60 : Int32).toInt = 60 := (zk (x := 60) 60 rfl)
          refine va_calli (va_runSN (As := [.int r_6, .int 60]) (rest := [.int w2]) ⟨hx, hb, hml, hown, hts⟩ (c_minutesFor l dC dI ad av H.size a k τ ln y g u r_6 (60 : Int32)  ) ⟨va_cnB 2 hts (gi_0  (fun _ hh => (List.mem_cons_of_mem _ (List.mem_append_right _ (List.mem_append_right _ (List.mem_append_right _ (List.mem_append_right _ (List.mem_append_right _ (List.mem_append_left _ hh)))))))) gd_c_minutesFor) rfl rfl rfl hM.1.2.2.1 (hts (.initialized RX11) (List.mem_cons_of_mem _ (List.mem_append_left _ (List.mem_of_getElem? (i := 11) rfl)))) (by decide +kernel) ⟨Nat.le_of_ble_eq_true rfl, Nat.le_of_ble_eq_true rfl⟩, (hts (.static yX11_minutesFor) (List.mem_cons_of_mem _ (List.mem_append_left _ (List.mem_of_getElem? (i := 12) rfl)))), trivial⟩ ⟨pw_blind, pw_use hT hK hFc hS hM⟩ rfl rfl hl.1 rfl (lv_room (Nat.le_of_ble_eq_true rfl)) dX3_plainMinutesOf_39 ⟨Nat.le_of_ble_eq_true rfl, Nat.le_of_ble_eq_true rfl⟩) hS (fun q _ h => hFc q h) hFc (fun r0 r_8 t H locs ht hvm hw hB hz1 hk1 hS => ?_)
          refine W.widen (k := 0) (n := 0) (Nat.le_of_ble_eq_true rfl) (Nat.le_of_ble_eq_true rfl) ?_
          clear hvm hz1 hk1
          subst hw
          have hT := hB
          rw [ht] at hT
          clear hp_7
          refine lv_iadd hx hb dX3_plainMinutesOf_42 ?_
          refine lv_topi (fun x_9 ex_9 => ?_)
          refine lv_istore_n (lv' := [(2, .int x_9), (0, .ref (a 4)), (1, .int p0), (3, .int i3)]) hx hb dX3_plainMinutesOf_43 rfl hl (by decide) rfl (fun ls hl => ?_)
          obtain ⟨x_10, ex_10⟩ : ∃ y : Int32, y = i3 + Int32.ofInt 1 := ⟨_, rfl⟩
          have hx_10 := z_add ex_10 rfl (zk (x := Int32.ofInt 1) 1 rfl) (by omega) (by omega)
          refine lv_iinc (v := x_10) (lv' := [(3, .int x_10), (2, .int x_9), (0, .ref (a 4)), (1, .int p0)]) hx hb dX3_plainMinutesOf_44 hl (k := 3) rfl ex_10.symm (by decide) rfl (fun ls hl => ?_)
          refine lv_goto (tgt := 4) hx hb dX3_plainMinutesOf_47 (by decide) ?_
          exact ih_4  x_9 x_10 H _ ls (by omega) (by omega) (by omega) hT hS (lv_sub hl [2, 3, 1, 0] rfl)
        · refine lq_top (v := 0) hre ?_
          rw [ht] at hT
          refine lv_if_eq (tgt := 44) hx hb dX3_plainMinutesOf_21 (by decide) (fun c_11 => ?_) (fun c_11 => absurd c_11 (by decide))
          obtain ⟨x_12, ex_12⟩ : ∃ y : Int32, y = i3 + Int32.ofInt 1 := ⟨_, rfl⟩
          have hx_12 := z_add ex_12 rfl (zk (x := Int32.ofInt 1) 1 rfl) (by omega) (by omega)
          refine lv_iinc (v := x_12) (lv' := [(3, .int x_12), (0, .ref (a 4)), (1, .int p0), (2, .int w2)]) hx hb dX3_plainMinutesOf_44 hl (k := 3) rfl ex_12.symm (by decide) rfl (fun ls hl => ?_)
          refine lv_goto (tgt := 4) hx hb dX3_plainMinutesOf_47 (by decide) ?_
          exact ih_4  w2 x_12 H _ ls (by omega) (by omega) (by omega) hT hS (lv_sub hl [1, 2, 3, 0] rfl)
  have hp_13 : (0 : Int32).toInt = 0 := (zk (x := 0) 0 rfl)
  have hp_14 : (0 : Int32).toInt = 0 := (zk (x := 0) 0 rfl)
  exact loop_4 _ (0 : Int32) (0 : Int32) s.heap _ ls (Nat.lt_succ_self _) (by omega) (by omega) hT hS (lv_sub hl [2, 3, 1, 0] rfl)
def wo_c_waitedInt : List Cond := [.fieldLink RX3 43 "TypingPool$Floor" "book" "LTypingPool$Book;", .fieldLink RX3 85 "TypingPool$Book" "pieceCount" "I", .fieldLink RX3 103 "TypingPool$Book" "pieces" "[LTypingPool$Piece;", .fieldLink RX3 166 "TypingPool$Piece" "department" "I", .fieldLink RX3 31 "TypingPool$Floor" "taken" "[I", .fieldLink RX3 184 "TypingPool$Piece" "comes" "I"]
def wm_c_waitedInt : List Cond := .code yX3_waitedIn cX3_waitedIn 4 (some .int) :: (wo_c_waitedInt ++ (wsX30 ++ (wsX10 ++ (wsX60 ++ ([] : List Cond)))))
theorem gd_c_waitedInt : ∀ w ∈ wm_c_waitedInt, goodWord w = true := gd_c rfl (gd_a (by decide) (gd_a gd_wsX30 (gd_a gd_wsX10 (gd_a gd_wsX60 gd_nil))))
set_option maxRecDepth 20000 in
theorem im_c_waitedInt : ∀ w ∈ wm_c_waitedInt, w ∈ lw_tbl := im_c (in_r [.code yX3_waitedIn cX3_waitedIn 4 (some .int)] [1010] (by decide +kernel)) (in_app (in_r wo_c_waitedInt [426, 134, 130, 667, 444, 681] (by decide +kernel)) (in_app im_wsX30 (in_app im_wsX10 (in_app im_wsX60 im_nil))))
set_option maxHeartbeats 4000000 in
set_option maxRecDepth 100000 in
theorem c_waitedInt (l : Launch) (dC : Nat → ClassId) (dI : Nat → Nat → Nat) (ad av : Nat → Nat) (sz : Nat) (a : Nat → Nat) (k : Nat → ClassId) (τ ln : Nat → Nat) (y : Nat → Nat → Int32) (g : Nat → Nat → Option Nat) (u : Nat → Int) (p0 : Int32) (hI : IC a u τ ln y g) : Met l yX3_waitedIn wm_c_waitedInt ({ frames := 0, cells := 0, slots := 0, locals := 0 }) (pw_ ad av (dC, dI) sz [.ref (a 4), .int p0] a k τ ln y g) (va_Qi (fun (r u : Int32) => u = r) (fun (r : Int32) (t : State) => (tw (dC, dI) a k τ ln y g t.heap)) (fr τ sz)) 0 0 (fr τ sz) := by
  refine Met.ofW (cc := cX3_waitedIn) (maxL := 4) (ret := (some .int)) (by decide) rfl ?_
  intro p e s m args below meth c s₁ B hml hv
  obtain ⟨rfl, hsz, hT, hK, hM⟩ := hv
  have hx := B.exec
  have hb := B.bytes
  have hr := B.returns
  have hts := atoms_spec (ws := wm_c_waitedInt) B.pre
  have hown : s.vm.findClass RX3 = some m.cls := findClass_of_methodNamed B.named
  have hlocks := B.notSynchronized
  subst hsz
  generalize hAe : fr τ s.heap.size = A at hM ⊢
  have hA : ∀ q : Nat, s.heap.size ≤ q → A q := fun q h => by rw [← hAe]; exact Or.inr h
  have hF : ∀ q, τ q ≠ 0 → A q := fun q h => by rw [← hAe]; exact Or.inl h
  have hS : va_S A s.heap s.heap [] := va_S.rf
  have hX := hI.1
  have hR := ic_r hI
  have hl := lv_entry ([.ref (a 4), .int p0]) (n := 4) (Nat.le_of_ble_eq_true rfl)
  rw [lg_entry_eq]
  generalize (lg_sl ([.ref (a 4), .int p0]) ++ List.replicate (4 - (lg_sl ([.ref (a 4), .int p0])).length) Slot.unset).toArray = ls at hl ⊢
  have hl : lv_has ls 4 [(0, .ref (a 4)), (1, .int p0)] := hl
  refine lv_iconst (v := 0) hx hb dX3_waitedIn_0 (by decide) ?_
  refine lv_istore_n (lv' := [(2, .int 0), (0, .ref (a 4)), (1, .int p0)]) hx hb dX3_waitedIn_1 rfl hl (by decide) rfl (fun ls hl => ?_)
  refine lv_iconst (v := 0) hx hb dX3_waitedIn_2 (by decide) ?_
  refine lv_istore_n (lv' := [(3, .int 0), (2, .int 0), (0, .ref (a 4)), (1, .int p0)]) hx hb dX3_waitedIn_3 rfl hl (by decide) rfl (fun ls hl => ?_)
  have loop_4 : ∀ (n : Nat) (w2 : Int32) (i3 : Int32) (H : Heap) (locs : List Loc) (ls : Array Slot), (u 2 - i3.toInt).toNat < n → 0 ≤ i3.toInt → i3.toInt ≤ u 2 → tw (dC, dI) a k τ ln y g H → va_S A s.heap H locs → lv_has ls 4 [(0, .ref (a 4)), (1, .int p0), (2, .int w2), (3, .int i3)] → W p l e (headSpec wm_c_waitedInt ({ frames := 0, cells := 0, slots := 0, locals := 0 })).room s m ([.ref (a 4), .int p0] : List Value).toArray below meth c H locs 0 0 (MQ below (va_Qi (fun (r u : Int32) => u = r) (fun (r : Int32) (t : State) => (tw (dC, dI) a k τ ln y g t.heap)) A) ([.ref (a 4), .int p0] : List Value).toArray s 0 0 A) (F0 m 4 ls []) := by
    intro n
    induction n with
    | zero => intro w2 i3 H locs ls hlt; exact absurd hlt (Nat.not_lt_zero _)
    | succ n ih_4 =>
      intro w2 i3 H locs ls hlt hi4_0 hi4_1 hT hS hl
      refine lv_iload_n hx hb dX3_waitedIn_4 rfl (lv_at hl 3 rfl) ?_
      refine lv_aload_n hx hb dX3_waitedIn_5 rfl (lv_at hl 0 rfl) ?_
      refine tw_get (D := (dC, dI)) (v := .ref (a 1)) (C := RX3) (T := TX3) (N := 12) hx hb hts (fun _ hh => (List.mem_cons_of_mem _ (List.mem_append_right _ (List.mem_append_left _ hh)))) hown hK hT (fx_4 hX) (by decide) cl_e14 rfl 0 (by decide) (hts (.fieldLink RX3 43 "TypingPool$Floor" "book" "LTypingPool$Book;") (List.mem_cons_of_mem _ (List.mem_append_left _ (List.mem_of_getElem? (i := 0) rfl)))) (fun _ h9 => h9) rfl dX3_waitedIn_6 ?_
      refine tw_get (D := (dC, dI)) (v := .int (y (a 1) 5)) (C := RX1) (T := TX1) (N := 8) hx hb hts (fun _ hh => (List.mem_cons_of_mem _ (List.mem_append_right _ (List.mem_append_right _ (List.mem_append_left _ hh))))) hown hK hT (fx_1 hX) (by decide) cl_e11 rfl 5 (by decide) (hts (.fieldLink RX3 85 "TypingPool$Book" "pieceCount" "I") (List.mem_cons_of_mem _ (List.mem_append_left _ (List.mem_of_getElem? (i := 1) rfl)))) (fun _ h9 => h9) rfl dX3_waitedIn_9 ?_
      have hc_1 := ic_2 hI
      refine lv_icmp_ge (tgt := 69) hx hb dX3_waitedIn_12 (by decide) (fun c_2 => ?_) (fun c_2 => ?_)
      · have nc_2 := z_le hc_1 rfl c_2
        refine lv_iload_n hx hb dX3_waitedIn_69 rfl (lv_at hl 2 rfl) ?_
        exact W.iret (v := w2) hx hb hr (fun t ht hW9 => ⟨⟨w2, w2, rfl, rfl, (tw_at ht hT)⟩, hS.F ht⟩) hS.2.2 dX3_waitedIn_70
      · have nc_2 := z_nle hc_1 rfl c_2
        refine lv_aload_n hx hb dX3_waitedIn_15 rfl (lv_at hl 0 rfl) ?_
        refine tw_get (D := (dC, dI)) (v := .ref (a 1)) (C := RX3) (T := TX3) (N := 12) hx hb hts (fun _ hh => (List.mem_cons_of_mem _ (List.mem_append_right _ (List.mem_append_left _ hh)))) hown hK hT (fx_4 hX) (by decide) cl_e14 rfl 0 (by decide) (hts (.fieldLink RX3 43 "TypingPool$Floor" "book" "LTypingPool$Book;") (List.mem_cons_of_mem _ (List.mem_append_left _ (List.mem_of_getElem? (i := 0) rfl)))) (fun _ h9 => h9) rfl dX3_waitedIn_16 ?_
        refine tw_get (D := (dC, dI)) (v := .ref (a 11)) (C := RX1) (T := TX1) (N := 8) hx hb hts (fun _ hh => (List.mem_cons_of_mem _ (List.mem_append_right _ (List.mem_append_right _ (List.mem_append_left _ hh))))) hown hK hT (fx_1 hX) (by decide) cl_e11 rfl 4 (by decide) (hts (.fieldLink RX3 103 "TypingPool$Book" "pieces" "[LTypingPool$Piece;") (List.mem_cons_of_mem _ (List.mem_append_left _ (List.mem_of_getElem? (i := 2) rfl)))) (fun _ h9 => h9) rfl dX3_waitedIn_19 ?_
        refine lv_iload_n hx hb dX3_waitedIn_22 rfl (lv_at hl 3 rfl) ?_
        refine tw_aald hx hb hK hT 4 (fx_11 hX) (by decide) cl_e21 rfl (z_in rfl (by omega) (by omega)) dX3_waitedIn_23 ?_
        obtain ⟨q_3, hgq_3, htq_3⟩ := ic_l11 hI (x := i3) rfl (by omega) (by omega)
        refine lq_topr hgq_3 ?_
        refine tw_get (D := (dC, dI)) (v := .int (y q_3 0)) (C := RX6) (T := TX6) (N := 11) hx hb hts (fun _ hh => (List.mem_cons_of_mem _ (List.mem_append_right _ (List.mem_append_right _ (List.mem_append_right _ (List.mem_append_left _ hh)))))) hown hK hT htq_3 (by decide) cl_e2 rfl 0 (by decide) (hts (.fieldLink RX3 166 "TypingPool$Piece" "department" "I") (List.mem_cons_of_mem _ (List.mem_append_left _ (List.mem_of_getElem? (i := 3) rfl)))) (fun _ h9 => h9) rfl dX3_waitedIn_24 ?_
        refine lv_iload_n hx hb dX3_waitedIn_27 rfl (lv_at hl 1 rfl) ?_
        refine lv_icmp_ne (tgt := 63) hx hb dX3_waitedIn_28 (by decide) (fun c_4 => ?_) (fun c_4 => ?_)
        · have nc_4 := z_ne rfl rfl c_4
          obtain ⟨x_5, ex_5⟩ : ∃ y : Int32, y = i3 + Int32.ofInt 1 := ⟨_, rfl⟩
          have hx_5 := z_add ex_5 rfl (zk (x := Int32.ofInt 1) 1 rfl) (by omega) (by omega)
          refine lv_iinc (v := x_5) (lv' := [(3, .int x_5), (0, .ref (a 4)), (1, .int p0), (2, .int w2)]) hx hb dX3_waitedIn_63 hl (k := 3) rfl ex_5.symm (by decide) rfl (fun ls hl => ?_)
          refine lv_goto (tgt := 4) hx hb dX3_waitedIn_66 (by decide) ?_
          exact ih_4  w2 x_5 H _ ls (by omega) (by omega) (by omega) hT hS (lv_sub hl [1, 2, 3, 0] rfl)
        · have nc_4 := z_eq rfl rfl c_4
          refine lv_aload_n hx hb dX3_waitedIn_31 rfl (lv_at hl 0 rfl) ?_
          refine tw_get (D := (dC, dI)) (v := .ref (a 35)) (C := RX3) (T := TX3) (N := 12) hx hb hts (fun _ hh => (List.mem_cons_of_mem _ (List.mem_append_right _ (List.mem_append_left _ hh)))) hown hK hT (fx_4 hX) (by decide) cl_e14 rfl 8 (by decide) (hts (.fieldLink RX3 31 "TypingPool$Floor" "taken" "[I") (List.mem_cons_of_mem _ (List.mem_append_left _ (List.mem_of_getElem? (i := 4) rfl)))) (fun _ h9 => h9) rfl dX3_waitedIn_32 ?_
          refine lv_iload_n hx hb dX3_waitedIn_35 rfl (lv_at hl 3 rfl) ?_
          refine tw_iald hx hb hK hT 0 (fx_35 hX) (by decide) cl_e45 rfl (z_in rfl (by omega) (by omega)) dX3_waitedIn_36 ?_
          refine lv_iconst (v := (-1)) hx hb dX3_waitedIn_37 (by decide) ?_
          refine lv_icmp_eq (tgt := 63) hx hb dX3_waitedIn_38 (by decide) (fun c_6 => ?_) (fun c_6 => ?_)
          · have nc_6 := z_eq rfl (zk (x := (-1)) (-1) rfl) c_6
            obtain ⟨x_7, ex_7⟩ : ∃ y : Int32, y = i3 + Int32.ofInt 1 := ⟨_, rfl⟩
            have hx_7 := z_add ex_7 rfl (zk (x := Int32.ofInt 1) 1 rfl) (by omega) (by omega)
            refine lv_iinc (v := x_7) (lv' := [(3, .int x_7), (0, .ref (a 4)), (1, .int p0), (2, .int w2)]) hx hb dX3_waitedIn_63 hl (k := 3) rfl ex_7.symm (by decide) rfl (fun ls hl => ?_)
            refine lv_goto (tgt := 4) hx hb dX3_waitedIn_66 (by decide) ?_
            exact ih_4  w2 x_7 H _ ls (by omega) (by omega) (by omega) hT hS (lv_sub hl [1, 2, 3, 0] rfl)
          · have nc_6 := z_ne rfl (zk (x := (-1)) (-1) rfl) c_6
            refine lv_iload_n hx hb dX3_waitedIn_41 rfl (lv_at hl 2 rfl) ?_
            refine lv_aload_n hx hb dX3_waitedIn_42 rfl (lv_at hl 0 rfl) ?_
            refine tw_get (D := (dC, dI)) (v := .ref (a 35)) (C := RX3) (T := TX3) (N := 12) hx hb hts (fun _ hh => (List.mem_cons_of_mem _ (List.mem_append_right _ (List.mem_append_left _ hh)))) hown hK hT (fx_4 hX) (by decide) cl_e14 rfl 8 (by decide) (hts (.fieldLink RX3 31 "TypingPool$Floor" "taken" "[I") (List.mem_cons_of_mem _ (List.mem_append_left _ (List.mem_of_getElem? (i := 4) rfl)))) (fun _ h9 => h9) rfl dX3_waitedIn_43 ?_
            refine lv_iload_n hx hb dX3_waitedIn_46 rfl (lv_at hl 3 rfl) ?_
            refine tw_iald hx hb hK hT 0 (fx_35 hX) (by decide) cl_e45 rfl (z_in rfl (by omega) (by omega)) dX3_waitedIn_47 ?_
            refine lv_aload_n hx hb dX3_waitedIn_48 rfl (lv_at hl 0 rfl) ?_
            refine tw_get (D := (dC, dI)) (v := .ref (a 1)) (C := RX3) (T := TX3) (N := 12) hx hb hts (fun _ hh => (List.mem_cons_of_mem _ (List.mem_append_right _ (List.mem_append_left _ hh)))) hown hK hT (fx_4 hX) (by decide) cl_e14 rfl 0 (by decide) (hts (.fieldLink RX3 43 "TypingPool$Floor" "book" "LTypingPool$Book;") (List.mem_cons_of_mem _ (List.mem_append_left _ (List.mem_of_getElem? (i := 0) rfl)))) (fun _ h9 => h9) rfl dX3_waitedIn_49 ?_
            refine tw_get (D := (dC, dI)) (v := .ref (a 11)) (C := RX1) (T := TX1) (N := 8) hx hb hts (fun _ hh => (List.mem_cons_of_mem _ (List.mem_append_right _ (List.mem_append_right _ (List.mem_append_left _ hh))))) hown hK hT (fx_1 hX) (by decide) cl_e11 rfl 4 (by decide) (hts (.fieldLink RX3 103 "TypingPool$Book" "pieces" "[LTypingPool$Piece;") (List.mem_cons_of_mem _ (List.mem_append_left _ (List.mem_of_getElem? (i := 2) rfl)))) (fun _ h9 => h9) rfl dX3_waitedIn_52 ?_
            refine lv_iload_n hx hb dX3_waitedIn_55 rfl (lv_at hl 3 rfl) ?_
            refine tw_aald hx hb hK hT 4 (fx_11 hX) (by decide) cl_e21 rfl (z_in rfl (by omega) (by omega)) dX3_waitedIn_56 ?_
            obtain ⟨q_8, hgq_8, htq_8⟩ := ic_l11 hI (x := i3) rfl (by omega) (by omega)
            refine lq_topr hgq_8 ?_
            refine tw_get (D := (dC, dI)) (v := .int (y q_8 5)) (C := RX6) (T := TX6) (N := 11) hx hb hts (fun _ hh => (List.mem_cons_of_mem _ (List.mem_append_right _ (List.mem_append_right _ (List.mem_append_right _ (List.mem_append_left _ hh)))))) hown hK hT htq_8 (by decide) cl_e2 rfl 5 (by decide) (hts (.fieldLink RX3 184 "TypingPool$Piece" "comes" "I") (List.mem_cons_of_mem _ (List.mem_append_left _ (List.mem_of_getElem? (i := 5) rfl)))) (fun _ h9 => h9) rfl dX3_waitedIn_57 ?_
            refine lv_isub hx hb dX3_waitedIn_60 ?_
            refine lv_topi (fun x_9 ex_9 => ?_)
            refine lv_iadd hx hb dX3_waitedIn_61 ?_
            refine lv_topi (fun x_10 ex_10 => ?_)
            refine lv_istore_n (lv' := [(2, .int x_10), (0, .ref (a 4)), (1, .int p0), (3, .int i3)]) hx hb dX3_waitedIn_62 rfl hl (by decide) rfl (fun ls hl => ?_)
            obtain ⟨x_11, ex_11⟩ : ∃ y : Int32, y = i3 + Int32.ofInt 1 := ⟨_, rfl⟩
            have hx_11 := z_add ex_11 rfl (zk (x := Int32.ofInt 1) 1 rfl) (by omega) (by omega)
            refine lv_iinc (v := x_11) (lv' := [(3, .int x_11), (2, .int x_10), (0, .ref (a 4)), (1, .int p0)]) hx hb dX3_waitedIn_63 hl (k := 3) rfl ex_11.symm (by decide) rfl (fun ls hl => ?_)
            refine lv_goto (tgt := 4) hx hb dX3_waitedIn_66 (by decide) ?_
            exact ih_4  x_10 x_11 H _ ls (by omega) (by omega) (by omega) hT hS (lv_sub hl [2, 3, 1, 0] rfl)
  have hp_12 : (0 : Int32).toInt = 0 := (zk (x := 0) 0 rfl)
  have hp_13 : (0 : Int32).toInt = 0 := (zk (x := 0) 0 rfl)
  exact loop_4 _ (0 : Int32) (0 : Int32) s.heap _ ls (Nat.lt_succ_self _) (by omega) (by omega) hT hS (lv_sub hl [2, 3, 1, 0] rfl)
def wo_c_waitingInt : List Cond := [.fieldLink RX3 43 "TypingPool$Floor" "book" "LTypingPool$Book;", .fieldLink RX3 85 "TypingPool$Book" "pieceCount" "I", .fieldLink RX3 103 "TypingPool$Book" "pieces" "[LTypingPool$Piece;", .fieldLink RX3 166 "TypingPool$Piece" "department" "I", .methodLink RX3 88 yX3_stateOf, .instanceMethod yX3_stateOf, .selects RX3 yX3_stateOf yX3_stateOf, .initialized RX3]
def wm_c_waitingInt : List Cond := .code yX3_waitingIn cX3_waitingIn 4 (some .int) :: (wo_c_waitingInt ++ (wsX30 ++ (wsX10 ++ (wsX60 ++ (wm_c_stateOft ++ ([] : List Cond))))))
theorem gd_c_waitingInt : ∀ w ∈ wm_c_waitingInt, goodWord w = true := gd_c rfl (gd_a (by decide) (gd_a gd_wsX30 (gd_a gd_wsX10 (gd_a gd_wsX60 (gd_a gd_c_stateOft gd_nil)))))
set_option maxRecDepth 20000 in
theorem im_c_waitingInt : ∀ w ∈ wm_c_waitingInt, w ∈ lw_tbl := im_c (in_r [.code yX3_waitingIn cX3_waitingIn 4 (some .int)] [814] (by decide +kernel)) (in_app (in_r wo_c_waitingInt [426, 134, 130, 667, 767, 768, 769, 83] (by decide +kernel)) (in_app im_wsX30 (in_app im_wsX10 (in_app im_wsX60 (in_app im_c_stateOft im_nil)))))
set_option maxHeartbeats 4000000 in
set_option maxRecDepth 100000 in
theorem c_waitingInt (l : Launch) (dC : Nat → ClassId) (dI : Nat → Nat → Nat) (ad av : Nat → Nat) (sz : Nat) (a : Nat → Nat) (k : Nat → ClassId) (τ ln : Nat → Nat) (y : Nat → Nat → Int32) (g : Nat → Nat → Option Nat) (u : Nat → Int) (p0 : Int32) (hI : IC a u τ ln y g) : Met l yX3_waitingIn wm_c_waitingInt ({ frames := 1, cells := 0, slots := 0, locals := 60 }) (pw_ ad av (dC, dI) sz [.ref (a 4), .int p0] a k τ ln y g) (va_Qi (fun (r u : Int32) => u = r) (fun (r : Int32) (t : State) => (tw (dC, dI) a k τ ln y g t.heap)) (fr τ sz)) 0 0 (fr τ sz) := by
  refine Met.ofW (cc := cX3_waitingIn) (maxL := 4) (ret := (some .int)) (by decide) rfl ?_
  intro p e s m args below meth c s₁ B hml hv
  obtain ⟨rfl, hsz, hT, hK, hM⟩ := hv
  have hx := B.exec
  have hb := B.bytes
  have hr := B.returns
  have hts := atoms_spec (ws := wm_c_waitingInt) B.pre
  have hown : s.vm.findClass RX3 = some m.cls := findClass_of_methodNamed B.named
  have hlocks := B.notSynchronized
  subst hsz
  generalize hAe : fr τ s.heap.size = A at hM ⊢
  have hA : ∀ q : Nat, s.heap.size ≤ q → A q := fun q h => by rw [← hAe]; exact Or.inr h
  have hF : ∀ q, τ q ≠ 0 → A q := fun q h => by rw [← hAe]; exact Or.inl h
  have hS : va_S A s.heap s.heap [] := va_S.rf
  have hX := hI.1
  have hR := ic_r hI
  have hl := lv_entry ([.ref (a 4), .int p0]) (n := 4) (Nat.le_of_ble_eq_true rfl)
  rw [lg_entry_eq]
  generalize (lg_sl ([.ref (a 4), .int p0]) ++ List.replicate (4 - (lg_sl ([.ref (a 4), .int p0])).length) Slot.unset).toArray = ls at hl ⊢
  have hl : lv_has ls 4 [(0, .ref (a 4)), (1, .int p0)] := hl
  refine lv_iconst (v := 0) hx hb dX3_waitingIn_0 (by decide) ?_
  refine lv_istore_n (lv' := [(2, .int 0), (0, .ref (a 4)), (1, .int p0)]) hx hb dX3_waitingIn_1 rfl hl (by decide) rfl (fun ls hl => ?_)
  refine lv_iconst (v := 0) hx hb dX3_waitingIn_2 (by decide) ?_
  refine lv_istore_n (lv' := [(3, .int 0), (2, .int 0), (0, .ref (a 4)), (1, .int p0)]) hx hb dX3_waitingIn_3 rfl hl (by decide) rfl (fun ls hl => ?_)
  have loop_4 : ∀ (n : Nat) (w2 : Int32) (i3 : Int32) (H : Heap) (locs : List Loc) (ls : Array Slot), (u 2 - i3.toInt).toNat < n → 0 ≤ i3.toInt → i3.toInt ≤ u 2 → tw (dC, dI) a k τ ln y g H → va_S A s.heap H locs → lv_has ls 4 [(0, .ref (a 4)), (1, .int p0), (2, .int w2), (3, .int i3)] → W p l e (headSpec wm_c_waitingInt ({ frames := 1, cells := 0, slots := 0, locals := 60 })).room s m ([.ref (a 4), .int p0] : List Value).toArray below meth c H locs 0 0 (MQ below (va_Qi (fun (r u : Int32) => u = r) (fun (r : Int32) (t : State) => (tw (dC, dI) a k τ ln y g t.heap)) A) ([.ref (a 4), .int p0] : List Value).toArray s 0 0 A) (F0 m 4 ls []) := by
    intro n
    induction n with
    | zero => intro w2 i3 H locs ls hlt; exact absurd hlt (Nat.not_lt_zero _)
    | succ n ih_4 =>
      intro w2 i3 H locs ls hlt hi4_0 hi4_1 hT hS hl
      refine lv_iload_n hx hb dX3_waitingIn_4 rfl (lv_at hl 3 rfl) ?_
      refine lv_aload_n hx hb dX3_waitingIn_5 rfl (lv_at hl 0 rfl) ?_
      refine tw_get (D := (dC, dI)) (v := .ref (a 1)) (C := RX3) (T := TX3) (N := 12) hx hb hts (fun _ hh => (List.mem_cons_of_mem _ (List.mem_append_right _ (List.mem_append_left _ hh)))) hown hK hT (fx_4 hX) (by decide) cl_e14 rfl 0 (by decide) (hts (.fieldLink RX3 43 "TypingPool$Floor" "book" "LTypingPool$Book;") (List.mem_cons_of_mem _ (List.mem_append_left _ (List.mem_of_getElem? (i := 0) rfl)))) (fun _ h9 => h9) rfl dX3_waitingIn_6 ?_
      refine tw_get (D := (dC, dI)) (v := .int (y (a 1) 5)) (C := RX1) (T := TX1) (N := 8) hx hb hts (fun _ hh => (List.mem_cons_of_mem _ (List.mem_append_right _ (List.mem_append_right _ (List.mem_append_left _ hh))))) hown hK hT (fx_1 hX) (by decide) cl_e11 rfl 5 (by decide) (hts (.fieldLink RX3 85 "TypingPool$Book" "pieceCount" "I") (List.mem_cons_of_mem _ (List.mem_append_left _ (List.mem_of_getElem? (i := 1) rfl)))) (fun _ h9 => h9) rfl dX3_waitingIn_9 ?_
      have hc_1 := ic_2 hI
      refine lv_icmp_ge (tgt := 49) hx hb dX3_waitingIn_12 (by decide) (fun c_2 => ?_) (fun c_2 => ?_)
      · have nc_2 := z_le hc_1 rfl c_2
        refine lv_iload_n hx hb dX3_waitingIn_49 rfl (lv_at hl 2 rfl) ?_
        exact W.iret (v := w2) hx hb hr (fun t ht hW9 => ⟨⟨w2, w2, rfl, rfl, (tw_at ht hT)⟩, hS.F ht⟩) hS.2.2 dX3_waitingIn_50
      · have nc_2 := z_nle hc_1 rfl c_2
        refine lv_aload_n hx hb dX3_waitingIn_15 rfl (lv_at hl 0 rfl) ?_
        refine tw_get (D := (dC, dI)) (v := .ref (a 1)) (C := RX3) (T := TX3) (N := 12) hx hb hts (fun _ hh => (List.mem_cons_of_mem _ (List.mem_append_right _ (List.mem_append_left _ hh)))) hown hK hT (fx_4 hX) (by decide) cl_e14 rfl 0 (by decide) (hts (.fieldLink RX3 43 "TypingPool$Floor" "book" "LTypingPool$Book;") (List.mem_cons_of_mem _ (List.mem_append_left _ (List.mem_of_getElem? (i := 0) rfl)))) (fun _ h9 => h9) rfl dX3_waitingIn_16 ?_
        refine tw_get (D := (dC, dI)) (v := .ref (a 11)) (C := RX1) (T := TX1) (N := 8) hx hb hts (fun _ hh => (List.mem_cons_of_mem _ (List.mem_append_right _ (List.mem_append_right _ (List.mem_append_left _ hh))))) hown hK hT (fx_1 hX) (by decide) cl_e11 rfl 4 (by decide) (hts (.fieldLink RX3 103 "TypingPool$Book" "pieces" "[LTypingPool$Piece;") (List.mem_cons_of_mem _ (List.mem_append_left _ (List.mem_of_getElem? (i := 2) rfl)))) (fun _ h9 => h9) rfl dX3_waitingIn_19 ?_
        refine lv_iload_n hx hb dX3_waitingIn_22 rfl (lv_at hl 3 rfl) ?_
        refine tw_aald hx hb hK hT 4 (fx_11 hX) (by decide) cl_e21 rfl (z_in rfl (by omega) (by omega)) dX3_waitingIn_23 ?_
        obtain ⟨q_3, hgq_3, htq_3⟩ := ic_l11 hI (x := i3) rfl (by omega) (by omega)
        refine lq_topr hgq_3 ?_
        refine tw_get (D := (dC, dI)) (v := .int (y q_3 0)) (C := RX6) (T := TX6) (N := 11) hx hb hts (fun _ hh => (List.mem_cons_of_mem _ (List.mem_append_right _ (List.mem_append_right _ (List.mem_append_right _ (List.mem_append_left _ hh)))))) hown hK hT htq_3 (by decide) cl_e2 rfl 0 (by decide) (hts (.fieldLink RX3 166 "TypingPool$Piece" "department" "I") (List.mem_cons_of_mem _ (List.mem_append_left _ (List.mem_of_getElem? (i := 3) rfl)))) (fun _ h9 => h9) rfl dX3_waitingIn_24 ?_
        refine lv_iload_n hx hb dX3_waitingIn_27 rfl (lv_at hl 1 rfl) ?_
        refine lv_icmp_ne (tgt := 43) hx hb dX3_waitingIn_28 (by decide) (fun c_4 => ?_) (fun c_4 => ?_)
        · have nc_4 := z_ne rfl rfl c_4
          obtain ⟨x_5, ex_5⟩ : ∃ y : Int32, y = i3 + Int32.ofInt 1 := ⟨_, rfl⟩
          have hx_5 := z_add ex_5 rfl (zk (x := Int32.ofInt 1) 1 rfl) (by omega) (by omega)
          refine lv_iinc (v := x_5) (lv' := [(3, .int x_5), (0, .ref (a 4)), (1, .int p0), (2, .int w2)]) hx hb dX3_waitingIn_43 hl (k := 3) rfl ex_5.symm (by decide) rfl (fun ls hl => ?_)
          refine lv_goto (tgt := 4) hx hb dX3_waitingIn_46 (by decide) ?_
          exact ih_4  w2 x_5 H _ ls (by omega) (by omega) (by omega) hT hS (lv_sub hl [1, 2, 3, 0] rfl)
        · have nc_4 := z_eq rfl rfl c_4
          refine lv_aload_n hx hb dX3_waitingIn_31 rfl (lv_at hl 0 rfl) ?_
          refine lv_iload_n hx hb dX3_waitingIn_32 rfl (lv_at hl 3 rfl) ?_
          have hFc := tw_free hF hS hA
          refine va_calli (va_runV (As := [.int i3]) (rest := []) ⟨hx, hb, hml, hown, hts⟩ (c_stateOft l dC dI ad av H.size a k τ ln y g u i3 hI (by omega) (by omega)) (cwV 1 hts (gi_4 (List.mem_cons_of_mem _ (List.mem_append_left _ (List.mem_of_getElem? (i := 4) rfl))) (List.mem_cons_of_mem _ (List.mem_append_left _ (List.mem_of_getElem? (i := 5) rfl))) (List.mem_cons_of_mem _ (List.mem_append_left _ (List.mem_of_getElem? (i := 6) rfl))) (List.mem_cons_of_mem _ (List.mem_append_left _ (List.mem_of_getElem? (i := 7) rfl))) (fun _ hh => (List.mem_cons_of_mem _ (List.mem_append_right _ (List.mem_append_right _ (List.mem_append_right _ (List.mem_append_right _ (List.mem_append_left _ hh))))))) gd_c_stateOft) rfl rfl rfl (by decide +kernel) ⟨Nat.le_of_ble_eq_true rfl, Nat.le_of_ble_eq_true rfl⟩) ⟨pw_blind, tw_recv hK hT (fx_4 hX) (by decide) cl_e14 rfl, pw_use hT hK hFc hS hM⟩ rfl rfl hl.1 rfl (lv_room (Nat.le_of_ble_eq_true rfl)) dX3_waitingIn_33 ⟨Nat.le_of_ble_eq_true rfl, Nat.le_of_ble_eq_true rfl⟩) hS (fun q _ h => hFc q h) hFc (fun r0 r_6 t H locs ht hvm hw hB hz1 hk1 hS => ?_)
          refine W.widen (k := 0) (n := 0) (Nat.le_of_ble_eq_true rfl) (Nat.le_of_ble_eq_true rfl) ?_
          clear hvm hz1 hk1
          subst hw
          have hT := hB
          rw [ht] at hT
          refine lv_iconst (v := 1) hx hb dX3_waitingIn_36 (by decide) ?_
          refine lv_icmp_ne (tgt := 43) hx hb dX3_waitingIn_37 (by decide) (fun c_7 => ?_) (fun c_7 => ?_)
          · have nc_7 := z_ne rfl (zk (x := 1) 1 rfl) c_7
            obtain ⟨x_8, ex_8⟩ : ∃ y : Int32, y = i3 + Int32.ofInt 1 := ⟨_, rfl⟩
            have hx_8 := z_add ex_8 rfl (zk (x := Int32.ofInt 1) 1 rfl) (by omega) (by omega)
            refine lv_iinc (v := x_8) (lv' := [(3, .int x_8), (0, .ref (a 4)), (1, .int p0), (2, .int w2)]) hx hb dX3_waitingIn_43 hl (k := 3) rfl ex_8.symm (by decide) rfl (fun ls hl => ?_)
            refine lv_goto (tgt := 4) hx hb dX3_waitingIn_46 (by decide) ?_
            exact ih_4  w2 x_8 H _ ls (by omega) (by omega) (by omega) hT hS (lv_sub hl [1, 2, 3, 0] rfl)
          · have nc_7 := z_eq rfl (zk (x := 1) 1 rfl) c_7
            obtain ⟨x_9, ex_9⟩ : ∃ y : Int32, y = w2 + Int32.ofInt 1 := ⟨_, rfl⟩
            refine lv_iinc (v := x_9) (lv' := [(2, .int x_9), (0, .ref (a 4)), (1, .int p0), (3, .int i3)]) hx hb dX3_waitingIn_40 hl (k := 2) rfl ex_9.symm (by decide) rfl (fun ls hl => ?_)
            obtain ⟨x_10, ex_10⟩ : ∃ y : Int32, y = i3 + Int32.ofInt 1 := ⟨_, rfl⟩
            have hx_10 := z_add ex_10 rfl (zk (x := Int32.ofInt 1) 1 rfl) (by omega) (by omega)
            refine lv_iinc (v := x_10) (lv' := [(3, .int x_10), (2, .int x_9), (0, .ref (a 4)), (1, .int p0)]) hx hb dX3_waitingIn_43 hl (k := 3) rfl ex_10.symm (by decide) rfl (fun ls hl => ?_)
            refine lv_goto (tgt := 4) hx hb dX3_waitingIn_46 (by decide) ?_
            exact ih_4  x_9 x_10 H _ ls (by omega) (by omega) (by omega) hT hS (lv_sub hl [2, 3, 1, 0] rfl)
  have hp_11 : (0 : Int32).toInt = 0 := (zk (x := 0) 0 rfl)
  have hp_12 : (0 : Int32).toInt = 0 := (zk (x := 0) 0 rfl)
  exact loop_4 _ (0 : Int32) (0 : Int32) s.heap _ ls (Nat.lt_succ_self _) (by omega) (by omega) hT hS (lv_sub hl [2, 3, 1, 0] rfl)
def wo_c_countsFort : List Cond := [.fieldLink RX3 43 "TypingPool$Floor" "book" "LTypingPool$Book;", .fieldLink RX3 103 "TypingPool$Book" "pieces" "[LTypingPool$Piece;", .methodLink RX3 199 yX3_isLate, .instanceMethod yX3_isLate, .selects RX3 yX3_isLate yX3_isLate, .initialized RX3, .fieldLink RX3 181 "TypingPool$Piece" "claim" "I", .fieldLink RX3 190 "TypingPool$Piece" "due" "I", .fieldLink RX3 184 "TypingPool$Piece" "comes" "I", .methodLink RX3 169 yX3_today, .instanceMethod yX3_today, .selects RX3 yX3_today yX3_today, .fieldLink RX3 187 "TypingPool$Piece" "lines" "I"]
def wm_c_countsFort : List Cond := .code yX3_countsFor cX3_countsFor 4 (some .int) :: (wo_c_countsFort ++ (wsX30 ++ (wsX10 ++ (wm_c_isLatet ++ (wsX60 ++ (wm_c_todayt ++ ([] : List Cond)))))))
theorem gd_c_countsFort : ∀ w ∈ wm_c_countsFort, goodWord w = true := gd_c rfl (gd_a (by decide) (gd_a gd_wsX30 (gd_a gd_wsX10 (gd_a gd_c_isLatet (gd_a gd_wsX60 (gd_a gd_c_todayt gd_nil))))))
set_option maxRecDepth 20000 in
theorem im_c_countsFort : ∀ w ∈ wm_c_countsFort, w ∈ lw_tbl := im_c (in_r [.code yX3_countsFor cX3_countsFor 4 (some .int)] [1014] (by decide +kernel)) (in_app (in_r wo_c_countsFort [426, 130, 895, 862, 863, 83, 678, 684, 681, 775, 776, 777, 673] (by decide +kernel)) (in_app im_wsX30 (in_app im_wsX10 (in_app im_c_isLatet (in_app im_wsX60 (in_app im_c_todayt im_nil))))))
set_option maxHeartbeats 4000000 in
set_option maxRecDepth 100000 in
theorem c_countsFort (l : Launch) (dC : Nat → ClassId) (dI : Nat → Nat → Nat) (ad av : Nat → Nat) (sz : Nat) (a : Nat → Nat) (k : Nat → ClassId) (τ ln : Nat → Nat) (y : Nat → Nat → Int32) (g : Nat → Nat → Option Nat) (u : Nat → Int) (p0 : Int32) (p1 : Int32) (hI : IC a u τ ln y g) (hlp0 : 0 ≤ p0.toInt) (hup0 : p0.toInt < u 2) : Met l yX3_countsFor wm_c_countsFort ({ frames := 4, cells := 0, slots := 0, locals := 200 }) (pw_ ad av (dC, dI) sz [.ref (a 4), .int p0, .int p1] a k τ ln y g) (va_Qi (fun (r u : Int32) => u = r) (fun (r : Int32) (t : State) => (tw (dC, dI) a k τ ln y g t.heap)) (fr τ sz)) 0 0 (fr τ sz) := by
  refine Met.ofW (cc := cX3_countsFor) (maxL := 4) (ret := (some .int)) (by decide) rfl ?_
  intro p e s m args below meth c s₁ B hml hv
  obtain ⟨rfl, hsz, hT, hK, hM⟩ := hv
  have hx := B.exec
  have hb := B.bytes
  have hr := B.returns
  have hts := atoms_spec (ws := wm_c_countsFort) B.pre
  have hown : s.vm.findClass RX3 = some m.cls := findClass_of_methodNamed B.named
  have hlocks := B.notSynchronized
  subst hsz
  generalize hAe : fr τ s.heap.size = A at hM ⊢
  have hA : ∀ q : Nat, s.heap.size ≤ q → A q := fun q h => by rw [← hAe]; exact Or.inr h
  have hF : ∀ q, τ q ≠ 0 → A q := fun q h => by rw [← hAe]; exact Or.inl h
  have hS : va_S A s.heap s.heap [] := va_S.rf
  have hX := hI.1
  have hR := ic_r hI
  have hl := lv_entry ([.ref (a 4), .int p0, .int p1]) (n := 4) (Nat.le_of_ble_eq_true rfl)
  rw [lg_entry_eq]
  generalize (lg_sl ([.ref (a 4), .int p0, .int p1]) ++ List.replicate (4 - (lg_sl ([.ref (a 4), .int p0, .int p1])).length) Slot.unset).toArray = ls at hl ⊢
  have hl : lv_has ls 4 [(0, .ref (a 4)), (1, .int p0), (2, .int p1)] := hl
  refine lv_aload_n hx hb dX3_countsFor_0 rfl (lv_at hl 0 rfl) ?_
  refine tw_get (D := (dC, dI)) (v := .ref (a 1)) (C := RX3) (T := TX3) (N := 12) hx hb hts (fun _ hh => (List.mem_cons_of_mem _ (List.mem_append_right _ (List.mem_append_left _ hh)))) hown hK hT (fx_4 hX) (by decide) cl_e14 rfl 0 (by decide) (hts (.fieldLink RX3 43 "TypingPool$Floor" "book" "LTypingPool$Book;") (List.mem_cons_of_mem _ (List.mem_append_left _ (List.mem_of_getElem? (i := 0) rfl)))) (fun _ h9 => h9) rfl dX3_countsFor_1 ?_
  refine tw_get (D := (dC, dI)) (v := .ref (a 11)) (C := RX1) (T := TX1) (N := 8) hx hb hts (fun _ hh => (List.mem_cons_of_mem _ (List.mem_append_right _ (List.mem_append_right _ (List.mem_append_left _ hh))))) hown hK hT (fx_1 hX) (by decide) cl_e11 rfl 4 (by decide) (hts (.fieldLink RX3 103 "TypingPool$Book" "pieces" "[LTypingPool$Piece;") (List.mem_cons_of_mem _ (List.mem_append_left _ (List.mem_of_getElem? (i := 1) rfl)))) (fun _ h9 => h9) rfl dX3_countsFor_4 ?_
  refine lv_iload_n hx hb dX3_countsFor_7 rfl (lv_at hl 1 rfl) ?_
  refine tw_aald hx hb hK hT 4 (fx_11 hX) (by decide) cl_e21 rfl (z_in rfl (by omega) (by omega)) dX3_countsFor_8 ?_
  obtain ⟨q_1, hgq_1, htq_1⟩ := ic_l11 hI (x := p0) rfl (by omega) (by omega)
  refine lq_topr hgq_1 ?_
  refine lv_astore_n (lv' := [(3, .ref q_1), (0, .ref (a 4)), (1, .int p0), (2, .int p1)]) hx hb dX3_countsFor_9 rfl hl (by decide) rfl (fun ls hl => ?_)
  refine lv_iload_n hx hb dX3_countsFor_10 rfl (lv_at hl 3 rfl) ?_
  rcases tb_1_3 p1 with t_2 | t_2 | t_2 | t_2
  · refine lq_top (v := 1) t_2 ?_
    have nt_2 := z_eq rfl (zk (x := 1) 1 rfl) t_2
    refine lv_tableIn (tgt := 36) hx hb dX3_countsFor_11 (by decide) (by decide) (off := 25) (by decide) (by decide) ?_
    refine lv_iconst (v := 1) hx hb dX3_countsFor_36 (by decide) ?_
    exact W.iret (v := 1) hx hb hr (fun t ht hW9 => ⟨⟨1, 1, rfl, rfl, (tw_at ht hT)⟩, hS.F ht⟩) hS.2.2 dX3_countsFor_37
  · refine lq_top (v := 2) t_2 ?_
    have nt_2 := z_eq rfl (zk (x := 2) 2 rfl) t_2
    refine lv_tableIn (tgt := 38) hx hb dX3_countsFor_11 (by decide) (by decide) (off := 27) (by decide) (by decide) ?_
    refine lv_aload_n hx hb dX3_countsFor_38 rfl (lv_at hl 1 rfl) ?_
    refine lv_iload_n hx hb dX3_countsFor_39 rfl (lv_at hl 2 rfl) ?_
    have hFc := tw_free hF hS hA
    refine va_calli (va_runV (As := [.int p0]) (rest := []) ⟨hx, hb, hml, hown, hts⟩ (c_isLatet l dC dI ad av s.heap.size a k τ ln y g u p0 hI (by omega) (by omega)) (cwV 1 hts (gi_4 (List.mem_cons_of_mem _ (List.mem_append_left _ (List.mem_of_getElem? (i := 2) rfl))) (List.mem_cons_of_mem _ (List.mem_append_left _ (List.mem_of_getElem? (i := 3) rfl))) (List.mem_cons_of_mem _ (List.mem_append_left _ (List.mem_of_getElem? (i := 4) rfl))) (List.mem_cons_of_mem _ (List.mem_append_left _ (List.mem_of_getElem? (i := 5) rfl))) (fun _ hh => (List.mem_cons_of_mem _ (List.mem_append_right _ (List.mem_append_right _ (List.mem_append_right _ (List.mem_append_left _ hh)))))) gd_c_isLatet) rfl rfl rfl (by decide +kernel) ⟨Nat.le_of_ble_eq_true rfl, Nat.le_of_ble_eq_true rfl⟩) ⟨pw_blind, tw_recv hK hT (fx_4 hX) (by decide) cl_e14 rfl, pw_use hT hK hFc hS hM⟩ rfl rfl hl.1 rfl (lv_room (Nat.le_of_ble_eq_true rfl)) dX3_countsFor_40 ⟨Nat.le_of_ble_eq_true rfl, Nat.le_of_ble_eq_true rfl⟩) hS (fun q _ h => hFc q h) hFc (fun r0 r_3 t H locs ht hvm hw hB hz1 hk1 hS => ?_)
    refine W.widen (k := 0) (n := 0) (Nat.le_of_ble_eq_true rfl) (Nat.le_of_ble_eq_true rfl) ?_
    clear hvm hz1 hk1
    subst hw
    rcases hB with ⟨hre, hT⟩ | ⟨hre, hT⟩
    · refine lq_top (v := 1) hre ?_
      rw [ht] at hT
      refine lv_if_eq (tgt := 50) hx hb dX3_countsFor_43 (by decide) (fun c_4 => absurd c_4 (by decide)) (fun c_4 => ?_)
      refine lv_iconst (v := 1) hx hb dX3_countsFor_46 (by decide) ?_
      refine lv_goto (tgt := 51) hx hb dX3_countsFor_47 (by decide) ?_
      exact W.iret (v := 1) hx hb hr (fun t ht hW9 => ⟨⟨1, 1, rfl, rfl, (tw_at ht hT)⟩, hS.F ht⟩) hS.2.2 dX3_countsFor_51
    · refine lq_top (v := 0) hre ?_
      rw [ht] at hT
      refine lv_if_eq (tgt := 50) hx hb dX3_countsFor_43 (by decide) (fun c_5 => ?_) (fun c_5 => absurd c_5 (by decide))
      refine lv_iconst (v := 0) hx hb dX3_countsFor_50 (by decide) ?_
      exact W.iret (v := 0) hx hb hr (fun t ht hW9 => ⟨⟨0, 0, rfl, rfl, (tw_at ht hT)⟩, hS.F ht⟩) hS.2.2 dX3_countsFor_51
  · refine lq_top (v := 3) t_2 ?_
    have nt_2 := z_eq rfl (zk (x := 3) 3 rfl) t_2
    refine lv_tableIn (tgt := 52) hx hb dX3_countsFor_11 (by decide) (by decide) (off := 41) (by decide) (by decide) ?_
    refine lv_aload_n hx hb dX3_countsFor_52 rfl (lv_at hl 0 rfl) ?_
    refine tw_get (D := (dC, dI)) (v := .int (y q_1 4)) (C := RX6) (T := TX6) (N := 11) hx hb hts (fun _ hh => (List.mem_cons_of_mem _ (List.mem_append_right _ (List.mem_append_right _ (List.mem_append_right _ (List.mem_append_right _ (List.mem_append_left _ hh))))))) hown hK hT htq_1 (by decide) cl_e2 rfl 4 (by decide) (hts (.fieldLink RX3 181 "TypingPool$Piece" "claim" "I") (List.mem_cons_of_mem _ (List.mem_append_left _ (List.mem_of_getElem? (i := 6) rfl)))) (fun _ h9 => h9) rfl dX3_countsFor_53 ?_
    refine lv_bipush (v := 7) hx hb dX3_countsFor_56 (by decide) ?_
    refine lv_icmp_lt (tgt := 80) hx hb dX3_countsFor_58 (by decide) (fun c_6 => ?_) (fun c_6 => ?_)
    · have nc_6 := z_lt rfl (zk (x := 7) 7 rfl) c_6
      refine lv_iconst (v := 0) hx hb dX3_countsFor_80 (by decide) ?_
      exact W.iret (v := 0) hx hb hr (fun t ht hW9 => ⟨⟨0, 0, rfl, rfl, (tw_at ht hT)⟩, hS.F ht⟩) hS.2.2 dX3_countsFor_81
    · have nc_6 := z_nlt rfl (zk (x := 7) 7 rfl) c_6
      refine lv_aload_n hx hb dX3_countsFor_61 rfl (lv_at hl 0 rfl) ?_
      refine tw_get (D := (dC, dI)) (v := .int (y q_1 6)) (C := RX6) (T := TX6) (N := 11) hx hb hts (fun _ hh => (List.mem_cons_of_mem _ (List.mem_append_right _ (List.mem_append_right _ (List.mem_append_right _ (List.mem_append_right _ (List.mem_append_left _ hh))))))) hown hK hT htq_1 (by decide) cl_e2 rfl 6 (by decide) (hts (.fieldLink RX3 190 "TypingPool$Piece" "due" "I") (List.mem_cons_of_mem _ (List.mem_append_left _ (List.mem_of_getElem? (i := 7) rfl)))) (fun _ h9 => h9) rfl dX3_countsFor_62 ?_
      refine lv_aload_n hx hb dX3_countsFor_65 rfl (lv_at hl 0 rfl) ?_
      refine tw_get (D := (dC, dI)) (v := .int (y q_1 5)) (C := RX6) (T := TX6) (N := 11) hx hb hts (fun _ hh => (List.mem_cons_of_mem _ (List.mem_append_right _ (List.mem_append_right _ (List.mem_append_right _ (List.mem_append_right _ (List.mem_append_left _ hh))))))) hown hK hT htq_1 (by decide) cl_e2 rfl 5 (by decide) (hts (.fieldLink RX3 184 "TypingPool$Piece" "comes" "I") (List.mem_cons_of_mem _ (List.mem_append_left _ (List.mem_of_getElem? (i := 8) rfl)))) (fun _ h9 => h9) rfl dX3_countsFor_66 ?_
      refine lv_isub hx hb dX3_countsFor_69 ?_
      refine lv_topi (fun x_7 ex_7 => ?_)
      refine lv_sipush (v := 480) hx hb dX3_countsFor_70 (by decide) ?_
      refine lv_icmp_lt (tgt := 80) hx hb dX3_countsFor_73 (by decide) (fun c_8 => ?_) (fun c_8 => ?_)
      · have nc_8 := z_lt rfl (zk (x := 480) 480 rfl) c_8
        refine lv_iconst (v := 0) hx hb dX3_countsFor_80 (by decide) ?_
        exact W.iret (v := 0) hx hb hr (fun t ht hW9 => ⟨⟨0, 0, rfl, rfl, (tw_at ht hT)⟩, hS.F ht⟩) hS.2.2 dX3_countsFor_81
      · have nc_8 := z_nlt rfl (zk (x := 480) 480 rfl) c_8
        refine lv_iconst (v := 1) hx hb dX3_countsFor_76 (by decide) ?_
        refine lv_goto (tgt := 81) hx hb dX3_countsFor_77 (by decide) ?_
        exact W.iret (v := 1) hx hb hr (fun t ht hW9 => ⟨⟨1, 1, rfl, rfl, (tw_at ht hT)⟩, hS.F ht⟩) hS.2.2 dX3_countsFor_81
  · refine lv_tableOut (tgt := 82) hx hb dX3_countsFor_11 t_2 (by decide) ?_
    refine lv_aload_n hx hb dX3_countsFor_82 rfl (lv_at hl 0 rfl) ?_
    refine tw_get (D := (dC, dI)) (v := .int (y q_1 5)) (C := RX6) (T := TX6) (N := 11) hx hb hts (fun _ hh => (List.mem_cons_of_mem _ (List.mem_append_right _ (List.mem_append_right _ (List.mem_append_right _ (List.mem_append_right _ (List.mem_append_left _ hh))))))) hown hK hT htq_1 (by decide) cl_e2 rfl 5 (by decide) (hts (.fieldLink RX3 184 "TypingPool$Piece" "comes" "I") (List.mem_cons_of_mem _ (List.mem_append_left _ (List.mem_of_getElem? (i := 8) rfl)))) (fun _ h9 => h9) rfl dX3_countsFor_83 ?_
    refine lv_sipush (v := 480) hx hb dX3_countsFor_86 (by decide) ?_
    refine lv_idiv hx hb dX3_countsFor_89 (by decide) ?_
    refine lv_topi (fun x_9 ex_9 => ?_)
    refine lv_aload_n hx hb dX3_countsFor_90 rfl (lv_at hl 1 rfl) ?_
    have hFc := tw_free hF hS hA
    refine va_calli (va_runV (As := []) (rest := [.int x_9]) ⟨hx, hb, hml, hown, hts⟩ (c_todayt l dC dI ad av s.heap.size a k τ ln y g u  hI ) (cwV 0 hts (gi_4 (List.mem_cons_of_mem _ (List.mem_append_left _ (List.mem_of_getElem? (i := 9) rfl))) (List.mem_cons_of_mem _ (List.mem_append_left _ (List.mem_of_getElem? (i := 10) rfl))) (List.mem_cons_of_mem _ (List.mem_append_left _ (List.mem_of_getElem? (i := 11) rfl))) (List.mem_cons_of_mem _ (List.mem_append_left _ (List.mem_of_getElem? (i := 5) rfl))) (fun _ hh => (List.mem_cons_of_mem _ (List.mem_append_right _ (List.mem_append_right _ (List.mem_append_right _ (List.mem_append_right _ (List.mem_append_right _ (List.mem_append_left _ hh)))))))) gd_c_todayt) rfl rfl rfl (by decide +kernel) ⟨Nat.le_of_ble_eq_true rfl, Nat.le_of_ble_eq_true rfl⟩) ⟨pw_blind, tw_recv hK hT (fx_4 hX) (by decide) cl_e14 rfl, pw_use hT hK hFc hS hM⟩ rfl rfl hl.1 rfl (lv_room (Nat.le_of_ble_eq_true rfl)) dX3_countsFor_91 ⟨Nat.le_of_ble_eq_true rfl, Nat.le_of_ble_eq_true rfl⟩) hS (fun q _ h => hFc q h) hFc (fun r0 r_10 t H locs ht hvm hw hB hz1 hk1 hS => ?_)
    refine W.widen (k := 0) (n := 0) (Nat.le_of_ble_eq_true rfl) (Nat.le_of_ble_eq_true rfl) ?_
    clear hvm hz1 hk1
    subst hw
    have hT := hB
    rw [ht] at hT
    refine lv_icmp_ne (tgt := 104) hx hb dX3_countsFor_94 (by decide) (fun c_11 => ?_) (fun c_11 => ?_)
    · have nc_11 := z_ne rfl rfl c_11
      refine lv_iconst (v := 0) hx hb dX3_countsFor_104 (by decide) ?_
      exact W.iret (v := 0) hx hb hr (fun t ht hW9 => ⟨⟨0, 0, rfl, rfl, (tw_at ht hT)⟩, hS.F ht⟩) hS.2.2 dX3_countsFor_105
    · have nc_11 := z_eq rfl rfl c_11
      refine lv_aload_n hx hb dX3_countsFor_97 rfl (lv_at hl 0 rfl) ?_
      refine tw_get (D := (dC, dI)) (v := .int (y q_1 2)) (C := RX6) (T := TX6) (N := 11) hx hb hts (fun _ hh => (List.mem_cons_of_mem _ (List.mem_append_right _ (List.mem_append_right _ (List.mem_append_right _ (List.mem_append_right _ (List.mem_append_left _ hh))))))) hown hK hT htq_1 (by decide) cl_e2 rfl 2 (by decide) (hts (.fieldLink RX3 187 "TypingPool$Piece" "lines" "I") (List.mem_cons_of_mem _ (List.mem_append_left _ (List.mem_of_getElem? (i := 12) rfl)))) (fun _ h9 => h9) rfl dX3_countsFor_98 ?_
      refine lv_goto (tgt := 105) hx hb dX3_countsFor_101 (by decide) ?_
      exact W.iret (v := y q_1 2) hx hb hr (fun t ht hW9 => ⟨⟨y q_1 2, y q_1 2, rfl, rfl, (tw_at ht hT)⟩, hS.F ht⟩) hS.2.2 dX3_countsFor_105
def wo_c_rateFort : List Cond := [.fieldLink RX3 43 "TypingPool$Floor" "book" "LTypingPool$Book;", .fieldLink RX3 112 "TypingPool$Book" "hands" "[LTypingPool$Hand;", .fieldLink RX3 116 "TypingPool$Hand" "speed" "I", .fieldLink RX3 103 "TypingPool$Book" "pieces" "[LTypingPool$Piece;", .methodLink RX3 107 yX6_unknownTo, .instanceMethod yX6_unknownTo, .selects RX6 yX6_unknownTo yX6_unknownTo, .initialized RX6, .methodLink RX3 121 Lib.Math.max.name, .static Lib.Math.max.name, .initialized "java/lang/Math", .code Lib.Math.max.name Lib.Math.max.code 2 (some .int)]
def wm_c_rateFort : List Cond := .code yX3_rateFor cX3_rateFor 4 (some .int) :: (wo_c_rateFort ++ (wsX30 ++ (wsX10 ++ (wsX40 ++ (wm_c_unknownTo ++ ([] : List Cond))))))
theorem gd_c_rateFort : ∀ w ∈ wm_c_rateFort, goodWord w = true := gd_c rfl (gd_a (by decide) (gd_a gd_wsX30 (gd_a gd_wsX10 (gd_a gd_wsX40 (gd_a gd_c_unknownTo gd_nil)))))
set_option maxRecDepth 20000 in
theorem im_c_rateFort : ∀ w ∈ wm_c_rateFort, w ∈ lw_tbl := im_c (in_r [.code yX3_rateFor cX3_rateFor 4 (some .int)] [822] (by decide +kernel)) (in_app (in_r wo_c_rateFort [426, 122, 609, 130, 801, 802, 803, 89, 823, 289, 78, 290] (by decide +kernel)) (in_app im_wsX30 (in_app im_wsX10 (in_app im_wsX40 (in_app im_c_unknownTo im_nil)))))
set_option maxHeartbeats 4000000 in
set_option maxRecDepth 100000 in
theorem c_rateFort (l : Launch) (dC : Nat → ClassId) (dI : Nat → Nat → Nat) (ad av : Nat → Nat) (sz : Nat) (a : Nat → Nat) (k : Nat → ClassId) (τ ln : Nat → Nat) (y : Nat → Nat → Int32) (g : Nat → Nat → Option Nat) (u : Nat → Int) (p0 : Int32) (p1 : Int32) (p2 : Int32) (hI : IC a u τ ln y g) (hlp0 : 0 ≤ p0.toInt) (hup0 : p0.toInt < u 1) (hlp1 : 0 ≤ p1.toInt) (hup1 : p1.toInt < u 2) : Met l yX3_rateFor wm_c_rateFort ({ frames := 2, cells := 0, slots := 0, locals := 120 }) (pw_ ad av (dC, dI) sz [.ref (a 4), .int p0, .int p1, .int p2] a k τ ln y g) (va_Qi (fun (r u : Int32) => u = r) (fun (r : Int32) (t : State) => (tw (dC, dI) a k τ ln y g t.heap)) (fr τ sz)) 0 0 (fr τ sz) := by
  refine Met.ofW (cc := cX3_rateFor) (maxL := 4) (ret := (some .int)) (by decide) rfl ?_
  intro p e s m args below meth c s₁ B hml hv
  obtain ⟨rfl, hsz, hT, hK, hM⟩ := hv
  have hx := B.exec
  have hb := B.bytes
  have hr := B.returns
  have hts := atoms_spec (ws := wm_c_rateFort) B.pre
  have hown : s.vm.findClass RX3 = some m.cls := findClass_of_methodNamed B.named
  have hlocks := B.notSynchronized
  subst hsz
  generalize hAe : fr τ s.heap.size = A at hM ⊢
  have hA : ∀ q : Nat, s.heap.size ≤ q → A q := fun q h => by rw [← hAe]; exact Or.inr h
  have hF : ∀ q, τ q ≠ 0 → A q := fun q h => by rw [← hAe]; exact Or.inl h
  have hS : va_S A s.heap s.heap [] := va_S.rf
  have hX := hI.1
  have hR := ic_r hI
  have hl := lv_entry ([.ref (a 4), .int p0, .int p1, .int p2]) (n := 4) (Nat.le_of_ble_eq_true rfl)
  rw [lg_entry_eq]
  generalize (lg_sl ([.ref (a 4), .int p0, .int p1, .int p2]) ++ List.replicate (4 - (lg_sl ([.ref (a 4), .int p0, .int p1, .int p2])).length) Slot.unset).toArray = ls at hl ⊢
  have hl : lv_has ls 4 [(0, .ref (a 4)), (1, .int p0), (2, .int p1), (3, .int p2)] := hl
  refine lv_iconst (v := 5) hx hb dX3_rateFor_0 (by decide) ?_
  refine lv_aload_n hx hb dX3_rateFor_1 rfl (lv_at hl 0 rfl) ?_
  refine tw_get (D := (dC, dI)) (v := .ref (a 1)) (C := RX3) (T := TX3) (N := 12) hx hb hts (fun _ hh => (List.mem_cons_of_mem _ (List.mem_append_right _ (List.mem_append_left _ hh)))) hown hK hT (fx_4 hX) (by decide) cl_e14 rfl 0 (by decide) (hts (.fieldLink RX3 43 "TypingPool$Floor" "book" "LTypingPool$Book;") (List.mem_cons_of_mem _ (List.mem_append_left _ (List.mem_of_getElem? (i := 0) rfl)))) (fun _ h9 => h9) rfl dX3_rateFor_2 ?_
  refine tw_get (D := (dC, dI)) (v := .ref (a 10)) (C := RX1) (T := TX1) (N := 8) hx hb hts (fun _ hh => (List.mem_cons_of_mem _ (List.mem_append_right _ (List.mem_append_right _ (List.mem_append_left _ hh))))) hown hK hT (fx_1 hX) (by decide) cl_e11 rfl 2 (by decide) (hts (.fieldLink RX3 112 "TypingPool$Book" "hands" "[LTypingPool$Hand;") (List.mem_cons_of_mem _ (List.mem_append_left _ (List.mem_of_getElem? (i := 1) rfl)))) (fun _ h9 => h9) rfl dX3_rateFor_5 ?_
  refine lv_iload_n hx hb dX3_rateFor_8 rfl (lv_at hl 1 rfl) ?_
  refine tw_aald hx hb hK hT 3 (fx_10 hX) (by decide) cl_e20 rfl (z_in rfl (by omega) (by omega)) dX3_rateFor_9 ?_
  obtain ⟨q_1, hgq_1, htq_1⟩ := ic_l10 hI (x := p0) rfl (by omega) (by omega)
  refine lq_topr hgq_1 ?_
  refine tw_get (D := (dC, dI)) (v := .int (y q_1 0)) (C := RX4) (T := TX4) (N := 3) hx hb hts (fun _ hh => (List.mem_cons_of_mem _ (List.mem_append_right _ (List.mem_append_right _ (List.mem_append_right _ (List.mem_append_left _ hh)))))) hown hK hT htq_1 (by decide) cl_e1 rfl 0 (by decide) (hts (.fieldLink RX3 116 "TypingPool$Hand" "speed" "I") (List.mem_cons_of_mem _ (List.mem_append_left _ (List.mem_of_getElem? (i := 2) rfl)))) (fun _ h9 => h9) rfl dX3_rateFor_10 ?_
  refine lv_iconst (v := 5) hx hb dX3_rateFor_13 (by decide) ?_
  refine lv_aload_n hx hb dX3_rateFor_14 rfl (lv_at hl 0 rfl) ?_
  refine tw_get (D := (dC, dI)) (v := .ref (a 1)) (C := RX3) (T := TX3) (N := 12) hx hb hts (fun _ hh => (List.mem_cons_of_mem _ (List.mem_append_right _ (List.mem_append_left _ hh)))) hown hK hT (fx_4 hX) (by decide) cl_e14 rfl 0 (by decide) (hts (.fieldLink RX3 43 "TypingPool$Floor" "book" "LTypingPool$Book;") (List.mem_cons_of_mem _ (List.mem_append_left _ (List.mem_of_getElem? (i := 0) rfl)))) (fun _ h9 => h9) rfl dX3_rateFor_15 ?_
  refine tw_get (D := (dC, dI)) (v := .ref (a 11)) (C := RX1) (T := TX1) (N := 8) hx hb hts (fun _ hh => (List.mem_cons_of_mem _ (List.mem_append_right _ (List.mem_append_right _ (List.mem_append_left _ hh))))) hown hK hT (fx_1 hX) (by decide) cl_e11 rfl 4 (by decide) (hts (.fieldLink RX3 103 "TypingPool$Book" "pieces" "[LTypingPool$Piece;") (List.mem_cons_of_mem _ (List.mem_append_left _ (List.mem_of_getElem? (i := 3) rfl)))) (fun _ h9 => h9) rfl dX3_rateFor_18 ?_
  refine lv_iload_n hx hb dX3_rateFor_21 rfl (lv_at hl 2 rfl) ?_
  refine tw_aald hx hb hK hT 4 (fx_11 hX) (by decide) cl_e21 rfl (z_in rfl (by omega) (by omega)) dX3_rateFor_22 ?_
  obtain ⟨q_2, hgq_2, htq_2⟩ := ic_l11 hI (x := p1) rfl (by omega) (by omega)
  refine lq_topr hgq_2 ?_
  refine lv_iload_n hx hb dX3_rateFor_23 rfl (lv_at hl 3 rfl) ?_
  have hFc := tw_free hF hS hA
  refine va_calli (va_runV (As := [.int p2]) (rest := [.int 5, .int (y q_1 0), .int 5]) ⟨hx, hb, hml, hown, hts⟩ (c_unknownTo l dC dI ad av s.heap.size a k τ ln y g u q_2 p2 hI htq_2) (cwV 1 hts (gi_4 (List.mem_cons_of_mem _ (List.mem_append_left _ (List.mem_of_getElem? (i := 4) rfl))) (List.mem_cons_of_mem _ (List.mem_append_left _ (List.mem_of_getElem? (i := 5) rfl))) (List.mem_cons_of_mem _ (List.mem_append_left _ (List.mem_of_getElem? (i := 6) rfl))) (List.mem_cons_of_mem _ (List.mem_append_left _ (List.mem_of_getElem? (i := 7) rfl))) (fun _ hh => (List.mem_cons_of_mem _ (List.mem_append_right _ (List.mem_append_right _ (List.mem_append_right _ (List.mem_append_right _ (List.mem_append_left _ hh))))))) gd_c_unknownTo) rfl rfl rfl (by decide +kernel) ⟨Nat.le_of_ble_eq_true rfl, Nat.le_of_ble_eq_true rfl⟩) ⟨pw_blind, tw_recv hK hT htq_2 (by decide) cl_e2 rfl, pw_use hT hK hFc hS hM⟩ rfl rfl hl.1 rfl (lv_room (Nat.le_of_ble_eq_true rfl)) dX3_rateFor_24 ⟨Nat.le_of_ble_eq_true rfl, Nat.le_of_ble_eq_true rfl⟩) hS (fun q _ h => hFc q h) hFc (fun r0 r_3 t H locs ht hvm hw hB hz1 hk1 hS => ?_)
  refine W.widen (k := 0) (n := 0) (Nat.le_of_ble_eq_true rfl) (Nat.le_of_ble_eq_true rfl) ?_
  clear hvm hz1 hk1
  subst hw
  obtain ⟨hf_4, hf_5, hT⟩ := hB
  rw [ht] at hT
  refine lv_imul hx hb dX3_rateFor_27 ?_
  refine lv_topi (fun x_6 ex_6 => ?_)
  have hx_6 := z_mul ex_6 (zk (x := 5) 5 rfl) rfl (by omega) (by omega)
  refine lv_isub hx hb dX3_rateFor_28 ?_
  refine lv_topi (fun x_7 ex_7 => ?_)
  refine va_mmax hx hb (by rw [hml]; exact hl.1.symm) hown (hts (.methodLink RX3 121 Lib.Math.max.name) (List.mem_cons_of_mem _ (List.mem_append_left _ (List.mem_of_getElem? (i := 8) rfl)))) (hts (.static Lib.Math.max.name) (List.mem_cons_of_mem _ (List.mem_append_left _ (List.mem_of_getElem? (i := 9) rfl)))) (hts (.initialized "java/lang/Math") (List.mem_cons_of_mem _ (List.mem_append_left _ (List.mem_of_getElem? (i := 10) rfl)))) (hts (.code Lib.Math.max.name Lib.Math.max.code 2 (some .int)) (List.mem_cons_of_mem _ (List.mem_append_left _ (List.mem_of_getElem? (i := 11) rfl)))) (Nat.le_of_ble_eq_true rfl) (Nat.le_of_ble_eq_true rfl) (Nat.le_of_ble_eq_true rfl) (Nat.le_of_ble_eq_true rfl) dX3_rateFor_29 ?_
  refine lv_topi (fun x_8 ex_8 => ?_)
  have hx_8 := z_max ex_8 (zk (x := 5) 5 rfl) rfl
  exact W.iret (v := x_8) hx hb hr (fun t ht hW9 => ⟨⟨x_8, x_8, rfl, rfl, (tw_at ht hT)⟩, hS.F ht⟩) hS.2.2 dX3_rateFor_32
def wo_c_openHandt : List Cond := [.fieldLink RX3 15 "TypingPool$Floor" "has" "[I", .fieldLink RX3 19 "TypingPool$Floor" "rate" "[I", .fieldLink RX3 22 "TypingPool$Floor" "words" "[I", .fieldLink RX3 25 "TypingPool$Floor" "worked" "[I"]
def wm_c_openHandt : List Cond := .code yX3_openHand cX3_openHand 3 none :: (wo_c_openHandt ++ (wsX30 ++ ([] : List Cond)))
theorem gd_c_openHandt : ∀ w ∈ wm_c_openHandt, goodWord w = true := gd_c rfl (gd_a (by decide) (gd_a gd_wsX30 gd_nil))
set_option maxRecDepth 20000 in
theorem im_c_openHandt : ∀ w ∈ wm_c_openHandt, w ∈ lw_tbl := im_c (in_r [.code yX3_openHand cX3_openHand 3 none] [624] (by decide +kernel)) (in_app (in_r wo_c_openHandt [431, 434, 437, 440] (by decide +kernel)) (in_app im_wsX30 im_nil))
set_option maxHeartbeats 4000000 in
set_option maxRecDepth 100000 in
theorem c_openHandt (l : Launch) (dC : Nat → ClassId) (dI : Nat → Nat → Nat) (ad av : Nat → Nat) (sz : Nat) (a : Nat → Nat) (k : Nat → ClassId) (τ ln : Nat → Nat) (y : Nat → Nat → Int32) (g : Nat → Nat → Option Nat) (u : Nat → Int) (p0 : Int32) (p1 : Int32) (hI : IC a u τ ln y g) (hlp0 : 0 ≤ p0.toInt) (hup0 : p0.toInt < 8) : Met l yX3_openHand wm_c_openHandt ({ frames := 0, cells := 0, slots := 0, locals := 0 }) (pw_ ad av (dC, dI) sz [.ref (a 4), .int p0, .int p1] a k τ ln y g) (va_Qv (fun (_ : Unit) => True) (fun (_ : Unit) (t : State) => (∃ (y' : Nat → Nat → Int32), ag τ [40, 41, 42, 43] y y' ∧ tw (dC, dI) a k τ ln y' g t.heap)) (fr τ sz)) 0 0 (fr τ sz) := by
  refine Met.ofW (cc := cX3_openHand) (maxL := 3) (ret := none) (by decide) rfl ?_
  intro p e s m args below meth c s₁ B hml hv
  obtain ⟨rfl, hsz, hT, hK, hM⟩ := hv
  have hx := B.exec
  have hb := B.bytes
  have hr := B.returns
  have hts := atoms_spec (ws := wm_c_openHandt) B.pre
  have hown : s.vm.findClass RX3 = some m.cls := findClass_of_methodNamed B.named
  have hlocks := B.notSynchronized
  subst hsz
  generalize hAe : fr τ s.heap.size = A at hM ⊢
  have hA : ∀ q : Nat, s.heap.size ≤ q → A q := fun q h => by rw [← hAe]; exact Or.inr h
  have hF : ∀ q, τ q ≠ 0 → A q := fun q h => by rw [← hAe]; exact Or.inl h
  have hS : va_S A s.heap s.heap [] := va_S.rf
  have hX := hI.1
  have hR := ic_r hI
  have hG : ag τ [40, 41, 42, 43] y y := ag.rf
  have hl := lv_entry ([.ref (a 4), .int p0, .int p1]) (n := 3) (Nat.le_of_ble_eq_true rfl)
  rw [lg_entry_eq]
  generalize (lg_sl ([.ref (a 4), .int p0, .int p1]) ++ List.replicate (3 - (lg_sl ([.ref (a 4), .int p0, .int p1])).length) Slot.unset).toArray = ls at hl ⊢
  have hl : lv_has ls 3 [(0, .ref (a 4)), (1, .int p0), (2, .int p1)] := hl
  refine lv_aload_n hx hb dX3_openHand_0 rfl (lv_at hl 0 rfl) ?_
  refine tw_get (D := (dC, dI)) (v := .ref (a 30)) (C := RX3) (T := TX3) (N := 12) hx hb hts (fun _ hh => (List.mem_cons_of_mem _ (List.mem_append_right _ (List.mem_append_left _ hh)))) hown hK hT (fx_4 hX) (by decide) cl_e14 rfl 3 (by decide) (hts (.fieldLink RX3 15 "TypingPool$Floor" "has" "[I") (List.mem_cons_of_mem _ (List.mem_append_left _ (List.mem_of_getElem? (i := 0) rfl)))) (fun _ h9 => h9) rfl dX3_openHand_1 ?_
  refine lv_iload_n hx hb dX3_openHand_4 rfl (lv_at hl 1 rfl) ?_
  refine lv_iconst (v := (-1)) hx hb dX3_openHand_5 (by decide) ?_
  refine tw_iast hx hb hK hT hF hS 0 (fx_30 hX) (by decide) (fun _ => cl_e40) rfl (z_in rfl (by omega) (by omega)) dX3_openHand_6 (fun H locs hT hS => ?_)
  obtain ⟨y_1, hy_1, hT⟩ : ∃ z : Nat → Nat → Int32, z = up2 y (a 30) p0.toNatClampNeg (-1 : Int32) ∧ tw (dC, dI) a k τ ln z g H := ⟨_, rfl, hT⟩
  have hG : ag τ [40, 41, 42, 43] y y_1 := by rw [hy_1]; exact hG.up (fx_30 hX) (by decide)
  have hI := hI.ag (S := [40]) (y' := y_1) (by rw [hy_1]; exact ag.one (fx_30 hX)) (by decide)
  refine lv_aload_n hx hb dX3_openHand_7 rfl (lv_at hl 0 rfl) ?_
  refine tw_get (D := (dC, dI)) (v := .ref (a 31)) (C := RX3) (T := TX3) (N := 12) hx hb hts (fun _ hh => (List.mem_cons_of_mem _ (List.mem_append_right _ (List.mem_append_left _ hh)))) hown hK hT (fx_4 hX) (by decide) cl_e14 rfl 4 (by decide) (hts (.fieldLink RX3 19 "TypingPool$Floor" "rate" "[I") (List.mem_cons_of_mem _ (List.mem_append_left _ (List.mem_of_getElem? (i := 1) rfl)))) (fun _ h9 => h9) rfl dX3_openHand_8 ?_
  refine lv_iload_n hx hb dX3_openHand_11 rfl (lv_at hl 1 rfl) ?_
  refine lv_iconst (v := (-1)) hx hb dX3_openHand_12 (by decide) ?_
  refine tw_iast hx hb hK hT hF hS 0 (fx_31 hX) (by decide) (fun _ => cl_e41) rfl (z_in rfl (by omega) (by omega)) dX3_openHand_13 (fun H locs hT hS => ?_)
  obtain ⟨y_2, hy_2, hT⟩ : ∃ z : Nat → Nat → Int32, z = up2 y_1 (a 31) p0.toNatClampNeg (-1 : Int32) ∧ tw (dC, dI) a k τ ln z g H := ⟨_, rfl, hT⟩
  have hG : ag τ [40, 41, 42, 43] y y_2 := by rw [hy_2]; exact hG.up (fx_31 hX) (by decide)
  have hI := hI.ag (S := [41]) (y' := y_2) (by rw [hy_2]; exact ag.one (fx_31 hX)) (by decide)
  refine lv_aload_n hx hb dX3_openHand_14 rfl (lv_at hl 0 rfl) ?_
  refine tw_get (D := (dC, dI)) (v := .ref (a 32)) (C := RX3) (T := TX3) (N := 12) hx hb hts (fun _ hh => (List.mem_cons_of_mem _ (List.mem_append_right _ (List.mem_append_left _ hh)))) hown hK hT (fx_4 hX) (by decide) cl_e14 rfl 5 (by decide) (hts (.fieldLink RX3 22 "TypingPool$Floor" "words" "[I") (List.mem_cons_of_mem _ (List.mem_append_left _ (List.mem_of_getElem? (i := 2) rfl)))) (fun _ h9 => h9) rfl dX3_openHand_15 ?_
  refine lv_iload_n hx hb dX3_openHand_18 rfl (lv_at hl 1 rfl) ?_
  refine lv_iload_n hx hb dX3_openHand_19 rfl (lv_at hl 2 rfl) ?_
  refine tw_iast hx hb hK hT hF hS 0 (fx_32 hX) (by decide) (fun _ => cl_e42) rfl (z_in rfl (by omega) (by omega)) dX3_openHand_20 (fun H locs hT hS => ?_)
  obtain ⟨y_3, hy_3, hT⟩ : ∃ z : Nat → Nat → Int32, z = up2 y_2 (a 32) p0.toNatClampNeg p1 ∧ tw (dC, dI) a k τ ln z g H := ⟨_, rfl, hT⟩
  have hG : ag τ [40, 41, 42, 43] y y_3 := by rw [hy_3]; exact hG.up (fx_32 hX) (by decide)
  have hI := hI.ag (S := [42]) (y' := y_3) (by rw [hy_3]; exact ag.one (fx_32 hX)) (by decide)
  refine lv_aload_n hx hb dX3_openHand_21 rfl (lv_at hl 0 rfl) ?_
  refine tw_get (D := (dC, dI)) (v := .ref (a 33)) (C := RX3) (T := TX3) (N := 12) hx hb hts (fun _ hh => (List.mem_cons_of_mem _ (List.mem_append_right _ (List.mem_append_left _ hh)))) hown hK hT (fx_4 hX) (by decide) cl_e14 rfl 6 (by decide) (hts (.fieldLink RX3 25 "TypingPool$Floor" "worked" "[I") (List.mem_cons_of_mem _ (List.mem_append_left _ (List.mem_of_getElem? (i := 3) rfl)))) (fun _ h9 => h9) rfl dX3_openHand_22 ?_
  refine lv_iload_n hx hb dX3_openHand_25 rfl (lv_at hl 1 rfl) ?_
  refine lv_iconst (v := 0) hx hb dX3_openHand_26 (by decide) ?_
  refine tw_iast hx hb hK hT hF hS 0 (fx_33 hX) (by decide) (fun _ => cl_e43) rfl (z_in rfl (by omega) (by omega)) dX3_openHand_27 (fun H locs hT hS => ?_)
  obtain ⟨y_4, hy_4, hT⟩ : ∃ z : Nat → Nat → Int32, z = up2 y_3 (a 33) p0.toNatClampNeg (0 : Int32) ∧ tw (dC, dI) a k τ ln z g H := ⟨_, rfl, hT⟩
  have hG : ag τ [40, 41, 42, 43] y y_4 := by rw [hy_4]; exact hG.up (fx_33 hX) (by decide)
  have hI := hI.ag (S := [43]) (y' := y_4) (by rw [hy_4]; exact ag.one (fx_33 hX)) (by decide)
  exact W.vret hx hb hr (fun t ht hW9 => ⟨⟨(), rfl, trivial, ⟨y_4, hG, tw_at ht hT⟩⟩, hS.F ht⟩) hS.2.2 dX3_openHand_28
def wo_c_openPiecet : List Cond := [.fieldLink RX3 28 "TypingPool$Floor" "by" "[I", .fieldLink RX3 31 "TypingPool$Floor" "taken" "[I", .fieldLink RX3 34 "TypingPool$Floor" "done" "[I", .fieldLink RX3 37 "TypingPool$Floor" "workLeft" "[I", .fieldLink RX3 40 "TypingPool$Floor" "knew" "[I"]
def wm_c_openPiecet : List Cond := .code yX3_openPiece cX3_openPiece 3 none :: (wo_c_openPiecet ++ (wsX30 ++ ([] : List Cond)))
theorem gd_c_openPiecet : ∀ w ∈ wm_c_openPiecet, goodWord w = true := gd_c rfl (gd_a (by decide) (gd_a gd_wsX30 gd_nil))
set_option maxRecDepth 20000 in
theorem im_c_openPiecet : ∀ w ∈ wm_c_openPiecet, w ∈ lw_tbl := im_c (in_r [.code yX3_openPiece cX3_openPiece 3 none] [726] (by decide +kernel)) (in_app (in_r wo_c_openPiecet [442, 444, 446, 449, 452] (by decide +kernel)) (in_app im_wsX30 im_nil))
set_option maxHeartbeats 4000000 in
set_option maxRecDepth 100000 in
theorem c_openPiecet (l : Launch) (dC : Nat → ClassId) (dI : Nat → Nat → Nat) (ad av : Nat → Nat) (sz : Nat) (a : Nat → Nat) (k : Nat → ClassId) (τ ln : Nat → Nat) (y : Nat → Nat → Int32) (g : Nat → Nat → Option Nat) (u : Nat → Int) (p0 : Int32) (p1 : Int32) (hI : IC a u τ ln y g) (hlp0 : 0 ≤ p0.toInt) (hup0 : p0.toInt < 30) : Met l yX3_openPiece wm_c_openPiecet ({ frames := 0, cells := 0, slots := 0, locals := 0 }) (pw_ ad av (dC, dI) sz [.ref (a 4), .int p0, .int p1] a k τ ln y g) (va_Qv (fun (_ : Unit) => True) (fun (_ : Unit) (t : State) => (∃ (y' : Nat → Nat → Int32), ag τ [44, 45, 46, 47, 48] y y' ∧ tw (dC, dI) a k τ ln y' g t.heap)) (fr τ sz)) 0 0 (fr τ sz) := by
  refine Met.ofW (cc := cX3_openPiece) (maxL := 3) (ret := none) (by decide) rfl ?_
  intro p e s m args below meth c s₁ B hml hv
  obtain ⟨rfl, hsz, hT, hK, hM⟩ := hv
  have hx := B.exec
  have hb := B.bytes
  have hr := B.returns
  have hts := atoms_spec (ws := wm_c_openPiecet) B.pre
  have hown : s.vm.findClass RX3 = some m.cls := findClass_of_methodNamed B.named
  have hlocks := B.notSynchronized
  subst hsz
  generalize hAe : fr τ s.heap.size = A at hM ⊢
  have hA : ∀ q : Nat, s.heap.size ≤ q → A q := fun q h => by rw [← hAe]; exact Or.inr h
  have hF : ∀ q, τ q ≠ 0 → A q := fun q h => by rw [← hAe]; exact Or.inl h
  have hS : va_S A s.heap s.heap [] := va_S.rf
  have hX := hI.1
  have hR := ic_r hI
  have hG : ag τ [44, 45, 46, 47, 48] y y := ag.rf
  have hl := lv_entry ([.ref (a 4), .int p0, .int p1]) (n := 3) (Nat.le_of_ble_eq_true rfl)
  rw [lg_entry_eq]
  generalize (lg_sl ([.ref (a 4), .int p0, .int p1]) ++ List.replicate (3 - (lg_sl ([.ref (a 4), .int p0, .int p1])).length) Slot.unset).toArray = ls at hl ⊢
  have hl : lv_has ls 3 [(0, .ref (a 4)), (1, .int p0), (2, .int p1)] := hl
  refine lv_aload_n hx hb dX3_openPiece_0 rfl (lv_at hl 0 rfl) ?_
  refine tw_get (D := (dC, dI)) (v := .ref (a 34)) (C := RX3) (T := TX3) (N := 12) hx hb hts (fun _ hh => (List.mem_cons_of_mem _ (List.mem_append_right _ (List.mem_append_left _ hh)))) hown hK hT (fx_4 hX) (by decide) cl_e14 rfl 7 (by decide) (hts (.fieldLink RX3 28 "TypingPool$Floor" "by" "[I") (List.mem_cons_of_mem _ (List.mem_append_left _ (List.mem_of_getElem? (i := 0) rfl)))) (fun _ h9 => h9) rfl dX3_openPiece_1 ?_
  refine lv_iload_n hx hb dX3_openPiece_4 rfl (lv_at hl 1 rfl) ?_
  refine lv_iconst (v := (-1)) hx hb dX3_openPiece_5 (by decide) ?_
  refine tw_iast hx hb hK hT hF hS 0 (fx_34 hX) (by decide) (fun _ => cl_e44) rfl (z_in rfl (by omega) (by omega)) dX3_openPiece_6 (fun H locs hT hS => ?_)
  obtain ⟨y_1, hy_1, hT⟩ : ∃ z : Nat → Nat → Int32, z = up2 y (a 34) p0.toNatClampNeg (-1 : Int32) ∧ tw (dC, dI) a k τ ln z g H := ⟨_, rfl, hT⟩
  have hG : ag τ [44, 45, 46, 47, 48] y y_1 := by rw [hy_1]; exact hG.up (fx_34 hX) (by decide)
  have hI := hI.ag (S := [44]) (y' := y_1) (by rw [hy_1]; exact ag.one (fx_34 hX)) (by decide)
  refine lv_aload_n hx hb dX3_openPiece_7 rfl (lv_at hl 0 rfl) ?_
  refine tw_get (D := (dC, dI)) (v := .ref (a 35)) (C := RX3) (T := TX3) (N := 12) hx hb hts (fun _ hh => (List.mem_cons_of_mem _ (List.mem_append_right _ (List.mem_append_left _ hh)))) hown hK hT (fx_4 hX) (by decide) cl_e14 rfl 8 (by decide) (hts (.fieldLink RX3 31 "TypingPool$Floor" "taken" "[I") (List.mem_cons_of_mem _ (List.mem_append_left _ (List.mem_of_getElem? (i := 1) rfl)))) (fun _ h9 => h9) rfl dX3_openPiece_8 ?_
  refine lv_iload_n hx hb dX3_openPiece_11 rfl (lv_at hl 1 rfl) ?_
  refine lv_iconst (v := (-1)) hx hb dX3_openPiece_12 (by decide) ?_
  refine tw_iast hx hb hK hT hF hS 0 (fx_35 hX) (by decide) (fun _ => cl_e45) rfl (z_in rfl (by omega) (by omega)) dX3_openPiece_13 (fun H locs hT hS => ?_)
  obtain ⟨y_2, hy_2, hT⟩ : ∃ z : Nat → Nat → Int32, z = up2 y_1 (a 35) p0.toNatClampNeg (-1 : Int32) ∧ tw (dC, dI) a k τ ln z g H := ⟨_, rfl, hT⟩
  have hG : ag τ [44, 45, 46, 47, 48] y y_2 := by rw [hy_2]; exact hG.up (fx_35 hX) (by decide)
  have hI := hI.ag (S := [45]) (y' := y_2) (by rw [hy_2]; exact ag.one (fx_35 hX)) (by decide)
  refine lv_aload_n hx hb dX3_openPiece_14 rfl (lv_at hl 0 rfl) ?_
  refine tw_get (D := (dC, dI)) (v := .ref (a 36)) (C := RX3) (T := TX3) (N := 12) hx hb hts (fun _ hh => (List.mem_cons_of_mem _ (List.mem_append_right _ (List.mem_append_left _ hh)))) hown hK hT (fx_4 hX) (by decide) cl_e14 rfl 9 (by decide) (hts (.fieldLink RX3 34 "TypingPool$Floor" "done" "[I") (List.mem_cons_of_mem _ (List.mem_append_left _ (List.mem_of_getElem? (i := 2) rfl)))) (fun _ h9 => h9) rfl dX3_openPiece_15 ?_
  refine lv_iload_n hx hb dX3_openPiece_18 rfl (lv_at hl 1 rfl) ?_
  refine lv_iconst (v := (-1)) hx hb dX3_openPiece_19 (by decide) ?_
  refine tw_iast hx hb hK hT hF hS 0 (fx_36 hX) (by decide) (fun _ => cl_e46) rfl (z_in rfl (by omega) (by omega)) dX3_openPiece_20 (fun H locs hT hS => ?_)
  obtain ⟨y_3, hy_3, hT⟩ : ∃ z : Nat → Nat → Int32, z = up2 y_2 (a 36) p0.toNatClampNeg (-1 : Int32) ∧ tw (dC, dI) a k τ ln z g H := ⟨_, rfl, hT⟩
  have hG : ag τ [44, 45, 46, 47, 48] y y_3 := by rw [hy_3]; exact hG.up (fx_36 hX) (by decide)
  have hI := hI.ag (S := [46]) (y' := y_3) (by rw [hy_3]; exact ag.one (fx_36 hX)) (by decide)
  refine lv_aload_n hx hb dX3_openPiece_21 rfl (lv_at hl 0 rfl) ?_
  refine tw_get (D := (dC, dI)) (v := .ref (a 37)) (C := RX3) (T := TX3) (N := 12) hx hb hts (fun _ hh => (List.mem_cons_of_mem _ (List.mem_append_right _ (List.mem_append_left _ hh)))) hown hK hT (fx_4 hX) (by decide) cl_e14 rfl 10 (by decide) (hts (.fieldLink RX3 37 "TypingPool$Floor" "workLeft" "[I") (List.mem_cons_of_mem _ (List.mem_append_left _ (List.mem_of_getElem? (i := 3) rfl)))) (fun _ h9 => h9) rfl dX3_openPiece_22 ?_
  refine lv_iload_n hx hb dX3_openPiece_25 rfl (lv_at hl 1 rfl) ?_
  refine lv_iload_n hx hb dX3_openPiece_26 rfl (lv_at hl 2 rfl) ?_
  refine tw_iast hx hb hK hT hF hS 0 (fx_37 hX) (by decide) (fun _ => cl_e47) rfl (z_in rfl (by omega) (by omega)) dX3_openPiece_27 (fun H locs hT hS => ?_)
  obtain ⟨y_4, hy_4, hT⟩ : ∃ z : Nat → Nat → Int32, z = up2 y_3 (a 37) p0.toNatClampNeg p1 ∧ tw (dC, dI) a k τ ln z g H := ⟨_, rfl, hT⟩
  have hG : ag τ [44, 45, 46, 47, 48] y y_4 := by rw [hy_4]; exact hG.up (fx_37 hX) (by decide)
  have hI := hI.ag (S := [47]) (y' := y_4) (by rw [hy_4]; exact ag.one (fx_37 hX)) (by decide)
  refine lv_aload_n hx hb dX3_openPiece_28 rfl (lv_at hl 0 rfl) ?_
  refine tw_get (D := (dC, dI)) (v := .ref (a 38)) (C := RX3) (T := TX3) (N := 12) hx hb hts (fun _ hh => (List.mem_cons_of_mem _ (List.mem_append_right _ (List.mem_append_left _ hh)))) hown hK hT (fx_4 hX) (by decide) cl_e14 rfl 11 (by decide) (hts (.fieldLink RX3 40 "TypingPool$Floor" "knew" "[I") (List.mem_cons_of_mem _ (List.mem_append_left _ (List.mem_of_getElem? (i := 4) rfl)))) (fun _ h9 => h9) rfl dX3_openPiece_29 ?_
  refine lv_iload_n hx hb dX3_openPiece_32 rfl (lv_at hl 1 rfl) ?_
  refine lv_iconst (v := 0) hx hb dX3_openPiece_33 (by decide) ?_
  refine tw_iast hx hb hK hT hF hS 0 (fx_38 hX) (by decide) (fun _ => cl_e48) rfl (z_in rfl (by omega) (by omega)) dX3_openPiece_34 (fun H locs hT hS => ?_)
  obtain ⟨y_5, hy_5, hT⟩ : ∃ z : Nat → Nat → Int32, z = up2 y_4 (a 38) p0.toNatClampNeg (0 : Int32) ∧ tw (dC, dI) a k τ ln z g H := ⟨_, rfl, hT⟩
  have hG : ag τ [44, 45, 46, 47, 48] y y_5 := by rw [hy_5]; exact hG.up (fx_38 hX) (by decide)
  have hI := hI.ag (S := [48]) (y' := y_5) (by rw [hy_5]; exact ag.one (fx_38 hX)) (by decide)
  exact W.vret hx hb hr (fun t ht hW9 => ⟨⟨(), rfl, trivial, ⟨y_5, hG, tw_at ht hT⟩⟩, hS.F ht⟩) hS.2.2 dX3_openPiece_35
def wo_c_isBusyt : List Cond := [.fieldLink RX3 43 "TypingPool$Floor" "book" "LTypingPool$Book;", .fieldLink RX3 15 "TypingPool$Floor" "has" "[I", .methodLink RX3 139 yX1_hasPiece, .instanceMethod yX1_hasPiece, .selects RX1 yX1_hasPiece yX1_hasPiece, .initialized RX1]
def wm_c_isBusyt : List Cond := .code yX3_isBusy cX3_isBusy 3 (some .boolean) :: (wo_c_isBusyt ++ (wsX30 ++ (wm_c_hasPiece ++ ([] : List Cond))))
theorem gd_c_isBusyt : ∀ w ∈ wm_c_isBusyt, goodWord w = true := gd_c rfl (gd_a (by decide) (gd_a gd_wsX30 (gd_a gd_c_hasPiece gd_nil)))
set_option maxRecDepth 20000 in
theorem im_c_isBusyt : ∀ w ∈ wm_c_isBusyt, w ∈ lw_tbl := im_c (in_r [.code yX3_isBusy cX3_isBusy 3 (some .boolean)] [839] (by decide +kernel)) (in_app (in_r wo_c_isBusyt [426, 431, 840, 841, 842, 71] (by decide +kernel)) (in_app im_wsX30 (in_app im_c_hasPiece im_nil)))
set_option maxHeartbeats 4000000 in
set_option maxRecDepth 100000 in
theorem c_isBusyt (l : Launch) (dC : Nat → ClassId) (dI : Nat → Nat → Nat) (ad av : Nat → Nat) (sz : Nat) (a : Nat → Nat) (k : Nat → ClassId) (τ ln : Nat → Nat) (y : Nat → Nat → Int32) (g : Nat → Nat → Option Nat) (u : Nat → Int) (p0 : Int32) (p1 : Int32) (hI : IC a u τ ln y g) (hlp0 : 0 ≤ p0.toInt) (hup0 : p0.toInt < u 1) : Met l yX3_isBusy wm_c_isBusyt ({ frames := 1, cells := 0, slots := 0, locals := 60 }) (pw_ ad av (dC, dI) sz [.ref (a 4), .int p0, .int p1] a k τ ln y g) (va_Qi (fun (r u : Int32) => u = r) (fun (r : Int32) (t : State) => (r = 1 ∧ 0 ≤ (y (a 30) p0.toNatClampNeg).toInt ∧ (y (a 30) p0.toNatClampNeg).toInt < u 2 ∧ tw (dC, dI) a k τ ln y g t.heap) ∨ (r = 0 ∧ tw (dC, dI) a k τ ln y g t.heap)) (fr τ sz)) 0 0 (fr τ sz) := by
  refine Met.ofW (cc := cX3_isBusy) (maxL := 3) (ret := (some .boolean)) (by decide) rfl ?_
  intro p e s m args below meth c s₁ B hml hv
  obtain ⟨rfl, hsz, hT, hK, hM⟩ := hv
  have hx := B.exec
  have hb := B.bytes
  have hr := B.returns
  have hts := atoms_spec (ws := wm_c_isBusyt) B.pre
  have hown : s.vm.findClass RX3 = some m.cls := findClass_of_methodNamed B.named
  have hlocks := B.notSynchronized
  subst hsz
  generalize hAe : fr τ s.heap.size = A at hM ⊢
  have hA : ∀ q : Nat, s.heap.size ≤ q → A q := fun q h => by rw [← hAe]; exact Or.inr h
  have hF : ∀ q, τ q ≠ 0 → A q := fun q h => by rw [← hAe]; exact Or.inl h
  have hS : va_S A s.heap s.heap [] := va_S.rf
  have hX := hI.1
  have hR := ic_r hI
  have hl := lv_entry ([.ref (a 4), .int p0, .int p1]) (n := 3) (Nat.le_of_ble_eq_true rfl)
  rw [lg_entry_eq]
  generalize (lg_sl ([.ref (a 4), .int p0, .int p1]) ++ List.replicate (3 - (lg_sl ([.ref (a 4), .int p0, .int p1])).length) Slot.unset).toArray = ls at hl ⊢
  have hl : lv_has ls 3 [(0, .ref (a 4)), (1, .int p0), (2, .int p1)] := hl
  refine lv_iload_n hx hb dX3_isBusy_0 rfl (lv_at hl 2 rfl) ?_
  refine lv_iload_n hx hb dX3_isBusy_1 rfl (lv_at hl 1 rfl) ?_
  refine lv_ishr hx hb dX3_isBusy_2 ?_
  refine lv_topi (fun x_1 ex_1 => ?_)
  refine lv_iconst (v := 1) hx hb dX3_isBusy_3 (by decide) ?_
  refine lv_iand hx hb dX3_isBusy_4 ?_
  refine lv_topi (fun x_2 ex_2 => ?_)
  have hx_2 := z_and (x := x_1) (zk (x := 1) 1 rfl) (by omega)
  rw [← ex_2] at hx_2
  refine lv_if_ne (tgt := 28) hx hb dX3_isBusy_5 (by decide) (fun c_3 => ?_) (fun c_3 => ?_)
  · have nc_3 := z_ne rfl (zk (x := 0) 0 rfl) c_3
    refine lv_iconst (v := 0) hx hb dX3_isBusy_28 (by decide) ?_
    exact W.zret (v := 0) hx hb hr (by decide) (fun t ht hW9 => ⟨⟨0, 0, rfl, rfl, Or.inr (⟨rfl, tw_at ht hT⟩)⟩, hS.F ht⟩) hS.2.2 dX3_isBusy_29
  · have nc_3 := z_eq rfl (zk (x := 0) 0 rfl) c_3
    refine lv_aload_n hx hb dX3_isBusy_8 rfl (lv_at hl 0 rfl) ?_
    refine tw_get (D := (dC, dI)) (v := .ref (a 1)) (C := RX3) (T := TX3) (N := 12) hx hb hts (fun _ hh => (List.mem_cons_of_mem _ (List.mem_append_right _ (List.mem_append_left _ hh)))) hown hK hT (fx_4 hX) (by decide) cl_e14 rfl 0 (by decide) (hts (.fieldLink RX3 43 "TypingPool$Floor" "book" "LTypingPool$Book;") (List.mem_cons_of_mem _ (List.mem_append_left _ (List.mem_of_getElem? (i := 0) rfl)))) (fun _ h9 => h9) rfl dX3_isBusy_9 ?_
    refine lv_aload_n hx hb dX3_isBusy_12 rfl (lv_at hl 0 rfl) ?_
    refine tw_get (D := (dC, dI)) (v := .ref (a 30)) (C := RX3) (T := TX3) (N := 12) hx hb hts (fun _ hh => (List.mem_cons_of_mem _ (List.mem_append_right _ (List.mem_append_left _ hh)))) hown hK hT (fx_4 hX) (by decide) cl_e14 rfl 3 (by decide) (hts (.fieldLink RX3 15 "TypingPool$Floor" "has" "[I") (List.mem_cons_of_mem _ (List.mem_append_left _ (List.mem_of_getElem? (i := 1) rfl)))) (fun _ h9 => h9) rfl dX3_isBusy_13 ?_
    refine lv_iload_n hx hb dX3_isBusy_16 rfl (lv_at hl 1 rfl) ?_
    refine tw_iald hx hb hK hT 0 (fx_30 hX) (by decide) cl_e40 rfl (z_in rfl (by omega) (by omega)) dX3_isBusy_17 ?_
    have hFc := tw_free hF hS hA
    refine va_calli (va_runV (As := [.int (y (a 30) p0.toNatClampNeg)]) (rest := []) ⟨hx, hb, hml, hown, hts⟩ (c_hasPiece l dC dI ad av s.heap.size a k τ ln y g u (y (a 30) p0.toNatClampNeg) hI ) (cwV 1 hts (gi_4 (List.mem_cons_of_mem _ (List.mem_append_left _ (List.mem_of_getElem? (i := 2) rfl))) (List.mem_cons_of_mem _ (List.mem_append_left _ (List.mem_of_getElem? (i := 3) rfl))) (List.mem_cons_of_mem _ (List.mem_append_left _ (List.mem_of_getElem? (i := 4) rfl))) (List.mem_cons_of_mem _ (List.mem_append_left _ (List.mem_of_getElem? (i := 5) rfl))) (fun _ hh => (List.mem_cons_of_mem _ (List.mem_append_right _ (List.mem_append_right _ (List.mem_append_left _ hh))))) gd_c_hasPiece) rfl rfl rfl (by decide +kernel) ⟨Nat.le_of_ble_eq_true rfl, Nat.le_of_ble_eq_true rfl⟩) ⟨pw_blind, tw_recv hK hT (fx_1 hX) (by decide) cl_e11 rfl, pw_use hT hK hFc hS hM⟩ rfl rfl hl.1 rfl (lv_room (Nat.le_of_ble_eq_true rfl)) dX3_isBusy_18 ⟨Nat.le_of_ble_eq_true rfl, Nat.le_of_ble_eq_true rfl⟩) hS (fun q _ h => hFc q h) hFc (fun r0 r_4 t H locs ht hvm hw hB hz1 hk1 hS => ?_)
    refine W.widen (k := 0) (n := 0) (Nat.le_of_ble_eq_true rfl) (Nat.le_of_ble_eq_true rfl) ?_
    clear hvm hz1 hk1
    subst hw
    rcases hB with ⟨hre, hf_5, hf_6, hT⟩ | ⟨hre, hf_7, hT⟩
    · refine lq_top (v := 1) hre ?_
      rw [ht] at hT
      refine lv_if_eq (tgt := 28) hx hb dX3_isBusy_21 (by decide) (fun c_8 => absurd c_8 (by decide)) (fun c_8 => ?_)
      refine lv_iconst (v := 1) hx hb dX3_isBusy_24 (by decide) ?_
      refine lv_goto (tgt := 29) hx hb dX3_isBusy_25 (by decide) ?_
      have hrv : (1 : Int32).toInt = 1 := (zk (x := 1) 1 rfl)
      exact W.zret (v := 1) hx hb hr (by decide) (fun t ht hW9 => ⟨⟨1, 1, rfl, rfl, Or.inl ⟨rfl, by omega, by omega, tw_at ht hT⟩⟩, hS.F ht⟩) hS.2.2 dX3_isBusy_29
    · refine lq_top (v := 0) hre ?_
      rw [ht] at hT
      refine lv_if_eq (tgt := 28) hx hb dX3_isBusy_21 (by decide) (fun c_9 => ?_) (fun c_9 => absurd c_9 (by decide))
      refine lv_iconst (v := 0) hx hb dX3_isBusy_28 (by decide) ?_
      exact W.zret (v := 0) hx hb hr (by decide) (fun t ht hW9 => ⟨⟨0, 0, rfl, rfl, Or.inr (⟨rfl, tw_at ht hT⟩)⟩, hS.F ht⟩) hS.2.2 dX3_isBusy_29
def wo_c_finisht : List Cond := [.fieldLink RX3 37 "TypingPool$Floor" "workLeft" "[I", .fieldLink RX3 34 "TypingPool$Floor" "done" "[I", .fieldLink RX3 22 "TypingPool$Floor" "words" "[I", .fieldLink RX3 43 "TypingPool$Floor" "book" "LTypingPool$Book;", .fieldLink RX3 103 "TypingPool$Book" "pieces" "[LTypingPool$Piece;", .fieldLink RX3 147 "TypingPool$Piece" "words" "I", .fieldLink RX3 15 "TypingPool$Floor" "has" "[I", .fieldLink RX3 19 "TypingPool$Floor" "rate" "[I"]
def wm_c_finisht : List Cond := .code yX3_finish cX3_finish 4 none :: (wo_c_finisht ++ (wsX30 ++ (wsX10 ++ (wsX60 ++ ([] : List Cond)))))
theorem gd_c_finisht : ∀ w ∈ wm_c_finisht, goodWord w = true := gd_c rfl (gd_a (by decide) (gd_a gd_wsX30 (gd_a gd_wsX10 (gd_a gd_wsX60 gd_nil))))
set_option maxRecDepth 20000 in
theorem im_c_finisht : ∀ w ∈ wm_c_finisht, w ∈ lw_tbl := im_c (in_r [.code yX3_finish cX3_finish 4 none] [854] (by decide +kernel)) (in_app (in_r wo_c_finisht [449, 446, 437, 426, 130, 688, 431, 434] (by decide +kernel)) (in_app im_wsX30 (in_app im_wsX10 (in_app im_wsX60 im_nil))))
set_option maxHeartbeats 4000000 in
set_option maxRecDepth 100000 in
theorem c_finisht (l : Launch) (dC : Nat → ClassId) (dI : Nat → Nat → Nat) (ad av : Nat → Nat) (sz : Nat) (a : Nat → Nat) (k : Nat → ClassId) (τ ln : Nat → Nat) (y : Nat → Nat → Int32) (g : Nat → Nat → Option Nat) (u : Nat → Int) (p0 : Int32) (p1 : Int32) (p2 : Int32) (hI : IC a u τ ln y g) (hlp0 : 0 ≤ p0.toInt) (hup0 : p0.toInt < u 1) (hlp1 : 0 ≤ p1.toInt) (hup1 : p1.toInt < u 2) : Met l yX3_finish wm_c_finisht ({ frames := 0, cells := 0, slots := 0, locals := 0 }) (pw_ ad av (dC, dI) sz [.ref (a 4), .int p0, .int p1, .int p2] a k τ ln y g) (va_Qv (fun (_ : Unit) => True) (fun (_ : Unit) (t : State) => (∃ (y' : Nat → Nat → Int32), ag τ [40, 41, 42, 46, 47] y y' ∧ tw (dC, dI) a k τ ln y' g t.heap)) (fr τ sz)) 0 0 (fr τ sz) := by
  refine Met.ofW (cc := cX3_finish) (maxL := 4) (ret := none) (by decide) rfl ?_
  intro p e s m args below meth c s₁ B hml hv
  obtain ⟨rfl, hsz, hT, hK, hM⟩ := hv
  have hx := B.exec
  have hb := B.bytes
  have hr := B.returns
  have hts := atoms_spec (ws := wm_c_finisht) B.pre
  have hown : s.vm.findClass RX3 = some m.cls := findClass_of_methodNamed B.named
  have hlocks := B.notSynchronized
  subst hsz
  generalize hAe : fr τ s.heap.size = A at hM ⊢
  have hA : ∀ q : Nat, s.heap.size ≤ q → A q := fun q h => by rw [← hAe]; exact Or.inr h
  have hF : ∀ q, τ q ≠ 0 → A q := fun q h => by rw [← hAe]; exact Or.inl h
  have hS : va_S A s.heap s.heap [] := va_S.rf
  have hX := hI.1
  have hR := ic_r hI
  have hG : ag τ [40, 41, 42, 46, 47] y y := ag.rf
  have hl := lv_entry ([.ref (a 4), .int p0, .int p1, .int p2]) (n := 4) (Nat.le_of_ble_eq_true rfl)
  rw [lg_entry_eq]
  generalize (lg_sl ([.ref (a 4), .int p0, .int p1, .int p2]) ++ List.replicate (4 - (lg_sl ([.ref (a 4), .int p0, .int p1, .int p2])).length) Slot.unset).toArray = ls at hl ⊢
  have hl : lv_has ls 4 [(0, .ref (a 4)), (1, .int p0), (2, .int p1), (3, .int p2)] := hl
  refine lv_aload_n hx hb dX3_finish_0 rfl (lv_at hl 0 rfl) ?_
  refine tw_get (D := (dC, dI)) (v := .ref (a 37)) (C := RX3) (T := TX3) (N := 12) hx hb hts (fun _ hh => (List.mem_cons_of_mem _ (List.mem_append_right _ (List.mem_append_left _ hh)))) hown hK hT (fx_4 hX) (by decide) cl_e14 rfl 10 (by decide) (hts (.fieldLink RX3 37 "TypingPool$Floor" "workLeft" "[I") (List.mem_cons_of_mem _ (List.mem_append_left _ (List.mem_of_getElem? (i := 0) rfl)))) (fun _ h9 => h9) rfl dX3_finish_1 ?_
  refine lv_iload_n hx hb dX3_finish_4 rfl (lv_at hl 2 rfl) ?_
  refine lv_iconst (v := 0) hx hb dX3_finish_5 (by decide) ?_
  refine tw_iast hx hb hK hT hF hS 0 (fx_37 hX) (by decide) (fun _ => cl_e47) rfl (z_in rfl (by omega) (by omega)) dX3_finish_6 (fun H locs hT hS => ?_)
  obtain ⟨y_1, hy_1, hT⟩ : ∃ z : Nat → Nat → Int32, z = up2 y (a 37) p1.toNatClampNeg (0 : Int32) ∧ tw (dC, dI) a k τ ln z g H := ⟨_, rfl, hT⟩
  have hG : ag τ [40, 41, 42, 46, 47] y y_1 := by rw [hy_1]; exact hG.up (fx_37 hX) (by decide)
  have hI := hI.ag (S := [47]) (y' := y_1) (by rw [hy_1]; exact ag.one (fx_37 hX)) (by decide)
  refine lv_aload_n hx hb dX3_finish_7 rfl (lv_at hl 0 rfl) ?_
  refine tw_get (D := (dC, dI)) (v := .ref (a 36)) (C := RX3) (T := TX3) (N := 12) hx hb hts (fun _ hh => (List.mem_cons_of_mem _ (List.mem_append_right _ (List.mem_append_left _ hh)))) hown hK hT (fx_4 hX) (by decide) cl_e14 rfl 9 (by decide) (hts (.fieldLink RX3 34 "TypingPool$Floor" "done" "[I") (List.mem_cons_of_mem _ (List.mem_append_left _ (List.mem_of_getElem? (i := 1) rfl)))) (fun _ h9 => h9) rfl dX3_finish_8 ?_
  refine lv_iload_n hx hb dX3_finish_11 rfl (lv_at hl 2 rfl) ?_
  refine lv_iload_n hx hb dX3_finish_12 rfl (lv_at hl 3 rfl) ?_
  refine tw_iast hx hb hK hT hF hS 0 (fx_36 hX) (by decide) (fun _ => cl_e46) rfl (z_in rfl (by omega) (by omega)) dX3_finish_13 (fun H locs hT hS => ?_)
  obtain ⟨y_2, hy_2, hT⟩ : ∃ z : Nat → Nat → Int32, z = up2 y_1 (a 36) p1.toNatClampNeg p2 ∧ tw (dC, dI) a k τ ln z g H := ⟨_, rfl, hT⟩
  have hG : ag τ [40, 41, 42, 46, 47] y y_2 := by rw [hy_2]; exact hG.up (fx_36 hX) (by decide)
  have hI := hI.ag (S := [46]) (y' := y_2) (by rw [hy_2]; exact ag.one (fx_36 hX)) (by decide)
  refine lv_aload_n hx hb dX3_finish_14 rfl (lv_at hl 0 rfl) ?_
  refine tw_get (D := (dC, dI)) (v := .ref (a 32)) (C := RX3) (T := TX3) (N := 12) hx hb hts (fun _ hh => (List.mem_cons_of_mem _ (List.mem_append_right _ (List.mem_append_left _ hh)))) hown hK hT (fx_4 hX) (by decide) cl_e14 rfl 5 (by decide) (hts (.fieldLink RX3 22 "TypingPool$Floor" "words" "[I") (List.mem_cons_of_mem _ (List.mem_append_left _ (List.mem_of_getElem? (i := 2) rfl)))) (fun _ h9 => h9) rfl dX3_finish_15 ?_
  refine lv_iload_n hx hb dX3_finish_18 rfl (lv_at hl 1 rfl) ?_
  refine lv_dup2_11 hx hb dX3_finish_19 rfl rfl ?_
  refine tw_iald hx hb hK hT 0 (fx_32 hX) (by decide) cl_e42 rfl (z_in rfl (by omega) (by omega)) dX3_finish_20 ?_
  refine lv_aload_n hx hb dX3_finish_21 rfl (lv_at hl 0 rfl) ?_
  refine tw_get (D := (dC, dI)) (v := .ref (a 1)) (C := RX3) (T := TX3) (N := 12) hx hb hts (fun _ hh => (List.mem_cons_of_mem _ (List.mem_append_right _ (List.mem_append_left _ hh)))) hown hK hT (fx_4 hX) (by decide) cl_e14 rfl 0 (by decide) (hts (.fieldLink RX3 43 "TypingPool$Floor" "book" "LTypingPool$Book;") (List.mem_cons_of_mem _ (List.mem_append_left _ (List.mem_of_getElem? (i := 3) rfl)))) (fun _ h9 => h9) rfl dX3_finish_22 ?_
  refine tw_get (D := (dC, dI)) (v := .ref (a 11)) (C := RX1) (T := TX1) (N := 8) hx hb hts (fun _ hh => (List.mem_cons_of_mem _ (List.mem_append_right _ (List.mem_append_right _ (List.mem_append_left _ hh))))) hown hK hT (fx_1 hX) (by decide) cl_e11 rfl 4 (by decide) (hts (.fieldLink RX3 103 "TypingPool$Book" "pieces" "[LTypingPool$Piece;") (List.mem_cons_of_mem _ (List.mem_append_left _ (List.mem_of_getElem? (i := 4) rfl)))) (fun _ h9 => h9) rfl dX3_finish_25 ?_
  refine lv_iload_n hx hb dX3_finish_28 rfl (lv_at hl 2 rfl) ?_
  refine tw_aald hx hb hK hT 4 (fx_11 hX) (by decide) cl_e21 rfl (z_in rfl (by omega) (by omega)) dX3_finish_29 ?_
  obtain ⟨q_3, hgq_3, htq_3⟩ := ic_l11 hI (x := p1) rfl (by omega) (by omega)
  refine lq_topr hgq_3 ?_
  refine tw_get (D := (dC, dI)) (v := .int (y_2 q_3 7)) (C := RX6) (T := TX6) (N := 11) hx hb hts (fun _ hh => (List.mem_cons_of_mem _ (List.mem_append_right _ (List.mem_append_right _ (List.mem_append_right _ (List.mem_append_left _ hh)))))) hown hK hT htq_3 (by decide) cl_e2 rfl 7 (by decide) (hts (.fieldLink RX3 147 "TypingPool$Piece" "words" "I") (List.mem_cons_of_mem _ (List.mem_append_left _ (List.mem_of_getElem? (i := 5) rfl)))) (fun _ h9 => h9) rfl dX3_finish_30 ?_
  refine lv_ior hx hb dX3_finish_33 ?_
  refine lv_topi (fun x_4 ex_4 => ?_)
  refine tw_iast hx hb hK hT hF hS 0 (fx_32 hX) (by decide) (fun _ => cl_e42) rfl (z_in rfl (by omega) (by omega)) dX3_finish_34 (fun H locs hT hS => ?_)
  obtain ⟨y_5, hy_5, hT⟩ : ∃ z : Nat → Nat → Int32, z = up2 y_2 (a 32) p0.toNatClampNeg x_4 ∧ tw (dC, dI) a k τ ln z g H := ⟨_, rfl, hT⟩
  have hG : ag τ [40, 41, 42, 46, 47] y y_5 := by rw [hy_5]; exact hG.up (fx_32 hX) (by decide)
  have hI := hI.ag (S := [42]) (y' := y_5) (by rw [hy_5]; exact ag.one (fx_32 hX)) (by decide)
  refine lv_aload_n hx hb dX3_finish_35 rfl (lv_at hl 0 rfl) ?_
  refine tw_get (D := (dC, dI)) (v := .ref (a 30)) (C := RX3) (T := TX3) (N := 12) hx hb hts (fun _ hh => (List.mem_cons_of_mem _ (List.mem_append_right _ (List.mem_append_left _ hh)))) hown hK hT (fx_4 hX) (by decide) cl_e14 rfl 3 (by decide) (hts (.fieldLink RX3 15 "TypingPool$Floor" "has" "[I") (List.mem_cons_of_mem _ (List.mem_append_left _ (List.mem_of_getElem? (i := 6) rfl)))) (fun _ h9 => h9) rfl dX3_finish_36 ?_
  refine lv_iload_n hx hb dX3_finish_39 rfl (lv_at hl 1 rfl) ?_
  refine lv_iconst (v := (-1)) hx hb dX3_finish_40 (by decide) ?_
  refine tw_iast hx hb hK hT hF hS 0 (fx_30 hX) (by decide) (fun _ => cl_e40) rfl (z_in rfl (by omega) (by omega)) dX3_finish_41 (fun H locs hT hS => ?_)
  obtain ⟨y_6, hy_6, hT⟩ : ∃ z : Nat → Nat → Int32, z = up2 y_5 (a 30) p0.toNatClampNeg (-1 : Int32) ∧ tw (dC, dI) a k τ ln z g H := ⟨_, rfl, hT⟩
  have hG : ag τ [40, 41, 42, 46, 47] y y_6 := by rw [hy_6]; exact hG.up (fx_30 hX) (by decide)
  have hI := hI.ag (S := [40]) (y' := y_6) (by rw [hy_6]; exact ag.one (fx_30 hX)) (by decide)
  refine lv_aload_n hx hb dX3_finish_42 rfl (lv_at hl 0 rfl) ?_
  refine tw_get (D := (dC, dI)) (v := .ref (a 31)) (C := RX3) (T := TX3) (N := 12) hx hb hts (fun _ hh => (List.mem_cons_of_mem _ (List.mem_append_right _ (List.mem_append_left _ hh)))) hown hK hT (fx_4 hX) (by decide) cl_e14 rfl 4 (by decide) (hts (.fieldLink RX3 19 "TypingPool$Floor" "rate" "[I") (List.mem_cons_of_mem _ (List.mem_append_left _ (List.mem_of_getElem? (i := 7) rfl)))) (fun _ h9 => h9) rfl dX3_finish_43 ?_
  refine lv_iload_n hx hb dX3_finish_46 rfl (lv_at hl 1 rfl) ?_
  refine lv_iconst (v := (-1)) hx hb dX3_finish_47 (by decide) ?_
  refine tw_iast hx hb hK hT hF hS 0 (fx_31 hX) (by decide) (fun _ => cl_e41) rfl (z_in rfl (by omega) (by omega)) dX3_finish_48 (fun H locs hT hS => ?_)
  obtain ⟨y_7, hy_7, hT⟩ : ∃ z : Nat → Nat → Int32, z = up2 y_6 (a 31) p0.toNatClampNeg (-1 : Int32) ∧ tw (dC, dI) a k τ ln z g H := ⟨_, rfl, hT⟩
  have hG : ag τ [40, 41, 42, 46, 47] y y_7 := by rw [hy_7]; exact hG.up (fx_31 hX) (by decide)
  have hI := hI.ag (S := [41]) (y' := y_7) (by rw [hy_7]; exact ag.one (fx_31 hX)) (by decide)
  exact W.vret hx hb hr (fun t ht hW9 => ⟨⟨(), rfl, trivial, ⟨y_7, hG, tw_at ht hT⟩⟩, hS.F ht⟩) hS.2.2 dX3_finish_49
def wo_c_taket : List Cond := [.fieldLink RX3 15 "TypingPool$Floor" "has" "[I", .fieldLink RX3 19 "TypingPool$Floor" "rate" "[I", .fieldLink RX3 22 "TypingPool$Floor" "words" "[I", .methodLink RX3 99 yX3_rateFor, .instanceMethod yX3_rateFor, .selects RX3 yX3_rateFor yX3_rateFor, .initialized RX3, .fieldLink RX3 28 "TypingPool$Floor" "by" "[I", .fieldLink RX3 31 "TypingPool$Floor" "taken" "[I", .fieldLink RX3 9 "TypingPool$Floor" "now" "I", .fieldLink RX3 40 "TypingPool$Floor" "knew" "[I", .fieldLink RX3 43 "TypingPool$Floor" "book" "LTypingPool$Book;", .fieldLink RX3 103 "TypingPool$Book" "pieces" "[LTypingPool$Piece;", .methodLink RX3 107 yX6_unknownTo, .instanceMethod yX6_unknownTo, .selects RX6 yX6_unknownTo yX6_unknownTo, .initialized RX6]
def wm_c_taket : List Cond := .code yX3_take cX3_take 3 none :: (wo_c_taket ++ (wsX30 ++ (wm_c_rateFort ++ (wsX10 ++ (wm_c_unknownTo ++ ([] : List Cond))))))
theorem gd_c_taket : ∀ w ∈ wm_c_taket, goodWord w = true := gd_c rfl (gd_a (by decide) (gd_a gd_wsX30 (gd_a gd_c_rateFort (gd_a gd_wsX10 (gd_a gd_c_unknownTo gd_nil)))))
set_option maxRecDepth 20000 in
theorem im_c_taket : ∀ w ∈ wm_c_taket, w ∈ lw_tbl := im_c (in_r [.code yX3_take cX3_take 3 none] [818] (by decide +kernel)) (in_app (in_r wo_c_taket [431, 434, 437, 819, 820, 821, 83, 442, 444, 428, 452, 426, 130, 801, 802, 803, 89] (by decide +kernel)) (in_app im_wsX30 (in_app im_c_rateFort (in_app im_wsX10 (in_app im_c_unknownTo im_nil)))))
set_option maxHeartbeats 4000000 in
set_option maxRecDepth 100000 in
theorem c_taket (l : Launch) (dC : Nat → ClassId) (dI : Nat → Nat → Nat) (ad av : Nat → Nat) (sz : Nat) (a : Nat → Nat) (k : Nat → ClassId) (τ ln : Nat → Nat) (y : Nat → Nat → Int32) (g : Nat → Nat → Option Nat) (u : Nat → Int) (p0 : Int32) (p1 : Int32) (hI : IC a u τ ln y g) (hlp0 : 0 ≤ p0.toInt) (hup0 : p0.toInt < u 1) (hlp1 : 0 ≤ p1.toInt) (hup1 : p1.toInt < u 2) : Met l yX3_take wm_c_taket ({ frames := 3, cells := 0, slots := 0, locals := 180 }) (pw_ ad av (dC, dI) sz [.ref (a 4), .int p0, .int p1] a k τ ln y g) (va_Qv (fun (_ : Unit) => True) (fun (_ : Unit) (t : State) => (∃ (y' : Nat → Nat → Int32), ag τ [40, 41, 44, 45, 48] y y' ∧ tw (dC, dI) a k τ ln y' g t.heap)) (fr τ sz)) 0 0 (fr τ sz) := by
  refine Met.ofW (cc := cX3_take) (maxL := 3) (ret := none) (by decide) rfl ?_
  intro p e s m args below meth c s₁ B hml hv
  obtain ⟨rfl, hsz, hT, hK, hM⟩ := hv
  have hx := B.exec
  have hb := B.bytes
  have hr := B.returns
  have hts := atoms_spec (ws := wm_c_taket) B.pre
  have hown : s.vm.findClass RX3 = some m.cls := findClass_of_methodNamed B.named
  have hlocks := B.notSynchronized
  subst hsz
  generalize hAe : fr τ s.heap.size = A at hM ⊢
  have hA : ∀ q : Nat, s.heap.size ≤ q → A q := fun q h => by rw [← hAe]; exact Or.inr h
  have hF : ∀ q, τ q ≠ 0 → A q := fun q h => by rw [← hAe]; exact Or.inl h
  have hS : va_S A s.heap s.heap [] := va_S.rf
  have hX := hI.1
  have hR := ic_r hI
  have hG : ag τ [40, 41, 44, 45, 48] y y := ag.rf
  have hl := lv_entry ([.ref (a 4), .int p0, .int p1]) (n := 3) (Nat.le_of_ble_eq_true rfl)
  rw [lg_entry_eq]
  generalize (lg_sl ([.ref (a 4), .int p0, .int p1]) ++ List.replicate (3 - (lg_sl ([.ref (a 4), .int p0, .int p1])).length) Slot.unset).toArray = ls at hl ⊢
  have hl : lv_has ls 3 [(0, .ref (a 4)), (1, .int p0), (2, .int p1)] := hl
  refine lv_aload_n hx hb dX3_take_0 rfl (lv_at hl 0 rfl) ?_
  refine tw_get (D := (dC, dI)) (v := .ref (a 30)) (C := RX3) (T := TX3) (N := 12) hx hb hts (fun _ hh => (List.mem_cons_of_mem _ (List.mem_append_right _ (List.mem_append_left _ hh)))) hown hK hT (fx_4 hX) (by decide) cl_e14 rfl 3 (by decide) (hts (.fieldLink RX3 15 "TypingPool$Floor" "has" "[I") (List.mem_cons_of_mem _ (List.mem_append_left _ (List.mem_of_getElem? (i := 0) rfl)))) (fun _ h9 => h9) rfl dX3_take_1 ?_
  refine lv_iload_n hx hb dX3_take_4 rfl (lv_at hl 1 rfl) ?_
  refine lv_iload_n hx hb dX3_take_5 rfl (lv_at hl 2 rfl) ?_
  refine tw_iast hx hb hK hT hF hS 0 (fx_30 hX) (by decide) (fun _ => cl_e40) rfl (z_in rfl (by omega) (by omega)) dX3_take_6 (fun H locs hT hS => ?_)
  obtain ⟨y_1, hy_1, hT⟩ : ∃ z : Nat → Nat → Int32, z = up2 y (a 30) p0.toNatClampNeg p1 ∧ tw (dC, dI) a k τ ln z g H := ⟨_, rfl, hT⟩
  have hG : ag τ [40, 41, 44, 45, 48] y y_1 := by rw [hy_1]; exact hG.up (fx_30 hX) (by decide)
  have hI := hI.ag (S := [40]) (y' := y_1) (by rw [hy_1]; exact ag.one (fx_30 hX)) (by decide)
  refine lv_aload_n hx hb dX3_take_7 rfl (lv_at hl 0 rfl) ?_
  refine tw_get (D := (dC, dI)) (v := .ref (a 31)) (C := RX3) (T := TX3) (N := 12) hx hb hts (fun _ hh => (List.mem_cons_of_mem _ (List.mem_append_right _ (List.mem_append_left _ hh)))) hown hK hT (fx_4 hX) (by decide) cl_e14 rfl 4 (by decide) (hts (.fieldLink RX3 19 "TypingPool$Floor" "rate" "[I") (List.mem_cons_of_mem _ (List.mem_append_left _ (List.mem_of_getElem? (i := 1) rfl)))) (fun _ h9 => h9) rfl dX3_take_8 ?_
  refine lv_iload_n hx hb dX3_take_11 rfl (lv_at hl 1 rfl) ?_
  refine lv_aload_n hx hb dX3_take_12 rfl (lv_at hl 0 rfl) ?_
  refine lv_iload_n hx hb dX3_take_13 rfl (lv_at hl 1 rfl) ?_
  refine lv_iload_n hx hb dX3_take_14 rfl (lv_at hl 2 rfl) ?_
  refine lv_aload_n hx hb dX3_take_15 rfl (lv_at hl 0 rfl) ?_
  refine tw_get (D := (dC, dI)) (v := .ref (a 32)) (C := RX3) (T := TX3) (N := 12) hx hb hts (fun _ hh => (List.mem_cons_of_mem _ (List.mem_append_right _ (List.mem_append_left _ hh)))) hown hK hT (fx_4 hX) (by decide) cl_e14 rfl 5 (by decide) (hts (.fieldLink RX3 22 "TypingPool$Floor" "words" "[I") (List.mem_cons_of_mem _ (List.mem_append_left _ (List.mem_of_getElem? (i := 2) rfl)))) (fun _ h9 => h9) rfl dX3_take_16 ?_
  refine lv_iload_n hx hb dX3_take_19 rfl (lv_at hl 1 rfl) ?_
  refine tw_iald hx hb hK hT 0 (fx_32 hX) (by decide) cl_e42 rfl (z_in rfl (by omega) (by omega)) dX3_take_20 ?_
  have hFc := tw_free hF hS hA
  refine va_calli (va_runV (As := [.int p0, .int p1, .int (y_1 (a 32) p0.toNatClampNeg)]) (rest := [.int p0, .ref (a 31)]) ⟨hx, hb, hml, hown, hts⟩ (c_rateFort l dC dI ad av H.size a k τ ln y_1 g u p0 p1 (y_1 (a 32) p0.toNatClampNeg) hI (by omega) (by omega) (by omega) (by omega)) (cwV 3 hts (gi_4 (List.mem_cons_of_mem _ (List.mem_append_left _ (List.mem_of_getElem? (i := 3) rfl))) (List.mem_cons_of_mem _ (List.mem_append_left _ (List.mem_of_getElem? (i := 4) rfl))) (List.mem_cons_of_mem _ (List.mem_append_left _ (List.mem_of_getElem? (i := 5) rfl))) (List.mem_cons_of_mem _ (List.mem_append_left _ (List.mem_of_getElem? (i := 6) rfl))) (fun _ hh => (List.mem_cons_of_mem _ (List.mem_append_right _ (List.mem_append_right _ (List.mem_append_left _ hh))))) gd_c_rateFort) rfl rfl rfl (by decide +kernel) ⟨Nat.le_of_ble_eq_true rfl, Nat.le_of_ble_eq_true rfl⟩) ⟨pw_blind, tw_recv hK hT (fx_4 hX) (by decide) cl_e14 rfl, pw_use hT hK hFc hS hM⟩ rfl rfl hl.1 rfl (lv_room (Nat.le_of_ble_eq_true rfl)) dX3_take_21 ⟨Nat.le_of_ble_eq_true rfl, Nat.le_of_ble_eq_true rfl⟩) hS (fun q _ h => hFc q h) hFc (fun r0 r_2 t H locs ht hvm hw hB hz1 hk1 hS => ?_)
  refine W.widen (k := 0) (n := 0) (Nat.le_of_ble_eq_true rfl) (Nat.le_of_ble_eq_true rfl) ?_
  clear hvm hz1 hk1
  subst hw
  have hT := hB
  rw [ht] at hT
  refine tw_iast hx hb hK hT hF hS 0 (fx_31 hX) (by decide) (fun _ => cl_e41) rfl (z_in rfl (by omega) (by omega)) dX3_take_24 (fun H locs hT hS => ?_)
  obtain ⟨y_3, hy_3, hT⟩ : ∃ z : Nat → Nat → Int32, z = up2 y_1 (a 31) p0.toNatClampNeg r_2 ∧ tw (dC, dI) a k τ ln z g H := ⟨_, rfl, hT⟩
  have hG : ag τ [40, 41, 44, 45, 48] y y_3 := by rw [hy_3]; exact hG.up (fx_31 hX) (by decide)
  have hI := hI.ag (S := [41]) (y' := y_3) (by rw [hy_3]; exact ag.one (fx_31 hX)) (by decide)
  refine lv_aload_n hx hb dX3_take_25 rfl (lv_at hl 0 rfl) ?_
  refine tw_get (D := (dC, dI)) (v := .ref (a 34)) (C := RX3) (T := TX3) (N := 12) hx hb hts (fun _ hh => (List.mem_cons_of_mem _ (List.mem_append_right _ (List.mem_append_left _ hh)))) hown hK hT (fx_4 hX) (by decide) cl_e14 rfl 7 (by decide) (hts (.fieldLink RX3 28 "TypingPool$Floor" "by" "[I") (List.mem_cons_of_mem _ (List.mem_append_left _ (List.mem_of_getElem? (i := 7) rfl)))) (fun _ h9 => h9) rfl dX3_take_26 ?_
  refine lv_iload_n hx hb dX3_take_29 rfl (lv_at hl 2 rfl) ?_
  refine lv_iload_n hx hb dX3_take_30 rfl (lv_at hl 1 rfl) ?_
  refine tw_iast hx hb hK hT hF hS 0 (fx_34 hX) (by decide) (fun _ => cl_e44) rfl (z_in rfl (by omega) (by omega)) dX3_take_31 (fun H locs hT hS => ?_)
  obtain ⟨y_4, hy_4, hT⟩ : ∃ z : Nat → Nat → Int32, z = up2 y_3 (a 34) p1.toNatClampNeg p0 ∧ tw (dC, dI) a k τ ln z g H := ⟨_, rfl, hT⟩
  have hG : ag τ [40, 41, 44, 45, 48] y y_4 := by rw [hy_4]; exact hG.up (fx_34 hX) (by decide)
  have hI := hI.ag (S := [44]) (y' := y_4) (by rw [hy_4]; exact ag.one (fx_34 hX)) (by decide)
  refine lv_aload_n hx hb dX3_take_32 rfl (lv_at hl 0 rfl) ?_
  refine tw_get (D := (dC, dI)) (v := .ref (a 35)) (C := RX3) (T := TX3) (N := 12) hx hb hts (fun _ hh => (List.mem_cons_of_mem _ (List.mem_append_right _ (List.mem_append_left _ hh)))) hown hK hT (fx_4 hX) (by decide) cl_e14 rfl 8 (by decide) (hts (.fieldLink RX3 31 "TypingPool$Floor" "taken" "[I") (List.mem_cons_of_mem _ (List.mem_append_left _ (List.mem_of_getElem? (i := 8) rfl)))) (fun _ h9 => h9) rfl dX3_take_33 ?_
  refine lv_iload_n hx hb dX3_take_36 rfl (lv_at hl 2 rfl) ?_
  refine lv_aload_n hx hb dX3_take_37 rfl (lv_at hl 0 rfl) ?_
  refine tw_get (D := (dC, dI)) (v := .int (y_4 (a 4) 2)) (C := RX3) (T := TX3) (N := 12) hx hb hts (fun _ hh => (List.mem_cons_of_mem _ (List.mem_append_right _ (List.mem_append_left _ hh)))) hown hK hT (fx_4 hX) (by decide) cl_e14 rfl 2 (by decide) (hts (.fieldLink RX3 9 "TypingPool$Floor" "now" "I") (List.mem_cons_of_mem _ (List.mem_append_left _ (List.mem_of_getElem? (i := 9) rfl)))) (fun _ h9 => h9) rfl dX3_take_38 ?_
  refine tw_iast hx hb hK hT hF hS 0 (fx_35 hX) (by decide) (fun _ => cl_e45) rfl (z_in rfl (by omega) (by omega)) dX3_take_41 (fun H locs hT hS => ?_)
  obtain ⟨y_5, hy_5, hT⟩ : ∃ z : Nat → Nat → Int32, z = up2 y_4 (a 35) p1.toNatClampNeg (y_4 (a 4) 2) ∧ tw (dC, dI) a k τ ln z g H := ⟨_, rfl, hT⟩
  have hG : ag τ [40, 41, 44, 45, 48] y y_5 := by rw [hy_5]; exact hG.up (fx_35 hX) (by decide)
  have hI := hI.ag (S := [45]) (y' := y_5) (by rw [hy_5]; exact ag.one (fx_35 hX)) (by decide)
  refine lv_aload_n hx hb dX3_take_42 rfl (lv_at hl 0 rfl) ?_
  refine tw_get (D := (dC, dI)) (v := .ref (a 38)) (C := RX3) (T := TX3) (N := 12) hx hb hts (fun _ hh => (List.mem_cons_of_mem _ (List.mem_append_right _ (List.mem_append_left _ hh)))) hown hK hT (fx_4 hX) (by decide) cl_e14 rfl 11 (by decide) (hts (.fieldLink RX3 40 "TypingPool$Floor" "knew" "[I") (List.mem_cons_of_mem _ (List.mem_append_left _ (List.mem_of_getElem? (i := 10) rfl)))) (fun _ h9 => h9) rfl dX3_take_43 ?_
  refine lv_iload_n hx hb dX3_take_46 rfl (lv_at hl 2 rfl) ?_
  refine lv_aload_n hx hb dX3_take_47 rfl (lv_at hl 0 rfl) ?_
  refine tw_get (D := (dC, dI)) (v := .ref (a 1)) (C := RX3) (T := TX3) (N := 12) hx hb hts (fun _ hh => (List.mem_cons_of_mem _ (List.mem_append_right _ (List.mem_append_left _ hh)))) hown hK hT (fx_4 hX) (by decide) cl_e14 rfl 0 (by decide) (hts (.fieldLink RX3 43 "TypingPool$Floor" "book" "LTypingPool$Book;") (List.mem_cons_of_mem _ (List.mem_append_left _ (List.mem_of_getElem? (i := 11) rfl)))) (fun _ h9 => h9) rfl dX3_take_48 ?_
  refine tw_get (D := (dC, dI)) (v := .ref (a 11)) (C := RX1) (T := TX1) (N := 8) hx hb hts (fun _ hh => (List.mem_cons_of_mem _ (List.mem_append_right _ (List.mem_append_right _ (List.mem_append_right _ (List.mem_append_left _ hh)))))) hown hK hT (fx_1 hX) (by decide) cl_e11 rfl 4 (by decide) (hts (.fieldLink RX3 103 "TypingPool$Book" "pieces" "[LTypingPool$Piece;") (List.mem_cons_of_mem _ (List.mem_append_left _ (List.mem_of_getElem? (i := 12) rfl)))) (fun _ h9 => h9) rfl dX3_take_51 ?_
  refine lv_iload_n hx hb dX3_take_54 rfl (lv_at hl 2 rfl) ?_
  refine tw_aald hx hb hK hT 4 (fx_11 hX) (by decide) cl_e21 rfl (z_in rfl (by omega) (by omega)) dX3_take_55 ?_
  obtain ⟨q_6, hgq_6, htq_6⟩ := ic_l11 hI (x := p1) rfl (by omega) (by omega)
  refine lq_topr hgq_6 ?_
  refine lv_aload_n hx hb dX3_take_56 rfl (lv_at hl 0 rfl) ?_
  refine tw_get (D := (dC, dI)) (v := .ref (a 32)) (C := RX3) (T := TX3) (N := 12) hx hb hts (fun _ hh => (List.mem_cons_of_mem _ (List.mem_append_right _ (List.mem_append_left _ hh)))) hown hK hT (fx_4 hX) (by decide) cl_e14 rfl 5 (by decide) (hts (.fieldLink RX3 22 "TypingPool$Floor" "words" "[I") (List.mem_cons_of_mem _ (List.mem_append_left _ (List.mem_of_getElem? (i := 2) rfl)))) (fun _ h9 => h9) rfl dX3_take_57 ?_
  refine lv_iload_n hx hb dX3_take_60 rfl (lv_at hl 1 rfl) ?_
  refine tw_iald hx hb hK hT 0 (fx_32 hX) (by decide) cl_e42 rfl (z_in rfl (by omega) (by omega)) dX3_take_61 ?_
  have hFc := tw_free hF hS hA
  refine va_calli (va_runV (As := [.int (y_5 (a 32) p0.toNatClampNeg)]) (rest := [.int p1, .ref (a 38)]) ⟨hx, hb, hml, hown, hts⟩ (c_unknownTo l dC dI ad av H.size a k τ ln y_5 g u q_6 (y_5 (a 32) p0.toNatClampNeg) hI htq_6) (cwV 1 hts (gi_4 (List.mem_cons_of_mem _ (List.mem_append_left _ (List.mem_of_getElem? (i := 13) rfl))) (List.mem_cons_of_mem _ (List.mem_append_left _ (List.mem_of_getElem? (i := 14) rfl))) (List.mem_cons_of_mem _ (List.mem_append_left _ (List.mem_of_getElem? (i := 15) rfl))) (List.mem_cons_of_mem _ (List.mem_append_left _ (List.mem_of_getElem? (i := 16) rfl))) (fun _ hh => (List.mem_cons_of_mem _ (List.mem_append_right _ (List.mem_append_right _ (List.mem_append_right _ (List.mem_append_right _ (List.mem_append_left _ hh))))))) gd_c_unknownTo) rfl rfl rfl (by decide +kernel) ⟨Nat.le_of_ble_eq_true rfl, Nat.le_of_ble_eq_true rfl⟩) ⟨pw_blind, tw_recv hK hT htq_6 (by decide) cl_e2 rfl, pw_use hT hK hFc hS hM⟩ rfl rfl hl.1 rfl (lv_room (Nat.le_of_ble_eq_true rfl)) dX3_take_62 ⟨Nat.le_of_ble_eq_true rfl, Nat.le_of_ble_eq_true rfl⟩) hS (fun q _ h => hFc q h) hFc (fun r0 r_7 t H locs ht hvm hw hB hz1 hk1 hS => ?_)
  refine W.widen (k := 0) (n := 0) (Nat.le_of_ble_eq_true rfl) (Nat.le_of_ble_eq_true rfl) ?_
  clear hvm hz1 hk1
  subst hw
  obtain ⟨hf_8, hf_9, hT⟩ := hB
  rw [ht] at hT
  refine lv_if_ne (tgt := 72) hx hb dX3_take_65 (by decide) (fun c_10 => ?_) (fun c_10 => ?_)
  · have nc_10 := z_ne rfl (zk (x := 0) 0 rfl) c_10
    refine lv_iconst (v := 0) hx hb dX3_take_72 (by decide) ?_
    refine tw_iast hx hb hK hT hF hS 0 (fx_38 hX) (by decide) (fun _ => cl_e48) rfl (z_in rfl (by omega) (by omega)) dX3_take_73 (fun H locs hT hS => ?_)
    obtain ⟨y_11, hy_11, hT⟩ : ∃ z : Nat → Nat → Int32, z = up2 y_5 (a 38) p1.toNatClampNeg (0 : Int32) ∧ tw (dC, dI) a k τ ln z g H := ⟨_, rfl, hT⟩
    have hG : ag τ [40, 41, 44, 45, 48] y y_11 := by rw [hy_11]; exact hG.up (fx_38 hX) (by decide)
    have hI := hI.ag (S := [48]) (y' := y_11) (by rw [hy_11]; exact ag.one (fx_38 hX)) (by decide)
    exact W.vret hx hb hr (fun t ht hW9 => ⟨⟨(), rfl, trivial, ⟨y_11, hG, tw_at ht hT⟩⟩, hS.F ht⟩) hS.2.2 dX3_take_74
  · have nc_10 := z_eq rfl (zk (x := 0) 0 rfl) c_10
    refine lv_iconst (v := 1) hx hb dX3_take_68 (by decide) ?_
    refine lv_goto (tgt := 73) hx hb dX3_take_69 (by decide) ?_
    refine tw_iast hx hb hK hT hF hS 0 (fx_38 hX) (by decide) (fun _ => cl_e48) rfl (z_in rfl (by omega) (by omega)) dX3_take_73 (fun H locs hT hS => ?_)
    obtain ⟨y_12, hy_12, hT⟩ : ∃ z : Nat → Nat → Int32, z = up2 y_5 (a 38) p1.toNatClampNeg (1 : Int32) ∧ tw (dC, dI) a k τ ln z g H := ⟨_, rfl, hT⟩
    have hG : ag τ [40, 41, 44, 45, 48] y y_12 := by rw [hy_12]; exact hG.up (fx_38 hX) (by decide)
    have hI := hI.ag (S := [48]) (y' := y_12) (by rw [hy_12]; exact ag.one (fx_38 hX)) (by decide)
    exact W.vret hx hb hr (fun t ht hW9 => ⟨⟨(), rfl, trivial, ⟨y_12, hG, tw_at ht hT⟩⟩, hS.F ht⟩) hS.2.2 dX3_take_74
def wo_c_changeFromt : List Cond := [.fieldLink RX3 9 "TypingPool$Floor" "now" "I", .fieldLink RX3 43 "TypingPool$Floor" "book" "LTypingPool$Book;", .methodLink RX3 126 Lib.Math.min.name, .static Lib.Math.min.name, .initialized "java/lang/Math", .code Lib.Math.min.name Lib.Math.min.code 2 (some .int), .methodLink RX3 129 yX1_changeBehind, .instanceMethod yX1_changeBehind, .selects RX1 yX1_changeBehind yX1_changeBehind, .initialized RX1, .fieldLink RX3 75 "TypingPool$Book" "handCount" "I", .methodLink RX3 132 yX3_isBusy, .instanceMethod yX3_isBusy, .selects RX3 yX3_isBusy yX3_isBusy, .initialized RX3, .fieldLink RX3 37 "TypingPool$Floor" "workLeft" "[I", .fieldLink RX3 15 "TypingPool$Floor" "has" "[I", .fieldLink RX3 19 "TypingPool$Floor" "rate" "[I", .initialized RX11, .static yX11_minutesFor]
def wm_c_changeFromt : List Cond := .code yX3_changeFrom cX3_changeFrom 6 (some .int) :: (wo_c_changeFromt ++ (wsX30 ++ (wm_c_changeBehind ++ (wsX10 ++ (wm_c_isBusyt ++ (wm_c_minutesFor ++ ([] : List Cond)))))))
theorem gd_c_changeFromt : ∀ w ∈ wm_c_changeFromt, goodWord w = true := gd_c rfl (gd_a (by decide) (gd_a gd_wsX30 (gd_a gd_c_changeBehind (gd_a gd_wsX10 (gd_a gd_c_isBusyt (gd_a gd_c_minutesFor gd_nil))))))
set_option maxRecDepth 20000 in
theorem im_c_changeFromt : ∀ w ∈ wm_c_changeFromt, w ∈ lw_tbl := im_c (in_r [.code yX3_changeFrom cX3_changeFrom 6 (some .int)] [827] (by decide +kernel)) (in_app (in_r wo_c_changeFromt [428, 426, 828, 260, 78, 261, 829, 830, 831, 71, 125, 836, 838, 14, 83, 449, 431, 434, 70, 845] (by decide +kernel)) (in_app im_wsX30 (in_app im_c_changeBehind (in_app im_wsX10 (in_app im_c_isBusyt (in_app im_c_minutesFor im_nil))))))
set_option maxHeartbeats 4000000 in
set_option maxRecDepth 100000 in
theorem c_changeFromt (l : Launch) (dC : Nat → ClassId) (dI : Nat → Nat → Nat) (ad av : Nat → Nat) (sz : Nat) (a : Nat → Nat) (k : Nat → ClassId) (τ ln : Nat → Nat) (y : Nat → Nat → Int32) (g : Nat → Nat → Option Nat) (u : Nat → Int) (p0 : Int32) (p1 : Int32) (hI : IC a u τ ln y g) : Met l yX3_changeFrom wm_c_changeFromt ({ frames := 2, cells := 0, slots := 0, locals := 120 }) (pw_ ad av (dC, dI) sz [.ref (a 4), .int p0, .int p1] a k τ ln y g) (va_Qi (fun (r u : Int32) => u = r) (fun (r : Int32) (t : State) => (tw (dC, dI) a k τ ln y g t.heap)) (fr τ sz)) 0 0 (fr τ sz) := by
  refine Met.ofW (cc := cX3_changeFrom) (maxL := 6) (ret := (some .int)) (by decide) rfl ?_
  intro p e s m args below meth c s₁ B hml hv
  obtain ⟨rfl, hsz, hT, hK, hM⟩ := hv
  have hx := B.exec
  have hb := B.bytes
  have hr := B.returns
  have hts := atoms_spec (ws := wm_c_changeFromt) B.pre
  have hown : s.vm.findClass RX3 = some m.cls := findClass_of_methodNamed B.named
  have hlocks := B.notSynchronized
  subst hsz
  generalize hAe : fr τ s.heap.size = A at hM ⊢
  have hA : ∀ q : Nat, s.heap.size ≤ q → A q := fun q h => by rw [← hAe]; exact Or.inr h
  have hF : ∀ q, τ q ≠ 0 → A q := fun q h => by rw [← hAe]; exact Or.inl h
  have hS : va_S A s.heap s.heap [] := va_S.rf
  have hX := hI.1
  have hR := ic_r hI
  have hl := lv_entry ([.ref (a 4), .int p0, .int p1]) (n := 6) (Nat.le_of_ble_eq_true rfl)
  rw [lg_entry_eq]
  generalize (lg_sl ([.ref (a 4), .int p0, .int p1]) ++ List.replicate (6 - (lg_sl ([.ref (a 4), .int p0, .int p1])).length) Slot.unset).toArray = ls at hl ⊢
  have hl : lv_has ls 6 [(0, .ref (a 4)), (1, .int p0), (2, .int p1)] := hl
  refine lv_aload_n hx hb dX3_changeFrom_0 rfl (lv_at hl 0 rfl) ?_
  refine tw_get (D := (dC, dI)) (v := .int (y (a 4) 2)) (C := RX3) (T := TX3) (N := 12) hx hb hts (fun _ hh => (List.mem_cons_of_mem _ (List.mem_append_right _ (List.mem_append_left _ hh)))) hown hK hT (fx_4 hX) (by decide) cl_e14 rfl 2 (by decide) (hts (.fieldLink RX3 9 "TypingPool$Floor" "now" "I") (List.mem_cons_of_mem _ (List.mem_append_left _ (List.mem_of_getElem? (i := 0) rfl)))) (fun _ h9 => h9) rfl dX3_changeFrom_1 ?_
  refine lv_aload_n hx hb dX3_changeFrom_4 rfl (lv_at hl 0 rfl) ?_
  refine tw_get (D := (dC, dI)) (v := .int (y (a 4) 2)) (C := RX3) (T := TX3) (N := 12) hx hb hts (fun _ hh => (List.mem_cons_of_mem _ (List.mem_append_right _ (List.mem_append_left _ hh)))) hown hK hT (fx_4 hX) (by decide) cl_e14 rfl 2 (by decide) (hts (.fieldLink RX3 9 "TypingPool$Floor" "now" "I") (List.mem_cons_of_mem _ (List.mem_append_left _ (List.mem_of_getElem? (i := 0) rfl)))) (fun _ h9 => h9) rfl dX3_changeFrom_5 ?_
  refine lv_sipush (v := 480) hx hb dX3_changeFrom_8 (by decide) ?_
  refine lv_irem hx hb dX3_changeFrom_11 (by decide) ?_
  refine lv_topi (fun x_1 ex_1 => ?_)
  refine lv_isub hx hb dX3_changeFrom_12 ?_
  refine lv_topi (fun x_2 ex_2 => ?_)
  refine lv_sipush (v := 480) hx hb dX3_changeFrom_13 (by decide) ?_
  refine lv_iadd hx hb dX3_changeFrom_16 ?_
  refine lv_topi (fun x_3 ex_3 => ?_)
  refine lv_istore_n (lv' := [(3, .int x_3), (0, .ref (a 4)), (1, .int p0), (2, .int p1)]) hx hb dX3_changeFrom_17 rfl hl (by decide) rfl (fun ls hl => ?_)
  refine lv_aload_n hx hb dX3_changeFrom_18 rfl (lv_at hl 1 rfl) ?_
  refine tw_get (D := (dC, dI)) (v := .ref (a 1)) (C := RX3) (T := TX3) (N := 12) hx hb hts (fun _ hh => (List.mem_cons_of_mem _ (List.mem_append_right _ (List.mem_append_left _ hh)))) hown hK hT (fx_4 hX) (by decide) cl_e14 rfl 0 (by decide) (hts (.fieldLink RX3 43 "TypingPool$Floor" "book" "LTypingPool$Book;") (List.mem_cons_of_mem _ (List.mem_append_left _ (List.mem_of_getElem? (i := 1) rfl)))) (fun _ h9 => h9) rfl dX3_changeFrom_19 ?_
  refine lv_aload_n hx hb dX3_changeFrom_22 rfl (lv_at hl 1 rfl) ?_
  refine tw_get (D := (dC, dI)) (v := .int (y (a 4) 2)) (C := RX3) (T := TX3) (N := 12) hx hb hts (fun _ hh => (List.mem_cons_of_mem _ (List.mem_append_right _ (List.mem_append_left _ hh)))) hown hK hT (fx_4 hX) (by decide) cl_e14 rfl 2 (by decide) (hts (.fieldLink RX3 9 "TypingPool$Floor" "now" "I") (List.mem_cons_of_mem _ (List.mem_append_left _ (List.mem_of_getElem? (i := 0) rfl)))) (fun _ h9 => h9) rfl dX3_changeFrom_23 ?_
  refine lv_iload_n hx hb dX3_changeFrom_26 rfl (lv_at hl 3 rfl) ?_
  refine lv_iload_n hx hb dX3_changeFrom_27 rfl (lv_at hl 0 rfl) ?_
  refine va_mmin hx hb (by rw [hml]; exact hl.1.symm) hown (hts (.methodLink RX3 126 Lib.Math.min.name) (List.mem_cons_of_mem _ (List.mem_append_left _ (List.mem_of_getElem? (i := 2) rfl)))) (hts (.static Lib.Math.min.name) (List.mem_cons_of_mem _ (List.mem_append_left _ (List.mem_of_getElem? (i := 3) rfl)))) (hts (.initialized "java/lang/Math") (List.mem_cons_of_mem _ (List.mem_append_left _ (List.mem_of_getElem? (i := 4) rfl)))) (hts (.code Lib.Math.min.name Lib.Math.min.code 2 (some .int)) (List.mem_cons_of_mem _ (List.mem_append_left _ (List.mem_of_getElem? (i := 5) rfl)))) (Nat.le_of_ble_eq_true rfl) (Nat.le_of_ble_eq_true rfl) (Nat.le_of_ble_eq_true rfl) (Nat.le_of_ble_eq_true rfl) dX3_changeFrom_28 ?_
  refine lv_topi (fun x_4 ex_4 => ?_)
  have hx_4 := z_min ex_4 rfl rfl
  have hFc := tw_free hF hS hA
  refine va_calli (va_runV (As := [.int (y (a 4) 2), .int x_4]) (rest := []) ⟨hx, hb, hml, hown, hts⟩ (c_changeBehind l dC dI ad av s.heap.size a k τ ln y g u (y (a 4) 2) x_4 hI ) (cwV 2 hts (gi_4 (List.mem_cons_of_mem _ (List.mem_append_left _ (List.mem_of_getElem? (i := 6) rfl))) (List.mem_cons_of_mem _ (List.mem_append_left _ (List.mem_of_getElem? (i := 7) rfl))) (List.mem_cons_of_mem _ (List.mem_append_left _ (List.mem_of_getElem? (i := 8) rfl))) (List.mem_cons_of_mem _ (List.mem_append_left _ (List.mem_of_getElem? (i := 9) rfl))) (fun _ hh => (List.mem_cons_of_mem _ (List.mem_append_right _ (List.mem_append_right _ (List.mem_append_left _ hh))))) gd_c_changeBehind) rfl rfl rfl (by decide +kernel) ⟨Nat.le_of_ble_eq_true rfl, Nat.le_of_ble_eq_true rfl⟩) ⟨pw_blind, tw_recv hK hT (fx_1 hX) (by decide) cl_e11 rfl, pw_use hT hK hFc hS hM⟩ rfl rfl hl.1 rfl (lv_room (Nat.le_of_ble_eq_true rfl)) dX3_changeFrom_31 ⟨Nat.le_of_ble_eq_true rfl, Nat.le_of_ble_eq_true rfl⟩) hS (fun q _ h => hFc q h) hFc (fun r0 r_5 t H locs ht hvm hw hB hz1 hk1 hS => ?_)
  refine W.widen (k := 0) (n := 0) (Nat.le_of_ble_eq_true rfl) (Nat.le_of_ble_eq_true rfl) ?_
  clear hvm hz1 hk1
  subst hw
  have hT := hB
  rw [ht] at hT
  refine lv_istore (lv' := [(4, .int r_5), (3, .int x_3), (0, .ref (a 4)), (1, .int p0), (2, .int p1)]) hx hb dX3_changeFrom_34 hl (by decide) rfl (fun ls hl => ?_)
  refine lv_iconst (v := 0) hx hb dX3_changeFrom_36 (by decide) ?_
  refine lv_istore (lv' := [(5, .int 0), (4, .int r_5), (3, .int x_3), (0, .ref (a 4)), (1, .int p0), (2, .int p1)]) hx hb dX3_changeFrom_37 hl (by decide) rfl (fun ls hl => ?_)
  have loop_39 : ∀ (n : Nat) (w4 : Int32) (i5 : Int32) (H : Heap) (locs : List Loc) (ls : Array Slot), (u 1 - i5.toInt).toNat < n → 0 ≤ i5.toInt → i5.toInt ≤ u 1 → tw (dC, dI) a k τ ln y g H → va_S A s.heap H locs → lv_has ls 6 [(0, .ref (a 4)), (1, .int p0), (2, .int p1), (3, .int x_3), (4, .int w4), (5, .int i5)] → W p l e (headSpec wm_c_changeFromt ({ frames := 2, cells := 0, slots := 0, locals := 120 })).room s m ([.ref (a 4), .int p0, .int p1] : List Value).toArray below meth c H locs 0 0 (MQ below (va_Qi (fun (r u : Int32) => u = r) (fun (r : Int32) (t : State) => (tw (dC, dI) a k τ ln y g t.heap)) A) ([.ref (a 4), .int p0, .int p1] : List Value).toArray s 0 0 A) (F0 m 39 ls []) := by
    intro n
    induction n with
    | zero => intro w4 i5 H locs ls hlt; exact absurd hlt (Nat.not_lt_zero _)
    | succ n ih_39 =>
      intro w4 i5 H locs ls hlt hi39_0 hi39_1 hT hS hl
      refine lv_iload hx hb dX3_changeFrom_39 (lv_at hl 5 rfl) ?_
      refine lv_aload_n hx hb dX3_changeFrom_41 rfl (lv_at hl 0 rfl) ?_
      refine tw_get (D := (dC, dI)) (v := .ref (a 1)) (C := RX3) (T := TX3) (N := 12) hx hb hts (fun _ hh => (List.mem_cons_of_mem _ (List.mem_append_right _ (List.mem_append_left _ hh)))) hown hK hT (fx_4 hX) (by decide) cl_e14 rfl 0 (by decide) (hts (.fieldLink RX3 43 "TypingPool$Floor" "book" "LTypingPool$Book;") (List.mem_cons_of_mem _ (List.mem_append_left _ (List.mem_of_getElem? (i := 1) rfl)))) (fun _ h9 => h9) rfl dX3_changeFrom_42 ?_
      refine tw_get (D := (dC, dI)) (v := .int (y (a 1) 3)) (C := RX1) (T := TX1) (N := 8) hx hb hts (fun _ hh => (List.mem_cons_of_mem _ (List.mem_append_right _ (List.mem_append_right _ (List.mem_append_right _ (List.mem_append_left _ hh)))))) hown hK hT (fx_1 hX) (by decide) cl_e11 rfl 3 (by decide) (hts (.fieldLink RX3 75 "TypingPool$Book" "handCount" "I") (List.mem_cons_of_mem _ (List.mem_append_left _ (List.mem_of_getElem? (i := 10) rfl)))) (fun _ h9 => h9) rfl dX3_changeFrom_45 ?_
      have hc_6 := ic_1 hI
      refine lv_icmp_ge (tgt := 101) hx hb dX3_changeFrom_48 (by decide) (fun c_7 => ?_) (fun c_7 => ?_)
      · have nc_7 := z_le hc_6 rfl c_7
        refine lv_iload hx hb dX3_changeFrom_101 (lv_at hl 4 rfl) ?_
        exact W.iret (v := w4) hx hb hr (fun t ht hW9 => ⟨⟨w4, w4, rfl, rfl, (tw_at ht hT)⟩, hS.F ht⟩) hS.2.2 dX3_changeFrom_103
      · have nc_7 := z_nle hc_6 rfl c_7
        refine lv_aload_n hx hb dX3_changeFrom_51 rfl (lv_at hl 0 rfl) ?_
        refine lv_iload hx hb dX3_changeFrom_52 (lv_at hl 5 rfl) ?_
        refine lv_iload_n hx hb dX3_changeFrom_54 rfl (lv_at hl 1 rfl) ?_
        have hFc := tw_free hF hS hA
        refine va_calli (va_runV (As := [.int i5, .int p0]) (rest := []) ⟨hx, hb, hml, hown, hts⟩ (c_isBusyt l dC dI ad av H.size a k τ ln y g u i5 p0 hI (by omega) (by omega)) (cwV 2 hts (gi_4 (List.mem_cons_of_mem _ (List.mem_append_left _ (List.mem_of_getElem? (i := 11) rfl))) (List.mem_cons_of_mem _ (List.mem_append_left _ (List.mem_of_getElem? (i := 12) rfl))) (List.mem_cons_of_mem _ (List.mem_append_left _ (List.mem_of_getElem? (i := 13) rfl))) (List.mem_cons_of_mem _ (List.mem_append_left _ (List.mem_of_getElem? (i := 14) rfl))) (fun _ hh => (List.mem_cons_of_mem _ (List.mem_append_right _ (List.mem_append_right _ (List.mem_append_right _ (List.mem_append_right _ (List.mem_append_left _ hh))))))) gd_c_isBusyt) rfl rfl rfl (by decide +kernel) ⟨Nat.le_of_ble_eq_true rfl, Nat.le_of_ble_eq_true rfl⟩) ⟨pw_blind, tw_recv hK hT (fx_4 hX) (by decide) cl_e14 rfl, pw_use hT hK hFc hS hM⟩ rfl rfl hl.1 rfl (lv_room (Nat.le_of_ble_eq_true rfl)) dX3_changeFrom_55 ⟨Nat.le_of_ble_eq_true rfl, Nat.le_of_ble_eq_true rfl⟩) hS (fun q _ h => hFc q h) hFc (fun r0 r_8 t H locs ht hvm hw hB hz1 hk1 hS => ?_)
        refine W.widen (k := 0) (n := 0) (Nat.le_of_ble_eq_true rfl) (Nat.le_of_ble_eq_true rfl) ?_
        clear hvm hz1 hk1
        subst hw
        rcases hB with ⟨hre, hf_9, hf_10, hT⟩ | ⟨hre, hT⟩
        · refine lq_top (v := 1) hre ?_
          rw [ht] at hT
          refine lv_if_eq (tgt := 95) hx hb dX3_changeFrom_58 (by decide) (fun c_11 => absurd c_11 (by decide)) (fun c_11 => ?_)
          refine lv_iload hx hb dX3_changeFrom_61 (lv_at hl 4 rfl) ?_
          refine lv_aload_n hx hb dX3_changeFrom_63 rfl (lv_at hl 0 rfl) ?_
          refine tw_get (D := (dC, dI)) (v := .int (y (a 4) 2)) (C := RX3) (T := TX3) (N := 12) hx hb hts (fun _ hh => (List.mem_cons_of_mem _ (List.mem_append_right _ (List.mem_append_left _ hh)))) hown hK hT (fx_4 hX) (by decide) cl_e14 rfl 2 (by decide) (hts (.fieldLink RX3 9 "TypingPool$Floor" "now" "I") (List.mem_cons_of_mem _ (List.mem_append_left _ (List.mem_of_getElem? (i := 0) rfl)))) (fun _ h9 => h9) rfl dX3_changeFrom_64 ?_
          refine lv_aload_n hx hb dX3_changeFrom_67 rfl (lv_at hl 0 rfl) ?_
          refine tw_get (D := (dC, dI)) (v := .ref (a 37)) (C := RX3) (T := TX3) (N := 12) hx hb hts (fun _ hh => (List.mem_cons_of_mem _ (List.mem_append_right _ (List.mem_append_left _ hh)))) hown hK hT (fx_4 hX) (by decide) cl_e14 rfl 10 (by decide) (hts (.fieldLink RX3 37 "TypingPool$Floor" "workLeft" "[I") (List.mem_cons_of_mem _ (List.mem_append_left _ (List.mem_of_getElem? (i := 15) rfl)))) (fun _ h9 => h9) rfl dX3_changeFrom_68 ?_
          refine lv_aload_n hx hb dX3_changeFrom_71 rfl (lv_at hl 0 rfl) ?_
          refine tw_get (D := (dC, dI)) (v := .ref (a 30)) (C := RX3) (T := TX3) (N := 12) hx hb hts (fun _ hh => (List.mem_cons_of_mem _ (List.mem_append_right _ (List.mem_append_left _ hh)))) hown hK hT (fx_4 hX) (by decide) cl_e14 rfl 3 (by decide) (hts (.fieldLink RX3 15 "TypingPool$Floor" "has" "[I") (List.mem_cons_of_mem _ (List.mem_append_left _ (List.mem_of_getElem? (i := 16) rfl)))) (fun _ h9 => h9) rfl dX3_changeFrom_72 ?_
          refine lv_iload hx hb dX3_changeFrom_75 (lv_at hl 5 rfl) ?_
          refine tw_iald hx hb hK hT 0 (fx_30 hX) (by decide) cl_e40 rfl (z_in rfl (by omega) (by omega)) dX3_changeFrom_77 ?_
          refine tw_iald hx hb hK hT 0 (fx_37 hX) (by decide) cl_e47 rfl (z_in rfl (by omega) (by omega)) dX3_changeFrom_78 ?_
          refine lv_aload_n hx hb dX3_changeFrom_79 rfl (lv_at hl 0 rfl) ?_
          refine tw_get (D := (dC, dI)) (v := .ref (a 31)) (C := RX3) (T := TX3) (N := 12) hx hb hts (fun _ hh => (List.mem_cons_of_mem _ (List.mem_append_right _ (List.mem_append_left _ hh)))) hown hK hT (fx_4 hX) (by decide) cl_e14 rfl 4 (by decide) (hts (.fieldLink RX3 19 "TypingPool$Floor" "rate" "[I") (List.mem_cons_of_mem _ (List.mem_append_left _ (List.mem_of_getElem? (i := 17) rfl)))) (fun _ h9 => h9) rfl dX3_changeFrom_80 ?_
          refine lv_iload hx hb dX3_changeFrom_83 (lv_at hl 5 rfl) ?_
          refine tw_iald hx hb hK hT 0 (fx_31 hX) (by decide) cl_e41 rfl (z_in rfl (by omega) (by omega)) dX3_changeFrom_85 ?_
          have hFc := tw_free hF hS hA
          refine va_calli (va_runSN (As := [.int (y (a 37) (y (a 30) i5.toNatClampNeg).toNatClampNeg), .int (y (a 31) i5.toNatClampNeg)]) (rest := [.int (y (a 4) 2), .int w4]) ⟨hx, hb, hml, hown, hts⟩ (c_minutesFor l dC dI ad av H.size a k τ ln y g u (y (a 37) (y (a 30) i5.toNatClampNeg).toNatClampNeg) (y (a 31) i5.toNatClampNeg)  ) ⟨va_cnB 2 hts (gi_0  (fun _ hh => (List.mem_cons_of_mem _ (List.mem_append_right _ (List.mem_append_right _ (List.mem_append_right _ (List.mem_append_right _ (List.mem_append_right _ (List.mem_append_left _ hh)))))))) gd_c_minutesFor) rfl rfl rfl hM.1.2.2.1 (hts (.initialized RX11) (List.mem_cons_of_mem _ (List.mem_append_left _ (List.mem_of_getElem? (i := 18) rfl)))) (by decide +kernel) ⟨Nat.le_of_ble_eq_true rfl, Nat.le_of_ble_eq_true rfl⟩, (hts (.static yX11_minutesFor) (List.mem_cons_of_mem _ (List.mem_append_left _ (List.mem_of_getElem? (i := 19) rfl)))), trivial⟩ ⟨pw_blind, pw_use hT hK hFc hS hM⟩ rfl rfl hl.1 rfl (lv_room (Nat.le_of_ble_eq_true rfl)) dX3_changeFrom_86 ⟨Nat.le_of_ble_eq_true rfl, Nat.le_of_ble_eq_true rfl⟩) hS (fun q _ h => hFc q h) hFc (fun r0 r_12 t H locs ht hvm hw hB hz1 hk1 hS => ?_)
          refine W.widen (k := 0) (n := 0) (Nat.le_of_ble_eq_true rfl) (Nat.le_of_ble_eq_true rfl) ?_
          clear hvm hz1 hk1
          subst hw
          have hT := hB
          rw [ht] at hT
          refine lv_iadd hx hb dX3_changeFrom_89 ?_
          refine lv_topi (fun x_13 ex_13 => ?_)
          refine va_mmin hx hb (by rw [hml]; exact hl.1.symm) hown (hts (.methodLink RX3 126 Lib.Math.min.name) (List.mem_cons_of_mem _ (List.mem_append_left _ (List.mem_of_getElem? (i := 2) rfl)))) (hts (.static Lib.Math.min.name) (List.mem_cons_of_mem _ (List.mem_append_left _ (List.mem_of_getElem? (i := 3) rfl)))) (hts (.initialized "java/lang/Math") (List.mem_cons_of_mem _ (List.mem_append_left _ (List.mem_of_getElem? (i := 4) rfl)))) (hts (.code Lib.Math.min.name Lib.Math.min.code 2 (some .int)) (List.mem_cons_of_mem _ (List.mem_append_left _ (List.mem_of_getElem? (i := 5) rfl)))) (Nat.le_of_ble_eq_true rfl) (Nat.le_of_ble_eq_true rfl) (Nat.le_of_ble_eq_true rfl) (Nat.le_of_ble_eq_true rfl) dX3_changeFrom_90 ?_
          refine lv_topi (fun x_14 ex_14 => ?_)
          have hx_14 := z_min ex_14 rfl rfl
          refine lv_istore (lv' := [(4, .int x_14), (0, .ref (a 4)), (1, .int p0), (2, .int p1), (3, .int x_3), (5, .int i5)]) hx hb dX3_changeFrom_93 hl (by decide) rfl (fun ls hl => ?_)
          obtain ⟨x_15, ex_15⟩ : ∃ y : Int32, y = i5 + Int32.ofInt 1 := ⟨_, rfl⟩
          have hx_15 := z_add ex_15 rfl (zk (x := Int32.ofInt 1) 1 rfl) (by omega) (by omega)
          refine lv_iinc (v := x_15) (lv' := [(5, .int x_15), (4, .int x_14), (0, .ref (a 4)), (1, .int p0), (2, .int p1), (3, .int x_3)]) hx hb dX3_changeFrom_95 hl (k := 5) rfl ex_15.symm (by decide) rfl (fun ls hl => ?_)
          refine lv_goto (tgt := 39) hx hb dX3_changeFrom_98 (by decide) ?_
          exact ih_39  x_14 x_15 H _ ls (by omega) (by omega) (by omega) hT hS (lv_sub hl [2, 3, 4, 5, 1, 0] rfl)
        · refine lq_top (v := 0) hre ?_
          rw [ht] at hT
          refine lv_if_eq (tgt := 95) hx hb dX3_changeFrom_58 (by decide) (fun c_16 => ?_) (fun c_16 => absurd c_16 (by decide))
          obtain ⟨x_17, ex_17⟩ : ∃ y : Int32, y = i5 + Int32.ofInt 1 := ⟨_, rfl⟩
          have hx_17 := z_add ex_17 rfl (zk (x := Int32.ofInt 1) 1 rfl) (by omega) (by omega)
          refine lv_iinc (v := x_17) (lv' := [(5, .int x_17), (0, .ref (a 4)), (1, .int p0), (2, .int p1), (3, .int x_3), (4, .int w4)]) hx hb dX3_changeFrom_95 hl (k := 5) rfl ex_17.symm (by decide) rfl (fun ls hl => ?_)
          refine lv_goto (tgt := 39) hx hb dX3_changeFrom_98 (by decide) ?_
          exact ih_39  w4 x_17 H _ ls (by omega) (by omega) (by omega) hT hS (lv_sub hl [1, 2, 3, 4, 5, 0] rfl)
  have hp_18 : (0 : Int32).toInt = 0 := (zk (x := 0) 0 rfl)
  exact loop_39 _ r_5 (0 : Int32) H _ ls (Nat.lt_succ_self _) (by omega) (by omega) hT hS (lv_sub hl [3, 4, 5, 2, 1, 0] rfl)
def wo_c_workAllt : List Cond := [.fieldLink RX3 43 "TypingPool$Floor" "book" "LTypingPool$Book;", .fieldLink RX3 75 "TypingPool$Book" "handCount" "I", .methodLink RX3 132 yX3_isBusy, .instanceMethod yX3_isBusy, .selects RX3 yX3_isBusy yX3_isBusy, .initialized RX3, .fieldLink RX3 15 "TypingPool$Floor" "has" "[I", .fieldLink RX3 25 "TypingPool$Floor" "worked" "[I", .fieldLink RX3 37 "TypingPool$Floor" "workLeft" "[I", .fieldLink RX3 19 "TypingPool$Floor" "rate" "[I", .fieldLink RX3 9 "TypingPool$Floor" "now" "I", .methodLink RX3 143 yX3_finish, .instanceMethod yX3_finish, .selects RX3 yX3_finish yX3_finish]
def wm_c_workAllt : List Cond := .code yX3_workAll cX3_workAll 5 none :: (wo_c_workAllt ++ (wsX30 ++ (wsX10 ++ (wm_c_isBusyt ++ (wm_c_finisht ++ ([] : List Cond))))))
theorem gd_c_workAllt : ∀ w ∈ wm_c_workAllt, goodWord w = true := gd_c rfl (gd_a (by decide) (gd_a gd_wsX30 (gd_a gd_wsX10 (gd_a gd_c_isBusyt (gd_a gd_c_finisht gd_nil)))))
set_option maxRecDepth 20000 in
theorem im_c_workAllt : ∀ w ∈ wm_c_workAllt, w ∈ lw_tbl := im_c (in_r [.code yX3_workAll cX3_workAll 5 none] [850] (by decide +kernel)) (in_app (in_r wo_c_workAllt [426, 125, 836, 838, 14, 83, 431, 440, 449, 434, 428, 851, 853, 16] (by decide +kernel)) (in_app im_wsX30 (in_app im_wsX10 (in_app im_c_isBusyt (in_app im_c_finisht im_nil)))))
set_option maxHeartbeats 4000000 in
set_option maxRecDepth 100000 in
theorem c_workAllt (l : Launch) (dC : Nat → ClassId) (dI : Nat → Nat → Nat) (ad av : Nat → Nat) (sz : Nat) (a : Nat → Nat) (k : Nat → ClassId) (τ ln : Nat → Nat) (y : Nat → Nat → Int32) (g : Nat → Nat → Option Nat) (u : Nat → Int) (p0 : Int32) (p1 : Int32) (hI : IC a u τ ln y g) : Met l yX3_workAll wm_c_workAllt ({ frames := 2, cells := 0, slots := 0, locals := 120 }) (pw_ ad av (dC, dI) sz [.ref (a 4), .int p0, .int p1] a k τ ln y g) (va_Qv (fun (_ : Unit) => True) (fun (_ : Unit) (t : State) => (∃ (y' : Nat → Nat → Int32), ag τ [40, 41, 42, 43, 46, 47] y y' ∧ tw (dC, dI) a k τ ln y' g t.heap)) (fr τ sz)) 0 0 (fr τ sz) := by
  refine Met.ofW (cc := cX3_workAll) (maxL := 5) (ret := none) (by decide) rfl ?_
  intro p e s m args below meth c s₁ B hml hv
  obtain ⟨rfl, hsz, hT, hK, hM⟩ := hv
  have hx := B.exec
  have hb := B.bytes
  have hr := B.returns
  have hts := atoms_spec (ws := wm_c_workAllt) B.pre
  have hown : s.vm.findClass RX3 = some m.cls := findClass_of_methodNamed B.named
  have hlocks := B.notSynchronized
  subst hsz
  generalize hAe : fr τ s.heap.size = A at hM ⊢
  have hA : ∀ q : Nat, s.heap.size ≤ q → A q := fun q h => by rw [← hAe]; exact Or.inr h
  have hF : ∀ q, τ q ≠ 0 → A q := fun q h => by rw [← hAe]; exact Or.inl h
  have hS : va_S A s.heap s.heap [] := va_S.rf
  have hX := hI.1
  have hR := ic_r hI
  have hG : ag τ [40, 41, 42, 43, 46, 47] y y := ag.rf
  have hl := lv_entry ([.ref (a 4), .int p0, .int p1]) (n := 5) (Nat.le_of_ble_eq_true rfl)
  rw [lg_entry_eq]
  generalize (lg_sl ([.ref (a 4), .int p0, .int p1]) ++ List.replicate (5 - (lg_sl ([.ref (a 4), .int p0, .int p1])).length) Slot.unset).toArray = ls at hl ⊢
  have hl : lv_has ls 5 [(0, .ref (a 4)), (1, .int p0), (2, .int p1)] := hl
  refine lv_iconst (v := 0) hx hb dX3_workAll_0 (by decide) ?_
  refine lv_istore_n (lv' := [(3, .int 0), (0, .ref (a 4)), (1, .int p0), (2, .int p1)]) hx hb dX3_workAll_1 rfl hl (by decide) rfl (fun ls hl => ?_)
  have loop_2 : ∀ (n : Nat) (i3 : Int32) (y_L2 : Nat → Nat → Int32) (H : Heap) (locs : List Loc) (ls : Array Slot), (u 1 - i3.toInt).toNat < n → ag τ [40, 41, 42, 43, 46, 47] y y_L2 → IC a u τ ln y_L2 g → 0 ≤ i3.toInt → i3.toInt ≤ u 1 → tw (dC, dI) a k τ ln y_L2 g H → va_S A s.heap H locs → lv_has ls 5 [(0, .ref (a 4)), (1, .int p0), (2, .int p1), (3, .int i3)] → W p l e (headSpec wm_c_workAllt ({ frames := 2, cells := 0, slots := 0, locals := 120 })).room s m ([.ref (a 4), .int p0, .int p1] : List Value).toArray below meth c H locs 0 0 (MQ below (va_Qv (fun (_ : Unit) => True) (fun (_ : Unit) (t : State) => (∃ (y' : Nat → Nat → Int32), ag τ [40, 41, 42, 43, 46, 47] y y' ∧ tw (dC, dI) a k τ ln y' g t.heap)) A) ([.ref (a 4), .int p0, .int p1] : List Value).toArray s 0 0 A) (F0 m 2 ls []) := by
    intro n
    induction n with
    | zero => intro i3 y_L2 H locs ls hlt; exact absurd hlt (Nat.not_lt_zero _)
    | succ n ih_2 =>
      intro i3 y_L2 H locs ls hlt hG hI hi2_0 hi2_1 hT hS hl
      refine lv_iload_n hx hb dX3_workAll_2 rfl (lv_at hl 3 rfl) ?_
      refine lv_aload_n hx hb dX3_workAll_3 rfl (lv_at hl 0 rfl) ?_
      refine tw_get (D := (dC, dI)) (v := .ref (a 1)) (C := RX3) (T := TX3) (N := 12) hx hb hts (fun _ hh => (List.mem_cons_of_mem _ (List.mem_append_right _ (List.mem_append_left _ hh)))) hown hK hT (fx_4 hX) (by decide) cl_e14 rfl 0 (by decide) (hts (.fieldLink RX3 43 "TypingPool$Floor" "book" "LTypingPool$Book;") (List.mem_cons_of_mem _ (List.mem_append_left _ (List.mem_of_getElem? (i := 0) rfl)))) (fun _ h9 => h9) rfl dX3_workAll_4 ?_
      refine tw_get (D := (dC, dI)) (v := .int (y_L2 (a 1) 3)) (C := RX1) (T := TX1) (N := 8) hx hb hts (fun _ hh => (List.mem_cons_of_mem _ (List.mem_append_right _ (List.mem_append_right _ (List.mem_append_left _ hh))))) hown hK hT (fx_1 hX) (by decide) cl_e11 rfl 3 (by decide) (hts (.fieldLink RX3 75 "TypingPool$Book" "handCount" "I") (List.mem_cons_of_mem _ (List.mem_append_left _ (List.mem_of_getElem? (i := 1) rfl)))) (fun _ h9 => h9) rfl dX3_workAll_7 ?_
      have hc_1 := ic_1 hI
      refine lv_icmp_ge (tgt := 87) hx hb dX3_workAll_10 (by decide) (fun c_2 => ?_) (fun c_2 => ?_)
      · have nc_2 := z_le hc_1 rfl c_2
        exact W.vret hx hb hr (fun t ht hW9 => ⟨⟨(), rfl, trivial, ⟨y_L2, hG, tw_at ht hT⟩⟩, hS.F ht⟩) hS.2.2 dX3_workAll_87
      · have nc_2 := z_nle hc_1 rfl c_2
        refine lv_aload_n hx hb dX3_workAll_13 rfl (lv_at hl 0 rfl) ?_
        refine lv_iload_n hx hb dX3_workAll_14 rfl (lv_at hl 3 rfl) ?_
        refine lv_iload_n hx hb dX3_workAll_15 rfl (lv_at hl 1 rfl) ?_
        have hFc := tw_free hF hS hA
        refine va_calli (va_runV (As := [.int i3, .int p0]) (rest := []) ⟨hx, hb, hml, hown, hts⟩ (c_isBusyt l dC dI ad av H.size a k τ ln y_L2 g u i3 p0 hI (by omega) (by omega)) (cwV 2 hts (gi_4 (List.mem_cons_of_mem _ (List.mem_append_left _ (List.mem_of_getElem? (i := 2) rfl))) (List.mem_cons_of_mem _ (List.mem_append_left _ (List.mem_of_getElem? (i := 3) rfl))) (List.mem_cons_of_mem _ (List.mem_append_left _ (List.mem_of_getElem? (i := 4) rfl))) (List.mem_cons_of_mem _ (List.mem_append_left _ (List.mem_of_getElem? (i := 5) rfl))) (fun _ hh => (List.mem_cons_of_mem _ (List.mem_append_right _ (List.mem_append_right _ (List.mem_append_right _ (List.mem_append_left _ hh)))))) gd_c_isBusyt) rfl rfl rfl (by decide +kernel) ⟨Nat.le_of_ble_eq_true rfl, Nat.le_of_ble_eq_true rfl⟩) ⟨pw_blind, tw_recv hK hT (fx_4 hX) (by decide) cl_e14 rfl, pw_use hT hK hFc hS hM⟩ rfl rfl hl.1 rfl (lv_room (Nat.le_of_ble_eq_true rfl)) dX3_workAll_16 ⟨Nat.le_of_ble_eq_true rfl, Nat.le_of_ble_eq_true rfl⟩) hS (fun q _ h => hFc q h) hFc (fun r0 r_3 t H locs ht hvm hw hB hz1 hk1 hS => ?_)
        refine W.widen (k := 0) (n := 0) (Nat.le_of_ble_eq_true rfl) (Nat.le_of_ble_eq_true rfl) ?_
        clear hvm hz1 hk1
        subst hw
        rcases hB with ⟨hre, hf_4, hf_5, hT⟩ | ⟨hre, hT⟩
        · refine lq_top (v := 1) hre ?_
          rw [ht] at hT
          refine lv_if_eq (tgt := 81) hx hb dX3_workAll_19 (by decide) (fun c_6 => absurd c_6 (by decide)) (fun c_6 => ?_)
          refine lv_aload_n hx hb dX3_workAll_22 rfl (lv_at hl 0 rfl) ?_
          refine tw_get (D := (dC, dI)) (v := .ref (a 30)) (C := RX3) (T := TX3) (N := 12) hx hb hts (fun _ hh => (List.mem_cons_of_mem _ (List.mem_append_right _ (List.mem_append_left _ hh)))) hown hK hT (fx_4 hX) (by decide) cl_e14 rfl 3 (by decide) (hts (.fieldLink RX3 15 "TypingPool$Floor" "has" "[I") (List.mem_cons_of_mem _ (List.mem_append_left _ (List.mem_of_getElem? (i := 6) rfl)))) (fun _ h9 => h9) rfl dX3_workAll_23 ?_
          refine lv_iload_n hx hb dX3_workAll_26 rfl (lv_at hl 3 rfl) ?_
          refine tw_iald hx hb hK hT 0 (fx_30 hX) (by decide) cl_e40 rfl (z_in rfl (by omega) (by omega)) dX3_workAll_27 ?_
          refine lv_istore (lv' := [(4, .int (y_L2 (a 30) i3.toNatClampNeg)), (0, .ref (a 4)), (1, .int p0), (2, .int p1), (3, .int i3)]) hx hb dX3_workAll_28 hl (by decide) rfl (fun ls hl => ?_)
          refine lv_aload_n hx hb dX3_workAll_30 rfl (lv_at hl 1 rfl) ?_
          refine tw_get (D := (dC, dI)) (v := .ref (a 33)) (C := RX3) (T := TX3) (N := 12) hx hb hts (fun _ hh => (List.mem_cons_of_mem _ (List.mem_append_right _ (List.mem_append_left _ hh)))) hown hK hT (fx_4 hX) (by decide) cl_e14 rfl 6 (by decide) (hts (.fieldLink RX3 25 "TypingPool$Floor" "worked" "[I") (List.mem_cons_of_mem _ (List.mem_append_left _ (List.mem_of_getElem? (i := 7) rfl)))) (fun _ h9 => h9) rfl dX3_workAll_31 ?_
          refine lv_iload_n hx hb dX3_workAll_34 rfl (lv_at hl 4 rfl) ?_
          refine lv_dup2_11 hx hb dX3_workAll_35 rfl rfl ?_
          refine tw_iald hx hb hK hT 0 (fx_33 hX) (by decide) cl_e43 rfl (z_in rfl (by omega) (by omega)) dX3_workAll_36 ?_
          refine lv_iload_n hx hb dX3_workAll_37 rfl (lv_at hl 3 rfl) ?_
          refine lv_iadd hx hb dX3_workAll_38 ?_
          refine lv_topi (fun x_7 ex_7 => ?_)
          refine tw_iast hx hb hK hT hF hS 0 (fx_33 hX) (by decide) (fun _ => cl_e43) rfl (z_in rfl (by omega) (by omega)) dX3_workAll_39 (fun H locs hT hS => ?_)
          obtain ⟨y_8, hy_8, hT⟩ : ∃ z : Nat → Nat → Int32, z = up2 y_L2 (a 33) i3.toNatClampNeg x_7 ∧ tw (dC, dI) a k τ ln z g H := ⟨_, rfl, hT⟩
          have hG : ag τ [40, 41, 42, 43, 46, 47] y y_8 := by rw [hy_8]; exact hG.up (fx_33 hX) (by decide)
          have hI := hI.ag (S := [43]) (y' := y_8) (by rw [hy_8]; exact ag.one (fx_33 hX)) (by decide)
          refine lv_aload_n hx hb dX3_workAll_40 rfl (lv_at hl 1 rfl) ?_
          refine tw_get (D := (dC, dI)) (v := .ref (a 37)) (C := RX3) (T := TX3) (N := 12) hx hb hts (fun _ hh => (List.mem_cons_of_mem _ (List.mem_append_right _ (List.mem_append_left _ hh)))) hown hK hT (fx_4 hX) (by decide) cl_e14 rfl 10 (by decide) (hts (.fieldLink RX3 37 "TypingPool$Floor" "workLeft" "[I") (List.mem_cons_of_mem _ (List.mem_append_left _ (List.mem_of_getElem? (i := 8) rfl)))) (fun _ h9 => h9) rfl dX3_workAll_41 ?_
          refine lv_iload hx hb dX3_workAll_44 (lv_at hl 0 rfl) ?_
          refine lv_dup2_11 hx hb dX3_workAll_46 rfl rfl ?_
          refine tw_iald hx hb hK hT 0 (fx_37 hX) (by decide) cl_e47 rfl (z_in rfl (by omega) (by omega)) dX3_workAll_47 ?_
          refine lv_aload_n hx hb dX3_workAll_48 rfl (lv_at hl 1 rfl) ?_
          refine tw_get (D := (dC, dI)) (v := .ref (a 31)) (C := RX3) (T := TX3) (N := 12) hx hb hts (fun _ hh => (List.mem_cons_of_mem _ (List.mem_append_right _ (List.mem_append_left _ hh)))) hown hK hT (fx_4 hX) (by decide) cl_e14 rfl 4 (by decide) (hts (.fieldLink RX3 19 "TypingPool$Floor" "rate" "[I") (List.mem_cons_of_mem _ (List.mem_append_left _ (List.mem_of_getElem? (i := 9) rfl)))) (fun _ h9 => h9) rfl dX3_workAll_49 ?_
          refine lv_iload_n hx hb dX3_workAll_52 rfl (lv_at hl 4 rfl) ?_
          refine tw_iald hx hb hK hT 0 (fx_31 hX) (by decide) cl_e41 rfl (z_in rfl (by omega) (by omega)) dX3_workAll_53 ?_
          refine lv_iload_n hx hb dX3_workAll_54 rfl (lv_at hl 3 rfl) ?_
          refine lv_imul hx hb dX3_workAll_55 ?_
          refine lv_topi (fun x_9 ex_9 => ?_)
          refine lv_isub hx hb dX3_workAll_56 ?_
          refine lv_topi (fun x_10 ex_10 => ?_)
          refine tw_iast hx hb hK hT hF hS 0 (fx_37 hX) (by decide) (fun _ => cl_e47) rfl (z_in rfl (by omega) (by omega)) dX3_workAll_57 (fun H locs hT hS => ?_)
          obtain ⟨y_11, hy_11, hT⟩ : ∃ z : Nat → Nat → Int32, z = up2 y_8 (a 37) ((y_L2 (a 30) i3.toNatClampNeg).toNatClampNeg) x_10 ∧ tw (dC, dI) a k τ ln z g H := ⟨_, rfl, hT⟩
          have hG : ag τ [40, 41, 42, 43, 46, 47] y y_11 := by rw [hy_11]; exact hG.up (fx_37 hX) (by decide)
          have hI := hI.ag (S := [47]) (y' := y_11) (by rw [hy_11]; exact ag.one (fx_37 hX)) (by decide)
          refine lv_aload_n hx hb dX3_workAll_58 rfl (lv_at hl 1 rfl) ?_
          refine tw_get (D := (dC, dI)) (v := .ref (a 37)) (C := RX3) (T := TX3) (N := 12) hx hb hts (fun _ hh => (List.mem_cons_of_mem _ (List.mem_append_right _ (List.mem_append_left _ hh)))) hown hK hT (fx_4 hX) (by decide) cl_e14 rfl 10 (by decide) (hts (.fieldLink RX3 37 "TypingPool$Floor" "workLeft" "[I") (List.mem_cons_of_mem _ (List.mem_append_left _ (List.mem_of_getElem? (i := 8) rfl)))) (fun _ h9 => h9) rfl dX3_workAll_59 ?_
          refine lv_iload hx hb dX3_workAll_62 (lv_at hl 0 rfl) ?_
          refine tw_iald hx hb hK hT 0 (fx_37 hX) (by decide) cl_e47 rfl (z_in rfl (by omega) (by omega)) dX3_workAll_64 ?_
          refine lv_if_gt (tgt := 81) hx hb dX3_workAll_65 (by decide) (fun c_12 => ?_) (fun c_12 => ?_)
          · have nc_12 := z_lt (zk (x := 0) 0 rfl) rfl c_12
            obtain ⟨x_13, ex_13⟩ : ∃ y : Int32, y = i3 + Int32.ofInt 1 := ⟨_, rfl⟩
            have hx_13 := z_add ex_13 rfl (zk (x := Int32.ofInt 1) 1 rfl) (by omega) (by omega)
            refine lv_iinc (v := x_13) (lv' := [(3, .int x_13), (4, .int (y_L2 (a 30) i3.toNatClampNeg)), (0, .ref (a 4)), (1, .int p0), (2, .int p1)]) hx hb dX3_workAll_81 hl (k := 4) rfl ex_13.symm (by decide) rfl (fun ls hl => ?_)
            refine lv_goto (tgt := 2) hx hb dX3_workAll_84 (by decide) ?_
            exact ih_2  x_13 y_11 H _ ls (by omega) hG hI (by omega) (by omega) hT hS (lv_sub hl [2, 3, 4, 0] rfl)
          · have nc_12 := z_nlt (zk (x := 0) 0 rfl) rfl c_12
            refine lv_aload_n hx hb dX3_workAll_68 rfl (lv_at hl 1 rfl) ?_
            refine lv_iload_n hx hb dX3_workAll_69 rfl (lv_at hl 4 rfl) ?_
            refine lv_iload hx hb dX3_workAll_70 (lv_at hl 0 rfl) ?_
            refine lv_aload_n hx hb dX3_workAll_72 rfl (lv_at hl 1 rfl) ?_
            refine tw_get (D := (dC, dI)) (v := .int (y_11 (a 4) 2)) (C := RX3) (T := TX3) (N := 12) hx hb hts (fun _ hh => (List.mem_cons_of_mem _ (List.mem_append_right _ (List.mem_append_left _ hh)))) hown hK hT (fx_4 hX) (by decide) cl_e14 rfl 2 (by decide) (hts (.fieldLink RX3 9 "TypingPool$Floor" "now" "I") (List.mem_cons_of_mem _ (List.mem_append_left _ (List.mem_of_getElem? (i := 10) rfl)))) (fun _ h9 => h9) rfl dX3_workAll_73 ?_
            refine lv_iload_n hx hb dX3_workAll_76 rfl (lv_at hl 3 rfl) ?_
            refine lv_iadd hx hb dX3_workAll_77 ?_
            refine lv_topi (fun x_14 ex_14 => ?_)
            have hFc := tw_free hF hS hA
            refine va_callv (va_runV (As := [.int i3, .int (y_L2 (a 30) i3.toNatClampNeg), .int x_14]) (rest := []) ⟨hx, hb, hml, hown, hts⟩ (c_finisht l dC dI ad av H.size a k τ ln y_11 g u i3 (y_L2 (a 30) i3.toNatClampNeg) x_14 hI (by omega) (by omega) (by omega) (by omega)) (cwV 3 hts (gi_4 (List.mem_cons_of_mem _ (List.mem_append_left _ (List.mem_of_getElem? (i := 11) rfl))) (List.mem_cons_of_mem _ (List.mem_append_left _ (List.mem_of_getElem? (i := 12) rfl))) (List.mem_cons_of_mem _ (List.mem_append_left _ (List.mem_of_getElem? (i := 13) rfl))) (List.mem_cons_of_mem _ (List.mem_append_left _ (List.mem_of_getElem? (i := 5) rfl))) (fun _ hh => (List.mem_cons_of_mem _ (List.mem_append_right _ (List.mem_append_right _ (List.mem_append_right _ (List.mem_append_right _ (List.mem_append_left _ hh))))))) gd_c_finisht) rfl rfl rfl (by decide +kernel) ⟨Nat.le_of_ble_eq_true rfl, Nat.le_of_ble_eq_true rfl⟩) ⟨pw_blind, tw_recv hK hT (fx_4 hX) (by decide) cl_e14 rfl, pw_use hT hK hFc hS hM⟩ rfl rfl hl.1 rfl (lv_room (Nat.le_of_ble_eq_true rfl)) dX3_workAll_78 ⟨Nat.le_of_ble_eq_true rfl, Nat.le_of_ble_eq_true rfl⟩) hS (fun q _ h => hFc q h) hFc (fun u0 t H locs ht hvm hw hB hz1 hk1 hS => ?_)
            refine W.widen (k := 0) (n := 0) (Nat.le_of_ble_eq_true rfl) (Nat.le_of_ble_eq_true rfl) ?_
            clear hvm hz1 hk1
            obtain ⟨y_16, hgy_16, hT⟩ := hB
            rw [ht] at hT
            have hG := hG.tr hgy_16 (by decide)
            have hI := hI.ag hgy_16 (by decide)
            obtain ⟨x_17, ex_17⟩ : ∃ y : Int32, y = i3 + Int32.ofInt 1 := ⟨_, rfl⟩
            have hx_17 := z_add ex_17 rfl (zk (x := Int32.ofInt 1) 1 rfl) (by omega) (by omega)
            refine lv_iinc (v := x_17) (lv' := [(3, .int x_17), (4, .int (y_L2 (a 30) i3.toNatClampNeg)), (0, .ref (a 4)), (1, .int p0), (2, .int p1)]) hx hb dX3_workAll_81 hl (k := 4) rfl ex_17.symm (by decide) rfl (fun ls hl => ?_)
            refine lv_goto (tgt := 2) hx hb dX3_workAll_84 (by decide) ?_
            exact ih_2  x_17 y_16 H _ ls (by omega) hG hI (by omega) (by omega) hT hS (lv_sub hl [2, 3, 4, 0] rfl)
        · refine lq_top (v := 0) hre ?_
          rw [ht] at hT
          refine lv_if_eq (tgt := 81) hx hb dX3_workAll_19 (by decide) (fun c_18 => ?_) (fun c_18 => absurd c_18 (by decide))
          obtain ⟨x_19, ex_19⟩ : ∃ y : Int32, y = i3 + Int32.ofInt 1 := ⟨_, rfl⟩
          have hx_19 := z_add ex_19 rfl (zk (x := Int32.ofInt 1) 1 rfl) (by omega) (by omega)
          refine lv_iinc (v := x_19) (lv' := [(3, .int x_19), (0, .ref (a 4)), (1, .int p0), (2, .int p1)]) hx hb dX3_workAll_81 hl (k := 3) rfl ex_19.symm (by decide) rfl (fun ls hl => ?_)
          refine lv_goto (tgt := 2) hx hb dX3_workAll_84 (by decide) ?_
          exact ih_2  x_19 y_L2 H _ ls (by omega) hG hI (by omega) (by omega) hT hS (lv_sub hl [1, 2, 3, 0] rfl)
  have hp_20 : (0 : Int32).toInt = 0 := (zk (x := 0) 0 rfl)
  exact loop_2 _ (0 : Int32) y s.heap _ ls (Nat.lt_succ_self _) hG hI (by omega) (by omega) hT hS (lv_sub hl [1, 2, 3, 0] rfl)
def wo_c_mayDotN : List Cond := [.fieldLink RX3 43 "TypingPool$Floor" "book" "LTypingPool$Book;", .fieldLink RX3 112 "TypingPool$Book" "hands" "[LTypingPool$Hand;", .fieldLink RX3 103 "TypingPool$Book" "pieces" "[LTypingPool$Piece;", .fieldLink RX3 149 "TypingPool$Hand" "styles" "I", .fieldLink RX3 152 "TypingPool$Piece" "style" "I", .fieldLink RX3 47 "TypingPool$Floor" "rules" "LTypingPool$Rules;", .fieldLink RX3 155 "TypingPool$Rules" "letters" "[I", .fieldLink RX3 160 "TypingPool$Piece" "secret" "I", .fieldLink RX3 163 "TypingPool$Hand" "leave" "I", .fieldLink RX3 166 "TypingPool$Piece" "department" "I", .methodLink RX3 169 yX3_today, .instanceMethod yX3_today, .selects RX3 yX3_today yX3_today, .initialized RX3, .methodLink RX3 173 yX10_holding, .instanceMethod yX10_holding, .selects RX10 yX10_holding yX10_holding, .initialized RX10, .methodLink RX3 177 yX10_give, .instanceMethod yX10_give, .selects RX10 yX10_give yX10_give]
def wm_c_mayDotN : List Cond := .code yX3_mayDo cX3_mayDo 7 (some .boolean) :: (wo_c_mayDotN ++ (wsX30 ++ (wsX10 ++ (wsX40 ++ (wsX60 ++ (wsX100 ++ (wm_c_todayt ++ (wm_c_holdingN ++ (wm_c_give ++ ([] : List Cond))))))))))
theorem gd_c_mayDotN : ∀ w ∈ wm_c_mayDotN, goodWord w = true := gd_c rfl (gd_a (by decide) (gd_a gd_wsX30 (gd_a gd_wsX10 (gd_a gd_wsX40 (gd_a gd_wsX60 (gd_a gd_wsX100 (gd_a gd_c_todayt (gd_a gd_c_holdingN (gd_a gd_c_give gd_nil)))))))))
set_option maxRecDepth 20000 in
theorem im_c_mayDotN : ∀ w ∈ wm_c_mayDotN, w ∈ lw_tbl := im_c (in_r [.code yX3_mayDo cX3_mayDo 7 (some .boolean)] [774] (by decide +kernel)) (in_app (in_r wo_c_mayDotN [426, 122, 130, 611, 669, 427, 403, 676, 613, 667, 775, 776, 777, 83, 779, 780, 781, 72, 783, 784, 785] (by decide +kernel)) (in_app im_wsX30 (in_app im_wsX10 (in_app im_wsX40 (in_app im_wsX60 (in_app im_wsX100 (in_app im_c_todayt (in_app im_c_holdingN (in_app im_c_give im_nil)))))))))
set_option maxHeartbeats 4000000 in
set_option maxRecDepth 100000 in
theorem c_mayDotN (l : Launch) (dC : Nat → ClassId) (dI : Nat → Nat → Nat) (ad av : Nat → Nat) (sz : Nat) (a : Nat → Nat) (k : Nat → ClassId) (τ ln : Nat → Nat) (y : Nat → Nat → Int32) (g : Nat → Nat → Option Nat) (u : Nat → Int) (p0 : Int32) (p1 : Int32) (hI : IC a u τ ln y g) (hlp0 : 0 ≤ p0.toInt) (hup0 : p0.toInt < u 1) (hlp1 : 0 ≤ p1.toInt) (hup1 : p1.toInt < u 2) : Met l yX3_mayDo wm_c_mayDotN ({ frames := 3, cells := 0, slots := 0, locals := 180 }) (pw_ ad av (dC, dI) sz [.ref (a 4), .int p0, .int p1, .null] a k τ ln y g) (va_Qi (fun (r u : Int32) => u = r) (fun (r : Int32) (t : State) => (∃ (y' : Nat → Nat → Int32), r = 1 ∧ ag τ [24, 27] y y' ∧ tw (dC, dI) a k τ ln y' g t.heap) ∨ (∃ (y' : Nat → Nat → Int32), r = 0 ∧ ag τ [24, 27] y y' ∧ tw (dC, dI) a k τ ln y' g t.heap)) (fr τ sz)) 0 0 (fr τ sz) := by
  refine Met.ofW (cc := cX3_mayDo) (maxL := 7) (ret := (some .boolean)) (by decide) rfl ?_
  intro p e s m args below meth c s₁ B hml hv
  obtain ⟨rfl, hsz, hT, hK, hM⟩ := hv
  have hx := B.exec
  have hb := B.bytes
  have hr := B.returns
  have hts := atoms_spec (ws := wm_c_mayDotN) B.pre
  have hown : s.vm.findClass RX3 = some m.cls := findClass_of_methodNamed B.named
  have hlocks := B.notSynchronized
  subst hsz
  generalize hAe : fr τ s.heap.size = A at hM ⊢
  have hA : ∀ q : Nat, s.heap.size ≤ q → A q := fun q h => by rw [← hAe]; exact Or.inr h
  have hF : ∀ q, τ q ≠ 0 → A q := fun q h => by rw [← hAe]; exact Or.inl h
  have hS : va_S A s.heap s.heap [] := va_S.rf
  have hX := hI.1
  have hR := ic_r hI
  have hG : ag τ [24, 27] y y := ag.rf
  have hl := lv_entry ([.ref (a 4), .int p0, .int p1, .null]) (n := 7) (Nat.le_of_ble_eq_true rfl)
  rw [lg_entry_eq]
  generalize (lg_sl ([.ref (a 4), .int p0, .int p1, .null]) ++ List.replicate (7 - (lg_sl ([.ref (a 4), .int p0, .int p1, .null])).length) Slot.unset).toArray = ls at hl ⊢
  have hl : lv_has ls 7 [(0, .ref (a 4)), (1, .int p0), (2, .int p1), (3, .null)] := hl
  refine lv_aload_n hx hb dX3_mayDo_0 rfl (lv_at hl 0 rfl) ?_
  refine tw_get (D := (dC, dI)) (v := .ref (a 1)) (C := RX3) (T := TX3) (N := 12) hx hb hts (fun _ hh => (List.mem_cons_of_mem _ (List.mem_append_right _ (List.mem_append_left _ hh)))) hown hK hT (fx_4 hX) (by decide) cl_e14 rfl 0 (by decide) (hts (.fieldLink RX3 43 "TypingPool$Floor" "book" "LTypingPool$Book;") (List.mem_cons_of_mem _ (List.mem_append_left _ (List.mem_of_getElem? (i := 0) rfl)))) (fun _ h9 => h9) rfl dX3_mayDo_1 ?_
  refine tw_get (D := (dC, dI)) (v := .ref (a 10)) (C := RX1) (T := TX1) (N := 8) hx hb hts (fun _ hh => (List.mem_cons_of_mem _ (List.mem_append_right _ (List.mem_append_right _ (List.mem_append_left _ hh))))) hown hK hT (fx_1 hX) (by decide) cl_e11 rfl 2 (by decide) (hts (.fieldLink RX3 112 "TypingPool$Book" "hands" "[LTypingPool$Hand;") (List.mem_cons_of_mem _ (List.mem_append_left _ (List.mem_of_getElem? (i := 1) rfl)))) (fun _ h9 => h9) rfl dX3_mayDo_4 ?_
  refine lv_iload_n hx hb dX3_mayDo_7 rfl (lv_at hl 1 rfl) ?_
  refine tw_aald hx hb hK hT 3 (fx_10 hX) (by decide) cl_e20 rfl (z_in rfl (by omega) (by omega)) dX3_mayDo_8 ?_
  obtain ⟨q_1, hgq_1, htq_1⟩ := ic_l10 hI (x := p0) rfl (by omega) (by omega)
  refine lq_topr hgq_1 ?_
  refine lv_astore (lv' := [(4, .ref q_1), (0, .ref (a 4)), (1, .int p0), (2, .int p1), (3, .null)]) hx hb dX3_mayDo_9 hl (by decide) rfl (fun ls hl => ?_)
  refine lv_aload_n hx hb dX3_mayDo_11 rfl (lv_at hl 1 rfl) ?_
  refine tw_get (D := (dC, dI)) (v := .ref (a 1)) (C := RX3) (T := TX3) (N := 12) hx hb hts (fun _ hh => (List.mem_cons_of_mem _ (List.mem_append_right _ (List.mem_append_left _ hh)))) hown hK hT (fx_4 hX) (by decide) cl_e14 rfl 0 (by decide) (hts (.fieldLink RX3 43 "TypingPool$Floor" "book" "LTypingPool$Book;") (List.mem_cons_of_mem _ (List.mem_append_left _ (List.mem_of_getElem? (i := 0) rfl)))) (fun _ h9 => h9) rfl dX3_mayDo_12 ?_
  refine tw_get (D := (dC, dI)) (v := .ref (a 11)) (C := RX1) (T := TX1) (N := 8) hx hb hts (fun _ hh => (List.mem_cons_of_mem _ (List.mem_append_right _ (List.mem_append_right _ (List.mem_append_left _ hh))))) hown hK hT (fx_1 hX) (by decide) cl_e11 rfl 4 (by decide) (hts (.fieldLink RX3 103 "TypingPool$Book" "pieces" "[LTypingPool$Piece;") (List.mem_cons_of_mem _ (List.mem_append_left _ (List.mem_of_getElem? (i := 2) rfl)))) (fun _ h9 => h9) rfl dX3_mayDo_15 ?_
  refine lv_iload_n hx hb dX3_mayDo_18 rfl (lv_at hl 3 rfl) ?_
  refine tw_aald hx hb hK hT 4 (fx_11 hX) (by decide) cl_e21 rfl (z_in rfl (by omega) (by omega)) dX3_mayDo_19 ?_
  obtain ⟨q_2, hgq_2, htq_2⟩ := ic_l11 hI (x := p1) rfl (by omega) (by omega)
  refine lq_topr hgq_2 ?_
  refine lv_astore (lv' := [(5, .ref q_2), (4, .ref q_1), (0, .ref (a 4)), (1, .int p0), (2, .int p1), (3, .null)]) hx hb dX3_mayDo_20 hl (by decide) rfl (fun ls hl => ?_)
  refine lv_aload hx hb dX3_mayDo_22 (lv_at hl 1 rfl) ?_
  refine tw_get (D := (dC, dI)) (v := .int (y q_1 1)) (C := RX4) (T := TX4) (N := 3) hx hb hts (fun _ hh => (List.mem_cons_of_mem _ (List.mem_append_right _ (List.mem_append_right _ (List.mem_append_right _ (List.mem_append_left _ hh)))))) hown hK hT htq_1 (by decide) cl_e1 rfl 1 (by decide) (hts (.fieldLink RX3 149 "TypingPool$Hand" "styles" "I") (List.mem_cons_of_mem _ (List.mem_append_left _ (List.mem_of_getElem? (i := 3) rfl)))) (fun _ h9 => h9) rfl dX3_mayDo_24 ?_
  refine lv_aload hx hb dX3_mayDo_27 (lv_at hl 0 rfl) ?_
  refine tw_get (D := (dC, dI)) (v := .int (y q_2 1)) (C := RX6) (T := TX6) (N := 11) hx hb hts (fun _ hh => (List.mem_cons_of_mem _ (List.mem_append_right _ (List.mem_append_right _ (List.mem_append_right _ (List.mem_append_right _ (List.mem_append_left _ hh))))))) hown hK hT htq_2 (by decide) cl_e2 rfl 1 (by decide) (hts (.fieldLink RX3 152 "TypingPool$Piece" "style" "I") (List.mem_cons_of_mem _ (List.mem_append_left _ (List.mem_of_getElem? (i := 4) rfl)))) (fun _ h9 => h9) rfl dX3_mayDo_29 ?_
  refine lv_ishr hx hb dX3_mayDo_32 ?_
  refine lv_topi (fun x_3 ex_3 => ?_)
  refine lv_iconst (v := 1) hx hb dX3_mayDo_33 (by decide) ?_
  refine lv_iand hx hb dX3_mayDo_34 ?_
  refine lv_topi (fun x_4 ex_4 => ?_)
  have hx_4 := z_and (x := x_3) (zk (x := 1) 1 rfl) (by omega)
  rw [← ex_4] at hx_4
  refine lv_if_ne (tgt := 40) hx hb dX3_mayDo_35 (by decide) (fun c_5 => ?_) (fun c_5 => ?_)
  · have nc_5 := z_ne rfl (zk (x := 0) 0 rfl) c_5
    refine lv_aload_n hx hb dX3_mayDo_40 rfl (lv_at hl 2 rfl) ?_
    refine tw_get (D := (dC, dI)) (v := .ref (a 2)) (C := RX3) (T := TX3) (N := 12) hx hb hts (fun _ hh => (List.mem_cons_of_mem _ (List.mem_append_right _ (List.mem_append_left _ hh)))) hown hK hT (fx_4 hX) (by decide) cl_e14 rfl 1 (by decide) (hts (.fieldLink RX3 47 "TypingPool$Floor" "rules" "LTypingPool$Rules;") (List.mem_cons_of_mem _ (List.mem_append_left _ (List.mem_of_getElem? (i := 5) rfl)))) (fun _ h9 => h9) rfl dX3_mayDo_41 ?_
    refine tw_get (D := (dC, dI)) (v := .ref (a 14)) (C := RX10) (T := TX10) (N := 6) hx hb hts (fun _ hh => (List.mem_cons_of_mem _ (List.mem_append_right _ (List.mem_append_right _ (List.mem_append_right _ (List.mem_append_right _ (List.mem_append_right _ (List.mem_append_left _ hh)))))))) hown hK hT (fx_2 hX) (by decide) cl_e12 rfl 2 (by decide) (hts (.fieldLink RX3 155 "TypingPool$Rules" "letters" "[I") (List.mem_cons_of_mem _ (List.mem_append_left _ (List.mem_of_getElem? (i := 6) rfl)))) (fun _ h9 => h9) rfl dX3_mayDo_44 ?_
    refine lv_astore (lv' := [(6, .ref (a 14)), (5, .ref q_2), (4, .ref q_1), (0, .ref (a 4)), (1, .int p0), (2, .int p1), (3, .null)]) hx hb dX3_mayDo_47 hl (by decide) rfl (fun ls hl => ?_)
    refine lv_aload hx hb dX3_mayDo_49 (lv_at hl 0 rfl) ?_
    refine lv_iconst (v := 0) hx hb dX3_mayDo_51 (by decide) ?_
    refine lv_aload hx hb dX3_mayDo_52 (lv_at hl 1 rfl) ?_
    refine tw_get (D := (dC, dI)) (v := .int (y q_2 3)) (C := RX6) (T := TX6) (N := 11) hx hb hts (fun _ hh => (List.mem_cons_of_mem _ (List.mem_append_right _ (List.mem_append_right _ (List.mem_append_right _ (List.mem_append_right _ (List.mem_append_left _ hh))))))) hown hK hT htq_2 (by decide) cl_e2 rfl 3 (by decide) (hts (.fieldLink RX3 160 "TypingPool$Piece" "secret" "I") (List.mem_cons_of_mem _ (List.mem_append_left _ (List.mem_of_getElem? (i := 7) rfl)))) (fun _ h9 => h9) rfl dX3_mayDo_54 ?_
    refine tw_iast hx hb hK hT hF hS 0 (fx_14 hX) (by decide) (fun _ => cl_e24) rfl (z_in (zk (x := 0) 0 rfl) (by omega) (by omega)) dX3_mayDo_57 (fun H locs hT hS => ?_)
    obtain ⟨y_6, hy_6, hT⟩ : ∃ z : Nat → Nat → Int32, z = up2 y (a 14) ((0 : Int32).toNatClampNeg) (y q_2 3) ∧ tw (dC, dI) a k τ ln z g H := ⟨_, rfl, hT⟩
    have hG : ag τ [24, 27] y y_6 := by rw [hy_6]; exact hG.up (fx_14 hX) (by decide)
    have hI := hI.ag (S := [24]) (y' := y_6) (by rw [hy_6]; exact ag.one (fx_14 hX)) (by decide)
    refine lv_aload hx hb dX3_mayDo_58 (lv_at hl 0 rfl) ?_
    refine lv_iconst (v := 1) hx hb dX3_mayDo_60 (by decide) ?_
    refine lv_aload hx hb dX3_mayDo_61 (lv_at hl 2 rfl) ?_
    refine tw_get (D := (dC, dI)) (v := .int (y_6 q_1 2)) (C := RX4) (T := TX4) (N := 3) hx hb hts (fun _ hh => (List.mem_cons_of_mem _ (List.mem_append_right _ (List.mem_append_right _ (List.mem_append_right _ (List.mem_append_left _ hh)))))) hown hK hT htq_1 (by decide) cl_e1 rfl 2 (by decide) (hts (.fieldLink RX3 163 "TypingPool$Hand" "leave" "I") (List.mem_cons_of_mem _ (List.mem_append_left _ (List.mem_of_getElem? (i := 8) rfl)))) (fun _ h9 => h9) rfl dX3_mayDo_63 ?_
    refine tw_iast hx hb hK hT hF hS 0 (fx_14 hX) (by decide) (fun _ => cl_e24) rfl (z_in (zk (x := 1) 1 rfl) (by omega) (by omega)) dX3_mayDo_66 (fun H locs hT hS => ?_)
    obtain ⟨y_7, hy_7, hT⟩ : ∃ z : Nat → Nat → Int32, z = up2 y_6 (a 14) ((1 : Int32).toNatClampNeg) (y_6 q_1 2) ∧ tw (dC, dI) a k τ ln z g H := ⟨_, rfl, hT⟩
    have hG : ag τ [24, 27] y y_7 := by rw [hy_7]; exact hG.up (fx_14 hX) (by decide)
    have hI := hI.ag (S := [24]) (y' := y_7) (by rw [hy_7]; exact ag.one (fx_14 hX)) (by decide)
    refine lv_aload hx hb dX3_mayDo_67 (lv_at hl 0 rfl) ?_
    refine lv_iconst (v := 2) hx hb dX3_mayDo_69 (by decide) ?_
    refine lv_aload hx hb dX3_mayDo_70 (lv_at hl 1 rfl) ?_
    refine tw_get (D := (dC, dI)) (v := .int (y_7 q_2 0)) (C := RX6) (T := TX6) (N := 11) hx hb hts (fun _ hh => (List.mem_cons_of_mem _ (List.mem_append_right _ (List.mem_append_right _ (List.mem_append_right _ (List.mem_append_right _ (List.mem_append_left _ hh))))))) hown hK hT htq_2 (by decide) cl_e2 rfl 0 (by decide) (hts (.fieldLink RX3 166 "TypingPool$Piece" "department" "I") (List.mem_cons_of_mem _ (List.mem_append_left _ (List.mem_of_getElem? (i := 9) rfl)))) (fun _ h9 => h9) rfl dX3_mayDo_72 ?_
    refine tw_iast hx hb hK hT hF hS 0 (fx_14 hX) (by decide) (fun _ => cl_e24) rfl (z_in (zk (x := 2) 2 rfl) (by omega) (by omega)) dX3_mayDo_75 (fun H locs hT hS => ?_)
    obtain ⟨y_8, hy_8, hT⟩ : ∃ z : Nat → Nat → Int32, z = up2 y_7 (a 14) ((2 : Int32).toNatClampNeg) (y_7 q_2 0) ∧ tw (dC, dI) a k τ ln z g H := ⟨_, rfl, hT⟩
    have hG : ag τ [24, 27] y y_8 := by rw [hy_8]; exact hG.up (fx_14 hX) (by decide)
    have hI := hI.ag (S := [24]) (y' := y_8) (by rw [hy_8]; exact ag.one (fx_14 hX)) (by decide)
    refine lv_aload hx hb dX3_mayDo_76 (lv_at hl 0 rfl) ?_
    refine lv_iconst (v := 3) hx hb dX3_mayDo_78 (by decide) ?_
    refine lv_iload_n hx hb dX3_mayDo_79 rfl (lv_at hl 4 rfl) ?_
    refine tw_iast hx hb hK hT hF hS 0 (fx_14 hX) (by decide) (fun _ => cl_e24) rfl (z_in (zk (x := 3) 3 rfl) (by omega) (by omega)) dX3_mayDo_80 (fun H locs hT hS => ?_)
    obtain ⟨y_9, hy_9, hT⟩ : ∃ z : Nat → Nat → Int32, z = up2 y_8 (a 14) ((3 : Int32).toNatClampNeg) p0 ∧ tw (dC, dI) a k τ ln z g H := ⟨_, rfl, hT⟩
    have hG : ag τ [24, 27] y y_9 := by rw [hy_9]; exact hG.up (fx_14 hX) (by decide)
    have hI := hI.ag (S := [24]) (y' := y_9) (by rw [hy_9]; exact ag.one (fx_14 hX)) (by decide)
    refine lv_aload_n hx hb dX3_mayDo_81 rfl (lv_at hl 3 rfl) ?_
    refine tw_get (D := (dC, dI)) (v := .ref (a 2)) (C := RX3) (T := TX3) (N := 12) hx hb hts (fun _ hh => (List.mem_cons_of_mem _ (List.mem_append_right _ (List.mem_append_left _ hh)))) hown hK hT (fx_4 hX) (by decide) cl_e14 rfl 1 (by decide) (hts (.fieldLink RX3 47 "TypingPool$Floor" "rules" "LTypingPool$Rules;") (List.mem_cons_of_mem _ (List.mem_append_left _ (List.mem_of_getElem? (i := 5) rfl)))) (fun _ h9 => h9) rfl dX3_mayDo_82 ?_
    refine lv_aload_n hx hb dX3_mayDo_85 rfl (lv_at hl 3 rfl) ?_
    refine tw_get (D := (dC, dI)) (v := .ref (a 2)) (C := RX3) (T := TX3) (N := 12) hx hb hts (fun _ hh => (List.mem_cons_of_mem _ (List.mem_append_right _ (List.mem_append_left _ hh)))) hown hK hT (fx_4 hX) (by decide) cl_e14 rfl 1 (by decide) (hts (.fieldLink RX3 47 "TypingPool$Floor" "rules" "LTypingPool$Rules;") (List.mem_cons_of_mem _ (List.mem_append_left _ (List.mem_of_getElem? (i := 5) rfl)))) (fun _ h9 => h9) rfl dX3_mayDo_86 ?_
    refine lv_iconst (v := 1) hx hb dX3_mayDo_89 (by decide) ?_
    refine lv_aload_n hx hb dX3_mayDo_90 rfl (lv_at hl 3 rfl) ?_
    have hFc := tw_free hF hS hA
    refine va_calli (va_runV (As := []) (rest := [.int 1, .ref (a 2), .ref (a 2)]) ⟨hx, hb, hml, hown, hts⟩ (c_todayt l dC dI ad av H.size a k τ ln y_9 g u  hI ) (cwV 0 hts (gi_4 (List.mem_cons_of_mem _ (List.mem_append_left _ (List.mem_of_getElem? (i := 10) rfl))) (List.mem_cons_of_mem _ (List.mem_append_left _ (List.mem_of_getElem? (i := 11) rfl))) (List.mem_cons_of_mem _ (List.mem_append_left _ (List.mem_of_getElem? (i := 12) rfl))) (List.mem_cons_of_mem _ (List.mem_append_left _ (List.mem_of_getElem? (i := 13) rfl))) (fun _ hh => (List.mem_cons_of_mem _ (List.mem_append_right _ (List.mem_append_right _ (List.mem_append_right _ (List.mem_append_right _ (List.mem_append_right _ (List.mem_append_right _ (List.mem_append_left _ hh))))))))) gd_c_todayt) rfl rfl rfl (by decide +kernel) ⟨Nat.le_of_ble_eq_true rfl, Nat.le_of_ble_eq_true rfl⟩) ⟨pw_blind, tw_recv hK hT (fx_4 hX) (by decide) cl_e14 rfl, pw_use hT hK hFc hS hM⟩ rfl rfl hl.1 rfl (lv_room (Nat.le_of_ble_eq_true rfl)) dX3_mayDo_91 ⟨Nat.le_of_ble_eq_true rfl, Nat.le_of_ble_eq_true rfl⟩) hS (fun q _ h => hFc q h) hFc (fun r0 r_10 t H locs ht hvm hw hB hz1 hk1 hS => ?_)
    refine W.widen (k := 0) (n := 0) (Nat.le_of_ble_eq_true rfl) (Nat.le_of_ble_eq_true rfl) ?_
    clear hvm hz1 hk1
    subst hw
    have hT := hB
    rw [ht] at hT
    refine lv_aload_nN hx hb dX3_mayDo_94 rfl (lv_at hl 6 rfl) ?_
    have hFc := tw_free hF hS hA
    have hp_11 : (1 : Int32).toInt = 1 := (zk (x := 1) 1 rfl)
    refine va_callr (va_runV (As := [.int 1, .int r_10, .null]) (rest := [.ref (a 2)]) ⟨hx, hb, hml, hown, hts⟩ (c_holdingN l dC dI ad av H.size a k τ ln y_9 g u (1 : Int32) r_10 hI (by decide) (by decide)) (cwV 3 hts (gi_4 (List.mem_cons_of_mem _ (List.mem_append_left _ (List.mem_of_getElem? (i := 14) rfl))) (List.mem_cons_of_mem _ (List.mem_append_left _ (List.mem_of_getElem? (i := 15) rfl))) (List.mem_cons_of_mem _ (List.mem_append_left _ (List.mem_of_getElem? (i := 16) rfl))) (List.mem_cons_of_mem _ (List.mem_append_left _ (List.mem_of_getElem? (i := 17) rfl))) (fun _ hh => (List.mem_cons_of_mem _ (List.mem_append_right _ (List.mem_append_right _ (List.mem_append_right _ (List.mem_append_right _ (List.mem_append_right _ (List.mem_append_right _ (List.mem_append_right _ (List.mem_append_left _ hh)))))))))) gd_c_holdingN) rfl rfl rfl (by decide +kernel) ⟨Nat.le_of_ble_eq_true rfl, Nat.le_of_ble_eq_true rfl⟩) ⟨pw_blind, tw_recv hK hT (fx_2 hX) (by decide) cl_e12 rfl, pw_use hT hK hFc hS hM⟩ rfl rfl hl.1 rfl (lv_room (Nat.le_of_ble_eq_true rfl)) dX3_mayDo_95 ⟨Nat.le_of_ble_eq_true rfl, Nat.le_of_ble_eq_true rfl⟩) hS (fun q _ h => hFc q h) hFc (fun u0 r_12 t H locs ht hvm hw hB hz1 hk1 hS => ?_)
    refine W.widen (k := 0) (n := 0) (Nat.le_of_ble_eq_true rfl) (Nat.le_of_ble_eq_true rfl) ?_
    clear hvm hz1 hk1
    obtain ⟨htr_12, hT⟩ := hB
    rw [ht] at hT
    clear hp_11
    have hFc := tw_free hF hS hA
    refine va_calli (va_runV (As := [.ref r_12]) (rest := []) ⟨hx, hb, hml, hown, hts⟩ (c_give l dC dI ad av H.size a k τ ln y_9 g u r_12 hI htr_12) (cwV 1 hts (gi_4 (List.mem_cons_of_mem _ (List.mem_append_left _ (List.mem_of_getElem? (i := 18) rfl))) (List.mem_cons_of_mem _ (List.mem_append_left _ (List.mem_of_getElem? (i := 19) rfl))) (List.mem_cons_of_mem _ (List.mem_append_left _ (List.mem_of_getElem? (i := 20) rfl))) (List.mem_cons_of_mem _ (List.mem_append_left _ (List.mem_of_getElem? (i := 17) rfl))) (fun _ hh => (List.mem_cons_of_mem _ (List.mem_append_right _ (List.mem_append_right _ (List.mem_append_right _ (List.mem_append_right _ (List.mem_append_right _ (List.mem_append_right _ (List.mem_append_right _ (List.mem_append_right _ (List.mem_append_left _ hh))))))))))) gd_c_give) rfl rfl rfl (by decide +kernel) ⟨Nat.le_of_ble_eq_true rfl, Nat.le_of_ble_eq_true rfl⟩) ⟨pw_blind, tw_recv hK hT (fx_2 hX) (by decide) cl_e12 rfl, pw_use hT hK hFc hS hM⟩ rfl rfl hl.1 rfl (lv_room (Nat.le_of_ble_eq_true rfl)) dX3_mayDo_98 ⟨Nat.le_of_ble_eq_true rfl, Nat.le_of_ble_eq_true rfl⟩) hS (fun q _ h => hFc q h) hFc (fun r0 r_13 t H locs ht hvm hw hB hz1 hk1 hS => ?_)
    refine W.widen (k := 0) (n := 0) (Nat.le_of_ble_eq_true rfl) (Nat.le_of_ble_eq_true rfl) ?_
    clear hvm hz1 hk1
    subst hw
    obtain ⟨y_14, hgy_14, hT⟩ := hB
    rw [ht] at hT
    have hG := hG.tr hgy_14 (by decide)
    have hI := hI.ag hgy_14 (by decide)
    refine lv_if_eq (tgt := 108) hx hb dX3_mayDo_101 (by decide) (fun c_15 => ?_) (fun c_15 => ?_)
    · have nc_15 := z_eq rfl (zk (x := 0) 0 rfl) c_15
      refine lv_iconst (v := 0) hx hb dX3_mayDo_108 (by decide) ?_
      exact W.zret (v := 0) hx hb hr (by decide) (fun t ht hW9 => ⟨⟨0, 0, rfl, rfl, Or.inr (⟨y_14, rfl, hG, tw_at ht hT⟩)⟩, hS.F ht⟩) hS.2.2 dX3_mayDo_109
    · have nc_15 := z_ne rfl (zk (x := 0) 0 rfl) c_15
      refine lv_iconst (v := 1) hx hb dX3_mayDo_104 (by decide) ?_
      refine lv_goto (tgt := 109) hx hb dX3_mayDo_105 (by decide) ?_
      exact W.zret (v := 1) hx hb hr (by decide) (fun t ht hW9 => ⟨⟨1, 1, rfl, rfl, Or.inl ⟨y_14, rfl, hG, tw_at ht hT⟩⟩, hS.F ht⟩) hS.2.2 dX3_mayDo_109
  · have nc_5 := z_eq rfl (zk (x := 0) 0 rfl) c_5
    refine lv_iconst (v := 0) hx hb dX3_mayDo_38 (by decide) ?_
    exact W.zret (v := 0) hx hb hr (by decide) (fun t ht hW9 => ⟨⟨0, 0, rfl, rfl, Or.inr (⟨y, rfl, hG, tw_at ht hT⟩)⟩, hS.F ht⟩) hS.2.2 dX3_mayDo_39
def wo_c_hastetN : List Cond := [.fieldLink RX3 43 "TypingPool$Floor" "book" "LTypingPool$Book;", .fieldLink RX3 103 "TypingPool$Book" "pieces" "[LTypingPool$Piece;", .fieldLink RX3 47 "TypingPool$Floor" "rules" "LTypingPool$Rules;", .fieldLink RX3 155 "TypingPool$Rules" "letters" "[I", .fieldLink RX3 181 "TypingPool$Piece" "claim" "I", .fieldLink RX3 9 "TypingPool$Floor" "now" "I", .fieldLink RX3 184 "TypingPool$Piece" "comes" "I", .fieldLink RX3 187 "TypingPool$Piece" "lines" "I", .fieldLink RX3 190 "TypingPool$Piece" "due" "I", .fieldLink RX3 160 "TypingPool$Piece" "secret" "I", .fieldLink RX3 166 "TypingPool$Piece" "department" "I", .fieldLink RX3 22 "TypingPool$Floor" "words" "[I", .methodLink RX3 107 yX6_unknownTo, .instanceMethod yX6_unknownTo, .selects RX6 yX6_unknownTo yX6_unknownTo, .initialized RX6, .methodLink RX3 193 yX3_waitingIn, .instanceMethod yX3_waitingIn, .selects RX3 yX3_waitingIn yX3_waitingIn, .initialized RX3, .methodLink RX3 169 yX3_today, .instanceMethod yX3_today, .selects RX3 yX3_today yX3_today, .methodLink RX3 173 yX10_holding, .instanceMethod yX10_holding, .selects RX10 yX10_holding yX10_holding, .initialized RX10, .methodLink RX3 177 yX10_give, .instanceMethod yX10_give, .selects RX10 yX10_give yX10_give]
def wm_c_hastetN : List Cond := .code yX3_haste cX3_haste 6 (some .int) :: (wo_c_hastetN ++ (wsX30 ++ (wsX10 ++ (wsX100 ++ (wsX60 ++ (wm_c_unknownTo ++ (wm_c_waitingInt ++ (wm_c_todayt ++ (wm_c_holdingN ++ (wm_c_give ++ ([] : List Cond)))))))))))
theorem gd_c_hastetN : ∀ w ∈ wm_c_hastetN, goodWord w = true := gd_c rfl (gd_a (by decide) (gd_a gd_wsX30 (gd_a gd_wsX10 (gd_a gd_wsX100 (gd_a gd_wsX60 (gd_a gd_c_unknownTo (gd_a gd_c_waitingInt (gd_a gd_c_todayt (gd_a gd_c_holdingN (gd_a gd_c_give gd_nil))))))))))
set_option maxRecDepth 20000 in
theorem im_c_hastetN : ∀ w ∈ wm_c_hastetN, w ∈ lw_tbl := im_c (in_r [.code yX3_haste cX3_haste 6 (some .int)] [800] (by decide +kernel)) (in_app (in_r wo_c_hastetN [426, 130, 427, 403, 678, 428, 681, 673, 684, 676, 667, 437, 801, 802, 803, 89, 811, 813, 11, 83, 775, 776, 777, 779, 780, 781, 72, 783, 784, 785] (by decide +kernel)) (in_app im_wsX30 (in_app im_wsX10 (in_app im_wsX100 (in_app im_wsX60 (in_app im_c_unknownTo (in_app im_c_waitingInt (in_app im_c_todayt (in_app im_c_holdingN (in_app im_c_give im_nil))))))))))
set_option maxHeartbeats 4000000 in
set_option maxRecDepth 100000 in
theorem c_hastetN (l : Launch) (dC : Nat → ClassId) (dI : Nat → Nat → Nat) (ad av : Nat → Nat) (sz : Nat) (a : Nat → Nat) (k : Nat → ClassId) (τ ln : Nat → Nat) (y : Nat → Nat → Int32) (g : Nat → Nat → Option Nat) (u : Nat → Int) (p0 : Int32) (p1 : Int32) (hI : IC a u τ ln y g) (hlp0 : 0 ≤ p0.toInt) (hup0 : p0.toInt < u 1) (hlp1 : 0 ≤ p1.toInt) (hup1 : p1.toInt < u 2) : Met l yX3_haste wm_c_hastetN ({ frames := 3, cells := 0, slots := 0, locals := 180 }) (pw_ ad av (dC, dI) sz [.ref (a 4), .int p0, .int p1, .null] a k τ ln y g) (va_Qi (fun (r u : Int32) => u = r) (fun (r : Int32) (t : State) => (∃ (y' : Nat → Nat → Int32), ag τ [24, 27] y y' ∧ tw (dC, dI) a k τ ln y' g t.heap)) (fr τ sz)) 0 0 (fr τ sz) := by
  refine Met.ofW (cc := cX3_haste) (maxL := 6) (ret := (some .int)) (by decide) rfl ?_
  intro p e s m args below meth c s₁ B hml hv
  obtain ⟨rfl, hsz, hT, hK, hM⟩ := hv
  have hx := B.exec
  have hb := B.bytes
  have hr := B.returns
  have hts := atoms_spec (ws := wm_c_hastetN) B.pre
  have hown : s.vm.findClass RX3 = some m.cls := findClass_of_methodNamed B.named
  have hlocks := B.notSynchronized
  subst hsz
  generalize hAe : fr τ s.heap.size = A at hM ⊢
  have hA : ∀ q : Nat, s.heap.size ≤ q → A q := fun q h => by rw [← hAe]; exact Or.inr h
  have hF : ∀ q, τ q ≠ 0 → A q := fun q h => by rw [← hAe]; exact Or.inl h
  have hS : va_S A s.heap s.heap [] := va_S.rf
  have hX := hI.1
  have hR := ic_r hI
  have hG : ag τ [24, 27] y y := ag.rf
  have hl := lv_entry ([.ref (a 4), .int p0, .int p1, .null]) (n := 6) (Nat.le_of_ble_eq_true rfl)
  rw [lg_entry_eq]
  generalize (lg_sl ([.ref (a 4), .int p0, .int p1, .null]) ++ List.replicate (6 - (lg_sl ([.ref (a 4), .int p0, .int p1, .null])).length) Slot.unset).toArray = ls at hl ⊢
  have hl : lv_has ls 6 [(0, .ref (a 4)), (1, .int p0), (2, .int p1), (3, .null)] := hl
  refine lv_aload_n hx hb dX3_haste_0 rfl (lv_at hl 0 rfl) ?_
  refine tw_get (D := (dC, dI)) (v := .ref (a 1)) (C := RX3) (T := TX3) (N := 12) hx hb hts (fun _ hh => (List.mem_cons_of_mem _ (List.mem_append_right _ (List.mem_append_left _ hh)))) hown hK hT (fx_4 hX) (by decide) cl_e14 rfl 0 (by decide) (hts (.fieldLink RX3 43 "TypingPool$Floor" "book" "LTypingPool$Book;") (List.mem_cons_of_mem _ (List.mem_append_left _ (List.mem_of_getElem? (i := 0) rfl)))) (fun _ h9 => h9) rfl dX3_haste_1 ?_
  refine tw_get (D := (dC, dI)) (v := .ref (a 11)) (C := RX1) (T := TX1) (N := 8) hx hb hts (fun _ hh => (List.mem_cons_of_mem _ (List.mem_append_right _ (List.mem_append_right _ (List.mem_append_left _ hh))))) hown hK hT (fx_1 hX) (by decide) cl_e11 rfl 4 (by decide) (hts (.fieldLink RX3 103 "TypingPool$Book" "pieces" "[LTypingPool$Piece;") (List.mem_cons_of_mem _ (List.mem_append_left _ (List.mem_of_getElem? (i := 1) rfl)))) (fun _ h9 => h9) rfl dX3_haste_4 ?_
  refine lv_iload_n hx hb dX3_haste_7 rfl (lv_at hl 2 rfl) ?_
  refine tw_aald hx hb hK hT 4 (fx_11 hX) (by decide) cl_e21 rfl (z_in rfl (by omega) (by omega)) dX3_haste_8 ?_
  obtain ⟨q_1, hgq_1, htq_1⟩ := ic_l11 hI (x := p1) rfl (by omega) (by omega)
  refine lq_topr hgq_1 ?_
  refine lv_astore (lv' := [(4, .ref q_1), (0, .ref (a 4)), (1, .int p0), (2, .int p1), (3, .null)]) hx hb dX3_haste_9 hl (by decide) rfl (fun ls hl => ?_)
  refine lv_aload_n hx hb dX3_haste_11 rfl (lv_at hl 1 rfl) ?_
  refine tw_get (D := (dC, dI)) (v := .ref (a 2)) (C := RX3) (T := TX3) (N := 12) hx hb hts (fun _ hh => (List.mem_cons_of_mem _ (List.mem_append_right _ (List.mem_append_left _ hh)))) hown hK hT (fx_4 hX) (by decide) cl_e14 rfl 1 (by decide) (hts (.fieldLink RX3 47 "TypingPool$Floor" "rules" "LTypingPool$Rules;") (List.mem_cons_of_mem _ (List.mem_append_left _ (List.mem_of_getElem? (i := 2) rfl)))) (fun _ h9 => h9) rfl dX3_haste_12 ?_
  refine tw_get (D := (dC, dI)) (v := .ref (a 14)) (C := RX10) (T := TX10) (N := 6) hx hb hts (fun _ hh => (List.mem_cons_of_mem _ (List.mem_append_right _ (List.mem_append_right _ (List.mem_append_right _ (List.mem_append_left _ hh)))))) hown hK hT (fx_2 hX) (by decide) cl_e12 rfl 2 (by decide) (hts (.fieldLink RX3 155 "TypingPool$Rules" "letters" "[I") (List.mem_cons_of_mem _ (List.mem_append_left _ (List.mem_of_getElem? (i := 3) rfl)))) (fun _ h9 => h9) rfl dX3_haste_15 ?_
  refine lv_astore (lv' := [(5, .ref (a 14)), (4, .ref q_1), (0, .ref (a 4)), (1, .int p0), (2, .int p1), (3, .null)]) hx hb dX3_haste_18 hl (by decide) rfl (fun ls hl => ?_)
  refine lv_aload hx hb dX3_haste_20 (lv_at hl 0 rfl) ?_
  refine lv_iconst (v := 0) hx hb dX3_haste_22 (by decide) ?_
  refine lv_aload hx hb dX3_haste_23 (lv_at hl 1 rfl) ?_
  refine tw_get (D := (dC, dI)) (v := .int (y q_1 4)) (C := RX6) (T := TX6) (N := 11) hx hb hts (fun _ hh => (List.mem_cons_of_mem _ (List.mem_append_right _ (List.mem_append_right _ (List.mem_append_right _ (List.mem_append_right _ (List.mem_append_left _ hh))))))) hown hK hT htq_1 (by decide) cl_e2 rfl 4 (by decide) (hts (.fieldLink RX3 181 "TypingPool$Piece" "claim" "I") (List.mem_cons_of_mem _ (List.mem_append_left _ (List.mem_of_getElem? (i := 4) rfl)))) (fun _ h9 => h9) rfl dX3_haste_25 ?_
  refine tw_iast hx hb hK hT hF hS 0 (fx_14 hX) (by decide) (fun _ => cl_e24) rfl (z_in (zk (x := 0) 0 rfl) (by omega) (by omega)) dX3_haste_28 (fun H locs hT hS => ?_)
  obtain ⟨y_2, hy_2, hT⟩ : ∃ z : Nat → Nat → Int32, z = up2 y (a 14) ((0 : Int32).toNatClampNeg) (y q_1 4) ∧ tw (dC, dI) a k τ ln z g H := ⟨_, rfl, hT⟩
  have hG : ag τ [24, 27] y y_2 := by rw [hy_2]; exact hG.up (fx_14 hX) (by decide)
  have hI := hI.ag (S := [24]) (y' := y_2) (by rw [hy_2]; exact ag.one (fx_14 hX)) (by decide)
  refine lv_aload hx hb dX3_haste_29 (lv_at hl 0 rfl) ?_
  refine lv_iconst (v := 1) hx hb dX3_haste_31 (by decide) ?_
  refine lv_aload_n hx hb dX3_haste_32 rfl (lv_at hl 2 rfl) ?_
  refine tw_get (D := (dC, dI)) (v := .int (y_2 (a 4) 2)) (C := RX3) (T := TX3) (N := 12) hx hb hts (fun _ hh => (List.mem_cons_of_mem _ (List.mem_append_right _ (List.mem_append_left _ hh)))) hown hK hT (fx_4 hX) (by decide) cl_e14 rfl 2 (by decide) (hts (.fieldLink RX3 9 "TypingPool$Floor" "now" "I") (List.mem_cons_of_mem _ (List.mem_append_left _ (List.mem_of_getElem? (i := 5) rfl)))) (fun _ h9 => h9) rfl dX3_haste_33 ?_
  refine lv_aload hx hb dX3_haste_36 (lv_at hl 1 rfl) ?_
  refine tw_get (D := (dC, dI)) (v := .int (y_2 q_1 5)) (C := RX6) (T := TX6) (N := 11) hx hb hts (fun _ hh => (List.mem_cons_of_mem _ (List.mem_append_right _ (List.mem_append_right _ (List.mem_append_right _ (List.mem_append_right _ (List.mem_append_left _ hh))))))) hown hK hT htq_1 (by decide) cl_e2 rfl 5 (by decide) (hts (.fieldLink RX3 184 "TypingPool$Piece" "comes" "I") (List.mem_cons_of_mem _ (List.mem_append_left _ (List.mem_of_getElem? (i := 6) rfl)))) (fun _ h9 => h9) rfl dX3_haste_38 ?_
  refine lv_isub hx hb dX3_haste_41 ?_
  refine lv_topi (fun x_3 ex_3 => ?_)
  refine tw_iast hx hb hK hT hF hS 0 (fx_14 hX) (by decide) (fun _ => cl_e24) rfl (z_in (zk (x := 1) 1 rfl) (by omega) (by omega)) dX3_haste_42 (fun H locs hT hS => ?_)
  obtain ⟨y_4, hy_4, hT⟩ : ∃ z : Nat → Nat → Int32, z = up2 y_2 (a 14) ((1 : Int32).toNatClampNeg) x_3 ∧ tw (dC, dI) a k τ ln z g H := ⟨_, rfl, hT⟩
  have hG : ag τ [24, 27] y y_4 := by rw [hy_4]; exact hG.up (fx_14 hX) (by decide)
  have hI := hI.ag (S := [24]) (y' := y_4) (by rw [hy_4]; exact ag.one (fx_14 hX)) (by decide)
  refine lv_aload hx hb dX3_haste_43 (lv_at hl 0 rfl) ?_
  refine lv_iconst (v := 2) hx hb dX3_haste_45 (by decide) ?_
  refine lv_aload hx hb dX3_haste_46 (lv_at hl 1 rfl) ?_
  refine tw_get (D := (dC, dI)) (v := .int (y_4 q_1 2)) (C := RX6) (T := TX6) (N := 11) hx hb hts (fun _ hh => (List.mem_cons_of_mem _ (List.mem_append_right _ (List.mem_append_right _ (List.mem_append_right _ (List.mem_append_right _ (List.mem_append_left _ hh))))))) hown hK hT htq_1 (by decide) cl_e2 rfl 2 (by decide) (hts (.fieldLink RX3 187 "TypingPool$Piece" "lines" "I") (List.mem_cons_of_mem _ (List.mem_append_left _ (List.mem_of_getElem? (i := 7) rfl)))) (fun _ h9 => h9) rfl dX3_haste_48 ?_
  refine tw_iast hx hb hK hT hF hS 0 (fx_14 hX) (by decide) (fun _ => cl_e24) rfl (z_in (zk (x := 2) 2 rfl) (by omega) (by omega)) dX3_haste_51 (fun H locs hT hS => ?_)
  obtain ⟨y_5, hy_5, hT⟩ : ∃ z : Nat → Nat → Int32, z = up2 y_4 (a 14) ((2 : Int32).toNatClampNeg) (y_4 q_1 2) ∧ tw (dC, dI) a k τ ln z g H := ⟨_, rfl, hT⟩
  have hG : ag τ [24, 27] y y_5 := by rw [hy_5]; exact hG.up (fx_14 hX) (by decide)
  have hI := hI.ag (S := [24]) (y' := y_5) (by rw [hy_5]; exact ag.one (fx_14 hX)) (by decide)
  refine lv_aload hx hb dX3_haste_52 (lv_at hl 0 rfl) ?_
  refine lv_iconst (v := 3) hx hb dX3_haste_54 (by decide) ?_
  refine lv_aload hx hb dX3_haste_55 (lv_at hl 1 rfl) ?_
  refine tw_get (D := (dC, dI)) (v := .int (y_5 q_1 6)) (C := RX6) (T := TX6) (N := 11) hx hb hts (fun _ hh => (List.mem_cons_of_mem _ (List.mem_append_right _ (List.mem_append_right _ (List.mem_append_right _ (List.mem_append_right _ (List.mem_append_left _ hh))))))) hown hK hT htq_1 (by decide) cl_e2 rfl 6 (by decide) (hts (.fieldLink RX3 190 "TypingPool$Piece" "due" "I") (List.mem_cons_of_mem _ (List.mem_append_left _ (List.mem_of_getElem? (i := 8) rfl)))) (fun _ h9 => h9) rfl dX3_haste_57 ?_
  refine lv_aload_n hx hb dX3_haste_60 rfl (lv_at hl 2 rfl) ?_
  refine tw_get (D := (dC, dI)) (v := .int (y_5 (a 4) 2)) (C := RX3) (T := TX3) (N := 12) hx hb hts (fun _ hh => (List.mem_cons_of_mem _ (List.mem_append_right _ (List.mem_append_left _ hh)))) hown hK hT (fx_4 hX) (by decide) cl_e14 rfl 2 (by decide) (hts (.fieldLink RX3 9 "TypingPool$Floor" "now" "I") (List.mem_cons_of_mem _ (List.mem_append_left _ (List.mem_of_getElem? (i := 5) rfl)))) (fun _ h9 => h9) rfl dX3_haste_61 ?_
  refine lv_isub hx hb dX3_haste_64 ?_
  refine lv_topi (fun x_6 ex_6 => ?_)
  refine tw_iast hx hb hK hT hF hS 0 (fx_14 hX) (by decide) (fun _ => cl_e24) rfl (z_in (zk (x := 3) 3 rfl) (by omega) (by omega)) dX3_haste_65 (fun H locs hT hS => ?_)
  obtain ⟨y_7, hy_7, hT⟩ : ∃ z : Nat → Nat → Int32, z = up2 y_5 (a 14) ((3 : Int32).toNatClampNeg) x_6 ∧ tw (dC, dI) a k τ ln z g H := ⟨_, rfl, hT⟩
  have hG : ag τ [24, 27] y y_7 := by rw [hy_7]; exact hG.up (fx_14 hX) (by decide)
  have hI := hI.ag (S := [24]) (y' := y_7) (by rw [hy_7]; exact ag.one (fx_14 hX)) (by decide)
  refine lv_aload hx hb dX3_haste_66 (lv_at hl 0 rfl) ?_
  refine lv_iconst (v := 4) hx hb dX3_haste_68 (by decide) ?_
  refine lv_aload hx hb dX3_haste_69 (lv_at hl 1 rfl) ?_
  refine tw_get (D := (dC, dI)) (v := .int (y_7 q_1 3)) (C := RX6) (T := TX6) (N := 11) hx hb hts (fun _ hh => (List.mem_cons_of_mem _ (List.mem_append_right _ (List.mem_append_right _ (List.mem_append_right _ (List.mem_append_right _ (List.mem_append_left _ hh))))))) hown hK hT htq_1 (by decide) cl_e2 rfl 3 (by decide) (hts (.fieldLink RX3 160 "TypingPool$Piece" "secret" "I") (List.mem_cons_of_mem _ (List.mem_append_left _ (List.mem_of_getElem? (i := 9) rfl)))) (fun _ h9 => h9) rfl dX3_haste_71 ?_
  refine tw_iast hx hb hK hT hF hS 0 (fx_14 hX) (by decide) (fun _ => cl_e24) rfl (z_in (zk (x := 4) 4 rfl) (by omega) (by omega)) dX3_haste_74 (fun H locs hT hS => ?_)
  obtain ⟨y_8, hy_8, hT⟩ : ∃ z : Nat → Nat → Int32, z = up2 y_7 (a 14) ((4 : Int32).toNatClampNeg) (y_7 q_1 3) ∧ tw (dC, dI) a k τ ln z g H := ⟨_, rfl, hT⟩
  have hG : ag τ [24, 27] y y_8 := by rw [hy_8]; exact hG.up (fx_14 hX) (by decide)
  have hI := hI.ag (S := [24]) (y' := y_8) (by rw [hy_8]; exact ag.one (fx_14 hX)) (by decide)
  refine lv_aload hx hb dX3_haste_75 (lv_at hl 0 rfl) ?_
  refine lv_iconst (v := 5) hx hb dX3_haste_77 (by decide) ?_
  refine lv_aload hx hb dX3_haste_78 (lv_at hl 1 rfl) ?_
  refine tw_get (D := (dC, dI)) (v := .int (y_8 q_1 0)) (C := RX6) (T := TX6) (N := 11) hx hb hts (fun _ hh => (List.mem_cons_of_mem _ (List.mem_append_right _ (List.mem_append_right _ (List.mem_append_right _ (List.mem_append_right _ (List.mem_append_left _ hh))))))) hown hK hT htq_1 (by decide) cl_e2 rfl 0 (by decide) (hts (.fieldLink RX3 166 "TypingPool$Piece" "department" "I") (List.mem_cons_of_mem _ (List.mem_append_left _ (List.mem_of_getElem? (i := 10) rfl)))) (fun _ h9 => h9) rfl dX3_haste_80 ?_
  refine tw_iast hx hb hK hT hF hS 0 (fx_14 hX) (by decide) (fun _ => cl_e24) rfl (z_in (zk (x := 5) 5 rfl) (by omega) (by omega)) dX3_haste_83 (fun H locs hT hS => ?_)
  obtain ⟨y_9, hy_9, hT⟩ : ∃ z : Nat → Nat → Int32, z = up2 y_8 (a 14) ((5 : Int32).toNatClampNeg) (y_8 q_1 0) ∧ tw (dC, dI) a k τ ln z g H := ⟨_, rfl, hT⟩
  have hG : ag τ [24, 27] y y_9 := by rw [hy_9]; exact hG.up (fx_14 hX) (by decide)
  have hI := hI.ag (S := [24]) (y' := y_9) (by rw [hy_9]; exact ag.one (fx_14 hX)) (by decide)
  refine lv_aload hx hb dX3_haste_84 (lv_at hl 0 rfl) ?_
  refine lv_bipush (v := 6) hx hb dX3_haste_86 (by decide) ?_
  refine lv_aload hx hb dX3_haste_88 (lv_at hl 1 rfl) ?_
  refine lv_aload_n hx hb dX3_haste_90 rfl (lv_at hl 2 rfl) ?_
  refine tw_get (D := (dC, dI)) (v := .ref (a 32)) (C := RX3) (T := TX3) (N := 12) hx hb hts (fun _ hh => (List.mem_cons_of_mem _ (List.mem_append_right _ (List.mem_append_left _ hh)))) hown hK hT (fx_4 hX) (by decide) cl_e14 rfl 5 (by decide) (hts (.fieldLink RX3 22 "TypingPool$Floor" "words" "[I") (List.mem_cons_of_mem _ (List.mem_append_left _ (List.mem_of_getElem? (i := 11) rfl)))) (fun _ h9 => h9) rfl dX3_haste_91 ?_
  refine lv_iload_n hx hb dX3_haste_94 rfl (lv_at hl 3 rfl) ?_
  refine tw_iald hx hb hK hT 0 (fx_32 hX) (by decide) cl_e42 rfl (z_in rfl (by omega) (by omega)) dX3_haste_95 ?_
  have hFc := tw_free hF hS hA
  refine va_calli (va_runV (As := [.int (y_9 (a 32) p0.toNatClampNeg)]) (rest := [.int 6, .ref (a 14)]) ⟨hx, hb, hml, hown, hts⟩ (c_unknownTo l dC dI ad av H.size a k τ ln y_9 g u q_1 (y_9 (a 32) p0.toNatClampNeg) hI htq_1) (cwV 1 hts (gi_4 (List.mem_cons_of_mem _ (List.mem_append_left _ (List.mem_of_getElem? (i := 12) rfl))) (List.mem_cons_of_mem _ (List.mem_append_left _ (List.mem_of_getElem? (i := 13) rfl))) (List.mem_cons_of_mem _ (List.mem_append_left _ (List.mem_of_getElem? (i := 14) rfl))) (List.mem_cons_of_mem _ (List.mem_append_left _ (List.mem_of_getElem? (i := 15) rfl))) (fun _ hh => (List.mem_cons_of_mem _ (List.mem_append_right _ (List.mem_append_right _ (List.mem_append_right _ (List.mem_append_right _ (List.mem_append_right _ (List.mem_append_left _ hh)))))))) gd_c_unknownTo) rfl rfl rfl (by decide +kernel) ⟨Nat.le_of_ble_eq_true rfl, Nat.le_of_ble_eq_true rfl⟩) ⟨pw_blind, tw_recv hK hT htq_1 (by decide) cl_e2 rfl, pw_use hT hK hFc hS hM⟩ rfl rfl hl.1 rfl (lv_room (Nat.le_of_ble_eq_true rfl)) dX3_haste_96 ⟨Nat.le_of_ble_eq_true rfl, Nat.le_of_ble_eq_true rfl⟩) hS (fun q _ h => hFc q h) hFc (fun r0 r_10 t H locs ht hvm hw hB hz1 hk1 hS => ?_)
  refine W.widen (k := 0) (n := 0) (Nat.le_of_ble_eq_true rfl) (Nat.le_of_ble_eq_true rfl) ?_
  clear hvm hz1 hk1
  subst hw
  obtain ⟨hf_11, hf_12, hT⟩ := hB
  rw [ht] at hT
  refine tw_iast hx hb hK hT hF hS 0 (fx_14 hX) (by decide) (fun _ => cl_e24) rfl (z_in (zk (x := 6) 6 rfl) (by omega) (by omega)) dX3_haste_99 (fun H locs hT hS => ?_)
  obtain ⟨y_13, hy_13, hT⟩ : ∃ z : Nat → Nat → Int32, z = up2 y_9 (a 14) ((6 : Int32).toNatClampNeg) r_10 ∧ tw (dC, dI) a k τ ln z g H := ⟨_, rfl, hT⟩
  have hG : ag τ [24, 27] y y_13 := by rw [hy_13]; exact hG.up (fx_14 hX) (by decide)
  have hI := hI.ag (S := [24]) (y' := y_13) (by rw [hy_13]; exact ag.one (fx_14 hX)) (by decide)
  refine lv_aload hx hb dX3_haste_100 (lv_at hl 0 rfl) ?_
  refine lv_bipush (v := 7) hx hb dX3_haste_102 (by decide) ?_
  refine lv_aload_n hx hb dX3_haste_104 rfl (lv_at hl 2 rfl) ?_
  refine lv_aload hx hb dX3_haste_105 (lv_at hl 1 rfl) ?_
  refine tw_get (D := (dC, dI)) (v := .int (y_13 q_1 0)) (C := RX6) (T := TX6) (N := 11) hx hb hts (fun _ hh => (List.mem_cons_of_mem _ (List.mem_append_right _ (List.mem_append_right _ (List.mem_append_right _ (List.mem_append_right _ (List.mem_append_left _ hh))))))) hown hK hT htq_1 (by decide) cl_e2 rfl 0 (by decide) (hts (.fieldLink RX3 166 "TypingPool$Piece" "department" "I") (List.mem_cons_of_mem _ (List.mem_append_left _ (List.mem_of_getElem? (i := 10) rfl)))) (fun _ h9 => h9) rfl dX3_haste_107 ?_
  have hFc := tw_free hF hS hA
  refine va_calli (va_runV (As := [.int (y_13 q_1 0)]) (rest := [.int 7, .ref (a 14)]) ⟨hx, hb, hml, hown, hts⟩ (c_waitingInt l dC dI ad av H.size a k τ ln y_13 g u (y_13 q_1 0) hI ) (cwV 1 hts (gi_4 (List.mem_cons_of_mem _ (List.mem_append_left _ (List.mem_of_getElem? (i := 16) rfl))) (List.mem_cons_of_mem _ (List.mem_append_left _ (List.mem_of_getElem? (i := 17) rfl))) (List.mem_cons_of_mem _ (List.mem_append_left _ (List.mem_of_getElem? (i := 18) rfl))) (List.mem_cons_of_mem _ (List.mem_append_left _ (List.mem_of_getElem? (i := 19) rfl))) (fun _ hh => (List.mem_cons_of_mem _ (List.mem_append_right _ (List.mem_append_right _ (List.mem_append_right _ (List.mem_append_right _ (List.mem_append_right _ (List.mem_append_right _ (List.mem_append_left _ hh))))))))) gd_c_waitingInt) rfl rfl rfl (by decide +kernel) ⟨Nat.le_of_ble_eq_true rfl, Nat.le_of_ble_eq_true rfl⟩) ⟨pw_blind, tw_recv hK hT (fx_4 hX) (by decide) cl_e14 rfl, pw_use hT hK hFc hS hM⟩ rfl rfl hl.1 rfl (lv_room (Nat.le_of_ble_eq_true rfl)) dX3_haste_110 ⟨Nat.le_of_ble_eq_true rfl, Nat.le_of_ble_eq_true rfl⟩) hS (fun q _ h => hFc q h) hFc (fun r0 r_14 t H locs ht hvm hw hB hz1 hk1 hS => ?_)
  refine W.widen (k := 0) (n := 0) (Nat.le_of_ble_eq_true rfl) (Nat.le_of_ble_eq_true rfl) ?_
  clear hvm hz1 hk1
  subst hw
  have hT := hB
  rw [ht] at hT
  refine tw_iast hx hb hK hT hF hS 0 (fx_14 hX) (by decide) (fun _ => cl_e24) rfl (z_in (zk (x := 7) 7 rfl) (by omega) (by omega)) dX3_haste_113 (fun H locs hT hS => ?_)
  obtain ⟨y_15, hy_15, hT⟩ : ∃ z : Nat → Nat → Int32, z = up2 y_13 (a 14) ((7 : Int32).toNatClampNeg) r_14 ∧ tw (dC, dI) a k τ ln z g H := ⟨_, rfl, hT⟩
  have hG : ag τ [24, 27] y y_15 := by rw [hy_15]; exact hG.up (fx_14 hX) (by decide)
  have hI := hI.ag (S := [24]) (y' := y_15) (by rw [hy_15]; exact ag.one (fx_14 hX)) (by decide)
  refine lv_aload_n hx hb dX3_haste_114 rfl (lv_at hl 2 rfl) ?_
  refine tw_get (D := (dC, dI)) (v := .ref (a 2)) (C := RX3) (T := TX3) (N := 12) hx hb hts (fun _ hh => (List.mem_cons_of_mem _ (List.mem_append_right _ (List.mem_append_left _ hh)))) hown hK hT (fx_4 hX) (by decide) cl_e14 rfl 1 (by decide) (hts (.fieldLink RX3 47 "TypingPool$Floor" "rules" "LTypingPool$Rules;") (List.mem_cons_of_mem _ (List.mem_append_left _ (List.mem_of_getElem? (i := 2) rfl)))) (fun _ h9 => h9) rfl dX3_haste_115 ?_
  refine lv_aload_n hx hb dX3_haste_118 rfl (lv_at hl 2 rfl) ?_
  refine tw_get (D := (dC, dI)) (v := .ref (a 2)) (C := RX3) (T := TX3) (N := 12) hx hb hts (fun _ hh => (List.mem_cons_of_mem _ (List.mem_append_right _ (List.mem_append_left _ hh)))) hown hK hT (fx_4 hX) (by decide) cl_e14 rfl 1 (by decide) (hts (.fieldLink RX3 47 "TypingPool$Floor" "rules" "LTypingPool$Rules;") (List.mem_cons_of_mem _ (List.mem_append_left _ (List.mem_of_getElem? (i := 2) rfl)))) (fun _ h9 => h9) rfl dX3_haste_119 ?_
  refine lv_iconst (v := 0) hx hb dX3_haste_122 (by decide) ?_
  refine lv_aload_n hx hb dX3_haste_123 rfl (lv_at hl 2 rfl) ?_
  have hFc := tw_free hF hS hA
  refine va_calli (va_runV (As := []) (rest := [.int 0, .ref (a 2), .ref (a 2)]) ⟨hx, hb, hml, hown, hts⟩ (c_todayt l dC dI ad av H.size a k τ ln y_15 g u  hI ) (cwV 0 hts (gi_4 (List.mem_cons_of_mem _ (List.mem_append_left _ (List.mem_of_getElem? (i := 20) rfl))) (List.mem_cons_of_mem _ (List.mem_append_left _ (List.mem_of_getElem? (i := 21) rfl))) (List.mem_cons_of_mem _ (List.mem_append_left _ (List.mem_of_getElem? (i := 22) rfl))) (List.mem_cons_of_mem _ (List.mem_append_left _ (List.mem_of_getElem? (i := 19) rfl))) (fun _ hh => (List.mem_cons_of_mem _ (List.mem_append_right _ (List.mem_append_right _ (List.mem_append_right _ (List.mem_append_right _ (List.mem_append_right _ (List.mem_append_right _ (List.mem_append_right _ (List.mem_append_left _ hh)))))))))) gd_c_todayt) rfl rfl rfl (by decide +kernel) ⟨Nat.le_of_ble_eq_true rfl, Nat.le_of_ble_eq_true rfl⟩) ⟨pw_blind, tw_recv hK hT (fx_4 hX) (by decide) cl_e14 rfl, pw_use hT hK hFc hS hM⟩ rfl rfl hl.1 rfl (lv_room (Nat.le_of_ble_eq_true rfl)) dX3_haste_124 ⟨Nat.le_of_ble_eq_true rfl, Nat.le_of_ble_eq_true rfl⟩) hS (fun q _ h => hFc q h) hFc (fun r0 r_16 t H locs ht hvm hw hB hz1 hk1 hS => ?_)
  refine W.widen (k := 0) (n := 0) (Nat.le_of_ble_eq_true rfl) (Nat.le_of_ble_eq_true rfl) ?_
  clear hvm hz1 hk1
  subst hw
  have hT := hB
  rw [ht] at hT
  refine lv_aload_nN hx hb dX3_haste_127 rfl (lv_at hl 5 rfl) ?_
  have hFc := tw_free hF hS hA
  have hp_17 : (0 : Int32).toInt = 0 := (zk (x := 0) 0 rfl)
  refine va_callr (va_runV (As := [.int 0, .int r_16, .null]) (rest := [.ref (a 2)]) ⟨hx, hb, hml, hown, hts⟩ (c_holdingN l dC dI ad av H.size a k τ ln y_15 g u (0 : Int32) r_16 hI (by decide) (by decide)) (cwV 3 hts (gi_4 (List.mem_cons_of_mem _ (List.mem_append_left _ (List.mem_of_getElem? (i := 23) rfl))) (List.mem_cons_of_mem _ (List.mem_append_left _ (List.mem_of_getElem? (i := 24) rfl))) (List.mem_cons_of_mem _ (List.mem_append_left _ (List.mem_of_getElem? (i := 25) rfl))) (List.mem_cons_of_mem _ (List.mem_append_left _ (List.mem_of_getElem? (i := 26) rfl))) (fun _ hh => (List.mem_cons_of_mem _ (List.mem_append_right _ (List.mem_append_right _ (List.mem_append_right _ (List.mem_append_right _ (List.mem_append_right _ (List.mem_append_right _ (List.mem_append_right _ (List.mem_append_right _ (List.mem_append_left _ hh))))))))))) gd_c_holdingN) rfl rfl rfl (by decide +kernel) ⟨Nat.le_of_ble_eq_true rfl, Nat.le_of_ble_eq_true rfl⟩) ⟨pw_blind, tw_recv hK hT (fx_2 hX) (by decide) cl_e12 rfl, pw_use hT hK hFc hS hM⟩ rfl rfl hl.1 rfl (lv_room (Nat.le_of_ble_eq_true rfl)) dX3_haste_128 ⟨Nat.le_of_ble_eq_true rfl, Nat.le_of_ble_eq_true rfl⟩) hS (fun q _ h => hFc q h) hFc (fun u0 r_18 t H locs ht hvm hw hB hz1 hk1 hS => ?_)
  refine W.widen (k := 0) (n := 0) (Nat.le_of_ble_eq_true rfl) (Nat.le_of_ble_eq_true rfl) ?_
  clear hvm hz1 hk1
  obtain ⟨htr_18, hT⟩ := hB
  rw [ht] at hT
  clear hp_17
  have hFc := tw_free hF hS hA
  refine va_calli (va_runV (As := [.ref r_18]) (rest := []) ⟨hx, hb, hml, hown, hts⟩ (c_give l dC dI ad av H.size a k τ ln y_15 g u r_18 hI htr_18) (cwV 1 hts (gi_4 (List.mem_cons_of_mem _ (List.mem_append_left _ (List.mem_of_getElem? (i := 27) rfl))) (List.mem_cons_of_mem _ (List.mem_append_left _ (List.mem_of_getElem? (i := 28) rfl))) (List.mem_cons_of_mem _ (List.mem_append_left _ (List.mem_of_getElem? (i := 29) rfl))) (List.mem_cons_of_mem _ (List.mem_append_left _ (List.mem_of_getElem? (i := 26) rfl))) (fun _ hh => (List.mem_cons_of_mem _ (List.mem_append_right _ (List.mem_append_right _ (List.mem_append_right _ (List.mem_append_right _ (List.mem_append_right _ (List.mem_append_right _ (List.mem_append_right _ (List.mem_append_right _ (List.mem_append_right _ (List.mem_append_left _ hh)))))))))))) gd_c_give) rfl rfl rfl (by decide +kernel) ⟨Nat.le_of_ble_eq_true rfl, Nat.le_of_ble_eq_true rfl⟩) ⟨pw_blind, tw_recv hK hT (fx_2 hX) (by decide) cl_e12 rfl, pw_use hT hK hFc hS hM⟩ rfl rfl hl.1 rfl (lv_room (Nat.le_of_ble_eq_true rfl)) dX3_haste_131 ⟨Nat.le_of_ble_eq_true rfl, Nat.le_of_ble_eq_true rfl⟩) hS (fun q _ h => hFc q h) hFc (fun r0 r_19 t H locs ht hvm hw hB hz1 hk1 hS => ?_)
  refine W.widen (k := 0) (n := 0) (Nat.le_of_ble_eq_true rfl) (Nat.le_of_ble_eq_true rfl) ?_
  clear hvm hz1 hk1
  subst hw
  obtain ⟨y_20, hgy_20, hT⟩ := hB
  rw [ht] at hT
  have hG := hG.tr hgy_20 (by decide)
  have hI := hI.ag hgy_20 (by decide)
  exact W.iret (v := r_19) hx hb hr (fun t ht hW9 => ⟨⟨r_19, r_19, rfl, rfl, ⟨y_20, hG, tw_at ht hT⟩⟩, hS.F ht⟩) hS.2.2 dX3_haste_134
def wo_c_firstFortN : List Cond := [.fieldLink RX3 43 "TypingPool$Floor" "book" "LTypingPool$Book;", .fieldLink RX3 85 "TypingPool$Book" "pieceCount" "I", .methodLink RX3 88 yX3_stateOf, .instanceMethod yX3_stateOf, .selects RX3 yX3_stateOf yX3_stateOf, .initialized RX3, .methodLink RX3 91 yX3_mayDo, .instanceMethod yX3_mayDo, .selects RX3 yX3_mayDo yX3_mayDo, .methodLink RX3 95 yX3_haste, .instanceMethod yX3_haste, .selects RX3 yX3_haste yX3_haste]
def wm_c_firstFortN : List Cond := .code yX3_firstFor cX3_firstFor 7 (some .int) :: (wo_c_firstFortN ++ (wsX30 ++ (wsX10 ++ (wm_c_stateOft ++ (wm_c_mayDotN ++ (wm_c_hastetN ++ ([] : List Cond)))))))
theorem gd_c_firstFortN : ∀ w ∈ wm_c_firstFortN, goodWord w = true := gd_c rfl (gd_a (by decide) (gd_a gd_wsX30 (gd_a gd_wsX10 (gd_a gd_c_stateOft (gd_a gd_c_mayDotN (gd_a gd_c_hastetN gd_nil))))))
set_option maxRecDepth 20000 in
theorem im_c_firstFortN : ∀ w ∈ wm_c_firstFortN, w ∈ lw_tbl := im_c (in_r [.code yX3_firstFor cX3_firstFor 7 (some .int)] [766] (by decide +kernel)) (in_app (in_r wo_c_firstFortN [426, 134, 767, 768, 769, 83, 771, 772, 773, 797, 798, 799] (by decide +kernel)) (in_app im_wsX30 (in_app im_wsX10 (in_app im_c_stateOft (in_app im_c_mayDotN (in_app im_c_hastetN im_nil))))))
set_option maxHeartbeats 4000000 in
set_option maxRecDepth 100000 in
theorem c_firstFortN (l : Launch) (dC : Nat → ClassId) (dI : Nat → Nat → Nat) (ad av : Nat → Nat) (sz : Nat) (a : Nat → Nat) (k : Nat → ClassId) (τ ln : Nat → Nat) (y : Nat → Nat → Int32) (g : Nat → Nat → Option Nat) (u : Nat → Int) (p0 : Int32) (hI : IC a u τ ln y g) (hlp0 : 0 ≤ p0.toInt) (hup0 : p0.toInt < u 1) : Met l yX3_firstFor wm_c_firstFortN ({ frames := 4, cells := 0, slots := 0, locals := 240 }) (pw_ ad av (dC, dI) sz [.ref (a 4), .int p0, .null] a k τ ln y g) (va_Qi (fun (r u : Int32) => u = r) (fun (r : Int32) (t : State) => (∃ (y' : Nat → Nat → Int32), ag τ [24, 27] y y' ∧ (r.toInt = -1 ∨ (0 ≤ r.toInt ∧ r.toInt < u 2)) ∧ tw (dC, dI) a k τ ln y' g t.heap)) (fr τ sz)) 0 0 (fr τ sz) := by
  refine Met.ofW (cc := cX3_firstFor) (maxL := 7) (ret := (some .int)) (by decide) rfl ?_
  intro p e s m args below meth c s₁ B hml hv
  obtain ⟨rfl, hsz, hT, hK, hM⟩ := hv
  have hx := B.exec
  have hb := B.bytes
  have hr := B.returns
  have hts := atoms_spec (ws := wm_c_firstFortN) B.pre
  have hown : s.vm.findClass RX3 = some m.cls := findClass_of_methodNamed B.named
  have hlocks := B.notSynchronized
  subst hsz
  generalize hAe : fr τ s.heap.size = A at hM ⊢
  have hA : ∀ q : Nat, s.heap.size ≤ q → A q := fun q h => by rw [← hAe]; exact Or.inr h
  have hF : ∀ q, τ q ≠ 0 → A q := fun q h => by rw [← hAe]; exact Or.inl h
  have hS : va_S A s.heap s.heap [] := va_S.rf
  have hX := hI.1
  have hR := ic_r hI
  have hG : ag τ [24, 27] y y := ag.rf
  have hl := lv_entry ([.ref (a 4), .int p0, .null]) (n := 7) (Nat.le_of_ble_eq_true rfl)
  rw [lg_entry_eq]
  generalize (lg_sl ([.ref (a 4), .int p0, .null]) ++ List.replicate (7 - (lg_sl ([.ref (a 4), .int p0, .null])).length) Slot.unset).toArray = ls at hl ⊢
  have hl : lv_has ls 7 [(0, .ref (a 4)), (1, .int p0), (2, .null)] := hl
  refine lv_iconst (v := (-1)) hx hb dX3_firstFor_0 (by decide) ?_
  refine lv_istore_n (lv' := [(3, .int (-1)), (0, .ref (a 4)), (1, .int p0), (2, .null)]) hx hb dX3_firstFor_1 rfl hl (by decide) rfl (fun ls hl => ?_)
  refine lv_iconst (v := 0) hx hb dX3_firstFor_2 (by decide) ?_
  refine lv_istore (lv' := [(4, .int 0), (3, .int (-1)), (0, .ref (a 4)), (1, .int p0), (2, .null)]) hx hb dX3_firstFor_3 hl (by decide) rfl (fun ls hl => ?_)
  refine lv_iconst (v := 0) hx hb dX3_firstFor_5 (by decide) ?_
  refine lv_istore (lv' := [(5, .int 0), (4, .int 0), (3, .int (-1)), (0, .ref (a 4)), (1, .int p0), (2, .null)]) hx hb dX3_firstFor_6 hl (by decide) rfl (fun ls hl => ?_)
  have loop_8 : ∀ (n : Nat) (i3 : Int32) (w4 : Int32) (i5 : Int32) (y_L8 : Nat → Nat → Int32) (H : Heap) (locs : List Loc) (ls : Array Slot), (u 2 - i5.toInt).toNat < n → ag τ [24, 27] y y_L8 → IC a u τ ln y_L8 g → 0 ≤ i5.toInt → i5.toInt ≤ u 2 → i3.toInt = -1 ∨ (0 ≤ i3.toInt ∧ i3.toInt < u 2) → tw (dC, dI) a k τ ln y_L8 g H → va_S A s.heap H locs → lv_has ls 7 [(0, .ref (a 4)), (1, .int p0), (2, .null), (3, .int i3), (4, .int w4), (5, .int i5)] → W p l e (headSpec wm_c_firstFortN ({ frames := 4, cells := 0, slots := 0, locals := 240 })).room s m ([.ref (a 4), .int p0, .null] : List Value).toArray below meth c H locs 0 0 (MQ below (va_Qi (fun (r u : Int32) => u = r) (fun (r : Int32) (t : State) => (∃ (y' : Nat → Nat → Int32), ag τ [24, 27] y y' ∧ (r.toInt = -1 ∨ (0 ≤ r.toInt ∧ r.toInt < u 2)) ∧ tw (dC, dI) a k τ ln y' g t.heap)) A) ([.ref (a 4), .int p0, .null] : List Value).toArray s 0 0 A) (F0 m 8 ls []) := by
    intro n
    induction n with
    | zero => intro i3 w4 i5 y_L8 H locs ls hlt; exact absurd hlt (Nat.not_lt_zero _)
    | succ n ih_8 =>
      intro i3 w4 i5 y_L8 H locs ls hlt hG hI hi8_0 hi8_1 hi8_2 hT hS hl
      refine lv_iload hx hb dX3_firstFor_8 (lv_at hl 5 rfl) ?_
      refine lv_aload_n hx hb dX3_firstFor_10 rfl (lv_at hl 0 rfl) ?_
      refine tw_get (D := (dC, dI)) (v := .ref (a 1)) (C := RX3) (T := TX3) (N := 12) hx hb hts (fun _ hh => (List.mem_cons_of_mem _ (List.mem_append_right _ (List.mem_append_left _ hh)))) hown hK hT (fx_4 hX) (by decide) cl_e14 rfl 0 (by decide) (hts (.fieldLink RX3 43 "TypingPool$Floor" "book" "LTypingPool$Book;") (List.mem_cons_of_mem _ (List.mem_append_left _ (List.mem_of_getElem? (i := 0) rfl)))) (fun _ h9 => h9) rfl dX3_firstFor_11 ?_
      refine tw_get (D := (dC, dI)) (v := .int (y_L8 (a 1) 5)) (C := RX1) (T := TX1) (N := 8) hx hb hts (fun _ hh => (List.mem_cons_of_mem _ (List.mem_append_right _ (List.mem_append_right _ (List.mem_append_left _ hh))))) hown hK hT (fx_1 hX) (by decide) cl_e11 rfl 5 (by decide) (hts (.fieldLink RX3 85 "TypingPool$Book" "pieceCount" "I") (List.mem_cons_of_mem _ (List.mem_append_left _ (List.mem_of_getElem? (i := 1) rfl)))) (fun _ h9 => h9) rfl dX3_firstFor_14 ?_
      have hc_1 := ic_2 hI
      refine lv_icmp_ge (tgt := 76) hx hb dX3_firstFor_17 (by decide) (fun c_2 => ?_) (fun c_2 => ?_)
      · have nc_2 := z_le hc_1 rfl c_2
        refine lv_iload_n hx hb dX3_firstFor_76 rfl (lv_at hl 3 rfl) ?_
        have hrv : i3.toInt = i3.toInt := rfl
        exact W.iret (v := i3) hx hb hr (fun t ht hW9 => ⟨⟨i3, i3, rfl, rfl, ⟨y_L8, hG, by omega, tw_at ht hT⟩⟩, hS.F ht⟩) hS.2.2 dX3_firstFor_77
      · have nc_2 := z_nle hc_1 rfl c_2
        refine lv_aload_n hx hb dX3_firstFor_20 rfl (lv_at hl 0 rfl) ?_
        refine lv_iload hx hb dX3_firstFor_21 (lv_at hl 5 rfl) ?_
        have hFc := tw_free hF hS hA
        refine va_calli (va_runV (As := [.int i5]) (rest := []) ⟨hx, hb, hml, hown, hts⟩ (c_stateOft l dC dI ad av H.size a k τ ln y_L8 g u i5 hI (by omega) (by omega)) (cwV 1 hts (gi_4 (List.mem_cons_of_mem _ (List.mem_append_left _ (List.mem_of_getElem? (i := 2) rfl))) (List.mem_cons_of_mem _ (List.mem_append_left _ (List.mem_of_getElem? (i := 3) rfl))) (List.mem_cons_of_mem _ (List.mem_append_left _ (List.mem_of_getElem? (i := 4) rfl))) (List.mem_cons_of_mem _ (List.mem_append_left _ (List.mem_of_getElem? (i := 5) rfl))) (fun _ hh => (List.mem_cons_of_mem _ (List.mem_append_right _ (List.mem_append_right _ (List.mem_append_right _ (List.mem_append_left _ hh)))))) gd_c_stateOft) rfl rfl rfl (by decide +kernel) ⟨Nat.le_of_ble_eq_true rfl, Nat.le_of_ble_eq_true rfl⟩) ⟨pw_blind, tw_recv hK hT (fx_4 hX) (by decide) cl_e14 rfl, pw_use hT hK hFc hS hM⟩ rfl rfl hl.1 rfl (lv_room (Nat.le_of_ble_eq_true rfl)) dX3_firstFor_23 ⟨Nat.le_of_ble_eq_true rfl, Nat.le_of_ble_eq_true rfl⟩) hS (fun q _ h => hFc q h) hFc (fun r0 r_3 t H locs ht hvm hw hB hz1 hk1 hS => ?_)
        refine W.widen (k := 0) (n := 0) (Nat.le_of_ble_eq_true rfl) (Nat.le_of_ble_eq_true rfl) ?_
        clear hvm hz1 hk1
        subst hw
        have hT := hB
        rw [ht] at hT
        refine lv_iconst (v := 1) hx hb dX3_firstFor_26 (by decide) ?_
        refine lv_icmp_ne (tgt := 70) hx hb dX3_firstFor_27 (by decide) (fun c_4 => ?_) (fun c_4 => ?_)
        · have nc_4 := z_ne rfl (zk (x := 1) 1 rfl) c_4
          obtain ⟨x_5, ex_5⟩ : ∃ y : Int32, y = i5 + Int32.ofInt 1 := ⟨_, rfl⟩
          have hx_5 := z_add ex_5 rfl (zk (x := Int32.ofInt 1) 1 rfl) (by omega) (by omega)
          refine lv_iinc (v := x_5) (lv' := [(5, .int x_5), (0, .ref (a 4)), (1, .int p0), (2, .null), (3, .int i3), (4, .int w4)]) hx hb dX3_firstFor_70 hl (k := 5) rfl ex_5.symm (by decide) rfl (fun ls hl => ?_)
          refine lv_goto (tgt := 8) hx hb dX3_firstFor_73 (by decide) ?_
          exact ih_8  i3 w4 x_5 y_L8 H _ ls (by omega) hG hI (by omega) (by omega) (by omega) hT hS (lv_sub hl [1, 2, 3, 4, 5, 0] rfl)
        · have nc_4 := z_eq rfl (zk (x := 1) 1 rfl) c_4
          refine lv_aload_n hx hb dX3_firstFor_30 rfl (lv_at hl 0 rfl) ?_
          refine lv_iload_n hx hb dX3_firstFor_31 rfl (lv_at hl 1 rfl) ?_
          refine lv_iload hx hb dX3_firstFor_32 (lv_at hl 5 rfl) ?_
          refine lv_aload_nN hx hb dX3_firstFor_34 rfl (lv_at hl 2 rfl) ?_
          have hFc := tw_free hF hS hA
          refine va_calli (va_runV (As := [.int p0, .int i5, .null]) (rest := []) ⟨hx, hb, hml, hown, hts⟩ (c_mayDotN l dC dI ad av H.size a k τ ln y_L8 g u p0 i5 hI (by omega) (by omega) (by omega) (by omega)) (cwV 3 hts (gi_4 (List.mem_cons_of_mem _ (List.mem_append_left _ (List.mem_of_getElem? (i := 6) rfl))) (List.mem_cons_of_mem _ (List.mem_append_left _ (List.mem_of_getElem? (i := 7) rfl))) (List.mem_cons_of_mem _ (List.mem_append_left _ (List.mem_of_getElem? (i := 8) rfl))) (List.mem_cons_of_mem _ (List.mem_append_left _ (List.mem_of_getElem? (i := 5) rfl))) (fun _ hh => (List.mem_cons_of_mem _ (List.mem_append_right _ (List.mem_append_right _ (List.mem_append_right _ (List.mem_append_right _ (List.mem_append_left _ hh))))))) gd_c_mayDotN) rfl rfl rfl (by decide +kernel) ⟨Nat.le_of_ble_eq_true rfl, Nat.le_of_ble_eq_true rfl⟩) ⟨pw_blind, tw_recv hK hT (fx_4 hX) (by decide) cl_e14 rfl, pw_use hT hK hFc hS hM⟩ rfl rfl hl.1 rfl (lv_room (Nat.le_of_ble_eq_true rfl)) dX3_firstFor_35 ⟨Nat.le_of_ble_eq_true rfl, Nat.le_of_ble_eq_true rfl⟩) hS (fun q _ h => hFc q h) hFc (fun r0 r_6 t H locs ht hvm hw hB hz1 hk1 hS => ?_)
          refine W.widen (k := 0) (n := 0) (Nat.le_of_ble_eq_true rfl) (Nat.le_of_ble_eq_true rfl) ?_
          clear hvm hz1 hk1
          subst hw
          rcases hB with ⟨y_7, hre, hgy_7, hT⟩ | ⟨y_8, hre, hgy_8, hT⟩
          · refine lq_top (v := 1) hre ?_
            rw [ht] at hT
            have hG := hG.tr hgy_7 (by decide)
            have hI := hI.ag hgy_7 (by decide)
            refine lv_if_eq (tgt := 70) hx hb dX3_firstFor_38 (by decide) (fun c_9 => absurd c_9 (by decide)) (fun c_9 => ?_)
            refine lv_aload_n hx hb dX3_firstFor_41 rfl (lv_at hl 0 rfl) ?_
            refine lv_iload_n hx hb dX3_firstFor_42 rfl (lv_at hl 1 rfl) ?_
            refine lv_iload hx hb dX3_firstFor_43 (lv_at hl 5 rfl) ?_
            refine lv_aload_nN hx hb dX3_firstFor_45 rfl (lv_at hl 2 rfl) ?_
            have hFc := tw_free hF hS hA
            refine va_calli (va_runV (As := [.int p0, .int i5, .null]) (rest := []) ⟨hx, hb, hml, hown, hts⟩ (c_hastetN l dC dI ad av H.size a k τ ln y_7 g u p0 i5 hI (by omega) (by omega) (by omega) (by omega)) (cwV 3 hts (gi_4 (List.mem_cons_of_mem _ (List.mem_append_left _ (List.mem_of_getElem? (i := 9) rfl))) (List.mem_cons_of_mem _ (List.mem_append_left _ (List.mem_of_getElem? (i := 10) rfl))) (List.mem_cons_of_mem _ (List.mem_append_left _ (List.mem_of_getElem? (i := 11) rfl))) (List.mem_cons_of_mem _ (List.mem_append_left _ (List.mem_of_getElem? (i := 5) rfl))) (fun _ hh => (List.mem_cons_of_mem _ (List.mem_append_right _ (List.mem_append_right _ (List.mem_append_right _ (List.mem_append_right _ (List.mem_append_right _ (List.mem_append_left _ hh)))))))) gd_c_hastetN) rfl rfl rfl (by decide +kernel) ⟨Nat.le_of_ble_eq_true rfl, Nat.le_of_ble_eq_true rfl⟩) ⟨pw_blind, tw_recv hK hT (fx_4 hX) (by decide) cl_e14 rfl, pw_use hT hK hFc hS hM⟩ rfl rfl hl.1 rfl (lv_room (Nat.le_of_ble_eq_true rfl)) dX3_firstFor_46 ⟨Nat.le_of_ble_eq_true rfl, Nat.le_of_ble_eq_true rfl⟩) hS (fun q _ h => hFc q h) hFc (fun r0 r_10 t H locs ht hvm hw hB hz1 hk1 hS => ?_)
            refine W.widen (k := 0) (n := 0) (Nat.le_of_ble_eq_true rfl) (Nat.le_of_ble_eq_true rfl) ?_
            clear hvm hz1 hk1
            subst hw
            obtain ⟨y_11, hgy_11, hT⟩ := hB
            rw [ht] at hT
            have hG := hG.tr hgy_11 (by decide)
            have hI := hI.ag hgy_11 (by decide)
            refine lv_istore (lv' := [(6, .int r_10), (0, .ref (a 4)), (1, .int p0), (2, .null), (3, .int i3), (4, .int w4), (5, .int i5)]) hx hb dX3_firstFor_49 hl (by decide) rfl (fun ls hl => ?_)
            refine lv_iload_n hx hb dX3_firstFor_51 rfl (lv_at hl 4 rfl) ?_
            refine lv_iconst (v := (-1)) hx hb dX3_firstFor_52 (by decide) ?_
            refine lv_icmp_eq (tgt := 63) hx hb dX3_firstFor_53 (by decide) (fun c_12 => ?_) (fun c_12 => ?_)
            · have nc_12 := z_eq rfl (zk (x := (-1)) (-1) rfl) c_12
              refine lv_iload hx hb dX3_firstFor_63 (lv_at hl 6 rfl) ?_
              refine lv_istore_n (lv' := [(3, .int i5), (6, .int r_10), (0, .ref (a 4)), (1, .int p0), (2, .null), (4, .int w4), (5, .int i5)]) hx hb dX3_firstFor_65 rfl hl (by decide) rfl (fun ls hl => ?_)
              refine lv_iload hx hb dX3_firstFor_66 (lv_at hl 1 rfl) ?_
              refine lv_istore (lv' := [(4, .int r_10), (3, .int i5), (6, .int r_10), (0, .ref (a 4)), (1, .int p0), (2, .null), (5, .int i5)]) hx hb dX3_firstFor_68 hl (by decide) rfl (fun ls hl => ?_)
              obtain ⟨x_13, ex_13⟩ : ∃ y : Int32, y = i5 + Int32.ofInt 1 := ⟨_, rfl⟩
              have hx_13 := z_add ex_13 rfl (zk (x := Int32.ofInt 1) 1 rfl) (by omega) (by omega)
              refine lv_iinc (v := x_13) (lv' := [(5, .int x_13), (4, .int r_10), (3, .int i5), (6, .int r_10), (0, .ref (a 4)), (1, .int p0), (2, .null)]) hx hb dX3_firstFor_70 hl (k := 6) rfl ex_13.symm (by decide) rfl (fun ls hl => ?_)
              refine lv_goto (tgt := 8) hx hb dX3_firstFor_73 (by decide) ?_
              exact ih_8  i5 r_10 x_13 y_11 H _ ls (by omega) hG hI (by omega) (by omega) (by omega) hT hS (lv_sub hl [4, 5, 6, 2, 1, 0] rfl)
            · have nc_12 := z_ne rfl (zk (x := (-1)) (-1) rfl) c_12
              refine lv_iload hx hb dX3_firstFor_56 (lv_at hl 0 rfl) ?_
              refine lv_iload hx hb dX3_firstFor_58 (lv_at hl 5 rfl) ?_
              refine lv_icmp_ge (tgt := 70) hx hb dX3_firstFor_60 (by decide) (fun c_14 => ?_) (fun c_14 => ?_)
              · have nc_14 := z_le rfl rfl c_14
                obtain ⟨x_15, ex_15⟩ : ∃ y : Int32, y = i5 + Int32.ofInt 1 := ⟨_, rfl⟩
                have hx_15 := z_add ex_15 rfl (zk (x := Int32.ofInt 1) 1 rfl) (by omega) (by omega)
                refine lv_iinc (v := x_15) (lv' := [(5, .int x_15), (6, .int r_10), (0, .ref (a 4)), (1, .int p0), (2, .null), (3, .int i3), (4, .int w4)]) hx hb dX3_firstFor_70 hl (k := 6) rfl ex_15.symm (by decide) rfl (fun ls hl => ?_)
                refine lv_goto (tgt := 8) hx hb dX3_firstFor_73 (by decide) ?_
                exact ih_8  i3 w4 x_15 y_11 H _ ls (by omega) hG hI (by omega) (by omega) (by omega) hT hS (lv_sub hl [2, 3, 4, 5, 6, 0] rfl)
              · have nc_14 := z_nle rfl rfl c_14
                refine lv_iload hx hb dX3_firstFor_63 (lv_at hl 6 rfl) ?_
                refine lv_istore_n (lv' := [(3, .int i5), (6, .int r_10), (0, .ref (a 4)), (1, .int p0), (2, .null), (4, .int w4), (5, .int i5)]) hx hb dX3_firstFor_65 rfl hl (by decide) rfl (fun ls hl => ?_)
                refine lv_iload hx hb dX3_firstFor_66 (lv_at hl 1 rfl) ?_
                refine lv_istore (lv' := [(4, .int r_10), (3, .int i5), (6, .int r_10), (0, .ref (a 4)), (1, .int p0), (2, .null), (5, .int i5)]) hx hb dX3_firstFor_68 hl (by decide) rfl (fun ls hl => ?_)
                obtain ⟨x_16, ex_16⟩ : ∃ y : Int32, y = i5 + Int32.ofInt 1 := ⟨_, rfl⟩
                have hx_16 := z_add ex_16 rfl (zk (x := Int32.ofInt 1) 1 rfl) (by omega) (by omega)
                refine lv_iinc (v := x_16) (lv' := [(5, .int x_16), (4, .int r_10), (3, .int i5), (6, .int r_10), (0, .ref (a 4)), (1, .int p0), (2, .null)]) hx hb dX3_firstFor_70 hl (k := 6) rfl ex_16.symm (by decide) rfl (fun ls hl => ?_)
                refine lv_goto (tgt := 8) hx hb dX3_firstFor_73 (by decide) ?_
                exact ih_8  i5 r_10 x_16 y_11 H _ ls (by omega) hG hI (by omega) (by omega) (by omega) hT hS (lv_sub hl [4, 5, 6, 2, 1, 0] rfl)
          · refine lq_top (v := 0) hre ?_
            rw [ht] at hT
            have hG := hG.tr hgy_8 (by decide)
            have hI := hI.ag hgy_8 (by decide)
            refine lv_if_eq (tgt := 70) hx hb dX3_firstFor_38 (by decide) (fun c_17 => ?_) (fun c_17 => absurd c_17 (by decide))
            obtain ⟨x_18, ex_18⟩ : ∃ y : Int32, y = i5 + Int32.ofInt 1 := ⟨_, rfl⟩
            have hx_18 := z_add ex_18 rfl (zk (x := Int32.ofInt 1) 1 rfl) (by omega) (by omega)
            refine lv_iinc (v := x_18) (lv' := [(5, .int x_18), (0, .ref (a 4)), (1, .int p0), (2, .null), (3, .int i3), (4, .int w4)]) hx hb dX3_firstFor_70 hl (k := 5) rfl ex_18.symm (by decide) rfl (fun ls hl => ?_)
            refine lv_goto (tgt := 8) hx hb dX3_firstFor_73 (by decide) ?_
            exact ih_8  i3 w4 x_18 y_8 H _ ls (by omega) hG hI (by omega) (by omega) (by omega) hT hS (lv_sub hl [1, 2, 3, 4, 5, 0] rfl)
  have hp_19 : (-1 : Int32).toInt = (-1) := (zk (x := (-1)) (-1) rfl)
  have hp_20 : (0 : Int32).toInt = 0 := (zk (x := 0) 0 rfl)
  have hp_21 : (0 : Int32).toInt = 0 := (zk (x := 0) 0 rfl)
  exact loop_8 _ (-1 : Int32) (0 : Int32) (0 : Int32) y s.heap _ ls (Nat.lt_succ_self _) hG hI (by omega) (by omega) (by omega) hT hS (lv_sub hl [3, 4, 5, 2, 1, 0] rfl)
def wo_c_takeAlltN : List Cond := [.fieldLink RX3 43 "TypingPool$Floor" "book" "LTypingPool$Book;", .fieldLink RX3 75 "TypingPool$Book" "handCount" "I", .fieldLink RX3 15 "TypingPool$Floor" "has" "[I", .methodLink RX3 78 yX3_firstFor, .instanceMethod yX3_firstFor, .selects RX3 yX3_firstFor yX3_firstFor, .initialized RX3, .methodLink RX3 82 yX3_take, .instanceMethod yX3_take, .selects RX3 yX3_take yX3_take]
def wm_c_takeAlltN : List Cond := .code yX3_takeAll cX3_takeAll 5 none :: (wo_c_takeAlltN ++ (wsX30 ++ (wsX10 ++ (wm_c_firstFortN ++ (wm_c_taket ++ ([] : List Cond))))))
theorem gd_c_takeAlltN : ∀ w ∈ wm_c_takeAlltN, goodWord w = true := gd_c rfl (gd_a (by decide) (gd_a gd_wsX30 (gd_a gd_wsX10 (gd_a gd_c_firstFortN (gd_a gd_c_taket gd_nil)))))
set_option maxRecDepth 20000 in
theorem im_c_takeAlltN : ∀ w ∈ wm_c_takeAlltN, w ∈ lw_tbl := im_c (in_r [.code yX3_takeAll cX3_takeAll 5 none] [762] (by decide +kernel)) (in_app (in_r wo_c_takeAlltN [426, 125, 431, 763, 765, 9, 83, 815, 817, 12] (by decide +kernel)) (in_app im_wsX30 (in_app im_wsX10 (in_app im_c_firstFortN (in_app im_c_taket im_nil)))))
set_option maxHeartbeats 4000000 in
set_option maxRecDepth 100000 in
theorem c_takeAlltN (l : Launch) (dC : Nat → ClassId) (dI : Nat → Nat → Nat) (ad av : Nat → Nat) (sz : Nat) (a : Nat → Nat) (k : Nat → ClassId) (τ ln : Nat → Nat) (y : Nat → Nat → Int32) (g : Nat → Nat → Option Nat) (u : Nat → Int) (p0 : Int32) (hI : IC a u τ ln y g) : Met l yX3_takeAll wm_c_takeAlltN ({ frames := 5, cells := 0, slots := 0, locals := 300 }) (pw_ ad av (dC, dI) sz [.ref (a 4), .int p0, .null] a k τ ln y g) (va_Qv (fun (_ : Unit) => True) (fun (_ : Unit) (t : State) => (∃ (y' : Nat → Nat → Int32), ag τ [24, 27, 40, 41, 44, 45, 48] y y' ∧ tw (dC, dI) a k τ ln y' g t.heap)) (fr τ sz)) 0 0 (fr τ sz) := by
  refine Met.ofW (cc := cX3_takeAll) (maxL := 5) (ret := none) (by decide) rfl ?_
  intro p e s m args below meth c s₁ B hml hv
  obtain ⟨rfl, hsz, hT, hK, hM⟩ := hv
  have hx := B.exec
  have hb := B.bytes
  have hr := B.returns
  have hts := atoms_spec (ws := wm_c_takeAlltN) B.pre
  have hown : s.vm.findClass RX3 = some m.cls := findClass_of_methodNamed B.named
  have hlocks := B.notSynchronized
  subst hsz
  generalize hAe : fr τ s.heap.size = A at hM ⊢
  have hA : ∀ q : Nat, s.heap.size ≤ q → A q := fun q h => by rw [← hAe]; exact Or.inr h
  have hF : ∀ q, τ q ≠ 0 → A q := fun q h => by rw [← hAe]; exact Or.inl h
  have hS : va_S A s.heap s.heap [] := va_S.rf
  have hX := hI.1
  have hR := ic_r hI
  have hG : ag τ [24, 27, 40, 41, 44, 45, 48] y y := ag.rf
  have hl := lv_entry ([.ref (a 4), .int p0, .null]) (n := 5) (Nat.le_of_ble_eq_true rfl)
  rw [lg_entry_eq]
  generalize (lg_sl ([.ref (a 4), .int p0, .null]) ++ List.replicate (5 - (lg_sl ([.ref (a 4), .int p0, .null])).length) Slot.unset).toArray = ls at hl ⊢
  have hl : lv_has ls 5 [(0, .ref (a 4)), (1, .int p0), (2, .null)] := hl
  refine lv_iconst (v := 0) hx hb dX3_takeAll_0 (by decide) ?_
  refine lv_istore_n (lv' := [(3, .int 0), (0, .ref (a 4)), (1, .int p0), (2, .null)]) hx hb dX3_takeAll_1 rfl hl (by decide) rfl (fun ls hl => ?_)
  have loop_2 : ∀ (n : Nat) (i3 : Int32) (y_L2 : Nat → Nat → Int32) (H : Heap) (locs : List Loc) (ls : Array Slot), (u 1 - i3.toInt).toNat < n → ag τ [24, 27, 40, 41, 44, 45, 48] y y_L2 → IC a u τ ln y_L2 g → 0 ≤ i3.toInt → i3.toInt ≤ u 1 → tw (dC, dI) a k τ ln y_L2 g H → va_S A s.heap H locs → lv_has ls 5 [(0, .ref (a 4)), (1, .int p0), (2, .null), (3, .int i3)] → W p l e (headSpec wm_c_takeAlltN ({ frames := 5, cells := 0, slots := 0, locals := 300 })).room s m ([.ref (a 4), .int p0, .null] : List Value).toArray below meth c H locs 0 0 (MQ below (va_Qv (fun (_ : Unit) => True) (fun (_ : Unit) (t : State) => (∃ (y' : Nat → Nat → Int32), ag τ [24, 27, 40, 41, 44, 45, 48] y y' ∧ tw (dC, dI) a k τ ln y' g t.heap)) A) ([.ref (a 4), .int p0, .null] : List Value).toArray s 0 0 A) (F0 m 2 ls []) := by
    intro n
    induction n with
    | zero => intro i3 y_L2 H locs ls hlt; exact absurd hlt (Nat.not_lt_zero _)
    | succ n ih_2 =>
      intro i3 y_L2 H locs ls hlt hG hI hi2_0 hi2_1 hT hS hl
      refine lv_iload_n hx hb dX3_takeAll_2 rfl (lv_at hl 3 rfl) ?_
      refine lv_aload_n hx hb dX3_takeAll_3 rfl (lv_at hl 0 rfl) ?_
      refine tw_get (D := (dC, dI)) (v := .ref (a 1)) (C := RX3) (T := TX3) (N := 12) hx hb hts (fun _ hh => (List.mem_cons_of_mem _ (List.mem_append_right _ (List.mem_append_left _ hh)))) hown hK hT (fx_4 hX) (by decide) cl_e14 rfl 0 (by decide) (hts (.fieldLink RX3 43 "TypingPool$Floor" "book" "LTypingPool$Book;") (List.mem_cons_of_mem _ (List.mem_append_left _ (List.mem_of_getElem? (i := 0) rfl)))) (fun _ h9 => h9) rfl dX3_takeAll_4 ?_
      refine tw_get (D := (dC, dI)) (v := .int (y_L2 (a 1) 3)) (C := RX1) (T := TX1) (N := 8) hx hb hts (fun _ hh => (List.mem_cons_of_mem _ (List.mem_append_right _ (List.mem_append_right _ (List.mem_append_left _ hh))))) hown hK hT (fx_1 hX) (by decide) cl_e11 rfl 3 (by decide) (hts (.fieldLink RX3 75 "TypingPool$Book" "handCount" "I") (List.mem_cons_of_mem _ (List.mem_append_left _ (List.mem_of_getElem? (i := 1) rfl)))) (fun _ h9 => h9) rfl dX3_takeAll_7 ?_
      have hc_1 := ic_1 hI
      refine lv_icmp_ge (tgt := 58) hx hb dX3_takeAll_10 (by decide) (fun c_2 => ?_) (fun c_2 => ?_)
      · have nc_2 := z_le hc_1 rfl c_2
        exact W.vret hx hb hr (fun t ht hW9 => ⟨⟨(), rfl, trivial, ⟨y_L2, hG, tw_at ht hT⟩⟩, hS.F ht⟩) hS.2.2 dX3_takeAll_58
      · have nc_2 := z_nle hc_1 rfl c_2
        refine lv_iload_n hx hb dX3_takeAll_13 rfl (lv_at hl 1 rfl) ?_
        refine lv_iload_n hx hb dX3_takeAll_14 rfl (lv_at hl 3 rfl) ?_
        refine lv_ishr hx hb dX3_takeAll_15 ?_
        refine lv_topi (fun x_3 ex_3 => ?_)
        refine lv_iconst (v := 1) hx hb dX3_takeAll_16 (by decide) ?_
        refine lv_iand hx hb dX3_takeAll_17 ?_
        refine lv_topi (fun x_4 ex_4 => ?_)
        have hx_4 := z_and (x := x_3) (zk (x := 1) 1 rfl) (by omega)
        rw [← ex_4] at hx_4
        refine lv_if_ne (tgt := 52) hx hb dX3_takeAll_18 (by decide) (fun c_5 => ?_) (fun c_5 => ?_)
        · have nc_5 := z_ne rfl (zk (x := 0) 0 rfl) c_5
          obtain ⟨x_6, ex_6⟩ : ∃ y : Int32, y = i3 + Int32.ofInt 1 := ⟨_, rfl⟩
          have hx_6 := z_add ex_6 rfl (zk (x := Int32.ofInt 1) 1 rfl) (by omega) (by omega)
          refine lv_iinc (v := x_6) (lv' := [(3, .int x_6), (0, .ref (a 4)), (1, .int p0), (2, .null)]) hx hb dX3_takeAll_52 hl (k := 3) rfl ex_6.symm (by decide) rfl (fun ls hl => ?_)
          refine lv_goto (tgt := 2) hx hb dX3_takeAll_55 (by decide) ?_
          exact ih_2  x_6 y_L2 H _ ls (by omega) hG hI (by omega) (by omega) hT hS (lv_sub hl [1, 2, 3, 0] rfl)
        · have nc_5 := z_eq rfl (zk (x := 0) 0 rfl) c_5
          refine lv_aload_n hx hb dX3_takeAll_21 rfl (lv_at hl 0 rfl) ?_
          refine tw_get (D := (dC, dI)) (v := .ref (a 30)) (C := RX3) (T := TX3) (N := 12) hx hb hts (fun _ hh => (List.mem_cons_of_mem _ (List.mem_append_right _ (List.mem_append_left _ hh)))) hown hK hT (fx_4 hX) (by decide) cl_e14 rfl 3 (by decide) (hts (.fieldLink RX3 15 "TypingPool$Floor" "has" "[I") (List.mem_cons_of_mem _ (List.mem_append_left _ (List.mem_of_getElem? (i := 2) rfl)))) (fun _ h9 => h9) rfl dX3_takeAll_22 ?_
          refine lv_iload_n hx hb dX3_takeAll_25 rfl (lv_at hl 3 rfl) ?_
          refine tw_iald hx hb hK hT 0 (fx_30 hX) (by decide) cl_e40 rfl (z_in rfl (by omega) (by omega)) dX3_takeAll_26 ?_
          refine lv_iconst (v := (-1)) hx hb dX3_takeAll_27 (by decide) ?_
          refine lv_icmp_ne (tgt := 52) hx hb dX3_takeAll_28 (by decide) (fun c_7 => ?_) (fun c_7 => ?_)
          · have nc_7 := z_ne rfl (zk (x := (-1)) (-1) rfl) c_7
            obtain ⟨x_8, ex_8⟩ : ∃ y : Int32, y = i3 + Int32.ofInt 1 := ⟨_, rfl⟩
            have hx_8 := z_add ex_8 rfl (zk (x := Int32.ofInt 1) 1 rfl) (by omega) (by omega)
            refine lv_iinc (v := x_8) (lv' := [(3, .int x_8), (0, .ref (a 4)), (1, .int p0), (2, .null)]) hx hb dX3_takeAll_52 hl (k := 3) rfl ex_8.symm (by decide) rfl (fun ls hl => ?_)
            refine lv_goto (tgt := 2) hx hb dX3_takeAll_55 (by decide) ?_
            exact ih_2  x_8 y_L2 H _ ls (by omega) hG hI (by omega) (by omega) hT hS (lv_sub hl [1, 2, 3, 0] rfl)
          · have nc_7 := z_eq rfl (zk (x := (-1)) (-1) rfl) c_7
            refine lv_aload_n hx hb dX3_takeAll_31 rfl (lv_at hl 0 rfl) ?_
            refine lv_iload_n hx hb dX3_takeAll_32 rfl (lv_at hl 3 rfl) ?_
            refine lv_aload_nN hx hb dX3_takeAll_33 rfl (lv_at hl 2 rfl) ?_
            have hFc := tw_free hF hS hA
            refine va_calli (va_runV (As := [.int i3, .null]) (rest := []) ⟨hx, hb, hml, hown, hts⟩ (c_firstFortN l dC dI ad av H.size a k τ ln y_L2 g u i3 hI (by omega) (by omega)) (cwV 2 hts (gi_4 (List.mem_cons_of_mem _ (List.mem_append_left _ (List.mem_of_getElem? (i := 3) rfl))) (List.mem_cons_of_mem _ (List.mem_append_left _ (List.mem_of_getElem? (i := 4) rfl))) (List.mem_cons_of_mem _ (List.mem_append_left _ (List.mem_of_getElem? (i := 5) rfl))) (List.mem_cons_of_mem _ (List.mem_append_left _ (List.mem_of_getElem? (i := 6) rfl))) (fun _ hh => (List.mem_cons_of_mem _ (List.mem_append_right _ (List.mem_append_right _ (List.mem_append_right _ (List.mem_append_left _ hh)))))) gd_c_firstFortN) rfl rfl rfl (by decide +kernel) ⟨Nat.le_of_ble_eq_true rfl, Nat.le_of_ble_eq_true rfl⟩) ⟨pw_blind, tw_recv hK hT (fx_4 hX) (by decide) cl_e14 rfl, pw_use hT hK hFc hS hM⟩ rfl rfl hl.1 rfl (lv_room (Nat.le_of_ble_eq_true rfl)) dX3_takeAll_34 ⟨Nat.le_of_ble_eq_true rfl, Nat.le_of_ble_eq_true rfl⟩) hS (fun q _ h => hFc q h) hFc (fun r0 r_9 t H locs ht hvm hw hB hz1 hk1 hS => ?_)
            refine W.widen (k := 0) (n := 0) (Nat.le_of_ble_eq_true rfl) (Nat.le_of_ble_eq_true rfl) ?_
            clear hvm hz1 hk1
            subst hw
            obtain ⟨y_10, hgy_10, hf_11, hT⟩ := hB
            rw [ht] at hT
            have hG := hG.tr hgy_10 (by decide)
            have hI := hI.ag hgy_10 (by decide)
            refine lv_istore (lv' := [(4, .int r_9), (0, .ref (a 4)), (1, .int p0), (2, .null), (3, .int i3)]) hx hb dX3_takeAll_37 hl (by decide) rfl (fun ls hl => ?_)
            refine lv_iload hx hb dX3_takeAll_39 (lv_at hl 0 rfl) ?_
            refine lv_iconst (v := (-1)) hx hb dX3_takeAll_41 (by decide) ?_
            refine lv_icmp_eq (tgt := 52) hx hb dX3_takeAll_42 (by decide) (fun c_12 => ?_) (fun c_12 => ?_)
            · have nc_12 := z_eq rfl (zk (x := (-1)) (-1) rfl) c_12
              obtain ⟨x_13, ex_13⟩ : ∃ y : Int32, y = i3 + Int32.ofInt 1 := ⟨_, rfl⟩
              have hx_13 := z_add ex_13 rfl (zk (x := Int32.ofInt 1) 1 rfl) (by omega) (by omega)
              refine lv_iinc (v := x_13) (lv' := [(3, .int x_13), (4, .int r_9), (0, .ref (a 4)), (1, .int p0), (2, .null)]) hx hb dX3_takeAll_52 hl (k := 4) rfl ex_13.symm (by decide) rfl (fun ls hl => ?_)
              refine lv_goto (tgt := 2) hx hb dX3_takeAll_55 (by decide) ?_
              exact ih_2  x_13 y_10 H _ ls (by omega) hG hI (by omega) (by omega) hT hS (lv_sub hl [2, 3, 4, 0] rfl)
            · have nc_12 := z_ne rfl (zk (x := (-1)) (-1) rfl) c_12
              refine lv_aload_n hx hb dX3_takeAll_45 rfl (lv_at hl 1 rfl) ?_
              refine lv_iload_n hx hb dX3_takeAll_46 rfl (lv_at hl 4 rfl) ?_
              refine lv_iload hx hb dX3_takeAll_47 (lv_at hl 0 rfl) ?_
              have hFc := tw_free hF hS hA
              refine va_callv (va_runV (As := [.int i3, .int r_9]) (rest := []) ⟨hx, hb, hml, hown, hts⟩ (c_taket l dC dI ad av H.size a k τ ln y_10 g u i3 r_9 hI (by omega) (by omega) (by omega) (by omega)) (cwV 2 hts (gi_4 (List.mem_cons_of_mem _ (List.mem_append_left _ (List.mem_of_getElem? (i := 7) rfl))) (List.mem_cons_of_mem _ (List.mem_append_left _ (List.mem_of_getElem? (i := 8) rfl))) (List.mem_cons_of_mem _ (List.mem_append_left _ (List.mem_of_getElem? (i := 9) rfl))) (List.mem_cons_of_mem _ (List.mem_append_left _ (List.mem_of_getElem? (i := 6) rfl))) (fun _ hh => (List.mem_cons_of_mem _ (List.mem_append_right _ (List.mem_append_right _ (List.mem_append_right _ (List.mem_append_right _ (List.mem_append_left _ hh))))))) gd_c_taket) rfl rfl rfl (by decide +kernel) ⟨Nat.le_of_ble_eq_true rfl, Nat.le_of_ble_eq_true rfl⟩) ⟨pw_blind, tw_recv hK hT (fx_4 hX) (by decide) cl_e14 rfl, pw_use hT hK hFc hS hM⟩ rfl rfl hl.1 rfl (lv_room (Nat.le_of_ble_eq_true rfl)) dX3_takeAll_49 ⟨Nat.le_of_ble_eq_true rfl, Nat.le_of_ble_eq_true rfl⟩) hS (fun q _ h => hFc q h) hFc (fun u0 t H locs ht hvm hw hB hz1 hk1 hS => ?_)
              refine W.widen (k := 0) (n := 0) (Nat.le_of_ble_eq_true rfl) (Nat.le_of_ble_eq_true rfl) ?_
              clear hvm hz1 hk1
              obtain ⟨y_15, hgy_15, hT⟩ := hB
              rw [ht] at hT
              have hG := hG.tr hgy_15 (by decide)
              have hI := hI.ag hgy_15 (by decide)
              obtain ⟨x_16, ex_16⟩ : ∃ y : Int32, y = i3 + Int32.ofInt 1 := ⟨_, rfl⟩
              have hx_16 := z_add ex_16 rfl (zk (x := Int32.ofInt 1) 1 rfl) (by omega) (by omega)
              refine lv_iinc (v := x_16) (lv' := [(3, .int x_16), (4, .int r_9), (0, .ref (a 4)), (1, .int p0), (2, .null)]) hx hb dX3_takeAll_52 hl (k := 4) rfl ex_16.symm (by decide) rfl (fun ls hl => ?_)
              refine lv_goto (tgt := 2) hx hb dX3_takeAll_55 (by decide) ?_
              exact ih_2  x_16 y_15 H _ ls (by omega) hG hI (by omega) (by omega) hT hS (lv_sub hl [2, 3, 4, 0] rfl)
  have hp_17 : (0 : Int32).toInt = 0 := (zk (x := 0) 0 rfl)
  exact loop_2 _ (0 : Int32) y s.heap _ ls (Nat.lt_succ_self _) hG hI (by omega) (by omega) hT hS (lv_sub hl [1, 2, 3, 0] rfl)
def wo_c_runOntN : List Cond := [.fieldLink RX3 9 "TypingPool$Floor" "now" "I", .fieldLink RX3 43 "TypingPool$Floor" "book" "LTypingPool$Book;", .methodLink RX3 57 yX1_awayMask, .instanceMethod yX1_awayMask, .selects RX1 yX1_awayMask yX1_awayMask, .initialized RX1, .methodLink RX3 63 yX3_takeAll, .instanceMethod yX3_takeAll, .selects RX3 yX3_takeAll yX3_takeAll, .initialized RX3, .methodLink RX3 67 yX3_changeFrom, .instanceMethod yX3_changeFrom, .selects RX3 yX3_changeFrom yX3_changeFrom, .methodLink RX3 71 yX3_workAll, .instanceMethod yX3_workAll, .selects RX3 yX3_workAll yX3_workAll]
def wm_c_runOntN : List Cond := .code yX3_runOn cX3_runOn 8 none :: (wo_c_runOntN ++ (wsX30 ++ (wm_c_awayMask ++ (wm_c_takeAlltN ++ (wm_c_changeFromt ++ (wm_c_workAllt ++ ([] : List Cond)))))))
theorem gd_c_runOntN : ∀ w ∈ wm_c_runOntN, goodWord w = true := gd_c rfl (gd_a (by decide) (gd_a gd_wsX30 (gd_a gd_c_awayMask (gd_a gd_c_takeAlltN (gd_a gd_c_changeFromt (gd_a gd_c_workAllt gd_nil))))))
set_option maxRecDepth 20000 in
theorem im_c_runOntN : ∀ w ∈ wm_c_runOntN, w ∈ lw_tbl := im_c (in_r [.code yX3_runOn cX3_runOn 8 none] [754] (by decide +kernel)) (in_app (in_r wo_c_runOntN [428, 426, 755, 756, 757, 71, 759, 761, 8, 83, 824, 826, 13, 847, 849, 15] (by decide +kernel)) (in_app im_wsX30 (in_app im_c_awayMask (in_app im_c_takeAlltN (in_app im_c_changeFromt (in_app im_c_workAllt im_nil))))))
set_option maxHeartbeats 4000000 in
set_option maxRecDepth 100000 in
theorem c_runOntN (l : Launch) (dC : Nat → ClassId) (dI : Nat → Nat → Nat) (ad av : Nat → Nat) (sz : Nat) (a : Nat → Nat) (k : Nat → ClassId) (τ ln : Nat → Nat) (y : Nat → Nat → Int32) (g : Nat → Nat → Option Nat) (u : Nat → Int) (p0 : Int32) (p1 : Int32) (hI : IC a u τ ln y g) (hup0 : p0.toInt ≤ 960) : Met l yX3_runOn wm_c_runOntN ({ frames := 6, cells := 0, slots := 0, locals := 360 }) (pw_ ad av (dC, dI) sz [.ref (a 4), .int p0, .null, .int p1] a k τ ln y g) (va_Qv (fun (_ : Unit) => True) (fun (_ : Unit) (t : State) => (∃ (y' : Nat → Nat → Int32), ag τ [14, 24, 27, 40, 41, 42, 43, 44, 45, 46, 47, 48] y y' ∧ tw (dC, dI) a k τ ln y' g t.heap)) (fr τ sz)) 0 0 (fr τ sz) := by
  refine Met.ofW (cc := cX3_runOn) (maxL := 8) (ret := none) (by decide) rfl ?_
  intro p e s m args below meth c s₁ B hml hv
  obtain ⟨rfl, hsz, hT, hK, hM⟩ := hv
  have hx := B.exec
  have hb := B.bytes
  have hr := B.returns
  have hts := atoms_spec (ws := wm_c_runOntN) B.pre
  have hown : s.vm.findClass RX3 = some m.cls := findClass_of_methodNamed B.named
  have hlocks := B.notSynchronized
  subst hsz
  generalize hAe : fr τ s.heap.size = A at hM ⊢
  have hA : ∀ q : Nat, s.heap.size ≤ q → A q := fun q h => by rw [← hAe]; exact Or.inr h
  have hF : ∀ q, τ q ≠ 0 → A q := fun q h => by rw [← hAe]; exact Or.inl h
  have hS : va_S A s.heap s.heap [] := va_S.rf
  have hX := hI.1
  have hR := ic_r hI
  have hG : ag τ [14, 24, 27, 40, 41, 42, 43, 44, 45, 46, 47, 48] y y := ag.rf
  have hl := lv_entry ([.ref (a 4), .int p0, .null, .int p1]) (n := 8) (Nat.le_of_ble_eq_true rfl)
  rw [lg_entry_eq]
  generalize (lg_sl ([.ref (a 4), .int p0, .null, .int p1]) ++ List.replicate (8 - (lg_sl ([.ref (a 4), .int p0, .null, .int p1])).length) Slot.unset).toArray = ls at hl ⊢
  have hl : lv_has ls 8 [(0, .ref (a 4)), (1, .int p0), (2, .null), (3, .int p1)] := hl
  refine lv_aload_n hx hb dX3_runOn_0 rfl (lv_at hl 0 rfl) ?_
  refine tw_get (D := (dC, dI)) (v := .int (y (a 4) 2)) (C := RX3) (T := TX3) (N := 12) hx hb hts (fun _ hh => (List.mem_cons_of_mem _ (List.mem_append_right _ (List.mem_append_left _ hh)))) hown hK hT (fx_4 hX) (by decide) cl_e14 rfl 2 (by decide) (hts (.fieldLink RX3 9 "TypingPool$Floor" "now" "I") (List.mem_cons_of_mem _ (List.mem_append_left _ (List.mem_of_getElem? (i := 0) rfl)))) (fun _ h9 => h9) rfl dX3_runOn_1 ?_
  refine lv_iload_n hx hb dX3_runOn_4 rfl (lv_at hl 1 rfl) ?_
  refine lv_iadd hx hb dX3_runOn_5 ?_
  refine lv_topi (fun x_1 ex_1 => ?_)
  refine lv_istore (lv' := [(4, .int x_1), (0, .ref (a 4)), (1, .int p0), (2, .null), (3, .int p1)]) hx hb dX3_runOn_6 hl (by decide) rfl (fun ls hl => ?_)
  refine lv_iconst (v := 0) hx hb dX3_runOn_8 (by decide) ?_
  refine lv_istore (lv' := [(5, .int 0), (4, .int x_1), (0, .ref (a 4)), (1, .int p0), (2, .null), (3, .int p1)]) hx hb dX3_runOn_9 hl (by decide) rfl (fun ls hl => ?_)
  have loop_11 : ∀ (n : Nat) (i5 : Int32) (y_L11 : Nat → Nat → Int32) (H : Heap) (locs : List Loc) (ls : Array Slot), (p0.toInt - i5.toInt).toNat < n → ag τ [14, 24, 27, 40, 41, 42, 43, 44, 45, 46, 47, 48] y y_L11 → IC a u τ ln y_L11 g → 0 ≤ i5.toInt → tw (dC, dI) a k τ ln y_L11 g H → va_S A s.heap H locs → lv_has ls 8 [(0, .ref (a 4)), (1, .int p0), (2, .null), (3, .int p1), (4, .int x_1), (5, .int i5)] → W p l e (headSpec wm_c_runOntN ({ frames := 6, cells := 0, slots := 0, locals := 360 })).room s m ([.ref (a 4), .int p0, .null, .int p1] : List Value).toArray below meth c H locs 0 0 (MQ below (va_Qv (fun (_ : Unit) => True) (fun (_ : Unit) (t : State) => (∃ (y' : Nat → Nat → Int32), ag τ [14, 24, 27, 40, 41, 42, 43, 44, 45, 46, 47, 48] y y' ∧ tw (dC, dI) a k τ ln y' g t.heap)) A) ([.ref (a 4), .int p0, .null, .int p1] : List Value).toArray s 0 0 A) (F0 m 11 ls []) := by
    intro n
    induction n with
    | zero => intro i5 y_L11 H locs ls hlt; exact absurd hlt (Nat.not_lt_zero _)
    | succ n ih_11 =>
      intro i5 y_L11 H locs ls hlt hG hI hi11_0 hT hS hl
      refine lv_iload hx hb dX3_runOn_11 (lv_at hl 5 rfl) ?_
      refine lv_iload_n hx hb dX3_runOn_13 rfl (lv_at hl 1 rfl) ?_
      refine lv_icmp_ge (tgt := 99) hx hb dX3_runOn_14 (by decide) (fun c_2 => ?_) (fun c_2 => ?_)
      · have nc_2 := z_le rfl rfl c_2
        exact W.vret hx hb hr (fun t ht hW9 => ⟨⟨(), rfl, trivial, ⟨y_L11, hG, tw_at ht hT⟩⟩, hS.F ht⟩) hS.2.2 dX3_runOn_99
      · have nc_2 := z_nle rfl rfl c_2
        refine lv_aload_n hx hb dX3_runOn_17 rfl (lv_at hl 0 rfl) ?_
        refine tw_get (D := (dC, dI)) (v := .int (y_L11 (a 4) 2)) (C := RX3) (T := TX3) (N := 12) hx hb hts (fun _ hh => (List.mem_cons_of_mem _ (List.mem_append_right _ (List.mem_append_left _ hh)))) hown hK hT (fx_4 hX) (by decide) cl_e14 rfl 2 (by decide) (hts (.fieldLink RX3 9 "TypingPool$Floor" "now" "I") (List.mem_cons_of_mem _ (List.mem_append_left _ (List.mem_of_getElem? (i := 0) rfl)))) (fun _ h9 => h9) rfl dX3_runOn_18 ?_
        refine lv_iload hx hb dX3_runOn_21 (lv_at hl 4 rfl) ?_
        refine lv_icmp_ge (tgt := 99) hx hb dX3_runOn_23 (by decide) (fun c_3 => ?_) (fun c_3 => ?_)
        · have nc_3 := z_le rfl rfl c_3
          exact W.vret hx hb hr (fun t ht hW9 => ⟨⟨(), rfl, trivial, ⟨y_L11, hG, tw_at ht hT⟩⟩, hS.F ht⟩) hS.2.2 dX3_runOn_99
        · have nc_3 := z_nle rfl rfl c_3
          refine lv_aload_n hx hb dX3_runOn_26 rfl (lv_at hl 0 rfl) ?_
          refine tw_get (D := (dC, dI)) (v := .ref (a 1)) (C := RX3) (T := TX3) (N := 12) hx hb hts (fun _ hh => (List.mem_cons_of_mem _ (List.mem_append_right _ (List.mem_append_left _ hh)))) hown hK hT (fx_4 hX) (by decide) cl_e14 rfl 0 (by decide) (hts (.fieldLink RX3 43 "TypingPool$Floor" "book" "LTypingPool$Book;") (List.mem_cons_of_mem _ (List.mem_append_left _ (List.mem_of_getElem? (i := 1) rfl)))) (fun _ h9 => h9) rfl dX3_runOn_27 ?_
          refine lv_aload_n hx hb dX3_runOn_30 rfl (lv_at hl 0 rfl) ?_
          refine tw_get (D := (dC, dI)) (v := .int (y_L11 (a 4) 2)) (C := RX3) (T := TX3) (N := 12) hx hb hts (fun _ hh => (List.mem_cons_of_mem _ (List.mem_append_right _ (List.mem_append_left _ hh)))) hown hK hT (fx_4 hX) (by decide) cl_e14 rfl 2 (by decide) (hts (.fieldLink RX3 9 "TypingPool$Floor" "now" "I") (List.mem_cons_of_mem _ (List.mem_append_left _ (List.mem_of_getElem? (i := 0) rfl)))) (fun _ h9 => h9) rfl dX3_runOn_31 ?_
          have hFc := tw_free hF hS hA
          refine va_calli (va_runV (As := [.int (y_L11 (a 4) 2)]) (rest := []) ⟨hx, hb, hml, hown, hts⟩ (c_awayMask l dC dI ad av H.size a k τ ln y_L11 g u (y_L11 (a 4) 2) hI ) (cwV 1 hts (gi_4 (List.mem_cons_of_mem _ (List.mem_append_left _ (List.mem_of_getElem? (i := 2) rfl))) (List.mem_cons_of_mem _ (List.mem_append_left _ (List.mem_of_getElem? (i := 3) rfl))) (List.mem_cons_of_mem _ (List.mem_append_left _ (List.mem_of_getElem? (i := 4) rfl))) (List.mem_cons_of_mem _ (List.mem_append_left _ (List.mem_of_getElem? (i := 5) rfl))) (fun _ hh => (List.mem_cons_of_mem _ (List.mem_append_right _ (List.mem_append_right _ (List.mem_append_left _ hh))))) gd_c_awayMask) rfl rfl rfl (by decide +kernel) ⟨Nat.le_of_ble_eq_true rfl, Nat.le_of_ble_eq_true rfl⟩) ⟨pw_blind, tw_recv hK hT (fx_1 hX) (by decide) cl_e11 rfl, pw_use hT hK hFc hS hM⟩ rfl rfl hl.1 rfl (lv_room (Nat.le_of_ble_eq_true rfl)) dX3_runOn_34 ⟨Nat.le_of_ble_eq_true rfl, Nat.le_of_ble_eq_true rfl⟩) hS (fun q _ h => hFc q h) hFc (fun r0 r_4 t H locs ht hvm hw hB hz1 hk1 hS => ?_)
          refine W.widen (k := 0) (n := 0) (Nat.le_of_ble_eq_true rfl) (Nat.le_of_ble_eq_true rfl) ?_
          clear hvm hz1 hk1
          subst hw
          have hT := hB
          rw [ht] at hT
          refine lv_iload_n hx hb dX3_runOn_37 rfl (lv_at hl 3 rfl) ?_
          refine lv_iconst (v := (-1)) hx hb dX3_runOn_38 (by decide) ?_
          refine lv_icmp_ne (tgt := 46) hx hb dX3_runOn_39 (by decide) (fun c_5 => ?_) (fun c_5 => ?_)
          · have nc_5 := z_ne rfl (zk (x := (-1)) (-1) rfl) c_5
            refine lv_iconst (v := 1) hx hb dX3_runOn_46 (by decide) ?_
            refine lv_iload_n hx hb dX3_runOn_47 rfl (lv_at hl 3 rfl) ?_
            refine lv_ishl hx hb dX3_runOn_48 ?_
            refine lv_topi (fun x_6 ex_6 => ?_)
            refine lv_ior hx hb dX3_runOn_49 ?_
            refine lv_topi (fun x_7 ex_7 => ?_)
            refine lv_istore (lv' := [(6, .int x_7), (0, .ref (a 4)), (1, .int p0), (2, .null), (3, .int p1), (4, .int x_1), (5, .int i5)]) hx hb dX3_runOn_50 hl (by decide) rfl (fun ls hl => ?_)
            refine lv_aload_n hx hb dX3_runOn_52 rfl (lv_at hl 1 rfl) ?_
            refine lv_iload hx hb dX3_runOn_53 (lv_at hl 0 rfl) ?_
            refine lv_aload_nN hx hb dX3_runOn_55 rfl (lv_at hl 3 rfl) ?_
            have hFc := tw_free hF hS hA
            refine va_callv (va_runV (As := [.int x_7, .null]) (rest := []) ⟨hx, hb, hml, hown, hts⟩ (c_takeAlltN l dC dI ad av H.size a k τ ln y_L11 g u x_7 hI ) (cwV 2 hts (gi_4 (List.mem_cons_of_mem _ (List.mem_append_left _ (List.mem_of_getElem? (i := 6) rfl))) (List.mem_cons_of_mem _ (List.mem_append_left _ (List.mem_of_getElem? (i := 7) rfl))) (List.mem_cons_of_mem _ (List.mem_append_left _ (List.mem_of_getElem? (i := 8) rfl))) (List.mem_cons_of_mem _ (List.mem_append_left _ (List.mem_of_getElem? (i := 9) rfl))) (fun _ hh => (List.mem_cons_of_mem _ (List.mem_append_right _ (List.mem_append_right _ (List.mem_append_right _ (List.mem_append_left _ hh)))))) gd_c_takeAlltN) rfl rfl rfl (by decide +kernel) ⟨Nat.le_of_ble_eq_true rfl, Nat.le_of_ble_eq_true rfl⟩) ⟨pw_blind, tw_recv hK hT (fx_4 hX) (by decide) cl_e14 rfl, pw_use hT hK hFc hS hM⟩ rfl rfl hl.1 rfl (lv_room (Nat.le_of_ble_eq_true rfl)) dX3_runOn_56 ⟨Nat.le_of_ble_eq_true rfl, Nat.le_of_ble_eq_true rfl⟩) hS (fun q _ h => hFc q h) hFc (fun u0 t H locs ht hvm hw hB hz1 hk1 hS => ?_)
            refine W.widen (k := 0) (n := 0) (Nat.le_of_ble_eq_true rfl) (Nat.le_of_ble_eq_true rfl) ?_
            clear hvm hz1 hk1
            obtain ⟨y_9, hgy_9, hT⟩ := hB
            rw [ht] at hT
            have hG := hG.tr hgy_9 (by decide)
            have hI := hI.ag hgy_9 (by decide)
            refine lv_aload_n hx hb dX3_runOn_59 rfl (lv_at hl 1 rfl) ?_
            refine lv_iload hx hb dX3_runOn_60 (lv_at hl 0 rfl) ?_
            refine lv_iload hx hb dX3_runOn_62 (lv_at hl 5 rfl) ?_
            have hFc := tw_free hF hS hA
            refine va_calli (va_runV (As := [.int x_7, .int x_1]) (rest := []) ⟨hx, hb, hml, hown, hts⟩ (c_changeFromt l dC dI ad av H.size a k τ ln y_9 g u x_7 x_1 hI ) (cwV 2 hts (gi_4 (List.mem_cons_of_mem _ (List.mem_append_left _ (List.mem_of_getElem? (i := 10) rfl))) (List.mem_cons_of_mem _ (List.mem_append_left _ (List.mem_of_getElem? (i := 11) rfl))) (List.mem_cons_of_mem _ (List.mem_append_left _ (List.mem_of_getElem? (i := 12) rfl))) (List.mem_cons_of_mem _ (List.mem_append_left _ (List.mem_of_getElem? (i := 9) rfl))) (fun _ hh => (List.mem_cons_of_mem _ (List.mem_append_right _ (List.mem_append_right _ (List.mem_append_right _ (List.mem_append_right _ (List.mem_append_left _ hh))))))) gd_c_changeFromt) rfl rfl rfl (by decide +kernel) ⟨Nat.le_of_ble_eq_true rfl, Nat.le_of_ble_eq_true rfl⟩) ⟨pw_blind, tw_recv hK hT (fx_4 hX) (by decide) cl_e14 rfl, pw_use hT hK hFc hS hM⟩ rfl rfl hl.1 rfl (lv_room (Nat.le_of_ble_eq_true rfl)) dX3_runOn_64 ⟨Nat.le_of_ble_eq_true rfl, Nat.le_of_ble_eq_true rfl⟩) hS (fun q _ h => hFc q h) hFc (fun r0 r_10 t H locs ht hvm hw hB hz1 hk1 hS => ?_)
            refine W.widen (k := 0) (n := 0) (Nat.le_of_ble_eq_true rfl) (Nat.le_of_ble_eq_true rfl) ?_
            clear hvm hz1 hk1
            subst hw
            have hT := hB
            rw [ht] at hT
            refine lv_aload_n hx hb dX3_runOn_67 rfl (lv_at hl 1 rfl) ?_
            refine tw_get (D := (dC, dI)) (v := .int (y_9 (a 4) 2)) (C := RX3) (T := TX3) (N := 12) hx hb hts (fun _ hh => (List.mem_cons_of_mem _ (List.mem_append_right _ (List.mem_append_left _ hh)))) hown hK hT (fx_4 hX) (by decide) cl_e14 rfl 2 (by decide) (hts (.fieldLink RX3 9 "TypingPool$Floor" "now" "I") (List.mem_cons_of_mem _ (List.mem_append_left _ (List.mem_of_getElem? (i := 0) rfl)))) (fun _ h9 => h9) rfl dX3_runOn_68 ?_
            refine lv_isub hx hb dX3_runOn_71 ?_
            refine lv_topi (fun x_11 ex_11 => ?_)
            refine lv_istore (lv' := [(7, .int x_11), (6, .int x_7), (0, .ref (a 4)), (1, .int p0), (2, .null), (3, .int p1), (4, .int x_1), (5, .int i5)]) hx hb dX3_runOn_72 hl (by decide) rfl (fun ls hl => ?_)
            refine lv_aload_n hx hb dX3_runOn_74 rfl (lv_at hl 2 rfl) ?_
            refine lv_iload hx hb dX3_runOn_75 (lv_at hl 1 rfl) ?_
            refine lv_iload hx hb dX3_runOn_77 (lv_at hl 0 rfl) ?_
            have hFc := tw_free hF hS hA
            refine va_callv (va_runV (As := [.int x_7, .int x_11]) (rest := []) ⟨hx, hb, hml, hown, hts⟩ (c_workAllt l dC dI ad av H.size a k τ ln y_9 g u x_7 x_11 hI ) (cwV 2 hts (gi_4 (List.mem_cons_of_mem _ (List.mem_append_left _ (List.mem_of_getElem? (i := 13) rfl))) (List.mem_cons_of_mem _ (List.mem_append_left _ (List.mem_of_getElem? (i := 14) rfl))) (List.mem_cons_of_mem _ (List.mem_append_left _ (List.mem_of_getElem? (i := 15) rfl))) (List.mem_cons_of_mem _ (List.mem_append_left _ (List.mem_of_getElem? (i := 9) rfl))) (fun _ hh => (List.mem_cons_of_mem _ (List.mem_append_right _ (List.mem_append_right _ (List.mem_append_right _ (List.mem_append_right _ (List.mem_append_right _ (List.mem_append_left _ hh)))))))) gd_c_workAllt) rfl rfl rfl (by decide +kernel) ⟨Nat.le_of_ble_eq_true rfl, Nat.le_of_ble_eq_true rfl⟩) ⟨pw_blind, tw_recv hK hT (fx_4 hX) (by decide) cl_e14 rfl, pw_use hT hK hFc hS hM⟩ rfl rfl hl.1 rfl (lv_room (Nat.le_of_ble_eq_true rfl)) dX3_runOn_79 ⟨Nat.le_of_ble_eq_true rfl, Nat.le_of_ble_eq_true rfl⟩) hS (fun q _ h => hFc q h) hFc (fun u0 t H locs ht hvm hw hB hz1 hk1 hS => ?_)
            refine W.widen (k := 0) (n := 0) (Nat.le_of_ble_eq_true rfl) (Nat.le_of_ble_eq_true rfl) ?_
            clear hvm hz1 hk1
            obtain ⟨y_13, hgy_13, hT⟩ := hB
            rw [ht] at hT
            have hG := hG.tr hgy_13 (by decide)
            have hI := hI.ag hgy_13 (by decide)
            refine lv_aload_n hx hb dX3_runOn_82 rfl (lv_at hl 2 rfl) ?_
            refine lv_dup hx hb dX3_runOn_83 rfl ?_
            refine tw_get (D := (dC, dI)) (v := .int (y_13 (a 4) 2)) (C := RX3) (T := TX3) (N := 12) hx hb hts (fun _ hh => (List.mem_cons_of_mem _ (List.mem_append_right _ (List.mem_append_left _ hh)))) hown hK hT (fx_4 hX) (by decide) cl_e14 rfl 2 (by decide) (hts (.fieldLink RX3 9 "TypingPool$Floor" "now" "I") (List.mem_cons_of_mem _ (List.mem_append_left _ (List.mem_of_getElem? (i := 0) rfl)))) (fun _ h9 => h9) rfl dX3_runOn_84 ?_
            refine lv_iload hx hb dX3_runOn_87 (lv_at hl 0 rfl) ?_
            refine lv_iadd hx hb dX3_runOn_89 ?_
            refine lv_topi (fun x_14 ex_14 => ?_)
            refine tw_put (D := (dC, dI)) (x := x_14) (ty := .int) (C := RX3) (T := TX3) (N := 12) hx hb hts (fun _ hh => (List.mem_cons_of_mem _ (List.mem_append_right _ (List.mem_append_left _ hh)))) tyX3 tyX3_ok nmX3 hown hK hT hF hS (fx_4 hX) (by decide) cl_e14 rfl 2 (by decide) (hts (.fieldLink RX3 9 "TypingPool$Floor" "now" "I") (List.mem_cons_of_mem _ (List.mem_append_left _ (List.mem_of_getElem? (i := 0) rfl)))) (fun _ h9 => h9) rfl (tyX3_ok 2 (by decide)) rfl rfl (Nat.le_of_ble_eq_true rfl) rfl dX3_runOn_90 (fun H locs hT hS => ?_)
            obtain ⟨y_15, hy_15, hT⟩ : ∃ z : Nat → Nat → Int32, z = up2 y_13 (a 4) 2 x_14 ∧ tw (dC, dI) a k τ ln z g H := ⟨_, rfl, hT⟩
            have hG : ag τ [14, 24, 27, 40, 41, 42, 43, 44, 45, 46, 47, 48] y y_15 := by rw [hy_15]; exact hG.up (fx_4 hX) (by decide)
            have hI := hI.ag (S := [14]) (y' := y_15) (by rw [hy_15]; exact ag.one (fx_4 hX)) (by decide)
            obtain ⟨x_16, ex_16⟩ : ∃ y : Int32, y = i5 + Int32.ofInt 1 := ⟨_, rfl⟩
            have hx_16 := z_add ex_16 rfl (zk (x := Int32.ofInt 1) 1 rfl) (by omega) (by omega)
            refine lv_iinc (v := x_16) (lv' := [(5, .int x_16), (7, .int x_11), (6, .int x_7), (0, .ref (a 4)), (1, .int p0), (2, .null), (3, .int p1), (4, .int x_1)]) hx hb dX3_runOn_93 hl (k := 7) rfl ex_16.symm (by decide) rfl (fun ls hl => ?_)
            refine lv_goto (tgt := 11) hx hb dX3_runOn_96 (by decide) ?_
            exact ih_11  x_16 y_15 H _ ls (by omega) hG hI (by omega) hT hS (lv_sub hl [3, 4, 5, 6, 7, 0] rfl)
          · have nc_5 := z_eq rfl (zk (x := (-1)) (-1) rfl) c_5
            refine lv_iconst (v := 0) hx hb dX3_runOn_42 (by decide) ?_
            refine lv_goto (tgt := 49) hx hb dX3_runOn_43 (by decide) ?_
            refine lv_ior hx hb dX3_runOn_49 ?_
            refine lv_topi (fun x_17 ex_17 => ?_)
            refine lv_istore (lv' := [(6, .int x_17), (0, .ref (a 4)), (1, .int p0), (2, .null), (3, .int p1), (4, .int x_1), (5, .int i5)]) hx hb dX3_runOn_50 hl (by decide) rfl (fun ls hl => ?_)
            refine lv_aload_n hx hb dX3_runOn_52 rfl (lv_at hl 1 rfl) ?_
            refine lv_iload hx hb dX3_runOn_53 (lv_at hl 0 rfl) ?_
            refine lv_aload_nN hx hb dX3_runOn_55 rfl (lv_at hl 3 rfl) ?_
            have hFc := tw_free hF hS hA
            refine va_callv (va_runV (As := [.int x_17, .null]) (rest := []) ⟨hx, hb, hml, hown, hts⟩ (c_takeAlltN l dC dI ad av H.size a k τ ln y_L11 g u x_17 hI ) (cwV 2 hts (gi_4 (List.mem_cons_of_mem _ (List.mem_append_left _ (List.mem_of_getElem? (i := 6) rfl))) (List.mem_cons_of_mem _ (List.mem_append_left _ (List.mem_of_getElem? (i := 7) rfl))) (List.mem_cons_of_mem _ (List.mem_append_left _ (List.mem_of_getElem? (i := 8) rfl))) (List.mem_cons_of_mem _ (List.mem_append_left _ (List.mem_of_getElem? (i := 9) rfl))) (fun _ hh => (List.mem_cons_of_mem _ (List.mem_append_right _ (List.mem_append_right _ (List.mem_append_right _ (List.mem_append_left _ hh)))))) gd_c_takeAlltN) rfl rfl rfl (by decide +kernel) ⟨Nat.le_of_ble_eq_true rfl, Nat.le_of_ble_eq_true rfl⟩) ⟨pw_blind, tw_recv hK hT (fx_4 hX) (by decide) cl_e14 rfl, pw_use hT hK hFc hS hM⟩ rfl rfl hl.1 rfl (lv_room (Nat.le_of_ble_eq_true rfl)) dX3_runOn_56 ⟨Nat.le_of_ble_eq_true rfl, Nat.le_of_ble_eq_true rfl⟩) hS (fun q _ h => hFc q h) hFc (fun u0 t H locs ht hvm hw hB hz1 hk1 hS => ?_)
            refine W.widen (k := 0) (n := 0) (Nat.le_of_ble_eq_true rfl) (Nat.le_of_ble_eq_true rfl) ?_
            clear hvm hz1 hk1
            obtain ⟨y_19, hgy_19, hT⟩ := hB
            rw [ht] at hT
            have hG := hG.tr hgy_19 (by decide)
            have hI := hI.ag hgy_19 (by decide)
            refine lv_aload_n hx hb dX3_runOn_59 rfl (lv_at hl 1 rfl) ?_
            refine lv_iload hx hb dX3_runOn_60 (lv_at hl 0 rfl) ?_
            refine lv_iload hx hb dX3_runOn_62 (lv_at hl 5 rfl) ?_
            have hFc := tw_free hF hS hA
            refine va_calli (va_runV (As := [.int x_17, .int x_1]) (rest := []) ⟨hx, hb, hml, hown, hts⟩ (c_changeFromt l dC dI ad av H.size a k τ ln y_19 g u x_17 x_1 hI ) (cwV 2 hts (gi_4 (List.mem_cons_of_mem _ (List.mem_append_left _ (List.mem_of_getElem? (i := 10) rfl))) (List.mem_cons_of_mem _ (List.mem_append_left _ (List.mem_of_getElem? (i := 11) rfl))) (List.mem_cons_of_mem _ (List.mem_append_left _ (List.mem_of_getElem? (i := 12) rfl))) (List.mem_cons_of_mem _ (List.mem_append_left _ (List.mem_of_getElem? (i := 9) rfl))) (fun _ hh => (List.mem_cons_of_mem _ (List.mem_append_right _ (List.mem_append_right _ (List.mem_append_right _ (List.mem_append_right _ (List.mem_append_left _ hh))))))) gd_c_changeFromt) rfl rfl rfl (by decide +kernel) ⟨Nat.le_of_ble_eq_true rfl, Nat.le_of_ble_eq_true rfl⟩) ⟨pw_blind, tw_recv hK hT (fx_4 hX) (by decide) cl_e14 rfl, pw_use hT hK hFc hS hM⟩ rfl rfl hl.1 rfl (lv_room (Nat.le_of_ble_eq_true rfl)) dX3_runOn_64 ⟨Nat.le_of_ble_eq_true rfl, Nat.le_of_ble_eq_true rfl⟩) hS (fun q _ h => hFc q h) hFc (fun r0 r_20 t H locs ht hvm hw hB hz1 hk1 hS => ?_)
            refine W.widen (k := 0) (n := 0) (Nat.le_of_ble_eq_true rfl) (Nat.le_of_ble_eq_true rfl) ?_
            clear hvm hz1 hk1
            subst hw
            have hT := hB
            rw [ht] at hT
            refine lv_aload_n hx hb dX3_runOn_67 rfl (lv_at hl 1 rfl) ?_
            refine tw_get (D := (dC, dI)) (v := .int (y_19 (a 4) 2)) (C := RX3) (T := TX3) (N := 12) hx hb hts (fun _ hh => (List.mem_cons_of_mem _ (List.mem_append_right _ (List.mem_append_left _ hh)))) hown hK hT (fx_4 hX) (by decide) cl_e14 rfl 2 (by decide) (hts (.fieldLink RX3 9 "TypingPool$Floor" "now" "I") (List.mem_cons_of_mem _ (List.mem_append_left _ (List.mem_of_getElem? (i := 0) rfl)))) (fun _ h9 => h9) rfl dX3_runOn_68 ?_
            refine lv_isub hx hb dX3_runOn_71 ?_
            refine lv_topi (fun x_21 ex_21 => ?_)
            refine lv_istore (lv' := [(7, .int x_21), (6, .int x_17), (0, .ref (a 4)), (1, .int p0), (2, .null), (3, .int p1), (4, .int x_1), (5, .int i5)]) hx hb dX3_runOn_72 hl (by decide) rfl (fun ls hl => ?_)
            refine lv_aload_n hx hb dX3_runOn_74 rfl (lv_at hl 2 rfl) ?_
            refine lv_iload hx hb dX3_runOn_75 (lv_at hl 1 rfl) ?_
            refine lv_iload hx hb dX3_runOn_77 (lv_at hl 0 rfl) ?_
            have hFc := tw_free hF hS hA
            refine va_callv (va_runV (As := [.int x_17, .int x_21]) (rest := []) ⟨hx, hb, hml, hown, hts⟩ (c_workAllt l dC dI ad av H.size a k τ ln y_19 g u x_17 x_21 hI ) (cwV 2 hts (gi_4 (List.mem_cons_of_mem _ (List.mem_append_left _ (List.mem_of_getElem? (i := 13) rfl))) (List.mem_cons_of_mem _ (List.mem_append_left _ (List.mem_of_getElem? (i := 14) rfl))) (List.mem_cons_of_mem _ (List.mem_append_left _ (List.mem_of_getElem? (i := 15) rfl))) (List.mem_cons_of_mem _ (List.mem_append_left _ (List.mem_of_getElem? (i := 9) rfl))) (fun _ hh => (List.mem_cons_of_mem _ (List.mem_append_right _ (List.mem_append_right _ (List.mem_append_right _ (List.mem_append_right _ (List.mem_append_right _ (List.mem_append_left _ hh)))))))) gd_c_workAllt) rfl rfl rfl (by decide +kernel) ⟨Nat.le_of_ble_eq_true rfl, Nat.le_of_ble_eq_true rfl⟩) ⟨pw_blind, tw_recv hK hT (fx_4 hX) (by decide) cl_e14 rfl, pw_use hT hK hFc hS hM⟩ rfl rfl hl.1 rfl (lv_room (Nat.le_of_ble_eq_true rfl)) dX3_runOn_79 ⟨Nat.le_of_ble_eq_true rfl, Nat.le_of_ble_eq_true rfl⟩) hS (fun q _ h => hFc q h) hFc (fun u0 t H locs ht hvm hw hB hz1 hk1 hS => ?_)
            refine W.widen (k := 0) (n := 0) (Nat.le_of_ble_eq_true rfl) (Nat.le_of_ble_eq_true rfl) ?_
            clear hvm hz1 hk1
            obtain ⟨y_23, hgy_23, hT⟩ := hB
            rw [ht] at hT
            have hG := hG.tr hgy_23 (by decide)
            have hI := hI.ag hgy_23 (by decide)
            refine lv_aload_n hx hb dX3_runOn_82 rfl (lv_at hl 2 rfl) ?_
            refine lv_dup hx hb dX3_runOn_83 rfl ?_
            refine tw_get (D := (dC, dI)) (v := .int (y_23 (a 4) 2)) (C := RX3) (T := TX3) (N := 12) hx hb hts (fun _ hh => (List.mem_cons_of_mem _ (List.mem_append_right _ (List.mem_append_left _ hh)))) hown hK hT (fx_4 hX) (by decide) cl_e14 rfl 2 (by decide) (hts (.fieldLink RX3 9 "TypingPool$Floor" "now" "I") (List.mem_cons_of_mem _ (List.mem_append_left _ (List.mem_of_getElem? (i := 0) rfl)))) (fun _ h9 => h9) rfl dX3_runOn_84 ?_
            refine lv_iload hx hb dX3_runOn_87 (lv_at hl 0 rfl) ?_
            refine lv_iadd hx hb dX3_runOn_89 ?_
            refine lv_topi (fun x_24 ex_24 => ?_)
            refine tw_put (D := (dC, dI)) (x := x_24) (ty := .int) (C := RX3) (T := TX3) (N := 12) hx hb hts (fun _ hh => (List.mem_cons_of_mem _ (List.mem_append_right _ (List.mem_append_left _ hh)))) tyX3 tyX3_ok nmX3 hown hK hT hF hS (fx_4 hX) (by decide) cl_e14 rfl 2 (by decide) (hts (.fieldLink RX3 9 "TypingPool$Floor" "now" "I") (List.mem_cons_of_mem _ (List.mem_append_left _ (List.mem_of_getElem? (i := 0) rfl)))) (fun _ h9 => h9) rfl (tyX3_ok 2 (by decide)) rfl rfl (Nat.le_of_ble_eq_true rfl) rfl dX3_runOn_90 (fun H locs hT hS => ?_)
            obtain ⟨y_25, hy_25, hT⟩ : ∃ z : Nat → Nat → Int32, z = up2 y_23 (a 4) 2 x_24 ∧ tw (dC, dI) a k τ ln z g H := ⟨_, rfl, hT⟩
            have hG : ag τ [14, 24, 27, 40, 41, 42, 43, 44, 45, 46, 47, 48] y y_25 := by rw [hy_25]; exact hG.up (fx_4 hX) (by decide)
            have hI := hI.ag (S := [14]) (y' := y_25) (by rw [hy_25]; exact ag.one (fx_4 hX)) (by decide)
            obtain ⟨x_26, ex_26⟩ : ∃ y : Int32, y = i5 + Int32.ofInt 1 := ⟨_, rfl⟩
            have hx_26 := z_add ex_26 rfl (zk (x := Int32.ofInt 1) 1 rfl) (by omega) (by omega)
            refine lv_iinc (v := x_26) (lv' := [(5, .int x_26), (7, .int x_21), (6, .int x_17), (0, .ref (a 4)), (1, .int p0), (2, .null), (3, .int p1), (4, .int x_1)]) hx hb dX3_runOn_93 hl (k := 7) rfl ex_26.symm (by decide) rfl (fun ls hl => ?_)
            refine lv_goto (tgt := 11) hx hb dX3_runOn_96 (by decide) ?_
            exact ih_11  x_26 y_25 H _ ls (by omega) hG hI (by omega) hT hS (lv_sub hl [3, 4, 5, 6, 7, 0] rfl)
  have hp_27 : (0 : Int32).toInt = 0 := (zk (x := 0) 0 rfl)
  exact loop_11 _ (0 : Int32) y s.heap _ ls (Nat.lt_succ_self _) hG hI (by omega) hT hS (lv_sub hl [2, 3, 4, 5, 1, 0] rfl)
def wo_c_mayDotR : List Cond := [.fieldLink RX3 43 "TypingPool$Floor" "book" "LTypingPool$Book;", .fieldLink RX3 112 "TypingPool$Book" "hands" "[LTypingPool$Hand;", .fieldLink RX3 103 "TypingPool$Book" "pieces" "[LTypingPool$Piece;", .fieldLink RX3 149 "TypingPool$Hand" "styles" "I", .fieldLink RX3 152 "TypingPool$Piece" "style" "I", .fieldLink RX3 47 "TypingPool$Floor" "rules" "LTypingPool$Rules;", .fieldLink RX3 155 "TypingPool$Rules" "letters" "[I", .fieldLink RX3 160 "TypingPool$Piece" "secret" "I", .fieldLink RX3 163 "TypingPool$Hand" "leave" "I", .fieldLink RX3 166 "TypingPool$Piece" "department" "I", .methodLink RX3 169 yX3_today, .instanceMethod yX3_today, .selects RX3 yX3_today yX3_today, .initialized RX3, .methodLink RX3 173 yX10_holding, .instanceMethod yX10_holding, .selects RX10 yX10_holding yX10_holding, .initialized RX10, .methodLink RX3 177 yX10_give, .instanceMethod yX10_give, .selects RX10 yX10_give yX10_give]
def wm_c_mayDotR : List Cond := .code yX3_mayDo cX3_mayDo 7 (some .boolean) :: (wo_c_mayDotR ++ (wsX30 ++ (wsX10 ++ (wsX40 ++ (wsX60 ++ (wsX100 ++ (wm_c_todayt ++ (wm_c_holdingR ++ (wm_c_give ++ ([] : List Cond))))))))))
theorem gd_c_mayDotR : ∀ w ∈ wm_c_mayDotR, goodWord w = true := gd_c rfl (gd_a (by decide) (gd_a gd_wsX30 (gd_a gd_wsX10 (gd_a gd_wsX40 (gd_a gd_wsX60 (gd_a gd_wsX100 (gd_a gd_c_todayt (gd_a gd_c_holdingR (gd_a gd_c_give gd_nil)))))))))
set_option maxRecDepth 20000 in
theorem im_c_mayDotR : ∀ w ∈ wm_c_mayDotR, w ∈ lw_tbl := im_c (in_r [.code yX3_mayDo cX3_mayDo 7 (some .boolean)] [774] (by decide +kernel)) (in_app (in_r wo_c_mayDotR [426, 122, 130, 611, 669, 427, 403, 676, 613, 667, 775, 776, 777, 83, 779, 780, 781, 72, 783, 784, 785] (by decide +kernel)) (in_app im_wsX30 (in_app im_wsX10 (in_app im_wsX40 (in_app im_wsX60 (in_app im_wsX100 (in_app im_c_todayt (in_app im_c_holdingR (in_app im_c_give im_nil)))))))))
set_option maxHeartbeats 4000000 in
set_option maxRecDepth 100000 in
theorem c_mayDotR (l : Launch) (dC : Nat → ClassId) (dI : Nat → Nat → Nat) (ad av : Nat → Nat) (sz : Nat) (a : Nat → Nat) (k : Nat → ClassId) (τ ln : Nat → Nat) (y : Nat → Nat → Int32) (g : Nat → Nat → Option Nat) (u : Nat → Int) (p0 : Int32) (p1 : Int32) (b0 : Nat) (hI : IC a u τ ln y g) (h_b0 : τ b0 = 5) (hlp0 : 0 ≤ p0.toInt) (hup0 : p0.toInt < u 1) (hlp1 : 0 ≤ p1.toInt) (hup1 : p1.toInt < u 2) : Met l yX3_mayDo wm_c_mayDotR ({ frames := 3, cells := 0, slots := 0, locals := 180 }) (pw_ ad av (dC, dI) sz [.ref (a 4), .int p0, .int p1, .ref b0] a k τ ln y g) (va_Qi (fun (r u : Int32) => u = r) (fun (r : Int32) (t : State) => (∃ (y' : Nat → Nat → Int32), r = 1 ∧ ag τ [24, 27] y y' ∧ tw (dC, dI) a k τ ln y' g t.heap) ∨ (∃ (y' : Nat → Nat → Int32), r = 0 ∧ ag τ [24, 27] y y' ∧ tw (dC, dI) a k τ ln y' g t.heap)) (fr τ sz)) 0 0 (fr τ sz) := by
  refine Met.ofW (cc := cX3_mayDo) (maxL := 7) (ret := (some .boolean)) (by decide) rfl ?_
  intro p e s m args below meth c s₁ B hml hv
  obtain ⟨rfl, hsz, hT, hK, hM⟩ := hv
  have hx := B.exec
  have hb := B.bytes
  have hr := B.returns
  have hts := atoms_spec (ws := wm_c_mayDotR) B.pre
  have hown : s.vm.findClass RX3 = some m.cls := findClass_of_methodNamed B.named
  have hlocks := B.notSynchronized
  subst hsz
  generalize hAe : fr τ s.heap.size = A at hM ⊢
  have hA : ∀ q : Nat, s.heap.size ≤ q → A q := fun q h => by rw [← hAe]; exact Or.inr h
  have hF : ∀ q, τ q ≠ 0 → A q := fun q h => by rw [← hAe]; exact Or.inl h
  have hS : va_S A s.heap s.heap [] := va_S.rf
  have hX := hI.1
  have hR := ic_r hI
  have hG : ag τ [24, 27] y y := ag.rf
  have hl := lv_entry ([.ref (a 4), .int p0, .int p1, .ref b0]) (n := 7) (Nat.le_of_ble_eq_true rfl)
  rw [lg_entry_eq]
  generalize (lg_sl ([.ref (a 4), .int p0, .int p1, .ref b0]) ++ List.replicate (7 - (lg_sl ([.ref (a 4), .int p0, .int p1, .ref b0])).length) Slot.unset).toArray = ls at hl ⊢
  have hl : lv_has ls 7 [(0, .ref (a 4)), (1, .int p0), (2, .int p1), (3, .ref b0)] := hl
  refine lv_aload_n hx hb dX3_mayDo_0 rfl (lv_at hl 0 rfl) ?_
  refine tw_get (D := (dC, dI)) (v := .ref (a 1)) (C := RX3) (T := TX3) (N := 12) hx hb hts (fun _ hh => (List.mem_cons_of_mem _ (List.mem_append_right _ (List.mem_append_left _ hh)))) hown hK hT (fx_4 hX) (by decide) cl_e14 rfl 0 (by decide) (hts (.fieldLink RX3 43 "TypingPool$Floor" "book" "LTypingPool$Book;") (List.mem_cons_of_mem _ (List.mem_append_left _ (List.mem_of_getElem? (i := 0) rfl)))) (fun _ h9 => h9) rfl dX3_mayDo_1 ?_
  refine tw_get (D := (dC, dI)) (v := .ref (a 10)) (C := RX1) (T := TX1) (N := 8) hx hb hts (fun _ hh => (List.mem_cons_of_mem _ (List.mem_append_right _ (List.mem_append_right _ (List.mem_append_left _ hh))))) hown hK hT (fx_1 hX) (by decide) cl_e11 rfl 2 (by decide) (hts (.fieldLink RX3 112 "TypingPool$Book" "hands" "[LTypingPool$Hand;") (List.mem_cons_of_mem _ (List.mem_append_left _ (List.mem_of_getElem? (i := 1) rfl)))) (fun _ h9 => h9) rfl dX3_mayDo_4 ?_
  refine lv_iload_n hx hb dX3_mayDo_7 rfl (lv_at hl 1 rfl) ?_
  refine tw_aald hx hb hK hT 3 (fx_10 hX) (by decide) cl_e20 rfl (z_in rfl (by omega) (by omega)) dX3_mayDo_8 ?_
  obtain ⟨q_1, hgq_1, htq_1⟩ := ic_l10 hI (x := p0) rfl (by omega) (by omega)
  refine lq_topr hgq_1 ?_
  refine lv_astore (lv' := [(4, .ref q_1), (0, .ref (a 4)), (1, .int p0), (2, .int p1), (3, .ref b0)]) hx hb dX3_mayDo_9 hl (by decide) rfl (fun ls hl => ?_)
  refine lv_aload_n hx hb dX3_mayDo_11 rfl (lv_at hl 1 rfl) ?_
  refine tw_get (D := (dC, dI)) (v := .ref (a 1)) (C := RX3) (T := TX3) (N := 12) hx hb hts (fun _ hh => (List.mem_cons_of_mem _ (List.mem_append_right _ (List.mem_append_left _ hh)))) hown hK hT (fx_4 hX) (by decide) cl_e14 rfl 0 (by decide) (hts (.fieldLink RX3 43 "TypingPool$Floor" "book" "LTypingPool$Book;") (List.mem_cons_of_mem _ (List.mem_append_left _ (List.mem_of_getElem? (i := 0) rfl)))) (fun _ h9 => h9) rfl dX3_mayDo_12 ?_
  refine tw_get (D := (dC, dI)) (v := .ref (a 11)) (C := RX1) (T := TX1) (N := 8) hx hb hts (fun _ hh => (List.mem_cons_of_mem _ (List.mem_append_right _ (List.mem_append_right _ (List.mem_append_left _ hh))))) hown hK hT (fx_1 hX) (by decide) cl_e11 rfl 4 (by decide) (hts (.fieldLink RX3 103 "TypingPool$Book" "pieces" "[LTypingPool$Piece;") (List.mem_cons_of_mem _ (List.mem_append_left _ (List.mem_of_getElem? (i := 2) rfl)))) (fun _ h9 => h9) rfl dX3_mayDo_15 ?_
  refine lv_iload_n hx hb dX3_mayDo_18 rfl (lv_at hl 3 rfl) ?_
  refine tw_aald hx hb hK hT 4 (fx_11 hX) (by decide) cl_e21 rfl (z_in rfl (by omega) (by omega)) dX3_mayDo_19 ?_
  obtain ⟨q_2, hgq_2, htq_2⟩ := ic_l11 hI (x := p1) rfl (by omega) (by omega)
  refine lq_topr hgq_2 ?_
  refine lv_astore (lv' := [(5, .ref q_2), (4, .ref q_1), (0, .ref (a 4)), (1, .int p0), (2, .int p1), (3, .ref b0)]) hx hb dX3_mayDo_20 hl (by decide) rfl (fun ls hl => ?_)
  refine lv_aload hx hb dX3_mayDo_22 (lv_at hl 1 rfl) ?_
  refine tw_get (D := (dC, dI)) (v := .int (y q_1 1)) (C := RX4) (T := TX4) (N := 3) hx hb hts (fun _ hh => (List.mem_cons_of_mem _ (List.mem_append_right _ (List.mem_append_right _ (List.mem_append_right _ (List.mem_append_left _ hh)))))) hown hK hT htq_1 (by decide) cl_e1 rfl 1 (by decide) (hts (.fieldLink RX3 149 "TypingPool$Hand" "styles" "I") (List.mem_cons_of_mem _ (List.mem_append_left _ (List.mem_of_getElem? (i := 3) rfl)))) (fun _ h9 => h9) rfl dX3_mayDo_24 ?_
  refine lv_aload hx hb dX3_mayDo_27 (lv_at hl 0 rfl) ?_
  refine tw_get (D := (dC, dI)) (v := .int (y q_2 1)) (C := RX6) (T := TX6) (N := 11) hx hb hts (fun _ hh => (List.mem_cons_of_mem _ (List.mem_append_right _ (List.mem_append_right _ (List.mem_append_right _ (List.mem_append_right _ (List.mem_append_left _ hh))))))) hown hK hT htq_2 (by decide) cl_e2 rfl 1 (by decide) (hts (.fieldLink RX3 152 "TypingPool$Piece" "style" "I") (List.mem_cons_of_mem _ (List.mem_append_left _ (List.mem_of_getElem? (i := 4) rfl)))) (fun _ h9 => h9) rfl dX3_mayDo_29 ?_
  refine lv_ishr hx hb dX3_mayDo_32 ?_
  refine lv_topi (fun x_3 ex_3 => ?_)
  refine lv_iconst (v := 1) hx hb dX3_mayDo_33 (by decide) ?_
  refine lv_iand hx hb dX3_mayDo_34 ?_
  refine lv_topi (fun x_4 ex_4 => ?_)
  have hx_4 := z_and (x := x_3) (zk (x := 1) 1 rfl) (by omega)
  rw [← ex_4] at hx_4
  refine lv_if_ne (tgt := 40) hx hb dX3_mayDo_35 (by decide) (fun c_5 => ?_) (fun c_5 => ?_)
  · have nc_5 := z_ne rfl (zk (x := 0) 0 rfl) c_5
    refine lv_aload_n hx hb dX3_mayDo_40 rfl (lv_at hl 2 rfl) ?_
    refine tw_get (D := (dC, dI)) (v := .ref (a 2)) (C := RX3) (T := TX3) (N := 12) hx hb hts (fun _ hh => (List.mem_cons_of_mem _ (List.mem_append_right _ (List.mem_append_left _ hh)))) hown hK hT (fx_4 hX) (by decide) cl_e14 rfl 1 (by decide) (hts (.fieldLink RX3 47 "TypingPool$Floor" "rules" "LTypingPool$Rules;") (List.mem_cons_of_mem _ (List.mem_append_left _ (List.mem_of_getElem? (i := 5) rfl)))) (fun _ h9 => h9) rfl dX3_mayDo_41 ?_
    refine tw_get (D := (dC, dI)) (v := .ref (a 14)) (C := RX10) (T := TX10) (N := 6) hx hb hts (fun _ hh => (List.mem_cons_of_mem _ (List.mem_append_right _ (List.mem_append_right _ (List.mem_append_right _ (List.mem_append_right _ (List.mem_append_right _ (List.mem_append_left _ hh)))))))) hown hK hT (fx_2 hX) (by decide) cl_e12 rfl 2 (by decide) (hts (.fieldLink RX3 155 "TypingPool$Rules" "letters" "[I") (List.mem_cons_of_mem _ (List.mem_append_left _ (List.mem_of_getElem? (i := 6) rfl)))) (fun _ h9 => h9) rfl dX3_mayDo_44 ?_
    refine lv_astore (lv' := [(6, .ref (a 14)), (5, .ref q_2), (4, .ref q_1), (0, .ref (a 4)), (1, .int p0), (2, .int p1), (3, .ref b0)]) hx hb dX3_mayDo_47 hl (by decide) rfl (fun ls hl => ?_)
    refine lv_aload hx hb dX3_mayDo_49 (lv_at hl 0 rfl) ?_
    refine lv_iconst (v := 0) hx hb dX3_mayDo_51 (by decide) ?_
    refine lv_aload hx hb dX3_mayDo_52 (lv_at hl 1 rfl) ?_
    refine tw_get (D := (dC, dI)) (v := .int (y q_2 3)) (C := RX6) (T := TX6) (N := 11) hx hb hts (fun _ hh => (List.mem_cons_of_mem _ (List.mem_append_right _ (List.mem_append_right _ (List.mem_append_right _ (List.mem_append_right _ (List.mem_append_left _ hh))))))) hown hK hT htq_2 (by decide) cl_e2 rfl 3 (by decide) (hts (.fieldLink RX3 160 "TypingPool$Piece" "secret" "I") (List.mem_cons_of_mem _ (List.mem_append_left _ (List.mem_of_getElem? (i := 7) rfl)))) (fun _ h9 => h9) rfl dX3_mayDo_54 ?_
    refine tw_iast hx hb hK hT hF hS 0 (fx_14 hX) (by decide) (fun _ => cl_e24) rfl (z_in (zk (x := 0) 0 rfl) (by omega) (by omega)) dX3_mayDo_57 (fun H locs hT hS => ?_)
    obtain ⟨y_6, hy_6, hT⟩ : ∃ z : Nat → Nat → Int32, z = up2 y (a 14) ((0 : Int32).toNatClampNeg) (y q_2 3) ∧ tw (dC, dI) a k τ ln z g H := ⟨_, rfl, hT⟩
    have hG : ag τ [24, 27] y y_6 := by rw [hy_6]; exact hG.up (fx_14 hX) (by decide)
    have hI := hI.ag (S := [24]) (y' := y_6) (by rw [hy_6]; exact ag.one (fx_14 hX)) (by decide)
    refine lv_aload hx hb dX3_mayDo_58 (lv_at hl 0 rfl) ?_
    refine lv_iconst (v := 1) hx hb dX3_mayDo_60 (by decide) ?_
    refine lv_aload hx hb dX3_mayDo_61 (lv_at hl 2 rfl) ?_
    refine tw_get (D := (dC, dI)) (v := .int (y_6 q_1 2)) (C := RX4) (T := TX4) (N := 3) hx hb hts (fun _ hh => (List.mem_cons_of_mem _ (List.mem_append_right _ (List.mem_append_right _ (List.mem_append_right _ (List.mem_append_left _ hh)))))) hown hK hT htq_1 (by decide) cl_e1 rfl 2 (by decide) (hts (.fieldLink RX3 163 "TypingPool$Hand" "leave" "I") (List.mem_cons_of_mem _ (List.mem_append_left _ (List.mem_of_getElem? (i := 8) rfl)))) (fun _ h9 => h9) rfl dX3_mayDo_63 ?_
    refine tw_iast hx hb hK hT hF hS 0 (fx_14 hX) (by decide) (fun _ => cl_e24) rfl (z_in (zk (x := 1) 1 rfl) (by omega) (by omega)) dX3_mayDo_66 (fun H locs hT hS => ?_)
    obtain ⟨y_7, hy_7, hT⟩ : ∃ z : Nat → Nat → Int32, z = up2 y_6 (a 14) ((1 : Int32).toNatClampNeg) (y_6 q_1 2) ∧ tw (dC, dI) a k τ ln z g H := ⟨_, rfl, hT⟩
    have hG : ag τ [24, 27] y y_7 := by rw [hy_7]; exact hG.up (fx_14 hX) (by decide)
    have hI := hI.ag (S := [24]) (y' := y_7) (by rw [hy_7]; exact ag.one (fx_14 hX)) (by decide)
    refine lv_aload hx hb dX3_mayDo_67 (lv_at hl 0 rfl) ?_
    refine lv_iconst (v := 2) hx hb dX3_mayDo_69 (by decide) ?_
    refine lv_aload hx hb dX3_mayDo_70 (lv_at hl 1 rfl) ?_
    refine tw_get (D := (dC, dI)) (v := .int (y_7 q_2 0)) (C := RX6) (T := TX6) (N := 11) hx hb hts (fun _ hh => (List.mem_cons_of_mem _ (List.mem_append_right _ (List.mem_append_right _ (List.mem_append_right _ (List.mem_append_right _ (List.mem_append_left _ hh))))))) hown hK hT htq_2 (by decide) cl_e2 rfl 0 (by decide) (hts (.fieldLink RX3 166 "TypingPool$Piece" "department" "I") (List.mem_cons_of_mem _ (List.mem_append_left _ (List.mem_of_getElem? (i := 9) rfl)))) (fun _ h9 => h9) rfl dX3_mayDo_72 ?_
    refine tw_iast hx hb hK hT hF hS 0 (fx_14 hX) (by decide) (fun _ => cl_e24) rfl (z_in (zk (x := 2) 2 rfl) (by omega) (by omega)) dX3_mayDo_75 (fun H locs hT hS => ?_)
    obtain ⟨y_8, hy_8, hT⟩ : ∃ z : Nat → Nat → Int32, z = up2 y_7 (a 14) ((2 : Int32).toNatClampNeg) (y_7 q_2 0) ∧ tw (dC, dI) a k τ ln z g H := ⟨_, rfl, hT⟩
    have hG : ag τ [24, 27] y y_8 := by rw [hy_8]; exact hG.up (fx_14 hX) (by decide)
    have hI := hI.ag (S := [24]) (y' := y_8) (by rw [hy_8]; exact ag.one (fx_14 hX)) (by decide)
    refine lv_aload hx hb dX3_mayDo_76 (lv_at hl 0 rfl) ?_
    refine lv_iconst (v := 3) hx hb dX3_mayDo_78 (by decide) ?_
    refine lv_iload_n hx hb dX3_mayDo_79 rfl (lv_at hl 4 rfl) ?_
    refine tw_iast hx hb hK hT hF hS 0 (fx_14 hX) (by decide) (fun _ => cl_e24) rfl (z_in (zk (x := 3) 3 rfl) (by omega) (by omega)) dX3_mayDo_80 (fun H locs hT hS => ?_)
    obtain ⟨y_9, hy_9, hT⟩ : ∃ z : Nat → Nat → Int32, z = up2 y_8 (a 14) ((3 : Int32).toNatClampNeg) p0 ∧ tw (dC, dI) a k τ ln z g H := ⟨_, rfl, hT⟩
    have hG : ag τ [24, 27] y y_9 := by rw [hy_9]; exact hG.up (fx_14 hX) (by decide)
    have hI := hI.ag (S := [24]) (y' := y_9) (by rw [hy_9]; exact ag.one (fx_14 hX)) (by decide)
    refine lv_aload_n hx hb dX3_mayDo_81 rfl (lv_at hl 3 rfl) ?_
    refine tw_get (D := (dC, dI)) (v := .ref (a 2)) (C := RX3) (T := TX3) (N := 12) hx hb hts (fun _ hh => (List.mem_cons_of_mem _ (List.mem_append_right _ (List.mem_append_left _ hh)))) hown hK hT (fx_4 hX) (by decide) cl_e14 rfl 1 (by decide) (hts (.fieldLink RX3 47 "TypingPool$Floor" "rules" "LTypingPool$Rules;") (List.mem_cons_of_mem _ (List.mem_append_left _ (List.mem_of_getElem? (i := 5) rfl)))) (fun _ h9 => h9) rfl dX3_mayDo_82 ?_
    refine lv_aload_n hx hb dX3_mayDo_85 rfl (lv_at hl 3 rfl) ?_
    refine tw_get (D := (dC, dI)) (v := .ref (a 2)) (C := RX3) (T := TX3) (N := 12) hx hb hts (fun _ hh => (List.mem_cons_of_mem _ (List.mem_append_right _ (List.mem_append_left _ hh)))) hown hK hT (fx_4 hX) (by decide) cl_e14 rfl 1 (by decide) (hts (.fieldLink RX3 47 "TypingPool$Floor" "rules" "LTypingPool$Rules;") (List.mem_cons_of_mem _ (List.mem_append_left _ (List.mem_of_getElem? (i := 5) rfl)))) (fun _ h9 => h9) rfl dX3_mayDo_86 ?_
    refine lv_iconst (v := 1) hx hb dX3_mayDo_89 (by decide) ?_
    refine lv_aload_n hx hb dX3_mayDo_90 rfl (lv_at hl 3 rfl) ?_
    have hFc := tw_free hF hS hA
    refine va_calli (va_runV (As := []) (rest := [.int 1, .ref (a 2), .ref (a 2)]) ⟨hx, hb, hml, hown, hts⟩ (c_todayt l dC dI ad av H.size a k τ ln y_9 g u  hI ) (cwV 0 hts (gi_4 (List.mem_cons_of_mem _ (List.mem_append_left _ (List.mem_of_getElem? (i := 10) rfl))) (List.mem_cons_of_mem _ (List.mem_append_left _ (List.mem_of_getElem? (i := 11) rfl))) (List.mem_cons_of_mem _ (List.mem_append_left _ (List.mem_of_getElem? (i := 12) rfl))) (List.mem_cons_of_mem _ (List.mem_append_left _ (List.mem_of_getElem? (i := 13) rfl))) (fun _ hh => (List.mem_cons_of_mem _ (List.mem_append_right _ (List.mem_append_right _ (List.mem_append_right _ (List.mem_append_right _ (List.mem_append_right _ (List.mem_append_right _ (List.mem_append_left _ hh))))))))) gd_c_todayt) rfl rfl rfl (by decide +kernel) ⟨Nat.le_of_ble_eq_true rfl, Nat.le_of_ble_eq_true rfl⟩) ⟨pw_blind, tw_recv hK hT (fx_4 hX) (by decide) cl_e14 rfl, pw_use hT hK hFc hS hM⟩ rfl rfl hl.1 rfl (lv_room (Nat.le_of_ble_eq_true rfl)) dX3_mayDo_91 ⟨Nat.le_of_ble_eq_true rfl, Nat.le_of_ble_eq_true rfl⟩) hS (fun q _ h => hFc q h) hFc (fun r0 r_10 t H locs ht hvm hw hB hz1 hk1 hS => ?_)
    refine W.widen (k := 0) (n := 0) (Nat.le_of_ble_eq_true rfl) (Nat.le_of_ble_eq_true rfl) ?_
    clear hvm hz1 hk1
    subst hw
    have hT := hB
    rw [ht] at hT
    refine lv_aload_n hx hb dX3_mayDo_94 rfl (lv_at hl 6 rfl) ?_
    have hFc := tw_free hF hS hA
    have hp_11 : (1 : Int32).toInt = 1 := (zk (x := 1) 1 rfl)
    refine va_callr (va_runV (As := [.int 1, .int r_10, .ref b0]) (rest := [.ref (a 2)]) ⟨hx, hb, hml, hown, hts⟩ (c_holdingR l dC dI ad av H.size a k τ ln y_9 g u (1 : Int32) r_10 b0 hI h_b0 (by decide) (by decide)) (cwV 3 hts (gi_4 (List.mem_cons_of_mem _ (List.mem_append_left _ (List.mem_of_getElem? (i := 14) rfl))) (List.mem_cons_of_mem _ (List.mem_append_left _ (List.mem_of_getElem? (i := 15) rfl))) (List.mem_cons_of_mem _ (List.mem_append_left _ (List.mem_of_getElem? (i := 16) rfl))) (List.mem_cons_of_mem _ (List.mem_append_left _ (List.mem_of_getElem? (i := 17) rfl))) (fun _ hh => (List.mem_cons_of_mem _ (List.mem_append_right _ (List.mem_append_right _ (List.mem_append_right _ (List.mem_append_right _ (List.mem_append_right _ (List.mem_append_right _ (List.mem_append_right _ (List.mem_append_left _ hh)))))))))) gd_c_holdingR) rfl rfl rfl (by decide +kernel) ⟨Nat.le_of_ble_eq_true rfl, Nat.le_of_ble_eq_true rfl⟩) ⟨pw_blind, tw_recv hK hT (fx_2 hX) (by decide) cl_e12 rfl, pw_use hT hK hFc hS hM⟩ rfl rfl hl.1 rfl (lv_room (Nat.le_of_ble_eq_true rfl)) dX3_mayDo_95 ⟨Nat.le_of_ble_eq_true rfl, Nat.le_of_ble_eq_true rfl⟩) hS (fun q _ h => hFc q h) hFc (fun u0 r_12 t H locs ht hvm hw hB hz1 hk1 hS => ?_)
    refine W.widen (k := 0) (n := 0) (Nat.le_of_ble_eq_true rfl) (Nat.le_of_ble_eq_true rfl) ?_
    clear hvm hz1 hk1
    obtain ⟨htr_12, hT⟩ := hB
    rw [ht] at hT
    clear hp_11
    have hFc := tw_free hF hS hA
    refine va_calli (va_runV (As := [.ref r_12]) (rest := []) ⟨hx, hb, hml, hown, hts⟩ (c_give l dC dI ad av H.size a k τ ln y_9 g u r_12 hI htr_12) (cwV 1 hts (gi_4 (List.mem_cons_of_mem _ (List.mem_append_left _ (List.mem_of_getElem? (i := 18) rfl))) (List.mem_cons_of_mem _ (List.mem_append_left _ (List.mem_of_getElem? (i := 19) rfl))) (List.mem_cons_of_mem _ (List.mem_append_left _ (List.mem_of_getElem? (i := 20) rfl))) (List.mem_cons_of_mem _ (List.mem_append_left _ (List.mem_of_getElem? (i := 17) rfl))) (fun _ hh => (List.mem_cons_of_mem _ (List.mem_append_right _ (List.mem_append_right _ (List.mem_append_right _ (List.mem_append_right _ (List.mem_append_right _ (List.mem_append_right _ (List.mem_append_right _ (List.mem_append_right _ (List.mem_append_left _ hh))))))))))) gd_c_give) rfl rfl rfl (by decide +kernel) ⟨Nat.le_of_ble_eq_true rfl, Nat.le_of_ble_eq_true rfl⟩) ⟨pw_blind, tw_recv hK hT (fx_2 hX) (by decide) cl_e12 rfl, pw_use hT hK hFc hS hM⟩ rfl rfl hl.1 rfl (lv_room (Nat.le_of_ble_eq_true rfl)) dX3_mayDo_98 ⟨Nat.le_of_ble_eq_true rfl, Nat.le_of_ble_eq_true rfl⟩) hS (fun q _ h => hFc q h) hFc (fun r0 r_13 t H locs ht hvm hw hB hz1 hk1 hS => ?_)
    refine W.widen (k := 0) (n := 0) (Nat.le_of_ble_eq_true rfl) (Nat.le_of_ble_eq_true rfl) ?_
    clear hvm hz1 hk1
    subst hw
    obtain ⟨y_14, hgy_14, hT⟩ := hB
    rw [ht] at hT
    have hG := hG.tr hgy_14 (by decide)
    have hI := hI.ag hgy_14 (by decide)
    refine lv_if_eq (tgt := 108) hx hb dX3_mayDo_101 (by decide) (fun c_15 => ?_) (fun c_15 => ?_)
    · have nc_15 := z_eq rfl (zk (x := 0) 0 rfl) c_15
      refine lv_iconst (v := 0) hx hb dX3_mayDo_108 (by decide) ?_
      exact W.zret (v := 0) hx hb hr (by decide) (fun t ht hW9 => ⟨⟨0, 0, rfl, rfl, Or.inr (⟨y_14, rfl, hG, tw_at ht hT⟩)⟩, hS.F ht⟩) hS.2.2 dX3_mayDo_109
    · have nc_15 := z_ne rfl (zk (x := 0) 0 rfl) c_15
      refine lv_iconst (v := 1) hx hb dX3_mayDo_104 (by decide) ?_
      refine lv_goto (tgt := 109) hx hb dX3_mayDo_105 (by decide) ?_
      exact W.zret (v := 1) hx hb hr (by decide) (fun t ht hW9 => ⟨⟨1, 1, rfl, rfl, Or.inl ⟨y_14, rfl, hG, tw_at ht hT⟩⟩, hS.F ht⟩) hS.2.2 dX3_mayDo_109
  · have nc_5 := z_eq rfl (zk (x := 0) 0 rfl) c_5
    refine lv_iconst (v := 0) hx hb dX3_mayDo_38 (by decide) ?_
    exact W.zret (v := 0) hx hb hr (by decide) (fun t ht hW9 => ⟨⟨0, 0, rfl, rfl, Or.inr (⟨y, rfl, hG, tw_at ht hT⟩)⟩, hS.F ht⟩) hS.2.2 dX3_mayDo_39
def wo_c_hastetR : List Cond := [.fieldLink RX3 43 "TypingPool$Floor" "book" "LTypingPool$Book;", .fieldLink RX3 103 "TypingPool$Book" "pieces" "[LTypingPool$Piece;", .fieldLink RX3 47 "TypingPool$Floor" "rules" "LTypingPool$Rules;", .fieldLink RX3 155 "TypingPool$Rules" "letters" "[I", .fieldLink RX3 181 "TypingPool$Piece" "claim" "I", .fieldLink RX3 9 "TypingPool$Floor" "now" "I", .fieldLink RX3 184 "TypingPool$Piece" "comes" "I", .fieldLink RX3 187 "TypingPool$Piece" "lines" "I", .fieldLink RX3 190 "TypingPool$Piece" "due" "I", .fieldLink RX3 160 "TypingPool$Piece" "secret" "I", .fieldLink RX3 166 "TypingPool$Piece" "department" "I", .fieldLink RX3 22 "TypingPool$Floor" "words" "[I", .methodLink RX3 107 yX6_unknownTo, .instanceMethod yX6_unknownTo, .selects RX6 yX6_unknownTo yX6_unknownTo, .initialized RX6, .methodLink RX3 193 yX3_waitingIn, .instanceMethod yX3_waitingIn, .selects RX3 yX3_waitingIn yX3_waitingIn, .initialized RX3, .methodLink RX3 169 yX3_today, .instanceMethod yX3_today, .selects RX3 yX3_today yX3_today, .methodLink RX3 173 yX10_holding, .instanceMethod yX10_holding, .selects RX10 yX10_holding yX10_holding, .initialized RX10, .methodLink RX3 177 yX10_give, .instanceMethod yX10_give, .selects RX10 yX10_give yX10_give]
def wm_c_hastetR : List Cond := .code yX3_haste cX3_haste 6 (some .int) :: (wo_c_hastetR ++ (wsX30 ++ (wsX10 ++ (wsX100 ++ (wsX60 ++ (wm_c_unknownTo ++ (wm_c_waitingInt ++ (wm_c_todayt ++ (wm_c_holdingR ++ (wm_c_give ++ ([] : List Cond)))))))))))
theorem gd_c_hastetR : ∀ w ∈ wm_c_hastetR, goodWord w = true := gd_c rfl (gd_a (by decide) (gd_a gd_wsX30 (gd_a gd_wsX10 (gd_a gd_wsX100 (gd_a gd_wsX60 (gd_a gd_c_unknownTo (gd_a gd_c_waitingInt (gd_a gd_c_todayt (gd_a gd_c_holdingR (gd_a gd_c_give gd_nil))))))))))
set_option maxRecDepth 20000 in
theorem im_c_hastetR : ∀ w ∈ wm_c_hastetR, w ∈ lw_tbl := im_c (in_r [.code yX3_haste cX3_haste 6 (some .int)] [800] (by decide +kernel)) (in_app (in_r wo_c_hastetR [426, 130, 427, 403, 678, 428, 681, 673, 684, 676, 667, 437, 801, 802, 803, 89, 811, 813, 11, 83, 775, 776, 777, 779, 780, 781, 72, 783, 784, 785] (by decide +kernel)) (in_app im_wsX30 (in_app im_wsX10 (in_app im_wsX100 (in_app im_wsX60 (in_app im_c_unknownTo (in_app im_c_waitingInt (in_app im_c_todayt (in_app im_c_holdingR (in_app im_c_give im_nil))))))))))
set_option maxHeartbeats 4000000 in
set_option maxRecDepth 100000 in
theorem c_hastetR (l : Launch) (dC : Nat → ClassId) (dI : Nat → Nat → Nat) (ad av : Nat → Nat) (sz : Nat) (a : Nat → Nat) (k : Nat → ClassId) (τ ln : Nat → Nat) (y : Nat → Nat → Int32) (g : Nat → Nat → Option Nat) (u : Nat → Int) (p0 : Int32) (p1 : Int32) (b0 : Nat) (hI : IC a u τ ln y g) (h_b0 : τ b0 = 5) (hlp0 : 0 ≤ p0.toInt) (hup0 : p0.toInt < u 1) (hlp1 : 0 ≤ p1.toInt) (hup1 : p1.toInt < u 2) : Met l yX3_haste wm_c_hastetR ({ frames := 3, cells := 0, slots := 0, locals := 180 }) (pw_ ad av (dC, dI) sz [.ref (a 4), .int p0, .int p1, .ref b0] a k τ ln y g) (va_Qi (fun (r u : Int32) => u = r) (fun (r : Int32) (t : State) => (∃ (y' : Nat → Nat → Int32), ag τ [24, 27] y y' ∧ tw (dC, dI) a k τ ln y' g t.heap)) (fr τ sz)) 0 0 (fr τ sz) := by
  refine Met.ofW (cc := cX3_haste) (maxL := 6) (ret := (some .int)) (by decide) rfl ?_
  intro p e s m args below meth c s₁ B hml hv
  obtain ⟨rfl, hsz, hT, hK, hM⟩ := hv
  have hx := B.exec
  have hb := B.bytes
  have hr := B.returns
  have hts := atoms_spec (ws := wm_c_hastetR) B.pre
  have hown : s.vm.findClass RX3 = some m.cls := findClass_of_methodNamed B.named
  have hlocks := B.notSynchronized
  subst hsz
  generalize hAe : fr τ s.heap.size = A at hM ⊢
  have hA : ∀ q : Nat, s.heap.size ≤ q → A q := fun q h => by rw [← hAe]; exact Or.inr h
  have hF : ∀ q, τ q ≠ 0 → A q := fun q h => by rw [← hAe]; exact Or.inl h
  have hS : va_S A s.heap s.heap [] := va_S.rf
  have hX := hI.1
  have hR := ic_r hI
  have hG : ag τ [24, 27] y y := ag.rf
  have hl := lv_entry ([.ref (a 4), .int p0, .int p1, .ref b0]) (n := 6) (Nat.le_of_ble_eq_true rfl)
  rw [lg_entry_eq]
  generalize (lg_sl ([.ref (a 4), .int p0, .int p1, .ref b0]) ++ List.replicate (6 - (lg_sl ([.ref (a 4), .int p0, .int p1, .ref b0])).length) Slot.unset).toArray = ls at hl ⊢
  have hl : lv_has ls 6 [(0, .ref (a 4)), (1, .int p0), (2, .int p1), (3, .ref b0)] := hl
  refine lv_aload_n hx hb dX3_haste_0 rfl (lv_at hl 0 rfl) ?_
  refine tw_get (D := (dC, dI)) (v := .ref (a 1)) (C := RX3) (T := TX3) (N := 12) hx hb hts (fun _ hh => (List.mem_cons_of_mem _ (List.mem_append_right _ (List.mem_append_left _ hh)))) hown hK hT (fx_4 hX) (by decide) cl_e14 rfl 0 (by decide) (hts (.fieldLink RX3 43 "TypingPool$Floor" "book" "LTypingPool$Book;") (List.mem_cons_of_mem _ (List.mem_append_left _ (List.mem_of_getElem? (i := 0) rfl)))) (fun _ h9 => h9) rfl dX3_haste_1 ?_
  refine tw_get (D := (dC, dI)) (v := .ref (a 11)) (C := RX1) (T := TX1) (N := 8) hx hb hts (fun _ hh => (List.mem_cons_of_mem _ (List.mem_append_right _ (List.mem_append_right _ (List.mem_append_left _ hh))))) hown hK hT (fx_1 hX) (by decide) cl_e11 rfl 4 (by decide) (hts (.fieldLink RX3 103 "TypingPool$Book" "pieces" "[LTypingPool$Piece;") (List.mem_cons_of_mem _ (List.mem_append_left _ (List.mem_of_getElem? (i := 1) rfl)))) (fun _ h9 => h9) rfl dX3_haste_4 ?_
  refine lv_iload_n hx hb dX3_haste_7 rfl (lv_at hl 2 rfl) ?_
  refine tw_aald hx hb hK hT 4 (fx_11 hX) (by decide) cl_e21 rfl (z_in rfl (by omega) (by omega)) dX3_haste_8 ?_
  obtain ⟨q_1, hgq_1, htq_1⟩ := ic_l11 hI (x := p1) rfl (by omega) (by omega)
  refine lq_topr hgq_1 ?_
  refine lv_astore (lv' := [(4, .ref q_1), (0, .ref (a 4)), (1, .int p0), (2, .int p1), (3, .ref b0)]) hx hb dX3_haste_9 hl (by decide) rfl (fun ls hl => ?_)
  refine lv_aload_n hx hb dX3_haste_11 rfl (lv_at hl 1 rfl) ?_
  refine tw_get (D := (dC, dI)) (v := .ref (a 2)) (C := RX3) (T := TX3) (N := 12) hx hb hts (fun _ hh => (List.mem_cons_of_mem _ (List.mem_append_right _ (List.mem_append_left _ hh)))) hown hK hT (fx_4 hX) (by decide) cl_e14 rfl 1 (by decide) (hts (.fieldLink RX3 47 "TypingPool$Floor" "rules" "LTypingPool$Rules;") (List.mem_cons_of_mem _ (List.mem_append_left _ (List.mem_of_getElem? (i := 2) rfl)))) (fun _ h9 => h9) rfl dX3_haste_12 ?_
  refine tw_get (D := (dC, dI)) (v := .ref (a 14)) (C := RX10) (T := TX10) (N := 6) hx hb hts (fun _ hh => (List.mem_cons_of_mem _ (List.mem_append_right _ (List.mem_append_right _ (List.mem_append_right _ (List.mem_append_left _ hh)))))) hown hK hT (fx_2 hX) (by decide) cl_e12 rfl 2 (by decide) (hts (.fieldLink RX3 155 "TypingPool$Rules" "letters" "[I") (List.mem_cons_of_mem _ (List.mem_append_left _ (List.mem_of_getElem? (i := 3) rfl)))) (fun _ h9 => h9) rfl dX3_haste_15 ?_
  refine lv_astore (lv' := [(5, .ref (a 14)), (4, .ref q_1), (0, .ref (a 4)), (1, .int p0), (2, .int p1), (3, .ref b0)]) hx hb dX3_haste_18 hl (by decide) rfl (fun ls hl => ?_)
  refine lv_aload hx hb dX3_haste_20 (lv_at hl 0 rfl) ?_
  refine lv_iconst (v := 0) hx hb dX3_haste_22 (by decide) ?_
  refine lv_aload hx hb dX3_haste_23 (lv_at hl 1 rfl) ?_
  refine tw_get (D := (dC, dI)) (v := .int (y q_1 4)) (C := RX6) (T := TX6) (N := 11) hx hb hts (fun _ hh => (List.mem_cons_of_mem _ (List.mem_append_right _ (List.mem_append_right _ (List.mem_append_right _ (List.mem_append_right _ (List.mem_append_left _ hh))))))) hown hK hT htq_1 (by decide) cl_e2 rfl 4 (by decide) (hts (.fieldLink RX3 181 "TypingPool$Piece" "claim" "I") (List.mem_cons_of_mem _ (List.mem_append_left _ (List.mem_of_getElem? (i := 4) rfl)))) (fun _ h9 => h9) rfl dX3_haste_25 ?_
  refine tw_iast hx hb hK hT hF hS 0 (fx_14 hX) (by decide) (fun _ => cl_e24) rfl (z_in (zk (x := 0) 0 rfl) (by omega) (by omega)) dX3_haste_28 (fun H locs hT hS => ?_)
  obtain ⟨y_2, hy_2, hT⟩ : ∃ z : Nat → Nat → Int32, z = up2 y (a 14) ((0 : Int32).toNatClampNeg) (y q_1 4) ∧ tw (dC, dI) a k τ ln z g H := ⟨_, rfl, hT⟩
  have hG : ag τ [24, 27] y y_2 := by rw [hy_2]; exact hG.up (fx_14 hX) (by decide)
  have hI := hI.ag (S := [24]) (y' := y_2) (by rw [hy_2]; exact ag.one (fx_14 hX)) (by decide)
  refine lv_aload hx hb dX3_haste_29 (lv_at hl 0 rfl) ?_
  refine lv_iconst (v := 1) hx hb dX3_haste_31 (by decide) ?_
  refine lv_aload_n hx hb dX3_haste_32 rfl (lv_at hl 2 rfl) ?_
  refine tw_get (D := (dC, dI)) (v := .int (y_2 (a 4) 2)) (C := RX3) (T := TX3) (N := 12) hx hb hts (fun _ hh => (List.mem_cons_of_mem _ (List.mem_append_right _ (List.mem_append_left _ hh)))) hown hK hT (fx_4 hX) (by decide) cl_e14 rfl 2 (by decide) (hts (.fieldLink RX3 9 "TypingPool$Floor" "now" "I") (List.mem_cons_of_mem _ (List.mem_append_left _ (List.mem_of_getElem? (i := 5) rfl)))) (fun _ h9 => h9) rfl dX3_haste_33 ?_
  refine lv_aload hx hb dX3_haste_36 (lv_at hl 1 rfl) ?_
  refine tw_get (D := (dC, dI)) (v := .int (y_2 q_1 5)) (C := RX6) (T := TX6) (N := 11) hx hb hts (fun _ hh => (List.mem_cons_of_mem _ (List.mem_append_right _ (List.mem_append_right _ (List.mem_append_right _ (List.mem_append_right _ (List.mem_append_left _ hh))))))) hown hK hT htq_1 (by decide) cl_e2 rfl 5 (by decide) (hts (.fieldLink RX3 184 "TypingPool$Piece" "comes" "I") (List.mem_cons_of_mem _ (List.mem_append_left _ (List.mem_of_getElem? (i := 6) rfl)))) (fun _ h9 => h9) rfl dX3_haste_38 ?_
  refine lv_isub hx hb dX3_haste_41 ?_
  refine lv_topi (fun x_3 ex_3 => ?_)
  refine tw_iast hx hb hK hT hF hS 0 (fx_14 hX) (by decide) (fun _ => cl_e24) rfl (z_in (zk (x := 1) 1 rfl) (by omega) (by omega)) dX3_haste_42 (fun H locs hT hS => ?_)
  obtain ⟨y_4, hy_4, hT⟩ : ∃ z : Nat → Nat → Int32, z = up2 y_2 (a 14) ((1 : Int32).toNatClampNeg) x_3 ∧ tw (dC, dI) a k τ ln z g H := ⟨_, rfl, hT⟩
  have hG : ag τ [24, 27] y y_4 := by rw [hy_4]; exact hG.up (fx_14 hX) (by decide)
  have hI := hI.ag (S := [24]) (y' := y_4) (by rw [hy_4]; exact ag.one (fx_14 hX)) (by decide)
  refine lv_aload hx hb dX3_haste_43 (lv_at hl 0 rfl) ?_
  refine lv_iconst (v := 2) hx hb dX3_haste_45 (by decide) ?_
  refine lv_aload hx hb dX3_haste_46 (lv_at hl 1 rfl) ?_
  refine tw_get (D := (dC, dI)) (v := .int (y_4 q_1 2)) (C := RX6) (T := TX6) (N := 11) hx hb hts (fun _ hh => (List.mem_cons_of_mem _ (List.mem_append_right _ (List.mem_append_right _ (List.mem_append_right _ (List.mem_append_right _ (List.mem_append_left _ hh))))))) hown hK hT htq_1 (by decide) cl_e2 rfl 2 (by decide) (hts (.fieldLink RX3 187 "TypingPool$Piece" "lines" "I") (List.mem_cons_of_mem _ (List.mem_append_left _ (List.mem_of_getElem? (i := 7) rfl)))) (fun _ h9 => h9) rfl dX3_haste_48 ?_
  refine tw_iast hx hb hK hT hF hS 0 (fx_14 hX) (by decide) (fun _ => cl_e24) rfl (z_in (zk (x := 2) 2 rfl) (by omega) (by omega)) dX3_haste_51 (fun H locs hT hS => ?_)
  obtain ⟨y_5, hy_5, hT⟩ : ∃ z : Nat → Nat → Int32, z = up2 y_4 (a 14) ((2 : Int32).toNatClampNeg) (y_4 q_1 2) ∧ tw (dC, dI) a k τ ln z g H := ⟨_, rfl, hT⟩
  have hG : ag τ [24, 27] y y_5 := by rw [hy_5]; exact hG.up (fx_14 hX) (by decide)
  have hI := hI.ag (S := [24]) (y' := y_5) (by rw [hy_5]; exact ag.one (fx_14 hX)) (by decide)
  refine lv_aload hx hb dX3_haste_52 (lv_at hl 0 rfl) ?_
  refine lv_iconst (v := 3) hx hb dX3_haste_54 (by decide) ?_
  refine lv_aload hx hb dX3_haste_55 (lv_at hl 1 rfl) ?_
  refine tw_get (D := (dC, dI)) (v := .int (y_5 q_1 6)) (C := RX6) (T := TX6) (N := 11) hx hb hts (fun _ hh => (List.mem_cons_of_mem _ (List.mem_append_right _ (List.mem_append_right _ (List.mem_append_right _ (List.mem_append_right _ (List.mem_append_left _ hh))))))) hown hK hT htq_1 (by decide) cl_e2 rfl 6 (by decide) (hts (.fieldLink RX3 190 "TypingPool$Piece" "due" "I") (List.mem_cons_of_mem _ (List.mem_append_left _ (List.mem_of_getElem? (i := 8) rfl)))) (fun _ h9 => h9) rfl dX3_haste_57 ?_
  refine lv_aload_n hx hb dX3_haste_60 rfl (lv_at hl 2 rfl) ?_
  refine tw_get (D := (dC, dI)) (v := .int (y_5 (a 4) 2)) (C := RX3) (T := TX3) (N := 12) hx hb hts (fun _ hh => (List.mem_cons_of_mem _ (List.mem_append_right _ (List.mem_append_left _ hh)))) hown hK hT (fx_4 hX) (by decide) cl_e14 rfl 2 (by decide) (hts (.fieldLink RX3 9 "TypingPool$Floor" "now" "I") (List.mem_cons_of_mem _ (List.mem_append_left _ (List.mem_of_getElem? (i := 5) rfl)))) (fun _ h9 => h9) rfl dX3_haste_61 ?_
  refine lv_isub hx hb dX3_haste_64 ?_
  refine lv_topi (fun x_6 ex_6 => ?_)
  refine tw_iast hx hb hK hT hF hS 0 (fx_14 hX) (by decide) (fun _ => cl_e24) rfl (z_in (zk (x := 3) 3 rfl) (by omega) (by omega)) dX3_haste_65 (fun H locs hT hS => ?_)
  obtain ⟨y_7, hy_7, hT⟩ : ∃ z : Nat → Nat → Int32, z = up2 y_5 (a 14) ((3 : Int32).toNatClampNeg) x_6 ∧ tw (dC, dI) a k τ ln z g H := ⟨_, rfl, hT⟩
  have hG : ag τ [24, 27] y y_7 := by rw [hy_7]; exact hG.up (fx_14 hX) (by decide)
  have hI := hI.ag (S := [24]) (y' := y_7) (by rw [hy_7]; exact ag.one (fx_14 hX)) (by decide)
  refine lv_aload hx hb dX3_haste_66 (lv_at hl 0 rfl) ?_
  refine lv_iconst (v := 4) hx hb dX3_haste_68 (by decide) ?_
  refine lv_aload hx hb dX3_haste_69 (lv_at hl 1 rfl) ?_
  refine tw_get (D := (dC, dI)) (v := .int (y_7 q_1 3)) (C := RX6) (T := TX6) (N := 11) hx hb hts (fun _ hh => (List.mem_cons_of_mem _ (List.mem_append_right _ (List.mem_append_right _ (List.mem_append_right _ (List.mem_append_right _ (List.mem_append_left _ hh))))))) hown hK hT htq_1 (by decide) cl_e2 rfl 3 (by decide) (hts (.fieldLink RX3 160 "TypingPool$Piece" "secret" "I") (List.mem_cons_of_mem _ (List.mem_append_left _ (List.mem_of_getElem? (i := 9) rfl)))) (fun _ h9 => h9) rfl dX3_haste_71 ?_
  refine tw_iast hx hb hK hT hF hS 0 (fx_14 hX) (by decide) (fun _ => cl_e24) rfl (z_in (zk (x := 4) 4 rfl) (by omega) (by omega)) dX3_haste_74 (fun H locs hT hS => ?_)
  obtain ⟨y_8, hy_8, hT⟩ : ∃ z : Nat → Nat → Int32, z = up2 y_7 (a 14) ((4 : Int32).toNatClampNeg) (y_7 q_1 3) ∧ tw (dC, dI) a k τ ln z g H := ⟨_, rfl, hT⟩
  have hG : ag τ [24, 27] y y_8 := by rw [hy_8]; exact hG.up (fx_14 hX) (by decide)
  have hI := hI.ag (S := [24]) (y' := y_8) (by rw [hy_8]; exact ag.one (fx_14 hX)) (by decide)
  refine lv_aload hx hb dX3_haste_75 (lv_at hl 0 rfl) ?_
  refine lv_iconst (v := 5) hx hb dX3_haste_77 (by decide) ?_
  refine lv_aload hx hb dX3_haste_78 (lv_at hl 1 rfl) ?_
  refine tw_get (D := (dC, dI)) (v := .int (y_8 q_1 0)) (C := RX6) (T := TX6) (N := 11) hx hb hts (fun _ hh => (List.mem_cons_of_mem _ (List.mem_append_right _ (List.mem_append_right _ (List.mem_append_right _ (List.mem_append_right _ (List.mem_append_left _ hh))))))) hown hK hT htq_1 (by decide) cl_e2 rfl 0 (by decide) (hts (.fieldLink RX3 166 "TypingPool$Piece" "department" "I") (List.mem_cons_of_mem _ (List.mem_append_left _ (List.mem_of_getElem? (i := 10) rfl)))) (fun _ h9 => h9) rfl dX3_haste_80 ?_
  refine tw_iast hx hb hK hT hF hS 0 (fx_14 hX) (by decide) (fun _ => cl_e24) rfl (z_in (zk (x := 5) 5 rfl) (by omega) (by omega)) dX3_haste_83 (fun H locs hT hS => ?_)
  obtain ⟨y_9, hy_9, hT⟩ : ∃ z : Nat → Nat → Int32, z = up2 y_8 (a 14) ((5 : Int32).toNatClampNeg) (y_8 q_1 0) ∧ tw (dC, dI) a k τ ln z g H := ⟨_, rfl, hT⟩
  have hG : ag τ [24, 27] y y_9 := by rw [hy_9]; exact hG.up (fx_14 hX) (by decide)
  have hI := hI.ag (S := [24]) (y' := y_9) (by rw [hy_9]; exact ag.one (fx_14 hX)) (by decide)
  refine lv_aload hx hb dX3_haste_84 (lv_at hl 0 rfl) ?_
  refine lv_bipush (v := 6) hx hb dX3_haste_86 (by decide) ?_
  refine lv_aload hx hb dX3_haste_88 (lv_at hl 1 rfl) ?_
  refine lv_aload_n hx hb dX3_haste_90 rfl (lv_at hl 2 rfl) ?_
  refine tw_get (D := (dC, dI)) (v := .ref (a 32)) (C := RX3) (T := TX3) (N := 12) hx hb hts (fun _ hh => (List.mem_cons_of_mem _ (List.mem_append_right _ (List.mem_append_left _ hh)))) hown hK hT (fx_4 hX) (by decide) cl_e14 rfl 5 (by decide) (hts (.fieldLink RX3 22 "TypingPool$Floor" "words" "[I") (List.mem_cons_of_mem _ (List.mem_append_left _ (List.mem_of_getElem? (i := 11) rfl)))) (fun _ h9 => h9) rfl dX3_haste_91 ?_
  refine lv_iload_n hx hb dX3_haste_94 rfl (lv_at hl 3 rfl) ?_
  refine tw_iald hx hb hK hT 0 (fx_32 hX) (by decide) cl_e42 rfl (z_in rfl (by omega) (by omega)) dX3_haste_95 ?_
  have hFc := tw_free hF hS hA
  refine va_calli (va_runV (As := [.int (y_9 (a 32) p0.toNatClampNeg)]) (rest := [.int 6, .ref (a 14)]) ⟨hx, hb, hml, hown, hts⟩ (c_unknownTo l dC dI ad av H.size a k τ ln y_9 g u q_1 (y_9 (a 32) p0.toNatClampNeg) hI htq_1) (cwV 1 hts (gi_4 (List.mem_cons_of_mem _ (List.mem_append_left _ (List.mem_of_getElem? (i := 12) rfl))) (List.mem_cons_of_mem _ (List.mem_append_left _ (List.mem_of_getElem? (i := 13) rfl))) (List.mem_cons_of_mem _ (List.mem_append_left _ (List.mem_of_getElem? (i := 14) rfl))) (List.mem_cons_of_mem _ (List.mem_append_left _ (List.mem_of_getElem? (i := 15) rfl))) (fun _ hh => (List.mem_cons_of_mem _ (List.mem_append_right _ (List.mem_append_right _ (List.mem_append_right _ (List.mem_append_right _ (List.mem_append_right _ (List.mem_append_left _ hh)))))))) gd_c_unknownTo) rfl rfl rfl (by decide +kernel) ⟨Nat.le_of_ble_eq_true rfl, Nat.le_of_ble_eq_true rfl⟩) ⟨pw_blind, tw_recv hK hT htq_1 (by decide) cl_e2 rfl, pw_use hT hK hFc hS hM⟩ rfl rfl hl.1 rfl (lv_room (Nat.le_of_ble_eq_true rfl)) dX3_haste_96 ⟨Nat.le_of_ble_eq_true rfl, Nat.le_of_ble_eq_true rfl⟩) hS (fun q _ h => hFc q h) hFc (fun r0 r_10 t H locs ht hvm hw hB hz1 hk1 hS => ?_)
  refine W.widen (k := 0) (n := 0) (Nat.le_of_ble_eq_true rfl) (Nat.le_of_ble_eq_true rfl) ?_
  clear hvm hz1 hk1
  subst hw
  obtain ⟨hf_11, hf_12, hT⟩ := hB
  rw [ht] at hT
  refine tw_iast hx hb hK hT hF hS 0 (fx_14 hX) (by decide) (fun _ => cl_e24) rfl (z_in (zk (x := 6) 6 rfl) (by omega) (by omega)) dX3_haste_99 (fun H locs hT hS => ?_)
  obtain ⟨y_13, hy_13, hT⟩ : ∃ z : Nat → Nat → Int32, z = up2 y_9 (a 14) ((6 : Int32).toNatClampNeg) r_10 ∧ tw (dC, dI) a k τ ln z g H := ⟨_, rfl, hT⟩
  have hG : ag τ [24, 27] y y_13 := by rw [hy_13]; exact hG.up (fx_14 hX) (by decide)
  have hI := hI.ag (S := [24]) (y' := y_13) (by rw [hy_13]; exact ag.one (fx_14 hX)) (by decide)
  refine lv_aload hx hb dX3_haste_100 (lv_at hl 0 rfl) ?_
  refine lv_bipush (v := 7) hx hb dX3_haste_102 (by decide) ?_
  refine lv_aload_n hx hb dX3_haste_104 rfl (lv_at hl 2 rfl) ?_
  refine lv_aload hx hb dX3_haste_105 (lv_at hl 1 rfl) ?_
  refine tw_get (D := (dC, dI)) (v := .int (y_13 q_1 0)) (C := RX6) (T := TX6) (N := 11) hx hb hts (fun _ hh => (List.mem_cons_of_mem _ (List.mem_append_right _ (List.mem_append_right _ (List.mem_append_right _ (List.mem_append_right _ (List.mem_append_left _ hh))))))) hown hK hT htq_1 (by decide) cl_e2 rfl 0 (by decide) (hts (.fieldLink RX3 166 "TypingPool$Piece" "department" "I") (List.mem_cons_of_mem _ (List.mem_append_left _ (List.mem_of_getElem? (i := 10) rfl)))) (fun _ h9 => h9) rfl dX3_haste_107 ?_
  have hFc := tw_free hF hS hA
  refine va_calli (va_runV (As := [.int (y_13 q_1 0)]) (rest := [.int 7, .ref (a 14)]) ⟨hx, hb, hml, hown, hts⟩ (c_waitingInt l dC dI ad av H.size a k τ ln y_13 g u (y_13 q_1 0) hI ) (cwV 1 hts (gi_4 (List.mem_cons_of_mem _ (List.mem_append_left _ (List.mem_of_getElem? (i := 16) rfl))) (List.mem_cons_of_mem _ (List.mem_append_left _ (List.mem_of_getElem? (i := 17) rfl))) (List.mem_cons_of_mem _ (List.mem_append_left _ (List.mem_of_getElem? (i := 18) rfl))) (List.mem_cons_of_mem _ (List.mem_append_left _ (List.mem_of_getElem? (i := 19) rfl))) (fun _ hh => (List.mem_cons_of_mem _ (List.mem_append_right _ (List.mem_append_right _ (List.mem_append_right _ (List.mem_append_right _ (List.mem_append_right _ (List.mem_append_right _ (List.mem_append_left _ hh))))))))) gd_c_waitingInt) rfl rfl rfl (by decide +kernel) ⟨Nat.le_of_ble_eq_true rfl, Nat.le_of_ble_eq_true rfl⟩) ⟨pw_blind, tw_recv hK hT (fx_4 hX) (by decide) cl_e14 rfl, pw_use hT hK hFc hS hM⟩ rfl rfl hl.1 rfl (lv_room (Nat.le_of_ble_eq_true rfl)) dX3_haste_110 ⟨Nat.le_of_ble_eq_true rfl, Nat.le_of_ble_eq_true rfl⟩) hS (fun q _ h => hFc q h) hFc (fun r0 r_14 t H locs ht hvm hw hB hz1 hk1 hS => ?_)
  refine W.widen (k := 0) (n := 0) (Nat.le_of_ble_eq_true rfl) (Nat.le_of_ble_eq_true rfl) ?_
  clear hvm hz1 hk1
  subst hw
  have hT := hB
  rw [ht] at hT
  refine tw_iast hx hb hK hT hF hS 0 (fx_14 hX) (by decide) (fun _ => cl_e24) rfl (z_in (zk (x := 7) 7 rfl) (by omega) (by omega)) dX3_haste_113 (fun H locs hT hS => ?_)
  obtain ⟨y_15, hy_15, hT⟩ : ∃ z : Nat → Nat → Int32, z = up2 y_13 (a 14) ((7 : Int32).toNatClampNeg) r_14 ∧ tw (dC, dI) a k τ ln z g H := ⟨_, rfl, hT⟩
  have hG : ag τ [24, 27] y y_15 := by rw [hy_15]; exact hG.up (fx_14 hX) (by decide)
  have hI := hI.ag (S := [24]) (y' := y_15) (by rw [hy_15]; exact ag.one (fx_14 hX)) (by decide)
  refine lv_aload_n hx hb dX3_haste_114 rfl (lv_at hl 2 rfl) ?_
  refine tw_get (D := (dC, dI)) (v := .ref (a 2)) (C := RX3) (T := TX3) (N := 12) hx hb hts (fun _ hh => (List.mem_cons_of_mem _ (List.mem_append_right _ (List.mem_append_left _ hh)))) hown hK hT (fx_4 hX) (by decide) cl_e14 rfl 1 (by decide) (hts (.fieldLink RX3 47 "TypingPool$Floor" "rules" "LTypingPool$Rules;") (List.mem_cons_of_mem _ (List.mem_append_left _ (List.mem_of_getElem? (i := 2) rfl)))) (fun _ h9 => h9) rfl dX3_haste_115 ?_
  refine lv_aload_n hx hb dX3_haste_118 rfl (lv_at hl 2 rfl) ?_
  refine tw_get (D := (dC, dI)) (v := .ref (a 2)) (C := RX3) (T := TX3) (N := 12) hx hb hts (fun _ hh => (List.mem_cons_of_mem _ (List.mem_append_right _ (List.mem_append_left _ hh)))) hown hK hT (fx_4 hX) (by decide) cl_e14 rfl 1 (by decide) (hts (.fieldLink RX3 47 "TypingPool$Floor" "rules" "LTypingPool$Rules;") (List.mem_cons_of_mem _ (List.mem_append_left _ (List.mem_of_getElem? (i := 2) rfl)))) (fun _ h9 => h9) rfl dX3_haste_119 ?_
  refine lv_iconst (v := 0) hx hb dX3_haste_122 (by decide) ?_
  refine lv_aload_n hx hb dX3_haste_123 rfl (lv_at hl 2 rfl) ?_
  have hFc := tw_free hF hS hA
  refine va_calli (va_runV (As := []) (rest := [.int 0, .ref (a 2), .ref (a 2)]) ⟨hx, hb, hml, hown, hts⟩ (c_todayt l dC dI ad av H.size a k τ ln y_15 g u  hI ) (cwV 0 hts (gi_4 (List.mem_cons_of_mem _ (List.mem_append_left _ (List.mem_of_getElem? (i := 20) rfl))) (List.mem_cons_of_mem _ (List.mem_append_left _ (List.mem_of_getElem? (i := 21) rfl))) (List.mem_cons_of_mem _ (List.mem_append_left _ (List.mem_of_getElem? (i := 22) rfl))) (List.mem_cons_of_mem _ (List.mem_append_left _ (List.mem_of_getElem? (i := 19) rfl))) (fun _ hh => (List.mem_cons_of_mem _ (List.mem_append_right _ (List.mem_append_right _ (List.mem_append_right _ (List.mem_append_right _ (List.mem_append_right _ (List.mem_append_right _ (List.mem_append_right _ (List.mem_append_left _ hh)))))))))) gd_c_todayt) rfl rfl rfl (by decide +kernel) ⟨Nat.le_of_ble_eq_true rfl, Nat.le_of_ble_eq_true rfl⟩) ⟨pw_blind, tw_recv hK hT (fx_4 hX) (by decide) cl_e14 rfl, pw_use hT hK hFc hS hM⟩ rfl rfl hl.1 rfl (lv_room (Nat.le_of_ble_eq_true rfl)) dX3_haste_124 ⟨Nat.le_of_ble_eq_true rfl, Nat.le_of_ble_eq_true rfl⟩) hS (fun q _ h => hFc q h) hFc (fun r0 r_16 t H locs ht hvm hw hB hz1 hk1 hS => ?_)
  refine W.widen (k := 0) (n := 0) (Nat.le_of_ble_eq_true rfl) (Nat.le_of_ble_eq_true rfl) ?_
  clear hvm hz1 hk1
  subst hw
  have hT := hB
  rw [ht] at hT
  refine lv_aload_n hx hb dX3_haste_127 rfl (lv_at hl 5 rfl) ?_
  have hFc := tw_free hF hS hA
  have hp_17 : (0 : Int32).toInt = 0 := (zk (x := 0) 0 rfl)
  refine va_callr (va_runV (As := [.int 0, .int r_16, .ref b0]) (rest := [.ref (a 2)]) ⟨hx, hb, hml, hown, hts⟩ (c_holdingR l dC dI ad av H.size a k τ ln y_15 g u (0 : Int32) r_16 b0 hI h_b0 (by decide) (by decide)) (cwV 3 hts (gi_4 (List.mem_cons_of_mem _ (List.mem_append_left _ (List.mem_of_getElem? (i := 23) rfl))) (List.mem_cons_of_mem _ (List.mem_append_left _ (List.mem_of_getElem? (i := 24) rfl))) (List.mem_cons_of_mem _ (List.mem_append_left _ (List.mem_of_getElem? (i := 25) rfl))) (List.mem_cons_of_mem _ (List.mem_append_left _ (List.mem_of_getElem? (i := 26) rfl))) (fun _ hh => (List.mem_cons_of_mem _ (List.mem_append_right _ (List.mem_append_right _ (List.mem_append_right _ (List.mem_append_right _ (List.mem_append_right _ (List.mem_append_right _ (List.mem_append_right _ (List.mem_append_right _ (List.mem_append_left _ hh))))))))))) gd_c_holdingR) rfl rfl rfl (by decide +kernel) ⟨Nat.le_of_ble_eq_true rfl, Nat.le_of_ble_eq_true rfl⟩) ⟨pw_blind, tw_recv hK hT (fx_2 hX) (by decide) cl_e12 rfl, pw_use hT hK hFc hS hM⟩ rfl rfl hl.1 rfl (lv_room (Nat.le_of_ble_eq_true rfl)) dX3_haste_128 ⟨Nat.le_of_ble_eq_true rfl, Nat.le_of_ble_eq_true rfl⟩) hS (fun q _ h => hFc q h) hFc (fun u0 r_18 t H locs ht hvm hw hB hz1 hk1 hS => ?_)
  refine W.widen (k := 0) (n := 0) (Nat.le_of_ble_eq_true rfl) (Nat.le_of_ble_eq_true rfl) ?_
  clear hvm hz1 hk1
  obtain ⟨htr_18, hT⟩ := hB
  rw [ht] at hT
  clear hp_17
  have hFc := tw_free hF hS hA
  refine va_calli (va_runV (As := [.ref r_18]) (rest := []) ⟨hx, hb, hml, hown, hts⟩ (c_give l dC dI ad av H.size a k τ ln y_15 g u r_18 hI htr_18) (cwV 1 hts (gi_4 (List.mem_cons_of_mem _ (List.mem_append_left _ (List.mem_of_getElem? (i := 27) rfl))) (List.mem_cons_of_mem _ (List.mem_append_left _ (List.mem_of_getElem? (i := 28) rfl))) (List.mem_cons_of_mem _ (List.mem_append_left _ (List.mem_of_getElem? (i := 29) rfl))) (List.mem_cons_of_mem _ (List.mem_append_left _ (List.mem_of_getElem? (i := 26) rfl))) (fun _ hh => (List.mem_cons_of_mem _ (List.mem_append_right _ (List.mem_append_right _ (List.mem_append_right _ (List.mem_append_right _ (List.mem_append_right _ (List.mem_append_right _ (List.mem_append_right _ (List.mem_append_right _ (List.mem_append_right _ (List.mem_append_left _ hh)))))))))))) gd_c_give) rfl rfl rfl (by decide +kernel) ⟨Nat.le_of_ble_eq_true rfl, Nat.le_of_ble_eq_true rfl⟩) ⟨pw_blind, tw_recv hK hT (fx_2 hX) (by decide) cl_e12 rfl, pw_use hT hK hFc hS hM⟩ rfl rfl hl.1 rfl (lv_room (Nat.le_of_ble_eq_true rfl)) dX3_haste_131 ⟨Nat.le_of_ble_eq_true rfl, Nat.le_of_ble_eq_true rfl⟩) hS (fun q _ h => hFc q h) hFc (fun r0 r_19 t H locs ht hvm hw hB hz1 hk1 hS => ?_)
  refine W.widen (k := 0) (n := 0) (Nat.le_of_ble_eq_true rfl) (Nat.le_of_ble_eq_true rfl) ?_
  clear hvm hz1 hk1
  subst hw
  obtain ⟨y_20, hgy_20, hT⟩ := hB
  rw [ht] at hT
  have hG := hG.tr hgy_20 (by decide)
  have hI := hI.ag hgy_20 (by decide)
  exact W.iret (v := r_19) hx hb hr (fun t ht hW9 => ⟨⟨r_19, r_19, rfl, rfl, ⟨y_20, hG, tw_at ht hT⟩⟩, hS.F ht⟩) hS.2.2 dX3_haste_134
def wo_c_firstFortR : List Cond := [.fieldLink RX3 43 "TypingPool$Floor" "book" "LTypingPool$Book;", .fieldLink RX3 85 "TypingPool$Book" "pieceCount" "I", .methodLink RX3 88 yX3_stateOf, .instanceMethod yX3_stateOf, .selects RX3 yX3_stateOf yX3_stateOf, .initialized RX3, .methodLink RX3 91 yX3_mayDo, .instanceMethod yX3_mayDo, .selects RX3 yX3_mayDo yX3_mayDo, .methodLink RX3 95 yX3_haste, .instanceMethod yX3_haste, .selects RX3 yX3_haste yX3_haste]
def wm_c_firstFortR : List Cond := .code yX3_firstFor cX3_firstFor 7 (some .int) :: (wo_c_firstFortR ++ (wsX30 ++ (wsX10 ++ (wm_c_stateOft ++ (wm_c_mayDotR ++ (wm_c_hastetR ++ ([] : List Cond)))))))
theorem gd_c_firstFortR : ∀ w ∈ wm_c_firstFortR, goodWord w = true := gd_c rfl (gd_a (by decide) (gd_a gd_wsX30 (gd_a gd_wsX10 (gd_a gd_c_stateOft (gd_a gd_c_mayDotR (gd_a gd_c_hastetR gd_nil))))))
set_option maxRecDepth 20000 in
theorem im_c_firstFortR : ∀ w ∈ wm_c_firstFortR, w ∈ lw_tbl := im_c (in_r [.code yX3_firstFor cX3_firstFor 7 (some .int)] [766] (by decide +kernel)) (in_app (in_r wo_c_firstFortR [426, 134, 767, 768, 769, 83, 771, 772, 773, 797, 798, 799] (by decide +kernel)) (in_app im_wsX30 (in_app im_wsX10 (in_app im_c_stateOft (in_app im_c_mayDotR (in_app im_c_hastetR im_nil))))))
set_option maxHeartbeats 4000000 in
set_option maxRecDepth 100000 in
theorem c_firstFortR (l : Launch) (dC : Nat → ClassId) (dI : Nat → Nat → Nat) (ad av : Nat → Nat) (sz : Nat) (a : Nat → Nat) (k : Nat → ClassId) (τ ln : Nat → Nat) (y : Nat → Nat → Int32) (g : Nat → Nat → Option Nat) (u : Nat → Int) (p0 : Int32) (b0 : Nat) (hI : IC a u τ ln y g) (h_b0 : τ b0 = 5) (hlp0 : 0 ≤ p0.toInt) (hup0 : p0.toInt < u 1) : Met l yX3_firstFor wm_c_firstFortR ({ frames := 4, cells := 0, slots := 0, locals := 240 }) (pw_ ad av (dC, dI) sz [.ref (a 4), .int p0, .ref b0] a k τ ln y g) (va_Qi (fun (r u : Int32) => u = r) (fun (r : Int32) (t : State) => (∃ (y' : Nat → Nat → Int32), ag τ [24, 27] y y' ∧ (r.toInt = -1 ∨ (0 ≤ r.toInt ∧ r.toInt < u 2)) ∧ tw (dC, dI) a k τ ln y' g t.heap)) (fr τ sz)) 0 0 (fr τ sz) := by
  refine Met.ofW (cc := cX3_firstFor) (maxL := 7) (ret := (some .int)) (by decide) rfl ?_
  intro p e s m args below meth c s₁ B hml hv
  obtain ⟨rfl, hsz, hT, hK, hM⟩ := hv
  have hx := B.exec
  have hb := B.bytes
  have hr := B.returns
  have hts := atoms_spec (ws := wm_c_firstFortR) B.pre
  have hown : s.vm.findClass RX3 = some m.cls := findClass_of_methodNamed B.named
  have hlocks := B.notSynchronized
  subst hsz
  generalize hAe : fr τ s.heap.size = A at hM ⊢
  have hA : ∀ q : Nat, s.heap.size ≤ q → A q := fun q h => by rw [← hAe]; exact Or.inr h
  have hF : ∀ q, τ q ≠ 0 → A q := fun q h => by rw [← hAe]; exact Or.inl h
  have hS : va_S A s.heap s.heap [] := va_S.rf
  have hX := hI.1
  have hR := ic_r hI
  have hG : ag τ [24, 27] y y := ag.rf
  have hl := lv_entry ([.ref (a 4), .int p0, .ref b0]) (n := 7) (Nat.le_of_ble_eq_true rfl)
  rw [lg_entry_eq]
  generalize (lg_sl ([.ref (a 4), .int p0, .ref b0]) ++ List.replicate (7 - (lg_sl ([.ref (a 4), .int p0, .ref b0])).length) Slot.unset).toArray = ls at hl ⊢
  have hl : lv_has ls 7 [(0, .ref (a 4)), (1, .int p0), (2, .ref b0)] := hl
  refine lv_iconst (v := (-1)) hx hb dX3_firstFor_0 (by decide) ?_
  refine lv_istore_n (lv' := [(3, .int (-1)), (0, .ref (a 4)), (1, .int p0), (2, .ref b0)]) hx hb dX3_firstFor_1 rfl hl (by decide) rfl (fun ls hl => ?_)
  refine lv_iconst (v := 0) hx hb dX3_firstFor_2 (by decide) ?_
  refine lv_istore (lv' := [(4, .int 0), (3, .int (-1)), (0, .ref (a 4)), (1, .int p0), (2, .ref b0)]) hx hb dX3_firstFor_3 hl (by decide) rfl (fun ls hl => ?_)
  refine lv_iconst (v := 0) hx hb dX3_firstFor_5 (by decide) ?_
  refine lv_istore (lv' := [(5, .int 0), (4, .int 0), (3, .int (-1)), (0, .ref (a 4)), (1, .int p0), (2, .ref b0)]) hx hb dX3_firstFor_6 hl (by decide) rfl (fun ls hl => ?_)
  have loop_8 : ∀ (n : Nat) (i3 : Int32) (w4 : Int32) (i5 : Int32) (y_L8 : Nat → Nat → Int32) (H : Heap) (locs : List Loc) (ls : Array Slot), (u 2 - i5.toInt).toNat < n → ag τ [24, 27] y y_L8 → IC a u τ ln y_L8 g → 0 ≤ i5.toInt → i5.toInt ≤ u 2 → i3.toInt = -1 ∨ (0 ≤ i3.toInt ∧ i3.toInt < u 2) → tw (dC, dI) a k τ ln y_L8 g H → va_S A s.heap H locs → lv_has ls 7 [(0, .ref (a 4)), (1, .int p0), (2, .ref b0), (3, .int i3), (4, .int w4), (5, .int i5)] → W p l e (headSpec wm_c_firstFortR ({ frames := 4, cells := 0, slots := 0, locals := 240 })).room s m ([.ref (a 4), .int p0, .ref b0] : List Value).toArray below meth c H locs 0 0 (MQ below (va_Qi (fun (r u : Int32) => u = r) (fun (r : Int32) (t : State) => (∃ (y' : Nat → Nat → Int32), ag τ [24, 27] y y' ∧ (r.toInt = -1 ∨ (0 ≤ r.toInt ∧ r.toInt < u 2)) ∧ tw (dC, dI) a k τ ln y' g t.heap)) A) ([.ref (a 4), .int p0, .ref b0] : List Value).toArray s 0 0 A) (F0 m 8 ls []) := by
    intro n
    induction n with
    | zero => intro i3 w4 i5 y_L8 H locs ls hlt; exact absurd hlt (Nat.not_lt_zero _)
    | succ n ih_8 =>
      intro i3 w4 i5 y_L8 H locs ls hlt hG hI hi8_0 hi8_1 hi8_2 hT hS hl
      refine lv_iload hx hb dX3_firstFor_8 (lv_at hl 5 rfl) ?_
      refine lv_aload_n hx hb dX3_firstFor_10 rfl (lv_at hl 0 rfl) ?_
      refine tw_get (D := (dC, dI)) (v := .ref (a 1)) (C := RX3) (T := TX3) (N := 12) hx hb hts (fun _ hh => (List.mem_cons_of_mem _ (List.mem_append_right _ (List.mem_append_left _ hh)))) hown hK hT (fx_4 hX) (by decide) cl_e14 rfl 0 (by decide) (hts (.fieldLink RX3 43 "TypingPool$Floor" "book" "LTypingPool$Book;") (List.mem_cons_of_mem _ (List.mem_append_left _ (List.mem_of_getElem? (i := 0) rfl)))) (fun _ h9 => h9) rfl dX3_firstFor_11 ?_
      refine tw_get (D := (dC, dI)) (v := .int (y_L8 (a 1) 5)) (C := RX1) (T := TX1) (N := 8) hx hb hts (fun _ hh => (List.mem_cons_of_mem _ (List.mem_append_right _ (List.mem_append_right _ (List.mem_append_left _ hh))))) hown hK hT (fx_1 hX) (by decide) cl_e11 rfl 5 (by decide) (hts (.fieldLink RX3 85 "TypingPool$Book" "pieceCount" "I") (List.mem_cons_of_mem _ (List.mem_append_left _ (List.mem_of_getElem? (i := 1) rfl)))) (fun _ h9 => h9) rfl dX3_firstFor_14 ?_
      have hc_1 := ic_2 hI
      refine lv_icmp_ge (tgt := 76) hx hb dX3_firstFor_17 (by decide) (fun c_2 => ?_) (fun c_2 => ?_)
      · have nc_2 := z_le hc_1 rfl c_2
        refine lv_iload_n hx hb dX3_firstFor_76 rfl (lv_at hl 3 rfl) ?_
        have hrv : i3.toInt = i3.toInt := rfl
        exact W.iret (v := i3) hx hb hr (fun t ht hW9 => ⟨⟨i3, i3, rfl, rfl, ⟨y_L8, hG, by omega, tw_at ht hT⟩⟩, hS.F ht⟩) hS.2.2 dX3_firstFor_77
      · have nc_2 := z_nle hc_1 rfl c_2
        refine lv_aload_n hx hb dX3_firstFor_20 rfl (lv_at hl 0 rfl) ?_
        refine lv_iload hx hb dX3_firstFor_21 (lv_at hl 5 rfl) ?_
        have hFc := tw_free hF hS hA
        refine va_calli (va_runV (As := [.int i5]) (rest := []) ⟨hx, hb, hml, hown, hts⟩ (c_stateOft l dC dI ad av H.size a k τ ln y_L8 g u i5 hI (by omega) (by omega)) (cwV 1 hts (gi_4 (List.mem_cons_of_mem _ (List.mem_append_left _ (List.mem_of_getElem? (i := 2) rfl))) (List.mem_cons_of_mem _ (List.mem_append_left _ (List.mem_of_getElem? (i := 3) rfl))) (List.mem_cons_of_mem _ (List.mem_append_left _ (List.mem_of_getElem? (i := 4) rfl))) (List.mem_cons_of_mem _ (List.mem_append_left _ (List.mem_of_getElem? (i := 5) rfl))) (fun _ hh => (List.mem_cons_of_mem _ (List.mem_append_right _ (List.mem_append_right _ (List.mem_append_right _ (List.mem_append_left _ hh)))))) gd_c_stateOft) rfl rfl rfl (by decide +kernel) ⟨Nat.le_of_ble_eq_true rfl, Nat.le_of_ble_eq_true rfl⟩) ⟨pw_blind, tw_recv hK hT (fx_4 hX) (by decide) cl_e14 rfl, pw_use hT hK hFc hS hM⟩ rfl rfl hl.1 rfl (lv_room (Nat.le_of_ble_eq_true rfl)) dX3_firstFor_23 ⟨Nat.le_of_ble_eq_true rfl, Nat.le_of_ble_eq_true rfl⟩) hS (fun q _ h => hFc q h) hFc (fun r0 r_3 t H locs ht hvm hw hB hz1 hk1 hS => ?_)
        refine W.widen (k := 0) (n := 0) (Nat.le_of_ble_eq_true rfl) (Nat.le_of_ble_eq_true rfl) ?_
        clear hvm hz1 hk1
        subst hw
        have hT := hB
        rw [ht] at hT
        refine lv_iconst (v := 1) hx hb dX3_firstFor_26 (by decide) ?_
        refine lv_icmp_ne (tgt := 70) hx hb dX3_firstFor_27 (by decide) (fun c_4 => ?_) (fun c_4 => ?_)
        · have nc_4 := z_ne rfl (zk (x := 1) 1 rfl) c_4
          obtain ⟨x_5, ex_5⟩ : ∃ y : Int32, y = i5 + Int32.ofInt 1 := ⟨_, rfl⟩
          have hx_5 := z_add ex_5 rfl (zk (x := Int32.ofInt 1) 1 rfl) (by omega) (by omega)
          refine lv_iinc (v := x_5) (lv' := [(5, .int x_5), (0, .ref (a 4)), (1, .int p0), (2, .ref b0), (3, .int i3), (4, .int w4)]) hx hb dX3_firstFor_70 hl (k := 5) rfl ex_5.symm (by decide) rfl (fun ls hl => ?_)
          refine lv_goto (tgt := 8) hx hb dX3_firstFor_73 (by decide) ?_
          exact ih_8  i3 w4 x_5 y_L8 H _ ls (by omega) hG hI (by omega) (by omega) (by omega) hT hS (lv_sub hl [1, 2, 3, 4, 5, 0] rfl)
        · have nc_4 := z_eq rfl (zk (x := 1) 1 rfl) c_4
          refine lv_aload_n hx hb dX3_firstFor_30 rfl (lv_at hl 0 rfl) ?_
          refine lv_iload_n hx hb dX3_firstFor_31 rfl (lv_at hl 1 rfl) ?_
          refine lv_iload hx hb dX3_firstFor_32 (lv_at hl 5 rfl) ?_
          refine lv_aload_n hx hb dX3_firstFor_34 rfl (lv_at hl 2 rfl) ?_
          have hFc := tw_free hF hS hA
          refine va_calli (va_runV (As := [.int p0, .int i5, .ref b0]) (rest := []) ⟨hx, hb, hml, hown, hts⟩ (c_mayDotR l dC dI ad av H.size a k τ ln y_L8 g u p0 i5 b0 hI h_b0 (by omega) (by omega) (by omega) (by omega)) (cwV 3 hts (gi_4 (List.mem_cons_of_mem _ (List.mem_append_left _ (List.mem_of_getElem? (i := 6) rfl))) (List.mem_cons_of_mem _ (List.mem_append_left _ (List.mem_of_getElem? (i := 7) rfl))) (List.mem_cons_of_mem _ (List.mem_append_left _ (List.mem_of_getElem? (i := 8) rfl))) (List.mem_cons_of_mem _ (List.mem_append_left _ (List.mem_of_getElem? (i := 5) rfl))) (fun _ hh => (List.mem_cons_of_mem _ (List.mem_append_right _ (List.mem_append_right _ (List.mem_append_right _ (List.mem_append_right _ (List.mem_append_left _ hh))))))) gd_c_mayDotR) rfl rfl rfl (by decide +kernel) ⟨Nat.le_of_ble_eq_true rfl, Nat.le_of_ble_eq_true rfl⟩) ⟨pw_blind, tw_recv hK hT (fx_4 hX) (by decide) cl_e14 rfl, pw_use hT hK hFc hS hM⟩ rfl rfl hl.1 rfl (lv_room (Nat.le_of_ble_eq_true rfl)) dX3_firstFor_35 ⟨Nat.le_of_ble_eq_true rfl, Nat.le_of_ble_eq_true rfl⟩) hS (fun q _ h => hFc q h) hFc (fun r0 r_6 t H locs ht hvm hw hB hz1 hk1 hS => ?_)
          refine W.widen (k := 0) (n := 0) (Nat.le_of_ble_eq_true rfl) (Nat.le_of_ble_eq_true rfl) ?_
          clear hvm hz1 hk1
          subst hw
          rcases hB with ⟨y_7, hre, hgy_7, hT⟩ | ⟨y_8, hre, hgy_8, hT⟩
          · refine lq_top (v := 1) hre ?_
            rw [ht] at hT
            have hG := hG.tr hgy_7 (by decide)
            have hI := hI.ag hgy_7 (by decide)
            refine lv_if_eq (tgt := 70) hx hb dX3_firstFor_38 (by decide) (fun c_9 => absurd c_9 (by decide)) (fun c_9 => ?_)
            refine lv_aload_n hx hb dX3_firstFor_41 rfl (lv_at hl 0 rfl) ?_
            refine lv_iload_n hx hb dX3_firstFor_42 rfl (lv_at hl 1 rfl) ?_
            refine lv_iload hx hb dX3_firstFor_43 (lv_at hl 5 rfl) ?_
            refine lv_aload_n hx hb dX3_firstFor_45 rfl (lv_at hl 2 rfl) ?_
            have hFc := tw_free hF hS hA
            refine va_calli (va_runV (As := [.int p0, .int i5, .ref b0]) (rest := []) ⟨hx, hb, hml, hown, hts⟩ (c_hastetR l dC dI ad av H.size a k τ ln y_7 g u p0 i5 b0 hI h_b0 (by omega) (by omega) (by omega) (by omega)) (cwV 3 hts (gi_4 (List.mem_cons_of_mem _ (List.mem_append_left _ (List.mem_of_getElem? (i := 9) rfl))) (List.mem_cons_of_mem _ (List.mem_append_left _ (List.mem_of_getElem? (i := 10) rfl))) (List.mem_cons_of_mem _ (List.mem_append_left _ (List.mem_of_getElem? (i := 11) rfl))) (List.mem_cons_of_mem _ (List.mem_append_left _ (List.mem_of_getElem? (i := 5) rfl))) (fun _ hh => (List.mem_cons_of_mem _ (List.mem_append_right _ (List.mem_append_right _ (List.mem_append_right _ (List.mem_append_right _ (List.mem_append_right _ (List.mem_append_left _ hh)))))))) gd_c_hastetR) rfl rfl rfl (by decide +kernel) ⟨Nat.le_of_ble_eq_true rfl, Nat.le_of_ble_eq_true rfl⟩) ⟨pw_blind, tw_recv hK hT (fx_4 hX) (by decide) cl_e14 rfl, pw_use hT hK hFc hS hM⟩ rfl rfl hl.1 rfl (lv_room (Nat.le_of_ble_eq_true rfl)) dX3_firstFor_46 ⟨Nat.le_of_ble_eq_true rfl, Nat.le_of_ble_eq_true rfl⟩) hS (fun q _ h => hFc q h) hFc (fun r0 r_10 t H locs ht hvm hw hB hz1 hk1 hS => ?_)
            refine W.widen (k := 0) (n := 0) (Nat.le_of_ble_eq_true rfl) (Nat.le_of_ble_eq_true rfl) ?_
            clear hvm hz1 hk1
            subst hw
            obtain ⟨y_11, hgy_11, hT⟩ := hB
            rw [ht] at hT
            have hG := hG.tr hgy_11 (by decide)
            have hI := hI.ag hgy_11 (by decide)
            refine lv_istore (lv' := [(6, .int r_10), (0, .ref (a 4)), (1, .int p0), (2, .ref b0), (3, .int i3), (4, .int w4), (5, .int i5)]) hx hb dX3_firstFor_49 hl (by decide) rfl (fun ls hl => ?_)
            refine lv_iload_n hx hb dX3_firstFor_51 rfl (lv_at hl 4 rfl) ?_
            refine lv_iconst (v := (-1)) hx hb dX3_firstFor_52 (by decide) ?_
            refine lv_icmp_eq (tgt := 63) hx hb dX3_firstFor_53 (by decide) (fun c_12 => ?_) (fun c_12 => ?_)
            · have nc_12 := z_eq rfl (zk (x := (-1)) (-1) rfl) c_12
              refine lv_iload hx hb dX3_firstFor_63 (lv_at hl 6 rfl) ?_
              refine lv_istore_n (lv' := [(3, .int i5), (6, .int r_10), (0, .ref (a 4)), (1, .int p0), (2, .ref b0), (4, .int w4), (5, .int i5)]) hx hb dX3_firstFor_65 rfl hl (by decide) rfl (fun ls hl => ?_)
              refine lv_iload hx hb dX3_firstFor_66 (lv_at hl 1 rfl) ?_
              refine lv_istore (lv' := [(4, .int r_10), (3, .int i5), (6, .int r_10), (0, .ref (a 4)), (1, .int p0), (2, .ref b0), (5, .int i5)]) hx hb dX3_firstFor_68 hl (by decide) rfl (fun ls hl => ?_)
              obtain ⟨x_13, ex_13⟩ : ∃ y : Int32, y = i5 + Int32.ofInt 1 := ⟨_, rfl⟩
              have hx_13 := z_add ex_13 rfl (zk (x := Int32.ofInt 1) 1 rfl) (by omega) (by omega)
              refine lv_iinc (v := x_13) (lv' := [(5, .int x_13), (4, .int r_10), (3, .int i5), (6, .int r_10), (0, .ref (a 4)), (1, .int p0), (2, .ref b0)]) hx hb dX3_firstFor_70 hl (k := 6) rfl ex_13.symm (by decide) rfl (fun ls hl => ?_)
              refine lv_goto (tgt := 8) hx hb dX3_firstFor_73 (by decide) ?_
              exact ih_8  i5 r_10 x_13 y_11 H _ ls (by omega) hG hI (by omega) (by omega) (by omega) hT hS (lv_sub hl [4, 5, 6, 2, 1, 0] rfl)
            · have nc_12 := z_ne rfl (zk (x := (-1)) (-1) rfl) c_12
              refine lv_iload hx hb dX3_firstFor_56 (lv_at hl 0 rfl) ?_
              refine lv_iload hx hb dX3_firstFor_58 (lv_at hl 5 rfl) ?_
              refine lv_icmp_ge (tgt := 70) hx hb dX3_firstFor_60 (by decide) (fun c_14 => ?_) (fun c_14 => ?_)
              · have nc_14 := z_le rfl rfl c_14
                obtain ⟨x_15, ex_15⟩ : ∃ y : Int32, y = i5 + Int32.ofInt 1 := ⟨_, rfl⟩
                have hx_15 := z_add ex_15 rfl (zk (x := Int32.ofInt 1) 1 rfl) (by omega) (by omega)
                refine lv_iinc (v := x_15) (lv' := [(5, .int x_15), (6, .int r_10), (0, .ref (a 4)), (1, .int p0), (2, .ref b0), (3, .int i3), (4, .int w4)]) hx hb dX3_firstFor_70 hl (k := 6) rfl ex_15.symm (by decide) rfl (fun ls hl => ?_)
                refine lv_goto (tgt := 8) hx hb dX3_firstFor_73 (by decide) ?_
                exact ih_8  i3 w4 x_15 y_11 H _ ls (by omega) hG hI (by omega) (by omega) (by omega) hT hS (lv_sub hl [2, 3, 4, 5, 6, 0] rfl)
              · have nc_14 := z_nle rfl rfl c_14
                refine lv_iload hx hb dX3_firstFor_63 (lv_at hl 6 rfl) ?_
                refine lv_istore_n (lv' := [(3, .int i5), (6, .int r_10), (0, .ref (a 4)), (1, .int p0), (2, .ref b0), (4, .int w4), (5, .int i5)]) hx hb dX3_firstFor_65 rfl hl (by decide) rfl (fun ls hl => ?_)
                refine lv_iload hx hb dX3_firstFor_66 (lv_at hl 1 rfl) ?_
                refine lv_istore (lv' := [(4, .int r_10), (3, .int i5), (6, .int r_10), (0, .ref (a 4)), (1, .int p0), (2, .ref b0), (5, .int i5)]) hx hb dX3_firstFor_68 hl (by decide) rfl (fun ls hl => ?_)
                obtain ⟨x_16, ex_16⟩ : ∃ y : Int32, y = i5 + Int32.ofInt 1 := ⟨_, rfl⟩
                have hx_16 := z_add ex_16 rfl (zk (x := Int32.ofInt 1) 1 rfl) (by omega) (by omega)
                refine lv_iinc (v := x_16) (lv' := [(5, .int x_16), (4, .int r_10), (3, .int i5), (6, .int r_10), (0, .ref (a 4)), (1, .int p0), (2, .ref b0)]) hx hb dX3_firstFor_70 hl (k := 6) rfl ex_16.symm (by decide) rfl (fun ls hl => ?_)
                refine lv_goto (tgt := 8) hx hb dX3_firstFor_73 (by decide) ?_
                exact ih_8  i5 r_10 x_16 y_11 H _ ls (by omega) hG hI (by omega) (by omega) (by omega) hT hS (lv_sub hl [4, 5, 6, 2, 1, 0] rfl)
          · refine lq_top (v := 0) hre ?_
            rw [ht] at hT
            have hG := hG.tr hgy_8 (by decide)
            have hI := hI.ag hgy_8 (by decide)
            refine lv_if_eq (tgt := 70) hx hb dX3_firstFor_38 (by decide) (fun c_17 => ?_) (fun c_17 => absurd c_17 (by decide))
            obtain ⟨x_18, ex_18⟩ : ∃ y : Int32, y = i5 + Int32.ofInt 1 := ⟨_, rfl⟩
            have hx_18 := z_add ex_18 rfl (zk (x := Int32.ofInt 1) 1 rfl) (by omega) (by omega)
            refine lv_iinc (v := x_18) (lv' := [(5, .int x_18), (0, .ref (a 4)), (1, .int p0), (2, .ref b0), (3, .int i3), (4, .int w4)]) hx hb dX3_firstFor_70 hl (k := 5) rfl ex_18.symm (by decide) rfl (fun ls hl => ?_)
            refine lv_goto (tgt := 8) hx hb dX3_firstFor_73 (by decide) ?_
            exact ih_8  i3 w4 x_18 y_8 H _ ls (by omega) hG hI (by omega) (by omega) (by omega) hT hS (lv_sub hl [1, 2, 3, 4, 5, 0] rfl)
  have hp_19 : (-1 : Int32).toInt = (-1) := (zk (x := (-1)) (-1) rfl)
  have hp_20 : (0 : Int32).toInt = 0 := (zk (x := 0) 0 rfl)
  have hp_21 : (0 : Int32).toInt = 0 := (zk (x := 0) 0 rfl)
  exact loop_8 _ (-1 : Int32) (0 : Int32) (0 : Int32) y s.heap _ ls (Nat.lt_succ_self _) hG hI (by omega) (by omega) (by omega) hT hS (lv_sub hl [3, 4, 5, 2, 1, 0] rfl)
def wo_c_takeAlltR : List Cond := [.fieldLink RX3 43 "TypingPool$Floor" "book" "LTypingPool$Book;", .fieldLink RX3 75 "TypingPool$Book" "handCount" "I", .fieldLink RX3 15 "TypingPool$Floor" "has" "[I", .methodLink RX3 78 yX3_firstFor, .instanceMethod yX3_firstFor, .selects RX3 yX3_firstFor yX3_firstFor, .initialized RX3, .methodLink RX3 82 yX3_take, .instanceMethod yX3_take, .selects RX3 yX3_take yX3_take]
def wm_c_takeAlltR : List Cond := .code yX3_takeAll cX3_takeAll 5 none :: (wo_c_takeAlltR ++ (wsX30 ++ (wsX10 ++ (wm_c_firstFortR ++ (wm_c_taket ++ ([] : List Cond))))))
theorem gd_c_takeAlltR : ∀ w ∈ wm_c_takeAlltR, goodWord w = true := gd_c rfl (gd_a (by decide) (gd_a gd_wsX30 (gd_a gd_wsX10 (gd_a gd_c_firstFortR (gd_a gd_c_taket gd_nil)))))
set_option maxRecDepth 20000 in
theorem im_c_takeAlltR : ∀ w ∈ wm_c_takeAlltR, w ∈ lw_tbl := im_c (in_r [.code yX3_takeAll cX3_takeAll 5 none] [762] (by decide +kernel)) (in_app (in_r wo_c_takeAlltR [426, 125, 431, 763, 765, 9, 83, 815, 817, 12] (by decide +kernel)) (in_app im_wsX30 (in_app im_wsX10 (in_app im_c_firstFortR (in_app im_c_taket im_nil)))))
set_option maxHeartbeats 4000000 in
set_option maxRecDepth 100000 in
theorem c_takeAlltR (l : Launch) (dC : Nat → ClassId) (dI : Nat → Nat → Nat) (ad av : Nat → Nat) (sz : Nat) (a : Nat → Nat) (k : Nat → ClassId) (τ ln : Nat → Nat) (y : Nat → Nat → Int32) (g : Nat → Nat → Option Nat) (u : Nat → Int) (p0 : Int32) (b0 : Nat) (hI : IC a u τ ln y g) (h_b0 : τ b0 = 5) : Met l yX3_takeAll wm_c_takeAlltR ({ frames := 5, cells := 0, slots := 0, locals := 300 }) (pw_ ad av (dC, dI) sz [.ref (a 4), .int p0, .ref b0] a k τ ln y g) (va_Qv (fun (_ : Unit) => True) (fun (_ : Unit) (t : State) => (∃ (y' : Nat → Nat → Int32), ag τ [24, 27, 40, 41, 44, 45, 48] y y' ∧ tw (dC, dI) a k τ ln y' g t.heap)) (fr τ sz)) 0 0 (fr τ sz) := by
  refine Met.ofW (cc := cX3_takeAll) (maxL := 5) (ret := none) (by decide) rfl ?_
  intro p e s m args below meth c s₁ B hml hv
  obtain ⟨rfl, hsz, hT, hK, hM⟩ := hv
  have hx := B.exec
  have hb := B.bytes
  have hr := B.returns
  have hts := atoms_spec (ws := wm_c_takeAlltR) B.pre
  have hown : s.vm.findClass RX3 = some m.cls := findClass_of_methodNamed B.named
  have hlocks := B.notSynchronized
  subst hsz
  generalize hAe : fr τ s.heap.size = A at hM ⊢
  have hA : ∀ q : Nat, s.heap.size ≤ q → A q := fun q h => by rw [← hAe]; exact Or.inr h
  have hF : ∀ q, τ q ≠ 0 → A q := fun q h => by rw [← hAe]; exact Or.inl h
  have hS : va_S A s.heap s.heap [] := va_S.rf
  have hX := hI.1
  have hR := ic_r hI
  have hG : ag τ [24, 27, 40, 41, 44, 45, 48] y y := ag.rf
  have hl := lv_entry ([.ref (a 4), .int p0, .ref b0]) (n := 5) (Nat.le_of_ble_eq_true rfl)
  rw [lg_entry_eq]
  generalize (lg_sl ([.ref (a 4), .int p0, .ref b0]) ++ List.replicate (5 - (lg_sl ([.ref (a 4), .int p0, .ref b0])).length) Slot.unset).toArray = ls at hl ⊢
  have hl : lv_has ls 5 [(0, .ref (a 4)), (1, .int p0), (2, .ref b0)] := hl
  refine lv_iconst (v := 0) hx hb dX3_takeAll_0 (by decide) ?_
  refine lv_istore_n (lv' := [(3, .int 0), (0, .ref (a 4)), (1, .int p0), (2, .ref b0)]) hx hb dX3_takeAll_1 rfl hl (by decide) rfl (fun ls hl => ?_)
  have loop_2 : ∀ (n : Nat) (i3 : Int32) (y_L2 : Nat → Nat → Int32) (H : Heap) (locs : List Loc) (ls : Array Slot), (u 1 - i3.toInt).toNat < n → ag τ [24, 27, 40, 41, 44, 45, 48] y y_L2 → IC a u τ ln y_L2 g → 0 ≤ i3.toInt → i3.toInt ≤ u 1 → tw (dC, dI) a k τ ln y_L2 g H → va_S A s.heap H locs → lv_has ls 5 [(0, .ref (a 4)), (1, .int p0), (2, .ref b0), (3, .int i3)] → W p l e (headSpec wm_c_takeAlltR ({ frames := 5, cells := 0, slots := 0, locals := 300 })).room s m ([.ref (a 4), .int p0, .ref b0] : List Value).toArray below meth c H locs 0 0 (MQ below (va_Qv (fun (_ : Unit) => True) (fun (_ : Unit) (t : State) => (∃ (y' : Nat → Nat → Int32), ag τ [24, 27, 40, 41, 44, 45, 48] y y' ∧ tw (dC, dI) a k τ ln y' g t.heap)) A) ([.ref (a 4), .int p0, .ref b0] : List Value).toArray s 0 0 A) (F0 m 2 ls []) := by
    intro n
    induction n with
    | zero => intro i3 y_L2 H locs ls hlt; exact absurd hlt (Nat.not_lt_zero _)
    | succ n ih_2 =>
      intro i3 y_L2 H locs ls hlt hG hI hi2_0 hi2_1 hT hS hl
      refine lv_iload_n hx hb dX3_takeAll_2 rfl (lv_at hl 3 rfl) ?_
      refine lv_aload_n hx hb dX3_takeAll_3 rfl (lv_at hl 0 rfl) ?_
      refine tw_get (D := (dC, dI)) (v := .ref (a 1)) (C := RX3) (T := TX3) (N := 12) hx hb hts (fun _ hh => (List.mem_cons_of_mem _ (List.mem_append_right _ (List.mem_append_left _ hh)))) hown hK hT (fx_4 hX) (by decide) cl_e14 rfl 0 (by decide) (hts (.fieldLink RX3 43 "TypingPool$Floor" "book" "LTypingPool$Book;") (List.mem_cons_of_mem _ (List.mem_append_left _ (List.mem_of_getElem? (i := 0) rfl)))) (fun _ h9 => h9) rfl dX3_takeAll_4 ?_
      refine tw_get (D := (dC, dI)) (v := .int (y_L2 (a 1) 3)) (C := RX1) (T := TX1) (N := 8) hx hb hts (fun _ hh => (List.mem_cons_of_mem _ (List.mem_append_right _ (List.mem_append_right _ (List.mem_append_left _ hh))))) hown hK hT (fx_1 hX) (by decide) cl_e11 rfl 3 (by decide) (hts (.fieldLink RX3 75 "TypingPool$Book" "handCount" "I") (List.mem_cons_of_mem _ (List.mem_append_left _ (List.mem_of_getElem? (i := 1) rfl)))) (fun _ h9 => h9) rfl dX3_takeAll_7 ?_
      have hc_1 := ic_1 hI
      refine lv_icmp_ge (tgt := 58) hx hb dX3_takeAll_10 (by decide) (fun c_2 => ?_) (fun c_2 => ?_)
      · have nc_2 := z_le hc_1 rfl c_2
        exact W.vret hx hb hr (fun t ht hW9 => ⟨⟨(), rfl, trivial, ⟨y_L2, hG, tw_at ht hT⟩⟩, hS.F ht⟩) hS.2.2 dX3_takeAll_58
      · have nc_2 := z_nle hc_1 rfl c_2
        refine lv_iload_n hx hb dX3_takeAll_13 rfl (lv_at hl 1 rfl) ?_
        refine lv_iload_n hx hb dX3_takeAll_14 rfl (lv_at hl 3 rfl) ?_
        refine lv_ishr hx hb dX3_takeAll_15 ?_
        refine lv_topi (fun x_3 ex_3 => ?_)
        refine lv_iconst (v := 1) hx hb dX3_takeAll_16 (by decide) ?_
        refine lv_iand hx hb dX3_takeAll_17 ?_
        refine lv_topi (fun x_4 ex_4 => ?_)
        have hx_4 := z_and (x := x_3) (zk (x := 1) 1 rfl) (by omega)
        rw [← ex_4] at hx_4
        refine lv_if_ne (tgt := 52) hx hb dX3_takeAll_18 (by decide) (fun c_5 => ?_) (fun c_5 => ?_)
        · have nc_5 := z_ne rfl (zk (x := 0) 0 rfl) c_5
          obtain ⟨x_6, ex_6⟩ : ∃ y : Int32, y = i3 + Int32.ofInt 1 := ⟨_, rfl⟩
          have hx_6 := z_add ex_6 rfl (zk (x := Int32.ofInt 1) 1 rfl) (by omega) (by omega)
          refine lv_iinc (v := x_6) (lv' := [(3, .int x_6), (0, .ref (a 4)), (1, .int p0), (2, .ref b0)]) hx hb dX3_takeAll_52 hl (k := 3) rfl ex_6.symm (by decide) rfl (fun ls hl => ?_)
          refine lv_goto (tgt := 2) hx hb dX3_takeAll_55 (by decide) ?_
          exact ih_2  x_6 y_L2 H _ ls (by omega) hG hI (by omega) (by omega) hT hS (lv_sub hl [1, 2, 3, 0] rfl)
        · have nc_5 := z_eq rfl (zk (x := 0) 0 rfl) c_5
          refine lv_aload_n hx hb dX3_takeAll_21 rfl (lv_at hl 0 rfl) ?_
          refine tw_get (D := (dC, dI)) (v := .ref (a 30)) (C := RX3) (T := TX3) (N := 12) hx hb hts (fun _ hh => (List.mem_cons_of_mem _ (List.mem_append_right _ (List.mem_append_left _ hh)))) hown hK hT (fx_4 hX) (by decide) cl_e14 rfl 3 (by decide) (hts (.fieldLink RX3 15 "TypingPool$Floor" "has" "[I") (List.mem_cons_of_mem _ (List.mem_append_left _ (List.mem_of_getElem? (i := 2) rfl)))) (fun _ h9 => h9) rfl dX3_takeAll_22 ?_
          refine lv_iload_n hx hb dX3_takeAll_25 rfl (lv_at hl 3 rfl) ?_
          refine tw_iald hx hb hK hT 0 (fx_30 hX) (by decide) cl_e40 rfl (z_in rfl (by omega) (by omega)) dX3_takeAll_26 ?_
          refine lv_iconst (v := (-1)) hx hb dX3_takeAll_27 (by decide) ?_
          refine lv_icmp_ne (tgt := 52) hx hb dX3_takeAll_28 (by decide) (fun c_7 => ?_) (fun c_7 => ?_)
          · have nc_7 := z_ne rfl (zk (x := (-1)) (-1) rfl) c_7
            obtain ⟨x_8, ex_8⟩ : ∃ y : Int32, y = i3 + Int32.ofInt 1 := ⟨_, rfl⟩
            have hx_8 := z_add ex_8 rfl (zk (x := Int32.ofInt 1) 1 rfl) (by omega) (by omega)
            refine lv_iinc (v := x_8) (lv' := [(3, .int x_8), (0, .ref (a 4)), (1, .int p0), (2, .ref b0)]) hx hb dX3_takeAll_52 hl (k := 3) rfl ex_8.symm (by decide) rfl (fun ls hl => ?_)
            refine lv_goto (tgt := 2) hx hb dX3_takeAll_55 (by decide) ?_
            exact ih_2  x_8 y_L2 H _ ls (by omega) hG hI (by omega) (by omega) hT hS (lv_sub hl [1, 2, 3, 0] rfl)
          · have nc_7 := z_eq rfl (zk (x := (-1)) (-1) rfl) c_7
            refine lv_aload_n hx hb dX3_takeAll_31 rfl (lv_at hl 0 rfl) ?_
            refine lv_iload_n hx hb dX3_takeAll_32 rfl (lv_at hl 3 rfl) ?_
            refine lv_aload_n hx hb dX3_takeAll_33 rfl (lv_at hl 2 rfl) ?_
            have hFc := tw_free hF hS hA
            refine va_calli (va_runV (As := [.int i3, .ref b0]) (rest := []) ⟨hx, hb, hml, hown, hts⟩ (c_firstFortR l dC dI ad av H.size a k τ ln y_L2 g u i3 b0 hI h_b0 (by omega) (by omega)) (cwV 2 hts (gi_4 (List.mem_cons_of_mem _ (List.mem_append_left _ (List.mem_of_getElem? (i := 3) rfl))) (List.mem_cons_of_mem _ (List.mem_append_left _ (List.mem_of_getElem? (i := 4) rfl))) (List.mem_cons_of_mem _ (List.mem_append_left _ (List.mem_of_getElem? (i := 5) rfl))) (List.mem_cons_of_mem _ (List.mem_append_left _ (List.mem_of_getElem? (i := 6) rfl))) (fun _ hh => (List.mem_cons_of_mem _ (List.mem_append_right _ (List.mem_append_right _ (List.mem_append_right _ (List.mem_append_left _ hh)))))) gd_c_firstFortR) rfl rfl rfl (by decide +kernel) ⟨Nat.le_of_ble_eq_true rfl, Nat.le_of_ble_eq_true rfl⟩) ⟨pw_blind, tw_recv hK hT (fx_4 hX) (by decide) cl_e14 rfl, pw_use hT hK hFc hS hM⟩ rfl rfl hl.1 rfl (lv_room (Nat.le_of_ble_eq_true rfl)) dX3_takeAll_34 ⟨Nat.le_of_ble_eq_true rfl, Nat.le_of_ble_eq_true rfl⟩) hS (fun q _ h => hFc q h) hFc (fun r0 r_9 t H locs ht hvm hw hB hz1 hk1 hS => ?_)
            refine W.widen (k := 0) (n := 0) (Nat.le_of_ble_eq_true rfl) (Nat.le_of_ble_eq_true rfl) ?_
            clear hvm hz1 hk1
            subst hw
            obtain ⟨y_10, hgy_10, hf_11, hT⟩ := hB
            rw [ht] at hT
            have hG := hG.tr hgy_10 (by decide)
            have hI := hI.ag hgy_10 (by decide)
            refine lv_istore (lv' := [(4, .int r_9), (0, .ref (a 4)), (1, .int p0), (2, .ref b0), (3, .int i3)]) hx hb dX3_takeAll_37 hl (by decide) rfl (fun ls hl => ?_)
            refine lv_iload hx hb dX3_takeAll_39 (lv_at hl 0 rfl) ?_
            refine lv_iconst (v := (-1)) hx hb dX3_takeAll_41 (by decide) ?_
            refine lv_icmp_eq (tgt := 52) hx hb dX3_takeAll_42 (by decide) (fun c_12 => ?_) (fun c_12 => ?_)
            · have nc_12 := z_eq rfl (zk (x := (-1)) (-1) rfl) c_12
              obtain ⟨x_13, ex_13⟩ : ∃ y : Int32, y = i3 + Int32.ofInt 1 := ⟨_, rfl⟩
              have hx_13 := z_add ex_13 rfl (zk (x := Int32.ofInt 1) 1 rfl) (by omega) (by omega)
              refine lv_iinc (v := x_13) (lv' := [(3, .int x_13), (4, .int r_9), (0, .ref (a 4)), (1, .int p0), (2, .ref b0)]) hx hb dX3_takeAll_52 hl (k := 4) rfl ex_13.symm (by decide) rfl (fun ls hl => ?_)
              refine lv_goto (tgt := 2) hx hb dX3_takeAll_55 (by decide) ?_
              exact ih_2  x_13 y_10 H _ ls (by omega) hG hI (by omega) (by omega) hT hS (lv_sub hl [2, 3, 4, 0] rfl)
            · have nc_12 := z_ne rfl (zk (x := (-1)) (-1) rfl) c_12
              refine lv_aload_n hx hb dX3_takeAll_45 rfl (lv_at hl 1 rfl) ?_
              refine lv_iload_n hx hb dX3_takeAll_46 rfl (lv_at hl 4 rfl) ?_
              refine lv_iload hx hb dX3_takeAll_47 (lv_at hl 0 rfl) ?_
              have hFc := tw_free hF hS hA
              refine va_callv (va_runV (As := [.int i3, .int r_9]) (rest := []) ⟨hx, hb, hml, hown, hts⟩ (c_taket l dC dI ad av H.size a k τ ln y_10 g u i3 r_9 hI (by omega) (by omega) (by omega) (by omega)) (cwV 2 hts (gi_4 (List.mem_cons_of_mem _ (List.mem_append_left _ (List.mem_of_getElem? (i := 7) rfl))) (List.mem_cons_of_mem _ (List.mem_append_left _ (List.mem_of_getElem? (i := 8) rfl))) (List.mem_cons_of_mem _ (List.mem_append_left _ (List.mem_of_getElem? (i := 9) rfl))) (List.mem_cons_of_mem _ (List.mem_append_left _ (List.mem_of_getElem? (i := 6) rfl))) (fun _ hh => (List.mem_cons_of_mem _ (List.mem_append_right _ (List.mem_append_right _ (List.mem_append_right _ (List.mem_append_right _ (List.mem_append_left _ hh))))))) gd_c_taket) rfl rfl rfl (by decide +kernel) ⟨Nat.le_of_ble_eq_true rfl, Nat.le_of_ble_eq_true rfl⟩) ⟨pw_blind, tw_recv hK hT (fx_4 hX) (by decide) cl_e14 rfl, pw_use hT hK hFc hS hM⟩ rfl rfl hl.1 rfl (lv_room (Nat.le_of_ble_eq_true rfl)) dX3_takeAll_49 ⟨Nat.le_of_ble_eq_true rfl, Nat.le_of_ble_eq_true rfl⟩) hS (fun q _ h => hFc q h) hFc (fun u0 t H locs ht hvm hw hB hz1 hk1 hS => ?_)
              refine W.widen (k := 0) (n := 0) (Nat.le_of_ble_eq_true rfl) (Nat.le_of_ble_eq_true rfl) ?_
              clear hvm hz1 hk1
              obtain ⟨y_15, hgy_15, hT⟩ := hB
              rw [ht] at hT
              have hG := hG.tr hgy_15 (by decide)
              have hI := hI.ag hgy_15 (by decide)
              obtain ⟨x_16, ex_16⟩ : ∃ y : Int32, y = i3 + Int32.ofInt 1 := ⟨_, rfl⟩
              have hx_16 := z_add ex_16 rfl (zk (x := Int32.ofInt 1) 1 rfl) (by omega) (by omega)
              refine lv_iinc (v := x_16) (lv' := [(3, .int x_16), (4, .int r_9), (0, .ref (a 4)), (1, .int p0), (2, .ref b0)]) hx hb dX3_takeAll_52 hl (k := 4) rfl ex_16.symm (by decide) rfl (fun ls hl => ?_)
              refine lv_goto (tgt := 2) hx hb dX3_takeAll_55 (by decide) ?_
              exact ih_2  x_16 y_15 H _ ls (by omega) hG hI (by omega) (by omega) hT hS (lv_sub hl [2, 3, 4, 0] rfl)
  have hp_17 : (0 : Int32).toInt = 0 := (zk (x := 0) 0 rfl)
  exact loop_2 _ (0 : Int32) y s.heap _ ls (Nat.lt_succ_self _) hG hI (by omega) (by omega) hT hS (lv_sub hl [1, 2, 3, 0] rfl)
def wo_c_runOntR : List Cond := [.fieldLink RX3 9 "TypingPool$Floor" "now" "I", .fieldLink RX3 43 "TypingPool$Floor" "book" "LTypingPool$Book;", .methodLink RX3 57 yX1_awayMask, .instanceMethod yX1_awayMask, .selects RX1 yX1_awayMask yX1_awayMask, .initialized RX1, .methodLink RX3 63 yX3_takeAll, .instanceMethod yX3_takeAll, .selects RX3 yX3_takeAll yX3_takeAll, .initialized RX3, .methodLink RX3 67 yX3_changeFrom, .instanceMethod yX3_changeFrom, .selects RX3 yX3_changeFrom yX3_changeFrom, .methodLink RX3 71 yX3_workAll, .instanceMethod yX3_workAll, .selects RX3 yX3_workAll yX3_workAll]
def wm_c_runOntR : List Cond := .code yX3_runOn cX3_runOn 8 none :: (wo_c_runOntR ++ (wsX30 ++ (wm_c_awayMask ++ (wm_c_takeAlltR ++ (wm_c_changeFromt ++ (wm_c_workAllt ++ ([] : List Cond)))))))
theorem gd_c_runOntR : ∀ w ∈ wm_c_runOntR, goodWord w = true := gd_c rfl (gd_a (by decide) (gd_a gd_wsX30 (gd_a gd_c_awayMask (gd_a gd_c_takeAlltR (gd_a gd_c_changeFromt (gd_a gd_c_workAllt gd_nil))))))
set_option maxRecDepth 20000 in
theorem im_c_runOntR : ∀ w ∈ wm_c_runOntR, w ∈ lw_tbl := im_c (in_r [.code yX3_runOn cX3_runOn 8 none] [754] (by decide +kernel)) (in_app (in_r wo_c_runOntR [428, 426, 755, 756, 757, 71, 759, 761, 8, 83, 824, 826, 13, 847, 849, 15] (by decide +kernel)) (in_app im_wsX30 (in_app im_c_awayMask (in_app im_c_takeAlltR (in_app im_c_changeFromt (in_app im_c_workAllt im_nil))))))
set_option maxHeartbeats 4000000 in
set_option maxRecDepth 100000 in
theorem c_runOntR (l : Launch) (dC : Nat → ClassId) (dI : Nat → Nat → Nat) (ad av : Nat → Nat) (sz : Nat) (a : Nat → Nat) (k : Nat → ClassId) (τ ln : Nat → Nat) (y : Nat → Nat → Int32) (g : Nat → Nat → Option Nat) (u : Nat → Int) (p0 : Int32) (b0 : Nat) (p1 : Int32) (hI : IC a u τ ln y g) (h_b0 : τ b0 = 5) (hup0 : p0.toInt ≤ 960) : Met l yX3_runOn wm_c_runOntR ({ frames := 6, cells := 0, slots := 0, locals := 360 }) (pw_ ad av (dC, dI) sz [.ref (a 4), .int p0, .ref b0, .int p1] a k τ ln y g) (va_Qv (fun (_ : Unit) => True) (fun (_ : Unit) (t : State) => (∃ (y' : Nat → Nat → Int32), ag τ [14, 24, 27, 40, 41, 42, 43, 44, 45, 46, 47, 48] y y' ∧ tw (dC, dI) a k τ ln y' g t.heap)) (fr τ sz)) 0 0 (fr τ sz) := by
  refine Met.ofW (cc := cX3_runOn) (maxL := 8) (ret := none) (by decide) rfl ?_
  intro p e s m args below meth c s₁ B hml hv
  obtain ⟨rfl, hsz, hT, hK, hM⟩ := hv
  have hx := B.exec
  have hb := B.bytes
  have hr := B.returns
  have hts := atoms_spec (ws := wm_c_runOntR) B.pre
  have hown : s.vm.findClass RX3 = some m.cls := findClass_of_methodNamed B.named
  have hlocks := B.notSynchronized
  subst hsz
  generalize hAe : fr τ s.heap.size = A at hM ⊢
  have hA : ∀ q : Nat, s.heap.size ≤ q → A q := fun q h => by rw [← hAe]; exact Or.inr h
  have hF : ∀ q, τ q ≠ 0 → A q := fun q h => by rw [← hAe]; exact Or.inl h
  have hS : va_S A s.heap s.heap [] := va_S.rf
  have hX := hI.1
  have hR := ic_r hI
  have hG : ag τ [14, 24, 27, 40, 41, 42, 43, 44, 45, 46, 47, 48] y y := ag.rf
  have hl := lv_entry ([.ref (a 4), .int p0, .ref b0, .int p1]) (n := 8) (Nat.le_of_ble_eq_true rfl)
  rw [lg_entry_eq]
  generalize (lg_sl ([.ref (a 4), .int p0, .ref b0, .int p1]) ++ List.replicate (8 - (lg_sl ([.ref (a 4), .int p0, .ref b0, .int p1])).length) Slot.unset).toArray = ls at hl ⊢
  have hl : lv_has ls 8 [(0, .ref (a 4)), (1, .int p0), (2, .ref b0), (3, .int p1)] := hl
  refine lv_aload_n hx hb dX3_runOn_0 rfl (lv_at hl 0 rfl) ?_
  refine tw_get (D := (dC, dI)) (v := .int (y (a 4) 2)) (C := RX3) (T := TX3) (N := 12) hx hb hts (fun _ hh => (List.mem_cons_of_mem _ (List.mem_append_right _ (List.mem_append_left _ hh)))) hown hK hT (fx_4 hX) (by decide) cl_e14 rfl 2 (by decide) (hts (.fieldLink RX3 9 "TypingPool$Floor" "now" "I") (List.mem_cons_of_mem _ (List.mem_append_left _ (List.mem_of_getElem? (i := 0) rfl)))) (fun _ h9 => h9) rfl dX3_runOn_1 ?_
  refine lv_iload_n hx hb dX3_runOn_4 rfl (lv_at hl 1 rfl) ?_
  refine lv_iadd hx hb dX3_runOn_5 ?_
  refine lv_topi (fun x_1 ex_1 => ?_)
  refine lv_istore (lv' := [(4, .int x_1), (0, .ref (a 4)), (1, .int p0), (2, .ref b0), (3, .int p1)]) hx hb dX3_runOn_6 hl (by decide) rfl (fun ls hl => ?_)
  refine lv_iconst (v := 0) hx hb dX3_runOn_8 (by decide) ?_
  refine lv_istore (lv' := [(5, .int 0), (4, .int x_1), (0, .ref (a 4)), (1, .int p0), (2, .ref b0), (3, .int p1)]) hx hb dX3_runOn_9 hl (by decide) rfl (fun ls hl => ?_)
  have loop_11 : ∀ (n : Nat) (i5 : Int32) (y_L11 : Nat → Nat → Int32) (H : Heap) (locs : List Loc) (ls : Array Slot), (p0.toInt - i5.toInt).toNat < n → ag τ [14, 24, 27, 40, 41, 42, 43, 44, 45, 46, 47, 48] y y_L11 → IC a u τ ln y_L11 g → 0 ≤ i5.toInt → tw (dC, dI) a k τ ln y_L11 g H → va_S A s.heap H locs → lv_has ls 8 [(0, .ref (a 4)), (1, .int p0), (2, .ref b0), (3, .int p1), (4, .int x_1), (5, .int i5)] → W p l e (headSpec wm_c_runOntR ({ frames := 6, cells := 0, slots := 0, locals := 360 })).room s m ([.ref (a 4), .int p0, .ref b0, .int p1] : List Value).toArray below meth c H locs 0 0 (MQ below (va_Qv (fun (_ : Unit) => True) (fun (_ : Unit) (t : State) => (∃ (y' : Nat → Nat → Int32), ag τ [14, 24, 27, 40, 41, 42, 43, 44, 45, 46, 47, 48] y y' ∧ tw (dC, dI) a k τ ln y' g t.heap)) A) ([.ref (a 4), .int p0, .ref b0, .int p1] : List Value).toArray s 0 0 A) (F0 m 11 ls []) := by
    intro n
    induction n with
    | zero => intro i5 y_L11 H locs ls hlt; exact absurd hlt (Nat.not_lt_zero _)
    | succ n ih_11 =>
      intro i5 y_L11 H locs ls hlt hG hI hi11_0 hT hS hl
      refine lv_iload hx hb dX3_runOn_11 (lv_at hl 5 rfl) ?_
      refine lv_iload_n hx hb dX3_runOn_13 rfl (lv_at hl 1 rfl) ?_
      refine lv_icmp_ge (tgt := 99) hx hb dX3_runOn_14 (by decide) (fun c_2 => ?_) (fun c_2 => ?_)
      · have nc_2 := z_le rfl rfl c_2
        exact W.vret hx hb hr (fun t ht hW9 => ⟨⟨(), rfl, trivial, ⟨y_L11, hG, tw_at ht hT⟩⟩, hS.F ht⟩) hS.2.2 dX3_runOn_99
      · have nc_2 := z_nle rfl rfl c_2
        refine lv_aload_n hx hb dX3_runOn_17 rfl (lv_at hl 0 rfl) ?_
        refine tw_get (D := (dC, dI)) (v := .int (y_L11 (a 4) 2)) (C := RX3) (T := TX3) (N := 12) hx hb hts (fun _ hh => (List.mem_cons_of_mem _ (List.mem_append_right _ (List.mem_append_left _ hh)))) hown hK hT (fx_4 hX) (by decide) cl_e14 rfl 2 (by decide) (hts (.fieldLink RX3 9 "TypingPool$Floor" "now" "I") (List.mem_cons_of_mem _ (List.mem_append_left _ (List.mem_of_getElem? (i := 0) rfl)))) (fun _ h9 => h9) rfl dX3_runOn_18 ?_
        refine lv_iload hx hb dX3_runOn_21 (lv_at hl 4 rfl) ?_
        refine lv_icmp_ge (tgt := 99) hx hb dX3_runOn_23 (by decide) (fun c_3 => ?_) (fun c_3 => ?_)
        · have nc_3 := z_le rfl rfl c_3
          exact W.vret hx hb hr (fun t ht hW9 => ⟨⟨(), rfl, trivial, ⟨y_L11, hG, tw_at ht hT⟩⟩, hS.F ht⟩) hS.2.2 dX3_runOn_99
        · have nc_3 := z_nle rfl rfl c_3
          refine lv_aload_n hx hb dX3_runOn_26 rfl (lv_at hl 0 rfl) ?_
          refine tw_get (D := (dC, dI)) (v := .ref (a 1)) (C := RX3) (T := TX3) (N := 12) hx hb hts (fun _ hh => (List.mem_cons_of_mem _ (List.mem_append_right _ (List.mem_append_left _ hh)))) hown hK hT (fx_4 hX) (by decide) cl_e14 rfl 0 (by decide) (hts (.fieldLink RX3 43 "TypingPool$Floor" "book" "LTypingPool$Book;") (List.mem_cons_of_mem _ (List.mem_append_left _ (List.mem_of_getElem? (i := 1) rfl)))) (fun _ h9 => h9) rfl dX3_runOn_27 ?_
          refine lv_aload_n hx hb dX3_runOn_30 rfl (lv_at hl 0 rfl) ?_
          refine tw_get (D := (dC, dI)) (v := .int (y_L11 (a 4) 2)) (C := RX3) (T := TX3) (N := 12) hx hb hts (fun _ hh => (List.mem_cons_of_mem _ (List.mem_append_right _ (List.mem_append_left _ hh)))) hown hK hT (fx_4 hX) (by decide) cl_e14 rfl 2 (by decide) (hts (.fieldLink RX3 9 "TypingPool$Floor" "now" "I") (List.mem_cons_of_mem _ (List.mem_append_left _ (List.mem_of_getElem? (i := 0) rfl)))) (fun _ h9 => h9) rfl dX3_runOn_31 ?_
          have hFc := tw_free hF hS hA
          refine va_calli (va_runV (As := [.int (y_L11 (a 4) 2)]) (rest := []) ⟨hx, hb, hml, hown, hts⟩ (c_awayMask l dC dI ad av H.size a k τ ln y_L11 g u (y_L11 (a 4) 2) hI ) (cwV 1 hts (gi_4 (List.mem_cons_of_mem _ (List.mem_append_left _ (List.mem_of_getElem? (i := 2) rfl))) (List.mem_cons_of_mem _ (List.mem_append_left _ (List.mem_of_getElem? (i := 3) rfl))) (List.mem_cons_of_mem _ (List.mem_append_left _ (List.mem_of_getElem? (i := 4) rfl))) (List.mem_cons_of_mem _ (List.mem_append_left _ (List.mem_of_getElem? (i := 5) rfl))) (fun _ hh => (List.mem_cons_of_mem _ (List.mem_append_right _ (List.mem_append_right _ (List.mem_append_left _ hh))))) gd_c_awayMask) rfl rfl rfl (by decide +kernel) ⟨Nat.le_of_ble_eq_true rfl, Nat.le_of_ble_eq_true rfl⟩) ⟨pw_blind, tw_recv hK hT (fx_1 hX) (by decide) cl_e11 rfl, pw_use hT hK hFc hS hM⟩ rfl rfl hl.1 rfl (lv_room (Nat.le_of_ble_eq_true rfl)) dX3_runOn_34 ⟨Nat.le_of_ble_eq_true rfl, Nat.le_of_ble_eq_true rfl⟩) hS (fun q _ h => hFc q h) hFc (fun r0 r_4 t H locs ht hvm hw hB hz1 hk1 hS => ?_)
          refine W.widen (k := 0) (n := 0) (Nat.le_of_ble_eq_true rfl) (Nat.le_of_ble_eq_true rfl) ?_
          clear hvm hz1 hk1
          subst hw
          have hT := hB
          rw [ht] at hT
          refine lv_iload_n hx hb dX3_runOn_37 rfl (lv_at hl 3 rfl) ?_
          refine lv_iconst (v := (-1)) hx hb dX3_runOn_38 (by decide) ?_
          refine lv_icmp_ne (tgt := 46) hx hb dX3_runOn_39 (by decide) (fun c_5 => ?_) (fun c_5 => ?_)
          · have nc_5 := z_ne rfl (zk (x := (-1)) (-1) rfl) c_5
            refine lv_iconst (v := 1) hx hb dX3_runOn_46 (by decide) ?_
            refine lv_iload_n hx hb dX3_runOn_47 rfl (lv_at hl 3 rfl) ?_
            refine lv_ishl hx hb dX3_runOn_48 ?_
            refine lv_topi (fun x_6 ex_6 => ?_)
            refine lv_ior hx hb dX3_runOn_49 ?_
            refine lv_topi (fun x_7 ex_7 => ?_)
            refine lv_istore (lv' := [(6, .int x_7), (0, .ref (a 4)), (1, .int p0), (2, .ref b0), (3, .int p1), (4, .int x_1), (5, .int i5)]) hx hb dX3_runOn_50 hl (by decide) rfl (fun ls hl => ?_)
            refine lv_aload_n hx hb dX3_runOn_52 rfl (lv_at hl 1 rfl) ?_
            refine lv_iload hx hb dX3_runOn_53 (lv_at hl 0 rfl) ?_
            refine lv_aload_n hx hb dX3_runOn_55 rfl (lv_at hl 3 rfl) ?_
            have hFc := tw_free hF hS hA
            refine va_callv (va_runV (As := [.int x_7, .ref b0]) (rest := []) ⟨hx, hb, hml, hown, hts⟩ (c_takeAlltR l dC dI ad av H.size a k τ ln y_L11 g u x_7 b0 hI h_b0) (cwV 2 hts (gi_4 (List.mem_cons_of_mem _ (List.mem_append_left _ (List.mem_of_getElem? (i := 6) rfl))) (List.mem_cons_of_mem _ (List.mem_append_left _ (List.mem_of_getElem? (i := 7) rfl))) (List.mem_cons_of_mem _ (List.mem_append_left _ (List.mem_of_getElem? (i := 8) rfl))) (List.mem_cons_of_mem _ (List.mem_append_left _ (List.mem_of_getElem? (i := 9) rfl))) (fun _ hh => (List.mem_cons_of_mem _ (List.mem_append_right _ (List.mem_append_right _ (List.mem_append_right _ (List.mem_append_left _ hh)))))) gd_c_takeAlltR) rfl rfl rfl (by decide +kernel) ⟨Nat.le_of_ble_eq_true rfl, Nat.le_of_ble_eq_true rfl⟩) ⟨pw_blind, tw_recv hK hT (fx_4 hX) (by decide) cl_e14 rfl, pw_use hT hK hFc hS hM⟩ rfl rfl hl.1 rfl (lv_room (Nat.le_of_ble_eq_true rfl)) dX3_runOn_56 ⟨Nat.le_of_ble_eq_true rfl, Nat.le_of_ble_eq_true rfl⟩) hS (fun q _ h => hFc q h) hFc (fun u0 t H locs ht hvm hw hB hz1 hk1 hS => ?_)
            refine W.widen (k := 0) (n := 0) (Nat.le_of_ble_eq_true rfl) (Nat.le_of_ble_eq_true rfl) ?_
            clear hvm hz1 hk1
            obtain ⟨y_9, hgy_9, hT⟩ := hB
            rw [ht] at hT
            have hG := hG.tr hgy_9 (by decide)
            have hI := hI.ag hgy_9 (by decide)
            refine lv_aload_n hx hb dX3_runOn_59 rfl (lv_at hl 1 rfl) ?_
            refine lv_iload hx hb dX3_runOn_60 (lv_at hl 0 rfl) ?_
            refine lv_iload hx hb dX3_runOn_62 (lv_at hl 5 rfl) ?_
            have hFc := tw_free hF hS hA
            refine va_calli (va_runV (As := [.int x_7, .int x_1]) (rest := []) ⟨hx, hb, hml, hown, hts⟩ (c_changeFromt l dC dI ad av H.size a k τ ln y_9 g u x_7 x_1 hI ) (cwV 2 hts (gi_4 (List.mem_cons_of_mem _ (List.mem_append_left _ (List.mem_of_getElem? (i := 10) rfl))) (List.mem_cons_of_mem _ (List.mem_append_left _ (List.mem_of_getElem? (i := 11) rfl))) (List.mem_cons_of_mem _ (List.mem_append_left _ (List.mem_of_getElem? (i := 12) rfl))) (List.mem_cons_of_mem _ (List.mem_append_left _ (List.mem_of_getElem? (i := 9) rfl))) (fun _ hh => (List.mem_cons_of_mem _ (List.mem_append_right _ (List.mem_append_right _ (List.mem_append_right _ (List.mem_append_right _ (List.mem_append_left _ hh))))))) gd_c_changeFromt) rfl rfl rfl (by decide +kernel) ⟨Nat.le_of_ble_eq_true rfl, Nat.le_of_ble_eq_true rfl⟩) ⟨pw_blind, tw_recv hK hT (fx_4 hX) (by decide) cl_e14 rfl, pw_use hT hK hFc hS hM⟩ rfl rfl hl.1 rfl (lv_room (Nat.le_of_ble_eq_true rfl)) dX3_runOn_64 ⟨Nat.le_of_ble_eq_true rfl, Nat.le_of_ble_eq_true rfl⟩) hS (fun q _ h => hFc q h) hFc (fun r0 r_10 t H locs ht hvm hw hB hz1 hk1 hS => ?_)
            refine W.widen (k := 0) (n := 0) (Nat.le_of_ble_eq_true rfl) (Nat.le_of_ble_eq_true rfl) ?_
            clear hvm hz1 hk1
            subst hw
            have hT := hB
            rw [ht] at hT
            refine lv_aload_n hx hb dX3_runOn_67 rfl (lv_at hl 1 rfl) ?_
            refine tw_get (D := (dC, dI)) (v := .int (y_9 (a 4) 2)) (C := RX3) (T := TX3) (N := 12) hx hb hts (fun _ hh => (List.mem_cons_of_mem _ (List.mem_append_right _ (List.mem_append_left _ hh)))) hown hK hT (fx_4 hX) (by decide) cl_e14 rfl 2 (by decide) (hts (.fieldLink RX3 9 "TypingPool$Floor" "now" "I") (List.mem_cons_of_mem _ (List.mem_append_left _ (List.mem_of_getElem? (i := 0) rfl)))) (fun _ h9 => h9) rfl dX3_runOn_68 ?_
            refine lv_isub hx hb dX3_runOn_71 ?_
            refine lv_topi (fun x_11 ex_11 => ?_)
            refine lv_istore (lv' := [(7, .int x_11), (6, .int x_7), (0, .ref (a 4)), (1, .int p0), (2, .ref b0), (3, .int p1), (4, .int x_1), (5, .int i5)]) hx hb dX3_runOn_72 hl (by decide) rfl (fun ls hl => ?_)
            refine lv_aload_n hx hb dX3_runOn_74 rfl (lv_at hl 2 rfl) ?_
            refine lv_iload hx hb dX3_runOn_75 (lv_at hl 1 rfl) ?_
            refine lv_iload hx hb dX3_runOn_77 (lv_at hl 0 rfl) ?_
            have hFc := tw_free hF hS hA
            refine va_callv (va_runV (As := [.int x_7, .int x_11]) (rest := []) ⟨hx, hb, hml, hown, hts⟩ (c_workAllt l dC dI ad av H.size a k τ ln y_9 g u x_7 x_11 hI ) (cwV 2 hts (gi_4 (List.mem_cons_of_mem _ (List.mem_append_left _ (List.mem_of_getElem? (i := 13) rfl))) (List.mem_cons_of_mem _ (List.mem_append_left _ (List.mem_of_getElem? (i := 14) rfl))) (List.mem_cons_of_mem _ (List.mem_append_left _ (List.mem_of_getElem? (i := 15) rfl))) (List.mem_cons_of_mem _ (List.mem_append_left _ (List.mem_of_getElem? (i := 9) rfl))) (fun _ hh => (List.mem_cons_of_mem _ (List.mem_append_right _ (List.mem_append_right _ (List.mem_append_right _ (List.mem_append_right _ (List.mem_append_right _ (List.mem_append_left _ hh)))))))) gd_c_workAllt) rfl rfl rfl (by decide +kernel) ⟨Nat.le_of_ble_eq_true rfl, Nat.le_of_ble_eq_true rfl⟩) ⟨pw_blind, tw_recv hK hT (fx_4 hX) (by decide) cl_e14 rfl, pw_use hT hK hFc hS hM⟩ rfl rfl hl.1 rfl (lv_room (Nat.le_of_ble_eq_true rfl)) dX3_runOn_79 ⟨Nat.le_of_ble_eq_true rfl, Nat.le_of_ble_eq_true rfl⟩) hS (fun q _ h => hFc q h) hFc (fun u0 t H locs ht hvm hw hB hz1 hk1 hS => ?_)
            refine W.widen (k := 0) (n := 0) (Nat.le_of_ble_eq_true rfl) (Nat.le_of_ble_eq_true rfl) ?_
            clear hvm hz1 hk1
            obtain ⟨y_13, hgy_13, hT⟩ := hB
            rw [ht] at hT
            have hG := hG.tr hgy_13 (by decide)
            have hI := hI.ag hgy_13 (by decide)
            refine lv_aload_n hx hb dX3_runOn_82 rfl (lv_at hl 2 rfl) ?_
            refine lv_dup hx hb dX3_runOn_83 rfl ?_
            refine tw_get (D := (dC, dI)) (v := .int (y_13 (a 4) 2)) (C := RX3) (T := TX3) (N := 12) hx hb hts (fun _ hh => (List.mem_cons_of_mem _ (List.mem_append_right _ (List.mem_append_left _ hh)))) hown hK hT (fx_4 hX) (by decide) cl_e14 rfl 2 (by decide) (hts (.fieldLink RX3 9 "TypingPool$Floor" "now" "I") (List.mem_cons_of_mem _ (List.mem_append_left _ (List.mem_of_getElem? (i := 0) rfl)))) (fun _ h9 => h9) rfl dX3_runOn_84 ?_
            refine lv_iload hx hb dX3_runOn_87 (lv_at hl 0 rfl) ?_
            refine lv_iadd hx hb dX3_runOn_89 ?_
            refine lv_topi (fun x_14 ex_14 => ?_)
            refine tw_put (D := (dC, dI)) (x := x_14) (ty := .int) (C := RX3) (T := TX3) (N := 12) hx hb hts (fun _ hh => (List.mem_cons_of_mem _ (List.mem_append_right _ (List.mem_append_left _ hh)))) tyX3 tyX3_ok nmX3 hown hK hT hF hS (fx_4 hX) (by decide) cl_e14 rfl 2 (by decide) (hts (.fieldLink RX3 9 "TypingPool$Floor" "now" "I") (List.mem_cons_of_mem _ (List.mem_append_left _ (List.mem_of_getElem? (i := 0) rfl)))) (fun _ h9 => h9) rfl (tyX3_ok 2 (by decide)) rfl rfl (Nat.le_of_ble_eq_true rfl) rfl dX3_runOn_90 (fun H locs hT hS => ?_)
            obtain ⟨y_15, hy_15, hT⟩ : ∃ z : Nat → Nat → Int32, z = up2 y_13 (a 4) 2 x_14 ∧ tw (dC, dI) a k τ ln z g H := ⟨_, rfl, hT⟩
            have hG : ag τ [14, 24, 27, 40, 41, 42, 43, 44, 45, 46, 47, 48] y y_15 := by rw [hy_15]; exact hG.up (fx_4 hX) (by decide)
            have hI := hI.ag (S := [14]) (y' := y_15) (by rw [hy_15]; exact ag.one (fx_4 hX)) (by decide)
            obtain ⟨x_16, ex_16⟩ : ∃ y : Int32, y = i5 + Int32.ofInt 1 := ⟨_, rfl⟩
            have hx_16 := z_add ex_16 rfl (zk (x := Int32.ofInt 1) 1 rfl) (by omega) (by omega)
            refine lv_iinc (v := x_16) (lv' := [(5, .int x_16), (7, .int x_11), (6, .int x_7), (0, .ref (a 4)), (1, .int p0), (2, .ref b0), (3, .int p1), (4, .int x_1)]) hx hb dX3_runOn_93 hl (k := 7) rfl ex_16.symm (by decide) rfl (fun ls hl => ?_)
            refine lv_goto (tgt := 11) hx hb dX3_runOn_96 (by decide) ?_
            exact ih_11  x_16 y_15 H _ ls (by omega) hG hI (by omega) hT hS (lv_sub hl [3, 4, 5, 6, 7, 0] rfl)
          · have nc_5 := z_eq rfl (zk (x := (-1)) (-1) rfl) c_5
            refine lv_iconst (v := 0) hx hb dX3_runOn_42 (by decide) ?_
            refine lv_goto (tgt := 49) hx hb dX3_runOn_43 (by decide) ?_
            refine lv_ior hx hb dX3_runOn_49 ?_
            refine lv_topi (fun x_17 ex_17 => ?_)
            refine lv_istore (lv' := [(6, .int x_17), (0, .ref (a 4)), (1, .int p0), (2, .ref b0), (3, .int p1), (4, .int x_1), (5, .int i5)]) hx hb dX3_runOn_50 hl (by decide) rfl (fun ls hl => ?_)
            refine lv_aload_n hx hb dX3_runOn_52 rfl (lv_at hl 1 rfl) ?_
            refine lv_iload hx hb dX3_runOn_53 (lv_at hl 0 rfl) ?_
            refine lv_aload_n hx hb dX3_runOn_55 rfl (lv_at hl 3 rfl) ?_
            have hFc := tw_free hF hS hA
            refine va_callv (va_runV (As := [.int x_17, .ref b0]) (rest := []) ⟨hx, hb, hml, hown, hts⟩ (c_takeAlltR l dC dI ad av H.size a k τ ln y_L11 g u x_17 b0 hI h_b0) (cwV 2 hts (gi_4 (List.mem_cons_of_mem _ (List.mem_append_left _ (List.mem_of_getElem? (i := 6) rfl))) (List.mem_cons_of_mem _ (List.mem_append_left _ (List.mem_of_getElem? (i := 7) rfl))) (List.mem_cons_of_mem _ (List.mem_append_left _ (List.mem_of_getElem? (i := 8) rfl))) (List.mem_cons_of_mem _ (List.mem_append_left _ (List.mem_of_getElem? (i := 9) rfl))) (fun _ hh => (List.mem_cons_of_mem _ (List.mem_append_right _ (List.mem_append_right _ (List.mem_append_right _ (List.mem_append_left _ hh)))))) gd_c_takeAlltR) rfl rfl rfl (by decide +kernel) ⟨Nat.le_of_ble_eq_true rfl, Nat.le_of_ble_eq_true rfl⟩) ⟨pw_blind, tw_recv hK hT (fx_4 hX) (by decide) cl_e14 rfl, pw_use hT hK hFc hS hM⟩ rfl rfl hl.1 rfl (lv_room (Nat.le_of_ble_eq_true rfl)) dX3_runOn_56 ⟨Nat.le_of_ble_eq_true rfl, Nat.le_of_ble_eq_true rfl⟩) hS (fun q _ h => hFc q h) hFc (fun u0 t H locs ht hvm hw hB hz1 hk1 hS => ?_)
            refine W.widen (k := 0) (n := 0) (Nat.le_of_ble_eq_true rfl) (Nat.le_of_ble_eq_true rfl) ?_
            clear hvm hz1 hk1
            obtain ⟨y_19, hgy_19, hT⟩ := hB
            rw [ht] at hT
            have hG := hG.tr hgy_19 (by decide)
            have hI := hI.ag hgy_19 (by decide)
            refine lv_aload_n hx hb dX3_runOn_59 rfl (lv_at hl 1 rfl) ?_
            refine lv_iload hx hb dX3_runOn_60 (lv_at hl 0 rfl) ?_
            refine lv_iload hx hb dX3_runOn_62 (lv_at hl 5 rfl) ?_
            have hFc := tw_free hF hS hA
            refine va_calli (va_runV (As := [.int x_17, .int x_1]) (rest := []) ⟨hx, hb, hml, hown, hts⟩ (c_changeFromt l dC dI ad av H.size a k τ ln y_19 g u x_17 x_1 hI ) (cwV 2 hts (gi_4 (List.mem_cons_of_mem _ (List.mem_append_left _ (List.mem_of_getElem? (i := 10) rfl))) (List.mem_cons_of_mem _ (List.mem_append_left _ (List.mem_of_getElem? (i := 11) rfl))) (List.mem_cons_of_mem _ (List.mem_append_left _ (List.mem_of_getElem? (i := 12) rfl))) (List.mem_cons_of_mem _ (List.mem_append_left _ (List.mem_of_getElem? (i := 9) rfl))) (fun _ hh => (List.mem_cons_of_mem _ (List.mem_append_right _ (List.mem_append_right _ (List.mem_append_right _ (List.mem_append_right _ (List.mem_append_left _ hh))))))) gd_c_changeFromt) rfl rfl rfl (by decide +kernel) ⟨Nat.le_of_ble_eq_true rfl, Nat.le_of_ble_eq_true rfl⟩) ⟨pw_blind, tw_recv hK hT (fx_4 hX) (by decide) cl_e14 rfl, pw_use hT hK hFc hS hM⟩ rfl rfl hl.1 rfl (lv_room (Nat.le_of_ble_eq_true rfl)) dX3_runOn_64 ⟨Nat.le_of_ble_eq_true rfl, Nat.le_of_ble_eq_true rfl⟩) hS (fun q _ h => hFc q h) hFc (fun r0 r_20 t H locs ht hvm hw hB hz1 hk1 hS => ?_)
            refine W.widen (k := 0) (n := 0) (Nat.le_of_ble_eq_true rfl) (Nat.le_of_ble_eq_true rfl) ?_
            clear hvm hz1 hk1
            subst hw
            have hT := hB
            rw [ht] at hT
            refine lv_aload_n hx hb dX3_runOn_67 rfl (lv_at hl 1 rfl) ?_
            refine tw_get (D := (dC, dI)) (v := .int (y_19 (a 4) 2)) (C := RX3) (T := TX3) (N := 12) hx hb hts (fun _ hh => (List.mem_cons_of_mem _ (List.mem_append_right _ (List.mem_append_left _ hh)))) hown hK hT (fx_4 hX) (by decide) cl_e14 rfl 2 (by decide) (hts (.fieldLink RX3 9 "TypingPool$Floor" "now" "I") (List.mem_cons_of_mem _ (List.mem_append_left _ (List.mem_of_getElem? (i := 0) rfl)))) (fun _ h9 => h9) rfl dX3_runOn_68 ?_
            refine lv_isub hx hb dX3_runOn_71 ?_
            refine lv_topi (fun x_21 ex_21 => ?_)
            refine lv_istore (lv' := [(7, .int x_21), (6, .int x_17), (0, .ref (a 4)), (1, .int p0), (2, .ref b0), (3, .int p1), (4, .int x_1), (5, .int i5)]) hx hb dX3_runOn_72 hl (by decide) rfl (fun ls hl => ?_)
            refine lv_aload_n hx hb dX3_runOn_74 rfl (lv_at hl 2 rfl) ?_
            refine lv_iload hx hb dX3_runOn_75 (lv_at hl 1 rfl) ?_
            refine lv_iload hx hb dX3_runOn_77 (lv_at hl 0 rfl) ?_
            have hFc := tw_free hF hS hA
            refine va_callv (va_runV (As := [.int x_17, .int x_21]) (rest := []) ⟨hx, hb, hml, hown, hts⟩ (c_workAllt l dC dI ad av H.size a k τ ln y_19 g u x_17 x_21 hI ) (cwV 2 hts (gi_4 (List.mem_cons_of_mem _ (List.mem_append_left _ (List.mem_of_getElem? (i := 13) rfl))) (List.mem_cons_of_mem _ (List.mem_append_left _ (List.mem_of_getElem? (i := 14) rfl))) (List.mem_cons_of_mem _ (List.mem_append_left _ (List.mem_of_getElem? (i := 15) rfl))) (List.mem_cons_of_mem _ (List.mem_append_left _ (List.mem_of_getElem? (i := 9) rfl))) (fun _ hh => (List.mem_cons_of_mem _ (List.mem_append_right _ (List.mem_append_right _ (List.mem_append_right _ (List.mem_append_right _ (List.mem_append_right _ (List.mem_append_left _ hh)))))))) gd_c_workAllt) rfl rfl rfl (by decide +kernel) ⟨Nat.le_of_ble_eq_true rfl, Nat.le_of_ble_eq_true rfl⟩) ⟨pw_blind, tw_recv hK hT (fx_4 hX) (by decide) cl_e14 rfl, pw_use hT hK hFc hS hM⟩ rfl rfl hl.1 rfl (lv_room (Nat.le_of_ble_eq_true rfl)) dX3_runOn_79 ⟨Nat.le_of_ble_eq_true rfl, Nat.le_of_ble_eq_true rfl⟩) hS (fun q _ h => hFc q h) hFc (fun u0 t H locs ht hvm hw hB hz1 hk1 hS => ?_)
            refine W.widen (k := 0) (n := 0) (Nat.le_of_ble_eq_true rfl) (Nat.le_of_ble_eq_true rfl) ?_
            clear hvm hz1 hk1
            obtain ⟨y_23, hgy_23, hT⟩ := hB
            rw [ht] at hT
            have hG := hG.tr hgy_23 (by decide)
            have hI := hI.ag hgy_23 (by decide)
            refine lv_aload_n hx hb dX3_runOn_82 rfl (lv_at hl 2 rfl) ?_
            refine lv_dup hx hb dX3_runOn_83 rfl ?_
            refine tw_get (D := (dC, dI)) (v := .int (y_23 (a 4) 2)) (C := RX3) (T := TX3) (N := 12) hx hb hts (fun _ hh => (List.mem_cons_of_mem _ (List.mem_append_right _ (List.mem_append_left _ hh)))) hown hK hT (fx_4 hX) (by decide) cl_e14 rfl 2 (by decide) (hts (.fieldLink RX3 9 "TypingPool$Floor" "now" "I") (List.mem_cons_of_mem _ (List.mem_append_left _ (List.mem_of_getElem? (i := 0) rfl)))) (fun _ h9 => h9) rfl dX3_runOn_84 ?_
            refine lv_iload hx hb dX3_runOn_87 (lv_at hl 0 rfl) ?_
            refine lv_iadd hx hb dX3_runOn_89 ?_
            refine lv_topi (fun x_24 ex_24 => ?_)
            refine tw_put (D := (dC, dI)) (x := x_24) (ty := .int) (C := RX3) (T := TX3) (N := 12) hx hb hts (fun _ hh => (List.mem_cons_of_mem _ (List.mem_append_right _ (List.mem_append_left _ hh)))) tyX3 tyX3_ok nmX3 hown hK hT hF hS (fx_4 hX) (by decide) cl_e14 rfl 2 (by decide) (hts (.fieldLink RX3 9 "TypingPool$Floor" "now" "I") (List.mem_cons_of_mem _ (List.mem_append_left _ (List.mem_of_getElem? (i := 0) rfl)))) (fun _ h9 => h9) rfl (tyX3_ok 2 (by decide)) rfl rfl (Nat.le_of_ble_eq_true rfl) rfl dX3_runOn_90 (fun H locs hT hS => ?_)
            obtain ⟨y_25, hy_25, hT⟩ : ∃ z : Nat → Nat → Int32, z = up2 y_23 (a 4) 2 x_24 ∧ tw (dC, dI) a k τ ln z g H := ⟨_, rfl, hT⟩
            have hG : ag τ [14, 24, 27, 40, 41, 42, 43, 44, 45, 46, 47, 48] y y_25 := by rw [hy_25]; exact hG.up (fx_4 hX) (by decide)
            have hI := hI.ag (S := [14]) (y' := y_25) (by rw [hy_25]; exact ag.one (fx_4 hX)) (by decide)
            obtain ⟨x_26, ex_26⟩ : ∃ y : Int32, y = i5 + Int32.ofInt 1 := ⟨_, rfl⟩
            have hx_26 := z_add ex_26 rfl (zk (x := Int32.ofInt 1) 1 rfl) (by omega) (by omega)
            refine lv_iinc (v := x_26) (lv' := [(5, .int x_26), (7, .int x_21), (6, .int x_17), (0, .ref (a 4)), (1, .int p0), (2, .ref b0), (3, .int p1), (4, .int x_1)]) hx hb dX3_runOn_93 hl (k := 7) rfl ex_26.symm (by decide) rfl (fun ls hl => ?_)
            refine lv_goto (tgt := 11) hx hb dX3_runOn_96 (by decide) ?_
            exact ih_11  x_26 y_25 H _ ls (by omega) hG hI (by omega) hT hS (lv_sub hl [3, 4, 5, 6, 7, 0] rfl)
  have hp_27 : (0 : Int32).toInt = 0 := (zk (x := 0) 0 rfl)
  exact loop_11 _ (0 : Int32) y s.heap _ ls (Nat.lt_succ_self _) hG hI (by omega) hT hS (lv_sub hl [2, 3, 4, 5, 1, 0] rfl)
def wo_c_isKnown : List Cond := [.fieldLink RX5 11 "TypingPool$Ledger" "corrections" "[LTypingPool$Correction;", .fieldLink RX5 36 "TypingPool$Correction" "day" "I", .fieldLink RX5 21 "TypingPool$Ledger" "as" "I", .fieldLink RX5 39 "TypingPool$Correction" "undone" "I"]
def wm_c_isKnown : List Cond := .code yX5_isKnown cX5_isKnown 3 (some .boolean) :: (wo_c_isKnown ++ (wsX50 ++ (wsX20 ++ ([] : List Cond))))
theorem gd_c_isKnown : ∀ w ∈ wm_c_isKnown, goodWord w = true := gd_c rfl (gd_a (by decide) (gd_a gd_wsX50 (gd_a gd_wsX20 gd_nil)))
set_option maxRecDepth 20000 in
theorem im_c_isKnown : ∀ w ∈ wm_c_isKnown, w ∈ lw_tbl := im_c (in_r [.code yX5_isKnown cX5_isKnown 3 (some .boolean)] [951] (by decide +kernel)) (in_app (in_r wo_c_isKnown [490, 909, 494, 917] (by decide +kernel)) (in_app im_wsX50 (in_app im_wsX20 im_nil)))
set_option maxHeartbeats 4000000 in
set_option maxRecDepth 100000 in
theorem c_isKnown (l : Launch) (dC : Nat → ClassId) (dI : Nat → Nat → Nat) (ad av : Nat → Nat) (sz : Nat) (a : Nat → Nat) (k : Nat → ClassId) (τ ln : Nat → Nat) (y : Nat → Nat → Int32) (g : Nat → Nat → Option Nat) (u : Nat → Int) (p0 : Int32) (hI : IC a u τ ln y g) (hlp0 : 0 ≤ p0.toInt) (hup0 : p0.toInt < u 5) : Met l yX5_isKnown wm_c_isKnown ({ frames := 0, cells := 0, slots := 0, locals := 0 }) (pw_ ad av (dC, dI) sz [.ref (a 5), .int p0] a k τ ln y g) (va_Qi (fun (r u : Int32) => u = r) (fun (r : Int32) (t : State) => (r = 1 ∧ tw (dC, dI) a k τ ln y g t.heap) ∨ (r = 0 ∧ tw (dC, dI) a k τ ln y g t.heap)) (fr τ sz)) 0 0 (fr τ sz) := by
  refine Met.ofW (cc := cX5_isKnown) (maxL := 3) (ret := (some .boolean)) (by decide) rfl ?_
  intro p e s m args below meth c s₁ B hml hv
  obtain ⟨rfl, hsz, hT, hK, hM⟩ := hv
  have hx := B.exec
  have hb := B.bytes
  have hr := B.returns
  have hts := atoms_spec (ws := wm_c_isKnown) B.pre
  have hown : s.vm.findClass RX5 = some m.cls := findClass_of_methodNamed B.named
  have hlocks := B.notSynchronized
  subst hsz
  generalize hAe : fr τ s.heap.size = A at hM ⊢
  have hA : ∀ q : Nat, s.heap.size ≤ q → A q := fun q h => by rw [← hAe]; exact Or.inr h
  have hF : ∀ q, τ q ≠ 0 → A q := fun q h => by rw [← hAe]; exact Or.inl h
  have hS : va_S A s.heap s.heap [] := va_S.rf
  have hX := hI.1
  have hR := ic_r hI
  have hl := lv_entry ([.ref (a 5), .int p0]) (n := 3) (Nat.le_of_ble_eq_true rfl)
  rw [lg_entry_eq]
  generalize (lg_sl ([.ref (a 5), .int p0]) ++ List.replicate (3 - (lg_sl ([.ref (a 5), .int p0])).length) Slot.unset).toArray = ls at hl ⊢
  have hl : lv_has ls 3 [(0, .ref (a 5)), (1, .int p0)] := hl
  refine lv_aload_n hx hb dX5_isKnown_0 rfl (lv_at hl 0 rfl) ?_
  refine tw_get (D := (dC, dI)) (v := .ref (a 40)) (C := RX5) (T := TX5) (N := 6) hx hb hts (fun _ hh => (List.mem_cons_of_mem _ (List.mem_append_right _ (List.mem_append_left _ hh)))) hown hK hT (fx_5 hX) (by decide) cl_e15 rfl 3 (by decide) (hts (.fieldLink RX5 11 "TypingPool$Ledger" "corrections" "[LTypingPool$Correction;") (List.mem_cons_of_mem _ (List.mem_append_left _ (List.mem_of_getElem? (i := 0) rfl)))) (fun _ h9 => h9) rfl dX5_isKnown_1 ?_
  refine lv_iload_n hx hb dX5_isKnown_4 rfl (lv_at hl 1 rfl) ?_
  refine tw_aald hx hb hK hT 7 (fx_40 hX) (by decide) cl_e50 rfl (z_in rfl (by omega) (by omega)) dX5_isKnown_5 ?_
  obtain ⟨q_1, hgq_1, htq_1⟩ := ic_l40 hI (x := p0) rfl (by omega) (by omega)
  refine lq_topr hgq_1 ?_
  refine lv_astore_n (lv' := [(2, .ref q_1), (0, .ref (a 5)), (1, .int p0)]) hx hb dX5_isKnown_6 rfl hl (by decide) rfl (fun ls hl => ?_)
  refine lv_aload_n hx hb dX5_isKnown_7 rfl (lv_at hl 0 rfl) ?_
  refine tw_get (D := (dC, dI)) (v := .int (y q_1 1)) (C := RX2) (T := TX2) (N := 6) hx hb hts (fun _ hh => (List.mem_cons_of_mem _ (List.mem_append_right _ (List.mem_append_right _ (List.mem_append_left _ hh))))) hown hK hT htq_1 (by decide) cl_e4 rfl 1 (by decide) (hts (.fieldLink RX5 36 "TypingPool$Correction" "day" "I") (List.mem_cons_of_mem _ (List.mem_append_left _ (List.mem_of_getElem? (i := 1) rfl)))) (fun _ h9 => h9) rfl dX5_isKnown_8 ?_
  refine lv_aload_n hx hb dX5_isKnown_11 rfl (lv_at hl 1 rfl) ?_
  refine tw_get (D := (dC, dI)) (v := .int (y (a 5) 5)) (C := RX5) (T := TX5) (N := 6) hx hb hts (fun _ hh => (List.mem_cons_of_mem _ (List.mem_append_right _ (List.mem_append_left _ hh)))) hown hK hT (fx_5 hX) (by decide) cl_e15 rfl 5 (by decide) (hts (.fieldLink RX5 21 "TypingPool$Ledger" "as" "I") (List.mem_cons_of_mem _ (List.mem_append_left _ (List.mem_of_getElem? (i := 2) rfl)))) (fun _ h9 => h9) rfl dX5_isKnown_12 ?_
  have hc_2 := ic_8 hI
  refine lv_icmp_gt (tgt := 41) hx hb dX5_isKnown_15 (by decide) (fun c_3 => ?_) (fun c_3 => ?_)
  · have nc_3 := z_lt hc_2 rfl c_3
    refine lv_iconst (v := 0) hx hb dX5_isKnown_41 (by decide) ?_
    exact W.zret (v := 0) hx hb hr (by decide) (fun t ht hW9 => ⟨⟨0, 0, rfl, rfl, Or.inr (⟨rfl, tw_at ht hT⟩)⟩, hS.F ht⟩) hS.2.2 dX5_isKnown_42
  · have nc_3 := z_nlt hc_2 rfl c_3
    refine lv_aload_n hx hb dX5_isKnown_18 rfl (lv_at hl 0 rfl) ?_
    refine tw_get (D := (dC, dI)) (v := .int (y q_1 5)) (C := RX2) (T := TX2) (N := 6) hx hb hts (fun _ hh => (List.mem_cons_of_mem _ (List.mem_append_right _ (List.mem_append_right _ (List.mem_append_left _ hh))))) hown hK hT htq_1 (by decide) cl_e4 rfl 5 (by decide) (hts (.fieldLink RX5 39 "TypingPool$Correction" "undone" "I") (List.mem_cons_of_mem _ (List.mem_append_left _ (List.mem_of_getElem? (i := 3) rfl)))) (fun _ h9 => h9) rfl dX5_isKnown_19 ?_
    refine lv_iconst (v := (-1)) hx hb dX5_isKnown_22 (by decide) ?_
    refine lv_icmp_eq (tgt := 37) hx hb dX5_isKnown_23 (by decide) (fun c_4 => ?_) (fun c_4 => ?_)
    · have nc_4 := z_eq rfl (zk (x := (-1)) (-1) rfl) c_4
      refine lv_iconst (v := 1) hx hb dX5_isKnown_37 (by decide) ?_
      refine lv_goto (tgt := 42) hx hb dX5_isKnown_38 (by decide) ?_
      exact W.zret (v := 1) hx hb hr (by decide) (fun t ht hW9 => ⟨⟨1, 1, rfl, rfl, Or.inl ⟨rfl, tw_at ht hT⟩⟩, hS.F ht⟩) hS.2.2 dX5_isKnown_42
    · have nc_4 := z_ne rfl (zk (x := (-1)) (-1) rfl) c_4
      refine lv_aload_n hx hb dX5_isKnown_26 rfl (lv_at hl 0 rfl) ?_
      refine tw_get (D := (dC, dI)) (v := .int (y q_1 5)) (C := RX2) (T := TX2) (N := 6) hx hb hts (fun _ hh => (List.mem_cons_of_mem _ (List.mem_append_right _ (List.mem_append_right _ (List.mem_append_left _ hh))))) hown hK hT htq_1 (by decide) cl_e4 rfl 5 (by decide) (hts (.fieldLink RX5 39 "TypingPool$Correction" "undone" "I") (List.mem_cons_of_mem _ (List.mem_append_left _ (List.mem_of_getElem? (i := 3) rfl)))) (fun _ h9 => h9) rfl dX5_isKnown_27 ?_
      refine lv_aload_n hx hb dX5_isKnown_30 rfl (lv_at hl 1 rfl) ?_
      refine tw_get (D := (dC, dI)) (v := .int (y (a 5) 5)) (C := RX5) (T := TX5) (N := 6) hx hb hts (fun _ hh => (List.mem_cons_of_mem _ (List.mem_append_right _ (List.mem_append_left _ hh)))) hown hK hT (fx_5 hX) (by decide) cl_e15 rfl 5 (by decide) (hts (.fieldLink RX5 21 "TypingPool$Ledger" "as" "I") (List.mem_cons_of_mem _ (List.mem_append_left _ (List.mem_of_getElem? (i := 2) rfl)))) (fun _ h9 => h9) rfl dX5_isKnown_31 ?_
      have hc_5 := ic_8 hI
      refine lv_icmp_le (tgt := 41) hx hb dX5_isKnown_34 (by decide) (fun c_6 => ?_) (fun c_6 => ?_)
      · have nc_6 := z_le rfl hc_5 c_6
        refine lv_iconst (v := 0) hx hb dX5_isKnown_41 (by decide) ?_
        exact W.zret (v := 0) hx hb hr (by decide) (fun t ht hW9 => ⟨⟨0, 0, rfl, rfl, Or.inr (⟨rfl, tw_at ht hT⟩)⟩, hS.F ht⟩) hS.2.2 dX5_isKnown_42
      · have nc_6 := z_nle rfl hc_5 c_6
        refine lv_iconst (v := 1) hx hb dX5_isKnown_37 (by decide) ?_
        refine lv_goto (tgt := 42) hx hb dX5_isKnown_38 (by decide) ?_
        exact W.zret (v := 1) hx hb hr (by decide) (fun t ht hW9 => ⟨⟨1, 1, rfl, rfl, Or.inl ⟨rfl, tw_at ht hT⟩⟩, hS.F ht⟩) hS.2.2 dX5_isKnown_42
def wo_c_whose : List Cond := [.fieldLink RX5 11 "TypingPool$Ledger" "corrections" "[LTypingPool$Correction;", .fieldLink RX5 28 "TypingPool$Ledger" "rules" "LTypingPool$Rules;", .fieldLink RX5 42 "TypingPool$Rules" "letters" "[I", .fieldLink RX5 48 "TypingPool$Correction" "t" "I", .fieldLink RX5 51 "TypingPool$Correction" "\x72" "I", .fieldLink RX5 54 "TypingPool$Correction" "a" "I", .fieldLink RX5 32 "TypingPool$Ledger" "floor" "LTypingPool$Floor;", .fieldLink RX5 57 "TypingPool$Floor" "knew" "[I", .fieldLink RX5 62 "TypingPool$Correction" "piece" "I", .fieldLink RX5 36 "TypingPool$Correction" "day" "I", .methodLink RX5 65 yX10_holding, .instanceMethod yX10_holding, .selects RX10 yX10_holding yX10_holding, .initialized RX10, .methodLink RX5 69 yX10_give, .instanceMethod yX10_give, .selects RX10 yX10_give yX10_give]
def wm_c_whose : List Cond := .code yX5_whose cX5_whose 5 (some .int) :: (wo_c_whose ++ (wsX50 ++ (wsX100 ++ (wsX20 ++ (wsX30 ++ (wm_c_holdingN ++ (wm_c_give ++ ([] : List Cond))))))))
theorem gd_c_whose : ∀ w ∈ wm_c_whose, goodWord w = true := gd_c rfl (gd_a (by decide) (gd_a gd_wsX50 (gd_a gd_wsX100 (gd_a gd_wsX20 (gd_a gd_wsX30 (gd_a gd_c_holdingN (gd_a gd_c_give gd_nil)))))))
set_option maxRecDepth 20000 in
theorem im_c_whose : ∀ w ∈ wm_c_whose, w ∈ lw_tbl := im_c (in_r [.code yX5_whose cX5_whose 5 (some .int)] [955] (by decide +kernel)) (in_app (in_r wo_c_whose [490, 488, 402, 911, 913, 915, 489, 453, 907, 909, 956, 780, 781, 72, 957, 784, 785] (by decide +kernel)) (in_app im_wsX50 (in_app im_wsX100 (in_app im_wsX20 (in_app im_wsX30 (in_app im_c_holdingN (in_app im_c_give im_nil)))))))
set_option maxHeartbeats 4000000 in
set_option maxRecDepth 100000 in
theorem c_whose (l : Launch) (dC : Nat → ClassId) (dI : Nat → Nat → Nat) (ad av : Nat → Nat) (sz : Nat) (a : Nat → Nat) (k : Nat → ClassId) (τ ln : Nat → Nat) (y : Nat → Nat → Int32) (g : Nat → Nat → Option Nat) (u : Nat → Int) (p0 : Int32) (hI : IC a u τ ln y g) (hlp0 : 0 ≤ p0.toInt) (hup0 : p0.toInt < u 5) : Met l yX5_whose wm_c_whose ({ frames := 3, cells := 0, slots := 0, locals := 180 }) (pw_ ad av (dC, dI) sz [.ref (a 5), .int p0] a k τ ln y g) (va_Qi (fun (r u : Int32) => u = r) (fun (r : Int32) (t : State) => (∃ (y' : Nat → Nat → Int32), ag τ [24, 27] y y' ∧ tw (dC, dI) a k τ ln y' g t.heap)) (fr τ sz)) 0 0 (fr τ sz) := by
  refine Met.ofW (cc := cX5_whose) (maxL := 5) (ret := (some .int)) (by decide) rfl ?_
  intro p e s m args below meth c s₁ B hml hv
  obtain ⟨rfl, hsz, hT, hK, hM⟩ := hv
  have hx := B.exec
  have hb := B.bytes
  have hr := B.returns
  have hts := atoms_spec (ws := wm_c_whose) B.pre
  have hown : s.vm.findClass RX5 = some m.cls := findClass_of_methodNamed B.named
  have hlocks := B.notSynchronized
  subst hsz
  generalize hAe : fr τ s.heap.size = A at hM ⊢
  have hA : ∀ q : Nat, s.heap.size ≤ q → A q := fun q h => by rw [← hAe]; exact Or.inr h
  have hF : ∀ q, τ q ≠ 0 → A q := fun q h => by rw [← hAe]; exact Or.inl h
  have hS : va_S A s.heap s.heap [] := va_S.rf
  have hX := hI.1
  have hR := ic_r hI
  have hG : ag τ [24, 27] y y := ag.rf
  have hl := lv_entry ([.ref (a 5), .int p0]) (n := 5) (Nat.le_of_ble_eq_true rfl)
  rw [lg_entry_eq]
  generalize (lg_sl ([.ref (a 5), .int p0]) ++ List.replicate (5 - (lg_sl ([.ref (a 5), .int p0])).length) Slot.unset).toArray = ls at hl ⊢
  have hl : lv_has ls 5 [(0, .ref (a 5)), (1, .int p0)] := hl
  refine lv_aload_n hx hb dX5_whose_0 rfl (lv_at hl 0 rfl) ?_
  refine tw_get (D := (dC, dI)) (v := .ref (a 40)) (C := RX5) (T := TX5) (N := 6) hx hb hts (fun _ hh => (List.mem_cons_of_mem _ (List.mem_append_right _ (List.mem_append_left _ hh)))) hown hK hT (fx_5 hX) (by decide) cl_e15 rfl 3 (by decide) (hts (.fieldLink RX5 11 "TypingPool$Ledger" "corrections" "[LTypingPool$Correction;") (List.mem_cons_of_mem _ (List.mem_append_left _ (List.mem_of_getElem? (i := 0) rfl)))) (fun _ h9 => h9) rfl dX5_whose_1 ?_
  refine lv_iload_n hx hb dX5_whose_4 rfl (lv_at hl 1 rfl) ?_
  refine tw_aald hx hb hK hT 7 (fx_40 hX) (by decide) cl_e50 rfl (z_in rfl (by omega) (by omega)) dX5_whose_5 ?_
  obtain ⟨q_1, hgq_1, htq_1⟩ := ic_l40 hI (x := p0) rfl (by omega) (by omega)
  refine lq_topr hgq_1 ?_
  refine lv_astore_n (lv' := [(2, .ref q_1), (0, .ref (a 5)), (1, .int p0)]) hx hb dX5_whose_6 rfl hl (by decide) rfl (fun ls hl => ?_)
  refine lv_aload_n hx hb dX5_whose_7 rfl (lv_at hl 1 rfl) ?_
  refine tw_get (D := (dC, dI)) (v := .ref (a 2)) (C := RX5) (T := TX5) (N := 6) hx hb hts (fun _ hh => (List.mem_cons_of_mem _ (List.mem_append_right _ (List.mem_append_left _ hh)))) hown hK hT (fx_5 hX) (by decide) cl_e15 rfl 1 (by decide) (hts (.fieldLink RX5 28 "TypingPool$Ledger" "rules" "LTypingPool$Rules;") (List.mem_cons_of_mem _ (List.mem_append_left _ (List.mem_of_getElem? (i := 1) rfl)))) (fun _ h9 => h9) rfl dX5_whose_8 ?_
  refine tw_get (D := (dC, dI)) (v := .ref (a 14)) (C := RX10) (T := TX10) (N := 6) hx hb hts (fun _ hh => (List.mem_cons_of_mem _ (List.mem_append_right _ (List.mem_append_right _ (List.mem_append_left _ hh))))) hown hK hT (fx_2 hX) (by decide) cl_e12 rfl 2 (by decide) (hts (.fieldLink RX5 42 "TypingPool$Rules" "letters" "[I") (List.mem_cons_of_mem _ (List.mem_append_left _ (List.mem_of_getElem? (i := 2) rfl)))) (fun _ h9 => h9) rfl dX5_whose_11 ?_
  refine lv_astore_n (lv' := [(3, .ref (a 14)), (2, .ref q_1), (0, .ref (a 5)), (1, .int p0)]) hx hb dX5_whose_14 rfl hl (by decide) rfl (fun ls hl => ?_)
  refine lv_aload_n hx hb dX5_whose_15 rfl (lv_at hl 0 rfl) ?_
  refine lv_iconst (v := 0) hx hb dX5_whose_16 (by decide) ?_
  refine lv_aload_n hx hb dX5_whose_17 rfl (lv_at hl 1 rfl) ?_
  refine tw_get (D := (dC, dI)) (v := .int (y q_1 2)) (C := RX2) (T := TX2) (N := 6) hx hb hts (fun _ hh => (List.mem_cons_of_mem _ (List.mem_append_right _ (List.mem_append_right _ (List.mem_append_right _ (List.mem_append_left _ hh)))))) hown hK hT htq_1 (by decide) cl_e4 rfl 2 (by decide) (hts (.fieldLink RX5 48 "TypingPool$Correction" "t" "I") (List.mem_cons_of_mem _ (List.mem_append_left _ (List.mem_of_getElem? (i := 3) rfl)))) (fun _ h9 => h9) rfl dX5_whose_18 ?_
  refine tw_iast hx hb hK hT hF hS 0 (fx_14 hX) (by decide) (fun _ => cl_e24) rfl (z_in (zk (x := 0) 0 rfl) (by omega) (by omega)) dX5_whose_21 (fun H locs hT hS => ?_)
  obtain ⟨y_2, hy_2, hT⟩ : ∃ z : Nat → Nat → Int32, z = up2 y (a 14) ((0 : Int32).toNatClampNeg) (y q_1 2) ∧ tw (dC, dI) a k τ ln z g H := ⟨_, rfl, hT⟩
  have hG : ag τ [24, 27] y y_2 := by rw [hy_2]; exact hG.up (fx_14 hX) (by decide)
  have hI := hI.ag (S := [24]) (y' := y_2) (by rw [hy_2]; exact ag.one (fx_14 hX)) (by decide)
  refine lv_aload_n hx hb dX5_whose_22 rfl (lv_at hl 0 rfl) ?_
  refine lv_iconst (v := 1) hx hb dX5_whose_23 (by decide) ?_
  refine lv_aload_n hx hb dX5_whose_24 rfl (lv_at hl 1 rfl) ?_
  refine tw_get (D := (dC, dI)) (v := .int (y_2 q_1 3)) (C := RX2) (T := TX2) (N := 6) hx hb hts (fun _ hh => (List.mem_cons_of_mem _ (List.mem_append_right _ (List.mem_append_right _ (List.mem_append_right _ (List.mem_append_left _ hh)))))) hown hK hT htq_1 (by decide) cl_e4 rfl 3 (by decide) (hts (.fieldLink RX5 51 "TypingPool$Correction" "\x72" "I") (List.mem_cons_of_mem _ (List.mem_append_left _ (List.mem_of_getElem? (i := 4) rfl)))) (fun _ h9 => h9) rfl dX5_whose_25 ?_
  refine tw_iast hx hb hK hT hF hS 0 (fx_14 hX) (by decide) (fun _ => cl_e24) rfl (z_in (zk (x := 1) 1 rfl) (by omega) (by omega)) dX5_whose_28 (fun H locs hT hS => ?_)
  obtain ⟨y_3, hy_3, hT⟩ : ∃ z : Nat → Nat → Int32, z = up2 y_2 (a 14) ((1 : Int32).toNatClampNeg) (y_2 q_1 3) ∧ tw (dC, dI) a k τ ln z g H := ⟨_, rfl, hT⟩
  have hG : ag τ [24, 27] y y_3 := by rw [hy_3]; exact hG.up (fx_14 hX) (by decide)
  have hI := hI.ag (S := [24]) (y' := y_3) (by rw [hy_3]; exact ag.one (fx_14 hX)) (by decide)
  refine lv_aload_n hx hb dX5_whose_29 rfl (lv_at hl 0 rfl) ?_
  refine lv_iconst (v := 2) hx hb dX5_whose_30 (by decide) ?_
  refine lv_aload_n hx hb dX5_whose_31 rfl (lv_at hl 1 rfl) ?_
  refine tw_get (D := (dC, dI)) (v := .int (y_3 q_1 4)) (C := RX2) (T := TX2) (N := 6) hx hb hts (fun _ hh => (List.mem_cons_of_mem _ (List.mem_append_right _ (List.mem_append_right _ (List.mem_append_right _ (List.mem_append_left _ hh)))))) hown hK hT htq_1 (by decide) cl_e4 rfl 4 (by decide) (hts (.fieldLink RX5 54 "TypingPool$Correction" "a" "I") (List.mem_cons_of_mem _ (List.mem_append_left _ (List.mem_of_getElem? (i := 5) rfl)))) (fun _ h9 => h9) rfl dX5_whose_32 ?_
  refine tw_iast hx hb hK hT hF hS 0 (fx_14 hX) (by decide) (fun _ => cl_e24) rfl (z_in (zk (x := 2) 2 rfl) (by omega) (by omega)) dX5_whose_35 (fun H locs hT hS => ?_)
  obtain ⟨y_4, hy_4, hT⟩ : ∃ z : Nat → Nat → Int32, z = up2 y_3 (a 14) ((2 : Int32).toNatClampNeg) (y_3 q_1 4) ∧ tw (dC, dI) a k τ ln z g H := ⟨_, rfl, hT⟩
  have hG : ag τ [24, 27] y y_4 := by rw [hy_4]; exact hG.up (fx_14 hX) (by decide)
  have hI := hI.ag (S := [24]) (y' := y_4) (by rw [hy_4]; exact ag.one (fx_14 hX)) (by decide)
  refine lv_aload_n hx hb dX5_whose_36 rfl (lv_at hl 0 rfl) ?_
  refine lv_iconst (v := 3) hx hb dX5_whose_37 (by decide) ?_
  refine lv_aload_n hx hb dX5_whose_38 rfl (lv_at hl 2 rfl) ?_
  refine tw_get (D := (dC, dI)) (v := .ref (a 3)) (C := RX5) (T := TX5) (N := 6) hx hb hts (fun _ hh => (List.mem_cons_of_mem _ (List.mem_append_right _ (List.mem_append_left _ hh)))) hown hK hT (fx_5 hX) (by decide) cl_e15 rfl 2 (by decide) (hts (.fieldLink RX5 32 "TypingPool$Ledger" "floor" "LTypingPool$Floor;") (List.mem_cons_of_mem _ (List.mem_append_left _ (List.mem_of_getElem? (i := 6) rfl)))) (fun _ h9 => h9) rfl dX5_whose_39 ?_
  refine tw_get (D := (dC, dI)) (v := .ref (a 28)) (C := RX3) (T := TX3) (N := 12) hx hb hts (fun _ hh => (List.mem_cons_of_mem _ (List.mem_append_right _ (List.mem_append_right _ (List.mem_append_right _ (List.mem_append_right _ (List.mem_append_left _ hh))))))) hown hK hT (fx_3 hX) (by decide) cl_e13 rfl 11 (by decide) (hts (.fieldLink RX5 57 "TypingPool$Floor" "knew" "[I") (List.mem_cons_of_mem _ (List.mem_append_left _ (List.mem_of_getElem? (i := 7) rfl)))) (fun _ h9 => h9) rfl dX5_whose_42 ?_
  refine lv_aload_n hx hb dX5_whose_45 rfl (lv_at hl 1 rfl) ?_
  refine tw_get (D := (dC, dI)) (v := .int (y_4 q_1 0)) (C := RX2) (T := TX2) (N := 6) hx hb hts (fun _ hh => (List.mem_cons_of_mem _ (List.mem_append_right _ (List.mem_append_right _ (List.mem_append_right _ (List.mem_append_left _ hh)))))) hown hK hT htq_1 (by decide) cl_e4 rfl 0 (by decide) (hts (.fieldLink RX5 62 "TypingPool$Correction" "piece" "I") (List.mem_cons_of_mem _ (List.mem_append_left _ (List.mem_of_getElem? (i := 8) rfl)))) (fun _ h9 => h9) rfl dX5_whose_46 ?_
  have hc_5 := ic_cor hI htq_1
  refine tw_iald hx hb hK hT 0 (fx_28 hX) (by decide) cl_e38 rfl (z_in rfl (by omega) (by omega)) dX5_whose_49 ?_
  refine tw_iast hx hb hK hT hF hS 0 (fx_14 hX) (by decide) (fun _ => cl_e24) rfl (z_in (zk (x := 3) 3 rfl) (by omega) (by omega)) dX5_whose_50 (fun H locs hT hS => ?_)
  obtain ⟨y_6, hy_6, hT⟩ : ∃ z : Nat → Nat → Int32, z = up2 y_4 (a 14) ((3 : Int32).toNatClampNeg) (y_4 (a 28) (y_4 q_1 0).toNatClampNeg) ∧ tw (dC, dI) a k τ ln z g H := ⟨_, rfl, hT⟩
  have hG : ag τ [24, 27] y y_6 := by rw [hy_6]; exact hG.up (fx_14 hX) (by decide)
  have hI := hI.ag (S := [24]) (y' := y_6) (by rw [hy_6]; exact ag.one (fx_14 hX)) (by decide)
  refine lv_aload_n hx hb dX5_whose_51 rfl (lv_at hl 2 rfl) ?_
  refine tw_get (D := (dC, dI)) (v := .ref (a 2)) (C := RX5) (T := TX5) (N := 6) hx hb hts (fun _ hh => (List.mem_cons_of_mem _ (List.mem_append_right _ (List.mem_append_left _ hh)))) hown hK hT (fx_5 hX) (by decide) cl_e15 rfl 1 (by decide) (hts (.fieldLink RX5 28 "TypingPool$Ledger" "rules" "LTypingPool$Rules;") (List.mem_cons_of_mem _ (List.mem_append_left _ (List.mem_of_getElem? (i := 1) rfl)))) (fun _ h9 => h9) rfl dX5_whose_52 ?_
  refine lv_aload_n hx hb dX5_whose_55 rfl (lv_at hl 2 rfl) ?_
  refine tw_get (D := (dC, dI)) (v := .ref (a 2)) (C := RX5) (T := TX5) (N := 6) hx hb hts (fun _ hh => (List.mem_cons_of_mem _ (List.mem_append_right _ (List.mem_append_left _ hh)))) hown hK hT (fx_5 hX) (by decide) cl_e15 rfl 1 (by decide) (hts (.fieldLink RX5 28 "TypingPool$Ledger" "rules" "LTypingPool$Rules;") (List.mem_cons_of_mem _ (List.mem_append_left _ (List.mem_of_getElem? (i := 1) rfl)))) (fun _ h9 => h9) rfl dX5_whose_56 ?_
  refine lv_iconst (v := 2) hx hb dX5_whose_59 (by decide) ?_
  refine lv_aload_n hx hb dX5_whose_60 rfl (lv_at hl 1 rfl) ?_
  refine tw_get (D := (dC, dI)) (v := .int (y_6 q_1 1)) (C := RX2) (T := TX2) (N := 6) hx hb hts (fun _ hh => (List.mem_cons_of_mem _ (List.mem_append_right _ (List.mem_append_right _ (List.mem_append_right _ (List.mem_append_left _ hh)))))) hown hK hT htq_1 (by decide) cl_e4 rfl 1 (by decide) (hts (.fieldLink RX5 36 "TypingPool$Correction" "day" "I") (List.mem_cons_of_mem _ (List.mem_append_left _ (List.mem_of_getElem? (i := 9) rfl)))) (fun _ h9 => h9) rfl dX5_whose_61 ?_
  refine lv_null hx hb dX5_whose_64 ?_
  have hFc := tw_free hF hS hA
  have hp_7 : (2 : Int32).toInt = 2 := (zk (x := 2) 2 rfl)
  refine va_callr (va_runV (As := [.int 2, .int (y_6 q_1 1), .null]) (rest := [.ref (a 2)]) ⟨hx, hb, hml, hown, hts⟩ (c_holdingN l dC dI ad av H.size a k τ ln y_6 g u (2 : Int32) (y_6 q_1 1) hI (by decide) (by decide)) (cwV 3 hts (gi_4 (List.mem_cons_of_mem _ (List.mem_append_left _ (List.mem_of_getElem? (i := 10) rfl))) (List.mem_cons_of_mem _ (List.mem_append_left _ (List.mem_of_getElem? (i := 11) rfl))) (List.mem_cons_of_mem _ (List.mem_append_left _ (List.mem_of_getElem? (i := 12) rfl))) (List.mem_cons_of_mem _ (List.mem_append_left _ (List.mem_of_getElem? (i := 13) rfl))) (fun _ hh => (List.mem_cons_of_mem _ (List.mem_append_right _ (List.mem_append_right _ (List.mem_append_right _ (List.mem_append_right _ (List.mem_append_right _ (List.mem_append_left _ hh)))))))) gd_c_holdingN) rfl rfl rfl (by decide +kernel) ⟨Nat.le_of_ble_eq_true rfl, Nat.le_of_ble_eq_true rfl⟩) ⟨pw_blind, tw_recv hK hT (fx_2 hX) (by decide) cl_e12 rfl, pw_use hT hK hFc hS hM⟩ rfl rfl hl.1 rfl (lv_room (Nat.le_of_ble_eq_true rfl)) dX5_whose_65 ⟨Nat.le_of_ble_eq_true rfl, Nat.le_of_ble_eq_true rfl⟩) hS (fun q _ h => hFc q h) hFc (fun u0 r_8 t H locs ht hvm hw hB hz1 hk1 hS => ?_)
  refine W.widen (k := 0) (n := 0) (Nat.le_of_ble_eq_true rfl) (Nat.le_of_ble_eq_true rfl) ?_
  clear hvm hz1 hk1
  obtain ⟨htr_8, hT⟩ := hB
  rw [ht] at hT
  clear hp_7
  have hFc := tw_free hF hS hA
  refine va_calli (va_runV (As := [.ref r_8]) (rest := []) ⟨hx, hb, hml, hown, hts⟩ (c_give l dC dI ad av H.size a k τ ln y_6 g u r_8 hI htr_8) (cwV 1 hts (gi_4 (List.mem_cons_of_mem _ (List.mem_append_left _ (List.mem_of_getElem? (i := 14) rfl))) (List.mem_cons_of_mem _ (List.mem_append_left _ (List.mem_of_getElem? (i := 15) rfl))) (List.mem_cons_of_mem _ (List.mem_append_left _ (List.mem_of_getElem? (i := 16) rfl))) (List.mem_cons_of_mem _ (List.mem_append_left _ (List.mem_of_getElem? (i := 13) rfl))) (fun _ hh => (List.mem_cons_of_mem _ (List.mem_append_right _ (List.mem_append_right _ (List.mem_append_right _ (List.mem_append_right _ (List.mem_append_right _ (List.mem_append_right _ (List.mem_append_left _ hh))))))))) gd_c_give) rfl rfl rfl (by decide +kernel) ⟨Nat.le_of_ble_eq_true rfl, Nat.le_of_ble_eq_true rfl⟩) ⟨pw_blind, tw_recv hK hT (fx_2 hX) (by decide) cl_e12 rfl, pw_use hT hK hFc hS hM⟩ rfl rfl hl.1 rfl (lv_room (Nat.le_of_ble_eq_true rfl)) dX5_whose_68 ⟨Nat.le_of_ble_eq_true rfl, Nat.le_of_ble_eq_true rfl⟩) hS (fun q _ h => hFc q h) hFc (fun r0 r_9 t H locs ht hvm hw hB hz1 hk1 hS => ?_)
  refine W.widen (k := 0) (n := 0) (Nat.le_of_ble_eq_true rfl) (Nat.le_of_ble_eq_true rfl) ?_
  clear hvm hz1 hk1
  subst hw
  obtain ⟨y_10, hgy_10, hT⟩ := hB
  rw [ht] at hT
  have hG := hG.tr hgy_10 (by decide)
  have hI := hI.ag hgy_10 (by decide)
  refine lv_istore (lv' := [(4, .int r_9), (3, .ref (a 14)), (2, .ref q_1), (0, .ref (a 5)), (1, .int p0)]) hx hb dX5_whose_71 hl (by decide) rfl (fun ls hl => ?_)
  refine lv_iload hx hb dX5_whose_73 (lv_at hl 0 rfl) ?_
  refine lv_iconst (v := 1) hx hb dX5_whose_75 (by decide) ?_
  refine lv_icmp_eq (tgt := 85) hx hb dX5_whose_76 (by decide) (fun c_11 => ?_) (fun c_11 => ?_)
  · have nc_11 := z_eq rfl (zk (x := 1) 1 rfl) c_11
    refine lv_iload hx hb dX5_whose_85 (lv_at hl 0 rfl) ?_
    refine lv_goto (tgt := 91) hx hb dX5_whose_87 (by decide) ?_
    exact W.iret (v := r_9) hx hb hr (fun t ht hW9 => ⟨⟨r_9, r_9, rfl, rfl, ⟨y_10, hG, tw_at ht hT⟩⟩, hS.F ht⟩) hS.2.2 dX5_whose_91
  · have nc_11 := z_ne rfl (zk (x := 1) 1 rfl) c_11
    refine lv_iload hx hb dX5_whose_79 (lv_at hl 0 rfl) ?_
    refine lv_iconst (v := 2) hx hb dX5_whose_81 (by decide) ?_
    refine lv_icmp_ne (tgt := 90) hx hb dX5_whose_82 (by decide) (fun c_12 => ?_) (fun c_12 => ?_)
    · have nc_12 := z_ne rfl (zk (x := 2) 2 rfl) c_12
      refine lv_iconst (v := 0) hx hb dX5_whose_90 (by decide) ?_
      exact W.iret (v := 0) hx hb hr (fun t ht hW9 => ⟨⟨0, 0, rfl, rfl, ⟨y_10, hG, tw_at ht hT⟩⟩, hS.F ht⟩) hS.2.2 dX5_whose_91
    · have nc_12 := z_eq rfl (zk (x := 2) 2 rfl) c_12
      refine lv_iload hx hb dX5_whose_85 (lv_at hl 0 rfl) ?_
      refine lv_goto (tgt := 91) hx hb dX5_whose_87 (by decide) ?_
      exact W.iret (v := r_9) hx hb hr (fun t ht hW9 => ⟨⟨r_9, r_9, rfl, rfl, ⟨y_10, hG, tw_at ht hT⟩⟩, hS.F ht⟩) hS.2.2 dX5_whose_91
def wo_c_faultsOn : List Cond := [.fieldLink RX5 17 "TypingPool$Ledger" "count" "I", .fieldLink RX5 11 "TypingPool$Ledger" "corrections" "[LTypingPool$Correction;", .fieldLink RX5 62 "TypingPool$Correction" "piece" "I", .methodLink RX5 86 yX5_isKnown, .instanceMethod yX5_isKnown, .selects RX5 yX5_isKnown yX5_isKnown, .initialized RX5, .methodLink RX5 90 yX5_whose, .instanceMethod yX5_whose, .selects RX5 yX5_whose yX5_whose]
def wm_c_faultsOn : List Cond := .code yX5_faultsOn cX5_faultsOn 5 (some .int) :: (wo_c_faultsOn ++ (wsX50 ++ (wsX20 ++ (wm_c_isKnown ++ (wm_c_whose ++ ([] : List Cond))))))
theorem gd_c_faultsOn : ∀ w ∈ wm_c_faultsOn, goodWord w = true := gd_c rfl (gd_a (by decide) (gd_a gd_wsX50 (gd_a gd_wsX20 (gd_a gd_c_isKnown (gd_a gd_c_whose gd_nil)))))
set_option maxRecDepth 20000 in
theorem im_c_faultsOn : ∀ w ∈ wm_c_faultsOn, w ∈ lw_tbl := im_c (in_r [.code yX5_faultsOn cX5_faultsOn 5 (some .int)] [973] (by decide +kernel)) (in_app (in_r wo_c_faultsOn [492, 490, 907, 974, 949, 950, 84, 975, 953, 954] (by decide +kernel)) (in_app im_wsX50 (in_app im_wsX20 (in_app im_c_isKnown (in_app im_c_whose im_nil)))))
set_option maxHeartbeats 4000000 in
set_option maxRecDepth 100000 in
theorem c_faultsOn (l : Launch) (dC : Nat → ClassId) (dI : Nat → Nat → Nat) (ad av : Nat → Nat) (sz : Nat) (a : Nat → Nat) (k : Nat → ClassId) (τ ln : Nat → Nat) (y : Nat → Nat → Int32) (g : Nat → Nat → Option Nat) (u : Nat → Int) (p0 : Int32) (p1 : Int32) (hI : IC a u τ ln y g) : Met l yX5_faultsOn wm_c_faultsOn ({ frames := 4, cells := 0, slots := 0, locals := 240 }) (pw_ ad av (dC, dI) sz [.ref (a 5), .int p0, .int p1] a k τ ln y g) (va_Qi (fun (r u : Int32) => u = r) (fun (r : Int32) (t : State) => (∃ (y' : Nat → Nat → Int32), ag τ [24, 27] y y' ∧ tw (dC, dI) a k τ ln y' g t.heap)) (fr τ sz)) 0 0 (fr τ sz) := by
  refine Met.ofW (cc := cX5_faultsOn) (maxL := 5) (ret := (some .int)) (by decide) rfl ?_
  intro p e s m args below meth c s₁ B hml hv
  obtain ⟨rfl, hsz, hT, hK, hM⟩ := hv
  have hx := B.exec
  have hb := B.bytes
  have hr := B.returns
  have hts := atoms_spec (ws := wm_c_faultsOn) B.pre
  have hown : s.vm.findClass RX5 = some m.cls := findClass_of_methodNamed B.named
  have hlocks := B.notSynchronized
  subst hsz
  generalize hAe : fr τ s.heap.size = A at hM ⊢
  have hA : ∀ q : Nat, s.heap.size ≤ q → A q := fun q h => by rw [← hAe]; exact Or.inr h
  have hF : ∀ q, τ q ≠ 0 → A q := fun q h => by rw [← hAe]; exact Or.inl h
  have hS : va_S A s.heap s.heap [] := va_S.rf
  have hX := hI.1
  have hR := ic_r hI
  have hG : ag τ [24, 27] y y := ag.rf
  have hl := lv_entry ([.ref (a 5), .int p0, .int p1]) (n := 5) (Nat.le_of_ble_eq_true rfl)
  rw [lg_entry_eq]
  generalize (lg_sl ([.ref (a 5), .int p0, .int p1]) ++ List.replicate (5 - (lg_sl ([.ref (a 5), .int p0, .int p1])).length) Slot.unset).toArray = ls at hl ⊢
  have hl : lv_has ls 5 [(0, .ref (a 5)), (1, .int p0), (2, .int p1)] := hl
  refine lv_iconst (v := 0) hx hb dX5_faultsOn_0 (by decide) ?_
  refine lv_istore_n (lv' := [(3, .int 0), (0, .ref (a 5)), (1, .int p0), (2, .int p1)]) hx hb dX5_faultsOn_1 rfl hl (by decide) rfl (fun ls hl => ?_)
  refine lv_iconst (v := 0) hx hb dX5_faultsOn_2 (by decide) ?_
  refine lv_istore (lv' := [(4, .int 0), (3, .int 0), (0, .ref (a 5)), (1, .int p0), (2, .int p1)]) hx hb dX5_faultsOn_3 hl (by decide) rfl (fun ls hl => ?_)
  have loop_5 : ∀ (n : Nat) (w3 : Int32) (i4 : Int32) (y_L5 : Nat → Nat → Int32) (H : Heap) (locs : List Loc) (ls : Array Slot), (u 5 - i4.toInt).toNat < n → ag τ [24, 27] y y_L5 → IC a u τ ln y_L5 g → 0 ≤ i4.toInt → i4.toInt ≤ u 5 → tw (dC, dI) a k τ ln y_L5 g H → va_S A s.heap H locs → lv_has ls 5 [(0, .ref (a 5)), (1, .int p0), (2, .int p1), (3, .int w3), (4, .int i4)] → W p l e (headSpec wm_c_faultsOn ({ frames := 4, cells := 0, slots := 0, locals := 240 })).room s m ([.ref (a 5), .int p0, .int p1] : List Value).toArray below meth c H locs 0 0 (MQ below (va_Qi (fun (r u : Int32) => u = r) (fun (r : Int32) (t : State) => (∃ (y' : Nat → Nat → Int32), ag τ [24, 27] y y' ∧ tw (dC, dI) a k τ ln y' g t.heap)) A) ([.ref (a 5), .int p0, .int p1] : List Value).toArray s 0 0 A) (F0 m 5 ls []) := by
    intro n
    induction n with
    | zero => intro w3 i4 y_L5 H locs ls hlt; exact absurd hlt (Nat.not_lt_zero _)
    | succ n ih_5 =>
      intro w3 i4 y_L5 H locs ls hlt hG hI hi5_0 hi5_1 hT hS hl
      refine lv_iload hx hb dX5_faultsOn_5 (lv_at hl 4 rfl) ?_
      refine lv_aload_n hx hb dX5_faultsOn_7 rfl (lv_at hl 0 rfl) ?_
      refine tw_get (D := (dC, dI)) (v := .int (y_L5 (a 5) 4)) (C := RX5) (T := TX5) (N := 6) hx hb hts (fun _ hh => (List.mem_cons_of_mem _ (List.mem_append_right _ (List.mem_append_left _ hh)))) hown hK hT (fx_5 hX) (by decide) cl_e15 rfl 4 (by decide) (hts (.fieldLink RX5 17 "TypingPool$Ledger" "count" "I") (List.mem_cons_of_mem _ (List.mem_append_left _ (List.mem_of_getElem? (i := 0) rfl)))) (fun _ h9 => h9) rfl dX5_faultsOn_8 ?_
      have hc_1 := ic_5 hI
      refine lv_icmp_ge (tgt := 56) hx hb dX5_faultsOn_11 (by decide) (fun c_2 => ?_) (fun c_2 => ?_)
      · have nc_2 := z_le hc_1 rfl c_2
        refine lv_iload_n hx hb dX5_faultsOn_56 rfl (lv_at hl 3 rfl) ?_
        exact W.iret (v := w3) hx hb hr (fun t ht hW9 => ⟨⟨w3, w3, rfl, rfl, ⟨y_L5, hG, tw_at ht hT⟩⟩, hS.F ht⟩) hS.2.2 dX5_faultsOn_57
      · have nc_2 := z_nle hc_1 rfl c_2
        refine lv_aload_n hx hb dX5_faultsOn_14 rfl (lv_at hl 0 rfl) ?_
        refine tw_get (D := (dC, dI)) (v := .ref (a 40)) (C := RX5) (T := TX5) (N := 6) hx hb hts (fun _ hh => (List.mem_cons_of_mem _ (List.mem_append_right _ (List.mem_append_left _ hh)))) hown hK hT (fx_5 hX) (by decide) cl_e15 rfl 3 (by decide) (hts (.fieldLink RX5 11 "TypingPool$Ledger" "corrections" "[LTypingPool$Correction;") (List.mem_cons_of_mem _ (List.mem_append_left _ (List.mem_of_getElem? (i := 1) rfl)))) (fun _ h9 => h9) rfl dX5_faultsOn_15 ?_
        refine lv_iload hx hb dX5_faultsOn_18 (lv_at hl 4 rfl) ?_
        refine tw_aald hx hb hK hT 7 (fx_40 hX) (by decide) cl_e50 rfl (z_in rfl (by omega) (by omega)) dX5_faultsOn_20 ?_
        obtain ⟨q_3, hgq_3, htq_3⟩ := ic_l40 hI (x := i4) rfl (by omega) (by omega)
        refine lq_topr hgq_3 ?_
        refine tw_get (D := (dC, dI)) (v := .int (y_L5 q_3 0)) (C := RX2) (T := TX2) (N := 6) hx hb hts (fun _ hh => (List.mem_cons_of_mem _ (List.mem_append_right _ (List.mem_append_right _ (List.mem_append_left _ hh))))) hown hK hT htq_3 (by decide) cl_e4 rfl 0 (by decide) (hts (.fieldLink RX5 62 "TypingPool$Correction" "piece" "I") (List.mem_cons_of_mem _ (List.mem_append_left _ (List.mem_of_getElem? (i := 2) rfl)))) (fun _ h9 => h9) rfl dX5_faultsOn_21 ?_
        have hc_4 := ic_cor hI htq_3
        refine lv_iload_n hx hb dX5_faultsOn_24 rfl (lv_at hl 1 rfl) ?_
        refine lv_icmp_ne (tgt := 50) hx hb dX5_faultsOn_25 (by decide) (fun c_5 => ?_) (fun c_5 => ?_)
        · have nc_5 := z_ne rfl rfl c_5
          obtain ⟨x_6, ex_6⟩ : ∃ y : Int32, y = i4 + Int32.ofInt 1 := ⟨_, rfl⟩
          have hx_6 := z_add ex_6 rfl (zk (x := Int32.ofInt 1) 1 rfl) (by omega) (by omega)
          refine lv_iinc (v := x_6) (lv' := [(4, .int x_6), (0, .ref (a 5)), (1, .int p0), (2, .int p1), (3, .int w3)]) hx hb dX5_faultsOn_50 hl (k := 4) rfl ex_6.symm (by decide) rfl (fun ls hl => ?_)
          refine lv_goto (tgt := 5) hx hb dX5_faultsOn_53 (by decide) ?_
          exact ih_5  w3 x_6 y_L5 H _ ls (by omega) hG hI (by omega) (by omega) hT hS (lv_sub hl [1, 2, 3, 4, 0] rfl)
        · have nc_5 := z_eq rfl rfl c_5
          refine lv_aload_n hx hb dX5_faultsOn_28 rfl (lv_at hl 0 rfl) ?_
          refine lv_iload hx hb dX5_faultsOn_29 (lv_at hl 4 rfl) ?_
          have hFc := tw_free hF hS hA
          refine va_calli (va_runV (As := [.int i4]) (rest := []) ⟨hx, hb, hml, hown, hts⟩ (c_isKnown l dC dI ad av H.size a k τ ln y_L5 g u i4 hI (by omega) (by omega)) (cwV 1 hts (gi_4 (List.mem_cons_of_mem _ (List.mem_append_left _ (List.mem_of_getElem? (i := 3) rfl))) (List.mem_cons_of_mem _ (List.mem_append_left _ (List.mem_of_getElem? (i := 4) rfl))) (List.mem_cons_of_mem _ (List.mem_append_left _ (List.mem_of_getElem? (i := 5) rfl))) (List.mem_cons_of_mem _ (List.mem_append_left _ (List.mem_of_getElem? (i := 6) rfl))) (fun _ hh => (List.mem_cons_of_mem _ (List.mem_append_right _ (List.mem_append_right _ (List.mem_append_right _ (List.mem_append_left _ hh)))))) gd_c_isKnown) rfl rfl rfl (by decide +kernel) ⟨Nat.le_of_ble_eq_true rfl, Nat.le_of_ble_eq_true rfl⟩) ⟨pw_blind, tw_recv hK hT (fx_5 hX) (by decide) cl_e15 rfl, pw_use hT hK hFc hS hM⟩ rfl rfl hl.1 rfl (lv_room (Nat.le_of_ble_eq_true rfl)) dX5_faultsOn_31 ⟨Nat.le_of_ble_eq_true rfl, Nat.le_of_ble_eq_true rfl⟩) hS (fun q _ h => hFc q h) hFc (fun r0 r_7 t H locs ht hvm hw hB hz1 hk1 hS => ?_)
          refine W.widen (k := 0) (n := 0) (Nat.le_of_ble_eq_true rfl) (Nat.le_of_ble_eq_true rfl) ?_
          clear hvm hz1 hk1
          subst hw
          rcases hB with ⟨hre, hT⟩ | ⟨hre, hT⟩
          · refine lq_top (v := 1) hre ?_
            rw [ht] at hT
            refine lv_if_eq (tgt := 50) hx hb dX5_faultsOn_34 (by decide) (fun c_8 => absurd c_8 (by decide)) (fun c_8 => ?_)
            refine lv_aload_n hx hb dX5_faultsOn_37 rfl (lv_at hl 0 rfl) ?_
            refine lv_iload hx hb dX5_faultsOn_38 (lv_at hl 4 rfl) ?_
            have hFc := tw_free hF hS hA
            refine va_calli (va_runV (As := [.int i4]) (rest := []) ⟨hx, hb, hml, hown, hts⟩ (c_whose l dC dI ad av H.size a k τ ln y_L5 g u i4 hI (by omega) (by omega)) (cwV 1 hts (gi_4 (List.mem_cons_of_mem _ (List.mem_append_left _ (List.mem_of_getElem? (i := 7) rfl))) (List.mem_cons_of_mem _ (List.mem_append_left _ (List.mem_of_getElem? (i := 8) rfl))) (List.mem_cons_of_mem _ (List.mem_append_left _ (List.mem_of_getElem? (i := 9) rfl))) (List.mem_cons_of_mem _ (List.mem_append_left _ (List.mem_of_getElem? (i := 6) rfl))) (fun _ hh => (List.mem_cons_of_mem _ (List.mem_append_right _ (List.mem_append_right _ (List.mem_append_right _ (List.mem_append_right _ (List.mem_append_left _ hh))))))) gd_c_whose) rfl rfl rfl (by decide +kernel) ⟨Nat.le_of_ble_eq_true rfl, Nat.le_of_ble_eq_true rfl⟩) ⟨pw_blind, tw_recv hK hT (fx_5 hX) (by decide) cl_e15 rfl, pw_use hT hK hFc hS hM⟩ rfl rfl hl.1 rfl (lv_room (Nat.le_of_ble_eq_true rfl)) dX5_faultsOn_40 ⟨Nat.le_of_ble_eq_true rfl, Nat.le_of_ble_eq_true rfl⟩) hS (fun q _ h => hFc q h) hFc (fun r0 r_9 t H locs ht hvm hw hB hz1 hk1 hS => ?_)
            refine W.widen (k := 0) (n := 0) (Nat.le_of_ble_eq_true rfl) (Nat.le_of_ble_eq_true rfl) ?_
            clear hvm hz1 hk1
            subst hw
            obtain ⟨y_10, hgy_10, hT⟩ := hB
            rw [ht] at hT
            have hG := hG.tr hgy_10 (by decide)
            have hI := hI.ag hgy_10 (by decide)
            refine lv_iload_n hx hb dX5_faultsOn_43 rfl (lv_at hl 2 rfl) ?_
            refine lv_icmp_ne (tgt := 50) hx hb dX5_faultsOn_44 (by decide) (fun c_11 => ?_) (fun c_11 => ?_)
            · have nc_11 := z_ne rfl rfl c_11
              obtain ⟨x_12, ex_12⟩ : ∃ y : Int32, y = i4 + Int32.ofInt 1 := ⟨_, rfl⟩
              have hx_12 := z_add ex_12 rfl (zk (x := Int32.ofInt 1) 1 rfl) (by omega) (by omega)
              refine lv_iinc (v := x_12) (lv' := [(4, .int x_12), (0, .ref (a 5)), (1, .int p0), (2, .int p1), (3, .int w3)]) hx hb dX5_faultsOn_50 hl (k := 4) rfl ex_12.symm (by decide) rfl (fun ls hl => ?_)
              refine lv_goto (tgt := 5) hx hb dX5_faultsOn_53 (by decide) ?_
              exact ih_5  w3 x_12 y_10 H _ ls (by omega) hG hI (by omega) (by omega) hT hS (lv_sub hl [1, 2, 3, 4, 0] rfl)
            · have nc_11 := z_eq rfl rfl c_11
              obtain ⟨x_13, ex_13⟩ : ∃ y : Int32, y = w3 + Int32.ofInt 1 := ⟨_, rfl⟩
              refine lv_iinc (v := x_13) (lv' := [(3, .int x_13), (0, .ref (a 5)), (1, .int p0), (2, .int p1), (4, .int i4)]) hx hb dX5_faultsOn_47 hl (k := 3) rfl ex_13.symm (by decide) rfl (fun ls hl => ?_)
              obtain ⟨x_14, ex_14⟩ : ∃ y : Int32, y = i4 + Int32.ofInt 1 := ⟨_, rfl⟩
              have hx_14 := z_add ex_14 rfl (zk (x := Int32.ofInt 1) 1 rfl) (by omega) (by omega)
              refine lv_iinc (v := x_14) (lv' := [(4, .int x_14), (3, .int x_13), (0, .ref (a 5)), (1, .int p0), (2, .int p1)]) hx hb dX5_faultsOn_50 hl (k := 4) rfl ex_14.symm (by decide) rfl (fun ls hl => ?_)
              refine lv_goto (tgt := 5) hx hb dX5_faultsOn_53 (by decide) ?_
              exact ih_5  x_13 x_14 y_10 H _ ls (by omega) hG hI (by omega) (by omega) hT hS (lv_sub hl [2, 3, 4, 1, 0] rfl)
          · refine lq_top (v := 0) hre ?_
            rw [ht] at hT
            refine lv_if_eq (tgt := 50) hx hb dX5_faultsOn_34 (by decide) (fun c_15 => ?_) (fun c_15 => absurd c_15 (by decide))
            obtain ⟨x_16, ex_16⟩ : ∃ y : Int32, y = i4 + Int32.ofInt 1 := ⟨_, rfl⟩
            have hx_16 := z_add ex_16 rfl (zk (x := Int32.ofInt 1) 1 rfl) (by omega) (by omega)
            refine lv_iinc (v := x_16) (lv' := [(4, .int x_16), (0, .ref (a 5)), (1, .int p0), (2, .int p1), (3, .int w3)]) hx hb dX5_faultsOn_50 hl (k := 4) rfl ex_16.symm (by decide) rfl (fun ls hl => ?_)
            refine lv_goto (tgt := 5) hx hb dX5_faultsOn_53 (by decide) ?_
            exact ih_5  w3 x_16 y_L5 H _ ls (by omega) hG hI (by omega) (by omega) hT hS (lv_sub hl [1, 2, 3, 4, 0] rfl)
  have hp_17 : (0 : Int32).toInt = 0 := (zk (x := 0) 0 rfl)
  have hp_18 : (0 : Int32).toInt = 0 := (zk (x := 0) 0 rfl)
  exact loop_5 _ (0 : Int32) (0 : Int32) y s.heap _ ls (Nat.lt_succ_self _) hG hI (by omega) (by omega) hT hS (lv_sub hl [2, 3, 4, 1, 0] rfl)
def wo_c_faultsWith : List Cond := [.fieldLink RX5 24 "TypingPool$Ledger" "book" "LTypingPool$Book;", .fieldLink RX5 73 "TypingPool$Book" "pieceCount" "I", .fieldLink RX5 32 "TypingPool$Ledger" "floor" "LTypingPool$Floor;", .methodLink RX5 78 yX3_isDoneBy, .instanceMethod yX3_isDoneBy, .selects RX3 yX3_isDoneBy yX3_isDoneBy, .initialized RX3, .methodLink RX5 82 yX5_faultsOn, .instanceMethod yX5_faultsOn, .selects RX5 yX5_faultsOn yX5_faultsOn, .initialized RX5]
def wm_c_faultsWith : List Cond := .code yX5_faultsWith cX5_faultsWith 5 (some .int) :: (wo_c_faultsWith ++ (wsX50 ++ (wsX10 ++ (wm_c_isDoneBy ++ (wm_c_faultsOn ++ ([] : List Cond))))))
theorem gd_c_faultsWith : ∀ w ∈ wm_c_faultsWith, goodWord w = true := gd_c rfl (gd_a (by decide) (gd_a gd_wsX50 (gd_a gd_wsX10 (gd_a gd_c_isDoneBy (gd_a gd_c_faultsOn gd_nil)))))
set_option maxRecDepth 20000 in
theorem im_c_faultsWith : ∀ w ∈ wm_c_faultsWith, w ∈ lw_tbl := im_c (in_r [.code yX5_faultsWith cX5_faultsWith 5 (some .int)] [965] (by decide +kernel)) (in_app (in_r wo_c_faultsWith [487, 132, 489, 966, 967, 968, 83, 970, 972, 17, 84] (by decide +kernel)) (in_app im_wsX50 (in_app im_wsX10 (in_app im_c_isDoneBy (in_app im_c_faultsOn im_nil)))))
set_option maxHeartbeats 4000000 in
set_option maxRecDepth 100000 in
theorem c_faultsWith (l : Launch) (dC : Nat → ClassId) (dI : Nat → Nat → Nat) (ad av : Nat → Nat) (sz : Nat) (a : Nat → Nat) (k : Nat → ClassId) (τ ln : Nat → Nat) (y : Nat → Nat → Int32) (g : Nat → Nat → Option Nat) (u : Nat → Int) (p0 : Int32) (p1 : Int32) (hI : IC a u τ ln y g) : Met l yX5_faultsWith wm_c_faultsWith ({ frames := 5, cells := 0, slots := 0, locals := 300 }) (pw_ ad av (dC, dI) sz [.ref (a 5), .int p0, .int p1] a k τ ln y g) (va_Qi (fun (r u : Int32) => u = r) (fun (r : Int32) (t : State) => (∃ (y' : Nat → Nat → Int32), ag τ [24, 27] y y' ∧ tw (dC, dI) a k τ ln y' g t.heap)) (fr τ sz)) 0 0 (fr τ sz) := by
  refine Met.ofW (cc := cX5_faultsWith) (maxL := 5) (ret := (some .int)) (by decide) rfl ?_
  intro p e s m args below meth c s₁ B hml hv
  obtain ⟨rfl, hsz, hT, hK, hM⟩ := hv
  have hx := B.exec
  have hb := B.bytes
  have hr := B.returns
  have hts := atoms_spec (ws := wm_c_faultsWith) B.pre
  have hown : s.vm.findClass RX5 = some m.cls := findClass_of_methodNamed B.named
  have hlocks := B.notSynchronized
  subst hsz
  generalize hAe : fr τ s.heap.size = A at hM ⊢
  have hA : ∀ q : Nat, s.heap.size ≤ q → A q := fun q h => by rw [← hAe]; exact Or.inr h
  have hF : ∀ q, τ q ≠ 0 → A q := fun q h => by rw [← hAe]; exact Or.inl h
  have hS : va_S A s.heap s.heap [] := va_S.rf
  have hX := hI.1
  have hR := ic_r hI
  have hG : ag τ [24, 27] y y := ag.rf
  have hl := lv_entry ([.ref (a 5), .int p0, .int p1]) (n := 5) (Nat.le_of_ble_eq_true rfl)
  rw [lg_entry_eq]
  generalize (lg_sl ([.ref (a 5), .int p0, .int p1]) ++ List.replicate (5 - (lg_sl ([.ref (a 5), .int p0, .int p1])).length) Slot.unset).toArray = ls at hl ⊢
  have hl : lv_has ls 5 [(0, .ref (a 5)), (1, .int p0), (2, .int p1)] := hl
  refine lv_iconst (v := 0) hx hb dX5_faultsWith_0 (by decide) ?_
  refine lv_istore_n (lv' := [(3, .int 0), (0, .ref (a 5)), (1, .int p0), (2, .int p1)]) hx hb dX5_faultsWith_1 rfl hl (by decide) rfl (fun ls hl => ?_)
  refine lv_iconst (v := 0) hx hb dX5_faultsWith_2 (by decide) ?_
  refine lv_istore (lv' := [(4, .int 0), (3, .int 0), (0, .ref (a 5)), (1, .int p0), (2, .int p1)]) hx hb dX5_faultsWith_3 hl (by decide) rfl (fun ls hl => ?_)
  have loop_5 : ∀ (n : Nat) (w3 : Int32) (i4 : Int32) (y_L5 : Nat → Nat → Int32) (H : Heap) (locs : List Loc) (ls : Array Slot), (u 2 - i4.toInt).toNat < n → ag τ [24, 27] y y_L5 → IC a u τ ln y_L5 g → 0 ≤ i4.toInt → i4.toInt ≤ u 2 → tw (dC, dI) a k τ ln y_L5 g H → va_S A s.heap H locs → lv_has ls 5 [(0, .ref (a 5)), (1, .int p0), (2, .int p1), (3, .int w3), (4, .int i4)] → W p l e (headSpec wm_c_faultsWith ({ frames := 5, cells := 0, slots := 0, locals := 300 })).room s m ([.ref (a 5), .int p0, .int p1] : List Value).toArray below meth c H locs 0 0 (MQ below (va_Qi (fun (r u : Int32) => u = r) (fun (r : Int32) (t : State) => (∃ (y' : Nat → Nat → Int32), ag τ [24, 27] y y' ∧ tw (dC, dI) a k τ ln y' g t.heap)) A) ([.ref (a 5), .int p0, .int p1] : List Value).toArray s 0 0 A) (F0 m 5 ls []) := by
    intro n
    induction n with
    | zero => intro w3 i4 y_L5 H locs ls hlt; exact absurd hlt (Nat.not_lt_zero _)
    | succ n ih_5 =>
      intro w3 i4 y_L5 H locs ls hlt hG hI hi5_0 hi5_1 hT hS hl
      refine lv_iload hx hb dX5_faultsWith_5 (lv_at hl 4 rfl) ?_
      refine lv_aload_n hx hb dX5_faultsWith_7 rfl (lv_at hl 0 rfl) ?_
      refine tw_get (D := (dC, dI)) (v := .ref (a 1)) (C := RX5) (T := TX5) (N := 6) hx hb hts (fun _ hh => (List.mem_cons_of_mem _ (List.mem_append_right _ (List.mem_append_left _ hh)))) hown hK hT (fx_5 hX) (by decide) cl_e15 rfl 0 (by decide) (hts (.fieldLink RX5 24 "TypingPool$Ledger" "book" "LTypingPool$Book;") (List.mem_cons_of_mem _ (List.mem_append_left _ (List.mem_of_getElem? (i := 0) rfl)))) (fun _ h9 => h9) rfl dX5_faultsWith_8 ?_
      refine tw_get (D := (dC, dI)) (v := .int (y_L5 (a 1) 5)) (C := RX1) (T := TX1) (N := 8) hx hb hts (fun _ hh => (List.mem_cons_of_mem _ (List.mem_append_right _ (List.mem_append_right _ (List.mem_append_left _ hh))))) hown hK hT (fx_1 hX) (by decide) cl_e11 rfl 5 (by decide) (hts (.fieldLink RX5 73 "TypingPool$Book" "pieceCount" "I") (List.mem_cons_of_mem _ (List.mem_append_left _ (List.mem_of_getElem? (i := 1) rfl)))) (fun _ h9 => h9) rfl dX5_faultsWith_11 ?_
      have hc_1 := ic_2 hI
      refine lv_icmp_ge (tgt := 46) hx hb dX5_faultsWith_14 (by decide) (fun c_2 => ?_) (fun c_2 => ?_)
      · have nc_2 := z_le hc_1 rfl c_2
        refine lv_iload_n hx hb dX5_faultsWith_46 rfl (lv_at hl 3 rfl) ?_
        exact W.iret (v := w3) hx hb hr (fun t ht hW9 => ⟨⟨w3, w3, rfl, rfl, ⟨y_L5, hG, tw_at ht hT⟩⟩, hS.F ht⟩) hS.2.2 dX5_faultsWith_47
      · have nc_2 := z_nle hc_1 rfl c_2
        refine lv_aload_n hx hb dX5_faultsWith_17 rfl (lv_at hl 0 rfl) ?_
        refine tw_get (D := (dC, dI)) (v := .ref (a 3)) (C := RX5) (T := TX5) (N := 6) hx hb hts (fun _ hh => (List.mem_cons_of_mem _ (List.mem_append_right _ (List.mem_append_left _ hh)))) hown hK hT (fx_5 hX) (by decide) cl_e15 rfl 2 (by decide) (hts (.fieldLink RX5 32 "TypingPool$Ledger" "floor" "LTypingPool$Floor;") (List.mem_cons_of_mem _ (List.mem_append_left _ (List.mem_of_getElem? (i := 2) rfl)))) (fun _ h9 => h9) rfl dX5_faultsWith_18 ?_
        refine lv_iload hx hb dX5_faultsWith_21 (lv_at hl 4 rfl) ?_
        refine lv_iload_n hx hb dX5_faultsWith_23 rfl (lv_at hl 1 rfl) ?_
        have hFc := tw_free hF hS hA
        refine va_calli (va_runV (As := [.int i4, .int p0]) (rest := []) ⟨hx, hb, hml, hown, hts⟩ (c_isDoneBy l dC dI ad av H.size a k τ ln y_L5 g u i4 p0 hI (by omega) (by omega)) (cwV 2 hts (gi_4 (List.mem_cons_of_mem _ (List.mem_append_left _ (List.mem_of_getElem? (i := 3) rfl))) (List.mem_cons_of_mem _ (List.mem_append_left _ (List.mem_of_getElem? (i := 4) rfl))) (List.mem_cons_of_mem _ (List.mem_append_left _ (List.mem_of_getElem? (i := 5) rfl))) (List.mem_cons_of_mem _ (List.mem_append_left _ (List.mem_of_getElem? (i := 6) rfl))) (fun _ hh => (List.mem_cons_of_mem _ (List.mem_append_right _ (List.mem_append_right _ (List.mem_append_right _ (List.mem_append_left _ hh)))))) gd_c_isDoneBy) rfl rfl rfl (by decide +kernel) ⟨Nat.le_of_ble_eq_true rfl, Nat.le_of_ble_eq_true rfl⟩) ⟨pw_blind, tw_recv hK hT (fx_3 hX) (by decide) cl_e13 rfl, pw_use hT hK hFc hS hM⟩ rfl rfl hl.1 rfl (lv_room (Nat.le_of_ble_eq_true rfl)) dX5_faultsWith_24 ⟨Nat.le_of_ble_eq_true rfl, Nat.le_of_ble_eq_true rfl⟩) hS (fun q _ h => hFc q h) hFc (fun r0 r_3 t H locs ht hvm hw hB hz1 hk1 hS => ?_)
        refine W.widen (k := 0) (n := 0) (Nat.le_of_ble_eq_true rfl) (Nat.le_of_ble_eq_true rfl) ?_
        clear hvm hz1 hk1
        subst hw
        rcases hB with ⟨hre, hT⟩ | ⟨hre, hT⟩
        · refine lq_top (v := 1) hre ?_
          rw [ht] at hT
          refine lv_if_eq (tgt := 40) hx hb dX5_faultsWith_27 (by decide) (fun c_4 => absurd c_4 (by decide)) (fun c_4 => ?_)
          refine lv_iload_n hx hb dX5_faultsWith_30 rfl (lv_at hl 3 rfl) ?_
          refine lv_aload_n hx hb dX5_faultsWith_31 rfl (lv_at hl 0 rfl) ?_
          refine lv_iload hx hb dX5_faultsWith_32 (lv_at hl 4 rfl) ?_
          refine lv_iload_n hx hb dX5_faultsWith_34 rfl (lv_at hl 2 rfl) ?_
          have hFc := tw_free hF hS hA
          refine va_calli (va_runV (As := [.int i4, .int p1]) (rest := [.int w3]) ⟨hx, hb, hml, hown, hts⟩ (c_faultsOn l dC dI ad av H.size a k τ ln y_L5 g u i4 p1 hI ) (cwV 2 hts (gi_4 (List.mem_cons_of_mem _ (List.mem_append_left _ (List.mem_of_getElem? (i := 7) rfl))) (List.mem_cons_of_mem _ (List.mem_append_left _ (List.mem_of_getElem? (i := 8) rfl))) (List.mem_cons_of_mem _ (List.mem_append_left _ (List.mem_of_getElem? (i := 9) rfl))) (List.mem_cons_of_mem _ (List.mem_append_left _ (List.mem_of_getElem? (i := 10) rfl))) (fun _ hh => (List.mem_cons_of_mem _ (List.mem_append_right _ (List.mem_append_right _ (List.mem_append_right _ (List.mem_append_right _ (List.mem_append_left _ hh))))))) gd_c_faultsOn) rfl rfl rfl (by decide +kernel) ⟨Nat.le_of_ble_eq_true rfl, Nat.le_of_ble_eq_true rfl⟩) ⟨pw_blind, tw_recv hK hT (fx_5 hX) (by decide) cl_e15 rfl, pw_use hT hK hFc hS hM⟩ rfl rfl hl.1 rfl (lv_room (Nat.le_of_ble_eq_true rfl)) dX5_faultsWith_35 ⟨Nat.le_of_ble_eq_true rfl, Nat.le_of_ble_eq_true rfl⟩) hS (fun q _ h => hFc q h) hFc (fun r0 r_5 t H locs ht hvm hw hB hz1 hk1 hS => ?_)
          refine W.widen (k := 0) (n := 0) (Nat.le_of_ble_eq_true rfl) (Nat.le_of_ble_eq_true rfl) ?_
          clear hvm hz1 hk1
          subst hw
          obtain ⟨y_6, hgy_6, hT⟩ := hB
          rw [ht] at hT
          have hG := hG.tr hgy_6 (by decide)
          have hI := hI.ag hgy_6 (by decide)
          refine lv_iadd hx hb dX5_faultsWith_38 ?_
          refine lv_topi (fun x_7 ex_7 => ?_)
          refine lv_istore_n (lv' := [(3, .int x_7), (0, .ref (a 5)), (1, .int p0), (2, .int p1), (4, .int i4)]) hx hb dX5_faultsWith_39 rfl hl (by decide) rfl (fun ls hl => ?_)
          obtain ⟨x_8, ex_8⟩ : ∃ y : Int32, y = i4 + Int32.ofInt 1 := ⟨_, rfl⟩
          have hx_8 := z_add ex_8 rfl (zk (x := Int32.ofInt 1) 1 rfl) (by omega) (by omega)
          refine lv_iinc (v := x_8) (lv' := [(4, .int x_8), (3, .int x_7), (0, .ref (a 5)), (1, .int p0), (2, .int p1)]) hx hb dX5_faultsWith_40 hl (k := 4) rfl ex_8.symm (by decide) rfl (fun ls hl => ?_)
          refine lv_goto (tgt := 5) hx hb dX5_faultsWith_43 (by decide) ?_
          exact ih_5  x_7 x_8 y_6 H _ ls (by omega) hG hI (by omega) (by omega) hT hS (lv_sub hl [2, 3, 4, 1, 0] rfl)
        · refine lq_top (v := 0) hre ?_
          rw [ht] at hT
          refine lv_if_eq (tgt := 40) hx hb dX5_faultsWith_27 (by decide) (fun c_9 => ?_) (fun c_9 => absurd c_9 (by decide))
          obtain ⟨x_10, ex_10⟩ : ∃ y : Int32, y = i4 + Int32.ofInt 1 := ⟨_, rfl⟩
          have hx_10 := z_add ex_10 rfl (zk (x := Int32.ofInt 1) 1 rfl) (by omega) (by omega)
          refine lv_iinc (v := x_10) (lv' := [(4, .int x_10), (0, .ref (a 5)), (1, .int p0), (2, .int p1), (3, .int w3)]) hx hb dX5_faultsWith_40 hl (k := 4) rfl ex_10.symm (by decide) rfl (fun ls hl => ?_)
          refine lv_goto (tgt := 5) hx hb dX5_faultsWith_43 (by decide) ?_
          exact ih_5  w3 x_10 y_L5 H _ ls (by omega) hG hI (by omega) (by omega) hT hS (lv_sub hl [1, 2, 3, 4, 0] rfl)
  have hp_11 : (0 : Int32).toInt = 0 := (zk (x := 0) 0 rfl)
  have hp_12 : (0 : Int32).toInt = 0 := (zk (x := 0) 0 rfl)
  exact loop_5 _ (0 : Int32) (0 : Int32) y s.heap _ ls (Nat.lt_succ_self _) hG hI (by omega) (by omega) hT hS (lv_sub hl [2, 3, 4, 1, 0] rfl)
def wo_c_payFor : List Cond := [.fieldLink RX5 32 "TypingPool$Ledger" "floor" "LTypingPool$Floor;", .fieldLink RX5 94 "TypingPool$Floor" "done" "[I", .methodLink RX5 82 yX5_faultsOn, .instanceMethod yX5_faultsOn, .selects RX5 yX5_faultsOn yX5_faultsOn, .initialized RX5, .fieldLink RX5 24 "TypingPool$Ledger" "book" "LTypingPool$Book;", .fieldLink RX5 97 "TypingPool$Book" "pieces" "[LTypingPool$Piece;", .fieldLink RX5 28 "TypingPool$Ledger" "rules" "LTypingPool$Rules;", .fieldLink RX5 42 "TypingPool$Rules" "letters" "[I", .fieldLink RX5 101 "TypingPool$Piece" "lines" "I", .fieldLink RX5 106 "TypingPool$Piece" "copies" "I", .fieldLink RX5 109 "TypingPool$Piece" "secret" "I", .methodLink RX5 112 yX3_minutesLate, .instanceMethod yX3_minutesLate, .selects RX3 yX3_minutesLate yX3_minutesLate, .initialized RX3, .methodLink RX5 65 yX10_holding, .instanceMethod yX10_holding, .selects RX10 yX10_holding yX10_holding, .initialized RX10, .methodLink RX5 69 yX10_give, .instanceMethod yX10_give, .selects RX10 yX10_give yX10_give]
def wm_c_payFor : List Cond := .code yX5_payFor cX5_payFor 5 (some .int) :: (wo_c_payFor ++ (wsX50 ++ (wsX30 ++ (wm_c_faultsOn ++ (wsX10 ++ (wsX100 ++ (wsX60 ++ (wm_c_minutesLate ++ (wm_c_holdingN ++ (wm_c_give ++ ([] : List Cond)))))))))))
theorem gd_c_payFor : ∀ w ∈ wm_c_payFor, goodWord w = true := gd_c rfl (gd_a (by decide) (gd_a gd_wsX50 (gd_a gd_wsX30 (gd_a gd_c_faultsOn (gd_a gd_wsX10 (gd_a gd_wsX100 (gd_a gd_wsX60 (gd_a gd_c_minutesLate (gd_a gd_c_holdingN (gd_a gd_c_give gd_nil))))))))))
set_option maxRecDepth 20000 in
theorem im_c_payFor : ∀ w ∈ wm_c_payFor, w ∈ lw_tbl := im_c (in_r [.code yX5_payFor cX5_payFor 5 (some .int)] [1181] (by decide +kernel)) (in_app (in_r wo_c_payFor [489, 447, 970, 972, 17, 84, 487, 129, 488, 402, 672, 691, 675, 1182, 866, 867, 83, 956, 780, 781, 72, 957, 784, 785] (by decide +kernel)) (in_app im_wsX50 (in_app im_wsX30 (in_app im_c_faultsOn (in_app im_wsX10 (in_app im_wsX100 (in_app im_wsX60 (in_app im_c_minutesLate (in_app im_c_holdingN (in_app im_c_give im_nil))))))))))
set_option maxHeartbeats 4000000 in
set_option maxRecDepth 100000 in
theorem c_payFor (l : Launch) (dC : Nat → ClassId) (dI : Nat → Nat → Nat) (ad av : Nat → Nat) (sz : Nat) (a : Nat → Nat) (k : Nat → ClassId) (τ ln : Nat → Nat) (y : Nat → Nat → Int32) (g : Nat → Nat → Option Nat) (u : Nat → Int) (p0 : Int32) (hI : IC a u τ ln y g) (hlp0 : 0 ≤ p0.toInt) (hup0 : p0.toInt < u 2) : Met l yX5_payFor wm_c_payFor ({ frames := 5, cells := 0, slots := 0, locals := 300 }) (pw_ ad av (dC, dI) sz [.ref (a 5), .int p0] a k τ ln y g) (va_Qi (fun (r u : Int32) => u = r) (fun (r : Int32) (t : State) => (∃ (y' : Nat → Nat → Int32), ag τ [24, 27] y y' ∧ tw (dC, dI) a k τ ln y' g t.heap)) (fr τ sz)) 0 0 (fr τ sz) := by
  refine Met.ofW (cc := cX5_payFor) (maxL := 5) (ret := (some .int)) (by decide) rfl ?_
  intro p e s m args below meth c s₁ B hml hv
  obtain ⟨rfl, hsz, hT, hK, hM⟩ := hv
  have hx := B.exec
  have hb := B.bytes
  have hr := B.returns
  have hts := atoms_spec (ws := wm_c_payFor) B.pre
  have hown : s.vm.findClass RX5 = some m.cls := findClass_of_methodNamed B.named
  have hlocks := B.notSynchronized
  subst hsz
  generalize hAe : fr τ s.heap.size = A at hM ⊢
  have hA : ∀ q : Nat, s.heap.size ≤ q → A q := fun q h => by rw [← hAe]; exact Or.inr h
  have hF : ∀ q, τ q ≠ 0 → A q := fun q h => by rw [← hAe]; exact Or.inl h
  have hS : va_S A s.heap s.heap [] := va_S.rf
  have hX := hI.1
  have hR := ic_r hI
  have hG : ag τ [24, 27] y y := ag.rf
  have hl := lv_entry ([.ref (a 5), .int p0]) (n := 5) (Nat.le_of_ble_eq_true rfl)
  rw [lg_entry_eq]
  generalize (lg_sl ([.ref (a 5), .int p0]) ++ List.replicate (5 - (lg_sl ([.ref (a 5), .int p0])).length) Slot.unset).toArray = ls at hl ⊢
  have hl : lv_has ls 5 [(0, .ref (a 5)), (1, .int p0)] := hl
  refine lv_aload_n hx hb dX5_payFor_0 rfl (lv_at hl 0 rfl) ?_
  refine tw_get (D := (dC, dI)) (v := .ref (a 3)) (C := RX5) (T := TX5) (N := 6) hx hb hts (fun _ hh => (List.mem_cons_of_mem _ (List.mem_append_right _ (List.mem_append_left _ hh)))) hown hK hT (fx_5 hX) (by decide) cl_e15 rfl 2 (by decide) (hts (.fieldLink RX5 32 "TypingPool$Ledger" "floor" "LTypingPool$Floor;") (List.mem_cons_of_mem _ (List.mem_append_left _ (List.mem_of_getElem? (i := 0) rfl)))) (fun _ h9 => h9) rfl dX5_payFor_1 ?_
  refine tw_get (D := (dC, dI)) (v := .ref (a 26)) (C := RX3) (T := TX3) (N := 12) hx hb hts (fun _ hh => (List.mem_cons_of_mem _ (List.mem_append_right _ (List.mem_append_right _ (List.mem_append_left _ hh))))) hown hK hT (fx_3 hX) (by decide) cl_e13 rfl 9 (by decide) (hts (.fieldLink RX5 94 "TypingPool$Floor" "done" "[I") (List.mem_cons_of_mem _ (List.mem_append_left _ (List.mem_of_getElem? (i := 1) rfl)))) (fun _ h9 => h9) rfl dX5_payFor_4 ?_
  refine lv_iload_n hx hb dX5_payFor_7 rfl (lv_at hl 1 rfl) ?_
  refine tw_iald hx hb hK hT 0 (fx_26 hX) (by decide) cl_e36 rfl (z_in rfl (by omega) (by omega)) dX5_payFor_8 ?_
  refine lv_iconst (v := (-1)) hx hb dX5_payFor_9 (by decide) ?_
  refine lv_icmp_ne (tgt := 15) hx hb dX5_payFor_10 (by decide) (fun c_1 => ?_) (fun c_1 => ?_)
  · have nc_1 := z_ne rfl (zk (x := (-1)) (-1) rfl) c_1
    refine lv_aload_n hx hb dX5_payFor_15 rfl (lv_at hl 0 rfl) ?_
    refine lv_iload_n hx hb dX5_payFor_16 rfl (lv_at hl 1 rfl) ?_
    refine lv_iconst (v := 1) hx hb dX5_payFor_17 (by decide) ?_
    have hFc := tw_free hF hS hA
    have hp_2 : (1 : Int32).toInt = 1 := (zk (x := 1) 1 rfl)
    refine va_calli (va_runV (As := [.int p0, .int 1]) (rest := []) ⟨hx, hb, hml, hown, hts⟩ (c_faultsOn l dC dI ad av s.heap.size a k τ ln y g u p0 (1 : Int32) hI ) (cwV 2 hts (gi_4 (List.mem_cons_of_mem _ (List.mem_append_left _ (List.mem_of_getElem? (i := 2) rfl))) (List.mem_cons_of_mem _ (List.mem_append_left _ (List.mem_of_getElem? (i := 3) rfl))) (List.mem_cons_of_mem _ (List.mem_append_left _ (List.mem_of_getElem? (i := 4) rfl))) (List.mem_cons_of_mem _ (List.mem_append_left _ (List.mem_of_getElem? (i := 5) rfl))) (fun _ hh => (List.mem_cons_of_mem _ (List.mem_append_right _ (List.mem_append_right _ (List.mem_append_right _ (List.mem_append_left _ hh)))))) gd_c_faultsOn) rfl rfl rfl (by decide +kernel) ⟨Nat.le_of_ble_eq_true rfl, Nat.le_of_ble_eq_true rfl⟩) ⟨pw_blind, tw_recv hK hT (fx_5 hX) (by decide) cl_e15 rfl, pw_use hT hK hFc hS hM⟩ rfl rfl hl.1 rfl (lv_room (Nat.le_of_ble_eq_true rfl)) dX5_payFor_18 ⟨Nat.le_of_ble_eq_true rfl, Nat.le_of_ble_eq_true rfl⟩) hS (fun q _ h => hFc q h) hFc (fun r0 r_3 t H locs ht hvm hw hB hz1 hk1 hS => ?_)
    refine W.widen (k := 0) (n := 0) (Nat.le_of_ble_eq_true rfl) (Nat.le_of_ble_eq_true rfl) ?_
    clear hvm hz1 hk1
    subst hw
    obtain ⟨y_4, hgy_4, hT⟩ := hB
    rw [ht] at hT
    have hG := hG.tr hgy_4 (by decide)
    have hI := hI.ag hgy_4 (by decide)
    clear hp_2
    refine lv_istore_n (lv' := [(2, .int r_3), (0, .ref (a 5)), (1, .int p0)]) hx hb dX5_payFor_21 rfl hl (by decide) rfl (fun ls hl => ?_)
    refine lv_aload_n hx hb dX5_payFor_22 rfl (lv_at hl 1 rfl) ?_
    refine tw_get (D := (dC, dI)) (v := .ref (a 1)) (C := RX5) (T := TX5) (N := 6) hx hb hts (fun _ hh => (List.mem_cons_of_mem _ (List.mem_append_right _ (List.mem_append_left _ hh)))) hown hK hT (fx_5 hX) (by decide) cl_e15 rfl 0 (by decide) (hts (.fieldLink RX5 24 "TypingPool$Ledger" "book" "LTypingPool$Book;") (List.mem_cons_of_mem _ (List.mem_append_left _ (List.mem_of_getElem? (i := 6) rfl)))) (fun _ h9 => h9) rfl dX5_payFor_23 ?_
    refine tw_get (D := (dC, dI)) (v := .ref (a 11)) (C := RX1) (T := TX1) (N := 8) hx hb hts (fun _ hh => (List.mem_cons_of_mem _ (List.mem_append_right _ (List.mem_append_right _ (List.mem_append_right _ (List.mem_append_right _ (List.mem_append_left _ hh))))))) hown hK hT (fx_1 hX) (by decide) cl_e11 rfl 4 (by decide) (hts (.fieldLink RX5 97 "TypingPool$Book" "pieces" "[LTypingPool$Piece;") (List.mem_cons_of_mem _ (List.mem_append_left _ (List.mem_of_getElem? (i := 7) rfl)))) (fun _ h9 => h9) rfl dX5_payFor_26 ?_
    refine lv_iload_n hx hb dX5_payFor_29 rfl (lv_at hl 2 rfl) ?_
    refine tw_aald hx hb hK hT 4 (fx_11 hX) (by decide) cl_e21 rfl (z_in rfl (by omega) (by omega)) dX5_payFor_30 ?_
    obtain ⟨q_5, hgq_5, htq_5⟩ := ic_l11 hI (x := p0) rfl (by omega) (by omega)
    refine lq_topr hgq_5 ?_
    refine lv_astore_n (lv' := [(3, .ref q_5), (2, .int r_3), (0, .ref (a 5)), (1, .int p0)]) hx hb dX5_payFor_31 rfl hl (by decide) rfl (fun ls hl => ?_)
    refine lv_aload_n hx hb dX5_payFor_32 rfl (lv_at hl 2 rfl) ?_
    refine tw_get (D := (dC, dI)) (v := .ref (a 2)) (C := RX5) (T := TX5) (N := 6) hx hb hts (fun _ hh => (List.mem_cons_of_mem _ (List.mem_append_right _ (List.mem_append_left _ hh)))) hown hK hT (fx_5 hX) (by decide) cl_e15 rfl 1 (by decide) (hts (.fieldLink RX5 28 "TypingPool$Ledger" "rules" "LTypingPool$Rules;") (List.mem_cons_of_mem _ (List.mem_append_left _ (List.mem_of_getElem? (i := 8) rfl)))) (fun _ h9 => h9) rfl dX5_payFor_33 ?_
    refine tw_get (D := (dC, dI)) (v := .ref (a 14)) (C := RX10) (T := TX10) (N := 6) hx hb hts (fun _ hh => (List.mem_cons_of_mem _ (List.mem_append_right _ (List.mem_append_right _ (List.mem_append_right _ (List.mem_append_right _ (List.mem_append_right _ (List.mem_append_left _ hh)))))))) hown hK hT (fx_2 hX) (by decide) cl_e12 rfl 2 (by decide) (hts (.fieldLink RX5 42 "TypingPool$Rules" "letters" "[I") (List.mem_cons_of_mem _ (List.mem_append_left _ (List.mem_of_getElem? (i := 9) rfl)))) (fun _ h9 => h9) rfl dX5_payFor_36 ?_
    refine lv_astore (lv' := [(4, .ref (a 14)), (3, .ref q_5), (2, .int r_3), (0, .ref (a 5)), (1, .int p0)]) hx hb dX5_payFor_39 hl (by decide) rfl (fun ls hl => ?_)
    refine lv_aload hx hb dX5_payFor_41 (lv_at hl 0 rfl) ?_
    refine lv_iconst (v := 0) hx hb dX5_payFor_43 (by decide) ?_
    refine lv_aload_n hx hb dX5_payFor_44 rfl (lv_at hl 1 rfl) ?_
    refine tw_get (D := (dC, dI)) (v := .int (y_4 q_5 2)) (C := RX6) (T := TX6) (N := 11) hx hb hts (fun _ hh => (List.mem_cons_of_mem _ (List.mem_append_right _ (List.mem_append_right _ (List.mem_append_right _ (List.mem_append_right _ (List.mem_append_right _ (List.mem_append_right _ (List.mem_append_left _ hh))))))))) hown hK hT htq_5 (by decide) cl_e2 rfl 2 (by decide) (hts (.fieldLink RX5 101 "TypingPool$Piece" "lines" "I") (List.mem_cons_of_mem _ (List.mem_append_left _ (List.mem_of_getElem? (i := 10) rfl)))) (fun _ h9 => h9) rfl dX5_payFor_45 ?_
    refine tw_iast hx hb hK hT hF hS 0 (fx_14 hX) (by decide) (fun _ => cl_e24) rfl (z_in (zk (x := 0) 0 rfl) (by omega) (by omega)) dX5_payFor_48 (fun H locs hT hS => ?_)
    obtain ⟨y_6, hy_6, hT⟩ : ∃ z : Nat → Nat → Int32, z = up2 y_4 (a 14) ((0 : Int32).toNatClampNeg) (y_4 q_5 2) ∧ tw (dC, dI) a k τ ln z g H := ⟨_, rfl, hT⟩
    have hG : ag τ [24, 27] y y_6 := by rw [hy_6]; exact hG.up (fx_14 hX) (by decide)
    have hI := hI.ag (S := [24]) (y' := y_6) (by rw [hy_6]; exact ag.one (fx_14 hX)) (by decide)
    refine lv_aload hx hb dX5_payFor_49 (lv_at hl 0 rfl) ?_
    refine lv_iconst (v := 1) hx hb dX5_payFor_51 (by decide) ?_
    refine lv_aload_n hx hb dX5_payFor_52 rfl (lv_at hl 1 rfl) ?_
    refine tw_get (D := (dC, dI)) (v := .int (y_6 q_5 8)) (C := RX6) (T := TX6) (N := 11) hx hb hts (fun _ hh => (List.mem_cons_of_mem _ (List.mem_append_right _ (List.mem_append_right _ (List.mem_append_right _ (List.mem_append_right _ (List.mem_append_right _ (List.mem_append_right _ (List.mem_append_left _ hh))))))))) hown hK hT htq_5 (by decide) cl_e2 rfl 8 (by decide) (hts (.fieldLink RX5 106 "TypingPool$Piece" "copies" "I") (List.mem_cons_of_mem _ (List.mem_append_left _ (List.mem_of_getElem? (i := 11) rfl)))) (fun _ h9 => h9) rfl dX5_payFor_53 ?_
    refine tw_iast hx hb hK hT hF hS 0 (fx_14 hX) (by decide) (fun _ => cl_e24) rfl (z_in (zk (x := 1) 1 rfl) (by omega) (by omega)) dX5_payFor_56 (fun H locs hT hS => ?_)
    obtain ⟨y_7, hy_7, hT⟩ : ∃ z : Nat → Nat → Int32, z = up2 y_6 (a 14) ((1 : Int32).toNatClampNeg) (y_6 q_5 8) ∧ tw (dC, dI) a k τ ln z g H := ⟨_, rfl, hT⟩
    have hG : ag τ [24, 27] y y_7 := by rw [hy_7]; exact hG.up (fx_14 hX) (by decide)
    have hI := hI.ag (S := [24]) (y' := y_7) (by rw [hy_7]; exact ag.one (fx_14 hX)) (by decide)
    refine lv_aload hx hb dX5_payFor_57 (lv_at hl 0 rfl) ?_
    refine lv_iconst (v := 2) hx hb dX5_payFor_59 (by decide) ?_
    refine lv_aload_n hx hb dX5_payFor_60 rfl (lv_at hl 1 rfl) ?_
    refine tw_get (D := (dC, dI)) (v := .int (y_7 q_5 3)) (C := RX6) (T := TX6) (N := 11) hx hb hts (fun _ hh => (List.mem_cons_of_mem _ (List.mem_append_right _ (List.mem_append_right _ (List.mem_append_right _ (List.mem_append_right _ (List.mem_append_right _ (List.mem_append_right _ (List.mem_append_left _ hh))))))))) hown hK hT htq_5 (by decide) cl_e2 rfl 3 (by decide) (hts (.fieldLink RX5 109 "TypingPool$Piece" "secret" "I") (List.mem_cons_of_mem _ (List.mem_append_left _ (List.mem_of_getElem? (i := 12) rfl)))) (fun _ h9 => h9) rfl dX5_payFor_61 ?_
    refine tw_iast hx hb hK hT hF hS 0 (fx_14 hX) (by decide) (fun _ => cl_e24) rfl (z_in (zk (x := 2) 2 rfl) (by omega) (by omega)) dX5_payFor_64 (fun H locs hT hS => ?_)
    obtain ⟨y_8, hy_8, hT⟩ : ∃ z : Nat → Nat → Int32, z = up2 y_7 (a 14) ((2 : Int32).toNatClampNeg) (y_7 q_5 3) ∧ tw (dC, dI) a k τ ln z g H := ⟨_, rfl, hT⟩
    have hG : ag τ [24, 27] y y_8 := by rw [hy_8]; exact hG.up (fx_14 hX) (by decide)
    have hI := hI.ag (S := [24]) (y' := y_8) (by rw [hy_8]; exact ag.one (fx_14 hX)) (by decide)
    refine lv_aload hx hb dX5_payFor_65 (lv_at hl 0 rfl) ?_
    refine lv_iconst (v := 3) hx hb dX5_payFor_67 (by decide) ?_
    refine lv_aload_n hx hb dX5_payFor_68 rfl (lv_at hl 3 rfl) ?_
    refine tw_get (D := (dC, dI)) (v := .ref (a 3)) (C := RX5) (T := TX5) (N := 6) hx hb hts (fun _ hh => (List.mem_cons_of_mem _ (List.mem_append_right _ (List.mem_append_left _ hh)))) hown hK hT (fx_5 hX) (by decide) cl_e15 rfl 2 (by decide) (hts (.fieldLink RX5 32 "TypingPool$Ledger" "floor" "LTypingPool$Floor;") (List.mem_cons_of_mem _ (List.mem_append_left _ (List.mem_of_getElem? (i := 0) rfl)))) (fun _ h9 => h9) rfl dX5_payFor_69 ?_
    refine lv_iload_n hx hb dX5_payFor_72 rfl (lv_at hl 4 rfl) ?_
    have hFc := tw_free hF hS hA
    refine va_calli (va_runV (As := [.int p0]) (rest := [.int 3, .ref (a 14)]) ⟨hx, hb, hml, hown, hts⟩ (c_minutesLate l dC dI ad av H.size a k τ ln y_8 g u p0 hI (by omega) (by omega)) (cwV 1 hts (gi_4 (List.mem_cons_of_mem _ (List.mem_append_left _ (List.mem_of_getElem? (i := 13) rfl))) (List.mem_cons_of_mem _ (List.mem_append_left _ (List.mem_of_getElem? (i := 14) rfl))) (List.mem_cons_of_mem _ (List.mem_append_left _ (List.mem_of_getElem? (i := 15) rfl))) (List.mem_cons_of_mem _ (List.mem_append_left _ (List.mem_of_getElem? (i := 16) rfl))) (fun _ hh => (List.mem_cons_of_mem _ (List.mem_append_right _ (List.mem_append_right _ (List.mem_append_right _ (List.mem_append_right _ (List.mem_append_right _ (List.mem_append_right _ (List.mem_append_right _ (List.mem_append_left _ hh)))))))))) gd_c_minutesLate) rfl rfl rfl (by decide +kernel) ⟨Nat.le_of_ble_eq_true rfl, Nat.le_of_ble_eq_true rfl⟩) ⟨pw_blind, tw_recv hK hT (fx_3 hX) (by decide) cl_e13 rfl, pw_use hT hK hFc hS hM⟩ rfl rfl hl.1 rfl (lv_room (Nat.le_of_ble_eq_true rfl)) dX5_payFor_73 ⟨Nat.le_of_ble_eq_true rfl, Nat.le_of_ble_eq_true rfl⟩) hS (fun q _ h => hFc q h) hFc (fun r0 r_9 t H locs ht hvm hw hB hz1 hk1 hS => ?_)
    refine W.widen (k := 0) (n := 0) (Nat.le_of_ble_eq_true rfl) (Nat.le_of_ble_eq_true rfl) ?_
    clear hvm hz1 hk1
    subst hw
    have hT := hB
    rw [ht] at hT
    refine tw_iast hx hb hK hT hF hS 0 (fx_14 hX) (by decide) (fun _ => cl_e24) rfl (z_in (zk (x := 3) 3 rfl) (by omega) (by omega)) dX5_payFor_76 (fun H locs hT hS => ?_)
    obtain ⟨y_10, hy_10, hT⟩ : ∃ z : Nat → Nat → Int32, z = up2 y_8 (a 14) ((3 : Int32).toNatClampNeg) r_9 ∧ tw (dC, dI) a k τ ln z g H := ⟨_, rfl, hT⟩
    have hG : ag τ [24, 27] y y_10 := by rw [hy_10]; exact hG.up (fx_14 hX) (by decide)
    have hI := hI.ag (S := [24]) (y' := y_10) (by rw [hy_10]; exact ag.one (fx_14 hX)) (by decide)
    refine lv_aload hx hb dX5_payFor_77 (lv_at hl 0 rfl) ?_
    refine lv_iconst (v := 4) hx hb dX5_payFor_79 (by decide) ?_
    refine lv_iload_n hx hb dX5_payFor_80 rfl (lv_at hl 2 rfl) ?_
    refine tw_iast hx hb hK hT hF hS 0 (fx_14 hX) (by decide) (fun _ => cl_e24) rfl (z_in (zk (x := 4) 4 rfl) (by omega) (by omega)) dX5_payFor_81 (fun H locs hT hS => ?_)
    obtain ⟨y_11, hy_11, hT⟩ : ∃ z : Nat → Nat → Int32, z = up2 y_10 (a 14) ((4 : Int32).toNatClampNeg) r_3 ∧ tw (dC, dI) a k τ ln z g H := ⟨_, rfl, hT⟩
    have hG : ag τ [24, 27] y y_11 := by rw [hy_11]; exact hG.up (fx_14 hX) (by decide)
    have hI := hI.ag (S := [24]) (y' := y_11) (by rw [hy_11]; exact ag.one (fx_14 hX)) (by decide)
    refine lv_aload_n hx hb dX5_payFor_82 rfl (lv_at hl 3 rfl) ?_
    refine tw_get (D := (dC, dI)) (v := .ref (a 2)) (C := RX5) (T := TX5) (N := 6) hx hb hts (fun _ hh => (List.mem_cons_of_mem _ (List.mem_append_right _ (List.mem_append_left _ hh)))) hown hK hT (fx_5 hX) (by decide) cl_e15 rfl 1 (by decide) (hts (.fieldLink RX5 28 "TypingPool$Ledger" "rules" "LTypingPool$Rules;") (List.mem_cons_of_mem _ (List.mem_append_left _ (List.mem_of_getElem? (i := 8) rfl)))) (fun _ h9 => h9) rfl dX5_payFor_83 ?_
    refine lv_aload_n hx hb dX5_payFor_86 rfl (lv_at hl 3 rfl) ?_
    refine tw_get (D := (dC, dI)) (v := .ref (a 2)) (C := RX5) (T := TX5) (N := 6) hx hb hts (fun _ hh => (List.mem_cons_of_mem _ (List.mem_append_right _ (List.mem_append_left _ hh)))) hown hK hT (fx_5 hX) (by decide) cl_e15 rfl 1 (by decide) (hts (.fieldLink RX5 28 "TypingPool$Ledger" "rules" "LTypingPool$Rules;") (List.mem_cons_of_mem _ (List.mem_append_left _ (List.mem_of_getElem? (i := 8) rfl)))) (fun _ h9 => h9) rfl dX5_payFor_87 ?_
    refine lv_iconst (v := 3) hx hb dX5_payFor_90 (by decide) ?_
    refine lv_aload_n hx hb dX5_payFor_91 rfl (lv_at hl 3 rfl) ?_
    refine tw_get (D := (dC, dI)) (v := .ref (a 3)) (C := RX5) (T := TX5) (N := 6) hx hb hts (fun _ hh => (List.mem_cons_of_mem _ (List.mem_append_right _ (List.mem_append_left _ hh)))) hown hK hT (fx_5 hX) (by decide) cl_e15 rfl 2 (by decide) (hts (.fieldLink RX5 32 "TypingPool$Ledger" "floor" "LTypingPool$Floor;") (List.mem_cons_of_mem _ (List.mem_append_left _ (List.mem_of_getElem? (i := 0) rfl)))) (fun _ h9 => h9) rfl dX5_payFor_92 ?_
    refine tw_get (D := (dC, dI)) (v := .ref (a 26)) (C := RX3) (T := TX3) (N := 12) hx hb hts (fun _ hh => (List.mem_cons_of_mem _ (List.mem_append_right _ (List.mem_append_right _ (List.mem_append_left _ hh))))) hown hK hT (fx_3 hX) (by decide) cl_e13 rfl 9 (by decide) (hts (.fieldLink RX5 94 "TypingPool$Floor" "done" "[I") (List.mem_cons_of_mem _ (List.mem_append_left _ (List.mem_of_getElem? (i := 1) rfl)))) (fun _ h9 => h9) rfl dX5_payFor_95 ?_
    refine lv_iload_n hx hb dX5_payFor_98 rfl (lv_at hl 4 rfl) ?_
    refine tw_iald hx hb hK hT 0 (fx_26 hX) (by decide) cl_e36 rfl (z_in rfl (by omega) (by omega)) dX5_payFor_99 ?_
    refine lv_sipush (v := 480) hx hb dX5_payFor_100 (by decide) ?_
    refine lv_idiv hx hb dX5_payFor_103 (by decide) ?_
    refine lv_topi (fun x_12 ex_12 => ?_)
    refine lv_null hx hb dX5_payFor_104 ?_
    have hFc := tw_free hF hS hA
    have hp_13 : (3 : Int32).toInt = 3 := (zk (x := 3) 3 rfl)
    refine va_callr (va_runV (As := [.int 3, .int x_12, .null]) (rest := [.ref (a 2)]) ⟨hx, hb, hml, hown, hts⟩ (c_holdingN l dC dI ad av H.size a k τ ln y_11 g u (3 : Int32) x_12 hI (by decide) (by decide)) (cwV 3 hts (gi_4 (List.mem_cons_of_mem _ (List.mem_append_left _ (List.mem_of_getElem? (i := 17) rfl))) (List.mem_cons_of_mem _ (List.mem_append_left _ (List.mem_of_getElem? (i := 18) rfl))) (List.mem_cons_of_mem _ (List.mem_append_left _ (List.mem_of_getElem? (i := 19) rfl))) (List.mem_cons_of_mem _ (List.mem_append_left _ (List.mem_of_getElem? (i := 20) rfl))) (fun _ hh => (List.mem_cons_of_mem _ (List.mem_append_right _ (List.mem_append_right _ (List.mem_append_right _ (List.mem_append_right _ (List.mem_append_right _ (List.mem_append_right _ (List.mem_append_right _ (List.mem_append_right _ (List.mem_append_left _ hh))))))))))) gd_c_holdingN) rfl rfl rfl (by decide +kernel) ⟨Nat.le_of_ble_eq_true rfl, Nat.le_of_ble_eq_true rfl⟩) ⟨pw_blind, tw_recv hK hT (fx_2 hX) (by decide) cl_e12 rfl, pw_use hT hK hFc hS hM⟩ rfl rfl hl.1 rfl (lv_room (Nat.le_of_ble_eq_true rfl)) dX5_payFor_105 ⟨Nat.le_of_ble_eq_true rfl, Nat.le_of_ble_eq_true rfl⟩) hS (fun q _ h => hFc q h) hFc (fun u0 r_14 t H locs ht hvm hw hB hz1 hk1 hS => ?_)
    refine W.widen (k := 0) (n := 0) (Nat.le_of_ble_eq_true rfl) (Nat.le_of_ble_eq_true rfl) ?_
    clear hvm hz1 hk1
    obtain ⟨htr_14, hT⟩ := hB
    rw [ht] at hT
    clear hp_13
    have hFc := tw_free hF hS hA
    refine va_calli (va_runV (As := [.ref r_14]) (rest := []) ⟨hx, hb, hml, hown, hts⟩ (c_give l dC dI ad av H.size a k τ ln y_11 g u r_14 hI htr_14) (cwV 1 hts (gi_4 (List.mem_cons_of_mem _ (List.mem_append_left _ (List.mem_of_getElem? (i := 21) rfl))) (List.mem_cons_of_mem _ (List.mem_append_left _ (List.mem_of_getElem? (i := 22) rfl))) (List.mem_cons_of_mem _ (List.mem_append_left _ (List.mem_of_getElem? (i := 23) rfl))) (List.mem_cons_of_mem _ (List.mem_append_left _ (List.mem_of_getElem? (i := 20) rfl))) (fun _ hh => (List.mem_cons_of_mem _ (List.mem_append_right _ (List.mem_append_right _ (List.mem_append_right _ (List.mem_append_right _ (List.mem_append_right _ (List.mem_append_right _ (List.mem_append_right _ (List.mem_append_right _ (List.mem_append_right _ (List.mem_append_left _ hh)))))))))))) gd_c_give) rfl rfl rfl (by decide +kernel) ⟨Nat.le_of_ble_eq_true rfl, Nat.le_of_ble_eq_true rfl⟩) ⟨pw_blind, tw_recv hK hT (fx_2 hX) (by decide) cl_e12 rfl, pw_use hT hK hFc hS hM⟩ rfl rfl hl.1 rfl (lv_room (Nat.le_of_ble_eq_true rfl)) dX5_payFor_108 ⟨Nat.le_of_ble_eq_true rfl, Nat.le_of_ble_eq_true rfl⟩) hS (fun q _ h => hFc q h) hFc (fun r0 r_15 t H locs ht hvm hw hB hz1 hk1 hS => ?_)
    refine W.widen (k := 0) (n := 0) (Nat.le_of_ble_eq_true rfl) (Nat.le_of_ble_eq_true rfl) ?_
    clear hvm hz1 hk1
    subst hw
    obtain ⟨y_16, hgy_16, hT⟩ := hB
    rw [ht] at hT
    have hG := hG.tr hgy_16 (by decide)
    have hI := hI.ag hgy_16 (by decide)
    exact W.iret (v := r_15) hx hb hr (fun t ht hW9 => ⟨⟨r_15, r_15, rfl, rfl, ⟨y_16, hG, tw_at ht hT⟩⟩, hS.F ht⟩) hS.2.2 dX5_payFor_111
  · have nc_1 := z_eq rfl (zk (x := (-1)) (-1) rfl) c_1
    refine lv_iconst (v := 0) hx hb dX5_payFor_13 (by decide) ?_
    exact W.iret (v := 0) hx hb hr (fun t ht hW9 => ⟨⟨0, 0, rfl, rfl, ⟨y, hG, tw_at ht hT⟩⟩, hS.F ht⟩) hS.2.2 dX5_payFor_14
def wo_c_payOf : List Cond := [.fieldLink RX5 24 "TypingPool$Ledger" "book" "LTypingPool$Book;", .fieldLink RX5 73 "TypingPool$Book" "pieceCount" "I", .fieldLink RX5 32 "TypingPool$Ledger" "floor" "LTypingPool$Floor;", .methodLink RX5 78 yX3_isDoneBy, .instanceMethod yX3_isDoneBy, .selects RX3 yX3_isDoneBy yX3_isDoneBy, .initialized RX3, .methodLink RX5 115 yX5_payFor, .instanceMethod yX5_payFor, .selects RX5 yX5_payFor yX5_payFor, .initialized RX5, .fieldLink RX5 94 "TypingPool$Floor" "done" "[I"]
def wm_c_payOf : List Cond := .code yX5_payOf cX5_payOf 6 (some .int) :: (wo_c_payOf ++ (wsX50 ++ (wsX10 ++ (wm_c_isDoneBy ++ (wm_c_payFor ++ (wsX30 ++ ([] : List Cond)))))))
theorem gd_c_payOf : ∀ w ∈ wm_c_payOf, goodWord w = true := gd_c rfl (gd_a (by decide) (gd_a gd_wsX50 (gd_a gd_wsX10 (gd_a gd_c_isDoneBy (gd_a gd_c_payFor (gd_a gd_wsX30 gd_nil))))))
set_option maxRecDepth 20000 in
theorem im_c_payOf : ∀ w ∈ wm_c_payOf, w ∈ lw_tbl := im_c (in_r [.code yX5_payOf cX5_payOf 6 (some .int)] [1194] (by decide +kernel)) (in_app (in_r wo_c_payOf [487, 132, 489, 966, 967, 968, 83, 1195, 1179, 1180, 84, 447] (by decide +kernel)) (in_app im_wsX50 (in_app im_wsX10 (in_app im_c_isDoneBy (in_app im_c_payFor (in_app im_wsX30 im_nil))))))
set_option maxHeartbeats 4000000 in
set_option maxRecDepth 100000 in
theorem c_payOf (l : Launch) (dC : Nat → ClassId) (dI : Nat → Nat → Nat) (ad av : Nat → Nat) (sz : Nat) (a : Nat → Nat) (k : Nat → ClassId) (τ ln : Nat → Nat) (y : Nat → Nat → Int32) (g : Nat → Nat → Option Nat) (u : Nat → Int) (p0 : Int32) (p1 : Int32) (hI : IC a u τ ln y g) : Met l yX5_payOf wm_c_payOf ({ frames := 6, cells := 0, slots := 0, locals := 360 }) (pw_ ad av (dC, dI) sz [.ref (a 5), .int p0, .int p1] a k τ ln y g) (va_Qi (fun (r u : Int32) => u = r) (fun (r : Int32) (t : State) => (∃ (y' : Nat → Nat → Int32), ag τ [24, 27] y y' ∧ tw (dC, dI) a k τ ln y' g t.heap)) (fr τ sz)) 0 0 (fr τ sz) := by
  refine Met.ofW (cc := cX5_payOf) (maxL := 6) (ret := (some .int)) (by decide) rfl ?_
  intro p e s m args below meth c s₁ B hml hv
  obtain ⟨rfl, hsz, hT, hK, hM⟩ := hv
  have hx := B.exec
  have hb := B.bytes
  have hr := B.returns
  have hts := atoms_spec (ws := wm_c_payOf) B.pre
  have hown : s.vm.findClass RX5 = some m.cls := findClass_of_methodNamed B.named
  have hlocks := B.notSynchronized
  subst hsz
  generalize hAe : fr τ s.heap.size = A at hM ⊢
  have hA : ∀ q : Nat, s.heap.size ≤ q → A q := fun q h => by rw [← hAe]; exact Or.inr h
  have hF : ∀ q, τ q ≠ 0 → A q := fun q h => by rw [← hAe]; exact Or.inl h
  have hS : va_S A s.heap s.heap [] := va_S.rf
  have hX := hI.1
  have hR := ic_r hI
  have hG : ag τ [24, 27] y y := ag.rf
  have hl := lv_entry ([.ref (a 5), .int p0, .int p1]) (n := 6) (Nat.le_of_ble_eq_true rfl)
  rw [lg_entry_eq]
  generalize (lg_sl ([.ref (a 5), .int p0, .int p1]) ++ List.replicate (6 - (lg_sl ([.ref (a 5), .int p0, .int p1])).length) Slot.unset).toArray = ls at hl ⊢
  have hl : lv_has ls 6 [(0, .ref (a 5)), (1, .int p0), (2, .int p1)] := hl
  refine lv_iconst (v := 0) hx hb dX5_payOf_0 (by decide) ?_
  refine lv_istore_n (lv' := [(3, .int 0), (0, .ref (a 5)), (1, .int p0), (2, .int p1)]) hx hb dX5_payOf_1 rfl hl (by decide) rfl (fun ls hl => ?_)
  refine lv_iconst (v := 0) hx hb dX5_payOf_2 (by decide) ?_
  refine lv_istore (lv' := [(4, .int 0), (3, .int 0), (0, .ref (a 5)), (1, .int p0), (2, .int p1)]) hx hb dX5_payOf_3 hl (by decide) rfl (fun ls hl => ?_)
  have loop_5 : ∀ (n : Nat) (w3 : Int32) (i4 : Int32) (y_L5 : Nat → Nat → Int32) (H : Heap) (locs : List Loc) (ls : Array Slot), (u 2 - i4.toInt).toNat < n → ag τ [24, 27] y y_L5 → IC a u τ ln y_L5 g → 0 ≤ i4.toInt → i4.toInt ≤ u 2 → tw (dC, dI) a k τ ln y_L5 g H → va_S A s.heap H locs → lv_has ls 6 [(0, .ref (a 5)), (1, .int p0), (2, .int p1), (3, .int w3), (4, .int i4)] → W p l e (headSpec wm_c_payOf ({ frames := 6, cells := 0, slots := 0, locals := 360 })).room s m ([.ref (a 5), .int p0, .int p1] : List Value).toArray below meth c H locs 0 0 (MQ below (va_Qi (fun (r u : Int32) => u = r) (fun (r : Int32) (t : State) => (∃ (y' : Nat → Nat → Int32), ag τ [24, 27] y y' ∧ tw (dC, dI) a k τ ln y' g t.heap)) A) ([.ref (a 5), .int p0, .int p1] : List Value).toArray s 0 0 A) (F0 m 5 ls []) := by
    intro n
    induction n with
    | zero => intro w3 i4 y_L5 H locs ls hlt; exact absurd hlt (Nat.not_lt_zero _)
    | succ n ih_5 =>
      intro w3 i4 y_L5 H locs ls hlt hG hI hi5_0 hi5_1 hT hS hl
      refine lv_iload hx hb dX5_payOf_5 (lv_at hl 4 rfl) ?_
      refine lv_aload_n hx hb dX5_payOf_7 rfl (lv_at hl 0 rfl) ?_
      refine tw_get (D := (dC, dI)) (v := .ref (a 1)) (C := RX5) (T := TX5) (N := 6) hx hb hts (fun _ hh => (List.mem_cons_of_mem _ (List.mem_append_right _ (List.mem_append_left _ hh)))) hown hK hT (fx_5 hX) (by decide) cl_e15 rfl 0 (by decide) (hts (.fieldLink RX5 24 "TypingPool$Ledger" "book" "LTypingPool$Book;") (List.mem_cons_of_mem _ (List.mem_append_left _ (List.mem_of_getElem? (i := 0) rfl)))) (fun _ h9 => h9) rfl dX5_payOf_8 ?_
      refine tw_get (D := (dC, dI)) (v := .int (y_L5 (a 1) 5)) (C := RX1) (T := TX1) (N := 8) hx hb hts (fun _ hh => (List.mem_cons_of_mem _ (List.mem_append_right _ (List.mem_append_right _ (List.mem_append_left _ hh))))) hown hK hT (fx_1 hX) (by decide) cl_e11 rfl 5 (by decide) (hts (.fieldLink RX5 73 "TypingPool$Book" "pieceCount" "I") (List.mem_cons_of_mem _ (List.mem_append_left _ (List.mem_of_getElem? (i := 1) rfl)))) (fun _ h9 => h9) rfl dX5_payOf_11 ?_
      have hc_1 := ic_2 hI
      refine lv_icmp_ge (tgt := 80) hx hb dX5_payOf_14 (by decide) (fun c_2 => ?_) (fun c_2 => ?_)
      · have nc_2 := z_le hc_1 rfl c_2
        refine lv_iload_n hx hb dX5_payOf_80 rfl (lv_at hl 3 rfl) ?_
        exact W.iret (v := w3) hx hb hr (fun t ht hW9 => ⟨⟨w3, w3, rfl, rfl, ⟨y_L5, hG, tw_at ht hT⟩⟩, hS.F ht⟩) hS.2.2 dX5_payOf_81
      · have nc_2 := z_nle hc_1 rfl c_2
        refine lv_aload_n hx hb dX5_payOf_17 rfl (lv_at hl 0 rfl) ?_
        refine tw_get (D := (dC, dI)) (v := .ref (a 3)) (C := RX5) (T := TX5) (N := 6) hx hb hts (fun _ hh => (List.mem_cons_of_mem _ (List.mem_append_right _ (List.mem_append_left _ hh)))) hown hK hT (fx_5 hX) (by decide) cl_e15 rfl 2 (by decide) (hts (.fieldLink RX5 32 "TypingPool$Ledger" "floor" "LTypingPool$Floor;") (List.mem_cons_of_mem _ (List.mem_append_left _ (List.mem_of_getElem? (i := 2) rfl)))) (fun _ h9 => h9) rfl dX5_payOf_18 ?_
        refine lv_iload hx hb dX5_payOf_21 (lv_at hl 4 rfl) ?_
        refine lv_iload_n hx hb dX5_payOf_23 rfl (lv_at hl 1 rfl) ?_
        have hFc := tw_free hF hS hA
        refine va_calli (va_runV (As := [.int i4, .int p0]) (rest := []) ⟨hx, hb, hml, hown, hts⟩ (c_isDoneBy l dC dI ad av H.size a k τ ln y_L5 g u i4 p0 hI (by omega) (by omega)) (cwV 2 hts (gi_4 (List.mem_cons_of_mem _ (List.mem_append_left _ (List.mem_of_getElem? (i := 3) rfl))) (List.mem_cons_of_mem _ (List.mem_append_left _ (List.mem_of_getElem? (i := 4) rfl))) (List.mem_cons_of_mem _ (List.mem_append_left _ (List.mem_of_getElem? (i := 5) rfl))) (List.mem_cons_of_mem _ (List.mem_append_left _ (List.mem_of_getElem? (i := 6) rfl))) (fun _ hh => (List.mem_cons_of_mem _ (List.mem_append_right _ (List.mem_append_right _ (List.mem_append_right _ (List.mem_append_left _ hh)))))) gd_c_isDoneBy) rfl rfl rfl (by decide +kernel) ⟨Nat.le_of_ble_eq_true rfl, Nat.le_of_ble_eq_true rfl⟩) ⟨pw_blind, tw_recv hK hT (fx_3 hX) (by decide) cl_e13 rfl, pw_use hT hK hFc hS hM⟩ rfl rfl hl.1 rfl (lv_room (Nat.le_of_ble_eq_true rfl)) dX5_payOf_24 ⟨Nat.le_of_ble_eq_true rfl, Nat.le_of_ble_eq_true rfl⟩) hS (fun q _ h => hFc q h) hFc (fun r0 r_3 t H locs ht hvm hw hB hz1 hk1 hS => ?_)
        refine W.widen (k := 0) (n := 0) (Nat.le_of_ble_eq_true rfl) (Nat.le_of_ble_eq_true rfl) ?_
        clear hvm hz1 hk1
        subst hw
        rcases hB with ⟨hre, hT⟩ | ⟨hre, hT⟩
        · refine lq_top (v := 1) hre ?_
          rw [ht] at hT
          refine lv_if_eq (tgt := 57) hx hb dX5_payOf_27 (by decide) (fun c_4 => absurd c_4 (by decide)) (fun c_4 => ?_)
          refine lv_iload_n hx hb dX5_payOf_30 rfl (lv_at hl 2 rfl) ?_
          refine lv_iconst (v := (-1)) hx hb dX5_payOf_31 (by decide) ?_
          refine lv_icmp_eq (tgt := 53) hx hb dX5_payOf_32 (by decide) (fun c_5 => ?_) (fun c_5 => ?_)
          · have nc_5 := z_eq rfl (zk (x := (-1)) (-1) rfl) c_5
            refine lv_iconst (v := 1) hx hb dX5_payOf_53 (by decide) ?_
            refine lv_goto (tgt := 58) hx hb dX5_payOf_54 (by decide) ?_
            refine lv_istore (lv' := [(5, .int 1), (0, .ref (a 5)), (1, .int p0), (2, .int p1), (3, .int w3), (4, .int i4)]) hx hb dX5_payOf_58 hl (by decide) rfl (fun ls hl => ?_)
            refine lv_iload hx hb dX5_payOf_60 (lv_at hl 0 rfl) ?_
            refine lv_if_eq (tgt := 74) hx hb dX5_payOf_62 (by decide) (fun c_6 => absurd c_6 (by decide)) (fun c_6 => ?_)
            refine lv_iload_n hx hb dX5_payOf_65 rfl (lv_at hl 4 rfl) ?_
            refine lv_aload_n hx hb dX5_payOf_66 rfl (lv_at hl 1 rfl) ?_
            refine lv_iload hx hb dX5_payOf_67 (lv_at hl 5 rfl) ?_
            have hFc := tw_free hF hS hA
            refine va_calli (va_runV (As := [.int i4]) (rest := [.int w3]) ⟨hx, hb, hml, hown, hts⟩ (c_payFor l dC dI ad av H.size a k τ ln y_L5 g u i4 hI (by omega) (by omega)) (cwV 1 hts (gi_4 (List.mem_cons_of_mem _ (List.mem_append_left _ (List.mem_of_getElem? (i := 7) rfl))) (List.mem_cons_of_mem _ (List.mem_append_left _ (List.mem_of_getElem? (i := 8) rfl))) (List.mem_cons_of_mem _ (List.mem_append_left _ (List.mem_of_getElem? (i := 9) rfl))) (List.mem_cons_of_mem _ (List.mem_append_left _ (List.mem_of_getElem? (i := 10) rfl))) (fun _ hh => (List.mem_cons_of_mem _ (List.mem_append_right _ (List.mem_append_right _ (List.mem_append_right _ (List.mem_append_right _ (List.mem_append_left _ hh))))))) gd_c_payFor) rfl rfl rfl (by decide +kernel) ⟨Nat.le_of_ble_eq_true rfl, Nat.le_of_ble_eq_true rfl⟩) ⟨pw_blind, tw_recv hK hT (fx_5 hX) (by decide) cl_e15 rfl, pw_use hT hK hFc hS hM⟩ rfl rfl hl.1 rfl (lv_room (Nat.le_of_ble_eq_true rfl)) dX5_payOf_69 ⟨Nat.le_of_ble_eq_true rfl, Nat.le_of_ble_eq_true rfl⟩) hS (fun q _ h => hFc q h) hFc (fun r0 r_7 t H locs ht hvm hw hB hz1 hk1 hS => ?_)
            refine W.widen (k := 0) (n := 0) (Nat.le_of_ble_eq_true rfl) (Nat.le_of_ble_eq_true rfl) ?_
            clear hvm hz1 hk1
            subst hw
            obtain ⟨y_8, hgy_8, hT⟩ := hB
            rw [ht] at hT
            have hG := hG.tr hgy_8 (by decide)
            have hI := hI.ag hgy_8 (by decide)
            refine lv_iadd hx hb dX5_payOf_72 ?_
            refine lv_topi (fun x_9 ex_9 => ?_)
            refine lv_istore_n (lv' := [(3, .int x_9), (5, .int 1), (0, .ref (a 5)), (1, .int p0), (2, .int p1), (4, .int i4)]) hx hb dX5_payOf_73 rfl hl (by decide) rfl (fun ls hl => ?_)
            obtain ⟨x_10, ex_10⟩ : ∃ y : Int32, y = i4 + Int32.ofInt 1 := ⟨_, rfl⟩
            have hx_10 := z_add ex_10 rfl (zk (x := Int32.ofInt 1) 1 rfl) (by omega) (by omega)
            refine lv_iinc (v := x_10) (lv' := [(4, .int x_10), (3, .int x_9), (5, .int 1), (0, .ref (a 5)), (1, .int p0), (2, .int p1)]) hx hb dX5_payOf_74 hl (k := 5) rfl ex_10.symm (by decide) rfl (fun ls hl => ?_)
            refine lv_goto (tgt := 5) hx hb dX5_payOf_77 (by decide) ?_
            exact ih_5  x_9 x_10 y_8 H _ ls (by omega) hG hI (by omega) (by omega) hT hS (lv_sub hl [3, 4, 5, 1, 0] rfl)
          · have nc_5 := z_ne rfl (zk (x := (-1)) (-1) rfl) c_5
            refine lv_aload_n hx hb dX5_payOf_35 rfl (lv_at hl 0 rfl) ?_
            refine tw_get (D := (dC, dI)) (v := .ref (a 3)) (C := RX5) (T := TX5) (N := 6) hx hb hts (fun _ hh => (List.mem_cons_of_mem _ (List.mem_append_right _ (List.mem_append_left _ hh)))) hown hK hT (fx_5 hX) (by decide) cl_e15 rfl 2 (by decide) (hts (.fieldLink RX5 32 "TypingPool$Ledger" "floor" "LTypingPool$Floor;") (List.mem_cons_of_mem _ (List.mem_append_left _ (List.mem_of_getElem? (i := 2) rfl)))) (fun _ h9 => h9) rfl dX5_payOf_36 ?_
            refine tw_get (D := (dC, dI)) (v := .ref (a 26)) (C := RX3) (T := TX3) (N := 12) hx hb hts (fun _ hh => (List.mem_cons_of_mem _ (List.mem_append_right _ (List.mem_append_right _ (List.mem_append_right _ (List.mem_append_right _ (List.mem_append_right _ (List.mem_append_left _ hh)))))))) hown hK hT (fx_3 hX) (by decide) cl_e13 rfl 9 (by decide) (hts (.fieldLink RX5 94 "TypingPool$Floor" "done" "[I") (List.mem_cons_of_mem _ (List.mem_append_left _ (List.mem_of_getElem? (i := 11) rfl)))) (fun _ h9 => h9) rfl dX5_payOf_39 ?_
            refine lv_iload hx hb dX5_payOf_42 (lv_at hl 4 rfl) ?_
            refine tw_iald hx hb hK hT 0 (fx_26 hX) (by decide) cl_e36 rfl (z_in rfl (by omega) (by omega)) dX5_payOf_44 ?_
            refine lv_sipush (v := 480) hx hb dX5_payOf_45 (by decide) ?_
            refine lv_idiv hx hb dX5_payOf_48 (by decide) ?_
            refine lv_topi (fun x_11 ex_11 => ?_)
            refine lv_iload_n hx hb dX5_payOf_49 rfl (lv_at hl 2 rfl) ?_
            refine lv_icmp_ne (tgt := 57) hx hb dX5_payOf_50 (by decide) (fun c_12 => ?_) (fun c_12 => ?_)
            · have nc_12 := z_ne rfl rfl c_12
              refine lv_iconst (v := 0) hx hb dX5_payOf_57 (by decide) ?_
              refine lv_istore (lv' := [(5, .int 0), (0, .ref (a 5)), (1, .int p0), (2, .int p1), (3, .int w3), (4, .int i4)]) hx hb dX5_payOf_58 hl (by decide) rfl (fun ls hl => ?_)
              refine lv_iload hx hb dX5_payOf_60 (lv_at hl 0 rfl) ?_
              refine lv_if_eq (tgt := 74) hx hb dX5_payOf_62 (by decide) (fun c_13 => ?_) (fun c_13 => absurd c_13 (by decide))
              obtain ⟨x_14, ex_14⟩ : ∃ y : Int32, y = i4 + Int32.ofInt 1 := ⟨_, rfl⟩
              have hx_14 := z_add ex_14 rfl (zk (x := Int32.ofInt 1) 1 rfl) (by omega) (by omega)
              refine lv_iinc (v := x_14) (lv' := [(4, .int x_14), (5, .int 0), (0, .ref (a 5)), (1, .int p0), (2, .int p1), (3, .int w3)]) hx hb dX5_payOf_74 hl (k := 5) rfl ex_14.symm (by decide) rfl (fun ls hl => ?_)
              refine lv_goto (tgt := 5) hx hb dX5_payOf_77 (by decide) ?_
              exact ih_5  w3 x_14 y_L5 H _ ls (by omega) hG hI (by omega) (by omega) hT hS (lv_sub hl [2, 3, 4, 5, 0] rfl)
            · have nc_12 := z_eq rfl rfl c_12
              refine lv_iconst (v := 1) hx hb dX5_payOf_53 (by decide) ?_
              refine lv_goto (tgt := 58) hx hb dX5_payOf_54 (by decide) ?_
              refine lv_istore (lv' := [(5, .int 1), (0, .ref (a 5)), (1, .int p0), (2, .int p1), (3, .int w3), (4, .int i4)]) hx hb dX5_payOf_58 hl (by decide) rfl (fun ls hl => ?_)
              refine lv_iload hx hb dX5_payOf_60 (lv_at hl 0 rfl) ?_
              refine lv_if_eq (tgt := 74) hx hb dX5_payOf_62 (by decide) (fun c_15 => absurd c_15 (by decide)) (fun c_15 => ?_)
              refine lv_iload_n hx hb dX5_payOf_65 rfl (lv_at hl 4 rfl) ?_
              refine lv_aload_n hx hb dX5_payOf_66 rfl (lv_at hl 1 rfl) ?_
              refine lv_iload hx hb dX5_payOf_67 (lv_at hl 5 rfl) ?_
              have hFc := tw_free hF hS hA
              refine va_calli (va_runV (As := [.int i4]) (rest := [.int w3]) ⟨hx, hb, hml, hown, hts⟩ (c_payFor l dC dI ad av H.size a k τ ln y_L5 g u i4 hI (by omega) (by omega)) (cwV 1 hts (gi_4 (List.mem_cons_of_mem _ (List.mem_append_left _ (List.mem_of_getElem? (i := 7) rfl))) (List.mem_cons_of_mem _ (List.mem_append_left _ (List.mem_of_getElem? (i := 8) rfl))) (List.mem_cons_of_mem _ (List.mem_append_left _ (List.mem_of_getElem? (i := 9) rfl))) (List.mem_cons_of_mem _ (List.mem_append_left _ (List.mem_of_getElem? (i := 10) rfl))) (fun _ hh => (List.mem_cons_of_mem _ (List.mem_append_right _ (List.mem_append_right _ (List.mem_append_right _ (List.mem_append_right _ (List.mem_append_left _ hh))))))) gd_c_payFor) rfl rfl rfl (by decide +kernel) ⟨Nat.le_of_ble_eq_true rfl, Nat.le_of_ble_eq_true rfl⟩) ⟨pw_blind, tw_recv hK hT (fx_5 hX) (by decide) cl_e15 rfl, pw_use hT hK hFc hS hM⟩ rfl rfl hl.1 rfl (lv_room (Nat.le_of_ble_eq_true rfl)) dX5_payOf_69 ⟨Nat.le_of_ble_eq_true rfl, Nat.le_of_ble_eq_true rfl⟩) hS (fun q _ h => hFc q h) hFc (fun r0 r_16 t H locs ht hvm hw hB hz1 hk1 hS => ?_)
              refine W.widen (k := 0) (n := 0) (Nat.le_of_ble_eq_true rfl) (Nat.le_of_ble_eq_true rfl) ?_
              clear hvm hz1 hk1
              subst hw
              obtain ⟨y_17, hgy_17, hT⟩ := hB
              rw [ht] at hT
              have hG := hG.tr hgy_17 (by decide)
              have hI := hI.ag hgy_17 (by decide)
              refine lv_iadd hx hb dX5_payOf_72 ?_
              refine lv_topi (fun x_18 ex_18 => ?_)
              refine lv_istore_n (lv' := [(3, .int x_18), (5, .int 1), (0, .ref (a 5)), (1, .int p0), (2, .int p1), (4, .int i4)]) hx hb dX5_payOf_73 rfl hl (by decide) rfl (fun ls hl => ?_)
              obtain ⟨x_19, ex_19⟩ : ∃ y : Int32, y = i4 + Int32.ofInt 1 := ⟨_, rfl⟩
              have hx_19 := z_add ex_19 rfl (zk (x := Int32.ofInt 1) 1 rfl) (by omega) (by omega)
              refine lv_iinc (v := x_19) (lv' := [(4, .int x_19), (3, .int x_18), (5, .int 1), (0, .ref (a 5)), (1, .int p0), (2, .int p1)]) hx hb dX5_payOf_74 hl (k := 5) rfl ex_19.symm (by decide) rfl (fun ls hl => ?_)
              refine lv_goto (tgt := 5) hx hb dX5_payOf_77 (by decide) ?_
              exact ih_5  x_18 x_19 y_17 H _ ls (by omega) hG hI (by omega) (by omega) hT hS (lv_sub hl [3, 4, 5, 1, 0] rfl)
        · refine lq_top (v := 0) hre ?_
          rw [ht] at hT
          refine lv_if_eq (tgt := 57) hx hb dX5_payOf_27 (by decide) (fun c_20 => ?_) (fun c_20 => absurd c_20 (by decide))
          refine lv_iconst (v := 0) hx hb dX5_payOf_57 (by decide) ?_
          refine lv_istore (lv' := [(5, .int 0), (0, .ref (a 5)), (1, .int p0), (2, .int p1), (3, .int w3), (4, .int i4)]) hx hb dX5_payOf_58 hl (by decide) rfl (fun ls hl => ?_)
          refine lv_iload hx hb dX5_payOf_60 (lv_at hl 0 rfl) ?_
          refine lv_if_eq (tgt := 74) hx hb dX5_payOf_62 (by decide) (fun c_21 => ?_) (fun c_21 => absurd c_21 (by decide))
          obtain ⟨x_22, ex_22⟩ : ∃ y : Int32, y = i4 + Int32.ofInt 1 := ⟨_, rfl⟩
          have hx_22 := z_add ex_22 rfl (zk (x := Int32.ofInt 1) 1 rfl) (by omega) (by omega)
          refine lv_iinc (v := x_22) (lv' := [(4, .int x_22), (5, .int 0), (0, .ref (a 5)), (1, .int p0), (2, .int p1), (3, .int w3)]) hx hb dX5_payOf_74 hl (k := 5) rfl ex_22.symm (by decide) rfl (fun ls hl => ?_)
          refine lv_goto (tgt := 5) hx hb dX5_payOf_77 (by decide) ?_
          exact ih_5  w3 x_22 y_L5 H _ ls (by omega) hG hI (by omega) (by omega) hT hS (lv_sub hl [2, 3, 4, 5, 0] rfl)
  have hp_23 : (0 : Int32).toInt = 0 := (zk (x := 0) 0 rfl)
  have hp_24 : (0 : Int32).toInt = 0 := (zk (x := 0) 0 rfl)
  exact loop_5 _ (0 : Int32) (0 : Int32) y s.heap _ ls (Nat.lt_succ_self _) hG hI (by omega) (by omega) hT hS (lv_sub hl [2, 3, 4, 1, 0] rfl)
def wo_c_risDigit : List Cond := []
def wm_c_risDigit : List Cond := .code yX8_isDigit cX8_isDigit 1 (some .boolean) :: (wo_c_risDigit ++ ([] : List Cond))
theorem gd_c_risDigit : ∀ w ∈ wm_c_risDigit, goodWord w = true := gd_c rfl (gd_a (by decide) gd_nil)
set_option maxRecDepth 20000 in
theorem im_c_risDigit : ∀ w ∈ wm_c_risDigit, w ∈ lw_tbl := im_c (in_r [.code yX8_isDigit cX8_isDigit 1 (some .boolean)] [332] (by decide +kernel)) (in_app (in_r wo_c_risDigit [] (by decide +kernel)) im_nil)
set_option maxHeartbeats 4000000 in
set_option maxRecDepth 100000 in
theorem c_risDigit (l : Launch) (dC : Nat → ClassId) (dI : Nat → Nat → Nat) (ad av : Nat → Nat) (sz : Nat) (a : Nat → Nat) (k : Nat → ClassId) (τ ln : Nat → Nat) (y : Nat → Nat → Int32) (g : Nat → Nat → Option Nat) (u : Nat → Int) (p0 : Int32) : Met l yX8_isDigit wm_c_risDigit ({ frames := 0, cells := 0, slots := 0, locals := 0 }) (pw_ ad av (dC, dI) sz [.int p0] a k τ ln y g) (va_Qi (fun (r u : Int32) => u = r) (fun (r : Int32) (t : State) => (r = 1 ∧ tw (dC, dI) a k τ ln y g t.heap) ∨ (r = 0 ∧ tw (dC, dI) a k τ ln y g t.heap)) (fr τ sz)) 0 0 (fr τ sz) := by
  refine Met.ofW (cc := cX8_isDigit) (maxL := 1) (ret := (some .boolean)) (by decide) rfl ?_
  intro p e s m args below meth c s₁ B hml hv
  obtain ⟨rfl, hsz, hT, hK, hM⟩ := hv
  have hx := B.exec
  have hb := B.bytes
  have hr := B.returns
  have hts := atoms_spec (ws := wm_c_risDigit) B.pre
  have hown : s.vm.findClass RX8 = some m.cls := findClass_of_methodNamed B.named
  have hlocks := B.notSynchronized
  subst hsz
  generalize hAe : fr τ s.heap.size = A at hM ⊢
  have hA : ∀ q : Nat, s.heap.size ≤ q → A q := fun q h => by rw [← hAe]; exact Or.inr h
  have hF : ∀ q, τ q ≠ 0 → A q := fun q h => by rw [← hAe]; exact Or.inl h
  have hS : va_S A s.heap s.heap [] := va_S.rf
  have hl := lv_entry ([.int p0]) (n := 1) (Nat.le_of_ble_eq_true rfl)
  rw [lg_entry_eq]
  generalize (lg_sl ([.int p0]) ++ List.replicate (1 - (lg_sl ([.int p0])).length) Slot.unset).toArray = ls at hl ⊢
  have hl : lv_has ls 1 [(0, .int p0)] := hl
  refine lv_iload_n hx hb dX8_isDigit_0 rfl (lv_at hl 0 rfl) ?_
  refine lv_bipush (v := 48) hx hb dX8_isDigit_1 (by decide) ?_
  refine lv_icmp_lt (tgt := 16) hx hb dX8_isDigit_3 (by decide) (fun c_1 => ?_) (fun c_1 => ?_)
  · have nc_1 := z_lt rfl (zk (x := 48) 48 rfl) c_1
    refine lv_iconst (v := 0) hx hb dX8_isDigit_16 (by decide) ?_
    exact W.zret (v := 0) hx hb hr (by decide) (fun t ht hW9 => ⟨⟨0, 0, rfl, rfl, Or.inr (⟨rfl, tw_at ht hT⟩)⟩, hS.F ht⟩) hS.2.2 dX8_isDigit_17
  · have nc_1 := z_nlt rfl (zk (x := 48) 48 rfl) c_1
    refine lv_iload_n hx hb dX8_isDigit_6 rfl (lv_at hl 0 rfl) ?_
    refine lv_bipush (v := 57) hx hb dX8_isDigit_7 (by decide) ?_
    refine lv_icmp_gt (tgt := 16) hx hb dX8_isDigit_9 (by decide) (fun c_2 => ?_) (fun c_2 => ?_)
    · have nc_2 := z_lt (zk (x := 57) 57 rfl) rfl c_2
      refine lv_iconst (v := 0) hx hb dX8_isDigit_16 (by decide) ?_
      exact W.zret (v := 0) hx hb hr (by decide) (fun t ht hW9 => ⟨⟨0, 0, rfl, rfl, Or.inr (⟨rfl, tw_at ht hT⟩)⟩, hS.F ht⟩) hS.2.2 dX8_isDigit_17
    · have nc_2 := z_nlt (zk (x := 57) 57 rfl) rfl c_2
      refine lv_iconst (v := 1) hx hb dX8_isDigit_12 (by decide) ?_
      refine lv_goto (tgt := 17) hx hb dX8_isDigit_13 (by decide) ?_
      exact W.zret (v := 1) hx hb hr (by decide) (fun t ht hW9 => ⟨⟨1, 1, rfl, rfl, Or.inl ⟨rfl, tw_at ht hT⟩⟩, hS.F ht⟩) hS.2.2 dX8_isDigit_17
def wo_c_rbinding : List Cond := []
def wm_c_rbinding : List Cond := .code yX8_binding cX8_binding 1 (some .int) :: (wo_c_rbinding ++ ([] : List Cond))
theorem gd_c_rbinding : ∀ w ∈ wm_c_rbinding, goodWord w = true := gd_c rfl (gd_a (by decide) gd_nil)
set_option maxRecDepth 20000 in
theorem im_c_rbinding : ∀ w ∈ wm_c_rbinding, w ∈ lw_tbl := im_c (in_r [.code yX8_binding cX8_binding 1 (some .int)] [359] (by decide +kernel)) (in_app (in_r wo_c_rbinding [] (by decide +kernel)) im_nil)
set_option maxHeartbeats 4000000 in
set_option maxRecDepth 100000 in
theorem c_rbinding (l : Launch) (dC : Nat → ClassId) (dI : Nat → Nat → Nat) (ad av : Nat → Nat) (sz : Nat) (a : Nat → Nat) (k : Nat → ClassId) (τ ln : Nat → Nat) (y : Nat → Nat → Int32) (g : Nat → Nat → Option Nat) (u : Nat → Int) (p0 : Int32) : Met l yX8_binding wm_c_rbinding ({ frames := 0, cells := 0, slots := 0, locals := 0 }) (pw_ ad av (dC, dI) sz [.int p0] a k τ ln y g) (va_Qi (fun (r u : Int32) => u = r) (fun (r : Int32) (t : State) => (tw (dC, dI) a k τ ln y g t.heap)) (fr τ sz)) 0 0 (fr τ sz) := by
  refine Met.ofW (cc := cX8_binding) (maxL := 1) (ret := (some .int)) (by decide) rfl ?_
  intro p e s m args below meth c s₁ B hml hv
  obtain ⟨rfl, hsz, hT, hK, hM⟩ := hv
  have hx := B.exec
  have hb := B.bytes
  have hr := B.returns
  have hts := atoms_spec (ws := wm_c_rbinding) B.pre
  have hown : s.vm.findClass RX8 = some m.cls := findClass_of_methodNamed B.named
  have hlocks := B.notSynchronized
  subst hsz
  generalize hAe : fr τ s.heap.size = A at hM ⊢
  have hA : ∀ q : Nat, s.heap.size ≤ q → A q := fun q h => by rw [← hAe]; exact Or.inr h
  have hF : ∀ q, τ q ≠ 0 → A q := fun q h => by rw [← hAe]; exact Or.inl h
  have hS : va_S A s.heap s.heap [] := va_S.rf
  have hl := lv_entry ([.int p0]) (n := 1) (Nat.le_of_ble_eq_true rfl)
  rw [lg_entry_eq]
  generalize (lg_sl ([.int p0]) ++ List.replicate (1 - (lg_sl ([.int p0])).length) Slot.unset).toArray = ls at hl ⊢
  have hl : lv_has ls 1 [(0, .int p0)] := hl
  refine lv_iload_n hx hb dX8_binding_0 rfl (lv_at hl 0 rfl) ?_
  by_cases w_1 : p0 = 33
  · refine lq_top (v := 33) w_1 ?_
    refine lv_lookup (tgt := 102) hx hb dX8_binding_1 (by decide) (off := 101) (by decide) (by decide) ?_
    refine lv_bipush (v := 6) hx hb dX8_binding_102 (by decide) ?_
    exact W.iret (v := 6) hx hb hr (fun t ht hW9 => ⟨⟨6, 6, rfl, rfl, (tw_at ht hT)⟩, hS.F ht⟩) hS.2.2 dX8_binding_104
  by_cases w_2 : p0 = 38
  · refine lq_top (v := 38) w_2 ?_
    refine lv_lookup (tgt := 94) hx hb dX8_binding_1 (by decide) (off := 93) (by decide) (by decide) ?_
    refine lv_iconst (v := 2) hx hb dX8_binding_94 (by decide) ?_
    exact W.iret (v := 2) hx hb hr (fun t ht hW9 => ⟨⟨2, 2, rfl, rfl, (tw_at ht hT)⟩, hS.F ht⟩) hS.2.2 dX8_binding_95
  by_cases w_3 : p0 = 42
  · refine lq_top (v := 42) w_3 ?_
    refine lv_lookup (tgt := 100) hx hb dX8_binding_1 (by decide) (off := 99) (by decide) (by decide) ?_
    refine lv_iconst (v := 5) hx hb dX8_binding_100 (by decide) ?_
    exact W.iret (v := 5) hx hb hr (fun t ht hW9 => ⟨⟨5, 5, rfl, rfl, (tw_at ht hT)⟩, hS.F ht⟩) hS.2.2 dX8_binding_101
  by_cases w_4 : p0 = 43
  · refine lq_top (v := 43) w_4 ?_
    refine lv_lookup (tgt := 98) hx hb dX8_binding_1 (by decide) (off := 97) (by decide) (by decide) ?_
    refine lv_iconst (v := 4) hx hb dX8_binding_98 (by decide) ?_
    exact W.iret (v := 4) hx hb hr (fun t ht hW9 => ⟨⟨4, 4, rfl, rfl, (tw_at ht hT)⟩, hS.F ht⟩) hS.2.2 dX8_binding_99
  by_cases w_5 : p0 = 45
  · refine lq_top (v := 45) w_5 ?_
    refine lv_lookup (tgt := 98) hx hb dX8_binding_1 (by decide) (off := 97) (by decide) (by decide) ?_
    refine lv_iconst (v := 4) hx hb dX8_binding_98 (by decide) ?_
    exact W.iret (v := 4) hx hb hr (fun t ht hW9 => ⟨⟨4, 4, rfl, rfl, (tw_at ht hT)⟩, hS.F ht⟩) hS.2.2 dX8_binding_99
  by_cases w_6 : p0 = 60
  · refine lq_top (v := 60) w_6 ?_
    refine lv_lookup (tgt := 96) hx hb dX8_binding_1 (by decide) (off := 95) (by decide) (by decide) ?_
    refine lv_iconst (v := 3) hx hb dX8_binding_96 (by decide) ?_
    exact W.iret (v := 3) hx hb hr (fun t ht hW9 => ⟨⟨3, 3, rfl, rfl, (tw_at ht hT)⟩, hS.F ht⟩) hS.2.2 dX8_binding_97
  by_cases w_7 : p0 = 61
  · refine lq_top (v := 61) w_7 ?_
    refine lv_lookup (tgt := 96) hx hb dX8_binding_1 (by decide) (off := 95) (by decide) (by decide) ?_
    refine lv_iconst (v := 3) hx hb dX8_binding_96 (by decide) ?_
    exact W.iret (v := 3) hx hb hr (fun t ht hW9 => ⟨⟨3, 3, rfl, rfl, (tw_at ht hT)⟩, hS.F ht⟩) hS.2.2 dX8_binding_97
  by_cases w_8 : p0 = 62
  · refine lq_top (v := 62) w_8 ?_
    refine lv_lookup (tgt := 96) hx hb dX8_binding_1 (by decide) (off := 95) (by decide) (by decide) ?_
    refine lv_iconst (v := 3) hx hb dX8_binding_96 (by decide) ?_
    exact W.iret (v := 3) hx hb hr (fun t ht hW9 => ⟨⟨3, 3, rfl, rfl, (tw_at ht hT)⟩, hS.F ht⟩) hS.2.2 dX8_binding_97
  by_cases w_9 : p0 = 124
  · refine lq_top (v := 124) w_9 ?_
    refine lv_lookup (tgt := 92) hx hb dX8_binding_1 (by decide) (off := 91) (by decide) (by decide) ?_
    refine lv_iconst (v := 1) hx hb dX8_binding_92 (by decide) ?_
    exact W.iret (v := 1) hx hb hr (fun t ht hW9 => ⟨⟨1, 1, rfl, rfl, (tw_at ht hT)⟩, hS.F ht⟩) hS.2.2 dX8_binding_93
  by_cases w_10 : p0 = 126
  · refine lq_top (v := 126) w_10 ?_
    refine lv_lookup (tgt := 102) hx hb dX8_binding_1 (by decide) (off := 101) (by decide) (by decide) ?_
    refine lv_bipush (v := 6) hx hb dX8_binding_102 (by decide) ?_
    exact W.iret (v := 6) hx hb hr (fun t ht hW9 => ⟨⟨6, 6, rfl, rfl, (tw_at ht hT)⟩, hS.F ht⟩) hS.2.2 dX8_binding_104
  refine lv_lookup (tgt := 105) hx hb dX8_binding_1 (by decide) (off := 104) ((lv_osw w_1 rfl).trans ((lv_osw w_2 rfl).trans ((lv_osw w_3 rfl).trans ((lv_osw w_4 rfl).trans ((lv_osw w_5 rfl).trans ((lv_osw w_6 rfl).trans ((lv_osw w_7 rfl).trans ((lv_osw w_8 rfl).trans ((lv_osw w_9 rfl).trans ((lv_osw w_10 rfl).trans (rfl))))))))))) (by decide) ?_
  refine lv_iconst (v := 0) hx hb dX8_binding_105 (by decide) ?_
  exact W.iret (v := 0) hx hb hr (fun t ht hW9 => ⟨⟨0, 0, rfl, rfl, (tw_at ht hT)⟩, hS.F ht⟩) hS.2.2 dX8_binding_106
def wo_c_rwrite : List Cond := [.fieldLink RX8 19 "TypingPool$Reader" "codeLength" "I", .fieldLink RX8 11 "TypingPool$Reader" "code" "[I"]
def wm_c_rwrite : List Cond := .code yX8_write cX8_write 2 none :: (wo_c_rwrite ++ (wsX80 ++ ([] : List Cond)))
theorem gd_c_rwrite : ∀ w ∈ wm_c_rwrite, goodWord w = true := gd_c rfl (gd_a (by decide) (gd_a gd_wsX80 gd_nil))
set_option maxRecDepth 20000 in
theorem im_c_rwrite : ∀ w ∈ wm_c_rwrite, w ∈ lw_tbl := im_c (in_r [.code yX8_write cX8_write 2 none] [336] (by decide +kernel)) (in_app (in_r wo_c_rwrite [171, 170] (by decide +kernel)) (in_app im_wsX80 im_nil))
set_option maxHeartbeats 4000000 in
set_option maxRecDepth 100000 in
theorem c_rwrite (l : Launch) (dC : Nat → ClassId) (dI : Nat → Nat → Nat) (ad av : Nat → Nat) (sz : Nat) (a : Nat → Nat) (k : Nat → ClassId) (τ ln : Nat → Nat) (y : Nat → Nat → Int32) (g : Nat → Nat → Option Nat) (u : Nat → Int) (p0 : Int32) (hI : IC a u τ ln y g) (hq1 : 0 ≤ (y (a 16) 1).toInt ∧ (y (a 16) 1).toInt ≤ 60) (hq3 : 0 ≤ (y (a 16) 3).toInt ∧ (y (a 16) 3).toInt ≤ 60) : Met l yX8_write wm_c_rwrite ({ frames := 0, cells := 0, slots := 0, locals := 0 }) (pw_ ad av (dC, dI) sz [.ref (a 16), .int p0] a k τ ln y g) (va_Qv (fun (_ : Unit) => True) (fun (_ : Unit) (t : State) => (∃ (y' : Nat → Nat → Int32), ag τ [26, 28, 29] y y' ∧ (0 ≤ (y' (a 16) 1).toInt ∧ (y' (a 16) 1).toInt ≤ 60) ∧ (0 ≤ (y' (a 16) 3).toInt ∧ (y' (a 16) 3).toInt ≤ 60) ∧ (y' (a 16) 3).toInt = (y (a 16) 3).toInt ∧ tw (dC, dI) a k τ ln y' g t.heap)) (fr τ sz)) 0 0 (fr τ sz) := by
  refine Met.ofW (cc := cX8_write) (maxL := 2) (ret := none) (by decide) rfl ?_
  intro p e s m args below meth c s₁ B hml hv
  obtain ⟨rfl, hsz, hT, hK, hM⟩ := hv
  have hx := B.exec
  have hb := B.bytes
  have hr := B.returns
  have hts := atoms_spec (ws := wm_c_rwrite) B.pre
  have hown : s.vm.findClass RX8 = some m.cls := findClass_of_methodNamed B.named
  have hlocks := B.notSynchronized
  subst hsz
  generalize hAe : fr τ s.heap.size = A at hM ⊢
  have hA : ∀ q : Nat, s.heap.size ≤ q → A q := fun q h => by rw [← hAe]; exact Or.inr h
  have hF : ∀ q, τ q ≠ 0 → A q := fun q h => by rw [← hAe]; exact Or.inl h
  have hS : va_S A s.heap s.heap [] := va_S.rf
  have hX := hI.1
  have hR := ic_r hI
  have hG : ag τ [26, 28, 29] y y := ag.rf
  have hl := lv_entry ([.ref (a 16), .int p0]) (n := 2) (Nat.le_of_ble_eq_true rfl)
  rw [lg_entry_eq]
  generalize (lg_sl ([.ref (a 16), .int p0]) ++ List.replicate (2 - (lg_sl ([.ref (a 16), .int p0])).length) Slot.unset).toArray = ls at hl ⊢
  have hl : lv_has ls 2 [(0, .ref (a 16)), (1, .int p0)] := hl
  refine lv_aload_n hx hb dX8_write_0 rfl (lv_at hl 0 rfl) ?_
  refine tw_get (D := (dC, dI)) (v := .int (y (a 16) 1)) (C := RX8) (T := TX8) (N := 8) hx hb hts (fun _ hh => (List.mem_cons_of_mem _ (List.mem_append_right _ (List.mem_append_left _ hh)))) hown hK hT (fx_16 hX) (by decide) cl_e26 rfl 1 (by decide) (hts (.fieldLink RX8 19 "TypingPool$Reader" "codeLength" "I") (List.mem_cons_of_mem _ (List.mem_append_left _ (List.mem_of_getElem? (i := 0) rfl)))) (fun _ h9 => h9) rfl dX8_write_1 ?_
  refine lv_aload_n hx hb dX8_write_4 rfl (lv_at hl 0 rfl) ?_
  refine tw_get (D := (dC, dI)) (v := .ref (a 18)) (C := RX8) (T := TX8) (N := 8) hx hb hts (fun _ hh => (List.mem_cons_of_mem _ (List.mem_append_right _ (List.mem_append_left _ hh)))) hown hK hT (fx_16 hX) (by decide) cl_e26 rfl 0 (by decide) (hts (.fieldLink RX8 11 "TypingPool$Reader" "code" "[I") (List.mem_cons_of_mem _ (List.mem_append_left _ (List.mem_of_getElem? (i := 1) rfl)))) (fun _ h9 => h9) rfl dX8_write_5 ?_
  refine tw_alen (v := 60) hx hb hK hT 0 (fx_18 hX) (by decide) cl_e28 rfl rfl dX8_write_8 ?_
  refine lv_icmp_ge (tgt := 32) hx hb dX8_write_9 (by decide) (fun c_1 => ?_) (fun c_1 => ?_)
  · have nc_1 := z_le (zk (x := 60) 60 rfl) rfl c_1
    exact W.vret hx hb hr (fun t ht hW9 => ⟨⟨(), rfl, trivial, ⟨y, hG, by omega, by omega, by omega, tw_at ht hT⟩⟩, hS.F ht⟩) hS.2.2 dX8_write_32
  · have nc_1 := z_nle (zk (x := 60) 60 rfl) rfl c_1
    refine lv_aload_n hx hb dX8_write_12 rfl (lv_at hl 0 rfl) ?_
    refine tw_get (D := (dC, dI)) (v := .ref (a 18)) (C := RX8) (T := TX8) (N := 8) hx hb hts (fun _ hh => (List.mem_cons_of_mem _ (List.mem_append_right _ (List.mem_append_left _ hh)))) hown hK hT (fx_16 hX) (by decide) cl_e26 rfl 0 (by decide) (hts (.fieldLink RX8 11 "TypingPool$Reader" "code" "[I") (List.mem_cons_of_mem _ (List.mem_append_left _ (List.mem_of_getElem? (i := 1) rfl)))) (fun _ h9 => h9) rfl dX8_write_13 ?_
    refine lv_aload_n hx hb dX8_write_16 rfl (lv_at hl 0 rfl) ?_
    refine tw_get (D := (dC, dI)) (v := .int (y (a 16) 1)) (C := RX8) (T := TX8) (N := 8) hx hb hts (fun _ hh => (List.mem_cons_of_mem _ (List.mem_append_right _ (List.mem_append_left _ hh)))) hown hK hT (fx_16 hX) (by decide) cl_e26 rfl 1 (by decide) (hts (.fieldLink RX8 19 "TypingPool$Reader" "codeLength" "I") (List.mem_cons_of_mem _ (List.mem_append_left _ (List.mem_of_getElem? (i := 0) rfl)))) (fun _ h9 => h9) rfl dX8_write_17 ?_
    refine lv_iload_n hx hb dX8_write_20 rfl (lv_at hl 1 rfl) ?_
    refine tw_iast hx hb hK hT hF hS 0 (fx_18 hX) (by decide) (fun _ => cl_e28) rfl (z_in rfl (by omega) (by omega)) dX8_write_21 (fun H locs hT hS => ?_)
    obtain ⟨y_2, hy_2, hT⟩ : ∃ z : Nat → Nat → Int32, z = up2 y (a 18) ((y (a 16) 1).toNatClampNeg) p0 ∧ tw (dC, dI) a k τ ln z g H := ⟨_, rfl, hT⟩
    have hG : ag τ [26, 28, 29] y y_2 := by rw [hy_2]; exact hG.up (fx_18 hX) (by decide)
    have : (y_2 (a 16) 1).toInt = (y (a 16) 1).toInt := by rw [hy_2, up2_o (kd_ne (fx_16 hX) (fx_18 hX) (by decide))]
    have : (y_2 (a 16) 3).toInt = (y (a 16) 3).toInt := by rw [hy_2, up2_o (kd_ne (fx_16 hX) (fx_18 hX) (by decide))]
    have hI := hI.ag (S := [28]) (y' := y_2) (by rw [hy_2]; exact ag.one (fx_18 hX)) (by decide)
    refine lv_aload_n hx hb dX8_write_22 rfl (lv_at hl 0 rfl) ?_
    refine lv_dup hx hb dX8_write_23 rfl ?_
    refine tw_get (D := (dC, dI)) (v := .int (y_2 (a 16) 1)) (C := RX8) (T := TX8) (N := 8) hx hb hts (fun _ hh => (List.mem_cons_of_mem _ (List.mem_append_right _ (List.mem_append_left _ hh)))) hown hK hT (fx_16 hX) (by decide) cl_e26 rfl 1 (by decide) (hts (.fieldLink RX8 19 "TypingPool$Reader" "codeLength" "I") (List.mem_cons_of_mem _ (List.mem_append_left _ (List.mem_of_getElem? (i := 0) rfl)))) (fun _ h9 => h9) rfl dX8_write_24 ?_
    refine lv_iconst (v := 1) hx hb dX8_write_27 (by decide) ?_
    refine lv_iadd hx hb dX8_write_28 ?_
    refine lv_topi (fun x_3 ex_3 => ?_)
    have hx_3 := z_add ex_3 rfl (zk (x := 1) 1 rfl) (by omega) (by omega)
    refine tw_put (D := (dC, dI)) (x := x_3) (ty := .int) (C := RX8) (T := TX8) (N := 8) hx hb hts (fun _ hh => (List.mem_cons_of_mem _ (List.mem_append_right _ (List.mem_append_left _ hh)))) tyX8 tyX8_ok nmX8 hown hK hT hF hS (fx_16 hX) (by decide) cl_e26 rfl 1 (by decide) (hts (.fieldLink RX8 19 "TypingPool$Reader" "codeLength" "I") (List.mem_cons_of_mem _ (List.mem_append_left _ (List.mem_of_getElem? (i := 0) rfl)))) (fun _ h9 => h9) rfl (tyX8_ok 1 (by decide)) rfl rfl (Nat.le_of_ble_eq_true rfl) rfl dX8_write_29 (fun H locs hT hS => ?_)
    obtain ⟨y_4, hy_4, hT⟩ : ∃ z : Nat → Nat → Int32, z = up2 y_2 (a 16) 1 x_3 ∧ tw (dC, dI) a k τ ln z g H := ⟨_, rfl, hT⟩
    have hG : ag τ [26, 28, 29] y y_4 := by rw [hy_4]; exact hG.up (fx_16 hX) (by decide)
    have : (y_4 (a 16) 1).toInt = x_3.toInt := (congrArg Int32.toInt (show y_4 (a 16) 1 = x_3 from by rw [hy_4]; exact up2_i)).trans rfl
    have : (y_4 (a 16) 3).toInt = (y_2 (a 16) 3).toInt := by rw [hy_4, up2_e (by decide)]
    have hI := hI.ag (S := [26]) (y' := y_4) (by rw [hy_4]; exact ag.one (fx_16 hX)) (by decide)
    exact W.vret hx hb hr (fun t ht hW9 => ⟨⟨(), rfl, trivial, ⟨y_4, hG, by omega, by omega, by omega, tw_at ht hT⟩⟩, hS.F ht⟩) hS.2.2 dX8_write_32
def wo_c_rkeepOpen : List Cond := [.fieldLink RX8 23 "TypingPool$Reader" "openLength" "I", .fieldLink RX8 15 "TypingPool$Reader" "open" "[C"]
def wm_c_rkeepOpen : List Cond := .code yX8_keepOpen cX8_keepOpen 2 none :: (wo_c_rkeepOpen ++ (wsX80 ++ ([] : List Cond)))
theorem gd_c_rkeepOpen : ∀ w ∈ wm_c_rkeepOpen, goodWord w = true := gd_c rfl (gd_a (by decide) (gd_a gd_wsX80 gd_nil))
set_option maxRecDepth 20000 in
theorem im_c_rkeepOpen : ∀ w ∈ wm_c_rkeepOpen, w ∈ lw_tbl := im_c (in_r [.code yX8_keepOpen cX8_keepOpen 2 none] [340] (by decide +kernel)) (in_app (in_r wo_c_rkeepOpen [173, 172] (by decide +kernel)) (in_app im_wsX80 im_nil))
set_option maxHeartbeats 4000000 in
set_option maxRecDepth 100000 in
theorem c_rkeepOpen (l : Launch) (dC : Nat → ClassId) (dI : Nat → Nat → Nat) (ad av : Nat → Nat) (sz : Nat) (a : Nat → Nat) (k : Nat → ClassId) (τ ln : Nat → Nat) (y : Nat → Nat → Int32) (g : Nat → Nat → Option Nat) (u : Nat → Int) (p0 : Int32) (hI : IC a u τ ln y g) (hq1 : 0 ≤ (y (a 16) 1).toInt ∧ (y (a 16) 1).toInt ≤ 60) (hq3 : 0 ≤ (y (a 16) 3).toInt ∧ (y (a 16) 3).toInt ≤ 60) : Met l yX8_keepOpen wm_c_rkeepOpen ({ frames := 0, cells := 0, slots := 0, locals := 0 }) (pw_ ad av (dC, dI) sz [.ref (a 16), .int p0] a k τ ln y g) (va_Qv (fun (_ : Unit) => True) (fun (_ : Unit) (t : State) => (∃ (y' : Nat → Nat → Int32), ag τ [26, 28, 29] y y' ∧ (0 ≤ (y' (a 16) 1).toInt ∧ (y' (a 16) 1).toInt ≤ 60) ∧ (0 ≤ (y' (a 16) 3).toInt ∧ (y' (a 16) 3).toInt ≤ 60) ∧ tw (dC, dI) a k τ ln y' g t.heap)) (fr τ sz)) 0 0 (fr τ sz) := by
  refine Met.ofW (cc := cX8_keepOpen) (maxL := 2) (ret := none) (by decide) rfl ?_
  intro p e s m args below meth c s₁ B hml hv
  obtain ⟨rfl, hsz, hT, hK, hM⟩ := hv
  have hx := B.exec
  have hb := B.bytes
  have hr := B.returns
  have hts := atoms_spec (ws := wm_c_rkeepOpen) B.pre
  have hown : s.vm.findClass RX8 = some m.cls := findClass_of_methodNamed B.named
  have hlocks := B.notSynchronized
  subst hsz
  generalize hAe : fr τ s.heap.size = A at hM ⊢
  have hA : ∀ q : Nat, s.heap.size ≤ q → A q := fun q h => by rw [← hAe]; exact Or.inr h
  have hF : ∀ q, τ q ≠ 0 → A q := fun q h => by rw [← hAe]; exact Or.inl h
  have hS : va_S A s.heap s.heap [] := va_S.rf
  have hX := hI.1
  have hR := ic_r hI
  have hG : ag τ [26, 28, 29] y y := ag.rf
  have hl := lv_entry ([.ref (a 16), .int p0]) (n := 2) (Nat.le_of_ble_eq_true rfl)
  rw [lg_entry_eq]
  generalize (lg_sl ([.ref (a 16), .int p0]) ++ List.replicate (2 - (lg_sl ([.ref (a 16), .int p0])).length) Slot.unset).toArray = ls at hl ⊢
  have hl : lv_has ls 2 [(0, .ref (a 16)), (1, .int p0)] := hl
  refine lv_aload_n hx hb dX8_keepOpen_0 rfl (lv_at hl 0 rfl) ?_
  refine tw_get (D := (dC, dI)) (v := .int (y (a 16) 3)) (C := RX8) (T := TX8) (N := 8) hx hb hts (fun _ hh => (List.mem_cons_of_mem _ (List.mem_append_right _ (List.mem_append_left _ hh)))) hown hK hT (fx_16 hX) (by decide) cl_e26 rfl 3 (by decide) (hts (.fieldLink RX8 23 "TypingPool$Reader" "openLength" "I") (List.mem_cons_of_mem _ (List.mem_append_left _ (List.mem_of_getElem? (i := 0) rfl)))) (fun _ h9 => h9) rfl dX8_keepOpen_1 ?_
  refine lv_aload_n hx hb dX8_keepOpen_4 rfl (lv_at hl 0 rfl) ?_
  refine tw_get (D := (dC, dI)) (v := .ref (a 19)) (C := RX8) (T := TX8) (N := 8) hx hb hts (fun _ hh => (List.mem_cons_of_mem _ (List.mem_append_right _ (List.mem_append_left _ hh)))) hown hK hT (fx_16 hX) (by decide) cl_e26 rfl 2 (by decide) (hts (.fieldLink RX8 15 "TypingPool$Reader" "open" "[C") (List.mem_cons_of_mem _ (List.mem_append_left _ (List.mem_of_getElem? (i := 1) rfl)))) (fun _ h9 => h9) rfl dX8_keepOpen_5 ?_
  refine tw_alen (v := 60) hx hb hK hT 1 (fx_19 hX) (by decide) cl_e29 rfl rfl dX8_keepOpen_8 ?_
  refine lv_icmp_ge (tgt := 32) hx hb dX8_keepOpen_9 (by decide) (fun c_1 => ?_) (fun c_1 => ?_)
  · have nc_1 := z_le (zk (x := 60) 60 rfl) rfl c_1
    exact W.vret hx hb hr (fun t ht hW9 => ⟨⟨(), rfl, trivial, ⟨y, hG, by omega, by omega, tw_at ht hT⟩⟩, hS.F ht⟩) hS.2.2 dX8_keepOpen_32
  · have nc_1 := z_nle (zk (x := 60) 60 rfl) rfl c_1
    refine lv_aload_n hx hb dX8_keepOpen_12 rfl (lv_at hl 0 rfl) ?_
    refine tw_get (D := (dC, dI)) (v := .ref (a 19)) (C := RX8) (T := TX8) (N := 8) hx hb hts (fun _ hh => (List.mem_cons_of_mem _ (List.mem_append_right _ (List.mem_append_left _ hh)))) hown hK hT (fx_16 hX) (by decide) cl_e26 rfl 2 (by decide) (hts (.fieldLink RX8 15 "TypingPool$Reader" "open" "[C") (List.mem_cons_of_mem _ (List.mem_append_left _ (List.mem_of_getElem? (i := 1) rfl)))) (fun _ h9 => h9) rfl dX8_keepOpen_13 ?_
    refine lv_aload_n hx hb dX8_keepOpen_16 rfl (lv_at hl 0 rfl) ?_
    refine tw_get (D := (dC, dI)) (v := .int (y (a 16) 3)) (C := RX8) (T := TX8) (N := 8) hx hb hts (fun _ hh => (List.mem_cons_of_mem _ (List.mem_append_right _ (List.mem_append_left _ hh)))) hown hK hT (fx_16 hX) (by decide) cl_e26 rfl 3 (by decide) (hts (.fieldLink RX8 23 "TypingPool$Reader" "openLength" "I") (List.mem_cons_of_mem _ (List.mem_append_left _ (List.mem_of_getElem? (i := 0) rfl)))) (fun _ h9 => h9) rfl dX8_keepOpen_17 ?_
    refine lv_iload_n hx hb dX8_keepOpen_20 rfl (lv_at hl 1 rfl) ?_
    refine tw_cast hx hb hK hT hF hS 1 (fx_19 hX) (by decide) (fun _ => cl_e29) rfl (z_in rfl (by omega) (by omega)) dX8_keepOpen_21 (fun H locs hT hS => ?_)
    obtain ⟨y_2, hy_2, hT⟩ : ∃ z : Nat → Nat → Int32, z = up2 y (a 19) ((y (a 16) 3).toNatClampNeg) (vp_nar .char p0) ∧ tw (dC, dI) a k τ ln z g H := ⟨_, rfl, hT⟩
    have hG : ag τ [26, 28, 29] y y_2 := by rw [hy_2]; exact hG.up (fx_19 hX) (by decide)
    have : (y_2 (a 16) 1).toInt = (y (a 16) 1).toInt := by rw [hy_2, up2_o (kd_ne (fx_16 hX) (fx_19 hX) (by decide))]
    have : (y_2 (a 16) 3).toInt = (y (a 16) 3).toInt := by rw [hy_2, up2_o (kd_ne (fx_16 hX) (fx_19 hX) (by decide))]
    have hI := hI.ag (S := [29]) (y' := y_2) (by rw [hy_2]; exact ag.one (fx_19 hX)) (by decide)
    refine lv_aload_n hx hb dX8_keepOpen_22 rfl (lv_at hl 0 rfl) ?_
    refine lv_dup hx hb dX8_keepOpen_23 rfl ?_
    refine tw_get (D := (dC, dI)) (v := .int (y_2 (a 16) 3)) (C := RX8) (T := TX8) (N := 8) hx hb hts (fun _ hh => (List.mem_cons_of_mem _ (List.mem_append_right _ (List.mem_append_left _ hh)))) hown hK hT (fx_16 hX) (by decide) cl_e26 rfl 3 (by decide) (hts (.fieldLink RX8 23 "TypingPool$Reader" "openLength" "I") (List.mem_cons_of_mem _ (List.mem_append_left _ (List.mem_of_getElem? (i := 0) rfl)))) (fun _ h9 => h9) rfl dX8_keepOpen_24 ?_
    refine lv_iconst (v := 1) hx hb dX8_keepOpen_27 (by decide) ?_
    refine lv_iadd hx hb dX8_keepOpen_28 ?_
    refine lv_topi (fun x_3 ex_3 => ?_)
    have hx_3 := z_add ex_3 rfl (zk (x := 1) 1 rfl) (by omega) (by omega)
    refine tw_put (D := (dC, dI)) (x := x_3) (ty := .int) (C := RX8) (T := TX8) (N := 8) hx hb hts (fun _ hh => (List.mem_cons_of_mem _ (List.mem_append_right _ (List.mem_append_left _ hh)))) tyX8 tyX8_ok nmX8 hown hK hT hF hS (fx_16 hX) (by decide) cl_e26 rfl 3 (by decide) (hts (.fieldLink RX8 23 "TypingPool$Reader" "openLength" "I") (List.mem_cons_of_mem _ (List.mem_append_left _ (List.mem_of_getElem? (i := 0) rfl)))) (fun _ h9 => h9) rfl (tyX8_ok 3 (by decide)) rfl rfl (Nat.le_of_ble_eq_true rfl) rfl dX8_keepOpen_29 (fun H locs hT hS => ?_)
    obtain ⟨y_4, hy_4, hT⟩ : ∃ z : Nat → Nat → Int32, z = up2 y_2 (a 16) 3 x_3 ∧ tw (dC, dI) a k τ ln z g H := ⟨_, rfl, hT⟩
    have hG : ag τ [26, 28, 29] y y_4 := by rw [hy_4]; exact hG.up (fx_16 hX) (by decide)
    have : (y_4 (a 16) 1).toInt = (y_2 (a 16) 1).toInt := by rw [hy_4, up2_e (by decide)]
    have : (y_4 (a 16) 3).toInt = x_3.toInt := (congrArg Int32.toInt (show y_4 (a 16) 3 = x_3 from by rw [hy_4]; exact up2_i)).trans rfl
    have hI := hI.ag (S := [26]) (y' := y_4) (by rw [hy_4]; exact ag.one (fx_16 hX)) (by decide)
    exact W.vret hx hb hr (fun t ht hW9 => ⟨⟨(), rfl, trivial, ⟨y_4, hG, by omega, by omega, tw_at ht hT⟩⟩, hS.F ht⟩) hS.2.2 dX8_keepOpen_32
def wo_c_rgoesOnNumber : List Cond := [.fieldLink RX8 32 "TypingPool$Reader" "digits" "I", .fieldLink RX8 19 "TypingPool$Reader" "codeLength" "I", .fieldLink RX8 11 "TypingPool$Reader" "code" "[I"]
def wm_c_rgoesOnNumber : List Cond := .code yX8_goesOnNumber cX8_goesOnNumber 2 (some .boolean) :: (wo_c_rgoesOnNumber ++ (wsX80 ++ ([] : List Cond)))
theorem gd_c_rgoesOnNumber : ∀ w ∈ wm_c_rgoesOnNumber, goodWord w = true := gd_c rfl (gd_a (by decide) (gd_a gd_wsX80 gd_nil))
set_option maxRecDepth 20000 in
theorem im_c_rgoesOnNumber : ∀ w ∈ wm_c_rgoesOnNumber, w ∈ lw_tbl := im_c (in_r [.code yX8_goesOnNumber cX8_goesOnNumber 2 (some .boolean)] [348] (by decide +kernel)) (in_app (in_r wo_c_rgoesOnNumber [176, 171, 170] (by decide +kernel)) (in_app im_wsX80 im_nil))
set_option maxHeartbeats 4000000 in
set_option maxRecDepth 100000 in
theorem c_rgoesOnNumber (l : Launch) (dC : Nat → ClassId) (dI : Nat → Nat → Nat) (ad av : Nat → Nat) (sz : Nat) (a : Nat → Nat) (k : Nat → ClassId) (τ ln : Nat → Nat) (y : Nat → Nat → Int32) (g : Nat → Nat → Option Nat) (u : Nat → Int) (p0 : Int32) (hI : IC a u τ ln y g) (hq1 : 0 ≤ (y (a 16) 1).toInt ∧ (y (a 16) 1).toInt ≤ 60) (hq3 : 0 ≤ (y (a 16) 3).toInt ∧ (y (a 16) 3).toInt ≤ 60) : Met l yX8_goesOnNumber wm_c_rgoesOnNumber ({ frames := 0, cells := 0, slots := 0, locals := 0 }) (pw_ ad av (dC, dI) sz [.ref (a 16), .int p0] a k τ ln y g) (va_Qi (fun (r u : Int32) => u = r) (fun (r : Int32) (t : State) => (∃ (y' : Nat → Nat → Int32), r = 1 ∧ ag τ [26, 28, 29] y y' ∧ (0 ≤ (y' (a 16) 1).toInt ∧ (y' (a 16) 1).toInt ≤ 60) ∧ (0 ≤ (y' (a 16) 3).toInt ∧ (y' (a 16) 3).toInt ≤ 60) ∧ tw (dC, dI) a k τ ln y' g t.heap) ∨ (∃ (y' : Nat → Nat → Int32), r = 0 ∧ ag τ [26, 28, 29] y y' ∧ (0 ≤ (y' (a 16) 1).toInt ∧ (y' (a 16) 1).toInt ≤ 60) ∧ (0 ≤ (y' (a 16) 3).toInt ∧ (y' (a 16) 3).toInt ≤ 60) ∧ tw (dC, dI) a k τ ln y' g t.heap)) (fr τ sz)) 0 0 (fr τ sz) := by
  refine Met.ofW (cc := cX8_goesOnNumber) (maxL := 2) (ret := (some .boolean)) (by decide) rfl ?_
  intro p e s m args below meth c s₁ B hml hv
  obtain ⟨rfl, hsz, hT, hK, hM⟩ := hv
  have hx := B.exec
  have hb := B.bytes
  have hr := B.returns
  have hts := atoms_spec (ws := wm_c_rgoesOnNumber) B.pre
  have hown : s.vm.findClass RX8 = some m.cls := findClass_of_methodNamed B.named
  have hlocks := B.notSynchronized
  subst hsz
  generalize hAe : fr τ s.heap.size = A at hM ⊢
  have hA : ∀ q : Nat, s.heap.size ≤ q → A q := fun q h => by rw [← hAe]; exact Or.inr h
  have hF : ∀ q, τ q ≠ 0 → A q := fun q h => by rw [← hAe]; exact Or.inl h
  have hS : va_S A s.heap s.heap [] := va_S.rf
  have hX := hI.1
  have hR := ic_r hI
  have hG : ag τ [26, 28, 29] y y := ag.rf
  have hl := lv_entry ([.ref (a 16), .int p0]) (n := 2) (Nat.le_of_ble_eq_true rfl)
  rw [lg_entry_eq]
  generalize (lg_sl ([.ref (a 16), .int p0]) ++ List.replicate (2 - (lg_sl ([.ref (a 16), .int p0])).length) Slot.unset).toArray = ls at hl ⊢
  have hl : lv_has ls 2 [(0, .ref (a 16)), (1, .int p0)] := hl
  refine lv_aload_n hx hb dX8_goesOnNumber_0 rfl (lv_at hl 0 rfl) ?_
  refine tw_get (D := (dC, dI)) (v := .int (y (a 16) 6)) (C := RX8) (T := TX8) (N := 8) hx hb hts (fun _ hh => (List.mem_cons_of_mem _ (List.mem_append_right _ (List.mem_append_left _ hh)))) hown hK hT (fx_16 hX) (by decide) cl_e26 rfl 6 (by decide) (hts (.fieldLink RX8 32 "TypingPool$Reader" "digits" "I") (List.mem_cons_of_mem _ (List.mem_append_left _ (List.mem_of_getElem? (i := 0) rfl)))) (fun _ h9 => h9) rfl dX8_goesOnNumber_1 ?_
  refine lv_if_eq (tgt := 23) hx hb dX8_goesOnNumber_4 (by decide) (fun c_1 => ?_) (fun c_1 => ?_)
  · have nc_1 := z_eq rfl (zk (x := 0) 0 rfl) c_1
    refine lv_iconst (v := 0) hx hb dX8_goesOnNumber_23 (by decide) ?_
    have hrv : (0 : Int32).toInt = 0 := (zk (x := 0) 0 rfl)
    exact W.zret (v := 0) hx hb hr (by decide) (fun t ht hW9 => ⟨⟨0, 0, rfl, rfl, Or.inr (⟨y, rfl, hG, by omega, by omega, tw_at ht hT⟩)⟩, hS.F ht⟩) hS.2.2 dX8_goesOnNumber_24
  · have nc_1 := z_ne rfl (zk (x := 0) 0 rfl) c_1
    refine lv_aload_n hx hb dX8_goesOnNumber_7 rfl (lv_at hl 0 rfl) ?_
    refine tw_get (D := (dC, dI)) (v := .int (y (a 16) 6)) (C := RX8) (T := TX8) (N := 8) hx hb hts (fun _ hh => (List.mem_cons_of_mem _ (List.mem_append_right _ (List.mem_append_left _ hh)))) hown hK hT (fx_16 hX) (by decide) cl_e26 rfl 6 (by decide) (hts (.fieldLink RX8 32 "TypingPool$Reader" "digits" "I") (List.mem_cons_of_mem _ (List.mem_append_left _ (List.mem_of_getElem? (i := 0) rfl)))) (fun _ h9 => h9) rfl dX8_goesOnNumber_8 ?_
    refine lv_iconst (v := 4) hx hb dX8_goesOnNumber_11 (by decide) ?_
    refine lv_icmp_ge (tgt := 23) hx hb dX8_goesOnNumber_12 (by decide) (fun c_2 => ?_) (fun c_2 => ?_)
    · have nc_2 := z_le (zk (x := 4) 4 rfl) rfl c_2
      refine lv_iconst (v := 0) hx hb dX8_goesOnNumber_23 (by decide) ?_
      have hrv : (0 : Int32).toInt = 0 := (zk (x := 0) 0 rfl)
      exact W.zret (v := 0) hx hb hr (by decide) (fun t ht hW9 => ⟨⟨0, 0, rfl, rfl, Or.inr (⟨y, rfl, hG, by omega, by omega, tw_at ht hT⟩)⟩, hS.F ht⟩) hS.2.2 dX8_goesOnNumber_24
    · have nc_2 := z_nle (zk (x := 4) 4 rfl) rfl c_2
      refine lv_aload_n hx hb dX8_goesOnNumber_15 rfl (lv_at hl 0 rfl) ?_
      refine tw_get (D := (dC, dI)) (v := .int (y (a 16) 1)) (C := RX8) (T := TX8) (N := 8) hx hb hts (fun _ hh => (List.mem_cons_of_mem _ (List.mem_append_right _ (List.mem_append_left _ hh)))) hown hK hT (fx_16 hX) (by decide) cl_e26 rfl 1 (by decide) (hts (.fieldLink RX8 19 "TypingPool$Reader" "codeLength" "I") (List.mem_cons_of_mem _ (List.mem_append_left _ (List.mem_of_getElem? (i := 1) rfl)))) (fun _ h9 => h9) rfl dX8_goesOnNumber_16 ?_
      refine lv_iconst (v := 1) hx hb dX8_goesOnNumber_19 (by decide) ?_
      refine lv_icmp_ge (tgt := 25) hx hb dX8_goesOnNumber_20 (by decide) (fun c_3 => ?_) (fun c_3 => ?_)
      · have nc_3 := z_le (zk (x := 1) 1 rfl) rfl c_3
        refine lv_aload_n hx hb dX8_goesOnNumber_25 rfl (lv_at hl 0 rfl) ?_
        refine tw_get (D := (dC, dI)) (v := .ref (a 18)) (C := RX8) (T := TX8) (N := 8) hx hb hts (fun _ hh => (List.mem_cons_of_mem _ (List.mem_append_right _ (List.mem_append_left _ hh)))) hown hK hT (fx_16 hX) (by decide) cl_e26 rfl 0 (by decide) (hts (.fieldLink RX8 11 "TypingPool$Reader" "code" "[I") (List.mem_cons_of_mem _ (List.mem_append_left _ (List.mem_of_getElem? (i := 2) rfl)))) (fun _ h9 => h9) rfl dX8_goesOnNumber_26 ?_
        refine lv_aload_n hx hb dX8_goesOnNumber_29 rfl (lv_at hl 0 rfl) ?_
        refine tw_get (D := (dC, dI)) (v := .int (y (a 16) 1)) (C := RX8) (T := TX8) (N := 8) hx hb hts (fun _ hh => (List.mem_cons_of_mem _ (List.mem_append_right _ (List.mem_append_left _ hh)))) hown hK hT (fx_16 hX) (by decide) cl_e26 rfl 1 (by decide) (hts (.fieldLink RX8 19 "TypingPool$Reader" "codeLength" "I") (List.mem_cons_of_mem _ (List.mem_append_left _ (List.mem_of_getElem? (i := 1) rfl)))) (fun _ h9 => h9) rfl dX8_goesOnNumber_30 ?_
        refine lv_iconst (v := 1) hx hb dX8_goesOnNumber_33 (by decide) ?_
        refine lv_isub hx hb dX8_goesOnNumber_34 ?_
        refine lv_topi (fun x_4 ex_4 => ?_)
        have hx_4 := z_sub ex_4 rfl (zk (x := 1) 1 rfl) (by omega) (by omega)
        refine lv_aload_n hx hb dX8_goesOnNumber_35 rfl (lv_at hl 0 rfl) ?_
        refine tw_get (D := (dC, dI)) (v := .ref (a 18)) (C := RX8) (T := TX8) (N := 8) hx hb hts (fun _ hh => (List.mem_cons_of_mem _ (List.mem_append_right _ (List.mem_append_left _ hh)))) hown hK hT (fx_16 hX) (by decide) cl_e26 rfl 0 (by decide) (hts (.fieldLink RX8 11 "TypingPool$Reader" "code" "[I") (List.mem_cons_of_mem _ (List.mem_append_left _ (List.mem_of_getElem? (i := 2) rfl)))) (fun _ h9 => h9) rfl dX8_goesOnNumber_36 ?_
        refine lv_aload_n hx hb dX8_goesOnNumber_39 rfl (lv_at hl 0 rfl) ?_
        refine tw_get (D := (dC, dI)) (v := .int (y (a 16) 1)) (C := RX8) (T := TX8) (N := 8) hx hb hts (fun _ hh => (List.mem_cons_of_mem _ (List.mem_append_right _ (List.mem_append_left _ hh)))) hown hK hT (fx_16 hX) (by decide) cl_e26 rfl 1 (by decide) (hts (.fieldLink RX8 19 "TypingPool$Reader" "codeLength" "I") (List.mem_cons_of_mem _ (List.mem_append_left _ (List.mem_of_getElem? (i := 1) rfl)))) (fun _ h9 => h9) rfl dX8_goesOnNumber_40 ?_
        refine lv_iconst (v := 1) hx hb dX8_goesOnNumber_43 (by decide) ?_
        refine lv_isub hx hb dX8_goesOnNumber_44 ?_
        refine lv_topi (fun x_5 ex_5 => ?_)
        have hx_5 := z_sub ex_5 rfl (zk (x := 1) 1 rfl) (by omega) (by omega)
        refine tw_iald hx hb hK hT 0 (fx_18 hX) (by decide) cl_e28 rfl (z_in rfl (by omega) (by omega)) dX8_goesOnNumber_45 ?_
        refine lv_bipush (v := 10) hx hb dX8_goesOnNumber_46 (by decide) ?_
        refine lv_imul hx hb dX8_goesOnNumber_48 ?_
        refine lv_topi (fun x_6 ex_6 => ?_)
        refine lv_iload_n hx hb dX8_goesOnNumber_49 rfl (lv_at hl 1 rfl) ?_
        refine lv_bipush (v := 48) hx hb dX8_goesOnNumber_50 (by decide) ?_
        refine lv_isub hx hb dX8_goesOnNumber_52 ?_
        refine lv_topi (fun x_7 ex_7 => ?_)
        refine lv_iadd hx hb dX8_goesOnNumber_53 ?_
        refine lv_topi (fun x_8 ex_8 => ?_)
        refine tw_iast hx hb hK hT hF hS 0 (fx_18 hX) (by decide) (fun _ => cl_e28) rfl (z_in rfl (by omega) (by omega)) dX8_goesOnNumber_54 (fun H locs hT hS => ?_)
        obtain ⟨y_9, hy_9, hT⟩ : ∃ z : Nat → Nat → Int32, z = up2 y (a 18) x_4.toNatClampNeg x_8 ∧ tw (dC, dI) a k τ ln z g H := ⟨_, rfl, hT⟩
        have hG : ag τ [26, 28, 29] y y_9 := by rw [hy_9]; exact hG.up (fx_18 hX) (by decide)
        have : (y_9 (a 16) 1).toInt = (y (a 16) 1).toInt := by rw [hy_9, up2_o (kd_ne (fx_16 hX) (fx_18 hX) (by decide))]
        have : (y_9 (a 16) 3).toInt = (y (a 16) 3).toInt := by rw [hy_9, up2_o (kd_ne (fx_16 hX) (fx_18 hX) (by decide))]
        have hI := hI.ag (S := [28]) (y' := y_9) (by rw [hy_9]; exact ag.one (fx_18 hX)) (by decide)
        refine lv_aload_n hx hb dX8_goesOnNumber_55 rfl (lv_at hl 0 rfl) ?_
        refine lv_dup hx hb dX8_goesOnNumber_56 rfl ?_
        refine tw_get (D := (dC, dI)) (v := .int (y_9 (a 16) 6)) (C := RX8) (T := TX8) (N := 8) hx hb hts (fun _ hh => (List.mem_cons_of_mem _ (List.mem_append_right _ (List.mem_append_left _ hh)))) hown hK hT (fx_16 hX) (by decide) cl_e26 rfl 6 (by decide) (hts (.fieldLink RX8 32 "TypingPool$Reader" "digits" "I") (List.mem_cons_of_mem _ (List.mem_append_left _ (List.mem_of_getElem? (i := 0) rfl)))) (fun _ h9 => h9) rfl dX8_goesOnNumber_57 ?_
        refine lv_iconst (v := 1) hx hb dX8_goesOnNumber_60 (by decide) ?_
        refine lv_iadd hx hb dX8_goesOnNumber_61 ?_
        refine lv_topi (fun x_10 ex_10 => ?_)
        refine tw_put (D := (dC, dI)) (x := x_10) (ty := .int) (C := RX8) (T := TX8) (N := 8) hx hb hts (fun _ hh => (List.mem_cons_of_mem _ (List.mem_append_right _ (List.mem_append_left _ hh)))) tyX8 tyX8_ok nmX8 hown hK hT hF hS (fx_16 hX) (by decide) cl_e26 rfl 6 (by decide) (hts (.fieldLink RX8 32 "TypingPool$Reader" "digits" "I") (List.mem_cons_of_mem _ (List.mem_append_left _ (List.mem_of_getElem? (i := 0) rfl)))) (fun _ h9 => h9) rfl (tyX8_ok 6 (by decide)) rfl rfl (Nat.le_of_ble_eq_true rfl) rfl dX8_goesOnNumber_62 (fun H locs hT hS => ?_)
        obtain ⟨y_11, hy_11, hT⟩ : ∃ z : Nat → Nat → Int32, z = up2 y_9 (a 16) 6 x_10 ∧ tw (dC, dI) a k τ ln z g H := ⟨_, rfl, hT⟩
        have hG : ag τ [26, 28, 29] y y_11 := by rw [hy_11]; exact hG.up (fx_16 hX) (by decide)
        have : (y_11 (a 16) 1).toInt = (y_9 (a 16) 1).toInt := by rw [hy_11, up2_e (by decide)]
        have : (y_11 (a 16) 3).toInt = (y_9 (a 16) 3).toInt := by rw [hy_11, up2_e (by decide)]
        have hI := hI.ag (S := [26]) (y' := y_11) (by rw [hy_11]; exact ag.one (fx_16 hX)) (by decide)
        refine lv_iconst (v := 1) hx hb dX8_goesOnNumber_65 (by decide) ?_
        have hrv : (1 : Int32).toInt = 1 := (zk (x := 1) 1 rfl)
        exact W.zret (v := 1) hx hb hr (by decide) (fun t ht hW9 => ⟨⟨1, 1, rfl, rfl, Or.inl ⟨y_11, rfl, hG, by omega, by omega, tw_at ht hT⟩⟩, hS.F ht⟩) hS.2.2 dX8_goesOnNumber_66
      · have nc_3 := z_nle (zk (x := 1) 1 rfl) rfl c_3
        refine lv_iconst (v := 0) hx hb dX8_goesOnNumber_23 (by decide) ?_
        have hrv : (0 : Int32).toInt = 0 := (zk (x := 0) 0 rfl)
        exact W.zret (v := 0) hx hb hr (by decide) (fun t ht hW9 => ⟨⟨0, 0, rfl, rfl, Or.inr (⟨y, rfl, hG, by omega, by omega, tw_at ht hT⟩)⟩, hS.F ht⟩) hS.2.2 dX8_goesOnNumber_24
def wo_c_rclose : List Cond := [.fieldLink RX8 23 "TypingPool$Reader" "openLength" "I", .fieldLink RX8 15 "TypingPool$Reader" "open" "[C", .methodLink RX8 86 yX8_binding, .static yX8_binding, .initialized RX8, .methodLink RX8 72 yX8_write, .instanceMethod yX8_write, .selects RX8 yX8_write yX8_write]
def wm_c_rclose : List Cond := .code yX8_close cX8_close 2 none :: (wo_c_rclose ++ (wsX80 ++ (wm_c_rbinding ++ (wm_c_rwrite ++ ([] : List Cond)))))
theorem gd_c_rclose : ∀ w ∈ wm_c_rclose, goodWord w = true := gd_c rfl (gd_a (by decide) (gd_a gd_wsX80 (gd_a gd_c_rbinding (gd_a gd_c_rwrite gd_nil))))
set_option maxRecDepth 20000 in
theorem im_c_rclose : ∀ w ∈ wm_c_rclose, w ∈ lw_tbl := im_c (in_r [.code yX8_close cX8_close 2 none] [356] (by decide +kernel)) (in_app (in_r wo_c_rclose [173, 172, 357, 358, 73, 333, 335, 1] (by decide +kernel)) (in_app im_wsX80 (in_app im_c_rbinding (in_app im_c_rwrite im_nil))))
set_option maxHeartbeats 4000000 in
set_option maxRecDepth 100000 in
theorem c_rclose (l : Launch) (dC : Nat → ClassId) (dI : Nat → Nat → Nat) (ad av : Nat → Nat) (sz : Nat) (a : Nat → Nat) (k : Nat → ClassId) (τ ln : Nat → Nat) (y : Nat → Nat → Int32) (g : Nat → Nat → Option Nat) (u : Nat → Int) (p0 : Int32) (hI : IC a u τ ln y g) (hq1 : 0 ≤ (y (a 16) 1).toInt ∧ (y (a 16) 1).toInt ≤ 60) (hq3 : 0 ≤ (y (a 16) 3).toInt ∧ (y (a 16) 3).toInt ≤ 60) : Met l yX8_close wm_c_rclose ({ frames := 1, cells := 0, slots := 0, locals := 60 }) (pw_ ad av (dC, dI) sz [.ref (a 16), .int p0] a k τ ln y g) (va_Qv (fun (_ : Unit) => True) (fun (_ : Unit) (t : State) => (∃ (y' : Nat → Nat → Int32), ag τ [26, 28, 29] y y' ∧ (0 ≤ (y' (a 16) 1).toInt ∧ (y' (a 16) 1).toInt ≤ 60) ∧ (0 ≤ (y' (a 16) 3).toInt ∧ (y' (a 16) 3).toInt ≤ 60) ∧ tw (dC, dI) a k τ ln y' g t.heap)) (fr τ sz)) 0 0 (fr τ sz) := by
  refine Met.ofW (cc := cX8_close) (maxL := 2) (ret := none) (by decide) rfl ?_
  intro p e s m args below meth c s₁ B hml hv
  obtain ⟨rfl, hsz, hT, hK, hM⟩ := hv
  have hx := B.exec
  have hb := B.bytes
  have hr := B.returns
  have hts := atoms_spec (ws := wm_c_rclose) B.pre
  have hown : s.vm.findClass RX8 = some m.cls := findClass_of_methodNamed B.named
  have hlocks := B.notSynchronized
  subst hsz
  generalize hAe : fr τ s.heap.size = A at hM ⊢
  have hA : ∀ q : Nat, s.heap.size ≤ q → A q := fun q h => by rw [← hAe]; exact Or.inr h
  have hF : ∀ q, τ q ≠ 0 → A q := fun q h => by rw [← hAe]; exact Or.inl h
  have hS : va_S A s.heap s.heap [] := va_S.rf
  have hX := hI.1
  have hR := ic_r hI
  have hG : ag τ [26, 28, 29] y y := ag.rf
  have hl := lv_entry ([.ref (a 16), .int p0]) (n := 2) (Nat.le_of_ble_eq_true rfl)
  rw [lg_entry_eq]
  generalize (lg_sl ([.ref (a 16), .int p0]) ++ List.replicate (2 - (lg_sl ([.ref (a 16), .int p0])).length) Slot.unset).toArray = ls at hl ⊢
  have hl : lv_has ls 2 [(0, .ref (a 16)), (1, .int p0)] := hl
  have loop_0 : ∀ (n : Nat) (y_L0 : Nat → Nat → Int32) (H : Heap) (locs : List Loc) (ls : Array Slot), ((y_L0 (a 16) 3).toInt).toNat < n → ag τ [26, 28, 29] y y_L0 → IC a u τ ln y_L0 g → 0 ≤ (y_L0 (a 16) 1).toInt ∧ (y_L0 (a 16) 1).toInt ≤ 60 → 0 ≤ (y_L0 (a 16) 3).toInt ∧ (y_L0 (a 16) 3).toInt ≤ 60 → tw (dC, dI) a k τ ln y_L0 g H → va_S A s.heap H locs → lv_has ls 2 [(0, .ref (a 16)), (1, .int p0)] → W p l e (headSpec wm_c_rclose ({ frames := 1, cells := 0, slots := 0, locals := 60 })).room s m ([.ref (a 16), .int p0] : List Value).toArray below meth c H locs 0 0 (MQ below (va_Qv (fun (_ : Unit) => True) (fun (_ : Unit) (t : State) => (∃ (y' : Nat → Nat → Int32), ag τ [26, 28, 29] y y' ∧ (0 ≤ (y' (a 16) 1).toInt ∧ (y' (a 16) 1).toInt ≤ 60) ∧ (0 ≤ (y' (a 16) 3).toInt ∧ (y' (a 16) 3).toInt ≤ 60) ∧ tw (dC, dI) a k τ ln y' g t.heap)) A) ([.ref (a 16), .int p0] : List Value).toArray s 0 0 A) (F0 m 0 ls []) := by
    intro n
    induction n with
    | zero => intro y_L0 H locs ls hlt; exact absurd hlt (Nat.not_lt_zero _)
    | succ n ih_0 =>
      intro y_L0 H locs ls hlt hG hI hi0_0 hi0_1 hT hS hl
      refine lv_aload_n hx hb dX8_close_0 rfl (lv_at hl 0 rfl) ?_
      refine tw_get (D := (dC, dI)) (v := .int (y_L0 (a 16) 3)) (C := RX8) (T := TX8) (N := 8) hx hb hts (fun _ hh => (List.mem_cons_of_mem _ (List.mem_append_right _ (List.mem_append_left _ hh)))) hown hK hT (fx_16 hX) (by decide) cl_e26 rfl 3 (by decide) (hts (.fieldLink RX8 23 "TypingPool$Reader" "openLength" "I") (List.mem_cons_of_mem _ (List.mem_append_left _ (List.mem_of_getElem? (i := 0) rfl)))) (fun _ h9 => h9) rfl dX8_close_1 ?_
      refine lv_if_le (tgt := 55) hx hb dX8_close_4 (by decide) (fun c_1 => ?_) (fun c_1 => ?_)
      · have nc_1 := z_le rfl (zk (x := 0) 0 rfl) c_1
        exact W.vret hx hb hr (fun t ht hW9 => ⟨⟨(), rfl, trivial, ⟨y_L0, hG, by omega, by omega, tw_at ht hT⟩⟩, hS.F ht⟩) hS.2.2 dX8_close_55
      · have nc_1 := z_nle rfl (zk (x := 0) 0 rfl) c_1
        refine lv_aload_n hx hb dX8_close_7 rfl (lv_at hl 0 rfl) ?_
        refine tw_get (D := (dC, dI)) (v := .ref (a 19)) (C := RX8) (T := TX8) (N := 8) hx hb hts (fun _ hh => (List.mem_cons_of_mem _ (List.mem_append_right _ (List.mem_append_left _ hh)))) hown hK hT (fx_16 hX) (by decide) cl_e26 rfl 2 (by decide) (hts (.fieldLink RX8 15 "TypingPool$Reader" "open" "[C") (List.mem_cons_of_mem _ (List.mem_append_left _ (List.mem_of_getElem? (i := 1) rfl)))) (fun _ h9 => h9) rfl dX8_close_8 ?_
        refine lv_aload_n hx hb dX8_close_11 rfl (lv_at hl 0 rfl) ?_
        refine tw_get (D := (dC, dI)) (v := .int (y_L0 (a 16) 3)) (C := RX8) (T := TX8) (N := 8) hx hb hts (fun _ hh => (List.mem_cons_of_mem _ (List.mem_append_right _ (List.mem_append_left _ hh)))) hown hK hT (fx_16 hX) (by decide) cl_e26 rfl 3 (by decide) (hts (.fieldLink RX8 23 "TypingPool$Reader" "openLength" "I") (List.mem_cons_of_mem _ (List.mem_append_left _ (List.mem_of_getElem? (i := 0) rfl)))) (fun _ h9 => h9) rfl dX8_close_12 ?_
        refine lv_iconst (v := 1) hx hb dX8_close_15 (by decide) ?_
        refine lv_isub hx hb dX8_close_16 ?_
        refine lv_topi (fun x_2 ex_2 => ?_)
        have hx_2 := z_sub ex_2 rfl (zk (x := 1) 1 rfl) (by omega) (by omega)
        refine tw_cald hx hb hK hT 1 (fx_19 hX) (by decide) cl_e29 rfl (z_in rfl (by omega) (by omega)) dX8_close_17 ?_
        have hFc := tw_free hF hS hA
        refine va_calli (va_runS (As := [.int (y_L0 (a 19) x_2.toNatClampNeg)]) (rest := []) ⟨hx, hb, hml, hown, hts⟩ (c_rbinding l dC dI ad av H.size a k τ ln y_L0 g u (y_L0 (a 19) x_2.toNatClampNeg)  ) (va_cwS 1 hts (gi_3 (List.mem_cons_of_mem _ (List.mem_append_left _ (List.mem_of_getElem? (i := 2) rfl))) (List.mem_cons_of_mem _ (List.mem_append_left _ (List.mem_of_getElem? (i := 3) rfl))) (List.mem_cons_of_mem _ (List.mem_append_left _ (List.mem_of_getElem? (i := 4) rfl))) (fun _ hh => (List.mem_cons_of_mem _ (List.mem_append_right _ (List.mem_append_right _ (List.mem_append_left _ hh))))) gd_c_rbinding) rfl rfl rfl (by decide +kernel) ⟨Nat.le_of_ble_eq_true rfl, Nat.le_of_ble_eq_true rfl⟩) ⟨pw_blind, pw_use hT hK hFc hS hM⟩ rfl rfl hl.1 rfl (lv_room (Nat.le_of_ble_eq_true rfl)) dX8_close_18 ⟨Nat.le_of_ble_eq_true rfl, Nat.le_of_ble_eq_true rfl⟩) hS (fun q _ h => hFc q h) hFc (fun r0 r_3 t H locs ht hvm hw hB hz1 hk1 hS => ?_)
        refine W.widen (k := 0) (n := 0) (Nat.le_of_ble_eq_true rfl) (Nat.le_of_ble_eq_true rfl) ?_
        clear hvm hz1 hk1
        subst hw
        have hT := hB
        rw [ht] at hT
        refine lv_iload_n hx hb dX8_close_21 rfl (lv_at hl 1 rfl) ?_
        refine lv_icmp_lt (tgt := 55) hx hb dX8_close_22 (by decide) (fun c_4 => ?_) (fun c_4 => ?_)
        · have nc_4 := z_lt rfl rfl c_4
          exact W.vret hx hb hr (fun t ht hW9 => ⟨⟨(), rfl, trivial, ⟨y_L0, hG, by omega, by omega, tw_at ht hT⟩⟩, hS.F ht⟩) hS.2.2 dX8_close_55
        · have nc_4 := z_nlt rfl rfl c_4
          refine lv_aload_n hx hb dX8_close_25 rfl (lv_at hl 0 rfl) ?_
          refine lv_dup hx hb dX8_close_26 rfl ?_
          refine tw_get (D := (dC, dI)) (v := .int (y_L0 (a 16) 3)) (C := RX8) (T := TX8) (N := 8) hx hb hts (fun _ hh => (List.mem_cons_of_mem _ (List.mem_append_right _ (List.mem_append_left _ hh)))) hown hK hT (fx_16 hX) (by decide) cl_e26 rfl 3 (by decide) (hts (.fieldLink RX8 23 "TypingPool$Reader" "openLength" "I") (List.mem_cons_of_mem _ (List.mem_append_left _ (List.mem_of_getElem? (i := 0) rfl)))) (fun _ h9 => h9) rfl dX8_close_27 ?_
          refine lv_iconst (v := 1) hx hb dX8_close_30 (by decide) ?_
          refine lv_isub hx hb dX8_close_31 ?_
          refine lv_topi (fun x_5 ex_5 => ?_)
          have hx_5 := z_sub ex_5 rfl (zk (x := 1) 1 rfl) (by omega) (by omega)
          refine tw_put (D := (dC, dI)) (x := x_5) (ty := .int) (C := RX8) (T := TX8) (N := 8) hx hb hts (fun _ hh => (List.mem_cons_of_mem _ (List.mem_append_right _ (List.mem_append_left _ hh)))) tyX8 tyX8_ok nmX8 hown hK hT hF hS (fx_16 hX) (by decide) cl_e26 rfl 3 (by decide) (hts (.fieldLink RX8 23 "TypingPool$Reader" "openLength" "I") (List.mem_cons_of_mem _ (List.mem_append_left _ (List.mem_of_getElem? (i := 0) rfl)))) (fun _ h9 => h9) rfl (tyX8_ok 3 (by decide)) rfl rfl (Nat.le_of_ble_eq_true rfl) rfl dX8_close_32 (fun H locs hT hS => ?_)
          obtain ⟨y_6, hy_6, hT⟩ : ∃ z : Nat → Nat → Int32, z = up2 y_L0 (a 16) 3 x_5 ∧ tw (dC, dI) a k τ ln z g H := ⟨_, rfl, hT⟩
          have hG : ag τ [26, 28, 29] y y_6 := by rw [hy_6]; exact hG.up (fx_16 hX) (by decide)
          have : (y_6 (a 16) 1).toInt = (y_L0 (a 16) 1).toInt := by rw [hy_6, up2_e (by decide)]
          have : (y_6 (a 16) 3).toInt = x_5.toInt := (congrArg Int32.toInt (show y_6 (a 16) 3 = x_5 from by rw [hy_6]; exact up2_i)).trans rfl
          have hI := hI.ag (S := [26]) (y' := y_6) (by rw [hy_6]; exact ag.one (fx_16 hX)) (by decide)
          refine lv_aload_n hx hb dX8_close_35 rfl (lv_at hl 0 rfl) ?_
          refine lv_sipush (v := 20000) hx hb dX8_close_36 (by decide) ?_
          refine lv_aload_n hx hb dX8_close_39 rfl (lv_at hl 0 rfl) ?_
          refine tw_get (D := (dC, dI)) (v := .ref (a 19)) (C := RX8) (T := TX8) (N := 8) hx hb hts (fun _ hh => (List.mem_cons_of_mem _ (List.mem_append_right _ (List.mem_append_left _ hh)))) hown hK hT (fx_16 hX) (by decide) cl_e26 rfl 2 (by decide) (hts (.fieldLink RX8 15 "TypingPool$Reader" "open" "[C") (List.mem_cons_of_mem _ (List.mem_append_left _ (List.mem_of_getElem? (i := 1) rfl)))) (fun _ h9 => h9) rfl dX8_close_40 ?_
          refine lv_aload_n hx hb dX8_close_43 rfl (lv_at hl 0 rfl) ?_
          refine tw_get (D := (dC, dI)) (v := .int (y_6 (a 16) 3)) (C := RX8) (T := TX8) (N := 8) hx hb hts (fun _ hh => (List.mem_cons_of_mem _ (List.mem_append_right _ (List.mem_append_left _ hh)))) hown hK hT (fx_16 hX) (by decide) cl_e26 rfl 3 (by decide) (hts (.fieldLink RX8 23 "TypingPool$Reader" "openLength" "I") (List.mem_cons_of_mem _ (List.mem_append_left _ (List.mem_of_getElem? (i := 0) rfl)))) (fun _ h9 => h9) rfl dX8_close_44 ?_
          refine tw_cald hx hb hK hT 1 (fx_19 hX) (by decide) cl_e29 rfl (z_in rfl (by omega) (by omega)) dX8_close_47 ?_
          refine lv_iadd hx hb dX8_close_48 ?_
          refine lv_topi (fun x_7 ex_7 => ?_)
          have hFc := tw_free hF hS hA
          refine va_callv (va_runV (As := [.int x_7]) (rest := []) ⟨hx, hb, hml, hown, hts⟩ (c_rwrite l dC dI ad av H.size a k τ ln y_6 g u x_7 hI (by omega) (by omega)) (cwV 1 hts (gi_4 (List.mem_cons_of_mem _ (List.mem_append_left _ (List.mem_of_getElem? (i := 5) rfl))) (List.mem_cons_of_mem _ (List.mem_append_left _ (List.mem_of_getElem? (i := 6) rfl))) (List.mem_cons_of_mem _ (List.mem_append_left _ (List.mem_of_getElem? (i := 7) rfl))) (List.mem_cons_of_mem _ (List.mem_append_left _ (List.mem_of_getElem? (i := 4) rfl))) (fun _ hh => (List.mem_cons_of_mem _ (List.mem_append_right _ (List.mem_append_right _ (List.mem_append_right _ (List.mem_append_left _ hh)))))) gd_c_rwrite) rfl rfl rfl (by decide +kernel) ⟨Nat.le_of_ble_eq_true rfl, Nat.le_of_ble_eq_true rfl⟩) ⟨pw_blind, tw_recv hK hT (fx_16 hX) (by decide) cl_e26 rfl, pw_use hT hK hFc hS hM⟩ rfl rfl hl.1 rfl (lv_room (Nat.le_of_ble_eq_true rfl)) dX8_close_49 ⟨Nat.le_of_ble_eq_true rfl, Nat.le_of_ble_eq_true rfl⟩) hS (fun q _ h => hFc q h) hFc (fun u0 t H locs ht hvm hw hB hz1 hk1 hS => ?_)
          refine W.widen (k := 0) (n := 0) (Nat.le_of_ble_eq_true rfl) (Nat.le_of_ble_eq_true rfl) ?_
          clear hvm hz1 hk1
          obtain ⟨y_9, hgy_9, hf_10, hf_11, hf_12, hT⟩ := hB
          rw [ht] at hT
          have hG := hG.tr hgy_9 (by decide)
          have hI := hI.ag hgy_9 (by decide)
          refine lv_goto (tgt := 0) hx hb dX8_close_52 (by decide) ?_
          exact ih_0  y_9 H _ ls (by omega) hG hI (by omega) (by omega) hT hS (lv_sub hl [0, 1] rfl)
  exact loop_0 _ y s.heap _ ls (Nat.lt_succ_self _) hG hI (by omega) (by omega) hT hS (lv_sub hl [0, 1] rfl)
def wo_c_rclosesBracket : List Cond := [.fieldLink RX8 26 "TypingPool$Reader" "depth" "I", .methodLink RX8 53 yX8_close, .instanceMethod yX8_close, .selects RX8 yX8_close yX8_close, .initialized RX8, .fieldLink RX8 23 "TypingPool$Reader" "openLength" "I"]
def wm_c_rclosesBracket : List Cond := .code yX8_closesBracket cX8_closesBracket 1 (some .boolean) :: (wo_c_rclosesBracket ++ (wsX80 ++ (wm_c_rclose ++ ([] : List Cond))))
theorem gd_c_rclosesBracket : ∀ w ∈ wm_c_rclosesBracket, goodWord w = true := gd_c rfl (gd_a (by decide) (gd_a gd_wsX80 (gd_a gd_c_rclose gd_nil)))
set_option maxRecDepth 20000 in
theorem im_c_rclosesBracket : ∀ w ∈ wm_c_rclosesBracket, w ∈ lw_tbl := im_c (in_r [.code yX8_closesBracket cX8_closesBracket 1 (some .boolean)] [352] (by decide +kernel)) (in_app (in_r wo_c_rclosesBracket [174, 353, 355, 6, 73, 173] (by decide +kernel)) (in_app im_wsX80 (in_app im_c_rclose im_nil)))
set_option maxHeartbeats 4000000 in
set_option maxRecDepth 100000 in
theorem c_rclosesBracket (l : Launch) (dC : Nat → ClassId) (dI : Nat → Nat → Nat) (ad av : Nat → Nat) (sz : Nat) (a : Nat → Nat) (k : Nat → ClassId) (τ ln : Nat → Nat) (y : Nat → Nat → Int32) (g : Nat → Nat → Option Nat) (u : Nat → Int) (hI : IC a u τ ln y g) (hq1 : 0 ≤ (y (a 16) 1).toInt ∧ (y (a 16) 1).toInt ≤ 60) (hq3 : 0 ≤ (y (a 16) 3).toInt ∧ (y (a 16) 3).toInt ≤ 60) : Met l yX8_closesBracket wm_c_rclosesBracket ({ frames := 2, cells := 0, slots := 0, locals := 120 }) (pw_ ad av (dC, dI) sz [.ref (a 16)] a k τ ln y g) (va_Qi (fun (r u : Int32) => u = r) (fun (r : Int32) (t : State) => (∃ (y' : Nat → Nat → Int32), r = 1 ∧ ag τ [26, 28, 29] y y' ∧ (0 ≤ (y' (a 16) 1).toInt ∧ (y' (a 16) 1).toInt ≤ 60) ∧ (0 ≤ (y' (a 16) 3).toInt ∧ (y' (a 16) 3).toInt ≤ 60) ∧ tw (dC, dI) a k τ ln y' g t.heap) ∨ (∃ (y' : Nat → Nat → Int32), r = 0 ∧ ag τ [26, 28, 29] y y' ∧ (0 ≤ (y' (a 16) 1).toInt ∧ (y' (a 16) 1).toInt ≤ 60) ∧ (0 ≤ (y' (a 16) 3).toInt ∧ (y' (a 16) 3).toInt ≤ 60) ∧ tw (dC, dI) a k τ ln y' g t.heap)) (fr τ sz)) 0 0 (fr τ sz) := by
  refine Met.ofW (cc := cX8_closesBracket) (maxL := 1) (ret := (some .boolean)) (by decide) rfl ?_
  intro p e s m args below meth c s₁ B hml hv
  obtain ⟨rfl, hsz, hT, hK, hM⟩ := hv
  have hx := B.exec
  have hb := B.bytes
  have hr := B.returns
  have hts := atoms_spec (ws := wm_c_rclosesBracket) B.pre
  have hown : s.vm.findClass RX8 = some m.cls := findClass_of_methodNamed B.named
  have hlocks := B.notSynchronized
  subst hsz
  generalize hAe : fr τ s.heap.size = A at hM ⊢
  have hA : ∀ q : Nat, s.heap.size ≤ q → A q := fun q h => by rw [← hAe]; exact Or.inr h
  have hF : ∀ q, τ q ≠ 0 → A q := fun q h => by rw [← hAe]; exact Or.inl h
  have hS : va_S A s.heap s.heap [] := va_S.rf
  have hX := hI.1
  have hR := ic_r hI
  have hG : ag τ [26, 28, 29] y y := ag.rf
  have hl := lv_entry ([.ref (a 16)]) (n := 1) (Nat.le_of_ble_eq_true rfl)
  rw [lg_entry_eq]
  generalize (lg_sl ([.ref (a 16)]) ++ List.replicate (1 - (lg_sl ([.ref (a 16)])).length) Slot.unset).toArray = ls at hl ⊢
  have hl : lv_has ls 1 [(0, .ref (a 16))] := hl
  refine lv_aload_n hx hb dX8_closesBracket_0 rfl (lv_at hl 0 rfl) ?_
  refine tw_get (D := (dC, dI)) (v := .int (y (a 16) 4)) (C := RX8) (T := TX8) (N := 8) hx hb hts (fun _ hh => (List.mem_cons_of_mem _ (List.mem_append_right _ (List.mem_append_left _ hh)))) hown hK hT (fx_16 hX) (by decide) cl_e26 rfl 4 (by decide) (hts (.fieldLink RX8 26 "TypingPool$Reader" "depth" "I") (List.mem_cons_of_mem _ (List.mem_append_left _ (List.mem_of_getElem? (i := 0) rfl)))) (fun _ h9 => h9) rfl dX8_closesBracket_1 ?_
  refine lv_if_ne (tgt := 9) hx hb dX8_closesBracket_4 (by decide) (fun c_1 => ?_) (fun c_1 => ?_)
  · have nc_1 := z_ne rfl (zk (x := 0) 0 rfl) c_1
    refine lv_aload_n hx hb dX8_closesBracket_9 rfl (lv_at hl 0 rfl) ?_
    refine lv_iconst (v := 1) hx hb dX8_closesBracket_10 (by decide) ?_
    have hFc := tw_free hF hS hA
    have hp_2 : (1 : Int32).toInt = 1 := (zk (x := 1) 1 rfl)
    refine va_callv (va_runV (As := [.int 1]) (rest := []) ⟨hx, hb, hml, hown, hts⟩ (c_rclose l dC dI ad av s.heap.size a k τ ln y g u (1 : Int32) hI (by omega) (by omega)) (cwV 1 hts (gi_4 (List.mem_cons_of_mem _ (List.mem_append_left _ (List.mem_of_getElem? (i := 1) rfl))) (List.mem_cons_of_mem _ (List.mem_append_left _ (List.mem_of_getElem? (i := 2) rfl))) (List.mem_cons_of_mem _ (List.mem_append_left _ (List.mem_of_getElem? (i := 3) rfl))) (List.mem_cons_of_mem _ (List.mem_append_left _ (List.mem_of_getElem? (i := 4) rfl))) (fun _ hh => (List.mem_cons_of_mem _ (List.mem_append_right _ (List.mem_append_right _ (List.mem_append_left _ hh))))) gd_c_rclose) rfl rfl rfl (by decide +kernel) ⟨Nat.le_of_ble_eq_true rfl, Nat.le_of_ble_eq_true rfl⟩) ⟨pw_blind, tw_recv hK hT (fx_16 hX) (by decide) cl_e26 rfl, pw_use hT hK hFc hS hM⟩ rfl rfl hl.1 rfl (lv_room (Nat.le_of_ble_eq_true rfl)) dX8_closesBracket_11 ⟨Nat.le_of_ble_eq_true rfl, Nat.le_of_ble_eq_true rfl⟩) hS (fun q _ h => hFc q h) hFc (fun u0 t H locs ht hvm hw hB hz1 hk1 hS => ?_)
    refine W.widen (k := 0) (n := 0) (Nat.le_of_ble_eq_true rfl) (Nat.le_of_ble_eq_true rfl) ?_
    clear hvm hz1 hk1
    obtain ⟨y_4, hgy_4, hf_5, hf_6, hT⟩ := hB
    rw [ht] at hT
    have hG := hG.tr hgy_4 (by decide)
    have hI := hI.ag hgy_4 (by decide)
    try simp only [hp_2] at hf_5 hf_6
    clear hp_2
    refine lv_aload_n hx hb dX8_closesBracket_14 rfl (lv_at hl 0 rfl) ?_
    refine tw_get (D := (dC, dI)) (v := .int (y_4 (a 16) 3)) (C := RX8) (T := TX8) (N := 8) hx hb hts (fun _ hh => (List.mem_cons_of_mem _ (List.mem_append_right _ (List.mem_append_left _ hh)))) hown hK hT (fx_16 hX) (by decide) cl_e26 rfl 3 (by decide) (hts (.fieldLink RX8 23 "TypingPool$Reader" "openLength" "I") (List.mem_cons_of_mem _ (List.mem_append_left _ (List.mem_of_getElem? (i := 5) rfl)))) (fun _ h9 => h9) rfl dX8_closesBracket_15 ?_
    refine lv_if_le (tgt := 31) hx hb dX8_closesBracket_18 (by decide) (fun c_7 => ?_) (fun c_7 => ?_)
    · have nc_7 := z_le rfl (zk (x := 0) 0 rfl) c_7
      refine lv_aload_n hx hb dX8_closesBracket_31 rfl (lv_at hl 0 rfl) ?_
      refine lv_dup hx hb dX8_closesBracket_32 rfl ?_
      refine tw_get (D := (dC, dI)) (v := .int (y_4 (a 16) 4)) (C := RX8) (T := TX8) (N := 8) hx hb hts (fun _ hh => (List.mem_cons_of_mem _ (List.mem_append_right _ (List.mem_append_left _ hh)))) hown hK hT (fx_16 hX) (by decide) cl_e26 rfl 4 (by decide) (hts (.fieldLink RX8 26 "TypingPool$Reader" "depth" "I") (List.mem_cons_of_mem _ (List.mem_append_left _ (List.mem_of_getElem? (i := 0) rfl)))) (fun _ h9 => h9) rfl dX8_closesBracket_33 ?_
      refine lv_iconst (v := 1) hx hb dX8_closesBracket_36 (by decide) ?_
      refine lv_isub hx hb dX8_closesBracket_37 ?_
      refine lv_topi (fun x_8 ex_8 => ?_)
      refine tw_put (D := (dC, dI)) (x := x_8) (ty := .int) (C := RX8) (T := TX8) (N := 8) hx hb hts (fun _ hh => (List.mem_cons_of_mem _ (List.mem_append_right _ (List.mem_append_left _ hh)))) tyX8 tyX8_ok nmX8 hown hK hT hF hS (fx_16 hX) (by decide) cl_e26 rfl 4 (by decide) (hts (.fieldLink RX8 26 "TypingPool$Reader" "depth" "I") (List.mem_cons_of_mem _ (List.mem_append_left _ (List.mem_of_getElem? (i := 0) rfl)))) (fun _ h9 => h9) rfl (tyX8_ok 4 (by decide)) rfl rfl (Nat.le_of_ble_eq_true rfl) rfl dX8_closesBracket_38 (fun H locs hT hS => ?_)
      obtain ⟨y_9, hy_9, hT⟩ : ∃ z : Nat → Nat → Int32, z = up2 y_4 (a 16) 4 x_8 ∧ tw (dC, dI) a k τ ln z g H := ⟨_, rfl, hT⟩
      have hG : ag τ [26, 28, 29] y y_9 := by rw [hy_9]; exact hG.up (fx_16 hX) (by decide)
      have : (y_9 (a 16) 1).toInt = (y_4 (a 16) 1).toInt := by rw [hy_9, up2_e (by decide)]
      have : (y_9 (a 16) 3).toInt = (y_4 (a 16) 3).toInt := by rw [hy_9, up2_e (by decide)]
      have hI := hI.ag (S := [26]) (y' := y_9) (by rw [hy_9]; exact ag.one (fx_16 hX)) (by decide)
      refine lv_iconst (v := 1) hx hb dX8_closesBracket_41 (by decide) ?_
      have hrv : (1 : Int32).toInt = 1 := (zk (x := 1) 1 rfl)
      exact W.zret (v := 1) hx hb hr (by decide) (fun t ht hW9 => ⟨⟨1, 1, rfl, rfl, Or.inl ⟨y_9, rfl, hG, by omega, by omega, tw_at ht hT⟩⟩, hS.F ht⟩) hS.2.2 dX8_closesBracket_42
    · have nc_7 := z_nle rfl (zk (x := 0) 0 rfl) c_7
      refine lv_aload_n hx hb dX8_closesBracket_21 rfl (lv_at hl 0 rfl) ?_
      refine lv_dup hx hb dX8_closesBracket_22 rfl ?_
      refine tw_get (D := (dC, dI)) (v := .int (y_4 (a 16) 3)) (C := RX8) (T := TX8) (N := 8) hx hb hts (fun _ hh => (List.mem_cons_of_mem _ (List.mem_append_right _ (List.mem_append_left _ hh)))) hown hK hT (fx_16 hX) (by decide) cl_e26 rfl 3 (by decide) (hts (.fieldLink RX8 23 "TypingPool$Reader" "openLength" "I") (List.mem_cons_of_mem _ (List.mem_append_left _ (List.mem_of_getElem? (i := 5) rfl)))) (fun _ h9 => h9) rfl dX8_closesBracket_23 ?_
      refine lv_iconst (v := 1) hx hb dX8_closesBracket_26 (by decide) ?_
      refine lv_isub hx hb dX8_closesBracket_27 ?_
      refine lv_topi (fun x_10 ex_10 => ?_)
      have hx_10 := z_sub ex_10 rfl (zk (x := 1) 1 rfl) (by omega) (by omega)
      refine tw_put (D := (dC, dI)) (x := x_10) (ty := .int) (C := RX8) (T := TX8) (N := 8) hx hb hts (fun _ hh => (List.mem_cons_of_mem _ (List.mem_append_right _ (List.mem_append_left _ hh)))) tyX8 tyX8_ok nmX8 hown hK hT hF hS (fx_16 hX) (by decide) cl_e26 rfl 3 (by decide) (hts (.fieldLink RX8 23 "TypingPool$Reader" "openLength" "I") (List.mem_cons_of_mem _ (List.mem_append_left _ (List.mem_of_getElem? (i := 5) rfl)))) (fun _ h9 => h9) rfl (tyX8_ok 3 (by decide)) rfl rfl (Nat.le_of_ble_eq_true rfl) rfl dX8_closesBracket_28 (fun H locs hT hS => ?_)
      obtain ⟨y_11, hy_11, hT⟩ : ∃ z : Nat → Nat → Int32, z = up2 y_4 (a 16) 3 x_10 ∧ tw (dC, dI) a k τ ln z g H := ⟨_, rfl, hT⟩
      have hG : ag τ [26, 28, 29] y y_11 := by rw [hy_11]; exact hG.up (fx_16 hX) (by decide)
      have : (y_11 (a 16) 1).toInt = (y_4 (a 16) 1).toInt := by rw [hy_11, up2_e (by decide)]
      have : (y_11 (a 16) 3).toInt = x_10.toInt := (congrArg Int32.toInt (show y_11 (a 16) 3 = x_10 from by rw [hy_11]; exact up2_i)).trans rfl
      have hI := hI.ag (S := [26]) (y' := y_11) (by rw [hy_11]; exact ag.one (fx_16 hX)) (by decide)
      refine lv_aload_n hx hb dX8_closesBracket_31 rfl (lv_at hl 0 rfl) ?_
      refine lv_dup hx hb dX8_closesBracket_32 rfl ?_
      refine tw_get (D := (dC, dI)) (v := .int (y_11 (a 16) 4)) (C := RX8) (T := TX8) (N := 8) hx hb hts (fun _ hh => (List.mem_cons_of_mem _ (List.mem_append_right _ (List.mem_append_left _ hh)))) hown hK hT (fx_16 hX) (by decide) cl_e26 rfl 4 (by decide) (hts (.fieldLink RX8 26 "TypingPool$Reader" "depth" "I") (List.mem_cons_of_mem _ (List.mem_append_left _ (List.mem_of_getElem? (i := 0) rfl)))) (fun _ h9 => h9) rfl dX8_closesBracket_33 ?_
      refine lv_iconst (v := 1) hx hb dX8_closesBracket_36 (by decide) ?_
      refine lv_isub hx hb dX8_closesBracket_37 ?_
      refine lv_topi (fun x_12 ex_12 => ?_)
      refine tw_put (D := (dC, dI)) (x := x_12) (ty := .int) (C := RX8) (T := TX8) (N := 8) hx hb hts (fun _ hh => (List.mem_cons_of_mem _ (List.mem_append_right _ (List.mem_append_left _ hh)))) tyX8 tyX8_ok nmX8 hown hK hT hF hS (fx_16 hX) (by decide) cl_e26 rfl 4 (by decide) (hts (.fieldLink RX8 26 "TypingPool$Reader" "depth" "I") (List.mem_cons_of_mem _ (List.mem_append_left _ (List.mem_of_getElem? (i := 0) rfl)))) (fun _ h9 => h9) rfl (tyX8_ok 4 (by decide)) rfl rfl (Nat.le_of_ble_eq_true rfl) rfl dX8_closesBracket_38 (fun H locs hT hS => ?_)
      obtain ⟨y_13, hy_13, hT⟩ : ∃ z : Nat → Nat → Int32, z = up2 y_11 (a 16) 4 x_12 ∧ tw (dC, dI) a k τ ln z g H := ⟨_, rfl, hT⟩
      have hG : ag τ [26, 28, 29] y y_13 := by rw [hy_13]; exact hG.up (fx_16 hX) (by decide)
      have : (y_13 (a 16) 1).toInt = (y_11 (a 16) 1).toInt := by rw [hy_13, up2_e (by decide)]
      have : (y_13 (a 16) 3).toInt = (y_11 (a 16) 3).toInt := by rw [hy_13, up2_e (by decide)]
      have hI := hI.ag (S := [26]) (y' := y_13) (by rw [hy_13]; exact ag.one (fx_16 hX)) (by decide)
      refine lv_iconst (v := 1) hx hb dX8_closesBracket_41 (by decide) ?_
      have hrv : (1 : Int32).toInt = 1 := (zk (x := 1) 1 rfl)
      exact W.zret (v := 1) hx hb hr (by decide) (fun t ht hW9 => ⟨⟨1, 1, rfl, rfl, Or.inl ⟨y_13, rfl, hG, by omega, by omega, tw_at ht hT⟩⟩, hS.F ht⟩) hS.2.2 dX8_closesBracket_42
  · have nc_1 := z_eq rfl (zk (x := 0) 0 rfl) c_1
    refine lv_iconst (v := 0) hx hb dX8_closesBracket_7 (by decide) ?_
    have hrv : (0 : Int32).toInt = 0 := (zk (x := 0) 0 rfl)
    exact W.zret (v := 0) hx hb hr (by decide) (fun t ht hW9 => ⟨⟨0, 0, rfl, rfl, Or.inr (⟨y, rfl, hG, by omega, by omega, tw_at ht hT⟩)⟩, hS.F ht⟩) hS.2.2 dX8_closesBracket_8
def wo_c_rbeginsThing : List Cond := [.methodLink RX8 63 yJ0_indexOf_0f7a4, .instanceMethod yJ0_indexOf_0f7a4, .selects RJ0 yJ0_indexOf_0f7a4 yJ0_indexOf_0f7a4, .initialized RJ0, .methodLink RX8 69 yX8_isDigit, .static yX8_isDigit, .initialized RX8, .methodLink RX8 72 yX8_write, .instanceMethod yX8_write, .selects RX8 yX8_write yX8_write, .fieldLink RX8 32 "TypingPool$Reader" "digits" "I", .fieldLink RX8 35 "TypingPool$Reader" "wantsThing" "Z", .methodLink RX8 75 yX8_keepOpen, .instanceMethod yX8_keepOpen, .selects RX8 yX8_keepOpen yX8_keepOpen, .fieldLink RX8 26 "TypingPool$Reader" "depth" "I", .fieldLink RX8 29 "TypingPool$Reader" "compared" "I"]
def wm_c_rbeginsThing : List Cond := .code yX8_beginsThing cX8_beginsThing 4 (some .boolean) :: (wo_c_rbeginsThing ++ (wm_j_indexOf1 ++ (wm_c_risDigit ++ (wm_c_rwrite ++ (wsX80 ++ (wm_c_rkeepOpen ++ ([] : List Cond)))))))
theorem gd_c_rbeginsThing : ∀ w ∈ wm_c_rbeginsThing, goodWord w = true := gd_c rfl (gd_a (by decide) (gd_a gd_j_indexOf1 (gd_a gd_c_risDigit (gd_a gd_c_rwrite (gd_a gd_wsX80 (gd_a gd_c_rkeepOpen gd_nil))))))
set_option maxRecDepth 20000 in
theorem im_c_rbeginsThing : ∀ w ∈ wm_c_rbeginsThing, w ∈ lw_tbl := im_c (in_r [.code yX8_beginsThing cX8_beginsThing 4 (some .boolean)] [265] (by decide +kernel)) (in_app (in_r wo_c_rbeginsThing [266, 267, 268, 74, 330, 331, 73, 333, 335, 1, 176, 177, 337, 339, 2, 174, 175] (by decide +kernel)) (in_app im_j_indexOf1 (in_app im_c_risDigit (in_app im_c_rwrite (in_app im_wsX80 (in_app im_c_rkeepOpen im_nil))))))
set_option maxHeartbeats 4000000 in
set_option maxRecDepth 100000 in
theorem c_rbeginsThing (l : Launch) (dC : Nat → ClassId) (dI : Nat → Nat → Nat) (ad av : Nat → Nat) (sz : Nat) (a : Nat → Nat) (k : Nat → ClassId) (τ ln : Nat → Nat) (y : Nat → Nat → Int32) (g : Nat → Nat → Option Nat) (u : Nat → Int) (p0 : Int32) (i : Nat) (hI : IC a u τ ln y g) (hi_i : i < 13) (hq1 : 0 ≤ (y (a 16) 1).toInt ∧ (y (a 16) 1).toInt ≤ 60) (hq3 : 0 ≤ (y (a 16) 3).toInt ∧ (y (a 16) 3).toInt ≤ 60) : Met l yX8_beginsThing wm_c_rbeginsThing ({ frames := 6, cells := 0, slots := 0, locals := 220 }) (pw_ ad av (dC, dI) sz [.ref (a 16), .int p0, .ref (ad i)] a k τ ln y g) (va_Qi (fun (r u : Int32) => u = r) (fun (r : Int32) (t : State) => (∃ (y' : Nat → Nat → Int32), r = 1 ∧ ag τ [26, 28, 29] y y' ∧ (0 ≤ (y' (a 16) 1).toInt ∧ (y' (a 16) 1).toInt ≤ 60) ∧ (0 ≤ (y' (a 16) 3).toInt ∧ (y' (a 16) 3).toInt ≤ 60) ∧ tw (dC, dI) a k τ ln y' g t.heap) ∨ (∃ (y' : Nat → Nat → Int32), r = 0 ∧ ag τ [26, 28, 29] y y' ∧ (0 ≤ (y' (a 16) 1).toInt ∧ (y' (a 16) 1).toInt ≤ 60) ∧ (0 ≤ (y' (a 16) 3).toInt ∧ (y' (a 16) 3).toInt ≤ 60) ∧ tw (dC, dI) a k τ ln y' g t.heap)) (fr τ sz)) 0 0 (fr τ sz) := by
  refine Met.ofW (cc := cX8_beginsThing) (maxL := 4) (ret := (some .boolean)) (by decide) rfl ?_
  intro p e s m args below meth c s₁ B hml hv
  obtain ⟨rfl, hsz, hT, hK, hM⟩ := hv
  have hx := B.exec
  have hb := B.bytes
  have hr := B.returns
  have hts := atoms_spec (ws := wm_c_rbeginsThing) B.pre
  have hown : s.vm.findClass RX8 = some m.cls := findClass_of_methodNamed B.named
  have hlocks := B.notSynchronized
  subst hsz
  generalize hAe : fr τ s.heap.size = A at hM ⊢
  have hA : ∀ q : Nat, s.heap.size ≤ q → A q := fun q h => by rw [← hAe]; exact Or.inr h
  have hF : ∀ q, τ q ≠ 0 → A q := fun q h => by rw [← hAe]; exact Or.inl h
  have hS : va_S A s.heap s.heap [] := va_S.rf
  have hX := hI.1
  have hR := ic_r hI
  have hG : ag τ [26, 28, 29] y y := ag.rf
  have hl := lv_entry ([.ref (a 16), .int p0, .ref (ad i)]) (n := 4) (Nat.le_of_ble_eq_true rfl)
  rw [lg_entry_eq]
  generalize (lg_sl ([.ref (a 16), .int p0, .ref (ad i)]) ++ List.replicate (4 - (lg_sl ([.ref (a 16), .int p0, .ref (ad i)])).length) Slot.unset).toArray = ls at hl ⊢
  have hl : lv_has ls 4 [(0, .ref (a 16)), (1, .int p0), (2, .ref (ad i))] := hl
  refine lv_aload_n hx hb dX8_beginsThing_0 rfl (lv_at hl 2 rfl) ?_
  refine lv_iload_n hx hb dX8_beginsThing_1 rfl (lv_at hl 1 rfl) ?_
  have hFe := em_F hS hA
  refine va_calli (va_runV (As := [.int p0]) (rest := []) ⟨hx, hb, hml, hown, hts⟩ (j_indexOf1 l dC dI ad av s.heap.size i p0 hi_i) (cwV 1 hts (gi_4 (List.mem_cons_of_mem _ (List.mem_append_left _ (List.mem_of_getElem? (i := 0) rfl))) (List.mem_cons_of_mem _ (List.mem_append_left _ (List.mem_of_getElem? (i := 1) rfl))) (List.mem_cons_of_mem _ (List.mem_append_left _ (List.mem_of_getElem? (i := 2) rfl))) (List.mem_cons_of_mem _ (List.mem_append_left _ (List.mem_of_getElem? (i := 3) rfl))) (fun _ hh => (List.mem_cons_of_mem _ (List.mem_append_right _ (List.mem_append_left _ hh)))) gd_j_indexOf1) rfl rfl rfl (by decide +kernel) ⟨Nat.le_of_ble_eq_true rfl, Nat.le_of_ble_eq_true rfl⟩) ⟨pr_blind, st_recv (st_at hM i hi_i) hS, pr_use em_P (hK.sub [] rfl) em_D hFe hS hM⟩ rfl rfl hl.1 rfl (lv_room (Nat.le_of_ble_eq_true rfl)) dX8_beginsThing_2 ⟨Nat.le_of_ble_eq_true rfl, Nat.le_of_ble_eq_true rfl⟩) hS (fun q _ h => hFe q h) hFe (fun r0 r_1 t H locs ht hvm hw hB hz1 hk1 hS => ?_)
  subst hw
  have hT := em_T hT hk1
  obtain ⟨r_19, hre, hbr_1, -⟩ := hB
  refine lq_top hre ?_
  refine lv_istore_n (lv' := [(3, .int r_19), (0, .ref (a 16)), (1, .int p0), (2, .ref (ad i))]) hx hb dX8_beginsThing_5 rfl hl (by decide) rfl (fun ls hl => ?_)
  refine lv_iload_n hx hb dX8_beginsThing_6 rfl (lv_at hl 2 rfl) ?_
  have hFc := tw_free hF hS hA
  refine va_calli (va_runS (As := [.int p0]) (rest := []) ⟨hx, hb, hml, hown, hts⟩ (c_risDigit l dC dI ad av H.size a k τ ln y g u p0  ) (va_cwS 1 hts (gi_3 (List.mem_cons_of_mem _ (List.mem_append_left _ (List.mem_of_getElem? (i := 4) rfl))) (List.mem_cons_of_mem _ (List.mem_append_left _ (List.mem_of_getElem? (i := 5) rfl))) (List.mem_cons_of_mem _ (List.mem_append_left _ (List.mem_of_getElem? (i := 6) rfl))) (fun _ hh => (List.mem_cons_of_mem _ (List.mem_append_right _ (List.mem_append_right _ (List.mem_append_left _ hh))))) gd_c_risDigit) rfl rfl rfl (by decide +kernel) ⟨Nat.le_of_ble_eq_true rfl, Nat.le_of_ble_eq_true rfl⟩) ⟨pw_blind, pw_use hT hK hFc hS hM⟩ rfl rfl hl.1 rfl (lv_room (Nat.le_of_ble_eq_true rfl)) dX8_beginsThing_7 ⟨Nat.le_of_ble_eq_true rfl, Nat.le_of_ble_eq_true rfl⟩) hS (fun q _ h => hFc q h) hFc (fun r0 r_2 t H locs ht hvm hw hB hz1 hk1 hS => ?_)
  refine W.widen (k := 0) (n := 0) (Nat.le_of_ble_eq_true rfl) (Nat.le_of_ble_eq_true rfl) ?_
  clear hvm hz1 hk1
  subst hw
  rcases hB with ⟨hre, hT⟩ | ⟨hre, hT⟩
  · refine lq_top (v := 1) hre ?_
    rw [ht] at hT
    refine lv_if_ne (tgt := 17) hx hb dX8_beginsThing_10 (by decide) (fun c_3 => ?_) (fun c_3 => absurd c_3 (by decide))
    refine lv_aload_n hx hb dX8_beginsThing_17 rfl (lv_at hl 1 rfl) ?_
    refine lv_iload_n hx hb dX8_beginsThing_18 rfl (lv_at hl 0 rfl) ?_
    refine lv_if_lt (tgt := 30) hx hb dX8_beginsThing_19 (by decide) (fun c_4 => ?_) (fun c_4 => ?_)
    · have nc_4 := z_lt rfl (zk (x := 0) 0 rfl) c_4
      refine lv_iload_n hx hb dX8_beginsThing_30 rfl (lv_at hl 2 rfl) ?_
      refine lv_bipush (v := 48) hx hb dX8_beginsThing_31 (by decide) ?_
      refine lv_isub hx hb dX8_beginsThing_33 ?_
      refine lv_topi (fun x_5 ex_5 => ?_)
      have hFc := tw_free hF hS hA
      refine va_callv (va_runV (As := [.int x_5]) (rest := []) ⟨hx, hb, hml, hown, hts⟩ (c_rwrite l dC dI ad av H.size a k τ ln y g u x_5 hI (by omega) (by omega)) (cwV 1 hts (gi_4 (List.mem_cons_of_mem _ (List.mem_append_left _ (List.mem_of_getElem? (i := 7) rfl))) (List.mem_cons_of_mem _ (List.mem_append_left _ (List.mem_of_getElem? (i := 8) rfl))) (List.mem_cons_of_mem _ (List.mem_append_left _ (List.mem_of_getElem? (i := 9) rfl))) (List.mem_cons_of_mem _ (List.mem_append_left _ (List.mem_of_getElem? (i := 6) rfl))) (fun _ hh => (List.mem_cons_of_mem _ (List.mem_append_right _ (List.mem_append_right _ (List.mem_append_right _ (List.mem_append_left _ hh)))))) gd_c_rwrite) rfl rfl rfl (by decide +kernel) ⟨Nat.le_of_ble_eq_true rfl, Nat.le_of_ble_eq_true rfl⟩) ⟨pw_blind, tw_recv hK hT (fx_16 hX) (by decide) cl_e26 rfl, pw_use hT hK hFc hS hM⟩ rfl rfl hl.1 rfl (lv_room (Nat.le_of_ble_eq_true rfl)) dX8_beginsThing_34 ⟨Nat.le_of_ble_eq_true rfl, Nat.le_of_ble_eq_true rfl⟩) hS (fun q _ h => hFc q h) hFc (fun u0 t H locs ht hvm hw hB hz1 hk1 hS => ?_)
      refine W.widen (k := 0) (n := 0) (Nat.le_of_ble_eq_true rfl) (Nat.le_of_ble_eq_true rfl) ?_
      clear hvm hz1 hk1
      obtain ⟨y_7, hgy_7, hf_8, hf_9, hf_10, hT⟩ := hB
      rw [ht] at hT
      have hG := hG.tr hgy_7 (by decide)
      have hI := hI.ag hgy_7 (by decide)
      refine lv_aload_n hx hb dX8_beginsThing_37 rfl (lv_at hl 1 rfl) ?_
      refine lv_iload_n hx hb dX8_beginsThing_38 rfl (lv_at hl 0 rfl) ?_
      refine lv_if_lt (tgt := 46) hx hb dX8_beginsThing_39 (by decide) (fun c_11 => ?_) (fun c_11 => ?_)
      · have nc_11 := z_lt rfl (zk (x := 0) 0 rfl) c_11
        refine lv_iconst (v := 1) hx hb dX8_beginsThing_46 (by decide) ?_
        refine tw_put (D := (dC, dI)) (x := 1) (ty := .int) (C := RX8) (T := TX8) (N := 8) hx hb hts (fun _ hh => (List.mem_cons_of_mem _ (List.mem_append_right _ (List.mem_append_right _ (List.mem_append_right _ (List.mem_append_right _ (List.mem_append_left _ hh))))))) tyX8 tyX8_ok nmX8 hown hK hT hF hS (fx_16 hX) (by decide) cl_e26 rfl 6 (by decide) (hts (.fieldLink RX8 32 "TypingPool$Reader" "digits" "I") (List.mem_cons_of_mem _ (List.mem_append_left _ (List.mem_of_getElem? (i := 10) rfl)))) (fun _ h9 => h9) rfl (tyX8_ok 6 (by decide)) rfl rfl (Nat.le_of_ble_eq_true rfl) rfl dX8_beginsThing_47 (fun H locs hT hS => ?_)
        obtain ⟨y_12, hy_12, hT⟩ : ∃ z : Nat → Nat → Int32, z = up2 y_7 (a 16) 6 (1 : Int32) ∧ tw (dC, dI) a k τ ln z g H := ⟨_, rfl, hT⟩
        have hG : ag τ [26, 28, 29] y y_12 := by rw [hy_12]; exact hG.up (fx_16 hX) (by decide)
        have : (y_12 (a 16) 1).toInt = (y_7 (a 16) 1).toInt := by rw [hy_12, up2_e (by decide)]
        have : (y_12 (a 16) 3).toInt = (y_7 (a 16) 3).toInt := by rw [hy_12, up2_e (by decide)]
        have hI := hI.ag (S := [26]) (y' := y_12) (by rw [hy_12]; exact ag.one (fx_16 hX)) (by decide)
        refine lv_aload_n hx hb dX8_beginsThing_50 rfl (lv_at hl 1 rfl) ?_
        refine lv_iconst (v := 0) hx hb dX8_beginsThing_51 (by decide) ?_
        refine tw_put (D := (dC, dI)) (x := 0) (ty := .boolean) (C := RX8) (T := TX8) (N := 8) hx hb hts (fun _ hh => (List.mem_cons_of_mem _ (List.mem_append_right _ (List.mem_append_right _ (List.mem_append_right _ (List.mem_append_right _ (List.mem_append_left _ hh))))))) tyX8 tyX8_ok nmX8 hown hK hT hF hS (fx_16 hX) (by decide) cl_e26 rfl 7 (by decide) (hts (.fieldLink RX8 35 "TypingPool$Reader" "wantsThing" "Z") (List.mem_cons_of_mem _ (List.mem_append_left _ (List.mem_of_getElem? (i := 11) rfl)))) (fun _ h9 => h9) rfl (tyX8_ok 7 (by decide)) rfl rfl (Nat.le_of_ble_eq_true rfl) rfl dX8_beginsThing_52 (fun H locs hT hS => ?_)
        obtain ⟨y_13, hy_13, hT⟩ : ∃ z : Nat → Nat → Int32, z = up2 y_12 (a 16) 7 (0 : Int32) ∧ tw (dC, dI) a k τ ln z g H := ⟨_, rfl, hT⟩
        have hG : ag τ [26, 28, 29] y y_13 := by rw [hy_13]; exact hG.up (fx_16 hX) (by decide)
        have : (y_13 (a 16) 1).toInt = (y_12 (a 16) 1).toInt := by rw [hy_13, up2_e (by decide)]
        have : (y_13 (a 16) 3).toInt = (y_12 (a 16) 3).toInt := by rw [hy_13, up2_e (by decide)]
        have hI := hI.ag (S := [26]) (y' := y_13) (by rw [hy_13]; exact ag.one (fx_16 hX)) (by decide)
        refine lv_iconst (v := 1) hx hb dX8_beginsThing_55 (by decide) ?_
        have hrv : (1 : Int32).toInt = 1 := (zk (x := 1) 1 rfl)
        exact W.zret (v := 1) hx hb hr (by decide) (fun t ht hW9 => ⟨⟨1, 1, rfl, rfl, Or.inl ⟨y_13, rfl, hG, by omega, by omega, tw_at ht hT⟩⟩, hS.F ht⟩) hS.2.2 dX8_beginsThing_56
      · have nc_11 := z_nlt rfl (zk (x := 0) 0 rfl) c_11
        refine lv_iconst (v := 0) hx hb dX8_beginsThing_42 (by decide) ?_
        refine lv_goto (tgt := 47) hx hb dX8_beginsThing_43 (by decide) ?_
        refine tw_put (D := (dC, dI)) (x := 0) (ty := .int) (C := RX8) (T := TX8) (N := 8) hx hb hts (fun _ hh => (List.mem_cons_of_mem _ (List.mem_append_right _ (List.mem_append_right _ (List.mem_append_right _ (List.mem_append_right _ (List.mem_append_left _ hh))))))) tyX8 tyX8_ok nmX8 hown hK hT hF hS (fx_16 hX) (by decide) cl_e26 rfl 6 (by decide) (hts (.fieldLink RX8 32 "TypingPool$Reader" "digits" "I") (List.mem_cons_of_mem _ (List.mem_append_left _ (List.mem_of_getElem? (i := 10) rfl)))) (fun _ h9 => h9) rfl (tyX8_ok 6 (by decide)) rfl rfl (Nat.le_of_ble_eq_true rfl) rfl dX8_beginsThing_47 (fun H locs hT hS => ?_)
        obtain ⟨y_14, hy_14, hT⟩ : ∃ z : Nat → Nat → Int32, z = up2 y_7 (a 16) 6 (0 : Int32) ∧ tw (dC, dI) a k τ ln z g H := ⟨_, rfl, hT⟩
        have hG : ag τ [26, 28, 29] y y_14 := by rw [hy_14]; exact hG.up (fx_16 hX) (by decide)
        have : (y_14 (a 16) 1).toInt = (y_7 (a 16) 1).toInt := by rw [hy_14, up2_e (by decide)]
        have : (y_14 (a 16) 3).toInt = (y_7 (a 16) 3).toInt := by rw [hy_14, up2_e (by decide)]
        have hI := hI.ag (S := [26]) (y' := y_14) (by rw [hy_14]; exact ag.one (fx_16 hX)) (by decide)
        refine lv_aload_n hx hb dX8_beginsThing_50 rfl (lv_at hl 1 rfl) ?_
        refine lv_iconst (v := 0) hx hb dX8_beginsThing_51 (by decide) ?_
        refine tw_put (D := (dC, dI)) (x := 0) (ty := .boolean) (C := RX8) (T := TX8) (N := 8) hx hb hts (fun _ hh => (List.mem_cons_of_mem _ (List.mem_append_right _ (List.mem_append_right _ (List.mem_append_right _ (List.mem_append_right _ (List.mem_append_left _ hh))))))) tyX8 tyX8_ok nmX8 hown hK hT hF hS (fx_16 hX) (by decide) cl_e26 rfl 7 (by decide) (hts (.fieldLink RX8 35 "TypingPool$Reader" "wantsThing" "Z") (List.mem_cons_of_mem _ (List.mem_append_left _ (List.mem_of_getElem? (i := 11) rfl)))) (fun _ h9 => h9) rfl (tyX8_ok 7 (by decide)) rfl rfl (Nat.le_of_ble_eq_true rfl) rfl dX8_beginsThing_52 (fun H locs hT hS => ?_)
        obtain ⟨y_15, hy_15, hT⟩ : ∃ z : Nat → Nat → Int32, z = up2 y_14 (a 16) 7 (0 : Int32) ∧ tw (dC, dI) a k τ ln z g H := ⟨_, rfl, hT⟩
        have hG : ag τ [26, 28, 29] y y_15 := by rw [hy_15]; exact hG.up (fx_16 hX) (by decide)
        have : (y_15 (a 16) 1).toInt = (y_14 (a 16) 1).toInt := by rw [hy_15, up2_e (by decide)]
        have : (y_15 (a 16) 3).toInt = (y_14 (a 16) 3).toInt := by rw [hy_15, up2_e (by decide)]
        have hI := hI.ag (S := [26]) (y' := y_15) (by rw [hy_15]; exact ag.one (fx_16 hX)) (by decide)
        refine lv_iconst (v := 1) hx hb dX8_beginsThing_55 (by decide) ?_
        have hrv : (1 : Int32).toInt = 1 := (zk (x := 1) 1 rfl)
        exact W.zret (v := 1) hx hb hr (by decide) (fun t ht hW9 => ⟨⟨1, 1, rfl, rfl, Or.inl ⟨y_15, rfl, hG, by omega, by omega, tw_at ht hT⟩⟩, hS.F ht⟩) hS.2.2 dX8_beginsThing_56
    · have nc_4 := z_nlt rfl (zk (x := 0) 0 rfl) c_4
      refine lv_sipush (v := 10000) hx hb dX8_beginsThing_22 (by decide) ?_
      refine lv_iload_n hx hb dX8_beginsThing_25 rfl (lv_at hl 0 rfl) ?_
      refine lv_iadd hx hb dX8_beginsThing_26 ?_
      refine lv_topi (fun x_16 ex_16 => ?_)
      refine lv_goto (tgt := 34) hx hb dX8_beginsThing_27 (by decide) ?_
      have hFc := tw_free hF hS hA
      refine va_callv (va_runV (As := [.int x_16]) (rest := []) ⟨hx, hb, hml, hown, hts⟩ (c_rwrite l dC dI ad av H.size a k τ ln y g u x_16 hI (by omega) (by omega)) (cwV 1 hts (gi_4 (List.mem_cons_of_mem _ (List.mem_append_left _ (List.mem_of_getElem? (i := 7) rfl))) (List.mem_cons_of_mem _ (List.mem_append_left _ (List.mem_of_getElem? (i := 8) rfl))) (List.mem_cons_of_mem _ (List.mem_append_left _ (List.mem_of_getElem? (i := 9) rfl))) (List.mem_cons_of_mem _ (List.mem_append_left _ (List.mem_of_getElem? (i := 6) rfl))) (fun _ hh => (List.mem_cons_of_mem _ (List.mem_append_right _ (List.mem_append_right _ (List.mem_append_right _ (List.mem_append_left _ hh)))))) gd_c_rwrite) rfl rfl rfl (by decide +kernel) ⟨Nat.le_of_ble_eq_true rfl, Nat.le_of_ble_eq_true rfl⟩) ⟨pw_blind, tw_recv hK hT (fx_16 hX) (by decide) cl_e26 rfl, pw_use hT hK hFc hS hM⟩ rfl rfl hl.1 rfl (lv_room (Nat.le_of_ble_eq_true rfl)) dX8_beginsThing_34 ⟨Nat.le_of_ble_eq_true rfl, Nat.le_of_ble_eq_true rfl⟩) hS (fun q _ h => hFc q h) hFc (fun u0 t H locs ht hvm hw hB hz1 hk1 hS => ?_)
      refine W.widen (k := 0) (n := 0) (Nat.le_of_ble_eq_true rfl) (Nat.le_of_ble_eq_true rfl) ?_
      clear hvm hz1 hk1
      obtain ⟨y_18, hgy_18, hf_19, hf_20, hf_21, hT⟩ := hB
      rw [ht] at hT
      have hG := hG.tr hgy_18 (by decide)
      have hI := hI.ag hgy_18 (by decide)
      refine lv_aload_n hx hb dX8_beginsThing_37 rfl (lv_at hl 1 rfl) ?_
      refine lv_iload_n hx hb dX8_beginsThing_38 rfl (lv_at hl 0 rfl) ?_
      refine lv_if_lt (tgt := 46) hx hb dX8_beginsThing_39 (by decide) (fun c_22 => ?_) (fun c_22 => ?_)
      · have nc_22 := z_lt rfl (zk (x := 0) 0 rfl) c_22
        refine lv_iconst (v := 1) hx hb dX8_beginsThing_46 (by decide) ?_
        refine tw_put (D := (dC, dI)) (x := 1) (ty := .int) (C := RX8) (T := TX8) (N := 8) hx hb hts (fun _ hh => (List.mem_cons_of_mem _ (List.mem_append_right _ (List.mem_append_right _ (List.mem_append_right _ (List.mem_append_right _ (List.mem_append_left _ hh))))))) tyX8 tyX8_ok nmX8 hown hK hT hF hS (fx_16 hX) (by decide) cl_e26 rfl 6 (by decide) (hts (.fieldLink RX8 32 "TypingPool$Reader" "digits" "I") (List.mem_cons_of_mem _ (List.mem_append_left _ (List.mem_of_getElem? (i := 10) rfl)))) (fun _ h9 => h9) rfl (tyX8_ok 6 (by decide)) rfl rfl (Nat.le_of_ble_eq_true rfl) rfl dX8_beginsThing_47 (fun H locs hT hS => ?_)
        obtain ⟨y_23, hy_23, hT⟩ : ∃ z : Nat → Nat → Int32, z = up2 y_18 (a 16) 6 (1 : Int32) ∧ tw (dC, dI) a k τ ln z g H := ⟨_, rfl, hT⟩
        have hG : ag τ [26, 28, 29] y y_23 := by rw [hy_23]; exact hG.up (fx_16 hX) (by decide)
        have : (y_23 (a 16) 1).toInt = (y_18 (a 16) 1).toInt := by rw [hy_23, up2_e (by decide)]
        have : (y_23 (a 16) 3).toInt = (y_18 (a 16) 3).toInt := by rw [hy_23, up2_e (by decide)]
        have hI := hI.ag (S := [26]) (y' := y_23) (by rw [hy_23]; exact ag.one (fx_16 hX)) (by decide)
        refine lv_aload_n hx hb dX8_beginsThing_50 rfl (lv_at hl 1 rfl) ?_
        refine lv_iconst (v := 0) hx hb dX8_beginsThing_51 (by decide) ?_
        refine tw_put (D := (dC, dI)) (x := 0) (ty := .boolean) (C := RX8) (T := TX8) (N := 8) hx hb hts (fun _ hh => (List.mem_cons_of_mem _ (List.mem_append_right _ (List.mem_append_right _ (List.mem_append_right _ (List.mem_append_right _ (List.mem_append_left _ hh))))))) tyX8 tyX8_ok nmX8 hown hK hT hF hS (fx_16 hX) (by decide) cl_e26 rfl 7 (by decide) (hts (.fieldLink RX8 35 "TypingPool$Reader" "wantsThing" "Z") (List.mem_cons_of_mem _ (List.mem_append_left _ (List.mem_of_getElem? (i := 11) rfl)))) (fun _ h9 => h9) rfl (tyX8_ok 7 (by decide)) rfl rfl (Nat.le_of_ble_eq_true rfl) rfl dX8_beginsThing_52 (fun H locs hT hS => ?_)
        obtain ⟨y_24, hy_24, hT⟩ : ∃ z : Nat → Nat → Int32, z = up2 y_23 (a 16) 7 (0 : Int32) ∧ tw (dC, dI) a k τ ln z g H := ⟨_, rfl, hT⟩
        have hG : ag τ [26, 28, 29] y y_24 := by rw [hy_24]; exact hG.up (fx_16 hX) (by decide)
        have : (y_24 (a 16) 1).toInt = (y_23 (a 16) 1).toInt := by rw [hy_24, up2_e (by decide)]
        have : (y_24 (a 16) 3).toInt = (y_23 (a 16) 3).toInt := by rw [hy_24, up2_e (by decide)]
        have hI := hI.ag (S := [26]) (y' := y_24) (by rw [hy_24]; exact ag.one (fx_16 hX)) (by decide)
        refine lv_iconst (v := 1) hx hb dX8_beginsThing_55 (by decide) ?_
        have hrv : (1 : Int32).toInt = 1 := (zk (x := 1) 1 rfl)
        exact W.zret (v := 1) hx hb hr (by decide) (fun t ht hW9 => ⟨⟨1, 1, rfl, rfl, Or.inl ⟨y_24, rfl, hG, by omega, by omega, tw_at ht hT⟩⟩, hS.F ht⟩) hS.2.2 dX8_beginsThing_56
      · have nc_22 := z_nlt rfl (zk (x := 0) 0 rfl) c_22
        refine lv_iconst (v := 0) hx hb dX8_beginsThing_42 (by decide) ?_
        refine lv_goto (tgt := 47) hx hb dX8_beginsThing_43 (by decide) ?_
        refine tw_put (D := (dC, dI)) (x := 0) (ty := .int) (C := RX8) (T := TX8) (N := 8) hx hb hts (fun _ hh => (List.mem_cons_of_mem _ (List.mem_append_right _ (List.mem_append_right _ (List.mem_append_right _ (List.mem_append_right _ (List.mem_append_left _ hh))))))) tyX8 tyX8_ok nmX8 hown hK hT hF hS (fx_16 hX) (by decide) cl_e26 rfl 6 (by decide) (hts (.fieldLink RX8 32 "TypingPool$Reader" "digits" "I") (List.mem_cons_of_mem _ (List.mem_append_left _ (List.mem_of_getElem? (i := 10) rfl)))) (fun _ h9 => h9) rfl (tyX8_ok 6 (by decide)) rfl rfl (Nat.le_of_ble_eq_true rfl) rfl dX8_beginsThing_47 (fun H locs hT hS => ?_)
        obtain ⟨y_25, hy_25, hT⟩ : ∃ z : Nat → Nat → Int32, z = up2 y_18 (a 16) 6 (0 : Int32) ∧ tw (dC, dI) a k τ ln z g H := ⟨_, rfl, hT⟩
        have hG : ag τ [26, 28, 29] y y_25 := by rw [hy_25]; exact hG.up (fx_16 hX) (by decide)
        have : (y_25 (a 16) 1).toInt = (y_18 (a 16) 1).toInt := by rw [hy_25, up2_e (by decide)]
        have : (y_25 (a 16) 3).toInt = (y_18 (a 16) 3).toInt := by rw [hy_25, up2_e (by decide)]
        have hI := hI.ag (S := [26]) (y' := y_25) (by rw [hy_25]; exact ag.one (fx_16 hX)) (by decide)
        refine lv_aload_n hx hb dX8_beginsThing_50 rfl (lv_at hl 1 rfl) ?_
        refine lv_iconst (v := 0) hx hb dX8_beginsThing_51 (by decide) ?_
        refine tw_put (D := (dC, dI)) (x := 0) (ty := .boolean) (C := RX8) (T := TX8) (N := 8) hx hb hts (fun _ hh => (List.mem_cons_of_mem _ (List.mem_append_right _ (List.mem_append_right _ (List.mem_append_right _ (List.mem_append_right _ (List.mem_append_left _ hh))))))) tyX8 tyX8_ok nmX8 hown hK hT hF hS (fx_16 hX) (by decide) cl_e26 rfl 7 (by decide) (hts (.fieldLink RX8 35 "TypingPool$Reader" "wantsThing" "Z") (List.mem_cons_of_mem _ (List.mem_append_left _ (List.mem_of_getElem? (i := 11) rfl)))) (fun _ h9 => h9) rfl (tyX8_ok 7 (by decide)) rfl rfl (Nat.le_of_ble_eq_true rfl) rfl dX8_beginsThing_52 (fun H locs hT hS => ?_)
        obtain ⟨y_26, hy_26, hT⟩ : ∃ z : Nat → Nat → Int32, z = up2 y_25 (a 16) 7 (0 : Int32) ∧ tw (dC, dI) a k τ ln z g H := ⟨_, rfl, hT⟩
        have hG : ag τ [26, 28, 29] y y_26 := by rw [hy_26]; exact hG.up (fx_16 hX) (by decide)
        have : (y_26 (a 16) 1).toInt = (y_25 (a 16) 1).toInt := by rw [hy_26, up2_e (by decide)]
        have : (y_26 (a 16) 3).toInt = (y_25 (a 16) 3).toInt := by rw [hy_26, up2_e (by decide)]
        have hI := hI.ag (S := [26]) (y' := y_26) (by rw [hy_26]; exact ag.one (fx_16 hX)) (by decide)
        refine lv_iconst (v := 1) hx hb dX8_beginsThing_55 (by decide) ?_
        have hrv : (1 : Int32).toInt = 1 := (zk (x := 1) 1 rfl)
        exact W.zret (v := 1) hx hb hr (by decide) (fun t ht hW9 => ⟨⟨1, 1, rfl, rfl, Or.inl ⟨y_26, rfl, hG, by omega, by omega, tw_at ht hT⟩⟩, hS.F ht⟩) hS.2.2 dX8_beginsThing_56
  · refine lq_top (v := 0) hre ?_
    rw [ht] at hT
    refine lv_if_ne (tgt := 17) hx hb dX8_beginsThing_10 (by decide) (fun c_27 => absurd c_27 (by decide)) (fun c_27 => ?_)
    refine lv_iload_n hx hb dX8_beginsThing_13 rfl (lv_at hl 0 rfl) ?_
    refine lv_if_lt (tgt := 57) hx hb dX8_beginsThing_14 (by decide) (fun c_28 => ?_) (fun c_28 => ?_)
    · have nc_28 := z_lt rfl (zk (x := 0) 0 rfl) c_28
      refine lv_iload_n hx hb dX8_beginsThing_57 rfl (lv_at hl 2 rfl) ?_
      refine lv_bipush (v := 33) hx hb dX8_beginsThing_58 (by decide) ?_
      refine lv_icmp_eq (tgt := 69) hx hb dX8_beginsThing_60 (by decide) (fun c_29 => ?_) (fun c_29 => ?_)
      · have nc_29 := z_eq rfl (zk (x := 33) 33 rfl) c_29
        refine lv_aload_n hx hb dX8_beginsThing_69 rfl (lv_at hl 1 rfl) ?_
        refine lv_iload_n hx hb dX8_beginsThing_70 rfl (lv_at hl 2 rfl) ?_
        refine lv_bipush (v := 45) hx hb dX8_beginsThing_71 (by decide) ?_
        refine lv_icmp_ne (tgt := 81) hx hb dX8_beginsThing_73 (by decide) (fun c_30 => ?_) (fun c_30 => ?_)
        · have nc_30 := z_ne rfl (zk (x := 45) 45 rfl) c_30
          refine lv_iload_n hx hb dX8_beginsThing_81 rfl (lv_at hl 2 rfl) ?_
          have hFc := tw_free hF hS hA
          refine va_callv (va_runV (As := [.int p0]) (rest := []) ⟨hx, hb, hml, hown, hts⟩ (c_rkeepOpen l dC dI ad av H.size a k τ ln y g u p0 hI (by omega) (by omega)) (cwV 1 hts (gi_4 (List.mem_cons_of_mem _ (List.mem_append_left _ (List.mem_of_getElem? (i := 12) rfl))) (List.mem_cons_of_mem _ (List.mem_append_left _ (List.mem_of_getElem? (i := 13) rfl))) (List.mem_cons_of_mem _ (List.mem_append_left _ (List.mem_of_getElem? (i := 14) rfl))) (List.mem_cons_of_mem _ (List.mem_append_left _ (List.mem_of_getElem? (i := 6) rfl))) (fun _ hh => (List.mem_cons_of_mem _ (List.mem_append_right _ (List.mem_append_right _ (List.mem_append_right _ (List.mem_append_right _ (List.mem_append_right _ (List.mem_append_left _ hh)))))))) gd_c_rkeepOpen) rfl rfl rfl (by decide +kernel) ⟨Nat.le_of_ble_eq_true rfl, Nat.le_of_ble_eq_true rfl⟩) ⟨pw_blind, tw_recv hK hT (fx_16 hX) (by decide) cl_e26 rfl, pw_use hT hK hFc hS hM⟩ rfl rfl hl.1 rfl (lv_room (Nat.le_of_ble_eq_true rfl)) dX8_beginsThing_82 ⟨Nat.le_of_ble_eq_true rfl, Nat.le_of_ble_eq_true rfl⟩) hS (fun q _ h => hFc q h) hFc (fun u0 t H locs ht hvm hw hB hz1 hk1 hS => ?_)
          refine W.widen (k := 0) (n := 0) (Nat.le_of_ble_eq_true rfl) (Nat.le_of_ble_eq_true rfl) ?_
          clear hvm hz1 hk1
          obtain ⟨y_32, hgy_32, hf_33, hf_34, hT⟩ := hB
          rw [ht] at hT
          have hG := hG.tr hgy_32 (by decide)
          have hI := hI.ag hgy_32 (by decide)
          refine lv_iconst (v := 1) hx hb dX8_beginsThing_85 (by decide) ?_
          have hrv : (1 : Int32).toInt = 1 := (zk (x := 1) 1 rfl)
          exact W.zret (v := 1) hx hb hr (by decide) (fun t ht hW9 => ⟨⟨1, 1, rfl, rfl, Or.inl ⟨y_32, rfl, hG, by omega, by omega, tw_at ht hT⟩⟩, hS.F ht⟩) hS.2.2 dX8_beginsThing_86
        · have nc_30 := z_eq rfl (zk (x := 45) 45 rfl) c_30
          refine lv_bipush (v := 126) hx hb dX8_beginsThing_76 (by decide) ?_
          refine lv_goto (tgt := 82) hx hb dX8_beginsThing_78 (by decide) ?_
          have hFc := tw_free hF hS hA
          have hp_35 : (126 : Int32).toInt = 126 := (zk (x := 126) 126 rfl)
          refine va_callv (va_runV (As := [.int 126]) (rest := []) ⟨hx, hb, hml, hown, hts⟩ (c_rkeepOpen l dC dI ad av H.size a k τ ln y g u (126 : Int32) hI (by omega) (by omega)) (cwV 1 hts (gi_4 (List.mem_cons_of_mem _ (List.mem_append_left _ (List.mem_of_getElem? (i := 12) rfl))) (List.mem_cons_of_mem _ (List.mem_append_left _ (List.mem_of_getElem? (i := 13) rfl))) (List.mem_cons_of_mem _ (List.mem_append_left _ (List.mem_of_getElem? (i := 14) rfl))) (List.mem_cons_of_mem _ (List.mem_append_left _ (List.mem_of_getElem? (i := 6) rfl))) (fun _ hh => (List.mem_cons_of_mem _ (List.mem_append_right _ (List.mem_append_right _ (List.mem_append_right _ (List.mem_append_right _ (List.mem_append_right _ (List.mem_append_left _ hh)))))))) gd_c_rkeepOpen) rfl rfl rfl (by decide +kernel) ⟨Nat.le_of_ble_eq_true rfl, Nat.le_of_ble_eq_true rfl⟩) ⟨pw_blind, tw_recv hK hT (fx_16 hX) (by decide) cl_e26 rfl, pw_use hT hK hFc hS hM⟩ rfl rfl hl.1 rfl (lv_room (Nat.le_of_ble_eq_true rfl)) dX8_beginsThing_82 ⟨Nat.le_of_ble_eq_true rfl, Nat.le_of_ble_eq_true rfl⟩) hS (fun q _ h => hFc q h) hFc (fun u0 t H locs ht hvm hw hB hz1 hk1 hS => ?_)
          refine W.widen (k := 0) (n := 0) (Nat.le_of_ble_eq_true rfl) (Nat.le_of_ble_eq_true rfl) ?_
          clear hvm hz1 hk1
          obtain ⟨y_37, hgy_37, hf_38, hf_39, hT⟩ := hB
          rw [ht] at hT
          have hG := hG.tr hgy_37 (by decide)
          have hI := hI.ag hgy_37 (by decide)
          try simp only [hp_35] at hf_38 hf_39
          clear hp_35
          refine lv_iconst (v := 1) hx hb dX8_beginsThing_85 (by decide) ?_
          have hrv : (1 : Int32).toInt = 1 := (zk (x := 1) 1 rfl)
          exact W.zret (v := 1) hx hb hr (by decide) (fun t ht hW9 => ⟨⟨1, 1, rfl, rfl, Or.inl ⟨y_37, rfl, hG, by omega, by omega, tw_at ht hT⟩⟩, hS.F ht⟩) hS.2.2 dX8_beginsThing_86
      · have nc_29 := z_ne rfl (zk (x := 33) 33 rfl) c_29
        refine lv_iload_n hx hb dX8_beginsThing_63 rfl (lv_at hl 2 rfl) ?_
        refine lv_bipush (v := 45) hx hb dX8_beginsThing_64 (by decide) ?_
        refine lv_icmp_ne (tgt := 87) hx hb dX8_beginsThing_66 (by decide) (fun c_40 => ?_) (fun c_40 => ?_)
        · have nc_40 := z_ne rfl (zk (x := 45) 45 rfl) c_40
          refine lv_iload_n hx hb dX8_beginsThing_87 rfl (lv_at hl 2 rfl) ?_
          refine lv_bipush (v := 40) hx hb dX8_beginsThing_88 (by decide) ?_
          refine lv_icmp_ne (tgt := 102) hx hb dX8_beginsThing_90 (by decide) (fun c_41 => ?_) (fun c_41 => ?_)
          · have nc_41 := z_ne rfl (zk (x := 40) 40 rfl) c_41
            refine lv_iconst (v := 0) hx hb dX8_beginsThing_102 (by decide) ?_
            have hrv : (0 : Int32).toInt = 0 := (zk (x := 0) 0 rfl)
            exact W.zret (v := 0) hx hb hr (by decide) (fun t ht hW9 => ⟨⟨0, 0, rfl, rfl, Or.inr (⟨y, rfl, hG, by omega, by omega, tw_at ht hT⟩)⟩, hS.F ht⟩) hS.2.2 dX8_beginsThing_103
          · have nc_41 := z_eq rfl (zk (x := 40) 40 rfl) c_41
            refine lv_aload_n hx hb dX8_beginsThing_93 rfl (lv_at hl 1 rfl) ?_
            refine tw_get (D := (dC, dI)) (v := .int (y (a 16) 4)) (C := RX8) (T := TX8) (N := 8) hx hb hts (fun _ hh => (List.mem_cons_of_mem _ (List.mem_append_right _ (List.mem_append_right _ (List.mem_append_right _ (List.mem_append_right _ (List.mem_append_left _ hh))))))) hown hK hT (fx_16 hX) (by decide) cl_e26 rfl 4 (by decide) (hts (.fieldLink RX8 26 "TypingPool$Reader" "depth" "I") (List.mem_cons_of_mem _ (List.mem_append_left _ (List.mem_of_getElem? (i := 15) rfl)))) (fun _ h9 => h9) rfl dX8_beginsThing_94 ?_
            refine lv_bipush (v := 6) hx hb dX8_beginsThing_97 (by decide) ?_
            refine lv_icmp_lt (tgt := 104) hx hb dX8_beginsThing_99 (by decide) (fun c_42 => ?_) (fun c_42 => ?_)
            · have nc_42 := z_lt rfl (zk (x := 6) 6 rfl) c_42
              refine lv_aload_n hx hb dX8_beginsThing_104 rfl (lv_at hl 1 rfl) ?_
              refine lv_iload_n hx hb dX8_beginsThing_105 rfl (lv_at hl 2 rfl) ?_
              have hFc := tw_free hF hS hA
              refine va_callv (va_runV (As := [.int p0]) (rest := []) ⟨hx, hb, hml, hown, hts⟩ (c_rkeepOpen l dC dI ad av H.size a k τ ln y g u p0 hI (by omega) (by omega)) (cwV 1 hts (gi_4 (List.mem_cons_of_mem _ (List.mem_append_left _ (List.mem_of_getElem? (i := 12) rfl))) (List.mem_cons_of_mem _ (List.mem_append_left _ (List.mem_of_getElem? (i := 13) rfl))) (List.mem_cons_of_mem _ (List.mem_append_left _ (List.mem_of_getElem? (i := 14) rfl))) (List.mem_cons_of_mem _ (List.mem_append_left _ (List.mem_of_getElem? (i := 6) rfl))) (fun _ hh => (List.mem_cons_of_mem _ (List.mem_append_right _ (List.mem_append_right _ (List.mem_append_right _ (List.mem_append_right _ (List.mem_append_right _ (List.mem_append_left _ hh)))))))) gd_c_rkeepOpen) rfl rfl rfl (by decide +kernel) ⟨Nat.le_of_ble_eq_true rfl, Nat.le_of_ble_eq_true rfl⟩) ⟨pw_blind, tw_recv hK hT (fx_16 hX) (by decide) cl_e26 rfl, pw_use hT hK hFc hS hM⟩ rfl rfl hl.1 rfl (lv_room (Nat.le_of_ble_eq_true rfl)) dX8_beginsThing_106 ⟨Nat.le_of_ble_eq_true rfl, Nat.le_of_ble_eq_true rfl⟩) hS (fun q _ h => hFc q h) hFc (fun u0 t H locs ht hvm hw hB hz1 hk1 hS => ?_)
              refine W.widen (k := 0) (n := 0) (Nat.le_of_ble_eq_true rfl) (Nat.le_of_ble_eq_true rfl) ?_
              clear hvm hz1 hk1
              obtain ⟨y_44, hgy_44, hf_45, hf_46, hT⟩ := hB
              rw [ht] at hT
              have hG := hG.tr hgy_44 (by decide)
              have hI := hI.ag hgy_44 (by decide)
              refine lv_aload_n hx hb dX8_beginsThing_109 rfl (lv_at hl 1 rfl) ?_
              refine lv_dup hx hb dX8_beginsThing_110 rfl ?_
              refine tw_get (D := (dC, dI)) (v := .int (y_44 (a 16) 4)) (C := RX8) (T := TX8) (N := 8) hx hb hts (fun _ hh => (List.mem_cons_of_mem _ (List.mem_append_right _ (List.mem_append_right _ (List.mem_append_right _ (List.mem_append_right _ (List.mem_append_left _ hh))))))) hown hK hT (fx_16 hX) (by decide) cl_e26 rfl 4 (by decide) (hts (.fieldLink RX8 26 "TypingPool$Reader" "depth" "I") (List.mem_cons_of_mem _ (List.mem_append_left _ (List.mem_of_getElem? (i := 15) rfl)))) (fun _ h9 => h9) rfl dX8_beginsThing_111 ?_
              refine lv_iconst (v := 1) hx hb dX8_beginsThing_114 (by decide) ?_
              refine lv_iadd hx hb dX8_beginsThing_115 ?_
              refine lv_topi (fun x_47 ex_47 => ?_)
              refine tw_put (D := (dC, dI)) (x := x_47) (ty := .int) (C := RX8) (T := TX8) (N := 8) hx hb hts (fun _ hh => (List.mem_cons_of_mem _ (List.mem_append_right _ (List.mem_append_right _ (List.mem_append_right _ (List.mem_append_right _ (List.mem_append_left _ hh))))))) tyX8 tyX8_ok nmX8 hown hK hT hF hS (fx_16 hX) (by decide) cl_e26 rfl 4 (by decide) (hts (.fieldLink RX8 26 "TypingPool$Reader" "depth" "I") (List.mem_cons_of_mem _ (List.mem_append_left _ (List.mem_of_getElem? (i := 15) rfl)))) (fun _ h9 => h9) rfl (tyX8_ok 4 (by decide)) rfl rfl (Nat.le_of_ble_eq_true rfl) rfl dX8_beginsThing_116 (fun H locs hT hS => ?_)
              obtain ⟨y_48, hy_48, hT⟩ : ∃ z : Nat → Nat → Int32, z = up2 y_44 (a 16) 4 x_47 ∧ tw (dC, dI) a k τ ln z g H := ⟨_, rfl, hT⟩
              have hG : ag τ [26, 28, 29] y y_48 := by rw [hy_48]; exact hG.up (fx_16 hX) (by decide)
              have : (y_48 (a 16) 1).toInt = (y_44 (a 16) 1).toInt := by rw [hy_48, up2_e (by decide)]
              have : (y_48 (a 16) 3).toInt = (y_44 (a 16) 3).toInt := by rw [hy_48, up2_e (by decide)]
              have hI := hI.ag (S := [26]) (y' := y_48) (by rw [hy_48]; exact ag.one (fx_16 hX)) (by decide)
              refine lv_aload_n hx hb dX8_beginsThing_119 rfl (lv_at hl 1 rfl) ?_
              refine lv_dup hx hb dX8_beginsThing_120 rfl ?_
              refine tw_get (D := (dC, dI)) (v := .int (y_48 (a 16) 5)) (C := RX8) (T := TX8) (N := 8) hx hb hts (fun _ hh => (List.mem_cons_of_mem _ (List.mem_append_right _ (List.mem_append_right _ (List.mem_append_right _ (List.mem_append_right _ (List.mem_append_left _ hh))))))) hown hK hT (fx_16 hX) (by decide) cl_e26 rfl 5 (by decide) (hts (.fieldLink RX8 29 "TypingPool$Reader" "compared" "I") (List.mem_cons_of_mem _ (List.mem_append_left _ (List.mem_of_getElem? (i := 16) rfl)))) (fun _ h9 => h9) rfl dX8_beginsThing_121 ?_
              refine lv_iconst (v := 1) hx hb dX8_beginsThing_124 (by decide) ?_
              refine lv_aload_n hx hb dX8_beginsThing_125 rfl (lv_at hl 1 rfl) ?_
              refine tw_get (D := (dC, dI)) (v := .int (y_48 (a 16) 4)) (C := RX8) (T := TX8) (N := 8) hx hb hts (fun _ hh => (List.mem_cons_of_mem _ (List.mem_append_right _ (List.mem_append_right _ (List.mem_append_right _ (List.mem_append_right _ (List.mem_append_left _ hh))))))) hown hK hT (fx_16 hX) (by decide) cl_e26 rfl 4 (by decide) (hts (.fieldLink RX8 26 "TypingPool$Reader" "depth" "I") (List.mem_cons_of_mem _ (List.mem_append_left _ (List.mem_of_getElem? (i := 15) rfl)))) (fun _ h9 => h9) rfl dX8_beginsThing_126 ?_
              refine lv_ishl hx hb dX8_beginsThing_129 ?_
              refine lv_topi (fun x_49 ex_49 => ?_)
              refine lv_iconst (v := (-1)) hx hb dX8_beginsThing_130 (by decide) ?_
              refine lv_ixor hx hb dX8_beginsThing_131 ?_
              refine lv_topi (fun x_50 ex_50 => ?_)
              refine lv_iand hx hb dX8_beginsThing_132 ?_
              refine lv_topi (fun x_51 ex_51 => ?_)
              refine tw_put (D := (dC, dI)) (x := x_51) (ty := .int) (C := RX8) (T := TX8) (N := 8) hx hb hts (fun _ hh => (List.mem_cons_of_mem _ (List.mem_append_right _ (List.mem_append_right _ (List.mem_append_right _ (List.mem_append_right _ (List.mem_append_left _ hh))))))) tyX8 tyX8_ok nmX8 hown hK hT hF hS (fx_16 hX) (by decide) cl_e26 rfl 5 (by decide) (hts (.fieldLink RX8 29 "TypingPool$Reader" "compared" "I") (List.mem_cons_of_mem _ (List.mem_append_left _ (List.mem_of_getElem? (i := 16) rfl)))) (fun _ h9 => h9) rfl (tyX8_ok 5 (by decide)) rfl rfl (Nat.le_of_ble_eq_true rfl) rfl dX8_beginsThing_133 (fun H locs hT hS => ?_)
              obtain ⟨y_52, hy_52, hT⟩ : ∃ z : Nat → Nat → Int32, z = up2 y_48 (a 16) 5 x_51 ∧ tw (dC, dI) a k τ ln z g H := ⟨_, rfl, hT⟩
              have hG : ag τ [26, 28, 29] y y_52 := by rw [hy_52]; exact hG.up (fx_16 hX) (by decide)
              have : (y_52 (a 16) 1).toInt = (y_48 (a 16) 1).toInt := by rw [hy_52, up2_e (by decide)]
              have : (y_52 (a 16) 3).toInt = (y_48 (a 16) 3).toInt := by rw [hy_52, up2_e (by decide)]
              have hI := hI.ag (S := [26]) (y' := y_52) (by rw [hy_52]; exact ag.one (fx_16 hX)) (by decide)
              refine lv_iconst (v := 1) hx hb dX8_beginsThing_136 (by decide) ?_
              have hrv : (1 : Int32).toInt = 1 := (zk (x := 1) 1 rfl)
              exact W.zret (v := 1) hx hb hr (by decide) (fun t ht hW9 => ⟨⟨1, 1, rfl, rfl, Or.inl ⟨y_52, rfl, hG, by omega, by omega, tw_at ht hT⟩⟩, hS.F ht⟩) hS.2.2 dX8_beginsThing_137
            · have nc_42 := z_nlt rfl (zk (x := 6) 6 rfl) c_42
              refine lv_iconst (v := 0) hx hb dX8_beginsThing_102 (by decide) ?_
              have hrv : (0 : Int32).toInt = 0 := (zk (x := 0) 0 rfl)
              exact W.zret (v := 0) hx hb hr (by decide) (fun t ht hW9 => ⟨⟨0, 0, rfl, rfl, Or.inr (⟨y, rfl, hG, by omega, by omega, tw_at ht hT⟩)⟩, hS.F ht⟩) hS.2.2 dX8_beginsThing_103
        · have nc_40 := z_eq rfl (zk (x := 45) 45 rfl) c_40
          refine lv_aload_n hx hb dX8_beginsThing_69 rfl (lv_at hl 1 rfl) ?_
          refine lv_iload_n hx hb dX8_beginsThing_70 rfl (lv_at hl 2 rfl) ?_
          refine lv_bipush (v := 45) hx hb dX8_beginsThing_71 (by decide) ?_
          refine lv_icmp_ne (tgt := 81) hx hb dX8_beginsThing_73 (by decide) (fun c_53 => ?_) (fun c_53 => ?_)
          · have nc_53 := z_ne rfl (zk (x := 45) 45 rfl) c_53
            refine lv_iload_n hx hb dX8_beginsThing_81 rfl (lv_at hl 2 rfl) ?_
            have hFc := tw_free hF hS hA
            refine va_callv (va_runV (As := [.int p0]) (rest := []) ⟨hx, hb, hml, hown, hts⟩ (c_rkeepOpen l dC dI ad av H.size a k τ ln y g u p0 hI (by omega) (by omega)) (cwV 1 hts (gi_4 (List.mem_cons_of_mem _ (List.mem_append_left _ (List.mem_of_getElem? (i := 12) rfl))) (List.mem_cons_of_mem _ (List.mem_append_left _ (List.mem_of_getElem? (i := 13) rfl))) (List.mem_cons_of_mem _ (List.mem_append_left _ (List.mem_of_getElem? (i := 14) rfl))) (List.mem_cons_of_mem _ (List.mem_append_left _ (List.mem_of_getElem? (i := 6) rfl))) (fun _ hh => (List.mem_cons_of_mem _ (List.mem_append_right _ (List.mem_append_right _ (List.mem_append_right _ (List.mem_append_right _ (List.mem_append_right _ (List.mem_append_left _ hh)))))))) gd_c_rkeepOpen) rfl rfl rfl (by decide +kernel) ⟨Nat.le_of_ble_eq_true rfl, Nat.le_of_ble_eq_true rfl⟩) ⟨pw_blind, tw_recv hK hT (fx_16 hX) (by decide) cl_e26 rfl, pw_use hT hK hFc hS hM⟩ rfl rfl hl.1 rfl (lv_room (Nat.le_of_ble_eq_true rfl)) dX8_beginsThing_82 ⟨Nat.le_of_ble_eq_true rfl, Nat.le_of_ble_eq_true rfl⟩) hS (fun q _ h => hFc q h) hFc (fun u0 t H locs ht hvm hw hB hz1 hk1 hS => ?_)
            refine W.widen (k := 0) (n := 0) (Nat.le_of_ble_eq_true rfl) (Nat.le_of_ble_eq_true rfl) ?_
            clear hvm hz1 hk1
            obtain ⟨y_55, hgy_55, hf_56, hf_57, hT⟩ := hB
            rw [ht] at hT
            have hG := hG.tr hgy_55 (by decide)
            have hI := hI.ag hgy_55 (by decide)
            refine lv_iconst (v := 1) hx hb dX8_beginsThing_85 (by decide) ?_
            have hrv : (1 : Int32).toInt = 1 := (zk (x := 1) 1 rfl)
            exact W.zret (v := 1) hx hb hr (by decide) (fun t ht hW9 => ⟨⟨1, 1, rfl, rfl, Or.inl ⟨y_55, rfl, hG, by omega, by omega, tw_at ht hT⟩⟩, hS.F ht⟩) hS.2.2 dX8_beginsThing_86
          · have nc_53 := z_eq rfl (zk (x := 45) 45 rfl) c_53
            refine lv_bipush (v := 126) hx hb dX8_beginsThing_76 (by decide) ?_
            refine lv_goto (tgt := 82) hx hb dX8_beginsThing_78 (by decide) ?_
            have hFc := tw_free hF hS hA
            have hp_58 : (126 : Int32).toInt = 126 := (zk (x := 126) 126 rfl)
            refine va_callv (va_runV (As := [.int 126]) (rest := []) ⟨hx, hb, hml, hown, hts⟩ (c_rkeepOpen l dC dI ad av H.size a k τ ln y g u (126 : Int32) hI (by omega) (by omega)) (cwV 1 hts (gi_4 (List.mem_cons_of_mem _ (List.mem_append_left _ (List.mem_of_getElem? (i := 12) rfl))) (List.mem_cons_of_mem _ (List.mem_append_left _ (List.mem_of_getElem? (i := 13) rfl))) (List.mem_cons_of_mem _ (List.mem_append_left _ (List.mem_of_getElem? (i := 14) rfl))) (List.mem_cons_of_mem _ (List.mem_append_left _ (List.mem_of_getElem? (i := 6) rfl))) (fun _ hh => (List.mem_cons_of_mem _ (List.mem_append_right _ (List.mem_append_right _ (List.mem_append_right _ (List.mem_append_right _ (List.mem_append_right _ (List.mem_append_left _ hh)))))))) gd_c_rkeepOpen) rfl rfl rfl (by decide +kernel) ⟨Nat.le_of_ble_eq_true rfl, Nat.le_of_ble_eq_true rfl⟩) ⟨pw_blind, tw_recv hK hT (fx_16 hX) (by decide) cl_e26 rfl, pw_use hT hK hFc hS hM⟩ rfl rfl hl.1 rfl (lv_room (Nat.le_of_ble_eq_true rfl)) dX8_beginsThing_82 ⟨Nat.le_of_ble_eq_true rfl, Nat.le_of_ble_eq_true rfl⟩) hS (fun q _ h => hFc q h) hFc (fun u0 t H locs ht hvm hw hB hz1 hk1 hS => ?_)
            refine W.widen (k := 0) (n := 0) (Nat.le_of_ble_eq_true rfl) (Nat.le_of_ble_eq_true rfl) ?_
            clear hvm hz1 hk1
            obtain ⟨y_60, hgy_60, hf_61, hf_62, hT⟩ := hB
            rw [ht] at hT
            have hG := hG.tr hgy_60 (by decide)
            have hI := hI.ag hgy_60 (by decide)
            try simp only [hp_58] at hf_61 hf_62
            clear hp_58
            refine lv_iconst (v := 1) hx hb dX8_beginsThing_85 (by decide) ?_
            have hrv : (1 : Int32).toInt = 1 := (zk (x := 1) 1 rfl)
            exact W.zret (v := 1) hx hb hr (by decide) (fun t ht hW9 => ⟨⟨1, 1, rfl, rfl, Or.inl ⟨y_60, rfl, hG, by omega, by omega, tw_at ht hT⟩⟩, hS.F ht⟩) hS.2.2 dX8_beginsThing_86
    · have nc_28 := z_nlt rfl (zk (x := 0) 0 rfl) c_28
      refine lv_aload_n hx hb dX8_beginsThing_17 rfl (lv_at hl 1 rfl) ?_
      refine lv_iload_n hx hb dX8_beginsThing_18 rfl (lv_at hl 0 rfl) ?_
      refine lv_if_lt (tgt := 30) hx hb dX8_beginsThing_19 (by decide) (fun c_63 => ?_) (fun c_63 => ?_)
      · have nc_63 := z_lt rfl (zk (x := 0) 0 rfl) c_63
        refine lv_iload_n hx hb dX8_beginsThing_30 rfl (lv_at hl 2 rfl) ?_
        refine lv_bipush (v := 48) hx hb dX8_beginsThing_31 (by decide) ?_
        refine lv_isub hx hb dX8_beginsThing_33 ?_
        refine lv_topi (fun x_64 ex_64 => ?_)
        have hFc := tw_free hF hS hA
        refine va_callv (va_runV (As := [.int x_64]) (rest := []) ⟨hx, hb, hml, hown, hts⟩ (c_rwrite l dC dI ad av H.size a k τ ln y g u x_64 hI (by omega) (by omega)) (cwV 1 hts (gi_4 (List.mem_cons_of_mem _ (List.mem_append_left _ (List.mem_of_getElem? (i := 7) rfl))) (List.mem_cons_of_mem _ (List.mem_append_left _ (List.mem_of_getElem? (i := 8) rfl))) (List.mem_cons_of_mem _ (List.mem_append_left _ (List.mem_of_getElem? (i := 9) rfl))) (List.mem_cons_of_mem _ (List.mem_append_left _ (List.mem_of_getElem? (i := 6) rfl))) (fun _ hh => (List.mem_cons_of_mem _ (List.mem_append_right _ (List.mem_append_right _ (List.mem_append_right _ (List.mem_append_left _ hh)))))) gd_c_rwrite) rfl rfl rfl (by decide +kernel) ⟨Nat.le_of_ble_eq_true rfl, Nat.le_of_ble_eq_true rfl⟩) ⟨pw_blind, tw_recv hK hT (fx_16 hX) (by decide) cl_e26 rfl, pw_use hT hK hFc hS hM⟩ rfl rfl hl.1 rfl (lv_room (Nat.le_of_ble_eq_true rfl)) dX8_beginsThing_34 ⟨Nat.le_of_ble_eq_true rfl, Nat.le_of_ble_eq_true rfl⟩) hS (fun q _ h => hFc q h) hFc (fun u0 t H locs ht hvm hw hB hz1 hk1 hS => ?_)
        refine W.widen (k := 0) (n := 0) (Nat.le_of_ble_eq_true rfl) (Nat.le_of_ble_eq_true rfl) ?_
        clear hvm hz1 hk1
        obtain ⟨y_66, hgy_66, hf_67, hf_68, hf_69, hT⟩ := hB
        rw [ht] at hT
        have hG := hG.tr hgy_66 (by decide)
        have hI := hI.ag hgy_66 (by decide)
        refine lv_aload_n hx hb dX8_beginsThing_37 rfl (lv_at hl 1 rfl) ?_
        refine lv_iload_n hx hb dX8_beginsThing_38 rfl (lv_at hl 0 rfl) ?_
        refine lv_if_lt (tgt := 46) hx hb dX8_beginsThing_39 (by decide) (fun c_70 => ?_) (fun c_70 => ?_)
        · have nc_70 := z_lt rfl (zk (x := 0) 0 rfl) c_70
          refine lv_iconst (v := 1) hx hb dX8_beginsThing_46 (by decide) ?_
          refine tw_put (D := (dC, dI)) (x := 1) (ty := .int) (C := RX8) (T := TX8) (N := 8) hx hb hts (fun _ hh => (List.mem_cons_of_mem _ (List.mem_append_right _ (List.mem_append_right _ (List.mem_append_right _ (List.mem_append_right _ (List.mem_append_left _ hh))))))) tyX8 tyX8_ok nmX8 hown hK hT hF hS (fx_16 hX) (by decide) cl_e26 rfl 6 (by decide) (hts (.fieldLink RX8 32 "TypingPool$Reader" "digits" "I") (List.mem_cons_of_mem _ (List.mem_append_left _ (List.mem_of_getElem? (i := 10) rfl)))) (fun _ h9 => h9) rfl (tyX8_ok 6 (by decide)) rfl rfl (Nat.le_of_ble_eq_true rfl) rfl dX8_beginsThing_47 (fun H locs hT hS => ?_)
          obtain ⟨y_71, hy_71, hT⟩ : ∃ z : Nat → Nat → Int32, z = up2 y_66 (a 16) 6 (1 : Int32) ∧ tw (dC, dI) a k τ ln z g H := ⟨_, rfl, hT⟩
          have hG : ag τ [26, 28, 29] y y_71 := by rw [hy_71]; exact hG.up (fx_16 hX) (by decide)
          have : (y_71 (a 16) 1).toInt = (y_66 (a 16) 1).toInt := by rw [hy_71, up2_e (by decide)]
          have : (y_71 (a 16) 3).toInt = (y_66 (a 16) 3).toInt := by rw [hy_71, up2_e (by decide)]
          have hI := hI.ag (S := [26]) (y' := y_71) (by rw [hy_71]; exact ag.one (fx_16 hX)) (by decide)
          refine lv_aload_n hx hb dX8_beginsThing_50 rfl (lv_at hl 1 rfl) ?_
          refine lv_iconst (v := 0) hx hb dX8_beginsThing_51 (by decide) ?_
          refine tw_put (D := (dC, dI)) (x := 0) (ty := .boolean) (C := RX8) (T := TX8) (N := 8) hx hb hts (fun _ hh => (List.mem_cons_of_mem _ (List.mem_append_right _ (List.mem_append_right _ (List.mem_append_right _ (List.mem_append_right _ (List.mem_append_left _ hh))))))) tyX8 tyX8_ok nmX8 hown hK hT hF hS (fx_16 hX) (by decide) cl_e26 rfl 7 (by decide) (hts (.fieldLink RX8 35 "TypingPool$Reader" "wantsThing" "Z") (List.mem_cons_of_mem _ (List.mem_append_left _ (List.mem_of_getElem? (i := 11) rfl)))) (fun _ h9 => h9) rfl (tyX8_ok 7 (by decide)) rfl rfl (Nat.le_of_ble_eq_true rfl) rfl dX8_beginsThing_52 (fun H locs hT hS => ?_)
          obtain ⟨y_72, hy_72, hT⟩ : ∃ z : Nat → Nat → Int32, z = up2 y_71 (a 16) 7 (0 : Int32) ∧ tw (dC, dI) a k τ ln z g H := ⟨_, rfl, hT⟩
          have hG : ag τ [26, 28, 29] y y_72 := by rw [hy_72]; exact hG.up (fx_16 hX) (by decide)
          have : (y_72 (a 16) 1).toInt = (y_71 (a 16) 1).toInt := by rw [hy_72, up2_e (by decide)]
          have : (y_72 (a 16) 3).toInt = (y_71 (a 16) 3).toInt := by rw [hy_72, up2_e (by decide)]
          have hI := hI.ag (S := [26]) (y' := y_72) (by rw [hy_72]; exact ag.one (fx_16 hX)) (by decide)
          refine lv_iconst (v := 1) hx hb dX8_beginsThing_55 (by decide) ?_
          have hrv : (1 : Int32).toInt = 1 := (zk (x := 1) 1 rfl)
          exact W.zret (v := 1) hx hb hr (by decide) (fun t ht hW9 => ⟨⟨1, 1, rfl, rfl, Or.inl ⟨y_72, rfl, hG, by omega, by omega, tw_at ht hT⟩⟩, hS.F ht⟩) hS.2.2 dX8_beginsThing_56
        · have nc_70 := z_nlt rfl (zk (x := 0) 0 rfl) c_70
          refine lv_iconst (v := 0) hx hb dX8_beginsThing_42 (by decide) ?_
          refine lv_goto (tgt := 47) hx hb dX8_beginsThing_43 (by decide) ?_
          refine tw_put (D := (dC, dI)) (x := 0) (ty := .int) (C := RX8) (T := TX8) (N := 8) hx hb hts (fun _ hh => (List.mem_cons_of_mem _ (List.mem_append_right _ (List.mem_append_right _ (List.mem_append_right _ (List.mem_append_right _ (List.mem_append_left _ hh))))))) tyX8 tyX8_ok nmX8 hown hK hT hF hS (fx_16 hX) (by decide) cl_e26 rfl 6 (by decide) (hts (.fieldLink RX8 32 "TypingPool$Reader" "digits" "I") (List.mem_cons_of_mem _ (List.mem_append_left _ (List.mem_of_getElem? (i := 10) rfl)))) (fun _ h9 => h9) rfl (tyX8_ok 6 (by decide)) rfl rfl (Nat.le_of_ble_eq_true rfl) rfl dX8_beginsThing_47 (fun H locs hT hS => ?_)
          obtain ⟨y_73, hy_73, hT⟩ : ∃ z : Nat → Nat → Int32, z = up2 y_66 (a 16) 6 (0 : Int32) ∧ tw (dC, dI) a k τ ln z g H := ⟨_, rfl, hT⟩
          have hG : ag τ [26, 28, 29] y y_73 := by rw [hy_73]; exact hG.up (fx_16 hX) (by decide)
          have : (y_73 (a 16) 1).toInt = (y_66 (a 16) 1).toInt := by rw [hy_73, up2_e (by decide)]
          have : (y_73 (a 16) 3).toInt = (y_66 (a 16) 3).toInt := by rw [hy_73, up2_e (by decide)]
          have hI := hI.ag (S := [26]) (y' := y_73) (by rw [hy_73]; exact ag.one (fx_16 hX)) (by decide)
          refine lv_aload_n hx hb dX8_beginsThing_50 rfl (lv_at hl 1 rfl) ?_
          refine lv_iconst (v := 0) hx hb dX8_beginsThing_51 (by decide) ?_
          refine tw_put (D := (dC, dI)) (x := 0) (ty := .boolean) (C := RX8) (T := TX8) (N := 8) hx hb hts (fun _ hh => (List.mem_cons_of_mem _ (List.mem_append_right _ (List.mem_append_right _ (List.mem_append_right _ (List.mem_append_right _ (List.mem_append_left _ hh))))))) tyX8 tyX8_ok nmX8 hown hK hT hF hS (fx_16 hX) (by decide) cl_e26 rfl 7 (by decide) (hts (.fieldLink RX8 35 "TypingPool$Reader" "wantsThing" "Z") (List.mem_cons_of_mem _ (List.mem_append_left _ (List.mem_of_getElem? (i := 11) rfl)))) (fun _ h9 => h9) rfl (tyX8_ok 7 (by decide)) rfl rfl (Nat.le_of_ble_eq_true rfl) rfl dX8_beginsThing_52 (fun H locs hT hS => ?_)
          obtain ⟨y_74, hy_74, hT⟩ : ∃ z : Nat → Nat → Int32, z = up2 y_73 (a 16) 7 (0 : Int32) ∧ tw (dC, dI) a k τ ln z g H := ⟨_, rfl, hT⟩
          have hG : ag τ [26, 28, 29] y y_74 := by rw [hy_74]; exact hG.up (fx_16 hX) (by decide)
          have : (y_74 (a 16) 1).toInt = (y_73 (a 16) 1).toInt := by rw [hy_74, up2_e (by decide)]
          have : (y_74 (a 16) 3).toInt = (y_73 (a 16) 3).toInt := by rw [hy_74, up2_e (by decide)]
          have hI := hI.ag (S := [26]) (y' := y_74) (by rw [hy_74]; exact ag.one (fx_16 hX)) (by decide)
          refine lv_iconst (v := 1) hx hb dX8_beginsThing_55 (by decide) ?_
          have hrv : (1 : Int32).toInt = 1 := (zk (x := 1) 1 rfl)
          exact W.zret (v := 1) hx hb hr (by decide) (fun t ht hW9 => ⟨⟨1, 1, rfl, rfl, Or.inl ⟨y_74, rfl, hG, by omega, by omega, tw_at ht hT⟩⟩, hS.F ht⟩) hS.2.2 dX8_beginsThing_56
      · have nc_63 := z_nlt rfl (zk (x := 0) 0 rfl) c_63
        refine lv_sipush (v := 10000) hx hb dX8_beginsThing_22 (by decide) ?_
        refine lv_iload_n hx hb dX8_beginsThing_25 rfl (lv_at hl 0 rfl) ?_
        refine lv_iadd hx hb dX8_beginsThing_26 ?_
        refine lv_topi (fun x_75 ex_75 => ?_)
        refine lv_goto (tgt := 34) hx hb dX8_beginsThing_27 (by decide) ?_
        have hFc := tw_free hF hS hA
        refine va_callv (va_runV (As := [.int x_75]) (rest := []) ⟨hx, hb, hml, hown, hts⟩ (c_rwrite l dC dI ad av H.size a k τ ln y g u x_75 hI (by omega) (by omega)) (cwV 1 hts (gi_4 (List.mem_cons_of_mem _ (List.mem_append_left _ (List.mem_of_getElem? (i := 7) rfl))) (List.mem_cons_of_mem _ (List.mem_append_left _ (List.mem_of_getElem? (i := 8) rfl))) (List.mem_cons_of_mem _ (List.mem_append_left _ (List.mem_of_getElem? (i := 9) rfl))) (List.mem_cons_of_mem _ (List.mem_append_left _ (List.mem_of_getElem? (i := 6) rfl))) (fun _ hh => (List.mem_cons_of_mem _ (List.mem_append_right _ (List.mem_append_right _ (List.mem_append_right _ (List.mem_append_left _ hh)))))) gd_c_rwrite) rfl rfl rfl (by decide +kernel) ⟨Nat.le_of_ble_eq_true rfl, Nat.le_of_ble_eq_true rfl⟩) ⟨pw_blind, tw_recv hK hT (fx_16 hX) (by decide) cl_e26 rfl, pw_use hT hK hFc hS hM⟩ rfl rfl hl.1 rfl (lv_room (Nat.le_of_ble_eq_true rfl)) dX8_beginsThing_34 ⟨Nat.le_of_ble_eq_true rfl, Nat.le_of_ble_eq_true rfl⟩) hS (fun q _ h => hFc q h) hFc (fun u0 t H locs ht hvm hw hB hz1 hk1 hS => ?_)
        refine W.widen (k := 0) (n := 0) (Nat.le_of_ble_eq_true rfl) (Nat.le_of_ble_eq_true rfl) ?_
        clear hvm hz1 hk1
        obtain ⟨y_77, hgy_77, hf_78, hf_79, hf_80, hT⟩ := hB
        rw [ht] at hT
        have hG := hG.tr hgy_77 (by decide)
        have hI := hI.ag hgy_77 (by decide)
        refine lv_aload_n hx hb dX8_beginsThing_37 rfl (lv_at hl 1 rfl) ?_
        refine lv_iload_n hx hb dX8_beginsThing_38 rfl (lv_at hl 0 rfl) ?_
        refine lv_if_lt (tgt := 46) hx hb dX8_beginsThing_39 (by decide) (fun c_81 => ?_) (fun c_81 => ?_)
        · have nc_81 := z_lt rfl (zk (x := 0) 0 rfl) c_81
          refine lv_iconst (v := 1) hx hb dX8_beginsThing_46 (by decide) ?_
          refine tw_put (D := (dC, dI)) (x := 1) (ty := .int) (C := RX8) (T := TX8) (N := 8) hx hb hts (fun _ hh => (List.mem_cons_of_mem _ (List.mem_append_right _ (List.mem_append_right _ (List.mem_append_right _ (List.mem_append_right _ (List.mem_append_left _ hh))))))) tyX8 tyX8_ok nmX8 hown hK hT hF hS (fx_16 hX) (by decide) cl_e26 rfl 6 (by decide) (hts (.fieldLink RX8 32 "TypingPool$Reader" "digits" "I") (List.mem_cons_of_mem _ (List.mem_append_left _ (List.mem_of_getElem? (i := 10) rfl)))) (fun _ h9 => h9) rfl (tyX8_ok 6 (by decide)) rfl rfl (Nat.le_of_ble_eq_true rfl) rfl dX8_beginsThing_47 (fun H locs hT hS => ?_)
          obtain ⟨y_82, hy_82, hT⟩ : ∃ z : Nat → Nat → Int32, z = up2 y_77 (a 16) 6 (1 : Int32) ∧ tw (dC, dI) a k τ ln z g H := ⟨_, rfl, hT⟩
          have hG : ag τ [26, 28, 29] y y_82 := by rw [hy_82]; exact hG.up (fx_16 hX) (by decide)
          have : (y_82 (a 16) 1).toInt = (y_77 (a 16) 1).toInt := by rw [hy_82, up2_e (by decide)]
          have : (y_82 (a 16) 3).toInt = (y_77 (a 16) 3).toInt := by rw [hy_82, up2_e (by decide)]
          have hI := hI.ag (S := [26]) (y' := y_82) (by rw [hy_82]; exact ag.one (fx_16 hX)) (by decide)
          refine lv_aload_n hx hb dX8_beginsThing_50 rfl (lv_at hl 1 rfl) ?_
          refine lv_iconst (v := 0) hx hb dX8_beginsThing_51 (by decide) ?_
          refine tw_put (D := (dC, dI)) (x := 0) (ty := .boolean) (C := RX8) (T := TX8) (N := 8) hx hb hts (fun _ hh => (List.mem_cons_of_mem _ (List.mem_append_right _ (List.mem_append_right _ (List.mem_append_right _ (List.mem_append_right _ (List.mem_append_left _ hh))))))) tyX8 tyX8_ok nmX8 hown hK hT hF hS (fx_16 hX) (by decide) cl_e26 rfl 7 (by decide) (hts (.fieldLink RX8 35 "TypingPool$Reader" "wantsThing" "Z") (List.mem_cons_of_mem _ (List.mem_append_left _ (List.mem_of_getElem? (i := 11) rfl)))) (fun _ h9 => h9) rfl (tyX8_ok 7 (by decide)) rfl rfl (Nat.le_of_ble_eq_true rfl) rfl dX8_beginsThing_52 (fun H locs hT hS => ?_)
          obtain ⟨y_83, hy_83, hT⟩ : ∃ z : Nat → Nat → Int32, z = up2 y_82 (a 16) 7 (0 : Int32) ∧ tw (dC, dI) a k τ ln z g H := ⟨_, rfl, hT⟩
          have hG : ag τ [26, 28, 29] y y_83 := by rw [hy_83]; exact hG.up (fx_16 hX) (by decide)
          have : (y_83 (a 16) 1).toInt = (y_82 (a 16) 1).toInt := by rw [hy_83, up2_e (by decide)]
          have : (y_83 (a 16) 3).toInt = (y_82 (a 16) 3).toInt := by rw [hy_83, up2_e (by decide)]
          have hI := hI.ag (S := [26]) (y' := y_83) (by rw [hy_83]; exact ag.one (fx_16 hX)) (by decide)
          refine lv_iconst (v := 1) hx hb dX8_beginsThing_55 (by decide) ?_
          have hrv : (1 : Int32).toInt = 1 := (zk (x := 1) 1 rfl)
          exact W.zret (v := 1) hx hb hr (by decide) (fun t ht hW9 => ⟨⟨1, 1, rfl, rfl, Or.inl ⟨y_83, rfl, hG, by omega, by omega, tw_at ht hT⟩⟩, hS.F ht⟩) hS.2.2 dX8_beginsThing_56
        · have nc_81 := z_nlt rfl (zk (x := 0) 0 rfl) c_81
          refine lv_iconst (v := 0) hx hb dX8_beginsThing_42 (by decide) ?_
          refine lv_goto (tgt := 47) hx hb dX8_beginsThing_43 (by decide) ?_
          refine tw_put (D := (dC, dI)) (x := 0) (ty := .int) (C := RX8) (T := TX8) (N := 8) hx hb hts (fun _ hh => (List.mem_cons_of_mem _ (List.mem_append_right _ (List.mem_append_right _ (List.mem_append_right _ (List.mem_append_right _ (List.mem_append_left _ hh))))))) tyX8 tyX8_ok nmX8 hown hK hT hF hS (fx_16 hX) (by decide) cl_e26 rfl 6 (by decide) (hts (.fieldLink RX8 32 "TypingPool$Reader" "digits" "I") (List.mem_cons_of_mem _ (List.mem_append_left _ (List.mem_of_getElem? (i := 10) rfl)))) (fun _ h9 => h9) rfl (tyX8_ok 6 (by decide)) rfl rfl (Nat.le_of_ble_eq_true rfl) rfl dX8_beginsThing_47 (fun H locs hT hS => ?_)
          obtain ⟨y_84, hy_84, hT⟩ : ∃ z : Nat → Nat → Int32, z = up2 y_77 (a 16) 6 (0 : Int32) ∧ tw (dC, dI) a k τ ln z g H := ⟨_, rfl, hT⟩
          have hG : ag τ [26, 28, 29] y y_84 := by rw [hy_84]; exact hG.up (fx_16 hX) (by decide)
          have : (y_84 (a 16) 1).toInt = (y_77 (a 16) 1).toInt := by rw [hy_84, up2_e (by decide)]
          have : (y_84 (a 16) 3).toInt = (y_77 (a 16) 3).toInt := by rw [hy_84, up2_e (by decide)]
          have hI := hI.ag (S := [26]) (y' := y_84) (by rw [hy_84]; exact ag.one (fx_16 hX)) (by decide)
          refine lv_aload_n hx hb dX8_beginsThing_50 rfl (lv_at hl 1 rfl) ?_
          refine lv_iconst (v := 0) hx hb dX8_beginsThing_51 (by decide) ?_
          refine tw_put (D := (dC, dI)) (x := 0) (ty := .boolean) (C := RX8) (T := TX8) (N := 8) hx hb hts (fun _ hh => (List.mem_cons_of_mem _ (List.mem_append_right _ (List.mem_append_right _ (List.mem_append_right _ (List.mem_append_right _ (List.mem_append_left _ hh))))))) tyX8 tyX8_ok nmX8 hown hK hT hF hS (fx_16 hX) (by decide) cl_e26 rfl 7 (by decide) (hts (.fieldLink RX8 35 "TypingPool$Reader" "wantsThing" "Z") (List.mem_cons_of_mem _ (List.mem_append_left _ (List.mem_of_getElem? (i := 11) rfl)))) (fun _ h9 => h9) rfl (tyX8_ok 7 (by decide)) rfl rfl (Nat.le_of_ble_eq_true rfl) rfl dX8_beginsThing_52 (fun H locs hT hS => ?_)
          obtain ⟨y_85, hy_85, hT⟩ : ∃ z : Nat → Nat → Int32, z = up2 y_84 (a 16) 7 (0 : Int32) ∧ tw (dC, dI) a k τ ln z g H := ⟨_, rfl, hT⟩
          have hG : ag τ [26, 28, 29] y y_85 := by rw [hy_85]; exact hG.up (fx_16 hX) (by decide)
          have : (y_85 (a 16) 1).toInt = (y_84 (a 16) 1).toInt := by rw [hy_85, up2_e (by decide)]
          have : (y_85 (a 16) 3).toInt = (y_84 (a 16) 3).toInt := by rw [hy_85, up2_e (by decide)]
          have hI := hI.ag (S := [26]) (y' := y_85) (by rw [hy_85]; exact ag.one (fx_16 hX)) (by decide)
          refine lv_iconst (v := 1) hx hb dX8_beginsThing_55 (by decide) ?_
          have hrv : (1 : Int32).toInt = 1 := (zk (x := 1) 1 rfl)
          exact W.zret (v := 1) hx hb hr (by decide) (fun t ht hW9 => ⟨⟨1, 1, rfl, rfl, Or.inl ⟨y_85, rfl, hG, by omega, by omega, tw_at ht hT⟩⟩, hS.F ht⟩) hS.2.2 dX8_beginsThing_56
def wo_c_rfollowsThing : List Cond := [.methodLink RX8 69 yX8_isDigit, .static yX8_isDigit, .initialized RX8, .methodLink RX8 79 yX8_goesOnNumber, .instanceMethod yX8_goesOnNumber, .selects RX8 yX8_goesOnNumber yX8_goesOnNumber, .fieldLink RX8 32 "TypingPool$Reader" "digits" "I", .methodLink RX8 86 yX8_binding, .static yX8_binding, .methodLink RX8 53 yX8_close, .instanceMethod yX8_close, .selects RX8 yX8_close yX8_close, .methodLink RX8 75 yX8_keepOpen, .instanceMethod yX8_keepOpen, .selects RX8 yX8_keepOpen yX8_keepOpen, .fieldLink RX8 35 "TypingPool$Reader" "wantsThing" "Z", .fieldLink RX8 29 "TypingPool$Reader" "compared" "I", .fieldLink RX8 26 "TypingPool$Reader" "depth" "I", .methodLink RX8 82 yX8_closesBracket, .instanceMethod yX8_closesBracket, .selects RX8 yX8_closesBracket yX8_closesBracket]
def wm_c_rfollowsThing : List Cond := .code yX8_followsThing cX8_followsThing 3 (some .boolean) :: (wo_c_rfollowsThing ++ (wm_c_risDigit ++ (wm_c_rgoesOnNumber ++ (wsX80 ++ (wm_c_rbinding ++ (wm_c_rclose ++ (wm_c_rkeepOpen ++ (wm_c_rclosesBracket ++ ([] : List Cond)))))))))
theorem gd_c_rfollowsThing : ∀ w ∈ wm_c_rfollowsThing, goodWord w = true := gd_c rfl (gd_a (by decide) (gd_a gd_c_risDigit (gd_a gd_c_rgoesOnNumber (gd_a gd_wsX80 (gd_a gd_c_rbinding (gd_a gd_c_rclose (gd_a gd_c_rkeepOpen (gd_a gd_c_rclosesBracket gd_nil))))))))
set_option maxRecDepth 20000 in
theorem im_c_rfollowsThing : ∀ w ∈ wm_c_rfollowsThing, w ∈ lw_tbl := im_c (in_r [.code yX8_followsThing cX8_followsThing 3 (some .boolean)] [344] (by decide +kernel)) (in_app (in_r wo_c_rfollowsThing [330, 331, 73, 345, 347, 4, 176, 357, 358, 353, 355, 6, 337, 339, 2, 177, 175, 174, 349, 351, 5] (by decide +kernel)) (in_app im_c_risDigit (in_app im_c_rgoesOnNumber (in_app im_wsX80 (in_app im_c_rbinding (in_app im_c_rclose (in_app im_c_rkeepOpen (in_app im_c_rclosesBracket im_nil))))))))
set_option maxHeartbeats 4000000 in
set_option maxRecDepth 100000 in
theorem c_rfollowsThing (l : Launch) (dC : Nat → ClassId) (dI : Nat → Nat → Nat) (ad av : Nat → Nat) (sz : Nat) (a : Nat → Nat) (k : Nat → ClassId) (τ ln : Nat → Nat) (y : Nat → Nat → Int32) (g : Nat → Nat → Option Nat) (u : Nat → Int) (p0 : Int32) (hI : IC a u τ ln y g) (hq1 : 0 ≤ (y (a 16) 1).toInt ∧ (y (a 16) 1).toInt ≤ 60) (hq3 : 0 ≤ (y (a 16) 3).toInt ∧ (y (a 16) 3).toInt ≤ 60) : Met l yX8_followsThing wm_c_rfollowsThing ({ frames := 3, cells := 0, slots := 0, locals := 180 }) (pw_ ad av (dC, dI) sz [.ref (a 16), .int p0] a k τ ln y g) (va_Qi (fun (r u : Int32) => u = r) (fun (r : Int32) (t : State) => (∃ (y' : Nat → Nat → Int32), r = 1 ∧ ag τ [26, 28, 29] y y' ∧ (0 ≤ (y' (a 16) 1).toInt ∧ (y' (a 16) 1).toInt ≤ 60) ∧ (0 ≤ (y' (a 16) 3).toInt ∧ (y' (a 16) 3).toInt ≤ 60) ∧ tw (dC, dI) a k τ ln y' g t.heap) ∨ (∃ (y' : Nat → Nat → Int32), r = 0 ∧ ag τ [26, 28, 29] y y' ∧ (0 ≤ (y' (a 16) 1).toInt ∧ (y' (a 16) 1).toInt ≤ 60) ∧ (0 ≤ (y' (a 16) 3).toInt ∧ (y' (a 16) 3).toInt ≤ 60) ∧ tw (dC, dI) a k τ ln y' g t.heap)) (fr τ sz)) 0 0 (fr τ sz) := by
  refine Met.ofW (cc := cX8_followsThing) (maxL := 3) (ret := (some .boolean)) (by decide) rfl ?_
  intro p e s m args below meth c s₁ B hml hv
  obtain ⟨rfl, hsz, hT, hK, hM⟩ := hv
  have hx := B.exec
  have hb := B.bytes
  have hr := B.returns
  have hts := atoms_spec (ws := wm_c_rfollowsThing) B.pre
  have hown : s.vm.findClass RX8 = some m.cls := findClass_of_methodNamed B.named
  have hlocks := B.notSynchronized
  subst hsz
  generalize hAe : fr τ s.heap.size = A at hM ⊢
  have hA : ∀ q : Nat, s.heap.size ≤ q → A q := fun q h => by rw [← hAe]; exact Or.inr h
  have hF : ∀ q, τ q ≠ 0 → A q := fun q h => by rw [← hAe]; exact Or.inl h
  have hS : va_S A s.heap s.heap [] := va_S.rf
  have hX := hI.1
  have hR := ic_r hI
  have hG : ag τ [26, 28, 29] y y := ag.rf
  have hl := lv_entry ([.ref (a 16), .int p0]) (n := 3) (Nat.le_of_ble_eq_true rfl)
  rw [lg_entry_eq]
  generalize (lg_sl ([.ref (a 16), .int p0]) ++ List.replicate (3 - (lg_sl ([.ref (a 16), .int p0])).length) Slot.unset).toArray = ls at hl ⊢
  have hl : lv_has ls 3 [(0, .ref (a 16)), (1, .int p0)] := hl
  refine lv_iload_n hx hb dX8_followsThing_0 rfl (lv_at hl 1 rfl) ?_
  have hFc := tw_free hF hS hA
  refine va_calli (va_runS (As := [.int p0]) (rest := []) ⟨hx, hb, hml, hown, hts⟩ (c_risDigit l dC dI ad av s.heap.size a k τ ln y g u p0  ) (va_cwS 1 hts (gi_3 (List.mem_cons_of_mem _ (List.mem_append_left _ (List.mem_of_getElem? (i := 0) rfl))) (List.mem_cons_of_mem _ (List.mem_append_left _ (List.mem_of_getElem? (i := 1) rfl))) (List.mem_cons_of_mem _ (List.mem_append_left _ (List.mem_of_getElem? (i := 2) rfl))) (fun _ hh => (List.mem_cons_of_mem _ (List.mem_append_right _ (List.mem_append_left _ hh)))) gd_c_risDigit) rfl rfl rfl (by decide +kernel) ⟨Nat.le_of_ble_eq_true rfl, Nat.le_of_ble_eq_true rfl⟩) ⟨pw_blind, pw_use hT hK hFc hS hM⟩ rfl rfl hl.1 rfl (lv_room (Nat.le_of_ble_eq_true rfl)) dX8_followsThing_1 ⟨Nat.le_of_ble_eq_true rfl, Nat.le_of_ble_eq_true rfl⟩) hS (fun q _ h => hFc q h) hFc (fun r0 r_1 t H locs ht hvm hw hB hz1 hk1 hS => ?_)
  refine W.widen (k := 0) (n := 0) (Nat.le_of_ble_eq_true rfl) (Nat.le_of_ble_eq_true rfl) ?_
  clear hvm hz1 hk1
  subst hw
  rcases hB with ⟨hre, hT⟩ | ⟨hre, hT⟩
  · refine lq_top (v := 1) hre ?_
    rw [ht] at hT
    refine lv_if_eq (tgt := 13) hx hb dX8_followsThing_4 (by decide) (fun c_2 => absurd c_2 (by decide)) (fun c_2 => ?_)
    refine lv_aload_n hx hb dX8_followsThing_7 rfl (lv_at hl 0 rfl) ?_
    refine lv_iload_n hx hb dX8_followsThing_8 rfl (lv_at hl 1 rfl) ?_
    have hFc := tw_free hF hS hA
    refine va_calli (va_runV (As := [.int p0]) (rest := []) ⟨hx, hb, hml, hown, hts⟩ (c_rgoesOnNumber l dC dI ad av H.size a k τ ln y g u p0 hI (by omega) (by omega)) (cwV 1 hts (gi_4 (List.mem_cons_of_mem _ (List.mem_append_left _ (List.mem_of_getElem? (i := 3) rfl))) (List.mem_cons_of_mem _ (List.mem_append_left _ (List.mem_of_getElem? (i := 4) rfl))) (List.mem_cons_of_mem _ (List.mem_append_left _ (List.mem_of_getElem? (i := 5) rfl))) (List.mem_cons_of_mem _ (List.mem_append_left _ (List.mem_of_getElem? (i := 2) rfl))) (fun _ hh => (List.mem_cons_of_mem _ (List.mem_append_right _ (List.mem_append_right _ (List.mem_append_left _ hh))))) gd_c_rgoesOnNumber) rfl rfl rfl (by decide +kernel) ⟨Nat.le_of_ble_eq_true rfl, Nat.le_of_ble_eq_true rfl⟩) ⟨pw_blind, tw_recv hK hT (fx_16 hX) (by decide) cl_e26 rfl, pw_use hT hK hFc hS hM⟩ rfl rfl hl.1 rfl (lv_room (Nat.le_of_ble_eq_true rfl)) dX8_followsThing_9 ⟨Nat.le_of_ble_eq_true rfl, Nat.le_of_ble_eq_true rfl⟩) hS (fun q _ h => hFc q h) hFc (fun r0 r_3 t H locs ht hvm hw hB hz1 hk1 hS => ?_)
    refine W.widen (k := 0) (n := 0) (Nat.le_of_ble_eq_true rfl) (Nat.le_of_ble_eq_true rfl) ?_
    clear hvm hz1 hk1
    subst hw
    rcases hB with ⟨y_4, hre, hgy_4, hf_5, hf_6, hT⟩ | ⟨y_7, hre, hgy_7, hf_8, hf_9, hT⟩
    · refine lq_top (v := 1) hre ?_
      rw [ht] at hT
      have hG := hG.tr hgy_4 (by decide)
      have hI := hI.ag hgy_4 (by decide)
      have hrv : (1 : Int32).toInt = 1 := (zk (x := 1) 1 rfl)
      exact W.zret (v := 1) hx hb hr (by decide) (fun t ht hW9 => ⟨⟨1, 1, rfl, rfl, Or.inl ⟨y_4, rfl, hG, by omega, by omega, tw_at ht hT⟩⟩, hS.F ht⟩) hS.2.2 dX8_followsThing_12
    · refine lq_top (v := 0) hre ?_
      rw [ht] at hT
      have hG := hG.tr hgy_7 (by decide)
      have hI := hI.ag hgy_7 (by decide)
      have hrv : (0 : Int32).toInt = 0 := (zk (x := 0) 0 rfl)
      exact W.zret (v := 0) hx hb hr (by decide) (fun t ht hW9 => ⟨⟨0, 0, rfl, rfl, Or.inr (⟨y_7, rfl, hG, by omega, by omega, tw_at ht hT⟩)⟩, hS.F ht⟩) hS.2.2 dX8_followsThing_12
  · refine lq_top (v := 0) hre ?_
    rw [ht] at hT
    refine lv_if_eq (tgt := 13) hx hb dX8_followsThing_4 (by decide) (fun c_10 => ?_) (fun c_10 => absurd c_10 (by decide))
    refine lv_aload_n hx hb dX8_followsThing_13 rfl (lv_at hl 0 rfl) ?_
    refine lv_iconst (v := 0) hx hb dX8_followsThing_14 (by decide) ?_
    refine tw_put (D := (dC, dI)) (x := 0) (ty := .int) (C := RX8) (T := TX8) (N := 8) hx hb hts (fun _ hh => (List.mem_cons_of_mem _ (List.mem_append_right _ (List.mem_append_right _ (List.mem_append_right _ (List.mem_append_left _ hh)))))) tyX8 tyX8_ok nmX8 hown hK hT hF hS (fx_16 hX) (by decide) cl_e26 rfl 6 (by decide) (hts (.fieldLink RX8 32 "TypingPool$Reader" "digits" "I") (List.mem_cons_of_mem _ (List.mem_append_left _ (List.mem_of_getElem? (i := 6) rfl)))) (fun _ h9 => h9) rfl (tyX8_ok 6 (by decide)) rfl rfl (Nat.le_of_ble_eq_true rfl) rfl dX8_followsThing_15 (fun H locs hT hS => ?_)
    obtain ⟨y_11, hy_11, hT⟩ : ∃ z : Nat → Nat → Int32, z = up2 y (a 16) 6 (0 : Int32) ∧ tw (dC, dI) a k τ ln z g H := ⟨_, rfl, hT⟩
    have hG : ag τ [26, 28, 29] y y_11 := by rw [hy_11]; exact hG.up (fx_16 hX) (by decide)
    have : (y_11 (a 16) 1).toInt = (y (a 16) 1).toInt := by rw [hy_11, up2_e (by decide)]
    have : (y_11 (a 16) 3).toInt = (y (a 16) 3).toInt := by rw [hy_11, up2_e (by decide)]
    have hI := hI.ag (S := [26]) (y' := y_11) (by rw [hy_11]; exact ag.one (fx_16 hX)) (by decide)
    refine lv_iload_n hx hb dX8_followsThing_18 rfl (lv_at hl 1 rfl) ?_
    refine lv_bipush (v := 41) hx hb dX8_followsThing_19 (by decide) ?_
    refine lv_icmp_ne (tgt := 29) hx hb dX8_followsThing_21 (by decide) (fun c_12 => ?_) (fun c_12 => ?_)
    · have nc_12 := z_ne rfl (zk (x := 41) 41 rfl) c_12
      refine lv_iload_n hx hb dX8_followsThing_29 rfl (lv_at hl 1 rfl) ?_
      have hFc := tw_free hF hS hA
      refine va_calli (va_runS (As := [.int p0]) (rest := []) ⟨hx, hb, hml, hown, hts⟩ (c_rbinding l dC dI ad av H.size a k τ ln y_11 g u p0  ) (va_cwS 1 hts (gi_3 (List.mem_cons_of_mem _ (List.mem_append_left _ (List.mem_of_getElem? (i := 7) rfl))) (List.mem_cons_of_mem _ (List.mem_append_left _ (List.mem_of_getElem? (i := 8) rfl))) (List.mem_cons_of_mem _ (List.mem_append_left _ (List.mem_of_getElem? (i := 2) rfl))) (fun _ hh => (List.mem_cons_of_mem _ (List.mem_append_right _ (List.mem_append_right _ (List.mem_append_right _ (List.mem_append_right _ (List.mem_append_left _ hh))))))) gd_c_rbinding) rfl rfl rfl (by decide +kernel) ⟨Nat.le_of_ble_eq_true rfl, Nat.le_of_ble_eq_true rfl⟩) ⟨pw_blind, pw_use hT hK hFc hS hM⟩ rfl rfl hl.1 rfl (lv_room (Nat.le_of_ble_eq_true rfl)) dX8_followsThing_30 ⟨Nat.le_of_ble_eq_true rfl, Nat.le_of_ble_eq_true rfl⟩) hS (fun q _ h => hFc q h) hFc (fun r0 r_13 t H locs ht hvm hw hB hz1 hk1 hS => ?_)
      refine W.widen (k := 0) (n := 0) (Nat.le_of_ble_eq_true rfl) (Nat.le_of_ble_eq_true rfl) ?_
      clear hvm hz1 hk1
      subst hw
      have hT := hB
      rw [ht] at hT
      refine lv_istore_n (lv' := [(2, .int r_13), (0, .ref (a 16)), (1, .int p0)]) hx hb dX8_followsThing_33 rfl hl (by decide) rfl (fun ls hl => ?_)
      refine lv_iload_n hx hb dX8_followsThing_34 rfl (lv_at hl 0 rfl) ?_
      refine lv_if_eq (tgt := 44) hx hb dX8_followsThing_35 (by decide) (fun c_14 => ?_) (fun c_14 => ?_)
      · have nc_14 := z_eq rfl (zk (x := 0) 0 rfl) c_14
        refine lv_iconst (v := 0) hx hb dX8_followsThing_44 (by decide) ?_
        have hrv : (0 : Int32).toInt = 0 := (zk (x := 0) 0 rfl)
        exact W.zret (v := 0) hx hb hr (by decide) (fun t ht hW9 => ⟨⟨0, 0, rfl, rfl, Or.inr (⟨y_11, rfl, hG, by omega, by omega, tw_at ht hT⟩)⟩, hS.F ht⟩) hS.2.2 dX8_followsThing_45
      · have nc_14 := z_ne rfl (zk (x := 0) 0 rfl) c_14
        refine lv_iload_n hx hb dX8_followsThing_38 rfl (lv_at hl 0 rfl) ?_
        refine lv_bipush (v := 6) hx hb dX8_followsThing_39 (by decide) ?_
        refine lv_icmp_ne (tgt := 46) hx hb dX8_followsThing_41 (by decide) (fun c_15 => ?_) (fun c_15 => ?_)
        · have nc_15 := z_ne rfl (zk (x := 6) 6 rfl) c_15
          refine lv_iload_n hx hb dX8_followsThing_46 rfl (lv_at hl 0 rfl) ?_
          refine lv_iconst (v := 3) hx hb dX8_followsThing_47 (by decide) ?_
          refine lv_icmp_ne (tgt := 86) hx hb dX8_followsThing_48 (by decide) (fun c_16 => ?_) (fun c_16 => ?_)
          · have nc_16 := z_ne rfl (zk (x := 3) 3 rfl) c_16
            refine lv_iload_n hx hb dX8_followsThing_86 rfl (lv_at hl 0 rfl) ?_
            refine lv_iconst (v := 3) hx hb dX8_followsThing_87 (by decide) ?_
            refine lv_icmp_ge (tgt := 108) hx hb dX8_followsThing_88 (by decide) (fun c_17 => ?_) (fun c_17 => ?_)
            · have nc_17 := z_le (zk (x := 3) 3 rfl) rfl c_17
              refine lv_aload_n hx hb dX8_followsThing_108 rfl (lv_at hl 1 rfl) ?_
              refine lv_iload_n hx hb dX8_followsThing_109 rfl (lv_at hl 0 rfl) ?_
              have hFc := tw_free hF hS hA
              refine va_callv (va_runV (As := [.int r_13]) (rest := []) ⟨hx, hb, hml, hown, hts⟩ (c_rclose l dC dI ad av H.size a k τ ln y_11 g u r_13 hI (by omega) (by omega)) (cwV 1 hts (gi_4 (List.mem_cons_of_mem _ (List.mem_append_left _ (List.mem_of_getElem? (i := 9) rfl))) (List.mem_cons_of_mem _ (List.mem_append_left _ (List.mem_of_getElem? (i := 10) rfl))) (List.mem_cons_of_mem _ (List.mem_append_left _ (List.mem_of_getElem? (i := 11) rfl))) (List.mem_cons_of_mem _ (List.mem_append_left _ (List.mem_of_getElem? (i := 2) rfl))) (fun _ hh => (List.mem_cons_of_mem _ (List.mem_append_right _ (List.mem_append_right _ (List.mem_append_right _ (List.mem_append_right _ (List.mem_append_right _ (List.mem_append_left _ hh)))))))) gd_c_rclose) rfl rfl rfl (by decide +kernel) ⟨Nat.le_of_ble_eq_true rfl, Nat.le_of_ble_eq_true rfl⟩) ⟨pw_blind, tw_recv hK hT (fx_16 hX) (by decide) cl_e26 rfl, pw_use hT hK hFc hS hM⟩ rfl rfl hl.1 rfl (lv_room (Nat.le_of_ble_eq_true rfl)) dX8_followsThing_110 ⟨Nat.le_of_ble_eq_true rfl, Nat.le_of_ble_eq_true rfl⟩) hS (fun q _ h => hFc q h) hFc (fun u0 t H locs ht hvm hw hB hz1 hk1 hS => ?_)
              refine W.widen (k := 0) (n := 0) (Nat.le_of_ble_eq_true rfl) (Nat.le_of_ble_eq_true rfl) ?_
              clear hvm hz1 hk1
              obtain ⟨y_19, hgy_19, hf_20, hf_21, hT⟩ := hB
              rw [ht] at hT
              have hG := hG.tr hgy_19 (by decide)
              have hI := hI.ag hgy_19 (by decide)
              refine lv_aload_n hx hb dX8_followsThing_113 rfl (lv_at hl 1 rfl) ?_
              refine lv_iload_n hx hb dX8_followsThing_114 rfl (lv_at hl 2 rfl) ?_
              have hFc := tw_free hF hS hA
              refine va_callv (va_runV (As := [.int p0]) (rest := []) ⟨hx, hb, hml, hown, hts⟩ (c_rkeepOpen l dC dI ad av H.size a k τ ln y_19 g u p0 hI (by omega) (by omega)) (cwV 1 hts (gi_4 (List.mem_cons_of_mem _ (List.mem_append_left _ (List.mem_of_getElem? (i := 12) rfl))) (List.mem_cons_of_mem _ (List.mem_append_left _ (List.mem_of_getElem? (i := 13) rfl))) (List.mem_cons_of_mem _ (List.mem_append_left _ (List.mem_of_getElem? (i := 14) rfl))) (List.mem_cons_of_mem _ (List.mem_append_left _ (List.mem_of_getElem? (i := 2) rfl))) (fun _ hh => (List.mem_cons_of_mem _ (List.mem_append_right _ (List.mem_append_right _ (List.mem_append_right _ (List.mem_append_right _ (List.mem_append_right _ (List.mem_append_right _ (List.mem_append_left _ hh))))))))) gd_c_rkeepOpen) rfl rfl rfl (by decide +kernel) ⟨Nat.le_of_ble_eq_true rfl, Nat.le_of_ble_eq_true rfl⟩) ⟨pw_blind, tw_recv hK hT (fx_16 hX) (by decide) cl_e26 rfl, pw_use hT hK hFc hS hM⟩ rfl rfl hl.1 rfl (lv_room (Nat.le_of_ble_eq_true rfl)) dX8_followsThing_115 ⟨Nat.le_of_ble_eq_true rfl, Nat.le_of_ble_eq_true rfl⟩) hS (fun q _ h => hFc q h) hFc (fun u0 t H locs ht hvm hw hB hz1 hk1 hS => ?_)
              refine W.widen (k := 0) (n := 0) (Nat.le_of_ble_eq_true rfl) (Nat.le_of_ble_eq_true rfl) ?_
              clear hvm hz1 hk1
              obtain ⟨y_23, hgy_23, hf_24, hf_25, hT⟩ := hB
              rw [ht] at hT
              have hG := hG.tr hgy_23 (by decide)
              have hI := hI.ag hgy_23 (by decide)
              refine lv_aload_n hx hb dX8_followsThing_118 rfl (lv_at hl 1 rfl) ?_
              refine lv_iconst (v := 1) hx hb dX8_followsThing_119 (by decide) ?_
              refine tw_put (D := (dC, dI)) (x := 1) (ty := .boolean) (C := RX8) (T := TX8) (N := 8) hx hb hts (fun _ hh => (List.mem_cons_of_mem _ (List.mem_append_right _ (List.mem_append_right _ (List.mem_append_right _ (List.mem_append_left _ hh)))))) tyX8 tyX8_ok nmX8 hown hK hT hF hS (fx_16 hX) (by decide) cl_e26 rfl 7 (by decide) (hts (.fieldLink RX8 35 "TypingPool$Reader" "wantsThing" "Z") (List.mem_cons_of_mem _ (List.mem_append_left _ (List.mem_of_getElem? (i := 15) rfl)))) (fun _ h9 => h9) rfl (tyX8_ok 7 (by decide)) rfl rfl (Nat.le_of_ble_eq_true rfl) rfl dX8_followsThing_120 (fun H locs hT hS => ?_)
              obtain ⟨y_26, hy_26, hT⟩ : ∃ z : Nat → Nat → Int32, z = up2 y_23 (a 16) 7 (1 : Int32) ∧ tw (dC, dI) a k τ ln z g H := ⟨_, rfl, hT⟩
              have hG : ag τ [26, 28, 29] y y_26 := by rw [hy_26]; exact hG.up (fx_16 hX) (by decide)
              have : (y_26 (a 16) 1).toInt = (y_23 (a 16) 1).toInt := by rw [hy_26, up2_e (by decide)]
              have : (y_26 (a 16) 3).toInt = (y_23 (a 16) 3).toInt := by rw [hy_26, up2_e (by decide)]
              have hI := hI.ag (S := [26]) (y' := y_26) (by rw [hy_26]; exact ag.one (fx_16 hX)) (by decide)
              refine lv_iconst (v := 1) hx hb dX8_followsThing_123 (by decide) ?_
              have hrv : (1 : Int32).toInt = 1 := (zk (x := 1) 1 rfl)
              exact W.zret (v := 1) hx hb hr (by decide) (fun t ht hW9 => ⟨⟨1, 1, rfl, rfl, Or.inl ⟨y_26, rfl, hG, by omega, by omega, tw_at ht hT⟩⟩, hS.F ht⟩) hS.2.2 dX8_followsThing_124
            · have nc_17 := z_nle (zk (x := 3) 3 rfl) rfl c_17
              refine lv_aload_n hx hb dX8_followsThing_91 rfl (lv_at hl 1 rfl) ?_
              refine lv_dup hx hb dX8_followsThing_92 rfl ?_
              refine tw_get (D := (dC, dI)) (v := .int (y_11 (a 16) 5)) (C := RX8) (T := TX8) (N := 8) hx hb hts (fun _ hh => (List.mem_cons_of_mem _ (List.mem_append_right _ (List.mem_append_right _ (List.mem_append_right _ (List.mem_append_left _ hh)))))) hown hK hT (fx_16 hX) (by decide) cl_e26 rfl 5 (by decide) (hts (.fieldLink RX8 29 "TypingPool$Reader" "compared" "I") (List.mem_cons_of_mem _ (List.mem_append_left _ (List.mem_of_getElem? (i := 16) rfl)))) (fun _ h9 => h9) rfl dX8_followsThing_93 ?_
              refine lv_iconst (v := 1) hx hb dX8_followsThing_96 (by decide) ?_
              refine lv_aload_n hx hb dX8_followsThing_97 rfl (lv_at hl 1 rfl) ?_
              refine tw_get (D := (dC, dI)) (v := .int (y_11 (a 16) 4)) (C := RX8) (T := TX8) (N := 8) hx hb hts (fun _ hh => (List.mem_cons_of_mem _ (List.mem_append_right _ (List.mem_append_right _ (List.mem_append_right _ (List.mem_append_left _ hh)))))) hown hK hT (fx_16 hX) (by decide) cl_e26 rfl 4 (by decide) (hts (.fieldLink RX8 26 "TypingPool$Reader" "depth" "I") (List.mem_cons_of_mem _ (List.mem_append_left _ (List.mem_of_getElem? (i := 17) rfl)))) (fun _ h9 => h9) rfl dX8_followsThing_98 ?_
              refine lv_ishl hx hb dX8_followsThing_101 ?_
              refine lv_topi (fun x_27 ex_27 => ?_)
              refine lv_iconst (v := (-1)) hx hb dX8_followsThing_102 (by decide) ?_
              refine lv_ixor hx hb dX8_followsThing_103 ?_
              refine lv_topi (fun x_28 ex_28 => ?_)
              refine lv_iand hx hb dX8_followsThing_104 ?_
              refine lv_topi (fun x_29 ex_29 => ?_)
              refine tw_put (D := (dC, dI)) (x := x_29) (ty := .int) (C := RX8) (T := TX8) (N := 8) hx hb hts (fun _ hh => (List.mem_cons_of_mem _ (List.mem_append_right _ (List.mem_append_right _ (List.mem_append_right _ (List.mem_append_left _ hh)))))) tyX8 tyX8_ok nmX8 hown hK hT hF hS (fx_16 hX) (by decide) cl_e26 rfl 5 (by decide) (hts (.fieldLink RX8 29 "TypingPool$Reader" "compared" "I") (List.mem_cons_of_mem _ (List.mem_append_left _ (List.mem_of_getElem? (i := 16) rfl)))) (fun _ h9 => h9) rfl (tyX8_ok 5 (by decide)) rfl rfl (Nat.le_of_ble_eq_true rfl) rfl dX8_followsThing_105 (fun H locs hT hS => ?_)
              obtain ⟨y_30, hy_30, hT⟩ : ∃ z : Nat → Nat → Int32, z = up2 y_11 (a 16) 5 x_29 ∧ tw (dC, dI) a k τ ln z g H := ⟨_, rfl, hT⟩
              have hG : ag τ [26, 28, 29] y y_30 := by rw [hy_30]; exact hG.up (fx_16 hX) (by decide)
              have : (y_30 (a 16) 1).toInt = (y_11 (a 16) 1).toInt := by rw [hy_30, up2_e (by decide)]
              have : (y_30 (a 16) 3).toInt = (y_11 (a 16) 3).toInt := by rw [hy_30, up2_e (by decide)]
              have hI := hI.ag (S := [26]) (y' := y_30) (by rw [hy_30]; exact ag.one (fx_16 hX)) (by decide)
              refine lv_aload_n hx hb dX8_followsThing_108 rfl (lv_at hl 1 rfl) ?_
              refine lv_iload_n hx hb dX8_followsThing_109 rfl (lv_at hl 0 rfl) ?_
              have hFc := tw_free hF hS hA
              refine va_callv (va_runV (As := [.int r_13]) (rest := []) ⟨hx, hb, hml, hown, hts⟩ (c_rclose l dC dI ad av H.size a k τ ln y_30 g u r_13 hI (by omega) (by omega)) (cwV 1 hts (gi_4 (List.mem_cons_of_mem _ (List.mem_append_left _ (List.mem_of_getElem? (i := 9) rfl))) (List.mem_cons_of_mem _ (List.mem_append_left _ (List.mem_of_getElem? (i := 10) rfl))) (List.mem_cons_of_mem _ (List.mem_append_left _ (List.mem_of_getElem? (i := 11) rfl))) (List.mem_cons_of_mem _ (List.mem_append_left _ (List.mem_of_getElem? (i := 2) rfl))) (fun _ hh => (List.mem_cons_of_mem _ (List.mem_append_right _ (List.mem_append_right _ (List.mem_append_right _ (List.mem_append_right _ (List.mem_append_right _ (List.mem_append_left _ hh)))))))) gd_c_rclose) rfl rfl rfl (by decide +kernel) ⟨Nat.le_of_ble_eq_true rfl, Nat.le_of_ble_eq_true rfl⟩) ⟨pw_blind, tw_recv hK hT (fx_16 hX) (by decide) cl_e26 rfl, pw_use hT hK hFc hS hM⟩ rfl rfl hl.1 rfl (lv_room (Nat.le_of_ble_eq_true rfl)) dX8_followsThing_110 ⟨Nat.le_of_ble_eq_true rfl, Nat.le_of_ble_eq_true rfl⟩) hS (fun q _ h => hFc q h) hFc (fun u0 t H locs ht hvm hw hB hz1 hk1 hS => ?_)
              refine W.widen (k := 0) (n := 0) (Nat.le_of_ble_eq_true rfl) (Nat.le_of_ble_eq_true rfl) ?_
              clear hvm hz1 hk1
              obtain ⟨y_32, hgy_32, hf_33, hf_34, hT⟩ := hB
              rw [ht] at hT
              have hG := hG.tr hgy_32 (by decide)
              have hI := hI.ag hgy_32 (by decide)
              refine lv_aload_n hx hb dX8_followsThing_113 rfl (lv_at hl 1 rfl) ?_
              refine lv_iload_n hx hb dX8_followsThing_114 rfl (lv_at hl 2 rfl) ?_
              have hFc := tw_free hF hS hA
              refine va_callv (va_runV (As := [.int p0]) (rest := []) ⟨hx, hb, hml, hown, hts⟩ (c_rkeepOpen l dC dI ad av H.size a k τ ln y_32 g u p0 hI (by omega) (by omega)) (cwV 1 hts (gi_4 (List.mem_cons_of_mem _ (List.mem_append_left _ (List.mem_of_getElem? (i := 12) rfl))) (List.mem_cons_of_mem _ (List.mem_append_left _ (List.mem_of_getElem? (i := 13) rfl))) (List.mem_cons_of_mem _ (List.mem_append_left _ (List.mem_of_getElem? (i := 14) rfl))) (List.mem_cons_of_mem _ (List.mem_append_left _ (List.mem_of_getElem? (i := 2) rfl))) (fun _ hh => (List.mem_cons_of_mem _ (List.mem_append_right _ (List.mem_append_right _ (List.mem_append_right _ (List.mem_append_right _ (List.mem_append_right _ (List.mem_append_right _ (List.mem_append_left _ hh))))))))) gd_c_rkeepOpen) rfl rfl rfl (by decide +kernel) ⟨Nat.le_of_ble_eq_true rfl, Nat.le_of_ble_eq_true rfl⟩) ⟨pw_blind, tw_recv hK hT (fx_16 hX) (by decide) cl_e26 rfl, pw_use hT hK hFc hS hM⟩ rfl rfl hl.1 rfl (lv_room (Nat.le_of_ble_eq_true rfl)) dX8_followsThing_115 ⟨Nat.le_of_ble_eq_true rfl, Nat.le_of_ble_eq_true rfl⟩) hS (fun q _ h => hFc q h) hFc (fun u0 t H locs ht hvm hw hB hz1 hk1 hS => ?_)
              refine W.widen (k := 0) (n := 0) (Nat.le_of_ble_eq_true rfl) (Nat.le_of_ble_eq_true rfl) ?_
              clear hvm hz1 hk1
              obtain ⟨y_36, hgy_36, hf_37, hf_38, hT⟩ := hB
              rw [ht] at hT
              have hG := hG.tr hgy_36 (by decide)
              have hI := hI.ag hgy_36 (by decide)
              refine lv_aload_n hx hb dX8_followsThing_118 rfl (lv_at hl 1 rfl) ?_
              refine lv_iconst (v := 1) hx hb dX8_followsThing_119 (by decide) ?_
              refine tw_put (D := (dC, dI)) (x := 1) (ty := .boolean) (C := RX8) (T := TX8) (N := 8) hx hb hts (fun _ hh => (List.mem_cons_of_mem _ (List.mem_append_right _ (List.mem_append_right _ (List.mem_append_right _ (List.mem_append_left _ hh)))))) tyX8 tyX8_ok nmX8 hown hK hT hF hS (fx_16 hX) (by decide) cl_e26 rfl 7 (by decide) (hts (.fieldLink RX8 35 "TypingPool$Reader" "wantsThing" "Z") (List.mem_cons_of_mem _ (List.mem_append_left _ (List.mem_of_getElem? (i := 15) rfl)))) (fun _ h9 => h9) rfl (tyX8_ok 7 (by decide)) rfl rfl (Nat.le_of_ble_eq_true rfl) rfl dX8_followsThing_120 (fun H locs hT hS => ?_)
              obtain ⟨y_39, hy_39, hT⟩ : ∃ z : Nat → Nat → Int32, z = up2 y_36 (a 16) 7 (1 : Int32) ∧ tw (dC, dI) a k τ ln z g H := ⟨_, rfl, hT⟩
              have hG : ag τ [26, 28, 29] y y_39 := by rw [hy_39]; exact hG.up (fx_16 hX) (by decide)
              have : (y_39 (a 16) 1).toInt = (y_36 (a 16) 1).toInt := by rw [hy_39, up2_e (by decide)]
              have : (y_39 (a 16) 3).toInt = (y_36 (a 16) 3).toInt := by rw [hy_39, up2_e (by decide)]
              have hI := hI.ag (S := [26]) (y' := y_39) (by rw [hy_39]; exact ag.one (fx_16 hX)) (by decide)
              refine lv_iconst (v := 1) hx hb dX8_followsThing_123 (by decide) ?_
              have hrv : (1 : Int32).toInt = 1 := (zk (x := 1) 1 rfl)
              exact W.zret (v := 1) hx hb hr (by decide) (fun t ht hW9 => ⟨⟨1, 1, rfl, rfl, Or.inl ⟨y_39, rfl, hG, by omega, by omega, tw_at ht hT⟩⟩, hS.F ht⟩) hS.2.2 dX8_followsThing_124
          · have nc_16 := z_eq rfl (zk (x := 3) 3 rfl) c_16
            refine lv_aload_n hx hb dX8_followsThing_51 rfl (lv_at hl 1 rfl) ?_
            refine tw_get (D := (dC, dI)) (v := .int (y_11 (a 16) 5)) (C := RX8) (T := TX8) (N := 8) hx hb hts (fun _ hh => (List.mem_cons_of_mem _ (List.mem_append_right _ (List.mem_append_right _ (List.mem_append_right _ (List.mem_append_left _ hh)))))) hown hK hT (fx_16 hX) (by decide) cl_e26 rfl 5 (by decide) (hts (.fieldLink RX8 29 "TypingPool$Reader" "compared" "I") (List.mem_cons_of_mem _ (List.mem_append_left _ (List.mem_of_getElem? (i := 16) rfl)))) (fun _ h9 => h9) rfl dX8_followsThing_52 ?_
            refine lv_aload_n hx hb dX8_followsThing_55 rfl (lv_at hl 1 rfl) ?_
            refine tw_get (D := (dC, dI)) (v := .int (y_11 (a 16) 4)) (C := RX8) (T := TX8) (N := 8) hx hb hts (fun _ hh => (List.mem_cons_of_mem _ (List.mem_append_right _ (List.mem_append_right _ (List.mem_append_right _ (List.mem_append_left _ hh)))))) hown hK hT (fx_16 hX) (by decide) cl_e26 rfl 4 (by decide) (hts (.fieldLink RX8 26 "TypingPool$Reader" "depth" "I") (List.mem_cons_of_mem _ (List.mem_append_left _ (List.mem_of_getElem? (i := 17) rfl)))) (fun _ h9 => h9) rfl dX8_followsThing_56 ?_
            refine lv_ishr hx hb dX8_followsThing_59 ?_
            refine lv_topi (fun x_40 ex_40 => ?_)
            refine lv_iconst (v := 1) hx hb dX8_followsThing_60 (by decide) ?_
            refine lv_iand hx hb dX8_followsThing_61 ?_
            refine lv_topi (fun x_41 ex_41 => ?_)
            have hx_41 := z_and (x := x_40) (zk (x := 1) 1 rfl) (by omega)
            rw [← ex_41] at hx_41
            refine lv_iconst (v := 1) hx hb dX8_followsThing_62 (by decide) ?_
            refine lv_icmp_ne (tgt := 68) hx hb dX8_followsThing_63 (by decide) (fun c_42 => ?_) (fun c_42 => ?_)
            · have nc_42 := z_ne rfl (zk (x := 1) 1 rfl) c_42
              refine lv_aload_n hx hb dX8_followsThing_68 rfl (lv_at hl 1 rfl) ?_
              refine lv_dup hx hb dX8_followsThing_69 rfl ?_
              refine tw_get (D := (dC, dI)) (v := .int (y_11 (a 16) 5)) (C := RX8) (T := TX8) (N := 8) hx hb hts (fun _ hh => (List.mem_cons_of_mem _ (List.mem_append_right _ (List.mem_append_right _ (List.mem_append_right _ (List.mem_append_left _ hh)))))) hown hK hT (fx_16 hX) (by decide) cl_e26 rfl 5 (by decide) (hts (.fieldLink RX8 29 "TypingPool$Reader" "compared" "I") (List.mem_cons_of_mem _ (List.mem_append_left _ (List.mem_of_getElem? (i := 16) rfl)))) (fun _ h9 => h9) rfl dX8_followsThing_70 ?_
              refine lv_iconst (v := 1) hx hb dX8_followsThing_73 (by decide) ?_
              refine lv_aload_n hx hb dX8_followsThing_74 rfl (lv_at hl 1 rfl) ?_
              refine tw_get (D := (dC, dI)) (v := .int (y_11 (a 16) 4)) (C := RX8) (T := TX8) (N := 8) hx hb hts (fun _ hh => (List.mem_cons_of_mem _ (List.mem_append_right _ (List.mem_append_right _ (List.mem_append_right _ (List.mem_append_left _ hh)))))) hown hK hT (fx_16 hX) (by decide) cl_e26 rfl 4 (by decide) (hts (.fieldLink RX8 26 "TypingPool$Reader" "depth" "I") (List.mem_cons_of_mem _ (List.mem_append_left _ (List.mem_of_getElem? (i := 17) rfl)))) (fun _ h9 => h9) rfl dX8_followsThing_75 ?_
              refine lv_ishl hx hb dX8_followsThing_78 ?_
              refine lv_topi (fun x_43 ex_43 => ?_)
              refine lv_ior hx hb dX8_followsThing_79 ?_
              refine lv_topi (fun x_44 ex_44 => ?_)
              refine tw_put (D := (dC, dI)) (x := x_44) (ty := .int) (C := RX8) (T := TX8) (N := 8) hx hb hts (fun _ hh => (List.mem_cons_of_mem _ (List.mem_append_right _ (List.mem_append_right _ (List.mem_append_right _ (List.mem_append_left _ hh)))))) tyX8 tyX8_ok nmX8 hown hK hT hF hS (fx_16 hX) (by decide) cl_e26 rfl 5 (by decide) (hts (.fieldLink RX8 29 "TypingPool$Reader" "compared" "I") (List.mem_cons_of_mem _ (List.mem_append_left _ (List.mem_of_getElem? (i := 16) rfl)))) (fun _ h9 => h9) rfl (tyX8_ok 5 (by decide)) rfl rfl (Nat.le_of_ble_eq_true rfl) rfl dX8_followsThing_80 (fun H locs hT hS => ?_)
              obtain ⟨y_45, hy_45, hT⟩ : ∃ z : Nat → Nat → Int32, z = up2 y_11 (a 16) 5 x_44 ∧ tw (dC, dI) a k τ ln z g H := ⟨_, rfl, hT⟩
              have hG : ag τ [26, 28, 29] y y_45 := by rw [hy_45]; exact hG.up (fx_16 hX) (by decide)
              have : (y_45 (a 16) 1).toInt = (y_11 (a 16) 1).toInt := by rw [hy_45, up2_e (by decide)]
              have : (y_45 (a 16) 3).toInt = (y_11 (a 16) 3).toInt := by rw [hy_45, up2_e (by decide)]
              have hI := hI.ag (S := [26]) (y' := y_45) (by rw [hy_45]; exact ag.one (fx_16 hX)) (by decide)
              refine lv_goto (tgt := 108) hx hb dX8_followsThing_83 (by decide) ?_
              refine lv_aload_n hx hb dX8_followsThing_108 rfl (lv_at hl 1 rfl) ?_
              refine lv_iload_n hx hb dX8_followsThing_109 rfl (lv_at hl 0 rfl) ?_
              have hFc := tw_free hF hS hA
              refine va_callv (va_runV (As := [.int r_13]) (rest := []) ⟨hx, hb, hml, hown, hts⟩ (c_rclose l dC dI ad av H.size a k τ ln y_45 g u r_13 hI (by omega) (by omega)) (cwV 1 hts (gi_4 (List.mem_cons_of_mem _ (List.mem_append_left _ (List.mem_of_getElem? (i := 9) rfl))) (List.mem_cons_of_mem _ (List.mem_append_left _ (List.mem_of_getElem? (i := 10) rfl))) (List.mem_cons_of_mem _ (List.mem_append_left _ (List.mem_of_getElem? (i := 11) rfl))) (List.mem_cons_of_mem _ (List.mem_append_left _ (List.mem_of_getElem? (i := 2) rfl))) (fun _ hh => (List.mem_cons_of_mem _ (List.mem_append_right _ (List.mem_append_right _ (List.mem_append_right _ (List.mem_append_right _ (List.mem_append_right _ (List.mem_append_left _ hh)))))))) gd_c_rclose) rfl rfl rfl (by decide +kernel) ⟨Nat.le_of_ble_eq_true rfl, Nat.le_of_ble_eq_true rfl⟩) ⟨pw_blind, tw_recv hK hT (fx_16 hX) (by decide) cl_e26 rfl, pw_use hT hK hFc hS hM⟩ rfl rfl hl.1 rfl (lv_room (Nat.le_of_ble_eq_true rfl)) dX8_followsThing_110 ⟨Nat.le_of_ble_eq_true rfl, Nat.le_of_ble_eq_true rfl⟩) hS (fun q _ h => hFc q h) hFc (fun u0 t H locs ht hvm hw hB hz1 hk1 hS => ?_)
              refine W.widen (k := 0) (n := 0) (Nat.le_of_ble_eq_true rfl) (Nat.le_of_ble_eq_true rfl) ?_
              clear hvm hz1 hk1
              obtain ⟨y_47, hgy_47, hf_48, hf_49, hT⟩ := hB
              rw [ht] at hT
              have hG := hG.tr hgy_47 (by decide)
              have hI := hI.ag hgy_47 (by decide)
              refine lv_aload_n hx hb dX8_followsThing_113 rfl (lv_at hl 1 rfl) ?_
              refine lv_iload_n hx hb dX8_followsThing_114 rfl (lv_at hl 2 rfl) ?_
              have hFc := tw_free hF hS hA
              refine va_callv (va_runV (As := [.int p0]) (rest := []) ⟨hx, hb, hml, hown, hts⟩ (c_rkeepOpen l dC dI ad av H.size a k τ ln y_47 g u p0 hI (by omega) (by omega)) (cwV 1 hts (gi_4 (List.mem_cons_of_mem _ (List.mem_append_left _ (List.mem_of_getElem? (i := 12) rfl))) (List.mem_cons_of_mem _ (List.mem_append_left _ (List.mem_of_getElem? (i := 13) rfl))) (List.mem_cons_of_mem _ (List.mem_append_left _ (List.mem_of_getElem? (i := 14) rfl))) (List.mem_cons_of_mem _ (List.mem_append_left _ (List.mem_of_getElem? (i := 2) rfl))) (fun _ hh => (List.mem_cons_of_mem _ (List.mem_append_right _ (List.mem_append_right _ (List.mem_append_right _ (List.mem_append_right _ (List.mem_append_right _ (List.mem_append_right _ (List.mem_append_left _ hh))))))))) gd_c_rkeepOpen) rfl rfl rfl (by decide +kernel) ⟨Nat.le_of_ble_eq_true rfl, Nat.le_of_ble_eq_true rfl⟩) ⟨pw_blind, tw_recv hK hT (fx_16 hX) (by decide) cl_e26 rfl, pw_use hT hK hFc hS hM⟩ rfl rfl hl.1 rfl (lv_room (Nat.le_of_ble_eq_true rfl)) dX8_followsThing_115 ⟨Nat.le_of_ble_eq_true rfl, Nat.le_of_ble_eq_true rfl⟩) hS (fun q _ h => hFc q h) hFc (fun u0 t H locs ht hvm hw hB hz1 hk1 hS => ?_)
              refine W.widen (k := 0) (n := 0) (Nat.le_of_ble_eq_true rfl) (Nat.le_of_ble_eq_true rfl) ?_
              clear hvm hz1 hk1
              obtain ⟨y_51, hgy_51, hf_52, hf_53, hT⟩ := hB
              rw [ht] at hT
              have hG := hG.tr hgy_51 (by decide)
              have hI := hI.ag hgy_51 (by decide)
              refine lv_aload_n hx hb dX8_followsThing_118 rfl (lv_at hl 1 rfl) ?_
              refine lv_iconst (v := 1) hx hb dX8_followsThing_119 (by decide) ?_
              refine tw_put (D := (dC, dI)) (x := 1) (ty := .boolean) (C := RX8) (T := TX8) (N := 8) hx hb hts (fun _ hh => (List.mem_cons_of_mem _ (List.mem_append_right _ (List.mem_append_right _ (List.mem_append_right _ (List.mem_append_left _ hh)))))) tyX8 tyX8_ok nmX8 hown hK hT hF hS (fx_16 hX) (by decide) cl_e26 rfl 7 (by decide) (hts (.fieldLink RX8 35 "TypingPool$Reader" "wantsThing" "Z") (List.mem_cons_of_mem _ (List.mem_append_left _ (List.mem_of_getElem? (i := 15) rfl)))) (fun _ h9 => h9) rfl (tyX8_ok 7 (by decide)) rfl rfl (Nat.le_of_ble_eq_true rfl) rfl dX8_followsThing_120 (fun H locs hT hS => ?_)
              obtain ⟨y_54, hy_54, hT⟩ : ∃ z : Nat → Nat → Int32, z = up2 y_51 (a 16) 7 (1 : Int32) ∧ tw (dC, dI) a k τ ln z g H := ⟨_, rfl, hT⟩
              have hG : ag τ [26, 28, 29] y y_54 := by rw [hy_54]; exact hG.up (fx_16 hX) (by decide)
              have : (y_54 (a 16) 1).toInt = (y_51 (a 16) 1).toInt := by rw [hy_54, up2_e (by decide)]
              have : (y_54 (a 16) 3).toInt = (y_51 (a 16) 3).toInt := by rw [hy_54, up2_e (by decide)]
              have hI := hI.ag (S := [26]) (y' := y_54) (by rw [hy_54]; exact ag.one (fx_16 hX)) (by decide)
              refine lv_iconst (v := 1) hx hb dX8_followsThing_123 (by decide) ?_
              have hrv : (1 : Int32).toInt = 1 := (zk (x := 1) 1 rfl)
              exact W.zret (v := 1) hx hb hr (by decide) (fun t ht hW9 => ⟨⟨1, 1, rfl, rfl, Or.inl ⟨y_54, rfl, hG, by omega, by omega, tw_at ht hT⟩⟩, hS.F ht⟩) hS.2.2 dX8_followsThing_124
            · have nc_42 := z_eq rfl (zk (x := 1) 1 rfl) c_42
              refine lv_iconst (v := 0) hx hb dX8_followsThing_66 (by decide) ?_
              have hrv : (0 : Int32).toInt = 0 := (zk (x := 0) 0 rfl)
              exact W.zret (v := 0) hx hb hr (by decide) (fun t ht hW9 => ⟨⟨0, 0, rfl, rfl, Or.inr (⟨y_11, rfl, hG, by omega, by omega, tw_at ht hT⟩)⟩, hS.F ht⟩) hS.2.2 dX8_followsThing_67
        · have nc_15 := z_eq rfl (zk (x := 6) 6 rfl) c_15
          refine lv_iconst (v := 0) hx hb dX8_followsThing_44 (by decide) ?_
          have hrv : (0 : Int32).toInt = 0 := (zk (x := 0) 0 rfl)
          exact W.zret (v := 0) hx hb hr (by decide) (fun t ht hW9 => ⟨⟨0, 0, rfl, rfl, Or.inr (⟨y_11, rfl, hG, by omega, by omega, tw_at ht hT⟩)⟩, hS.F ht⟩) hS.2.2 dX8_followsThing_45
    · have nc_12 := z_eq rfl (zk (x := 41) 41 rfl) c_12
      refine lv_aload_n hx hb dX8_followsThing_24 rfl (lv_at hl 0 rfl) ?_
      have hFc := tw_free hF hS hA
      refine va_calli (va_runV (As := []) (rest := []) ⟨hx, hb, hml, hown, hts⟩ (c_rclosesBracket l dC dI ad av H.size a k τ ln y_11 g u  hI (by omega) (by omega)) (cwV 0 hts (gi_4 (List.mem_cons_of_mem _ (List.mem_append_left _ (List.mem_of_getElem? (i := 18) rfl))) (List.mem_cons_of_mem _ (List.mem_append_left _ (List.mem_of_getElem? (i := 19) rfl))) (List.mem_cons_of_mem _ (List.mem_append_left _ (List.mem_of_getElem? (i := 20) rfl))) (List.mem_cons_of_mem _ (List.mem_append_left _ (List.mem_of_getElem? (i := 2) rfl))) (fun _ hh => (List.mem_cons_of_mem _ (List.mem_append_right _ (List.mem_append_right _ (List.mem_append_right _ (List.mem_append_right _ (List.mem_append_right _ (List.mem_append_right _ (List.mem_append_right _ (List.mem_append_left _ hh)))))))))) gd_c_rclosesBracket) rfl rfl rfl (by decide +kernel) ⟨Nat.le_of_ble_eq_true rfl, Nat.le_of_ble_eq_true rfl⟩) ⟨pw_blind, tw_recv hK hT (fx_16 hX) (by decide) cl_e26 rfl, pw_use hT hK hFc hS hM⟩ rfl rfl hl.1 rfl (lv_room (Nat.le_of_ble_eq_true rfl)) dX8_followsThing_25 ⟨Nat.le_of_ble_eq_true rfl, Nat.le_of_ble_eq_true rfl⟩) hS (fun q _ h => hFc q h) hFc (fun r0 r_55 t H locs ht hvm hw hB hz1 hk1 hS => ?_)
      refine W.widen (k := 0) (n := 0) (Nat.le_of_ble_eq_true rfl) (Nat.le_of_ble_eq_true rfl) ?_
      clear hvm hz1 hk1
      subst hw
      rcases hB with ⟨y_56, hre, hgy_56, hf_57, hf_58, hT⟩ | ⟨y_59, hre, hgy_59, hf_60, hf_61, hT⟩
      · refine lq_top (v := 1) hre ?_
        rw [ht] at hT
        have hG := hG.tr hgy_56 (by decide)
        have hI := hI.ag hgy_56 (by decide)
        have hrv : (1 : Int32).toInt = 1 := (zk (x := 1) 1 rfl)
        exact W.zret (v := 1) hx hb hr (by decide) (fun t ht hW9 => ⟨⟨1, 1, rfl, rfl, Or.inl ⟨y_56, rfl, hG, by omega, by omega, tw_at ht hT⟩⟩, hS.F ht⟩) hS.2.2 dX8_followsThing_28
      · refine lq_top (v := 0) hre ?_
        rw [ht] at hT
        have hG := hG.tr hgy_59 (by decide)
        have hI := hI.ag hgy_59 (by decide)
        have hrv : (0 : Int32).toInt = 0 := (zk (x := 0) 0 rfl)
        exact W.zret (v := 0) hx hb hr (by decide) (fun t ht hW9 => ⟨⟨0, 0, rfl, rfl, Or.inr (⟨y_59, rfl, hG, by omega, by omega, tw_at ht hT⟩)⟩, hS.F ht⟩) hS.2.2 dX8_followsThing_28
def wo_c_rread : List Cond := [.fieldLink RX8 19 "TypingPool$Reader" "codeLength" "I", .fieldLink RX8 23 "TypingPool$Reader" "openLength" "I", .fieldLink RX8 26 "TypingPool$Reader" "depth" "I", .fieldLink RX8 29 "TypingPool$Reader" "compared" "I", .fieldLink RX8 32 "TypingPool$Reader" "digits" "I", .fieldLink RX8 35 "TypingPool$Reader" "wantsThing" "Z", .methodLink RX8 39 Lib.Math.min.name, .static Lib.Math.min.name, .initialized "java/lang/Math", .code Lib.Math.min.name Lib.Math.min.code 2 (some .int), .methodLink RX8 53 yX8_close, .instanceMethod yX8_close, .selects RX8 yX8_close yX8_close, .initialized RX8, .methodLink RX8 49 yX8_followsThing, .instanceMethod yX8_followsThing, .selects RX8 yX8_followsThing yX8_followsThing, .methodLink RX8 45 yX8_beginsThing, .instanceMethod yX8_beginsThing, .selects RX8 yX8_beginsThing yX8_beginsThing]
def wm_c_rread : List Cond := .code yX8_read cX8_read 7 (some .int) :: (wo_c_rread ++ (wsX80 ++ (wm_c_rclose ++ (wm_c_rfollowsThing ++ (wm_c_rbeginsThing ++ ([] : List Cond))))))
theorem gd_c_rread : ∀ w ∈ wm_c_rread, goodWord w = true := gd_c rfl (gd_a (by decide) (gd_a gd_wsX80 (gd_a gd_c_rclose (gd_a gd_c_rfollowsThing (gd_a gd_c_rbeginsThing gd_nil)))))
set_option maxRecDepth 20000 in
theorem im_c_rread : ∀ w ∈ wm_c_rread, w ∈ lw_tbl := im_c (in_r [.code yX8_read cX8_read 7 (some .int)] [258] (by decide +kernel)) (in_app (in_r wo_c_rread [171, 173, 174, 175, 176, 177, 259, 260, 78, 261, 353, 355, 6, 73, 341, 343, 3, 262, 264, 0] (by decide +kernel)) (in_app im_wsX80 (in_app im_c_rclose (in_app im_c_rfollowsThing (in_app im_c_rbeginsThing im_nil)))))
set_option maxHeartbeats 4000000 in
set_option maxRecDepth 100000 in
theorem c_rread (l : Launch) (dC : Nat → ClassId) (dI : Nat → Nat → Nat) (ad av : Nat → Nat) (sz : Nat) (a : Nat → Nat) (k : Nat → ClassId) (τ ln : Nat → Nat) (y : Nat → Nat → Int32) (g : Nat → Nat → Option Nat) (u : Nat → Int) (p0 : Int32) (i : Nat) (hI : IC a u τ ln y g) (hi_i : i < 13) (h0p : 0 ≤ p0.toInt) (h1p : p0.toInt ≤ 100) : Met l yX8_read wm_c_rread ({ frames := 7, cells := 0, slots := 0, locals := 280 }) (pw_ ad av (dC, dI) sz [.ref (a 16), .ref (a 7), .int p0, .ref (ad i)] a k τ ln y g) (va_Qi (fun (r u : Int32) => u = r) (fun (r : Int32) (t : State) => (∃ (y' : Nat → Nat → Int32), ag τ [26, 28, 29] y y' ∧ (0 ≤ (y' (a 16) 1).toInt ∧ (y' (a 16) 1).toInt ≤ 60) ∧ (0 ≤ (y' (a 16) 3).toInt ∧ (y' (a 16) 3).toInt ≤ 60) ∧ tw (dC, dI) a k τ ln y' g t.heap)) (fr τ sz)) 0 0 (fr τ sz) := by
  refine Met.ofW (cc := cX8_read) (maxL := 7) (ret := (some .int)) (by decide) rfl ?_
  intro p e s m args below meth c s₁ B hml hv
  obtain ⟨rfl, hsz, hT, hK, hM⟩ := hv
  have hx := B.exec
  have hb := B.bytes
  have hr := B.returns
  have hts := atoms_spec (ws := wm_c_rread) B.pre
  have hown : s.vm.findClass RX8 = some m.cls := findClass_of_methodNamed B.named
  have hlocks := B.notSynchronized
  subst hsz
  generalize hAe : fr τ s.heap.size = A at hM ⊢
  have hA : ∀ q : Nat, s.heap.size ≤ q → A q := fun q h => by rw [← hAe]; exact Or.inr h
  have hF : ∀ q, τ q ≠ 0 → A q := fun q h => by rw [← hAe]; exact Or.inl h
  have hS : va_S A s.heap s.heap [] := va_S.rf
  have hX := hI.1
  have hR := ic_r hI
  have hG : ag τ [26, 28, 29] y y := ag.rf
  have hl := lv_entry ([.ref (a 16), .ref (a 7), .int p0, .ref (ad i)]) (n := 7) (Nat.le_of_ble_eq_true rfl)
  rw [lg_entry_eq]
  generalize (lg_sl ([.ref (a 16), .ref (a 7), .int p0, .ref (ad i)]) ++ List.replicate (7 - (lg_sl ([.ref (a 16), .ref (a 7), .int p0, .ref (ad i)])).length) Slot.unset).toArray = ls at hl ⊢
  have hl : lv_has ls 7 [(0, .ref (a 16)), (1, .ref (a 7)), (2, .int p0), (3, .ref (ad i))] := hl
  refine lv_aload_n hx hb dX8_read_0 rfl (lv_at hl 0 rfl) ?_
  refine lv_iconst (v := 0) hx hb dX8_read_1 (by decide) ?_
  refine tw_put (D := (dC, dI)) (x := 0) (ty := .int) (C := RX8) (T := TX8) (N := 8) hx hb hts (fun _ hh => (List.mem_cons_of_mem _ (List.mem_append_right _ (List.mem_append_left _ hh)))) tyX8 tyX8_ok nmX8 hown hK hT hF hS (fx_16 hX) (by decide) cl_e26 rfl 1 (by decide) (hts (.fieldLink RX8 19 "TypingPool$Reader" "codeLength" "I") (List.mem_cons_of_mem _ (List.mem_append_left _ (List.mem_of_getElem? (i := 0) rfl)))) (fun _ h9 => h9) rfl (tyX8_ok 1 (by decide)) rfl rfl (Nat.le_of_ble_eq_true rfl) rfl dX8_read_2 (fun H locs hT hS => ?_)
  obtain ⟨y_1, hy_1, hT⟩ : ∃ z : Nat → Nat → Int32, z = up2 y (a 16) 1 (0 : Int32) ∧ tw (dC, dI) a k τ ln z g H := ⟨_, rfl, hT⟩
  have hG : ag τ [26, 28, 29] y y_1 := by rw [hy_1]; exact hG.up (fx_16 hX) (by decide)
  have : (y_1 (a 16) 1).toInt = 0 := (congrArg Int32.toInt (show y_1 (a 16) 1 = (0 : Int32) from by rw [hy_1]; exact up2_i)).trans (zk (x := 0) 0 rfl)
  have : (y_1 (a 16) 3).toInt = (y (a 16) 3).toInt := by rw [hy_1, up2_e (by decide)]
  have hI := hI.ag (S := [26]) (y' := y_1) (by rw [hy_1]; exact ag.one (fx_16 hX)) (by decide)
  refine lv_aload_n hx hb dX8_read_5 rfl (lv_at hl 0 rfl) ?_
  refine lv_iconst (v := 0) hx hb dX8_read_6 (by decide) ?_
  refine tw_put (D := (dC, dI)) (x := 0) (ty := .int) (C := RX8) (T := TX8) (N := 8) hx hb hts (fun _ hh => (List.mem_cons_of_mem _ (List.mem_append_right _ (List.mem_append_left _ hh)))) tyX8 tyX8_ok nmX8 hown hK hT hF hS (fx_16 hX) (by decide) cl_e26 rfl 3 (by decide) (hts (.fieldLink RX8 23 "TypingPool$Reader" "openLength" "I") (List.mem_cons_of_mem _ (List.mem_append_left _ (List.mem_of_getElem? (i := 1) rfl)))) (fun _ h9 => h9) rfl (tyX8_ok 3 (by decide)) rfl rfl (Nat.le_of_ble_eq_true rfl) rfl dX8_read_7 (fun H locs hT hS => ?_)
  obtain ⟨y_2, hy_2, hT⟩ : ∃ z : Nat → Nat → Int32, z = up2 y_1 (a 16) 3 (0 : Int32) ∧ tw (dC, dI) a k τ ln z g H := ⟨_, rfl, hT⟩
  have hG : ag τ [26, 28, 29] y y_2 := by rw [hy_2]; exact hG.up (fx_16 hX) (by decide)
  have : (y_2 (a 16) 1).toInt = (y_1 (a 16) 1).toInt := by rw [hy_2, up2_e (by decide)]
  have : (y_2 (a 16) 3).toInt = 0 := (congrArg Int32.toInt (show y_2 (a 16) 3 = (0 : Int32) from by rw [hy_2]; exact up2_i)).trans (zk (x := 0) 0 rfl)
  have hI := hI.ag (S := [26]) (y' := y_2) (by rw [hy_2]; exact ag.one (fx_16 hX)) (by decide)
  refine lv_aload_n hx hb dX8_read_10 rfl (lv_at hl 0 rfl) ?_
  refine lv_iconst (v := 0) hx hb dX8_read_11 (by decide) ?_
  refine tw_put (D := (dC, dI)) (x := 0) (ty := .int) (C := RX8) (T := TX8) (N := 8) hx hb hts (fun _ hh => (List.mem_cons_of_mem _ (List.mem_append_right _ (List.mem_append_left _ hh)))) tyX8 tyX8_ok nmX8 hown hK hT hF hS (fx_16 hX) (by decide) cl_e26 rfl 4 (by decide) (hts (.fieldLink RX8 26 "TypingPool$Reader" "depth" "I") (List.mem_cons_of_mem _ (List.mem_append_left _ (List.mem_of_getElem? (i := 2) rfl)))) (fun _ h9 => h9) rfl (tyX8_ok 4 (by decide)) rfl rfl (Nat.le_of_ble_eq_true rfl) rfl dX8_read_12 (fun H locs hT hS => ?_)
  obtain ⟨y_3, hy_3, hT⟩ : ∃ z : Nat → Nat → Int32, z = up2 y_2 (a 16) 4 (0 : Int32) ∧ tw (dC, dI) a k τ ln z g H := ⟨_, rfl, hT⟩
  have hG : ag τ [26, 28, 29] y y_3 := by rw [hy_3]; exact hG.up (fx_16 hX) (by decide)
  have : (y_3 (a 16) 1).toInt = (y_2 (a 16) 1).toInt := by rw [hy_3, up2_e (by decide)]
  have : (y_3 (a 16) 3).toInt = (y_2 (a 16) 3).toInt := by rw [hy_3, up2_e (by decide)]
  have hI := hI.ag (S := [26]) (y' := y_3) (by rw [hy_3]; exact ag.one (fx_16 hX)) (by decide)
  refine lv_aload_n hx hb dX8_read_15 rfl (lv_at hl 0 rfl) ?_
  refine lv_iconst (v := 0) hx hb dX8_read_16 (by decide) ?_
  refine tw_put (D := (dC, dI)) (x := 0) (ty := .int) (C := RX8) (T := TX8) (N := 8) hx hb hts (fun _ hh => (List.mem_cons_of_mem _ (List.mem_append_right _ (List.mem_append_left _ hh)))) tyX8 tyX8_ok nmX8 hown hK hT hF hS (fx_16 hX) (by decide) cl_e26 rfl 5 (by decide) (hts (.fieldLink RX8 29 "TypingPool$Reader" "compared" "I") (List.mem_cons_of_mem _ (List.mem_append_left _ (List.mem_of_getElem? (i := 3) rfl)))) (fun _ h9 => h9) rfl (tyX8_ok 5 (by decide)) rfl rfl (Nat.le_of_ble_eq_true rfl) rfl dX8_read_17 (fun H locs hT hS => ?_)
  obtain ⟨y_4, hy_4, hT⟩ : ∃ z : Nat → Nat → Int32, z = up2 y_3 (a 16) 5 (0 : Int32) ∧ tw (dC, dI) a k τ ln z g H := ⟨_, rfl, hT⟩
  have hG : ag τ [26, 28, 29] y y_4 := by rw [hy_4]; exact hG.up (fx_16 hX) (by decide)
  have : (y_4 (a 16) 1).toInt = (y_3 (a 16) 1).toInt := by rw [hy_4, up2_e (by decide)]
  have : (y_4 (a 16) 3).toInt = (y_3 (a 16) 3).toInt := by rw [hy_4, up2_e (by decide)]
  have hI := hI.ag (S := [26]) (y' := y_4) (by rw [hy_4]; exact ag.one (fx_16 hX)) (by decide)
  refine lv_aload_n hx hb dX8_read_20 rfl (lv_at hl 0 rfl) ?_
  refine lv_iconst (v := 0) hx hb dX8_read_21 (by decide) ?_
  refine tw_put (D := (dC, dI)) (x := 0) (ty := .int) (C := RX8) (T := TX8) (N := 8) hx hb hts (fun _ hh => (List.mem_cons_of_mem _ (List.mem_append_right _ (List.mem_append_left _ hh)))) tyX8 tyX8_ok nmX8 hown hK hT hF hS (fx_16 hX) (by decide) cl_e26 rfl 6 (by decide) (hts (.fieldLink RX8 32 "TypingPool$Reader" "digits" "I") (List.mem_cons_of_mem _ (List.mem_append_left _ (List.mem_of_getElem? (i := 4) rfl)))) (fun _ h9 => h9) rfl (tyX8_ok 6 (by decide)) rfl rfl (Nat.le_of_ble_eq_true rfl) rfl dX8_read_22 (fun H locs hT hS => ?_)
  obtain ⟨y_5, hy_5, hT⟩ : ∃ z : Nat → Nat → Int32, z = up2 y_4 (a 16) 6 (0 : Int32) ∧ tw (dC, dI) a k τ ln z g H := ⟨_, rfl, hT⟩
  have hG : ag τ [26, 28, 29] y y_5 := by rw [hy_5]; exact hG.up (fx_16 hX) (by decide)
  have : (y_5 (a 16) 1).toInt = (y_4 (a 16) 1).toInt := by rw [hy_5, up2_e (by decide)]
  have : (y_5 (a 16) 3).toInt = (y_4 (a 16) 3).toInt := by rw [hy_5, up2_e (by decide)]
  have hI := hI.ag (S := [26]) (y' := y_5) (by rw [hy_5]; exact ag.one (fx_16 hX)) (by decide)
  refine lv_aload_n hx hb dX8_read_25 rfl (lv_at hl 0 rfl) ?_
  refine lv_iconst (v := 1) hx hb dX8_read_26 (by decide) ?_
  refine tw_put (D := (dC, dI)) (x := 1) (ty := .boolean) (C := RX8) (T := TX8) (N := 8) hx hb hts (fun _ hh => (List.mem_cons_of_mem _ (List.mem_append_right _ (List.mem_append_left _ hh)))) tyX8 tyX8_ok nmX8 hown hK hT hF hS (fx_16 hX) (by decide) cl_e26 rfl 7 (by decide) (hts (.fieldLink RX8 35 "TypingPool$Reader" "wantsThing" "Z") (List.mem_cons_of_mem _ (List.mem_append_left _ (List.mem_of_getElem? (i := 5) rfl)))) (fun _ h9 => h9) rfl (tyX8_ok 7 (by decide)) rfl rfl (Nat.le_of_ble_eq_true rfl) rfl dX8_read_27 (fun H locs hT hS => ?_)
  obtain ⟨y_6, hy_6, hT⟩ : ∃ z : Nat → Nat → Int32, z = up2 y_5 (a 16) 7 (1 : Int32) ∧ tw (dC, dI) a k τ ln z g H := ⟨_, rfl, hT⟩
  have hG : ag τ [26, 28, 29] y y_6 := by rw [hy_6]; exact hG.up (fx_16 hX) (by decide)
  have : (y_6 (a 16) 1).toInt = (y_5 (a 16) 1).toInt := by rw [hy_6, up2_e (by decide)]
  have : (y_6 (a 16) 3).toInt = (y_5 (a 16) 3).toInt := by rw [hy_6, up2_e (by decide)]
  have hI := hI.ag (S := [26]) (y' := y_6) (by rw [hy_6]; exact ag.one (fx_16 hX)) (by decide)
  refine lv_iload_n hx hb dX8_read_30 rfl (lv_at hl 2 rfl) ?_
  refine lv_bipush (v := 60) hx hb dX8_read_31 (by decide) ?_
  refine va_mmin hx hb (by rw [hml]; exact hl.1.symm) hown (hts (.methodLink RX8 39 Lib.Math.min.name) (List.mem_cons_of_mem _ (List.mem_append_left _ (List.mem_of_getElem? (i := 6) rfl)))) (hts (.static Lib.Math.min.name) (List.mem_cons_of_mem _ (List.mem_append_left _ (List.mem_of_getElem? (i := 7) rfl)))) (hts (.initialized "java/lang/Math") (List.mem_cons_of_mem _ (List.mem_append_left _ (List.mem_of_getElem? (i := 8) rfl)))) (hts (.code Lib.Math.min.name Lib.Math.min.code 2 (some .int)) (List.mem_cons_of_mem _ (List.mem_append_left _ (List.mem_of_getElem? (i := 9) rfl)))) (Nat.le_of_ble_eq_true rfl) (Nat.le_of_ble_eq_true rfl) (Nat.le_of_ble_eq_true rfl) (Nat.le_of_ble_eq_true rfl) dX8_read_33 ?_
  refine lv_topi (fun x_7 ex_7 => ?_)
  have hx_7 := z_min ex_7 rfl (zk (x := 60) 60 rfl)
  refine lv_aload_n hx hb dX8_read_36 rfl (lv_at hl 1 rfl) ?_
  refine tw_alen (v := 100) hx hb hK hT 1 (fx_7 hX) (by decide) cl_e17 rfl rfl dX8_read_37 ?_
  refine va_mmin hx hb (by rw [hml]; exact hl.1.symm) hown (hts (.methodLink RX8 39 Lib.Math.min.name) (List.mem_cons_of_mem _ (List.mem_append_left _ (List.mem_of_getElem? (i := 6) rfl)))) (hts (.static Lib.Math.min.name) (List.mem_cons_of_mem _ (List.mem_append_left _ (List.mem_of_getElem? (i := 7) rfl)))) (hts (.initialized "java/lang/Math") (List.mem_cons_of_mem _ (List.mem_append_left _ (List.mem_of_getElem? (i := 8) rfl)))) (hts (.code Lib.Math.min.name Lib.Math.min.code 2 (some .int)) (List.mem_cons_of_mem _ (List.mem_append_left _ (List.mem_of_getElem? (i := 9) rfl)))) (Nat.le_of_ble_eq_true rfl) (Nat.le_of_ble_eq_true rfl) (Nat.le_of_ble_eq_true rfl) (Nat.le_of_ble_eq_true rfl) dX8_read_38 ?_
  refine lv_topi (fun x_8 ex_8 => ?_)
  have hx_8 := z_min ex_8 rfl (zk (x := 100) 100 rfl)
  refine lv_istore (lv' := [(4, .int x_8), (0, .ref (a 16)), (1, .ref (a 7)), (2, .int p0), (3, .ref (ad i))]) hx hb dX8_read_41 hl (by decide) rfl (fun ls hl => ?_)
  refine lv_iconst (v := 0) hx hb dX8_read_43 (by decide) ?_
  refine lv_istore (lv' := [(5, .int 0), (4, .int x_8), (0, .ref (a 16)), (1, .ref (a 7)), (2, .int p0), (3, .ref (ad i))]) hx hb dX8_read_44 hl (by decide) rfl (fun ls hl => ?_)
  have loop_46 : ∀ (n : Nat) (i5 : Int32) (y_L46 : Nat → Nat → Int32) (H : Heap) (locs : List Loc) (ls : Array Slot), (x_8.toInt - i5.toInt).toNat < n → ag τ [26, 28, 29] y y_L46 → IC a u τ ln y_L46 g → 0 ≤ i5.toInt → i5.toInt ≤ x_8.toInt → 0 ≤ (y_L46 (a 16) 1).toInt ∧ (y_L46 (a 16) 1).toInt ≤ 60 → 0 ≤ (y_L46 (a 16) 3).toInt ∧ (y_L46 (a 16) 3).toInt ≤ 60 → tw (dC, dI) a k τ ln y_L46 g H → va_S A s.heap H locs → lv_has ls 7 [(0, .ref (a 16)), (1, .ref (a 7)), (2, .int p0), (3, .ref (ad i)), (4, .int x_8), (5, .int i5)] → W p l e (headSpec wm_c_rread ({ frames := 7, cells := 0, slots := 0, locals := 280 })).room s m ([.ref (a 16), .ref (a 7), .int p0, .ref (ad i)] : List Value).toArray below meth c H locs 0 0 (MQ below (va_Qi (fun (r u : Int32) => u = r) (fun (r : Int32) (t : State) => (∃ (y' : Nat → Nat → Int32), ag τ [26, 28, 29] y y' ∧ (0 ≤ (y' (a 16) 1).toInt ∧ (y' (a 16) 1).toInt ≤ 60) ∧ (0 ≤ (y' (a 16) 3).toInt ∧ (y' (a 16) 3).toInt ≤ 60) ∧ tw (dC, dI) a k τ ln y' g t.heap)) A) ([.ref (a 16), .ref (a 7), .int p0, .ref (ad i)] : List Value).toArray s 0 0 A) (F0 m 46 ls []) := by
    intro n
    induction n with
    | zero => intro i5 y_L46 H locs ls hlt; exact absurd hlt (Nat.not_lt_zero _)
    | succ n ih_46 =>
      intro i5 y_L46 H locs ls hlt hG hI hi46_0 hi46_1 hi46_2 hi46_3 hT hS hl
      refine lv_iload hx hb dX8_read_46 (lv_at hl 5 rfl) ?_
      refine lv_iload hx hb dX8_read_48 (lv_at hl 4 rfl) ?_
      refine lv_icmp_ge (tgt := 96) hx hb dX8_read_50 (by decide) (fun c_9 => ?_) (fun c_9 => ?_)
      · have nc_9 := z_le rfl rfl c_9
        refine lv_iload_n hx hb dX8_read_96 rfl (lv_at hl 2 rfl) ?_
        refine lv_bipush (v := 60) hx hb dX8_read_97 (by decide) ?_
        refine lv_icmp_le (tgt := 105) hx hb dX8_read_99 (by decide) (fun c_10 => ?_) (fun c_10 => ?_)
        · have nc_10 := z_le rfl (zk (x := 60) 60 rfl) c_10
          refine lv_aload_n hx hb dX8_read_105 rfl (lv_at hl 0 rfl) ?_
          refine tw_get (D := (dC, dI)) (v := .int (y_L46 (a 16) 7)) (C := RX8) (T := TX8) (N := 8) hx hb hts (fun _ hh => (List.mem_cons_of_mem _ (List.mem_append_right _ (List.mem_append_left _ hh)))) hown hK hT (fx_16 hX) (by decide) cl_e26 rfl 7 (by decide) (hts (.fieldLink RX8 35 "TypingPool$Reader" "wantsThing" "Z") (List.mem_cons_of_mem _ (List.mem_append_left _ (List.mem_of_getElem? (i := 5) rfl)))) (fun _ h9 => h9) rfl dX8_read_106 ?_
          refine lv_if_ne (tgt := 119) hx hb dX8_read_109 (by decide) (fun c_11 => ?_) (fun c_11 => ?_)
          · have nc_11 := z_ne rfl (zk (x := 0) 0 rfl) c_11
            refine lv_iload_n hx hb dX8_read_119 rfl (lv_at hl 2 rfl) ?_
            have hrv : p0.toInt = p0.toInt := rfl
            exact W.iret (v := p0) hx hb hr (fun t ht hW9 => ⟨⟨p0, p0, rfl, rfl, ⟨y_L46, hG, by omega, by omega, tw_at ht hT⟩⟩, hS.F ht⟩) hS.2.2 dX8_read_120
          · have nc_11 := z_eq rfl (zk (x := 0) 0 rfl) c_11
            refine lv_aload_n hx hb dX8_read_112 rfl (lv_at hl 0 rfl) ?_
            refine tw_get (D := (dC, dI)) (v := .int (y_L46 (a 16) 4)) (C := RX8) (T := TX8) (N := 8) hx hb hts (fun _ hh => (List.mem_cons_of_mem _ (List.mem_append_right _ (List.mem_append_left _ hh)))) hown hK hT (fx_16 hX) (by decide) cl_e26 rfl 4 (by decide) (hts (.fieldLink RX8 26 "TypingPool$Reader" "depth" "I") (List.mem_cons_of_mem _ (List.mem_append_left _ (List.mem_of_getElem? (i := 2) rfl)))) (fun _ h9 => h9) rfl dX8_read_113 ?_
            refine lv_if_le (tgt := 121) hx hb dX8_read_116 (by decide) (fun c_12 => ?_) (fun c_12 => ?_)
            · have nc_12 := z_le rfl (zk (x := 0) 0 rfl) c_12
              refine lv_aload_n hx hb dX8_read_121 rfl (lv_at hl 0 rfl) ?_
              refine lv_iconst (v := 1) hx hb dX8_read_122 (by decide) ?_
              have hFc := tw_free hF hS hA
              have hp_13 : (1 : Int32).toInt = 1 := (zk (x := 1) 1 rfl)
              refine va_callv (va_runV (As := [.int 1]) (rest := []) ⟨hx, hb, hml, hown, hts⟩ (c_rclose l dC dI ad av H.size a k τ ln y_L46 g u (1 : Int32) hI (by omega) (by omega)) (cwV 1 hts (gi_4 (List.mem_cons_of_mem _ (List.mem_append_left _ (List.mem_of_getElem? (i := 10) rfl))) (List.mem_cons_of_mem _ (List.mem_append_left _ (List.mem_of_getElem? (i := 11) rfl))) (List.mem_cons_of_mem _ (List.mem_append_left _ (List.mem_of_getElem? (i := 12) rfl))) (List.mem_cons_of_mem _ (List.mem_append_left _ (List.mem_of_getElem? (i := 13) rfl))) (fun _ hh => (List.mem_cons_of_mem _ (List.mem_append_right _ (List.mem_append_right _ (List.mem_append_left _ hh))))) gd_c_rclose) rfl rfl rfl (by decide +kernel) ⟨Nat.le_of_ble_eq_true rfl, Nat.le_of_ble_eq_true rfl⟩) ⟨pw_blind, tw_recv hK hT (fx_16 hX) (by decide) cl_e26 rfl, pw_use hT hK hFc hS hM⟩ rfl rfl hl.1 rfl (lv_room (Nat.le_of_ble_eq_true rfl)) dX8_read_123 ⟨Nat.le_of_ble_eq_true rfl, Nat.le_of_ble_eq_true rfl⟩) hS (fun q _ h => hFc q h) hFc (fun u0 t H locs ht hvm hw hB hz1 hk1 hS => ?_)
              refine W.widen (k := 0) (n := 0) (Nat.le_of_ble_eq_true rfl) (Nat.le_of_ble_eq_true rfl) ?_
              clear hvm hz1 hk1
              obtain ⟨y_15, hgy_15, hf_16, hf_17, hT⟩ := hB
              rw [ht] at hT
              have hG := hG.tr hgy_15 (by decide)
              have hI := hI.ag hgy_15 (by decide)
              try simp only [hp_13] at hf_16 hf_17
              clear hp_13
              refine lv_iconst (v := (-1)) hx hb dX8_read_126 (by decide) ?_
              have hrv : (-1 : Int32).toInt = (-1) := (zk (x := (-1)) (-1) rfl)
              exact W.iret (v := (-1)) hx hb hr (fun t ht hW9 => ⟨⟨(-1), (-1), rfl, rfl, ⟨y_15, hG, by omega, by omega, tw_at ht hT⟩⟩, hS.F ht⟩) hS.2.2 dX8_read_127
            · have nc_12 := z_nle rfl (zk (x := 0) 0 rfl) c_12
              refine lv_iload_n hx hb dX8_read_119 rfl (lv_at hl 2 rfl) ?_
              have hrv : p0.toInt = p0.toInt := rfl
              exact W.iret (v := p0) hx hb hr (fun t ht hW9 => ⟨⟨p0, p0, rfl, rfl, ⟨y_L46, hG, by omega, by omega, tw_at ht hT⟩⟩, hS.F ht⟩) hS.2.2 dX8_read_120
        · have nc_10 := z_nle rfl (zk (x := 60) 60 rfl) c_10
          refine lv_bipush (v := 60) hx hb dX8_read_102 (by decide) ?_
          have hrv : (60 : Int32).toInt = 60 := (zk (x := 60) 60 rfl)
          exact W.iret (v := 60) hx hb hr (fun t ht hW9 => ⟨⟨60, 60, rfl, rfl, ⟨y_L46, hG, by omega, by omega, tw_at ht hT⟩⟩, hS.F ht⟩) hS.2.2 dX8_read_104
      · have nc_9 := z_nle rfl rfl c_9
        refine lv_aload_n hx hb dX8_read_53 rfl (lv_at hl 0 rfl) ?_
        refine tw_get (D := (dC, dI)) (v := .int (y_L46 (a 16) 7)) (C := RX8) (T := TX8) (N := 8) hx hb hts (fun _ hh => (List.mem_cons_of_mem _ (List.mem_append_right _ (List.mem_append_left _ hh)))) hown hK hT (fx_16 hX) (by decide) cl_e26 rfl 7 (by decide) (hts (.fieldLink RX8 35 "TypingPool$Reader" "wantsThing" "Z") (List.mem_cons_of_mem _ (List.mem_append_left _ (List.mem_of_getElem? (i := 5) rfl)))) (fun _ h9 => h9) rfl dX8_read_54 ?_
        refine lv_if_eq (tgt := 72) hx hb dX8_read_57 (by decide) (fun c_18 => ?_) (fun c_18 => ?_)
        · have nc_18 := z_eq rfl (zk (x := 0) 0 rfl) c_18
          refine lv_aload_n hx hb dX8_read_72 rfl (lv_at hl 0 rfl) ?_
          refine lv_aload_n hx hb dX8_read_73 rfl (lv_at hl 1 rfl) ?_
          refine lv_iload hx hb dX8_read_74 (lv_at hl 5 rfl) ?_
          refine tw_cald hx hb hK hT 1 (fx_7 hX) (by decide) cl_e17 rfl (z_in rfl (by omega) (by omega)) dX8_read_76 ?_
          have hFc := tw_free hF hS hA
          refine va_calli (va_runV (As := [.int (y_L46 (a 7) i5.toNatClampNeg)]) (rest := []) ⟨hx, hb, hml, hown, hts⟩ (c_rfollowsThing l dC dI ad av H.size a k τ ln y_L46 g u (y_L46 (a 7) i5.toNatClampNeg) hI (by omega) (by omega)) (cwV 1 hts (gi_4 (List.mem_cons_of_mem _ (List.mem_append_left _ (List.mem_of_getElem? (i := 14) rfl))) (List.mem_cons_of_mem _ (List.mem_append_left _ (List.mem_of_getElem? (i := 15) rfl))) (List.mem_cons_of_mem _ (List.mem_append_left _ (List.mem_of_getElem? (i := 16) rfl))) (List.mem_cons_of_mem _ (List.mem_append_left _ (List.mem_of_getElem? (i := 13) rfl))) (fun _ hh => (List.mem_cons_of_mem _ (List.mem_append_right _ (List.mem_append_right _ (List.mem_append_right _ (List.mem_append_left _ hh)))))) gd_c_rfollowsThing) rfl rfl rfl (by decide +kernel) ⟨Nat.le_of_ble_eq_true rfl, Nat.le_of_ble_eq_true rfl⟩) ⟨pw_blind, tw_recv hK hT (fx_16 hX) (by decide) cl_e26 rfl, pw_use hT hK hFc hS hM⟩ rfl rfl hl.1 rfl (lv_room (Nat.le_of_ble_eq_true rfl)) dX8_read_77 ⟨Nat.le_of_ble_eq_true rfl, Nat.le_of_ble_eq_true rfl⟩) hS (fun q _ h => hFc q h) hFc (fun r0 r_19 t H locs ht hvm hw hB hz1 hk1 hS => ?_)
          refine W.widen (k := 0) (n := 0) (Nat.le_of_ble_eq_true rfl) (Nat.le_of_ble_eq_true rfl) ?_
          clear hvm hz1 hk1
          subst hw
          rcases hB with ⟨y_20, hre, hgy_20, hf_21, hf_22, hT⟩ | ⟨y_23, hre, hgy_23, hf_24, hf_25, hT⟩
          · refine lq_top (v := 1) hre ?_
            rw [ht] at hT
            have hG := hG.tr hgy_20 (by decide)
            have hI := hI.ag hgy_20 (by decide)
            refine lv_istore (lv' := [(6, .int 1), (0, .ref (a 16)), (1, .ref (a 7)), (2, .int p0), (3, .ref (ad i)), (4, .int x_8), (5, .int i5)]) hx hb dX8_read_80 hl (by decide) rfl (fun ls hl => ?_)
            refine lv_iload hx hb dX8_read_82 (lv_at hl 0 rfl) ?_
            refine lv_if_ne (tgt := 90) hx hb dX8_read_84 (by decide) (fun c_26 => ?_) (fun c_26 => absurd c_26 (by decide))
            obtain ⟨x_27, ex_27⟩ : ∃ y : Int32, y = i5 + Int32.ofInt 1 := ⟨_, rfl⟩
            have hx_27 := z_add ex_27 rfl (zk (x := Int32.ofInt 1) 1 rfl) (by omega) (by omega)
            refine lv_iinc (v := x_27) (lv' := [(5, .int x_27), (6, .int 1), (0, .ref (a 16)), (1, .ref (a 7)), (2, .int p0), (3, .ref (ad i)), (4, .int x_8)]) hx hb dX8_read_90 hl (k := 6) rfl ex_27.symm (by decide) rfl (fun ls hl => ?_)
            refine lv_goto (tgt := 46) hx hb dX8_read_93 (by decide) ?_
            exact ih_46  x_27 y_20 H _ ls (by omega) hG hI (by omega) (by omega) (by omega) (by omega) hT hS (lv_sub hl [2, 3, 4, 5, 6, 0] rfl)
          · refine lq_top (v := 0) hre ?_
            rw [ht] at hT
            have hG := hG.tr hgy_23 (by decide)
            have hI := hI.ag hgy_23 (by decide)
            refine lv_istore (lv' := [(6, .int 0), (0, .ref (a 16)), (1, .ref (a 7)), (2, .int p0), (3, .ref (ad i)), (4, .int x_8), (5, .int i5)]) hx hb dX8_read_80 hl (by decide) rfl (fun ls hl => ?_)
            refine lv_iload hx hb dX8_read_82 (lv_at hl 0 rfl) ?_
            refine lv_if_ne (tgt := 90) hx hb dX8_read_84 (by decide) (fun c_28 => absurd c_28 (by decide)) (fun c_28 => ?_)
            refine lv_iload hx hb dX8_read_87 (lv_at hl 6 rfl) ?_
            have hrv : i5.toInt = i5.toInt := rfl
            exact W.iret (v := i5) hx hb hr (fun t ht hW9 => ⟨⟨i5, i5, rfl, rfl, ⟨y_23, hG, by omega, by omega, tw_at ht hT⟩⟩, hS.F ht⟩) hS.2.2 dX8_read_89
        · have nc_18 := z_ne rfl (zk (x := 0) 0 rfl) c_18
          refine lv_aload_n hx hb dX8_read_60 rfl (lv_at hl 0 rfl) ?_
          refine lv_aload_n hx hb dX8_read_61 rfl (lv_at hl 1 rfl) ?_
          refine lv_iload hx hb dX8_read_62 (lv_at hl 5 rfl) ?_
          refine tw_cald hx hb hK hT 1 (fx_7 hX) (by decide) cl_e17 rfl (z_in rfl (by omega) (by omega)) dX8_read_64 ?_
          refine lv_aload_n hx hb dX8_read_65 rfl (lv_at hl 3 rfl) ?_
          have hFc := tw_free hF hS hA
          refine va_calli (va_runV (As := [.int (y_L46 (a 7) i5.toNatClampNeg), .ref (ad i)]) (rest := []) ⟨hx, hb, hml, hown, hts⟩ (c_rbeginsThing l dC dI ad av H.size a k τ ln y_L46 g u (y_L46 (a 7) i5.toNatClampNeg) i hI hi_i (by omega) (by omega)) (cwV 2 hts (gi_4 (List.mem_cons_of_mem _ (List.mem_append_left _ (List.mem_of_getElem? (i := 17) rfl))) (List.mem_cons_of_mem _ (List.mem_append_left _ (List.mem_of_getElem? (i := 18) rfl))) (List.mem_cons_of_mem _ (List.mem_append_left _ (List.mem_of_getElem? (i := 19) rfl))) (List.mem_cons_of_mem _ (List.mem_append_left _ (List.mem_of_getElem? (i := 13) rfl))) (fun _ hh => (List.mem_cons_of_mem _ (List.mem_append_right _ (List.mem_append_right _ (List.mem_append_right _ (List.mem_append_right _ (List.mem_append_left _ hh))))))) gd_c_rbeginsThing) rfl rfl rfl (by decide +kernel) ⟨Nat.le_of_ble_eq_true rfl, Nat.le_of_ble_eq_true rfl⟩) ⟨pw_blind, tw_recv hK hT (fx_16 hX) (by decide) cl_e26 rfl, pw_use hT hK hFc hS hM⟩ rfl rfl hl.1 rfl (lv_room (Nat.le_of_ble_eq_true rfl)) dX8_read_66 ⟨Nat.le_of_ble_eq_true rfl, Nat.le_of_ble_eq_true rfl⟩) hS (fun q _ h => hFc q h) hFc (fun r0 r_29 t H locs ht hvm hw hB hz1 hk1 hS => ?_)
          refine W.widen (k := 0) (n := 0) (Nat.le_of_ble_eq_true rfl) (Nat.le_of_ble_eq_true rfl) ?_
          clear hvm hz1 hk1
          subst hw
          rcases hB with ⟨y_30, hre, hgy_30, hf_31, hf_32, hT⟩ | ⟨y_33, hre, hgy_33, hf_34, hf_35, hT⟩
          · refine lq_top (v := 1) hre ?_
            rw [ht] at hT
            have hG := hG.tr hgy_30 (by decide)
            have hI := hI.ag hgy_30 (by decide)
            refine lv_goto (tgt := 80) hx hb dX8_read_69 (by decide) ?_
            refine lv_istore (lv' := [(6, .int 1), (0, .ref (a 16)), (1, .ref (a 7)), (2, .int p0), (3, .ref (ad i)), (4, .int x_8), (5, .int i5)]) hx hb dX8_read_80 hl (by decide) rfl (fun ls hl => ?_)
            refine lv_iload hx hb dX8_read_82 (lv_at hl 0 rfl) ?_
            refine lv_if_ne (tgt := 90) hx hb dX8_read_84 (by decide) (fun c_36 => ?_) (fun c_36 => absurd c_36 (by decide))
            obtain ⟨x_37, ex_37⟩ : ∃ y : Int32, y = i5 + Int32.ofInt 1 := ⟨_, rfl⟩
            have hx_37 := z_add ex_37 rfl (zk (x := Int32.ofInt 1) 1 rfl) (by omega) (by omega)
            refine lv_iinc (v := x_37) (lv' := [(5, .int x_37), (6, .int 1), (0, .ref (a 16)), (1, .ref (a 7)), (2, .int p0), (3, .ref (ad i)), (4, .int x_8)]) hx hb dX8_read_90 hl (k := 6) rfl ex_37.symm (by decide) rfl (fun ls hl => ?_)
            refine lv_goto (tgt := 46) hx hb dX8_read_93 (by decide) ?_
            exact ih_46  x_37 y_30 H _ ls (by omega) hG hI (by omega) (by omega) (by omega) (by omega) hT hS (lv_sub hl [2, 3, 4, 5, 6, 0] rfl)
          · refine lq_top (v := 0) hre ?_
            rw [ht] at hT
            have hG := hG.tr hgy_33 (by decide)
            have hI := hI.ag hgy_33 (by decide)
            refine lv_goto (tgt := 80) hx hb dX8_read_69 (by decide) ?_
            refine lv_istore (lv' := [(6, .int 0), (0, .ref (a 16)), (1, .ref (a 7)), (2, .int p0), (3, .ref (ad i)), (4, .int x_8), (5, .int i5)]) hx hb dX8_read_80 hl (by decide) rfl (fun ls hl => ?_)
            refine lv_iload hx hb dX8_read_82 (lv_at hl 0 rfl) ?_
            refine lv_if_ne (tgt := 90) hx hb dX8_read_84 (by decide) (fun c_38 => absurd c_38 (by decide)) (fun c_38 => ?_)
            refine lv_iload hx hb dX8_read_87 (lv_at hl 6 rfl) ?_
            have hrv : i5.toInt = i5.toInt := rfl
            exact W.iret (v := i5) hx hb hr (fun t ht hW9 => ⟨⟨i5, i5, rfl, rfl, ⟨y_33, hG, by omega, by omega, tw_at ht hT⟩⟩, hS.F ht⟩) hS.2.2 dX8_read_89
  have hp_39 : (0 : Int32).toInt = 0 := (zk (x := 0) 0 rfl)
  exact loop_46 _ (0 : Int32) y_6 H _ ls (Nat.lt_succ_self _) hG hI (by omega) (by omega) (by omega) (by omega) hT hS (lv_sub hl [2, 3, 4, 5, 1, 0] rfl)
def wo_c_listPieces : List Cond := [.fieldLink RX7 42 "TypingPool$Planner" "pieceCount" "I", .fieldLink RX7 27 "TypingPool$Planner" "book" "LTypingPool$Book;", .methodLink RX7 67 yX1_hasPiece, .instanceMethod yX1_hasPiece, .selects RX1 yX1_hasPiece yX1_hasPiece, .initialized RX1, .fieldLink RX7 31 "TypingPool$Planner" "floor" "LTypingPool$Floor;", .methodLink RX7 72 yX3_stateOf, .instanceMethod yX3_stateOf, .selects RX3 yX3_stateOf yX3_stateOf, .initialized RX3, .fieldLink RX7 9 "TypingPool$Planner" "pieces" "[I"]
def wm_c_listPieces : List Cond := .code yX7_listPieces cX7_listPieces 4 (some .boolean) :: (wo_c_listPieces ++ (wsX70 ++ (wm_c_hasPiece ++ (wm_c_stateOf ++ ([] : List Cond)))))
theorem gd_c_listPieces : ∀ w ∈ wm_c_listPieces, goodWord w = true := gd_c rfl (gd_a (by decide) (gd_a gd_wsX70 (gd_a gd_c_hasPiece (gd_a gd_c_stateOf gd_nil))))
set_option maxRecDepth 20000 in
theorem im_c_listPieces : ∀ w ∈ wm_c_listPieces, w ∈ lw_tbl := im_c (in_r [.code yX7_listPieces cX7_listPieces 4 (some .boolean)] [1026] (by decide +kernel)) (in_app (in_r wo_c_listPieces [518, 515, 1027, 841, 842, 71, 516, 1028, 768, 769, 83, 517] (by decide +kernel)) (in_app im_wsX70 (in_app im_c_hasPiece (in_app im_c_stateOf im_nil))))
set_option maxHeartbeats 4000000 in
set_option maxRecDepth 100000 in
theorem c_listPieces (l : Launch) (dC : Nat → ClassId) (dI : Nat → Nat → Nat) (ad av : Nat → Nat) (sz : Nat) (a : Nat → Nat) (k : Nat → ClassId) (τ ln : Nat → Nat) (y : Nat → Nat → Int32) (g : Nat → Nat → Option Nat) (u : Nat → Int) (p0 : Int32) (hI : IC a u τ ln y g) : Met l yX7_listPieces wm_c_listPieces ({ frames := 1, cells := 0, slots := 0, locals := 60 }) (pw_ ad av (dC, dI) sz [.ref (a 6), .int p0] a k τ ln y g) (va_Qi (fun (r u : Int32) => u = r) (fun (r : Int32) (t : State) => (∃ (y' : Nat → Nat → Int32), r = 1 ∧ ag τ [16, 51] y y' ∧ (0 < (y' (a 6) 3).toInt ∧ (y' (a 6) 3).toInt ≤ 5) ∧ vl (y' (a 6) 3).toInt (u 2) (y' (a 41)) ∧ tw (dC, dI) a k τ ln y' g t.heap) ∨ (∃ (y' : Nat → Nat → Int32), r = 0 ∧ ag τ [16, 51] y y' ∧ tw (dC, dI) a k τ ln y' g t.heap)) (fr τ sz)) 0 0 (fr τ sz) := by
  refine Met.ofW (cc := cX7_listPieces) (maxL := 4) (ret := (some .boolean)) (by decide) rfl ?_
  intro p e s m args below meth c s₁ B hml hv
  obtain ⟨rfl, hsz, hT, hK, hM⟩ := hv
  have hx := B.exec
  have hb := B.bytes
  have hr := B.returns
  have hts := atoms_spec (ws := wm_c_listPieces) B.pre
  have hown : s.vm.findClass RX7 = some m.cls := findClass_of_methodNamed B.named
  have hlocks := B.notSynchronized
  subst hsz
  generalize hAe : fr τ s.heap.size = A at hM ⊢
  have hA : ∀ q : Nat, s.heap.size ≤ q → A q := fun q h => by rw [← hAe]; exact Or.inr h
  have hF : ∀ q, τ q ≠ 0 → A q := fun q h => by rw [← hAe]; exact Or.inl h
  have hS : va_S A s.heap s.heap [] := va_S.rf
  have hX := hI.1
  have hR := ic_r hI
  have hG : ag τ [16, 51] y y := ag.rf
  have hl := lv_entry ([.ref (a 6), .int p0]) (n := 4) (Nat.le_of_ble_eq_true rfl)
  rw [lg_entry_eq]
  generalize (lg_sl ([.ref (a 6), .int p0]) ++ List.replicate (4 - (lg_sl ([.ref (a 6), .int p0])).length) Slot.unset).toArray = ls at hl ⊢
  have hl : lv_has ls 4 [(0, .ref (a 6)), (1, .int p0)] := hl
  refine lv_aload_n hx hb dX7_listPieces_0 rfl (lv_at hl 0 rfl) ?_
  refine lv_iconst (v := 0) hx hb dX7_listPieces_1 (by decide) ?_
  refine tw_put (D := (dC, dI)) (x := 0) (ty := .int) (C := RX7) (T := TX7) (N := 13) hx hb hts (fun _ hh => (List.mem_cons_of_mem _ (List.mem_append_right _ (List.mem_append_left _ hh)))) tyX7 tyX7_ok nmX7 hown hK hT hF hS (fx_6 hX) (by decide) cl_e16 rfl 3 (by decide) (hts (.fieldLink RX7 42 "TypingPool$Planner" "pieceCount" "I") (List.mem_cons_of_mem _ (List.mem_append_left _ (List.mem_of_getElem? (i := 0) rfl)))) (fun _ h9 => h9) rfl (tyX7_ok 3 (by decide)) rfl rfl (Nat.le_of_ble_eq_true rfl) rfl dX7_listPieces_2 (fun H locs hT hS => ?_)
  obtain ⟨y_1, hy_1, hT⟩ : ∃ z : Nat → Nat → Int32, z = up2 y (a 6) 3 (0 : Int32) ∧ tw (dC, dI) a k τ ln z g H := ⟨_, rfl, hT⟩
  have hG : ag τ [16, 51] y y_1 := by rw [hy_1]; exact hG.up (fx_6 hX) (by decide)
  have : (y_1 (a 6) 3).toInt = 0 := (congrArg Int32.toInt (show y_1 (a 6) 3 = (0 : Int32) from by rw [hy_1]; exact up2_i)).trans (zk (x := 0) 0 rfl)
  have hI := hI.ag (S := [16]) (y' := y_1) (by rw [hy_1]; exact ag.one (fx_6 hX)) (by decide)
  refine lv_iconst (v := 0) hx hb dX7_listPieces_5 (by decide) ?_
  refine lv_istore_n (lv' := [(2, .int 0), (0, .ref (a 6)), (1, .int p0)]) hx hb dX7_listPieces_6 rfl hl (by decide) rfl (fun ls hl => ?_)
  have loop_7 : ∀ (n : Nat) (i2 : Int32) (y_L7 : Nat → Nat → Int32) (H : Heap) (locs : List Loc) (ls : Array Slot), (32 - i2.toInt).toNat < n → ag τ [16, 51] y y_L7 → IC a u τ ln y_L7 g → 0 ≤ i2.toInt → i2.toInt ≤ 32 → 0 ≤ (y_L7 (a 6) 3).toInt ∧ (y_L7 (a 6) 3).toInt ≤ 5 → vl (y_L7 (a 6) 3).toInt (u 2) (y_L7 (a 41)) → tw (dC, dI) a k τ ln y_L7 g H → va_S A s.heap H locs → lv_has ls 4 [(0, .ref (a 6)), (1, .int p0), (2, .int i2)] → W p l e (headSpec wm_c_listPieces ({ frames := 1, cells := 0, slots := 0, locals := 60 })).room s m ([.ref (a 6), .int p0] : List Value).toArray below meth c H locs 0 0 (MQ below (va_Qi (fun (r u : Int32) => u = r) (fun (r : Int32) (t : State) => (∃ (y' : Nat → Nat → Int32), r = 1 ∧ ag τ [16, 51] y y' ∧ (0 < (y' (a 6) 3).toInt ∧ (y' (a 6) 3).toInt ≤ 5) ∧ vl (y' (a 6) 3).toInt (u 2) (y' (a 41)) ∧ tw (dC, dI) a k τ ln y' g t.heap) ∨ (∃ (y' : Nat → Nat → Int32), r = 0 ∧ ag τ [16, 51] y y' ∧ tw (dC, dI) a k τ ln y' g t.heap)) A) ([.ref (a 6), .int p0] : List Value).toArray s 0 0 A) (F0 m 7 ls []) := by
    intro n
    induction n with
    | zero => intro i2 y_L7 H locs ls hlt; exact absurd hlt (Nat.not_lt_zero _)
    | succ n ih_7 =>
      intro i2 y_L7 H locs ls hlt hG hI hi7_0 hi7_1 hi7_2 hi7_3 hT hS hl
      refine lv_iload_n hx hb dX7_listPieces_7 rfl (lv_at hl 2 rfl) ?_
      refine lv_bipush (v := 32) hx hb dX7_listPieces_8 (by decide) ?_
      refine lv_icmp_ge (tgt := 91) hx hb dX7_listPieces_10 (by decide) (fun c_2 => ?_) (fun c_2 => ?_)
      · have nc_2 := z_le (zk (x := 32) 32 rfl) rfl c_2
        refine lv_aload_n hx hb dX7_listPieces_91 rfl (lv_at hl 0 rfl) ?_
        refine tw_get (D := (dC, dI)) (v := .int (y_L7 (a 6) 3)) (C := RX7) (T := TX7) (N := 13) hx hb hts (fun _ hh => (List.mem_cons_of_mem _ (List.mem_append_right _ (List.mem_append_left _ hh)))) hown hK hT (fx_6 hX) (by decide) cl_e16 rfl 3 (by decide) (hts (.fieldLink RX7 42 "TypingPool$Planner" "pieceCount" "I") (List.mem_cons_of_mem _ (List.mem_append_left _ (List.mem_of_getElem? (i := 0) rfl)))) (fun _ h9 => h9) rfl dX7_listPieces_92 ?_
        refine lv_if_le (tgt := 102) hx hb dX7_listPieces_95 (by decide) (fun c_3 => ?_) (fun c_3 => ?_)
        · have nc_3 := z_le rfl (zk (x := 0) 0 rfl) c_3
          refine lv_iconst (v := 0) hx hb dX7_listPieces_102 (by decide) ?_
          exact W.zret (v := 0) hx hb hr (by decide) (fun t ht hW9 => ⟨⟨0, 0, rfl, rfl, Or.inr (⟨y_L7, rfl, hG, tw_at ht hT⟩)⟩, hS.F ht⟩) hS.2.2 dX7_listPieces_103
        · have nc_3 := z_nle rfl (zk (x := 0) 0 rfl) c_3
          refine lv_iconst (v := 1) hx hb dX7_listPieces_98 (by decide) ?_
          refine lv_goto (tgt := 103) hx hb dX7_listPieces_99 (by decide) ?_
          have hrv : (1 : Int32).toInt = 1 := (zk (x := 1) 1 rfl)
          exact W.zret (v := 1) hx hb hr (by decide) (fun t ht hW9 => ⟨⟨1, 1, rfl, rfl, Or.inl ⟨y_L7, rfl, hG, by omega, hi7_3, tw_at ht hT⟩⟩, hS.F ht⟩) hS.2.2 dX7_listPieces_103
      · have nc_2 := z_nle (zk (x := 32) 32 rfl) rfl c_2
        refine lv_iload_n hx hb dX7_listPieces_13 rfl (lv_at hl 1 rfl) ?_
        refine lv_iload_n hx hb dX7_listPieces_14 rfl (lv_at hl 2 rfl) ?_
        refine lv_iushr hx hb dX7_listPieces_15 rfl ?_
        refine lv_topi (fun x_4 ex_4 => ?_)
        refine lv_iconst (v := 1) hx hb dX7_listPieces_16 (by decide) ?_
        refine lv_iand hx hb dX7_listPieces_17 ?_
        refine lv_topi (fun x_5 ex_5 => ?_)
        have hx_5 := z_and (x := x_4) (zk (x := 1) 1 rfl) (by omega)
        rw [← ex_5] at hx_5
        refine lv_iconst (v := 1) hx hb dX7_listPieces_18 (by decide) ?_
        refine lv_icmp_ne (tgt := 85) hx hb dX7_listPieces_19 (by decide) (fun c_6 => ?_) (fun c_6 => ?_)
        · have nc_6 := z_ne rfl (zk (x := 1) 1 rfl) c_6
          obtain ⟨x_7, ex_7⟩ : ∃ y : Int32, y = i2 + Int32.ofInt 1 := ⟨_, rfl⟩
          have hx_7 := z_add ex_7 rfl (zk (x := Int32.ofInt 1) 1 rfl) (by omega) (by omega)
          refine lv_iinc (v := x_7) (lv' := [(2, .int x_7), (0, .ref (a 6)), (1, .int p0)]) hx hb dX7_listPieces_85 hl (k := 2) rfl ex_7.symm (by decide) rfl (fun ls hl => ?_)
          refine lv_goto (tgt := 7) hx hb dX7_listPieces_88 (by decide) ?_
          exact ih_7  x_7 y_L7 H _ ls (by omega) hG hI (by omega) (by omega) (by omega) hi7_3 hT hS (lv_sub hl [1, 2, 0] rfl)
        · have nc_6 := z_eq rfl (zk (x := 1) 1 rfl) c_6
          refine lv_aload_n hx hb dX7_listPieces_22 rfl (lv_at hl 0 rfl) ?_
          refine tw_get (D := (dC, dI)) (v := .ref (a 1)) (C := RX7) (T := TX7) (N := 13) hx hb hts (fun _ hh => (List.mem_cons_of_mem _ (List.mem_append_right _ (List.mem_append_left _ hh)))) hown hK hT (fx_6 hX) (by decide) cl_e16 rfl 0 (by decide) (hts (.fieldLink RX7 27 "TypingPool$Planner" "book" "LTypingPool$Book;") (List.mem_cons_of_mem _ (List.mem_append_left _ (List.mem_of_getElem? (i := 1) rfl)))) (fun _ h9 => h9) rfl dX7_listPieces_23 ?_
          refine lv_iload_n hx hb dX7_listPieces_26 rfl (lv_at hl 2 rfl) ?_
          have hFc := tw_free hF hS hA
          refine va_calli (va_runV (As := [.int i2]) (rest := []) ⟨hx, hb, hml, hown, hts⟩ (c_hasPiece l dC dI ad av H.size a k τ ln y_L7 g u i2 hI ) (cwV 1 hts (gi_4 (List.mem_cons_of_mem _ (List.mem_append_left _ (List.mem_of_getElem? (i := 2) rfl))) (List.mem_cons_of_mem _ (List.mem_append_left _ (List.mem_of_getElem? (i := 3) rfl))) (List.mem_cons_of_mem _ (List.mem_append_left _ (List.mem_of_getElem? (i := 4) rfl))) (List.mem_cons_of_mem _ (List.mem_append_left _ (List.mem_of_getElem? (i := 5) rfl))) (fun _ hh => (List.mem_cons_of_mem _ (List.mem_append_right _ (List.mem_append_right _ (List.mem_append_left _ hh))))) gd_c_hasPiece) rfl rfl rfl (by decide +kernel) ⟨Nat.le_of_ble_eq_true rfl, Nat.le_of_ble_eq_true rfl⟩) ⟨pw_blind, tw_recv hK hT (fx_1 hX) (by decide) cl_e11 rfl, pw_use hT hK hFc hS hM⟩ rfl rfl hl.1 rfl (lv_room (Nat.le_of_ble_eq_true rfl)) dX7_listPieces_27 ⟨Nat.le_of_ble_eq_true rfl, Nat.le_of_ble_eq_true rfl⟩) hS (fun q _ h => hFc q h) hFc (fun r0 r_8 t H locs ht hvm hw hB hz1 hk1 hS => ?_)
          refine W.widen (k := 0) (n := 0) (Nat.le_of_ble_eq_true rfl) (Nat.le_of_ble_eq_true rfl) ?_
          clear hvm hz1 hk1
          subst hw
          rcases hB with ⟨hre, hf_9, hf_10, hT⟩ | ⟨hre, hf_11, hT⟩
          · refine lq_top (v := 1) hre ?_
            rw [ht] at hT
            refine lv_if_eq (tgt := 57) hx hb dX7_listPieces_30 (by decide) (fun c_12 => absurd c_12 (by decide)) (fun c_12 => ?_)
            refine lv_aload_n hx hb dX7_listPieces_33 rfl (lv_at hl 0 rfl) ?_
            refine tw_get (D := (dC, dI)) (v := .ref (a 3)) (C := RX7) (T := TX7) (N := 13) hx hb hts (fun _ hh => (List.mem_cons_of_mem _ (List.mem_append_right _ (List.mem_append_left _ hh)))) hown hK hT (fx_6 hX) (by decide) cl_e16 rfl 1 (by decide) (hts (.fieldLink RX7 31 "TypingPool$Planner" "floor" "LTypingPool$Floor;") (List.mem_cons_of_mem _ (List.mem_append_left _ (List.mem_of_getElem? (i := 6) rfl)))) (fun _ h9 => h9) rfl dX7_listPieces_34 ?_
            refine lv_iload_n hx hb dX7_listPieces_37 rfl (lv_at hl 2 rfl) ?_
            have hFc := tw_free hF hS hA
            refine va_calli (va_runV (As := [.int i2]) (rest := []) ⟨hx, hb, hml, hown, hts⟩ (c_stateOf l dC dI ad av H.size a k τ ln y_L7 g u i2 hI (by omega) (by omega)) (cwV 1 hts (gi_4 (List.mem_cons_of_mem _ (List.mem_append_left _ (List.mem_of_getElem? (i := 7) rfl))) (List.mem_cons_of_mem _ (List.mem_append_left _ (List.mem_of_getElem? (i := 8) rfl))) (List.mem_cons_of_mem _ (List.mem_append_left _ (List.mem_of_getElem? (i := 9) rfl))) (List.mem_cons_of_mem _ (List.mem_append_left _ (List.mem_of_getElem? (i := 10) rfl))) (fun _ hh => (List.mem_cons_of_mem _ (List.mem_append_right _ (List.mem_append_right _ (List.mem_append_right _ (List.mem_append_left _ hh)))))) gd_c_stateOf) rfl rfl rfl (by decide +kernel) ⟨Nat.le_of_ble_eq_true rfl, Nat.le_of_ble_eq_true rfl⟩) ⟨pw_blind, tw_recv hK hT (fx_3 hX) (by decide) cl_e13 rfl, pw_use hT hK hFc hS hM⟩ rfl rfl hl.1 rfl (lv_room (Nat.le_of_ble_eq_true rfl)) dX7_listPieces_38 ⟨Nat.le_of_ble_eq_true rfl, Nat.le_of_ble_eq_true rfl⟩) hS (fun q _ h => hFc q h) hFc (fun r0 r_13 t H locs ht hvm hw hB hz1 hk1 hS => ?_)
            refine W.widen (k := 0) (n := 0) (Nat.le_of_ble_eq_true rfl) (Nat.le_of_ble_eq_true rfl) ?_
            clear hvm hz1 hk1
            subst hw
            have hT := hB
            rw [ht] at hT
            refine lv_iconst (v := 1) hx hb dX7_listPieces_41 (by decide) ?_
            refine lv_icmp_ne (tgt := 57) hx hb dX7_listPieces_42 (by decide) (fun c_14 => ?_) (fun c_14 => ?_)
            · have nc_14 := z_ne rfl (zk (x := 1) 1 rfl) c_14
              refine lv_iconst (v := 0) hx hb dX7_listPieces_57 (by decide) ?_
              refine lv_istore_n (lv' := [(3, .int 0), (0, .ref (a 6)), (1, .int p0), (2, .int i2)]) hx hb dX7_listPieces_58 rfl hl (by decide) rfl (fun ls hl => ?_)
              refine lv_iload_n hx hb dX7_listPieces_59 rfl (lv_at hl 0 rfl) ?_
              refine lv_if_ne (tgt := 65) hx hb dX7_listPieces_60 (by decide) (fun c_15 => absurd c_15 (by decide)) (fun c_15 => ?_)
              refine lv_iconst (v := 0) hx hb dX7_listPieces_63 (by decide) ?_
              exact W.zret (v := 0) hx hb hr (by decide) (fun t ht hW9 => ⟨⟨0, 0, rfl, rfl, Or.inr (⟨y_L7, rfl, hG, tw_at ht hT⟩)⟩, hS.F ht⟩) hS.2.2 dX7_listPieces_64
            · have nc_14 := z_eq rfl (zk (x := 1) 1 rfl) c_14
              refine lv_aload_n hx hb dX7_listPieces_45 rfl (lv_at hl 0 rfl) ?_
              refine tw_get (D := (dC, dI)) (v := .int (y_L7 (a 6) 3)) (C := RX7) (T := TX7) (N := 13) hx hb hts (fun _ hh => (List.mem_cons_of_mem _ (List.mem_append_right _ (List.mem_append_left _ hh)))) hown hK hT (fx_6 hX) (by decide) cl_e16 rfl 3 (by decide) (hts (.fieldLink RX7 42 "TypingPool$Planner" "pieceCount" "I") (List.mem_cons_of_mem _ (List.mem_append_left _ (List.mem_of_getElem? (i := 0) rfl)))) (fun _ h9 => h9) rfl dX7_listPieces_46 ?_
              refine lv_iconst (v := 5) hx hb dX7_listPieces_49 (by decide) ?_
              refine lv_icmp_ge (tgt := 57) hx hb dX7_listPieces_50 (by decide) (fun c_16 => ?_) (fun c_16 => ?_)
              · have nc_16 := z_le (zk (x := 5) 5 rfl) rfl c_16
                refine lv_iconst (v := 0) hx hb dX7_listPieces_57 (by decide) ?_
                refine lv_istore_n (lv' := [(3, .int 0), (0, .ref (a 6)), (1, .int p0), (2, .int i2)]) hx hb dX7_listPieces_58 rfl hl (by decide) rfl (fun ls hl => ?_)
                refine lv_iload_n hx hb dX7_listPieces_59 rfl (lv_at hl 0 rfl) ?_
                refine lv_if_ne (tgt := 65) hx hb dX7_listPieces_60 (by decide) (fun c_17 => absurd c_17 (by decide)) (fun c_17 => ?_)
                refine lv_iconst (v := 0) hx hb dX7_listPieces_63 (by decide) ?_
                exact W.zret (v := 0) hx hb hr (by decide) (fun t ht hW9 => ⟨⟨0, 0, rfl, rfl, Or.inr (⟨y_L7, rfl, hG, tw_at ht hT⟩)⟩, hS.F ht⟩) hS.2.2 dX7_listPieces_64
              · have nc_16 := z_nle (zk (x := 5) 5 rfl) rfl c_16
                refine lv_iconst (v := 1) hx hb dX7_listPieces_53 (by decide) ?_
                refine lv_goto (tgt := 58) hx hb dX7_listPieces_54 (by decide) ?_
                refine lv_istore_n (lv' := [(3, .int 1), (0, .ref (a 6)), (1, .int p0), (2, .int i2)]) hx hb dX7_listPieces_58 rfl hl (by decide) rfl (fun ls hl => ?_)
                refine lv_iload_n hx hb dX7_listPieces_59 rfl (lv_at hl 0 rfl) ?_
                refine lv_if_ne (tgt := 65) hx hb dX7_listPieces_60 (by decide) (fun c_18 => ?_) (fun c_18 => absurd c_18 (by decide))
                refine lv_aload_n hx hb dX7_listPieces_65 rfl (lv_at hl 1 rfl) ?_
                refine tw_get (D := (dC, dI)) (v := .ref (a 41)) (C := RX7) (T := TX7) (N := 13) hx hb hts (fun _ hh => (List.mem_cons_of_mem _ (List.mem_append_right _ (List.mem_append_left _ hh)))) hown hK hT (fx_6 hX) (by decide) cl_e16 rfl 2 (by decide) (hts (.fieldLink RX7 9 "TypingPool$Planner" "pieces" "[I") (List.mem_cons_of_mem _ (List.mem_append_left _ (List.mem_of_getElem? (i := 11) rfl)))) (fun _ h9 => h9) rfl dX7_listPieces_66 ?_
                refine lv_aload_n hx hb dX7_listPieces_69 rfl (lv_at hl 1 rfl) ?_
                refine tw_get (D := (dC, dI)) (v := .int (y_L7 (a 6) 3)) (C := RX7) (T := TX7) (N := 13) hx hb hts (fun _ hh => (List.mem_cons_of_mem _ (List.mem_append_right _ (List.mem_append_left _ hh)))) hown hK hT (fx_6 hX) (by decide) cl_e16 rfl 3 (by decide) (hts (.fieldLink RX7 42 "TypingPool$Planner" "pieceCount" "I") (List.mem_cons_of_mem _ (List.mem_append_left _ (List.mem_of_getElem? (i := 0) rfl)))) (fun _ h9 => h9) rfl dX7_listPieces_70 ?_
                refine lv_iload_n hx hb dX7_listPieces_73 rfl (lv_at hl 3 rfl) ?_
                refine tw_iast hx hb hK hT hF hS 0 (fx_41 hX) (by decide) (fun _ => cl_e51) rfl (z_in rfl (by omega) (by omega)) dX7_listPieces_74 (fun H locs hT hS => ?_)
                obtain ⟨y_19, hy_19, hT⟩ : ∃ z : Nat → Nat → Int32, z = up2 y_L7 (a 41) ((y_L7 (a 6) 3).toNatClampNeg) i2 ∧ tw (dC, dI) a k τ ln z g H := ⟨_, rfl, hT⟩
                have hG : ag τ [16, 51] y y_19 := by rw [hy_19]; exact hG.up (fx_41 hX) (by decide)
                have : (y_19 (a 6) 3).toInt = (y_L7 (a 6) 3).toInt := by rw [hy_19, up2_o (kd_ne (fx_6 hX) (fx_41 hX) (by decide))]
                have hI := hI.ag (S := [51]) (y' := y_19) (by rw [hy_19]; exact ag.one (fx_41 hX)) (by decide)
                refine lv_aload_n hx hb dX7_listPieces_75 rfl (lv_at hl 1 rfl) ?_
                refine lv_dup hx hb dX7_listPieces_76 rfl ?_
                refine tw_get (D := (dC, dI)) (v := .int (y_19 (a 6) 3)) (C := RX7) (T := TX7) (N := 13) hx hb hts (fun _ hh => (List.mem_cons_of_mem _ (List.mem_append_right _ (List.mem_append_left _ hh)))) hown hK hT (fx_6 hX) (by decide) cl_e16 rfl 3 (by decide) (hts (.fieldLink RX7 42 "TypingPool$Planner" "pieceCount" "I") (List.mem_cons_of_mem _ (List.mem_append_left _ (List.mem_of_getElem? (i := 0) rfl)))) (fun _ h9 => h9) rfl dX7_listPieces_77 ?_
                refine lv_iconst (v := 1) hx hb dX7_listPieces_80 (by decide) ?_
                refine lv_iadd hx hb dX7_listPieces_81 ?_
                refine lv_topi (fun x_20 ex_20 => ?_)
                have hx_20 := z_add ex_20 rfl (zk (x := 1) 1 rfl) (by omega) (by omega)
                refine tw_put (D := (dC, dI)) (x := x_20) (ty := .int) (C := RX7) (T := TX7) (N := 13) hx hb hts (fun _ hh => (List.mem_cons_of_mem _ (List.mem_append_right _ (List.mem_append_left _ hh)))) tyX7 tyX7_ok nmX7 hown hK hT hF hS (fx_6 hX) (by decide) cl_e16 rfl 3 (by decide) (hts (.fieldLink RX7 42 "TypingPool$Planner" "pieceCount" "I") (List.mem_cons_of_mem _ (List.mem_append_left _ (List.mem_of_getElem? (i := 0) rfl)))) (fun _ h9 => h9) rfl (tyX7_ok 3 (by decide)) rfl rfl (Nat.le_of_ble_eq_true rfl) rfl dX7_listPieces_82 (fun H locs hT hS => ?_)
                obtain ⟨y_21, hy_21, hT⟩ : ∃ z : Nat → Nat → Int32, z = up2 y_19 (a 6) 3 x_20 ∧ tw (dC, dI) a k τ ln z g H := ⟨_, rfl, hT⟩
                have hG : ag τ [16, 51] y y_21 := by rw [hy_21]; exact hG.up (fx_6 hX) (by decide)
                have : (y_21 (a 6) 3).toInt = x_20.toInt := (congrArg Int32.toInt (show y_21 (a 6) 3 = x_20 from by rw [hy_21]; exact up2_i)).trans rfl
                have hI := hI.ag (S := [16]) (y' := y_21) (by rw [hy_21]; exact ag.one (fx_6 hX)) (by decide)
                obtain ⟨x_22, ex_22⟩ : ∃ y : Int32, y = i2 + Int32.ofInt 1 := ⟨_, rfl⟩
                have hx_22 := z_add ex_22 rfl (zk (x := Int32.ofInt 1) 1 rfl) (by omega) (by omega)
                refine lv_iinc (v := x_22) (lv' := [(2, .int x_22), (3, .int 1), (0, .ref (a 6)), (1, .int p0)]) hx hb dX7_listPieces_85 hl (k := 3) rfl ex_22.symm (by decide) rfl (fun ls hl => ?_)
                refine lv_goto (tgt := 7) hx hb dX7_listPieces_88 (by decide) ?_
                exact ih_7  x_22 y_21 H _ ls (by omega) hG hI (by omega) (by omega) (by omega) (vl_step hi7_3 hy_19 rfl (by omega) (by omega) rfl (by omega) (by omega) (by rw [hy_21]; exact up2_o (kd_ne (fx_41 hX) (fx_6 hX) (by decide))) (by omega)) hT hS (lv_sub hl [2, 3, 0] rfl)
          · refine lq_top (v := 0) hre ?_
            rw [ht] at hT
            refine lv_if_eq (tgt := 57) hx hb dX7_listPieces_30 (by decide) (fun c_23 => ?_) (fun c_23 => absurd c_23 (by decide))
            refine lv_iconst (v := 0) hx hb dX7_listPieces_57 (by decide) ?_
            refine lv_istore_n (lv' := [(3, .int 0), (0, .ref (a 6)), (1, .int p0), (2, .int i2)]) hx hb dX7_listPieces_58 rfl hl (by decide) rfl (fun ls hl => ?_)
            refine lv_iload_n hx hb dX7_listPieces_59 rfl (lv_at hl 0 rfl) ?_
            refine lv_if_ne (tgt := 65) hx hb dX7_listPieces_60 (by decide) (fun c_24 => absurd c_24 (by decide)) (fun c_24 => ?_)
            refine lv_iconst (v := 0) hx hb dX7_listPieces_63 (by decide) ?_
            exact W.zret (v := 0) hx hb hr (by decide) (fun t ht hW9 => ⟨⟨0, 0, rfl, rfl, Or.inr (⟨y_L7, rfl, hG, tw_at ht hT⟩)⟩, hS.F ht⟩) hS.2.2 dX7_listPieces_64
  have hp_25 : (0 : Int32).toInt = 0 := (zk (x := 0) 0 rfl)
  exact loop_7 _ (0 : Int32) y_1 H _ ls (Nat.lt_succ_self _) hG hI (by omega) (by omega) (by omega) (vl_0 (by omega)) hT hS (lv_sub hl [1, 2, 0] rfl)
def wo_c_listHands : List Cond := [.fieldLink RX7 78 "TypingPool$Planner" "handCount" "I", .fieldLink RX7 27 "TypingPool$Planner" "book" "LTypingPool$Book;", .methodLink RX7 81 yX1_hasHand, .instanceMethod yX1_hasHand, .selects RX1 yX1_hasHand yX1_hasHand, .initialized RX1, .fieldLink RX7 15 "TypingPool$Planner" "hands" "[I"]
def wm_c_listHands : List Cond := .code yX7_listHands cX7_listHands 3 (some .boolean) :: (wo_c_listHands ++ (wsX70 ++ (wm_c_hasHand ++ ([] : List Cond))))
theorem gd_c_listHands : ∀ w ∈ wm_c_listHands, goodWord w = true := gd_c rfl (gd_a (by decide) (gd_a gd_wsX70 (gd_a gd_c_hasHand gd_nil)))
set_option maxRecDepth 20000 in
theorem im_c_listHands : ∀ w ∈ wm_c_listHands, w ∈ lw_tbl := im_c (in_r [.code yX7_listHands cX7_listHands 3 (some .boolean)] [1032] (by decide +kernel)) (in_app (in_r wo_c_listHands [520, 515, 1033, 630, 631, 71, 519] (by decide +kernel)) (in_app im_wsX70 (in_app im_c_hasHand im_nil)))
set_option maxHeartbeats 4000000 in
set_option maxRecDepth 100000 in
theorem c_listHands (l : Launch) (dC : Nat → ClassId) (dI : Nat → Nat → Nat) (ad av : Nat → Nat) (sz : Nat) (a : Nat → Nat) (k : Nat → ClassId) (τ ln : Nat → Nat) (y : Nat → Nat → Int32) (g : Nat → Nat → Option Nat) (u : Nat → Int) (p0 : Int32) (hI : IC a u τ ln y g) : Met l yX7_listHands wm_c_listHands ({ frames := 1, cells := 0, slots := 0, locals := 60 }) (pw_ ad av (dC, dI) sz [.ref (a 6), .int p0] a k τ ln y g) (va_Qi (fun (r u : Int32) => u = r) (fun (r : Int32) (t : State) => (∃ (y' : Nat → Nat → Int32), r = 1 ∧ ag τ [16, 52] y y' ∧ (0 < (y' (a 6) 5).toInt ∧ (y' (a 6) 5).toInt ≤ 3) ∧ vl (y' (a 6) 5).toInt (u 1) (y' (a 42)) ∧ (y' (a 6) 3).toInt = (y (a 6) 3).toInt ∧ tw (dC, dI) a k τ ln y' g t.heap) ∨ (∃ (y' : Nat → Nat → Int32), r = 0 ∧ ag τ [16, 52] y y' ∧ tw (dC, dI) a k τ ln y' g t.heap)) (fr τ sz)) 0 0 (fr τ sz) := by
  refine Met.ofW (cc := cX7_listHands) (maxL := 3) (ret := (some .boolean)) (by decide) rfl ?_
  intro p e s m args below meth c s₁ B hml hv
  obtain ⟨rfl, hsz, hT, hK, hM⟩ := hv
  have hx := B.exec
  have hb := B.bytes
  have hr := B.returns
  have hts := atoms_spec (ws := wm_c_listHands) B.pre
  have hown : s.vm.findClass RX7 = some m.cls := findClass_of_methodNamed B.named
  have hlocks := B.notSynchronized
  subst hsz
  generalize hAe : fr τ s.heap.size = A at hM ⊢
  have hA : ∀ q : Nat, s.heap.size ≤ q → A q := fun q h => by rw [← hAe]; exact Or.inr h
  have hF : ∀ q, τ q ≠ 0 → A q := fun q h => by rw [← hAe]; exact Or.inl h
  have hS : va_S A s.heap s.heap [] := va_S.rf
  have hX := hI.1
  have hR := ic_r hI
  have hG : ag τ [16, 52] y y := ag.rf
  have hl := lv_entry ([.ref (a 6), .int p0]) (n := 3) (Nat.le_of_ble_eq_true rfl)
  rw [lg_entry_eq]
  generalize (lg_sl ([.ref (a 6), .int p0]) ++ List.replicate (3 - (lg_sl ([.ref (a 6), .int p0])).length) Slot.unset).toArray = ls at hl ⊢
  have hl : lv_has ls 3 [(0, .ref (a 6)), (1, .int p0)] := hl
  refine lv_aload_n hx hb dX7_listHands_0 rfl (lv_at hl 0 rfl) ?_
  refine lv_iconst (v := 0) hx hb dX7_listHands_1 (by decide) ?_
  refine tw_put (D := (dC, dI)) (x := 0) (ty := .int) (C := RX7) (T := TX7) (N := 13) hx hb hts (fun _ hh => (List.mem_cons_of_mem _ (List.mem_append_right _ (List.mem_append_left _ hh)))) tyX7 tyX7_ok nmX7 hown hK hT hF hS (fx_6 hX) (by decide) cl_e16 rfl 5 (by decide) (hts (.fieldLink RX7 78 "TypingPool$Planner" "handCount" "I") (List.mem_cons_of_mem _ (List.mem_append_left _ (List.mem_of_getElem? (i := 0) rfl)))) (fun _ h9 => h9) rfl (tyX7_ok 5 (by decide)) rfl rfl (Nat.le_of_ble_eq_true rfl) rfl dX7_listHands_2 (fun H locs hT hS => ?_)
  obtain ⟨y_1, hy_1, hT⟩ : ∃ z : Nat → Nat → Int32, z = up2 y (a 6) 5 (0 : Int32) ∧ tw (dC, dI) a k τ ln z g H := ⟨_, rfl, hT⟩
  have hG : ag τ [16, 52] y y_1 := by rw [hy_1]; exact hG.up (fx_6 hX) (by decide)
  have : (y_1 (a 6) 3).toInt = (y (a 6) 3).toInt := by rw [hy_1, up2_e (by decide)]
  have : (y_1 (a 6) 5).toInt = 0 := (congrArg Int32.toInt (show y_1 (a 6) 5 = (0 : Int32) from by rw [hy_1]; exact up2_i)).trans (zk (x := 0) 0 rfl)
  have : (y_1 (a 6) 9).toInt = (y (a 6) 9).toInt := by rw [hy_1, up2_e (by decide)]
  have hI := hI.ag (S := [16]) (y' := y_1) (by rw [hy_1]; exact ag.one (fx_6 hX)) (by decide)
  refine lv_iconst (v := 0) hx hb dX7_listHands_5 (by decide) ?_
  refine lv_istore_n (lv' := [(2, .int 0), (0, .ref (a 6)), (1, .int p0)]) hx hb dX7_listHands_6 rfl hl (by decide) rfl (fun ls hl => ?_)
  have loop_7 : ∀ (n : Nat) (i2 : Int32) (y_L7 : Nat → Nat → Int32) (H : Heap) (locs : List Loc) (ls : Array Slot), (32 - i2.toInt).toNat < n → ag τ [16, 52] y y_L7 → IC a u τ ln y_L7 g → 0 ≤ i2.toInt → i2.toInt ≤ 32 → 0 ≤ (y_L7 (a 6) 5).toInt ∧ (y_L7 (a 6) 5).toInt ≤ 3 → vl (y_L7 (a 6) 5).toInt (u 1) (y_L7 (a 42)) → (y_L7 (a 6) 3).toInt = (y (a 6) 3).toInt → tw (dC, dI) a k τ ln y_L7 g H → va_S A s.heap H locs → lv_has ls 3 [(0, .ref (a 6)), (1, .int p0), (2, .int i2)] → W p l e (headSpec wm_c_listHands ({ frames := 1, cells := 0, slots := 0, locals := 60 })).room s m ([.ref (a 6), .int p0] : List Value).toArray below meth c H locs 0 0 (MQ below (va_Qi (fun (r u : Int32) => u = r) (fun (r : Int32) (t : State) => (∃ (y' : Nat → Nat → Int32), r = 1 ∧ ag τ [16, 52] y y' ∧ (0 < (y' (a 6) 5).toInt ∧ (y' (a 6) 5).toInt ≤ 3) ∧ vl (y' (a 6) 5).toInt (u 1) (y' (a 42)) ∧ (y' (a 6) 3).toInt = (y (a 6) 3).toInt ∧ tw (dC, dI) a k τ ln y' g t.heap) ∨ (∃ (y' : Nat → Nat → Int32), r = 0 ∧ ag τ [16, 52] y y' ∧ tw (dC, dI) a k τ ln y' g t.heap)) A) ([.ref (a 6), .int p0] : List Value).toArray s 0 0 A) (F0 m 7 ls []) := by
    intro n
    induction n with
    | zero => intro i2 y_L7 H locs ls hlt; exact absurd hlt (Nat.not_lt_zero _)
    | succ n ih_7 =>
      intro i2 y_L7 H locs ls hlt hG hI hi7_0 hi7_1 hi7_2 hi7_3 hi7_4 hT hS hl
      refine lv_iload_n hx hb dX7_listHands_7 rfl (lv_at hl 2 rfl) ?_
      refine lv_bipush (v := 32) hx hb dX7_listHands_8 (by decide) ?_
      refine lv_icmp_ge (tgt := 69) hx hb dX7_listHands_10 (by decide) (fun c_2 => ?_) (fun c_2 => ?_)
      · have nc_2 := z_le (zk (x := 32) 32 rfl) rfl c_2
        refine lv_aload_n hx hb dX7_listHands_69 rfl (lv_at hl 0 rfl) ?_
        refine tw_get (D := (dC, dI)) (v := .int (y_L7 (a 6) 5)) (C := RX7) (T := TX7) (N := 13) hx hb hts (fun _ hh => (List.mem_cons_of_mem _ (List.mem_append_right _ (List.mem_append_left _ hh)))) hown hK hT (fx_6 hX) (by decide) cl_e16 rfl 5 (by decide) (hts (.fieldLink RX7 78 "TypingPool$Planner" "handCount" "I") (List.mem_cons_of_mem _ (List.mem_append_left _ (List.mem_of_getElem? (i := 0) rfl)))) (fun _ h9 => h9) rfl dX7_listHands_70 ?_
        refine lv_if_le (tgt := 80) hx hb dX7_listHands_73 (by decide) (fun c_3 => ?_) (fun c_3 => ?_)
        · have nc_3 := z_le rfl (zk (x := 0) 0 rfl) c_3
          refine lv_iconst (v := 0) hx hb dX7_listHands_80 (by decide) ?_
          exact W.zret (v := 0) hx hb hr (by decide) (fun t ht hW9 => ⟨⟨0, 0, rfl, rfl, Or.inr (⟨y_L7, rfl, hG, tw_at ht hT⟩)⟩, hS.F ht⟩) hS.2.2 dX7_listHands_81
        · have nc_3 := z_nle rfl (zk (x := 0) 0 rfl) c_3
          refine lv_iconst (v := 1) hx hb dX7_listHands_76 (by decide) ?_
          refine lv_goto (tgt := 81) hx hb dX7_listHands_77 (by decide) ?_
          have hrv : (1 : Int32).toInt = 1 := (zk (x := 1) 1 rfl)
          exact W.zret (v := 1) hx hb hr (by decide) (fun t ht hW9 => ⟨⟨1, 1, rfl, rfl, Or.inl ⟨y_L7, rfl, hG, by omega, hi7_3, by omega, tw_at ht hT⟩⟩, hS.F ht⟩) hS.2.2 dX7_listHands_81
      · have nc_2 := z_nle (zk (x := 32) 32 rfl) rfl c_2
        refine lv_iload_n hx hb dX7_listHands_13 rfl (lv_at hl 1 rfl) ?_
        refine lv_iload_n hx hb dX7_listHands_14 rfl (lv_at hl 2 rfl) ?_
        refine lv_iushr hx hb dX7_listHands_15 rfl ?_
        refine lv_topi (fun x_4 ex_4 => ?_)
        refine lv_iconst (v := 1) hx hb dX7_listHands_16 (by decide) ?_
        refine lv_iand hx hb dX7_listHands_17 ?_
        refine lv_topi (fun x_5 ex_5 => ?_)
        have hx_5 := z_and (x := x_4) (zk (x := 1) 1 rfl) (by omega)
        rw [← ex_5] at hx_5
        refine lv_iconst (v := 1) hx hb dX7_listHands_18 (by decide) ?_
        refine lv_icmp_ne (tgt := 63) hx hb dX7_listHands_19 (by decide) (fun c_6 => ?_) (fun c_6 => ?_)
        · have nc_6 := z_ne rfl (zk (x := 1) 1 rfl) c_6
          obtain ⟨x_7, ex_7⟩ : ∃ y : Int32, y = i2 + Int32.ofInt 1 := ⟨_, rfl⟩
          have hx_7 := z_add ex_7 rfl (zk (x := Int32.ofInt 1) 1 rfl) (by omega) (by omega)
          refine lv_iinc (v := x_7) (lv' := [(2, .int x_7), (0, .ref (a 6)), (1, .int p0)]) hx hb dX7_listHands_63 hl (k := 2) rfl ex_7.symm (by decide) rfl (fun ls hl => ?_)
          refine lv_goto (tgt := 7) hx hb dX7_listHands_66 (by decide) ?_
          exact ih_7  x_7 y_L7 H _ ls (by omega) hG hI (by omega) (by omega) (by omega) hi7_3 (by omega) hT hS (lv_sub hl [1, 2, 0] rfl)
        · have nc_6 := z_eq rfl (zk (x := 1) 1 rfl) c_6
          refine lv_aload_n hx hb dX7_listHands_22 rfl (lv_at hl 0 rfl) ?_
          refine tw_get (D := (dC, dI)) (v := .ref (a 1)) (C := RX7) (T := TX7) (N := 13) hx hb hts (fun _ hh => (List.mem_cons_of_mem _ (List.mem_append_right _ (List.mem_append_left _ hh)))) hown hK hT (fx_6 hX) (by decide) cl_e16 rfl 0 (by decide) (hts (.fieldLink RX7 27 "TypingPool$Planner" "book" "LTypingPool$Book;") (List.mem_cons_of_mem _ (List.mem_append_left _ (List.mem_of_getElem? (i := 1) rfl)))) (fun _ h9 => h9) rfl dX7_listHands_23 ?_
          refine lv_iload_n hx hb dX7_listHands_26 rfl (lv_at hl 2 rfl) ?_
          have hFc := tw_free hF hS hA
          refine va_calli (va_runV (As := [.int i2]) (rest := []) ⟨hx, hb, hml, hown, hts⟩ (c_hasHand l dC dI ad av H.size a k τ ln y_L7 g u i2 hI ) (cwV 1 hts (gi_4 (List.mem_cons_of_mem _ (List.mem_append_left _ (List.mem_of_getElem? (i := 2) rfl))) (List.mem_cons_of_mem _ (List.mem_append_left _ (List.mem_of_getElem? (i := 3) rfl))) (List.mem_cons_of_mem _ (List.mem_append_left _ (List.mem_of_getElem? (i := 4) rfl))) (List.mem_cons_of_mem _ (List.mem_append_left _ (List.mem_of_getElem? (i := 5) rfl))) (fun _ hh => (List.mem_cons_of_mem _ (List.mem_append_right _ (List.mem_append_right _ (List.mem_append_left _ hh))))) gd_c_hasHand) rfl rfl rfl (by decide +kernel) ⟨Nat.le_of_ble_eq_true rfl, Nat.le_of_ble_eq_true rfl⟩) ⟨pw_blind, tw_recv hK hT (fx_1 hX) (by decide) cl_e11 rfl, pw_use hT hK hFc hS hM⟩ rfl rfl hl.1 rfl (lv_room (Nat.le_of_ble_eq_true rfl)) dX7_listHands_27 ⟨Nat.le_of_ble_eq_true rfl, Nat.le_of_ble_eq_true rfl⟩) hS (fun q _ h => hFc q h) hFc (fun r0 r_8 t H locs ht hvm hw hB hz1 hk1 hS => ?_)
          refine W.widen (k := 0) (n := 0) (Nat.le_of_ble_eq_true rfl) (Nat.le_of_ble_eq_true rfl) ?_
          clear hvm hz1 hk1
          subst hw
          rcases hB with ⟨hre, hf_9, hf_10, hT⟩ | ⟨hre, hf_11, hT⟩
          · refine lq_top (v := 1) hre ?_
            rw [ht] at hT
            refine lv_if_eq (tgt := 41) hx hb dX7_listHands_30 (by decide) (fun c_12 => absurd c_12 (by decide)) (fun c_12 => ?_)
            refine lv_aload_n hx hb dX7_listHands_33 rfl (lv_at hl 0 rfl) ?_
            refine tw_get (D := (dC, dI)) (v := .int (y_L7 (a 6) 5)) (C := RX7) (T := TX7) (N := 13) hx hb hts (fun _ hh => (List.mem_cons_of_mem _ (List.mem_append_right _ (List.mem_append_left _ hh)))) hown hK hT (fx_6 hX) (by decide) cl_e16 rfl 5 (by decide) (hts (.fieldLink RX7 78 "TypingPool$Planner" "handCount" "I") (List.mem_cons_of_mem _ (List.mem_append_left _ (List.mem_of_getElem? (i := 0) rfl)))) (fun _ h9 => h9) rfl dX7_listHands_34 ?_
            refine lv_iconst (v := 3) hx hb dX7_listHands_37 (by decide) ?_
            refine lv_icmp_lt (tgt := 43) hx hb dX7_listHands_38 (by decide) (fun c_13 => ?_) (fun c_13 => ?_)
            · have nc_13 := z_lt rfl (zk (x := 3) 3 rfl) c_13
              refine lv_aload_n hx hb dX7_listHands_43 rfl (lv_at hl 0 rfl) ?_
              refine tw_get (D := (dC, dI)) (v := .ref (a 42)) (C := RX7) (T := TX7) (N := 13) hx hb hts (fun _ hh => (List.mem_cons_of_mem _ (List.mem_append_right _ (List.mem_append_left _ hh)))) hown hK hT (fx_6 hX) (by decide) cl_e16 rfl 4 (by decide) (hts (.fieldLink RX7 15 "TypingPool$Planner" "hands" "[I") (List.mem_cons_of_mem _ (List.mem_append_left _ (List.mem_of_getElem? (i := 6) rfl)))) (fun _ h9 => h9) rfl dX7_listHands_44 ?_
              refine lv_aload_n hx hb dX7_listHands_47 rfl (lv_at hl 0 rfl) ?_
              refine tw_get (D := (dC, dI)) (v := .int (y_L7 (a 6) 5)) (C := RX7) (T := TX7) (N := 13) hx hb hts (fun _ hh => (List.mem_cons_of_mem _ (List.mem_append_right _ (List.mem_append_left _ hh)))) hown hK hT (fx_6 hX) (by decide) cl_e16 rfl 5 (by decide) (hts (.fieldLink RX7 78 "TypingPool$Planner" "handCount" "I") (List.mem_cons_of_mem _ (List.mem_append_left _ (List.mem_of_getElem? (i := 0) rfl)))) (fun _ h9 => h9) rfl dX7_listHands_48 ?_
              refine lv_iload_n hx hb dX7_listHands_51 rfl (lv_at hl 2 rfl) ?_
              refine tw_iast hx hb hK hT hF hS 0 (fx_42 hX) (by decide) (fun _ => cl_e52) rfl (z_in rfl (by omega) (by omega)) dX7_listHands_52 (fun H locs hT hS => ?_)
              obtain ⟨y_14, hy_14, hT⟩ : ∃ z : Nat → Nat → Int32, z = up2 y_L7 (a 42) ((y_L7 (a 6) 5).toNatClampNeg) i2 ∧ tw (dC, dI) a k τ ln z g H := ⟨_, rfl, hT⟩
              have hG : ag τ [16, 52] y y_14 := by rw [hy_14]; exact hG.up (fx_42 hX) (by decide)
              have : (y_14 (a 6) 3).toInt = (y_L7 (a 6) 3).toInt := by rw [hy_14, up2_o (kd_ne (fx_6 hX) (fx_42 hX) (by decide))]
              have : (y_14 (a 6) 5).toInt = (y_L7 (a 6) 5).toInt := by rw [hy_14, up2_o (kd_ne (fx_6 hX) (fx_42 hX) (by decide))]
              have : (y_14 (a 6) 9).toInt = (y_L7 (a 6) 9).toInt := by rw [hy_14, up2_o (kd_ne (fx_6 hX) (fx_42 hX) (by decide))]
              have hI := hI.ag (S := [52]) (y' := y_14) (by rw [hy_14]; exact ag.one (fx_42 hX)) (by decide)
              refine lv_aload_n hx hb dX7_listHands_53 rfl (lv_at hl 0 rfl) ?_
              refine lv_dup hx hb dX7_listHands_54 rfl ?_
              refine tw_get (D := (dC, dI)) (v := .int (y_14 (a 6) 5)) (C := RX7) (T := TX7) (N := 13) hx hb hts (fun _ hh => (List.mem_cons_of_mem _ (List.mem_append_right _ (List.mem_append_left _ hh)))) hown hK hT (fx_6 hX) (by decide) cl_e16 rfl 5 (by decide) (hts (.fieldLink RX7 78 "TypingPool$Planner" "handCount" "I") (List.mem_cons_of_mem _ (List.mem_append_left _ (List.mem_of_getElem? (i := 0) rfl)))) (fun _ h9 => h9) rfl dX7_listHands_55 ?_
              refine lv_iconst (v := 1) hx hb dX7_listHands_58 (by decide) ?_
              refine lv_iadd hx hb dX7_listHands_59 ?_
              refine lv_topi (fun x_15 ex_15 => ?_)
              have hx_15 := z_add ex_15 rfl (zk (x := 1) 1 rfl) (by omega) (by omega)
              refine tw_put (D := (dC, dI)) (x := x_15) (ty := .int) (C := RX7) (T := TX7) (N := 13) hx hb hts (fun _ hh => (List.mem_cons_of_mem _ (List.mem_append_right _ (List.mem_append_left _ hh)))) tyX7 tyX7_ok nmX7 hown hK hT hF hS (fx_6 hX) (by decide) cl_e16 rfl 5 (by decide) (hts (.fieldLink RX7 78 "TypingPool$Planner" "handCount" "I") (List.mem_cons_of_mem _ (List.mem_append_left _ (List.mem_of_getElem? (i := 0) rfl)))) (fun _ h9 => h9) rfl (tyX7_ok 5 (by decide)) rfl rfl (Nat.le_of_ble_eq_true rfl) rfl dX7_listHands_60 (fun H locs hT hS => ?_)
              obtain ⟨y_16, hy_16, hT⟩ : ∃ z : Nat → Nat → Int32, z = up2 y_14 (a 6) 5 x_15 ∧ tw (dC, dI) a k τ ln z g H := ⟨_, rfl, hT⟩
              have hG : ag τ [16, 52] y y_16 := by rw [hy_16]; exact hG.up (fx_6 hX) (by decide)
              have : (y_16 (a 6) 3).toInt = (y_14 (a 6) 3).toInt := by rw [hy_16, up2_e (by decide)]
              have : (y_16 (a 6) 5).toInt = x_15.toInt := (congrArg Int32.toInt (show y_16 (a 6) 5 = x_15 from by rw [hy_16]; exact up2_i)).trans rfl
              have : (y_16 (a 6) 9).toInt = (y_14 (a 6) 9).toInt := by rw [hy_16, up2_e (by decide)]
              have hI := hI.ag (S := [16]) (y' := y_16) (by rw [hy_16]; exact ag.one (fx_6 hX)) (by decide)
              obtain ⟨x_17, ex_17⟩ : ∃ y : Int32, y = i2 + Int32.ofInt 1 := ⟨_, rfl⟩
              have hx_17 := z_add ex_17 rfl (zk (x := Int32.ofInt 1) 1 rfl) (by omega) (by omega)
              refine lv_iinc (v := x_17) (lv' := [(2, .int x_17), (0, .ref (a 6)), (1, .int p0)]) hx hb dX7_listHands_63 hl (k := 2) rfl ex_17.symm (by decide) rfl (fun ls hl => ?_)
              refine lv_goto (tgt := 7) hx hb dX7_listHands_66 (by decide) ?_
              exact ih_7  x_17 y_16 H _ ls (by omega) hG hI (by omega) (by omega) (by omega) (vl_step hi7_3 hy_14 rfl (by omega) (by omega) rfl (by omega) (by omega) (by rw [hy_16]; exact up2_o (kd_ne (fx_42 hX) (fx_6 hX) (by decide))) (by omega)) (by omega) hT hS (lv_sub hl [1, 2, 0] rfl)
            · have nc_13 := z_nlt rfl (zk (x := 3) 3 rfl) c_13
              refine lv_iconst (v := 0) hx hb dX7_listHands_41 (by decide) ?_
              exact W.zret (v := 0) hx hb hr (by decide) (fun t ht hW9 => ⟨⟨0, 0, rfl, rfl, Or.inr (⟨y_L7, rfl, hG, tw_at ht hT⟩)⟩, hS.F ht⟩) hS.2.2 dX7_listHands_42
          · refine lq_top (v := 0) hre ?_
            rw [ht] at hT
            refine lv_if_eq (tgt := 41) hx hb dX7_listHands_30 (by decide) (fun c_18 => ?_) (fun c_18 => absurd c_18 (by decide))
            refine lv_iconst (v := 0) hx hb dX7_listHands_41 (by decide) ?_
            exact W.zret (v := 0) hx hb hr (by decide) (fun t ht hW9 => ⟨⟨0, 0, rfl, rfl, Or.inr (⟨y_L7, rfl, hG, tw_at ht hT⟩)⟩, hS.F ht⟩) hS.2.2 dX7_listHands_42
  have hp_19 : (0 : Int32).toInt = 0 := (zk (x := 0) 0 rfl)
  exact loop_7 _ (0 : Int32) y_1 H _ ls (Nat.lt_succ_self _) hG hI (by omega) (by omega) (by omega) (vl_0 (by omega)) (by omega) hT hS (lv_sub hl [1, 2, 0] rfl)
def wo_c_allowAll : List Cond := [.fieldLink RX7 78 "TypingPool$Planner" "handCount" "I", .fieldLink RX7 18 "TypingPool$Planner" "allowed" "[I", .fieldLink RX7 42 "TypingPool$Planner" "pieceCount" "I", .fieldLink RX7 31 "TypingPool$Planner" "floor" "LTypingPool$Floor;", .fieldLink RX7 15 "TypingPool$Planner" "hands" "[I", .fieldLink RX7 9 "TypingPool$Planner" "pieces" "[I", .methodLink RX7 84 yX3_mayDo, .instanceMethod yX3_mayDo, .selects RX3 yX3_mayDo yX3_mayDo, .initialized RX3]
def wm_c_allowAll : List Cond := .code yX7_allowAll cX7_allowAll 4 (some .int) :: (wo_c_allowAll ++ (wsX70 ++ (wm_c_mayDoN ++ ([] : List Cond))))
theorem gd_c_allowAll : ∀ w ∈ wm_c_allowAll, goodWord w = true := gd_c rfl (gd_a (by decide) (gd_a gd_wsX70 (gd_a gd_c_mayDoN gd_nil)))
set_option maxRecDepth 20000 in
theorem im_c_allowAll : ∀ w ∈ wm_c_allowAll, w ∈ lw_tbl := im_c (in_r [.code yX7_allowAll cX7_allowAll 4 (some .int)] [1037] (by decide +kernel)) (in_app (in_r wo_c_allowAll [520, 521, 518, 516, 519, 517, 1038, 772, 773, 83] (by decide +kernel)) (in_app im_wsX70 (in_app im_c_mayDoN im_nil)))
set_option maxHeartbeats 4000000 in
set_option maxRecDepth 100000 in
theorem c_allowAll (l : Launch) (dC : Nat → ClassId) (dI : Nat → Nat → Nat) (ad av : Nat → Nat) (sz : Nat) (a : Nat → Nat) (k : Nat → ClassId) (τ ln : Nat → Nat) (y : Nat → Nat → Int32) (g : Nat → Nat → Option Nat) (u : Nat → Int) (nP : Int) (nH : Int) (hI : IC a u τ ln y g) (g3 : (y (a 6) 3).toInt = nP) (g5 : (y (a 6) 5).toInt = nH) (gn : (0 ≤ nP ∧ nP ≤ 5) ∧ 0 ≤ nH ∧ nH ≤ 3) (gp : vl nP (u 2) (y (a 41))) (gh : vl nH (u 1) (y (a 42))) : Met l yX7_allowAll wm_c_allowAll ({ frames := 4, cells := 0, slots := 0, locals := 240 }) (pw_ ad av (dC, dI) sz [.ref (a 6)] a k τ ln y g) (va_Qi (fun (r u : Int32) => u = r) (fun (r : Int32) (t : State) => (∃ (y' : Nat → Nat → Int32), ag τ [53, 24, 27] y y' ∧ tw (dC, dI) a k τ ln y' g t.heap)) (fr τ sz)) 0 0 (fr τ sz) := by
  refine Met.ofW (cc := cX7_allowAll) (maxL := 4) (ret := (some .int)) (by decide) rfl ?_
  intro p e s m args below meth c s₁ B hml hv
  obtain ⟨rfl, hsz, hT, hK, hM⟩ := hv
  have hx := B.exec
  have hb := B.bytes
  have hr := B.returns
  have hts := atoms_spec (ws := wm_c_allowAll) B.pre
  have hown : s.vm.findClass RX7 = some m.cls := findClass_of_methodNamed B.named
  have hlocks := B.notSynchronized
  subst hsz
  generalize hAe : fr τ s.heap.size = A at hM ⊢
  have hA : ∀ q : Nat, s.heap.size ≤ q → A q := fun q h => by rw [← hAe]; exact Or.inr h
  have hF : ∀ q, τ q ≠ 0 → A q := fun q h => by rw [← hAe]; exact Or.inl h
  have hS : va_S A s.heap s.heap [] := va_S.rf
  have hX := hI.1
  have hR := ic_r hI
  have hG : ag τ [53, 24, 27] y y := ag.rf
  have hl := lv_entry ([.ref (a 6)]) (n := 4) (Nat.le_of_ble_eq_true rfl)
  rw [lg_entry_eq]
  generalize (lg_sl ([.ref (a 6)]) ++ List.replicate (4 - (lg_sl ([.ref (a 6)])).length) Slot.unset).toArray = ls at hl ⊢
  have hl : lv_has ls 4 [(0, .ref (a 6))] := hl
  refine lv_iconst (v := 0) hx hb dX7_allowAll_0 (by decide) ?_
  refine lv_istore_n (lv' := [(1, .int 0), (0, .ref (a 6))]) hx hb dX7_allowAll_1 rfl hl (by decide) rfl (fun ls hl => ?_)
  refine lv_iconst (v := 0) hx hb dX7_allowAll_2 (by decide) ?_
  refine lv_istore_n (lv' := [(2, .int 0), (1, .int 0), (0, .ref (a 6))]) hx hb dX7_allowAll_3 rfl hl (by decide) rfl (fun ls hl => ?_)
  have loop_4 : ∀ (n : Nat) (w1 : Int32) (i2 : Int32) (y_L4 : Nat → Nat → Int32) (H : Heap) (locs : List Loc) (ls : Array Slot), (nH - i2.toInt).toNat < n → ag τ [53, 24, 27] y y_L4 → IC a u τ ln y_L4 g → 0 ≤ i2.toInt → i2.toInt ≤ nH → (y_L4 (a 6) 3).toInt = nP → (y_L4 (a 6) 5).toInt = nH → tw (dC, dI) a k τ ln y_L4 g H → va_S A s.heap H locs → lv_has ls 4 [(0, .ref (a 6)), (1, .int w1), (2, .int i2)] → W p l e (headSpec wm_c_allowAll ({ frames := 4, cells := 0, slots := 0, locals := 240 })).room s m ([.ref (a 6)] : List Value).toArray below meth c H locs 0 0 (MQ below (va_Qi (fun (r u : Int32) => u = r) (fun (r : Int32) (t : State) => (∃ (y' : Nat → Nat → Int32), ag τ [53, 24, 27] y y' ∧ tw (dC, dI) a k τ ln y' g t.heap)) A) ([.ref (a 6)] : List Value).toArray s 0 0 A) (F0 m 4 ls []) := by
    intro n
    induction n with
    | zero => intro w1 i2 y_L4 H locs ls hlt; exact absurd hlt (Nat.not_lt_zero _)
    | succ n ih_4 =>
      intro w1 i2 y_L4 H locs ls hlt hG hI hi4_0 hi4_1 hi4_2 hi4_3 hT hS hl
      refine lv_iload_n hx hb dX7_allowAll_4 rfl (lv_at hl 2 rfl) ?_
      refine lv_aload_n hx hb dX7_allowAll_5 rfl (lv_at hl 0 rfl) ?_
      refine tw_get (D := (dC, dI)) (v := .int (y_L4 (a 6) 5)) (C := RX7) (T := TX7) (N := 13) hx hb hts (fun _ hh => (List.mem_cons_of_mem _ (List.mem_append_right _ (List.mem_append_left _ hh)))) hown hK hT (fx_6 hX) (by decide) cl_e16 rfl 5 (by decide) (hts (.fieldLink RX7 78 "TypingPool$Planner" "handCount" "I") (List.mem_cons_of_mem _ (List.mem_append_left _ (List.mem_of_getElem? (i := 0) rfl)))) (fun _ h9 => h9) rfl dX7_allowAll_6 ?_
      refine lv_icmp_ge (tgt := 85) hx hb dX7_allowAll_9 (by decide) (fun c_1 => ?_) (fun c_1 => ?_)
      · have nc_1 := z_le rfl rfl c_1
        refine lv_iload_n hx hb dX7_allowAll_85 rfl (lv_at hl 1 rfl) ?_
        exact W.iret (v := w1) hx hb hr (fun t ht hW9 => ⟨⟨w1, w1, rfl, rfl, ⟨y_L4, hG, tw_at ht hT⟩⟩, hS.F ht⟩) hS.2.2 dX7_allowAll_86
      · have nc_1 := z_nle rfl rfl c_1
        refine lv_aload_n hx hb dX7_allowAll_12 rfl (lv_at hl 0 rfl) ?_
        refine tw_get (D := (dC, dI)) (v := .ref (a 43)) (C := RX7) (T := TX7) (N := 13) hx hb hts (fun _ hh => (List.mem_cons_of_mem _ (List.mem_append_right _ (List.mem_append_left _ hh)))) hown hK hT (fx_6 hX) (by decide) cl_e16 rfl 6 (by decide) (hts (.fieldLink RX7 18 "TypingPool$Planner" "allowed" "[I") (List.mem_cons_of_mem _ (List.mem_append_left _ (List.mem_of_getElem? (i := 1) rfl)))) (fun _ h9 => h9) rfl dX7_allowAll_13 ?_
        refine lv_iload_n hx hb dX7_allowAll_16 rfl (lv_at hl 2 rfl) ?_
        refine lv_iconst (v := 0) hx hb dX7_allowAll_17 (by decide) ?_
        refine tw_iast hx hb hK hT hF hS 0 (fx_43 hX) (by decide) (fun _ => cl_e53) rfl (z_in rfl (by omega) (by omega)) dX7_allowAll_18 (fun H locs hT hS => ?_)
        obtain ⟨y_2, hy_2, hT⟩ : ∃ z : Nat → Nat → Int32, z = up2 y_L4 (a 43) i2.toNatClampNeg (0 : Int32) ∧ tw (dC, dI) a k τ ln z g H := ⟨_, rfl, hT⟩
        have hG : ag τ [53, 24, 27] y y_2 := by rw [hy_2]; exact hG.up (fx_43 hX) (by decide)
        have : (y_2 (a 6) 3).toInt = (y_L4 (a 6) 3).toInt := by rw [hy_2, up2_o (kd_ne (fx_6 hX) (fx_43 hX) (by decide))]
        have : (y_2 (a 6) 5).toInt = (y_L4 (a 6) 5).toInt := by rw [hy_2, up2_o (kd_ne (fx_6 hX) (fx_43 hX) (by decide))]
        have : (y_2 (a 6) 9).toInt = (y_L4 (a 6) 9).toInt := by rw [hy_2, up2_o (kd_ne (fx_6 hX) (fx_43 hX) (by decide))]
        have hI := hI.ag (S := [53]) (y' := y_2) (by rw [hy_2]; exact ag.one (fx_43 hX)) (by decide)
        refine lv_iconst (v := 0) hx hb dX7_allowAll_19 (by decide) ?_
        refine lv_istore_n (lv' := [(3, .int 0), (0, .ref (a 6)), (1, .int w1), (2, .int i2)]) hx hb dX7_allowAll_20 rfl hl (by decide) rfl (fun ls hl => ?_)
        have loop_21 : ∀ (n : Nat) (i3 : Int32) (y_L21 : Nat → Nat → Int32) (H : Heap) (locs : List Loc) (ls : Array Slot), (nP - i3.toInt).toNat < n → ag τ [53, 24, 27] y y_L21 → IC a u τ ln y_L21 g → 0 ≤ i3.toInt → i3.toInt ≤ nP → (y_L21 (a 6) 3).toInt = nP → (y_L21 (a 6) 5).toInt = nH → tw (dC, dI) a k τ ln y_L21 g H → va_S A s.heap H locs → lv_has ls 4 [(0, .ref (a 6)), (1, .int w1), (2, .int i2), (3, .int i3)] → W p l e (headSpec wm_c_allowAll ({ frames := 4, cells := 0, slots := 0, locals := 240 })).room s m ([.ref (a 6)] : List Value).toArray below meth c H locs 0 0 (MQ below (va_Qi (fun (r u : Int32) => u = r) (fun (r : Int32) (t : State) => (∃ (y' : Nat → Nat → Int32), ag τ [53, 24, 27] y y' ∧ tw (dC, dI) a k τ ln y' g t.heap)) A) ([.ref (a 6)] : List Value).toArray s 0 0 A) (F0 m 21 ls []) := by
          intro n
          induction n with
          | zero => intro i3 y_L21 H locs ls hlt; exact absurd hlt (Nat.not_lt_zero _)
          | succ n ih_21 =>
            intro i3 y_L21 H locs ls hlt hG hI hi21_0 hi21_1 hi21_2 hi21_3 hT hS hl
            refine lv_iload_n hx hb dX7_allowAll_21 rfl (lv_at hl 3 rfl) ?_
            refine lv_aload_n hx hb dX7_allowAll_22 rfl (lv_at hl 0 rfl) ?_
            refine tw_get (D := (dC, dI)) (v := .int (y_L21 (a 6) 3)) (C := RX7) (T := TX7) (N := 13) hx hb hts (fun _ hh => (List.mem_cons_of_mem _ (List.mem_append_right _ (List.mem_append_left _ hh)))) hown hK hT (fx_6 hX) (by decide) cl_e16 rfl 3 (by decide) (hts (.fieldLink RX7 42 "TypingPool$Planner" "pieceCount" "I") (List.mem_cons_of_mem _ (List.mem_append_left _ (List.mem_of_getElem? (i := 2) rfl)))) (fun _ h9 => h9) rfl dX7_allowAll_23 ?_
            refine lv_icmp_ge (tgt := 70) hx hb dX7_allowAll_26 (by decide) (fun c_3 => ?_) (fun c_3 => ?_)
            · have nc_3 := z_le rfl rfl c_3
              refine lv_iload_n hx hb dX7_allowAll_70 rfl (lv_at hl 1 rfl) ?_
              refine lv_aload_n hx hb dX7_allowAll_71 rfl (lv_at hl 0 rfl) ?_
              refine tw_get (D := (dC, dI)) (v := .ref (a 43)) (C := RX7) (T := TX7) (N := 13) hx hb hts (fun _ hh => (List.mem_cons_of_mem _ (List.mem_append_right _ (List.mem_append_left _ hh)))) hown hK hT (fx_6 hX) (by decide) cl_e16 rfl 6 (by decide) (hts (.fieldLink RX7 18 "TypingPool$Planner" "allowed" "[I") (List.mem_cons_of_mem _ (List.mem_append_left _ (List.mem_of_getElem? (i := 1) rfl)))) (fun _ h9 => h9) rfl dX7_allowAll_72 ?_
              refine lv_iload_n hx hb dX7_allowAll_75 rfl (lv_at hl 2 rfl) ?_
              refine tw_iald hx hb hK hT 0 (fx_43 hX) (by decide) cl_e53 rfl (z_in rfl (by omega) (by omega)) dX7_allowAll_76 ?_
              refine lv_ior hx hb dX7_allowAll_77 ?_
              refine lv_topi (fun x_4 ex_4 => ?_)
              refine lv_istore_n (lv' := [(1, .int x_4), (0, .ref (a 6)), (2, .int i2), (3, .int i3)]) hx hb dX7_allowAll_78 rfl hl (by decide) rfl (fun ls hl => ?_)
              obtain ⟨x_5, ex_5⟩ : ∃ y : Int32, y = i2 + Int32.ofInt 1 := ⟨_, rfl⟩
              have hx_5 := z_add ex_5 rfl (zk (x := Int32.ofInt 1) 1 rfl) (by omega) (by omega)
              refine lv_iinc (v := x_5) (lv' := [(2, .int x_5), (1, .int x_4), (0, .ref (a 6)), (3, .int i3)]) hx hb dX7_allowAll_79 hl (k := 2) rfl ex_5.symm (by decide) rfl (fun ls hl => ?_)
              refine lv_goto (tgt := 4) hx hb dX7_allowAll_82 (by decide) ?_
              exact ih_4  x_4 x_5 y_L21 H _ ls (by omega) hG hI (by omega) (by omega) (by omega) (by omega) hT hS (lv_sub hl [2, 1, 0] rfl)
            · have nc_3 := z_nle rfl rfl c_3
              refine lv_aload_n hx hb dX7_allowAll_29 rfl (lv_at hl 0 rfl) ?_
              refine tw_get (D := (dC, dI)) (v := .ref (a 3)) (C := RX7) (T := TX7) (N := 13) hx hb hts (fun _ hh => (List.mem_cons_of_mem _ (List.mem_append_right _ (List.mem_append_left _ hh)))) hown hK hT (fx_6 hX) (by decide) cl_e16 rfl 1 (by decide) (hts (.fieldLink RX7 31 "TypingPool$Planner" "floor" "LTypingPool$Floor;") (List.mem_cons_of_mem _ (List.mem_append_left _ (List.mem_of_getElem? (i := 3) rfl)))) (fun _ h9 => h9) rfl dX7_allowAll_30 ?_
              refine lv_aload_n hx hb dX7_allowAll_33 rfl (lv_at hl 0 rfl) ?_
              refine tw_get (D := (dC, dI)) (v := .ref (a 42)) (C := RX7) (T := TX7) (N := 13) hx hb hts (fun _ hh => (List.mem_cons_of_mem _ (List.mem_append_right _ (List.mem_append_left _ hh)))) hown hK hT (fx_6 hX) (by decide) cl_e16 rfl 4 (by decide) (hts (.fieldLink RX7 15 "TypingPool$Planner" "hands" "[I") (List.mem_cons_of_mem _ (List.mem_append_left _ (List.mem_of_getElem? (i := 4) rfl)))) (fun _ h9 => h9) rfl dX7_allowAll_34 ?_
              refine lv_iload_n hx hb dX7_allowAll_37 rfl (lv_at hl 2 rfl) ?_
              refine tw_iald hx hb hK hT 0 (fx_42 hX) (by decide) cl_e52 rfl (z_in rfl (by omega) (by omega)) dX7_allowAll_38 ?_
              have hv0 : vl nH (u 1) (y_L21 (a 42)) := (by rw [hG.at (fx_42 hX) (by decide)]; exact gh)
              have hv_6 := vl_at hv0 (x := i2) rfl (by omega) (by omega)
              refine lv_aload_n hx hb dX7_allowAll_39 rfl (lv_at hl 0 rfl) ?_
              refine tw_get (D := (dC, dI)) (v := .ref (a 41)) (C := RX7) (T := TX7) (N := 13) hx hb hts (fun _ hh => (List.mem_cons_of_mem _ (List.mem_append_right _ (List.mem_append_left _ hh)))) hown hK hT (fx_6 hX) (by decide) cl_e16 rfl 2 (by decide) (hts (.fieldLink RX7 9 "TypingPool$Planner" "pieces" "[I") (List.mem_cons_of_mem _ (List.mem_append_left _ (List.mem_of_getElem? (i := 5) rfl)))) (fun _ h9 => h9) rfl dX7_allowAll_40 ?_
              refine lv_iload_n hx hb dX7_allowAll_43 rfl (lv_at hl 3 rfl) ?_
              refine tw_iald hx hb hK hT 0 (fx_41 hX) (by decide) cl_e51 rfl (z_in rfl (by omega) (by omega)) dX7_allowAll_44 ?_
              have hv0 : vl nP (u 2) (y_L21 (a 41)) := (by rw [hG.at (fx_41 hX) (by decide)]; exact gp)
              have hv_7 := vl_at hv0 (x := i3) rfl (by omega) (by omega)
              refine lv_null hx hb dX7_allowAll_45 ?_
              have hFc := tw_free hF hS hA
              refine va_calli (va_runV (As := [.int (y_L21 (a 42) i2.toNatClampNeg), .int (y_L21 (a 41) i3.toNatClampNeg), .null]) (rest := []) ⟨hx, hb, hml, hown, hts⟩ (c_mayDoN l dC dI ad av H.size a k τ ln y_L21 g u (y_L21 (a 42) i2.toNatClampNeg) (y_L21 (a 41) i3.toNatClampNeg) hI (by omega) (by omega) (by omega) (by omega)) (cwV 3 hts (gi_4 (List.mem_cons_of_mem _ (List.mem_append_left _ (List.mem_of_getElem? (i := 6) rfl))) (List.mem_cons_of_mem _ (List.mem_append_left _ (List.mem_of_getElem? (i := 7) rfl))) (List.mem_cons_of_mem _ (List.mem_append_left _ (List.mem_of_getElem? (i := 8) rfl))) (List.mem_cons_of_mem _ (List.mem_append_left _ (List.mem_of_getElem? (i := 9) rfl))) (fun _ hh => (List.mem_cons_of_mem _ (List.mem_append_right _ (List.mem_append_right _ (List.mem_append_left _ hh))))) gd_c_mayDoN) rfl rfl rfl (by decide +kernel) ⟨Nat.le_of_ble_eq_true rfl, Nat.le_of_ble_eq_true rfl⟩) ⟨pw_blind, tw_recv hK hT (fx_3 hX) (by decide) cl_e13 rfl, pw_use hT hK hFc hS hM⟩ rfl rfl hl.1 rfl (lv_room (Nat.le_of_ble_eq_true rfl)) dX7_allowAll_46 ⟨Nat.le_of_ble_eq_true rfl, Nat.le_of_ble_eq_true rfl⟩) hS (fun q _ h => hFc q h) hFc (fun r0 r_8 t H locs ht hvm hw hB hz1 hk1 hS => ?_)
              refine W.widen (k := 0) (n := 0) (Nat.le_of_ble_eq_true rfl) (Nat.le_of_ble_eq_true rfl) ?_
              clear hvm hz1 hk1
              subst hw
              rcases hB with ⟨y_9, hre, hgy_9, hT⟩ | ⟨y_10, hre, hgy_10, hT⟩
              · refine lq_top (v := 1) hre ?_
                rw [ht] at hT
                have hG := hG.tr hgy_9 (by decide)
                have : (y_9 (a 6) 3).toInt = (y_L21 (a 6) 3).toInt := by rw [hgy_9.at (fx_6 hX) (by decide)]
                have : (y_9 (a 6) 5).toInt = (y_L21 (a 6) 5).toInt := by rw [hgy_9.at (fx_6 hX) (by decide)]
                have : (y_9 (a 6) 9).toInt = (y_L21 (a 6) 9).toInt := by rw [hgy_9.at (fx_6 hX) (by decide)]
                have hI := hI.ag hgy_9 (by decide)
                refine lv_if_eq (tgt := 64) hx hb dX7_allowAll_49 (by decide) (fun c_11 => absurd c_11 (by decide)) (fun c_11 => ?_)
                refine lv_aload_n hx hb dX7_allowAll_52 rfl (lv_at hl 0 rfl) ?_
                refine tw_get (D := (dC, dI)) (v := .ref (a 43)) (C := RX7) (T := TX7) (N := 13) hx hb hts (fun _ hh => (List.mem_cons_of_mem _ (List.mem_append_right _ (List.mem_append_left _ hh)))) hown hK hT (fx_6 hX) (by decide) cl_e16 rfl 6 (by decide) (hts (.fieldLink RX7 18 "TypingPool$Planner" "allowed" "[I") (List.mem_cons_of_mem _ (List.mem_append_left _ (List.mem_of_getElem? (i := 1) rfl)))) (fun _ h9 => h9) rfl dX7_allowAll_53 ?_
                refine lv_iload_n hx hb dX7_allowAll_56 rfl (lv_at hl 2 rfl) ?_
                refine lv_dup2_11 hx hb dX7_allowAll_57 rfl rfl ?_
                refine tw_iald hx hb hK hT 0 (fx_43 hX) (by decide) cl_e53 rfl (z_in rfl (by omega) (by omega)) dX7_allowAll_58 ?_
                refine lv_iconst (v := 1) hx hb dX7_allowAll_59 (by decide) ?_
                refine lv_iload_n hx hb dX7_allowAll_60 rfl (lv_at hl 3 rfl) ?_
                refine lv_ishl hx hb dX7_allowAll_61 ?_
                refine lv_topi (fun x_12 ex_12 => ?_)
                refine lv_ior hx hb dX7_allowAll_62 ?_
                refine lv_topi (fun x_13 ex_13 => ?_)
                refine tw_iast hx hb hK hT hF hS 0 (fx_43 hX) (by decide) (fun _ => cl_e53) rfl (z_in rfl (by omega) (by omega)) dX7_allowAll_63 (fun H locs hT hS => ?_)
                obtain ⟨y_14, hy_14, hT⟩ : ∃ z : Nat → Nat → Int32, z = up2 y_9 (a 43) i2.toNatClampNeg x_13 ∧ tw (dC, dI) a k τ ln z g H := ⟨_, rfl, hT⟩
                have hG : ag τ [53, 24, 27] y y_14 := by rw [hy_14]; exact hG.up (fx_43 hX) (by decide)
                have : (y_14 (a 6) 3).toInt = (y_9 (a 6) 3).toInt := by rw [hy_14, up2_o (kd_ne (fx_6 hX) (fx_43 hX) (by decide))]
                have : (y_14 (a 6) 5).toInt = (y_9 (a 6) 5).toInt := by rw [hy_14, up2_o (kd_ne (fx_6 hX) (fx_43 hX) (by decide))]
                have : (y_14 (a 6) 9).toInt = (y_9 (a 6) 9).toInt := by rw [hy_14, up2_o (kd_ne (fx_6 hX) (fx_43 hX) (by decide))]
                have hI := hI.ag (S := [53]) (y' := y_14) (by rw [hy_14]; exact ag.one (fx_43 hX)) (by decide)
                obtain ⟨x_15, ex_15⟩ : ∃ y : Int32, y = i3 + Int32.ofInt 1 := ⟨_, rfl⟩
                have hx_15 := z_add ex_15 rfl (zk (x := Int32.ofInt 1) 1 rfl) (by omega) (by omega)
                refine lv_iinc (v := x_15) (lv' := [(3, .int x_15), (0, .ref (a 6)), (1, .int w1), (2, .int i2)]) hx hb dX7_allowAll_64 hl (k := 3) rfl ex_15.symm (by decide) rfl (fun ls hl => ?_)
                refine lv_goto (tgt := 21) hx hb dX7_allowAll_67 (by decide) ?_
                exact ih_21  x_15 y_14 H _ ls (by omega) hG hI (by omega) (by omega) (by omega) (by omega) hT hS (lv_sub hl [1, 2, 3, 0] rfl)
              · refine lq_top (v := 0) hre ?_
                rw [ht] at hT
                have hG := hG.tr hgy_10 (by decide)
                have : (y_10 (a 6) 3).toInt = (y_L21 (a 6) 3).toInt := by rw [hgy_10.at (fx_6 hX) (by decide)]
                have : (y_10 (a 6) 5).toInt = (y_L21 (a 6) 5).toInt := by rw [hgy_10.at (fx_6 hX) (by decide)]
                have : (y_10 (a 6) 9).toInt = (y_L21 (a 6) 9).toInt := by rw [hgy_10.at (fx_6 hX) (by decide)]
                have hI := hI.ag hgy_10 (by decide)
                refine lv_if_eq (tgt := 64) hx hb dX7_allowAll_49 (by decide) (fun c_16 => ?_) (fun c_16 => absurd c_16 (by decide))
                obtain ⟨x_17, ex_17⟩ : ∃ y : Int32, y = i3 + Int32.ofInt 1 := ⟨_, rfl⟩
                have hx_17 := z_add ex_17 rfl (zk (x := Int32.ofInt 1) 1 rfl) (by omega) (by omega)
                refine lv_iinc (v := x_17) (lv' := [(3, .int x_17), (0, .ref (a 6)), (1, .int w1), (2, .int i2)]) hx hb dX7_allowAll_64 hl (k := 3) rfl ex_17.symm (by decide) rfl (fun ls hl => ?_)
                refine lv_goto (tgt := 21) hx hb dX7_allowAll_67 (by decide) ?_
                exact ih_21  x_17 y_10 H _ ls (by omega) hG hI (by omega) (by omega) (by omega) (by omega) hT hS (lv_sub hl [1, 2, 3, 0] rfl)
        have hp_18 : (0 : Int32).toInt = 0 := (zk (x := 0) 0 rfl)
        exact loop_21 _ (0 : Int32) y_2 H _ ls (Nat.lt_succ_self _) hG hI (by omega) (by omega) (by omega) (by omega) hT hS (lv_sub hl [1, 2, 3, 0] rfl)
  have hp_19 : (0 : Int32).toInt = 0 := (zk (x := 0) 0 rfl)
  have hp_20 : (0 : Int32).toInt = 0 := (zk (x := 0) 0 rfl)
  exact loop_4 _ (0 : Int32) (0 : Int32) y s.heap _ ls (Nat.lt_succ_self _) hG hI (by omega) (by omega) (by omega) (by omega) hT hS (lv_sub hl [2, 1, 0] rfl)
def wo_c_isBetter : List Cond := [.fieldLink RX7 50 "TypingPool$Planner" "found" "Z", .fieldLink RX7 57 "TypingPool$Planner" "bestLate" "I", .fieldLink RX7 60 "TypingPool$Planner" "bestLateness" "I"]
def wm_c_isBetter : List Cond := .code yX7_isBetter cX7_isBetter 3 (some .boolean) :: (wo_c_isBetter ++ (wsX70 ++ ([] : List Cond)))
theorem gd_c_isBetter : ∀ w ∈ wm_c_isBetter, goodWord w = true := gd_c rfl (gd_a (by decide) (gd_a gd_wsX70 gd_nil))
set_option maxRecDepth 20000 in
theorem im_c_isBetter : ∀ w ∈ wm_c_isBetter, w ∈ lw_tbl := im_c (in_r [.code yX7_isBetter cX7_isBetter 3 (some .boolean)] [1050] (by decide +kernel)) (in_app (in_r wo_c_isBetter [531, 527, 529] (by decide +kernel)) (in_app im_wsX70 im_nil))
set_option maxHeartbeats 4000000 in
set_option maxRecDepth 100000 in
theorem c_isBetter (l : Launch) (dC : Nat → ClassId) (dI : Nat → Nat → Nat) (ad av : Nat → Nat) (sz : Nat) (a : Nat → Nat) (k : Nat → ClassId) (τ ln : Nat → Nat) (y : Nat → Nat → Int32) (g : Nat → Nat → Option Nat) (u : Nat → Int) (p0 : Int32) (p1 : Int32) (hI : IC a u τ ln y g) : Met l yX7_isBetter wm_c_isBetter ({ frames := 0, cells := 0, slots := 0, locals := 0 }) (pw_ ad av (dC, dI) sz [.ref (a 6), .int p0, .int p1] a k τ ln y g) (va_Qi (fun (r u : Int32) => u = r) (fun (r : Int32) (t : State) => (r = 1 ∧ tw (dC, dI) a k τ ln y g t.heap) ∨ (r = 0 ∧ tw (dC, dI) a k τ ln y g t.heap)) (fr τ sz)) 0 0 (fr τ sz) := by
  refine Met.ofW (cc := cX7_isBetter) (maxL := 3) (ret := (some .boolean)) (by decide) rfl ?_
  intro p e s m args below meth c s₁ B hml hv
  obtain ⟨rfl, hsz, hT, hK, hM⟩ := hv
  have hx := B.exec
  have hb := B.bytes
  have hr := B.returns
  have hts := atoms_spec (ws := wm_c_isBetter) B.pre
  have hown : s.vm.findClass RX7 = some m.cls := findClass_of_methodNamed B.named
  have hlocks := B.notSynchronized
  subst hsz
  generalize hAe : fr τ s.heap.size = A at hM ⊢
  have hA : ∀ q : Nat, s.heap.size ≤ q → A q := fun q h => by rw [← hAe]; exact Or.inr h
  have hF : ∀ q, τ q ≠ 0 → A q := fun q h => by rw [← hAe]; exact Or.inl h
  have hS : va_S A s.heap s.heap [] := va_S.rf
  have hX := hI.1
  have hR := ic_r hI
  have hl := lv_entry ([.ref (a 6), .int p0, .int p1]) (n := 3) (Nat.le_of_ble_eq_true rfl)
  rw [lg_entry_eq]
  generalize (lg_sl ([.ref (a 6), .int p0, .int p1]) ++ List.replicate (3 - (lg_sl ([.ref (a 6), .int p0, .int p1])).length) Slot.unset).toArray = ls at hl ⊢
  have hl : lv_has ls 3 [(0, .ref (a 6)), (1, .int p0), (2, .int p1)] := hl
  refine lv_aload_n hx hb dX7_isBetter_0 rfl (lv_at hl 0 rfl) ?_
  refine tw_get (D := (dC, dI)) (v := .int (y (a 6) 12)) (C := RX7) (T := TX7) (N := 13) hx hb hts (fun _ hh => (List.mem_cons_of_mem _ (List.mem_append_right _ (List.mem_append_left _ hh)))) hown hK hT (fx_6 hX) (by decide) cl_e16 rfl 12 (by decide) (hts (.fieldLink RX7 50 "TypingPool$Planner" "found" "Z") (List.mem_cons_of_mem _ (List.mem_append_left _ (List.mem_of_getElem? (i := 0) rfl)))) (fun _ h9 => h9) rfl dX7_isBetter_1 ?_
  refine lv_if_eq (tgt := 31) hx hb dX7_isBetter_4 (by decide) (fun c_1 => ?_) (fun c_1 => ?_)
  · have nc_1 := z_eq rfl (zk (x := 0) 0 rfl) c_1
    refine lv_iconst (v := 1) hx hb dX7_isBetter_31 (by decide) ?_
    refine lv_goto (tgt := 36) hx hb dX7_isBetter_32 (by decide) ?_
    exact W.zret (v := 1) hx hb hr (by decide) (fun t ht hW9 => ⟨⟨1, 1, rfl, rfl, Or.inl ⟨rfl, tw_at ht hT⟩⟩, hS.F ht⟩) hS.2.2 dX7_isBetter_36
  · have nc_1 := z_ne rfl (zk (x := 0) 0 rfl) c_1
    refine lv_iload_n hx hb dX7_isBetter_7 rfl (lv_at hl 1 rfl) ?_
    refine lv_aload_n hx hb dX7_isBetter_8 rfl (lv_at hl 0 rfl) ?_
    refine tw_get (D := (dC, dI)) (v := .int (y (a 6) 10)) (C := RX7) (T := TX7) (N := 13) hx hb hts (fun _ hh => (List.mem_cons_of_mem _ (List.mem_append_right _ (List.mem_append_left _ hh)))) hown hK hT (fx_6 hX) (by decide) cl_e16 rfl 10 (by decide) (hts (.fieldLink RX7 57 "TypingPool$Planner" "bestLate" "I") (List.mem_cons_of_mem _ (List.mem_append_left _ (List.mem_of_getElem? (i := 1) rfl)))) (fun _ h9 => h9) rfl dX7_isBetter_9 ?_
    refine lv_icmp_lt (tgt := 31) hx hb dX7_isBetter_12 (by decide) (fun c_2 => ?_) (fun c_2 => ?_)
    · have nc_2 := z_lt rfl rfl c_2
      refine lv_iconst (v := 1) hx hb dX7_isBetter_31 (by decide) ?_
      refine lv_goto (tgt := 36) hx hb dX7_isBetter_32 (by decide) ?_
      exact W.zret (v := 1) hx hb hr (by decide) (fun t ht hW9 => ⟨⟨1, 1, rfl, rfl, Or.inl ⟨rfl, tw_at ht hT⟩⟩, hS.F ht⟩) hS.2.2 dX7_isBetter_36
    · have nc_2 := z_nlt rfl rfl c_2
      refine lv_iload_n hx hb dX7_isBetter_15 rfl (lv_at hl 1 rfl) ?_
      refine lv_aload_n hx hb dX7_isBetter_16 rfl (lv_at hl 0 rfl) ?_
      refine tw_get (D := (dC, dI)) (v := .int (y (a 6) 10)) (C := RX7) (T := TX7) (N := 13) hx hb hts (fun _ hh => (List.mem_cons_of_mem _ (List.mem_append_right _ (List.mem_append_left _ hh)))) hown hK hT (fx_6 hX) (by decide) cl_e16 rfl 10 (by decide) (hts (.fieldLink RX7 57 "TypingPool$Planner" "bestLate" "I") (List.mem_cons_of_mem _ (List.mem_append_left _ (List.mem_of_getElem? (i := 1) rfl)))) (fun _ h9 => h9) rfl dX7_isBetter_17 ?_
      refine lv_icmp_ne (tgt := 35) hx hb dX7_isBetter_20 (by decide) (fun c_3 => ?_) (fun c_3 => ?_)
      · have nc_3 := z_ne rfl rfl c_3
        refine lv_iconst (v := 0) hx hb dX7_isBetter_35 (by decide) ?_
        exact W.zret (v := 0) hx hb hr (by decide) (fun t ht hW9 => ⟨⟨0, 0, rfl, rfl, Or.inr (⟨rfl, tw_at ht hT⟩)⟩, hS.F ht⟩) hS.2.2 dX7_isBetter_36
      · have nc_3 := z_eq rfl rfl c_3
        refine lv_iload_n hx hb dX7_isBetter_23 rfl (lv_at hl 2 rfl) ?_
        refine lv_aload_n hx hb dX7_isBetter_24 rfl (lv_at hl 0 rfl) ?_
        refine tw_get (D := (dC, dI)) (v := .int (y (a 6) 11)) (C := RX7) (T := TX7) (N := 13) hx hb hts (fun _ hh => (List.mem_cons_of_mem _ (List.mem_append_right _ (List.mem_append_left _ hh)))) hown hK hT (fx_6 hX) (by decide) cl_e16 rfl 11 (by decide) (hts (.fieldLink RX7 60 "TypingPool$Planner" "bestLateness" "I") (List.mem_cons_of_mem _ (List.mem_append_left _ (List.mem_of_getElem? (i := 2) rfl)))) (fun _ h9 => h9) rfl dX7_isBetter_25 ?_
        refine lv_icmp_ge (tgt := 35) hx hb dX7_isBetter_28 (by decide) (fun c_4 => ?_) (fun c_4 => ?_)
        · have nc_4 := z_le rfl rfl c_4
          refine lv_iconst (v := 0) hx hb dX7_isBetter_35 (by decide) ?_
          exact W.zret (v := 0) hx hb hr (by decide) (fun t ht hW9 => ⟨⟨0, 0, rfl, rfl, Or.inr (⟨rfl, tw_at ht hT⟩)⟩, hS.F ht⟩) hS.2.2 dX7_isBetter_36
        · have nc_4 := z_nle rfl rfl c_4
          refine lv_iconst (v := 1) hx hb dX7_isBetter_31 (by decide) ?_
          refine lv_goto (tgt := 36) hx hb dX7_isBetter_32 (by decide) ?_
          exact W.zret (v := 1) hx hb hr (by decide) (fun t ht hW9 => ⟨⟨1, 1, rfl, rfl, Or.inl ⟨rfl, tw_at ht hT⟩⟩, hS.F ht⟩) hS.2.2 dX7_isBetter_36
