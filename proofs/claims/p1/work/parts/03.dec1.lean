theorem dX9_init_9 : decode cX9_init 9 = .ok (.aload_n 0, 1) := by decide +kernel
theorem dX9_init_10 : decode cX9_init 10 = .ok (.iload_n 2, 1) := by decide +kernel
theorem dX9_init_11 : decode cX9_init 11 = .ok (.putfield 13, 3) := by decide +kernel
theorem dX9_init_14 : decode cX9_init 14 = .ok (.aload_n 0, 1) := by decide +kernel
theorem dX9_init_15 : decode cX9_init 15 = .ok (.aload_n 3, 1) := by decide +kernel
theorem dX9_init_16 : decode cX9_init 16 = .ok (.putfield 16, 3) := by decide +kernel
theorem dX9_init_19 : decode cX9_init 19 = .ok (.return_, 1) := by decide +kernel
theorem dX10_init_0 : decode cX10_init 0 = .ok (.aload_n 0, 1) := by decide +kernel
theorem dX10_init_1 : decode cX10_init 1 = .ok (.invokespecial 3, 3) := by decide +kernel
theorem dX10_init_4 : decode cX10_init 4 = .ok (.aload_n 0, 1) := by decide +kernel
theorem dX10_init_5 : decode cX10_init 5 = .ok (.bipush 20, 2) := by decide +kernel
theorem dX10_init_7 : decode cX10_init 7 = .ok (.anewarray 9, 3) := by decide +kernel
theorem dX10_init_10 : decode cX10_init 10 = .ok (.putfield 11, 3) := by decide +kernel
theorem dX10_init_13 : decode cX10_init 13 = .ok (.aload_n 0, 1) := by decide +kernel
theorem dX10_init_14 : decode cX10_init 14 = .ok (.iconst 0, 1) := by decide +kernel
theorem dX10_init_15 : decode cX10_init 15 = .ok (.putfield 17, 3) := by decide +kernel
theorem dX10_init_18 : decode cX10_init 18 = .ok (.aload_n 0, 1) := by decide +kernel
theorem dX10_init_19 : decode cX10_init 19 = .ok (.bipush 8, 2) := by decide +kernel
theorem dX10_init_21 : decode cX10_init 21 = .ok (.newarray .int, 2) := by decide +kernel
theorem dX10_init_23 : decode cX10_init 23 = .ok (.putfield 21, 3) := by decide +kernel
theorem dX10_init_26 : decode cX10_init 26 = .ok (.aload_n 0, 1) := by decide +kernel
theorem dX10_init_27 : decode cX10_init 27 = .ok (.iconst 4, 1) := by decide +kernel
theorem dX10_init_28 : decode cX10_init 28 = .ok (.anewarray 9, 3) := by decide +kernel
theorem dX10_init_31 : decode cX10_init 31 = .ok (.putfield 25, 3) := by decide +kernel
theorem dX10_init_34 : decode cX10_init 34 = .ok (.aload_n 0, 1) := by decide +kernel
theorem dX10_init_35 : decode cX10_init 35 = .ok (.new 28, 3) := by decide +kernel
theorem dX10_init_38 : decode cX10_init 38 = .ok (.dup, 1) := by decide +kernel
theorem dX10_init_39 : decode cX10_init 39 = .ok (.invokespecial 30, 3) := by decide +kernel
theorem dX10_init_42 : decode cX10_init 42 = .ok (.putfield 31, 3) := by decide +kernel
theorem dX10_init_45 : decode cX10_init 45 = .ok (.aload_n 0, 1) := by decide +kernel
theorem dX10_init_46 : decode cX10_init 46 = .ok (.bipush 60, 2) := by decide +kernel
theorem dX10_init_48 : decode cX10_init 48 = .ok (.newarray .int, 2) := by decide +kernel
theorem dX10_init_50 : decode cX10_init 50 = .ok (.putfield 35, 3) := by decide +kernel
theorem dX10_init_53 : decode cX10_init 53 = .ok (.iconst 0, 1) := by decide +kernel
theorem dX10_init_54 : decode cX10_init 54 = .ok (.istore_n 1, 1) := by decide +kernel
theorem dX10_init_55 : decode cX10_init 55 = .ok (.iload_n 1, 1) := by decide +kernel
theorem dX10_init_56 : decode cX10_init 56 = .ok (.iconst 4, 1) := by decide +kernel
theorem dX10_init_57 : decode cX10_init 57 = .ok (.if_icmp .ge 54, 3) := by decide +kernel
theorem dX10_init_60 : decode cX10_init 60 = .ok (.iload_n 1, 1) := by decide +kernel
theorem dX10_init_61 : decode cX10_init 61 = .ok (.invokestatic 38, 3) := by decide +kernel
theorem dX10_init_64 : decode cX10_init 64 = .ok (.invokevirtual 42, 3) := by decide +kernel
theorem dX10_init_67 : decode cX10_init 67 = .ok (.astore_n 2, 1) := by decide +kernel
theorem dX10_init_68 : decode cX10_init 68 = .ok (.aload_n 0, 1) := by decide +kernel
theorem dX10_init_69 : decode cX10_init 69 = .ok (.getfield 31, 3) := by decide +kernel
theorem dX10_init_72 : decode cX10_init 72 = .ok (.aload_n 2, 1) := by decide +kernel
theorem dX10_init_73 : decode cX10_init 73 = .ok (.aload_n 2, 1) := by decide +kernel
theorem dX10_init_74 : decode cX10_init 74 = .ok (.arraylength, 1) := by decide +kernel
theorem dX10_init_75 : decode cX10_init 75 = .ok (.iload_n 1, 1) := by decide +kernel
theorem dX10_init_76 : decode cX10_init 76 = .ok (.invokestatic 48, 3) := by decide +kernel
theorem dX10_init_79 : decode cX10_init 79 = .ok (.invokevirtual 51, 3) := by decide +kernel
theorem dX10_init_82 : decode cX10_init 82 = .ok (.pop, 1) := by decide +kernel
theorem dX10_init_83 : decode cX10_init 83 = .ok (.aload_n 0, 1) := by decide +kernel
theorem dX10_init_84 : decode cX10_init 84 = .ok (.getfield 25, 3) := by decide +kernel
theorem dX10_init_87 : decode cX10_init 87 = .ok (.iload_n 1, 1) := by decide +kernel
theorem dX10_init_88 : decode cX10_init 88 = .ok (.new 9, 3) := by decide +kernel
theorem dX10_init_91 : decode cX10_init 91 = .ok (.dup, 1) := by decide +kernel
theorem dX10_init_92 : decode cX10_init 92 = .ok (.iload_n 1, 1) := by decide +kernel
theorem dX10_init_93 : decode cX10_init 93 = .ok (.iconst 0, 1) := by decide +kernel
theorem dX10_init_94 : decode cX10_init 94 = .ok (.aload_n 0, 1) := by decide +kernel
theorem dX10_init_95 : decode cX10_init 95 = .ok (.getfield 31, 3) := by decide +kernel
theorem dX10_init_98 : decode cX10_init 98 = .ok (.invokevirtual 55, 3) := by decide +kernel
theorem dX10_init_101 : decode cX10_init 101 = .ok (.invokespecial 59, 3) := by decide +kernel
theorem dX10_init_104 : decode cX10_init 104 = .ok (.aastore, 1) := by decide +kernel
theorem dX10_init_105 : decode cX10_init 105 = .ok (.iinc 1 1, 3) := by decide +kernel
theorem dX10_init_108 : decode cX10_init 108 = .ok (.goto (-53), 3) := by decide +kernel
theorem dX10_init_111 : decode cX10_init 111 = .ok (.return_, 1) := by decide +kernel
theorem dX10_lettersOf_0 : decode cX10_lettersOf 0 = .ok (.iload_n 0, 1) := by decide +kernel
theorem dX10_lettersOf_1 : decode cX10_lettersOf 1 = .ok (.tableswitch 36 0 2 #[27, 30, 33], 27) := by decide +kernel
theorem dX10_lettersOf_28 : decode cX10_lettersOf 28 = .ok (.ldc 62, 2) := by decide +kernel
theorem dX10_lettersOf_30 : decode cX10_lettersOf 30 = .ok (.areturn, 1) := by decide +kernel
theorem dX10_lettersOf_31 : decode cX10_lettersOf 31 = .ok (.ldc 64, 2) := by decide +kernel
theorem dX10_lettersOf_33 : decode cX10_lettersOf 33 = .ok (.areturn, 1) := by decide +kernel
theorem dX10_lettersOf_34 : decode cX10_lettersOf 34 = .ok (.ldc 66, 2) := by decide +kernel
theorem dX10_lettersOf_36 : decode cX10_lettersOf 36 = .ok (.areturn, 1) := by decide +kernel
theorem dX10_lettersOf_37 : decode cX10_lettersOf 37 = .ok (.ldc 68, 2) := by decide +kernel
theorem dX10_lettersOf_39 : decode cX10_lettersOf 39 = .ok (.areturn, 1) := by decide +kernel
theorem dX10_textAtFirst_0 : decode cX10_textAtFirst 0 = .ok (.iload_n 0, 1) := by decide +kernel
theorem dX10_textAtFirst_1 : decode cX10_textAtFirst 1 = .ok (.tableswitch 36 0 2 #[27, 30, 33], 27) := by decide +kernel
theorem dX10_textAtFirst_28 : decode cX10_textAtFirst 28 = .ok (.ldc 70, 2) := by decide +kernel
theorem dX10_textAtFirst_30 : decode cX10_textAtFirst 30 = .ok (.areturn, 1) := by decide +kernel
theorem dX10_textAtFirst_31 : decode cX10_textAtFirst 31 = .ok (.ldc 72, 2) := by decide +kernel
theorem dX10_textAtFirst_33 : decode cX10_textAtFirst 33 = .ok (.areturn, 1) := by decide +kernel
theorem dX10_textAtFirst_34 : decode cX10_textAtFirst 34 = .ok (.ldc 74, 2) := by decide +kernel
theorem dX10_textAtFirst_36 : decode cX10_textAtFirst 36 = .ok (.areturn, 1) := by decide +kernel
theorem dX10_textAtFirst_37 : decode cX10_textAtFirst 37 = .ok (.ldc 76, 2) := by decide +kernel
theorem dX10_textAtFirst_39 : decode cX10_textAtFirst 39 = .ok (.areturn, 1) := by decide +kernel
theorem dX10_tell_0 : decode cX10_tell 0 = .ok (.aload_n 0, 1) := by decide +kernel
theorem dX10_tell_1 : decode cX10_tell 1 = .ok (.getfield 31, 3) := by decide +kernel
theorem dX10_tell_4 : decode cX10_tell 4 = .ok (.aload_n 3, 1) := by decide +kernel
theorem dX10_tell_5 : decode cX10_tell 5 = .ok (.iload 4, 2) := by decide +kernel
theorem dX10_tell_7 : decode cX10_tell 7 = .ok (.iload_n 1, 1) := by decide +kernel
theorem dX10_tell_8 : decode cX10_tell 8 = .ok (.invokestatic 48, 3) := by decide +kernel
theorem dX10_tell_11 : decode cX10_tell 11 = .ok (.invokevirtual 51, 3) := by decide +kernel
theorem dX10_tell_14 : decode cX10_tell 14 = .ok (.istore 5, 2) := by decide +kernel
theorem dX10_tell_16 : decode cX10_tell 16 = .ok (.iload 5, 2) := by decide +kernel
theorem dX10_tell_18 : decode cX10_tell 18 = .ok (.iconst (-1), 1) := by decide +kernel
theorem dX10_tell_19 : decode cX10_tell 19 = .ok (.if_icmp .eq 8, 3) := by decide +kernel
theorem dX10_tell_22 : decode cX10_tell 22 = .ok (.iconst (-1), 1) := by decide +kernel
theorem dX10_tell_23 : decode cX10_tell 23 = .ok (.iload 5, 2) := by decide +kernel
theorem dX10_tell_25 : decode cX10_tell 25 = .ok (.isub, 1) := by decide +kernel
theorem dX10_tell_26 : decode cX10_tell 26 = .ok (.ireturn, 1) := by decide +kernel
theorem dX10_tell_27 : decode cX10_tell 27 = .ok (.aload_n 0, 1) := by decide +kernel
theorem dX10_tell_28 : decode cX10_tell 28 = .ok (.getfield 17, 3) := by decide +kernel
theorem dX10_tell_31 : decode cX10_tell 31 = .ok (.istore 6, 2) := by decide +kernel
theorem dX10_tell_33 : decode cX10_tell 33 = .ok (.aload_n 0, 1) := by decide +kernel
theorem dX10_tell_34 : decode cX10_tell 34 = .ok (.getfield 11, 3) := by decide +kernel
theorem dX10_tell_37 : decode cX10_tell 37 = .ok (.iload 6, 2) := by decide +kernel
theorem dX10_tell_39 : decode cX10_tell 39 = .ok (.new 9, 3) := by decide +kernel
theorem dX10_tell_42 : decode cX10_tell 42 = .ok (.dup, 1) := by decide +kernel
theorem dX10_tell_43 : decode cX10_tell 43 = .ok (.iload_n 1, 1) := by decide +kernel
theorem dX10_tell_44 : decode cX10_tell 44 = .ok (.iload_n 2, 1) := by decide +kernel
theorem dX10_tell_45 : decode cX10_tell 45 = .ok (.aload_n 0, 1) := by decide +kernel
theorem dX10_tell_46 : decode cX10_tell 46 = .ok (.getfield 31, 3) := by decide +kernel
theorem dX10_tell_49 : decode cX10_tell 49 = .ok (.invokevirtual 55, 3) := by decide +kernel
theorem dX10_tell_52 : decode cX10_tell 52 = .ok (.invokespecial 59, 3) := by decide +kernel
theorem dX10_tell_55 : decode cX10_tell 55 = .ok (.aastore, 1) := by decide +kernel
theorem dX10_tell_56 : decode cX10_tell 56 = .ok (.aload_n 0, 1) := by decide +kernel
theorem dX10_tell_57 : decode cX10_tell 57 = .ok (.dup, 1) := by decide +kernel
theorem dX10_tell_58 : decode cX10_tell 58 = .ok (.getfield 17, 3) := by decide +kernel
theorem dX10_tell_61 : decode cX10_tell 61 = .ok (.iconst 1, 1) := by decide +kernel
theorem dX10_tell_62 : decode cX10_tell 62 = .ok (.iadd, 1) := by decide +kernel
theorem dX10_tell_63 : decode cX10_tell 63 = .ok (.putfield 17, 3) := by decide +kernel
theorem dX10_tell_66 : decode cX10_tell 66 = .ok (.iload 6, 2) := by decide +kernel
theorem dX10_tell_68 : decode cX10_tell 68 = .ok (.ireturn, 1) := by decide +kernel
theorem dX10_isTriable_0 : decode cX10_isTriable 0 = .ok (.iload_n 1, 1) := by decide +kernel
theorem dX10_isTriable_1 : decode cX10_isTriable 1 = .ok (.ifCond .lt 40, 3) := by decide +kernel
theorem dX10_isTriable_4 : decode cX10_isTriable 4 = .ok (.iload_n 1, 1) := by decide +kernel
theorem dX10_isTriable_5 : decode cX10_isTriable 5 = .ok (.aload_n 0, 1) := by decide +kernel
theorem dX10_isTriable_6 : decode cX10_isTriable 6 = .ok (.getfield 17, 3) := by decide +kernel
theorem dX10_isTriable_9 : decode cX10_isTriable 9 = .ok (.if_icmp .ge 32, 3) := by decide +kernel
theorem dX10_isTriable_12 : decode cX10_isTriable 12 = .ok (.aload_n 0, 1) := by decide +kernel
theorem dX10_isTriable_13 : decode cX10_isTriable 13 = .ok (.getfield 11, 3) := by decide +kernel
theorem dX10_isTriable_16 : decode cX10_isTriable 16 = .ok (.iload_n 1, 1) := by decide +kernel
theorem dX10_isTriable_17 : decode cX10_isTriable 17 = .ok (.aaload, 1) := by decide +kernel
theorem dX10_isTriable_18 : decode cX10_isTriable 18 = .ok (.getfield 78, 3) := by decide +kernel
theorem dX10_isTriable_21 : decode cX10_isTriable 21 = .ok (.ifCond .eq 16, 3) := by decide +kernel
theorem dX10_isTriable_24 : decode cX10_isTriable 24 = .ok (.aload_n 0, 1) := by decide +kernel
theorem dX10_isTriable_25 : decode cX10_isTriable 25 = .ok (.getfield 11, 3) := by decide +kernel
theorem dX10_isTriable_28 : decode cX10_isTriable 28 = .ok (.iload_n 1, 1) := by decide +kernel
theorem dX10_isTriable_29 : decode cX10_isTriable 29 = .ok (.aaload, 1) := by decide +kernel
theorem dX10_isTriable_30 : decode cX10_isTriable 30 = .ok (.getfield 78, 3) := by decide +kernel
theorem dX10_isTriable_33 : decode cX10_isTriable 33 = .ok (.iconst 1, 1) := by decide +kernel
theorem dX10_isTriable_34 : decode cX10_isTriable 34 = .ok (.if_icmp .ne 7, 3) := by decide +kernel
theorem dX10_isTriable_37 : decode cX10_isTriable 37 = .ok (.iconst 1, 1) := by decide +kernel
theorem dX10_isTriable_38 : decode cX10_isTriable 38 = .ok (.goto 4, 3) := by decide +kernel
theorem dX10_isTriable_41 : decode cX10_isTriable 41 = .ok (.iconst 0, 1) := by decide +kernel
theorem dX10_isTriable_42 : decode cX10_isTriable 42 = .ok (.ireturn, 1) := by decide +kernel
theorem dX10_holding_0 : decode cX10_holding 0 = .ok (.aload_n 3, 1) := by decide +kernel
theorem dX10_holding_1 : decode cX10_holding 1 = .ok (.ifnull 13, 3) := by decide +kernel
theorem dX10_holding_4 : decode cX10_holding 4 = .ok (.aload_n 3, 1) := by decide +kernel
theorem dX10_holding_5 : decode cX10_holding 5 = .ok (.getfield 78, 3) := by decide +kernel
theorem dX10_holding_8 : decode cX10_holding 8 = .ok (.iload_n 1, 1) := by decide +kernel
theorem dX10_holding_9 : decode cX10_holding 9 = .ok (.if_icmp .ne 5, 3) := by decide +kernel
theorem dX10_holding_12 : decode cX10_holding 12 = .ok (.aload_n 3, 1) := by decide +kernel
theorem dX10_holding_13 : decode cX10_holding 13 = .ok (.areturn, 1) := by decide +kernel
theorem dX10_holding_14 : decode cX10_holding 14 = .ok (.aload_n 0, 1) := by decide +kernel
theorem dX10_holding_15 : decode cX10_holding 15 = .ok (.getfield 25, 3) := by decide +kernel
theorem dX10_holding_18 : decode cX10_holding 18 = .ok (.iload_n 1, 1) := by decide +kernel
theorem dX10_holding_19 : decode cX10_holding 19 = .ok (.aaload, 1) := by decide +kernel
theorem dX10_holding_20 : decode cX10_holding 20 = .ok (.astore 4, 2) := by decide +kernel
theorem dX10_holding_22 : decode cX10_holding 22 = .ok (.iconst 0, 1) := by decide +kernel
theorem dX10_holding_23 : decode cX10_holding 23 = .ok (.istore 5, 2) := by decide +kernel
theorem dX10_holding_25 : decode cX10_holding 25 = .ok (.iload 5, 2) := by decide +kernel
theorem dX10_holding_27 : decode cX10_holding 27 = .ok (.aload_n 0, 1) := by decide +kernel
theorem dX10_holding_28 : decode cX10_holding 28 = .ok (.getfield 17, 3) := by decide +kernel
theorem dX10_holding_31 : decode cX10_holding 31 = .ok (.if_icmp .ge 53, 3) := by decide +kernel
theorem dX10_holding_34 : decode cX10_holding 34 = .ok (.aload_n 0, 1) := by decide +kernel
theorem dX10_holding_35 : decode cX10_holding 35 = .ok (.getfield 11, 3) := by decide +kernel
theorem dX10_holding_38 : decode cX10_holding 38 = .ok (.iload 5, 2) := by decide +kernel
theorem dX10_holding_40 : decode cX10_holding 40 = .ok (.aaload, 1) := by decide +kernel
theorem dX10_holding_41 : decode cX10_holding 41 = .ok (.astore 6, 2) := by decide +kernel
theorem dX10_holding_43 : decode cX10_holding 43 = .ok (.aload 6, 2) := by decide +kernel
theorem dX10_holding_45 : decode cX10_holding 45 = .ok (.getfield 78, 3) := by decide +kernel
theorem dX10_holding_48 : decode cX10_holding 48 = .ok (.iload_n 1, 1) := by decide +kernel
theorem dX10_holding_49 : decode cX10_holding 49 = .ok (.if_icmp .ne 29, 3) := by decide +kernel
theorem dX10_holding_52 : decode cX10_holding 52 = .ok (.aload 6, 2) := by decide +kernel
theorem dX10_holding_54 : decode cX10_holding 54 = .ok (.getfield 81, 3) := by decide +kernel
theorem dX10_holding_57 : decode cX10_holding 57 = .ok (.iload_n 2, 1) := by decide +kernel
theorem dX10_holding_58 : decode cX10_holding 58 = .ok (.if_icmp .gt 20, 3) := by decide +kernel
theorem dX10_holding_61 : decode cX10_holding 61 = .ok (.aload 6, 2) := by decide +kernel
theorem dX10_holding_63 : decode cX10_holding 63 = .ok (.getfield 81, 3) := by decide +kernel
theorem dX10_holding_66 : decode cX10_holding 66 = .ok (.aload 4, 2) := by decide +kernel
theorem dX10_holding_68 : decode cX10_holding 68 = .ok (.getfield 81, 3) := by decide +kernel
theorem dX10_holding_71 : decode cX10_holding 71 = .ok (.if_icmp .lt 7, 3) := by decide +kernel
theorem dX10_holding_74 : decode cX10_holding 74 = .ok (.aload 6, 2) := by decide +kernel
theorem dX10_holding_76 : decode cX10_holding 76 = .ok (.astore 4, 2) := by decide +kernel
theorem dX10_holding_78 : decode cX10_holding 78 = .ok (.iinc 5 1, 3) := by decide +kernel
theorem dX10_holding_81 : decode cX10_holding 81 = .ok (.goto (-56), 3) := by decide +kernel
theorem dX10_holding_84 : decode cX10_holding 84 = .ok (.aload 4, 2) := by decide +kernel
theorem dX10_holding_86 : decode cX10_holding 86 = .ok (.areturn, 1) := by decide +kernel
theorem dX10_give_0 : decode cX10_give 0 = .ok (.iconst 0, 1) := by decide +kernel
theorem dX10_give_1 : decode cX10_give 1 = .ok (.istore_n 2, 1) := by decide +kernel
theorem dX10_give_2 : decode cX10_give 2 = .ok (.iconst 0, 1) := by decide +kernel
theorem dX10_give_3 : decode cX10_give 3 = .ok (.istore_n 3, 1) := by decide +kernel
theorem dX10_give_4 : decode cX10_give 4 = .ok (.iload_n 3, 1) := by decide +kernel
theorem dX10_give_5 : decode cX10_give 5 = .ok (.aload_n 1, 1) := by decide +kernel
theorem dX10_give_6 : decode cX10_give 6 = .ok (.getfield 84, 3) := by decide +kernel
theorem dX10_give_9 : decode cX10_give 9 = .ok (.arraylength, 1) := by decide +kernel
theorem dX10_give_10 : decode cX10_give 10 = .ok (.if_icmp .ge 166, 3) := by decide +kernel
theorem dX10_give_13 : decode cX10_give 13 = .ok (.aload_n 1, 1) := by decide +kernel
theorem dX10_give_14 : decode cX10_give 14 = .ok (.getfield 84, 3) := by decide +kernel
theorem dX10_give_17 : decode cX10_give 17 = .ok (.iload_n 3, 1) := by decide +kernel
theorem dX10_give_18 : decode cX10_give 18 = .ok (.iaload, 1) := by decide +kernel
theorem dX10_give_19 : decode cX10_give 19 = .ok (.istore 4, 2) := by decide +kernel
theorem dX10_give_21 : decode cX10_give 21 = .ok (.iload 4, 2) := by decide +kernel
theorem dX10_give_23 : decode cX10_give 23 = .ok (.sipush 20000, 3) := by decide +kernel
theorem dX10_give_26 : decode cX10_give 26 = .ok (.if_icmp .ge 32, 3) := by decide +kernel
theorem dX10_give_29 : decode cX10_give 29 = .ok (.iload_n 2, 1) := by decide +kernel
theorem dX10_give_30 : decode cX10_give 30 = .ok (.aload_n 0, 1) := by decide +kernel
theorem dX10_give_31 : decode cX10_give 31 = .ok (.getfield 35, 3) := by decide +kernel
theorem dX10_give_34 : decode cX10_give 34 = .ok (.arraylength, 1) := by decide +kernel
theorem dX10_give_35 : decode cX10_give 35 = .ok (.if_icmp .lt 5, 3) := by decide +kernel
theorem dX10_give_38 : decode cX10_give 38 = .ok (.iconst 0, 1) := by decide +kernel
theorem dX10_give_39 : decode cX10_give 39 = .ok (.ireturn, 1) := by decide +kernel
theorem dX10_give_40 : decode cX10_give 40 = .ok (.aload_n 0, 1) := by decide +kernel
theorem dX10_give_41 : decode cX10_give 41 = .ok (.getfield 35, 3) := by decide +kernel
theorem dX10_give_44 : decode cX10_give 44 = .ok (.iload_n 2, 1) := by decide +kernel
theorem dX10_give_45 : decode cX10_give 45 = .ok (.aload_n 0, 1) := by decide +kernel
theorem dX10_give_46 : decode cX10_give 46 = .ok (.iload 4, 2) := by decide +kernel
theorem dX10_give_48 : decode cX10_give 48 = .ok (.invokevirtual 87, 3) := by decide +kernel
theorem dX10_give_51 : decode cX10_give 51 = .ok (.iastore, 1) := by decide +kernel
theorem dX10_give_52 : decode cX10_give 52 = .ok (.iinc 2 1, 3) := by decide +kernel
theorem dX10_give_55 : decode cX10_give 55 = .ok (.goto 115, 3) := by decide +kernel
theorem dX10_give_58 : decode cX10_give 58 = .ok (.iload 4, 2) := by decide +kernel
theorem dX10_give_60 : decode cX10_give 60 = .ok (.sipush 20033, 3) := by decide +kernel
theorem dX10_give_63 : decode cX10_give 63 = .ok (.if_icmp .eq 11, 3) := by decide +kernel
theorem dX10_give_66 : decode cX10_give 66 = .ok (.iload 4, 2) := by decide +kernel
theorem dX10_give_68 : decode cX10_give 68 = .ok (.sipush 20126, 3) := by decide +kernel
theorem dX10_give_71 : decode cX10_give 71 = .ok (.if_icmp .ne 58, 3) := by decide +kernel
theorem dX10_give_74 : decode cX10_give 74 = .ok (.iload_n 2, 1) := by decide +kernel
theorem dX10_give_75 : decode cX10_give 75 = .ok (.iconst 1, 1) := by decide +kernel
theorem dX10_give_76 : decode cX10_give 76 = .ok (.if_icmp .ge 5, 3) := by decide +kernel
theorem dX10_give_79 : decode cX10_give 79 = .ok (.iconst 0, 1) := by decide +kernel
theorem dX10_give_80 : decode cX10_give 80 = .ok (.ireturn, 1) := by decide +kernel
theorem dX10_give_81 : decode cX10_give 81 = .ok (.aload_n 0, 1) := by decide +kernel
theorem dX10_give_82 : decode cX10_give 82 = .ok (.getfield 35, 3) := by decide +kernel
theorem dX10_give_85 : decode cX10_give 85 = .ok (.iload_n 2, 1) := by decide +kernel
theorem dX10_give_86 : decode cX10_give 86 = .ok (.iconst 1, 1) := by decide +kernel
theorem dX10_give_87 : decode cX10_give 87 = .ok (.isub, 1) := by decide +kernel
theorem dX10_give_88 : decode cX10_give 88 = .ok (.iaload, 1) := by decide +kernel
theorem dX10_give_89 : decode cX10_give 89 = .ok (.istore 5, 2) := by decide +kernel
theorem dX10_give_91 : decode cX10_give 91 = .ok (.aload_n 0, 1) := by decide +kernel
theorem dX10_give_92 : decode cX10_give 92 = .ok (.getfield 35, 3) := by decide +kernel
theorem dX10_give_95 : decode cX10_give 95 = .ok (.iload_n 2, 1) := by decide +kernel
theorem dX10_give_96 : decode cX10_give 96 = .ok (.iconst 1, 1) := by decide +kernel
theorem dX10_give_97 : decode cX10_give 97 = .ok (.isub, 1) := by decide +kernel
theorem dX10_give_98 : decode cX10_give 98 = .ok (.iload 4, 2) := by decide +kernel
theorem dX10_give_100 : decode cX10_give 100 = .ok (.sipush 20033, 3) := by decide +kernel
theorem dX10_give_103 : decode cX10_give 103 = .ok (.if_icmp .ne 19, 3) := by decide +kernel
theorem dX10_give_106 : decode cX10_give 106 = .ok (.iload 5, 2) := by decide +kernel
theorem dX10_give_108 : decode cX10_give 108 = .ok (.ifCond .ne 7, 3) := by decide +kernel
theorem dX10_give_111 : decode cX10_give 111 = .ok (.iconst 1, 1) := by decide +kernel
theorem dX10_give_112 : decode cX10_give 112 = .ok (.goto 4, 3) := by decide +kernel
theorem dX10_give_115 : decode cX10_give 115 = .ok (.iconst 0, 1) := by decide +kernel
theorem dX10_give_116 : decode cX10_give 116 = .ok (.invokestatic 91, 3) := by decide +kernel
theorem dX10_give_119 : decode cX10_give 119 = .ok (.goto 6, 3) := by decide +kernel
theorem dX10_give_122 : decode cX10_give 122 = .ok (.iload 5, 2) := by decide +kernel
theorem dX10_give_124 : decode cX10_give 124 = .ok (.ineg, 1) := by decide +kernel
theorem dX10_give_125 : decode cX10_give 125 = .ok (.iastore, 1) := by decide +kernel
theorem dX10_give_126 : decode cX10_give 126 = .ok (.goto 44, 3) := by decide +kernel
theorem dX10_give_129 : decode cX10_give 129 = .ok (.iload_n 2, 1) := by decide +kernel
theorem dX10_give_130 : decode cX10_give 130 = .ok (.iconst 2, 1) := by decide +kernel
theorem dX10_give_131 : decode cX10_give 131 = .ok (.if_icmp .ge 5, 3) := by decide +kernel
theorem dX10_give_134 : decode cX10_give 134 = .ok (.iconst 0, 1) := by decide +kernel
theorem dX10_give_135 : decode cX10_give 135 = .ok (.ireturn, 1) := by decide +kernel
theorem dX10_give_136 : decode cX10_give 136 = .ok (.iinc 2 (-1), 3) := by decide +kernel
theorem dX10_give_139 : decode cX10_give 139 = .ok (.aload_n 0, 1) := by decide +kernel
theorem dX10_give_140 : decode cX10_give 140 = .ok (.getfield 35, 3) := by decide +kernel
theorem dX10_give_143 : decode cX10_give 143 = .ok (.iload_n 2, 1) := by decide +kernel
theorem dX10_give_144 : decode cX10_give 144 = .ok (.iconst 1, 1) := by decide +kernel
theorem dX10_give_145 : decode cX10_give 145 = .ok (.isub, 1) := by decide +kernel
theorem dX10_give_146 : decode cX10_give 146 = .ok (.iload 4, 2) := by decide +kernel
theorem dX10_give_148 : decode cX10_give 148 = .ok (.sipush 20000, 3) := by decide +kernel
theorem dX10_give_151 : decode cX10_give 151 = .ok (.isub, 1) := by decide +kernel
theorem dX10_give_152 : decode cX10_give 152 = .ok (.aload_n 0, 1) := by decide +kernel
theorem dX10_give_153 : decode cX10_give 153 = .ok (.getfield 35, 3) := by decide +kernel
theorem dX10_give_156 : decode cX10_give 156 = .ok (.iload_n 2, 1) := by decide +kernel
theorem dX10_give_157 : decode cX10_give 157 = .ok (.iconst 1, 1) := by decide +kernel
theorem dX10_give_158 : decode cX10_give 158 = .ok (.isub, 1) := by decide +kernel
theorem dX10_give_159 : decode cX10_give 159 = .ok (.iaload, 1) := by decide +kernel
theorem dX10_give_160 : decode cX10_give 160 = .ok (.aload_n 0, 1) := by decide +kernel
theorem dX10_give_161 : decode cX10_give 161 = .ok (.getfield 35, 3) := by decide +kernel
theorem dX10_give_164 : decode cX10_give 164 = .ok (.iload_n 2, 1) := by decide +kernel
theorem dX10_give_165 : decode cX10_give 165 = .ok (.iaload, 1) := by decide +kernel
theorem dX10_give_166 : decode cX10_give 166 = .ok (.invokestatic 95, 3) := by decide +kernel
theorem dX10_give_169 : decode cX10_give 169 = .ok (.iastore, 1) := by decide +kernel
theorem dX10_give_170 : decode cX10_give 170 = .ok (.iinc 3 1, 3) := by decide +kernel
theorem dX10_give_173 : decode cX10_give 173 = .ok (.goto (-169), 3) := by decide +kernel
theorem dX10_give_176 : decode cX10_give 176 = .ok (.aload_n 0, 1) := by decide +kernel
theorem dX10_give_177 : decode cX10_give 177 = .ok (.getfield 35, 3) := by decide +kernel
theorem dX10_give_180 : decode cX10_give 180 = .ok (.iconst 0, 1) := by decide +kernel
theorem dX10_give_181 : decode cX10_give 181 = .ok (.iaload, 1) := by decide +kernel
theorem dX10_give_182 : decode cX10_give 182 = .ok (.ireturn, 1) := by decide +kernel
theorem dX10_thing_0 : decode cX10_thing 0 = .ok (.iload_n 1, 1) := by decide +kernel
theorem dX10_thing_1 : decode cX10_thing 1 = .ok (.sipush 10000, 3) := by decide +kernel
theorem dX10_thing_4 : decode cX10_thing 4 = .ok (.if_icmp .ge 7, 3) := by decide +kernel
theorem dX10_thing_7 : decode cX10_thing 7 = .ok (.iload_n 1, 1) := by decide +kernel
theorem dX10_thing_8 : decode cX10_thing 8 = .ok (.goto 16, 3) := by decide +kernel
theorem dX10_thing_11 : decode cX10_thing 11 = .ok (.aload_n 0, 1) := by decide +kernel
theorem dX10_thing_12 : decode cX10_thing 12 = .ok (.getfield 21, 3) := by decide +kernel
theorem dX10_thing_15 : decode cX10_thing 15 = .ok (.iload_n 1, 1) := by decide +kernel
theorem dX10_thing_16 : decode cX10_thing 16 = .ok (.sipush 10000, 3) := by decide +kernel
theorem dX10_thing_19 : decode cX10_thing 19 = .ok (.isub, 1) := by decide +kernel
theorem dX10_thing_20 : decode cX10_thing 20 = .ok (.bipush 7, 2) := by decide +kernel
theorem dX10_thing_22 : decode cX10_thing 22 = .ok (.iand, 1) := by decide +kernel
theorem dX10_thing_23 : decode cX10_thing 23 = .ok (.iaload, 1) := by decide +kernel
theorem dX10_thing_24 : decode cX10_thing 24 = .ok (.ireturn, 1) := by decide +kernel
theorem dX10_joined_0 : decode cX10_joined 0 = .ok (.iload_n 0, 1) := by decide +kernel
theorem dX10_joined_1 : decode cX10_joined 1 = .ok (.lookupswitch 151 #[(38, 84), (43, 143), (45, 147), (60, 101), (61, 129), (62, 115), (124, 67)], 67) := by decide +kernel
theorem dX10_joined_68 : decode cX10_joined 68 = .ok (.iload_n 1, 1) := by decide +kernel
theorem dX10_joined_69 : decode cX10_joined 69 = .ok (.ifCond .ne 7, 3) := by decide +kernel
theorem dX10_joined_72 : decode cX10_joined 72 = .ok (.iload_n 2, 1) := by decide +kernel
theorem dX10_joined_73 : decode cX10_joined 73 = .ok (.ifCond .eq 7, 3) := by decide +kernel
theorem dX10_joined_76 : decode cX10_joined 76 = .ok (.iconst 1, 1) := by decide +kernel
theorem dX10_joined_77 : decode cX10_joined 77 = .ok (.goto 4, 3) := by decide +kernel
theorem dX10_joined_80 : decode cX10_joined 80 = .ok (.iconst 0, 1) := by decide +kernel
theorem dX10_joined_81 : decode cX10_joined 81 = .ok (.invokestatic 91, 3) := by decide +kernel
theorem dX10_joined_84 : decode cX10_joined 84 = .ok (.ireturn, 1) := by decide +kernel
theorem dX10_joined_85 : decode cX10_joined 85 = .ok (.iload_n 1, 1) := by decide +kernel
theorem dX10_joined_86 : decode cX10_joined 86 = .ok (.ifCond .eq 11, 3) := by decide +kernel
theorem dX10_joined_89 : decode cX10_joined 89 = .ok (.iload_n 2, 1) := by decide +kernel
theorem dX10_joined_90 : decode cX10_joined 90 = .ok (.ifCond .eq 7, 3) := by decide +kernel
theorem dX10_joined_93 : decode cX10_joined 93 = .ok (.iconst 1, 1) := by decide +kernel
theorem dX10_joined_94 : decode cX10_joined 94 = .ok (.goto 4, 3) := by decide +kernel
theorem dX10_joined_97 : decode cX10_joined 97 = .ok (.iconst 0, 1) := by decide +kernel
theorem dX10_joined_98 : decode cX10_joined 98 = .ok (.invokestatic 91, 3) := by decide +kernel
theorem dX10_joined_101 : decode cX10_joined 101 = .ok (.ireturn, 1) := by decide +kernel
theorem dX10_joined_102 : decode cX10_joined 102 = .ok (.iload_n 1, 1) := by decide +kernel
theorem dX10_joined_103 : decode cX10_joined 103 = .ok (.iload_n 2, 1) := by decide +kernel
theorem dX10_joined_104 : decode cX10_joined 104 = .ok (.if_icmp .ge 7, 3) := by decide +kernel
theorem dX10_joined_107 : decode cX10_joined 107 = .ok (.iconst 1, 1) := by decide +kernel
theorem dX10_joined_108 : decode cX10_joined 108 = .ok (.goto 4, 3) := by decide +kernel
theorem dX10_joined_111 : decode cX10_joined 111 = .ok (.iconst 0, 1) := by decide +kernel
theorem dX10_joined_112 : decode cX10_joined 112 = .ok (.invokestatic 91, 3) := by decide +kernel
theorem dX10_joined_115 : decode cX10_joined 115 = .ok (.ireturn, 1) := by decide +kernel
theorem dX10_joined_116 : decode cX10_joined 116 = .ok (.iload_n 1, 1) := by decide +kernel
theorem dX10_joined_117 : decode cX10_joined 117 = .ok (.iload_n 2, 1) := by decide +kernel
theorem dX10_joined_118 : decode cX10_joined 118 = .ok (.if_icmp .le 7, 3) := by decide +kernel
theorem dX10_joined_121 : decode cX10_joined 121 = .ok (.iconst 1, 1) := by decide +kernel
theorem dX10_joined_122 : decode cX10_joined 122 = .ok (.goto 4, 3) := by decide +kernel
theorem dX10_joined_125 : decode cX10_joined 125 = .ok (.iconst 0, 1) := by decide +kernel
theorem dX10_joined_126 : decode cX10_joined 126 = .ok (.invokestatic 91, 3) := by decide +kernel
theorem dX10_joined_129 : decode cX10_joined 129 = .ok (.ireturn, 1) := by decide +kernel
theorem dX10_joined_130 : decode cX10_joined 130 = .ok (.iload_n 1, 1) := by decide +kernel
theorem dX10_joined_131 : decode cX10_joined 131 = .ok (.iload_n 2, 1) := by decide +kernel
theorem dX10_joined_132 : decode cX10_joined 132 = .ok (.if_icmp .ne 7, 3) := by decide +kernel
theorem dX10_joined_135 : decode cX10_joined 135 = .ok (.iconst 1, 1) := by decide +kernel
theorem dX10_joined_136 : decode cX10_joined 136 = .ok (.goto 4, 3) := by decide +kernel
theorem dX10_joined_139 : decode cX10_joined 139 = .ok (.iconst 0, 1) := by decide +kernel
theorem dX10_joined_140 : decode cX10_joined 140 = .ok (.invokestatic 91, 3) := by decide +kernel
theorem dX10_joined_143 : decode cX10_joined 143 = .ok (.ireturn, 1) := by decide +kernel
theorem dX10_joined_144 : decode cX10_joined 144 = .ok (.iload_n 1, 1) := by decide +kernel
theorem dX10_joined_145 : decode cX10_joined 145 = .ok (.iload_n 2, 1) := by decide +kernel
theorem dX10_joined_146 : decode cX10_joined 146 = .ok (.iadd, 1) := by decide +kernel
theorem dX10_joined_147 : decode cX10_joined 147 = .ok (.ireturn, 1) := by decide +kernel
theorem dX10_joined_148 : decode cX10_joined 148 = .ok (.iload_n 1, 1) := by decide +kernel
theorem dX10_joined_149 : decode cX10_joined 149 = .ok (.iload_n 2, 1) := by decide +kernel
theorem dX10_joined_150 : decode cX10_joined 150 = .ok (.isub, 1) := by decide +kernel
theorem dX10_joined_151 : decode cX10_joined 151 = .ok (.ireturn, 1) := by decide +kernel
theorem dX10_joined_152 : decode cX10_joined 152 = .ok (.iload_n 1, 1) := by decide +kernel
theorem dX10_joined_153 : decode cX10_joined 153 = .ok (.iload_n 2, 1) := by decide +kernel
theorem dX10_joined_154 : decode cX10_joined 154 = .ok (.imul, 1) := by decide +kernel
theorem dX10_joined_155 : decode cX10_joined 155 = .ok (.ireturn, 1) := by decide +kernel
theorem dX10_truth_0 : decode cX10_truth 0 = .ok (.iload_n 0, 1) := by decide +kernel
theorem dX10_truth_1 : decode cX10_truth 1 = .ok (.ifCond .eq 7, 3) := by decide +kernel
theorem dX10_truth_4 : decode cX10_truth 4 = .ok (.iconst 1, 1) := by decide +kernel
theorem dX10_truth_5 : decode cX10_truth 5 = .ok (.goto 4, 3) := by decide +kernel
theorem dX10_truth_8 : decode cX10_truth 8 = .ok (.iconst 0, 1) := by decide +kernel
theorem dX10_truth_9 : decode cX10_truth 9 = .ok (.ireturn, 1) := by decide +kernel
theorem dX11_init_0 : decode cX11_init 0 = .ok (.aload_n 0, 1) := by decide +kernel
theorem dX11_init_1 : decode cX11_init 1 = .ok (.invokespecial 1, 3) := by decide +kernel
theorem dX11_init_4 : decode cX11_init 4 = .ok (.aload_n 0, 1) := by decide +kernel
theorem dX11_init_5 : decode cX11_init 5 = .ok (.new 7, 3) := by decide +kernel
theorem dX11_init_8 : decode cX11_init 8 = .ok (.dup, 1) := by decide +kernel
theorem dX11_init_9 : decode cX11_init 9 = .ok (.invokespecial 9, 3) := by decide +kernel
theorem dX11_init_12 : decode cX11_init 12 = .ok (.putfield 10, 3) := by decide +kernel
theorem dX11_init_15 : decode cX11_init 15 = .ok (.aload_n 0, 1) := by decide +kernel
theorem dX11_init_16 : decode cX11_init 16 = .ok (.new 16, 3) := by decide +kernel
theorem dX11_init_19 : decode cX11_init 19 = .ok (.dup, 1) := by decide +kernel
theorem dX11_init_20 : decode cX11_init 20 = .ok (.invokespecial 18, 3) := by decide +kernel
theorem dX11_init_23 : decode cX11_init 23 = .ok (.putfield 19, 3) := by decide +kernel
theorem dX11_init_26 : decode cX11_init 26 = .ok (.aload_n 0, 1) := by decide +kernel
theorem dX11_init_27 : decode cX11_init 27 = .ok (.new 23, 3) := by decide +kernel
theorem dX11_init_30 : decode cX11_init 30 = .ok (.dup, 1) := by decide +kernel
theorem dX11_init_31 : decode cX11_init 31 = .ok (.aload_n 0, 1) := by decide +kernel
theorem dX11_init_32 : decode cX11_init 32 = .ok (.getfield 10, 3) := by decide +kernel
theorem dX11_init_35 : decode cX11_init 35 = .ok (.aload_n 0, 1) := by decide +kernel
theorem dX11_init_36 : decode cX11_init 36 = .ok (.getfield 19, 3) := by decide +kernel
theorem dX11_init_39 : decode cX11_init 39 = .ok (.invokespecial 25, 3) := by decide +kernel
theorem dX11_init_42 : decode cX11_init 42 = .ok (.putfield 28, 3) := by decide +kernel
theorem dX11_init_45 : decode cX11_init 45 = .ok (.aload_n 0, 1) := by decide +kernel
theorem dX11_init_46 : decode cX11_init 46 = .ok (.new 23, 3) := by decide +kernel
theorem dX11_init_49 : decode cX11_init 49 = .ok (.dup, 1) := by decide +kernel
theorem dX11_init_50 : decode cX11_init 50 = .ok (.aload_n 0, 1) := by decide +kernel
theorem dX11_init_51 : decode cX11_init 51 = .ok (.getfield 10, 3) := by decide +kernel
theorem dX11_init_54 : decode cX11_init 54 = .ok (.aload_n 0, 1) := by decide +kernel
theorem dX11_init_55 : decode cX11_init 55 = .ok (.getfield 19, 3) := by decide +kernel
theorem dX11_init_58 : decode cX11_init 58 = .ok (.invokespecial 25, 3) := by decide +kernel
theorem dX11_init_61 : decode cX11_init 61 = .ok (.putfield 32, 3) := by decide +kernel
theorem dX11_init_64 : decode cX11_init 64 = .ok (.aload_n 0, 1) := by decide +kernel
theorem dX11_init_65 : decode cX11_init 65 = .ok (.new 35, 3) := by decide +kernel
theorem dX11_init_68 : decode cX11_init 68 = .ok (.dup, 1) := by decide +kernel
theorem dX11_init_69 : decode cX11_init 69 = .ok (.aload_n 0, 1) := by decide +kernel
theorem dX11_init_70 : decode cX11_init 70 = .ok (.getfield 10, 3) := by decide +kernel
theorem dX11_init_73 : decode cX11_init 73 = .ok (.aload_n 0, 1) := by decide +kernel
theorem dX11_init_74 : decode cX11_init 74 = .ok (.getfield 19, 3) := by decide +kernel
theorem dX11_init_77 : decode cX11_init 77 = .ok (.aload_n 0, 1) := by decide +kernel
theorem dX11_init_78 : decode cX11_init 78 = .ok (.getfield 28, 3) := by decide +kernel
theorem dX11_init_81 : decode cX11_init 81 = .ok (.invokespecial 37, 3) := by decide +kernel
theorem dX11_init_84 : decode cX11_init 84 = .ok (.putfield 40, 3) := by decide +kernel
theorem dX11_init_87 : decode cX11_init 87 = .ok (.aload_n 0, 1) := by decide +kernel
theorem dX11_init_88 : decode cX11_init 88 = .ok (.new 44, 3) := by decide +kernel
theorem dX11_init_91 : decode cX11_init 91 = .ok (.dup, 1) := by decide +kernel
theorem dX11_init_92 : decode cX11_init 92 = .ok (.aload_n 0, 1) := by decide +kernel
theorem dX11_init_93 : decode cX11_init 93 = .ok (.getfield 10, 3) := by decide +kernel
theorem dX11_init_96 : decode cX11_init 96 = .ok (.aload_n 0, 1) := by decide +kernel
theorem dX11_init_97 : decode cX11_init 97 = .ok (.getfield 28, 3) := by decide +kernel
theorem dX11_init_100 : decode cX11_init 100 = .ok (.invokespecial 46, 3) := by decide +kernel
theorem dX11_init_103 : decode cX11_init 103 = .ok (.putfield 49, 3) := by decide +kernel
theorem dX11_init_106 : decode cX11_init 106 = .ok (.aload_n 0, 1) := by decide +kernel
theorem dX11_init_107 : decode cX11_init 107 = .ok (.bipush 100, 2) := by decide +kernel
theorem dX11_init_109 : decode cX11_init 109 = .ok (.newarray .char, 2) := by decide +kernel
theorem dX11_init_111 : decode cX11_init 111 = .ok (.putfield 53, 3) := by decide +kernel
theorem dX11_init_114 : decode cX11_init 114 = .ok (.aload_n 0, 1) := by decide +kernel
theorem dX11_init_115 : decode cX11_init 115 = .ok (.iconst 0, 1) := by decide +kernel
theorem dX11_init_116 : decode cX11_init 116 = .ok (.putfield 57, 3) := by decide +kernel
theorem dX11_init_119 : decode cX11_init 119 = .ok (.aload_n 0, 1) := by decide +kernel
theorem dX11_init_120 : decode cX11_init 120 = .ok (.bipush 8, 2) := by decide +kernel
theorem dX11_init_122 : decode cX11_init 122 = .ok (.newarray .int, 2) := by decide +kernel
theorem dX11_init_124 : decode cX11_init 124 = .ok (.putfield 61, 3) := by decide +kernel
theorem dX11_init_127 : decode cX11_init 127 = .ok (.aload_n 0, 1) := by decide +kernel
theorem dX11_init_128 : decode cX11_init 128 = .ok (.iconst 0, 1) := by decide +kernel
theorem dX11_init_129 : decode cX11_init 129 = .ok (.putfield 65, 3) := by decide +kernel
theorem dX11_init_132 : decode cX11_init 132 = .ok (.return_, 1) := by decide +kernel
theorem dX11_post_0 : decode cX11_post 0 = .ok (.iload_n 1, 1) := by decide +kernel
theorem dX11_post_1 : decode cX11_post 1 = .ok (.iconst 0, 1) := by decide +kernel
theorem dX11_post_2 : decode cX11_post 2 = .ok (.sipush 479, 3) := by decide +kernel
theorem dX11_post_5 : decode cX11_post 5 = .ok (.invokestatic 68, 3) := by decide +kernel
theorem dX11_post_8 : decode cX11_post 8 = .ok (.ifCond .eq 14, 3) := by decide +kernel
theorem dX11_post_11 : decode cX11_post 11 = .ok (.aload_n 0, 1) := by decide +kernel
theorem dX11_post_12 : decode cX11_post 12 = .ok (.getfield 10, 3) := by decide +kernel
theorem dX11_post_15 : decode cX11_post 15 = .ok (.getfield 72, 3) := by decide +kernel
theorem dX11_post_18 : decode cX11_post 18 = .ok (.iconst 4, 1) := by decide +kernel
theorem dX11_post_19 : decode cX11_post 19 = .ok (.if_icmp .lt 5, 3) := by decide +kernel
theorem dX11_post_22 : decode cX11_post 22 = .ok (.iconst (-1), 1) := by decide +kernel
theorem dX11_post_23 : decode cX11_post 23 = .ok (.ireturn, 1) := by decide +kernel
theorem dX11_post_24 : decode cX11_post 24 = .ok (.aload_n 0, 1) := by decide +kernel
theorem dX11_post_25 : decode cX11_post 25 = .ok (.getfield 10, 3) := by decide +kernel
theorem dX11_post_28 : decode cX11_post 28 = .ok (.getfield 75, 3) := by decide +kernel
theorem dX11_post_31 : decode cX11_post 31 = .ok (.aload_n 0, 1) := by decide +kernel
theorem dX11_post_32 : decode cX11_post 32 = .ok (.getfield 10, 3) := by decide +kernel
theorem dX11_post_35 : decode cX11_post 35 = .ok (.getfield 72, 3) := by decide +kernel
theorem dX11_post_38 : decode cX11_post 38 = .ok (.iload_n 1, 1) := by decide +kernel
theorem dX11_post_39 : decode cX11_post 39 = .ok (.iastore, 1) := by decide +kernel
theorem dX11_post_40 : decode cX11_post 40 = .ok (.aload_n 0, 1) := by decide +kernel
theorem dX11_post_41 : decode cX11_post 41 = .ok (.getfield 10, 3) := by decide +kernel
theorem dX11_post_44 : decode cX11_post 44 = .ok (.dup, 1) := by decide +kernel
theorem dX11_post_45 : decode cX11_post 45 = .ok (.getfield 72, 3) := by decide +kernel
theorem dX11_post_48 : decode cX11_post 48 = .ok (.iconst 1, 1) := by decide +kernel
theorem dX11_post_49 : decode cX11_post 49 = .ok (.iadd, 1) := by decide +kernel
theorem dX11_post_50 : decode cX11_post 50 = .ok (.putfield 72, 3) := by decide +kernel
theorem dX11_post_53 : decode cX11_post 53 = .ok (.aload_n 0, 1) := by decide +kernel
theorem dX11_post_54 : decode cX11_post 54 = .ok (.getfield 10, 3) := by decide +kernel
theorem dX11_post_57 : decode cX11_post 57 = .ok (.getfield 72, 3) := by decide +kernel
theorem dX11_post_60 : decode cX11_post 60 = .ok (.ireturn, 1) := by decide +kernel
theorem dX11_hand_0 : decode cX11_hand 0 = .ok (.iload_n 1, 1) := by decide +kernel
theorem dX11_hand_1 : decode cX11_hand 1 = .ok (.bipush 10, 2) := by decide +kernel
theorem dX11_hand_3 : decode cX11_hand 3 = .ok (.sipush 200, 3) := by decide +kernel
theorem dX11_hand_6 : decode cX11_hand 6 = .ok (.invokestatic 68, 3) := by decide +kernel
theorem dX11_hand_9 : decode cX11_hand 9 = .ok (.ifCond .eq 38, 3) := by decide +kernel
theorem dX11_hand_12 : decode cX11_hand 12 = .ok (.iload_n 2, 1) := by decide +kernel
theorem dX11_hand_13 : decode cX11_hand 13 = .ok (.iconst 0, 1) := by decide +kernel
theorem dX11_hand_14 : decode cX11_hand 14 = .ok (.sipush 255, 3) := by decide +kernel
theorem dX11_hand_17 : decode cX11_hand 17 = .ok (.invokestatic 68, 3) := by decide +kernel
theorem dX11_hand_20 : decode cX11_hand 20 = .ok (.ifCond .eq 27, 3) := by decide +kernel
theorem dX11_hand_23 : decode cX11_hand 23 = .ok (.iload_n 3, 1) := by decide +kernel
theorem dX11_hand_24 : decode cX11_hand 24 = .ok (.iconst 0, 1) := by decide +kernel
theorem dX11_hand_25 : decode cX11_hand 25 = .ok (.ldc 78, 2) := by decide +kernel
theorem dX11_hand_27 : decode cX11_hand 27 = .ok (.invokestatic 68, 3) := by decide +kernel
theorem dX11_hand_30 : decode cX11_hand 30 = .ok (.ifCond .eq 17, 3) := by decide +kernel
theorem dX11_hand_33 : decode cX11_hand 33 = .ok (.iload 4, 2) := by decide +kernel
theorem dX11_hand_35 : decode cX11_hand 35 = .ok (.iconst 0, 1) := by decide +kernel
theorem dX11_hand_36 : decode cX11_hand 36 = .ok (.iconst 3, 1) := by decide +kernel
theorem dX11_hand_37 : decode cX11_hand 37 = .ok (.invokestatic 68, 3) := by decide +kernel
theorem dX11_hand_40 : decode cX11_hand 40 = .ok (.ifCond .eq 7, 3) := by decide +kernel
theorem dX11_hand_43 : decode cX11_hand 43 = .ok (.iconst 1, 1) := by decide +kernel
theorem dX11_hand_44 : decode cX11_hand 44 = .ok (.goto 4, 3) := by decide +kernel
theorem dX11_hand_47 : decode cX11_hand 47 = .ok (.iconst 0, 1) := by decide +kernel
theorem dX11_hand_48 : decode cX11_hand 48 = .ok (.istore 5, 2) := by decide +kernel
theorem dX11_hand_50 : decode cX11_hand 50 = .ok (.iload 5, 2) := by decide +kernel
theorem dX11_hand_52 : decode cX11_hand 52 = .ok (.ifCond .eq 15, 3) := by decide +kernel
theorem dX11_hand_55 : decode cX11_hand 55 = .ok (.aload_n 0, 1) := by decide +kernel
theorem dX11_hand_56 : decode cX11_hand 56 = .ok (.getfield 10, 3) := by decide +kernel
theorem dX11_hand_59 : decode cX11_hand 59 = .ok (.getfield 79, 3) := by decide +kernel
theorem dX11_hand_62 : decode cX11_hand 62 = .ok (.bipush 8, 2) := by decide +kernel
theorem dX11_hand_64 : decode cX11_hand 64 = .ok (.if_icmp .lt 5, 3) := by decide +kernel
theorem dX11_hand_67 : decode cX11_hand 67 = .ok (.iconst (-1), 1) := by decide +kernel
theorem dX11_hand_68 : decode cX11_hand 68 = .ok (.ireturn, 1) := by decide +kernel
theorem dX11_hand_69 : decode cX11_hand 69 = .ok (.aload_n 0, 1) := by decide +kernel
theorem dX11_hand_70 : decode cX11_hand 70 = .ok (.getfield 10, 3) := by decide +kernel
theorem dX11_hand_73 : decode cX11_hand 73 = .ok (.getfield 79, 3) := by decide +kernel
theorem dX11_hand_76 : decode cX11_hand 76 = .ok (.istore 6, 2) := by decide +kernel
theorem dX11_hand_78 : decode cX11_hand 78 = .ok (.aload_n 0, 1) := by decide +kernel
theorem dX11_hand_79 : decode cX11_hand 79 = .ok (.getfield 10, 3) := by decide +kernel
theorem dX11_hand_82 : decode cX11_hand 82 = .ok (.getfield 82, 3) := by decide +kernel
theorem dX11_hand_85 : decode cX11_hand 85 = .ok (.iload 6, 2) := by decide +kernel
theorem dX11_hand_87 : decode cX11_hand 87 = .ok (.new 86, 3) := by decide +kernel
theorem dX11_hand_90 : decode cX11_hand 90 = .ok (.dup, 1) := by decide +kernel
theorem dX11_hand_91 : decode cX11_hand 91 = .ok (.iload_n 1, 1) := by decide +kernel
theorem dX11_hand_92 : decode cX11_hand 92 = .ok (.iload_n 2, 1) := by decide +kernel
theorem dX11_hand_93 : decode cX11_hand 93 = .ok (.iload 4, 2) := by decide +kernel
theorem dX11_hand_95 : decode cX11_hand 95 = .ok (.invokespecial 88, 3) := by decide +kernel
theorem dX11_hand_98 : decode cX11_hand 98 = .ok (.aastore, 1) := by decide +kernel
theorem dX11_hand_99 : decode cX11_hand 99 = .ok (.aload_n 0, 1) := by decide +kernel
theorem dX11_hand_100 : decode cX11_hand 100 = .ok (.getfield 10, 3) := by decide +kernel
theorem dX11_hand_103 : decode cX11_hand 103 = .ok (.dup, 1) := by decide +kernel
theorem dX11_hand_104 : decode cX11_hand 104 = .ok (.getfield 79, 3) := by decide +kernel
theorem dX11_hand_107 : decode cX11_hand 107 = .ok (.iconst 1, 1) := by decide +kernel
theorem dX11_hand_108 : decode cX11_hand 108 = .ok (.iadd, 1) := by decide +kernel
theorem dX11_hand_109 : decode cX11_hand 109 = .ok (.putfield 79, 3) := by decide +kernel
theorem dX11_hand_112 : decode cX11_hand 112 = .ok (.aload_n 0, 1) := by decide +kernel
theorem dX11_hand_113 : decode cX11_hand 113 = .ok (.getfield 28, 3) := by decide +kernel
theorem dX11_hand_116 : decode cX11_hand 116 = .ok (.iload 6, 2) := by decide +kernel
theorem dX11_hand_118 : decode cX11_hand 118 = .ok (.iload_n 3, 1) := by decide +kernel
theorem dX11_hand_119 : decode cX11_hand 119 = .ok (.invokevirtual 91, 3) := by decide +kernel
theorem dX11_hand_122 : decode cX11_hand 122 = .ok (.iload 6, 2) := by decide +kernel
theorem dX11_hand_124 : decode cX11_hand 124 = .ok (.ireturn, 1) := by decide +kernel
theorem dX11_away_0 : decode cX11_away 0 = .ok (.aload_n 0, 1) := by decide +kernel
theorem dX11_away_1 : decode cX11_away 1 = .ok (.getfield 10, 3) := by decide +kernel
theorem dX11_away_4 : decode cX11_away 4 = .ok (.iload_n 1, 1) := by decide +kernel
theorem dX11_away_5 : decode cX11_away 5 = .ok (.invokevirtual 95, 3) := by decide +kernel
theorem dX11_away_8 : decode cX11_away 8 = .ok (.ifCond .eq 36, 3) := by decide +kernel
theorem dX11_away_11 : decode cX11_away 11 = .ok (.iload_n 2, 1) := by decide +kernel
theorem dX11_away_12 : decode cX11_away 12 = .ok (.aload_n 0, 1) := by decide +kernel
theorem dX11_away_13 : decode cX11_away 13 = .ok (.getfield 28, 3) := by decide +kernel
theorem dX11_away_16 : decode cX11_away 16 = .ok (.getfield 99, 3) := by decide +kernel
theorem dX11_away_19 : decode cX11_away 19 = .ok (.sipush 4800, 3) := by decide +kernel
theorem dX11_away_22 : decode cX11_away 22 = .ok (.invokestatic 68, 3) := by decide +kernel
theorem dX11_away_25 : decode cX11_away 25 = .ok (.ifCond .eq 19, 3) := by decide +kernel
theorem dX11_away_28 : decode cX11_away 28 = .ok (.iload_n 3, 1) := by decide +kernel
theorem dX11_away_29 : decode cX11_away 29 = .ok (.iload_n 2, 1) := by decide +kernel
theorem dX11_away_30 : decode cX11_away 30 = .ok (.if_icmp .le 14, 3) := by decide +kernel
theorem dX11_away_33 : decode cX11_away 33 = .ok (.iload_n 3, 1) := by decide +kernel
theorem dX11_away_34 : decode cX11_away 34 = .ok (.sipush 4800, 3) := by decide +kernel
theorem dX11_away_37 : decode cX11_away 37 = .ok (.if_icmp .gt 7, 3) := by decide +kernel
theorem dX11_away_40 : decode cX11_away 40 = .ok (.iconst 1, 1) := by decide +kernel
theorem dX11_away_41 : decode cX11_away 41 = .ok (.goto 4, 3) := by decide +kernel
theorem dX11_away_44 : decode cX11_away 44 = .ok (.iconst 0, 1) := by decide +kernel
theorem dX11_away_45 : decode cX11_away 45 = .ok (.istore 4, 2) := by decide +kernel
theorem dX11_away_47 : decode cX11_away 47 = .ok (.iload 4, 2) := by decide +kernel
theorem dX11_away_49 : decode cX11_away 49 = .ok (.ifCond .eq 15, 3) := by decide +kernel
theorem dX11_away_52 : decode cX11_away 52 = .ok (.aload_n 0, 1) := by decide +kernel
theorem dX11_away_53 : decode cX11_away 53 = .ok (.getfield 10, 3) := by decide +kernel
theorem dX11_away_56 : decode cX11_away 56 = .ok (.getfield 102, 3) := by decide +kernel
theorem dX11_away_59 : decode cX11_away 59 = .ok (.bipush 30, 2) := by decide +kernel
theorem dX11_away_61 : decode cX11_away 61 = .ok (.if_icmp .lt 5, 3) := by decide +kernel
theorem dX11_away_64 : decode cX11_away 64 = .ok (.iconst (-1), 1) := by decide +kernel
theorem dX11_away_65 : decode cX11_away 65 = .ok (.ireturn, 1) := by decide +kernel
theorem dX11_away_66 : decode cX11_away 66 = .ok (.aload_n 0, 1) := by decide +kernel
theorem dX11_away_67 : decode cX11_away 67 = .ok (.getfield 10, 3) := by decide +kernel
theorem dX11_away_70 : decode cX11_away 70 = .ok (.new 105, 3) := by decide +kernel
theorem dX11_away_73 : decode cX11_away 73 = .ok (.dup, 1) := by decide +kernel
theorem dX11_away_74 : decode cX11_away 74 = .ok (.iload_n 1, 1) := by decide +kernel
theorem dX11_away_75 : decode cX11_away 75 = .ok (.iload_n 2, 1) := by decide +kernel
theorem dX11_away_76 : decode cX11_away 76 = .ok (.iload_n 3, 1) := by decide +kernel
theorem dX11_away_77 : decode cX11_away 77 = .ok (.invokespecial 107, 3) := by decide +kernel
theorem dX11_away_80 : decode cX11_away 80 = .ok (.invokevirtual 108, 3) := by decide +kernel
theorem dX11_away_83 : decode cX11_away 83 = .ok (.aload_n 0, 1) := by decide +kernel
theorem dX11_away_84 : decode cX11_away 84 = .ok (.getfield 10, 3) := by decide +kernel
theorem dX11_away_87 : decode cX11_away 87 = .ok (.getfield 102, 3) := by decide +kernel
theorem dX11_away_90 : decode cX11_away 90 = .ok (.ireturn, 1) := by decide +kernel
theorem dX11_piece_0 : decode cX11_piece 0 = .ok (.iload_n 1, 1) := by decide +kernel
theorem dX11_piece_1 : decode cX11_piece 1 = .ok (.iconst 0, 1) := by decide +kernel
theorem dX11_piece_2 : decode cX11_piece 2 = .ok (.bipush 7, 2) := by decide +kernel
theorem dX11_piece_4 : decode cX11_piece 4 = .ok (.invokestatic 68, 3) := by decide +kernel
theorem dX11_piece_7 : decode cX11_piece 7 = .ok (.ifCond .eq 102, 3) := by decide +kernel
theorem dX11_piece_10 : decode cX11_piece 10 = .ok (.iload_n 2, 1) := by decide +kernel
theorem dX11_piece_11 : decode cX11_piece 11 = .ok (.iconst 0, 1) := by decide +kernel
theorem dX11_piece_12 : decode cX11_piece 12 = .ok (.bipush 7, 2) := by decide +kernel
theorem dX11_piece_14 : decode cX11_piece 14 = .ok (.invokestatic 68, 3) := by decide +kernel
theorem dX11_piece_17 : decode cX11_piece 17 = .ok (.ifCond .eq 92, 3) := by decide +kernel
theorem dX11_piece_20 : decode cX11_piece 20 = .ok (.iload_n 3, 1) := by decide +kernel
theorem dX11_piece_21 : decode cX11_piece 21 = .ok (.iconst 1, 1) := by decide +kernel
theorem dX11_piece_22 : decode cX11_piece 22 = .ok (.sipush 400, 3) := by decide +kernel
theorem dX11_piece_25 : decode cX11_piece 25 = .ok (.invokestatic 68, 3) := by decide +kernel
theorem dX11_piece_28 : decode cX11_piece 28 = .ok (.ifCond .eq 81, 3) := by decide +kernel
theorem dX11_piece_31 : decode cX11_piece 31 = .ok (.iload 4, 2) := by decide +kernel
theorem dX11_piece_33 : decode cX11_piece 33 = .ok (.iconst 0, 1) := by decide +kernel
theorem dX11_piece_34 : decode cX11_piece 34 = .ok (.iconst 3, 1) := by decide +kernel
theorem dX11_piece_35 : decode cX11_piece 35 = .ok (.invokestatic 68, 3) := by decide +kernel
theorem dX11_piece_38 : decode cX11_piece 38 = .ok (.ifCond .eq 71, 3) := by decide +kernel
theorem dX11_piece_41 : decode cX11_piece 41 = .ok (.iload 5, 2) := by decide +kernel
theorem dX11_piece_43 : decode cX11_piece 43 = .ok (.iconst 0, 1) := by decide +kernel
theorem dX11_piece_44 : decode cX11_piece 44 = .ok (.bipush 9, 2) := by decide +kernel
theorem dX11_piece_46 : decode cX11_piece 46 = .ok (.invokestatic 68, 3) := by decide +kernel
theorem dX11_piece_49 : decode cX11_piece 49 = .ok (.ifCond .eq 60, 3) := by decide +kernel
theorem dX11_piece_52 : decode cX11_piece 52 = .ok (.iload 6, 2) := by decide +kernel
theorem dX11_piece_54 : decode cX11_piece 54 = .ok (.aload_n 0, 1) := by decide +kernel
theorem dX11_piece_55 : decode cX11_piece 55 = .ok (.getfield 28, 3) := by decide +kernel
theorem dX11_piece_58 : decode cX11_piece 58 = .ok (.getfield 99, 3) := by decide +kernel
theorem dX11_piece_61 : decode cX11_piece 61 = .ok (.sipush 4800, 3) := by decide +kernel
theorem dX11_piece_64 : decode cX11_piece 64 = .ok (.invokestatic 68, 3) := by decide +kernel
theorem dX11_piece_67 : decode cX11_piece 67 = .ok (.ifCond .eq 42, 3) := by decide +kernel
theorem dX11_piece_70 : decode cX11_piece 70 = .ok (.iload 7, 2) := by decide +kernel
theorem dX11_piece_72 : decode cX11_piece 72 = .ok (.iload 6, 2) := by decide +kernel
theorem dX11_piece_74 : decode cX11_piece 74 = .ok (.sipush 4800, 3) := by decide +kernel
theorem dX11_piece_77 : decode cX11_piece 77 = .ok (.invokestatic 68, 3) := by decide +kernel
theorem dX11_piece_80 : decode cX11_piece 80 = .ok (.ifCond .eq 29, 3) := by decide +kernel
theorem dX11_piece_83 : decode cX11_piece 83 = .ok (.iload 8, 2) := by decide +kernel
theorem dX11_piece_85 : decode cX11_piece 85 = .ok (.iconst 0, 1) := by decide +kernel
theorem dX11_piece_86 : decode cX11_piece 86 = .ok (.ldc 78, 2) := by decide +kernel
theorem dX11_piece_88 : decode cX11_piece 88 = .ok (.invokestatic 68, 3) := by decide +kernel
theorem dX11_piece_91 : decode cX11_piece 91 = .ok (.ifCond .eq 18, 3) := by decide +kernel
theorem dX11_piece_94 : decode cX11_piece 94 = .ok (.iload 9, 2) := by decide +kernel
theorem dX11_piece_96 : decode cX11_piece 96 = .ok (.iconst 0, 1) := by decide +kernel
theorem dX11_piece_97 : decode cX11_piece 97 = .ok (.bipush 6, 2) := by decide +kernel
theorem dX11_piece_99 : decode cX11_piece 99 = .ok (.invokestatic 68, 3) := by decide +kernel
theorem dX11_piece_102 : decode cX11_piece 102 = .ok (.ifCond .eq 7, 3) := by decide +kernel
theorem dX11_piece_105 : decode cX11_piece 105 = .ok (.iconst 1, 1) := by decide +kernel
theorem dX11_piece_106 : decode cX11_piece 106 = .ok (.goto 4, 3) := by decide +kernel
theorem dX11_piece_109 : decode cX11_piece 109 = .ok (.iconst 0, 1) := by decide +kernel
theorem dX11_piece_110 : decode cX11_piece 110 = .ok (.istore 10, 2) := by decide +kernel
theorem dX11_piece_112 : decode cX11_piece 112 = .ok (.iload 10, 2) := by decide +kernel
theorem dX11_piece_114 : decode cX11_piece 114 = .ok (.ifCond .eq 15, 3) := by decide +kernel
theorem dX11_piece_117 : decode cX11_piece 117 = .ok (.aload_n 0, 1) := by decide +kernel
theorem dX11_piece_118 : decode cX11_piece 118 = .ok (.getfield 10, 3) := by decide +kernel
theorem dX11_piece_121 : decode cX11_piece 121 = .ok (.getfield 112, 3) := by decide +kernel
theorem dX11_piece_124 : decode cX11_piece 124 = .ok (.bipush 30, 2) := by decide +kernel
theorem dX11_piece_126 : decode cX11_piece 126 = .ok (.if_icmp .lt 5, 3) := by decide +kernel
theorem dX11_piece_129 : decode cX11_piece 129 = .ok (.iconst (-1), 1) := by decide +kernel
theorem dX11_piece_130 : decode cX11_piece 130 = .ok (.ireturn, 1) := by decide +kernel
theorem dX11_piece_131 : decode cX11_piece 131 = .ok (.new 115, 3) := by decide +kernel
theorem dX11_piece_134 : decode cX11_piece 134 = .ok (.dup, 1) := by decide +kernel
theorem dX11_piece_135 : decode cX11_piece 135 = .ok (.invokespecial 117, 3) := by decide +kernel
theorem dX11_piece_138 : decode cX11_piece 138 = .ok (.astore 11, 2) := by decide +kernel
theorem dX11_piece_140 : decode cX11_piece 140 = .ok (.aload 11, 2) := by decide +kernel
theorem dX11_piece_142 : decode cX11_piece 142 = .ok (.iload_n 1, 1) := by decide +kernel
theorem dX11_piece_143 : decode cX11_piece 143 = .ok (.putfield 118, 3) := by decide +kernel
theorem dX11_piece_146 : decode cX11_piece 146 = .ok (.aload 11, 2) := by decide +kernel
theorem dX11_piece_148 : decode cX11_piece 148 = .ok (.iload_n 2, 1) := by decide +kernel
theorem dX11_piece_149 : decode cX11_piece 149 = .ok (.putfield 121, 3) := by decide +kernel
theorem dX11_piece_152 : decode cX11_piece 152 = .ok (.aload 11, 2) := by decide +kernel
theorem dX11_piece_154 : decode cX11_piece 154 = .ok (.iload_n 3, 1) := by decide +kernel
theorem dX11_piece_155 : decode cX11_piece 155 = .ok (.putfield 124, 3) := by decide +kernel
theorem dX11_piece_158 : decode cX11_piece 158 = .ok (.aload 11, 2) := by decide +kernel
theorem dX11_piece_160 : decode cX11_piece 160 = .ok (.iload 4, 2) := by decide +kernel
theorem dX11_piece_162 : decode cX11_piece 162 = .ok (.putfield 127, 3) := by decide +kernel
theorem dX11_piece_165 : decode cX11_piece 165 = .ok (.aload 11, 2) := by decide +kernel
theorem dX11_piece_167 : decode cX11_piece 167 = .ok (.iload 5, 2) := by decide +kernel
theorem dX11_piece_169 : decode cX11_piece 169 = .ok (.putfield 130, 3) := by decide +kernel
theorem dX11_piece_172 : decode cX11_piece 172 = .ok (.aload 11, 2) := by decide +kernel
theorem dX11_piece_174 : decode cX11_piece 174 = .ok (.iload 6, 2) := by decide +kernel
theorem dX11_piece_176 : decode cX11_piece 176 = .ok (.putfield 133, 3) := by decide +kernel
theorem dX11_piece_179 : decode cX11_piece 179 = .ok (.aload 11, 2) := by decide +kernel
theorem dX11_piece_181 : decode cX11_piece 181 = .ok (.iload 7, 2) := by decide +kernel
theorem dX11_piece_183 : decode cX11_piece 183 = .ok (.putfield 136, 3) := by decide +kernel
theorem dX11_piece_186 : decode cX11_piece 186 = .ok (.aload 11, 2) := by decide +kernel
theorem dX11_piece_188 : decode cX11_piece 188 = .ok (.iload 8, 2) := by decide +kernel
theorem dX11_piece_190 : decode cX11_piece 190 = .ok (.putfield 139, 3) := by decide +kernel
theorem dX11_piece_193 : decode cX11_piece 193 = .ok (.aload 11, 2) := by decide +kernel
theorem dX11_piece_195 : decode cX11_piece 195 = .ok (.iload 9, 2) := by decide +kernel
theorem dX11_piece_197 : decode cX11_piece 197 = .ok (.putfield 142, 3) := by decide +kernel
theorem dX11_piece_200 : decode cX11_piece 200 = .ok (.aload_n 0, 1) := by decide +kernel
theorem dX11_piece_201 : decode cX11_piece 201 = .ok (.getfield 10, 3) := by decide +kernel
theorem dX11_piece_204 : decode cX11_piece 204 = .ok (.getfield 112, 3) := by decide +kernel
theorem dX11_piece_207 : decode cX11_piece 207 = .ok (.istore 12, 2) := by decide +kernel
theorem dX11_piece_209 : decode cX11_piece 209 = .ok (.aload_n 0, 1) := by decide +kernel
theorem dX11_piece_210 : decode cX11_piece 210 = .ok (.getfield 10, 3) := by decide +kernel
theorem dX11_piece_213 : decode cX11_piece 213 = .ok (.getfield 145, 3) := by decide +kernel
theorem dX11_piece_216 : decode cX11_piece 216 = .ok (.iload 12, 2) := by decide +kernel
theorem dX11_piece_218 : decode cX11_piece 218 = .ok (.aload 11, 2) := by decide +kernel
theorem dX11_piece_220 : decode cX11_piece 220 = .ok (.aastore, 1) := by decide +kernel
theorem dX11_piece_221 : decode cX11_piece 221 = .ok (.aload_n 0, 1) := by decide +kernel
theorem dX11_piece_222 : decode cX11_piece 222 = .ok (.getfield 10, 3) := by decide +kernel
theorem dX11_piece_225 : decode cX11_piece 225 = .ok (.dup, 1) := by decide +kernel
theorem dX11_piece_226 : decode cX11_piece 226 = .ok (.getfield 112, 3) := by decide +kernel
theorem dX11_piece_229 : decode cX11_piece 229 = .ok (.iconst 1, 1) := by decide +kernel
theorem dX11_piece_230 : decode cX11_piece 230 = .ok (.iadd, 1) := by decide +kernel
theorem dX11_piece_231 : decode cX11_piece 231 = .ok (.putfield 112, 3) := by decide +kernel
theorem dX11_piece_234 : decode cX11_piece 234 = .ok (.aload_n 0, 1) := by decide +kernel
theorem dX11_piece_235 : decode cX11_piece 235 = .ok (.getfield 28, 3) := by decide +kernel
theorem dX11_piece_238 : decode cX11_piece 238 = .ok (.iload 12, 2) := by decide +kernel
theorem dX11_piece_240 : decode cX11_piece 240 = .ok (.aload 11, 2) := by decide +kernel
theorem dX11_piece_242 : decode cX11_piece 242 = .ok (.invokevirtual 149, 3) := by decide +kernel
theorem dX11_piece_245 : decode cX11_piece 245 = .ok (.invokevirtual 153, 3) := by decide +kernel
theorem dX11_piece_248 : decode cX11_piece 248 = .ok (.iload 12, 2) := by decide +kernel
theorem dX11_piece_250 : decode cX11_piece 250 = .ok (.ireturn, 1) := by decide +kernel
theorem dX11_sign_0 : decode cX11_sign 0 = .ok (.aload_n 0, 1) := by decide +kernel
theorem dX11_sign_1 : decode cX11_sign 1 = .ok (.getfield 57, 3) := by decide +kernel
theorem dX11_sign_4 : decode cX11_sign 4 = .ok (.iconst 4, 1) := by decide +kernel
theorem dX11_sign_5 : decode cX11_sign 5 = .ok (.iadd, 1) := by decide +kernel
theorem dX11_sign_6 : decode cX11_sign 6 = .ok (.bipush 100, 2) := by decide +kernel
theorem dX11_sign_8 : decode cX11_sign 8 = .ok (.if_icmp .le 5, 3) := by decide +kernel
theorem dX11_sign_11 : decode cX11_sign 11 = .ok (.iconst (-1), 1) := by decide +kernel
theorem dX11_sign_12 : decode cX11_sign 12 = .ok (.ireturn, 1) := by decide +kernel
theorem dX11_sign_13 : decode cX11_sign 13 = .ok (.bipush 24, 2) := by decide +kernel
theorem dX11_sign_15 : decode cX11_sign 15 = .ok (.istore_n 2, 1) := by decide +kernel
theorem dX11_sign_16 : decode cX11_sign 16 = .ok (.iload_n 2, 1) := by decide +kernel
theorem dX11_sign_17 : decode cX11_sign 17 = .ok (.ifCond .lt 36, 3) := by decide +kernel
theorem dX11_sign_20 : decode cX11_sign 20 = .ok (.aload_n 0, 1) := by decide +kernel
theorem dX11_sign_21 : decode cX11_sign 21 = .ok (.getfield 53, 3) := by decide +kernel
theorem dX11_sign_24 : decode cX11_sign 24 = .ok (.aload_n 0, 1) := by decide +kernel
theorem dX11_sign_25 : decode cX11_sign 25 = .ok (.getfield 57, 3) := by decide +kernel
theorem dX11_sign_28 : decode cX11_sign 28 = .ok (.iload_n 1, 1) := by decide +kernel
theorem dX11_sign_29 : decode cX11_sign 29 = .ok (.iload_n 2, 1) := by decide +kernel
theorem dX11_sign_30 : decode cX11_sign 30 = .ok (.iushr, 1) := by decide +kernel
theorem dX11_sign_31 : decode cX11_sign 31 = .ok (.sipush 255, 3) := by decide +kernel
theorem dX11_sign_34 : decode cX11_sign 34 = .ok (.iand, 1) := by decide +kernel
theorem dX11_sign_35 : decode cX11_sign 35 = .ok (.i2c, 1) := by decide +kernel
theorem dX11_sign_36 : decode cX11_sign 36 = .ok (.castore, 1) := by decide +kernel
theorem dX11_sign_37 : decode cX11_sign 37 = .ok (.aload_n 0, 1) := by decide +kernel
theorem dX11_sign_38 : decode cX11_sign 38 = .ok (.dup, 1) := by decide +kernel
theorem dX11_sign_39 : decode cX11_sign 39 = .ok (.getfield 57, 3) := by decide +kernel
theorem dX11_sign_42 : decode cX11_sign 42 = .ok (.iconst 1, 1) := by decide +kernel
theorem dX11_sign_43 : decode cX11_sign 43 = .ok (.iadd, 1) := by decide +kernel
theorem dX11_sign_44 : decode cX11_sign 44 = .ok (.putfield 57, 3) := by decide +kernel
theorem dX11_sign_47 : decode cX11_sign 47 = .ok (.iinc 2 (-8), 3) := by decide +kernel
theorem dX11_sign_50 : decode cX11_sign 50 = .ok (.goto (-34), 3) := by decide +kernel
theorem dX11_sign_53 : decode cX11_sign 53 = .ok (.aload_n 0, 1) := by decide +kernel
theorem dX11_sign_54 : decode cX11_sign 54 = .ok (.getfield 57, 3) := by decide +kernel
theorem dX11_sign_57 : decode cX11_sign 57 = .ok (.ireturn, 1) := by decide +kernel
theorem dX11_end_0 : decode cX11_end 0 = .ok (.iload_n 1, 1) := by decide +kernel
theorem dX11_end_1 : decode cX11_end 1 = .ok (.ifCond .lt 11, 3) := by decide +kernel
theorem dX11_end_4 : decode cX11_end 4 = .ok (.iload_n 1, 1) := by decide +kernel
theorem dX11_end_5 : decode cX11_end 5 = .ok (.aload_n 0, 1) := by decide +kernel
theorem dX11_end_6 : decode cX11_end 6 = .ok (.getfield 57, 3) := by decide +kernel
theorem dX11_end_9 : decode cX11_end 9 = .ok (.if_icmp .le 5, 3) := by decide +kernel
theorem dX11_end_12 : decode cX11_end 12 = .ok (.iconst 0, 1) := by decide +kernel
theorem dX11_end_13 : decode cX11_end 13 = .ok (.ireturn, 1) := by decide +kernel
theorem dX11_end_14 : decode cX11_end 14 = .ok (.aload_n 0, 1) := by decide +kernel
theorem dX11_end_15 : decode cX11_end 15 = .ok (.iload_n 1, 1) := by decide +kernel
theorem dX11_end_16 : decode cX11_end 16 = .ok (.putfield 57, 3) := by decide +kernel
theorem dX11_end_19 : decode cX11_end 19 = .ok (.iconst 1, 1) := by decide +kernel
theorem dX11_end_20 : decode cX11_end 20 = .ok (.ireturn, 1) := by decide +kernel
theorem dX11_rule_0 : decode cX11_rule 0 = .ok (.iload_n 1, 1) := by decide +kernel
theorem dX11_rule_1 : decode cX11_rule 1 = .ok (.iconst 0, 1) := by decide +kernel
theorem dX11_rule_2 : decode cX11_rule 2 = .ok (.iconst 3, 1) := by decide +kernel
theorem dX11_rule_3 : decode cX11_rule 3 = .ok (.invokestatic 68, 3) := by decide +kernel
theorem dX11_rule_6 : decode cX11_rule 6 = .ok (.ifCond .eq 17, 3) := by decide +kernel
theorem dX11_rule_9 : decode cX11_rule 9 = .ok (.iload_n 2, 1) := by decide +kernel
theorem dX11_rule_10 : decode cX11_rule 10 = .ok (.iconst 0, 1) := by decide +kernel
theorem dX11_rule_11 : decode cX11_rule 11 = .ok (.bipush 9, 2) := by decide +kernel
theorem dX11_rule_13 : decode cX11_rule 13 = .ok (.invokestatic 68, 3) := by decide +kernel
theorem dX11_rule_16 : decode cX11_rule 16 = .ok (.ifCond .eq 7, 3) := by decide +kernel
theorem dX11_rule_19 : decode cX11_rule 19 = .ok (.iconst 1, 1) := by decide +kernel
theorem dX11_rule_20 : decode cX11_rule 20 = .ok (.goto 4, 3) := by decide +kernel
theorem dX11_rule_23 : decode cX11_rule 23 = .ok (.iconst 0, 1) := by decide +kernel
theorem dX11_rule_24 : decode cX11_rule 24 = .ok (.istore_n 3, 1) := by decide +kernel
theorem dX11_rule_25 : decode cX11_rule 25 = .ok (.iload_n 3, 1) := by decide +kernel
theorem dX11_rule_26 : decode cX11_rule 26 = .ok (.ifCond .eq 15, 3) := by decide +kernel
theorem dX11_rule_29 : decode cX11_rule 29 = .ok (.aload_n 0, 1) := by decide +kernel
theorem dX11_rule_30 : decode cX11_rule 30 = .ok (.getfield 19, 3) := by decide +kernel
theorem dX11_rule_33 : decode cX11_rule 33 = .ok (.getfield 156, 3) := by decide +kernel
theorem dX11_rule_36 : decode cX11_rule 36 = .ok (.bipush 20, 2) := by decide +kernel
theorem dX11_rule_38 : decode cX11_rule 38 = .ok (.if_icmp .lt 6, 3) := by decide +kernel
theorem dX11_rule_41 : decode cX11_rule 41 = .ok (.bipush (-100), 2) := by decide +kernel
theorem dX11_rule_43 : decode cX11_rule 43 = .ok (.ireturn, 1) := by decide +kernel
theorem dX11_rule_44 : decode cX11_rule 44 = .ok (.aload_n 0, 1) := by decide +kernel
theorem dX11_rule_45 : decode cX11_rule 45 = .ok (.getfield 57, 3) := by decide +kernel
theorem dX11_rule_48 : decode cX11_rule 48 = .ok (.istore 4, 2) := by decide +kernel
theorem dX11_rule_50 : decode cX11_rule 50 = .ok (.aload_n 0, 1) := by decide +kernel
theorem dX11_rule_51 : decode cX11_rule 51 = .ok (.iconst 0, 1) := by decide +kernel
theorem dX11_rule_52 : decode cX11_rule 52 = .ok (.putfield 57, 3) := by decide +kernel
theorem dX11_rule_55 : decode cX11_rule 55 = .ok (.aload_n 0, 1) := by decide +kernel
theorem dX11_rule_56 : decode cX11_rule 56 = .ok (.getfield 19, 3) := by decide +kernel
theorem dX11_rule_59 : decode cX11_rule 59 = .ok (.iload_n 1, 1) := by decide +kernel
theorem dX11_rule_60 : decode cX11_rule 60 = .ok (.iload_n 2, 1) := by decide +kernel
theorem dX11_rule_61 : decode cX11_rule 61 = .ok (.aload_n 0, 1) := by decide +kernel
theorem dX11_rule_62 : decode cX11_rule 62 = .ok (.getfield 53, 3) := by decide +kernel
theorem dX11_rule_65 : decode cX11_rule 65 = .ok (.iload 4, 2) := by decide +kernel
theorem dX11_rule_67 : decode cX11_rule 67 = .ok (.invokevirtual 159, 3) := by decide +kernel
theorem dX11_rule_70 : decode cX11_rule 70 = .ok (.ireturn, 1) := by decide +kernel
theorem dX11_step_0 : decode cX11_step 0 = .ok (.aload_n 0, 1) := by decide +kernel
theorem dX11_step_1 : decode cX11_step 1 = .ok (.iload_n 1, 1) := by decide +kernel
theorem dX11_step_2 : decode cX11_step 2 = .ok (.iconst 0, 1) := by decide +kernel
theorem dX11_step_3 : decode cX11_step 3 = .ok (.invokevirtual 163, 3) := by decide +kernel
theorem dX11_step_6 : decode cX11_step 6 = .ok (.ifCond .ne 5, 3) := by decide +kernel
theorem dX11_step_9 : decode cX11_step 9 = .ok (.iconst (-1), 1) := by decide +kernel
theorem dX11_step_10 : decode cX11_step 10 = .ok (.ireturn, 1) := by decide +kernel
theorem dX11_step_11 : decode cX11_step 11 = .ok (.aload_n 0, 1) := by decide +kernel
theorem dX11_step_12 : decode cX11_step 12 = .ok (.getfield 28, 3) := by decide +kernel
theorem dX11_step_15 : decode cX11_step 15 = .ok (.iload_n 1, 1) := by decide +kernel
theorem dX11_step_16 : decode cX11_step 16 = .ok (.aconst_null, 1) := by decide +kernel
theorem dX11_step_17 : decode cX11_step 17 = .ok (.iconst (-1), 1) := by decide +kernel
theorem dX11_step_18 : decode cX11_step 18 = .ok (.invokevirtual 167, 3) := by decide +kernel
theorem dX11_step_21 : decode cX11_step 21 = .ok (.aload_n 0, 1) := by decide +kernel
theorem dX11_step_22 : decode cX11_step 22 = .ok (.getfield 28, 3) := by decide +kernel
theorem dX11_step_25 : decode cX11_step 25 = .ok (.getfield 99, 3) := by decide +kernel
theorem dX11_step_28 : decode cX11_step 28 = .ok (.ireturn, 1) := by decide +kernel
theorem dX11_of_0 : decode cX11_of 0 = .ok (.aload_n 0, 1) := by decide +kernel
theorem dX11_of_1 : decode cX11_of 1 = .ok (.getfield 10, 3) := by decide +kernel
theorem dX11_of_4 : decode cX11_of 4 = .ok (.iload_n 1, 1) := by decide +kernel
theorem dX11_of_5 : decode cX11_of 5 = .ok (.invokevirtual 95, 3) := by decide +kernel
theorem dX11_of_8 : decode cX11_of 8 = .ok (.ifCond .ne 13, 3) := by decide +kernel
theorem dX11_of_11 : decode cX11_of 11 = .ok (.new 171, 3) := by decide +kernel
theorem dX11_of_14 : decode cX11_of 14 = .ok (.dup, 1) := by decide +kernel
theorem dX11_of_15 : decode cX11_of 15 = .ok (.ldc 173, 2) := by decide +kernel
theorem dX11_of_17 : decode cX11_of 17 = .ok (.invokespecial 175, 3) := by decide +kernel
theorem dX11_of_20 : decode cX11_of 20 = .ok (.athrow, 1) := by decide +kernel
theorem dX11_of_21 : decode cX11_of 21 = .ok (.iload_n 2, 1) := by decide +kernel
theorem dX11_of_22 : decode cX11_of 22 = .ok (.tableswitch 119 0 6 #[42, 52, 62, 72, 81, 90, 109], 42) := by decide +kernel
theorem dX11_of_64 : decode cX11_of 64 = .ok (.aload_n 0, 1) := by decide +kernel
theorem dX11_of_65 : decode cX11_of 65 = .ok (.getfield 28, 3) := by decide +kernel
theorem dX11_of_68 : decode cX11_of 68 = .ok (.getfield 178, 3) := by decide +kernel
theorem dX11_of_71 : decode cX11_of 71 = .ok (.iload_n 1, 1) := by decide +kernel
theorem dX11_of_72 : decode cX11_of 72 = .ok (.iaload, 1) := by decide +kernel
theorem dX11_of_73 : decode cX11_of 73 = .ok (.ireturn, 1) := by decide +kernel
theorem dX11_of_74 : decode cX11_of 74 = .ok (.aload_n 0, 1) := by decide +kernel
theorem dX11_of_75 : decode cX11_of 75 = .ok (.getfield 28, 3) := by decide +kernel
theorem dX11_of_78 : decode cX11_of 78 = .ok (.getfield 181, 3) := by decide +kernel
theorem dX11_of_81 : decode cX11_of 81 = .ok (.iload_n 1, 1) := by decide +kernel
theorem dX11_of_82 : decode cX11_of 82 = .ok (.iaload, 1) := by decide +kernel
theorem dX11_of_83 : decode cX11_of 83 = .ok (.ireturn, 1) := by decide +kernel
theorem dX11_of_84 : decode cX11_of 84 = .ok (.aload_n 0, 1) := by decide +kernel
theorem dX11_of_85 : decode cX11_of 85 = .ok (.getfield 28, 3) := by decide +kernel
theorem dX11_of_88 : decode cX11_of 88 = .ok (.getfield 183, 3) := by decide +kernel
theorem dX11_of_91 : decode cX11_of 91 = .ok (.iload_n 1, 1) := by decide +kernel
theorem dX11_of_92 : decode cX11_of 92 = .ok (.iaload, 1) := by decide +kernel
theorem dX11_of_93 : decode cX11_of 93 = .ok (.ireturn, 1) := by decide +kernel
theorem dX11_of_94 : decode cX11_of 94 = .ok (.aload_n 0, 1) := by decide +kernel
theorem dX11_of_95 : decode cX11_of 95 = .ok (.getfield 28, 3) := by decide +kernel
theorem dX11_of_98 : decode cX11_of 98 = .ok (.iload_n 1, 1) := by decide +kernel
theorem dX11_of_99 : decode cX11_of 99 = .ok (.invokevirtual 186, 3) := by decide +kernel
theorem dX11_of_102 : decode cX11_of 102 = .ok (.ireturn, 1) := by decide +kernel
theorem dX11_of_103 : decode cX11_of 103 = .ok (.aload_n 0, 1) := by decide +kernel
theorem dX11_of_104 : decode cX11_of 104 = .ok (.getfield 28, 3) := by decide +kernel
theorem dX11_of_107 : decode cX11_of 107 = .ok (.iload_n 1, 1) := by decide +kernel
theorem dX11_of_108 : decode cX11_of 108 = .ok (.invokevirtual 190, 3) := by decide +kernel
theorem dX11_of_111 : decode cX11_of 111 = .ok (.ireturn, 1) := by decide +kernel
theorem dX11_of_112 : decode cX11_of 112 = .ok (.aload_n 0, 1) := by decide +kernel
theorem dX11_of_113 : decode cX11_of 113 = .ok (.getfield 10, 3) := by decide +kernel
theorem dX11_of_116 : decode cX11_of 116 = .ok (.aload_n 0, 1) := by decide +kernel
theorem dX11_of_117 : decode cX11_of 117 = .ok (.getfield 28, 3) := by decide +kernel
theorem dX11_of_120 : decode cX11_of 120 = .ok (.getfield 99, 3) := by decide +kernel
theorem dX11_of_123 : decode cX11_of 123 = .ok (.invokevirtual 193, 3) := by decide +kernel
theorem dX11_of_126 : decode cX11_of 126 = .ok (.iload_n 1, 1) := by decide +kernel
theorem dX11_of_127 : decode cX11_of 127 = .ok (.ishr, 1) := by decide +kernel
theorem dX11_of_128 : decode cX11_of 128 = .ok (.iconst 1, 1) := by decide +kernel
theorem dX11_of_129 : decode cX11_of 129 = .ok (.iand, 1) := by decide +kernel
theorem dX11_of_130 : decode cX11_of 130 = .ok (.ireturn, 1) := by decide +kernel
theorem dX11_of_131 : decode cX11_of 131 = .ok (.aload_n 0, 1) := by decide +kernel
theorem dX11_of_132 : decode cX11_of 132 = .ok (.getfield 28, 3) := by decide +kernel
theorem dX11_of_135 : decode cX11_of 135 = .ok (.getfield 196, 3) := by decide +kernel
theorem dX11_of_138 : decode cX11_of 138 = .ok (.iload_n 1, 1) := by decide +kernel
theorem dX11_of_139 : decode cX11_of 139 = .ok (.iaload, 1) := by decide +kernel
theorem dX11_of_140 : decode cX11_of 140 = .ok (.ireturn, 1) := by decide +kernel
theorem dX11_of_141 : decode cX11_of 141 = .ok (.new 171, 3) := by decide +kernel
theorem dX11_of_144 : decode cX11_of 144 = .ok (.dup, 1) := by decide +kernel
theorem dX11_of_145 : decode cX11_of 145 = .ok (.ldc 199, 2) := by decide +kernel
theorem dX11_of_147 : decode cX11_of 147 = .ok (.invokespecial 175, 3) := by decide +kernel
theorem dX11_of_150 : decode cX11_of 150 = .ok (.athrow, 1) := by decide +kernel
theorem dX11_at_0 : decode cX11_at 0 = .ok (.aload_n 0, 1) := by decide +kernel
theorem dX11_at_1 : decode cX11_at 1 = .ok (.getfield 10, 3) := by decide +kernel
theorem dX11_at_4 : decode cX11_at 4 = .ok (.iload_n 1, 1) := by decide +kernel
theorem dX11_at_5 : decode cX11_at 5 = .ok (.invokevirtual 201, 3) := by decide +kernel
theorem dX11_at_8 : decode cX11_at 8 = .ok (.ifCond .ne 5, 3) := by decide +kernel
theorem dX11_at_11 : decode cX11_at 11 = .ok (.iconst (-1), 1) := by decide +kernel
theorem dX11_at_12 : decode cX11_at 12 = .ok (.ireturn, 1) := by decide +kernel
theorem dX11_at_13 : decode cX11_at 13 = .ok (.iload_n 2, 1) := by decide +kernel
theorem dX11_at_14 : decode cX11_at 14 = .ok (.tableswitch 117 0 6 #[42, 51, 61, 71, 81, 91, 108], 42) := by decide +kernel
theorem dX11_at_56 : decode cX11_at 56 = .ok (.aload_n 0, 1) := by decide +kernel
theorem dX11_at_57 : decode cX11_at 57 = .ok (.getfield 28, 3) := by decide +kernel
theorem dX11_at_60 : decode cX11_at 60 = .ok (.iload_n 1, 1) := by decide +kernel
theorem dX11_at_61 : decode cX11_at 61 = .ok (.invokevirtual 204, 3) := by decide +kernel
theorem dX11_at_64 : decode cX11_at 64 = .ok (.ireturn, 1) := by decide +kernel
theorem dX11_at_65 : decode cX11_at 65 = .ok (.aload_n 0, 1) := by decide +kernel
theorem dX11_at_66 : decode cX11_at 66 = .ok (.getfield 28, 3) := by decide +kernel
theorem dX11_at_69 : decode cX11_at 69 = .ok (.getfield 207, 3) := by decide +kernel
theorem dX11_at_72 : decode cX11_at 72 = .ok (.iload_n 1, 1) := by decide +kernel
theorem dX11_at_73 : decode cX11_at 73 = .ok (.iaload, 1) := by decide +kernel
theorem dX11_at_74 : decode cX11_at 74 = .ok (.ireturn, 1) := by decide +kernel
theorem dX11_at_75 : decode cX11_at 75 = .ok (.aload_n 0, 1) := by decide +kernel
theorem dX11_at_76 : decode cX11_at 76 = .ok (.getfield 28, 3) := by decide +kernel
theorem dX11_at_79 : decode cX11_at 79 = .ok (.getfield 210, 3) := by decide +kernel
theorem dX11_at_82 : decode cX11_at 82 = .ok (.iload_n 1, 1) := by decide +kernel
theorem dX11_at_83 : decode cX11_at 83 = .ok (.iaload, 1) := by decide +kernel
theorem dX11_at_84 : decode cX11_at 84 = .ok (.ireturn, 1) := by decide +kernel
theorem dX11_at_85 : decode cX11_at 85 = .ok (.aload_n 0, 1) := by decide +kernel
theorem dX11_at_86 : decode cX11_at 86 = .ok (.getfield 28, 3) := by decide +kernel
theorem dX11_at_89 : decode cX11_at 89 = .ok (.getfield 213, 3) := by decide +kernel
theorem dX11_at_92 : decode cX11_at 92 = .ok (.iload_n 1, 1) := by decide +kernel
theorem dX11_at_93 : decode cX11_at 93 = .ok (.iaload, 1) := by decide +kernel
theorem dX11_at_94 : decode cX11_at 94 = .ok (.ireturn, 1) := by decide +kernel
theorem dX11_at_95 : decode cX11_at 95 = .ok (.aload_n 0, 1) := by decide +kernel
theorem dX11_at_96 : decode cX11_at 96 = .ok (.getfield 28, 3) := by decide +kernel
theorem dX11_at_99 : decode cX11_at 99 = .ok (.getfield 216, 3) := by decide +kernel
theorem dX11_at_102 : decode cX11_at 102 = .ok (.iload_n 1, 1) := by decide +kernel
theorem dX11_at_103 : decode cX11_at 103 = .ok (.iaload, 1) := by decide +kernel
theorem dX11_at_104 : decode cX11_at 104 = .ok (.ireturn, 1) := by decide +kernel
theorem dX11_at_105 : decode cX11_at 105 = .ok (.aload_n 0, 1) := by decide +kernel
theorem dX11_at_106 : decode cX11_at 106 = .ok (.getfield 28, 3) := by decide +kernel
theorem dX11_at_109 : decode cX11_at 109 = .ok (.iload_n 1, 1) := by decide +kernel
theorem dX11_at_110 : decode cX11_at 110 = .ok (.invokevirtual 219, 3) := by decide +kernel
theorem dX11_at_113 : decode cX11_at 113 = .ok (.ifCond .eq 7, 3) := by decide +kernel
theorem dX11_at_116 : decode cX11_at 116 = .ok (.iconst 1, 1) := by decide +kernel
theorem dX11_at_117 : decode cX11_at 117 = .ok (.goto 4, 3) := by decide +kernel
theorem dX11_at_120 : decode cX11_at 120 = .ok (.iconst 0, 1) := by decide +kernel
theorem dX11_at_121 : decode cX11_at 121 = .ok (.ireturn, 1) := by decide +kernel
theorem dX11_at_122 : decode cX11_at 122 = .ok (.aload_n 0, 1) := by decide +kernel
theorem dX11_at_123 : decode cX11_at 123 = .ok (.getfield 28, 3) := by decide +kernel
theorem dX11_at_126 : decode cX11_at 126 = .ok (.iload_n 1, 1) := by decide +kernel
theorem dX11_at_127 : decode cX11_at 127 = .ok (.invokevirtual 222, 3) := by decide +kernel
theorem dX11_at_130 : decode cX11_at 130 = .ok (.ireturn, 1) := by decide +kernel
theorem dX11_at_131 : decode cX11_at 131 = .ok (.iconst (-1), 1) := by decide +kernel
theorem dX11_at_132 : decode cX11_at 132 = .ok (.ireturn, 1) := by decide +kernel
theorem dX11_may_0 : decode cX11_may 0 = .ok (.aload_n 0, 1) := by decide +kernel
theorem dX11_may_1 : decode cX11_may 1 = .ok (.getfield 10, 3) := by decide +kernel
theorem dX11_may_4 : decode cX11_may 4 = .ok (.iload_n 1, 1) := by decide +kernel
theorem dX11_may_5 : decode cX11_may 5 = .ok (.invokevirtual 95, 3) := by decide +kernel
theorem dX11_may_8 : decode cX11_may 8 = .ok (.ifCond .eq 14, 3) := by decide +kernel
theorem dX11_may_11 : decode cX11_may 11 = .ok (.aload_n 0, 1) := by decide +kernel
theorem dX11_may_12 : decode cX11_may 12 = .ok (.getfield 10, 3) := by decide +kernel
theorem dX11_may_15 : decode cX11_may 15 = .ok (.iload_n 2, 1) := by decide +kernel
theorem dX11_may_16 : decode cX11_may 16 = .ok (.invokevirtual 201, 3) := by decide +kernel
theorem dX11_may_19 : decode cX11_may 19 = .ok (.ifCond .ne 5, 3) := by decide +kernel
theorem dX11_may_22 : decode cX11_may 22 = .ok (.iconst (-1), 1) := by decide +kernel
theorem dX11_may_23 : decode cX11_may 23 = .ok (.ireturn, 1) := by decide +kernel
theorem dX11_may_24 : decode cX11_may 24 = .ok (.aload_n 0, 1) := by decide +kernel
theorem dX11_may_25 : decode cX11_may 25 = .ok (.getfield 28, 3) := by decide +kernel
theorem dX11_may_28 : decode cX11_may 28 = .ok (.iload_n 1, 1) := by decide +kernel
theorem dX11_may_29 : decode cX11_may 29 = .ok (.iload_n 2, 1) := by decide +kernel
theorem dX11_may_30 : decode cX11_may 30 = .ok (.aconst_null, 1) := by decide +kernel
theorem dX11_may_31 : decode cX11_may 31 = .ok (.invokevirtual 225, 3) := by decide +kernel
theorem dX11_may_34 : decode cX11_may 34 = .ok (.ifCond .eq 7, 3) := by decide +kernel
theorem dX11_may_37 : decode cX11_may 37 = .ok (.iconst 1, 1) := by decide +kernel
theorem dX11_may_38 : decode cX11_may 38 = .ok (.goto 4, 3) := by decide +kernel
theorem dX11_may_41 : decode cX11_may 41 = .ok (.iconst 0, 1) := by decide +kernel
theorem dX11_may_42 : decode cX11_may 42 = .ok (.ireturn, 1) := by decide +kernel
theorem dX11_order_0 : decode cX11_order 0 = .ok (.aload_n 0, 1) := by decide +kernel
theorem dX11_order_1 : decode cX11_order 1 = .ok (.getfield 10, 3) := by decide +kernel
theorem dX11_order_4 : decode cX11_order 4 = .ok (.iload_n 1, 1) := by decide +kernel
theorem dX11_order_5 : decode cX11_order 5 = .ok (.invokevirtual 95, 3) := by decide +kernel
theorem dX11_order_8 : decode cX11_order 8 = .ok (.ifCond .eq 14, 3) := by decide +kernel
theorem dX11_order_11 : decode cX11_order 11 = .ok (.aload_n 0, 1) := by decide +kernel
theorem dX11_order_12 : decode cX11_order 12 = .ok (.getfield 10, 3) := by decide +kernel
theorem dX11_order_15 : decode cX11_order 15 = .ok (.iload_n 2, 1) := by decide +kernel
theorem dX11_order_16 : decode cX11_order 16 = .ok (.invokevirtual 201, 3) := by decide +kernel
theorem dX11_order_19 : decode cX11_order 19 = .ok (.ifCond .ne 13, 3) := by decide +kernel
theorem dX11_order_22 : decode cX11_order 22 = .ok (.new 171, 3) := by decide +kernel
theorem dX11_order_25 : decode cX11_order 25 = .ok (.dup, 1) := by decide +kernel
theorem dX11_order_26 : decode cX11_order 26 = .ok (.ldc 229, 2) := by decide +kernel
theorem dX11_order_28 : decode cX11_order 28 = .ok (.invokespecial 175, 3) := by decide +kernel
theorem dX11_order_31 : decode cX11_order 31 = .ok (.athrow, 1) := by decide +kernel
theorem dX11_order_32 : decode cX11_order 32 = .ok (.aload_n 0, 1) := by decide +kernel
theorem dX11_order_33 : decode cX11_order 33 = .ok (.getfield 28, 3) := by decide +kernel
theorem dX11_order_36 : decode cX11_order 36 = .ok (.iload_n 1, 1) := by decide +kernel
theorem dX11_order_37 : decode cX11_order 37 = .ok (.iload_n 2, 1) := by decide +kernel
theorem dX11_order_38 : decode cX11_order 38 = .ok (.aconst_null, 1) := by decide +kernel
theorem dX11_order_39 : decode cX11_order 39 = .ok (.invokevirtual 231, 3) := by decide +kernel
theorem dX11_order_42 : decode cX11_order 42 = .ok (.ireturn, 1) := by decide +kernel
theorem dX11_goes_0 : decode cX11_goes 0 = .ok (.aload_n 0, 1) := by decide +kernel
theorem dX11_goes_1 : decode cX11_goes 1 = .ok (.getfield 10, 3) := by decide +kernel
theorem dX11_goes_4 : decode cX11_goes 4 = .ok (.iload_n 1, 1) := by decide +kernel
theorem dX11_goes_5 : decode cX11_goes 5 = .ok (.invokevirtual 201, 3) := by decide +kernel
theorem dX11_goes_8 : decode cX11_goes 8 = .ok (.ifCond .eq 16, 3) := by decide +kernel
theorem dX11_goes_11 : decode cX11_goes 11 = .ok (.aload_n 0, 1) := by decide +kernel
theorem dX11_goes_12 : decode cX11_goes 12 = .ok (.getfield 28, 3) := by decide +kernel
theorem dX11_goes_15 : decode cX11_goes 15 = .ok (.getfield 213, 3) := by decide +kernel
theorem dX11_goes_18 : decode cX11_goes 18 = .ok (.iload_n 1, 1) := by decide +kernel
theorem dX11_goes_19 : decode cX11_goes 19 = .ok (.iaload, 1) := by decide +kernel
theorem dX11_goes_20 : decode cX11_goes 20 = .ok (.iconst (-1), 1) := by decide +kernel
theorem dX11_goes_21 : decode cX11_goes 21 = .ok (.if_icmp .ne 5, 3) := by decide +kernel
theorem dX11_goes_24 : decode cX11_goes 24 = .ok (.iconst (-1), 1) := by decide +kernel
theorem dX11_goes_25 : decode cX11_goes 25 = .ok (.ireturn, 1) := by decide +kernel
theorem dX11_goes_26 : decode cX11_goes 26 = .ok (.aload_n 0, 1) := by decide +kernel
theorem dX11_goes_27 : decode cX11_goes 27 = .ok (.getfield 10, 3) := by decide +kernel
theorem dX11_goes_30 : decode cX11_goes 30 = .ok (.aload_n 0, 1) := by decide +kernel
theorem dX11_goes_31 : decode cX11_goes 31 = .ok (.getfield 28, 3) := by decide +kernel
theorem dX11_goes_34 : decode cX11_goes 34 = .ok (.getfield 213, 3) := by decide +kernel
theorem dX11_goes_37 : decode cX11_goes 37 = .ok (.iload_n 1, 1) := by decide +kernel
theorem dX11_goes_38 : decode cX11_goes 38 = .ok (.iaload, 1) := by decide +kernel
theorem dX11_goes_39 : decode cX11_goes 39 = .ok (.invokevirtual 235, 3) := by decide +kernel
theorem dX11_goes_42 : decode cX11_goes 42 = .ok (.ireturn, 1) := by decide +kernel
theorem dX11_count_0 : decode cX11_count 0 = .ok (.iload_n 1, 1) := by decide +kernel
theorem dX11_count_1 : decode cX11_count 1 = .ok (.tableswitch 167 0 12 #[67, 75, 83, 91, 99, 107, 115, 124, 133, 141, 149, 154, 159], 67) := by decide +kernel
theorem dX11_count_68 : decode cX11_count 68 = .ok (.aload_n 0, 1) := by decide +kernel
theorem dX11_count_69 : decode cX11_count 69 = .ok (.getfield 28, 3) := by decide +kernel
theorem dX11_count_72 : decode cX11_count 72 = .ok (.getfield 99, 3) := by decide +kernel
theorem dX11_count_75 : decode cX11_count 75 = .ok (.ireturn, 1) := by decide +kernel
theorem dX11_count_76 : decode cX11_count 76 = .ok (.aload_n 0, 1) := by decide +kernel
theorem dX11_count_77 : decode cX11_count 77 = .ok (.getfield 10, 3) := by decide +kernel
theorem dX11_count_80 : decode cX11_count 80 = .ok (.getfield 79, 3) := by decide +kernel
theorem dX11_count_83 : decode cX11_count 83 = .ok (.ireturn, 1) := by decide +kernel
theorem dX11_count_84 : decode cX11_count 84 = .ok (.aload_n 0, 1) := by decide +kernel
theorem dX11_count_85 : decode cX11_count 85 = .ok (.getfield 10, 3) := by decide +kernel
theorem dX11_count_88 : decode cX11_count 88 = .ok (.getfield 112, 3) := by decide +kernel
theorem dX11_count_91 : decode cX11_count 91 = .ok (.ireturn, 1) := by decide +kernel
theorem dX11_count_92 : decode cX11_count 92 = .ok (.aload_n 0, 1) := by decide +kernel
theorem dX11_count_93 : decode cX11_count 93 = .ok (.getfield 19, 3) := by decide +kernel
theorem dX11_count_96 : decode cX11_count 96 = .ok (.getfield 156, 3) := by decide +kernel
theorem dX11_count_99 : decode cX11_count 99 = .ok (.ireturn, 1) := by decide +kernel
theorem dX11_count_100 : decode cX11_count 100 = .ok (.aload_n 0, 1) := by decide +kernel
theorem dX11_count_101 : decode cX11_count 101 = .ok (.getfield 40, 3) := by decide +kernel
theorem dX11_count_104 : decode cX11_count 104 = .ok (.getfield 238, 3) := by decide +kernel
theorem dX11_count_107 : decode cX11_count 107 = .ok (.ireturn, 1) := by decide +kernel
theorem dX11_count_108 : decode cX11_count 108 = .ok (.aload_n 0, 1) := by decide +kernel
theorem dX11_count_109 : decode cX11_count 109 = .ok (.getfield 10, 3) := by decide +kernel
theorem dX11_count_112 : decode cX11_count 112 = .ok (.getfield 102, 3) := by decide +kernel
theorem dX11_count_115 : decode cX11_count 115 = .ok (.ireturn, 1) := by decide +kernel
theorem dX11_count_116 : decode cX11_count 116 = .ok (.aload_n 0, 1) := by decide +kernel
theorem dX11_count_117 : decode cX11_count 117 = .ok (.getfield 28, 3) := by decide +kernel
theorem dX11_count_120 : decode cX11_count 120 = .ok (.iconst 1, 1) := by decide +kernel
theorem dX11_count_121 : decode cX11_count 121 = .ok (.invokevirtual 239, 3) := by decide +kernel
theorem dX11_count_124 : decode cX11_count 124 = .ok (.ireturn, 1) := by decide +kernel
theorem dX11_count_125 : decode cX11_count 125 = .ok (.aload_n 0, 1) := by decide +kernel
theorem dX11_count_126 : decode cX11_count 126 = .ok (.getfield 28, 3) := by decide +kernel
theorem dX11_count_129 : decode cX11_count 129 = .ok (.iconst 3, 1) := by decide +kernel
theorem dX11_count_130 : decode cX11_count 130 = .ok (.invokevirtual 239, 3) := by decide +kernel
theorem dX11_count_133 : decode cX11_count 133 = .ok (.ireturn, 1) := by decide +kernel
theorem dX11_count_134 : decode cX11_count 134 = .ok (.aload_n 0, 1) := by decide +kernel
theorem dX11_count_135 : decode cX11_count 135 = .ok (.getfield 28, 3) := by decide +kernel
theorem dX11_count_138 : decode cX11_count 138 = .ok (.invokevirtual 242, 3) := by decide +kernel
theorem dX11_count_141 : decode cX11_count 141 = .ok (.ireturn, 1) := by decide +kernel
theorem dX11_count_142 : decode cX11_count 142 = .ok (.aload_n 0, 1) := by decide +kernel
theorem dX11_count_143 : decode cX11_count 143 = .ok (.getfield 40, 3) := by decide +kernel
theorem dX11_count_146 : decode cX11_count 146 = .ok (.getfield 245, 3) := by decide +kernel
theorem dX11_count_149 : decode cX11_count 149 = .ok (.ireturn, 1) := by decide +kernel
theorem dX11_count_150 : decode cX11_count 150 = .ok (.aload_n 0, 1) := by decide +kernel
theorem dX11_count_151 : decode cX11_count 151 = .ok (.getfield 65, 3) := by decide +kernel
theorem dX11_count_154 : decode cX11_count 154 = .ok (.ireturn, 1) := by decide +kernel
theorem dX11_count_155 : decode cX11_count 155 = .ok (.aload_n 0, 1) := by decide +kernel
theorem dX11_count_156 : decode cX11_count 156 = .ok (.getfield 57, 3) := by decide +kernel
theorem dX11_count_159 : decode cX11_count 159 = .ok (.ireturn, 1) := by decide +kernel
theorem dX11_count_160 : decode cX11_count 160 = .ok (.aload_n 0, 1) := by decide +kernel
theorem dX11_count_161 : decode cX11_count 161 = .ok (.getfield 10, 3) := by decide +kernel
theorem dX11_count_164 : decode cX11_count 164 = .ok (.getfield 72, 3) := by decide +kernel
theorem dX11_count_167 : decode cX11_count 167 = .ok (.ireturn, 1) := by decide +kernel
theorem dX11_count_168 : decode cX11_count 168 = .ok (.iconst (-1), 1) := by decide +kernel
theorem dX11_count_169 : decode cX11_count 169 = .ok (.ireturn, 1) := by decide +kernel
theorem dX11_correct_0 : decode cX11_correct 0 = .ok (.aload_n 0, 1) := by decide +kernel
theorem dX11_correct_1 : decode cX11_correct 1 = .ok (.getfield 10, 3) := by decide +kernel
theorem dX11_correct_4 : decode cX11_correct 4 = .ok (.iload_n 1, 1) := by decide +kernel
theorem dX11_correct_5 : decode cX11_correct 5 = .ok (.invokevirtual 201, 3) := by decide +kernel
theorem dX11_correct_8 : decode cX11_correct 8 = .ok (.ifCond .eq 59, 3) := by decide +kernel
theorem dX11_correct_11 : decode cX11_correct 11 = .ok (.aload_n 0, 1) := by decide +kernel
theorem dX11_correct_12 : decode cX11_correct 12 = .ok (.getfield 28, 3) := by decide +kernel
theorem dX11_correct_15 : decode cX11_correct 15 = .ok (.getfield 213, 3) := by decide +kernel
theorem dX11_correct_18 : decode cX11_correct 18 = .ok (.iload_n 1, 1) := by decide +kernel
theorem dX11_correct_19 : decode cX11_correct 19 = .ok (.iaload, 1) := by decide +kernel
theorem dX11_correct_20 : decode cX11_correct 20 = .ok (.iconst (-1), 1) := by decide +kernel
theorem dX11_correct_21 : decode cX11_correct 21 = .ok (.if_icmp .eq 46, 3) := by decide +kernel
theorem dX11_correct_24 : decode cX11_correct 24 = .ok (.iload_n 2, 1) := by decide +kernel
theorem dX11_correct_25 : decode cX11_correct 25 = .ok (.iconst 0, 1) := by decide +kernel
theorem dX11_correct_26 : decode cX11_correct 26 = .ok (.bipush 99, 2) := by decide +kernel
theorem dX11_correct_28 : decode cX11_correct 28 = .ok (.invokestatic 68, 3) := by decide +kernel
theorem dX11_correct_31 : decode cX11_correct 31 = .ok (.ifCond .eq 36, 3) := by decide +kernel
theorem dX11_correct_34 : decode cX11_correct 34 = .ok (.iload_n 3, 1) := by decide +kernel
theorem dX11_correct_35 : decode cX11_correct 35 = .ok (.iconst 0, 1) := by decide +kernel
theorem dX11_correct_36 : decode cX11_correct 36 = .ok (.iconst 1, 1) := by decide +kernel
theorem dX11_correct_37 : decode cX11_correct 37 = .ok (.invokestatic 68, 3) := by decide +kernel
theorem dX11_correct_40 : decode cX11_correct 40 = .ok (.ifCond .eq 27, 3) := by decide +kernel
theorem dX11_correct_43 : decode cX11_correct 43 = .ok (.iload 4, 2) := by decide +kernel
theorem dX11_correct_45 : decode cX11_correct 45 = .ok (.iconst 0, 1) := by decide +kernel
theorem dX11_correct_46 : decode cX11_correct 46 = .ok (.iconst 1, 1) := by decide +kernel
theorem dX11_correct_47 : decode cX11_correct 47 = .ok (.invokestatic 68, 3) := by decide +kernel
theorem dX11_correct_50 : decode cX11_correct 50 = .ok (.ifCond .eq 17, 3) := by decide +kernel
theorem dX11_correct_53 : decode cX11_correct 53 = .ok (.iload 5, 2) := by decide +kernel
theorem dX11_correct_55 : decode cX11_correct 55 = .ok (.iconst 0, 1) := by decide +kernel
theorem dX11_correct_56 : decode cX11_correct 56 = .ok (.iconst 1, 1) := by decide +kernel
theorem dX11_correct_57 : decode cX11_correct 57 = .ok (.invokestatic 68, 3) := by decide +kernel
theorem dX11_correct_60 : decode cX11_correct 60 = .ok (.ifCond .eq 7, 3) := by decide +kernel
theorem dX11_correct_63 : decode cX11_correct 63 = .ok (.iconst 1, 1) := by decide +kernel
theorem dX11_correct_64 : decode cX11_correct 64 = .ok (.goto 4, 3) := by decide +kernel
theorem dX11_correct_67 : decode cX11_correct 67 = .ok (.iconst 0, 1) := by decide +kernel
theorem dX11_correct_68 : decode cX11_correct 68 = .ok (.istore 6, 2) := by decide +kernel
theorem dX11_correct_70 : decode cX11_correct 70 = .ok (.iload 6, 2) := by decide +kernel
theorem dX11_correct_72 : decode cX11_correct 72 = .ok (.ifCond .eq 15, 3) := by decide +kernel
theorem dX11_correct_75 : decode cX11_correct 75 = .ok (.aload_n 0, 1) := by decide +kernel
theorem dX11_correct_76 : decode cX11_correct 76 = .ok (.getfield 40, 3) := by decide +kernel
theorem dX11_correct_79 : decode cX11_correct 79 = .ok (.getfield 238, 3) := by decide +kernel
theorem dX11_correct_82 : decode cX11_correct 82 = .ok (.bipush 40, 2) := by decide +kernel
theorem dX11_correct_84 : decode cX11_correct 84 = .ok (.if_icmp .lt 5, 3) := by decide +kernel
theorem dX11_correct_87 : decode cX11_correct 87 = .ok (.iconst (-1), 1) := by decide +kernel
theorem dX11_correct_88 : decode cX11_correct 88 = .ok (.ireturn, 1) := by decide +kernel
theorem dX11_correct_89 : decode cX11_correct 89 = .ok (.aload_n 0, 1) := by decide +kernel
theorem dX11_correct_90 : decode cX11_correct 90 = .ok (.getfield 40, 3) := by decide +kernel
theorem dX11_correct_93 : decode cX11_correct 93 = .ok (.getfield 238, 3) := by decide +kernel
theorem dX11_correct_96 : decode cX11_correct 96 = .ok (.istore 7, 2) := by decide +kernel
theorem dX11_correct_98 : decode cX11_correct 98 = .ok (.aload_n 0, 1) := by decide +kernel
theorem dX11_correct_99 : decode cX11_correct 99 = .ok (.getfield 40, 3) := by decide +kernel
theorem dX11_correct_102 : decode cX11_correct 102 = .ok (.getfield 248, 3) := by decide +kernel
theorem dX11_correct_105 : decode cX11_correct 105 = .ok (.iload 7, 2) := by decide +kernel
theorem dX11_correct_107 : decode cX11_correct 107 = .ok (.new 252, 3) := by decide +kernel
theorem dX11_correct_110 : decode cX11_correct 110 = .ok (.dup, 1) := by decide +kernel
theorem dX11_correct_111 : decode cX11_correct 111 = .ok (.iload_n 1, 1) := by decide +kernel
theorem dX11_correct_112 : decode cX11_correct 112 = .ok (.iload_n 2, 1) := by decide +kernel
theorem dX11_correct_113 : decode cX11_correct 113 = .ok (.iload_n 3, 1) := by decide +kernel
theorem dX11_correct_114 : decode cX11_correct 114 = .ok (.iload 4, 2) := by decide +kernel
theorem dX11_correct_116 : decode cX11_correct 116 = .ok (.iload 5, 2) := by decide +kernel
theorem dX11_correct_118 : decode cX11_correct 118 = .ok (.invokespecial 254, 3) := by decide +kernel
theorem dX11_correct_121 : decode cX11_correct 121 = .ok (.aastore, 1) := by decide +kernel
theorem dX11_correct_122 : decode cX11_correct 122 = .ok (.aload_n 0, 1) := by decide +kernel
theorem dX11_correct_123 : decode cX11_correct 123 = .ok (.getfield 40, 3) := by decide +kernel
theorem dX11_correct_126 : decode cX11_correct 126 = .ok (.dup, 1) := by decide +kernel
theorem dX11_correct_127 : decode cX11_correct 127 = .ok (.getfield 238, 3) := by decide +kernel
theorem dX11_correct_130 : decode cX11_correct 130 = .ok (.iconst 1, 1) := by decide +kernel
theorem dX11_correct_131 : decode cX11_correct 131 = .ok (.iadd, 1) := by decide +kernel
theorem dX11_correct_132 : decode cX11_correct 132 = .ok (.putfield 238, 3) := by decide +kernel
theorem dX11_correct_135 : decode cX11_correct 135 = .ok (.iload 7, 2) := by decide +kernel
theorem dX11_correct_137 : decode cX11_correct 137 = .ok (.ireturn, 1) := by decide +kernel
theorem dX11_undo_0 : decode cX11_undo 0 = .ok (.aload_n 0, 1) := by decide +kernel
theorem dX11_undo_1 : decode cX11_undo 1 = .ok (.getfield 40, 3) := by decide +kernel
theorem dX11_undo_4 : decode cX11_undo 4 = .ok (.iload_n 1, 1) := by decide +kernel
theorem dX11_undo_5 : decode cX11_undo 5 = .ok (.invokevirtual 257, 3) := by decide +kernel
theorem dX11_undo_8 : decode cX11_undo 8 = .ok (.ifCond .eq 13, 3) := by decide +kernel
theorem dX11_undo_11 : decode cX11_undo 11 = .ok (.iload_n 2, 1) := by decide +kernel
theorem dX11_undo_12 : decode cX11_undo 12 = .ok (.iconst 0, 1) := by decide +kernel
theorem dX11_undo_13 : decode cX11_undo 13 = .ok (.bipush 99, 2) := by decide +kernel
theorem dX11_undo_15 : decode cX11_undo 15 = .ok (.invokestatic 68, 3) := by decide +kernel
theorem dX11_undo_18 : decode cX11_undo 18 = .ok (.ifCond .ne 5, 3) := by decide +kernel
theorem dX11_undo_21 : decode cX11_undo 21 = .ok (.iconst 0, 1) := by decide +kernel
theorem dX11_undo_22 : decode cX11_undo 22 = .ok (.ireturn, 1) := by decide +kernel
theorem dX11_undo_23 : decode cX11_undo 23 = .ok (.aload_n 0, 1) := by decide +kernel
theorem dX11_undo_24 : decode cX11_undo 24 = .ok (.getfield 40, 3) := by decide +kernel
theorem dX11_undo_27 : decode cX11_undo 27 = .ok (.getfield 248, 3) := by decide +kernel
theorem dX11_undo_30 : decode cX11_undo 30 = .ok (.iload_n 1, 1) := by decide +kernel
theorem dX11_undo_31 : decode cX11_undo 31 = .ok (.aaload, 1) := by decide +kernel
theorem dX11_undo_32 : decode cX11_undo 32 = .ok (.iload_n 2, 1) := by decide +kernel
theorem dX11_undo_33 : decode cX11_undo 33 = .ok (.putfield 260, 3) := by decide +kernel
theorem dX11_undo_36 : decode cX11_undo 36 = .ok (.iconst 1, 1) := by decide +kernel
theorem dX11_undo_37 : decode cX11_undo 37 = .ok (.ireturn, 1) := by decide +kernel
theorem dX11_as_0 : decode cX11_as 0 = .ok (.iload_n 1, 1) := by decide +kernel
theorem dX11_as_1 : decode cX11_as 1 = .ok (.iconst 0, 1) := by decide +kernel
theorem dX11_as_2 : decode cX11_as 2 = .ok (.bipush 99, 2) := by decide +kernel
theorem dX11_as_4 : decode cX11_as 4 = .ok (.invokestatic 68, 3) := by decide +kernel
theorem dX11_as_7 : decode cX11_as 7 = .ok (.ifCond .ne 5, 3) := by decide +kernel
theorem dX11_as_10 : decode cX11_as 10 = .ok (.iconst (-1), 1) := by decide +kernel
theorem dX11_as_11 : decode cX11_as 11 = .ok (.ireturn, 1) := by decide +kernel
theorem dX11_as_12 : decode cX11_as 12 = .ok (.aload_n 0, 1) := by decide +kernel
theorem dX11_as_13 : decode cX11_as 13 = .ok (.getfield 40, 3) := by decide +kernel
theorem dX11_as_16 : decode cX11_as 16 = .ok (.getfield 245, 3) := by decide +kernel
theorem dX11_as_19 : decode cX11_as 19 = .ok (.istore_n 2, 1) := by decide +kernel
theorem dX11_as_20 : decode cX11_as 20 = .ok (.aload_n 0, 1) := by decide +kernel
theorem dX11_as_21 : decode cX11_as 21 = .ok (.getfield 40, 3) := by decide +kernel
theorem dX11_as_24 : decode cX11_as 24 = .ok (.iload_n 1, 1) := by decide +kernel
theorem dX11_as_25 : decode cX11_as 25 = .ok (.putfield 245, 3) := by decide +kernel
theorem dX11_as_28 : decode cX11_as 28 = .ok (.iload_n 2, 1) := by decide +kernel
theorem dX11_as_29 : decode cX11_as 29 = .ok (.ireturn, 1) := by decide +kernel
theorem dX11_fault_0 : decode cX11_fault 0 = .ok (.aload_n 0, 1) := by decide +kernel
theorem dX11_fault_1 : decode cX11_fault 1 = .ok (.getfield 40, 3) := by decide +kernel
theorem dX11_fault_4 : decode cX11_fault 4 = .ok (.iload_n 1, 1) := by decide +kernel
theorem dX11_fault_5 : decode cX11_fault 5 = .ok (.invokevirtual 257, 3) := by decide +kernel
theorem dX11_fault_8 : decode cX11_fault 8 = .ok (.ifCond .eq 14, 3) := by decide +kernel
theorem dX11_fault_11 : decode cX11_fault 11 = .ok (.aload_n 0, 1) := by decide +kernel
theorem dX11_fault_12 : decode cX11_fault 12 = .ok (.getfield 40, 3) := by decide +kernel
theorem dX11_fault_15 : decode cX11_fault 15 = .ok (.iload_n 1, 1) := by decide +kernel
theorem dX11_fault_16 : decode cX11_fault 16 = .ok (.invokevirtual 263, 3) := by decide +kernel
theorem dX11_fault_19 : decode cX11_fault 19 = .ok (.ifCond .ne 5, 3) := by decide +kernel
theorem dX11_fault_22 : decode cX11_fault 22 = .ok (.iconst (-1), 1) := by decide +kernel
theorem dX11_fault_23 : decode cX11_fault 23 = .ok (.ireturn, 1) := by decide +kernel
theorem dX11_fault_24 : decode cX11_fault 24 = .ok (.aload_n 0, 1) := by decide +kernel
theorem dX11_fault_25 : decode cX11_fault 25 = .ok (.getfield 40, 3) := by decide +kernel
theorem dX11_fault_28 : decode cX11_fault 28 = .ok (.iload_n 1, 1) := by decide +kernel
theorem dX11_fault_29 : decode cX11_fault 29 = .ok (.invokevirtual 266, 3) := by decide +kernel
theorem dX11_fault_32 : decode cX11_fault 32 = .ok (.ireturn, 1) := by decide +kernel
theorem dX11_faults_0 : decode cX11_faults 0 = .ok (.aload_n 0, 1) := by decide +kernel
theorem dX11_faults_1 : decode cX11_faults 1 = .ok (.getfield 10, 3) := by decide +kernel
theorem dX11_faults_4 : decode cX11_faults 4 = .ok (.iload_n 1, 1) := by decide +kernel
theorem dX11_faults_5 : decode cX11_faults 5 = .ok (.invokevirtual 95, 3) := by decide +kernel
theorem dX11_faults_8 : decode cX11_faults 8 = .ok (.ifCond .eq 12, 3) := by decide +kernel
theorem dX11_faults_11 : decode cX11_faults 11 = .ok (.iload_n 2, 1) := by decide +kernel
theorem dX11_faults_12 : decode cX11_faults 12 = .ok (.iconst 0, 1) := by decide +kernel
theorem dX11_faults_13 : decode cX11_faults 13 = .ok (.iconst 2, 1) := by decide +kernel
theorem dX11_faults_14 : decode cX11_faults 14 = .ok (.invokestatic 68, 3) := by decide +kernel
theorem dX11_faults_17 : decode cX11_faults 17 = .ok (.ifCond .ne 5, 3) := by decide +kernel
theorem dX11_faults_20 : decode cX11_faults 20 = .ok (.iconst (-1), 1) := by decide +kernel
theorem dX11_faults_21 : decode cX11_faults 21 = .ok (.ireturn, 1) := by decide +kernel
theorem dX11_faults_22 : decode cX11_faults 22 = .ok (.aload_n 0, 1) := by decide +kernel
theorem dX11_faults_23 : decode cX11_faults 23 = .ok (.getfield 40, 3) := by decide +kernel
theorem dX11_faults_26 : decode cX11_faults 26 = .ok (.iload_n 1, 1) := by decide +kernel
theorem dX11_faults_27 : decode cX11_faults 27 = .ok (.iload_n 2, 1) := by decide +kernel
theorem dX11_faults_28 : decode cX11_faults 28 = .ok (.invokevirtual 269, 3) := by decide +kernel
theorem dX11_faults_31 : decode cX11_faults 31 = .ok (.ireturn, 1) := by decide +kernel
theorem dX11_pay_0 : decode cX11_pay 0 = .ok (.aload_n 0, 1) := by decide +kernel
theorem dX11_pay_1 : decode cX11_pay 1 = .ok (.getfield 10, 3) := by decide +kernel
theorem dX11_pay_4 : decode cX11_pay 4 = .ok (.iload_n 1, 1) := by decide +kernel
theorem dX11_pay_5 : decode cX11_pay 5 = .ok (.invokevirtual 201, 3) := by decide +kernel
theorem dX11_pay_8 : decode cX11_pay 8 = .ok (.ifCond .ne 14, 3) := by decide +kernel
theorem dX11_pay_11 : decode cX11_pay 11 = .ok (.new 171, 3) := by decide +kernel
theorem dX11_pay_14 : decode cX11_pay 14 = .ok (.dup, 1) := by decide +kernel
theorem dX11_pay_15 : decode cX11_pay 15 = .ok (.ldc_w 273, 3) := by decide +kernel
theorem dX11_pay_18 : decode cX11_pay 18 = .ok (.invokespecial 175, 3) := by decide +kernel
theorem dX11_pay_21 : decode cX11_pay 21 = .ok (.athrow, 1) := by decide +kernel
theorem dX11_pay_22 : decode cX11_pay 22 = .ok (.aload_n 0, 1) := by decide +kernel
theorem dX11_pay_23 : decode cX11_pay 23 = .ok (.getfield 40, 3) := by decide +kernel
theorem dX11_pay_26 : decode cX11_pay 26 = .ok (.iload_n 1, 1) := by decide +kernel
theorem dX11_pay_27 : decode cX11_pay 27 = .ok (.invokevirtual 275, 3) := by decide +kernel
theorem dX11_pay_30 : decode cX11_pay 30 = .ok (.ireturn, 1) := by decide +kernel
theorem dX11_earns_0 : decode cX11_earns 0 = .ok (.aload_n 0, 1) := by decide +kernel
theorem dX11_earns_1 : decode cX11_earns 1 = .ok (.getfield 10, 3) := by decide +kernel
theorem dX11_earns_4 : decode cX11_earns 4 = .ok (.iload_n 1, 1) := by decide +kernel
theorem dX11_earns_5 : decode cX11_earns 5 = .ok (.invokevirtual 95, 3) := by decide +kernel
theorem dX11_earns_8 : decode cX11_earns 8 = .ok (.ifCond .eq 13, 3) := by decide +kernel
theorem dX11_earns_11 : decode cX11_earns 11 = .ok (.iload_n 2, 1) := by decide +kernel
theorem dX11_earns_12 : decode cX11_earns 12 = .ok (.iconst (-1), 1) := by decide +kernel
theorem dX11_earns_13 : decode cX11_earns 13 = .ok (.bipush 9, 2) := by decide +kernel
theorem dX11_earns_15 : decode cX11_earns 15 = .ok (.invokestatic 68, 3) := by decide +kernel
theorem dX11_earns_18 : decode cX11_earns 18 = .ok (.ifCond .ne 14, 3) := by decide +kernel
theorem dX11_earns_21 : decode cX11_earns 21 = .ok (.new 171, 3) := by decide +kernel
theorem dX11_earns_24 : decode cX11_earns 24 = .ok (.dup, 1) := by decide +kernel
theorem dX11_earns_25 : decode cX11_earns 25 = .ok (.ldc_w 278, 3) := by decide +kernel
theorem dX11_earns_28 : decode cX11_earns 28 = .ok (.invokespecial 175, 3) := by decide +kernel
theorem dX11_earns_31 : decode cX11_earns 31 = .ok (.athrow, 1) := by decide +kernel
theorem dX11_earns_32 : decode cX11_earns 32 = .ok (.aload_n 0, 1) := by decide +kernel
theorem dX11_earns_33 : decode cX11_earns 33 = .ok (.getfield 40, 3) := by decide +kernel
theorem dX11_earns_36 : decode cX11_earns 36 = .ok (.iload_n 1, 1) := by decide +kernel
theorem dX11_earns_37 : decode cX11_earns 37 = .ok (.iload_n 2, 1) := by decide +kernel
theorem dX11_earns_38 : decode cX11_earns 38 = .ok (.invokevirtual 280, 3) := by decide +kernel
theorem dX11_earns_41 : decode cX11_earns 41 = .ok (.ireturn, 1) := by decide +kernel
theorem dX11_slips_0 : decode cX11_slips 0 = .ok (.aload_n 0, 1) := by decide +kernel
theorem dX11_slips_1 : decode cX11_slips 1 = .ok (.getfield 10, 3) := by decide +kernel
theorem dX11_slips_4 : decode cX11_slips 4 = .ok (.iload_n 1, 1) := by decide +kernel
theorem dX11_slips_5 : decode cX11_slips 5 = .ok (.invokevirtual 201, 3) := by decide +kernel
theorem dX11_slips_8 : decode cX11_slips 8 = .ok (.ifCond .eq 22, 3) := by decide +kernel
theorem dX11_slips_11 : decode cX11_slips 11 = .ok (.iload_n 2, 1) := by decide +kernel
theorem dX11_slips_12 : decode cX11_slips 12 = .ok (.iconst 0, 1) := by decide +kernel
theorem dX11_slips_13 : decode cX11_slips 13 = .ok (.iconst 1, 1) := by decide +kernel
theorem dX11_slips_14 : decode cX11_slips 14 = .ok (.invokestatic 68, 3) := by decide +kernel
theorem dX11_slips_17 : decode cX11_slips 17 = .ok (.ifCond .eq 13, 3) := by decide +kernel
theorem dX11_slips_20 : decode cX11_slips 20 = .ok (.iload_n 3, 1) := by decide +kernel
theorem dX11_slips_21 : decode cX11_slips 21 = .ok (.iconst 0, 1) := by decide +kernel
theorem dX11_slips_22 : decode cX11_slips 22 = .ok (.ldc 78, 2) := by decide +kernel
theorem dX11_slips_24 : decode cX11_slips 24 = .ok (.invokestatic 68, 3) := by decide +kernel
theorem dX11_slips_27 : decode cX11_slips 27 = .ok (.ifCond .ne 5, 3) := by decide +kernel
theorem dX11_slips_30 : decode cX11_slips 30 = .ok (.iconst 0, 1) := by decide +kernel
theorem dX11_slips_31 : decode cX11_slips 31 = .ok (.ireturn, 1) := by decide +kernel
theorem dX11_slips_32 : decode cX11_slips 32 = .ok (.iload_n 2, 1) := by decide +kernel
theorem dX11_slips_33 : decode cX11_slips 33 = .ok (.ifCond .ne 19, 3) := by decide +kernel
theorem dX11_slips_36 : decode cX11_slips 36 = .ok (.aload_n 0, 1) := by decide +kernel
theorem dX11_slips_37 : decode cX11_slips 37 = .ok (.getfield 10, 3) := by decide +kernel
theorem dX11_slips_40 : decode cX11_slips 40 = .ok (.getfield 145, 3) := by decide +kernel
theorem dX11_slips_43 : decode cX11_slips 43 = .ok (.iload_n 1, 1) := by decide +kernel
theorem dX11_slips_44 : decode cX11_slips 44 = .ok (.aaload, 1) := by decide +kernel
theorem dX11_slips_45 : decode cX11_slips 45 = .ok (.iload_n 3, 1) := by decide +kernel
theorem dX11_slips_46 : decode cX11_slips 46 = .ok (.putfield 283, 3) := by decide +kernel
theorem dX11_slips_49 : decode cX11_slips 49 = .ok (.goto 16, 3) := by decide +kernel
theorem dX11_slips_52 : decode cX11_slips 52 = .ok (.aload_n 0, 1) := by decide +kernel
theorem dX11_slips_53 : decode cX11_slips 53 = .ok (.getfield 10, 3) := by decide +kernel
theorem dX11_slips_56 : decode cX11_slips 56 = .ok (.getfield 145, 3) := by decide +kernel
theorem dX11_slips_59 : decode cX11_slips 59 = .ok (.iload_n 1, 1) := by decide +kernel
theorem dX11_slips_60 : decode cX11_slips 60 = .ok (.aaload, 1) := by decide +kernel
theorem dX11_slips_61 : decode cX11_slips 61 = .ok (.iload_n 3, 1) := by decide +kernel
theorem dX11_slips_62 : decode cX11_slips 62 = .ok (.putfield 286, 3) := by decide +kernel
theorem dX11_slips_65 : decode cX11_slips 65 = .ok (.iconst 1, 1) := by decide +kernel
theorem dX11_slips_66 : decode cX11_slips 66 = .ok (.ireturn, 1) := by decide +kernel
theorem dX11_left_0 : decode cX11_left 0 = .ok (.aload_n 0, 1) := by decide +kernel
theorem dX11_left_1 : decode cX11_left 1 = .ok (.getfield 10, 3) := by decide +kernel
theorem dX11_left_4 : decode cX11_left 4 = .ok (.iload_n 1, 1) := by decide +kernel
theorem dX11_left_5 : decode cX11_left 5 = .ok (.invokevirtual 201, 3) := by decide +kernel
theorem dX11_left_8 : decode cX11_left 8 = .ok (.ifCond .ne 5, 3) := by decide +kernel
theorem dX11_left_11 : decode cX11_left 11 = .ok (.iconst (-1), 1) := by decide +kernel
theorem dX11_left_12 : decode cX11_left 12 = .ok (.ireturn, 1) := by decide +kernel
theorem dX11_left_13 : decode cX11_left 13 = .ok (.aload_n 0, 1) := by decide +kernel
theorem dX11_left_14 : decode cX11_left 14 = .ok (.getfield 10, 3) := by decide +kernel
theorem dX11_left_17 : decode cX11_left 17 = .ok (.getfield 145, 3) := by decide +kernel
theorem dX11_left_20 : decode cX11_left 20 = .ok (.iload_n 1, 1) := by decide +kernel
theorem dX11_left_21 : decode cX11_left 21 = .ok (.aaload, 1) := by decide +kernel
theorem dX11_left_22 : decode cX11_left 22 = .ok (.astore_n 3, 1) := by decide +kernel
theorem dX11_left_23 : decode cX11_left 23 = .ok (.iload_n 2, 1) := by decide +kernel
theorem dX11_left_24 : decode cX11_left 24 = .ok (.tableswitch 59 0 2 #[28, 33, 46], 28) := by decide +kernel
theorem dX11_left_52 : decode cX11_left 52 = .ok (.aload_n 3, 1) := by decide +kernel
theorem dX11_left_53 : decode cX11_left 53 = .ok (.invokevirtual 289, 3) := by decide +kernel
theorem dX11_left_56 : decode cX11_left 56 = .ok (.ireturn, 1) := by decide +kernel
theorem dX11_left_57 : decode cX11_left 57 = .ok (.aload_n 3, 1) := by decide +kernel
theorem dX11_left_58 : decode cX11_left 58 = .ok (.getfield 283, 3) := by decide +kernel
theorem dX11_left_61 : decode cX11_left 61 = .ok (.aload_n 3, 1) := by decide +kernel
theorem dX11_left_62 : decode cX11_left 62 = .ok (.getfield 286, 3) := by decide +kernel
theorem dX11_left_65 : decode cX11_left 65 = .ok (.ior, 1) := by decide +kernel
theorem dX11_left_66 : decode cX11_left 66 = .ok (.invokestatic 292, 3) := by decide +kernel
theorem dX11_left_69 : decode cX11_left 69 = .ok (.ireturn, 1) := by decide +kernel
theorem dX11_left_70 : decode cX11_left 70 = .ok (.aload_n 3, 1) := by decide +kernel
theorem dX11_left_71 : decode cX11_left 71 = .ok (.getfield 283, 3) := by decide +kernel
theorem dX11_left_74 : decode cX11_left 74 = .ok (.aload_n 3, 1) := by decide +kernel
theorem dX11_left_75 : decode cX11_left 75 = .ok (.getfield 286, 3) := by decide +kernel
theorem dX11_left_78 : decode cX11_left 78 = .ok (.iand, 1) := by decide +kernel
theorem dX11_left_79 : decode cX11_left 79 = .ok (.invokestatic 292, 3) := by decide +kernel
theorem dX11_left_82 : decode cX11_left 82 = .ok (.ireturn, 1) := by decide +kernel
theorem dX11_left_83 : decode cX11_left 83 = .ok (.iconst (-1), 1) := by decide +kernel
theorem dX11_left_84 : decode cX11_left 84 = .ok (.ireturn, 1) := by decide +kernel
theorem dX11_quick_0 : decode cX11_quick 0 = .ok (.aload_n 0, 1) := by decide +kernel
theorem dX11_quick_1 : decode cX11_quick 1 = .ok (.getfield 10, 3) := by decide +kernel
theorem dX11_quick_4 : decode cX11_quick 4 = .ok (.iload_n 1, 1) := by decide +kernel
theorem dX11_quick_5 : decode cX11_quick 5 = .ok (.invokevirtual 95, 3) := by decide +kernel
theorem dX11_quick_8 : decode cX11_quick 8 = .ok (.ifCond .eq 16, 3) := by decide +kernel
theorem dX11_quick_11 : decode cX11_quick 11 = .ok (.aload_n 0, 1) := by decide +kernel
theorem dX11_quick_12 : decode cX11_quick 12 = .ok (.getfield 28, 3) := by decide +kernel
theorem dX11_quick_15 : decode cX11_quick 15 = .ok (.getfield 183, 3) := by decide +kernel
theorem dX11_quick_18 : decode cX11_quick 18 = .ok (.iload_n 1, 1) := by decide +kernel
theorem dX11_quick_19 : decode cX11_quick 19 = .ok (.iaload, 1) := by decide +kernel
theorem dX11_quick_20 : decode cX11_quick 20 = .ok (.iconst 1, 1) := by decide +kernel
theorem dX11_quick_21 : decode cX11_quick 21 = .ok (.if_icmp .ge 5, 3) := by decide +kernel
theorem dX11_quick_24 : decode cX11_quick 24 = .ok (.iconst (-1), 1) := by decide +kernel
theorem dX11_quick_25 : decode cX11_quick 25 = .ok (.ireturn, 1) := by decide +kernel
theorem dX11_quick_26 : decode cX11_quick 26 = .ok (.iload_n 2, 1) := by decide +kernel
theorem dX11_quick_27 : decode cX11_quick 27 = .ok (.lookupswitch 70 #[(0, 25), (1, 47)], 25) := by decide +kernel
theorem dX11_quick_52 : decode cX11_quick 52 = .ok (.aload_n 0, 1) := by decide +kernel
theorem dX11_quick_53 : decode cX11_quick 53 = .ok (.getfield 28, 3) := by decide +kernel
theorem dX11_quick_56 : decode cX11_quick 56 = .ok (.iload_n 1, 1) := by decide +kernel
theorem dX11_quick_57 : decode cX11_quick 57 = .ok (.invokevirtual 186, 3) := by decide +kernel
theorem dX11_quick_60 : decode cX11_quick 60 = .ok (.bipush 60, 2) := by decide +kernel
theorem dX11_quick_62 : decode cX11_quick 62 = .ok (.imul, 1) := by decide +kernel
theorem dX11_quick_63 : decode cX11_quick 63 = .ok (.aload_n 0, 1) := by decide +kernel
theorem dX11_quick_64 : decode cX11_quick 64 = .ok (.getfield 28, 3) := by decide +kernel
theorem dX11_quick_67 : decode cX11_quick 67 = .ok (.getfield 183, 3) := by decide +kernel
theorem dX11_quick_70 : decode cX11_quick 70 = .ok (.iload_n 1, 1) := by decide +kernel
theorem dX11_quick_71 : decode cX11_quick 71 = .ok (.iaload, 1) := by decide +kernel
theorem dX11_quick_72 : decode cX11_quick 72 = .ok (.idiv, 1) := by decide +kernel
theorem dX11_quick_73 : decode cX11_quick 73 = .ok (.ireturn, 1) := by decide +kernel
theorem dX11_quick_74 : decode cX11_quick 74 = .ok (.aload_n 0, 1) := by decide +kernel
theorem dX11_quick_75 : decode cX11_quick 75 = .ok (.getfield 28, 3) := by decide +kernel
theorem dX11_quick_78 : decode cX11_quick 78 = .ok (.iload_n 1, 1) := by decide +kernel
theorem dX11_quick_79 : decode cX11_quick 79 = .ok (.invokevirtual 297, 3) := by decide +kernel
theorem dX11_quick_82 : decode cX11_quick 82 = .ok (.sipush 1000, 3) := by decide +kernel
theorem dX11_quick_85 : decode cX11_quick 85 = .ok (.imul, 1) := by decide +kernel
theorem dX11_quick_86 : decode cX11_quick 86 = .ok (.aload_n 0, 1) := by decide +kernel
theorem dX11_quick_87 : decode cX11_quick 87 = .ok (.getfield 28, 3) := by decide +kernel
theorem dX11_quick_90 : decode cX11_quick 90 = .ok (.getfield 183, 3) := by decide +kernel
theorem dX11_quick_93 : decode cX11_quick 93 = .ok (.iload_n 1, 1) := by decide +kernel
theorem dX11_quick_94 : decode cX11_quick 94 = .ok (.iaload, 1) := by decide +kernel
theorem dX11_quick_95 : decode cX11_quick 95 = .ok (.idiv, 1) := by decide +kernel
theorem dX11_quick_96 : decode cX11_quick 96 = .ok (.ireturn, 1) := by decide +kernel
theorem dX11_quick_97 : decode cX11_quick 97 = .ok (.iconst (-1), 1) := by decide +kernel
theorem dX11_quick_98 : decode cX11_quick 98 = .ok (.ireturn, 1) := by decide +kernel
theorem dX11_claims_0 : decode cX11_claims 0 = .ok (.iload_n 1, 1) := by decide +kernel
theorem dX11_claims_1 : decode cX11_claims 1 = .ok (.iconst 0, 1) := by decide +kernel
theorem dX11_claims_2 : decode cX11_claims 2 = .ok (.bipush 7, 2) := by decide +kernel
theorem dX11_claims_4 : decode cX11_claims 4 = .ok (.invokestatic 68, 3) := by decide +kernel
theorem dX11_claims_7 : decode cX11_claims 7 = .ok (.ifCond .eq 12, 3) := by decide +kernel
theorem dX11_claims_10 : decode cX11_claims 10 = .ok (.iload_n 2, 1) := by decide +kernel
theorem dX11_claims_11 : decode cX11_claims 11 = .ok (.iconst 0, 1) := by decide +kernel
theorem dX11_claims_12 : decode cX11_claims 12 = .ok (.iconst 4, 1) := by decide +kernel
theorem dX11_claims_13 : decode cX11_claims 13 = .ok (.invokestatic 68, 3) := by decide +kernel
theorem dX11_claims_16 : decode cX11_claims 16 = .ok (.ifCond .ne 5, 3) := by decide +kernel
theorem dX11_claims_19 : decode cX11_claims 19 = .ok (.iconst (-1), 1) := by decide +kernel
theorem dX11_claims_20 : decode cX11_claims 20 = .ok (.ireturn, 1) := by decide +kernel
theorem dX11_claims_21 : decode cX11_claims 21 = .ok (.iload_n 2, 1) := by decide +kernel
theorem dX11_claims_22 : decode cX11_claims 22 = .ok (.ifCond .ne 12, 3) := by decide +kernel
theorem dX11_claims_25 : decode cX11_claims 25 = .ok (.aload_n 0, 1) := by decide +kernel
theorem dX11_claims_26 : decode cX11_claims 26 = .ok (.getfield 28, 3) := by decide +kernel
theorem dX11_claims_29 : decode cX11_claims 29 = .ok (.iload_n 1, 1) := by decide +kernel
theorem dX11_claims_30 : decode cX11_claims 30 = .ok (.invokevirtual 300, 3) := by decide +kernel
theorem dX11_claims_33 : decode cX11_claims 33 = .ok (.ireturn, 1) := by decide +kernel
theorem dX11_claims_34 : decode cX11_claims 34 = .ok (.iconst 0, 1) := by decide +kernel
theorem dX11_claims_35 : decode cX11_claims 35 = .ok (.istore_n 3, 1) := by decide +kernel
theorem dX11_claims_36 : decode cX11_claims 36 = .ok (.iconst 0, 1) := by decide +kernel
theorem dX11_claims_37 : decode cX11_claims 37 = .ok (.istore 4, 2) := by decide +kernel
theorem dX11_claims_39 : decode cX11_claims 39 = .ok (.iload 4, 2) := by decide +kernel
theorem dX11_claims_41 : decode cX11_claims 41 = .ok (.aload_n 0, 1) := by decide +kernel
theorem dX11_claims_42 : decode cX11_claims 42 = .ok (.getfield 10, 3) := by decide +kernel
theorem dX11_claims_45 : decode cX11_claims 45 = .ok (.getfield 112, 3) := by decide +kernel
theorem dX11_claims_48 : decode cX11_claims 48 = .ok (.if_icmp .ge 39, 3) := by decide +kernel
theorem dX11_claims_51 : decode cX11_claims 51 = .ok (.aload_n 0, 1) := by decide +kernel
theorem dX11_claims_52 : decode cX11_claims 52 = .ok (.getfield 10, 3) := by decide +kernel
theorem dX11_claims_55 : decode cX11_claims 55 = .ok (.getfield 145, 3) := by decide +kernel
theorem dX11_claims_58 : decode cX11_claims 58 = .ok (.iload 4, 2) := by decide +kernel
theorem dX11_claims_60 : decode cX11_claims 60 = .ok (.aaload, 1) := by decide +kernel
theorem dX11_claims_61 : decode cX11_claims 61 = .ok (.getfield 118, 3) := by decide +kernel
theorem dX11_claims_64 : decode cX11_claims 64 = .ok (.iload_n 1, 1) := by decide +kernel
theorem dX11_claims_65 : decode cX11_claims 65 = .ok (.if_icmp .ne 16, 3) := by decide +kernel
theorem dX11_claims_68 : decode cX11_claims 68 = .ok (.iload_n 3, 1) := by decide +kernel
theorem dX11_claims_69 : decode cX11_claims 69 = .ok (.aload_n 0, 1) := by decide +kernel
theorem dX11_claims_70 : decode cX11_claims 70 = .ok (.getfield 28, 3) := by decide +kernel
theorem dX11_claims_73 : decode cX11_claims 73 = .ok (.iload 4, 2) := by decide +kernel
theorem dX11_claims_75 : decode cX11_claims 75 = .ok (.iload_n 2, 1) := by decide +kernel
theorem dX11_claims_76 : decode cX11_claims 76 = .ok (.invokevirtual 303, 3) := by decide +kernel
theorem dX11_claims_79 : decode cX11_claims 79 = .ok (.iadd, 1) := by decide +kernel
theorem dX11_claims_80 : decode cX11_claims 80 = .ok (.istore_n 3, 1) := by decide +kernel
theorem dX11_claims_81 : decode cX11_claims 81 = .ok (.iinc 4 1, 3) := by decide +kernel
theorem dX11_claims_84 : decode cX11_claims 84 = .ok (.goto (-45), 3) := by decide +kernel
theorem dX11_claims_87 : decode cX11_claims 87 = .ok (.iload_n 3, 1) := by decide +kernel
theorem dX11_claims_88 : decode cX11_claims 88 = .ok (.ireturn, 1) := by decide +kernel
theorem dX11_plan_0 : decode cX11_plan 0 = .ok (.aload_n 0, 1) := by decide +kernel
theorem dX11_plan_1 : decode cX11_plan 1 = .ok (.getfield 49, 3) := by decide +kernel
theorem dX11_plan_4 : decode cX11_plan 4 = .ok (.iload_n 1, 1) := by decide +kernel
theorem dX11_plan_5 : decode cX11_plan 5 = .ok (.iload_n 2, 1) := by decide +kernel
theorem dX11_plan_6 : decode cX11_plan 6 = .ok (.invokevirtual 306, 3) := by decide +kernel
theorem dX11_plan_9 : decode cX11_plan 9 = .ok (.istore_n 3, 1) := by decide +kernel
theorem dX11_plan_10 : decode cX11_plan 10 = .ok (.iload_n 3, 1) := by decide +kernel
theorem dX11_plan_11 : decode cX11_plan 11 = .ok (.ifCond .ge 5, 3) := by decide +kernel
theorem dX11_plan_14 : decode cX11_plan 14 = .ok (.iload_n 3, 1) := by decide +kernel
theorem dX11_plan_15 : decode cX11_plan 15 = .ok (.ireturn, 1) := by decide +kernel
theorem dX11_plan_16 : decode cX11_plan 16 = .ok (.aload_n 0, 1) := by decide +kernel
theorem dX11_plan_17 : decode cX11_plan 17 = .ok (.aload_n 0, 1) := by decide +kernel
theorem dX11_plan_18 : decode cX11_plan 18 = .ok (.getfield 49, 3) := by decide +kernel
theorem dX11_plan_21 : decode cX11_plan 21 = .ok (.getfield 309, 3) := by decide +kernel
theorem dX11_plan_24 : decode cX11_plan 24 = .ok (.putfield 65, 3) := by decide +kernel
theorem dX11_plan_27 : decode cX11_plan 27 = .ok (.aload_n 0, 1) := by decide +kernel
theorem dX11_plan_28 : decode cX11_plan 28 = .ok (.getfield 49, 3) := by decide +kernel
theorem dX11_plan_31 : decode cX11_plan 31 = .ok (.getfield 312, 3) := by decide +kernel
theorem dX11_plan_34 : decode cX11_plan 34 = .ok (.iconst 0, 1) := by decide +kernel
theorem dX11_plan_35 : decode cX11_plan 35 = .ok (.aload_n 0, 1) := by decide +kernel
theorem dX11_plan_36 : decode cX11_plan 36 = .ok (.getfield 61, 3) := by decide +kernel
theorem dX11_plan_39 : decode cX11_plan 39 = .ok (.iconst 0, 1) := by decide +kernel
theorem dX11_plan_40 : decode cX11_plan 40 = .ok (.aload_n 0, 1) := by decide +kernel
theorem dX11_plan_41 : decode cX11_plan 41 = .ok (.getfield 65, 3) := by decide +kernel
theorem dX11_plan_44 : decode cX11_plan 44 = .ok (.invokestatic 315, 3) := by decide +kernel
theorem dX11_plan_47 : decode cX11_plan 47 = .ok (.aload_n 0, 1) := by decide +kernel
theorem dX11_plan_48 : decode cX11_plan 48 = .ok (.getfield 49, 3) := by decide +kernel
theorem dX11_plan_51 : decode cX11_plan 51 = .ok (.getfield 321, 3) := by decide +kernel
theorem dX11_plan_54 : decode cX11_plan 54 = .ok (.ireturn, 1) := by decide +kernel
theorem dX11_lateness_0 : decode cX11_lateness 0 = .ok (.aload_n 0, 1) := by decide +kernel
theorem dX11_lateness_1 : decode cX11_lateness 1 = .ok (.getfield 49, 3) := by decide +kernel
theorem dX11_lateness_4 : decode cX11_lateness 4 = .ok (.iload_n 1, 1) := by decide +kernel
theorem dX11_lateness_5 : decode cX11_lateness 5 = .ok (.iload_n 2, 1) := by decide +kernel
theorem dX11_lateness_6 : decode cX11_lateness 6 = .ok (.invokevirtual 306, 3) := by decide +kernel
theorem dX11_lateness_9 : decode cX11_lateness 9 = .ok (.istore_n 3, 1) := by decide +kernel
theorem dX11_lateness_10 : decode cX11_lateness 10 = .ok (.iload_n 3, 1) := by decide +kernel
theorem dX11_lateness_11 : decode cX11_lateness 11 = .ok (.ifCond .ge 7, 3) := by decide +kernel
theorem dX11_lateness_14 : decode cX11_lateness 14 = .ok (.iload_n 3, 1) := by decide +kernel
theorem dX11_lateness_15 : decode cX11_lateness 15 = .ok (.goto 10, 3) := by decide +kernel
theorem dX11_lateness_18 : decode cX11_lateness 18 = .ok (.aload_n 0, 1) := by decide +kernel
theorem dX11_lateness_19 : decode cX11_lateness 19 = .ok (.getfield 49, 3) := by decide +kernel
theorem dX11_lateness_22 : decode cX11_lateness 22 = .ok (.getfield 324, 3) := by decide +kernel
theorem dX11_lateness_25 : decode cX11_lateness 25 = .ok (.ireturn, 1) := by decide +kernel
theorem dX11_tried_0 : decode cX11_tried 0 = .ok (.iload_n 1, 1) := by decide +kernel
theorem dX11_tried_1 : decode cX11_tried 1 = .ok (.iconst (-1), 1) := by decide +kernel
theorem dX11_tried_2 : decode cX11_tried 2 = .ok (.if_icmp .eq 14, 3) := by decide +kernel
theorem dX11_tried_5 : decode cX11_tried 5 = .ok (.aload_n 0, 1) := by decide +kernel
theorem dX11_tried_6 : decode cX11_tried 6 = .ok (.getfield 19, 3) := by decide +kernel
theorem dX11_tried_9 : decode cX11_tried 9 = .ok (.iload_n 1, 1) := by decide +kernel
theorem dX11_tried_10 : decode cX11_tried 10 = .ok (.invokevirtual 327, 3) := by decide +kernel
theorem dX11_tried_13 : decode cX11_tried 13 = .ok (.ifCond .eq 7, 3) := by decide +kernel
theorem dX11_tried_16 : decode cX11_tried 16 = .ok (.iconst 1, 1) := by decide +kernel
theorem dX11_tried_17 : decode cX11_tried 17 = .ok (.goto 4, 3) := by decide +kernel
theorem dX11_tried_20 : decode cX11_tried 20 = .ok (.iconst 0, 1) := by decide +kernel
theorem dX11_tried_21 : decode cX11_tried 21 = .ok (.istore_n 3, 1) := by decide +kernel
theorem dX11_tried_22 : decode cX11_tried 22 = .ok (.iload_n 3, 1) := by decide +kernel
theorem dX11_tried_23 : decode cX11_tried 23 = .ok (.ifCond .eq 12, 3) := by decide +kernel
theorem dX11_tried_26 : decode cX11_tried 26 = .ok (.aload_n 0, 1) := by decide +kernel
theorem dX11_tried_27 : decode cX11_tried 27 = .ok (.iload_n 2, 1) := by decide +kernel
theorem dX11_tried_28 : decode cX11_tried 28 = .ok (.iconst 0, 1) := by decide +kernel
theorem dX11_tried_29 : decode cX11_tried 29 = .ok (.invokevirtual 163, 3) := by decide +kernel
theorem dX11_tried_32 : decode cX11_tried 32 = .ok (.ifCond .ne 5, 3) := by decide +kernel
theorem dX11_tried_35 : decode cX11_tried 35 = .ok (.iconst (-1), 1) := by decide +kernel
theorem dX11_tried_36 : decode cX11_tried 36 = .ok (.ireturn, 1) := by decide +kernel
theorem dX11_tried_37 : decode cX11_tried 37 = .ok (.aload_n 0, 1) := by decide +kernel
theorem dX11_tried_38 : decode cX11_tried 38 = .ok (.getfield 32, 3) := by decide +kernel
theorem dX11_tried_41 : decode cX11_tried 41 = .ok (.aload_n 0, 1) := by decide +kernel
theorem dX11_tried_42 : decode cX11_tried 42 = .ok (.getfield 28, 3) := by decide +kernel
theorem dX11_tried_45 : decode cX11_tried 45 = .ok (.invokevirtual 330, 3) := by decide +kernel
theorem dX11_tried_48 : decode cX11_tried 48 = .ok (.aload_n 0, 1) := by decide +kernel
theorem dX11_tried_49 : decode cX11_tried 49 = .ok (.getfield 32, 3) := by decide +kernel
theorem dX11_tried_52 : decode cX11_tried 52 = .ok (.iload_n 2, 1) := by decide +kernel
theorem dX11_tried_53 : decode cX11_tried 53 = .ok (.iload_n 1, 1) := by decide +kernel
theorem dX11_tried_54 : decode cX11_tried 54 = .ok (.iconst (-1), 1) := by decide +kernel
theorem dX11_tried_55 : decode cX11_tried 55 = .ok (.if_icmp .ne 7, 3) := by decide +kernel
theorem dX11_tried_58 : decode cX11_tried 58 = .ok (.aconst_null, 1) := by decide +kernel
theorem dX11_tried_59 : decode cX11_tried 59 = .ok (.goto 12, 3) := by decide +kernel
theorem dX11_tried_62 : decode cX11_tried 62 = .ok (.aload_n 0, 1) := by decide +kernel
theorem dX11_tried_63 : decode cX11_tried 63 = .ok (.getfield 19, 3) := by decide +kernel
theorem dX11_tried_66 : decode cX11_tried 66 = .ok (.getfield 334, 3) := by decide +kernel
theorem dX11_tried_69 : decode cX11_tried 69 = .ok (.iload_n 1, 1) := by decide +kernel
theorem dX11_tried_70 : decode cX11_tried 70 = .ok (.aaload, 1) := by decide +kernel
theorem dX11_tried_71 : decode cX11_tried 71 = .ok (.iconst (-1), 1) := by decide +kernel
theorem dX11_tried_72 : decode cX11_tried 72 = .ok (.invokevirtual 167, 3) := by decide +kernel
theorem dX11_tried_75 : decode cX11_tried 75 = .ok (.iconst 0, 1) := by decide +kernel
theorem dX11_tried_76 : decode cX11_tried 76 = .ok (.istore 4, 2) := by decide +kernel
theorem dX11_tried_78 : decode cX11_tried 78 = .ok (.iload 4, 2) := by decide +kernel
theorem dX11_tried_80 : decode cX11_tried 80 = .ok (.bipush 8, 2) := by decide +kernel
theorem dX11_tried_82 : decode cX11_tried 82 = .ok (.if_icmp .ge 25, 3) := by decide +kernel
theorem dX11_tried_85 : decode cX11_tried 85 = .ok (.aload_n 0, 1) := by decide +kernel
theorem dX11_tried_86 : decode cX11_tried 86 = .ok (.getfield 61, 3) := by decide +kernel
theorem dX11_tried_89 : decode cX11_tried 89 = .ok (.iload 4, 2) := by decide +kernel
theorem dX11_tried_91 : decode cX11_tried 91 = .ok (.aload_n 0, 1) := by decide +kernel
theorem dX11_tried_92 : decode cX11_tried 92 = .ok (.getfield 32, 3) := by decide +kernel
theorem dX11_tried_95 : decode cX11_tried 95 = .ok (.iload 4, 2) := by decide +kernel
theorem dX11_tried_97 : decode cX11_tried 97 = .ok (.invokevirtual 300, 3) := by decide +kernel
theorem dX11_tried_100 : decode cX11_tried 100 = .ok (.iastore, 1) := by decide +kernel
theorem dX11_tried_101 : decode cX11_tried 101 = .ok (.iinc 4 1, 3) := by decide +kernel
theorem dX11_tried_104 : decode cX11_tried 104 = .ok (.goto (-26), 3) := by decide +kernel
theorem dX11_tried_107 : decode cX11_tried 107 = .ok (.aload_n 0, 1) := by decide +kernel
theorem dX11_tried_108 : decode cX11_tried 108 = .ok (.bipush 8, 2) := by decide +kernel
theorem dX11_tried_110 : decode cX11_tried 110 = .ok (.putfield 65, 3) := by decide +kernel
theorem dX11_tried_113 : decode cX11_tried 113 = .ok (.aload_n 0, 1) := by decide +kernel
theorem dX11_tried_114 : decode cX11_tried 114 = .ok (.getfield 32, 3) := by decide +kernel
theorem dX11_tried_117 : decode cX11_tried 117 = .ok (.invokevirtual 242, 3) := by decide +kernel
theorem dX11_tried_120 : decode cX11_tried 120 = .ok (.ireturn, 1) := by decide +kernel
theorem dX11_ill_0 : decode cX11_ill 0 = .ok (.aload_n 0, 1) := by decide +kernel
theorem dX11_ill_1 : decode cX11_ill 1 = .ok (.getfield 10, 3) := by decide +kernel
theorem dX11_ill_4 : decode cX11_ill 4 = .ok (.iload_n 1, 1) := by decide +kernel
theorem dX11_ill_5 : decode cX11_ill 5 = .ok (.invokevirtual 95, 3) := by decide +kernel
theorem dX11_ill_8 : decode cX11_ill 8 = .ok (.ifCond .eq 12, 3) := by decide +kernel
theorem dX11_ill_11 : decode cX11_ill 11 = .ok (.aload_n 0, 1) := by decide +kernel
theorem dX11_ill_12 : decode cX11_ill 12 = .ok (.iload_n 2, 1) := by decide +kernel
theorem dX11_ill_13 : decode cX11_ill 13 = .ok (.iconst 1, 1) := by decide +kernel
theorem dX11_ill_14 : decode cX11_ill 14 = .ok (.invokevirtual 163, 3) := by decide +kernel
theorem dX11_ill_17 : decode cX11_ill 17 = .ok (.ifCond .ne 14, 3) := by decide +kernel
theorem dX11_ill_20 : decode cX11_ill 20 = .ok (.new 171, 3) := by decide +kernel
theorem dX11_ill_23 : decode cX11_ill 23 = .ok (.dup, 1) := by decide +kernel
theorem dX11_ill_24 : decode cX11_ill 24 = .ok (.ldc_w 338, 3) := by decide +kernel
theorem dX11_ill_27 : decode cX11_ill 27 = .ok (.invokespecial 175, 3) := by decide +kernel
theorem dX11_ill_30 : decode cX11_ill 30 = .ok (.athrow, 1) := by decide +kernel
theorem dX11_ill_31 : decode cX11_ill 31 = .ok (.aload_n 0, 1) := by decide +kernel
theorem dX11_ill_32 : decode cX11_ill 32 = .ok (.getfield 32, 3) := by decide +kernel
theorem dX11_ill_35 : decode cX11_ill 35 = .ok (.aload_n 0, 1) := by decide +kernel
theorem dX11_ill_36 : decode cX11_ill 36 = .ok (.getfield 28, 3) := by decide +kernel
theorem dX11_ill_39 : decode cX11_ill 39 = .ok (.invokevirtual 330, 3) := by decide +kernel
theorem dX11_ill_42 : decode cX11_ill 42 = .ok (.aload_n 0, 1) := by decide +kernel
theorem dX11_ill_43 : decode cX11_ill 43 = .ok (.getfield 32, 3) := by decide +kernel
theorem dX11_ill_46 : decode cX11_ill 46 = .ok (.iload_n 2, 1) := by decide +kernel
theorem dX11_ill_47 : decode cX11_ill 47 = .ok (.aconst_null, 1) := by decide +kernel
theorem dX11_ill_48 : decode cX11_ill 48 = .ok (.iconst (-1), 1) := by decide +kernel
theorem dX11_ill_49 : decode cX11_ill 49 = .ok (.invokevirtual 167, 3) := by decide +kernel
theorem dX11_ill_52 : decode cX11_ill 52 = .ok (.aload_n 0, 1) := by decide +kernel
theorem dX11_ill_53 : decode cX11_ill 53 = .ok (.getfield 32, 3) := by decide +kernel
theorem dX11_ill_56 : decode cX11_ill 56 = .ok (.invokevirtual 242, 3) := by decide +kernel
theorem dX11_ill_59 : decode cX11_ill 59 = .ok (.istore_n 3, 1) := by decide +kernel
theorem dX11_ill_60 : decode cX11_ill 60 = .ok (.aload_n 0, 1) := by decide +kernel
theorem dX11_ill_61 : decode cX11_ill 61 = .ok (.getfield 32, 3) := by decide +kernel
theorem dX11_ill_64 : decode cX11_ill 64 = .ok (.aload_n 0, 1) := by decide +kernel
theorem dX11_ill_65 : decode cX11_ill 65 = .ok (.getfield 28, 3) := by decide +kernel
theorem dX11_ill_68 : decode cX11_ill 68 = .ok (.invokevirtual 330, 3) := by decide +kernel
theorem dX11_ill_71 : decode cX11_ill 71 = .ok (.aload_n 0, 1) := by decide +kernel
theorem dX11_ill_72 : decode cX11_ill 72 = .ok (.getfield 32, 3) := by decide +kernel
theorem dX11_ill_75 : decode cX11_ill 75 = .ok (.iload_n 2, 1) := by decide +kernel
theorem dX11_ill_76 : decode cX11_ill 76 = .ok (.aconst_null, 1) := by decide +kernel
theorem dX11_ill_77 : decode cX11_ill 77 = .ok (.iload_n 1, 1) := by decide +kernel
theorem dX11_ill_78 : decode cX11_ill 78 = .ok (.invokevirtual 167, 3) := by decide +kernel
theorem dX11_ill_81 : decode cX11_ill 81 = .ok (.aload_n 0, 1) := by decide +kernel
theorem dX11_ill_82 : decode cX11_ill 82 = .ok (.getfield 32, 3) := by decide +kernel
theorem dX11_ill_85 : decode cX11_ill 85 = .ok (.invokevirtual 242, 3) := by decide +kernel
theorem dX11_ill_88 : decode cX11_ill 88 = .ok (.iload_n 3, 1) := by decide +kernel
theorem dX11_ill_89 : decode cX11_ill 89 = .ok (.isub, 1) := by decide +kernel
theorem dX11_ill_90 : decode cX11_ill 90 = .ok (.ireturn, 1) := by decide +kernel
theorem dX11_row_0 : decode cX11_row 0 = .ok (.iload_n 1, 1) := by decide +kernel
theorem dX11_row_1 : decode cX11_row 1 = .ok (.ifCond .lt 11, 3) := by decide +kernel
theorem dX11_row_4 : decode cX11_row 4 = .ok (.iload_n 1, 1) := by decide +kernel
theorem dX11_row_5 : decode cX11_row 5 = .ok (.aload_n 0, 1) := by decide +kernel
theorem dX11_row_6 : decode cX11_row 6 = .ok (.getfield 65, 3) := by decide +kernel
theorem dX11_row_9 : decode cX11_row 9 = .ok (.if_icmp .lt 14, 3) := by decide +kernel
theorem dX11_row_12 : decode cX11_row 12 = .ok (.new 171, 3) := by decide +kernel
theorem dX11_row_15 : decode cX11_row 15 = .ok (.dup, 1) := by decide +kernel
theorem dX11_row_16 : decode cX11_row 16 = .ok (.ldc_w 340, 3) := by decide +kernel
theorem dX11_row_19 : decode cX11_row 19 = .ok (.invokespecial 175, 3) := by decide +kernel
theorem dX11_row_22 : decode cX11_row 22 = .ok (.athrow, 1) := by decide +kernel
theorem dX11_row_23 : decode cX11_row 23 = .ok (.aload_n 0, 1) := by decide +kernel
theorem dX11_row_24 : decode cX11_row 24 = .ok (.getfield 61, 3) := by decide +kernel
theorem dX11_row_27 : decode cX11_row 27 = .ok (.iload_n 1, 1) := by decide +kernel
theorem dX11_row_28 : decode cX11_row 28 = .ok (.iaload, 1) := by decide +kernel
theorem dX11_row_29 : decode cX11_row 29 = .ok (.ireturn, 1) := by decide +kernel
theorem dX11_canGoOn_0 : decode cX11_canGoOn 0 = .ok (.iload_n 1, 1) := by decide +kernel
theorem dX11_canGoOn_1 : decode cX11_canGoOn 1 = .ok (.iload_n 2, 1) := by decide +kernel
theorem dX11_canGoOn_2 : decode cX11_canGoOn 2 = .ok (.sipush 960, 3) := by decide +kernel
theorem dX11_canGoOn_5 : decode cX11_canGoOn 5 = .ok (.invokestatic 68, 3) := by decide +kernel
theorem dX11_canGoOn_8 : decode cX11_canGoOn 8 = .ok (.ifCond .eq 22, 3) := by decide +kernel
theorem dX11_canGoOn_11 : decode cX11_canGoOn 11 = .ok (.aload_n 0, 1) := by decide +kernel
theorem dX11_canGoOn_12 : decode cX11_canGoOn 12 = .ok (.getfield 28, 3) := by decide +kernel
theorem dX11_canGoOn_15 : decode cX11_canGoOn 15 = .ok (.getfield 99, 3) := by decide +kernel
theorem dX11_canGoOn_18 : decode cX11_canGoOn 18 = .ok (.iload_n 1, 1) := by decide +kernel
theorem dX11_canGoOn_19 : decode cX11_canGoOn 19 = .ok (.iadd, 1) := by decide +kernel
theorem dX11_canGoOn_20 : decode cX11_canGoOn 20 = .ok (.sipush 4800, 3) := by decide +kernel
theorem dX11_canGoOn_23 : decode cX11_canGoOn 23 = .ok (.if_icmp .gt 7, 3) := by decide +kernel
theorem dX11_canGoOn_26 : decode cX11_canGoOn 26 = .ok (.iconst 1, 1) := by decide +kernel
theorem dX11_canGoOn_27 : decode cX11_canGoOn 27 = .ok (.goto 4, 3) := by decide +kernel
theorem dX11_canGoOn_30 : decode cX11_canGoOn 30 = .ok (.iconst 0, 1) := by decide +kernel
theorem dX11_canGoOn_31 : decode cX11_canGoOn 31 = .ok (.ireturn, 1) := by decide +kernel
theorem dX11_within_0 : decode cX11_within 0 = .ok (.iload_n 0, 1) := by decide +kernel
theorem dX11_within_1 : decode cX11_within 1 = .ok (.iload_n 1, 1) := by decide +kernel
theorem dX11_within_2 : decode cX11_within 2 = .ok (.if_icmp .lt 12, 3) := by decide +kernel
theorem dX11_within_5 : decode cX11_within 5 = .ok (.iload_n 0, 1) := by decide +kernel
theorem dX11_within_6 : decode cX11_within 6 = .ok (.iload_n 2, 1) := by decide +kernel
theorem dX11_within_7 : decode cX11_within 7 = .ok (.if_icmp .gt 7, 3) := by decide +kernel
theorem dX11_within_10 : decode cX11_within 10 = .ok (.iconst 1, 1) := by decide +kernel
theorem dX11_within_11 : decode cX11_within 11 = .ok (.goto 4, 3) := by decide +kernel
theorem dX11_within_14 : decode cX11_within 14 = .ok (.iconst 0, 1) := by decide +kernel
theorem dX11_within_15 : decode cX11_within 15 = .ok (.ireturn, 1) := by decide +kernel
theorem dX11_minutesFor_0 : decode cX11_minutesFor 0 = .ok (.iload_n 1, 1) := by decide +kernel
theorem dX11_minutesFor_1 : decode cX11_minutesFor 1 = .ok (.iconst 1, 1) := by decide +kernel
theorem dX11_minutesFor_2 : decode cX11_minutesFor 2 = .ok (.if_icmp .ge 7, 3) := by decide +kernel
theorem dX11_minutesFor_5 : decode cX11_minutesFor 5 = .ok (.iconst 1, 1) := by decide +kernel
theorem dX11_minutesFor_6 : decode cX11_minutesFor 6 = .ok (.goto 10, 3) := by decide +kernel
theorem dX11_minutesFor_9 : decode cX11_minutesFor 9 = .ok (.iload_n 0, 1) := by decide +kernel
theorem dX11_minutesFor_10 : decode cX11_minutesFor 10 = .ok (.iload_n 1, 1) := by decide +kernel
theorem dX11_minutesFor_11 : decode cX11_minutesFor 11 = .ok (.iadd, 1) := by decide +kernel
theorem dX11_minutesFor_12 : decode cX11_minutesFor 12 = .ok (.iconst 1, 1) := by decide +kernel
theorem dX11_minutesFor_13 : decode cX11_minutesFor 13 = .ok (.isub, 1) := by decide +kernel
theorem dX11_minutesFor_14 : decode cX11_minutesFor 14 = .ok (.iload_n 1, 1) := by decide +kernel
theorem dX11_minutesFor_15 : decode cX11_minutesFor 15 = .ok (.idiv, 1) := by decide +kernel
theorem dX11_minutesFor_16 : decode cX11_minutesFor 16 = .ok (.ireturn, 1) := by decide +kernel
theorem dX12_init_0 : decode cX12_init 0 = .ok (.aload_n 0, 1) := by decide +kernel
theorem dX12_init_1 : decode cX12_init 1 = .ok (.invokespecial 3, 3) := by decide +kernel
theorem dX12_init_4 : decode cX12_init 4 = .ok (.aload_n 0, 1) := by decide +kernel
theorem dX12_init_5 : decode cX12_init 5 = .ok (.iconst 4, 1) := by decide +kernel
theorem dX12_init_6 : decode cX12_init 6 = .ok (.newarray .int, 2) := by decide +kernel
theorem dX12_init_8 : decode cX12_init 8 = .ok (.putfield 9, 3) := by decide +kernel
theorem dX12_init_11 : decode cX12_init 11 = .ok (.aload_n 0, 1) := by decide +kernel
theorem dX12_init_12 : decode cX12_init 12 = .ok (.bipush 8, 2) := by decide +kernel
theorem dX12_init_14 : decode cX12_init 14 = .ok (.newarray .int, 2) := by decide +kernel
theorem dX12_init_16 : decode cX12_init 16 = .ok (.putfield 13, 3) := by decide +kernel
theorem dX12_init_19 : decode cX12_init 19 = .ok (.aload_n 0, 1) := by decide +kernel
theorem dX12_init_20 : decode cX12_init 20 = .ok (.bipush 8, 2) := by decide +kernel
theorem dX12_init_22 : decode cX12_init 22 = .ok (.newarray .int, 2) := by decide +kernel
theorem dX12_init_24 : decode cX12_init 24 = .ok (.putfield 16, 3) := by decide +kernel
theorem dX12_init_27 : decode cX12_init 27 = .ok (.aload_n 0, 1) := by decide +kernel
theorem dX12_init_28 : decode cX12_init 28 = .ok (.bipush 8, 2) := by decide +kernel
theorem dX12_init_30 : decode cX12_init 30 = .ok (.newarray .int, 2) := by decide +kernel
theorem dX12_init_32 : decode cX12_init 32 = .ok (.putfield 19, 3) := by decide +kernel
theorem dX12_init_35 : decode cX12_init 35 = .ok (.aload_n 0, 1) := by decide +kernel
theorem dX12_init_36 : decode cX12_init 36 = .ok (.bipush 31, 2) := by decide +kernel
theorem dX12_init_38 : decode cX12_init 38 = .ok (.newarray .int, 2) := by decide +kernel
theorem dX12_init_40 : decode cX12_init 40 = .ok (.putfield 22, 3) := by decide +kernel
theorem dX12_init_43 : decode cX12_init 43 = .ok (.aload_n 0, 1) := by decide +kernel
theorem dX12_init_44 : decode cX12_init 44 = .ok (.bipush 31, 2) := by decide +kernel
theorem dX12_init_46 : decode cX12_init 46 = .ok (.newarray .int, 2) := by decide +kernel
theorem dX12_init_48 : decode cX12_init 48 = .ok (.putfield 25, 3) := by decide +kernel
theorem dX12_init_51 : decode cX12_init 51 = .ok (.aload_n 0, 1) := by decide +kernel
theorem dX12_init_52 : decode cX12_init 52 = .ok (.bipush 31, 2) := by decide +kernel
theorem dX12_init_54 : decode cX12_init 54 = .ok (.newarray .int, 2) := by decide +kernel
theorem dX12_init_56 : decode cX12_init 56 = .ok (.putfield 28, 3) := by decide +kernel
theorem dX12_init_59 : decode cX12_init 59 = .ok (.aload_n 0, 1) := by decide +kernel
theorem dX12_init_60 : decode cX12_init 60 = .ok (.bipush 30, 2) := by decide +kernel
theorem dX12_init_62 : decode cX12_init 62 = .ok (.newarray .int, 2) := by decide +kernel
theorem dX12_init_64 : decode cX12_init 64 = .ok (.putfield 31, 3) := by decide +kernel
theorem dX12_init_67 : decode cX12_init 67 = .ok (.aload_n 0, 1) := by decide +kernel
theorem dX12_init_68 : decode cX12_init 68 = .ok (.bipush 30, 2) := by decide +kernel
theorem dX12_init_70 : decode cX12_init 70 = .ok (.newarray .int, 2) := by decide +kernel
theorem dX12_init_72 : decode cX12_init 72 = .ok (.putfield 34, 3) := by decide +kernel
theorem dX12_init_75 : decode cX12_init 75 = .ok (.aload_n 0, 1) := by decide +kernel
theorem dX12_init_76 : decode cX12_init 76 = .ok (.bipush 30, 2) := by decide +kernel
theorem dX12_init_78 : decode cX12_init 78 = .ok (.newarray .int, 2) := by decide +kernel
theorem dX12_init_80 : decode cX12_init 80 = .ok (.putfield 37, 3) := by decide +kernel
theorem dX12_init_83 : decode cX12_init 83 = .ok (.aload_n 0, 1) := by decide +kernel
theorem dX12_init_84 : decode cX12_init 84 = .ok (.bipush 30, 2) := by decide +kernel
theorem dX12_init_86 : decode cX12_init 86 = .ok (.newarray .int, 2) := by decide +kernel
theorem dX12_init_88 : decode cX12_init 88 = .ok (.putfield 40, 3) := by decide +kernel
theorem dX12_init_91 : decode cX12_init 91 = .ok (.aload_n 0, 1) := by decide +kernel
theorem dX12_init_92 : decode cX12_init 92 = .ok (.bipush 30, 2) := by decide +kernel
theorem dX12_init_94 : decode cX12_init 94 = .ok (.newarray .int, 2) := by decide +kernel
theorem dX12_init_96 : decode cX12_init 96 = .ok (.putfield 43, 3) := by decide +kernel
theorem dX12_init_99 : decode cX12_init 99 = .ok (.aload_n 0, 1) := by decide +kernel
theorem dX12_init_100 : decode cX12_init 100 = .ok (.bipush 30, 2) := by decide +kernel
theorem dX12_init_102 : decode cX12_init 102 = .ok (.newarray .int, 2) := by decide +kernel
theorem dX12_init_104 : decode cX12_init 104 = .ok (.putfield 46, 3) := by decide +kernel
theorem dX12_init_107 : decode cX12_init 107 = .ok (.aload_n 0, 1) := by decide +kernel
theorem dX12_init_108 : decode cX12_init 108 = .ok (.bipush 30, 2) := by decide +kernel
theorem dX12_init_110 : decode cX12_init 110 = .ok (.newarray .int, 2) := by decide +kernel
theorem dX12_init_112 : decode cX12_init 112 = .ok (.putfield 49, 3) := by decide +kernel
theorem dX12_init_115 : decode cX12_init 115 = .ok (.aload_n 0, 1) := by decide +kernel
theorem dX12_init_116 : decode cX12_init 116 = .ok (.bipush 30, 2) := by decide +kernel
theorem dX12_init_118 : decode cX12_init 118 = .ok (.newarray .int, 2) := by decide +kernel
theorem dX12_init_120 : decode cX12_init 120 = .ok (.putfield 52, 3) := by decide +kernel
theorem dX12_init_123 : decode cX12_init 123 = .ok (.aload_n 0, 1) := by decide +kernel
theorem dX12_init_124 : decode cX12_init 124 = .ok (.bipush 30, 2) := by decide +kernel
theorem dX12_init_126 : decode cX12_init 126 = .ok (.newarray .int, 2) := by decide +kernel
theorem dX12_init_128 : decode cX12_init 128 = .ok (.putfield 55, 3) := by decide +kernel
theorem dX12_init_131 : decode cX12_init 131 = .ok (.aload_n 0, 1) := by decide +kernel
theorem dX12_init_132 : decode cX12_init 132 = .ok (.sipush 1200, 3) := by decide +kernel
theorem dX12_init_135 : decode cX12_init 135 = .ok (.newarray .byte, 2) := by decide +kernel
theorem dX12_init_137 : decode cX12_init 137 = .ok (.putfield 58, 3) := by decide +kernel
theorem dX12_init_140 : decode cX12_init 140 = .ok (.aload_n 0, 1) := by decide +kernel
theorem dX12_init_141 : decode cX12_init 141 = .ok (.bipush 20, 2) := by decide +kernel
theorem dX12_init_143 : decode cX12_init 143 = .ok (.newarray .int, 2) := by decide +kernel
theorem dX12_init_145 : decode cX12_init 145 = .ok (.putfield 62, 3) := by decide +kernel
theorem dX12_init_148 : decode cX12_init 148 = .ok (.aload_n 0, 1) := by decide +kernel
theorem dX12_init_149 : decode cX12_init 149 = .ok (.bipush 20, 2) := by decide +kernel
theorem dX12_init_151 : decode cX12_init 151 = .ok (.newarray .int, 2) := by decide +kernel
theorem dX12_init_153 : decode cX12_init 153 = .ok (.putfield 65, 3) := by decide +kernel
theorem dX12_init_156 : decode cX12_init 156 = .ok (.aload_n 0, 1) := by decide +kernel
theorem dX12_init_157 : decode cX12_init 157 = .ok (.bipush 20, 2) := by decide +kernel
theorem dX12_init_159 : decode cX12_init 159 = .ok (.newarray .int, 2) := by decide +kernel
theorem dX12_init_161 : decode cX12_init 161 = .ok (.putfield 68, 3) := by decide +kernel
theorem dX12_init_164 : decode cX12_init 164 = .ok (.aload_n 0, 1) := by decide +kernel
theorem dX12_init_165 : decode cX12_init 165 = .ok (.ldc 71, 2) := by decide +kernel
theorem dX12_init_167 : decode cX12_init 167 = .ok (.invokevirtual 73, 3) := by decide +kernel
theorem dX12_init_170 : decode cX12_init 170 = .ok (.newarray .byte, 2) := by decide +kernel
theorem dX12_init_172 : decode cX12_init 172 = .ok (.putfield 79, 3) := by decide +kernel
theorem dX12_init_175 : decode cX12_init 175 = .ok (.aload_n 0, 1) := by decide +kernel
theorem dX12_init_176 : decode cX12_init 176 = .ok (.bipush 40, 2) := by decide +kernel
theorem dX12_init_178 : decode cX12_init 178 = .ok (.newarray .int, 2) := by decide +kernel
theorem dX12_init_180 : decode cX12_init 180 = .ok (.putfield 82, 3) := by decide +kernel
theorem dX12_init_183 : decode cX12_init 183 = .ok (.aload_n 0, 1) := by decide +kernel
theorem dX12_init_184 : decode cX12_init 184 = .ok (.bipush 40, 2) := by decide +kernel
theorem dX12_init_186 : decode cX12_init 186 = .ok (.newarray .int, 2) := by decide +kernel
theorem dX12_init_188 : decode cX12_init 188 = .ok (.putfield 85, 3) := by decide +kernel
theorem dX12_init_191 : decode cX12_init 191 = .ok (.aload_n 0, 1) := by decide +kernel
theorem dX12_init_192 : decode cX12_init 192 = .ok (.bipush 40, 2) := by decide +kernel
theorem dX12_init_194 : decode cX12_init 194 = .ok (.newarray .int, 2) := by decide +kernel
theorem dX12_init_196 : decode cX12_init 196 = .ok (.putfield 88, 3) := by decide +kernel
theorem dX12_init_199 : decode cX12_init 199 = .ok (.aload_n 0, 1) := by decide +kernel
theorem dX12_init_200 : decode cX12_init 200 = .ok (.bipush 120, 2) := by decide +kernel
theorem dX12_init_202 : decode cX12_init 202 = .ok (.newarray .int, 2) := by decide +kernel
theorem dX12_init_204 : decode cX12_init 204 = .ok (.putfield 91, 3) := by decide +kernel
theorem dX12_init_207 : decode cX12_init 207 = .ok (.aload_n 0, 1) := by decide +kernel
theorem dX12_init_208 : decode cX12_init 208 = .ok (.bipush 99, 2) := by decide +kernel
theorem dX12_init_210 : decode cX12_init 210 = .ok (.putfield 94, 3) := by decide +kernel
theorem dX12_init_213 : decode cX12_init 213 = .ok (.aload_n 0, 1) := by decide +kernel
theorem dX12_init_214 : decode cX12_init 214 = .ok (.bipush 60, 2) := by decide +kernel
theorem dX12_init_216 : decode cX12_init 216 = .ok (.newarray .int, 2) := by decide +kernel
theorem dX12_init_218 : decode cX12_init 218 = .ok (.putfield 98, 3) := by decide +kernel
theorem dX12_init_221 : decode cX12_init 221 = .ok (.aload_n 0, 1) := by decide +kernel
theorem dX12_init_222 : decode cX12_init 222 = .ok (.bipush 100, 2) := by decide +kernel
theorem dX12_init_224 : decode cX12_init 224 = .ok (.newarray .byte, 2) := by decide +kernel
theorem dX12_init_226 : decode cX12_init 226 = .ok (.putfield 101, 3) := by decide +kernel
theorem dX12_init_229 : decode cX12_init 229 = .ok (.aload_n 0, 1) := by decide +kernel
theorem dX12_init_230 : decode cX12_init 230 = .ok (.bipush 16, 2) := by decide +kernel
theorem dX12_init_232 : decode cX12_init 232 = .ok (.newarray .int, 2) := by decide +kernel
theorem dX12_init_234 : decode cX12_init 234 = .ok (.putfield 104, 3) := by decide +kernel
theorem dX12_init_237 : decode cX12_init 237 = .ok (.aload_n 0, 1) := by decide +kernel
theorem dX12_init_238 : decode cX12_init 238 = .ok (.sipush 199, 3) := by decide +kernel
theorem dX12_init_241 : decode cX12_init 241 = .ok (.newarray .int, 2) := by decide +kernel
theorem dX12_init_243 : decode cX12_init 243 = .ok (.putfield 107, 3) := by decide +kernel
theorem dX12_init_246 : decode cX12_init 246 = .ok (.aload_n 0, 1) := by decide +kernel
theorem dX12_init_247 : decode cX12_init 247 = .ok (.sipush 199, 3) := by decide +kernel
theorem dX12_init_250 : decode cX12_init 250 = .ok (.newarray .int, 2) := by decide +kernel
theorem dX12_init_252 : decode cX12_init 252 = .ok (.putfield 110, 3) := by decide +kernel
theorem dX12_init_255 : decode cX12_init 255 = .ok (.aload_n 0, 1) := by decide +kernel
theorem dX12_init_256 : decode cX12_init 256 = .ok (.iconst (-1), 1) := by decide +kernel
theorem dX12_init_257 : decode cX12_init 257 = .ok (.putfield 113, 3) := by decide +kernel
theorem dX12_init_260 : decode cX12_init 260 = .ok (.aload_n 0, 1) := by decide +kernel
theorem dX12_init_261 : decode cX12_init 261 = .ok (.bipush 8, 2) := by decide +kernel
theorem dX12_init_263 : decode cX12_init 263 = .ok (.newarray .int, 2) := by decide +kernel
theorem dX12_init_265 : decode cX12_init 265 = .ok (.putfield 116, 3) := by decide +kernel
theorem dX12_init_268 : decode cX12_init 268 = .ok (.aload_n 0, 1) := by decide +kernel
theorem dX12_init_269 : decode cX12_init 269 = .ok (.ldc 119, 2) := by decide +kernel
theorem dX12_init_271 : decode cX12_init 271 = .ok (.newarray .int, 2) := by decide +kernel
theorem dX12_init_273 : decode cX12_init 273 = .ok (.putfield 120, 3) := by decide +kernel
theorem dX12_init_276 : decode cX12_init 276 = .ok (.aload_n 0, 1) := by decide +kernel
theorem dX12_init_277 : decode cX12_init 277 = .ok (.iconst 5, 1) := by decide +kernel
theorem dX12_init_278 : decode cX12_init 278 = .ok (.newarray .int, 2) := by decide +kernel
theorem dX12_init_280 : decode cX12_init 280 = .ok (.putfield 123, 3) := by decide +kernel
theorem dX12_init_283 : decode cX12_init 283 = .ok (.aload_n 0, 1) := by decide +kernel
theorem dX12_init_284 : decode cX12_init 284 = .ok (.iconst 3, 1) := by decide +kernel
theorem dX12_init_285 : decode cX12_init 285 = .ok (.newarray .int, 2) := by decide +kernel
theorem dX12_init_287 : decode cX12_init 287 = .ok (.putfield 126, 3) := by decide +kernel
theorem dX12_init_290 : decode cX12_init 290 = .ok (.aload_n 0, 1) := by decide +kernel
theorem dX12_init_291 : decode cX12_init 291 = .ok (.bipush 8, 2) := by decide +kernel
theorem dX12_init_293 : decode cX12_init 293 = .ok (.newarray .int, 2) := by decide +kernel
theorem dX12_init_295 : decode cX12_init 295 = .ok (.putfield 129, 3) := by decide +kernel
theorem dX12_init_298 : decode cX12_init 298 = .ok (.aload_n 0, 1) := by decide +kernel
theorem dX12_init_299 : decode cX12_init 299 = .ok (.bipush 8, 2) := by decide +kernel
theorem dX12_init_301 : decode cX12_init 301 = .ok (.newarray .int, 2) := by decide +kernel
theorem dX12_init_303 : decode cX12_init 303 = .ok (.putfield 132, 3) := by decide +kernel
theorem dX12_init_306 : decode cX12_init 306 = .ok (.iconst 0, 1) := by decide +kernel
theorem dX12_init_307 : decode cX12_init 307 = .ok (.istore_n 1, 1) := by decide +kernel
theorem dX12_init_308 : decode cX12_init 308 = .ok (.iload_n 1, 1) := by decide +kernel
theorem dX12_init_309 : decode cX12_init 309 = .ok (.ldc 71, 2) := by decide +kernel
theorem dX12_init_311 : decode cX12_init 311 = .ok (.invokevirtual 73, 3) := by decide +kernel
theorem dX12_init_314 : decode cX12_init 314 = .ok (.if_icmp .ge 22, 3) := by decide +kernel
theorem dX12_init_317 : decode cX12_init 317 = .ok (.aload_n 0, 1) := by decide +kernel
theorem dX12_init_318 : decode cX12_init 318 = .ok (.getfield 79, 3) := by decide +kernel
theorem dX12_init_321 : decode cX12_init 321 = .ok (.iload_n 1, 1) := by decide +kernel
theorem dX12_init_322 : decode cX12_init 322 = .ok (.ldc 71, 2) := by decide +kernel
theorem dX12_init_324 : decode cX12_init 324 = .ok (.iload_n 1, 1) := by decide +kernel
theorem dX12_init_325 : decode cX12_init 325 = .ok (.invokevirtual 135, 3) := by decide +kernel
theorem dX12_init_328 : decode cX12_init 328 = .ok (.i2b, 1) := by decide +kernel
theorem dX12_init_329 : decode cX12_init 329 = .ok (.bastore, 1) := by decide +kernel
theorem dX12_init_330 : decode cX12_init 330 = .ok (.iinc 1 1, 3) := by decide +kernel
theorem dX12_init_333 : decode cX12_init 333 = .ok (.goto (-25), 3) := by decide +kernel
theorem dX12_init_336 : decode cX12_init 336 = .ok (.return_, 1) := by decide +kernel
theorem dX12_thrown_0 : decode cX12_thrown 0 = .ok (.aload_n 0, 1) := by decide +kernel
theorem dX12_thrown_1 : decode cX12_thrown 1 = .ok (.getfield 139, 3) := by decide +kernel
theorem dX12_thrown_4 : decode cX12_thrown 4 = .ok (.ireturn, 1) := by decide +kernel
theorem dX12_in_0 : decode cX12_in 0 = .ok (.iload_n 0, 1) := by decide +kernel
theorem dX12_in_1 : decode cX12_in 1 = .ok (.iload_n 1, 1) := by decide +kernel
theorem dX12_in_2 : decode cX12_in 2 = .ok (.if_icmp .lt 12, 3) := by decide +kernel
theorem dX12_in_5 : decode cX12_in 5 = .ok (.iload_n 0, 1) := by decide +kernel
theorem dX12_in_6 : decode cX12_in 6 = .ok (.iload_n 2, 1) := by decide +kernel
theorem dX12_in_7 : decode cX12_in 7 = .ok (.if_icmp .gt 7, 3) := by decide +kernel
theorem dX12_in_10 : decode cX12_in 10 = .ok (.iconst 1, 1) := by decide +kernel
theorem dX12_in_11 : decode cX12_in 11 = .ok (.goto 4, 3) := by decide +kernel
theorem dX12_in_14 : decode cX12_in 14 = .ok (.iconst 0, 1) := by decide +kernel
theorem dX12_in_15 : decode cX12_in 15 = .ok (.ireturn, 1) := by decide +kernel
theorem dX12_lost_0 : decode cX12_lost 0 = .ok (.aload_n 0, 1) := by decide +kernel
theorem dX12_lost_1 : decode cX12_lost 1 = .ok (.iconst 1, 1) := by decide +kernel
theorem dX12_lost_2 : decode cX12_lost 2 = .ok (.putfield 139, 3) := by decide +kernel
theorem dX12_lost_5 : decode cX12_lost 5 = .ok (.iconst 0, 1) := by decide +kernel
theorem dX12_lost_6 : decode cX12_lost 6 = .ok (.ireturn, 1) := by decide +kernel
theorem dX12_now_0 : decode cX12_now 0 = .ok (.aload_n 0, 1) := by decide +kernel
theorem dX12_now_1 : decode cX12_now 1 = .ok (.getfield 107, 3) := by decide +kernel
theorem dX12_now_4 : decode cX12_now 4 = .ok (.iconst 0, 1) := by decide +kernel
theorem dX12_now_5 : decode cX12_now 5 = .ok (.iaload, 1) := by decide +kernel
theorem dX12_now_6 : decode cX12_now 6 = .ok (.ireturn, 1) := by decide +kernel
theorem dX12_isHand_0 : decode cX12_isHand 0 = .ok (.iload_n 1, 1) := by decide +kernel
theorem dX12_isHand_1 : decode cX12_isHand 1 = .ok (.iconst 0, 1) := by decide +kernel
theorem dX12_isHand_2 : decode cX12_isHand 2 = .ok (.aload_n 0, 1) := by decide +kernel
theorem dX12_isHand_3 : decode cX12_isHand 3 = .ok (.getfield 142, 3) := by decide +kernel
theorem dX12_isHand_6 : decode cX12_isHand 6 = .ok (.iconst 1, 1) := by decide +kernel
theorem dX12_isHand_7 : decode cX12_isHand 7 = .ok (.isub, 1) := by decide +kernel
theorem dX12_isHand_8 : decode cX12_isHand 8 = .ok (.invokestatic 145, 3) := by decide +kernel
theorem dX12_isHand_11 : decode cX12_isHand 11 = .ok (.ireturn, 1) := by decide +kernel
theorem dX12_isPiece_0 : decode cX12_isPiece 0 = .ok (.iload_n 1, 1) := by decide +kernel
theorem dX12_isPiece_1 : decode cX12_isPiece 1 = .ok (.iconst 0, 1) := by decide +kernel
theorem dX12_isPiece_2 : decode cX12_isPiece 2 = .ok (.aload_n 0, 1) := by decide +kernel
theorem dX12_isPiece_3 : decode cX12_isPiece 3 = .ok (.getfield 149, 3) := by decide +kernel
theorem dX12_isPiece_6 : decode cX12_isPiece 6 = .ok (.iconst 1, 1) := by decide +kernel
theorem dX12_isPiece_7 : decode cX12_isPiece 7 = .ok (.isub, 1) := by decide +kernel
theorem dX12_isPiece_8 : decode cX12_isPiece 8 = .ok (.invokestatic 145, 3) := by decide +kernel
theorem dX12_isPiece_11 : decode cX12_isPiece 11 = .ok (.ireturn, 1) := by decide +kernel
theorem dX12_get_0 : decode cX12_get 0 = .ok (.aload_n 0, 1) := by decide +kernel
theorem dX12_get_1 : decode cX12_get 1 = .ok (.getfield 107, 3) := by decide +kernel
theorem dX12_get_4 : decode cX12_get 4 = .ok (.iconst 1, 1) := by decide +kernel
theorem dX12_get_5 : decode cX12_get 5 = .ok (.bipush 6, 2) := by decide +kernel
theorem dX12_get_7 : decode cX12_get 7 = .ok (.iload_n 1, 1) := by decide +kernel
theorem dX12_get_8 : decode cX12_get 8 = .ok (.imul, 1) := by decide +kernel
theorem dX12_get_9 : decode cX12_get 9 = .ok (.iadd, 1) := by decide +kernel
theorem dX12_get_10 : decode cX12_get 10 = .ok (.iload_n 2, 1) := by decide +kernel
theorem dX12_get_11 : decode cX12_get 11 = .ok (.iadd, 1) := by decide +kernel
theorem dX12_get_12 : decode cX12_get 12 = .ok (.iaload, 1) := by decide +kernel
theorem dX12_get_13 : decode cX12_get 13 = .ok (.ireturn, 1) := by decide +kernel
theorem dX12_put_0 : decode cX12_put 0 = .ok (.aload_n 0, 1) := by decide +kernel
theorem dX12_put_1 : decode cX12_put 1 = .ok (.getfield 107, 3) := by decide +kernel
theorem dX12_put_4 : decode cX12_put 4 = .ok (.iconst 1, 1) := by decide +kernel
theorem dX12_put_5 : decode cX12_put 5 = .ok (.bipush 6, 2) := by decide +kernel
theorem dX12_put_7 : decode cX12_put 7 = .ok (.iload_n 1, 1) := by decide +kernel
theorem dX12_put_8 : decode cX12_put 8 = .ok (.imul, 1) := by decide +kernel
theorem dX12_put_9 : decode cX12_put 9 = .ok (.iadd, 1) := by decide +kernel
theorem dX12_put_10 : decode cX12_put 10 = .ok (.iload_n 2, 1) := by decide +kernel
theorem dX12_put_11 : decode cX12_put 11 = .ok (.iadd, 1) := by decide +kernel
theorem dX12_put_12 : decode cX12_put 12 = .ok (.iload_n 3, 1) := by decide +kernel
theorem dX12_put_13 : decode cX12_put 13 = .ok (.iastore, 1) := by decide +kernel
theorem dX12_put_14 : decode cX12_put 14 = .ok (.return_, 1) := by decide +kernel
theorem dX12_piece_0 : decode cX12_piece 0 = .ok (.aload_n 0, 1) := by decide +kernel
theorem dX12_piece_1 : decode cX12_piece 1 = .ok (.getfield 107, 3) := by decide +kernel
theorem dX12_piece_4 : decode cX12_piece 4 = .ok (.bipush 49, 2) := by decide +kernel
theorem dX12_piece_6 : decode cX12_piece 6 = .ok (.iconst 5, 1) := by decide +kernel
theorem dX12_piece_7 : decode cX12_piece 7 = .ok (.iload_n 1, 1) := by decide +kernel
theorem dX12_piece_8 : decode cX12_piece 8 = .ok (.imul, 1) := by decide +kernel
theorem dX12_piece_9 : decode cX12_piece 9 = .ok (.iadd, 1) := by decide +kernel
theorem dX12_piece_10 : decode cX12_piece 10 = .ok (.iload_n 2, 1) := by decide +kernel
theorem dX12_piece_11 : decode cX12_piece 11 = .ok (.iadd, 1) := by decide +kernel
theorem dX12_piece_12 : decode cX12_piece 12 = .ok (.iaload, 1) := by decide +kernel
theorem dX12_piece_13 : decode cX12_piece 13 = .ok (.ireturn, 1) := by decide +kernel
theorem dX12_piece__0 : decode cX12_piece_ 0 = .ok (.aload_n 0, 1) := by decide +kernel
theorem dX12_piece__1 : decode cX12_piece_ 1 = .ok (.getfield 107, 3) := by decide +kernel
theorem dX12_piece__4 : decode cX12_piece_ 4 = .ok (.bipush 49, 2) := by decide +kernel
theorem dX12_piece__6 : decode cX12_piece_ 6 = .ok (.iconst 5, 1) := by decide +kernel
theorem dX12_piece__7 : decode cX12_piece_ 7 = .ok (.iload_n 1, 1) := by decide +kernel
theorem dX12_piece__8 : decode cX12_piece_ 8 = .ok (.imul, 1) := by decide +kernel
theorem dX12_piece__9 : decode cX12_piece_ 9 = .ok (.iadd, 1) := by decide +kernel
theorem dX12_piece__10 : decode cX12_piece_ 10 = .ok (.iload_n 2, 1) := by decide +kernel
theorem dX12_piece__11 : decode cX12_piece_ 11 = .ok (.iadd, 1) := by decide +kernel
theorem dX12_piece__12 : decode cX12_piece_ 12 = .ok (.iload_n 3, 1) := by decide +kernel
theorem dX12_piece__13 : decode cX12_piece_ 13 = .ok (.iastore, 1) := by decide +kernel
theorem dX12_piece__14 : decode cX12_piece_ 14 = .ok (.return_, 1) := by decide +kernel
theorem dX12_post_0 : decode cX12_post 0 = .ok (.aload_n 0, 1) := by decide +kernel
theorem dX12_post_1 : decode cX12_post 1 = .ok (.iconst 0, 1) := by decide +kernel
theorem dX12_post_2 : decode cX12_post 2 = .ok (.putfield 139, 3) := by decide +kernel
theorem dX12_post_5 : decode cX12_post 5 = .ok (.iload_n 1, 1) := by decide +kernel
theorem dX12_post_6 : decode cX12_post 6 = .ok (.iconst 0, 1) := by decide +kernel
theorem dX12_post_7 : decode cX12_post 7 = .ok (.sipush 479, 3) := by decide +kernel
theorem dX12_post_10 : decode cX12_post 10 = .ok (.invokestatic 145, 3) := by decide +kernel
theorem dX12_post_13 : decode cX12_post 13 = .ok (.ifCond .eq 11, 3) := by decide +kernel
theorem dX12_post_16 : decode cX12_post 16 = .ok (.aload_n 0, 1) := by decide +kernel
theorem dX12_post_17 : decode cX12_post 17 = .ok (.getfield 152, 3) := by decide +kernel
theorem dX12_post_20 : decode cX12_post 20 = .ok (.iconst 4, 1) := by decide +kernel
theorem dX12_post_21 : decode cX12_post 21 = .ok (.if_icmp .ne 5, 3) := by decide +kernel
theorem dX12_post_24 : decode cX12_post 24 = .ok (.iconst (-1), 1) := by decide +kernel
theorem dX12_post_25 : decode cX12_post 25 = .ok (.ireturn, 1) := by decide +kernel
theorem dX12_post_26 : decode cX12_post 26 = .ok (.aload_n 0, 1) := by decide +kernel
theorem dX12_post_27 : decode cX12_post 27 = .ok (.getfield 9, 3) := by decide +kernel
theorem dX12_post_30 : decode cX12_post 30 = .ok (.aload_n 0, 1) := by decide +kernel
theorem dX12_post_31 : decode cX12_post 31 = .ok (.getfield 152, 3) := by decide +kernel
theorem dX12_post_34 : decode cX12_post 34 = .ok (.iload_n 1, 1) := by decide +kernel
theorem dX12_post_35 : decode cX12_post 35 = .ok (.iastore, 1) := by decide +kernel
theorem dX12_post_36 : decode cX12_post 36 = .ok (.aload_n 0, 1) := by decide +kernel
theorem dX12_post_37 : decode cX12_post 37 = .ok (.dup, 1) := by decide +kernel
theorem dX12_post_38 : decode cX12_post 38 = .ok (.getfield 152, 3) := by decide +kernel
theorem dX12_post_41 : decode cX12_post 41 = .ok (.iconst 1, 1) := by decide +kernel
theorem dX12_post_42 : decode cX12_post 42 = .ok (.iadd, 1) := by decide +kernel
theorem dX12_post_43 : decode cX12_post 43 = .ok (.putfield 152, 3) := by decide +kernel
theorem dX12_post_46 : decode cX12_post 46 = .ok (.aload_n 0, 1) := by decide +kernel
theorem dX12_post_47 : decode cX12_post 47 = .ok (.getfield 152, 3) := by decide +kernel
theorem dX12_post_50 : decode cX12_post 50 = .ok (.ireturn, 1) := by decide +kernel
theorem dX12_hand_0 : decode cX12_hand 0 = .ok (.aload_n 0, 1) := by decide +kernel
theorem dX12_hand_1 : decode cX12_hand 1 = .ok (.iconst 0, 1) := by decide +kernel
theorem dX12_hand_2 : decode cX12_hand 2 = .ok (.putfield 139, 3) := by decide +kernel
theorem dX12_hand_5 : decode cX12_hand 5 = .ok (.iload_n 1, 1) := by decide +kernel
theorem dX12_hand_6 : decode cX12_hand 6 = .ok (.bipush 10, 2) := by decide +kernel
theorem dX12_hand_8 : decode cX12_hand 8 = .ok (.sipush 200, 3) := by decide +kernel
theorem dX12_hand_11 : decode cX12_hand 11 = .ok (.invokestatic 145, 3) := by decide +kernel
theorem dX12_hand_14 : decode cX12_hand 14 = .ok (.ifCond .eq 43, 3) := by decide +kernel
theorem dX12_hand_17 : decode cX12_hand 17 = .ok (.iload_n 2, 1) := by decide +kernel
theorem dX12_hand_18 : decode cX12_hand 18 = .ok (.iconst 0, 1) := by decide +kernel
theorem dX12_hand_19 : decode cX12_hand 19 = .ok (.sipush 255, 3) := by decide +kernel
theorem dX12_hand_22 : decode cX12_hand 22 = .ok (.invokestatic 145, 3) := by decide +kernel
theorem dX12_hand_25 : decode cX12_hand 25 = .ok (.ifCond .eq 32, 3) := by decide +kernel
theorem dX12_hand_28 : decode cX12_hand 28 = .ok (.iload_n 3, 1) := by decide +kernel
theorem dX12_hand_29 : decode cX12_hand 29 = .ok (.iconst 0, 1) := by decide +kernel
theorem dX12_hand_30 : decode cX12_hand 30 = .ok (.ldc 155, 2) := by decide +kernel
theorem dX12_hand_32 : decode cX12_hand 32 = .ok (.invokestatic 145, 3) := by decide +kernel
theorem dX12_hand_35 : decode cX12_hand 35 = .ok (.ifCond .eq 22, 3) := by decide +kernel
theorem dX12_hand_38 : decode cX12_hand 38 = .ok (.iload 4, 2) := by decide +kernel
theorem dX12_hand_40 : decode cX12_hand 40 = .ok (.iconst 0, 1) := by decide +kernel
theorem dX12_hand_41 : decode cX12_hand 41 = .ok (.iconst 3, 1) := by decide +kernel
theorem dX12_hand_42 : decode cX12_hand 42 = .ok (.invokestatic 145, 3) := by decide +kernel
theorem dX12_hand_45 : decode cX12_hand 45 = .ok (.ifCond .eq 12, 3) := by decide +kernel
theorem dX12_hand_48 : decode cX12_hand 48 = .ok (.aload_n 0, 1) := by decide +kernel
theorem dX12_hand_49 : decode cX12_hand 49 = .ok (.getfield 142, 3) := by decide +kernel
theorem dX12_hand_52 : decode cX12_hand 52 = .ok (.bipush 8, 2) := by decide +kernel
theorem dX12_hand_54 : decode cX12_hand 54 = .ok (.if_icmp .ne 5, 3) := by decide +kernel
theorem dX12_hand_57 : decode cX12_hand 57 = .ok (.iconst (-1), 1) := by decide +kernel
theorem dX12_hand_58 : decode cX12_hand 58 = .ok (.ireturn, 1) := by decide +kernel
theorem dX12_hand_59 : decode cX12_hand 59 = .ok (.aload_n 0, 1) := by decide +kernel
theorem dX12_hand_60 : decode cX12_hand 60 = .ok (.getfield 13, 3) := by decide +kernel
theorem dX12_hand_63 : decode cX12_hand 63 = .ok (.aload_n 0, 1) := by decide +kernel
theorem dX12_hand_64 : decode cX12_hand 64 = .ok (.getfield 142, 3) := by decide +kernel
theorem dX12_hand_67 : decode cX12_hand 67 = .ok (.iload_n 1, 1) := by decide +kernel
theorem dX12_hand_68 : decode cX12_hand 68 = .ok (.iastore, 1) := by decide +kernel
theorem dX12_hand_69 : decode cX12_hand 69 = .ok (.aload_n 0, 1) := by decide +kernel
theorem dX12_hand_70 : decode cX12_hand 70 = .ok (.getfield 16, 3) := by decide +kernel
theorem dX12_hand_73 : decode cX12_hand 73 = .ok (.aload_n 0, 1) := by decide +kernel
theorem dX12_hand_74 : decode cX12_hand 74 = .ok (.getfield 142, 3) := by decide +kernel
theorem dX12_hand_77 : decode cX12_hand 77 = .ok (.iload_n 2, 1) := by decide +kernel
theorem dX12_hand_78 : decode cX12_hand 78 = .ok (.iastore, 1) := by decide +kernel
theorem dX12_hand_79 : decode cX12_hand 79 = .ok (.aload_n 0, 1) := by decide +kernel
theorem dX12_hand_80 : decode cX12_hand 80 = .ok (.getfield 19, 3) := by decide +kernel
theorem dX12_hand_83 : decode cX12_hand 83 = .ok (.aload_n 0, 1) := by decide +kernel
theorem dX12_hand_84 : decode cX12_hand 84 = .ok (.getfield 142, 3) := by decide +kernel
theorem dX12_hand_87 : decode cX12_hand 87 = .ok (.iload 4, 2) := by decide +kernel
theorem dX12_hand_89 : decode cX12_hand 89 = .ok (.iastore, 1) := by decide +kernel
theorem dX12_hand_90 : decode cX12_hand 90 = .ok (.aload_n 0, 1) := by decide +kernel
theorem dX12_hand_91 : decode cX12_hand 91 = .ok (.aload_n 0, 1) := by decide +kernel
theorem dX12_hand_92 : decode cX12_hand 92 = .ok (.getfield 142, 3) := by decide +kernel
theorem dX12_hand_95 : decode cX12_hand 95 = .ok (.iconst 0, 1) := by decide +kernel
theorem dX12_hand_96 : decode cX12_hand 96 = .ok (.iconst (-1), 1) := by decide +kernel
theorem dX12_hand_97 : decode cX12_hand 97 = .ok (.invokevirtual 156, 3) := by decide +kernel
theorem dX12_hand_100 : decode cX12_hand 100 = .ok (.aload_n 0, 1) := by decide +kernel
theorem dX12_hand_101 : decode cX12_hand 101 = .ok (.aload_n 0, 1) := by decide +kernel
theorem dX12_hand_102 : decode cX12_hand 102 = .ok (.getfield 142, 3) := by decide +kernel
theorem dX12_hand_105 : decode cX12_hand 105 = .ok (.iconst 1, 1) := by decide +kernel
theorem dX12_hand_106 : decode cX12_hand 106 = .ok (.iconst (-1), 1) := by decide +kernel
theorem dX12_hand_107 : decode cX12_hand 107 = .ok (.invokevirtual 156, 3) := by decide +kernel
theorem dX12_hand_110 : decode cX12_hand 110 = .ok (.aload_n 0, 1) := by decide +kernel
theorem dX12_hand_111 : decode cX12_hand 111 = .ok (.aload_n 0, 1) := by decide +kernel
theorem dX12_hand_112 : decode cX12_hand 112 = .ok (.getfield 142, 3) := by decide +kernel
theorem dX12_hand_115 : decode cX12_hand 115 = .ok (.iconst 2, 1) := by decide +kernel
theorem dX12_hand_116 : decode cX12_hand 116 = .ok (.iload_n 3, 1) := by decide +kernel
theorem dX12_hand_117 : decode cX12_hand 117 = .ok (.invokevirtual 156, 3) := by decide +kernel
theorem dX12_hand_120 : decode cX12_hand 120 = .ok (.aload_n 0, 1) := by decide +kernel
theorem dX12_hand_121 : decode cX12_hand 121 = .ok (.dup, 1) := by decide +kernel
theorem dX12_hand_122 : decode cX12_hand 122 = .ok (.getfield 142, 3) := by decide +kernel
theorem dX12_hand_125 : decode cX12_hand 125 = .ok (.iconst 1, 1) := by decide +kernel
theorem dX12_hand_126 : decode cX12_hand 126 = .ok (.iadd, 1) := by decide +kernel
theorem dX12_hand_127 : decode cX12_hand 127 = .ok (.putfield 142, 3) := by decide +kernel
theorem dX12_hand_130 : decode cX12_hand 130 = .ok (.aload_n 0, 1) := by decide +kernel
theorem dX12_hand_131 : decode cX12_hand 131 = .ok (.getfield 142, 3) := by decide +kernel
theorem dX12_hand_134 : decode cX12_hand 134 = .ok (.iconst 1, 1) := by decide +kernel
theorem dX12_hand_135 : decode cX12_hand 135 = .ok (.isub, 1) := by decide +kernel
theorem dX12_hand_136 : decode cX12_hand 136 = .ok (.ireturn, 1) := by decide +kernel
theorem dX12_away_0 : decode cX12_away 0 = .ok (.aload_n 0, 1) := by decide +kernel
theorem dX12_away_1 : decode cX12_away 1 = .ok (.iconst 0, 1) := by decide +kernel
theorem dX12_away_2 : decode cX12_away 2 = .ok (.putfield 139, 3) := by decide +kernel
theorem dX12_away_5 : decode cX12_away 5 = .ok (.aload_n 0, 1) := by decide +kernel
theorem dX12_away_6 : decode cX12_away 6 = .ok (.iload_n 1, 1) := by decide +kernel
theorem dX12_away_7 : decode cX12_away 7 = .ok (.invokevirtual 160, 3) := by decide +kernel
theorem dX12_away_10 : decode cX12_away 10 = .ok (.ifCond .eq 32, 3) := by decide +kernel
theorem dX12_away_13 : decode cX12_away 13 = .ok (.iload_n 2, 1) := by decide +kernel
theorem dX12_away_14 : decode cX12_away 14 = .ok (.aload_n 0, 1) := by decide +kernel
theorem dX12_away_15 : decode cX12_away 15 = .ok (.invokevirtual 164, 3) := by decide +kernel
theorem dX12_away_18 : decode cX12_away 18 = .ok (.if_icmp .lt 24, 3) := by decide +kernel
theorem dX12_away_21 : decode cX12_away 21 = .ok (.iload_n 3, 1) := by decide +kernel
theorem dX12_away_22 : decode cX12_away 22 = .ok (.iload_n 2, 1) := by decide +kernel
theorem dX12_away_23 : decode cX12_away 23 = .ok (.if_icmp .le 19, 3) := by decide +kernel
theorem dX12_away_26 : decode cX12_away 26 = .ok (.iload_n 3, 1) := by decide +kernel
theorem dX12_away_27 : decode cX12_away 27 = .ok (.sipush 4800, 3) := by decide +kernel
theorem dX12_away_30 : decode cX12_away 30 = .ok (.if_icmp .gt 12, 3) := by decide +kernel
theorem dX12_away_33 : decode cX12_away 33 = .ok (.aload_n 0, 1) := by decide +kernel
theorem dX12_away_34 : decode cX12_away 34 = .ok (.getfield 167, 3) := by decide +kernel
theorem dX12_away_37 : decode cX12_away 37 = .ok (.bipush 30, 2) := by decide +kernel
theorem dX12_away_39 : decode cX12_away 39 = .ok (.if_icmp .ne 5, 3) := by decide +kernel
theorem dX12_away_42 : decode cX12_away 42 = .ok (.iconst (-1), 1) := by decide +kernel
theorem dX12_away_43 : decode cX12_away 43 = .ok (.ireturn, 1) := by decide +kernel
theorem dX12_away_44 : decode cX12_away 44 = .ok (.aload_n 0, 1) := by decide +kernel
theorem dX12_away_45 : decode cX12_away 45 = .ok (.getfield 22, 3) := by decide +kernel
theorem dX12_away_48 : decode cX12_away 48 = .ok (.aload_n 0, 1) := by decide +kernel
theorem dX12_away_49 : decode cX12_away 49 = .ok (.getfield 167, 3) := by decide +kernel
theorem dX12_away_52 : decode cX12_away 52 = .ok (.iload_n 1, 1) := by decide +kernel
theorem dX12_away_53 : decode cX12_away 53 = .ok (.iastore, 1) := by decide +kernel
theorem dX12_away_54 : decode cX12_away 54 = .ok (.aload_n 0, 1) := by decide +kernel
theorem dX12_away_55 : decode cX12_away 55 = .ok (.getfield 25, 3) := by decide +kernel
theorem dX12_away_58 : decode cX12_away 58 = .ok (.aload_n 0, 1) := by decide +kernel
theorem dX12_away_59 : decode cX12_away 59 = .ok (.getfield 167, 3) := by decide +kernel
theorem dX12_away_62 : decode cX12_away 62 = .ok (.iload_n 2, 1) := by decide +kernel
theorem dX12_away_63 : decode cX12_away 63 = .ok (.iastore, 1) := by decide +kernel
theorem dX12_away_64 : decode cX12_away 64 = .ok (.aload_n 0, 1) := by decide +kernel
theorem dX12_away_65 : decode cX12_away 65 = .ok (.getfield 28, 3) := by decide +kernel
theorem dX12_away_68 : decode cX12_away 68 = .ok (.aload_n 0, 1) := by decide +kernel
theorem dX12_away_69 : decode cX12_away 69 = .ok (.getfield 167, 3) := by decide +kernel
theorem dX12_away_72 : decode cX12_away 72 = .ok (.iload_n 3, 1) := by decide +kernel
theorem dX12_away_73 : decode cX12_away 73 = .ok (.iastore, 1) := by decide +kernel
theorem dX12_away_74 : decode cX12_away 74 = .ok (.aload_n 0, 1) := by decide +kernel
theorem dX12_away_75 : decode cX12_away 75 = .ok (.dup, 1) := by decide +kernel
theorem dX12_away_76 : decode cX12_away 76 = .ok (.getfield 167, 3) := by decide +kernel
theorem dX12_away_79 : decode cX12_away 79 = .ok (.iconst 1, 1) := by decide +kernel
theorem dX12_away_80 : decode cX12_away 80 = .ok (.iadd, 1) := by decide +kernel
theorem dX12_away_81 : decode cX12_away 81 = .ok (.putfield 167, 3) := by decide +kernel
theorem dX12_away_84 : decode cX12_away 84 = .ok (.aload_n 0, 1) := by decide +kernel
theorem dX12_away_85 : decode cX12_away 85 = .ok (.getfield 167, 3) := by decide +kernel
theorem dX12_away_88 : decode cX12_away 88 = .ok (.ireturn, 1) := by decide +kernel
theorem dX12_isAway_0 : decode cX12_isAway 0 = .ok (.iconst 0, 1) := by decide +kernel
theorem dX12_isAway_1 : decode cX12_isAway 1 = .ok (.istore_n 3, 1) := by decide +kernel
theorem dX12_isAway_2 : decode cX12_isAway 2 = .ok (.iload_n 3, 1) := by decide +kernel
theorem dX12_isAway_3 : decode cX12_isAway 3 = .ok (.aload_n 0, 1) := by decide +kernel
theorem dX12_isAway_4 : decode cX12_isAway 4 = .ok (.getfield 167, 3) := by decide +kernel
theorem dX12_isAway_7 : decode cX12_isAway 7 = .ok (.if_icmp .ge 42, 3) := by decide +kernel
theorem dX12_isAway_10 : decode cX12_isAway 10 = .ok (.aload_n 0, 1) := by decide +kernel
theorem dX12_isAway_11 : decode cX12_isAway 11 = .ok (.getfield 22, 3) := by decide +kernel
theorem dX12_isAway_14 : decode cX12_isAway 14 = .ok (.iload_n 3, 1) := by decide +kernel
theorem dX12_isAway_15 : decode cX12_isAway 15 = .ok (.iaload, 1) := by decide +kernel
theorem dX12_isAway_16 : decode cX12_isAway 16 = .ok (.iload_n 1, 1) := by decide +kernel
theorem dX12_isAway_17 : decode cX12_isAway 17 = .ok (.if_icmp .ne 26, 3) := by decide +kernel
theorem dX12_isAway_20 : decode cX12_isAway 20 = .ok (.iload_n 2, 1) := by decide +kernel
theorem dX12_isAway_21 : decode cX12_isAway 21 = .ok (.aload_n 0, 1) := by decide +kernel
theorem dX12_isAway_22 : decode cX12_isAway 22 = .ok (.getfield 25, 3) := by decide +kernel
theorem dX12_isAway_25 : decode cX12_isAway 25 = .ok (.iload_n 3, 1) := by decide +kernel
theorem dX12_isAway_26 : decode cX12_isAway 26 = .ok (.iaload, 1) := by decide +kernel
theorem dX12_isAway_27 : decode cX12_isAway 27 = .ok (.aload_n 0, 1) := by decide +kernel
theorem dX12_isAway_28 : decode cX12_isAway 28 = .ok (.getfield 28, 3) := by decide +kernel
theorem dX12_isAway_31 : decode cX12_isAway 31 = .ok (.iload_n 3, 1) := by decide +kernel
theorem dX12_isAway_32 : decode cX12_isAway 32 = .ok (.iaload, 1) := by decide +kernel
theorem dX12_isAway_33 : decode cX12_isAway 33 = .ok (.iconst 1, 1) := by decide +kernel
theorem dX12_isAway_34 : decode cX12_isAway 34 = .ok (.isub, 1) := by decide +kernel
theorem dX12_isAway_35 : decode cX12_isAway 35 = .ok (.invokestatic 145, 3) := by decide +kernel
theorem dX12_isAway_38 : decode cX12_isAway 38 = .ok (.ifCond .eq 5, 3) := by decide +kernel
theorem dX12_isAway_41 : decode cX12_isAway 41 = .ok (.iconst 1, 1) := by decide +kernel
theorem dX12_isAway_42 : decode cX12_isAway 42 = .ok (.ireturn, 1) := by decide +kernel
theorem dX12_isAway_43 : decode cX12_isAway 43 = .ok (.iinc 3 1, 3) := by decide +kernel
theorem dX12_isAway_46 : decode cX12_isAway 46 = .ok (.goto (-44), 3) := by decide +kernel
theorem dX12_isAway_49 : decode cX12_isAway 49 = .ok (.iconst 0, 1) := by decide +kernel
theorem dX12_isAway_50 : decode cX12_isAway 50 = .ok (.ireturn, 1) := by decide +kernel
theorem dX12_work_0 : decode cX12_work 0 = .ok (.bipush 60, 2) := by decide +kernel
theorem dX12_work_2 : decode cX12_work 2 = .ok (.aload_n 0, 1) := by decide +kernel
theorem dX12_work_3 : decode cX12_work 3 = .ok (.getfield 37, 3) := by decide +kernel
theorem dX12_work_6 : decode cX12_work 6 = .ok (.iload_n 1, 1) := by decide +kernel
theorem dX12_work_7 : decode cX12_work 7 = .ok (.iaload, 1) := by decide +kernel
theorem dX12_work_8 : decode cX12_work 8 = .ok (.imul, 1) := by decide +kernel
theorem dX12_work_9 : decode cX12_work 9 = .ok (.iconst 2, 1) := by decide +kernel
theorem dX12_work_10 : decode cX12_work 10 = .ok (.aload_n 0, 1) := by decide +kernel
theorem dX12_work_11 : decode cX12_work 11 = .ok (.getfield 37, 3) := by decide +kernel
theorem dX12_work_14 : decode cX12_work 14 = .ok (.iload_n 1, 1) := by decide +kernel
theorem dX12_work_15 : decode cX12_work 15 = .ok (.iaload, 1) := by decide +kernel
theorem dX12_work_16 : decode cX12_work 16 = .ok (.imul, 1) := by decide +kernel
theorem dX12_work_17 : decode cX12_work 17 = .ok (.aload_n 0, 1) := by decide +kernel
theorem dX12_work_18 : decode cX12_work 18 = .ok (.getfield 55, 3) := by decide +kernel
theorem dX12_work_21 : decode cX12_work 21 = .ok (.iload_n 1, 1) := by decide +kernel
theorem dX12_work_22 : decode cX12_work 22 = .ok (.iaload, 1) := by decide +kernel
theorem dX12_work_23 : decode cX12_work 23 = .ok (.imul, 1) := by decide +kernel
theorem dX12_work_24 : decode cX12_work 24 = .ok (.iadd, 1) := by decide +kernel
theorem dX12_work_25 : decode cX12_work 25 = .ok (.ireturn, 1) := by decide +kernel
theorem dX12_piece___0 : decode cX12_piece__ 0 = .ok (.aload_n 0, 1) := by decide +kernel
theorem dX12_piece___1 : decode cX12_piece__ 1 = .ok (.iconst 0, 1) := by decide +kernel
theorem dX12_piece___2 : decode cX12_piece__ 2 = .ok (.putfield 139, 3) := by decide +kernel
theorem dX12_piece___5 : decode cX12_piece__ 5 = .ok (.iload_n 1, 1) := by decide +kernel
theorem dX12_piece___6 : decode cX12_piece__ 6 = .ok (.iconst 0, 1) := by decide +kernel
theorem dX12_piece___7 : decode cX12_piece__ 7 = .ok (.bipush 7, 2) := by decide +kernel
theorem dX12_piece___9 : decode cX12_piece__ 9 = .ok (.invokestatic 145, 3) := by decide +kernel
theorem dX12_piece___12 : decode cX12_piece__ 12 = .ok (.ifCond .eq 104, 3) := by decide +kernel
theorem dX12_piece___15 : decode cX12_piece__ 15 = .ok (.iload_n 2, 1) := by decide +kernel
theorem dX12_piece___16 : decode cX12_piece__ 16 = .ok (.iconst 0, 1) := by decide +kernel
theorem dX12_piece___17 : decode cX12_piece__ 17 = .ok (.bipush 7, 2) := by decide +kernel
theorem dX12_piece___19 : decode cX12_piece__ 19 = .ok (.invokestatic 145, 3) := by decide +kernel
theorem dX12_piece___22 : decode cX12_piece__ 22 = .ok (.ifCond .eq 94, 3) := by decide +kernel
theorem dX12_piece___25 : decode cX12_piece__ 25 = .ok (.iload_n 3, 1) := by decide +kernel
theorem dX12_piece___26 : decode cX12_piece__ 26 = .ok (.iconst 1, 1) := by decide +kernel
theorem dX12_piece___27 : decode cX12_piece__ 27 = .ok (.sipush 400, 3) := by decide +kernel
theorem dX12_piece___30 : decode cX12_piece__ 30 = .ok (.invokestatic 145, 3) := by decide +kernel
theorem dX12_piece___33 : decode cX12_piece__ 33 = .ok (.ifCond .eq 83, 3) := by decide +kernel
theorem dX12_piece___36 : decode cX12_piece__ 36 = .ok (.iload 4, 2) := by decide +kernel
theorem dX12_piece___38 : decode cX12_piece__ 38 = .ok (.iconst 0, 1) := by decide +kernel
theorem dX12_piece___39 : decode cX12_piece__ 39 = .ok (.iconst 3, 1) := by decide +kernel
theorem dX12_piece___40 : decode cX12_piece__ 40 = .ok (.invokestatic 145, 3) := by decide +kernel
theorem dX12_piece___43 : decode cX12_piece__ 43 = .ok (.ifCond .eq 73, 3) := by decide +kernel
theorem dX12_piece___46 : decode cX12_piece__ 46 = .ok (.iload 5, 2) := by decide +kernel
theorem dX12_piece___48 : decode cX12_piece__ 48 = .ok (.iconst 0, 1) := by decide +kernel
theorem dX12_piece___49 : decode cX12_piece__ 49 = .ok (.bipush 9, 2) := by decide +kernel
theorem dX12_piece___51 : decode cX12_piece__ 51 = .ok (.invokestatic 145, 3) := by decide +kernel
theorem dX12_piece___54 : decode cX12_piece__ 54 = .ok (.ifCond .eq 62, 3) := by decide +kernel
theorem dX12_piece___57 : decode cX12_piece__ 57 = .ok (.iload 6, 2) := by decide +kernel
theorem dX12_piece___59 : decode cX12_piece__ 59 = .ok (.aload_n 0, 1) := by decide +kernel
theorem dX12_piece___60 : decode cX12_piece__ 60 = .ok (.invokevirtual 164, 3) := by decide +kernel
theorem dX12_piece___63 : decode cX12_piece__ 63 = .ok (.sipush 4800, 3) := by decide +kernel
theorem dX12_piece___66 : decode cX12_piece__ 66 = .ok (.invokestatic 145, 3) := by decide +kernel
theorem dX12_piece___69 : decode cX12_piece__ 69 = .ok (.ifCond .eq 47, 3) := by decide +kernel
theorem dX12_piece___72 : decode cX12_piece__ 72 = .ok (.iload 7, 2) := by decide +kernel
theorem dX12_piece___74 : decode cX12_piece__ 74 = .ok (.iload 6, 2) := by decide +kernel
theorem dX12_piece___76 : decode cX12_piece__ 76 = .ok (.sipush 4800, 3) := by decide +kernel
theorem dX12_piece___79 : decode cX12_piece__ 79 = .ok (.invokestatic 145, 3) := by decide +kernel
theorem dX12_piece___82 : decode cX12_piece__ 82 = .ok (.ifCond .eq 34, 3) := by decide +kernel
theorem dX12_piece___85 : decode cX12_piece__ 85 = .ok (.iload 8, 2) := by decide +kernel
theorem dX12_piece___87 : decode cX12_piece__ 87 = .ok (.iconst 0, 1) := by decide +kernel
theorem dX12_piece___88 : decode cX12_piece__ 88 = .ok (.ldc 155, 2) := by decide +kernel
theorem dX12_piece___90 : decode cX12_piece__ 90 = .ok (.invokestatic 145, 3) := by decide +kernel
theorem dX12_piece___93 : decode cX12_piece__ 93 = .ok (.ifCond .eq 23, 3) := by decide +kernel
theorem dX12_piece___96 : decode cX12_piece__ 96 = .ok (.iload 9, 2) := by decide +kernel
theorem dX12_piece___98 : decode cX12_piece__ 98 = .ok (.iconst 0, 1) := by decide +kernel
theorem dX12_piece___99 : decode cX12_piece__ 99 = .ok (.bipush 6, 2) := by decide +kernel
theorem dX12_piece___101 : decode cX12_piece__ 101 = .ok (.invokestatic 145, 3) := by decide +kernel
theorem dX12_piece___104 : decode cX12_piece__ 104 = .ok (.ifCond .eq 12, 3) := by decide +kernel
theorem dX12_piece___107 : decode cX12_piece__ 107 = .ok (.aload_n 0, 1) := by decide +kernel
theorem dX12_piece___108 : decode cX12_piece__ 108 = .ok (.getfield 149, 3) := by decide +kernel
theorem dX12_piece___111 : decode cX12_piece__ 111 = .ok (.bipush 30, 2) := by decide +kernel
theorem dX12_piece___113 : decode cX12_piece__ 113 = .ok (.if_icmp .ne 5, 3) := by decide +kernel
theorem dX12_piece___116 : decode cX12_piece__ 116 = .ok (.iconst (-1), 1) := by decide +kernel
theorem dX12_piece___117 : decode cX12_piece__ 117 = .ok (.ireturn, 1) := by decide +kernel
theorem dX12_piece___118 : decode cX12_piece__ 118 = .ok (.aload_n 0, 1) := by decide +kernel
theorem dX12_piece___119 : decode cX12_piece__ 119 = .ok (.getfield 31, 3) := by decide +kernel
theorem dX12_piece___122 : decode cX12_piece__ 122 = .ok (.aload_n 0, 1) := by decide +kernel
theorem dX12_piece___123 : decode cX12_piece__ 123 = .ok (.getfield 149, 3) := by decide +kernel
theorem dX12_piece___126 : decode cX12_piece__ 126 = .ok (.iload_n 1, 1) := by decide +kernel
theorem dX12_piece___127 : decode cX12_piece__ 127 = .ok (.iastore, 1) := by decide +kernel
theorem dX12_piece___128 : decode cX12_piece__ 128 = .ok (.aload_n 0, 1) := by decide +kernel
theorem dX12_piece___129 : decode cX12_piece__ 129 = .ok (.getfield 34, 3) := by decide +kernel
theorem dX12_piece___132 : decode cX12_piece__ 132 = .ok (.aload_n 0, 1) := by decide +kernel
theorem dX12_piece___133 : decode cX12_piece__ 133 = .ok (.getfield 149, 3) := by decide +kernel
theorem dX12_piece___136 : decode cX12_piece__ 136 = .ok (.iload_n 2, 1) := by decide +kernel
theorem dX12_piece___137 : decode cX12_piece__ 137 = .ok (.iastore, 1) := by decide +kernel
theorem dX12_piece___138 : decode cX12_piece__ 138 = .ok (.aload_n 0, 1) := by decide +kernel
theorem dX12_piece___139 : decode cX12_piece__ 139 = .ok (.getfield 37, 3) := by decide +kernel
theorem dX12_piece___142 : decode cX12_piece__ 142 = .ok (.aload_n 0, 1) := by decide +kernel
theorem dX12_piece___143 : decode cX12_piece__ 143 = .ok (.getfield 149, 3) := by decide +kernel
theorem dX12_piece___146 : decode cX12_piece__ 146 = .ok (.iload_n 3, 1) := by decide +kernel
theorem dX12_piece___147 : decode cX12_piece__ 147 = .ok (.iastore, 1) := by decide +kernel
theorem dX12_piece___148 : decode cX12_piece__ 148 = .ok (.aload_n 0, 1) := by decide +kernel
theorem dX12_piece___149 : decode cX12_piece__ 149 = .ok (.getfield 40, 3) := by decide +kernel
theorem dX12_piece___152 : decode cX12_piece__ 152 = .ok (.aload_n 0, 1) := by decide +kernel
theorem dX12_piece___153 : decode cX12_piece__ 153 = .ok (.getfield 149, 3) := by decide +kernel
theorem dX12_piece___156 : decode cX12_piece__ 156 = .ok (.iload 4, 2) := by decide +kernel
theorem dX12_piece___158 : decode cX12_piece__ 158 = .ok (.iastore, 1) := by decide +kernel
theorem dX12_piece___159 : decode cX12_piece__ 159 = .ok (.aload_n 0, 1) := by decide +kernel
theorem dX12_piece___160 : decode cX12_piece__ 160 = .ok (.getfield 43, 3) := by decide +kernel
theorem dX12_piece___163 : decode cX12_piece__ 163 = .ok (.aload_n 0, 1) := by decide +kernel
theorem dX12_piece___164 : decode cX12_piece__ 164 = .ok (.getfield 149, 3) := by decide +kernel
theorem dX12_piece___167 : decode cX12_piece__ 167 = .ok (.iload 5, 2) := by decide +kernel
theorem dX12_piece___169 : decode cX12_piece__ 169 = .ok (.iastore, 1) := by decide +kernel
theorem dX12_piece___170 : decode cX12_piece__ 170 = .ok (.aload_n 0, 1) := by decide +kernel
theorem dX12_piece___171 : decode cX12_piece__ 171 = .ok (.getfield 46, 3) := by decide +kernel
theorem dX12_piece___174 : decode cX12_piece__ 174 = .ok (.aload_n 0, 1) := by decide +kernel
theorem dX12_piece___175 : decode cX12_piece__ 175 = .ok (.getfield 149, 3) := by decide +kernel
theorem dX12_piece___178 : decode cX12_piece__ 178 = .ok (.iload 6, 2) := by decide +kernel
theorem dX12_piece___180 : decode cX12_piece__ 180 = .ok (.iastore, 1) := by decide +kernel
theorem dX12_piece___181 : decode cX12_piece__ 181 = .ok (.aload_n 0, 1) := by decide +kernel
theorem dX12_piece___182 : decode cX12_piece__ 182 = .ok (.getfield 49, 3) := by decide +kernel
theorem dX12_piece___185 : decode cX12_piece__ 185 = .ok (.aload_n 0, 1) := by decide +kernel
theorem dX12_piece___186 : decode cX12_piece__ 186 = .ok (.getfield 149, 3) := by decide +kernel
theorem dX12_piece___189 : decode cX12_piece__ 189 = .ok (.iload 7, 2) := by decide +kernel
theorem dX12_piece___191 : decode cX12_piece__ 191 = .ok (.iastore, 1) := by decide +kernel
theorem dX12_piece___192 : decode cX12_piece__ 192 = .ok (.aload_n 0, 1) := by decide +kernel
theorem dX12_piece___193 : decode cX12_piece__ 193 = .ok (.getfield 52, 3) := by decide +kernel
theorem dX12_piece___196 : decode cX12_piece__ 196 = .ok (.aload_n 0, 1) := by decide +kernel
theorem dX12_piece___197 : decode cX12_piece__ 197 = .ok (.getfield 149, 3) := by decide +kernel
theorem dX12_piece___200 : decode cX12_piece__ 200 = .ok (.iload 8, 2) := by decide +kernel
theorem dX12_piece___202 : decode cX12_piece__ 202 = .ok (.iastore, 1) := by decide +kernel
theorem dX12_piece___203 : decode cX12_piece__ 203 = .ok (.aload_n 0, 1) := by decide +kernel
theorem dX12_piece___204 : decode cX12_piece__ 204 = .ok (.getfield 55, 3) := by decide +kernel
theorem dX12_piece___207 : decode cX12_piece__ 207 = .ok (.aload_n 0, 1) := by decide +kernel
theorem dX12_piece___208 : decode cX12_piece__ 208 = .ok (.getfield 149, 3) := by decide +kernel
theorem dX12_piece___211 : decode cX12_piece__ 211 = .ok (.iload 9, 2) := by decide +kernel
theorem dX12_piece___213 : decode cX12_piece__ 213 = .ok (.iastore, 1) := by decide +kernel
theorem dX12_piece___214 : decode cX12_piece__ 214 = .ok (.aload_n 0, 1) := by decide +kernel
theorem dX12_piece___215 : decode cX12_piece__ 215 = .ok (.aload_n 0, 1) := by decide +kernel
theorem dX12_piece___216 : decode cX12_piece__ 216 = .ok (.getfield 149, 3) := by decide +kernel
theorem dX12_piece___219 : decode cX12_piece__ 219 = .ok (.iconst 0, 1) := by decide +kernel
theorem dX12_piece___220 : decode cX12_piece__ 220 = .ok (.iconst (-1), 1) := by decide +kernel
theorem dX12_piece___221 : decode cX12_piece__ 221 = .ok (.invokevirtual 170, 3) := by decide +kernel
theorem dX12_piece___224 : decode cX12_piece__ 224 = .ok (.aload_n 0, 1) := by decide +kernel
theorem dX12_piece___225 : decode cX12_piece__ 225 = .ok (.aload_n 0, 1) := by decide +kernel
theorem dX12_piece___226 : decode cX12_piece__ 226 = .ok (.getfield 149, 3) := by decide +kernel
theorem dX12_piece___229 : decode cX12_piece__ 229 = .ok (.iconst 1, 1) := by decide +kernel
theorem dX12_piece___230 : decode cX12_piece__ 230 = .ok (.iconst (-1), 1) := by decide +kernel
theorem dX12_piece___231 : decode cX12_piece__ 231 = .ok (.invokevirtual 170, 3) := by decide +kernel
theorem dX12_piece___234 : decode cX12_piece__ 234 = .ok (.aload_n 0, 1) := by decide +kernel
theorem dX12_piece___235 : decode cX12_piece__ 235 = .ok (.aload_n 0, 1) := by decide +kernel
theorem dX12_piece___236 : decode cX12_piece__ 236 = .ok (.getfield 149, 3) := by decide +kernel
theorem dX12_piece___239 : decode cX12_piece__ 239 = .ok (.iconst 2, 1) := by decide +kernel
theorem dX12_piece___240 : decode cX12_piece__ 240 = .ok (.iconst (-1), 1) := by decide +kernel
theorem dX12_piece___241 : decode cX12_piece__ 241 = .ok (.invokevirtual 170, 3) := by decide +kernel
theorem dX12_piece___244 : decode cX12_piece__ 244 = .ok (.aload_n 0, 1) := by decide +kernel
theorem dX12_piece___245 : decode cX12_piece__ 245 = .ok (.aload_n 0, 1) := by decide +kernel
theorem dX12_piece___246 : decode cX12_piece__ 246 = .ok (.getfield 149, 3) := by decide +kernel
theorem dX12_piece___249 : decode cX12_piece__ 249 = .ok (.iconst 3, 1) := by decide +kernel
theorem dX12_piece___250 : decode cX12_piece__ 250 = .ok (.aload_n 0, 1) := by decide +kernel
theorem dX12_piece___251 : decode cX12_piece__ 251 = .ok (.aload_n 0, 1) := by decide +kernel
theorem dX12_piece___252 : decode cX12_piece__ 252 = .ok (.getfield 149, 3) := by decide +kernel
theorem dX12_piece___255 : decode cX12_piece__ 255 = .ok (.invokevirtual 173, 3) := by decide +kernel
theorem dX12_piece___258 : decode cX12_piece__ 258 = .ok (.invokevirtual 170, 3) := by decide +kernel
theorem dX12_piece___261 : decode cX12_piece__ 261 = .ok (.aload_n 0, 1) := by decide +kernel
theorem dX12_piece___262 : decode cX12_piece__ 262 = .ok (.dup, 1) := by decide +kernel
theorem dX12_piece___263 : decode cX12_piece__ 263 = .ok (.getfield 149, 3) := by decide +kernel
theorem dX12_piece___266 : decode cX12_piece__ 266 = .ok (.iconst 1, 1) := by decide +kernel
theorem dX12_piece___267 : decode cX12_piece__ 267 = .ok (.iadd, 1) := by decide +kernel
theorem dX12_piece___268 : decode cX12_piece__ 268 = .ok (.putfield 149, 3) := by decide +kernel
theorem dX12_piece___271 : decode cX12_piece__ 271 = .ok (.aload_n 0, 1) := by decide +kernel
theorem dX12_piece___272 : decode cX12_piece__ 272 = .ok (.getfield 149, 3) := by decide +kernel
theorem dX12_piece___275 : decode cX12_piece__ 275 = .ok (.iconst 1, 1) := by decide +kernel
theorem dX12_piece___276 : decode cX12_piece__ 276 = .ok (.isub, 1) := by decide +kernel
theorem dX12_piece___277 : decode cX12_piece__ 277 = .ok (.ireturn, 1) := by decide +kernel
theorem dX12_sign_0 : decode cX12_sign 0 = .ok (.aload_n 0, 1) := by decide +kernel
theorem dX12_sign_1 : decode cX12_sign 1 = .ok (.iconst 0, 1) := by decide +kernel
theorem dX12_sign_2 : decode cX12_sign 2 = .ok (.putfield 139, 3) := by decide +kernel
theorem dX12_sign_5 : decode cX12_sign 5 = .ok (.aload_n 0, 1) := by decide +kernel
theorem dX12_sign_6 : decode cX12_sign 6 = .ok (.getfield 177, 3) := by decide +kernel
theorem dX12_sign_9 : decode cX12_sign 9 = .ok (.iconst 4, 1) := by decide +kernel
theorem dX12_sign_10 : decode cX12_sign 10 = .ok (.iadd, 1) := by decide +kernel
theorem dX12_sign_11 : decode cX12_sign 11 = .ok (.bipush 100, 2) := by decide +kernel
theorem dX12_sign_13 : decode cX12_sign 13 = .ok (.if_icmp .le 5, 3) := by decide +kernel
theorem dX12_sign_16 : decode cX12_sign 16 = .ok (.iconst (-1), 1) := by decide +kernel
theorem dX12_sign_17 : decode cX12_sign 17 = .ok (.ireturn, 1) := by decide +kernel
theorem dX12_sign_18 : decode cX12_sign 18 = .ok (.iconst 3, 1) := by decide +kernel
theorem dX12_sign_19 : decode cX12_sign 19 = .ok (.istore_n 2, 1) := by decide +kernel
theorem dX12_sign_20 : decode cX12_sign 20 = .ok (.iload_n 2, 1) := by decide +kernel
theorem dX12_sign_21 : decode cX12_sign 21 = .ok (.ifCond .lt 32, 3) := by decide +kernel
theorem dX12_sign_24 : decode cX12_sign 24 = .ok (.aload_n 0, 1) := by decide +kernel
theorem dX12_sign_25 : decode cX12_sign 25 = .ok (.getfield 101, 3) := by decide +kernel
theorem dX12_sign_28 : decode cX12_sign 28 = .ok (.aload_n 0, 1) := by decide +kernel
theorem dX12_sign_29 : decode cX12_sign 29 = .ok (.dup, 1) := by decide +kernel
theorem dX12_sign_30 : decode cX12_sign 30 = .ok (.getfield 177, 3) := by decide +kernel
theorem dX12_sign_33 : decode cX12_sign 33 = .ok (.dup_x1, 1) := by decide +kernel
theorem dX12_sign_34 : decode cX12_sign 34 = .ok (.iconst 1, 1) := by decide +kernel
theorem dX12_sign_35 : decode cX12_sign 35 = .ok (.iadd, 1) := by decide +kernel
theorem dX12_sign_36 : decode cX12_sign 36 = .ok (.putfield 177, 3) := by decide +kernel
theorem dX12_sign_39 : decode cX12_sign 39 = .ok (.iload_n 1, 1) := by decide +kernel
theorem dX12_sign_40 : decode cX12_sign 40 = .ok (.bipush 8, 2) := by decide +kernel
theorem dX12_sign_42 : decode cX12_sign 42 = .ok (.iload_n 2, 1) := by decide +kernel
theorem dX12_sign_43 : decode cX12_sign 43 = .ok (.imul, 1) := by decide +kernel
theorem dX12_sign_44 : decode cX12_sign 44 = .ok (.ishr, 1) := by decide +kernel
theorem dX12_sign_45 : decode cX12_sign 45 = .ok (.i2b, 1) := by decide +kernel
theorem dX12_sign_46 : decode cX12_sign 46 = .ok (.bastore, 1) := by decide +kernel
theorem dX12_sign_47 : decode cX12_sign 47 = .ok (.iinc 2 (-1), 3) := by decide +kernel
theorem dX12_sign_50 : decode cX12_sign 50 = .ok (.goto (-30), 3) := by decide +kernel
theorem dX12_sign_53 : decode cX12_sign 53 = .ok (.aload_n 0, 1) := by decide +kernel
theorem dX12_sign_54 : decode cX12_sign 54 = .ok (.getfield 177, 3) := by decide +kernel
theorem dX12_sign_57 : decode cX12_sign 57 = .ok (.ireturn, 1) := by decide +kernel
theorem dX12_end_0 : decode cX12_end 0 = .ok (.aload_n 0, 1) := by decide +kernel
theorem dX12_end_1 : decode cX12_end 1 = .ok (.iconst 0, 1) := by decide +kernel
theorem dX12_end_2 : decode cX12_end 2 = .ok (.putfield 139, 3) := by decide +kernel
theorem dX12_end_5 : decode cX12_end 5 = .ok (.iload_n 1, 1) := by decide +kernel
theorem dX12_end_6 : decode cX12_end 6 = .ok (.iconst 0, 1) := by decide +kernel
theorem dX12_end_7 : decode cX12_end 7 = .ok (.aload_n 0, 1) := by decide +kernel
theorem dX12_end_8 : decode cX12_end 8 = .ok (.getfield 177, 3) := by decide +kernel
theorem dX12_end_11 : decode cX12_end 11 = .ok (.invokestatic 145, 3) := by decide +kernel
theorem dX12_end_14 : decode cX12_end 14 = .ok (.ifCond .ne 5, 3) := by decide +kernel
theorem dX12_end_17 : decode cX12_end 17 = .ok (.iconst 0, 1) := by decide +kernel
theorem dX12_end_18 : decode cX12_end 18 = .ok (.ireturn, 1) := by decide +kernel
theorem dX12_end_19 : decode cX12_end 19 = .ok (.aload_n 0, 1) := by decide +kernel
theorem dX12_end_20 : decode cX12_end 20 = .ok (.iload_n 1, 1) := by decide +kernel
theorem dX12_end_21 : decode cX12_end 21 = .ok (.putfield 177, 3) := by decide +kernel
theorem dX12_end_24 : decode cX12_end 24 = .ok (.iconst 1, 1) := by decide +kernel
theorem dX12_end_25 : decode cX12_end 25 = .ok (.ireturn, 1) := by decide +kernel
theorem dX12_names_0 : decode cX12_names 0 = .ok (.iload_n 0, 1) := by decide +kernel
theorem dX12_names_1 : decode cX12_names 1 = .ok (.tableswitch 36 0 2 #[27, 30, 33], 27) := by decide +kernel
theorem dX12_names_28 : decode cX12_names 28 = .ok (.ldc 180, 2) := by decide +kernel
theorem dX12_names_30 : decode cX12_names 30 = .ok (.areturn, 1) := by decide +kernel
theorem dX12_names_31 : decode cX12_names 31 = .ok (.ldc 182, 2) := by decide +kernel
theorem dX12_names_33 : decode cX12_names 33 = .ok (.areturn, 1) := by decide +kernel
theorem dX12_names_34 : decode cX12_names 34 = .ok (.ldc 184, 2) := by decide +kernel
theorem dX12_names_36 : decode cX12_names 36 = .ok (.areturn, 1) := by decide +kernel
theorem dX12_names_37 : decode cX12_names 37 = .ok (.ldc 186, 2) := by decide +kernel
theorem dX12_names_39 : decode cX12_names 39 = .ok (.areturn, 1) := by decide +kernel
theorem dX12_open_0 : decode cX12_open 0 = .ok (.aload_n 0, 1) := by decide +kernel
theorem dX12_open_1 : decode cX12_open 1 = .ok (.aload_n 1, 1) := by decide +kernel
theorem dX12_open_2 : decode cX12_open 2 = .ok (.putfield 188, 3) := by decide +kernel
theorem dX12_open_5 : decode cX12_open 5 = .ok (.aload_n 0, 1) := by decide +kernel
theorem dX12_open_6 : decode cX12_open 6 = .ok (.iload_n 2, 1) := by decide +kernel
theorem dX12_open_7 : decode cX12_open 7 = .ok (.putfield 191, 3) := by decide +kernel
theorem dX12_open_10 : decode cX12_open 10 = .ok (.aload_n 0, 1) := by decide +kernel
theorem dX12_open_11 : decode cX12_open 11 = .ok (.iload_n 3, 1) := by decide +kernel
theorem dX12_open_12 : decode cX12_open 12 = .ok (.putfield 194, 3) := by decide +kernel
theorem dX12_open_15 : decode cX12_open 15 = .ok (.aload_n 0, 1) := by decide +kernel
theorem dX12_open_16 : decode cX12_open 16 = .ok (.iconst 0, 1) := by decide +kernel
theorem dX12_open_17 : decode cX12_open 17 = .ok (.putfield 197, 3) := by decide +kernel
theorem dX12_open_20 : decode cX12_open 20 = .ok (.aload_n 0, 1) := by decide +kernel
theorem dX12_open_21 : decode cX12_open 21 = .ok (.iconst (-1), 1) := by decide +kernel
theorem dX12_open_22 : decode cX12_open 22 = .ok (.putfield 200, 3) := by decide +kernel
theorem dX12_open_25 : decode cX12_open 25 = .ok (.aload_n 0, 1) := by decide +kernel
theorem dX12_open_26 : decode cX12_open 26 = .ok (.iload 4, 2) := by decide +kernel
theorem dX12_open_28 : decode cX12_open 28 = .ok (.invokestatic 203, 3) := by decide +kernel
theorem dX12_open_31 : decode cX12_open 31 = .ok (.putfield 207, 3) := by decide +kernel
theorem dX12_open_34 : decode cX12_open 34 = .ok (.return_, 1) := by decide +kernel
theorem dX12_here_0 : decode cX12_here 0 = .ok (.aload_n 0, 1) := by decide +kernel
theorem dX12_here_1 : decode cX12_here 1 = .ok (.getfield 197, 3) := by decide +kernel
theorem dX12_here_4 : decode cX12_here 4 = .ok (.aload_n 0, 1) := by decide +kernel
theorem dX12_here_5 : decode cX12_here 5 = .ok (.getfield 194, 3) := by decide +kernel
theorem dX12_here_8 : decode cX12_here 8 = .ok (.if_icmp .ge 33, 3) := by decide +kernel
theorem dX12_here_11 : decode cX12_here 11 = .ok (.aload_n 0, 1) := by decide +kernel
theorem dX12_here_12 : decode cX12_here 12 = .ok (.getfield 197, 3) := by decide +kernel
theorem dX12_here_15 : decode cX12_here 15 = .ok (.bipush 60, 2) := by decide +kernel
theorem dX12_here_17 : decode cX12_here 17 = .ok (.if_icmp .ge 24, 3) := by decide +kernel
theorem dX12_here_20 : decode cX12_here 20 = .ok (.aload_n 0, 1) := by decide +kernel
theorem dX12_here_21 : decode cX12_here 21 = .ok (.getfield 188, 3) := by decide +kernel
theorem dX12_here_24 : decode cX12_here 24 = .ok (.aload_n 0, 1) := by decide +kernel
theorem dX12_here_25 : decode cX12_here 25 = .ok (.getfield 191, 3) := by decide +kernel
theorem dX12_here_28 : decode cX12_here 28 = .ok (.aload_n 0, 1) := by decide +kernel
theorem dX12_here_29 : decode cX12_here 29 = .ok (.getfield 197, 3) := by decide +kernel
theorem dX12_here_32 : decode cX12_here 32 = .ok (.iadd, 1) := by decide +kernel
theorem dX12_here_33 : decode cX12_here 33 = .ok (.baload, 1) := by decide +kernel
theorem dX12_here_34 : decode cX12_here 34 = .ok (.sipush 255, 3) := by decide +kernel
theorem dX12_here_37 : decode cX12_here 37 = .ok (.iand, 1) := by decide +kernel
theorem dX12_here_38 : decode cX12_here 38 = .ok (.goto 4, 3) := by decide +kernel
theorem dX12_here_41 : decode cX12_here 41 = .ok (.iconst (-1), 1) := by decide +kernel
theorem dX12_here_42 : decode cX12_here 42 = .ok (.ireturn, 1) := by decide +kernel
theorem dX12_comes_0 : decode cX12_comes 0 = .ok (.aload_n 0, 1) := by decide +kernel
theorem dX12_comes_1 : decode cX12_comes 1 = .ok (.invokevirtual 211, 3) := by decide +kernel
theorem dX12_comes_4 : decode cX12_comes 4 = .ok (.iload_n 1, 1) := by decide +kernel
theorem dX12_comes_5 : decode cX12_comes 5 = .ok (.if_icmp .eq 5, 3) := by decide +kernel
theorem dX12_comes_8 : decode cX12_comes 8 = .ok (.iconst 0, 1) := by decide +kernel
theorem dX12_comes_9 : decode cX12_comes 9 = .ok (.ireturn, 1) := by decide +kernel
theorem dX12_comes_10 : decode cX12_comes 10 = .ok (.aload_n 0, 1) := by decide +kernel
theorem dX12_comes_11 : decode cX12_comes 11 = .ok (.dup, 1) := by decide +kernel
theorem dX12_comes_12 : decode cX12_comes 12 = .ok (.getfield 197, 3) := by decide +kernel
theorem dX12_comes_15 : decode cX12_comes 15 = .ok (.iconst 1, 1) := by decide +kernel
theorem dX12_comes_16 : decode cX12_comes 16 = .ok (.iadd, 1) := by decide +kernel
theorem dX12_comes_17 : decode cX12_comes 17 = .ok (.putfield 197, 3) := by decide +kernel
theorem dX12_comes_20 : decode cX12_comes 20 = .ok (.iconst 1, 1) := by decide +kernel
theorem dX12_comes_21 : decode cX12_comes 21 = .ok (.ireturn, 1) := by decide +kernel
theorem dX12_isWrong_0 : decode cX12_isWrong 0 = .ok (.aload_n 0, 1) := by decide +kernel
theorem dX12_isWrong_1 : decode cX12_isWrong 1 = .ok (.getfield 200, 3) := by decide +kernel
theorem dX12_isWrong_4 : decode cX12_isWrong 4 = .ok (.iconst (-1), 1) := by decide +kernel
theorem dX12_isWrong_5 : decode cX12_isWrong 5 = .ok (.if_icmp .ne 11, 3) := by decide +kernel
theorem dX12_isWrong_8 : decode cX12_isWrong 8 = .ok (.aload_n 0, 1) := by decide +kernel
theorem dX12_isWrong_9 : decode cX12_isWrong 9 = .ok (.aload_n 0, 1) := by decide +kernel
theorem dX12_isWrong_10 : decode cX12_isWrong 10 = .ok (.getfield 197, 3) := by decide +kernel
theorem dX12_isWrong_13 : decode cX12_isWrong 13 = .ok (.putfield 200, 3) := by decide +kernel
theorem dX12_isWrong_16 : decode cX12_isWrong 16 = .ok (.iconst 0, 1) := by decide +kernel
theorem dX12_isWrong_17 : decode cX12_isWrong 17 = .ok (.ireturn, 1) := by decide +kernel
theorem dX12_fine_0 : decode cX12_fine 0 = .ok (.aload_n 0, 1) := by decide +kernel
theorem dX12_fine_1 : decode cX12_fine 1 = .ok (.getfield 200, 3) := by decide +kernel
theorem dX12_fine_4 : decode cX12_fine 4 = .ok (.iconst (-1), 1) := by decide +kernel
theorem dX12_fine_5 : decode cX12_fine 5 = .ok (.if_icmp .ne 7, 3) := by decide +kernel
theorem dX12_fine_8 : decode cX12_fine 8 = .ok (.iconst 1, 1) := by decide +kernel
theorem dX12_fine_9 : decode cX12_fine 9 = .ok (.goto 4, 3) := by decide +kernel
theorem dX12_fine_12 : decode cX12_fine 12 = .ok (.iconst 0, 1) := by decide +kernel
theorem dX12_fine_13 : decode cX12_fine 13 = .ok (.ireturn, 1) := by decide +kernel
theorem dX12_isDigit_0 : decode cX12_isDigit 0 = .ok (.aload_n 0, 1) := by decide +kernel
theorem dX12_isDigit_1 : decode cX12_isDigit 1 = .ok (.invokevirtual 211, 3) := by decide +kernel
theorem dX12_isDigit_4 : decode cX12_isDigit 4 = .ok (.bipush 48, 2) := by decide +kernel
theorem dX12_isDigit_6 : decode cX12_isDigit 6 = .ok (.if_icmp .lt 16, 3) := by decide +kernel
theorem dX12_isDigit_9 : decode cX12_isDigit 9 = .ok (.aload_n 0, 1) := by decide +kernel
theorem dX12_isDigit_10 : decode cX12_isDigit 10 = .ok (.invokevirtual 211, 3) := by decide +kernel
theorem dX12_isDigit_13 : decode cX12_isDigit 13 = .ok (.bipush 57, 2) := by decide +kernel
theorem dX12_isDigit_15 : decode cX12_isDigit 15 = .ok (.if_icmp .gt 7, 3) := by decide +kernel
theorem dX12_isDigit_18 : decode cX12_isDigit 18 = .ok (.iconst 1, 1) := by decide +kernel
theorem dX12_isDigit_19 : decode cX12_isDigit 19 = .ok (.goto 4, 3) := by decide +kernel
theorem dX12_isDigit_22 : decode cX12_isDigit 22 = .ok (.iconst 0, 1) := by decide +kernel
theorem dX12_isDigit_23 : decode cX12_isDigit 23 = .ok (.ireturn, 1) := by decide +kernel
theorem dX12_any_0 : decode cX12_any 0 = .ok (.aload_n 0, 1) := by decide +kernel
theorem dX12_any_1 : decode cX12_any 1 = .ok (.iload_n 1, 1) := by decide +kernel
theorem dX12_any_2 : decode cX12_any 2 = .ok (.invokevirtual 214, 3) := by decide +kernel
theorem dX12_any_5 : decode cX12_any 5 = .ok (.istore_n 2, 1) := by decide +kernel
theorem dX12_any_6 : decode cX12_any 6 = .ok (.aload_n 0, 1) := by decide +kernel
theorem dX12_any_7 : decode cX12_any 7 = .ok (.invokevirtual 217, 3) := by decide +kernel
theorem dX12_any_10 : decode cX12_any 10 = .ok (.ifCond .eq 47, 3) := by decide +kernel
theorem dX12_any_13 : decode cX12_any 13 = .ok (.aload_n 0, 1) := by decide +kernel
theorem dX12_any_14 : decode cX12_any 14 = .ok (.bipush 124, 2) := by decide +kernel
theorem dX12_any_16 : decode cX12_any 16 = .ok (.invokevirtual 221, 3) := by decide +kernel
theorem dX12_any_19 : decode cX12_any 19 = .ok (.ifCond .eq 38, 3) := by decide +kernel
theorem dX12_any_22 : decode cX12_any 22 = .ok (.aload_n 0, 1) := by decide +kernel
theorem dX12_any_23 : decode cX12_any 23 = .ok (.iload_n 1, 1) := by decide +kernel
theorem dX12_any_24 : decode cX12_any 24 = .ok (.invokevirtual 214, 3) := by decide +kernel
theorem dX12_any_27 : decode cX12_any 27 = .ok (.ifCond .eq 7, 3) := by decide +kernel
theorem dX12_any_30 : decode cX12_any 30 = .ok (.iconst 1, 1) := by decide +kernel
theorem dX12_any_31 : decode cX12_any 31 = .ok (.goto 4, 3) := by decide +kernel
theorem dX12_any_34 : decode cX12_any 34 = .ok (.iconst 0, 1) := by decide +kernel
theorem dX12_any_35 : decode cX12_any 35 = .ok (.iload_n 2, 1) := by decide +kernel
theorem dX12_any_36 : decode cX12_any 36 = .ok (.ifCond .eq 7, 3) := by decide +kernel
theorem dX12_any_39 : decode cX12_any 39 = .ok (.iconst 1, 1) := by decide +kernel
theorem dX12_any_40 : decode cX12_any 40 = .ok (.goto 4, 3) := by decide +kernel
theorem dX12_any_43 : decode cX12_any 43 = .ok (.iconst 0, 1) := by decide +kernel
theorem dX12_any_44 : decode cX12_any 44 = .ok (.ior, 1) := by decide +kernel
theorem dX12_any_45 : decode cX12_any 45 = .ok (.ifCond .eq 7, 3) := by decide +kernel
theorem dX12_any_48 : decode cX12_any 48 = .ok (.iconst 1, 1) := by decide +kernel
theorem dX12_any_49 : decode cX12_any 49 = .ok (.goto 4, 3) := by decide +kernel
theorem dX12_any_52 : decode cX12_any 52 = .ok (.iconst 0, 1) := by decide +kernel
theorem dX12_any_53 : decode cX12_any 53 = .ok (.istore_n 2, 1) := by decide +kernel
theorem dX12_any_54 : decode cX12_any 54 = .ok (.goto (-48), 3) := by decide +kernel
theorem dX12_any_57 : decode cX12_any 57 = .ok (.iload_n 2, 1) := by decide +kernel
theorem dX12_any_58 : decode cX12_any 58 = .ok (.ireturn, 1) := by decide +kernel
theorem dX12_both_0 : decode cX12_both 0 = .ok (.aload_n 0, 1) := by decide +kernel
theorem dX12_both_1 : decode cX12_both 1 = .ok (.iload_n 1, 1) := by decide +kernel
theorem dX12_both_2 : decode cX12_both 2 = .ok (.invokevirtual 224, 3) := by decide +kernel
theorem dX12_both_5 : decode cX12_both 5 = .ok (.istore_n 2, 1) := by decide +kernel
theorem dX12_both_6 : decode cX12_both 6 = .ok (.aload_n 0, 1) := by decide +kernel
theorem dX12_both_7 : decode cX12_both 7 = .ok (.invokevirtual 217, 3) := by decide +kernel
theorem dX12_both_10 : decode cX12_both 10 = .ok (.ifCond .eq 47, 3) := by decide +kernel
theorem dX12_both_13 : decode cX12_both 13 = .ok (.aload_n 0, 1) := by decide +kernel
theorem dX12_both_14 : decode cX12_both 14 = .ok (.bipush 38, 2) := by decide +kernel
theorem dX12_both_16 : decode cX12_both 16 = .ok (.invokevirtual 221, 3) := by decide +kernel
theorem dX12_both_19 : decode cX12_both 19 = .ok (.ifCond .eq 38, 3) := by decide +kernel
theorem dX12_both_22 : decode cX12_both 22 = .ok (.aload_n 0, 1) := by decide +kernel
theorem dX12_both_23 : decode cX12_both 23 = .ok (.iload_n 1, 1) := by decide +kernel
theorem dX12_both_24 : decode cX12_both 24 = .ok (.invokevirtual 224, 3) := by decide +kernel
theorem dX12_both_27 : decode cX12_both 27 = .ok (.ifCond .eq 7, 3) := by decide +kernel
theorem dX12_both_30 : decode cX12_both 30 = .ok (.iconst 1, 1) := by decide +kernel
theorem dX12_both_31 : decode cX12_both 31 = .ok (.goto 4, 3) := by decide +kernel
theorem dX12_both_34 : decode cX12_both 34 = .ok (.iconst 0, 1) := by decide +kernel
theorem dX12_both_35 : decode cX12_both 35 = .ok (.iload_n 2, 1) := by decide +kernel
theorem dX12_both_36 : decode cX12_both 36 = .ok (.ifCond .eq 7, 3) := by decide +kernel
theorem dX12_both_39 : decode cX12_both 39 = .ok (.iconst 1, 1) := by decide +kernel
theorem dX12_both_40 : decode cX12_both 40 = .ok (.goto 4, 3) := by decide +kernel
theorem dX12_both_43 : decode cX12_both 43 = .ok (.iconst 0, 1) := by decide +kernel
theorem dX12_both_44 : decode cX12_both 44 = .ok (.iand, 1) := by decide +kernel
theorem dX12_both_45 : decode cX12_both 45 = .ok (.ifCond .eq 7, 3) := by decide +kernel
theorem dX12_both_48 : decode cX12_both 48 = .ok (.iconst 1, 1) := by decide +kernel
theorem dX12_both_49 : decode cX12_both 49 = .ok (.goto 4, 3) := by decide +kernel
theorem dX12_both_52 : decode cX12_both 52 = .ok (.iconst 0, 1) := by decide +kernel
theorem dX12_both_53 : decode cX12_both 53 = .ok (.istore_n 2, 1) := by decide +kernel
theorem dX12_both_54 : decode cX12_both 54 = .ok (.goto (-48), 3) := by decide +kernel
theorem dX12_both_57 : decode cX12_both 57 = .ok (.iload_n 2, 1) := by decide +kernel
theorem dX12_both_58 : decode cX12_both 58 = .ok (.ireturn, 1) := by decide +kernel
theorem dX12_held_0 : decode cX12_held 0 = .ok (.aload_n 0, 1) := by decide +kernel
theorem dX12_held_1 : decode cX12_held 1 = .ok (.iload_n 1, 1) := by decide +kernel
theorem dX12_held_2 : decode cX12_held 2 = .ok (.invokevirtual 227, 3) := by decide +kernel
theorem dX12_held_5 : decode cX12_held 5 = .ok (.istore_n 2, 1) := by decide +kernel
theorem dX12_held_6 : decode cX12_held 6 = .ok (.aload_n 0, 1) := by decide +kernel
theorem dX12_held_7 : decode cX12_held 7 = .ok (.invokevirtual 217, 3) := by decide +kernel
theorem dX12_held_10 : decode cX12_held 10 = .ok (.ifCond .ne 5, 3) := by decide +kernel
theorem dX12_held_13 : decode cX12_held 13 = .ok (.iconst 0, 1) := by decide +kernel
theorem dX12_held_14 : decode cX12_held 14 = .ok (.ireturn, 1) := by decide +kernel
theorem dX12_held_15 : decode cX12_held 15 = .ok (.aload_n 0, 1) := by decide +kernel
theorem dX12_held_16 : decode cX12_held 16 = .ok (.bipush 60, 2) := by decide +kernel
theorem dX12_held_18 : decode cX12_held 18 = .ok (.invokevirtual 221, 3) := by decide +kernel
theorem dX12_held_21 : decode cX12_held 21 = .ok (.ifCond .eq 18, 3) := by decide +kernel
theorem dX12_held_24 : decode cX12_held 24 = .ok (.iload_n 2, 1) := by decide +kernel
theorem dX12_held_25 : decode cX12_held 25 = .ok (.aload_n 0, 1) := by decide +kernel
theorem dX12_held_26 : decode cX12_held 26 = .ok (.iload_n 1, 1) := by decide +kernel
theorem dX12_held_27 : decode cX12_held 27 = .ok (.invokevirtual 227, 3) := by decide +kernel
theorem dX12_held_30 : decode cX12_held 30 = .ok (.if_icmp .ge 7, 3) := by decide +kernel
theorem dX12_held_33 : decode cX12_held 33 = .ok (.iconst 1, 1) := by decide +kernel
theorem dX12_held_34 : decode cX12_held 34 = .ok (.goto 4, 3) := by decide +kernel
theorem dX12_held_37 : decode cX12_held 37 = .ok (.iconst 0, 1) := by decide +kernel
theorem dX12_held_38 : decode cX12_held 38 = .ok (.ireturn, 1) := by decide +kernel
theorem dX12_held_39 : decode cX12_held 39 = .ok (.aload_n 0, 1) := by decide +kernel
theorem dX12_held_40 : decode cX12_held 40 = .ok (.bipush 62, 2) := by decide +kernel
theorem dX12_held_42 : decode cX12_held 42 = .ok (.invokevirtual 221, 3) := by decide +kernel
theorem dX12_held_45 : decode cX12_held 45 = .ok (.ifCond .eq 18, 3) := by decide +kernel
theorem dX12_held_48 : decode cX12_held 48 = .ok (.iload_n 2, 1) := by decide +kernel
theorem dX12_held_49 : decode cX12_held 49 = .ok (.aload_n 0, 1) := by decide +kernel
theorem dX12_held_50 : decode cX12_held 50 = .ok (.iload_n 1, 1) := by decide +kernel
theorem dX12_held_51 : decode cX12_held 51 = .ok (.invokevirtual 227, 3) := by decide +kernel
theorem dX12_held_54 : decode cX12_held 54 = .ok (.if_icmp .le 7, 3) := by decide +kernel
theorem dX12_held_57 : decode cX12_held 57 = .ok (.iconst 1, 1) := by decide +kernel
theorem dX12_held_58 : decode cX12_held 58 = .ok (.goto 4, 3) := by decide +kernel
theorem dX12_held_61 : decode cX12_held 61 = .ok (.iconst 0, 1) := by decide +kernel
theorem dX12_held_62 : decode cX12_held 62 = .ok (.ireturn, 1) := by decide +kernel
theorem dX12_held_63 : decode cX12_held 63 = .ok (.aload_n 0, 1) := by decide +kernel
theorem dX12_held_64 : decode cX12_held 64 = .ok (.bipush 61, 2) := by decide +kernel
theorem dX12_held_66 : decode cX12_held 66 = .ok (.invokevirtual 221, 3) := by decide +kernel
theorem dX12_held_69 : decode cX12_held 69 = .ok (.ifCond .eq 18, 3) := by decide +kernel
theorem dX12_held_72 : decode cX12_held 72 = .ok (.iload_n 2, 1) := by decide +kernel
theorem dX12_held_73 : decode cX12_held 73 = .ok (.aload_n 0, 1) := by decide +kernel
theorem dX12_held_74 : decode cX12_held 74 = .ok (.iload_n 1, 1) := by decide +kernel
theorem dX12_held_75 : decode cX12_held 75 = .ok (.invokevirtual 227, 3) := by decide +kernel
theorem dX12_held_78 : decode cX12_held 78 = .ok (.if_icmp .ne 7, 3) := by decide +kernel
theorem dX12_held_81 : decode cX12_held 81 = .ok (.iconst 1, 1) := by decide +kernel
theorem dX12_held_82 : decode cX12_held 82 = .ok (.goto 4, 3) := by decide +kernel
theorem dX12_held_85 : decode cX12_held 85 = .ok (.iconst 0, 1) := by decide +kernel
theorem dX12_held_86 : decode cX12_held 86 = .ok (.ireturn, 1) := by decide +kernel
theorem dX12_held_87 : decode cX12_held 87 = .ok (.iload_n 2, 1) := by decide +kernel
theorem dX12_held_88 : decode cX12_held 88 = .ok (.ireturn, 1) := by decide +kernel
theorem dX12_sum_0 : decode cX12_sum 0 = .ok (.aload_n 0, 1) := by decide +kernel
theorem dX12_sum_1 : decode cX12_sum 1 = .ok (.iload_n 1, 1) := by decide +kernel
theorem dX12_sum_2 : decode cX12_sum 2 = .ok (.invokevirtual 230, 3) := by decide +kernel
theorem dX12_sum_5 : decode cX12_sum 5 = .ok (.istore_n 2, 1) := by decide +kernel
theorem dX12_sum_6 : decode cX12_sum 6 = .ok (.aload_n 0, 1) := by decide +kernel
theorem dX12_sum_7 : decode cX12_sum 7 = .ok (.invokevirtual 217, 3) := by decide +kernel
theorem dX12_sum_10 : decode cX12_sum 10 = .ok (.ifCond .eq 43, 3) := by decide +kernel
theorem dX12_sum_13 : decode cX12_sum 13 = .ok (.aload_n 0, 1) := by decide +kernel
theorem dX12_sum_14 : decode cX12_sum 14 = .ok (.bipush 43, 2) := by decide +kernel
theorem dX12_sum_16 : decode cX12_sum 16 = .ok (.invokevirtual 221, 3) := by decide +kernel
theorem dX12_sum_19 : decode cX12_sum 19 = .ok (.ifCond .eq 14, 3) := by decide +kernel
theorem dX12_sum_22 : decode cX12_sum 22 = .ok (.iload_n 2, 1) := by decide +kernel
theorem dX12_sum_23 : decode cX12_sum 23 = .ok (.aload_n 0, 1) := by decide +kernel
theorem dX12_sum_24 : decode cX12_sum 24 = .ok (.iload_n 1, 1) := by decide +kernel
theorem dX12_sum_25 : decode cX12_sum 25 = .ok (.invokevirtual 230, 3) := by decide +kernel
theorem dX12_sum_28 : decode cX12_sum 28 = .ok (.iadd, 1) := by decide +kernel
theorem dX12_sum_29 : decode cX12_sum 29 = .ok (.istore_n 2, 1) := by decide +kernel
theorem dX12_sum_30 : decode cX12_sum 30 = .ok (.goto (-24), 3) := by decide +kernel
theorem dX12_sum_33 : decode cX12_sum 33 = .ok (.aload_n 0, 1) := by decide +kernel
theorem dX12_sum_34 : decode cX12_sum 34 = .ok (.bipush 45, 2) := by decide +kernel
theorem dX12_sum_36 : decode cX12_sum 36 = .ok (.invokevirtual 221, 3) := by decide +kernel
theorem dX12_sum_39 : decode cX12_sum 39 = .ok (.ifCond .eq 14, 3) := by decide +kernel
theorem dX12_sum_42 : decode cX12_sum 42 = .ok (.iload_n 2, 1) := by decide +kernel
theorem dX12_sum_43 : decode cX12_sum 43 = .ok (.aload_n 0, 1) := by decide +kernel
theorem dX12_sum_44 : decode cX12_sum 44 = .ok (.iload_n 1, 1) := by decide +kernel
theorem dX12_sum_45 : decode cX12_sum 45 = .ok (.invokevirtual 230, 3) := by decide +kernel
theorem dX12_sum_48 : decode cX12_sum 48 = .ok (.isub, 1) := by decide +kernel
theorem dX12_sum_49 : decode cX12_sum 49 = .ok (.istore_n 2, 1) := by decide +kernel
theorem dX12_sum_50 : decode cX12_sum 50 = .ok (.goto (-44), 3) := by decide +kernel
theorem dX12_sum_53 : decode cX12_sum 53 = .ok (.iload_n 2, 1) := by decide +kernel
theorem dX12_sum_54 : decode cX12_sum 54 = .ok (.ireturn, 1) := by decide +kernel
theorem dX12_product_0 : decode cX12_product 0 = .ok (.aload_n 0, 1) := by decide +kernel
theorem dX12_product_1 : decode cX12_product 1 = .ok (.iload_n 1, 1) := by decide +kernel
theorem dX12_product_2 : decode cX12_product 2 = .ok (.invokevirtual 233, 3) := by decide +kernel
theorem dX12_product_5 : decode cX12_product 5 = .ok (.istore_n 2, 1) := by decide +kernel
theorem dX12_product_6 : decode cX12_product 6 = .ok (.aload_n 0, 1) := by decide +kernel
theorem dX12_product_7 : decode cX12_product 7 = .ok (.invokevirtual 217, 3) := by decide +kernel
theorem dX12_product_10 : decode cX12_product 10 = .ok (.ifCond .eq 23, 3) := by decide +kernel
theorem dX12_product_13 : decode cX12_product 13 = .ok (.aload_n 0, 1) := by decide +kernel
theorem dX12_product_14 : decode cX12_product 14 = .ok (.bipush 42, 2) := by decide +kernel
theorem dX12_product_16 : decode cX12_product 16 = .ok (.invokevirtual 221, 3) := by decide +kernel
theorem dX12_product_19 : decode cX12_product 19 = .ok (.ifCond .eq 14, 3) := by decide +kernel
theorem dX12_product_22 : decode cX12_product 22 = .ok (.iload_n 2, 1) := by decide +kernel
theorem dX12_product_23 : decode cX12_product 23 = .ok (.aload_n 0, 1) := by decide +kernel
theorem dX12_product_24 : decode cX12_product 24 = .ok (.iload_n 1, 1) := by decide +kernel
theorem dX12_product_25 : decode cX12_product 25 = .ok (.invokevirtual 233, 3) := by decide +kernel
theorem dX12_product_28 : decode cX12_product 28 = .ok (.imul, 1) := by decide +kernel
theorem dX12_product_29 : decode cX12_product 29 = .ok (.istore_n 2, 1) := by decide +kernel
theorem dX12_product_30 : decode cX12_product 30 = .ok (.goto (-24), 3) := by decide +kernel
theorem dX12_product_33 : decode cX12_product 33 = .ok (.iload_n 2, 1) := by decide +kernel
theorem dX12_product_34 : decode cX12_product 34 = .ok (.ireturn, 1) := by decide +kernel
theorem dX12_thing_0 : decode cX12_thing 0 = .ok (.aload_n 0, 1) := by decide +kernel
