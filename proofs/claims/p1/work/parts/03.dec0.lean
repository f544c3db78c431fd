theorem dX0_init_0 : decode cX0_init 0 = .ok (.aload_n 0, 1) := by decide +kernel
theorem dX0_init_1 : decode cX0_init 1 = .ok (.invokespecial 1, 3) := by decide +kernel
theorem dX0_init_4 : decode cX0_init 4 = .ok (.aload_n 0, 1) := by decide +kernel
theorem dX0_init_5 : decode cX0_init 5 = .ok (.iload_n 1, 1) := by decide +kernel
theorem dX0_init_6 : decode cX0_init 6 = .ok (.putfield 7, 3) := by decide +kernel
theorem dX0_init_9 : decode cX0_init 9 = .ok (.aload_n 0, 1) := by decide +kernel
theorem dX0_init_10 : decode cX0_init 10 = .ok (.iload_n 2, 1) := by decide +kernel
theorem dX0_init_11 : decode cX0_init 11 = .ok (.putfield 13, 3) := by decide +kernel
theorem dX0_init_14 : decode cX0_init 14 = .ok (.aload_n 0, 1) := by decide +kernel
theorem dX0_init_15 : decode cX0_init 15 = .ok (.iload_n 3, 1) := by decide +kernel
theorem dX0_init_16 : decode cX0_init 16 = .ok (.putfield 16, 3) := by decide +kernel
theorem dX0_init_19 : decode cX0_init 19 = .ok (.return_, 1) := by decide +kernel
theorem dX1_init_0 : decode cX1_init 0 = .ok (.aload_n 0, 1) := by decide +kernel
theorem dX1_init_1 : decode cX1_init 1 = .ok (.invokespecial 3, 3) := by decide +kernel
theorem dX1_init_4 : decode cX1_init 4 = .ok (.aload_n 0, 1) := by decide +kernel
theorem dX1_init_5 : decode cX1_init 5 = .ok (.iconst 4, 1) := by decide +kernel
theorem dX1_init_6 : decode cX1_init 6 = .ok (.newarray .int, 2) := by decide +kernel
theorem dX1_init_8 : decode cX1_init 8 = .ok (.putfield 9, 3) := by decide +kernel
theorem dX1_init_11 : decode cX1_init 11 = .ok (.aload_n 0, 1) := by decide +kernel
theorem dX1_init_12 : decode cX1_init 12 = .ok (.iconst 0, 1) := by decide +kernel
theorem dX1_init_13 : decode cX1_init 13 = .ok (.putfield 15, 3) := by decide +kernel
theorem dX1_init_16 : decode cX1_init 16 = .ok (.aload_n 0, 1) := by decide +kernel
theorem dX1_init_17 : decode cX1_init 17 = .ok (.bipush 8, 2) := by decide +kernel
theorem dX1_init_19 : decode cX1_init 19 = .ok (.anewarray 19, 3) := by decide +kernel
theorem dX1_init_22 : decode cX1_init 22 = .ok (.putfield 21, 3) := by decide +kernel
theorem dX1_init_25 : decode cX1_init 25 = .ok (.aload_n 0, 1) := by decide +kernel
theorem dX1_init_26 : decode cX1_init 26 = .ok (.iconst 0, 1) := by decide +kernel
theorem dX1_init_27 : decode cX1_init 27 = .ok (.putfield 25, 3) := by decide +kernel
theorem dX1_init_30 : decode cX1_init 30 = .ok (.aload_n 0, 1) := by decide +kernel
theorem dX1_init_31 : decode cX1_init 31 = .ok (.bipush 30, 2) := by decide +kernel
theorem dX1_init_33 : decode cX1_init 33 = .ok (.anewarray 28, 3) := by decide +kernel
theorem dX1_init_36 : decode cX1_init 36 = .ok (.putfield 30, 3) := by decide +kernel
theorem dX1_init_39 : decode cX1_init 39 = .ok (.aload_n 0, 1) := by decide +kernel
theorem dX1_init_40 : decode cX1_init 40 = .ok (.iconst 0, 1) := by decide +kernel
theorem dX1_init_41 : decode cX1_init 41 = .ok (.putfield 34, 3) := by decide +kernel
theorem dX1_init_44 : decode cX1_init 44 = .ok (.aload_n 0, 1) := by decide +kernel
theorem dX1_init_45 : decode cX1_init 45 = .ok (.bipush 30, 2) := by decide +kernel
theorem dX1_init_47 : decode cX1_init 47 = .ok (.anewarray 37, 3) := by decide +kernel
theorem dX1_init_50 : decode cX1_init 50 = .ok (.putfield 39, 3) := by decide +kernel
theorem dX1_init_53 : decode cX1_init 53 = .ok (.aload_n 0, 1) := by decide +kernel
theorem dX1_init_54 : decode cX1_init 54 = .ok (.iconst 0, 1) := by decide +kernel
theorem dX1_init_55 : decode cX1_init 55 = .ok (.putfield 43, 3) := by decide +kernel
theorem dX1_init_58 : decode cX1_init 58 = .ok (.return_, 1) := by decide +kernel
theorem dX1_hasHand_0 : decode cX1_hasHand 0 = .ok (.iload_n 1, 1) := by decide +kernel
theorem dX1_hasHand_1 : decode cX1_hasHand 1 = .ok (.ifCond .lt 15, 3) := by decide +kernel
theorem dX1_hasHand_4 : decode cX1_hasHand 4 = .ok (.iload_n 1, 1) := by decide +kernel
theorem dX1_hasHand_5 : decode cX1_hasHand 5 = .ok (.aload_n 0, 1) := by decide +kernel
theorem dX1_hasHand_6 : decode cX1_hasHand 6 = .ok (.getfield 25, 3) := by decide +kernel
theorem dX1_hasHand_9 : decode cX1_hasHand 9 = .ok (.if_icmp .ge 7, 3) := by decide +kernel
theorem dX1_hasHand_12 : decode cX1_hasHand 12 = .ok (.iconst 1, 1) := by decide +kernel
theorem dX1_hasHand_13 : decode cX1_hasHand 13 = .ok (.goto 4, 3) := by decide +kernel
theorem dX1_hasHand_16 : decode cX1_hasHand 16 = .ok (.iconst 0, 1) := by decide +kernel
theorem dX1_hasHand_17 : decode cX1_hasHand 17 = .ok (.ireturn, 1) := by decide +kernel
theorem dX1_hasPiece_0 : decode cX1_hasPiece 0 = .ok (.iload_n 1, 1) := by decide +kernel
theorem dX1_hasPiece_1 : decode cX1_hasPiece 1 = .ok (.ifCond .lt 15, 3) := by decide +kernel
theorem dX1_hasPiece_4 : decode cX1_hasPiece 4 = .ok (.iload_n 1, 1) := by decide +kernel
theorem dX1_hasPiece_5 : decode cX1_hasPiece 5 = .ok (.aload_n 0, 1) := by decide +kernel
theorem dX1_hasPiece_6 : decode cX1_hasPiece 6 = .ok (.getfield 34, 3) := by decide +kernel
theorem dX1_hasPiece_9 : decode cX1_hasPiece 9 = .ok (.if_icmp .ge 7, 3) := by decide +kernel
theorem dX1_hasPiece_12 : decode cX1_hasPiece 12 = .ok (.iconst 1, 1) := by decide +kernel
theorem dX1_hasPiece_13 : decode cX1_hasPiece 13 = .ok (.goto 4, 3) := by decide +kernel
theorem dX1_hasPiece_16 : decode cX1_hasPiece 16 = .ok (.iconst 0, 1) := by decide +kernel
theorem dX1_hasPiece_17 : decode cX1_hasPiece 17 = .ok (.ireturn, 1) := by decide +kernel
theorem dX1_addAway_0 : decode cX1_addAway 0 = .ok (.aload_n 0, 1) := by decide +kernel
theorem dX1_addAway_1 : decode cX1_addAway 1 = .ok (.getfield 43, 3) := by decide +kernel
theorem dX1_addAway_4 : decode cX1_addAway 4 = .ok (.istore_n 2, 1) := by decide +kernel
theorem dX1_addAway_5 : decode cX1_addAway 5 = .ok (.iload_n 2, 1) := by decide +kernel
theorem dX1_addAway_6 : decode cX1_addAway 6 = .ok (.ifCond .le 41, 3) := by decide +kernel
theorem dX1_addAway_9 : decode cX1_addAway 9 = .ok (.aload_n 0, 1) := by decide +kernel
theorem dX1_addAway_10 : decode cX1_addAway 10 = .ok (.getfield 39, 3) := by decide +kernel
theorem dX1_addAway_13 : decode cX1_addAway 13 = .ok (.iload_n 2, 1) := by decide +kernel
theorem dX1_addAway_14 : decode cX1_addAway 14 = .ok (.iconst 1, 1) := by decide +kernel
theorem dX1_addAway_15 : decode cX1_addAway 15 = .ok (.isub, 1) := by decide +kernel
theorem dX1_addAway_16 : decode cX1_addAway 16 = .ok (.aaload, 1) := by decide +kernel
theorem dX1_addAway_17 : decode cX1_addAway 17 = .ok (.getfield 46, 3) := by decide +kernel
theorem dX1_addAway_20 : decode cX1_addAway 20 = .ok (.aload_n 1, 1) := by decide +kernel
theorem dX1_addAway_21 : decode cX1_addAway 21 = .ok (.getfield 46, 3) := by decide +kernel
theorem dX1_addAway_24 : decode cX1_addAway 24 = .ok (.if_icmp .le 23, 3) := by decide +kernel
theorem dX1_addAway_27 : decode cX1_addAway 27 = .ok (.aload_n 0, 1) := by decide +kernel
theorem dX1_addAway_28 : decode cX1_addAway 28 = .ok (.getfield 39, 3) := by decide +kernel
theorem dX1_addAway_31 : decode cX1_addAway 31 = .ok (.iload_n 2, 1) := by decide +kernel
theorem dX1_addAway_32 : decode cX1_addAway 32 = .ok (.aload_n 0, 1) := by decide +kernel
theorem dX1_addAway_33 : decode cX1_addAway 33 = .ok (.getfield 39, 3) := by decide +kernel
theorem dX1_addAway_36 : decode cX1_addAway 36 = .ok (.iload_n 2, 1) := by decide +kernel
theorem dX1_addAway_37 : decode cX1_addAway 37 = .ok (.iconst 1, 1) := by decide +kernel
theorem dX1_addAway_38 : decode cX1_addAway 38 = .ok (.isub, 1) := by decide +kernel
theorem dX1_addAway_39 : decode cX1_addAway 39 = .ok (.aaload, 1) := by decide +kernel
theorem dX1_addAway_40 : decode cX1_addAway 40 = .ok (.aastore, 1) := by decide +kernel
theorem dX1_addAway_41 : decode cX1_addAway 41 = .ok (.iinc 2 (-1), 3) := by decide +kernel
theorem dX1_addAway_44 : decode cX1_addAway 44 = .ok (.goto (-39), 3) := by decide +kernel
theorem dX1_addAway_47 : decode cX1_addAway 47 = .ok (.aload_n 0, 1) := by decide +kernel
theorem dX1_addAway_48 : decode cX1_addAway 48 = .ok (.getfield 39, 3) := by decide +kernel
theorem dX1_addAway_51 : decode cX1_addAway 51 = .ok (.iload_n 2, 1) := by decide +kernel
theorem dX1_addAway_52 : decode cX1_addAway 52 = .ok (.aload_n 1, 1) := by decide +kernel
theorem dX1_addAway_53 : decode cX1_addAway 53 = .ok (.aastore, 1) := by decide +kernel
theorem dX1_addAway_54 : decode cX1_addAway 54 = .ok (.aload_n 0, 1) := by decide +kernel
theorem dX1_addAway_55 : decode cX1_addAway 55 = .ok (.dup, 1) := by decide +kernel
theorem dX1_addAway_56 : decode cX1_addAway 56 = .ok (.getfield 43, 3) := by decide +kernel
theorem dX1_addAway_59 : decode cX1_addAway 59 = .ok (.iconst 1, 1) := by decide +kernel
theorem dX1_addAway_60 : decode cX1_addAway 60 = .ok (.iadd, 1) := by decide +kernel
theorem dX1_addAway_61 : decode cX1_addAway 61 = .ok (.putfield 43, 3) := by decide +kernel
theorem dX1_addAway_64 : decode cX1_addAway 64 = .ok (.return_, 1) := by decide +kernel
theorem dX1_awayMask_0 : decode cX1_awayMask 0 = .ok (.iconst 0, 1) := by decide +kernel
theorem dX1_awayMask_1 : decode cX1_awayMask 1 = .ok (.istore_n 2, 1) := by decide +kernel
theorem dX1_awayMask_2 : decode cX1_awayMask 2 = .ok (.iconst 0, 1) := by decide +kernel
theorem dX1_awayMask_3 : decode cX1_awayMask 3 = .ok (.istore_n 3, 1) := by decide +kernel
theorem dX1_awayMask_4 : decode cX1_awayMask 4 = .ok (.iload_n 3, 1) := by decide +kernel
theorem dX1_awayMask_5 : decode cX1_awayMask 5 = .ok (.aload_n 0, 1) := by decide +kernel
theorem dX1_awayMask_6 : decode cX1_awayMask 6 = .ok (.getfield 43, 3) := by decide +kernel
theorem dX1_awayMask_9 : decode cX1_awayMask 9 = .ok (.if_icmp .ge 45, 3) := by decide +kernel
theorem dX1_awayMask_12 : decode cX1_awayMask 12 = .ok (.aload_n 0, 1) := by decide +kernel
theorem dX1_awayMask_13 : decode cX1_awayMask 13 = .ok (.getfield 39, 3) := by decide +kernel
theorem dX1_awayMask_16 : decode cX1_awayMask 16 = .ok (.iload_n 3, 1) := by decide +kernel
theorem dX1_awayMask_17 : decode cX1_awayMask 17 = .ok (.aaload, 1) := by decide +kernel
theorem dX1_awayMask_18 : decode cX1_awayMask 18 = .ok (.astore 4, 2) := by decide +kernel
theorem dX1_awayMask_20 : decode cX1_awayMask 20 = .ok (.aload 4, 2) := by decide +kernel
theorem dX1_awayMask_22 : decode cX1_awayMask 22 = .ok (.getfield 46, 3) := by decide +kernel
theorem dX1_awayMask_25 : decode cX1_awayMask 25 = .ok (.iload_n 1, 1) := by decide +kernel
theorem dX1_awayMask_26 : decode cX1_awayMask 26 = .ok (.if_icmp .gt 22, 3) := by decide +kernel
theorem dX1_awayMask_29 : decode cX1_awayMask 29 = .ok (.iload_n 1, 1) := by decide +kernel
theorem dX1_awayMask_30 : decode cX1_awayMask 30 = .ok (.aload 4, 2) := by decide +kernel
theorem dX1_awayMask_32 : decode cX1_awayMask 32 = .ok (.getfield 49, 3) := by decide +kernel
theorem dX1_awayMask_35 : decode cX1_awayMask 35 = .ok (.if_icmp .ge 13, 3) := by decide +kernel
theorem dX1_awayMask_38 : decode cX1_awayMask 38 = .ok (.iload_n 2, 1) := by decide +kernel
theorem dX1_awayMask_39 : decode cX1_awayMask 39 = .ok (.iconst 1, 1) := by decide +kernel
theorem dX1_awayMask_40 : decode cX1_awayMask 40 = .ok (.aload 4, 2) := by decide +kernel
theorem dX1_awayMask_42 : decode cX1_awayMask 42 = .ok (.getfield 52, 3) := by decide +kernel
theorem dX1_awayMask_45 : decode cX1_awayMask 45 = .ok (.ishl, 1) := by decide +kernel
theorem dX1_awayMask_46 : decode cX1_awayMask 46 = .ok (.ior, 1) := by decide +kernel
theorem dX1_awayMask_47 : decode cX1_awayMask 47 = .ok (.istore_n 2, 1) := by decide +kernel
theorem dX1_awayMask_48 : decode cX1_awayMask 48 = .ok (.iinc 3 1, 3) := by decide +kernel
theorem dX1_awayMask_51 : decode cX1_awayMask 51 = .ok (.goto (-47), 3) := by decide +kernel
theorem dX1_awayMask_54 : decode cX1_awayMask 54 = .ok (.iload_n 2, 1) := by decide +kernel
theorem dX1_awayMask_55 : decode cX1_awayMask 55 = .ok (.ireturn, 1) := by decide +kernel
theorem dX1_changeBehind_0 : decode cX1_changeBehind 0 = .ok (.iload_n 2, 1) := by decide +kernel
theorem dX1_changeBehind_1 : decode cX1_changeBehind 1 = .ok (.istore_n 3, 1) := by decide +kernel
theorem dX1_changeBehind_2 : decode cX1_changeBehind 2 = .ok (.iconst 0, 1) := by decide +kernel
theorem dX1_changeBehind_3 : decode cX1_changeBehind 3 = .ok (.istore 4, 2) := by decide +kernel
theorem dX1_changeBehind_5 : decode cX1_changeBehind 5 = .ok (.iload 4, 2) := by decide +kernel
theorem dX1_changeBehind_7 : decode cX1_changeBehind 7 = .ok (.aload_n 0, 1) := by decide +kernel
theorem dX1_changeBehind_8 : decode cX1_changeBehind 8 = .ok (.getfield 34, 3) := by decide +kernel
theorem dX1_changeBehind_11 : decode cX1_changeBehind 11 = .ok (.if_icmp .ge 25, 3) := by decide +kernel
theorem dX1_changeBehind_14 : decode cX1_changeBehind 14 = .ok (.iload_n 1, 1) := by decide +kernel
theorem dX1_changeBehind_15 : decode cX1_changeBehind 15 = .ok (.aload_n 0, 1) := by decide +kernel
theorem dX1_changeBehind_16 : decode cX1_changeBehind 16 = .ok (.getfield 30, 3) := by decide +kernel
theorem dX1_changeBehind_19 : decode cX1_changeBehind 19 = .ok (.iload 4, 2) := by decide +kernel
theorem dX1_changeBehind_21 : decode cX1_changeBehind 21 = .ok (.aaload, 1) := by decide +kernel
theorem dX1_changeBehind_22 : decode cX1_changeBehind 22 = .ok (.getfield 55, 3) := by decide +kernel
theorem dX1_changeBehind_25 : decode cX1_changeBehind 25 = .ok (.iload_n 3, 1) := by decide +kernel
theorem dX1_changeBehind_26 : decode cX1_changeBehind 26 = .ok (.invokestatic 58, 3) := by decide +kernel
theorem dX1_changeBehind_29 : decode cX1_changeBehind 29 = .ok (.istore_n 3, 1) := by decide +kernel
theorem dX1_changeBehind_30 : decode cX1_changeBehind 30 = .ok (.iinc 4 1, 3) := by decide +kernel
theorem dX1_changeBehind_33 : decode cX1_changeBehind 33 = .ok (.goto (-28), 3) := by decide +kernel
theorem dX1_changeBehind_36 : decode cX1_changeBehind 36 = .ok (.iconst 0, 1) := by decide +kernel
theorem dX1_changeBehind_37 : decode cX1_changeBehind 37 = .ok (.istore 4, 2) := by decide +kernel
theorem dX1_changeBehind_39 : decode cX1_changeBehind 39 = .ok (.iload 4, 2) := by decide +kernel
theorem dX1_changeBehind_41 : decode cX1_changeBehind 41 = .ok (.aload_n 0, 1) := by decide +kernel
theorem dX1_changeBehind_42 : decode cX1_changeBehind 42 = .ok (.getfield 43, 3) := by decide +kernel
theorem dX1_changeBehind_45 : decode cX1_changeBehind 45 = .ok (.if_icmp .ge 41, 3) := by decide +kernel
theorem dX1_changeBehind_48 : decode cX1_changeBehind 48 = .ok (.iload_n 1, 1) := by decide +kernel
theorem dX1_changeBehind_49 : decode cX1_changeBehind 49 = .ok (.aload_n 0, 1) := by decide +kernel
theorem dX1_changeBehind_50 : decode cX1_changeBehind 50 = .ok (.getfield 39, 3) := by decide +kernel
theorem dX1_changeBehind_53 : decode cX1_changeBehind 53 = .ok (.iload 4, 2) := by decide +kernel
theorem dX1_changeBehind_55 : decode cX1_changeBehind 55 = .ok (.aaload, 1) := by decide +kernel
theorem dX1_changeBehind_56 : decode cX1_changeBehind 56 = .ok (.getfield 46, 3) := by decide +kernel
theorem dX1_changeBehind_59 : decode cX1_changeBehind 59 = .ok (.iload_n 3, 1) := by decide +kernel
theorem dX1_changeBehind_60 : decode cX1_changeBehind 60 = .ok (.invokestatic 58, 3) := by decide +kernel
theorem dX1_changeBehind_63 : decode cX1_changeBehind 63 = .ok (.istore_n 3, 1) := by decide +kernel
theorem dX1_changeBehind_64 : decode cX1_changeBehind 64 = .ok (.iload_n 1, 1) := by decide +kernel
theorem dX1_changeBehind_65 : decode cX1_changeBehind 65 = .ok (.aload_n 0, 1) := by decide +kernel
theorem dX1_changeBehind_66 : decode cX1_changeBehind 66 = .ok (.getfield 39, 3) := by decide +kernel
theorem dX1_changeBehind_69 : decode cX1_changeBehind 69 = .ok (.iload 4, 2) := by decide +kernel
theorem dX1_changeBehind_71 : decode cX1_changeBehind 71 = .ok (.aaload, 1) := by decide +kernel
theorem dX1_changeBehind_72 : decode cX1_changeBehind 72 = .ok (.getfield 49, 3) := by decide +kernel
theorem dX1_changeBehind_75 : decode cX1_changeBehind 75 = .ok (.iload_n 3, 1) := by decide +kernel
theorem dX1_changeBehind_76 : decode cX1_changeBehind 76 = .ok (.invokestatic 58, 3) := by decide +kernel
theorem dX1_changeBehind_79 : decode cX1_changeBehind 79 = .ok (.istore_n 3, 1) := by decide +kernel
theorem dX1_changeBehind_80 : decode cX1_changeBehind 80 = .ok (.iinc 4 1, 3) := by decide +kernel
theorem dX1_changeBehind_83 : decode cX1_changeBehind 83 = .ok (.goto (-44), 3) := by decide +kernel
theorem dX1_changeBehind_86 : decode cX1_changeBehind 86 = .ok (.iload_n 3, 1) := by decide +kernel
theorem dX1_changeBehind_87 : decode cX1_changeBehind 87 = .ok (.ireturn, 1) := by decide +kernel
theorem dX1_earlierBehind_0 : decode cX1_earlierBehind 0 = .ok (.iload_n 1, 1) := by decide +kernel
theorem dX1_earlierBehind_1 : decode cX1_earlierBehind 1 = .ok (.iload_n 0, 1) := by decide +kernel
theorem dX1_earlierBehind_2 : decode cX1_earlierBehind 2 = .ok (.if_icmp .le 12, 3) := by decide +kernel
theorem dX1_earlierBehind_5 : decode cX1_earlierBehind 5 = .ok (.iload_n 1, 1) := by decide +kernel
theorem dX1_earlierBehind_6 : decode cX1_earlierBehind 6 = .ok (.iload_n 2, 1) := by decide +kernel
theorem dX1_earlierBehind_7 : decode cX1_earlierBehind 7 = .ok (.if_icmp .ge 7, 3) := by decide +kernel
theorem dX1_earlierBehind_10 : decode cX1_earlierBehind 10 = .ok (.iload_n 1, 1) := by decide +kernel
theorem dX1_earlierBehind_11 : decode cX1_earlierBehind 11 = .ok (.goto 4, 3) := by decide +kernel
theorem dX1_earlierBehind_14 : decode cX1_earlierBehind 14 = .ok (.iload_n 2, 1) := by decide +kernel
theorem dX1_earlierBehind_15 : decode cX1_earlierBehind 15 = .ok (.ireturn, 1) := by decide +kernel
theorem dX1_minuteAfterWork_0 : decode cX1_minuteAfterWork 0 = .ok (.iload_n 2, 1) := by decide +kernel
theorem dX1_minuteAfterWork_1 : decode cX1_minuteAfterWork 1 = .ok (.istore 4, 2) := by decide +kernel
theorem dX1_minuteAfterWork_3 : decode cX1_minuteAfterWork 3 = .ok (.iload_n 3, 1) := by decide +kernel
theorem dX1_minuteAfterWork_4 : decode cX1_minuteAfterWork 4 = .ok (.istore 5, 2) := by decide +kernel
theorem dX1_minuteAfterWork_6 : decode cX1_minuteAfterWork 6 = .ok (.iconst 0, 1) := by decide +kernel
theorem dX1_minuteAfterWork_7 : decode cX1_minuteAfterWork 7 = .ok (.istore 6, 2) := by decide +kernel
theorem dX1_minuteAfterWork_9 : decode cX1_minuteAfterWork 9 = .ok (.iload 6, 2) := by decide +kernel
theorem dX1_minuteAfterWork_11 : decode cX1_minuteAfterWork 11 = .ok (.aload_n 0, 1) := by decide +kernel
theorem dX1_minuteAfterWork_12 : decode cX1_minuteAfterWork 12 = .ok (.getfield 43, 3) := by decide +kernel
theorem dX1_minuteAfterWork_15 : decode cX1_minuteAfterWork 15 = .ok (.if_icmp .ge 91, 3) := by decide +kernel
theorem dX1_minuteAfterWork_18 : decode cX1_minuteAfterWork 18 = .ok (.aload_n 0, 1) := by decide +kernel
theorem dX1_minuteAfterWork_19 : decode cX1_minuteAfterWork 19 = .ok (.getfield 39, 3) := by decide +kernel
theorem dX1_minuteAfterWork_22 : decode cX1_minuteAfterWork 22 = .ok (.iload 6, 2) := by decide +kernel
theorem dX1_minuteAfterWork_24 : decode cX1_minuteAfterWork 24 = .ok (.aaload, 1) := by decide +kernel
theorem dX1_minuteAfterWork_25 : decode cX1_minuteAfterWork 25 = .ok (.astore 7, 2) := by decide +kernel
theorem dX1_minuteAfterWork_27 : decode cX1_minuteAfterWork 27 = .ok (.aload 7, 2) := by decide +kernel
theorem dX1_minuteAfterWork_29 : decode cX1_minuteAfterWork 29 = .ok (.getfield 52, 3) := by decide +kernel
theorem dX1_minuteAfterWork_32 : decode cX1_minuteAfterWork 32 = .ok (.iload_n 1, 1) := by decide +kernel
theorem dX1_minuteAfterWork_33 : decode cX1_minuteAfterWork 33 = .ok (.if_icmp .ne 67, 3) := by decide +kernel
theorem dX1_minuteAfterWork_36 : decode cX1_minuteAfterWork 36 = .ok (.aload 7, 2) := by decide +kernel
theorem dX1_minuteAfterWork_38 : decode cX1_minuteAfterWork 38 = .ok (.getfield 49, 3) := by decide +kernel
theorem dX1_minuteAfterWork_41 : decode cX1_minuteAfterWork 41 = .ok (.iload 4, 2) := by decide +kernel
theorem dX1_minuteAfterWork_43 : decode cX1_minuteAfterWork 43 = .ok (.if_icmp .gt 6, 3) := by decide +kernel
theorem dX1_minuteAfterWork_46 : decode cX1_minuteAfterWork 46 = .ok (.goto 54, 3) := by decide +kernel
theorem dX1_minuteAfterWork_49 : decode cX1_minuteAfterWork 49 = .ok (.aload 7, 2) := by decide +kernel
theorem dX1_minuteAfterWork_51 : decode cX1_minuteAfterWork 51 = .ok (.getfield 46, 3) := by decide +kernel
theorem dX1_minuteAfterWork_54 : decode cX1_minuteAfterWork 54 = .ok (.iload 4, 2) := by decide +kernel
theorem dX1_minuteAfterWork_56 : decode cX1_minuteAfterWork 56 = .ok (.if_icmp .le 14, 3) := by decide +kernel
theorem dX1_minuteAfterWork_59 : decode cX1_minuteAfterWork 59 = .ok (.aload 7, 2) := by decide +kernel
theorem dX1_minuteAfterWork_61 : decode cX1_minuteAfterWork 61 = .ok (.getfield 46, 3) := by decide +kernel
theorem dX1_minuteAfterWork_64 : decode cX1_minuteAfterWork 64 = .ok (.iload 4, 2) := by decide +kernel
theorem dX1_minuteAfterWork_66 : decode cX1_minuteAfterWork 66 = .ok (.isub, 1) := by decide +kernel
theorem dX1_minuteAfterWork_67 : decode cX1_minuteAfterWork 67 = .ok (.goto 4, 3) := by decide +kernel
theorem dX1_minuteAfterWork_70 : decode cX1_minuteAfterWork 70 = .ok (.iconst 0, 1) := by decide +kernel
theorem dX1_minuteAfterWork_71 : decode cX1_minuteAfterWork 71 = .ok (.istore 8, 2) := by decide +kernel
theorem dX1_minuteAfterWork_73 : decode cX1_minuteAfterWork 73 = .ok (.iload 8, 2) := by decide +kernel
theorem dX1_minuteAfterWork_75 : decode cX1_minuteAfterWork 75 = .ok (.iload 5, 2) := by decide +kernel
theorem dX1_minuteAfterWork_77 : decode cX1_minuteAfterWork 77 = .ok (.if_icmp .lt 9, 3) := by decide +kernel
theorem dX1_minuteAfterWork_80 : decode cX1_minuteAfterWork 80 = .ok (.iload 4, 2) := by decide +kernel
theorem dX1_minuteAfterWork_82 : decode cX1_minuteAfterWork 82 = .ok (.iload 5, 2) := by decide +kernel
theorem dX1_minuteAfterWork_84 : decode cX1_minuteAfterWork 84 = .ok (.iadd, 1) := by decide +kernel
theorem dX1_minuteAfterWork_85 : decode cX1_minuteAfterWork 85 = .ok (.ireturn, 1) := by decide +kernel
theorem dX1_minuteAfterWork_86 : decode cX1_minuteAfterWork 86 = .ok (.iload 5, 2) := by decide +kernel
theorem dX1_minuteAfterWork_88 : decode cX1_minuteAfterWork 88 = .ok (.iload 8, 2) := by decide +kernel
theorem dX1_minuteAfterWork_90 : decode cX1_minuteAfterWork 90 = .ok (.isub, 1) := by decide +kernel
theorem dX1_minuteAfterWork_91 : decode cX1_minuteAfterWork 91 = .ok (.istore 5, 2) := by decide +kernel
theorem dX1_minuteAfterWork_93 : decode cX1_minuteAfterWork 93 = .ok (.aload 7, 2) := by decide +kernel
theorem dX1_minuteAfterWork_95 : decode cX1_minuteAfterWork 95 = .ok (.getfield 49, 3) := by decide +kernel
theorem dX1_minuteAfterWork_98 : decode cX1_minuteAfterWork 98 = .ok (.istore 4, 2) := by decide +kernel
theorem dX1_minuteAfterWork_100 : decode cX1_minuteAfterWork 100 = .ok (.iinc 6 1, 3) := by decide +kernel
theorem dX1_minuteAfterWork_103 : decode cX1_minuteAfterWork 103 = .ok (.goto (-94), 3) := by decide +kernel
theorem dX1_minuteAfterWork_106 : decode cX1_minuteAfterWork 106 = .ok (.iload 4, 2) := by decide +kernel
theorem dX1_minuteAfterWork_108 : decode cX1_minuteAfterWork 108 = .ok (.iload 5, 2) := by decide +kernel
theorem dX1_minuteAfterWork_110 : decode cX1_minuteAfterWork 110 = .ok (.iadd, 1) := by decide +kernel
theorem dX1_minuteAfterWork_111 : decode cX1_minuteAfterWork 111 = .ok (.ireturn, 1) := by decide +kernel
theorem dX1_postFrom_0 : decode cX1_postFrom 0 = .ok (.iload_n 1, 1) := by decide +kernel
theorem dX1_postFrom_1 : decode cX1_postFrom 1 = .ok (.iload_n 1, 1) := by decide +kernel
theorem dX1_postFrom_2 : decode cX1_postFrom 2 = .ok (.sipush 480, 3) := by decide +kernel
theorem dX1_postFrom_5 : decode cX1_postFrom 5 = .ok (.irem, 1) := by decide +kernel
theorem dX1_postFrom_6 : decode cX1_postFrom 6 = .ok (.isub, 1) := by decide +kernel
theorem dX1_postFrom_7 : decode cX1_postFrom 7 = .ok (.istore_n 2, 1) := by decide +kernel
theorem dX1_postFrom_8 : decode cX1_postFrom 8 = .ok (.iconst (-1), 1) := by decide +kernel
theorem dX1_postFrom_9 : decode cX1_postFrom 9 = .ok (.istore_n 3, 1) := by decide +kernel
theorem dX1_postFrom_10 : decode cX1_postFrom 10 = .ok (.iconst 0, 1) := by decide +kernel
theorem dX1_postFrom_11 : decode cX1_postFrom 11 = .ok (.istore 4, 2) := by decide +kernel
theorem dX1_postFrom_13 : decode cX1_postFrom 13 = .ok (.iload 4, 2) := by decide +kernel
theorem dX1_postFrom_15 : decode cX1_postFrom 15 = .ok (.aload_n 0, 1) := by decide +kernel
theorem dX1_postFrom_16 : decode cX1_postFrom 16 = .ok (.getfield 15, 3) := by decide +kernel
theorem dX1_postFrom_19 : decode cX1_postFrom 19 = .ok (.if_icmp .ge 46, 3) := by decide +kernel
theorem dX1_postFrom_22 : decode cX1_postFrom 22 = .ok (.iload_n 2, 1) := by decide +kernel
theorem dX1_postFrom_23 : decode cX1_postFrom 23 = .ok (.aload_n 0, 1) := by decide +kernel
theorem dX1_postFrom_24 : decode cX1_postFrom 24 = .ok (.getfield 9, 3) := by decide +kernel
theorem dX1_postFrom_27 : decode cX1_postFrom 27 = .ok (.iload 4, 2) := by decide +kernel
theorem dX1_postFrom_29 : decode cX1_postFrom 29 = .ok (.iaload, 1) := by decide +kernel
theorem dX1_postFrom_30 : decode cX1_postFrom 30 = .ok (.iadd, 1) := by decide +kernel
theorem dX1_postFrom_31 : decode cX1_postFrom 31 = .ok (.istore 5, 2) := by decide +kernel
theorem dX1_postFrom_33 : decode cX1_postFrom 33 = .ok (.iload 5, 2) := by decide +kernel
theorem dX1_postFrom_35 : decode cX1_postFrom 35 = .ok (.iload_n 1, 1) := by decide +kernel
theorem dX1_postFrom_36 : decode cX1_postFrom 36 = .ok (.if_icmp .ge 9, 3) := by decide +kernel
theorem dX1_postFrom_39 : decode cX1_postFrom 39 = .ok (.iinc 5 480, 6) := by decide +kernel
theorem dX1_postFrom_45 : decode cX1_postFrom 45 = .ok (.iload_n 3, 1) := by decide +kernel
theorem dX1_postFrom_46 : decode cX1_postFrom 46 = .ok (.iconst (-1), 1) := by decide +kernel
theorem dX1_postFrom_47 : decode cX1_postFrom 47 = .ok (.if_icmp .eq 9, 3) := by decide +kernel
theorem dX1_postFrom_50 : decode cX1_postFrom 50 = .ok (.iload 5, 2) := by decide +kernel
theorem dX1_postFrom_52 : decode cX1_postFrom 52 = .ok (.iload_n 3, 1) := by decide +kernel
theorem dX1_postFrom_53 : decode cX1_postFrom 53 = .ok (.if_icmp .ge 6, 3) := by decide +kernel
theorem dX1_postFrom_56 : decode cX1_postFrom 56 = .ok (.iload 5, 2) := by decide +kernel
theorem dX1_postFrom_58 : decode cX1_postFrom 58 = .ok (.istore_n 3, 1) := by decide +kernel
theorem dX1_postFrom_59 : decode cX1_postFrom 59 = .ok (.iinc 4 1, 3) := by decide +kernel
theorem dX1_postFrom_62 : decode cX1_postFrom 62 = .ok (.goto (-49), 3) := by decide +kernel
theorem dX1_postFrom_65 : decode cX1_postFrom 65 = .ok (.iload_n 3, 1) := by decide +kernel
theorem dX1_postFrom_66 : decode cX1_postFrom 66 = .ok (.ireturn, 1) := by decide +kernel
theorem dX2_init_0 : decode cX2_init 0 = .ok (.aload_n 0, 1) := by decide +kernel
theorem dX2_init_1 : decode cX2_init 1 = .ok (.invokespecial 3, 3) := by decide +kernel
theorem dX2_init_4 : decode cX2_init 4 = .ok (.aload_n 0, 1) := by decide +kernel
theorem dX2_init_5 : decode cX2_init 5 = .ok (.iconst (-1), 1) := by decide +kernel
theorem dX2_init_6 : decode cX2_init 6 = .ok (.putfield 9, 3) := by decide +kernel
theorem dX2_init_9 : decode cX2_init 9 = .ok (.aload_n 0, 1) := by decide +kernel
theorem dX2_init_10 : decode cX2_init 10 = .ok (.iload_n 1, 1) := by decide +kernel
theorem dX2_init_11 : decode cX2_init 11 = .ok (.putfield 15, 3) := by decide +kernel
theorem dX2_init_14 : decode cX2_init 14 = .ok (.aload_n 0, 1) := by decide +kernel
theorem dX2_init_15 : decode cX2_init 15 = .ok (.iload_n 2, 1) := by decide +kernel
theorem dX2_init_16 : decode cX2_init 16 = .ok (.putfield 18, 3) := by decide +kernel
theorem dX2_init_19 : decode cX2_init 19 = .ok (.aload_n 0, 1) := by decide +kernel
theorem dX2_init_20 : decode cX2_init 20 = .ok (.iload_n 3, 1) := by decide +kernel
theorem dX2_init_21 : decode cX2_init 21 = .ok (.putfield 21, 3) := by decide +kernel
theorem dX2_init_24 : decode cX2_init 24 = .ok (.aload_n 0, 1) := by decide +kernel
theorem dX2_init_25 : decode cX2_init 25 = .ok (.iload 4, 2) := by decide +kernel
theorem dX2_init_27 : decode cX2_init 27 = .ok (.putfield 24, 3) := by decide +kernel
theorem dX2_init_30 : decode cX2_init 30 = .ok (.aload_n 0, 1) := by decide +kernel
theorem dX2_init_31 : decode cX2_init 31 = .ok (.iload 5, 2) := by decide +kernel
theorem dX2_init_33 : decode cX2_init 33 = .ok (.putfield 27, 3) := by decide +kernel
theorem dX2_init_36 : decode cX2_init 36 = .ok (.return_, 1) := by decide +kernel
theorem dX3_init_0 : decode cX3_init 0 = .ok (.aload_n 0, 1) := by decide +kernel
theorem dX3_init_1 : decode cX3_init 1 = .ok (.invokespecial 3, 3) := by decide +kernel
theorem dX3_init_4 : decode cX3_init 4 = .ok (.aload_n 0, 1) := by decide +kernel
theorem dX3_init_5 : decode cX3_init 5 = .ok (.iconst 0, 1) := by decide +kernel
theorem dX3_init_6 : decode cX3_init 6 = .ok (.putfield 9, 3) := by decide +kernel
theorem dX3_init_9 : decode cX3_init 9 = .ok (.aload_n 0, 1) := by decide +kernel
theorem dX3_init_10 : decode cX3_init 10 = .ok (.bipush 8, 2) := by decide +kernel
theorem dX3_init_12 : decode cX3_init 12 = .ok (.newarray .int, 2) := by decide +kernel
theorem dX3_init_14 : decode cX3_init 14 = .ok (.putfield 15, 3) := by decide +kernel
theorem dX3_init_17 : decode cX3_init 17 = .ok (.aload_n 0, 1) := by decide +kernel
theorem dX3_init_18 : decode cX3_init 18 = .ok (.bipush 8, 2) := by decide +kernel
theorem dX3_init_20 : decode cX3_init 20 = .ok (.newarray .int, 2) := by decide +kernel
theorem dX3_init_22 : decode cX3_init 22 = .ok (.putfield 19, 3) := by decide +kernel
theorem dX3_init_25 : decode cX3_init 25 = .ok (.aload_n 0, 1) := by decide +kernel
theorem dX3_init_26 : decode cX3_init 26 = .ok (.bipush 8, 2) := by decide +kernel
theorem dX3_init_28 : decode cX3_init 28 = .ok (.newarray .int, 2) := by decide +kernel
theorem dX3_init_30 : decode cX3_init 30 = .ok (.putfield 22, 3) := by decide +kernel
theorem dX3_init_33 : decode cX3_init 33 = .ok (.aload_n 0, 1) := by decide +kernel
theorem dX3_init_34 : decode cX3_init 34 = .ok (.bipush 8, 2) := by decide +kernel
theorem dX3_init_36 : decode cX3_init 36 = .ok (.newarray .int, 2) := by decide +kernel
theorem dX3_init_38 : decode cX3_init 38 = .ok (.putfield 25, 3) := by decide +kernel
theorem dX3_init_41 : decode cX3_init 41 = .ok (.aload_n 0, 1) := by decide +kernel
theorem dX3_init_42 : decode cX3_init 42 = .ok (.bipush 30, 2) := by decide +kernel
theorem dX3_init_44 : decode cX3_init 44 = .ok (.newarray .int, 2) := by decide +kernel
theorem dX3_init_46 : decode cX3_init 46 = .ok (.putfield 28, 3) := by decide +kernel
theorem dX3_init_49 : decode cX3_init 49 = .ok (.aload_n 0, 1) := by decide +kernel
theorem dX3_init_50 : decode cX3_init 50 = .ok (.bipush 30, 2) := by decide +kernel
theorem dX3_init_52 : decode cX3_init 52 = .ok (.newarray .int, 2) := by decide +kernel
theorem dX3_init_54 : decode cX3_init 54 = .ok (.putfield 31, 3) := by decide +kernel
theorem dX3_init_57 : decode cX3_init 57 = .ok (.aload_n 0, 1) := by decide +kernel
theorem dX3_init_58 : decode cX3_init 58 = .ok (.bipush 30, 2) := by decide +kernel
theorem dX3_init_60 : decode cX3_init 60 = .ok (.newarray .int, 2) := by decide +kernel
theorem dX3_init_62 : decode cX3_init 62 = .ok (.putfield 34, 3) := by decide +kernel
theorem dX3_init_65 : decode cX3_init 65 = .ok (.aload_n 0, 1) := by decide +kernel
theorem dX3_init_66 : decode cX3_init 66 = .ok (.bipush 30, 2) := by decide +kernel
theorem dX3_init_68 : decode cX3_init 68 = .ok (.newarray .int, 2) := by decide +kernel
theorem dX3_init_70 : decode cX3_init 70 = .ok (.putfield 37, 3) := by decide +kernel
theorem dX3_init_73 : decode cX3_init 73 = .ok (.aload_n 0, 1) := by decide +kernel
theorem dX3_init_74 : decode cX3_init 74 = .ok (.bipush 30, 2) := by decide +kernel
theorem dX3_init_76 : decode cX3_init 76 = .ok (.newarray .int, 2) := by decide +kernel
theorem dX3_init_78 : decode cX3_init 78 = .ok (.putfield 40, 3) := by decide +kernel
theorem dX3_init_81 : decode cX3_init 81 = .ok (.aload_n 0, 1) := by decide +kernel
theorem dX3_init_82 : decode cX3_init 82 = .ok (.aload_n 1, 1) := by decide +kernel
theorem dX3_init_83 : decode cX3_init 83 = .ok (.putfield 43, 3) := by decide +kernel
theorem dX3_init_86 : decode cX3_init 86 = .ok (.aload_n 0, 1) := by decide +kernel
theorem dX3_init_87 : decode cX3_init 87 = .ok (.aload_n 2, 1) := by decide +kernel
theorem dX3_init_88 : decode cX3_init 88 = .ok (.putfield 47, 3) := by decide +kernel
theorem dX3_init_91 : decode cX3_init 91 = .ok (.return_, 1) := by decide +kernel
theorem dX3_openHand_0 : decode cX3_openHand 0 = .ok (.aload_n 0, 1) := by decide +kernel
theorem dX3_openHand_1 : decode cX3_openHand 1 = .ok (.getfield 15, 3) := by decide +kernel
theorem dX3_openHand_4 : decode cX3_openHand 4 = .ok (.iload_n 1, 1) := by decide +kernel
theorem dX3_openHand_5 : decode cX3_openHand 5 = .ok (.iconst (-1), 1) := by decide +kernel
theorem dX3_openHand_6 : decode cX3_openHand 6 = .ok (.iastore, 1) := by decide +kernel
theorem dX3_openHand_7 : decode cX3_openHand 7 = .ok (.aload_n 0, 1) := by decide +kernel
theorem dX3_openHand_8 : decode cX3_openHand 8 = .ok (.getfield 19, 3) := by decide +kernel
theorem dX3_openHand_11 : decode cX3_openHand 11 = .ok (.iload_n 1, 1) := by decide +kernel
theorem dX3_openHand_12 : decode cX3_openHand 12 = .ok (.iconst (-1), 1) := by decide +kernel
theorem dX3_openHand_13 : decode cX3_openHand 13 = .ok (.iastore, 1) := by decide +kernel
theorem dX3_openHand_14 : decode cX3_openHand 14 = .ok (.aload_n 0, 1) := by decide +kernel
theorem dX3_openHand_15 : decode cX3_openHand 15 = .ok (.getfield 22, 3) := by decide +kernel
theorem dX3_openHand_18 : decode cX3_openHand 18 = .ok (.iload_n 1, 1) := by decide +kernel
theorem dX3_openHand_19 : decode cX3_openHand 19 = .ok (.iload_n 2, 1) := by decide +kernel
theorem dX3_openHand_20 : decode cX3_openHand 20 = .ok (.iastore, 1) := by decide +kernel
theorem dX3_openHand_21 : decode cX3_openHand 21 = .ok (.aload_n 0, 1) := by decide +kernel
theorem dX3_openHand_22 : decode cX3_openHand 22 = .ok (.getfield 25, 3) := by decide +kernel
theorem dX3_openHand_25 : decode cX3_openHand 25 = .ok (.iload_n 1, 1) := by decide +kernel
theorem dX3_openHand_26 : decode cX3_openHand 26 = .ok (.iconst 0, 1) := by decide +kernel
theorem dX3_openHand_27 : decode cX3_openHand 27 = .ok (.iastore, 1) := by decide +kernel
theorem dX3_openHand_28 : decode cX3_openHand 28 = .ok (.return_, 1) := by decide +kernel
theorem dX3_openPiece_0 : decode cX3_openPiece 0 = .ok (.aload_n 0, 1) := by decide +kernel
theorem dX3_openPiece_1 : decode cX3_openPiece 1 = .ok (.getfield 28, 3) := by decide +kernel
theorem dX3_openPiece_4 : decode cX3_openPiece 4 = .ok (.iload_n 1, 1) := by decide +kernel
theorem dX3_openPiece_5 : decode cX3_openPiece 5 = .ok (.iconst (-1), 1) := by decide +kernel
theorem dX3_openPiece_6 : decode cX3_openPiece 6 = .ok (.iastore, 1) := by decide +kernel
theorem dX3_openPiece_7 : decode cX3_openPiece 7 = .ok (.aload_n 0, 1) := by decide +kernel
theorem dX3_openPiece_8 : decode cX3_openPiece 8 = .ok (.getfield 31, 3) := by decide +kernel
theorem dX3_openPiece_11 : decode cX3_openPiece 11 = .ok (.iload_n 1, 1) := by decide +kernel
theorem dX3_openPiece_12 : decode cX3_openPiece 12 = .ok (.iconst (-1), 1) := by decide +kernel
theorem dX3_openPiece_13 : decode cX3_openPiece 13 = .ok (.iastore, 1) := by decide +kernel
theorem dX3_openPiece_14 : decode cX3_openPiece 14 = .ok (.aload_n 0, 1) := by decide +kernel
theorem dX3_openPiece_15 : decode cX3_openPiece 15 = .ok (.getfield 34, 3) := by decide +kernel
theorem dX3_openPiece_18 : decode cX3_openPiece 18 = .ok (.iload_n 1, 1) := by decide +kernel
theorem dX3_openPiece_19 : decode cX3_openPiece 19 = .ok (.iconst (-1), 1) := by decide +kernel
theorem dX3_openPiece_20 : decode cX3_openPiece 20 = .ok (.iastore, 1) := by decide +kernel
theorem dX3_openPiece_21 : decode cX3_openPiece 21 = .ok (.aload_n 0, 1) := by decide +kernel
theorem dX3_openPiece_22 : decode cX3_openPiece 22 = .ok (.getfield 37, 3) := by decide +kernel
theorem dX3_openPiece_25 : decode cX3_openPiece 25 = .ok (.iload_n 1, 1) := by decide +kernel
theorem dX3_openPiece_26 : decode cX3_openPiece 26 = .ok (.iload_n 2, 1) := by decide +kernel
theorem dX3_openPiece_27 : decode cX3_openPiece 27 = .ok (.iastore, 1) := by decide +kernel
theorem dX3_openPiece_28 : decode cX3_openPiece 28 = .ok (.aload_n 0, 1) := by decide +kernel
theorem dX3_openPiece_29 : decode cX3_openPiece 29 = .ok (.getfield 40, 3) := by decide +kernel
theorem dX3_openPiece_32 : decode cX3_openPiece 32 = .ok (.iload_n 1, 1) := by decide +kernel
theorem dX3_openPiece_33 : decode cX3_openPiece 33 = .ok (.iconst 0, 1) := by decide +kernel
theorem dX3_openPiece_34 : decode cX3_openPiece 34 = .ok (.iastore, 1) := by decide +kernel
theorem dX3_openPiece_35 : decode cX3_openPiece 35 = .ok (.return_, 1) := by decide +kernel
theorem dX3_takeOver_0 : decode cX3_takeOver 0 = .ok (.aload_n 0, 1) := by decide +kernel
theorem dX3_takeOver_1 : decode cX3_takeOver 1 = .ok (.aload_n 1, 1) := by decide +kernel
theorem dX3_takeOver_2 : decode cX3_takeOver 2 = .ok (.getfield 9, 3) := by decide +kernel
theorem dX3_takeOver_5 : decode cX3_takeOver 5 = .ok (.putfield 9, 3) := by decide +kernel
theorem dX3_takeOver_8 : decode cX3_takeOver 8 = .ok (.aload_n 1, 1) := by decide +kernel
theorem dX3_takeOver_9 : decode cX3_takeOver 9 = .ok (.getfield 15, 3) := by decide +kernel
theorem dX3_takeOver_12 : decode cX3_takeOver 12 = .ok (.iconst 0, 1) := by decide +kernel
theorem dX3_takeOver_13 : decode cX3_takeOver 13 = .ok (.aload_n 0, 1) := by decide +kernel
theorem dX3_takeOver_14 : decode cX3_takeOver 14 = .ok (.getfield 15, 3) := by decide +kernel
theorem dX3_takeOver_17 : decode cX3_takeOver 17 = .ok (.iconst 0, 1) := by decide +kernel
theorem dX3_takeOver_18 : decode cX3_takeOver 18 = .ok (.bipush 8, 2) := by decide +kernel
theorem dX3_takeOver_20 : decode cX3_takeOver 20 = .ok (.invokestatic 51, 3) := by decide +kernel
theorem dX3_takeOver_23 : decode cX3_takeOver 23 = .ok (.aload_n 1, 1) := by decide +kernel
theorem dX3_takeOver_24 : decode cX3_takeOver 24 = .ok (.getfield 19, 3) := by decide +kernel
theorem dX3_takeOver_27 : decode cX3_takeOver 27 = .ok (.iconst 0, 1) := by decide +kernel
theorem dX3_takeOver_28 : decode cX3_takeOver 28 = .ok (.aload_n 0, 1) := by decide +kernel
theorem dX3_takeOver_29 : decode cX3_takeOver 29 = .ok (.getfield 19, 3) := by decide +kernel
theorem dX3_takeOver_32 : decode cX3_takeOver 32 = .ok (.iconst 0, 1) := by decide +kernel
theorem dX3_takeOver_33 : decode cX3_takeOver 33 = .ok (.bipush 8, 2) := by decide +kernel
theorem dX3_takeOver_35 : decode cX3_takeOver 35 = .ok (.invokestatic 51, 3) := by decide +kernel
theorem dX3_takeOver_38 : decode cX3_takeOver 38 = .ok (.aload_n 1, 1) := by decide +kernel
theorem dX3_takeOver_39 : decode cX3_takeOver 39 = .ok (.getfield 22, 3) := by decide +kernel
theorem dX3_takeOver_42 : decode cX3_takeOver 42 = .ok (.iconst 0, 1) := by decide +kernel
theorem dX3_takeOver_43 : decode cX3_takeOver 43 = .ok (.aload_n 0, 1) := by decide +kernel
theorem dX3_takeOver_44 : decode cX3_takeOver 44 = .ok (.getfield 22, 3) := by decide +kernel
theorem dX3_takeOver_47 : decode cX3_takeOver 47 = .ok (.iconst 0, 1) := by decide +kernel
theorem dX3_takeOver_48 : decode cX3_takeOver 48 = .ok (.bipush 8, 2) := by decide +kernel
theorem dX3_takeOver_50 : decode cX3_takeOver 50 = .ok (.invokestatic 51, 3) := by decide +kernel
theorem dX3_takeOver_53 : decode cX3_takeOver 53 = .ok (.aload_n 1, 1) := by decide +kernel
theorem dX3_takeOver_54 : decode cX3_takeOver 54 = .ok (.getfield 25, 3) := by decide +kernel
theorem dX3_takeOver_57 : decode cX3_takeOver 57 = .ok (.iconst 0, 1) := by decide +kernel
theorem dX3_takeOver_58 : decode cX3_takeOver 58 = .ok (.aload_n 0, 1) := by decide +kernel
theorem dX3_takeOver_59 : decode cX3_takeOver 59 = .ok (.getfield 25, 3) := by decide +kernel
theorem dX3_takeOver_62 : decode cX3_takeOver 62 = .ok (.iconst 0, 1) := by decide +kernel
theorem dX3_takeOver_63 : decode cX3_takeOver 63 = .ok (.bipush 8, 2) := by decide +kernel
theorem dX3_takeOver_65 : decode cX3_takeOver 65 = .ok (.invokestatic 51, 3) := by decide +kernel
theorem dX3_takeOver_68 : decode cX3_takeOver 68 = .ok (.aload_n 1, 1) := by decide +kernel
theorem dX3_takeOver_69 : decode cX3_takeOver 69 = .ok (.getfield 28, 3) := by decide +kernel
theorem dX3_takeOver_72 : decode cX3_takeOver 72 = .ok (.iconst 0, 1) := by decide +kernel
theorem dX3_takeOver_73 : decode cX3_takeOver 73 = .ok (.aload_n 0, 1) := by decide +kernel
theorem dX3_takeOver_74 : decode cX3_takeOver 74 = .ok (.getfield 28, 3) := by decide +kernel
theorem dX3_takeOver_77 : decode cX3_takeOver 77 = .ok (.iconst 0, 1) := by decide +kernel
theorem dX3_takeOver_78 : decode cX3_takeOver 78 = .ok (.bipush 30, 2) := by decide +kernel
theorem dX3_takeOver_80 : decode cX3_takeOver 80 = .ok (.invokestatic 51, 3) := by decide +kernel
theorem dX3_takeOver_83 : decode cX3_takeOver 83 = .ok (.aload_n 1, 1) := by decide +kernel
theorem dX3_takeOver_84 : decode cX3_takeOver 84 = .ok (.getfield 31, 3) := by decide +kernel
theorem dX3_takeOver_87 : decode cX3_takeOver 87 = .ok (.iconst 0, 1) := by decide +kernel
theorem dX3_takeOver_88 : decode cX3_takeOver 88 = .ok (.aload_n 0, 1) := by decide +kernel
theorem dX3_takeOver_89 : decode cX3_takeOver 89 = .ok (.getfield 31, 3) := by decide +kernel
theorem dX3_takeOver_92 : decode cX3_takeOver 92 = .ok (.iconst 0, 1) := by decide +kernel
theorem dX3_takeOver_93 : decode cX3_takeOver 93 = .ok (.bipush 30, 2) := by decide +kernel
theorem dX3_takeOver_95 : decode cX3_takeOver 95 = .ok (.invokestatic 51, 3) := by decide +kernel
theorem dX3_takeOver_98 : decode cX3_takeOver 98 = .ok (.aload_n 1, 1) := by decide +kernel
theorem dX3_takeOver_99 : decode cX3_takeOver 99 = .ok (.getfield 34, 3) := by decide +kernel
theorem dX3_takeOver_102 : decode cX3_takeOver 102 = .ok (.iconst 0, 1) := by decide +kernel
theorem dX3_takeOver_103 : decode cX3_takeOver 103 = .ok (.aload_n 0, 1) := by decide +kernel
theorem dX3_takeOver_104 : decode cX3_takeOver 104 = .ok (.getfield 34, 3) := by decide +kernel
theorem dX3_takeOver_107 : decode cX3_takeOver 107 = .ok (.iconst 0, 1) := by decide +kernel
theorem dX3_takeOver_108 : decode cX3_takeOver 108 = .ok (.bipush 30, 2) := by decide +kernel
theorem dX3_takeOver_110 : decode cX3_takeOver 110 = .ok (.invokestatic 51, 3) := by decide +kernel
theorem dX3_takeOver_113 : decode cX3_takeOver 113 = .ok (.aload_n 1, 1) := by decide +kernel
theorem dX3_takeOver_114 : decode cX3_takeOver 114 = .ok (.getfield 37, 3) := by decide +kernel
theorem dX3_takeOver_117 : decode cX3_takeOver 117 = .ok (.iconst 0, 1) := by decide +kernel
theorem dX3_takeOver_118 : decode cX3_takeOver 118 = .ok (.aload_n 0, 1) := by decide +kernel
theorem dX3_takeOver_119 : decode cX3_takeOver 119 = .ok (.getfield 37, 3) := by decide +kernel
theorem dX3_takeOver_122 : decode cX3_takeOver 122 = .ok (.iconst 0, 1) := by decide +kernel
theorem dX3_takeOver_123 : decode cX3_takeOver 123 = .ok (.bipush 30, 2) := by decide +kernel
theorem dX3_takeOver_125 : decode cX3_takeOver 125 = .ok (.invokestatic 51, 3) := by decide +kernel
theorem dX3_takeOver_128 : decode cX3_takeOver 128 = .ok (.aload_n 1, 1) := by decide +kernel
theorem dX3_takeOver_129 : decode cX3_takeOver 129 = .ok (.getfield 40, 3) := by decide +kernel
theorem dX3_takeOver_132 : decode cX3_takeOver 132 = .ok (.iconst 0, 1) := by decide +kernel
theorem dX3_takeOver_133 : decode cX3_takeOver 133 = .ok (.aload_n 0, 1) := by decide +kernel
theorem dX3_takeOver_134 : decode cX3_takeOver 134 = .ok (.getfield 40, 3) := by decide +kernel
theorem dX3_takeOver_137 : decode cX3_takeOver 137 = .ok (.iconst 0, 1) := by decide +kernel
theorem dX3_takeOver_138 : decode cX3_takeOver 138 = .ok (.bipush 30, 2) := by decide +kernel
theorem dX3_takeOver_140 : decode cX3_takeOver 140 = .ok (.invokestatic 51, 3) := by decide +kernel
theorem dX3_takeOver_143 : decode cX3_takeOver 143 = .ok (.return_, 1) := by decide +kernel
theorem dX3_runOn_0 : decode cX3_runOn 0 = .ok (.aload_n 0, 1) := by decide +kernel
theorem dX3_runOn_1 : decode cX3_runOn 1 = .ok (.getfield 9, 3) := by decide +kernel
theorem dX3_runOn_4 : decode cX3_runOn 4 = .ok (.iload_n 1, 1) := by decide +kernel
theorem dX3_runOn_5 : decode cX3_runOn 5 = .ok (.iadd, 1) := by decide +kernel
theorem dX3_runOn_6 : decode cX3_runOn 6 = .ok (.istore 4, 2) := by decide +kernel
theorem dX3_runOn_8 : decode cX3_runOn 8 = .ok (.iconst 0, 1) := by decide +kernel
theorem dX3_runOn_9 : decode cX3_runOn 9 = .ok (.istore 5, 2) := by decide +kernel
theorem dX3_runOn_11 : decode cX3_runOn 11 = .ok (.iload 5, 2) := by decide +kernel
theorem dX3_runOn_13 : decode cX3_runOn 13 = .ok (.iload_n 1, 1) := by decide +kernel
theorem dX3_runOn_14 : decode cX3_runOn 14 = .ok (.if_icmp .ge 85, 3) := by decide +kernel
theorem dX3_runOn_17 : decode cX3_runOn 17 = .ok (.aload_n 0, 1) := by decide +kernel
theorem dX3_runOn_18 : decode cX3_runOn 18 = .ok (.getfield 9, 3) := by decide +kernel
theorem dX3_runOn_21 : decode cX3_runOn 21 = .ok (.iload 4, 2) := by decide +kernel
theorem dX3_runOn_23 : decode cX3_runOn 23 = .ok (.if_icmp .ge 76, 3) := by decide +kernel
theorem dX3_runOn_26 : decode cX3_runOn 26 = .ok (.aload_n 0, 1) := by decide +kernel
theorem dX3_runOn_27 : decode cX3_runOn 27 = .ok (.getfield 43, 3) := by decide +kernel
theorem dX3_runOn_30 : decode cX3_runOn 30 = .ok (.aload_n 0, 1) := by decide +kernel
theorem dX3_runOn_31 : decode cX3_runOn 31 = .ok (.getfield 9, 3) := by decide +kernel
theorem dX3_runOn_34 : decode cX3_runOn 34 = .ok (.invokevirtual 57, 3) := by decide +kernel
theorem dX3_runOn_37 : decode cX3_runOn 37 = .ok (.iload_n 3, 1) := by decide +kernel
theorem dX3_runOn_38 : decode cX3_runOn 38 = .ok (.iconst (-1), 1) := by decide +kernel
theorem dX3_runOn_39 : decode cX3_runOn 39 = .ok (.if_icmp .ne 7, 3) := by decide +kernel
theorem dX3_runOn_42 : decode cX3_runOn 42 = .ok (.iconst 0, 1) := by decide +kernel
theorem dX3_runOn_43 : decode cX3_runOn 43 = .ok (.goto 6, 3) := by decide +kernel
theorem dX3_runOn_46 : decode cX3_runOn 46 = .ok (.iconst 1, 1) := by decide +kernel
theorem dX3_runOn_47 : decode cX3_runOn 47 = .ok (.iload_n 3, 1) := by decide +kernel
theorem dX3_runOn_48 : decode cX3_runOn 48 = .ok (.ishl, 1) := by decide +kernel
theorem dX3_runOn_49 : decode cX3_runOn 49 = .ok (.ior, 1) := by decide +kernel
theorem dX3_runOn_50 : decode cX3_runOn 50 = .ok (.istore 6, 2) := by decide +kernel
theorem dX3_runOn_52 : decode cX3_runOn 52 = .ok (.aload_n 0, 1) := by decide +kernel
theorem dX3_runOn_53 : decode cX3_runOn 53 = .ok (.iload 6, 2) := by decide +kernel
theorem dX3_runOn_55 : decode cX3_runOn 55 = .ok (.aload_n 2, 1) := by decide +kernel
theorem dX3_runOn_56 : decode cX3_runOn 56 = .ok (.invokevirtual 63, 3) := by decide +kernel
theorem dX3_runOn_59 : decode cX3_runOn 59 = .ok (.aload_n 0, 1) := by decide +kernel
theorem dX3_runOn_60 : decode cX3_runOn 60 = .ok (.iload 6, 2) := by decide +kernel
theorem dX3_runOn_62 : decode cX3_runOn 62 = .ok (.iload 4, 2) := by decide +kernel
theorem dX3_runOn_64 : decode cX3_runOn 64 = .ok (.invokevirtual 67, 3) := by decide +kernel
theorem dX3_runOn_67 : decode cX3_runOn 67 = .ok (.aload_n 0, 1) := by decide +kernel
theorem dX3_runOn_68 : decode cX3_runOn 68 = .ok (.getfield 9, 3) := by decide +kernel
theorem dX3_runOn_71 : decode cX3_runOn 71 = .ok (.isub, 1) := by decide +kernel
theorem dX3_runOn_72 : decode cX3_runOn 72 = .ok (.istore 7, 2) := by decide +kernel
theorem dX3_runOn_74 : decode cX3_runOn 74 = .ok (.aload_n 0, 1) := by decide +kernel
theorem dX3_runOn_75 : decode cX3_runOn 75 = .ok (.iload 6, 2) := by decide +kernel
theorem dX3_runOn_77 : decode cX3_runOn 77 = .ok (.iload 7, 2) := by decide +kernel
theorem dX3_runOn_79 : decode cX3_runOn 79 = .ok (.invokevirtual 71, 3) := by decide +kernel
theorem dX3_runOn_82 : decode cX3_runOn 82 = .ok (.aload_n 0, 1) := by decide +kernel
theorem dX3_runOn_83 : decode cX3_runOn 83 = .ok (.dup, 1) := by decide +kernel
theorem dX3_runOn_84 : decode cX3_runOn 84 = .ok (.getfield 9, 3) := by decide +kernel
theorem dX3_runOn_87 : decode cX3_runOn 87 = .ok (.iload 7, 2) := by decide +kernel
theorem dX3_runOn_89 : decode cX3_runOn 89 = .ok (.iadd, 1) := by decide +kernel
theorem dX3_runOn_90 : decode cX3_runOn 90 = .ok (.putfield 9, 3) := by decide +kernel
theorem dX3_runOn_93 : decode cX3_runOn 93 = .ok (.iinc 5 1, 3) := by decide +kernel
theorem dX3_runOn_96 : decode cX3_runOn 96 = .ok (.goto (-85), 3) := by decide +kernel
theorem dX3_runOn_99 : decode cX3_runOn 99 = .ok (.return_, 1) := by decide +kernel
theorem dX3_takeAll_0 : decode cX3_takeAll 0 = .ok (.iconst 0, 1) := by decide +kernel
theorem dX3_takeAll_1 : decode cX3_takeAll 1 = .ok (.istore_n 3, 1) := by decide +kernel
theorem dX3_takeAll_2 : decode cX3_takeAll 2 = .ok (.iload_n 3, 1) := by decide +kernel
theorem dX3_takeAll_3 : decode cX3_takeAll 3 = .ok (.aload_n 0, 1) := by decide +kernel
theorem dX3_takeAll_4 : decode cX3_takeAll 4 = .ok (.getfield 43, 3) := by decide +kernel
theorem dX3_takeAll_7 : decode cX3_takeAll 7 = .ok (.getfield 75, 3) := by decide +kernel
theorem dX3_takeAll_10 : decode cX3_takeAll 10 = .ok (.if_icmp .ge 48, 3) := by decide +kernel
theorem dX3_takeAll_13 : decode cX3_takeAll 13 = .ok (.iload_n 1, 1) := by decide +kernel
theorem dX3_takeAll_14 : decode cX3_takeAll 14 = .ok (.iload_n 3, 1) := by decide +kernel
theorem dX3_takeAll_15 : decode cX3_takeAll 15 = .ok (.ishr, 1) := by decide +kernel
theorem dX3_takeAll_16 : decode cX3_takeAll 16 = .ok (.iconst 1, 1) := by decide +kernel
theorem dX3_takeAll_17 : decode cX3_takeAll 17 = .ok (.iand, 1) := by decide +kernel
theorem dX3_takeAll_18 : decode cX3_takeAll 18 = .ok (.ifCond .ne 34, 3) := by decide +kernel
theorem dX3_takeAll_21 : decode cX3_takeAll 21 = .ok (.aload_n 0, 1) := by decide +kernel
theorem dX3_takeAll_22 : decode cX3_takeAll 22 = .ok (.getfield 15, 3) := by decide +kernel
theorem dX3_takeAll_25 : decode cX3_takeAll 25 = .ok (.iload_n 3, 1) := by decide +kernel
theorem dX3_takeAll_26 : decode cX3_takeAll 26 = .ok (.iaload, 1) := by decide +kernel
theorem dX3_takeAll_27 : decode cX3_takeAll 27 = .ok (.iconst (-1), 1) := by decide +kernel
theorem dX3_takeAll_28 : decode cX3_takeAll 28 = .ok (.if_icmp .ne 24, 3) := by decide +kernel
theorem dX3_takeAll_31 : decode cX3_takeAll 31 = .ok (.aload_n 0, 1) := by decide +kernel
theorem dX3_takeAll_32 : decode cX3_takeAll 32 = .ok (.iload_n 3, 1) := by decide +kernel
theorem dX3_takeAll_33 : decode cX3_takeAll 33 = .ok (.aload_n 2, 1) := by decide +kernel
theorem dX3_takeAll_34 : decode cX3_takeAll 34 = .ok (.invokevirtual 78, 3) := by decide +kernel
theorem dX3_takeAll_37 : decode cX3_takeAll 37 = .ok (.istore 4, 2) := by decide +kernel
theorem dX3_takeAll_39 : decode cX3_takeAll 39 = .ok (.iload 4, 2) := by decide +kernel
theorem dX3_takeAll_41 : decode cX3_takeAll 41 = .ok (.iconst (-1), 1) := by decide +kernel
theorem dX3_takeAll_42 : decode cX3_takeAll 42 = .ok (.if_icmp .eq 10, 3) := by decide +kernel
theorem dX3_takeAll_45 : decode cX3_takeAll 45 = .ok (.aload_n 0, 1) := by decide +kernel
theorem dX3_takeAll_46 : decode cX3_takeAll 46 = .ok (.iload_n 3, 1) := by decide +kernel
theorem dX3_takeAll_47 : decode cX3_takeAll 47 = .ok (.iload 4, 2) := by decide +kernel
theorem dX3_takeAll_49 : decode cX3_takeAll 49 = .ok (.invokevirtual 82, 3) := by decide +kernel
theorem dX3_takeAll_52 : decode cX3_takeAll 52 = .ok (.iinc 3 1, 3) := by decide +kernel
theorem dX3_takeAll_55 : decode cX3_takeAll 55 = .ok (.goto (-53), 3) := by decide +kernel
theorem dX3_takeAll_58 : decode cX3_takeAll 58 = .ok (.return_, 1) := by decide +kernel
theorem dX3_firstFor_0 : decode cX3_firstFor 0 = .ok (.iconst (-1), 1) := by decide +kernel
theorem dX3_firstFor_1 : decode cX3_firstFor 1 = .ok (.istore_n 3, 1) := by decide +kernel
theorem dX3_firstFor_2 : decode cX3_firstFor 2 = .ok (.iconst 0, 1) := by decide +kernel
theorem dX3_firstFor_3 : decode cX3_firstFor 3 = .ok (.istore 4, 2) := by decide +kernel
theorem dX3_firstFor_5 : decode cX3_firstFor 5 = .ok (.iconst 0, 1) := by decide +kernel
theorem dX3_firstFor_6 : decode cX3_firstFor 6 = .ok (.istore 5, 2) := by decide +kernel
theorem dX3_firstFor_8 : decode cX3_firstFor 8 = .ok (.iload 5, 2) := by decide +kernel
theorem dX3_firstFor_10 : decode cX3_firstFor 10 = .ok (.aload_n 0, 1) := by decide +kernel
theorem dX3_firstFor_11 : decode cX3_firstFor 11 = .ok (.getfield 43, 3) := by decide +kernel
theorem dX3_firstFor_14 : decode cX3_firstFor 14 = .ok (.getfield 85, 3) := by decide +kernel
theorem dX3_firstFor_17 : decode cX3_firstFor 17 = .ok (.if_icmp .ge 59, 3) := by decide +kernel
theorem dX3_firstFor_20 : decode cX3_firstFor 20 = .ok (.aload_n 0, 1) := by decide +kernel
theorem dX3_firstFor_21 : decode cX3_firstFor 21 = .ok (.iload 5, 2) := by decide +kernel
theorem dX3_firstFor_23 : decode cX3_firstFor 23 = .ok (.invokevirtual 88, 3) := by decide +kernel
theorem dX3_firstFor_26 : decode cX3_firstFor 26 = .ok (.iconst 1, 1) := by decide +kernel
theorem dX3_firstFor_27 : decode cX3_firstFor 27 = .ok (.if_icmp .ne 43, 3) := by decide +kernel
theorem dX3_firstFor_30 : decode cX3_firstFor 30 = .ok (.aload_n 0, 1) := by decide +kernel
theorem dX3_firstFor_31 : decode cX3_firstFor 31 = .ok (.iload_n 1, 1) := by decide +kernel
theorem dX3_firstFor_32 : decode cX3_firstFor 32 = .ok (.iload 5, 2) := by decide +kernel
theorem dX3_firstFor_34 : decode cX3_firstFor 34 = .ok (.aload_n 2, 1) := by decide +kernel
theorem dX3_firstFor_35 : decode cX3_firstFor 35 = .ok (.invokevirtual 91, 3) := by decide +kernel
theorem dX3_firstFor_38 : decode cX3_firstFor 38 = .ok (.ifCond .eq 32, 3) := by decide +kernel
theorem dX3_firstFor_41 : decode cX3_firstFor 41 = .ok (.aload_n 0, 1) := by decide +kernel
theorem dX3_firstFor_42 : decode cX3_firstFor 42 = .ok (.iload_n 1, 1) := by decide +kernel
theorem dX3_firstFor_43 : decode cX3_firstFor 43 = .ok (.iload 5, 2) := by decide +kernel
theorem dX3_firstFor_45 : decode cX3_firstFor 45 = .ok (.aload_n 2, 1) := by decide +kernel
theorem dX3_firstFor_46 : decode cX3_firstFor 46 = .ok (.invokevirtual 95, 3) := by decide +kernel
theorem dX3_firstFor_49 : decode cX3_firstFor 49 = .ok (.istore 6, 2) := by decide +kernel
theorem dX3_firstFor_51 : decode cX3_firstFor 51 = .ok (.iload_n 3, 1) := by decide +kernel
theorem dX3_firstFor_52 : decode cX3_firstFor 52 = .ok (.iconst (-1), 1) := by decide +kernel
theorem dX3_firstFor_53 : decode cX3_firstFor 53 = .ok (.if_icmp .eq 10, 3) := by decide +kernel
theorem dX3_firstFor_56 : decode cX3_firstFor 56 = .ok (.iload 6, 2) := by decide +kernel
theorem dX3_firstFor_58 : decode cX3_firstFor 58 = .ok (.iload 4, 2) := by decide +kernel
theorem dX3_firstFor_60 : decode cX3_firstFor 60 = .ok (.if_icmp .ge 10, 3) := by decide +kernel
theorem dX3_firstFor_63 : decode cX3_firstFor 63 = .ok (.iload 5, 2) := by decide +kernel
theorem dX3_firstFor_65 : decode cX3_firstFor 65 = .ok (.istore_n 3, 1) := by decide +kernel
theorem dX3_firstFor_66 : decode cX3_firstFor 66 = .ok (.iload 6, 2) := by decide +kernel
theorem dX3_firstFor_68 : decode cX3_firstFor 68 = .ok (.istore 4, 2) := by decide +kernel
theorem dX3_firstFor_70 : decode cX3_firstFor 70 = .ok (.iinc 5 1, 3) := by decide +kernel
theorem dX3_firstFor_73 : decode cX3_firstFor 73 = .ok (.goto (-65), 3) := by decide +kernel
theorem dX3_firstFor_76 : decode cX3_firstFor 76 = .ok (.iload_n 3, 1) := by decide +kernel
theorem dX3_firstFor_77 : decode cX3_firstFor 77 = .ok (.ireturn, 1) := by decide +kernel
theorem dX3_take_0 : decode cX3_take 0 = .ok (.aload_n 0, 1) := by decide +kernel
theorem dX3_take_1 : decode cX3_take 1 = .ok (.getfield 15, 3) := by decide +kernel
theorem dX3_take_4 : decode cX3_take 4 = .ok (.iload_n 1, 1) := by decide +kernel
theorem dX3_take_5 : decode cX3_take 5 = .ok (.iload_n 2, 1) := by decide +kernel
theorem dX3_take_6 : decode cX3_take 6 = .ok (.iastore, 1) := by decide +kernel
theorem dX3_take_7 : decode cX3_take 7 = .ok (.aload_n 0, 1) := by decide +kernel
theorem dX3_take_8 : decode cX3_take 8 = .ok (.getfield 19, 3) := by decide +kernel
theorem dX3_take_11 : decode cX3_take 11 = .ok (.iload_n 1, 1) := by decide +kernel
theorem dX3_take_12 : decode cX3_take 12 = .ok (.aload_n 0, 1) := by decide +kernel
theorem dX3_take_13 : decode cX3_take 13 = .ok (.iload_n 1, 1) := by decide +kernel
theorem dX3_take_14 : decode cX3_take 14 = .ok (.iload_n 2, 1) := by decide +kernel
theorem dX3_take_15 : decode cX3_take 15 = .ok (.aload_n 0, 1) := by decide +kernel
theorem dX3_take_16 : decode cX3_take 16 = .ok (.getfield 22, 3) := by decide +kernel
theorem dX3_take_19 : decode cX3_take 19 = .ok (.iload_n 1, 1) := by decide +kernel
theorem dX3_take_20 : decode cX3_take 20 = .ok (.iaload, 1) := by decide +kernel
theorem dX3_take_21 : decode cX3_take 21 = .ok (.invokevirtual 99, 3) := by decide +kernel
theorem dX3_take_24 : decode cX3_take 24 = .ok (.iastore, 1) := by decide +kernel
theorem dX3_take_25 : decode cX3_take 25 = .ok (.aload_n 0, 1) := by decide +kernel
theorem dX3_take_26 : decode cX3_take 26 = .ok (.getfield 28, 3) := by decide +kernel
theorem dX3_take_29 : decode cX3_take 29 = .ok (.iload_n 2, 1) := by decide +kernel
theorem dX3_take_30 : decode cX3_take 30 = .ok (.iload_n 1, 1) := by decide +kernel
theorem dX3_take_31 : decode cX3_take 31 = .ok (.iastore, 1) := by decide +kernel
theorem dX3_take_32 : decode cX3_take 32 = .ok (.aload_n 0, 1) := by decide +kernel
theorem dX3_take_33 : decode cX3_take 33 = .ok (.getfield 31, 3) := by decide +kernel
theorem dX3_take_36 : decode cX3_take 36 = .ok (.iload_n 2, 1) := by decide +kernel
theorem dX3_take_37 : decode cX3_take 37 = .ok (.aload_n 0, 1) := by decide +kernel
theorem dX3_take_38 : decode cX3_take 38 = .ok (.getfield 9, 3) := by decide +kernel
theorem dX3_take_41 : decode cX3_take 41 = .ok (.iastore, 1) := by decide +kernel
theorem dX3_take_42 : decode cX3_take 42 = .ok (.aload_n 0, 1) := by decide +kernel
theorem dX3_take_43 : decode cX3_take 43 = .ok (.getfield 40, 3) := by decide +kernel
theorem dX3_take_46 : decode cX3_take 46 = .ok (.iload_n 2, 1) := by decide +kernel
theorem dX3_take_47 : decode cX3_take 47 = .ok (.aload_n 0, 1) := by decide +kernel
theorem dX3_take_48 : decode cX3_take 48 = .ok (.getfield 43, 3) := by decide +kernel
theorem dX3_take_51 : decode cX3_take 51 = .ok (.getfield 103, 3) := by decide +kernel
theorem dX3_take_54 : decode cX3_take 54 = .ok (.iload_n 2, 1) := by decide +kernel
theorem dX3_take_55 : decode cX3_take 55 = .ok (.aaload, 1) := by decide +kernel
theorem dX3_take_56 : decode cX3_take 56 = .ok (.aload_n 0, 1) := by decide +kernel
theorem dX3_take_57 : decode cX3_take 57 = .ok (.getfield 22, 3) := by decide +kernel
theorem dX3_take_60 : decode cX3_take 60 = .ok (.iload_n 1, 1) := by decide +kernel
theorem dX3_take_61 : decode cX3_take 61 = .ok (.iaload, 1) := by decide +kernel
theorem dX3_take_62 : decode cX3_take 62 = .ok (.invokevirtual 107, 3) := by decide +kernel
theorem dX3_take_65 : decode cX3_take 65 = .ok (.ifCond .ne 7, 3) := by decide +kernel
theorem dX3_take_68 : decode cX3_take 68 = .ok (.iconst 1, 1) := by decide +kernel
theorem dX3_take_69 : decode cX3_take 69 = .ok (.goto 4, 3) := by decide +kernel
theorem dX3_take_72 : decode cX3_take 72 = .ok (.iconst 0, 1) := by decide +kernel
theorem dX3_take_73 : decode cX3_take 73 = .ok (.iastore, 1) := by decide +kernel
theorem dX3_take_74 : decode cX3_take 74 = .ok (.return_, 1) := by decide +kernel
theorem dX3_rateFor_0 : decode cX3_rateFor 0 = .ok (.iconst 5, 1) := by decide +kernel
theorem dX3_rateFor_1 : decode cX3_rateFor 1 = .ok (.aload_n 0, 1) := by decide +kernel
theorem dX3_rateFor_2 : decode cX3_rateFor 2 = .ok (.getfield 43, 3) := by decide +kernel
theorem dX3_rateFor_5 : decode cX3_rateFor 5 = .ok (.getfield 112, 3) := by decide +kernel
theorem dX3_rateFor_8 : decode cX3_rateFor 8 = .ok (.iload_n 1, 1) := by decide +kernel
theorem dX3_rateFor_9 : decode cX3_rateFor 9 = .ok (.aaload, 1) := by decide +kernel
theorem dX3_rateFor_10 : decode cX3_rateFor 10 = .ok (.getfield 116, 3) := by decide +kernel
theorem dX3_rateFor_13 : decode cX3_rateFor 13 = .ok (.iconst 5, 1) := by decide +kernel
theorem dX3_rateFor_14 : decode cX3_rateFor 14 = .ok (.aload_n 0, 1) := by decide +kernel
theorem dX3_rateFor_15 : decode cX3_rateFor 15 = .ok (.getfield 43, 3) := by decide +kernel
theorem dX3_rateFor_18 : decode cX3_rateFor 18 = .ok (.getfield 103, 3) := by decide +kernel
theorem dX3_rateFor_21 : decode cX3_rateFor 21 = .ok (.iload_n 2, 1) := by decide +kernel
theorem dX3_rateFor_22 : decode cX3_rateFor 22 = .ok (.aaload, 1) := by decide +kernel
theorem dX3_rateFor_23 : decode cX3_rateFor 23 = .ok (.iload_n 3, 1) := by decide +kernel
theorem dX3_rateFor_24 : decode cX3_rateFor 24 = .ok (.invokevirtual 107, 3) := by decide +kernel
theorem dX3_rateFor_27 : decode cX3_rateFor 27 = .ok (.imul, 1) := by decide +kernel
theorem dX3_rateFor_28 : decode cX3_rateFor 28 = .ok (.isub, 1) := by decide +kernel
theorem dX3_rateFor_29 : decode cX3_rateFor 29 = .ok (.invokestatic 121, 3) := by decide +kernel
theorem dX3_rateFor_32 : decode cX3_rateFor 32 = .ok (.ireturn, 1) := by decide +kernel
theorem dX3_changeFrom_0 : decode cX3_changeFrom 0 = .ok (.aload_n 0, 1) := by decide +kernel
theorem dX3_changeFrom_1 : decode cX3_changeFrom 1 = .ok (.getfield 9, 3) := by decide +kernel
theorem dX3_changeFrom_4 : decode cX3_changeFrom 4 = .ok (.aload_n 0, 1) := by decide +kernel
theorem dX3_changeFrom_5 : decode cX3_changeFrom 5 = .ok (.getfield 9, 3) := by decide +kernel
theorem dX3_changeFrom_8 : decode cX3_changeFrom 8 = .ok (.sipush 480, 3) := by decide +kernel
theorem dX3_changeFrom_11 : decode cX3_changeFrom 11 = .ok (.irem, 1) := by decide +kernel
theorem dX3_changeFrom_12 : decode cX3_changeFrom 12 = .ok (.isub, 1) := by decide +kernel
theorem dX3_changeFrom_13 : decode cX3_changeFrom 13 = .ok (.sipush 480, 3) := by decide +kernel
theorem dX3_changeFrom_16 : decode cX3_changeFrom 16 = .ok (.iadd, 1) := by decide +kernel
theorem dX3_changeFrom_17 : decode cX3_changeFrom 17 = .ok (.istore_n 3, 1) := by decide +kernel
theorem dX3_changeFrom_18 : decode cX3_changeFrom 18 = .ok (.aload_n 0, 1) := by decide +kernel
theorem dX3_changeFrom_19 : decode cX3_changeFrom 19 = .ok (.getfield 43, 3) := by decide +kernel
theorem dX3_changeFrom_22 : decode cX3_changeFrom 22 = .ok (.aload_n 0, 1) := by decide +kernel
theorem dX3_changeFrom_23 : decode cX3_changeFrom 23 = .ok (.getfield 9, 3) := by decide +kernel
theorem dX3_changeFrom_26 : decode cX3_changeFrom 26 = .ok (.iload_n 2, 1) := by decide +kernel
theorem dX3_changeFrom_27 : decode cX3_changeFrom 27 = .ok (.iload_n 3, 1) := by decide +kernel
theorem dX3_changeFrom_28 : decode cX3_changeFrom 28 = .ok (.invokestatic 126, 3) := by decide +kernel
theorem dX3_changeFrom_31 : decode cX3_changeFrom 31 = .ok (.invokevirtual 129, 3) := by decide +kernel
theorem dX3_changeFrom_34 : decode cX3_changeFrom 34 = .ok (.istore 4, 2) := by decide +kernel
theorem dX3_changeFrom_36 : decode cX3_changeFrom 36 = .ok (.iconst 0, 1) := by decide +kernel
theorem dX3_changeFrom_37 : decode cX3_changeFrom 37 = .ok (.istore 5, 2) := by decide +kernel
theorem dX3_changeFrom_39 : decode cX3_changeFrom 39 = .ok (.iload 5, 2) := by decide +kernel
theorem dX3_changeFrom_41 : decode cX3_changeFrom 41 = .ok (.aload_n 0, 1) := by decide +kernel
theorem dX3_changeFrom_42 : decode cX3_changeFrom 42 = .ok (.getfield 43, 3) := by decide +kernel
theorem dX3_changeFrom_45 : decode cX3_changeFrom 45 = .ok (.getfield 75, 3) := by decide +kernel
theorem dX3_changeFrom_48 : decode cX3_changeFrom 48 = .ok (.if_icmp .ge 53, 3) := by decide +kernel
theorem dX3_changeFrom_51 : decode cX3_changeFrom 51 = .ok (.aload_n 0, 1) := by decide +kernel
theorem dX3_changeFrom_52 : decode cX3_changeFrom 52 = .ok (.iload 5, 2) := by decide +kernel
theorem dX3_changeFrom_54 : decode cX3_changeFrom 54 = .ok (.iload_n 1, 1) := by decide +kernel
theorem dX3_changeFrom_55 : decode cX3_changeFrom 55 = .ok (.invokevirtual 132, 3) := by decide +kernel
theorem dX3_changeFrom_58 : decode cX3_changeFrom 58 = .ok (.ifCond .eq 37, 3) := by decide +kernel
theorem dX3_changeFrom_61 : decode cX3_changeFrom 61 = .ok (.iload 4, 2) := by decide +kernel
theorem dX3_changeFrom_63 : decode cX3_changeFrom 63 = .ok (.aload_n 0, 1) := by decide +kernel
theorem dX3_changeFrom_64 : decode cX3_changeFrom 64 = .ok (.getfield 9, 3) := by decide +kernel
theorem dX3_changeFrom_67 : decode cX3_changeFrom 67 = .ok (.aload_n 0, 1) := by decide +kernel
theorem dX3_changeFrom_68 : decode cX3_changeFrom 68 = .ok (.getfield 37, 3) := by decide +kernel
theorem dX3_changeFrom_71 : decode cX3_changeFrom 71 = .ok (.aload_n 0, 1) := by decide +kernel
theorem dX3_changeFrom_72 : decode cX3_changeFrom 72 = .ok (.getfield 15, 3) := by decide +kernel
theorem dX3_changeFrom_75 : decode cX3_changeFrom 75 = .ok (.iload 5, 2) := by decide +kernel
theorem dX3_changeFrom_77 : decode cX3_changeFrom 77 = .ok (.iaload, 1) := by decide +kernel
theorem dX3_changeFrom_78 : decode cX3_changeFrom 78 = .ok (.iaload, 1) := by decide +kernel
theorem dX3_changeFrom_79 : decode cX3_changeFrom 79 = .ok (.aload_n 0, 1) := by decide +kernel
theorem dX3_changeFrom_80 : decode cX3_changeFrom 80 = .ok (.getfield 19, 3) := by decide +kernel
theorem dX3_changeFrom_83 : decode cX3_changeFrom 83 = .ok (.iload 5, 2) := by decide +kernel
theorem dX3_changeFrom_85 : decode cX3_changeFrom 85 = .ok (.iaload, 1) := by decide +kernel
theorem dX3_changeFrom_86 : decode cX3_changeFrom 86 = .ok (.invokestatic 136, 3) := by decide +kernel
theorem dX3_changeFrom_89 : decode cX3_changeFrom 89 = .ok (.iadd, 1) := by decide +kernel
theorem dX3_changeFrom_90 : decode cX3_changeFrom 90 = .ok (.invokestatic 126, 3) := by decide +kernel
theorem dX3_changeFrom_93 : decode cX3_changeFrom 93 = .ok (.istore 4, 2) := by decide +kernel
theorem dX3_changeFrom_95 : decode cX3_changeFrom 95 = .ok (.iinc 5 1, 3) := by decide +kernel
theorem dX3_changeFrom_98 : decode cX3_changeFrom 98 = .ok (.goto (-59), 3) := by decide +kernel
theorem dX3_changeFrom_101 : decode cX3_changeFrom 101 = .ok (.iload 4, 2) := by decide +kernel
theorem dX3_changeFrom_103 : decode cX3_changeFrom 103 = .ok (.ireturn, 1) := by decide +kernel
theorem dX3_isBusy_0 : decode cX3_isBusy 0 = .ok (.iload_n 2, 1) := by decide +kernel
theorem dX3_isBusy_1 : decode cX3_isBusy 1 = .ok (.iload_n 1, 1) := by decide +kernel
theorem dX3_isBusy_2 : decode cX3_isBusy 2 = .ok (.ishr, 1) := by decide +kernel
theorem dX3_isBusy_3 : decode cX3_isBusy 3 = .ok (.iconst 1, 1) := by decide +kernel
theorem dX3_isBusy_4 : decode cX3_isBusy 4 = .ok (.iand, 1) := by decide +kernel
theorem dX3_isBusy_5 : decode cX3_isBusy 5 = .ok (.ifCond .ne 23, 3) := by decide +kernel
theorem dX3_isBusy_8 : decode cX3_isBusy 8 = .ok (.aload_n 0, 1) := by decide +kernel
theorem dX3_isBusy_9 : decode cX3_isBusy 9 = .ok (.getfield 43, 3) := by decide +kernel
theorem dX3_isBusy_12 : decode cX3_isBusy 12 = .ok (.aload_n 0, 1) := by decide +kernel
theorem dX3_isBusy_13 : decode cX3_isBusy 13 = .ok (.getfield 15, 3) := by decide +kernel
theorem dX3_isBusy_16 : decode cX3_isBusy 16 = .ok (.iload_n 1, 1) := by decide +kernel
theorem dX3_isBusy_17 : decode cX3_isBusy 17 = .ok (.iaload, 1) := by decide +kernel
theorem dX3_isBusy_18 : decode cX3_isBusy 18 = .ok (.invokevirtual 139, 3) := by decide +kernel
theorem dX3_isBusy_21 : decode cX3_isBusy 21 = .ok (.ifCond .eq 7, 3) := by decide +kernel
theorem dX3_isBusy_24 : decode cX3_isBusy 24 = .ok (.iconst 1, 1) := by decide +kernel
theorem dX3_isBusy_25 : decode cX3_isBusy 25 = .ok (.goto 4, 3) := by decide +kernel
theorem dX3_isBusy_28 : decode cX3_isBusy 28 = .ok (.iconst 0, 1) := by decide +kernel
theorem dX3_isBusy_29 : decode cX3_isBusy 29 = .ok (.ireturn, 1) := by decide +kernel
theorem dX3_workAll_0 : decode cX3_workAll 0 = .ok (.iconst 0, 1) := by decide +kernel
theorem dX3_workAll_1 : decode cX3_workAll 1 = .ok (.istore_n 3, 1) := by decide +kernel
theorem dX3_workAll_2 : decode cX3_workAll 2 = .ok (.iload_n 3, 1) := by decide +kernel
theorem dX3_workAll_3 : decode cX3_workAll 3 = .ok (.aload_n 0, 1) := by decide +kernel
theorem dX3_workAll_4 : decode cX3_workAll 4 = .ok (.getfield 43, 3) := by decide +kernel
theorem dX3_workAll_7 : decode cX3_workAll 7 = .ok (.getfield 75, 3) := by decide +kernel
theorem dX3_workAll_10 : decode cX3_workAll 10 = .ok (.if_icmp .ge 77, 3) := by decide +kernel
theorem dX3_workAll_13 : decode cX3_workAll 13 = .ok (.aload_n 0, 1) := by decide +kernel
theorem dX3_workAll_14 : decode cX3_workAll 14 = .ok (.iload_n 3, 1) := by decide +kernel
theorem dX3_workAll_15 : decode cX3_workAll 15 = .ok (.iload_n 1, 1) := by decide +kernel
theorem dX3_workAll_16 : decode cX3_workAll 16 = .ok (.invokevirtual 132, 3) := by decide +kernel
theorem dX3_workAll_19 : decode cX3_workAll 19 = .ok (.ifCond .eq 62, 3) := by decide +kernel
theorem dX3_workAll_22 : decode cX3_workAll 22 = .ok (.aload_n 0, 1) := by decide +kernel
theorem dX3_workAll_23 : decode cX3_workAll 23 = .ok (.getfield 15, 3) := by decide +kernel
theorem dX3_workAll_26 : decode cX3_workAll 26 = .ok (.iload_n 3, 1) := by decide +kernel
theorem dX3_workAll_27 : decode cX3_workAll 27 = .ok (.iaload, 1) := by decide +kernel
theorem dX3_workAll_28 : decode cX3_workAll 28 = .ok (.istore 4, 2) := by decide +kernel
theorem dX3_workAll_30 : decode cX3_workAll 30 = .ok (.aload_n 0, 1) := by decide +kernel
theorem dX3_workAll_31 : decode cX3_workAll 31 = .ok (.getfield 25, 3) := by decide +kernel
theorem dX3_workAll_34 : decode cX3_workAll 34 = .ok (.iload_n 3, 1) := by decide +kernel
theorem dX3_workAll_35 : decode cX3_workAll 35 = .ok (.dup2, 1) := by decide +kernel
theorem dX3_workAll_36 : decode cX3_workAll 36 = .ok (.iaload, 1) := by decide +kernel
theorem dX3_workAll_37 : decode cX3_workAll 37 = .ok (.iload_n 2, 1) := by decide +kernel
theorem dX3_workAll_38 : decode cX3_workAll 38 = .ok (.iadd, 1) := by decide +kernel
theorem dX3_workAll_39 : decode cX3_workAll 39 = .ok (.iastore, 1) := by decide +kernel
theorem dX3_workAll_40 : decode cX3_workAll 40 = .ok (.aload_n 0, 1) := by decide +kernel
theorem dX3_workAll_41 : decode cX3_workAll 41 = .ok (.getfield 37, 3) := by decide +kernel
theorem dX3_workAll_44 : decode cX3_workAll 44 = .ok (.iload 4, 2) := by decide +kernel
theorem dX3_workAll_46 : decode cX3_workAll 46 = .ok (.dup2, 1) := by decide +kernel
theorem dX3_workAll_47 : decode cX3_workAll 47 = .ok (.iaload, 1) := by decide +kernel
theorem dX3_workAll_48 : decode cX3_workAll 48 = .ok (.aload_n 0, 1) := by decide +kernel
theorem dX3_workAll_49 : decode cX3_workAll 49 = .ok (.getfield 19, 3) := by decide +kernel
theorem dX3_workAll_52 : decode cX3_workAll 52 = .ok (.iload_n 3, 1) := by decide +kernel
theorem dX3_workAll_53 : decode cX3_workAll 53 = .ok (.iaload, 1) := by decide +kernel
theorem dX3_workAll_54 : decode cX3_workAll 54 = .ok (.iload_n 2, 1) := by decide +kernel
theorem dX3_workAll_55 : decode cX3_workAll 55 = .ok (.imul, 1) := by decide +kernel
theorem dX3_workAll_56 : decode cX3_workAll 56 = .ok (.isub, 1) := by decide +kernel
theorem dX3_workAll_57 : decode cX3_workAll 57 = .ok (.iastore, 1) := by decide +kernel
theorem dX3_workAll_58 : decode cX3_workAll 58 = .ok (.aload_n 0, 1) := by decide +kernel
theorem dX3_workAll_59 : decode cX3_workAll 59 = .ok (.getfield 37, 3) := by decide +kernel
theorem dX3_workAll_62 : decode cX3_workAll 62 = .ok (.iload 4, 2) := by decide +kernel
theorem dX3_workAll_64 : decode cX3_workAll 64 = .ok (.iaload, 1) := by decide +kernel
theorem dX3_workAll_65 : decode cX3_workAll 65 = .ok (.ifCond .gt 16, 3) := by decide +kernel
theorem dX3_workAll_68 : decode cX3_workAll 68 = .ok (.aload_n 0, 1) := by decide +kernel
theorem dX3_workAll_69 : decode cX3_workAll 69 = .ok (.iload_n 3, 1) := by decide +kernel
theorem dX3_workAll_70 : decode cX3_workAll 70 = .ok (.iload 4, 2) := by decide +kernel
theorem dX3_workAll_72 : decode cX3_workAll 72 = .ok (.aload_n 0, 1) := by decide +kernel
theorem dX3_workAll_73 : decode cX3_workAll 73 = .ok (.getfield 9, 3) := by decide +kernel
theorem dX3_workAll_76 : decode cX3_workAll 76 = .ok (.iload_n 2, 1) := by decide +kernel
theorem dX3_workAll_77 : decode cX3_workAll 77 = .ok (.iadd, 1) := by decide +kernel
theorem dX3_workAll_78 : decode cX3_workAll 78 = .ok (.invokevirtual 143, 3) := by decide +kernel
theorem dX3_workAll_81 : decode cX3_workAll 81 = .ok (.iinc 3 1, 3) := by decide +kernel
theorem dX3_workAll_84 : decode cX3_workAll 84 = .ok (.goto (-82), 3) := by decide +kernel
theorem dX3_workAll_87 : decode cX3_workAll 87 = .ok (.return_, 1) := by decide +kernel
theorem dX3_finish_0 : decode cX3_finish 0 = .ok (.aload_n 0, 1) := by decide +kernel
theorem dX3_finish_1 : decode cX3_finish 1 = .ok (.getfield 37, 3) := by decide +kernel
theorem dX3_finish_4 : decode cX3_finish 4 = .ok (.iload_n 2, 1) := by decide +kernel
theorem dX3_finish_5 : decode cX3_finish 5 = .ok (.iconst 0, 1) := by decide +kernel
theorem dX3_finish_6 : decode cX3_finish 6 = .ok (.iastore, 1) := by decide +kernel
theorem dX3_finish_7 : decode cX3_finish 7 = .ok (.aload_n 0, 1) := by decide +kernel
theorem dX3_finish_8 : decode cX3_finish 8 = .ok (.getfield 34, 3) := by decide +kernel
theorem dX3_finish_11 : decode cX3_finish 11 = .ok (.iload_n 2, 1) := by decide +kernel
theorem dX3_finish_12 : decode cX3_finish 12 = .ok (.iload_n 3, 1) := by decide +kernel
theorem dX3_finish_13 : decode cX3_finish 13 = .ok (.iastore, 1) := by decide +kernel
theorem dX3_finish_14 : decode cX3_finish 14 = .ok (.aload_n 0, 1) := by decide +kernel
theorem dX3_finish_15 : decode cX3_finish 15 = .ok (.getfield 22, 3) := by decide +kernel
theorem dX3_finish_18 : decode cX3_finish 18 = .ok (.iload_n 1, 1) := by decide +kernel
theorem dX3_finish_19 : decode cX3_finish 19 = .ok (.dup2, 1) := by decide +kernel
theorem dX3_finish_20 : decode cX3_finish 20 = .ok (.iaload, 1) := by decide +kernel
theorem dX3_finish_21 : decode cX3_finish 21 = .ok (.aload_n 0, 1) := by decide +kernel
theorem dX3_finish_22 : decode cX3_finish 22 = .ok (.getfield 43, 3) := by decide +kernel
theorem dX3_finish_25 : decode cX3_finish 25 = .ok (.getfield 103, 3) := by decide +kernel
theorem dX3_finish_28 : decode cX3_finish 28 = .ok (.iload_n 2, 1) := by decide +kernel
theorem dX3_finish_29 : decode cX3_finish 29 = .ok (.aaload, 1) := by decide +kernel
theorem dX3_finish_30 : decode cX3_finish 30 = .ok (.getfield 147, 3) := by decide +kernel
theorem dX3_finish_33 : decode cX3_finish 33 = .ok (.ior, 1) := by decide +kernel
theorem dX3_finish_34 : decode cX3_finish 34 = .ok (.iastore, 1) := by decide +kernel
theorem dX3_finish_35 : decode cX3_finish 35 = .ok (.aload_n 0, 1) := by decide +kernel
theorem dX3_finish_36 : decode cX3_finish 36 = .ok (.getfield 15, 3) := by decide +kernel
theorem dX3_finish_39 : decode cX3_finish 39 = .ok (.iload_n 1, 1) := by decide +kernel
theorem dX3_finish_40 : decode cX3_finish 40 = .ok (.iconst (-1), 1) := by decide +kernel
theorem dX3_finish_41 : decode cX3_finish 41 = .ok (.iastore, 1) := by decide +kernel
theorem dX3_finish_42 : decode cX3_finish 42 = .ok (.aload_n 0, 1) := by decide +kernel
theorem dX3_finish_43 : decode cX3_finish 43 = .ok (.getfield 19, 3) := by decide +kernel
theorem dX3_finish_46 : decode cX3_finish 46 = .ok (.iload_n 1, 1) := by decide +kernel
theorem dX3_finish_47 : decode cX3_finish 47 = .ok (.iconst (-1), 1) := by decide +kernel
theorem dX3_finish_48 : decode cX3_finish 48 = .ok (.iastore, 1) := by decide +kernel
theorem dX3_finish_49 : decode cX3_finish 49 = .ok (.return_, 1) := by decide +kernel
theorem dX3_today_0 : decode cX3_today 0 = .ok (.aload_n 0, 1) := by decide +kernel
theorem dX3_today_1 : decode cX3_today 1 = .ok (.getfield 9, 3) := by decide +kernel
theorem dX3_today_4 : decode cX3_today 4 = .ok (.sipush 480, 3) := by decide +kernel
theorem dX3_today_7 : decode cX3_today 7 = .ok (.idiv, 1) := by decide +kernel
theorem dX3_today_8 : decode cX3_today 8 = .ok (.ireturn, 1) := by decide +kernel
theorem dX3_mayDo_0 : decode cX3_mayDo 0 = .ok (.aload_n 0, 1) := by decide +kernel
theorem dX3_mayDo_1 : decode cX3_mayDo 1 = .ok (.getfield 43, 3) := by decide +kernel
theorem dX3_mayDo_4 : decode cX3_mayDo 4 = .ok (.getfield 112, 3) := by decide +kernel
theorem dX3_mayDo_7 : decode cX3_mayDo 7 = .ok (.iload_n 1, 1) := by decide +kernel
theorem dX3_mayDo_8 : decode cX3_mayDo 8 = .ok (.aaload, 1) := by decide +kernel
theorem dX3_mayDo_9 : decode cX3_mayDo 9 = .ok (.astore 4, 2) := by decide +kernel
theorem dX3_mayDo_11 : decode cX3_mayDo 11 = .ok (.aload_n 0, 1) := by decide +kernel
theorem dX3_mayDo_12 : decode cX3_mayDo 12 = .ok (.getfield 43, 3) := by decide +kernel
theorem dX3_mayDo_15 : decode cX3_mayDo 15 = .ok (.getfield 103, 3) := by decide +kernel
theorem dX3_mayDo_18 : decode cX3_mayDo 18 = .ok (.iload_n 2, 1) := by decide +kernel
theorem dX3_mayDo_19 : decode cX3_mayDo 19 = .ok (.aaload, 1) := by decide +kernel
theorem dX3_mayDo_20 : decode cX3_mayDo 20 = .ok (.astore 5, 2) := by decide +kernel
theorem dX3_mayDo_22 : decode cX3_mayDo 22 = .ok (.aload 4, 2) := by decide +kernel
theorem dX3_mayDo_24 : decode cX3_mayDo 24 = .ok (.getfield 149, 3) := by decide +kernel
theorem dX3_mayDo_27 : decode cX3_mayDo 27 = .ok (.aload 5, 2) := by decide +kernel
theorem dX3_mayDo_29 : decode cX3_mayDo 29 = .ok (.getfield 152, 3) := by decide +kernel
theorem dX3_mayDo_32 : decode cX3_mayDo 32 = .ok (.ishr, 1) := by decide +kernel
theorem dX3_mayDo_33 : decode cX3_mayDo 33 = .ok (.iconst 1, 1) := by decide +kernel
theorem dX3_mayDo_34 : decode cX3_mayDo 34 = .ok (.iand, 1) := by decide +kernel
theorem dX3_mayDo_35 : decode cX3_mayDo 35 = .ok (.ifCond .ne 5, 3) := by decide +kernel
theorem dX3_mayDo_38 : decode cX3_mayDo 38 = .ok (.iconst 0, 1) := by decide +kernel
theorem dX3_mayDo_39 : decode cX3_mayDo 39 = .ok (.ireturn, 1) := by decide +kernel
theorem dX3_mayDo_40 : decode cX3_mayDo 40 = .ok (.aload_n 0, 1) := by decide +kernel
theorem dX3_mayDo_41 : decode cX3_mayDo 41 = .ok (.getfield 47, 3) := by decide +kernel
theorem dX3_mayDo_44 : decode cX3_mayDo 44 = .ok (.getfield 155, 3) := by decide +kernel
theorem dX3_mayDo_47 : decode cX3_mayDo 47 = .ok (.astore 6, 2) := by decide +kernel
theorem dX3_mayDo_49 : decode cX3_mayDo 49 = .ok (.aload 6, 2) := by decide +kernel
theorem dX3_mayDo_51 : decode cX3_mayDo 51 = .ok (.iconst 0, 1) := by decide +kernel
theorem dX3_mayDo_52 : decode cX3_mayDo 52 = .ok (.aload 5, 2) := by decide +kernel
theorem dX3_mayDo_54 : decode cX3_mayDo 54 = .ok (.getfield 160, 3) := by decide +kernel
theorem dX3_mayDo_57 : decode cX3_mayDo 57 = .ok (.iastore, 1) := by decide +kernel
theorem dX3_mayDo_58 : decode cX3_mayDo 58 = .ok (.aload 6, 2) := by decide +kernel
theorem dX3_mayDo_60 : decode cX3_mayDo 60 = .ok (.iconst 1, 1) := by decide +kernel
theorem dX3_mayDo_61 : decode cX3_mayDo 61 = .ok (.aload 4, 2) := by decide +kernel
theorem dX3_mayDo_63 : decode cX3_mayDo 63 = .ok (.getfield 163, 3) := by decide +kernel
theorem dX3_mayDo_66 : decode cX3_mayDo 66 = .ok (.iastore, 1) := by decide +kernel
theorem dX3_mayDo_67 : decode cX3_mayDo 67 = .ok (.aload 6, 2) := by decide +kernel
theorem dX3_mayDo_69 : decode cX3_mayDo 69 = .ok (.iconst 2, 1) := by decide +kernel
theorem dX3_mayDo_70 : decode cX3_mayDo 70 = .ok (.aload 5, 2) := by decide +kernel
theorem dX3_mayDo_72 : decode cX3_mayDo 72 = .ok (.getfield 166, 3) := by decide +kernel
theorem dX3_mayDo_75 : decode cX3_mayDo 75 = .ok (.iastore, 1) := by decide +kernel
theorem dX3_mayDo_76 : decode cX3_mayDo 76 = .ok (.aload 6, 2) := by decide +kernel
theorem dX3_mayDo_78 : decode cX3_mayDo 78 = .ok (.iconst 3, 1) := by decide +kernel
theorem dX3_mayDo_79 : decode cX3_mayDo 79 = .ok (.iload_n 1, 1) := by decide +kernel
theorem dX3_mayDo_80 : decode cX3_mayDo 80 = .ok (.iastore, 1) := by decide +kernel
theorem dX3_mayDo_81 : decode cX3_mayDo 81 = .ok (.aload_n 0, 1) := by decide +kernel
theorem dX3_mayDo_82 : decode cX3_mayDo 82 = .ok (.getfield 47, 3) := by decide +kernel
theorem dX3_mayDo_85 : decode cX3_mayDo 85 = .ok (.aload_n 0, 1) := by decide +kernel
theorem dX3_mayDo_86 : decode cX3_mayDo 86 = .ok (.getfield 47, 3) := by decide +kernel
theorem dX3_mayDo_89 : decode cX3_mayDo 89 = .ok (.iconst 1, 1) := by decide +kernel
theorem dX3_mayDo_90 : decode cX3_mayDo 90 = .ok (.aload_n 0, 1) := by decide +kernel
theorem dX3_mayDo_91 : decode cX3_mayDo 91 = .ok (.invokevirtual 169, 3) := by decide +kernel
theorem dX3_mayDo_94 : decode cX3_mayDo 94 = .ok (.aload_n 3, 1) := by decide +kernel
theorem dX3_mayDo_95 : decode cX3_mayDo 95 = .ok (.invokevirtual 173, 3) := by decide +kernel
theorem dX3_mayDo_98 : decode cX3_mayDo 98 = .ok (.invokevirtual 177, 3) := by decide +kernel
theorem dX3_mayDo_101 : decode cX3_mayDo 101 = .ok (.ifCond .eq 7, 3) := by decide +kernel
theorem dX3_mayDo_104 : decode cX3_mayDo 104 = .ok (.iconst 1, 1) := by decide +kernel
theorem dX3_mayDo_105 : decode cX3_mayDo 105 = .ok (.goto 4, 3) := by decide +kernel
theorem dX3_mayDo_108 : decode cX3_mayDo 108 = .ok (.iconst 0, 1) := by decide +kernel
theorem dX3_mayDo_109 : decode cX3_mayDo 109 = .ok (.ireturn, 1) := by decide +kernel
theorem dX3_haste_0 : decode cX3_haste 0 = .ok (.aload_n 0, 1) := by decide +kernel
theorem dX3_haste_1 : decode cX3_haste 1 = .ok (.getfield 43, 3) := by decide +kernel
theorem dX3_haste_4 : decode cX3_haste 4 = .ok (.getfield 103, 3) := by decide +kernel
theorem dX3_haste_7 : decode cX3_haste 7 = .ok (.iload_n 2, 1) := by decide +kernel
theorem dX3_haste_8 : decode cX3_haste 8 = .ok (.aaload, 1) := by decide +kernel
theorem dX3_haste_9 : decode cX3_haste 9 = .ok (.astore 4, 2) := by decide +kernel
theorem dX3_haste_11 : decode cX3_haste 11 = .ok (.aload_n 0, 1) := by decide +kernel
theorem dX3_haste_12 : decode cX3_haste 12 = .ok (.getfield 47, 3) := by decide +kernel
theorem dX3_haste_15 : decode cX3_haste 15 = .ok (.getfield 155, 3) := by decide +kernel
theorem dX3_haste_18 : decode cX3_haste 18 = .ok (.astore 5, 2) := by decide +kernel
theorem dX3_haste_20 : decode cX3_haste 20 = .ok (.aload 5, 2) := by decide +kernel
theorem dX3_haste_22 : decode cX3_haste 22 = .ok (.iconst 0, 1) := by decide +kernel
theorem dX3_haste_23 : decode cX3_haste 23 = .ok (.aload 4, 2) := by decide +kernel
theorem dX3_haste_25 : decode cX3_haste 25 = .ok (.getfield 181, 3) := by decide +kernel
theorem dX3_haste_28 : decode cX3_haste 28 = .ok (.iastore, 1) := by decide +kernel
theorem dX3_haste_29 : decode cX3_haste 29 = .ok (.aload 5, 2) := by decide +kernel
theorem dX3_haste_31 : decode cX3_haste 31 = .ok (.iconst 1, 1) := by decide +kernel
theorem dX3_haste_32 : decode cX3_haste 32 = .ok (.aload_n 0, 1) := by decide +kernel
theorem dX3_haste_33 : decode cX3_haste 33 = .ok (.getfield 9, 3) := by decide +kernel
theorem dX3_haste_36 : decode cX3_haste 36 = .ok (.aload 4, 2) := by decide +kernel
theorem dX3_haste_38 : decode cX3_haste 38 = .ok (.getfield 184, 3) := by decide +kernel
theorem dX3_haste_41 : decode cX3_haste 41 = .ok (.isub, 1) := by decide +kernel
theorem dX3_haste_42 : decode cX3_haste 42 = .ok (.iastore, 1) := by decide +kernel
theorem dX3_haste_43 : decode cX3_haste 43 = .ok (.aload 5, 2) := by decide +kernel
theorem dX3_haste_45 : decode cX3_haste 45 = .ok (.iconst 2, 1) := by decide +kernel
theorem dX3_haste_46 : decode cX3_haste 46 = .ok (.aload 4, 2) := by decide +kernel
theorem dX3_haste_48 : decode cX3_haste 48 = .ok (.getfield 187, 3) := by decide +kernel
theorem dX3_haste_51 : decode cX3_haste 51 = .ok (.iastore, 1) := by decide +kernel
theorem dX3_haste_52 : decode cX3_haste 52 = .ok (.aload 5, 2) := by decide +kernel
theorem dX3_haste_54 : decode cX3_haste 54 = .ok (.iconst 3, 1) := by decide +kernel
theorem dX3_haste_55 : decode cX3_haste 55 = .ok (.aload 4, 2) := by decide +kernel
theorem dX3_haste_57 : decode cX3_haste 57 = .ok (.getfield 190, 3) := by decide +kernel
theorem dX3_haste_60 : decode cX3_haste 60 = .ok (.aload_n 0, 1) := by decide +kernel
theorem dX3_haste_61 : decode cX3_haste 61 = .ok (.getfield 9, 3) := by decide +kernel
theorem dX3_haste_64 : decode cX3_haste 64 = .ok (.isub, 1) := by decide +kernel
theorem dX3_haste_65 : decode cX3_haste 65 = .ok (.iastore, 1) := by decide +kernel
theorem dX3_haste_66 : decode cX3_haste 66 = .ok (.aload 5, 2) := by decide +kernel
theorem dX3_haste_68 : decode cX3_haste 68 = .ok (.iconst 4, 1) := by decide +kernel
theorem dX3_haste_69 : decode cX3_haste 69 = .ok (.aload 4, 2) := by decide +kernel
theorem dX3_haste_71 : decode cX3_haste 71 = .ok (.getfield 160, 3) := by decide +kernel
theorem dX3_haste_74 : decode cX3_haste 74 = .ok (.iastore, 1) := by decide +kernel
theorem dX3_haste_75 : decode cX3_haste 75 = .ok (.aload 5, 2) := by decide +kernel
theorem dX3_haste_77 : decode cX3_haste 77 = .ok (.iconst 5, 1) := by decide +kernel
theorem dX3_haste_78 : decode cX3_haste 78 = .ok (.aload 4, 2) := by decide +kernel
theorem dX3_haste_80 : decode cX3_haste 80 = .ok (.getfield 166, 3) := by decide +kernel
theorem dX3_haste_83 : decode cX3_haste 83 = .ok (.iastore, 1) := by decide +kernel
theorem dX3_haste_84 : decode cX3_haste 84 = .ok (.aload 5, 2) := by decide +kernel
theorem dX3_haste_86 : decode cX3_haste 86 = .ok (.bipush 6, 2) := by decide +kernel
theorem dX3_haste_88 : decode cX3_haste 88 = .ok (.aload 4, 2) := by decide +kernel
theorem dX3_haste_90 : decode cX3_haste 90 = .ok (.aload_n 0, 1) := by decide +kernel
theorem dX3_haste_91 : decode cX3_haste 91 = .ok (.getfield 22, 3) := by decide +kernel
theorem dX3_haste_94 : decode cX3_haste 94 = .ok (.iload_n 1, 1) := by decide +kernel
theorem dX3_haste_95 : decode cX3_haste 95 = .ok (.iaload, 1) := by decide +kernel
theorem dX3_haste_96 : decode cX3_haste 96 = .ok (.invokevirtual 107, 3) := by decide +kernel
theorem dX3_haste_99 : decode cX3_haste 99 = .ok (.iastore, 1) := by decide +kernel
theorem dX3_haste_100 : decode cX3_haste 100 = .ok (.aload 5, 2) := by decide +kernel
theorem dX3_haste_102 : decode cX3_haste 102 = .ok (.bipush 7, 2) := by decide +kernel
theorem dX3_haste_104 : decode cX3_haste 104 = .ok (.aload_n 0, 1) := by decide +kernel
theorem dX3_haste_105 : decode cX3_haste 105 = .ok (.aload 4, 2) := by decide +kernel
theorem dX3_haste_107 : decode cX3_haste 107 = .ok (.getfield 166, 3) := by decide +kernel
theorem dX3_haste_110 : decode cX3_haste 110 = .ok (.invokevirtual 193, 3) := by decide +kernel
theorem dX3_haste_113 : decode cX3_haste 113 = .ok (.iastore, 1) := by decide +kernel
theorem dX3_haste_114 : decode cX3_haste 114 = .ok (.aload_n 0, 1) := by decide +kernel
theorem dX3_haste_115 : decode cX3_haste 115 = .ok (.getfield 47, 3) := by decide +kernel
theorem dX3_haste_118 : decode cX3_haste 118 = .ok (.aload_n 0, 1) := by decide +kernel
theorem dX3_haste_119 : decode cX3_haste 119 = .ok (.getfield 47, 3) := by decide +kernel
theorem dX3_haste_122 : decode cX3_haste 122 = .ok (.iconst 0, 1) := by decide +kernel
theorem dX3_haste_123 : decode cX3_haste 123 = .ok (.aload_n 0, 1) := by decide +kernel
theorem dX3_haste_124 : decode cX3_haste 124 = .ok (.invokevirtual 169, 3) := by decide +kernel
theorem dX3_haste_127 : decode cX3_haste 127 = .ok (.aload_n 3, 1) := by decide +kernel
theorem dX3_haste_128 : decode cX3_haste 128 = .ok (.invokevirtual 173, 3) := by decide +kernel
theorem dX3_haste_131 : decode cX3_haste 131 = .ok (.invokevirtual 177, 3) := by decide +kernel
theorem dX3_haste_134 : decode cX3_haste 134 = .ok (.ireturn, 1) := by decide +kernel
theorem dX3_waitingIn_0 : decode cX3_waitingIn 0 = .ok (.iconst 0, 1) := by decide +kernel
theorem dX3_waitingIn_1 : decode cX3_waitingIn 1 = .ok (.istore_n 2, 1) := by decide +kernel
theorem dX3_waitingIn_2 : decode cX3_waitingIn 2 = .ok (.iconst 0, 1) := by decide +kernel
theorem dX3_waitingIn_3 : decode cX3_waitingIn 3 = .ok (.istore_n 3, 1) := by decide +kernel
theorem dX3_waitingIn_4 : decode cX3_waitingIn 4 = .ok (.iload_n 3, 1) := by decide +kernel
theorem dX3_waitingIn_5 : decode cX3_waitingIn 5 = .ok (.aload_n 0, 1) := by decide +kernel
theorem dX3_waitingIn_6 : decode cX3_waitingIn 6 = .ok (.getfield 43, 3) := by decide +kernel
theorem dX3_waitingIn_9 : decode cX3_waitingIn 9 = .ok (.getfield 85, 3) := by decide +kernel
theorem dX3_waitingIn_12 : decode cX3_waitingIn 12 = .ok (.if_icmp .ge 37, 3) := by decide +kernel
theorem dX3_waitingIn_15 : decode cX3_waitingIn 15 = .ok (.aload_n 0, 1) := by decide +kernel
theorem dX3_waitingIn_16 : decode cX3_waitingIn 16 = .ok (.getfield 43, 3) := by decide +kernel
theorem dX3_waitingIn_19 : decode cX3_waitingIn 19 = .ok (.getfield 103, 3) := by decide +kernel
theorem dX3_waitingIn_22 : decode cX3_waitingIn 22 = .ok (.iload_n 3, 1) := by decide +kernel
theorem dX3_waitingIn_23 : decode cX3_waitingIn 23 = .ok (.aaload, 1) := by decide +kernel
theorem dX3_waitingIn_24 : decode cX3_waitingIn 24 = .ok (.getfield 166, 3) := by decide +kernel
theorem dX3_waitingIn_27 : decode cX3_waitingIn 27 = .ok (.iload_n 1, 1) := by decide +kernel
theorem dX3_waitingIn_28 : decode cX3_waitingIn 28 = .ok (.if_icmp .ne 15, 3) := by decide +kernel
theorem dX3_waitingIn_31 : decode cX3_waitingIn 31 = .ok (.aload_n 0, 1) := by decide +kernel
theorem dX3_waitingIn_32 : decode cX3_waitingIn 32 = .ok (.iload_n 3, 1) := by decide +kernel
theorem dX3_waitingIn_33 : decode cX3_waitingIn 33 = .ok (.invokevirtual 88, 3) := by decide +kernel
theorem dX3_waitingIn_36 : decode cX3_waitingIn 36 = .ok (.iconst 1, 1) := by decide +kernel
theorem dX3_waitingIn_37 : decode cX3_waitingIn 37 = .ok (.if_icmp .ne 6, 3) := by decide +kernel
theorem dX3_waitingIn_40 : decode cX3_waitingIn 40 = .ok (.iinc 2 1, 3) := by decide +kernel
theorem dX3_waitingIn_43 : decode cX3_waitingIn 43 = .ok (.iinc 3 1, 3) := by decide +kernel
theorem dX3_waitingIn_46 : decode cX3_waitingIn 46 = .ok (.goto (-42), 3) := by decide +kernel
theorem dX3_waitingIn_49 : decode cX3_waitingIn 49 = .ok (.iload_n 2, 1) := by decide +kernel
theorem dX3_waitingIn_50 : decode cX3_waitingIn 50 = .ok (.ireturn, 1) := by decide +kernel
theorem dX3_stateOf_0 : decode cX3_stateOf 0 = .ok (.aload_n 0, 1) := by decide +kernel
theorem dX3_stateOf_1 : decode cX3_stateOf 1 = .ok (.getfield 34, 3) := by decide +kernel
theorem dX3_stateOf_4 : decode cX3_stateOf 4 = .ok (.iload_n 1, 1) := by decide +kernel
theorem dX3_stateOf_5 : decode cX3_stateOf 5 = .ok (.iaload, 1) := by decide +kernel
theorem dX3_stateOf_6 : decode cX3_stateOf 6 = .ok (.iconst (-1), 1) := by decide +kernel
theorem dX3_stateOf_7 : decode cX3_stateOf 7 = .ok (.if_icmp .eq 5, 3) := by decide +kernel
theorem dX3_stateOf_10 : decode cX3_stateOf 10 = .ok (.iconst 3, 1) := by decide +kernel
theorem dX3_stateOf_11 : decode cX3_stateOf 11 = .ok (.ireturn, 1) := by decide +kernel
theorem dX3_stateOf_12 : decode cX3_stateOf 12 = .ok (.aload_n 0, 1) := by decide +kernel
theorem dX3_stateOf_13 : decode cX3_stateOf 13 = .ok (.getfield 31, 3) := by decide +kernel
theorem dX3_stateOf_16 : decode cX3_stateOf 16 = .ok (.iload_n 1, 1) := by decide +kernel
theorem dX3_stateOf_17 : decode cX3_stateOf 17 = .ok (.iaload, 1) := by decide +kernel
theorem dX3_stateOf_18 : decode cX3_stateOf 18 = .ok (.iconst (-1), 1) := by decide +kernel
theorem dX3_stateOf_19 : decode cX3_stateOf 19 = .ok (.if_icmp .eq 5, 3) := by decide +kernel
theorem dX3_stateOf_22 : decode cX3_stateOf 22 = .ok (.iconst 2, 1) := by decide +kernel
theorem dX3_stateOf_23 : decode cX3_stateOf 23 = .ok (.ireturn, 1) := by decide +kernel
theorem dX3_stateOf_24 : decode cX3_stateOf 24 = .ok (.aload_n 0, 1) := by decide +kernel
theorem dX3_stateOf_25 : decode cX3_stateOf 25 = .ok (.getfield 43, 3) := by decide +kernel
theorem dX3_stateOf_28 : decode cX3_stateOf 28 = .ok (.getfield 103, 3) := by decide +kernel
theorem dX3_stateOf_31 : decode cX3_stateOf 31 = .ok (.iload_n 1, 1) := by decide +kernel
theorem dX3_stateOf_32 : decode cX3_stateOf 32 = .ok (.aaload, 1) := by decide +kernel
theorem dX3_stateOf_33 : decode cX3_stateOf 33 = .ok (.getfield 184, 3) := by decide +kernel
theorem dX3_stateOf_36 : decode cX3_stateOf 36 = .ok (.aload_n 0, 1) := by decide +kernel
theorem dX3_stateOf_37 : decode cX3_stateOf 37 = .ok (.getfield 9, 3) := by decide +kernel
theorem dX3_stateOf_40 : decode cX3_stateOf 40 = .ok (.if_icmp .gt 7, 3) := by decide +kernel
theorem dX3_stateOf_43 : decode cX3_stateOf 43 = .ok (.iconst 1, 1) := by decide +kernel
theorem dX3_stateOf_44 : decode cX3_stateOf 44 = .ok (.goto 4, 3) := by decide +kernel
theorem dX3_stateOf_47 : decode cX3_stateOf 47 = .ok (.iconst 0, 1) := by decide +kernel
theorem dX3_stateOf_48 : decode cX3_stateOf 48 = .ok (.ireturn, 1) := by decide +kernel
theorem dX3_inState_0 : decode cX3_inState 0 = .ok (.iconst 0, 1) := by decide +kernel
theorem dX3_inState_1 : decode cX3_inState 1 = .ok (.istore_n 2, 1) := by decide +kernel
theorem dX3_inState_2 : decode cX3_inState 2 = .ok (.iconst 0, 1) := by decide +kernel
theorem dX3_inState_3 : decode cX3_inState 3 = .ok (.istore_n 3, 1) := by decide +kernel
theorem dX3_inState_4 : decode cX3_inState 4 = .ok (.iload_n 3, 1) := by decide +kernel
theorem dX3_inState_5 : decode cX3_inState 5 = .ok (.aload_n 0, 1) := by decide +kernel
theorem dX3_inState_6 : decode cX3_inState 6 = .ok (.getfield 43, 3) := by decide +kernel
theorem dX3_inState_9 : decode cX3_inState 9 = .ok (.getfield 85, 3) := by decide +kernel
theorem dX3_inState_12 : decode cX3_inState 12 = .ok (.if_icmp .ge 21, 3) := by decide +kernel
theorem dX3_inState_15 : decode cX3_inState 15 = .ok (.aload_n 0, 1) := by decide +kernel
theorem dX3_inState_16 : decode cX3_inState 16 = .ok (.iload_n 3, 1) := by decide +kernel
theorem dX3_inState_17 : decode cX3_inState 17 = .ok (.invokevirtual 88, 3) := by decide +kernel
theorem dX3_inState_20 : decode cX3_inState 20 = .ok (.iload_n 1, 1) := by decide +kernel
theorem dX3_inState_21 : decode cX3_inState 21 = .ok (.if_icmp .ne 6, 3) := by decide +kernel
theorem dX3_inState_24 : decode cX3_inState 24 = .ok (.iinc 2 1, 3) := by decide +kernel
theorem dX3_inState_27 : decode cX3_inState 27 = .ok (.iinc 3 1, 3) := by decide +kernel
theorem dX3_inState_30 : decode cX3_inState 30 = .ok (.goto (-26), 3) := by decide +kernel
theorem dX3_inState_33 : decode cX3_inState 33 = .ok (.iload_n 2, 1) := by decide +kernel
theorem dX3_inState_34 : decode cX3_inState 34 = .ok (.ireturn, 1) := by decide +kernel
theorem dX3_minutesLate_0 : decode cX3_minutesLate 0 = .ok (.aload_n 0, 1) := by decide +kernel
theorem dX3_minutesLate_1 : decode cX3_minutesLate 1 = .ok (.getfield 34, 3) := by decide +kernel
theorem dX3_minutesLate_4 : decode cX3_minutesLate 4 = .ok (.iload_n 1, 1) := by decide +kernel
theorem dX3_minutesLate_5 : decode cX3_minutesLate 5 = .ok (.iaload, 1) := by decide +kernel
theorem dX3_minutesLate_6 : decode cX3_minutesLate 6 = .ok (.iconst (-1), 1) := by decide +kernel
theorem dX3_minutesLate_7 : decode cX3_minutesLate 7 = .ok (.if_icmp .ne 10, 3) := by decide +kernel
theorem dX3_minutesLate_10 : decode cX3_minutesLate 10 = .ok (.aload_n 0, 1) := by decide +kernel
theorem dX3_minutesLate_11 : decode cX3_minutesLate 11 = .ok (.getfield 9, 3) := by decide +kernel
theorem dX3_minutesLate_14 : decode cX3_minutesLate 14 = .ok (.goto 9, 3) := by decide +kernel
theorem dX3_minutesLate_17 : decode cX3_minutesLate 17 = .ok (.aload_n 0, 1) := by decide +kernel
theorem dX3_minutesLate_18 : decode cX3_minutesLate 18 = .ok (.getfield 34, 3) := by decide +kernel
theorem dX3_minutesLate_21 : decode cX3_minutesLate 21 = .ok (.iload_n 1, 1) := by decide +kernel
theorem dX3_minutesLate_22 : decode cX3_minutesLate 22 = .ok (.iaload, 1) := by decide +kernel
theorem dX3_minutesLate_23 : decode cX3_minutesLate 23 = .ok (.istore_n 2, 1) := by decide +kernel
theorem dX3_minutesLate_24 : decode cX3_minutesLate 24 = .ok (.iconst 0, 1) := by decide +kernel
theorem dX3_minutesLate_25 : decode cX3_minutesLate 25 = .ok (.iload_n 2, 1) := by decide +kernel
theorem dX3_minutesLate_26 : decode cX3_minutesLate 26 = .ok (.aload_n 0, 1) := by decide +kernel
theorem dX3_minutesLate_27 : decode cX3_minutesLate 27 = .ok (.getfield 43, 3) := by decide +kernel
theorem dX3_minutesLate_30 : decode cX3_minutesLate 30 = .ok (.getfield 103, 3) := by decide +kernel
theorem dX3_minutesLate_33 : decode cX3_minutesLate 33 = .ok (.iload_n 1, 1) := by decide +kernel
theorem dX3_minutesLate_34 : decode cX3_minutesLate 34 = .ok (.aaload, 1) := by decide +kernel
theorem dX3_minutesLate_35 : decode cX3_minutesLate 35 = .ok (.getfield 190, 3) := by decide +kernel
theorem dX3_minutesLate_38 : decode cX3_minutesLate 38 = .ok (.isub, 1) := by decide +kernel
theorem dX3_minutesLate_39 : decode cX3_minutesLate 39 = .ok (.invokestatic 121, 3) := by decide +kernel
theorem dX3_minutesLate_42 : decode cX3_minutesLate 42 = .ok (.ireturn, 1) := by decide +kernel
theorem dX3_isLate_0 : decode cX3_isLate 0 = .ok (.aload_n 0, 1) := by decide +kernel
theorem dX3_isLate_1 : decode cX3_isLate 1 = .ok (.iload_n 1, 1) := by decide +kernel
theorem dX3_isLate_2 : decode cX3_isLate 2 = .ok (.invokevirtual 196, 3) := by decide +kernel
theorem dX3_isLate_5 : decode cX3_isLate 5 = .ok (.ifCond .le 7, 3) := by decide +kernel
theorem dX3_isLate_8 : decode cX3_isLate 8 = .ok (.iconst 1, 1) := by decide +kernel
theorem dX3_isLate_9 : decode cX3_isLate 9 = .ok (.goto 4, 3) := by decide +kernel
theorem dX3_isLate_12 : decode cX3_isLate 12 = .ok (.iconst 0, 1) := by decide +kernel
theorem dX3_isLate_13 : decode cX3_isLate 13 = .ok (.ireturn, 1) := by decide +kernel
theorem dX3_lateOnes_0 : decode cX3_lateOnes 0 = .ok (.iconst 0, 1) := by decide +kernel
theorem dX3_lateOnes_1 : decode cX3_lateOnes 1 = .ok (.istore_n 1, 1) := by decide +kernel
theorem dX3_lateOnes_2 : decode cX3_lateOnes 2 = .ok (.iconst 0, 1) := by decide +kernel
theorem dX3_lateOnes_3 : decode cX3_lateOnes 3 = .ok (.istore_n 2, 1) := by decide +kernel
theorem dX3_lateOnes_4 : decode cX3_lateOnes 4 = .ok (.iload_n 2, 1) := by decide +kernel
theorem dX3_lateOnes_5 : decode cX3_lateOnes 5 = .ok (.aload_n 0, 1) := by decide +kernel
theorem dX3_lateOnes_6 : decode cX3_lateOnes 6 = .ok (.getfield 43, 3) := by decide +kernel
theorem dX3_lateOnes_9 : decode cX3_lateOnes 9 = .ok (.getfield 85, 3) := by decide +kernel
theorem dX3_lateOnes_12 : decode cX3_lateOnes 12 = .ok (.if_icmp .ge 20, 3) := by decide +kernel
theorem dX3_lateOnes_15 : decode cX3_lateOnes 15 = .ok (.aload_n 0, 1) := by decide +kernel
theorem dX3_lateOnes_16 : decode cX3_lateOnes 16 = .ok (.iload_n 2, 1) := by decide +kernel
theorem dX3_lateOnes_17 : decode cX3_lateOnes 17 = .ok (.invokevirtual 199, 3) := by decide +kernel
theorem dX3_lateOnes_20 : decode cX3_lateOnes 20 = .ok (.ifCond .eq 6, 3) := by decide +kernel
theorem dX3_lateOnes_23 : decode cX3_lateOnes 23 = .ok (.iinc 1 1, 3) := by decide +kernel
theorem dX3_lateOnes_26 : decode cX3_lateOnes 26 = .ok (.iinc 2 1, 3) := by decide +kernel
theorem dX3_lateOnes_29 : decode cX3_lateOnes 29 = .ok (.goto (-25), 3) := by decide +kernel
theorem dX3_lateOnes_32 : decode cX3_lateOnes 32 = .ok (.iload_n 1, 1) := by decide +kernel
theorem dX3_lateOnes_33 : decode cX3_lateOnes 33 = .ok (.ireturn, 1) := by decide +kernel
theorem dX3_isDoneBy_0 : decode cX3_isDoneBy 0 = .ok (.aload_n 0, 1) := by decide +kernel
theorem dX3_isDoneBy_1 : decode cX3_isDoneBy 1 = .ok (.getfield 34, 3) := by decide +kernel
theorem dX3_isDoneBy_4 : decode cX3_isDoneBy 4 = .ok (.iload_n 1, 1) := by decide +kernel
theorem dX3_isDoneBy_5 : decode cX3_isDoneBy 5 = .ok (.iaload, 1) := by decide +kernel
theorem dX3_isDoneBy_6 : decode cX3_isDoneBy 6 = .ok (.iconst (-1), 1) := by decide +kernel
theorem dX3_isDoneBy_7 : decode cX3_isDoneBy 7 = .ok (.if_icmp .eq 17, 3) := by decide +kernel
theorem dX3_isDoneBy_10 : decode cX3_isDoneBy 10 = .ok (.aload_n 0, 1) := by decide +kernel
theorem dX3_isDoneBy_11 : decode cX3_isDoneBy 11 = .ok (.getfield 28, 3) := by decide +kernel
theorem dX3_isDoneBy_14 : decode cX3_isDoneBy 14 = .ok (.iload_n 1, 1) := by decide +kernel
theorem dX3_isDoneBy_15 : decode cX3_isDoneBy 15 = .ok (.iaload, 1) := by decide +kernel
theorem dX3_isDoneBy_16 : decode cX3_isDoneBy 16 = .ok (.iload_n 2, 1) := by decide +kernel
theorem dX3_isDoneBy_17 : decode cX3_isDoneBy 17 = .ok (.if_icmp .ne 7, 3) := by decide +kernel
theorem dX3_isDoneBy_20 : decode cX3_isDoneBy 20 = .ok (.iconst 1, 1) := by decide +kernel
theorem dX3_isDoneBy_21 : decode cX3_isDoneBy 21 = .ok (.goto 4, 3) := by decide +kernel
theorem dX3_isDoneBy_24 : decode cX3_isDoneBy 24 = .ok (.iconst 0, 1) := by decide +kernel
theorem dX3_isDoneBy_25 : decode cX3_isDoneBy 25 = .ok (.ireturn, 1) := by decide +kernel
theorem dX3_linesDoneBy_0 : decode cX3_linesDoneBy 0 = .ok (.iconst 0, 1) := by decide +kernel
theorem dX3_linesDoneBy_1 : decode cX3_linesDoneBy 1 = .ok (.istore_n 2, 1) := by decide +kernel
theorem dX3_linesDoneBy_2 : decode cX3_linesDoneBy 2 = .ok (.iconst 0, 1) := by decide +kernel
theorem dX3_linesDoneBy_3 : decode cX3_linesDoneBy 3 = .ok (.istore_n 3, 1) := by decide +kernel
theorem dX3_linesDoneBy_4 : decode cX3_linesDoneBy 4 = .ok (.iload_n 3, 1) := by decide +kernel
theorem dX3_linesDoneBy_5 : decode cX3_linesDoneBy 5 = .ok (.aload_n 0, 1) := by decide +kernel
theorem dX3_linesDoneBy_6 : decode cX3_linesDoneBy 6 = .ok (.getfield 43, 3) := by decide +kernel
theorem dX3_linesDoneBy_9 : decode cX3_linesDoneBy 9 = .ok (.getfield 85, 3) := by decide +kernel
theorem dX3_linesDoneBy_12 : decode cX3_linesDoneBy 12 = .ok (.if_icmp .ge 33, 3) := by decide +kernel
theorem dX3_linesDoneBy_15 : decode cX3_linesDoneBy 15 = .ok (.aload_n 0, 1) := by decide +kernel
theorem dX3_linesDoneBy_16 : decode cX3_linesDoneBy 16 = .ok (.iload_n 3, 1) := by decide +kernel
theorem dX3_linesDoneBy_17 : decode cX3_linesDoneBy 17 = .ok (.iload_n 1, 1) := by decide +kernel
theorem dX3_linesDoneBy_18 : decode cX3_linesDoneBy 18 = .ok (.invokevirtual 202, 3) := by decide +kernel
theorem dX3_linesDoneBy_21 : decode cX3_linesDoneBy 21 = .ok (.ifCond .eq 18, 3) := by decide +kernel
theorem dX3_linesDoneBy_24 : decode cX3_linesDoneBy 24 = .ok (.iload_n 2, 1) := by decide +kernel
theorem dX3_linesDoneBy_25 : decode cX3_linesDoneBy 25 = .ok (.aload_n 0, 1) := by decide +kernel
theorem dX3_linesDoneBy_26 : decode cX3_linesDoneBy 26 = .ok (.getfield 43, 3) := by decide +kernel
theorem dX3_linesDoneBy_29 : decode cX3_linesDoneBy 29 = .ok (.getfield 103, 3) := by decide +kernel
theorem dX3_linesDoneBy_32 : decode cX3_linesDoneBy 32 = .ok (.iload_n 3, 1) := by decide +kernel
theorem dX3_linesDoneBy_33 : decode cX3_linesDoneBy 33 = .ok (.aaload, 1) := by decide +kernel
theorem dX3_linesDoneBy_34 : decode cX3_linesDoneBy 34 = .ok (.getfield 187, 3) := by decide +kernel
theorem dX3_linesDoneBy_37 : decode cX3_linesDoneBy 37 = .ok (.iadd, 1) := by decide +kernel
theorem dX3_linesDoneBy_38 : decode cX3_linesDoneBy 38 = .ok (.istore_n 2, 1) := by decide +kernel
theorem dX3_linesDoneBy_39 : decode cX3_linesDoneBy 39 = .ok (.iinc 3 1, 3) := by decide +kernel
theorem dX3_linesDoneBy_42 : decode cX3_linesDoneBy 42 = .ok (.goto (-38), 3) := by decide +kernel
theorem dX3_linesDoneBy_45 : decode cX3_linesDoneBy 45 = .ok (.iload_n 2, 1) := by decide +kernel
theorem dX3_linesDoneBy_46 : decode cX3_linesDoneBy 46 = .ok (.ireturn, 1) := by decide +kernel
theorem dX3_piecesDoneBy_0 : decode cX3_piecesDoneBy 0 = .ok (.iconst 0, 1) := by decide +kernel
theorem dX3_piecesDoneBy_1 : decode cX3_piecesDoneBy 1 = .ok (.istore_n 2, 1) := by decide +kernel
theorem dX3_piecesDoneBy_2 : decode cX3_piecesDoneBy 2 = .ok (.iconst 0, 1) := by decide +kernel
theorem dX3_piecesDoneBy_3 : decode cX3_piecesDoneBy 3 = .ok (.istore_n 3, 1) := by decide +kernel
theorem dX3_piecesDoneBy_4 : decode cX3_piecesDoneBy 4 = .ok (.iload_n 3, 1) := by decide +kernel
theorem dX3_piecesDoneBy_5 : decode cX3_piecesDoneBy 5 = .ok (.aload_n 0, 1) := by decide +kernel
theorem dX3_piecesDoneBy_6 : decode cX3_piecesDoneBy 6 = .ok (.getfield 43, 3) := by decide +kernel
theorem dX3_piecesDoneBy_9 : decode cX3_piecesDoneBy 9 = .ok (.getfield 85, 3) := by decide +kernel
theorem dX3_piecesDoneBy_12 : decode cX3_piecesDoneBy 12 = .ok (.if_icmp .ge 21, 3) := by decide +kernel
theorem dX3_piecesDoneBy_15 : decode cX3_piecesDoneBy 15 = .ok (.aload_n 0, 1) := by decide +kernel
theorem dX3_piecesDoneBy_16 : decode cX3_piecesDoneBy 16 = .ok (.iload_n 3, 1) := by decide +kernel
theorem dX3_piecesDoneBy_17 : decode cX3_piecesDoneBy 17 = .ok (.iload_n 1, 1) := by decide +kernel
theorem dX3_piecesDoneBy_18 : decode cX3_piecesDoneBy 18 = .ok (.invokevirtual 202, 3) := by decide +kernel
theorem dX3_piecesDoneBy_21 : decode cX3_piecesDoneBy 21 = .ok (.ifCond .eq 6, 3) := by decide +kernel
theorem dX3_piecesDoneBy_24 : decode cX3_piecesDoneBy 24 = .ok (.iinc 2 1, 3) := by decide +kernel
theorem dX3_piecesDoneBy_27 : decode cX3_piecesDoneBy 27 = .ok (.iinc 3 1, 3) := by decide +kernel
theorem dX3_piecesDoneBy_30 : decode cX3_piecesDoneBy 30 = .ok (.goto (-26), 3) := by decide +kernel
theorem dX3_piecesDoneBy_33 : decode cX3_piecesDoneBy 33 = .ok (.iload_n 2, 1) := by decide +kernel
theorem dX3_piecesDoneBy_34 : decode cX3_piecesDoneBy 34 = .ok (.ireturn, 1) := by decide +kernel
theorem dX3_plainMinutesOf_0 : decode cX3_plainMinutesOf 0 = .ok (.iconst 0, 1) := by decide +kernel
theorem dX3_plainMinutesOf_1 : decode cX3_plainMinutesOf 1 = .ok (.istore_n 2, 1) := by decide +kernel
theorem dX3_plainMinutesOf_2 : decode cX3_plainMinutesOf 2 = .ok (.iconst 0, 1) := by decide +kernel
theorem dX3_plainMinutesOf_3 : decode cX3_plainMinutesOf 3 = .ok (.istore_n 3, 1) := by decide +kernel
theorem dX3_plainMinutesOf_4 : decode cX3_plainMinutesOf 4 = .ok (.iload_n 3, 1) := by decide +kernel
theorem dX3_plainMinutesOf_5 : decode cX3_plainMinutesOf 5 = .ok (.aload_n 0, 1) := by decide +kernel
theorem dX3_plainMinutesOf_6 : decode cX3_plainMinutesOf 6 = .ok (.getfield 43, 3) := by decide +kernel
theorem dX3_plainMinutesOf_9 : decode cX3_plainMinutesOf 9 = .ok (.getfield 85, 3) := by decide +kernel
theorem dX3_plainMinutesOf_12 : decode cX3_plainMinutesOf 12 = .ok (.if_icmp .ge 38, 3) := by decide +kernel
theorem dX3_plainMinutesOf_15 : decode cX3_plainMinutesOf 15 = .ok (.aload_n 0, 1) := by decide +kernel
theorem dX3_plainMinutesOf_16 : decode cX3_plainMinutesOf 16 = .ok (.iload_n 3, 1) := by decide +kernel
theorem dX3_plainMinutesOf_17 : decode cX3_plainMinutesOf 17 = .ok (.iload_n 1, 1) := by decide +kernel
theorem dX3_plainMinutesOf_18 : decode cX3_plainMinutesOf 18 = .ok (.invokevirtual 202, 3) := by decide +kernel
theorem dX3_plainMinutesOf_21 : decode cX3_plainMinutesOf 21 = .ok (.ifCond .eq 23, 3) := by decide +kernel
theorem dX3_plainMinutesOf_24 : decode cX3_plainMinutesOf 24 = .ok (.iload_n 2, 1) := by decide +kernel
theorem dX3_plainMinutesOf_25 : decode cX3_plainMinutesOf 25 = .ok (.aload_n 0, 1) := by decide +kernel
theorem dX3_plainMinutesOf_26 : decode cX3_plainMinutesOf 26 = .ok (.getfield 43, 3) := by decide +kernel
theorem dX3_plainMinutesOf_29 : decode cX3_plainMinutesOf 29 = .ok (.getfield 103, 3) := by decide +kernel
theorem dX3_plainMinutesOf_32 : decode cX3_plainMinutesOf 32 = .ok (.iload_n 3, 1) := by decide +kernel
theorem dX3_plainMinutesOf_33 : decode cX3_plainMinutesOf 33 = .ok (.aaload, 1) := by decide +kernel
theorem dX3_plainMinutesOf_34 : decode cX3_plainMinutesOf 34 = .ok (.invokevirtual 205, 3) := by decide +kernel
theorem dX3_plainMinutesOf_37 : decode cX3_plainMinutesOf 37 = .ok (.bipush 60, 2) := by decide +kernel
theorem dX3_plainMinutesOf_39 : decode cX3_plainMinutesOf 39 = .ok (.invokestatic 136, 3) := by decide +kernel
theorem dX3_plainMinutesOf_42 : decode cX3_plainMinutesOf 42 = .ok (.iadd, 1) := by decide +kernel
theorem dX3_plainMinutesOf_43 : decode cX3_plainMinutesOf 43 = .ok (.istore_n 2, 1) := by decide +kernel
theorem dX3_plainMinutesOf_44 : decode cX3_plainMinutesOf 44 = .ok (.iinc 3 1, 3) := by decide +kernel
theorem dX3_plainMinutesOf_47 : decode cX3_plainMinutesOf 47 = .ok (.goto (-43), 3) := by decide +kernel
theorem dX3_plainMinutesOf_50 : decode cX3_plainMinutesOf 50 = .ok (.iload_n 2, 1) := by decide +kernel
theorem dX3_plainMinutesOf_51 : decode cX3_plainMinutesOf 51 = .ok (.ireturn, 1) := by decide +kernel
theorem dX3_waitedIn_0 : decode cX3_waitedIn 0 = .ok (.iconst 0, 1) := by decide +kernel
theorem dX3_waitedIn_1 : decode cX3_waitedIn 1 = .ok (.istore_n 2, 1) := by decide +kernel
theorem dX3_waitedIn_2 : decode cX3_waitedIn 2 = .ok (.iconst 0, 1) := by decide +kernel
theorem dX3_waitedIn_3 : decode cX3_waitedIn 3 = .ok (.istore_n 3, 1) := by decide +kernel
theorem dX3_waitedIn_4 : decode cX3_waitedIn 4 = .ok (.iload_n 3, 1) := by decide +kernel
theorem dX3_waitedIn_5 : decode cX3_waitedIn 5 = .ok (.aload_n 0, 1) := by decide +kernel
theorem dX3_waitedIn_6 : decode cX3_waitedIn 6 = .ok (.getfield 43, 3) := by decide +kernel
theorem dX3_waitedIn_9 : decode cX3_waitedIn 9 = .ok (.getfield 85, 3) := by decide +kernel
theorem dX3_waitedIn_12 : decode cX3_waitedIn 12 = .ok (.if_icmp .ge 57, 3) := by decide +kernel
theorem dX3_waitedIn_15 : decode cX3_waitedIn 15 = .ok (.aload_n 0, 1) := by decide +kernel
theorem dX3_waitedIn_16 : decode cX3_waitedIn 16 = .ok (.getfield 43, 3) := by decide +kernel
theorem dX3_waitedIn_19 : decode cX3_waitedIn 19 = .ok (.getfield 103, 3) := by decide +kernel
theorem dX3_waitedIn_22 : decode cX3_waitedIn 22 = .ok (.iload_n 3, 1) := by decide +kernel
theorem dX3_waitedIn_23 : decode cX3_waitedIn 23 = .ok (.aaload, 1) := by decide +kernel
theorem dX3_waitedIn_24 : decode cX3_waitedIn 24 = .ok (.getfield 166, 3) := by decide +kernel
theorem dX3_waitedIn_27 : decode cX3_waitedIn 27 = .ok (.iload_n 1, 1) := by decide +kernel
theorem dX3_waitedIn_28 : decode cX3_waitedIn 28 = .ok (.if_icmp .ne 35, 3) := by decide +kernel
theorem dX3_waitedIn_31 : decode cX3_waitedIn 31 = .ok (.aload_n 0, 1) := by decide +kernel
theorem dX3_waitedIn_32 : decode cX3_waitedIn 32 = .ok (.getfield 31, 3) := by decide +kernel
theorem dX3_waitedIn_35 : decode cX3_waitedIn 35 = .ok (.iload_n 3, 1) := by decide +kernel
theorem dX3_waitedIn_36 : decode cX3_waitedIn 36 = .ok (.iaload, 1) := by decide +kernel
theorem dX3_waitedIn_37 : decode cX3_waitedIn 37 = .ok (.iconst (-1), 1) := by decide +kernel
theorem dX3_waitedIn_38 : decode cX3_waitedIn 38 = .ok (.if_icmp .eq 25, 3) := by decide +kernel
theorem dX3_waitedIn_41 : decode cX3_waitedIn 41 = .ok (.iload_n 2, 1) := by decide +kernel
theorem dX3_waitedIn_42 : decode cX3_waitedIn 42 = .ok (.aload_n 0, 1) := by decide +kernel
theorem dX3_waitedIn_43 : decode cX3_waitedIn 43 = .ok (.getfield 31, 3) := by decide +kernel
theorem dX3_waitedIn_46 : decode cX3_waitedIn 46 = .ok (.iload_n 3, 1) := by decide +kernel
theorem dX3_waitedIn_47 : decode cX3_waitedIn 47 = .ok (.iaload, 1) := by decide +kernel
theorem dX3_waitedIn_48 : decode cX3_waitedIn 48 = .ok (.aload_n 0, 1) := by decide +kernel
theorem dX3_waitedIn_49 : decode cX3_waitedIn 49 = .ok (.getfield 43, 3) := by decide +kernel
theorem dX3_waitedIn_52 : decode cX3_waitedIn 52 = .ok (.getfield 103, 3) := by decide +kernel
theorem dX3_waitedIn_55 : decode cX3_waitedIn 55 = .ok (.iload_n 3, 1) := by decide +kernel
theorem dX3_waitedIn_56 : decode cX3_waitedIn 56 = .ok (.aaload, 1) := by decide +kernel
theorem dX3_waitedIn_57 : decode cX3_waitedIn 57 = .ok (.getfield 184, 3) := by decide +kernel
theorem dX3_waitedIn_60 : decode cX3_waitedIn 60 = .ok (.isub, 1) := by decide +kernel
theorem dX3_waitedIn_61 : decode cX3_waitedIn 61 = .ok (.iadd, 1) := by decide +kernel
theorem dX3_waitedIn_62 : decode cX3_waitedIn 62 = .ok (.istore_n 2, 1) := by decide +kernel
theorem dX3_waitedIn_63 : decode cX3_waitedIn 63 = .ok (.iinc 3 1, 3) := by decide +kernel
theorem dX3_waitedIn_66 : decode cX3_waitedIn 66 = .ok (.goto (-62), 3) := by decide +kernel
theorem dX3_waitedIn_69 : decode cX3_waitedIn 69 = .ok (.iload_n 2, 1) := by decide +kernel
theorem dX3_waitedIn_70 : decode cX3_waitedIn 70 = .ok (.ireturn, 1) := by decide +kernel
theorem dX3_countsFor_0 : decode cX3_countsFor 0 = .ok (.aload_n 0, 1) := by decide +kernel
theorem dX3_countsFor_1 : decode cX3_countsFor 1 = .ok (.getfield 43, 3) := by decide +kernel
theorem dX3_countsFor_4 : decode cX3_countsFor 4 = .ok (.getfield 103, 3) := by decide +kernel
theorem dX3_countsFor_7 : decode cX3_countsFor 7 = .ok (.iload_n 1, 1) := by decide +kernel
theorem dX3_countsFor_8 : decode cX3_countsFor 8 = .ok (.aaload, 1) := by decide +kernel
theorem dX3_countsFor_9 : decode cX3_countsFor 9 = .ok (.astore_n 3, 1) := by decide +kernel
theorem dX3_countsFor_10 : decode cX3_countsFor 10 = .ok (.iload_n 2, 1) := by decide +kernel
theorem dX3_countsFor_11 : decode cX3_countsFor 11 = .ok (.tableswitch 71 1 3 #[25, 27, 41], 25) := by decide +kernel
theorem dX3_countsFor_36 : decode cX3_countsFor 36 = .ok (.iconst 1, 1) := by decide +kernel
theorem dX3_countsFor_37 : decode cX3_countsFor 37 = .ok (.ireturn, 1) := by decide +kernel
theorem dX3_countsFor_38 : decode cX3_countsFor 38 = .ok (.aload_n 0, 1) := by decide +kernel
theorem dX3_countsFor_39 : decode cX3_countsFor 39 = .ok (.iload_n 1, 1) := by decide +kernel
theorem dX3_countsFor_40 : decode cX3_countsFor 40 = .ok (.invokevirtual 199, 3) := by decide +kernel
theorem dX3_countsFor_43 : decode cX3_countsFor 43 = .ok (.ifCond .eq 7, 3) := by decide +kernel
theorem dX3_countsFor_46 : decode cX3_countsFor 46 = .ok (.iconst 1, 1) := by decide +kernel
theorem dX3_countsFor_47 : decode cX3_countsFor 47 = .ok (.goto 4, 3) := by decide +kernel
theorem dX3_countsFor_50 : decode cX3_countsFor 50 = .ok (.iconst 0, 1) := by decide +kernel
theorem dX3_countsFor_51 : decode cX3_countsFor 51 = .ok (.ireturn, 1) := by decide +kernel
theorem dX3_countsFor_52 : decode cX3_countsFor 52 = .ok (.aload_n 3, 1) := by decide +kernel
theorem dX3_countsFor_53 : decode cX3_countsFor 53 = .ok (.getfield 181, 3) := by decide +kernel
theorem dX3_countsFor_56 : decode cX3_countsFor 56 = .ok (.bipush 7, 2) := by decide +kernel
theorem dX3_countsFor_58 : decode cX3_countsFor 58 = .ok (.if_icmp .lt 22, 3) := by decide +kernel
theorem dX3_countsFor_61 : decode cX3_countsFor 61 = .ok (.aload_n 3, 1) := by decide +kernel
theorem dX3_countsFor_62 : decode cX3_countsFor 62 = .ok (.getfield 190, 3) := by decide +kernel
theorem dX3_countsFor_65 : decode cX3_countsFor 65 = .ok (.aload_n 3, 1) := by decide +kernel
theorem dX3_countsFor_66 : decode cX3_countsFor 66 = .ok (.getfield 184, 3) := by decide +kernel
theorem dX3_countsFor_69 : decode cX3_countsFor 69 = .ok (.isub, 1) := by decide +kernel
theorem dX3_countsFor_70 : decode cX3_countsFor 70 = .ok (.sipush 480, 3) := by decide +kernel
theorem dX3_countsFor_73 : decode cX3_countsFor 73 = .ok (.if_icmp .lt 7, 3) := by decide +kernel
theorem dX3_countsFor_76 : decode cX3_countsFor 76 = .ok (.iconst 1, 1) := by decide +kernel
theorem dX3_countsFor_77 : decode cX3_countsFor 77 = .ok (.goto 4, 3) := by decide +kernel
theorem dX3_countsFor_80 : decode cX3_countsFor 80 = .ok (.iconst 0, 1) := by decide +kernel
theorem dX3_countsFor_81 : decode cX3_countsFor 81 = .ok (.ireturn, 1) := by decide +kernel
theorem dX3_countsFor_82 : decode cX3_countsFor 82 = .ok (.aload_n 3, 1) := by decide +kernel
theorem dX3_countsFor_83 : decode cX3_countsFor 83 = .ok (.getfield 184, 3) := by decide +kernel
theorem dX3_countsFor_86 : decode cX3_countsFor 86 = .ok (.sipush 480, 3) := by decide +kernel
theorem dX3_countsFor_89 : decode cX3_countsFor 89 = .ok (.idiv, 1) := by decide +kernel
theorem dX3_countsFor_90 : decode cX3_countsFor 90 = .ok (.aload_n 0, 1) := by decide +kernel
theorem dX3_countsFor_91 : decode cX3_countsFor 91 = .ok (.invokevirtual 169, 3) := by decide +kernel
theorem dX3_countsFor_94 : decode cX3_countsFor 94 = .ok (.if_icmp .ne 10, 3) := by decide +kernel
theorem dX3_countsFor_97 : decode cX3_countsFor 97 = .ok (.aload_n 3, 1) := by decide +kernel
theorem dX3_countsFor_98 : decode cX3_countsFor 98 = .ok (.getfield 187, 3) := by decide +kernel
theorem dX3_countsFor_101 : decode cX3_countsFor 101 = .ok (.goto 4, 3) := by decide +kernel
theorem dX3_countsFor_104 : decode cX3_countsFor 104 = .ok (.iconst 0, 1) := by decide +kernel
theorem dX3_countsFor_105 : decode cX3_countsFor 105 = .ok (.ireturn, 1) := by decide +kernel
theorem dX4_init_0 : decode cX4_init 0 = .ok (.aload_n 0, 1) := by decide +kernel
theorem dX4_init_1 : decode cX4_init 1 = .ok (.invokespecial 1, 3) := by decide +kernel
theorem dX4_init_4 : decode cX4_init 4 = .ok (.aload_n 0, 1) := by decide +kernel
theorem dX4_init_5 : decode cX4_init 5 = .ok (.iload_n 1, 1) := by decide +kernel
theorem dX4_init_6 : decode cX4_init 6 = .ok (.putfield 7, 3) := by decide +kernel
theorem dX4_init_9 : decode cX4_init 9 = .ok (.aload_n 0, 1) := by decide +kernel
theorem dX4_init_10 : decode cX4_init 10 = .ok (.iload_n 2, 1) := by decide +kernel
theorem dX4_init_11 : decode cX4_init 11 = .ok (.putfield 13, 3) := by decide +kernel
theorem dX4_init_14 : decode cX4_init 14 = .ok (.aload_n 0, 1) := by decide +kernel
theorem dX4_init_15 : decode cX4_init 15 = .ok (.iload_n 3, 1) := by decide +kernel
theorem dX4_init_16 : decode cX4_init 16 = .ok (.putfield 16, 3) := by decide +kernel
theorem dX4_init_19 : decode cX4_init 19 = .ok (.return_, 1) := by decide +kernel
theorem dX5_init_0 : decode cX5_init 0 = .ok (.aload_n 0, 1) := by decide +kernel
theorem dX5_init_1 : decode cX5_init 1 = .ok (.invokespecial 3, 3) := by decide +kernel
theorem dX5_init_4 : decode cX5_init 4 = .ok (.aload_n 0, 1) := by decide +kernel
theorem dX5_init_5 : decode cX5_init 5 = .ok (.bipush 40, 2) := by decide +kernel
theorem dX5_init_7 : decode cX5_init 7 = .ok (.anewarray 9, 3) := by decide +kernel
theorem dX5_init_10 : decode cX5_init 10 = .ok (.putfield 11, 3) := by decide +kernel
theorem dX5_init_13 : decode cX5_init 13 = .ok (.aload_n 0, 1) := by decide +kernel
theorem dX5_init_14 : decode cX5_init 14 = .ok (.iconst 0, 1) := by decide +kernel
theorem dX5_init_15 : decode cX5_init 15 = .ok (.putfield 17, 3) := by decide +kernel
theorem dX5_init_18 : decode cX5_init 18 = .ok (.aload_n 0, 1) := by decide +kernel
theorem dX5_init_19 : decode cX5_init 19 = .ok (.bipush 99, 2) := by decide +kernel
theorem dX5_init_21 : decode cX5_init 21 = .ok (.putfield 21, 3) := by decide +kernel
theorem dX5_init_24 : decode cX5_init 24 = .ok (.aload_n 0, 1) := by decide +kernel
theorem dX5_init_25 : decode cX5_init 25 = .ok (.aload_n 1, 1) := by decide +kernel
theorem dX5_init_26 : decode cX5_init 26 = .ok (.putfield 24, 3) := by decide +kernel
theorem dX5_init_29 : decode cX5_init 29 = .ok (.aload_n 0, 1) := by decide +kernel
theorem dX5_init_30 : decode cX5_init 30 = .ok (.aload_n 2, 1) := by decide +kernel
theorem dX5_init_31 : decode cX5_init 31 = .ok (.putfield 28, 3) := by decide +kernel
theorem dX5_init_34 : decode cX5_init 34 = .ok (.aload_n 0, 1) := by decide +kernel
theorem dX5_init_35 : decode cX5_init 35 = .ok (.aload_n 3, 1) := by decide +kernel
theorem dX5_init_36 : decode cX5_init 36 = .ok (.putfield 32, 3) := by decide +kernel
theorem dX5_init_39 : decode cX5_init 39 = .ok (.return_, 1) := by decide +kernel
theorem dX5_hasCorrection_0 : decode cX5_hasCorrection 0 = .ok (.iload_n 1, 1) := by decide +kernel
theorem dX5_hasCorrection_1 : decode cX5_hasCorrection 1 = .ok (.ifCond .lt 15, 3) := by decide +kernel
theorem dX5_hasCorrection_4 : decode cX5_hasCorrection 4 = .ok (.iload_n 1, 1) := by decide +kernel
theorem dX5_hasCorrection_5 : decode cX5_hasCorrection 5 = .ok (.aload_n 0, 1) := by decide +kernel
theorem dX5_hasCorrection_6 : decode cX5_hasCorrection 6 = .ok (.getfield 17, 3) := by decide +kernel
theorem dX5_hasCorrection_9 : decode cX5_hasCorrection 9 = .ok (.if_icmp .ge 7, 3) := by decide +kernel
theorem dX5_hasCorrection_12 : decode cX5_hasCorrection 12 = .ok (.iconst 1, 1) := by decide +kernel
theorem dX5_hasCorrection_13 : decode cX5_hasCorrection 13 = .ok (.goto 4, 3) := by decide +kernel
theorem dX5_hasCorrection_16 : decode cX5_hasCorrection 16 = .ok (.iconst 0, 1) := by decide +kernel
theorem dX5_hasCorrection_17 : decode cX5_hasCorrection 17 = .ok (.ireturn, 1) := by decide +kernel
theorem dX5_isKnown_0 : decode cX5_isKnown 0 = .ok (.aload_n 0, 1) := by decide +kernel
theorem dX5_isKnown_1 : decode cX5_isKnown 1 = .ok (.getfield 11, 3) := by decide +kernel
theorem dX5_isKnown_4 : decode cX5_isKnown 4 = .ok (.iload_n 1, 1) := by decide +kernel
theorem dX5_isKnown_5 : decode cX5_isKnown 5 = .ok (.aaload, 1) := by decide +kernel
theorem dX5_isKnown_6 : decode cX5_isKnown 6 = .ok (.astore_n 2, 1) := by decide +kernel
theorem dX5_isKnown_7 : decode cX5_isKnown 7 = .ok (.aload_n 2, 1) := by decide +kernel
theorem dX5_isKnown_8 : decode cX5_isKnown 8 = .ok (.getfield 36, 3) := by decide +kernel
theorem dX5_isKnown_11 : decode cX5_isKnown 11 = .ok (.aload_n 0, 1) := by decide +kernel
theorem dX5_isKnown_12 : decode cX5_isKnown 12 = .ok (.getfield 21, 3) := by decide +kernel
theorem dX5_isKnown_15 : decode cX5_isKnown 15 = .ok (.if_icmp .gt 26, 3) := by decide +kernel
theorem dX5_isKnown_18 : decode cX5_isKnown 18 = .ok (.aload_n 2, 1) := by decide +kernel
theorem dX5_isKnown_19 : decode cX5_isKnown 19 = .ok (.getfield 39, 3) := by decide +kernel
theorem dX5_isKnown_22 : decode cX5_isKnown 22 = .ok (.iconst (-1), 1) := by decide +kernel
theorem dX5_isKnown_23 : decode cX5_isKnown 23 = .ok (.if_icmp .eq 14, 3) := by decide +kernel
theorem dX5_isKnown_26 : decode cX5_isKnown 26 = .ok (.aload_n 2, 1) := by decide +kernel
theorem dX5_isKnown_27 : decode cX5_isKnown 27 = .ok (.getfield 39, 3) := by decide +kernel
theorem dX5_isKnown_30 : decode cX5_isKnown 30 = .ok (.aload_n 0, 1) := by decide +kernel
theorem dX5_isKnown_31 : decode cX5_isKnown 31 = .ok (.getfield 21, 3) := by decide +kernel
theorem dX5_isKnown_34 : decode cX5_isKnown 34 = .ok (.if_icmp .le 7, 3) := by decide +kernel
theorem dX5_isKnown_37 : decode cX5_isKnown 37 = .ok (.iconst 1, 1) := by decide +kernel
theorem dX5_isKnown_38 : decode cX5_isKnown 38 = .ok (.goto 4, 3) := by decide +kernel
theorem dX5_isKnown_41 : decode cX5_isKnown 41 = .ok (.iconst 0, 1) := by decide +kernel
theorem dX5_isKnown_42 : decode cX5_isKnown 42 = .ok (.ireturn, 1) := by decide +kernel
theorem dX5_whose_0 : decode cX5_whose 0 = .ok (.aload_n 0, 1) := by decide +kernel
theorem dX5_whose_1 : decode cX5_whose 1 = .ok (.getfield 11, 3) := by decide +kernel
theorem dX5_whose_4 : decode cX5_whose 4 = .ok (.iload_n 1, 1) := by decide +kernel
theorem dX5_whose_5 : decode cX5_whose 5 = .ok (.aaload, 1) := by decide +kernel
theorem dX5_whose_6 : decode cX5_whose 6 = .ok (.astore_n 2, 1) := by decide +kernel
theorem dX5_whose_7 : decode cX5_whose 7 = .ok (.aload_n 0, 1) := by decide +kernel
theorem dX5_whose_8 : decode cX5_whose 8 = .ok (.getfield 28, 3) := by decide +kernel
theorem dX5_whose_11 : decode cX5_whose 11 = .ok (.getfield 42, 3) := by decide +kernel
theorem dX5_whose_14 : decode cX5_whose 14 = .ok (.astore_n 3, 1) := by decide +kernel
theorem dX5_whose_15 : decode cX5_whose 15 = .ok (.aload_n 3, 1) := by decide +kernel
theorem dX5_whose_16 : decode cX5_whose 16 = .ok (.iconst 0, 1) := by decide +kernel
theorem dX5_whose_17 : decode cX5_whose 17 = .ok (.aload_n 2, 1) := by decide +kernel
theorem dX5_whose_18 : decode cX5_whose 18 = .ok (.getfield 48, 3) := by decide +kernel
theorem dX5_whose_21 : decode cX5_whose 21 = .ok (.iastore, 1) := by decide +kernel
theorem dX5_whose_22 : decode cX5_whose 22 = .ok (.aload_n 3, 1) := by decide +kernel
theorem dX5_whose_23 : decode cX5_whose 23 = .ok (.iconst 1, 1) := by decide +kernel
theorem dX5_whose_24 : decode cX5_whose 24 = .ok (.aload_n 2, 1) := by decide +kernel
theorem dX5_whose_25 : decode cX5_whose 25 = .ok (.getfield 51, 3) := by decide +kernel
theorem dX5_whose_28 : decode cX5_whose 28 = .ok (.iastore, 1) := by decide +kernel
theorem dX5_whose_29 : decode cX5_whose 29 = .ok (.aload_n 3, 1) := by decide +kernel
theorem dX5_whose_30 : decode cX5_whose 30 = .ok (.iconst 2, 1) := by decide +kernel
theorem dX5_whose_31 : decode cX5_whose 31 = .ok (.aload_n 2, 1) := by decide +kernel
theorem dX5_whose_32 : decode cX5_whose 32 = .ok (.getfield 54, 3) := by decide +kernel
theorem dX5_whose_35 : decode cX5_whose 35 = .ok (.iastore, 1) := by decide +kernel
theorem dX5_whose_36 : decode cX5_whose 36 = .ok (.aload_n 3, 1) := by decide +kernel
theorem dX5_whose_37 : decode cX5_whose 37 = .ok (.iconst 3, 1) := by decide +kernel
theorem dX5_whose_38 : decode cX5_whose 38 = .ok (.aload_n 0, 1) := by decide +kernel
theorem dX5_whose_39 : decode cX5_whose 39 = .ok (.getfield 32, 3) := by decide +kernel
theorem dX5_whose_42 : decode cX5_whose 42 = .ok (.getfield 57, 3) := by decide +kernel
theorem dX5_whose_45 : decode cX5_whose 45 = .ok (.aload_n 2, 1) := by decide +kernel
theorem dX5_whose_46 : decode cX5_whose 46 = .ok (.getfield 62, 3) := by decide +kernel
theorem dX5_whose_49 : decode cX5_whose 49 = .ok (.iaload, 1) := by decide +kernel
theorem dX5_whose_50 : decode cX5_whose 50 = .ok (.iastore, 1) := by decide +kernel
theorem dX5_whose_51 : decode cX5_whose 51 = .ok (.aload_n 0, 1) := by decide +kernel
theorem dX5_whose_52 : decode cX5_whose 52 = .ok (.getfield 28, 3) := by decide +kernel
theorem dX5_whose_55 : decode cX5_whose 55 = .ok (.aload_n 0, 1) := by decide +kernel
theorem dX5_whose_56 : decode cX5_whose 56 = .ok (.getfield 28, 3) := by decide +kernel
theorem dX5_whose_59 : decode cX5_whose 59 = .ok (.iconst 2, 1) := by decide +kernel
theorem dX5_whose_60 : decode cX5_whose 60 = .ok (.aload_n 2, 1) := by decide +kernel
theorem dX5_whose_61 : decode cX5_whose 61 = .ok (.getfield 36, 3) := by decide +kernel
theorem dX5_whose_64 : decode cX5_whose 64 = .ok (.aconst_null, 1) := by decide +kernel
theorem dX5_whose_65 : decode cX5_whose 65 = .ok (.invokevirtual 65, 3) := by decide +kernel
theorem dX5_whose_68 : decode cX5_whose 68 = .ok (.invokevirtual 69, 3) := by decide +kernel
theorem dX5_whose_71 : decode cX5_whose 71 = .ok (.istore 4, 2) := by decide +kernel
theorem dX5_whose_73 : decode cX5_whose 73 = .ok (.iload 4, 2) := by decide +kernel
theorem dX5_whose_75 : decode cX5_whose 75 = .ok (.iconst 1, 1) := by decide +kernel
theorem dX5_whose_76 : decode cX5_whose 76 = .ok (.if_icmp .eq 9, 3) := by decide +kernel
theorem dX5_whose_79 : decode cX5_whose 79 = .ok (.iload 4, 2) := by decide +kernel
theorem dX5_whose_81 : decode cX5_whose 81 = .ok (.iconst 2, 1) := by decide +kernel
theorem dX5_whose_82 : decode cX5_whose 82 = .ok (.if_icmp .ne 8, 3) := by decide +kernel
theorem dX5_whose_85 : decode cX5_whose 85 = .ok (.iload 4, 2) := by decide +kernel
theorem dX5_whose_87 : decode cX5_whose 87 = .ok (.goto 4, 3) := by decide +kernel
theorem dX5_whose_90 : decode cX5_whose 90 = .ok (.iconst 0, 1) := by decide +kernel
theorem dX5_whose_91 : decode cX5_whose 91 = .ok (.ireturn, 1) := by decide +kernel
theorem dX5_faultsWith_0 : decode cX5_faultsWith 0 = .ok (.iconst 0, 1) := by decide +kernel
theorem dX5_faultsWith_1 : decode cX5_faultsWith 1 = .ok (.istore_n 3, 1) := by decide +kernel
theorem dX5_faultsWith_2 : decode cX5_faultsWith 2 = .ok (.iconst 0, 1) := by decide +kernel
theorem dX5_faultsWith_3 : decode cX5_faultsWith 3 = .ok (.istore 4, 2) := by decide +kernel
theorem dX5_faultsWith_5 : decode cX5_faultsWith 5 = .ok (.iload 4, 2) := by decide +kernel
theorem dX5_faultsWith_7 : decode cX5_faultsWith 7 = .ok (.aload_n 0, 1) := by decide +kernel
theorem dX5_faultsWith_8 : decode cX5_faultsWith 8 = .ok (.getfield 24, 3) := by decide +kernel
theorem dX5_faultsWith_11 : decode cX5_faultsWith 11 = .ok (.getfield 73, 3) := by decide +kernel
theorem dX5_faultsWith_14 : decode cX5_faultsWith 14 = .ok (.if_icmp .ge 32, 3) := by decide +kernel
theorem dX5_faultsWith_17 : decode cX5_faultsWith 17 = .ok (.aload_n 0, 1) := by decide +kernel
theorem dX5_faultsWith_18 : decode cX5_faultsWith 18 = .ok (.getfield 32, 3) := by decide +kernel
theorem dX5_faultsWith_21 : decode cX5_faultsWith 21 = .ok (.iload 4, 2) := by decide +kernel
theorem dX5_faultsWith_23 : decode cX5_faultsWith 23 = .ok (.iload_n 1, 1) := by decide +kernel
theorem dX5_faultsWith_24 : decode cX5_faultsWith 24 = .ok (.invokevirtual 78, 3) := by decide +kernel
theorem dX5_faultsWith_27 : decode cX5_faultsWith 27 = .ok (.ifCond .eq 13, 3) := by decide +kernel
theorem dX5_faultsWith_30 : decode cX5_faultsWith 30 = .ok (.iload_n 3, 1) := by decide +kernel
theorem dX5_faultsWith_31 : decode cX5_faultsWith 31 = .ok (.aload_n 0, 1) := by decide +kernel
theorem dX5_faultsWith_32 : decode cX5_faultsWith 32 = .ok (.iload 4, 2) := by decide +kernel
theorem dX5_faultsWith_34 : decode cX5_faultsWith 34 = .ok (.iload_n 2, 1) := by decide +kernel
theorem dX5_faultsWith_35 : decode cX5_faultsWith 35 = .ok (.invokevirtual 82, 3) := by decide +kernel
theorem dX5_faultsWith_38 : decode cX5_faultsWith 38 = .ok (.iadd, 1) := by decide +kernel
theorem dX5_faultsWith_39 : decode cX5_faultsWith 39 = .ok (.istore_n 3, 1) := by decide +kernel
theorem dX5_faultsWith_40 : decode cX5_faultsWith 40 = .ok (.iinc 4 1, 3) := by decide +kernel
theorem dX5_faultsWith_43 : decode cX5_faultsWith 43 = .ok (.goto (-38), 3) := by decide +kernel
theorem dX5_faultsWith_46 : decode cX5_faultsWith 46 = .ok (.iload_n 3, 1) := by decide +kernel
theorem dX5_faultsWith_47 : decode cX5_faultsWith 47 = .ok (.ireturn, 1) := by decide +kernel
theorem dX5_faultsOn_0 : decode cX5_faultsOn 0 = .ok (.iconst 0, 1) := by decide +kernel
theorem dX5_faultsOn_1 : decode cX5_faultsOn 1 = .ok (.istore_n 3, 1) := by decide +kernel
theorem dX5_faultsOn_2 : decode cX5_faultsOn 2 = .ok (.iconst 0, 1) := by decide +kernel
theorem dX5_faultsOn_3 : decode cX5_faultsOn 3 = .ok (.istore 4, 2) := by decide +kernel
theorem dX5_faultsOn_5 : decode cX5_faultsOn 5 = .ok (.iload 4, 2) := by decide +kernel
theorem dX5_faultsOn_7 : decode cX5_faultsOn 7 = .ok (.aload_n 0, 1) := by decide +kernel
theorem dX5_faultsOn_8 : decode cX5_faultsOn 8 = .ok (.getfield 17, 3) := by decide +kernel
theorem dX5_faultsOn_11 : decode cX5_faultsOn 11 = .ok (.if_icmp .ge 45, 3) := by decide +kernel
theorem dX5_faultsOn_14 : decode cX5_faultsOn 14 = .ok (.aload_n 0, 1) := by decide +kernel
theorem dX5_faultsOn_15 : decode cX5_faultsOn 15 = .ok (.getfield 11, 3) := by decide +kernel
theorem dX5_faultsOn_18 : decode cX5_faultsOn 18 = .ok (.iload 4, 2) := by decide +kernel
theorem dX5_faultsOn_20 : decode cX5_faultsOn 20 = .ok (.aaload, 1) := by decide +kernel
theorem dX5_faultsOn_21 : decode cX5_faultsOn 21 = .ok (.getfield 62, 3) := by decide +kernel
theorem dX5_faultsOn_24 : decode cX5_faultsOn 24 = .ok (.iload_n 1, 1) := by decide +kernel
theorem dX5_faultsOn_25 : decode cX5_faultsOn 25 = .ok (.if_icmp .ne 25, 3) := by decide +kernel
theorem dX5_faultsOn_28 : decode cX5_faultsOn 28 = .ok (.aload_n 0, 1) := by decide +kernel
theorem dX5_faultsOn_29 : decode cX5_faultsOn 29 = .ok (.iload 4, 2) := by decide +kernel
theorem dX5_faultsOn_31 : decode cX5_faultsOn 31 = .ok (.invokevirtual 86, 3) := by decide +kernel
theorem dX5_faultsOn_34 : decode cX5_faultsOn 34 = .ok (.ifCond .eq 16, 3) := by decide +kernel
theorem dX5_faultsOn_37 : decode cX5_faultsOn 37 = .ok (.aload_n 0, 1) := by decide +kernel
theorem dX5_faultsOn_38 : decode cX5_faultsOn 38 = .ok (.iload 4, 2) := by decide +kernel
theorem dX5_faultsOn_40 : decode cX5_faultsOn 40 = .ok (.invokevirtual 90, 3) := by decide +kernel
theorem dX5_faultsOn_43 : decode cX5_faultsOn 43 = .ok (.iload_n 2, 1) := by decide +kernel
theorem dX5_faultsOn_44 : decode cX5_faultsOn 44 = .ok (.if_icmp .ne 6, 3) := by decide +kernel
theorem dX5_faultsOn_47 : decode cX5_faultsOn 47 = .ok (.iinc 3 1, 3) := by decide +kernel
theorem dX5_faultsOn_50 : decode cX5_faultsOn 50 = .ok (.iinc 4 1, 3) := by decide +kernel
theorem dX5_faultsOn_53 : decode cX5_faultsOn 53 = .ok (.goto (-48), 3) := by decide +kernel
theorem dX5_faultsOn_56 : decode cX5_faultsOn 56 = .ok (.iload_n 3, 1) := by decide +kernel
theorem dX5_faultsOn_57 : decode cX5_faultsOn 57 = .ok (.ireturn, 1) := by decide +kernel
theorem dX5_payFor_0 : decode cX5_payFor 0 = .ok (.aload_n 0, 1) := by decide +kernel
theorem dX5_payFor_1 : decode cX5_payFor 1 = .ok (.getfield 32, 3) := by decide +kernel
theorem dX5_payFor_4 : decode cX5_payFor 4 = .ok (.getfield 94, 3) := by decide +kernel
theorem dX5_payFor_7 : decode cX5_payFor 7 = .ok (.iload_n 1, 1) := by decide +kernel
theorem dX5_payFor_8 : decode cX5_payFor 8 = .ok (.iaload, 1) := by decide +kernel
theorem dX5_payFor_9 : decode cX5_payFor 9 = .ok (.iconst (-1), 1) := by decide +kernel
theorem dX5_payFor_10 : decode cX5_payFor 10 = .ok (.if_icmp .ne 5, 3) := by decide +kernel
theorem dX5_payFor_13 : decode cX5_payFor 13 = .ok (.iconst 0, 1) := by decide +kernel
theorem dX5_payFor_14 : decode cX5_payFor 14 = .ok (.ireturn, 1) := by decide +kernel
theorem dX5_payFor_15 : decode cX5_payFor 15 = .ok (.aload_n 0, 1) := by decide +kernel
theorem dX5_payFor_16 : decode cX5_payFor 16 = .ok (.iload_n 1, 1) := by decide +kernel
theorem dX5_payFor_17 : decode cX5_payFor 17 = .ok (.iconst 1, 1) := by decide +kernel
theorem dX5_payFor_18 : decode cX5_payFor 18 = .ok (.invokevirtual 82, 3) := by decide +kernel
theorem dX5_payFor_21 : decode cX5_payFor 21 = .ok (.istore_n 2, 1) := by decide +kernel
theorem dX5_payFor_22 : decode cX5_payFor 22 = .ok (.aload_n 0, 1) := by decide +kernel
theorem dX5_payFor_23 : decode cX5_payFor 23 = .ok (.getfield 24, 3) := by decide +kernel
theorem dX5_payFor_26 : decode cX5_payFor 26 = .ok (.getfield 97, 3) := by decide +kernel
theorem dX5_payFor_29 : decode cX5_payFor 29 = .ok (.iload_n 1, 1) := by decide +kernel
theorem dX5_payFor_30 : decode cX5_payFor 30 = .ok (.aaload, 1) := by decide +kernel
theorem dX5_payFor_31 : decode cX5_payFor 31 = .ok (.astore_n 3, 1) := by decide +kernel
theorem dX5_payFor_32 : decode cX5_payFor 32 = .ok (.aload_n 0, 1) := by decide +kernel
theorem dX5_payFor_33 : decode cX5_payFor 33 = .ok (.getfield 28, 3) := by decide +kernel
theorem dX5_payFor_36 : decode cX5_payFor 36 = .ok (.getfield 42, 3) := by decide +kernel
theorem dX5_payFor_39 : decode cX5_payFor 39 = .ok (.astore 4, 2) := by decide +kernel
theorem dX5_payFor_41 : decode cX5_payFor 41 = .ok (.aload 4, 2) := by decide +kernel
theorem dX5_payFor_43 : decode cX5_payFor 43 = .ok (.iconst 0, 1) := by decide +kernel
theorem dX5_payFor_44 : decode cX5_payFor 44 = .ok (.aload_n 3, 1) := by decide +kernel
theorem dX5_payFor_45 : decode cX5_payFor 45 = .ok (.getfield 101, 3) := by decide +kernel
theorem dX5_payFor_48 : decode cX5_payFor 48 = .ok (.iastore, 1) := by decide +kernel
theorem dX5_payFor_49 : decode cX5_payFor 49 = .ok (.aload 4, 2) := by decide +kernel
theorem dX5_payFor_51 : decode cX5_payFor 51 = .ok (.iconst 1, 1) := by decide +kernel
theorem dX5_payFor_52 : decode cX5_payFor 52 = .ok (.aload_n 3, 1) := by decide +kernel
theorem dX5_payFor_53 : decode cX5_payFor 53 = .ok (.getfield 106, 3) := by decide +kernel
theorem dX5_payFor_56 : decode cX5_payFor 56 = .ok (.iastore, 1) := by decide +kernel
theorem dX5_payFor_57 : decode cX5_payFor 57 = .ok (.aload 4, 2) := by decide +kernel
theorem dX5_payFor_59 : decode cX5_payFor 59 = .ok (.iconst 2, 1) := by decide +kernel
theorem dX5_payFor_60 : decode cX5_payFor 60 = .ok (.aload_n 3, 1) := by decide +kernel
theorem dX5_payFor_61 : decode cX5_payFor 61 = .ok (.getfield 109, 3) := by decide +kernel
theorem dX5_payFor_64 : decode cX5_payFor 64 = .ok (.iastore, 1) := by decide +kernel
theorem dX5_payFor_65 : decode cX5_payFor 65 = .ok (.aload 4, 2) := by decide +kernel
theorem dX5_payFor_67 : decode cX5_payFor 67 = .ok (.iconst 3, 1) := by decide +kernel
theorem dX5_payFor_68 : decode cX5_payFor 68 = .ok (.aload_n 0, 1) := by decide +kernel
theorem dX5_payFor_69 : decode cX5_payFor 69 = .ok (.getfield 32, 3) := by decide +kernel
theorem dX5_payFor_72 : decode cX5_payFor 72 = .ok (.iload_n 1, 1) := by decide +kernel
theorem dX5_payFor_73 : decode cX5_payFor 73 = .ok (.invokevirtual 112, 3) := by decide +kernel
theorem dX5_payFor_76 : decode cX5_payFor 76 = .ok (.iastore, 1) := by decide +kernel
theorem dX5_payFor_77 : decode cX5_payFor 77 = .ok (.aload 4, 2) := by decide +kernel
theorem dX5_payFor_79 : decode cX5_payFor 79 = .ok (.iconst 4, 1) := by decide +kernel
theorem dX5_payFor_80 : decode cX5_payFor 80 = .ok (.iload_n 2, 1) := by decide +kernel
theorem dX5_payFor_81 : decode cX5_payFor 81 = .ok (.iastore, 1) := by decide +kernel
theorem dX5_payFor_82 : decode cX5_payFor 82 = .ok (.aload_n 0, 1) := by decide +kernel
theorem dX5_payFor_83 : decode cX5_payFor 83 = .ok (.getfield 28, 3) := by decide +kernel
theorem dX5_payFor_86 : decode cX5_payFor 86 = .ok (.aload_n 0, 1) := by decide +kernel
theorem dX5_payFor_87 : decode cX5_payFor 87 = .ok (.getfield 28, 3) := by decide +kernel
theorem dX5_payFor_90 : decode cX5_payFor 90 = .ok (.iconst 3, 1) := by decide +kernel
theorem dX5_payFor_91 : decode cX5_payFor 91 = .ok (.aload_n 0, 1) := by decide +kernel
theorem dX5_payFor_92 : decode cX5_payFor 92 = .ok (.getfield 32, 3) := by decide +kernel
theorem dX5_payFor_95 : decode cX5_payFor 95 = .ok (.getfield 94, 3) := by decide +kernel
theorem dX5_payFor_98 : decode cX5_payFor 98 = .ok (.iload_n 1, 1) := by decide +kernel
theorem dX5_payFor_99 : decode cX5_payFor 99 = .ok (.iaload, 1) := by decide +kernel
theorem dX5_payFor_100 : decode cX5_payFor 100 = .ok (.sipush 480, 3) := by decide +kernel
theorem dX5_payFor_103 : decode cX5_payFor 103 = .ok (.idiv, 1) := by decide +kernel
theorem dX5_payFor_104 : decode cX5_payFor 104 = .ok (.aconst_null, 1) := by decide +kernel
theorem dX5_payFor_105 : decode cX5_payFor 105 = .ok (.invokevirtual 65, 3) := by decide +kernel
theorem dX5_payFor_108 : decode cX5_payFor 108 = .ok (.invokevirtual 69, 3) := by decide +kernel
theorem dX5_payFor_111 : decode cX5_payFor 111 = .ok (.ireturn, 1) := by decide +kernel
theorem dX5_payOf_0 : decode cX5_payOf 0 = .ok (.iconst 0, 1) := by decide +kernel
theorem dX5_payOf_1 : decode cX5_payOf 1 = .ok (.istore_n 3, 1) := by decide +kernel
theorem dX5_payOf_2 : decode cX5_payOf 2 = .ok (.iconst 0, 1) := by decide +kernel
theorem dX5_payOf_3 : decode cX5_payOf 3 = .ok (.istore 4, 2) := by decide +kernel
theorem dX5_payOf_5 : decode cX5_payOf 5 = .ok (.iload 4, 2) := by decide +kernel
theorem dX5_payOf_7 : decode cX5_payOf 7 = .ok (.aload_n 0, 1) := by decide +kernel
theorem dX5_payOf_8 : decode cX5_payOf 8 = .ok (.getfield 24, 3) := by decide +kernel
theorem dX5_payOf_11 : decode cX5_payOf 11 = .ok (.getfield 73, 3) := by decide +kernel
theorem dX5_payOf_14 : decode cX5_payOf 14 = .ok (.if_icmp .ge 66, 3) := by decide +kernel
theorem dX5_payOf_17 : decode cX5_payOf 17 = .ok (.aload_n 0, 1) := by decide +kernel
theorem dX5_payOf_18 : decode cX5_payOf 18 = .ok (.getfield 32, 3) := by decide +kernel
theorem dX5_payOf_21 : decode cX5_payOf 21 = .ok (.iload 4, 2) := by decide +kernel
theorem dX5_payOf_23 : decode cX5_payOf 23 = .ok (.iload_n 1, 1) := by decide +kernel
theorem dX5_payOf_24 : decode cX5_payOf 24 = .ok (.invokevirtual 78, 3) := by decide +kernel
theorem dX5_payOf_27 : decode cX5_payOf 27 = .ok (.ifCond .eq 30, 3) := by decide +kernel
theorem dX5_payOf_30 : decode cX5_payOf 30 = .ok (.iload_n 2, 1) := by decide +kernel
theorem dX5_payOf_31 : decode cX5_payOf 31 = .ok (.iconst (-1), 1) := by decide +kernel
theorem dX5_payOf_32 : decode cX5_payOf 32 = .ok (.if_icmp .eq 21, 3) := by decide +kernel
theorem dX5_payOf_35 : decode cX5_payOf 35 = .ok (.aload_n 0, 1) := by decide +kernel
theorem dX5_payOf_36 : decode cX5_payOf 36 = .ok (.getfield 32, 3) := by decide +kernel
theorem dX5_payOf_39 : decode cX5_payOf 39 = .ok (.getfield 94, 3) := by decide +kernel
theorem dX5_payOf_42 : decode cX5_payOf 42 = .ok (.iload 4, 2) := by decide +kernel
theorem dX5_payOf_44 : decode cX5_payOf 44 = .ok (.iaload, 1) := by decide +kernel
theorem dX5_payOf_45 : decode cX5_payOf 45 = .ok (.sipush 480, 3) := by decide +kernel
theorem dX5_payOf_48 : decode cX5_payOf 48 = .ok (.idiv, 1) := by decide +kernel
theorem dX5_payOf_49 : decode cX5_payOf 49 = .ok (.iload_n 2, 1) := by decide +kernel
theorem dX5_payOf_50 : decode cX5_payOf 50 = .ok (.if_icmp .ne 7, 3) := by decide +kernel
theorem dX5_payOf_53 : decode cX5_payOf 53 = .ok (.iconst 1, 1) := by decide +kernel
theorem dX5_payOf_54 : decode cX5_payOf 54 = .ok (.goto 4, 3) := by decide +kernel
theorem dX5_payOf_57 : decode cX5_payOf 57 = .ok (.iconst 0, 1) := by decide +kernel
theorem dX5_payOf_58 : decode cX5_payOf 58 = .ok (.istore 5, 2) := by decide +kernel
theorem dX5_payOf_60 : decode cX5_payOf 60 = .ok (.iload 5, 2) := by decide +kernel
theorem dX5_payOf_62 : decode cX5_payOf 62 = .ok (.ifCond .eq 12, 3) := by decide +kernel
theorem dX5_payOf_65 : decode cX5_payOf 65 = .ok (.iload_n 3, 1) := by decide +kernel
theorem dX5_payOf_66 : decode cX5_payOf 66 = .ok (.aload_n 0, 1) := by decide +kernel
theorem dX5_payOf_67 : decode cX5_payOf 67 = .ok (.iload 4, 2) := by decide +kernel
theorem dX5_payOf_69 : decode cX5_payOf 69 = .ok (.invokevirtual 115, 3) := by decide +kernel
theorem dX5_payOf_72 : decode cX5_payOf 72 = .ok (.iadd, 1) := by decide +kernel
theorem dX5_payOf_73 : decode cX5_payOf 73 = .ok (.istore_n 3, 1) := by decide +kernel
theorem dX5_payOf_74 : decode cX5_payOf 74 = .ok (.iinc 4 1, 3) := by decide +kernel
theorem dX5_payOf_77 : decode cX5_payOf 77 = .ok (.goto (-72), 3) := by decide +kernel
theorem dX5_payOf_80 : decode cX5_payOf 80 = .ok (.iload_n 3, 1) := by decide +kernel
theorem dX5_payOf_81 : decode cX5_payOf 81 = .ok (.ireturn, 1) := by decide +kernel
theorem dX6_init_0 : decode cX6_init 0 = .ok (.aload_n 0, 1) := by decide +kernel
theorem dX6_init_1 : decode cX6_init 1 = .ok (.invokespecial 3, 3) := by decide +kernel
theorem dX6_init_4 : decode cX6_init 4 = .ok (.return_, 1) := by decide +kernel
theorem dX6_allWork_0 : decode cX6_allWork 0 = .ok (.bipush 60, 2) := by decide +kernel
theorem dX6_allWork_2 : decode cX6_allWork 2 = .ok (.aload_n 0, 1) := by decide +kernel
theorem dX6_allWork_3 : decode cX6_allWork 3 = .ok (.getfield 9, 3) := by decide +kernel
theorem dX6_allWork_6 : decode cX6_allWork 6 = .ok (.imul, 1) := by decide +kernel
theorem dX6_allWork_7 : decode cX6_allWork 7 = .ok (.iconst 2, 1) := by decide +kernel
theorem dX6_allWork_8 : decode cX6_allWork 8 = .ok (.aload_n 0, 1) := by decide +kernel
theorem dX6_allWork_9 : decode cX6_allWork 9 = .ok (.getfield 9, 3) := by decide +kernel
theorem dX6_allWork_12 : decode cX6_allWork 12 = .ok (.imul, 1) := by decide +kernel
theorem dX6_allWork_13 : decode cX6_allWork 13 = .ok (.aload_n 0, 1) := by decide +kernel
theorem dX6_allWork_14 : decode cX6_allWork 14 = .ok (.getfield 15, 3) := by decide +kernel
theorem dX6_allWork_17 : decode cX6_allWork 17 = .ok (.imul, 1) := by decide +kernel
theorem dX6_allWork_18 : decode cX6_allWork 18 = .ok (.iadd, 1) := by decide +kernel
theorem dX6_allWork_19 : decode cX6_allWork 19 = .ok (.ireturn, 1) := by decide +kernel
theorem dX6_unknownTo_0 : decode cX6_unknownTo 0 = .ok (.aload_n 0, 1) := by decide +kernel
theorem dX6_unknownTo_1 : decode cX6_unknownTo 1 = .ok (.getfield 18, 3) := by decide +kernel
theorem dX6_unknownTo_4 : decode cX6_unknownTo 4 = .ok (.iload_n 1, 1) := by decide +kernel
theorem dX6_unknownTo_5 : decode cX6_unknownTo 5 = .ok (.iconst (-1), 1) := by decide +kernel
theorem dX6_unknownTo_6 : decode cX6_unknownTo 6 = .ok (.ixor, 1) := by decide +kernel
theorem dX6_unknownTo_7 : decode cX6_unknownTo 7 = .ok (.iand, 1) := by decide +kernel
theorem dX6_unknownTo_8 : decode cX6_unknownTo 8 = .ok (.invokestatic 21, 3) := by decide +kernel
theorem dX6_unknownTo_11 : decode cX6_unknownTo 11 = .ok (.ireturn, 1) := by decide +kernel
theorem dX6_slipsLeft_0 : decode cX6_slipsLeft 0 = .ok (.aload_n 0, 1) := by decide +kernel
theorem dX6_slipsLeft_1 : decode cX6_slipsLeft 1 = .ok (.getfield 27, 3) := by decide +kernel
theorem dX6_slipsLeft_4 : decode cX6_slipsLeft 4 = .ok (.aload_n 0, 1) := by decide +kernel
theorem dX6_slipsLeft_5 : decode cX6_slipsLeft 5 = .ok (.getfield 30, 3) := by decide +kernel
theorem dX6_slipsLeft_8 : decode cX6_slipsLeft 8 = .ok (.iand, 1) := by decide +kernel
theorem dX6_slipsLeft_9 : decode cX6_slipsLeft 9 = .ok (.invokestatic 21, 3) := by decide +kernel
theorem dX6_slipsLeft_12 : decode cX6_slipsLeft 12 = .ok (.istore_n 1, 1) := by decide +kernel
theorem dX6_slipsLeft_13 : decode cX6_slipsLeft 13 = .ok (.iload_n 1, 1) := by decide +kernel
theorem dX6_slipsLeft_14 : decode cX6_slipsLeft 14 = .ok (.ifCond .ne 5, 3) := by decide +kernel
theorem dX6_slipsLeft_17 : decode cX6_slipsLeft 17 = .ok (.iconst (-1), 1) := by decide +kernel
theorem dX6_slipsLeft_18 : decode cX6_slipsLeft 18 = .ok (.ireturn, 1) := by decide +kernel
theorem dX6_slipsLeft_19 : decode cX6_slipsLeft 19 = .ok (.aload_n 0, 1) := by decide +kernel
theorem dX6_slipsLeft_20 : decode cX6_slipsLeft 20 = .ok (.getfield 27, 3) := by decide +kernel
theorem dX6_slipsLeft_23 : decode cX6_slipsLeft 23 = .ok (.aload_n 0, 1) := by decide +kernel
theorem dX6_slipsLeft_24 : decode cX6_slipsLeft 24 = .ok (.getfield 30, 3) := by decide +kernel
theorem dX6_slipsLeft_27 : decode cX6_slipsLeft 27 = .ok (.iconst (-1), 1) := by decide +kernel
theorem dX6_slipsLeft_28 : decode cX6_slipsLeft 28 = .ok (.ixor, 1) := by decide +kernel
theorem dX6_slipsLeft_29 : decode cX6_slipsLeft 29 = .ok (.iand, 1) := by decide +kernel
theorem dX6_slipsLeft_30 : decode cX6_slipsLeft 30 = .ok (.invokestatic 21, 3) := by decide +kernel
theorem dX6_slipsLeft_33 : decode cX6_slipsLeft 33 = .ok (.istore_n 2, 1) := by decide +kernel
theorem dX6_slipsLeft_34 : decode cX6_slipsLeft 34 = .ok (.aload_n 0, 1) := by decide +kernel
theorem dX6_slipsLeft_35 : decode cX6_slipsLeft 35 = .ok (.getfield 30, 3) := by decide +kernel
theorem dX6_slipsLeft_38 : decode cX6_slipsLeft 38 = .ok (.aload_n 0, 1) := by decide +kernel
theorem dX6_slipsLeft_39 : decode cX6_slipsLeft 39 = .ok (.getfield 27, 3) := by decide +kernel
theorem dX6_slipsLeft_42 : decode cX6_slipsLeft 42 = .ok (.iconst (-1), 1) := by decide +kernel
theorem dX6_slipsLeft_43 : decode cX6_slipsLeft 43 = .ok (.ixor, 1) := by decide +kernel
theorem dX6_slipsLeft_44 : decode cX6_slipsLeft 44 = .ok (.iand, 1) := by decide +kernel
theorem dX6_slipsLeft_45 : decode cX6_slipsLeft 45 = .ok (.invokestatic 21, 3) := by decide +kernel
theorem dX6_slipsLeft_48 : decode cX6_slipsLeft 48 = .ok (.istore_n 3, 1) := by decide +kernel
theorem dX6_slipsLeft_49 : decode cX6_slipsLeft 49 = .ok (.iload_n 2, 1) := by decide +kernel
theorem dX6_slipsLeft_50 : decode cX6_slipsLeft 50 = .ok (.iload_n 3, 1) := by decide +kernel
theorem dX6_slipsLeft_51 : decode cX6_slipsLeft 51 = .ok (.imul, 1) := by decide +kernel
theorem dX6_slipsLeft_52 : decode cX6_slipsLeft 52 = .ok (.iload_n 1, 1) := by decide +kernel
theorem dX6_slipsLeft_53 : decode cX6_slipsLeft 53 = .ok (.idiv, 1) := by decide +kernel
theorem dX6_slipsLeft_54 : decode cX6_slipsLeft 54 = .ok (.ireturn, 1) := by decide +kernel
theorem dX7_init_0 : decode cX7_init 0 = .ok (.aload_n 0, 1) := by decide +kernel
theorem dX7_init_1 : decode cX7_init 1 = .ok (.invokespecial 3, 3) := by decide +kernel
theorem dX7_init_4 : decode cX7_init 4 = .ok (.aload_n 0, 1) := by decide +kernel
theorem dX7_init_5 : decode cX7_init 5 = .ok (.iconst 5, 1) := by decide +kernel
theorem dX7_init_6 : decode cX7_init 6 = .ok (.newarray .int, 2) := by decide +kernel
theorem dX7_init_8 : decode cX7_init 8 = .ok (.putfield 9, 3) := by decide +kernel
theorem dX7_init_11 : decode cX7_init 11 = .ok (.aload_n 0, 1) := by decide +kernel
theorem dX7_init_12 : decode cX7_init 12 = .ok (.iconst 3, 1) := by decide +kernel
theorem dX7_init_13 : decode cX7_init 13 = .ok (.newarray .int, 2) := by decide +kernel
theorem dX7_init_15 : decode cX7_init 15 = .ok (.putfield 15, 3) := by decide +kernel
theorem dX7_init_18 : decode cX7_init 18 = .ok (.aload_n 0, 1) := by decide +kernel
theorem dX7_init_19 : decode cX7_init 19 = .ok (.iconst 3, 1) := by decide +kernel
theorem dX7_init_20 : decode cX7_init 20 = .ok (.newarray .int, 2) := by decide +kernel
theorem dX7_init_22 : decode cX7_init 22 = .ok (.putfield 18, 3) := by decide +kernel
theorem dX7_init_25 : decode cX7_init 25 = .ok (.aload_n 0, 1) := by decide +kernel
theorem dX7_init_26 : decode cX7_init 26 = .ok (.bipush 8, 2) := by decide +kernel
theorem dX7_init_28 : decode cX7_init 28 = .ok (.newarray .int, 2) := by decide +kernel
theorem dX7_init_30 : decode cX7_init 30 = .ok (.putfield 21, 3) := by decide +kernel
theorem dX7_init_33 : decode cX7_init 33 = .ok (.aload_n 0, 1) := by decide +kernel
theorem dX7_init_34 : decode cX7_init 34 = .ok (.bipush 8, 2) := by decide +kernel
theorem dX7_init_36 : decode cX7_init 36 = .ok (.newarray .int, 2) := by decide +kernel
theorem dX7_init_38 : decode cX7_init 38 = .ok (.putfield 24, 3) := by decide +kernel
theorem dX7_init_41 : decode cX7_init 41 = .ok (.aload_n 0, 1) := by decide +kernel
theorem dX7_init_42 : decode cX7_init 42 = .ok (.aload_n 1, 1) := by decide +kernel
theorem dX7_init_43 : decode cX7_init 43 = .ok (.putfield 27, 3) := by decide +kernel
theorem dX7_init_46 : decode cX7_init 46 = .ok (.aload_n 0, 1) := by decide +kernel
theorem dX7_init_47 : decode cX7_init 47 = .ok (.aload_n 2, 1) := by decide +kernel
theorem dX7_init_48 : decode cX7_init 48 = .ok (.putfield 31, 3) := by decide +kernel
theorem dX7_init_51 : decode cX7_init 51 = .ok (.return_, 1) := by decide +kernel
theorem dX7_seek_0 : decode cX7_seek 0 = .ok (.aload_n 0, 1) := by decide +kernel
theorem dX7_seek_1 : decode cX7_seek 1 = .ok (.iload_n 1, 1) := by decide +kernel
theorem dX7_seek_2 : decode cX7_seek 2 = .ok (.invokevirtual 35, 3) := by decide +kernel
theorem dX7_seek_5 : decode cX7_seek 5 = .ok (.ifCond .eq 11, 3) := by decide +kernel
theorem dX7_seek_8 : decode cX7_seek 8 = .ok (.aload_n 0, 1) := by decide +kernel
theorem dX7_seek_9 : decode cX7_seek 9 = .ok (.iload_n 2, 1) := by decide +kernel
theorem dX7_seek_10 : decode cX7_seek 10 = .ok (.invokevirtual 39, 3) := by decide +kernel
theorem dX7_seek_13 : decode cX7_seek 13 = .ok (.ifCond .ne 5, 3) := by decide +kernel
theorem dX7_seek_16 : decode cX7_seek 16 = .ok (.iconst (-1), 1) := by decide +kernel
theorem dX7_seek_17 : decode cX7_seek 17 = .ok (.ireturn, 1) := by decide +kernel
theorem dX7_seek_18 : decode cX7_seek 18 = .ok (.iconst 1, 1) := by decide +kernel
theorem dX7_seek_19 : decode cX7_seek 19 = .ok (.aload_n 0, 1) := by decide +kernel
theorem dX7_seek_20 : decode cX7_seek 20 = .ok (.getfield 42, 3) := by decide +kernel
theorem dX7_seek_23 : decode cX7_seek 23 = .ok (.ishl, 1) := by decide +kernel
theorem dX7_seek_24 : decode cX7_seek 24 = .ok (.iconst 1, 1) := by decide +kernel
theorem dX7_seek_25 : decode cX7_seek 25 = .ok (.isub, 1) := by decide +kernel
theorem dX7_seek_26 : decode cX7_seek 26 = .ok (.istore_n 3, 1) := by decide +kernel
theorem dX7_seek_27 : decode cX7_seek 27 = .ok (.aload_n 0, 1) := by decide +kernel
theorem dX7_seek_28 : decode cX7_seek 28 = .ok (.invokevirtual 46, 3) := by decide +kernel
theorem dX7_seek_31 : decode cX7_seek 31 = .ok (.iload_n 3, 1) := by decide +kernel
theorem dX7_seek_32 : decode cX7_seek 32 = .ok (.if_icmp .eq 6, 3) := by decide +kernel
theorem dX7_seek_35 : decode cX7_seek 35 = .ok (.bipush (-2), 2) := by decide +kernel
theorem dX7_seek_37 : decode cX7_seek 37 = .ok (.ireturn, 1) := by decide +kernel
theorem dX7_seek_38 : decode cX7_seek 38 = .ok (.aload_n 0, 1) := by decide +kernel
theorem dX7_seek_39 : decode cX7_seek 39 = .ok (.iconst 0, 1) := by decide +kernel
theorem dX7_seek_40 : decode cX7_seek 40 = .ok (.putfield 50, 3) := by decide +kernel
theorem dX7_seek_43 : decode cX7_seek 43 = .ok (.aload_n 0, 1) := by decide +kernel
theorem dX7_seek_44 : decode cX7_seek 44 = .ok (.iconst 0, 1) := by decide +kernel
theorem dX7_seek_45 : decode cX7_seek 45 = .ok (.putfield 54, 3) := by decide +kernel
theorem dX7_seek_48 : decode cX7_seek 48 = .ok (.aload_n 0, 1) := by decide +kernel
theorem dX7_seek_49 : decode cX7_seek 49 = .ok (.iconst 0, 1) := by decide +kernel
theorem dX7_seek_50 : decode cX7_seek 50 = .ok (.putfield 57, 3) := by decide +kernel
theorem dX7_seek_53 : decode cX7_seek 53 = .ok (.aload_n 0, 1) := by decide +kernel
theorem dX7_seek_54 : decode cX7_seek 54 = .ok (.iconst 0, 1) := by decide +kernel
theorem dX7_seek_55 : decode cX7_seek 55 = .ok (.putfield 60, 3) := by decide +kernel
theorem dX7_seek_58 : decode cX7_seek 58 = .ok (.aload_n 0, 1) := by decide +kernel
theorem dX7_seek_59 : decode cX7_seek 59 = .ok (.iconst 0, 1) := by decide +kernel
theorem dX7_seek_60 : decode cX7_seek 60 = .ok (.iload_n 3, 1) := by decide +kernel
theorem dX7_seek_61 : decode cX7_seek 61 = .ok (.iconst 0, 1) := by decide +kernel
theorem dX7_seek_62 : decode cX7_seek 62 = .ok (.iconst 0, 1) := by decide +kernel
theorem dX7_seek_63 : decode cX7_seek 63 = .ok (.iconst 0, 1) := by decide +kernel
theorem dX7_seek_64 : decode cX7_seek 64 = .ok (.invokevirtual 63, 3) := by decide +kernel
theorem dX7_seek_67 : decode cX7_seek 67 = .ok (.iconst 0, 1) := by decide +kernel
theorem dX7_seek_68 : decode cX7_seek 68 = .ok (.ireturn, 1) := by decide +kernel
theorem dX7_listPieces_0 : decode cX7_listPieces 0 = .ok (.aload_n 0, 1) := by decide +kernel
theorem dX7_listPieces_1 : decode cX7_listPieces 1 = .ok (.iconst 0, 1) := by decide +kernel
theorem dX7_listPieces_2 : decode cX7_listPieces 2 = .ok (.putfield 42, 3) := by decide +kernel
theorem dX7_listPieces_5 : decode cX7_listPieces 5 = .ok (.iconst 0, 1) := by decide +kernel
theorem dX7_listPieces_6 : decode cX7_listPieces 6 = .ok (.istore_n 2, 1) := by decide +kernel
theorem dX7_listPieces_7 : decode cX7_listPieces 7 = .ok (.iload_n 2, 1) := by decide +kernel
theorem dX7_listPieces_8 : decode cX7_listPieces 8 = .ok (.bipush 32, 2) := by decide +kernel
theorem dX7_listPieces_10 : decode cX7_listPieces 10 = .ok (.if_icmp .ge 81, 3) := by decide +kernel
theorem dX7_listPieces_13 : decode cX7_listPieces 13 = .ok (.iload_n 1, 1) := by decide +kernel
theorem dX7_listPieces_14 : decode cX7_listPieces 14 = .ok (.iload_n 2, 1) := by decide +kernel
theorem dX7_listPieces_15 : decode cX7_listPieces 15 = .ok (.iushr, 1) := by decide +kernel
theorem dX7_listPieces_16 : decode cX7_listPieces 16 = .ok (.iconst 1, 1) := by decide +kernel
theorem dX7_listPieces_17 : decode cX7_listPieces 17 = .ok (.iand, 1) := by decide +kernel
theorem dX7_listPieces_18 : decode cX7_listPieces 18 = .ok (.iconst 1, 1) := by decide +kernel
theorem dX7_listPieces_19 : decode cX7_listPieces 19 = .ok (.if_icmp .ne 66, 3) := by decide +kernel
theorem dX7_listPieces_22 : decode cX7_listPieces 22 = .ok (.aload_n 0, 1) := by decide +kernel
theorem dX7_listPieces_23 : decode cX7_listPieces 23 = .ok (.getfield 27, 3) := by decide +kernel
theorem dX7_listPieces_26 : decode cX7_listPieces 26 = .ok (.iload_n 2, 1) := by decide +kernel
theorem dX7_listPieces_27 : decode cX7_listPieces 27 = .ok (.invokevirtual 67, 3) := by decide +kernel
theorem dX7_listPieces_30 : decode cX7_listPieces 30 = .ok (.ifCond .eq 27, 3) := by decide +kernel
theorem dX7_listPieces_33 : decode cX7_listPieces 33 = .ok (.aload_n 0, 1) := by decide +kernel
theorem dX7_listPieces_34 : decode cX7_listPieces 34 = .ok (.getfield 31, 3) := by decide +kernel
theorem dX7_listPieces_37 : decode cX7_listPieces 37 = .ok (.iload_n 2, 1) := by decide +kernel
theorem dX7_listPieces_38 : decode cX7_listPieces 38 = .ok (.invokevirtual 72, 3) := by decide +kernel
theorem dX7_listPieces_41 : decode cX7_listPieces 41 = .ok (.iconst 1, 1) := by decide +kernel
theorem dX7_listPieces_42 : decode cX7_listPieces 42 = .ok (.if_icmp .ne 15, 3) := by decide +kernel
theorem dX7_listPieces_45 : decode cX7_listPieces 45 = .ok (.aload_n 0, 1) := by decide +kernel
theorem dX7_listPieces_46 : decode cX7_listPieces 46 = .ok (.getfield 42, 3) := by decide +kernel
theorem dX7_listPieces_49 : decode cX7_listPieces 49 = .ok (.iconst 5, 1) := by decide +kernel
theorem dX7_listPieces_50 : decode cX7_listPieces 50 = .ok (.if_icmp .ge 7, 3) := by decide +kernel
theorem dX7_listPieces_53 : decode cX7_listPieces 53 = .ok (.iconst 1, 1) := by decide +kernel
theorem dX7_listPieces_54 : decode cX7_listPieces 54 = .ok (.goto 4, 3) := by decide +kernel
theorem dX7_listPieces_57 : decode cX7_listPieces 57 = .ok (.iconst 0, 1) := by decide +kernel
theorem dX7_listPieces_58 : decode cX7_listPieces 58 = .ok (.istore_n 3, 1) := by decide +kernel
theorem dX7_listPieces_59 : decode cX7_listPieces 59 = .ok (.iload_n 3, 1) := by decide +kernel
theorem dX7_listPieces_60 : decode cX7_listPieces 60 = .ok (.ifCond .ne 5, 3) := by decide +kernel
theorem dX7_listPieces_63 : decode cX7_listPieces 63 = .ok (.iconst 0, 1) := by decide +kernel
theorem dX7_listPieces_64 : decode cX7_listPieces 64 = .ok (.ireturn, 1) := by decide +kernel
theorem dX7_listPieces_65 : decode cX7_listPieces 65 = .ok (.aload_n 0, 1) := by decide +kernel
theorem dX7_listPieces_66 : decode cX7_listPieces 66 = .ok (.getfield 9, 3) := by decide +kernel
theorem dX7_listPieces_69 : decode cX7_listPieces 69 = .ok (.aload_n 0, 1) := by decide +kernel
theorem dX7_listPieces_70 : decode cX7_listPieces 70 = .ok (.getfield 42, 3) := by decide +kernel
theorem dX7_listPieces_73 : decode cX7_listPieces 73 = .ok (.iload_n 2, 1) := by decide +kernel
theorem dX7_listPieces_74 : decode cX7_listPieces 74 = .ok (.iastore, 1) := by decide +kernel
theorem dX7_listPieces_75 : decode cX7_listPieces 75 = .ok (.aload_n 0, 1) := by decide +kernel
theorem dX7_listPieces_76 : decode cX7_listPieces 76 = .ok (.dup, 1) := by decide +kernel
theorem dX7_listPieces_77 : decode cX7_listPieces 77 = .ok (.getfield 42, 3) := by decide +kernel
theorem dX7_listPieces_80 : decode cX7_listPieces 80 = .ok (.iconst 1, 1) := by decide +kernel
theorem dX7_listPieces_81 : decode cX7_listPieces 81 = .ok (.iadd, 1) := by decide +kernel
theorem dX7_listPieces_82 : decode cX7_listPieces 82 = .ok (.putfield 42, 3) := by decide +kernel
theorem dX7_listPieces_85 : decode cX7_listPieces 85 = .ok (.iinc 2 1, 3) := by decide +kernel
theorem dX7_listPieces_88 : decode cX7_listPieces 88 = .ok (.goto (-81), 3) := by decide +kernel
theorem dX7_listPieces_91 : decode cX7_listPieces 91 = .ok (.aload_n 0, 1) := by decide +kernel
theorem dX7_listPieces_92 : decode cX7_listPieces 92 = .ok (.getfield 42, 3) := by decide +kernel
theorem dX7_listPieces_95 : decode cX7_listPieces 95 = .ok (.ifCond .le 7, 3) := by decide +kernel
theorem dX7_listPieces_98 : decode cX7_listPieces 98 = .ok (.iconst 1, 1) := by decide +kernel
theorem dX7_listPieces_99 : decode cX7_listPieces 99 = .ok (.goto 4, 3) := by decide +kernel
theorem dX7_listPieces_102 : decode cX7_listPieces 102 = .ok (.iconst 0, 1) := by decide +kernel
theorem dX7_listPieces_103 : decode cX7_listPieces 103 = .ok (.ireturn, 1) := by decide +kernel
theorem dX7_listHands_0 : decode cX7_listHands 0 = .ok (.aload_n 0, 1) := by decide +kernel
theorem dX7_listHands_1 : decode cX7_listHands 1 = .ok (.iconst 0, 1) := by decide +kernel
theorem dX7_listHands_2 : decode cX7_listHands 2 = .ok (.putfield 78, 3) := by decide +kernel
theorem dX7_listHands_5 : decode cX7_listHands 5 = .ok (.iconst 0, 1) := by decide +kernel
theorem dX7_listHands_6 : decode cX7_listHands 6 = .ok (.istore_n 2, 1) := by decide +kernel
theorem dX7_listHands_7 : decode cX7_listHands 7 = .ok (.iload_n 2, 1) := by decide +kernel
theorem dX7_listHands_8 : decode cX7_listHands 8 = .ok (.bipush 32, 2) := by decide +kernel
theorem dX7_listHands_10 : decode cX7_listHands 10 = .ok (.if_icmp .ge 59, 3) := by decide +kernel
theorem dX7_listHands_13 : decode cX7_listHands 13 = .ok (.iload_n 1, 1) := by decide +kernel
theorem dX7_listHands_14 : decode cX7_listHands 14 = .ok (.iload_n 2, 1) := by decide +kernel
theorem dX7_listHands_15 : decode cX7_listHands 15 = .ok (.iushr, 1) := by decide +kernel
theorem dX7_listHands_16 : decode cX7_listHands 16 = .ok (.iconst 1, 1) := by decide +kernel
theorem dX7_listHands_17 : decode cX7_listHands 17 = .ok (.iand, 1) := by decide +kernel
theorem dX7_listHands_18 : decode cX7_listHands 18 = .ok (.iconst 1, 1) := by decide +kernel
theorem dX7_listHands_19 : decode cX7_listHands 19 = .ok (.if_icmp .ne 44, 3) := by decide +kernel
theorem dX7_listHands_22 : decode cX7_listHands 22 = .ok (.aload_n 0, 1) := by decide +kernel
theorem dX7_listHands_23 : decode cX7_listHands 23 = .ok (.getfield 27, 3) := by decide +kernel
theorem dX7_listHands_26 : decode cX7_listHands 26 = .ok (.iload_n 2, 1) := by decide +kernel
theorem dX7_listHands_27 : decode cX7_listHands 27 = .ok (.invokevirtual 81, 3) := by decide +kernel
theorem dX7_listHands_30 : decode cX7_listHands 30 = .ok (.ifCond .eq 11, 3) := by decide +kernel
theorem dX7_listHands_33 : decode cX7_listHands 33 = .ok (.aload_n 0, 1) := by decide +kernel
theorem dX7_listHands_34 : decode cX7_listHands 34 = .ok (.getfield 78, 3) := by decide +kernel
theorem dX7_listHands_37 : decode cX7_listHands 37 = .ok (.iconst 3, 1) := by decide +kernel
theorem dX7_listHands_38 : decode cX7_listHands 38 = .ok (.if_icmp .lt 5, 3) := by decide +kernel
theorem dX7_listHands_41 : decode cX7_listHands 41 = .ok (.iconst 0, 1) := by decide +kernel
theorem dX7_listHands_42 : decode cX7_listHands 42 = .ok (.ireturn, 1) := by decide +kernel
theorem dX7_listHands_43 : decode cX7_listHands 43 = .ok (.aload_n 0, 1) := by decide +kernel
theorem dX7_listHands_44 : decode cX7_listHands 44 = .ok (.getfield 15, 3) := by decide +kernel
theorem dX7_listHands_47 : decode cX7_listHands 47 = .ok (.aload_n 0, 1) := by decide +kernel
theorem dX7_listHands_48 : decode cX7_listHands 48 = .ok (.getfield 78, 3) := by decide +kernel
theorem dX7_listHands_51 : decode cX7_listHands 51 = .ok (.iload_n 2, 1) := by decide +kernel
theorem dX7_listHands_52 : decode cX7_listHands 52 = .ok (.iastore, 1) := by decide +kernel
theorem dX7_listHands_53 : decode cX7_listHands 53 = .ok (.aload_n 0, 1) := by decide +kernel
theorem dX7_listHands_54 : decode cX7_listHands 54 = .ok (.dup, 1) := by decide +kernel
theorem dX7_listHands_55 : decode cX7_listHands 55 = .ok (.getfield 78, 3) := by decide +kernel
theorem dX7_listHands_58 : decode cX7_listHands 58 = .ok (.iconst 1, 1) := by decide +kernel
theorem dX7_listHands_59 : decode cX7_listHands 59 = .ok (.iadd, 1) := by decide +kernel
theorem dX7_listHands_60 : decode cX7_listHands 60 = .ok (.putfield 78, 3) := by decide +kernel
theorem dX7_listHands_63 : decode cX7_listHands 63 = .ok (.iinc 2 1, 3) := by decide +kernel
theorem dX7_listHands_66 : decode cX7_listHands 66 = .ok (.goto (-59), 3) := by decide +kernel
theorem dX7_listHands_69 : decode cX7_listHands 69 = .ok (.aload_n 0, 1) := by decide +kernel
theorem dX7_listHands_70 : decode cX7_listHands 70 = .ok (.getfield 78, 3) := by decide +kernel
theorem dX7_listHands_73 : decode cX7_listHands 73 = .ok (.ifCond .le 7, 3) := by decide +kernel
theorem dX7_listHands_76 : decode cX7_listHands 76 = .ok (.iconst 1, 1) := by decide +kernel
theorem dX7_listHands_77 : decode cX7_listHands 77 = .ok (.goto 4, 3) := by decide +kernel
theorem dX7_listHands_80 : decode cX7_listHands 80 = .ok (.iconst 0, 1) := by decide +kernel
theorem dX7_listHands_81 : decode cX7_listHands 81 = .ok (.ireturn, 1) := by decide +kernel
theorem dX7_allowAll_0 : decode cX7_allowAll 0 = .ok (.iconst 0, 1) := by decide +kernel
theorem dX7_allowAll_1 : decode cX7_allowAll 1 = .ok (.istore_n 1, 1) := by decide +kernel
theorem dX7_allowAll_2 : decode cX7_allowAll 2 = .ok (.iconst 0, 1) := by decide +kernel
theorem dX7_allowAll_3 : decode cX7_allowAll 3 = .ok (.istore_n 2, 1) := by decide +kernel
theorem dX7_allowAll_4 : decode cX7_allowAll 4 = .ok (.iload_n 2, 1) := by decide +kernel
theorem dX7_allowAll_5 : decode cX7_allowAll 5 = .ok (.aload_n 0, 1) := by decide +kernel
theorem dX7_allowAll_6 : decode cX7_allowAll 6 = .ok (.getfield 78, 3) := by decide +kernel
theorem dX7_allowAll_9 : decode cX7_allowAll 9 = .ok (.if_icmp .ge 76, 3) := by decide +kernel
theorem dX7_allowAll_12 : decode cX7_allowAll 12 = .ok (.aload_n 0, 1) := by decide +kernel
theorem dX7_allowAll_13 : decode cX7_allowAll 13 = .ok (.getfield 18, 3) := by decide +kernel
theorem dX7_allowAll_16 : decode cX7_allowAll 16 = .ok (.iload_n 2, 1) := by decide +kernel
theorem dX7_allowAll_17 : decode cX7_allowAll 17 = .ok (.iconst 0, 1) := by decide +kernel
theorem dX7_allowAll_18 : decode cX7_allowAll 18 = .ok (.iastore, 1) := by decide +kernel
theorem dX7_allowAll_19 : decode cX7_allowAll 19 = .ok (.iconst 0, 1) := by decide +kernel
theorem dX7_allowAll_20 : decode cX7_allowAll 20 = .ok (.istore_n 3, 1) := by decide +kernel
theorem dX7_allowAll_21 : decode cX7_allowAll 21 = .ok (.iload_n 3, 1) := by decide +kernel
theorem dX7_allowAll_22 : decode cX7_allowAll 22 = .ok (.aload_n 0, 1) := by decide +kernel
theorem dX7_allowAll_23 : decode cX7_allowAll 23 = .ok (.getfield 42, 3) := by decide +kernel
theorem dX7_allowAll_26 : decode cX7_allowAll 26 = .ok (.if_icmp .ge 44, 3) := by decide +kernel
theorem dX7_allowAll_29 : decode cX7_allowAll 29 = .ok (.aload_n 0, 1) := by decide +kernel
theorem dX7_allowAll_30 : decode cX7_allowAll 30 = .ok (.getfield 31, 3) := by decide +kernel
theorem dX7_allowAll_33 : decode cX7_allowAll 33 = .ok (.aload_n 0, 1) := by decide +kernel
theorem dX7_allowAll_34 : decode cX7_allowAll 34 = .ok (.getfield 15, 3) := by decide +kernel
theorem dX7_allowAll_37 : decode cX7_allowAll 37 = .ok (.iload_n 2, 1) := by decide +kernel
theorem dX7_allowAll_38 : decode cX7_allowAll 38 = .ok (.iaload, 1) := by decide +kernel
theorem dX7_allowAll_39 : decode cX7_allowAll 39 = .ok (.aload_n 0, 1) := by decide +kernel
theorem dX7_allowAll_40 : decode cX7_allowAll 40 = .ok (.getfield 9, 3) := by decide +kernel
theorem dX7_allowAll_43 : decode cX7_allowAll 43 = .ok (.iload_n 3, 1) := by decide +kernel
theorem dX7_allowAll_44 : decode cX7_allowAll 44 = .ok (.iaload, 1) := by decide +kernel
theorem dX7_allowAll_45 : decode cX7_allowAll 45 = .ok (.aconst_null, 1) := by decide +kernel
theorem dX7_allowAll_46 : decode cX7_allowAll 46 = .ok (.invokevirtual 84, 3) := by decide +kernel
theorem dX7_allowAll_49 : decode cX7_allowAll 49 = .ok (.ifCond .eq 15, 3) := by decide +kernel
theorem dX7_allowAll_52 : decode cX7_allowAll 52 = .ok (.aload_n 0, 1) := by decide +kernel
theorem dX7_allowAll_53 : decode cX7_allowAll 53 = .ok (.getfield 18, 3) := by decide +kernel
theorem dX7_allowAll_56 : decode cX7_allowAll 56 = .ok (.iload_n 2, 1) := by decide +kernel
theorem dX7_allowAll_57 : decode cX7_allowAll 57 = .ok (.dup2, 1) := by decide +kernel
theorem dX7_allowAll_58 : decode cX7_allowAll 58 = .ok (.iaload, 1) := by decide +kernel
theorem dX7_allowAll_59 : decode cX7_allowAll 59 = .ok (.iconst 1, 1) := by decide +kernel
theorem dX7_allowAll_60 : decode cX7_allowAll 60 = .ok (.iload_n 3, 1) := by decide +kernel
theorem dX7_allowAll_61 : decode cX7_allowAll 61 = .ok (.ishl, 1) := by decide +kernel
theorem dX7_allowAll_62 : decode cX7_allowAll 62 = .ok (.ior, 1) := by decide +kernel
theorem dX7_allowAll_63 : decode cX7_allowAll 63 = .ok (.iastore, 1) := by decide +kernel
theorem dX7_allowAll_64 : decode cX7_allowAll 64 = .ok (.iinc 3 1, 3) := by decide +kernel
theorem dX7_allowAll_67 : decode cX7_allowAll 67 = .ok (.goto (-46), 3) := by decide +kernel
theorem dX7_allowAll_70 : decode cX7_allowAll 70 = .ok (.iload_n 1, 1) := by decide +kernel
theorem dX7_allowAll_71 : decode cX7_allowAll 71 = .ok (.aload_n 0, 1) := by decide +kernel
theorem dX7_allowAll_72 : decode cX7_allowAll 72 = .ok (.getfield 18, 3) := by decide +kernel
theorem dX7_allowAll_75 : decode cX7_allowAll 75 = .ok (.iload_n 2, 1) := by decide +kernel
theorem dX7_allowAll_76 : decode cX7_allowAll 76 = .ok (.iaload, 1) := by decide +kernel
theorem dX7_allowAll_77 : decode cX7_allowAll 77 = .ok (.ior, 1) := by decide +kernel
theorem dX7_allowAll_78 : decode cX7_allowAll 78 = .ok (.istore_n 1, 1) := by decide +kernel
theorem dX7_allowAll_79 : decode cX7_allowAll 79 = .ok (.iinc 2 1, 3) := by decide +kernel
theorem dX7_allowAll_82 : decode cX7_allowAll 82 = .ok (.goto (-78), 3) := by decide +kernel
theorem dX7_allowAll_85 : decode cX7_allowAll 85 = .ok (.iload_n 1, 1) := by decide +kernel
theorem dX7_allowAll_86 : decode cX7_allowAll 86 = .ok (.ireturn, 1) := by decide +kernel
theorem dX7_beginHand_0 : decode cX7_beginHand 0 = .ok (.iload_n 1, 1) := by decide +kernel
theorem dX7_beginHand_1 : decode cX7_beginHand 1 = .ok (.aload_n 0, 1) := by decide +kernel
theorem dX7_beginHand_2 : decode cX7_beginHand 2 = .ok (.getfield 78, 3) := by decide +kernel
theorem dX7_beginHand_5 : decode cX7_beginHand 5 = .ok (.if_icmp .lt 17, 3) := by decide +kernel
theorem dX7_beginHand_8 : decode cX7_beginHand 8 = .ok (.iload_n 2, 1) := by decide +kernel
theorem dX7_beginHand_9 : decode cX7_beginHand 9 = .ok (.ifCond .ne 12, 3) := by decide +kernel
theorem dX7_beginHand_12 : decode cX7_beginHand 12 = .ok (.aload_n 0, 1) := by decide +kernel
theorem dX7_beginHand_13 : decode cX7_beginHand 13 = .ok (.iload_n 3, 1) := by decide +kernel
theorem dX7_beginHand_14 : decode cX7_beginHand 14 = .ok (.iload 4, 2) := by decide +kernel
theorem dX7_beginHand_16 : decode cX7_beginHand 16 = .ok (.iload 5, 2) := by decide +kernel
theorem dX7_beginHand_18 : decode cX7_beginHand 18 = .ok (.invokevirtual 88, 3) := by decide +kernel
theorem dX7_beginHand_21 : decode cX7_beginHand 21 = .ok (.return_, 1) := by decide +kernel
theorem dX7_beginHand_22 : decode cX7_beginHand 22 = .ok (.aload_n 0, 1) := by decide +kernel
theorem dX7_beginHand_23 : decode cX7_beginHand 23 = .ok (.getfield 15, 3) := by decide +kernel
theorem dX7_beginHand_26 : decode cX7_beginHand 26 = .ok (.iload_n 1, 1) := by decide +kernel
theorem dX7_beginHand_27 : decode cX7_beginHand 27 = .ok (.iaload, 1) := by decide +kernel
theorem dX7_beginHand_28 : decode cX7_beginHand 28 = .ok (.istore 6, 2) := by decide +kernel
theorem dX7_beginHand_30 : decode cX7_beginHand 30 = .ok (.aload_n 0, 1) := by decide +kernel
theorem dX7_beginHand_31 : decode cX7_beginHand 31 = .ok (.getfield 31, 3) := by decide +kernel
theorem dX7_beginHand_34 : decode cX7_beginHand 34 = .ok (.getfield 92, 3) := by decide +kernel
theorem dX7_beginHand_37 : decode cX7_beginHand 37 = .ok (.istore 7, 2) := by decide +kernel
theorem dX7_beginHand_39 : decode cX7_beginHand 39 = .ok (.aload_n 0, 1) := by decide +kernel
theorem dX7_beginHand_40 : decode cX7_beginHand 40 = .ok (.getfield 31, 3) := by decide +kernel
theorem dX7_beginHand_43 : decode cX7_beginHand 43 = .ok (.getfield 95, 3) := by decide +kernel
theorem dX7_beginHand_46 : decode cX7_beginHand 46 = .ok (.iload 6, 2) := by decide +kernel
theorem dX7_beginHand_48 : decode cX7_beginHand 48 = .ok (.iaload, 1) := by decide +kernel
theorem dX7_beginHand_49 : decode cX7_beginHand 49 = .ok (.istore 8, 2) := by decide +kernel
theorem dX7_beginHand_51 : decode cX7_beginHand 51 = .ok (.aload_n 0, 1) := by decide +kernel
theorem dX7_beginHand_52 : decode cX7_beginHand 52 = .ok (.getfield 31, 3) := by decide +kernel
theorem dX7_beginHand_55 : decode cX7_beginHand 55 = .ok (.getfield 98, 3) := by decide +kernel
theorem dX7_beginHand_58 : decode cX7_beginHand 58 = .ok (.iload 6, 2) := by decide +kernel
theorem dX7_beginHand_60 : decode cX7_beginHand 60 = .ok (.iaload, 1) := by decide +kernel
theorem dX7_beginHand_61 : decode cX7_beginHand 61 = .ok (.istore 9, 2) := by decide +kernel
theorem dX7_beginHand_63 : decode cX7_beginHand 63 = .ok (.aload_n 0, 1) := by decide +kernel
theorem dX7_beginHand_64 : decode cX7_beginHand 64 = .ok (.getfield 27, 3) := by decide +kernel
theorem dX7_beginHand_67 : decode cX7_beginHand 67 = .ok (.iload 9, 2) := by decide +kernel
theorem dX7_beginHand_69 : decode cX7_beginHand 69 = .ok (.invokevirtual 67, 3) := by decide +kernel
theorem dX7_beginHand_72 : decode cX7_beginHand 72 = .ok (.ifCond .eq 61, 3) := by decide +kernel
theorem dX7_beginHand_75 : decode cX7_beginHand 75 = .ok (.aload_n 0, 1) := by decide +kernel
theorem dX7_beginHand_76 : decode cX7_beginHand 76 = .ok (.getfield 31, 3) := by decide +kernel
theorem dX7_beginHand_79 : decode cX7_beginHand 79 = .ok (.getfield 101, 3) := by decide +kernel
theorem dX7_beginHand_82 : decode cX7_beginHand 82 = .ok (.iload 9, 2) := by decide +kernel
theorem dX7_beginHand_84 : decode cX7_beginHand 84 = .ok (.iaload, 1) := by decide +kernel
theorem dX7_beginHand_85 : decode cX7_beginHand 85 = .ok (.aload_n 0, 1) := by decide +kernel
theorem dX7_beginHand_86 : decode cX7_beginHand 86 = .ok (.getfield 31, 3) := by decide +kernel
theorem dX7_beginHand_89 : decode cX7_beginHand 89 = .ok (.getfield 104, 3) := by decide +kernel
theorem dX7_beginHand_92 : decode cX7_beginHand 92 = .ok (.iload 6, 2) := by decide +kernel
theorem dX7_beginHand_94 : decode cX7_beginHand 94 = .ok (.iaload, 1) := by decide +kernel
theorem dX7_beginHand_95 : decode cX7_beginHand 95 = .ok (.invokestatic 107, 3) := by decide +kernel
theorem dX7_beginHand_98 : decode cX7_beginHand 98 = .ok (.istore 10, 2) := by decide +kernel
theorem dX7_beginHand_100 : decode cX7_beginHand 100 = .ok (.aload_n 0, 1) := by decide +kernel
theorem dX7_beginHand_101 : decode cX7_beginHand 101 = .ok (.getfield 27, 3) := by decide +kernel
theorem dX7_beginHand_104 : decode cX7_beginHand 104 = .ok (.iload 6, 2) := by decide +kernel
theorem dX7_beginHand_106 : decode cX7_beginHand 106 = .ok (.iload 7, 2) := by decide +kernel
theorem dX7_beginHand_108 : decode cX7_beginHand 108 = .ok (.iload 10, 2) := by decide +kernel
theorem dX7_beginHand_110 : decode cX7_beginHand 110 = .ok (.invokevirtual 111, 3) := by decide +kernel
theorem dX7_beginHand_113 : decode cX7_beginHand 113 = .ok (.istore 7, 2) := by decide +kernel
theorem dX7_beginHand_115 : decode cX7_beginHand 115 = .ok (.iload 8, 2) := by decide +kernel
theorem dX7_beginHand_117 : decode cX7_beginHand 117 = .ok (.aload_n 0, 1) := by decide +kernel
theorem dX7_beginHand_118 : decode cX7_beginHand 118 = .ok (.getfield 27, 3) := by decide +kernel
theorem dX7_beginHand_121 : decode cX7_beginHand 121 = .ok (.getfield 115, 3) := by decide +kernel
theorem dX7_beginHand_124 : decode cX7_beginHand 124 = .ok (.iload 9, 2) := by decide +kernel
theorem dX7_beginHand_126 : decode cX7_beginHand 126 = .ok (.aaload, 1) := by decide +kernel
theorem dX7_beginHand_127 : decode cX7_beginHand 127 = .ok (.getfield 118, 3) := by decide +kernel
theorem dX7_beginHand_130 : decode cX7_beginHand 130 = .ok (.ior, 1) := by decide +kernel
theorem dX7_beginHand_131 : decode cX7_beginHand 131 = .ok (.istore 8, 2) := by decide +kernel
theorem dX7_beginHand_133 : decode cX7_beginHand 133 = .ok (.aload_n 0, 1) := by decide +kernel
theorem dX7_beginHand_134 : decode cX7_beginHand 134 = .ok (.iload_n 1, 1) := by decide +kernel
theorem dX7_beginHand_135 : decode cX7_beginHand 135 = .ok (.iload_n 2, 1) := by decide +kernel
theorem dX7_beginHand_136 : decode cX7_beginHand 136 = .ok (.iload 7, 2) := by decide +kernel
theorem dX7_beginHand_138 : decode cX7_beginHand 138 = .ok (.iload 8, 2) := by decide +kernel
theorem dX7_beginHand_140 : decode cX7_beginHand 140 = .ok (.iload_n 3, 1) := by decide +kernel
theorem dX7_beginHand_141 : decode cX7_beginHand 141 = .ok (.iload 4, 2) := by decide +kernel
theorem dX7_beginHand_143 : decode cX7_beginHand 143 = .ok (.iload 5, 2) := by decide +kernel
theorem dX7_beginHand_145 : decode cX7_beginHand 145 = .ok (.invokevirtual 122, 3) := by decide +kernel
theorem dX7_beginHand_148 : decode cX7_beginHand 148 = .ok (.return_, 1) := by decide +kernel
theorem dX7_goOn_0 : decode cX7_goOn 0 = .ok (.iload 7, 2) := by decide +kernel
theorem dX7_goOn_2 : decode cX7_goOn 2 = .ok (.bipush 8, 2) := by decide +kernel
theorem dX7_goOn_4 : decode cX7_goOn 4 = .ok (.if_icmp .ge 22, 3) := by decide +kernel
theorem dX7_goOn_7 : decode cX7_goOn 7 = .ok (.iload_n 1, 1) := by decide +kernel
theorem dX7_goOn_8 : decode cX7_goOn 8 = .ok (.aload_n 0, 1) := by decide +kernel
theorem dX7_goOn_9 : decode cX7_goOn 9 = .ok (.getfield 78, 3) := by decide +kernel
theorem dX7_goOn_12 : decode cX7_goOn 12 = .ok (.if_icmp .ge 14, 3) := by decide +kernel
theorem dX7_goOn_15 : decode cX7_goOn 15 = .ok (.aload_n 0, 1) := by decide +kernel
theorem dX7_goOn_16 : decode cX7_goOn 16 = .ok (.iload 5, 2) := by decide +kernel
theorem dX7_goOn_18 : decode cX7_goOn 18 = .ok (.iload 6, 2) := by decide +kernel
theorem dX7_goOn_20 : decode cX7_goOn 20 = .ok (.invokevirtual 126, 3) := by decide +kernel
theorem dX7_goOn_23 : decode cX7_goOn 23 = .ok (.ifCond .ne 4, 3) := by decide +kernel
theorem dX7_goOn_26 : decode cX7_goOn 26 = .ok (.return_, 1) := by decide +kernel
theorem dX7_goOn_27 : decode cX7_goOn 27 = .ok (.aload_n 0, 1) := by decide +kernel
theorem dX7_goOn_28 : decode cX7_goOn 28 = .ok (.getfield 21, 3) := by decide +kernel
theorem dX7_goOn_31 : decode cX7_goOn 31 = .ok (.iload 7, 2) := by decide +kernel
theorem dX7_goOn_33 : decode cX7_goOn 33 = .ok (.iconst (-1), 1) := by decide +kernel
theorem dX7_goOn_34 : decode cX7_goOn 34 = .ok (.iastore, 1) := by decide +kernel
theorem dX7_goOn_35 : decode cX7_goOn 35 = .ok (.aload_n 0, 1) := by decide +kernel
theorem dX7_goOn_36 : decode cX7_goOn 36 = .ok (.iload_n 1, 1) := by decide +kernel
theorem dX7_goOn_37 : decode cX7_goOn 37 = .ok (.iconst 1, 1) := by decide +kernel
theorem dX7_goOn_38 : decode cX7_goOn 38 = .ok (.iadd, 1) := by decide +kernel
theorem dX7_goOn_39 : decode cX7_goOn 39 = .ok (.iload_n 2, 1) := by decide +kernel
theorem dX7_goOn_40 : decode cX7_goOn 40 = .ok (.iload 5, 2) := by decide +kernel
theorem dX7_goOn_42 : decode cX7_goOn 42 = .ok (.iload 6, 2) := by decide +kernel
theorem dX7_goOn_44 : decode cX7_goOn 44 = .ok (.iload 7, 2) := by decide +kernel
theorem dX7_goOn_46 : decode cX7_goOn 46 = .ok (.iconst 1, 1) := by decide +kernel
theorem dX7_goOn_47 : decode cX7_goOn 47 = .ok (.iadd, 1) := by decide +kernel
theorem dX7_goOn_48 : decode cX7_goOn 48 = .ok (.invokevirtual 63, 3) := by decide +kernel
theorem dX7_goOn_51 : decode cX7_goOn 51 = .ok (.aload_n 0, 1) := by decide +kernel
theorem dX7_goOn_52 : decode cX7_goOn 52 = .ok (.getfield 15, 3) := by decide +kernel
theorem dX7_goOn_55 : decode cX7_goOn 55 = .ok (.iload_n 1, 1) := by decide +kernel
theorem dX7_goOn_56 : decode cX7_goOn 56 = .ok (.iaload, 1) := by decide +kernel
theorem dX7_goOn_57 : decode cX7_goOn 57 = .ok (.istore 8, 2) := by decide +kernel
theorem dX7_goOn_59 : decode cX7_goOn 59 = .ok (.iconst 0, 1) := by decide +kernel
theorem dX7_goOn_60 : decode cX7_goOn 60 = .ok (.istore 9, 2) := by decide +kernel
theorem dX7_goOn_62 : decode cX7_goOn 62 = .ok (.iload 9, 2) := by decide +kernel
theorem dX7_goOn_64 : decode cX7_goOn 64 = .ok (.aload_n 0, 1) := by decide +kernel
theorem dX7_goOn_65 : decode cX7_goOn 65 = .ok (.getfield 42, 3) := by decide +kernel
theorem dX7_goOn_68 : decode cX7_goOn 68 = .ok (.if_icmp .ge 152, 3) := by decide +kernel
theorem dX7_goOn_71 : decode cX7_goOn 71 = .ok (.iload_n 2, 1) := by decide +kernel
theorem dX7_goOn_72 : decode cX7_goOn 72 = .ok (.aload_n 0, 1) := by decide +kernel
theorem dX7_goOn_73 : decode cX7_goOn 73 = .ok (.getfield 18, 3) := by decide +kernel
theorem dX7_goOn_76 : decode cX7_goOn 76 = .ok (.iload_n 1, 1) := by decide +kernel
theorem dX7_goOn_77 : decode cX7_goOn 77 = .ok (.iaload, 1) := by decide +kernel
theorem dX7_goOn_78 : decode cX7_goOn 78 = .ok (.iand, 1) := by decide +kernel
theorem dX7_goOn_79 : decode cX7_goOn 79 = .ok (.iload 9, 2) := by decide +kernel
theorem dX7_goOn_81 : decode cX7_goOn 81 = .ok (.ishr, 1) := by decide +kernel
theorem dX7_goOn_82 : decode cX7_goOn 82 = .ok (.iconst 1, 1) := by decide +kernel
theorem dX7_goOn_83 : decode cX7_goOn 83 = .ok (.iand, 1) := by decide +kernel
theorem dX7_goOn_84 : decode cX7_goOn 84 = .ok (.iconst 1, 1) := by decide +kernel
theorem dX7_goOn_85 : decode cX7_goOn 85 = .ok (.if_icmp .ne 129, 3) := by decide +kernel
theorem dX7_goOn_88 : decode cX7_goOn 88 = .ok (.aload_n 0, 1) := by decide +kernel
theorem dX7_goOn_89 : decode cX7_goOn 89 = .ok (.getfield 9, 3) := by decide +kernel
theorem dX7_goOn_92 : decode cX7_goOn 92 = .ok (.iload 9, 2) := by decide +kernel
theorem dX7_goOn_94 : decode cX7_goOn 94 = .ok (.iaload, 1) := by decide +kernel
theorem dX7_goOn_95 : decode cX7_goOn 95 = .ok (.istore 10, 2) := by decide +kernel
theorem dX7_goOn_97 : decode cX7_goOn 97 = .ok (.aload_n 0, 1) := by decide +kernel
theorem dX7_goOn_98 : decode cX7_goOn 98 = .ok (.getfield 27, 3) := by decide +kernel
theorem dX7_goOn_101 : decode cX7_goOn 101 = .ok (.getfield 115, 3) := by decide +kernel
theorem dX7_goOn_104 : decode cX7_goOn 104 = .ok (.iload 10, 2) := by decide +kernel
theorem dX7_goOn_106 : decode cX7_goOn 106 = .ok (.aaload, 1) := by decide +kernel
theorem dX7_goOn_107 : decode cX7_goOn 107 = .ok (.astore 11, 2) := by decide +kernel
theorem dX7_goOn_109 : decode cX7_goOn 109 = .ok (.aload 11, 2) := by decide +kernel
theorem dX7_goOn_111 : decode cX7_goOn 111 = .ok (.invokevirtual 130, 3) := by decide +kernel
theorem dX7_goOn_114 : decode cX7_goOn 114 = .ok (.aload_n 0, 1) := by decide +kernel
theorem dX7_goOn_115 : decode cX7_goOn 115 = .ok (.getfield 31, 3) := by decide +kernel
theorem dX7_goOn_118 : decode cX7_goOn 118 = .ok (.iload 8, 2) := by decide +kernel
theorem dX7_goOn_120 : decode cX7_goOn 120 = .ok (.iload 10, 2) := by decide +kernel
theorem dX7_goOn_122 : decode cX7_goOn 122 = .ok (.iload 4, 2) := by decide +kernel
theorem dX7_goOn_124 : decode cX7_goOn 124 = .ok (.invokevirtual 133, 3) := by decide +kernel
theorem dX7_goOn_127 : decode cX7_goOn 127 = .ok (.invokestatic 107, 3) := by decide +kernel
theorem dX7_goOn_130 : decode cX7_goOn 130 = .ok (.istore 12, 2) := by decide +kernel
theorem dX7_goOn_132 : decode cX7_goOn 132 = .ok (.aload_n 0, 1) := by decide +kernel
theorem dX7_goOn_133 : decode cX7_goOn 133 = .ok (.getfield 27, 3) := by decide +kernel
theorem dX7_goOn_136 : decode cX7_goOn 136 = .ok (.iload 8, 2) := by decide +kernel
theorem dX7_goOn_138 : decode cX7_goOn 138 = .ok (.iload_n 3, 1) := by decide +kernel
theorem dX7_goOn_139 : decode cX7_goOn 139 = .ok (.iload 12, 2) := by decide +kernel
theorem dX7_goOn_141 : decode cX7_goOn 141 = .ok (.invokevirtual 111, 3) := by decide +kernel
theorem dX7_goOn_144 : decode cX7_goOn 144 = .ok (.istore 13, 2) := by decide +kernel
theorem dX7_goOn_146 : decode cX7_goOn 146 = .ok (.iconst 0, 1) := by decide +kernel
theorem dX7_goOn_147 : decode cX7_goOn 147 = .ok (.iload 13, 2) := by decide +kernel
theorem dX7_goOn_149 : decode cX7_goOn 149 = .ok (.aload 11, 2) := by decide +kernel
theorem dX7_goOn_151 : decode cX7_goOn 151 = .ok (.getfield 136, 3) := by decide +kernel
theorem dX7_goOn_154 : decode cX7_goOn 154 = .ok (.isub, 1) := by decide +kernel
theorem dX7_goOn_155 : decode cX7_goOn 155 = .ok (.invokestatic 139, 3) := by decide +kernel
theorem dX7_goOn_158 : decode cX7_goOn 158 = .ok (.istore 14, 2) := by decide +kernel
theorem dX7_goOn_160 : decode cX7_goOn 160 = .ok (.aload_n 0, 1) := by decide +kernel
theorem dX7_goOn_161 : decode cX7_goOn 161 = .ok (.getfield 21, 3) := by decide +kernel
theorem dX7_goOn_164 : decode cX7_goOn 164 = .ok (.iload 7, 2) := by decide +kernel
theorem dX7_goOn_166 : decode cX7_goOn 166 = .ok (.iload 10, 2) := by decide +kernel
theorem dX7_goOn_168 : decode cX7_goOn 168 = .ok (.iastore, 1) := by decide +kernel
theorem dX7_goOn_169 : decode cX7_goOn 169 = .ok (.aload_n 0, 1) := by decide +kernel
theorem dX7_goOn_170 : decode cX7_goOn 170 = .ok (.iload_n 1, 1) := by decide +kernel
theorem dX7_goOn_171 : decode cX7_goOn 171 = .ok (.iload_n 2, 1) := by decide +kernel
theorem dX7_goOn_172 : decode cX7_goOn 172 = .ok (.iconst 1, 1) := by decide +kernel
theorem dX7_goOn_173 : decode cX7_goOn 173 = .ok (.iload 9, 2) := by decide +kernel
theorem dX7_goOn_175 : decode cX7_goOn 175 = .ok (.ishl, 1) := by decide +kernel
theorem dX7_goOn_176 : decode cX7_goOn 176 = .ok (.iconst (-1), 1) := by decide +kernel
theorem dX7_goOn_177 : decode cX7_goOn 177 = .ok (.ixor, 1) := by decide +kernel
theorem dX7_goOn_178 : decode cX7_goOn 178 = .ok (.iand, 1) := by decide +kernel
theorem dX7_goOn_179 : decode cX7_goOn 179 = .ok (.iload 13, 2) := by decide +kernel
theorem dX7_goOn_181 : decode cX7_goOn 181 = .ok (.iload 4, 2) := by decide +kernel
theorem dX7_goOn_183 : decode cX7_goOn 183 = .ok (.aload 11, 2) := by decide +kernel
theorem dX7_goOn_185 : decode cX7_goOn 185 = .ok (.getfield 118, 3) := by decide +kernel
theorem dX7_goOn_188 : decode cX7_goOn 188 = .ok (.ior, 1) := by decide +kernel
theorem dX7_goOn_189 : decode cX7_goOn 189 = .ok (.iload 5, 2) := by decide +kernel
theorem dX7_goOn_191 : decode cX7_goOn 191 = .ok (.iload 14, 2) := by decide +kernel
theorem dX7_goOn_193 : decode cX7_goOn 193 = .ok (.ifCond .le 7, 3) := by decide +kernel
theorem dX7_goOn_196 : decode cX7_goOn 196 = .ok (.iconst 1, 1) := by decide +kernel
theorem dX7_goOn_197 : decode cX7_goOn 197 = .ok (.goto 4, 3) := by decide +kernel
theorem dX7_goOn_200 : decode cX7_goOn 200 = .ok (.iconst 0, 1) := by decide +kernel
theorem dX7_goOn_201 : decode cX7_goOn 201 = .ok (.iadd, 1) := by decide +kernel
theorem dX7_goOn_202 : decode cX7_goOn 202 = .ok (.iload 6, 2) := by decide +kernel
theorem dX7_goOn_204 : decode cX7_goOn 204 = .ok (.iload 14, 2) := by decide +kernel
theorem dX7_goOn_206 : decode cX7_goOn 206 = .ok (.iadd, 1) := by decide +kernel
theorem dX7_goOn_207 : decode cX7_goOn 207 = .ok (.iload 7, 2) := by decide +kernel
theorem dX7_goOn_209 : decode cX7_goOn 209 = .ok (.iconst 1, 1) := by decide +kernel
theorem dX7_goOn_210 : decode cX7_goOn 210 = .ok (.iadd, 1) := by decide +kernel
theorem dX7_goOn_211 : decode cX7_goOn 211 = .ok (.invokevirtual 122, 3) := by decide +kernel
theorem dX7_goOn_214 : decode cX7_goOn 214 = .ok (.iinc 9 1, 3) := by decide +kernel
theorem dX7_goOn_217 : decode cX7_goOn 217 = .ok (.goto (-155), 3) := by decide +kernel
theorem dX7_goOn_220 : decode cX7_goOn 220 = .ok (.return_, 1) := by decide +kernel
theorem dX7_isBetter_0 : decode cX7_isBetter 0 = .ok (.aload_n 0, 1) := by decide +kernel
theorem dX7_isBetter_1 : decode cX7_isBetter 1 = .ok (.getfield 50, 3) := by decide +kernel
theorem dX7_isBetter_4 : decode cX7_isBetter 4 = .ok (.ifCond .eq 27, 3) := by decide +kernel
theorem dX7_isBetter_7 : decode cX7_isBetter 7 = .ok (.iload_n 1, 1) := by decide +kernel
theorem dX7_isBetter_8 : decode cX7_isBetter 8 = .ok (.aload_n 0, 1) := by decide +kernel
theorem dX7_isBetter_9 : decode cX7_isBetter 9 = .ok (.getfield 57, 3) := by decide +kernel
theorem dX7_isBetter_12 : decode cX7_isBetter 12 = .ok (.if_icmp .lt 19, 3) := by decide +kernel
theorem dX7_isBetter_15 : decode cX7_isBetter 15 = .ok (.iload_n 1, 1) := by decide +kernel
theorem dX7_isBetter_16 : decode cX7_isBetter 16 = .ok (.aload_n 0, 1) := by decide +kernel
theorem dX7_isBetter_17 : decode cX7_isBetter 17 = .ok (.getfield 57, 3) := by decide +kernel
theorem dX7_isBetter_20 : decode cX7_isBetter 20 = .ok (.if_icmp .ne 15, 3) := by decide +kernel
theorem dX7_isBetter_23 : decode cX7_isBetter 23 = .ok (.iload_n 2, 1) := by decide +kernel
theorem dX7_isBetter_24 : decode cX7_isBetter 24 = .ok (.aload_n 0, 1) := by decide +kernel
theorem dX7_isBetter_25 : decode cX7_isBetter 25 = .ok (.getfield 60, 3) := by decide +kernel
theorem dX7_isBetter_28 : decode cX7_isBetter 28 = .ok (.if_icmp .ge 7, 3) := by decide +kernel
theorem dX7_isBetter_31 : decode cX7_isBetter 31 = .ok (.iconst 1, 1) := by decide +kernel
theorem dX7_isBetter_32 : decode cX7_isBetter 32 = .ok (.goto 4, 3) := by decide +kernel
theorem dX7_isBetter_35 : decode cX7_isBetter 35 = .ok (.iconst 0, 1) := by decide +kernel
theorem dX7_isBetter_36 : decode cX7_isBetter 36 = .ok (.ireturn, 1) := by decide +kernel
theorem dX7_keep_0 : decode cX7_keep 0 = .ok (.aload_n 0, 1) := by decide +kernel
theorem dX7_keep_1 : decode cX7_keep 1 = .ok (.iload_n 1, 1) := by decide +kernel
theorem dX7_keep_2 : decode cX7_keep 2 = .ok (.iload_n 2, 1) := by decide +kernel
theorem dX7_keep_3 : decode cX7_keep 3 = .ok (.invokevirtual 126, 3) := by decide +kernel
theorem dX7_keep_6 : decode cX7_keep 6 = .ok (.ifCond .eq 37, 3) := by decide +kernel
theorem dX7_keep_9 : decode cX7_keep 9 = .ok (.aload_n 0, 1) := by decide +kernel
theorem dX7_keep_10 : decode cX7_keep 10 = .ok (.iconst 1, 1) := by decide +kernel
theorem dX7_keep_11 : decode cX7_keep 11 = .ok (.putfield 50, 3) := by decide +kernel
theorem dX7_keep_14 : decode cX7_keep 14 = .ok (.aload_n 0, 1) := by decide +kernel
theorem dX7_keep_15 : decode cX7_keep 15 = .ok (.iload_n 1, 1) := by decide +kernel
theorem dX7_keep_16 : decode cX7_keep 16 = .ok (.putfield 57, 3) := by decide +kernel
theorem dX7_keep_19 : decode cX7_keep 19 = .ok (.aload_n 0, 1) := by decide +kernel
theorem dX7_keep_20 : decode cX7_keep 20 = .ok (.iload_n 2, 1) := by decide +kernel
theorem dX7_keep_21 : decode cX7_keep 21 = .ok (.putfield 60, 3) := by decide +kernel
theorem dX7_keep_24 : decode cX7_keep 24 = .ok (.aload_n 0, 1) := by decide +kernel
theorem dX7_keep_25 : decode cX7_keep 25 = .ok (.iload_n 3, 1) := by decide +kernel
theorem dX7_keep_26 : decode cX7_keep 26 = .ok (.putfield 54, 3) := by decide +kernel
theorem dX7_keep_29 : decode cX7_keep 29 = .ok (.aload_n 0, 1) := by decide +kernel
theorem dX7_keep_30 : decode cX7_keep 30 = .ok (.getfield 21, 3) := by decide +kernel
theorem dX7_keep_33 : decode cX7_keep 33 = .ok (.iconst 0, 1) := by decide +kernel
theorem dX7_keep_34 : decode cX7_keep 34 = .ok (.aload_n 0, 1) := by decide +kernel
theorem dX7_keep_35 : decode cX7_keep 35 = .ok (.getfield 24, 3) := by decide +kernel
theorem dX7_keep_38 : decode cX7_keep 38 = .ok (.iconst 0, 1) := by decide +kernel
theorem dX7_keep_39 : decode cX7_keep 39 = .ok (.iload_n 3, 1) := by decide +kernel
theorem dX7_keep_40 : decode cX7_keep 40 = .ok (.invokestatic 144, 3) := by decide +kernel
theorem dX7_keep_43 : decode cX7_keep 43 = .ok (.return_, 1) := by decide +kernel
theorem dX8_init_0 : decode cX8_init 0 = .ok (.aload_n 0, 1) := by decide +kernel
theorem dX8_init_1 : decode cX8_init 1 = .ok (.invokespecial 3, 3) := by decide +kernel
theorem dX8_init_4 : decode cX8_init 4 = .ok (.aload_n 0, 1) := by decide +kernel
theorem dX8_init_5 : decode cX8_init 5 = .ok (.bipush 60, 2) := by decide +kernel
theorem dX8_init_7 : decode cX8_init 7 = .ok (.newarray .int, 2) := by decide +kernel
theorem dX8_init_9 : decode cX8_init 9 = .ok (.putfield 11, 3) := by decide +kernel
theorem dX8_init_12 : decode cX8_init 12 = .ok (.aload_n 0, 1) := by decide +kernel
theorem dX8_init_13 : decode cX8_init 13 = .ok (.bipush 60, 2) := by decide +kernel
theorem dX8_init_15 : decode cX8_init 15 = .ok (.newarray .char, 2) := by decide +kernel
theorem dX8_init_17 : decode cX8_init 17 = .ok (.putfield 15, 3) := by decide +kernel
theorem dX8_init_20 : decode cX8_init 20 = .ok (.return_, 1) := by decide +kernel
theorem dX8_read_0 : decode cX8_read 0 = .ok (.aload_n 0, 1) := by decide +kernel
theorem dX8_read_1 : decode cX8_read 1 = .ok (.iconst 0, 1) := by decide +kernel
theorem dX8_read_2 : decode cX8_read 2 = .ok (.putfield 19, 3) := by decide +kernel
theorem dX8_read_5 : decode cX8_read 5 = .ok (.aload_n 0, 1) := by decide +kernel
theorem dX8_read_6 : decode cX8_read 6 = .ok (.iconst 0, 1) := by decide +kernel
theorem dX8_read_7 : decode cX8_read 7 = .ok (.putfield 23, 3) := by decide +kernel
theorem dX8_read_10 : decode cX8_read 10 = .ok (.aload_n 0, 1) := by decide +kernel
theorem dX8_read_11 : decode cX8_read 11 = .ok (.iconst 0, 1) := by decide +kernel
theorem dX8_read_12 : decode cX8_read 12 = .ok (.putfield 26, 3) := by decide +kernel
theorem dX8_read_15 : decode cX8_read 15 = .ok (.aload_n 0, 1) := by decide +kernel
theorem dX8_read_16 : decode cX8_read 16 = .ok (.iconst 0, 1) := by decide +kernel
theorem dX8_read_17 : decode cX8_read 17 = .ok (.putfield 29, 3) := by decide +kernel
theorem dX8_read_20 : decode cX8_read 20 = .ok (.aload_n 0, 1) := by decide +kernel
theorem dX8_read_21 : decode cX8_read 21 = .ok (.iconst 0, 1) := by decide +kernel
theorem dX8_read_22 : decode cX8_read 22 = .ok (.putfield 32, 3) := by decide +kernel
theorem dX8_read_25 : decode cX8_read 25 = .ok (.aload_n 0, 1) := by decide +kernel
theorem dX8_read_26 : decode cX8_read 26 = .ok (.iconst 1, 1) := by decide +kernel
theorem dX8_read_27 : decode cX8_read 27 = .ok (.putfield 35, 3) := by decide +kernel
theorem dX8_read_30 : decode cX8_read 30 = .ok (.iload_n 2, 1) := by decide +kernel
theorem dX8_read_31 : decode cX8_read 31 = .ok (.bipush 60, 2) := by decide +kernel
theorem dX8_read_33 : decode cX8_read 33 = .ok (.invokestatic 39, 3) := by decide +kernel
theorem dX8_read_36 : decode cX8_read 36 = .ok (.aload_n 1, 1) := by decide +kernel
theorem dX8_read_37 : decode cX8_read 37 = .ok (.arraylength, 1) := by decide +kernel
theorem dX8_read_38 : decode cX8_read 38 = .ok (.invokestatic 39, 3) := by decide +kernel
theorem dX8_read_41 : decode cX8_read 41 = .ok (.istore 4, 2) := by decide +kernel
theorem dX8_read_43 : decode cX8_read 43 = .ok (.iconst 0, 1) := by decide +kernel
theorem dX8_read_44 : decode cX8_read 44 = .ok (.istore 5, 2) := by decide +kernel
theorem dX8_read_46 : decode cX8_read 46 = .ok (.iload 5, 2) := by decide +kernel
theorem dX8_read_48 : decode cX8_read 48 = .ok (.iload 4, 2) := by decide +kernel
theorem dX8_read_50 : decode cX8_read 50 = .ok (.if_icmp .ge 46, 3) := by decide +kernel
theorem dX8_read_53 : decode cX8_read 53 = .ok (.aload_n 0, 1) := by decide +kernel
theorem dX8_read_54 : decode cX8_read 54 = .ok (.getfield 35, 3) := by decide +kernel
theorem dX8_read_57 : decode cX8_read 57 = .ok (.ifCond .eq 15, 3) := by decide +kernel
theorem dX8_read_60 : decode cX8_read 60 = .ok (.aload_n 0, 1) := by decide +kernel
theorem dX8_read_61 : decode cX8_read 61 = .ok (.aload_n 1, 1) := by decide +kernel
theorem dX8_read_62 : decode cX8_read 62 = .ok (.iload 5, 2) := by decide +kernel
theorem dX8_read_64 : decode cX8_read 64 = .ok (.caload, 1) := by decide +kernel
theorem dX8_read_65 : decode cX8_read 65 = .ok (.aload_n 3, 1) := by decide +kernel
theorem dX8_read_66 : decode cX8_read 66 = .ok (.invokevirtual 45, 3) := by decide +kernel
theorem dX8_read_69 : decode cX8_read 69 = .ok (.goto 11, 3) := by decide +kernel
theorem dX8_read_72 : decode cX8_read 72 = .ok (.aload_n 0, 1) := by decide +kernel
theorem dX8_read_73 : decode cX8_read 73 = .ok (.aload_n 1, 1) := by decide +kernel
theorem dX8_read_74 : decode cX8_read 74 = .ok (.iload 5, 2) := by decide +kernel
theorem dX8_read_76 : decode cX8_read 76 = .ok (.caload, 1) := by decide +kernel
theorem dX8_read_77 : decode cX8_read 77 = .ok (.invokevirtual 49, 3) := by decide +kernel
theorem dX8_read_80 : decode cX8_read 80 = .ok (.istore 6, 2) := by decide +kernel
theorem dX8_read_82 : decode cX8_read 82 = .ok (.iload 6, 2) := by decide +kernel
theorem dX8_read_84 : decode cX8_read 84 = .ok (.ifCond .ne 6, 3) := by decide +kernel
theorem dX8_read_87 : decode cX8_read 87 = .ok (.iload 5, 2) := by decide +kernel
theorem dX8_read_89 : decode cX8_read 89 = .ok (.ireturn, 1) := by decide +kernel
theorem dX8_read_90 : decode cX8_read 90 = .ok (.iinc 5 1, 3) := by decide +kernel
theorem dX8_read_93 : decode cX8_read 93 = .ok (.goto (-47), 3) := by decide +kernel
theorem dX8_read_96 : decode cX8_read 96 = .ok (.iload_n 2, 1) := by decide +kernel
theorem dX8_read_97 : decode cX8_read 97 = .ok (.bipush 60, 2) := by decide +kernel
theorem dX8_read_99 : decode cX8_read 99 = .ok (.if_icmp .le 6, 3) := by decide +kernel
theorem dX8_read_102 : decode cX8_read 102 = .ok (.bipush 60, 2) := by decide +kernel
theorem dX8_read_104 : decode cX8_read 104 = .ok (.ireturn, 1) := by decide +kernel
theorem dX8_read_105 : decode cX8_read 105 = .ok (.aload_n 0, 1) := by decide +kernel
theorem dX8_read_106 : decode cX8_read 106 = .ok (.getfield 35, 3) := by decide +kernel
theorem dX8_read_109 : decode cX8_read 109 = .ok (.ifCond .ne 10, 3) := by decide +kernel
theorem dX8_read_112 : decode cX8_read 112 = .ok (.aload_n 0, 1) := by decide +kernel
theorem dX8_read_113 : decode cX8_read 113 = .ok (.getfield 26, 3) := by decide +kernel
theorem dX8_read_116 : decode cX8_read 116 = .ok (.ifCond .le 5, 3) := by decide +kernel
theorem dX8_read_119 : decode cX8_read 119 = .ok (.iload_n 2, 1) := by decide +kernel
theorem dX8_read_120 : decode cX8_read 120 = .ok (.ireturn, 1) := by decide +kernel
theorem dX8_read_121 : decode cX8_read 121 = .ok (.aload_n 0, 1) := by decide +kernel
theorem dX8_read_122 : decode cX8_read 122 = .ok (.iconst 1, 1) := by decide +kernel
theorem dX8_read_123 : decode cX8_read 123 = .ok (.invokevirtual 53, 3) := by decide +kernel
theorem dX8_read_126 : decode cX8_read 126 = .ok (.iconst (-1), 1) := by decide +kernel
theorem dX8_read_127 : decode cX8_read 127 = .ok (.ireturn, 1) := by decide +kernel
theorem dX8_codeRead_0 : decode cX8_codeRead 0 = .ok (.aload_n 0, 1) := by decide +kernel
theorem dX8_codeRead_1 : decode cX8_codeRead 1 = .ok (.getfield 11, 3) := by decide +kernel
theorem dX8_codeRead_4 : decode cX8_codeRead 4 = .ok (.aload_n 0, 1) := by decide +kernel
theorem dX8_codeRead_5 : decode cX8_codeRead 5 = .ok (.getfield 19, 3) := by decide +kernel
theorem dX8_codeRead_8 : decode cX8_codeRead 8 = .ok (.invokestatic 57, 3) := by decide +kernel
theorem dX8_codeRead_11 : decode cX8_codeRead 11 = .ok (.areturn, 1) := by decide +kernel
theorem dX8_beginsThing_0 : decode cX8_beginsThing 0 = .ok (.aload_n 2, 1) := by decide +kernel
theorem dX8_beginsThing_1 : decode cX8_beginsThing 1 = .ok (.iload_n 1, 1) := by decide +kernel
theorem dX8_beginsThing_2 : decode cX8_beginsThing 2 = .ok (.invokevirtual 63, 3) := by decide +kernel
theorem dX8_beginsThing_5 : decode cX8_beginsThing 5 = .ok (.istore_n 3, 1) := by decide +kernel
theorem dX8_beginsThing_6 : decode cX8_beginsThing 6 = .ok (.iload_n 1, 1) := by decide +kernel
theorem dX8_beginsThing_7 : decode cX8_beginsThing 7 = .ok (.invokestatic 69, 3) := by decide +kernel
theorem dX8_beginsThing_10 : decode cX8_beginsThing 10 = .ok (.ifCond .ne 7, 3) := by decide +kernel
theorem dX8_beginsThing_13 : decode cX8_beginsThing 13 = .ok (.iload_n 3, 1) := by decide +kernel
theorem dX8_beginsThing_14 : decode cX8_beginsThing 14 = .ok (.ifCond .lt 43, 3) := by decide +kernel
theorem dX8_beginsThing_17 : decode cX8_beginsThing 17 = .ok (.aload_n 0, 1) := by decide +kernel
theorem dX8_beginsThing_18 : decode cX8_beginsThing 18 = .ok (.iload_n 3, 1) := by decide +kernel
theorem dX8_beginsThing_19 : decode cX8_beginsThing 19 = .ok (.ifCond .lt 11, 3) := by decide +kernel
theorem dX8_beginsThing_22 : decode cX8_beginsThing 22 = .ok (.sipush 10000, 3) := by decide +kernel
theorem dX8_beginsThing_25 : decode cX8_beginsThing 25 = .ok (.iload_n 3, 1) := by decide +kernel
theorem dX8_beginsThing_26 : decode cX8_beginsThing 26 = .ok (.iadd, 1) := by decide +kernel
theorem dX8_beginsThing_27 : decode cX8_beginsThing 27 = .ok (.goto 7, 3) := by decide +kernel
theorem dX8_beginsThing_30 : decode cX8_beginsThing 30 = .ok (.iload_n 1, 1) := by decide +kernel
theorem dX8_beginsThing_31 : decode cX8_beginsThing 31 = .ok (.bipush 48, 2) := by decide +kernel
theorem dX8_beginsThing_33 : decode cX8_beginsThing 33 = .ok (.isub, 1) := by decide +kernel
theorem dX8_beginsThing_34 : decode cX8_beginsThing 34 = .ok (.invokevirtual 72, 3) := by decide +kernel
theorem dX8_beginsThing_37 : decode cX8_beginsThing 37 = .ok (.aload_n 0, 1) := by decide +kernel
theorem dX8_beginsThing_38 : decode cX8_beginsThing 38 = .ok (.iload_n 3, 1) := by decide +kernel
theorem dX8_beginsThing_39 : decode cX8_beginsThing 39 = .ok (.ifCond .lt 7, 3) := by decide +kernel
theorem dX8_beginsThing_42 : decode cX8_beginsThing 42 = .ok (.iconst 0, 1) := by decide +kernel
theorem dX8_beginsThing_43 : decode cX8_beginsThing 43 = .ok (.goto 4, 3) := by decide +kernel
theorem dX8_beginsThing_46 : decode cX8_beginsThing 46 = .ok (.iconst 1, 1) := by decide +kernel
theorem dX8_beginsThing_47 : decode cX8_beginsThing 47 = .ok (.putfield 32, 3) := by decide +kernel
theorem dX8_beginsThing_50 : decode cX8_beginsThing 50 = .ok (.aload_n 0, 1) := by decide +kernel
theorem dX8_beginsThing_51 : decode cX8_beginsThing 51 = .ok (.iconst 0, 1) := by decide +kernel
theorem dX8_beginsThing_52 : decode cX8_beginsThing 52 = .ok (.putfield 35, 3) := by decide +kernel
theorem dX8_beginsThing_55 : decode cX8_beginsThing 55 = .ok (.iconst 1, 1) := by decide +kernel
theorem dX8_beginsThing_56 : decode cX8_beginsThing 56 = .ok (.ireturn, 1) := by decide +kernel
theorem dX8_beginsThing_57 : decode cX8_beginsThing 57 = .ok (.iload_n 1, 1) := by decide +kernel
theorem dX8_beginsThing_58 : decode cX8_beginsThing 58 = .ok (.bipush 33, 2) := by decide +kernel
theorem dX8_beginsThing_60 : decode cX8_beginsThing 60 = .ok (.if_icmp .eq 9, 3) := by decide +kernel
theorem dX8_beginsThing_63 : decode cX8_beginsThing 63 = .ok (.iload_n 1, 1) := by decide +kernel
theorem dX8_beginsThing_64 : decode cX8_beginsThing 64 = .ok (.bipush 45, 2) := by decide +kernel
theorem dX8_beginsThing_66 : decode cX8_beginsThing 66 = .ok (.if_icmp .ne 21, 3) := by decide +kernel
theorem dX8_beginsThing_69 : decode cX8_beginsThing 69 = .ok (.aload_n 0, 1) := by decide +kernel
theorem dX8_beginsThing_70 : decode cX8_beginsThing 70 = .ok (.iload_n 1, 1) := by decide +kernel
theorem dX8_beginsThing_71 : decode cX8_beginsThing 71 = .ok (.bipush 45, 2) := by decide +kernel
theorem dX8_beginsThing_73 : decode cX8_beginsThing 73 = .ok (.if_icmp .ne 8, 3) := by decide +kernel
theorem dX8_beginsThing_76 : decode cX8_beginsThing 76 = .ok (.bipush 126, 2) := by decide +kernel
theorem dX8_beginsThing_78 : decode cX8_beginsThing 78 = .ok (.goto 4, 3) := by decide +kernel
theorem dX8_beginsThing_81 : decode cX8_beginsThing 81 = .ok (.iload_n 1, 1) := by decide +kernel
theorem dX8_beginsThing_82 : decode cX8_beginsThing 82 = .ok (.invokevirtual 75, 3) := by decide +kernel
theorem dX8_beginsThing_85 : decode cX8_beginsThing 85 = .ok (.iconst 1, 1) := by decide +kernel
theorem dX8_beginsThing_86 : decode cX8_beginsThing 86 = .ok (.ireturn, 1) := by decide +kernel
theorem dX8_beginsThing_87 : decode cX8_beginsThing 87 = .ok (.iload_n 1, 1) := by decide +kernel
theorem dX8_beginsThing_88 : decode cX8_beginsThing 88 = .ok (.bipush 40, 2) := by decide +kernel
theorem dX8_beginsThing_90 : decode cX8_beginsThing 90 = .ok (.if_icmp .ne 12, 3) := by decide +kernel
theorem dX8_beginsThing_93 : decode cX8_beginsThing 93 = .ok (.aload_n 0, 1) := by decide +kernel
theorem dX8_beginsThing_94 : decode cX8_beginsThing 94 = .ok (.getfield 26, 3) := by decide +kernel
theorem dX8_beginsThing_97 : decode cX8_beginsThing 97 = .ok (.bipush 6, 2) := by decide +kernel
theorem dX8_beginsThing_99 : decode cX8_beginsThing 99 = .ok (.if_icmp .lt 5, 3) := by decide +kernel
theorem dX8_beginsThing_102 : decode cX8_beginsThing 102 = .ok (.iconst 0, 1) := by decide +kernel
theorem dX8_beginsThing_103 : decode cX8_beginsThing 103 = .ok (.ireturn, 1) := by decide +kernel
theorem dX8_beginsThing_104 : decode cX8_beginsThing 104 = .ok (.aload_n 0, 1) := by decide +kernel
theorem dX8_beginsThing_105 : decode cX8_beginsThing 105 = .ok (.iload_n 1, 1) := by decide +kernel
theorem dX8_beginsThing_106 : decode cX8_beginsThing 106 = .ok (.invokevirtual 75, 3) := by decide +kernel
theorem dX8_beginsThing_109 : decode cX8_beginsThing 109 = .ok (.aload_n 0, 1) := by decide +kernel
theorem dX8_beginsThing_110 : decode cX8_beginsThing 110 = .ok (.dup, 1) := by decide +kernel
theorem dX8_beginsThing_111 : decode cX8_beginsThing 111 = .ok (.getfield 26, 3) := by decide +kernel
theorem dX8_beginsThing_114 : decode cX8_beginsThing 114 = .ok (.iconst 1, 1) := by decide +kernel
theorem dX8_beginsThing_115 : decode cX8_beginsThing 115 = .ok (.iadd, 1) := by decide +kernel
theorem dX8_beginsThing_116 : decode cX8_beginsThing 116 = .ok (.putfield 26, 3) := by decide +kernel
theorem dX8_beginsThing_119 : decode cX8_beginsThing 119 = .ok (.aload_n 0, 1) := by decide +kernel
theorem dX8_beginsThing_120 : decode cX8_beginsThing 120 = .ok (.dup, 1) := by decide +kernel
theorem dX8_beginsThing_121 : decode cX8_beginsThing 121 = .ok (.getfield 29, 3) := by decide +kernel
theorem dX8_beginsThing_124 : decode cX8_beginsThing 124 = .ok (.iconst 1, 1) := by decide +kernel
theorem dX8_beginsThing_125 : decode cX8_beginsThing 125 = .ok (.aload_n 0, 1) := by decide +kernel
theorem dX8_beginsThing_126 : decode cX8_beginsThing 126 = .ok (.getfield 26, 3) := by decide +kernel
theorem dX8_beginsThing_129 : decode cX8_beginsThing 129 = .ok (.ishl, 1) := by decide +kernel
theorem dX8_beginsThing_130 : decode cX8_beginsThing 130 = .ok (.iconst (-1), 1) := by decide +kernel
theorem dX8_beginsThing_131 : decode cX8_beginsThing 131 = .ok (.ixor, 1) := by decide +kernel
theorem dX8_beginsThing_132 : decode cX8_beginsThing 132 = .ok (.iand, 1) := by decide +kernel
theorem dX8_beginsThing_133 : decode cX8_beginsThing 133 = .ok (.putfield 29, 3) := by decide +kernel
theorem dX8_beginsThing_136 : decode cX8_beginsThing 136 = .ok (.iconst 1, 1) := by decide +kernel
theorem dX8_beginsThing_137 : decode cX8_beginsThing 137 = .ok (.ireturn, 1) := by decide +kernel
theorem dX8_followsThing_0 : decode cX8_followsThing 0 = .ok (.iload_n 1, 1) := by decide +kernel
theorem dX8_followsThing_1 : decode cX8_followsThing 1 = .ok (.invokestatic 69, 3) := by decide +kernel
theorem dX8_followsThing_4 : decode cX8_followsThing 4 = .ok (.ifCond .eq 9, 3) := by decide +kernel
theorem dX8_followsThing_7 : decode cX8_followsThing 7 = .ok (.aload_n 0, 1) := by decide +kernel
theorem dX8_followsThing_8 : decode cX8_followsThing 8 = .ok (.iload_n 1, 1) := by decide +kernel
theorem dX8_followsThing_9 : decode cX8_followsThing 9 = .ok (.invokevirtual 79, 3) := by decide +kernel
theorem dX8_followsThing_12 : decode cX8_followsThing 12 = .ok (.ireturn, 1) := by decide +kernel
theorem dX8_followsThing_13 : decode cX8_followsThing 13 = .ok (.aload_n 0, 1) := by decide +kernel
theorem dX8_followsThing_14 : decode cX8_followsThing 14 = .ok (.iconst 0, 1) := by decide +kernel
theorem dX8_followsThing_15 : decode cX8_followsThing 15 = .ok (.putfield 32, 3) := by decide +kernel
theorem dX8_followsThing_18 : decode cX8_followsThing 18 = .ok (.iload_n 1, 1) := by decide +kernel
theorem dX8_followsThing_19 : decode cX8_followsThing 19 = .ok (.bipush 41, 2) := by decide +kernel
theorem dX8_followsThing_21 : decode cX8_followsThing 21 = .ok (.if_icmp .ne 8, 3) := by decide +kernel
theorem dX8_followsThing_24 : decode cX8_followsThing 24 = .ok (.aload_n 0, 1) := by decide +kernel
theorem dX8_followsThing_25 : decode cX8_followsThing 25 = .ok (.invokevirtual 82, 3) := by decide +kernel
theorem dX8_followsThing_28 : decode cX8_followsThing 28 = .ok (.ireturn, 1) := by decide +kernel
theorem dX8_followsThing_29 : decode cX8_followsThing 29 = .ok (.iload_n 1, 1) := by decide +kernel
theorem dX8_followsThing_30 : decode cX8_followsThing 30 = .ok (.invokestatic 86, 3) := by decide +kernel
theorem dX8_followsThing_33 : decode cX8_followsThing 33 = .ok (.istore_n 2, 1) := by decide +kernel
theorem dX8_followsThing_34 : decode cX8_followsThing 34 = .ok (.iload_n 2, 1) := by decide +kernel
theorem dX8_followsThing_35 : decode cX8_followsThing 35 = .ok (.ifCond .eq 9, 3) := by decide +kernel
theorem dX8_followsThing_38 : decode cX8_followsThing 38 = .ok (.iload_n 2, 1) := by decide +kernel
theorem dX8_followsThing_39 : decode cX8_followsThing 39 = .ok (.bipush 6, 2) := by decide +kernel
theorem dX8_followsThing_41 : decode cX8_followsThing 41 = .ok (.if_icmp .ne 5, 3) := by decide +kernel
theorem dX8_followsThing_44 : decode cX8_followsThing 44 = .ok (.iconst 0, 1) := by decide +kernel
theorem dX8_followsThing_45 : decode cX8_followsThing 45 = .ok (.ireturn, 1) := by decide +kernel
theorem dX8_followsThing_46 : decode cX8_followsThing 46 = .ok (.iload_n 2, 1) := by decide +kernel
theorem dX8_followsThing_47 : decode cX8_followsThing 47 = .ok (.iconst 3, 1) := by decide +kernel
theorem dX8_followsThing_48 : decode cX8_followsThing 48 = .ok (.if_icmp .ne 38, 3) := by decide +kernel
theorem dX8_followsThing_51 : decode cX8_followsThing 51 = .ok (.aload_n 0, 1) := by decide +kernel
theorem dX8_followsThing_52 : decode cX8_followsThing 52 = .ok (.getfield 29, 3) := by decide +kernel
theorem dX8_followsThing_55 : decode cX8_followsThing 55 = .ok (.aload_n 0, 1) := by decide +kernel
theorem dX8_followsThing_56 : decode cX8_followsThing 56 = .ok (.getfield 26, 3) := by decide +kernel
theorem dX8_followsThing_59 : decode cX8_followsThing 59 = .ok (.ishr, 1) := by decide +kernel
theorem dX8_followsThing_60 : decode cX8_followsThing 60 = .ok (.iconst 1, 1) := by decide +kernel
theorem dX8_followsThing_61 : decode cX8_followsThing 61 = .ok (.iand, 1) := by decide +kernel
theorem dX8_followsThing_62 : decode cX8_followsThing 62 = .ok (.iconst 1, 1) := by decide +kernel
theorem dX8_followsThing_63 : decode cX8_followsThing 63 = .ok (.if_icmp .ne 5, 3) := by decide +kernel
theorem dX8_followsThing_66 : decode cX8_followsThing 66 = .ok (.iconst 0, 1) := by decide +kernel
theorem dX8_followsThing_67 : decode cX8_followsThing 67 = .ok (.ireturn, 1) := by decide +kernel
theorem dX8_followsThing_68 : decode cX8_followsThing 68 = .ok (.aload_n 0, 1) := by decide +kernel
theorem dX8_followsThing_69 : decode cX8_followsThing 69 = .ok (.dup, 1) := by decide +kernel
theorem dX8_followsThing_70 : decode cX8_followsThing 70 = .ok (.getfield 29, 3) := by decide +kernel
theorem dX8_followsThing_73 : decode cX8_followsThing 73 = .ok (.iconst 1, 1) := by decide +kernel
theorem dX8_followsThing_74 : decode cX8_followsThing 74 = .ok (.aload_n 0, 1) := by decide +kernel
theorem dX8_followsThing_75 : decode cX8_followsThing 75 = .ok (.getfield 26, 3) := by decide +kernel
theorem dX8_followsThing_78 : decode cX8_followsThing 78 = .ok (.ishl, 1) := by decide +kernel
theorem dX8_followsThing_79 : decode cX8_followsThing 79 = .ok (.ior, 1) := by decide +kernel
theorem dX8_followsThing_80 : decode cX8_followsThing 80 = .ok (.putfield 29, 3) := by decide +kernel
theorem dX8_followsThing_83 : decode cX8_followsThing 83 = .ok (.goto 25, 3) := by decide +kernel
theorem dX8_followsThing_86 : decode cX8_followsThing 86 = .ok (.iload_n 2, 1) := by decide +kernel
theorem dX8_followsThing_87 : decode cX8_followsThing 87 = .ok (.iconst 3, 1) := by decide +kernel
theorem dX8_followsThing_88 : decode cX8_followsThing 88 = .ok (.if_icmp .ge 20, 3) := by decide +kernel
theorem dX8_followsThing_91 : decode cX8_followsThing 91 = .ok (.aload_n 0, 1) := by decide +kernel
theorem dX8_followsThing_92 : decode cX8_followsThing 92 = .ok (.dup, 1) := by decide +kernel
theorem dX8_followsThing_93 : decode cX8_followsThing 93 = .ok (.getfield 29, 3) := by decide +kernel
theorem dX8_followsThing_96 : decode cX8_followsThing 96 = .ok (.iconst 1, 1) := by decide +kernel
theorem dX8_followsThing_97 : decode cX8_followsThing 97 = .ok (.aload_n 0, 1) := by decide +kernel
theorem dX8_followsThing_98 : decode cX8_followsThing 98 = .ok (.getfield 26, 3) := by decide +kernel
theorem dX8_followsThing_101 : decode cX8_followsThing 101 = .ok (.ishl, 1) := by decide +kernel
theorem dX8_followsThing_102 : decode cX8_followsThing 102 = .ok (.iconst (-1), 1) := by decide +kernel
theorem dX8_followsThing_103 : decode cX8_followsThing 103 = .ok (.ixor, 1) := by decide +kernel
theorem dX8_followsThing_104 : decode cX8_followsThing 104 = .ok (.iand, 1) := by decide +kernel
theorem dX8_followsThing_105 : decode cX8_followsThing 105 = .ok (.putfield 29, 3) := by decide +kernel
theorem dX8_followsThing_108 : decode cX8_followsThing 108 = .ok (.aload_n 0, 1) := by decide +kernel
theorem dX8_followsThing_109 : decode cX8_followsThing 109 = .ok (.iload_n 2, 1) := by decide +kernel
theorem dX8_followsThing_110 : decode cX8_followsThing 110 = .ok (.invokevirtual 53, 3) := by decide +kernel
theorem dX8_followsThing_113 : decode cX8_followsThing 113 = .ok (.aload_n 0, 1) := by decide +kernel
theorem dX8_followsThing_114 : decode cX8_followsThing 114 = .ok (.iload_n 1, 1) := by decide +kernel
theorem dX8_followsThing_115 : decode cX8_followsThing 115 = .ok (.invokevirtual 75, 3) := by decide +kernel
theorem dX8_followsThing_118 : decode cX8_followsThing 118 = .ok (.aload_n 0, 1) := by decide +kernel
theorem dX8_followsThing_119 : decode cX8_followsThing 119 = .ok (.iconst 1, 1) := by decide +kernel
theorem dX8_followsThing_120 : decode cX8_followsThing 120 = .ok (.putfield 35, 3) := by decide +kernel
theorem dX8_followsThing_123 : decode cX8_followsThing 123 = .ok (.iconst 1, 1) := by decide +kernel
theorem dX8_followsThing_124 : decode cX8_followsThing 124 = .ok (.ireturn, 1) := by decide +kernel
theorem dX8_goesOnNumber_0 : decode cX8_goesOnNumber 0 = .ok (.aload_n 0, 1) := by decide +kernel
theorem dX8_goesOnNumber_1 : decode cX8_goesOnNumber 1 = .ok (.getfield 32, 3) := by decide +kernel
theorem dX8_goesOnNumber_4 : decode cX8_goesOnNumber 4 = .ok (.ifCond .eq 19, 3) := by decide +kernel
theorem dX8_goesOnNumber_7 : decode cX8_goesOnNumber 7 = .ok (.aload_n 0, 1) := by decide +kernel
theorem dX8_goesOnNumber_8 : decode cX8_goesOnNumber 8 = .ok (.getfield 32, 3) := by decide +kernel
theorem dX8_goesOnNumber_11 : decode cX8_goesOnNumber 11 = .ok (.iconst 4, 1) := by decide +kernel
theorem dX8_goesOnNumber_12 : decode cX8_goesOnNumber 12 = .ok (.if_icmp .ge 11, 3) := by decide +kernel
theorem dX8_goesOnNumber_15 : decode cX8_goesOnNumber 15 = .ok (.aload_n 0, 1) := by decide +kernel
theorem dX8_goesOnNumber_16 : decode cX8_goesOnNumber 16 = .ok (.getfield 19, 3) := by decide +kernel
theorem dX8_goesOnNumber_19 : decode cX8_goesOnNumber 19 = .ok (.iconst 1, 1) := by decide +kernel
theorem dX8_goesOnNumber_20 : decode cX8_goesOnNumber 20 = .ok (.if_icmp .ge 5, 3) := by decide +kernel
theorem dX8_goesOnNumber_23 : decode cX8_goesOnNumber 23 = .ok (.iconst 0, 1) := by decide +kernel
theorem dX8_goesOnNumber_24 : decode cX8_goesOnNumber 24 = .ok (.ireturn, 1) := by decide +kernel
theorem dX8_goesOnNumber_25 : decode cX8_goesOnNumber 25 = .ok (.aload_n 0, 1) := by decide +kernel
theorem dX8_goesOnNumber_26 : decode cX8_goesOnNumber 26 = .ok (.getfield 11, 3) := by decide +kernel
theorem dX8_goesOnNumber_29 : decode cX8_goesOnNumber 29 = .ok (.aload_n 0, 1) := by decide +kernel
theorem dX8_goesOnNumber_30 : decode cX8_goesOnNumber 30 = .ok (.getfield 19, 3) := by decide +kernel
theorem dX8_goesOnNumber_33 : decode cX8_goesOnNumber 33 = .ok (.iconst 1, 1) := by decide +kernel
theorem dX8_goesOnNumber_34 : decode cX8_goesOnNumber 34 = .ok (.isub, 1) := by decide +kernel
theorem dX8_goesOnNumber_35 : decode cX8_goesOnNumber 35 = .ok (.aload_n 0, 1) := by decide +kernel
theorem dX8_goesOnNumber_36 : decode cX8_goesOnNumber 36 = .ok (.getfield 11, 3) := by decide +kernel
theorem dX8_goesOnNumber_39 : decode cX8_goesOnNumber 39 = .ok (.aload_n 0, 1) := by decide +kernel
theorem dX8_goesOnNumber_40 : decode cX8_goesOnNumber 40 = .ok (.getfield 19, 3) := by decide +kernel
theorem dX8_goesOnNumber_43 : decode cX8_goesOnNumber 43 = .ok (.iconst 1, 1) := by decide +kernel
theorem dX8_goesOnNumber_44 : decode cX8_goesOnNumber 44 = .ok (.isub, 1) := by decide +kernel
theorem dX8_goesOnNumber_45 : decode cX8_goesOnNumber 45 = .ok (.iaload, 1) := by decide +kernel
theorem dX8_goesOnNumber_46 : decode cX8_goesOnNumber 46 = .ok (.bipush 10, 2) := by decide +kernel
theorem dX8_goesOnNumber_48 : decode cX8_goesOnNumber 48 = .ok (.imul, 1) := by decide +kernel
theorem dX8_goesOnNumber_49 : decode cX8_goesOnNumber 49 = .ok (.iload_n 1, 1) := by decide +kernel
theorem dX8_goesOnNumber_50 : decode cX8_goesOnNumber 50 = .ok (.bipush 48, 2) := by decide +kernel
theorem dX8_goesOnNumber_52 : decode cX8_goesOnNumber 52 = .ok (.isub, 1) := by decide +kernel
theorem dX8_goesOnNumber_53 : decode cX8_goesOnNumber 53 = .ok (.iadd, 1) := by decide +kernel
theorem dX8_goesOnNumber_54 : decode cX8_goesOnNumber 54 = .ok (.iastore, 1) := by decide +kernel
theorem dX8_goesOnNumber_55 : decode cX8_goesOnNumber 55 = .ok (.aload_n 0, 1) := by decide +kernel
theorem dX8_goesOnNumber_56 : decode cX8_goesOnNumber 56 = .ok (.dup, 1) := by decide +kernel
theorem dX8_goesOnNumber_57 : decode cX8_goesOnNumber 57 = .ok (.getfield 32, 3) := by decide +kernel
theorem dX8_goesOnNumber_60 : decode cX8_goesOnNumber 60 = .ok (.iconst 1, 1) := by decide +kernel
theorem dX8_goesOnNumber_61 : decode cX8_goesOnNumber 61 = .ok (.iadd, 1) := by decide +kernel
theorem dX8_goesOnNumber_62 : decode cX8_goesOnNumber 62 = .ok (.putfield 32, 3) := by decide +kernel
theorem dX8_goesOnNumber_65 : decode cX8_goesOnNumber 65 = .ok (.iconst 1, 1) := by decide +kernel
theorem dX8_goesOnNumber_66 : decode cX8_goesOnNumber 66 = .ok (.ireturn, 1) := by decide +kernel
theorem dX8_closesBracket_0 : decode cX8_closesBracket 0 = .ok (.aload_n 0, 1) := by decide +kernel
theorem dX8_closesBracket_1 : decode cX8_closesBracket 1 = .ok (.getfield 26, 3) := by decide +kernel
theorem dX8_closesBracket_4 : decode cX8_closesBracket 4 = .ok (.ifCond .ne 5, 3) := by decide +kernel
theorem dX8_closesBracket_7 : decode cX8_closesBracket 7 = .ok (.iconst 0, 1) := by decide +kernel
theorem dX8_closesBracket_8 : decode cX8_closesBracket 8 = .ok (.ireturn, 1) := by decide +kernel
theorem dX8_closesBracket_9 : decode cX8_closesBracket 9 = .ok (.aload_n 0, 1) := by decide +kernel
theorem dX8_closesBracket_10 : decode cX8_closesBracket 10 = .ok (.iconst 1, 1) := by decide +kernel
theorem dX8_closesBracket_11 : decode cX8_closesBracket 11 = .ok (.invokevirtual 53, 3) := by decide +kernel
theorem dX8_closesBracket_14 : decode cX8_closesBracket 14 = .ok (.aload_n 0, 1) := by decide +kernel
theorem dX8_closesBracket_15 : decode cX8_closesBracket 15 = .ok (.getfield 23, 3) := by decide +kernel
theorem dX8_closesBracket_18 : decode cX8_closesBracket 18 = .ok (.ifCond .le 13, 3) := by decide +kernel
theorem dX8_closesBracket_21 : decode cX8_closesBracket 21 = .ok (.aload_n 0, 1) := by decide +kernel
theorem dX8_closesBracket_22 : decode cX8_closesBracket 22 = .ok (.dup, 1) := by decide +kernel
theorem dX8_closesBracket_23 : decode cX8_closesBracket 23 = .ok (.getfield 23, 3) := by decide +kernel
theorem dX8_closesBracket_26 : decode cX8_closesBracket 26 = .ok (.iconst 1, 1) := by decide +kernel
theorem dX8_closesBracket_27 : decode cX8_closesBracket 27 = .ok (.isub, 1) := by decide +kernel
theorem dX8_closesBracket_28 : decode cX8_closesBracket 28 = .ok (.putfield 23, 3) := by decide +kernel
theorem dX8_closesBracket_31 : decode cX8_closesBracket 31 = .ok (.aload_n 0, 1) := by decide +kernel
theorem dX8_closesBracket_32 : decode cX8_closesBracket 32 = .ok (.dup, 1) := by decide +kernel
theorem dX8_closesBracket_33 : decode cX8_closesBracket 33 = .ok (.getfield 26, 3) := by decide +kernel
theorem dX8_closesBracket_36 : decode cX8_closesBracket 36 = .ok (.iconst 1, 1) := by decide +kernel
theorem dX8_closesBracket_37 : decode cX8_closesBracket 37 = .ok (.isub, 1) := by decide +kernel
theorem dX8_closesBracket_38 : decode cX8_closesBracket 38 = .ok (.putfield 26, 3) := by decide +kernel
theorem dX8_closesBracket_41 : decode cX8_closesBracket 41 = .ok (.iconst 1, 1) := by decide +kernel
theorem dX8_closesBracket_42 : decode cX8_closesBracket 42 = .ok (.ireturn, 1) := by decide +kernel
theorem dX8_close_0 : decode cX8_close 0 = .ok (.aload_n 0, 1) := by decide +kernel
theorem dX8_close_1 : decode cX8_close 1 = .ok (.getfield 23, 3) := by decide +kernel
theorem dX8_close_4 : decode cX8_close 4 = .ok (.ifCond .le 51, 3) := by decide +kernel
theorem dX8_close_7 : decode cX8_close 7 = .ok (.aload_n 0, 1) := by decide +kernel
theorem dX8_close_8 : decode cX8_close 8 = .ok (.getfield 15, 3) := by decide +kernel
theorem dX8_close_11 : decode cX8_close 11 = .ok (.aload_n 0, 1) := by decide +kernel
theorem dX8_close_12 : decode cX8_close 12 = .ok (.getfield 23, 3) := by decide +kernel
theorem dX8_close_15 : decode cX8_close 15 = .ok (.iconst 1, 1) := by decide +kernel
theorem dX8_close_16 : decode cX8_close 16 = .ok (.isub, 1) := by decide +kernel
theorem dX8_close_17 : decode cX8_close 17 = .ok (.caload, 1) := by decide +kernel
theorem dX8_close_18 : decode cX8_close 18 = .ok (.invokestatic 86, 3) := by decide +kernel
theorem dX8_close_21 : decode cX8_close 21 = .ok (.iload_n 1, 1) := by decide +kernel
theorem dX8_close_22 : decode cX8_close 22 = .ok (.if_icmp .lt 33, 3) := by decide +kernel
theorem dX8_close_25 : decode cX8_close 25 = .ok (.aload_n 0, 1) := by decide +kernel
theorem dX8_close_26 : decode cX8_close 26 = .ok (.dup, 1) := by decide +kernel
theorem dX8_close_27 : decode cX8_close 27 = .ok (.getfield 23, 3) := by decide +kernel
theorem dX8_close_30 : decode cX8_close 30 = .ok (.iconst 1, 1) := by decide +kernel
theorem dX8_close_31 : decode cX8_close 31 = .ok (.isub, 1) := by decide +kernel
theorem dX8_close_32 : decode cX8_close 32 = .ok (.putfield 23, 3) := by decide +kernel
theorem dX8_close_35 : decode cX8_close 35 = .ok (.aload_n 0, 1) := by decide +kernel
theorem dX8_close_36 : decode cX8_close 36 = .ok (.sipush 20000, 3) := by decide +kernel
theorem dX8_close_39 : decode cX8_close 39 = .ok (.aload_n 0, 1) := by decide +kernel
theorem dX8_close_40 : decode cX8_close 40 = .ok (.getfield 15, 3) := by decide +kernel
theorem dX8_close_43 : decode cX8_close 43 = .ok (.aload_n 0, 1) := by decide +kernel
theorem dX8_close_44 : decode cX8_close 44 = .ok (.getfield 23, 3) := by decide +kernel
theorem dX8_close_47 : decode cX8_close 47 = .ok (.caload, 1) := by decide +kernel
theorem dX8_close_48 : decode cX8_close 48 = .ok (.iadd, 1) := by decide +kernel
theorem dX8_close_49 : decode cX8_close 49 = .ok (.invokevirtual 72, 3) := by decide +kernel
theorem dX8_close_52 : decode cX8_close 52 = .ok (.goto (-52), 3) := by decide +kernel
theorem dX8_close_55 : decode cX8_close 55 = .ok (.return_, 1) := by decide +kernel
theorem dX8_write_0 : decode cX8_write 0 = .ok (.aload_n 0, 1) := by decide +kernel
theorem dX8_write_1 : decode cX8_write 1 = .ok (.getfield 19, 3) := by decide +kernel
theorem dX8_write_4 : decode cX8_write 4 = .ok (.aload_n 0, 1) := by decide +kernel
theorem dX8_write_5 : decode cX8_write 5 = .ok (.getfield 11, 3) := by decide +kernel
theorem dX8_write_8 : decode cX8_write 8 = .ok (.arraylength, 1) := by decide +kernel
theorem dX8_write_9 : decode cX8_write 9 = .ok (.if_icmp .ge 23, 3) := by decide +kernel
theorem dX8_write_12 : decode cX8_write 12 = .ok (.aload_n 0, 1) := by decide +kernel
theorem dX8_write_13 : decode cX8_write 13 = .ok (.getfield 11, 3) := by decide +kernel
theorem dX8_write_16 : decode cX8_write 16 = .ok (.aload_n 0, 1) := by decide +kernel
theorem dX8_write_17 : decode cX8_write 17 = .ok (.getfield 19, 3) := by decide +kernel
theorem dX8_write_20 : decode cX8_write 20 = .ok (.iload_n 1, 1) := by decide +kernel
theorem dX8_write_21 : decode cX8_write 21 = .ok (.iastore, 1) := by decide +kernel
theorem dX8_write_22 : decode cX8_write 22 = .ok (.aload_n 0, 1) := by decide +kernel
theorem dX8_write_23 : decode cX8_write 23 = .ok (.dup, 1) := by decide +kernel
theorem dX8_write_24 : decode cX8_write 24 = .ok (.getfield 19, 3) := by decide +kernel
theorem dX8_write_27 : decode cX8_write 27 = .ok (.iconst 1, 1) := by decide +kernel
theorem dX8_write_28 : decode cX8_write 28 = .ok (.iadd, 1) := by decide +kernel
theorem dX8_write_29 : decode cX8_write 29 = .ok (.putfield 19, 3) := by decide +kernel
theorem dX8_write_32 : decode cX8_write 32 = .ok (.return_, 1) := by decide +kernel
theorem dX8_keepOpen_0 : decode cX8_keepOpen 0 = .ok (.aload_n 0, 1) := by decide +kernel
theorem dX8_keepOpen_1 : decode cX8_keepOpen 1 = .ok (.getfield 23, 3) := by decide +kernel
theorem dX8_keepOpen_4 : decode cX8_keepOpen 4 = .ok (.aload_n 0, 1) := by decide +kernel
theorem dX8_keepOpen_5 : decode cX8_keepOpen 5 = .ok (.getfield 15, 3) := by decide +kernel
theorem dX8_keepOpen_8 : decode cX8_keepOpen 8 = .ok (.arraylength, 1) := by decide +kernel
theorem dX8_keepOpen_9 : decode cX8_keepOpen 9 = .ok (.if_icmp .ge 23, 3) := by decide +kernel
theorem dX8_keepOpen_12 : decode cX8_keepOpen 12 = .ok (.aload_n 0, 1) := by decide +kernel
theorem dX8_keepOpen_13 : decode cX8_keepOpen 13 = .ok (.getfield 15, 3) := by decide +kernel
theorem dX8_keepOpen_16 : decode cX8_keepOpen 16 = .ok (.aload_n 0, 1) := by decide +kernel
theorem dX8_keepOpen_17 : decode cX8_keepOpen 17 = .ok (.getfield 23, 3) := by decide +kernel
theorem dX8_keepOpen_20 : decode cX8_keepOpen 20 = .ok (.iload_n 1, 1) := by decide +kernel
theorem dX8_keepOpen_21 : decode cX8_keepOpen 21 = .ok (.castore, 1) := by decide +kernel
theorem dX8_keepOpen_22 : decode cX8_keepOpen 22 = .ok (.aload_n 0, 1) := by decide +kernel
theorem dX8_keepOpen_23 : decode cX8_keepOpen 23 = .ok (.dup, 1) := by decide +kernel
theorem dX8_keepOpen_24 : decode cX8_keepOpen 24 = .ok (.getfield 23, 3) := by decide +kernel
theorem dX8_keepOpen_27 : decode cX8_keepOpen 27 = .ok (.iconst 1, 1) := by decide +kernel
theorem dX8_keepOpen_28 : decode cX8_keepOpen 28 = .ok (.iadd, 1) := by decide +kernel
theorem dX8_keepOpen_29 : decode cX8_keepOpen 29 = .ok (.putfield 23, 3) := by decide +kernel
theorem dX8_keepOpen_32 : decode cX8_keepOpen 32 = .ok (.return_, 1) := by decide +kernel
theorem dX8_isDigit_0 : decode cX8_isDigit 0 = .ok (.iload_n 0, 1) := by decide +kernel
theorem dX8_isDigit_1 : decode cX8_isDigit 1 = .ok (.bipush 48, 2) := by decide +kernel
theorem dX8_isDigit_3 : decode cX8_isDigit 3 = .ok (.if_icmp .lt 13, 3) := by decide +kernel
theorem dX8_isDigit_6 : decode cX8_isDigit 6 = .ok (.iload_n 0, 1) := by decide +kernel
theorem dX8_isDigit_7 : decode cX8_isDigit 7 = .ok (.bipush 57, 2) := by decide +kernel
theorem dX8_isDigit_9 : decode cX8_isDigit 9 = .ok (.if_icmp .gt 7, 3) := by decide +kernel
theorem dX8_isDigit_12 : decode cX8_isDigit 12 = .ok (.iconst 1, 1) := by decide +kernel
theorem dX8_isDigit_13 : decode cX8_isDigit 13 = .ok (.goto 4, 3) := by decide +kernel
theorem dX8_isDigit_16 : decode cX8_isDigit 16 = .ok (.iconst 0, 1) := by decide +kernel
theorem dX8_isDigit_17 : decode cX8_isDigit 17 = .ok (.ireturn, 1) := by decide +kernel
theorem dX8_binding_0 : decode cX8_binding 0 = .ok (.iload_n 0, 1) := by decide +kernel
theorem dX8_binding_1 : decode cX8_binding 1 = .ok (.lookupswitch 104 #[(33, 101), (38, 93), (42, 99), (43, 97), (45, 97), (60, 95), (61, 95), (62, 95), (124, 91), (126, 101)], 91) := by decide +kernel
theorem dX8_binding_92 : decode cX8_binding 92 = .ok (.iconst 1, 1) := by decide +kernel
theorem dX8_binding_93 : decode cX8_binding 93 = .ok (.ireturn, 1) := by decide +kernel
theorem dX8_binding_94 : decode cX8_binding 94 = .ok (.iconst 2, 1) := by decide +kernel
theorem dX8_binding_95 : decode cX8_binding 95 = .ok (.ireturn, 1) := by decide +kernel
theorem dX8_binding_96 : decode cX8_binding 96 = .ok (.iconst 3, 1) := by decide +kernel
theorem dX8_binding_97 : decode cX8_binding 97 = .ok (.ireturn, 1) := by decide +kernel
theorem dX8_binding_98 : decode cX8_binding 98 = .ok (.iconst 4, 1) := by decide +kernel
theorem dX8_binding_99 : decode cX8_binding 99 = .ok (.ireturn, 1) := by decide +kernel
theorem dX8_binding_100 : decode cX8_binding 100 = .ok (.iconst 5, 1) := by decide +kernel
theorem dX8_binding_101 : decode cX8_binding 101 = .ok (.ireturn, 1) := by decide +kernel
theorem dX8_binding_102 : decode cX8_binding 102 = .ok (.bipush 6, 2) := by decide +kernel
theorem dX8_binding_104 : decode cX8_binding 104 = .ok (.ireturn, 1) := by decide +kernel
theorem dX8_binding_105 : decode cX8_binding 105 = .ok (.iconst 0, 1) := by decide +kernel
theorem dX8_binding_106 : decode cX8_binding 106 = .ok (.ireturn, 1) := by decide +kernel
theorem dX9_init_0 : decode cX9_init 0 = .ok (.aload_n 0, 1) := by decide +kernel
theorem dX9_init_1 : decode cX9_init 1 = .ok (.invokespecial 1, 3) := by decide +kernel
theorem dX9_init_4 : decode cX9_init 4 = .ok (.aload_n 0, 1) := by decide +kernel
theorem dX9_init_5 : decode cX9_init 5 = .ok (.iload_n 1, 1) := by decide +kernel
theorem dX9_init_6 : decode cX9_init 6 = .ok (.putfield 7, 3) := by decide +kernel
