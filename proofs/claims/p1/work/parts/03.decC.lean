theorem dJ0_coder_7d493_0 : decode cJ0_coder_7d493 0 = .ok (.getstatic 38, 3) := by decide +kernel
theorem dJ0_coder_7d493_10 : decode cJ0_coder_7d493 10 = .ok (.goto 4, 3) := by decide +kernel
theorem dJ0_coder_7d493_14 : decode cJ0_coder_7d493 14 = .ok (.ireturn, 1) := by decide +kernel
theorem dJ0_coder_7d493_3 : decode cJ0_coder_7d493 3 = .ok (.ifCond .eq 10, 3) := by decide +kernel
theorem dJ0_coder_7d493_6 : decode cJ0_coder_7d493 6 = .ok (.aload_n 0, 1) := by decide +kernel
theorem dJ0_coder_7d493_7 : decode cJ0_coder_7d493 7 = .ok (.getfield 15, 3) := by decide +kernel
theorem dJ0_indexOf_0f7a4_0 : decode cJ0_indexOf_0f7a4 0 = .ok (.aload_n 0, 1) := by decide +kernel
theorem dJ0_indexOf_0f7a4_1 : decode cJ0_indexOf_0f7a4 1 = .ok (.iload_n 1, 1) := by decide +kernel
theorem dJ0_indexOf_0f7a4_2 : decode cJ0_indexOf_0f7a4 2 = .ok (.iconst 0, 1) := by decide +kernel
theorem dJ0_indexOf_0f7a4_3 : decode cJ0_indexOf_0f7a4 3 = .ok (.invokevirtual 633, 3) := by decide +kernel
theorem dJ0_indexOf_0f7a4_6 : decode cJ0_indexOf_0f7a4 6 = .ok (.ireturn, 1) := by decide +kernel
theorem dJ0_indexOf_7cf53_0 : decode cJ0_indexOf_7cf53 0 = .ok (.aload_n 0, 1) := by decide +kernel
theorem dJ0_indexOf_7cf53_1 : decode cJ0_indexOf_7cf53 1 = .ok (.invokevirtual 492, 3) := by decide +kernel
theorem dJ0_indexOf_7cf53_11 : decode cJ0_indexOf_7cf53 11 = .ok (.iload_n 1, 1) := by decide +kernel
theorem dJ0_indexOf_7cf53_12 : decode cJ0_indexOf_7cf53 12 = .ok (.iload_n 2, 1) := by decide +kernel
theorem dJ0_indexOf_7cf53_13 : decode cJ0_indexOf_7cf53 13 = .ok (.aload_n 0, 1) := by decide +kernel
theorem dJ0_indexOf_7cf53_14 : decode cJ0_indexOf_7cf53 14 = .ok (.invokevirtual 505, 3) := by decide +kernel
theorem dJ0_indexOf_7cf53_17 : decode cJ0_indexOf_7cf53 17 = .ok (.invokestatic 637, 3) := by decide +kernel
theorem dJ0_indexOf_7cf53_20 : decode cJ0_indexOf_7cf53 20 = .ok (.goto 16, 3) := by decide +kernel
theorem dJ0_indexOf_7cf53_36 : decode cJ0_indexOf_7cf53 36 = .ok (.ireturn, 1) := by decide +kernel
theorem dJ0_indexOf_7cf53_4 : decode cJ0_indexOf_7cf53 4 = .ok (.ifCond .eq 19, 3) := by decide +kernel
theorem dJ0_indexOf_7cf53_7 : decode cJ0_indexOf_7cf53 7 = .ok (.aload_n 0, 1) := by decide +kernel
theorem dJ0_indexOf_7cf53_8 : decode cJ0_indexOf_7cf53 8 = .ok (.getfield 9, 3) := by decide +kernel
theorem dJ0_isLatin1_aae02_0 : decode cJ0_isLatin1_aae02 0 = .ok (.getstatic 38, 3) := by decide +kernel
theorem dJ0_isLatin1_aae02_10 : decode cJ0_isLatin1_aae02 10 = .ok (.ifCond .ne 7, 3) := by decide +kernel
theorem dJ0_isLatin1_aae02_13 : decode cJ0_isLatin1_aae02 13 = .ok (.iconst 1, 1) := by decide +kernel
theorem dJ0_isLatin1_aae02_14 : decode cJ0_isLatin1_aae02 14 = .ok (.goto 4, 3) := by decide +kernel
theorem dJ0_isLatin1_aae02_18 : decode cJ0_isLatin1_aae02 18 = .ok (.ireturn, 1) := by decide +kernel
theorem dJ0_isLatin1_aae02_3 : decode cJ0_isLatin1_aae02 3 = .ok (.ifCond .eq 14, 3) := by decide +kernel
theorem dJ0_isLatin1_aae02_6 : decode cJ0_isLatin1_aae02 6 = .ok (.aload_n 0, 1) := by decide +kernel
theorem dJ0_isLatin1_aae02_7 : decode cJ0_isLatin1_aae02 7 = .ok (.getfield 15, 3) := by decide +kernel
theorem dJ0_length_8abf5_0 : decode cJ0_length_8abf5 0 = .ok (.aload_n 0, 1) := by decide +kernel
theorem dJ0_length_8abf5_1 : decode cJ0_length_8abf5 1 = .ok (.getfield 9, 3) := by decide +kernel
theorem dJ0_length_8abf5_10 : decode cJ0_length_8abf5 10 = .ok (.ireturn, 1) := by decide +kernel
theorem dJ0_length_8abf5_4 : decode cJ0_length_8abf5 4 = .ok (.arraylength, 1) := by decide +kernel
theorem dJ0_length_8abf5_5 : decode cJ0_length_8abf5 5 = .ok (.aload_n 0, 1) := by decide +kernel
theorem dJ0_length_8abf5_6 : decode cJ0_length_8abf5 6 = .ok (.invokevirtual 335, 3) := by decide +kernel
theorem dJ0_length_8abf5_9 : decode cJ0_length_8abf5 9 = .ok (.ishr, 1) := by decide +kernel
theorem dJ0_toCharArray_70df3_0 : decode cJ0_toCharArray_70df3 0 = .ok (.aload_n 0, 1) := by decide +kernel
theorem dJ0_toCharArray_70df3_1 : decode cJ0_toCharArray_70df3 1 = .ok (.invokevirtual 492, 3) := by decide +kernel
theorem dJ0_toCharArray_70df3_11 : decode cJ0_toCharArray_70df3 11 = .ok (.invokestatic 299, 3) := by decide +kernel
theorem dJ0_toCharArray_70df3_14 : decode cJ0_toCharArray_70df3 14 = .ok (.goto 10, 3) := by decide +kernel
theorem dJ0_toCharArray_70df3_24 : decode cJ0_toCharArray_70df3 24 = .ok (.areturn, 1) := by decide +kernel
theorem dJ0_toCharArray_70df3_4 : decode cJ0_toCharArray_70df3 4 = .ok (.ifCond .eq 13, 3) := by decide +kernel
theorem dJ0_toCharArray_70df3_7 : decode cJ0_toCharArray_70df3 7 = .ok (.aload_n 0, 1) := by decide +kernel
theorem dJ0_toCharArray_70df3_8 : decode cJ0_toCharArray_70df3 8 = .ok (.getfield 9, 3) := by decide +kernel
theorem dJ1_canEncode_9a6ad_0 : decode cJ1_canEncode_9a6ad 0 = .ok (.iload_n 0, 1) := by decide +kernel
theorem dJ1_canEncode_9a6ad_1 : decode cJ1_canEncode_9a6ad 1 = .ok (.ifCond .lt 14, 3) := by decide +kernel
theorem dJ1_canEncode_9a6ad_11 : decode cJ1_canEncode_9a6ad 11 = .ok (.iconst 1, 1) := by decide +kernel
theorem dJ1_canEncode_9a6ad_12 : decode cJ1_canEncode_9a6ad 12 = .ok (.goto 4, 3) := by decide +kernel
theorem dJ1_canEncode_9a6ad_15 : decode cJ1_canEncode_9a6ad 15 = .ok (.iconst 0, 1) := by decide +kernel
theorem dJ1_canEncode_9a6ad_16 : decode cJ1_canEncode_9a6ad 16 = .ok (.ireturn, 1) := by decide +kernel
theorem dJ1_canEncode_9a6ad_4 : decode cJ1_canEncode_9a6ad 4 = .ok (.iload_n 0, 1) := by decide +kernel
theorem dJ1_canEncode_9a6ad_5 : decode cJ1_canEncode_9a6ad 5 = .ok (.sipush 255, 3) := by decide +kernel
theorem dJ1_canEncode_9a6ad_8 : decode cJ1_canEncode_9a6ad 8 = .ok (.if_icmp .gt 7, 3) := by decide +kernel
theorem dJ1_indexOfChar_4cfef_0 : decode cJ1_indexOfChar_4cfef 0 = .ok (.iload_n 1, 1) := by decide +kernel
theorem dJ1_indexOfChar_4cfef_1 : decode cJ1_indexOfChar_4cfef 1 = .ok (.i2b, 1) := by decide +kernel
theorem dJ1_indexOfChar_4cfef_10 : decode cJ1_indexOfChar_4cfef 10 = .ok (.if_icmp .ge 21, 3) := by decide +kernel
theorem dJ1_indexOfChar_4cfef_13 : decode cJ1_indexOfChar_4cfef 13 = .ok (.aload_n 0, 1) := by decide +kernel
theorem dJ1_indexOfChar_4cfef_14 : decode cJ1_indexOfChar_4cfef 14 = .ok (.iload 5, 2) := by decide +kernel
theorem dJ1_indexOfChar_4cfef_16 : decode cJ1_indexOfChar_4cfef 16 = .ok (.baload, 1) := by decide +kernel
theorem dJ1_indexOfChar_4cfef_17 : decode cJ1_indexOfChar_4cfef 17 = .ok (.iload 4, 2) := by decide +kernel
theorem dJ1_indexOfChar_4cfef_19 : decode cJ1_indexOfChar_4cfef 19 = .ok (.if_icmp .ne 6, 3) := by decide +kernel
theorem dJ1_indexOfChar_4cfef_2 : decode cJ1_indexOfChar_4cfef 2 = .ok (.istore 4, 2) := by decide +kernel
theorem dJ1_indexOfChar_4cfef_22 : decode cJ1_indexOfChar_4cfef 22 = .ok (.iload 5, 2) := by decide +kernel
theorem dJ1_indexOfChar_4cfef_24 : decode cJ1_indexOfChar_4cfef 24 = .ok (.ireturn, 1) := by decide +kernel
theorem dJ1_indexOfChar_4cfef_25 : decode cJ1_indexOfChar_4cfef 25 = .ok (.iinc 5 1, 3) := by decide +kernel
theorem dJ1_indexOfChar_4cfef_28 : decode cJ1_indexOfChar_4cfef 28 = .ok (.goto (-21), 3) := by decide +kernel
theorem dJ1_indexOfChar_4cfef_31 : decode cJ1_indexOfChar_4cfef 31 = .ok (.iconst (-1), 1) := by decide +kernel
theorem dJ1_indexOfChar_4cfef_32 : decode cJ1_indexOfChar_4cfef 32 = .ok (.ireturn, 1) := by decide +kernel
theorem dJ1_indexOfChar_4cfef_4 : decode cJ1_indexOfChar_4cfef 4 = .ok (.iload_n 2, 1) := by decide +kernel
theorem dJ1_indexOfChar_4cfef_5 : decode cJ1_indexOfChar_4cfef 5 = .ok (.istore 5, 2) := by decide +kernel
theorem dJ1_indexOfChar_4cfef_7 : decode cJ1_indexOfChar_4cfef 7 = .ok (.iload 5, 2) := by decide +kernel
theorem dJ1_indexOfChar_4cfef_9 : decode cJ1_indexOfChar_4cfef 9 = .ok (.iload_n 3, 1) := by decide +kernel
theorem dJ1_indexOf_4cfef_0 : decode cJ1_indexOf_4cfef 0 = .ok (.iload_n 1, 1) := by decide +kernel
theorem dJ1_indexOf_4cfef_1 : decode cJ1_indexOf_4cfef 1 = .ok (.invokestatic 88, 3) := by decide +kernel
theorem dJ1_indexOf_4cfef_10 : decode cJ1_indexOf_4cfef 10 = .ok (.iconst 0, 1) := by decide +kernel
theorem dJ1_indexOf_4cfef_11 : decode cJ1_indexOf_4cfef 11 = .ok (.invokestatic 92, 3) := by decide +kernel
theorem dJ1_indexOf_4cfef_14 : decode cJ1_indexOf_4cfef 14 = .ok (.istore_n 2, 1) := by decide +kernel
theorem dJ1_indexOf_4cfef_15 : decode cJ1_indexOf_4cfef 15 = .ok (.iload_n 3, 1) := by decide +kernel
theorem dJ1_indexOf_4cfef_16 : decode cJ1_indexOf_4cfef 16 = .ok (.aload_n 0, 1) := by decide +kernel
theorem dJ1_indexOf_4cfef_17 : decode cJ1_indexOf_4cfef 17 = .ok (.arraylength, 1) := by decide +kernel
theorem dJ1_indexOf_4cfef_18 : decode cJ1_indexOf_4cfef 18 = .ok (.invokestatic 38, 3) := by decide +kernel
theorem dJ1_indexOf_4cfef_21 : decode cJ1_indexOf_4cfef 21 = .ok (.istore_n 3, 1) := by decide +kernel
theorem dJ1_indexOf_4cfef_22 : decode cJ1_indexOf_4cfef 22 = .ok (.iload_n 2, 1) := by decide +kernel
theorem dJ1_indexOf_4cfef_23 : decode cJ1_indexOf_4cfef 23 = .ok (.iload_n 3, 1) := by decide +kernel
theorem dJ1_indexOf_4cfef_24 : decode cJ1_indexOf_4cfef 24 = .ok (.if_icmp .lt 5, 3) := by decide +kernel
theorem dJ1_indexOf_4cfef_27 : decode cJ1_indexOf_4cfef 27 = .ok (.iconst (-1), 1) := by decide +kernel
theorem dJ1_indexOf_4cfef_28 : decode cJ1_indexOf_4cfef 28 = .ok (.ireturn, 1) := by decide +kernel
theorem dJ1_indexOf_4cfef_29 : decode cJ1_indexOf_4cfef 29 = .ok (.aload_n 0, 1) := by decide +kernel
theorem dJ1_indexOf_4cfef_30 : decode cJ1_indexOf_4cfef 30 = .ok (.iload_n 1, 1) := by decide +kernel
theorem dJ1_indexOf_4cfef_31 : decode cJ1_indexOf_4cfef 31 = .ok (.iload_n 2, 1) := by decide +kernel
theorem dJ1_indexOf_4cfef_32 : decode cJ1_indexOf_4cfef 32 = .ok (.iload_n 3, 1) := by decide +kernel
theorem dJ1_indexOf_4cfef_33 : decode cJ1_indexOf_4cfef 33 = .ok (.invokestatic 95, 3) := by decide +kernel
theorem dJ1_indexOf_4cfef_36 : decode cJ1_indexOf_4cfef 36 = .ok (.ireturn, 1) := by decide +kernel
theorem dJ1_indexOf_4cfef_4 : decode cJ1_indexOf_4cfef 4 = .ok (.ifCond .ne 5, 3) := by decide +kernel
theorem dJ1_indexOf_4cfef_7 : decode cJ1_indexOf_4cfef 7 = .ok (.iconst (-1), 1) := by decide +kernel
theorem dJ1_indexOf_4cfef_8 : decode cJ1_indexOf_4cfef 8 = .ok (.ireturn, 1) := by decide +kernel
theorem dJ1_indexOf_4cfef_9 : decode cJ1_indexOf_4cfef 9 = .ok (.iload_n 2, 1) := by decide +kernel
theorem dJ1_inflate_03870_0 : decode cJ1_inflate_03870 0 = .ok (.iconst 0, 1) := by decide +kernel
theorem dJ1_inflate_03870_1 : decode cJ1_inflate_03870 1 = .ok (.istore 5, 2) := by decide +kernel
theorem dJ1_inflate_03870_10 : decode cJ1_inflate_03870 10 = .ok (.aload_n 2, 1) := by decide +kernel
theorem dJ1_inflate_03870_11 : decode cJ1_inflate_03870 11 = .ok (.iload_n 3, 1) := by decide +kernel
theorem dJ1_inflate_03870_12 : decode cJ1_inflate_03870 12 = .ok (.iinc 3 1, 3) := by decide +kernel
theorem dJ1_inflate_03870_15 : decode cJ1_inflate_03870 15 = .ok (.aload_n 0, 1) := by decide +kernel
theorem dJ1_inflate_03870_16 : decode cJ1_inflate_03870 16 = .ok (.iload_n 1, 1) := by decide +kernel
theorem dJ1_inflate_03870_17 : decode cJ1_inflate_03870 17 = .ok (.iinc 1 1, 3) := by decide +kernel
theorem dJ1_inflate_03870_20 : decode cJ1_inflate_03870 20 = .ok (.baload, 1) := by decide +kernel
theorem dJ1_inflate_03870_21 : decode cJ1_inflate_03870 21 = .ok (.sipush 255, 3) := by decide +kernel
theorem dJ1_inflate_03870_24 : decode cJ1_inflate_03870 24 = .ok (.iand, 1) := by decide +kernel
theorem dJ1_inflate_03870_25 : decode cJ1_inflate_03870 25 = .ok (.i2c, 1) := by decide +kernel
theorem dJ1_inflate_03870_26 : decode cJ1_inflate_03870 26 = .ok (.castore, 1) := by decide +kernel
theorem dJ1_inflate_03870_27 : decode cJ1_inflate_03870 27 = .ok (.iinc 5 1, 3) := by decide +kernel
theorem dJ1_inflate_03870_3 : decode cJ1_inflate_03870 3 = .ok (.iload 5, 2) := by decide +kernel
theorem dJ1_inflate_03870_30 : decode cJ1_inflate_03870 30 = .ok (.goto (-27), 3) := by decide +kernel
theorem dJ1_inflate_03870_33 : decode cJ1_inflate_03870 33 = .ok (.return_, 1) := by decide +kernel
theorem dJ1_inflate_03870_5 : decode cJ1_inflate_03870 5 = .ok (.iload 4, 2) := by decide +kernel
theorem dJ1_inflate_03870_7 : decode cJ1_inflate_03870 7 = .ok (.if_icmp .ge 26, 3) := by decide +kernel
theorem dJ1_toChars_9d188_0 : decode cJ1_toChars_9d188 0 = .ok (.aload_n 0, 1) := by decide +kernel
theorem dJ1_toChars_9d188_1 : decode cJ1_toChars_9d188 1 = .ok (.arraylength, 1) := by decide +kernel
theorem dJ1_toChars_9d188_10 : decode cJ1_toChars_9d188 10 = .ok (.arraylength, 1) := by decide +kernel
theorem dJ1_toChars_9d188_11 : decode cJ1_toChars_9d188 11 = .ok (.invokestatic 13, 3) := by decide +kernel
theorem dJ1_toChars_9d188_14 : decode cJ1_toChars_9d188 14 = .ok (.aload_n 1, 1) := by decide +kernel
theorem dJ1_toChars_9d188_15 : decode cJ1_toChars_9d188 15 = .ok (.areturn, 1) := by decide +kernel
theorem dJ1_toChars_9d188_2 : decode cJ1_toChars_9d188 2 = .ok (.newarray .char, 2) := by decide +kernel
theorem dJ1_toChars_9d188_4 : decode cJ1_toChars_9d188 4 = .ok (.astore_n 1, 1) := by decide +kernel
theorem dJ1_toChars_9d188_5 : decode cJ1_toChars_9d188 5 = .ok (.aload_n 0, 1) := by decide +kernel
theorem dJ1_toChars_9d188_6 : decode cJ1_toChars_9d188 6 = .ok (.iconst 0, 1) := by decide +kernel
theorem dJ1_toChars_9d188_7 : decode cJ1_toChars_9d188 7 = .ok (.aload_n 1, 1) := by decide +kernel
theorem dJ1_toChars_9d188_8 : decode cJ1_toChars_9d188 8 = .ok (.iconst 0, 1) := by decide +kernel
theorem dJ1_toChars_9d188_9 : decode cJ1_toChars_9d188 9 = .ok (.aload_n 0, 1) := by decide +kernel
theorem dJ7_copyOf_59c91_0 : decode cJ7_copyOf_59c91 0 = .ok (.iload_n 1, 1) := by decide +kernel
theorem dJ7_copyOf_59c91_1 : decode cJ7_copyOf_59c91 1 = .ok (.aload_n 0, 1) := by decide +kernel
theorem dJ7_copyOf_59c91_10 : decode cJ7_copyOf_59c91 10 = .ok (.checkcast 317, 3) := by decide +kernel
theorem dJ7_copyOf_59c91_13 : decode cJ7_copyOf_59c91 13 = .ok (.areturn, 1) := by decide +kernel
theorem dJ7_copyOf_59c91_14 : decode cJ7_copyOf_59c91 14 = .ok (.iload_n 1, 1) := by decide +kernel
theorem dJ7_copyOf_59c91_15 : decode cJ7_copyOf_59c91 15 = .ok (.newarray .int, 2) := by decide +kernel
theorem dJ7_copyOf_59c91_17 : decode cJ7_copyOf_59c91 17 = .ok (.astore_n 2, 1) := by decide +kernel
theorem dJ7_copyOf_59c91_18 : decode cJ7_copyOf_59c91 18 = .ok (.aload_n 0, 1) := by decide +kernel
theorem dJ7_copyOf_59c91_19 : decode cJ7_copyOf_59c91 19 = .ok (.iconst 0, 1) := by decide +kernel
theorem dJ7_copyOf_59c91_2 : decode cJ7_copyOf_59c91 2 = .ok (.arraylength, 1) := by decide +kernel
theorem dJ7_copyOf_59c91_20 : decode cJ7_copyOf_59c91 20 = .ok (.aload_n 2, 1) := by decide +kernel
theorem dJ7_copyOf_59c91_21 : decode cJ7_copyOf_59c91 21 = .ok (.iconst 0, 1) := by decide +kernel
theorem dJ7_copyOf_59c91_22 : decode cJ7_copyOf_59c91 22 = .ok (.aload_n 0, 1) := by decide +kernel
theorem dJ7_copyOf_59c91_23 : decode cJ7_copyOf_59c91 23 = .ok (.arraylength, 1) := by decide +kernel
theorem dJ7_copyOf_59c91_24 : decode cJ7_copyOf_59c91 24 = .ok (.iload_n 1, 1) := by decide +kernel
theorem dJ7_copyOf_59c91_25 : decode cJ7_copyOf_59c91 25 = .ok (.invokestatic 304, 3) := by decide +kernel
theorem dJ7_copyOf_59c91_28 : decode cJ7_copyOf_59c91 28 = .ok (.invokestatic 150, 3) := by decide +kernel
theorem dJ7_copyOf_59c91_3 : decode cJ7_copyOf_59c91 3 = .ok (.if_icmp .ne 11, 3) := by decide +kernel
theorem dJ7_copyOf_59c91_31 : decode cJ7_copyOf_59c91 31 = .ok (.aload_n 2, 1) := by decide +kernel
theorem dJ7_copyOf_59c91_32 : decode cJ7_copyOf_59c91 32 = .ok (.areturn, 1) := by decide +kernel
theorem dJ7_copyOf_59c91_6 : decode cJ7_copyOf_59c91 6 = .ok (.aload_n 0, 1) := by decide +kernel
theorem dJ7_copyOf_59c91_7 : decode cJ7_copyOf_59c91 7 = .ok (.invokevirtual 316, 3) := by decide +kernel
theorem dL_earns_0 : decode cL_earns 0 = .ok (.aload_n 3, 1) := by decide +kernel
theorem dL_earns_1 : decode cL_earns 1 = .ok (.iconst 0, 1) := by decide +kernel
theorem dL_earns_13 : decode cL_earns 13 = .ok (.astore 4, 2) := by decide +kernel
theorem dL_earns_15 : decode cL_earns 15 = .ok (.iconst 1, 1) := by decide +kernel
theorem dL_earns_16 : decode cL_earns 16 = .ok (.ireturn, 1) := by decide +kernel
theorem dL_earns_2 : decode cL_earns 2 = .ok (.aload_n 0, 1) := by decide +kernel
theorem dL_earns_3 : decode cL_earns 3 = .ok (.iload_n 1, 1) := by decide +kernel
theorem dL_earns_4 : decode cL_earns 4 = .ok (.iload_n 2, 1) := by decide +kernel
theorem dL_earns_5 : decode cL_earns 5 = .ok (.invokevirtual 22, 3) := by decide +kernel
theorem dL_ill_0 : decode cL_ill 0 = .ok (.aload_n 3, 1) := by decide +kernel
theorem dL_ill_1 : decode cL_ill 1 = .ok (.iconst 0, 1) := by decide +kernel
theorem dL_ill_13 : decode cL_ill 13 = .ok (.astore 4, 2) := by decide +kernel
theorem dL_ill_15 : decode cL_ill 15 = .ok (.iconst 1, 1) := by decide +kernel
theorem dL_ill_16 : decode cL_ill 16 = .ok (.ireturn, 1) := by decide +kernel
theorem dL_ill_2 : decode cL_ill 2 = .ok (.aload_n 0, 1) := by decide +kernel
theorem dL_ill_3 : decode cL_ill 3 = .ok (.iload_n 1, 1) := by decide +kernel
theorem dL_ill_4 : decode cL_ill 4 = .ok (.iload_n 2, 1) := by decide +kernel
theorem dL_ill_5 : decode cL_ill 5 = .ok (.invokevirtual 25, 3) := by decide +kernel
theorem dL_of_0 : decode cL_of 0 = .ok (.aload_n 3, 1) := by decide +kernel
theorem dL_of_1 : decode cL_of 1 = .ok (.iconst 0, 1) := by decide +kernel
theorem dL_of_13 : decode cL_of 13 = .ok (.astore 4, 2) := by decide +kernel
theorem dL_of_15 : decode cL_of 15 = .ok (.iconst 1, 1) := by decide +kernel
theorem dL_of_16 : decode cL_of 16 = .ok (.ireturn, 1) := by decide +kernel
theorem dL_of_2 : decode cL_of 2 = .ok (.aload_n 0, 1) := by decide +kernel
theorem dL_of_3 : decode cL_of 3 = .ok (.iload_n 1, 1) := by decide +kernel
theorem dL_of_4 : decode cL_of 4 = .ok (.iload_n 2, 1) := by decide +kernel
theorem dL_of_5 : decode cL_of 5 = .ok (.invokevirtual 7, 3) := by decide +kernel
theorem dL_order_0 : decode cL_order 0 = .ok (.aload_n 3, 1) := by decide +kernel
theorem dL_order_1 : decode cL_order 1 = .ok (.iconst 0, 1) := by decide +kernel
theorem dL_order_13 : decode cL_order 13 = .ok (.astore 4, 2) := by decide +kernel
theorem dL_order_15 : decode cL_order 15 = .ok (.iconst 1, 1) := by decide +kernel
theorem dL_order_16 : decode cL_order 16 = .ok (.ireturn, 1) := by decide +kernel
theorem dL_order_2 : decode cL_order 2 = .ok (.aload_n 0, 1) := by decide +kernel
theorem dL_order_3 : decode cL_order 3 = .ok (.iload_n 1, 1) := by decide +kernel
theorem dL_order_4 : decode cL_order 4 = .ok (.iload_n 2, 1) := by decide +kernel
theorem dL_order_5 : decode cL_order 5 = .ok (.invokevirtual 15, 3) := by decide +kernel
theorem dL_pay_0 : decode cL_pay 0 = .ok (.aload_n 2, 1) := by decide +kernel
theorem dL_pay_1 : decode cL_pay 1 = .ok (.iconst 0, 1) := by decide +kernel
theorem dL_pay_12 : decode cL_pay 12 = .ok (.astore_n 3, 1) := by decide +kernel
theorem dL_pay_13 : decode cL_pay 13 = .ok (.iconst 1, 1) := by decide +kernel
theorem dL_pay_14 : decode cL_pay 14 = .ok (.ireturn, 1) := by decide +kernel
theorem dL_pay_2 : decode cL_pay 2 = .ok (.aload_n 0, 1) := by decide +kernel
theorem dL_pay_3 : decode cL_pay 3 = .ok (.iload_n 1, 1) := by decide +kernel
theorem dL_pay_4 : decode cL_pay 4 = .ok (.invokevirtual 18, 3) := by decide +kernel
theorem dL_row_0 : decode cL_row 0 = .ok (.aload_n 2, 1) := by decide +kernel
theorem dL_row_1 : decode cL_row 1 = .ok (.iconst 0, 1) := by decide +kernel
theorem dL_row_12 : decode cL_row 12 = .ok (.astore_n 3, 1) := by decide +kernel
theorem dL_row_13 : decode cL_row 13 = .ok (.iconst 1, 1) := by decide +kernel
theorem dL_row_14 : decode cL_row 14 = .ok (.ireturn, 1) := by decide +kernel
theorem dL_row_2 : decode cL_row 2 = .ok (.aload_n 0, 1) := by decide +kernel
theorem dL_row_3 : decode cL_row 3 = .ok (.iload_n 1, 1) := by decide +kernel
theorem dL_row_4 : decode cL_row 4 = .ok (.invokevirtual 28, 3) := by decide +kernel
theorem dX10_init_0 : decode cX10_init 0 = .ok (.aload_n 0, 1) := by decide +kernel
theorem dX10_init_1 : decode cX10_init 1 = .ok (.invokespecial 3, 3) := by decide +kernel
theorem dX10_init_10 : decode cX10_init 10 = .ok (.putfield 11, 3) := by decide +kernel
theorem dX10_init_101 : decode cX10_init 101 = .ok (.invokespecial 59, 3) := by decide +kernel
theorem dX10_init_104 : decode cX10_init 104 = .ok (.aastore, 1) := by decide +kernel
theorem dX10_init_105 : decode cX10_init 105 = .ok (.iinc 1 1, 3) := by decide +kernel
theorem dX10_init_108 : decode cX10_init 108 = .ok (.goto (-53), 3) := by decide +kernel
theorem dX10_init_111 : decode cX10_init 111 = .ok (.return_, 1) := by decide +kernel
theorem dX10_init_13 : decode cX10_init 13 = .ok (.aload_n 0, 1) := by decide +kernel
theorem dX10_init_14 : decode cX10_init 14 = .ok (.iconst 0, 1) := by decide +kernel
theorem dX10_init_15 : decode cX10_init 15 = .ok (.putfield 17, 3) := by decide +kernel
theorem dX10_init_18 : decode cX10_init 18 = .ok (.aload_n 0, 1) := by decide +kernel
theorem dX10_init_19 : decode cX10_init 19 = .ok (.bipush 8, 2) := by decide +kernel
theorem dX10_init_21 : decode cX10_init 21 = .ok (.newarray .int, 2) := by decide +kernel
theorem dX10_init_23 : decode cX10_init 23 = .ok (.putfield 21, 3) := by decide +kernel
theorem dX10_init_26 : decode cX10_init 26 = .ok (.aload_n 0, 1) := by decide +kernel
theorem dX10_init_27 : decode cX10_init 27 = .ok (.iconst 4, 1) := by decide +kernel
theorem dX10_init_28 : decode cX10_init 28 = .ok (.anewarray 9, 3) := by decide +kernel
theorem dX10_init_31 : decode cX10_init 31 = .ok (.putfield 25, 3) := by decide +kernel
theorem dX10_init_34 : decode cX10_init 34 = .ok (.aload_n 0, 1) := by decide +kernel
theorem dX10_init_35 : decode cX10_init 35 = .ok (.new 28, 3) := by decide +kernel
theorem dX10_init_38 : decode cX10_init 38 = .ok (.dup, 1) := by decide +kernel
theorem dX10_init_39 : decode cX10_init 39 = .ok (.invokespecial 30, 3) := by decide +kernel
theorem dX10_init_4 : decode cX10_init 4 = .ok (.aload_n 0, 1) := by decide +kernel
theorem dX10_init_42 : decode cX10_init 42 = .ok (.putfield 31, 3) := by decide +kernel
theorem dX10_init_45 : decode cX10_init 45 = .ok (.aload_n 0, 1) := by decide +kernel
theorem dX10_init_46 : decode cX10_init 46 = .ok (.bipush 60, 2) := by decide +kernel
theorem dX10_init_48 : decode cX10_init 48 = .ok (.newarray .int, 2) := by decide +kernel
theorem dX10_init_5 : decode cX10_init 5 = .ok (.bipush 20, 2) := by decide +kernel
theorem dX10_init_50 : decode cX10_init 50 = .ok (.putfield 35, 3) := by decide +kernel
theorem dX10_init_53 : decode cX10_init 53 = .ok (.iconst 0, 1) := by decide +kernel
theorem dX10_init_54 : decode cX10_init 54 = .ok (.istore_n 1, 1) := by decide +kernel
theorem dX10_init_55 : decode cX10_init 55 = .ok (.iload_n 1, 1) := by decide +kernel
theorem dX10_init_56 : decode cX10_init 56 = .ok (.iconst 4, 1) := by decide +kernel
theorem dX10_init_57 : decode cX10_init 57 = .ok (.if_icmp .ge 54, 3) := by decide +kernel
theorem dX10_init_60 : decode cX10_init 60 = .ok (.iload_n 1, 1) := by decide +kernel
theorem dX10_init_61 : decode cX10_init 61 = .ok (.invokestatic 38, 3) := by decide +kernel
theorem dX10_init_64 : decode cX10_init 64 = .ok (.invokevirtual 42, 3) := by decide +kernel
theorem dX10_init_67 : decode cX10_init 67 = .ok (.astore_n 2, 1) := by decide +kernel
theorem dX10_init_68 : decode cX10_init 68 = .ok (.aload_n 0, 1) := by decide +kernel
theorem dX10_init_69 : decode cX10_init 69 = .ok (.getfield 31, 3) := by decide +kernel
theorem dX10_init_7 : decode cX10_init 7 = .ok (.anewarray 9, 3) := by decide +kernel
theorem dX10_init_72 : decode cX10_init 72 = .ok (.aload_n 2, 1) := by decide +kernel
theorem dX10_init_73 : decode cX10_init 73 = .ok (.aload_n 2, 1) := by decide +kernel
theorem dX10_init_74 : decode cX10_init 74 = .ok (.arraylength, 1) := by decide +kernel
theorem dX10_init_75 : decode cX10_init 75 = .ok (.iload_n 1, 1) := by decide +kernel
theorem dX10_init_76 : decode cX10_init 76 = .ok (.invokestatic 48, 3) := by decide +kernel
theorem dX10_init_79 : decode cX10_init 79 = .ok (.invokevirtual 51, 3) := by decide +kernel
theorem dX10_init_82 : decode cX10_init 82 = .ok (.pop, 1) := by decide +kernel
theorem dX10_init_83 : decode cX10_init 83 = .ok (.aload_n 0, 1) := by decide +kernel
theorem dX10_init_84 : decode cX10_init 84 = .ok (.getfield 25, 3) := by decide +kernel
theorem dX10_init_87 : decode cX10_init 87 = .ok (.iload_n 1, 1) := by decide +kernel
theorem dX10_init_88 : decode cX10_init 88 = .ok (.new 9, 3) := by decide +kernel
theorem dX10_init_91 : decode cX10_init 91 = .ok (.dup, 1) := by decide +kernel
theorem dX10_init_92 : decode cX10_init 92 = .ok (.iload_n 1, 1) := by decide +kernel
theorem dX10_init_93 : decode cX10_init 93 = .ok (.iconst 0, 1) := by decide +kernel
theorem dX10_init_94 : decode cX10_init 94 = .ok (.aload_n 0, 1) := by decide +kernel
theorem dX10_init_95 : decode cX10_init 95 = .ok (.getfield 31, 3) := by decide +kernel
theorem dX10_init_98 : decode cX10_init 98 = .ok (.invokevirtual 55, 3) := by decide +kernel
theorem dX10_isTriable_0 : decode cX10_isTriable 0 = .ok (.iload_n 1, 1) := by decide +kernel
theorem dX10_isTriable_1 : decode cX10_isTriable 1 = .ok (.ifCond .lt 40, 3) := by decide +kernel
theorem dX10_isTriable_4 : decode cX10_isTriable 4 = .ok (.iload_n 1, 1) := by decide +kernel
theorem dX10_isTriable_41 : decode cX10_isTriable 41 = .ok (.iconst 0, 1) := by decide +kernel
theorem dX10_isTriable_42 : decode cX10_isTriable 42 = .ok (.ireturn, 1) := by decide +kernel
theorem dX10_isTriable_5 : decode cX10_isTriable 5 = .ok (.aload_n 0, 1) := by decide +kernel
theorem dX10_isTriable_6 : decode cX10_isTriable 6 = .ok (.getfield 17, 3) := by decide +kernel
theorem dX10_isTriable_9 : decode cX10_isTriable 9 = .ok (.if_icmp .ge 32, 3) := by decide +kernel
theorem dX10_lettersOf_0 : decode cX10_lettersOf 0 = .ok (.iload_n 0, 1) := by decide +kernel
theorem dX10_lettersOf_1 : decode cX10_lettersOf 1 = .ok (.tableswitch 36 0 2 #[27, 30, 33], 27) := by decide +kernel
theorem dX10_lettersOf_28 : decode cX10_lettersOf 28 = .ok (.ldc 62, 2) := by decide +kernel
theorem dX10_lettersOf_30 : decode cX10_lettersOf 30 = .ok (.areturn, 1) := by decide +kernel
theorem dX10_lettersOf_31 : decode cX10_lettersOf 31 = .ok (.ldc 64, 2) := by decide +kernel
theorem dX10_lettersOf_33 : decode cX10_lettersOf 33 = .ok (.areturn, 1) := by decide +kernel
theorem dX10_lettersOf_34 : decode cX10_lettersOf 34 = .ok (.ldc 66, 2) := by decide +kernel
theorem dX10_lettersOf_36 : decode cX10_lettersOf 36 = .ok (.areturn, 1) := by decide +kernel
theorem dX10_lettersOf_37 : decode cX10_lettersOf 37 = .ok (.ldc 68, 2) := by decide +kernel
theorem dX10_lettersOf_39 : decode cX10_lettersOf 39 = .ok (.areturn, 1) := by decide +kernel
theorem dX10_tell_0 : decode cX10_tell 0 = .ok (.aload_n 0, 1) := by decide +kernel
theorem dX10_tell_1 : decode cX10_tell 1 = .ok (.getfield 31, 3) := by decide +kernel
theorem dX10_tell_11 : decode cX10_tell 11 = .ok (.invokevirtual 51, 3) := by decide +kernel
theorem dX10_tell_14 : decode cX10_tell 14 = .ok (.istore 5, 2) := by decide +kernel
theorem dX10_tell_16 : decode cX10_tell 16 = .ok (.iload 5, 2) := by decide +kernel
theorem dX10_tell_18 : decode cX10_tell 18 = .ok (.iconst (-1), 1) := by decide +kernel
theorem dX10_tell_19 : decode cX10_tell 19 = .ok (.if_icmp .eq 8, 3) := by decide +kernel
theorem dX10_tell_22 : decode cX10_tell 22 = .ok (.iconst (-1), 1) := by decide +kernel
theorem dX10_tell_23 : decode cX10_tell 23 = .ok (.iload 5, 2) := by decide +kernel
theorem dX10_tell_25 : decode cX10_tell 25 = .ok (.isub, 1) := by decide +kernel
theorem dX10_tell_26 : decode cX10_tell 26 = .ok (.ireturn, 1) := by decide +kernel
theorem dX10_tell_4 : decode cX10_tell 4 = .ok (.aload_n 3, 1) := by decide +kernel
theorem dX10_tell_5 : decode cX10_tell 5 = .ok (.iload 4, 2) := by decide +kernel
theorem dX10_tell_7 : decode cX10_tell 7 = .ok (.iload_n 1, 1) := by decide +kernel
theorem dX10_tell_8 : decode cX10_tell 8 = .ok (.invokestatic 48, 3) := by decide +kernel
theorem dX10_textAtFirst_0 : decode cX10_textAtFirst 0 = .ok (.iload_n 0, 1) := by decide +kernel
theorem dX10_textAtFirst_1 : decode cX10_textAtFirst 1 = .ok (.tableswitch 36 0 2 #[27, 30, 33], 27) := by decide +kernel
theorem dX10_textAtFirst_28 : decode cX10_textAtFirst 28 = .ok (.ldc 70, 2) := by decide +kernel
theorem dX10_textAtFirst_30 : decode cX10_textAtFirst 30 = .ok (.areturn, 1) := by decide +kernel
theorem dX10_textAtFirst_31 : decode cX10_textAtFirst 31 = .ok (.ldc 72, 2) := by decide +kernel
theorem dX10_textAtFirst_33 : decode cX10_textAtFirst 33 = .ok (.areturn, 1) := by decide +kernel
theorem dX10_textAtFirst_34 : decode cX10_textAtFirst 34 = .ok (.ldc 74, 2) := by decide +kernel
theorem dX10_textAtFirst_36 : decode cX10_textAtFirst 36 = .ok (.areturn, 1) := by decide +kernel
theorem dX10_textAtFirst_37 : decode cX10_textAtFirst 37 = .ok (.ldc 76, 2) := by decide +kernel
theorem dX10_textAtFirst_39 : decode cX10_textAtFirst 39 = .ok (.areturn, 1) := by decide +kernel
theorem dX11_as_0 : decode cX11_as 0 = .ok (.iload_n 1, 1) := by decide +kernel
theorem dX11_as_1 : decode cX11_as 1 = .ok (.iconst 0, 1) := by decide +kernel
theorem dX11_as_10 : decode cX11_as 10 = .ok (.iconst (-1), 1) := by decide +kernel
theorem dX11_as_11 : decode cX11_as 11 = .ok (.ireturn, 1) := by decide +kernel
theorem dX11_as_12 : decode cX11_as 12 = .ok (.aload_n 0, 1) := by decide +kernel
theorem dX11_as_13 : decode cX11_as 13 = .ok (.getfield 40, 3) := by decide +kernel
theorem dX11_as_16 : decode cX11_as 16 = .ok (.getfield 245, 3) := by decide +kernel
theorem dX11_as_19 : decode cX11_as 19 = .ok (.istore_n 2, 1) := by decide +kernel
theorem dX11_as_2 : decode cX11_as 2 = .ok (.bipush 99, 2) := by decide +kernel
theorem dX11_as_20 : decode cX11_as 20 = .ok (.aload_n 0, 1) := by decide +kernel
theorem dX11_as_21 : decode cX11_as 21 = .ok (.getfield 40, 3) := by decide +kernel
theorem dX11_as_24 : decode cX11_as 24 = .ok (.iload_n 1, 1) := by decide +kernel
theorem dX11_as_25 : decode cX11_as 25 = .ok (.putfield 245, 3) := by decide +kernel
theorem dX11_as_28 : decode cX11_as 28 = .ok (.iload_n 2, 1) := by decide +kernel
theorem dX11_as_29 : decode cX11_as 29 = .ok (.ireturn, 1) := by decide +kernel
theorem dX11_as_4 : decode cX11_as 4 = .ok (.invokestatic 68, 3) := by decide +kernel
theorem dX11_as_7 : decode cX11_as 7 = .ok (.ifCond .ne 5, 3) := by decide +kernel
theorem dX11_at_0 : decode cX11_at 0 = .ok (.aload_n 0, 1) := by decide +kernel
theorem dX11_at_1 : decode cX11_at 1 = .ok (.getfield 10, 3) := by decide +kernel
theorem dX11_at_11 : decode cX11_at 11 = .ok (.iconst (-1), 1) := by decide +kernel
theorem dX11_at_12 : decode cX11_at 12 = .ok (.ireturn, 1) := by decide +kernel
theorem dX11_at_4 : decode cX11_at 4 = .ok (.iload_n 1, 1) := by decide +kernel
theorem dX11_at_5 : decode cX11_at 5 = .ok (.invokevirtual 201, 3) := by decide +kernel
theorem dX11_at_8 : decode cX11_at 8 = .ok (.ifCond .ne 5, 3) := by decide +kernel
theorem dX11_away_0 : decode cX11_away 0 = .ok (.aload_n 0, 1) := by decide +kernel
theorem dX11_away_1 : decode cX11_away 1 = .ok (.getfield 10, 3) := by decide +kernel
theorem dX11_away_4 : decode cX11_away 4 = .ok (.iload_n 1, 1) := by decide +kernel
theorem dX11_away_44 : decode cX11_away 44 = .ok (.iconst 0, 1) := by decide +kernel
theorem dX11_away_45 : decode cX11_away 45 = .ok (.istore 4, 2) := by decide +kernel
theorem dX11_away_47 : decode cX11_away 47 = .ok (.iload 4, 2) := by decide +kernel
theorem dX11_away_49 : decode cX11_away 49 = .ok (.ifCond .eq 15, 3) := by decide +kernel
theorem dX11_away_5 : decode cX11_away 5 = .ok (.invokevirtual 95, 3) := by decide +kernel
theorem dX11_away_64 : decode cX11_away 64 = .ok (.iconst (-1), 1) := by decide +kernel
theorem dX11_away_65 : decode cX11_away 65 = .ok (.ireturn, 1) := by decide +kernel
theorem dX11_away_8 : decode cX11_away 8 = .ok (.ifCond .eq 36, 3) := by decide +kernel
theorem dX11_canGoOn_0 : decode cX11_canGoOn 0 = .ok (.iload_n 1, 1) := by decide +kernel
theorem dX11_canGoOn_1 : decode cX11_canGoOn 1 = .ok (.iload_n 2, 1) := by decide +kernel
theorem dX11_canGoOn_11 : decode cX11_canGoOn 11 = .ok (.aload_n 0, 1) := by decide +kernel
theorem dX11_canGoOn_12 : decode cX11_canGoOn 12 = .ok (.getfield 28, 3) := by decide +kernel
theorem dX11_canGoOn_15 : decode cX11_canGoOn 15 = .ok (.getfield 99, 3) := by decide +kernel
theorem dX11_canGoOn_18 : decode cX11_canGoOn 18 = .ok (.iload_n 1, 1) := by decide +kernel
theorem dX11_canGoOn_19 : decode cX11_canGoOn 19 = .ok (.iadd, 1) := by decide +kernel
theorem dX11_canGoOn_2 : decode cX11_canGoOn 2 = .ok (.sipush 960, 3) := by decide +kernel
theorem dX11_canGoOn_20 : decode cX11_canGoOn 20 = .ok (.sipush 4800, 3) := by decide +kernel
theorem dX11_canGoOn_23 : decode cX11_canGoOn 23 = .ok (.if_icmp .gt 7, 3) := by decide +kernel
theorem dX11_canGoOn_26 : decode cX11_canGoOn 26 = .ok (.iconst 1, 1) := by decide +kernel
theorem dX11_canGoOn_27 : decode cX11_canGoOn 27 = .ok (.goto 4, 3) := by decide +kernel
theorem dX11_canGoOn_30 : decode cX11_canGoOn 30 = .ok (.iconst 0, 1) := by decide +kernel
theorem dX11_canGoOn_31 : decode cX11_canGoOn 31 = .ok (.ireturn, 1) := by decide +kernel
theorem dX11_canGoOn_5 : decode cX11_canGoOn 5 = .ok (.invokestatic 68, 3) := by decide +kernel
theorem dX11_canGoOn_8 : decode cX11_canGoOn 8 = .ok (.ifCond .eq 22, 3) := by decide +kernel
theorem dX11_claims_0 : decode cX11_claims 0 = .ok (.iload_n 1, 1) := by decide +kernel
theorem dX11_claims_1 : decode cX11_claims 1 = .ok (.iconst 0, 1) := by decide +kernel
theorem dX11_claims_10 : decode cX11_claims 10 = .ok (.iload_n 2, 1) := by decide +kernel
theorem dX11_claims_11 : decode cX11_claims 11 = .ok (.iconst 0, 1) := by decide +kernel
theorem dX11_claims_12 : decode cX11_claims 12 = .ok (.iconst 4, 1) := by decide +kernel
theorem dX11_claims_13 : decode cX11_claims 13 = .ok (.invokestatic 68, 3) := by decide +kernel
theorem dX11_claims_16 : decode cX11_claims 16 = .ok (.ifCond .ne 5, 3) := by decide +kernel
theorem dX11_claims_19 : decode cX11_claims 19 = .ok (.iconst (-1), 1) := by decide +kernel
theorem dX11_claims_2 : decode cX11_claims 2 = .ok (.bipush 7, 2) := by decide +kernel
theorem dX11_claims_20 : decode cX11_claims 20 = .ok (.ireturn, 1) := by decide +kernel
theorem dX11_claims_21 : decode cX11_claims 21 = .ok (.iload_n 2, 1) := by decide +kernel
theorem dX11_claims_22 : decode cX11_claims 22 = .ok (.ifCond .ne 12, 3) := by decide +kernel
theorem dX11_claims_25 : decode cX11_claims 25 = .ok (.aload_n 0, 1) := by decide +kernel
theorem dX11_claims_26 : decode cX11_claims 26 = .ok (.getfield 28, 3) := by decide +kernel
theorem dX11_claims_29 : decode cX11_claims 29 = .ok (.iload_n 1, 1) := by decide +kernel
theorem dX11_claims_30 : decode cX11_claims 30 = .ok (.invokevirtual 300, 3) := by decide +kernel
theorem dX11_claims_33 : decode cX11_claims 33 = .ok (.ireturn, 1) := by decide +kernel
theorem dX11_claims_34 : decode cX11_claims 34 = .ok (.iconst 0, 1) := by decide +kernel
theorem dX11_claims_35 : decode cX11_claims 35 = .ok (.istore_n 3, 1) := by decide +kernel
theorem dX11_claims_36 : decode cX11_claims 36 = .ok (.iconst 0, 1) := by decide +kernel
theorem dX11_claims_37 : decode cX11_claims 37 = .ok (.istore 4, 2) := by decide +kernel
theorem dX11_claims_39 : decode cX11_claims 39 = .ok (.iload 4, 2) := by decide +kernel
theorem dX11_claims_4 : decode cX11_claims 4 = .ok (.invokestatic 68, 3) := by decide +kernel
theorem dX11_claims_41 : decode cX11_claims 41 = .ok (.aload_n 0, 1) := by decide +kernel
theorem dX11_claims_42 : decode cX11_claims 42 = .ok (.getfield 10, 3) := by decide +kernel
theorem dX11_claims_45 : decode cX11_claims 45 = .ok (.getfield 112, 3) := by decide +kernel
theorem dX11_claims_48 : decode cX11_claims 48 = .ok (.if_icmp .ge 39, 3) := by decide +kernel
theorem dX11_claims_7 : decode cX11_claims 7 = .ok (.ifCond .eq 12, 3) := by decide +kernel
theorem dX11_claims_87 : decode cX11_claims 87 = .ok (.iload_n 3, 1) := by decide +kernel
theorem dX11_claims_88 : decode cX11_claims 88 = .ok (.ireturn, 1) := by decide +kernel
theorem dX11_correct_0 : decode cX11_correct 0 = .ok (.aload_n 0, 1) := by decide +kernel
theorem dX11_correct_1 : decode cX11_correct 1 = .ok (.getfield 10, 3) := by decide +kernel
theorem dX11_correct_4 : decode cX11_correct 4 = .ok (.iload_n 1, 1) := by decide +kernel
theorem dX11_correct_5 : decode cX11_correct 5 = .ok (.invokevirtual 201, 3) := by decide +kernel
theorem dX11_correct_67 : decode cX11_correct 67 = .ok (.iconst 0, 1) := by decide +kernel
theorem dX11_correct_68 : decode cX11_correct 68 = .ok (.istore 6, 2) := by decide +kernel
theorem dX11_correct_70 : decode cX11_correct 70 = .ok (.iload 6, 2) := by decide +kernel
theorem dX11_correct_72 : decode cX11_correct 72 = .ok (.ifCond .eq 15, 3) := by decide +kernel
theorem dX11_correct_8 : decode cX11_correct 8 = .ok (.ifCond .eq 59, 3) := by decide +kernel
theorem dX11_correct_87 : decode cX11_correct 87 = .ok (.iconst (-1), 1) := by decide +kernel
theorem dX11_correct_88 : decode cX11_correct 88 = .ok (.ireturn, 1) := by decide +kernel
theorem dX11_count_0 : decode cX11_count 0 = .ok (.iload_n 1, 1) := by decide +kernel
theorem dX11_count_1 : decode cX11_count 1 = .ok (.tableswitch 167 0 12 #[67, 75, 83, 91, 99, 107, 115, 124, 133, 141, 149, 154, 159], 67) := by decide +kernel
theorem dX11_count_100 : decode cX11_count 100 = .ok (.aload_n 0, 1) := by decide +kernel
theorem dX11_count_101 : decode cX11_count 101 = .ok (.getfield 40, 3) := by decide +kernel
theorem dX11_count_104 : decode cX11_count 104 = .ok (.getfield 238, 3) := by decide +kernel
theorem dX11_count_107 : decode cX11_count 107 = .ok (.ireturn, 1) := by decide +kernel
theorem dX11_count_108 : decode cX11_count 108 = .ok (.aload_n 0, 1) := by decide +kernel
theorem dX11_count_109 : decode cX11_count 109 = .ok (.getfield 10, 3) := by decide +kernel
theorem dX11_count_112 : decode cX11_count 112 = .ok (.getfield 102, 3) := by decide +kernel
theorem dX11_count_115 : decode cX11_count 115 = .ok (.ireturn, 1) := by decide +kernel
theorem dX11_count_116 : decode cX11_count 116 = .ok (.aload_n 0, 1) := by decide +kernel
theorem dX11_count_117 : decode cX11_count 117 = .ok (.getfield 28, 3) := by decide +kernel
theorem dX11_count_120 : decode cX11_count 120 = .ok (.iconst 1, 1) := by decide +kernel
theorem dX11_count_121 : decode cX11_count 121 = .ok (.invokevirtual 239, 3) := by decide +kernel
theorem dX11_count_124 : decode cX11_count 124 = .ok (.ireturn, 1) := by decide +kernel
theorem dX11_count_125 : decode cX11_count 125 = .ok (.aload_n 0, 1) := by decide +kernel
theorem dX11_count_126 : decode cX11_count 126 = .ok (.getfield 28, 3) := by decide +kernel
theorem dX11_count_129 : decode cX11_count 129 = .ok (.iconst 3, 1) := by decide +kernel
theorem dX11_count_130 : decode cX11_count 130 = .ok (.invokevirtual 239, 3) := by decide +kernel
theorem dX11_count_133 : decode cX11_count 133 = .ok (.ireturn, 1) := by decide +kernel
theorem dX11_count_134 : decode cX11_count 134 = .ok (.aload_n 0, 1) := by decide +kernel
theorem dX11_count_135 : decode cX11_count 135 = .ok (.getfield 28, 3) := by decide +kernel
theorem dX11_count_138 : decode cX11_count 138 = .ok (.invokevirtual 242, 3) := by decide +kernel
theorem dX11_count_141 : decode cX11_count 141 = .ok (.ireturn, 1) := by decide +kernel
theorem dX11_count_142 : decode cX11_count 142 = .ok (.aload_n 0, 1) := by decide +kernel
theorem dX11_count_143 : decode cX11_count 143 = .ok (.getfield 40, 3) := by decide +kernel
theorem dX11_count_146 : decode cX11_count 146 = .ok (.getfield 245, 3) := by decide +kernel
theorem dX11_count_149 : decode cX11_count 149 = .ok (.ireturn, 1) := by decide +kernel
theorem dX11_count_150 : decode cX11_count 150 = .ok (.aload_n 0, 1) := by decide +kernel
theorem dX11_count_151 : decode cX11_count 151 = .ok (.getfield 65, 3) := by decide +kernel
theorem dX11_count_154 : decode cX11_count 154 = .ok (.ireturn, 1) := by decide +kernel
theorem dX11_count_155 : decode cX11_count 155 = .ok (.aload_n 0, 1) := by decide +kernel
theorem dX11_count_156 : decode cX11_count 156 = .ok (.getfield 57, 3) := by decide +kernel
theorem dX11_count_159 : decode cX11_count 159 = .ok (.ireturn, 1) := by decide +kernel
theorem dX11_count_160 : decode cX11_count 160 = .ok (.aload_n 0, 1) := by decide +kernel
theorem dX11_count_161 : decode cX11_count 161 = .ok (.getfield 10, 3) := by decide +kernel
theorem dX11_count_164 : decode cX11_count 164 = .ok (.getfield 72, 3) := by decide +kernel
theorem dX11_count_167 : decode cX11_count 167 = .ok (.ireturn, 1) := by decide +kernel
theorem dX11_count_168 : decode cX11_count 168 = .ok (.iconst (-1), 1) := by decide +kernel
theorem dX11_count_169 : decode cX11_count 169 = .ok (.ireturn, 1) := by decide +kernel
theorem dX11_count_68 : decode cX11_count 68 = .ok (.aload_n 0, 1) := by decide +kernel
theorem dX11_count_69 : decode cX11_count 69 = .ok (.getfield 28, 3) := by decide +kernel
theorem dX11_count_72 : decode cX11_count 72 = .ok (.getfield 99, 3) := by decide +kernel
theorem dX11_count_75 : decode cX11_count 75 = .ok (.ireturn, 1) := by decide +kernel
theorem dX11_count_76 : decode cX11_count 76 = .ok (.aload_n 0, 1) := by decide +kernel
theorem dX11_count_77 : decode cX11_count 77 = .ok (.getfield 10, 3) := by decide +kernel
theorem dX11_count_80 : decode cX11_count 80 = .ok (.getfield 79, 3) := by decide +kernel
theorem dX11_count_83 : decode cX11_count 83 = .ok (.ireturn, 1) := by decide +kernel
theorem dX11_count_84 : decode cX11_count 84 = .ok (.aload_n 0, 1) := by decide +kernel
theorem dX11_count_85 : decode cX11_count 85 = .ok (.getfield 10, 3) := by decide +kernel
theorem dX11_count_88 : decode cX11_count 88 = .ok (.getfield 112, 3) := by decide +kernel
theorem dX11_count_91 : decode cX11_count 91 = .ok (.ireturn, 1) := by decide +kernel
theorem dX11_count_92 : decode cX11_count 92 = .ok (.aload_n 0, 1) := by decide +kernel
theorem dX11_count_93 : decode cX11_count 93 = .ok (.getfield 19, 3) := by decide +kernel
theorem dX11_count_96 : decode cX11_count 96 = .ok (.getfield 156, 3) := by decide +kernel
theorem dX11_count_99 : decode cX11_count 99 = .ok (.ireturn, 1) := by decide +kernel
theorem dX11_earns_0 : decode cX11_earns 0 = .ok (.aload_n 0, 1) := by decide +kernel
theorem dX11_earns_1 : decode cX11_earns 1 = .ok (.getfield 10, 3) := by decide +kernel
theorem dX11_earns_21 : decode cX11_earns 21 = .ok (.new 171, 3) := by decide +kernel
theorem dX11_earns_24 : decode cX11_earns 24 = .ok (.dup, 1) := by decide +kernel
theorem dX11_earns_25 : decode cX11_earns 25 = .ok (.ldc_w 278, 3) := by decide +kernel
theorem dX11_earns_28 : decode cX11_earns 28 = .ok (.invokespecial 175, 3) := by decide +kernel
theorem dX11_earns_31 : decode cX11_earns 31 = .ok (.athrow, 1) := by decide +kernel
theorem dX11_earns_4 : decode cX11_earns 4 = .ok (.iload_n 1, 1) := by decide +kernel
theorem dX11_earns_5 : decode cX11_earns 5 = .ok (.invokevirtual 95, 3) := by decide +kernel
theorem dX11_earns_8 : decode cX11_earns 8 = .ok (.ifCond .eq 13, 3) := by decide +kernel
theorem dX11_end_0 : decode cX11_end 0 = .ok (.iload_n 1, 1) := by decide +kernel
theorem dX11_end_1 : decode cX11_end 1 = .ok (.ifCond .lt 11, 3) := by decide +kernel
theorem dX11_end_12 : decode cX11_end 12 = .ok (.iconst 0, 1) := by decide +kernel
theorem dX11_end_13 : decode cX11_end 13 = .ok (.ireturn, 1) := by decide +kernel
theorem dX11_end_14 : decode cX11_end 14 = .ok (.aload_n 0, 1) := by decide +kernel
theorem dX11_end_15 : decode cX11_end 15 = .ok (.iload_n 1, 1) := by decide +kernel
theorem dX11_end_16 : decode cX11_end 16 = .ok (.putfield 57, 3) := by decide +kernel
theorem dX11_end_19 : decode cX11_end 19 = .ok (.iconst 1, 1) := by decide +kernel
theorem dX11_end_20 : decode cX11_end 20 = .ok (.ireturn, 1) := by decide +kernel
theorem dX11_end_4 : decode cX11_end 4 = .ok (.iload_n 1, 1) := by decide +kernel
theorem dX11_end_5 : decode cX11_end 5 = .ok (.aload_n 0, 1) := by decide +kernel
theorem dX11_end_6 : decode cX11_end 6 = .ok (.getfield 57, 3) := by decide +kernel
theorem dX11_end_9 : decode cX11_end 9 = .ok (.if_icmp .le 5, 3) := by decide +kernel
theorem dX11_fault_0 : decode cX11_fault 0 = .ok (.aload_n 0, 1) := by decide +kernel
theorem dX11_fault_1 : decode cX11_fault 1 = .ok (.getfield 40, 3) := by decide +kernel
theorem dX11_fault_22 : decode cX11_fault 22 = .ok (.iconst (-1), 1) := by decide +kernel
theorem dX11_fault_23 : decode cX11_fault 23 = .ok (.ireturn, 1) := by decide +kernel
theorem dX11_fault_4 : decode cX11_fault 4 = .ok (.iload_n 1, 1) := by decide +kernel
theorem dX11_fault_5 : decode cX11_fault 5 = .ok (.invokevirtual 257, 3) := by decide +kernel
theorem dX11_fault_8 : decode cX11_fault 8 = .ok (.ifCond .eq 14, 3) := by decide +kernel
theorem dX11_faults_0 : decode cX11_faults 0 = .ok (.aload_n 0, 1) := by decide +kernel
theorem dX11_faults_1 : decode cX11_faults 1 = .ok (.getfield 10, 3) := by decide +kernel
theorem dX11_faults_20 : decode cX11_faults 20 = .ok (.iconst (-1), 1) := by decide +kernel
theorem dX11_faults_21 : decode cX11_faults 21 = .ok (.ireturn, 1) := by decide +kernel
theorem dX11_faults_4 : decode cX11_faults 4 = .ok (.iload_n 1, 1) := by decide +kernel
theorem dX11_faults_5 : decode cX11_faults 5 = .ok (.invokevirtual 95, 3) := by decide +kernel
theorem dX11_faults_8 : decode cX11_faults 8 = .ok (.ifCond .eq 12, 3) := by decide +kernel
theorem dX11_goes_0 : decode cX11_goes 0 = .ok (.aload_n 0, 1) := by decide +kernel
theorem dX11_goes_1 : decode cX11_goes 1 = .ok (.getfield 10, 3) := by decide +kernel
theorem dX11_goes_24 : decode cX11_goes 24 = .ok (.iconst (-1), 1) := by decide +kernel
theorem dX11_goes_25 : decode cX11_goes 25 = .ok (.ireturn, 1) := by decide +kernel
theorem dX11_goes_4 : decode cX11_goes 4 = .ok (.iload_n 1, 1) := by decide +kernel
theorem dX11_goes_5 : decode cX11_goes 5 = .ok (.invokevirtual 201, 3) := by decide +kernel
theorem dX11_goes_8 : decode cX11_goes 8 = .ok (.ifCond .eq 16, 3) := by decide +kernel
theorem dX11_hand_0 : decode cX11_hand 0 = .ok (.iload_n 1, 1) := by decide +kernel
theorem dX11_hand_1 : decode cX11_hand 1 = .ok (.bipush 10, 2) := by decide +kernel
theorem dX11_hand_100 : decode cX11_hand 100 = .ok (.getfield 10, 3) := by decide +kernel
theorem dX11_hand_103 : decode cX11_hand 103 = .ok (.dup, 1) := by decide +kernel
theorem dX11_hand_104 : decode cX11_hand 104 = .ok (.getfield 79, 3) := by decide +kernel
theorem dX11_hand_107 : decode cX11_hand 107 = .ok (.iconst 1, 1) := by decide +kernel
theorem dX11_hand_108 : decode cX11_hand 108 = .ok (.iadd, 1) := by decide +kernel
theorem dX11_hand_109 : decode cX11_hand 109 = .ok (.putfield 79, 3) := by decide +kernel
theorem dX11_hand_112 : decode cX11_hand 112 = .ok (.aload_n 0, 1) := by decide +kernel
theorem dX11_hand_113 : decode cX11_hand 113 = .ok (.getfield 28, 3) := by decide +kernel
theorem dX11_hand_116 : decode cX11_hand 116 = .ok (.iload 6, 2) := by decide +kernel
theorem dX11_hand_118 : decode cX11_hand 118 = .ok (.iload_n 3, 1) := by decide +kernel
theorem dX11_hand_119 : decode cX11_hand 119 = .ok (.invokevirtual 91, 3) := by decide +kernel
theorem dX11_hand_12 : decode cX11_hand 12 = .ok (.iload_n 2, 1) := by decide +kernel
theorem dX11_hand_122 : decode cX11_hand 122 = .ok (.iload 6, 2) := by decide +kernel
theorem dX11_hand_124 : decode cX11_hand 124 = .ok (.ireturn, 1) := by decide +kernel
theorem dX11_hand_13 : decode cX11_hand 13 = .ok (.iconst 0, 1) := by decide +kernel
theorem dX11_hand_14 : decode cX11_hand 14 = .ok (.sipush 255, 3) := by decide +kernel
theorem dX11_hand_17 : decode cX11_hand 17 = .ok (.invokestatic 68, 3) := by decide +kernel
theorem dX11_hand_20 : decode cX11_hand 20 = .ok (.ifCond .eq 27, 3) := by decide +kernel
theorem dX11_hand_23 : decode cX11_hand 23 = .ok (.iload_n 3, 1) := by decide +kernel
theorem dX11_hand_24 : decode cX11_hand 24 = .ok (.iconst 0, 1) := by decide +kernel
theorem dX11_hand_25 : decode cX11_hand 25 = .ok (.ldc 78, 2) := by decide +kernel
theorem dX11_hand_27 : decode cX11_hand 27 = .ok (.invokestatic 68, 3) := by decide +kernel
theorem dX11_hand_3 : decode cX11_hand 3 = .ok (.sipush 200, 3) := by decide +kernel
theorem dX11_hand_30 : decode cX11_hand 30 = .ok (.ifCond .eq 17, 3) := by decide +kernel
theorem dX11_hand_33 : decode cX11_hand 33 = .ok (.iload 4, 2) := by decide +kernel
theorem dX11_hand_35 : decode cX11_hand 35 = .ok (.iconst 0, 1) := by decide +kernel
theorem dX11_hand_36 : decode cX11_hand 36 = .ok (.iconst 3, 1) := by decide +kernel
theorem dX11_hand_37 : decode cX11_hand 37 = .ok (.invokestatic 68, 3) := by decide +kernel
theorem dX11_hand_40 : decode cX11_hand 40 = .ok (.ifCond .eq 7, 3) := by decide +kernel
theorem dX11_hand_43 : decode cX11_hand 43 = .ok (.iconst 1, 1) := by decide +kernel
theorem dX11_hand_44 : decode cX11_hand 44 = .ok (.goto 4, 3) := by decide +kernel
theorem dX11_hand_47 : decode cX11_hand 47 = .ok (.iconst 0, 1) := by decide +kernel
theorem dX11_hand_48 : decode cX11_hand 48 = .ok (.istore 5, 2) := by decide +kernel
theorem dX11_hand_50 : decode cX11_hand 50 = .ok (.iload 5, 2) := by decide +kernel
theorem dX11_hand_52 : decode cX11_hand 52 = .ok (.ifCond .eq 15, 3) := by decide +kernel
theorem dX11_hand_55 : decode cX11_hand 55 = .ok (.aload_n 0, 1) := by decide +kernel
theorem dX11_hand_56 : decode cX11_hand 56 = .ok (.getfield 10, 3) := by decide +kernel
theorem dX11_hand_59 : decode cX11_hand 59 = .ok (.getfield 79, 3) := by decide +kernel
theorem dX11_hand_6 : decode cX11_hand 6 = .ok (.invokestatic 68, 3) := by decide +kernel
theorem dX11_hand_62 : decode cX11_hand 62 = .ok (.bipush 8, 2) := by decide +kernel
theorem dX11_hand_64 : decode cX11_hand 64 = .ok (.if_icmp .lt 5, 3) := by decide +kernel
theorem dX11_hand_67 : decode cX11_hand 67 = .ok (.iconst (-1), 1) := by decide +kernel
theorem dX11_hand_68 : decode cX11_hand 68 = .ok (.ireturn, 1) := by decide +kernel
theorem dX11_hand_69 : decode cX11_hand 69 = .ok (.aload_n 0, 1) := by decide +kernel
theorem dX11_hand_70 : decode cX11_hand 70 = .ok (.getfield 10, 3) := by decide +kernel
theorem dX11_hand_73 : decode cX11_hand 73 = .ok (.getfield 79, 3) := by decide +kernel
theorem dX11_hand_76 : decode cX11_hand 76 = .ok (.istore 6, 2) := by decide +kernel
theorem dX11_hand_78 : decode cX11_hand 78 = .ok (.aload_n 0, 1) := by decide +kernel
theorem dX11_hand_79 : decode cX11_hand 79 = .ok (.getfield 10, 3) := by decide +kernel
theorem dX11_hand_82 : decode cX11_hand 82 = .ok (.getfield 82, 3) := by decide +kernel
theorem dX11_hand_85 : decode cX11_hand 85 = .ok (.iload 6, 2) := by decide +kernel
theorem dX11_hand_87 : decode cX11_hand 87 = .ok (.new 86, 3) := by decide +kernel
theorem dX11_hand_9 : decode cX11_hand 9 = .ok (.ifCond .eq 38, 3) := by decide +kernel
theorem dX11_hand_90 : decode cX11_hand 90 = .ok (.dup, 1) := by decide +kernel
theorem dX11_hand_91 : decode cX11_hand 91 = .ok (.iload_n 1, 1) := by decide +kernel
theorem dX11_hand_92 : decode cX11_hand 92 = .ok (.iload_n 2, 1) := by decide +kernel
theorem dX11_hand_93 : decode cX11_hand 93 = .ok (.iload 4, 2) := by decide +kernel
theorem dX11_hand_95 : decode cX11_hand 95 = .ok (.invokespecial 88, 3) := by decide +kernel
theorem dX11_hand_98 : decode cX11_hand 98 = .ok (.aastore, 1) := by decide +kernel
theorem dX11_hand_99 : decode cX11_hand 99 = .ok (.aload_n 0, 1) := by decide +kernel
theorem dX11_ill_0 : decode cX11_ill 0 = .ok (.aload_n 0, 1) := by decide +kernel
theorem dX11_ill_1 : decode cX11_ill 1 = .ok (.getfield 10, 3) := by decide +kernel
theorem dX11_ill_20 : decode cX11_ill 20 = .ok (.new 171, 3) := by decide +kernel
theorem dX11_ill_23 : decode cX11_ill 23 = .ok (.dup, 1) := by decide +kernel
theorem dX11_ill_24 : decode cX11_ill 24 = .ok (.ldc_w 338, 3) := by decide +kernel
theorem dX11_ill_27 : decode cX11_ill 27 = .ok (.invokespecial 175, 3) := by decide +kernel
theorem dX11_ill_30 : decode cX11_ill 30 = .ok (.athrow, 1) := by decide +kernel
theorem dX11_ill_4 : decode cX11_ill 4 = .ok (.iload_n 1, 1) := by decide +kernel
theorem dX11_ill_5 : decode cX11_ill 5 = .ok (.invokevirtual 95, 3) := by decide +kernel
theorem dX11_ill_8 : decode cX11_ill 8 = .ok (.ifCond .eq 12, 3) := by decide +kernel
theorem dX11_init_0 : decode cX11_init 0 = .ok (.aload_n 0, 1) := by decide +kernel
theorem dX11_init_1 : decode cX11_init 1 = .ok (.invokespecial 1, 3) := by decide +kernel
theorem dX11_init_100 : decode cX11_init 100 = .ok (.invokespecial 46, 3) := by decide +kernel
theorem dX11_init_103 : decode cX11_init 103 = .ok (.putfield 49, 3) := by decide +kernel
theorem dX11_init_106 : decode cX11_init 106 = .ok (.aload_n 0, 1) := by decide +kernel
theorem dX11_init_107 : decode cX11_init 107 = .ok (.bipush 100, 2) := by decide +kernel
theorem dX11_init_109 : decode cX11_init 109 = .ok (.newarray .char, 2) := by decide +kernel
theorem dX11_init_111 : decode cX11_init 111 = .ok (.putfield 53, 3) := by decide +kernel
theorem dX11_init_114 : decode cX11_init 114 = .ok (.aload_n 0, 1) := by decide +kernel
theorem dX11_init_115 : decode cX11_init 115 = .ok (.iconst 0, 1) := by decide +kernel
theorem dX11_init_116 : decode cX11_init 116 = .ok (.putfield 57, 3) := by decide +kernel
theorem dX11_init_119 : decode cX11_init 119 = .ok (.aload_n 0, 1) := by decide +kernel
theorem dX11_init_12 : decode cX11_init 12 = .ok (.putfield 10, 3) := by decide +kernel
theorem dX11_init_120 : decode cX11_init 120 = .ok (.bipush 8, 2) := by decide +kernel
theorem dX11_init_122 : decode cX11_init 122 = .ok (.newarray .int, 2) := by decide +kernel
theorem dX11_init_124 : decode cX11_init 124 = .ok (.putfield 61, 3) := by decide +kernel
theorem dX11_init_127 : decode cX11_init 127 = .ok (.aload_n 0, 1) := by decide +kernel
theorem dX11_init_128 : decode cX11_init 128 = .ok (.iconst 0, 1) := by decide +kernel
theorem dX11_init_129 : decode cX11_init 129 = .ok (.putfield 65, 3) := by decide +kernel
theorem dX11_init_132 : decode cX11_init 132 = .ok (.return_, 1) := by decide +kernel
theorem dX11_init_15 : decode cX11_init 15 = .ok (.aload_n 0, 1) := by decide +kernel
theorem dX11_init_16 : decode cX11_init 16 = .ok (.new 16, 3) := by decide +kernel
theorem dX11_init_19 : decode cX11_init 19 = .ok (.dup, 1) := by decide +kernel
theorem dX11_init_20 : decode cX11_init 20 = .ok (.invokespecial 18, 3) := by decide +kernel
theorem dX11_init_23 : decode cX11_init 23 = .ok (.putfield 19, 3) := by decide +kernel
theorem dX11_init_26 : decode cX11_init 26 = .ok (.aload_n 0, 1) := by decide +kernel
theorem dX11_init_27 : decode cX11_init 27 = .ok (.new 23, 3) := by decide +kernel
theorem dX11_init_30 : decode cX11_init 30 = .ok (.dup, 1) := by decide +kernel
theorem dX11_init_31 : decode cX11_init 31 = .ok (.aload_n 0, 1) := by decide +kernel
theorem dX11_init_32 : decode cX11_init 32 = .ok (.getfield 10, 3) := by decide +kernel
theorem dX11_init_35 : decode cX11_init 35 = .ok (.aload_n 0, 1) := by decide +kernel
theorem dX11_init_36 : decode cX11_init 36 = .ok (.getfield 19, 3) := by decide +kernel
theorem dX11_init_39 : decode cX11_init 39 = .ok (.invokespecial 25, 3) := by decide +kernel
theorem dX11_init_4 : decode cX11_init 4 = .ok (.aload_n 0, 1) := by decide +kernel
theorem dX11_init_42 : decode cX11_init 42 = .ok (.putfield 28, 3) := by decide +kernel
theorem dX11_init_45 : decode cX11_init 45 = .ok (.aload_n 0, 1) := by decide +kernel
theorem dX11_init_46 : decode cX11_init 46 = .ok (.new 23, 3) := by decide +kernel
theorem dX11_init_49 : decode cX11_init 49 = .ok (.dup, 1) := by decide +kernel
theorem dX11_init_5 : decode cX11_init 5 = .ok (.new 7, 3) := by decide +kernel
theorem dX11_init_50 : decode cX11_init 50 = .ok (.aload_n 0, 1) := by decide +kernel
theorem dX11_init_51 : decode cX11_init 51 = .ok (.getfield 10, 3) := by decide +kernel
theorem dX11_init_54 : decode cX11_init 54 = .ok (.aload_n 0, 1) := by decide +kernel
theorem dX11_init_55 : decode cX11_init 55 = .ok (.getfield 19, 3) := by decide +kernel
theorem dX11_init_58 : decode cX11_init 58 = .ok (.invokespecial 25, 3) := by decide +kernel
theorem dX11_init_61 : decode cX11_init 61 = .ok (.putfield 32, 3) := by decide +kernel
theorem dX11_init_64 : decode cX11_init 64 = .ok (.aload_n 0, 1) := by decide +kernel
theorem dX11_init_65 : decode cX11_init 65 = .ok (.new 35, 3) := by decide +kernel
theorem dX11_init_68 : decode cX11_init 68 = .ok (.dup, 1) := by decide +kernel
theorem dX11_init_69 : decode cX11_init 69 = .ok (.aload_n 0, 1) := by decide +kernel
theorem dX11_init_70 : decode cX11_init 70 = .ok (.getfield 10, 3) := by decide +kernel
theorem dX11_init_73 : decode cX11_init 73 = .ok (.aload_n 0, 1) := by decide +kernel
theorem dX11_init_74 : decode cX11_init 74 = .ok (.getfield 19, 3) := by decide +kernel
theorem dX11_init_77 : decode cX11_init 77 = .ok (.aload_n 0, 1) := by decide +kernel
theorem dX11_init_78 : decode cX11_init 78 = .ok (.getfield 28, 3) := by decide +kernel
theorem dX11_init_8 : decode cX11_init 8 = .ok (.dup, 1) := by decide +kernel
theorem dX11_init_81 : decode cX11_init 81 = .ok (.invokespecial 37, 3) := by decide +kernel
theorem dX11_init_84 : decode cX11_init 84 = .ok (.putfield 40, 3) := by decide +kernel
theorem dX11_init_87 : decode cX11_init 87 = .ok (.aload_n 0, 1) := by decide +kernel
theorem dX11_init_88 : decode cX11_init 88 = .ok (.new 44, 3) := by decide +kernel
theorem dX11_init_9 : decode cX11_init 9 = .ok (.invokespecial 9, 3) := by decide +kernel
theorem dX11_init_91 : decode cX11_init 91 = .ok (.dup, 1) := by decide +kernel
theorem dX11_init_92 : decode cX11_init 92 = .ok (.aload_n 0, 1) := by decide +kernel
theorem dX11_init_93 : decode cX11_init 93 = .ok (.getfield 10, 3) := by decide +kernel
theorem dX11_init_96 : decode cX11_init 96 = .ok (.aload_n 0, 1) := by decide +kernel
theorem dX11_init_97 : decode cX11_init 97 = .ok (.getfield 28, 3) := by decide +kernel
theorem dX11_lateness_0 : decode cX11_lateness 0 = .ok (.aload_n 0, 1) := by decide +kernel
theorem dX11_lateness_1 : decode cX11_lateness 1 = .ok (.getfield 49, 3) := by decide +kernel
theorem dX11_lateness_10 : decode cX11_lateness 10 = .ok (.iload_n 3, 1) := by decide +kernel
theorem dX11_lateness_11 : decode cX11_lateness 11 = .ok (.ifCond .ge 7, 3) := by decide +kernel
theorem dX11_lateness_14 : decode cX11_lateness 14 = .ok (.iload_n 3, 1) := by decide +kernel
theorem dX11_lateness_15 : decode cX11_lateness 15 = .ok (.goto 10, 3) := by decide +kernel
theorem dX11_lateness_25 : decode cX11_lateness 25 = .ok (.ireturn, 1) := by decide +kernel
theorem dX11_lateness_4 : decode cX11_lateness 4 = .ok (.iload_n 1, 1) := by decide +kernel
theorem dX11_lateness_5 : decode cX11_lateness 5 = .ok (.iload_n 2, 1) := by decide +kernel
theorem dX11_lateness_6 : decode cX11_lateness 6 = .ok (.invokevirtual 306, 3) := by decide +kernel
theorem dX11_lateness_9 : decode cX11_lateness 9 = .ok (.istore_n 3, 1) := by decide +kernel
theorem dX11_left_0 : decode cX11_left 0 = .ok (.aload_n 0, 1) := by decide +kernel
theorem dX11_left_1 : decode cX11_left 1 = .ok (.getfield 10, 3) := by decide +kernel
theorem dX11_left_11 : decode cX11_left 11 = .ok (.iconst (-1), 1) := by decide +kernel
theorem dX11_left_12 : decode cX11_left 12 = .ok (.ireturn, 1) := by decide +kernel
theorem dX11_left_4 : decode cX11_left 4 = .ok (.iload_n 1, 1) := by decide +kernel
theorem dX11_left_5 : decode cX11_left 5 = .ok (.invokevirtual 201, 3) := by decide +kernel
theorem dX11_left_8 : decode cX11_left 8 = .ok (.ifCond .ne 5, 3) := by decide +kernel
theorem dX11_may_0 : decode cX11_may 0 = .ok (.aload_n 0, 1) := by decide +kernel
theorem dX11_may_1 : decode cX11_may 1 = .ok (.getfield 10, 3) := by decide +kernel
theorem dX11_may_22 : decode cX11_may 22 = .ok (.iconst (-1), 1) := by decide +kernel
theorem dX11_may_23 : decode cX11_may 23 = .ok (.ireturn, 1) := by decide +kernel
theorem dX11_may_4 : decode cX11_may 4 = .ok (.iload_n 1, 1) := by decide +kernel
theorem dX11_may_5 : decode cX11_may 5 = .ok (.invokevirtual 95, 3) := by decide +kernel
theorem dX11_may_8 : decode cX11_may 8 = .ok (.ifCond .eq 14, 3) := by decide +kernel
theorem dX11_of_0 : decode cX11_of 0 = .ok (.aload_n 0, 1) := by decide +kernel
theorem dX11_of_1 : decode cX11_of 1 = .ok (.getfield 10, 3) := by decide +kernel
theorem dX11_of_11 : decode cX11_of 11 = .ok (.new 171, 3) := by decide +kernel
theorem dX11_of_14 : decode cX11_of 14 = .ok (.dup, 1) := by decide +kernel
theorem dX11_of_15 : decode cX11_of 15 = .ok (.ldc 173, 2) := by decide +kernel
theorem dX11_of_17 : decode cX11_of 17 = .ok (.invokespecial 175, 3) := by decide +kernel
theorem dX11_of_20 : decode cX11_of 20 = .ok (.athrow, 1) := by decide +kernel
theorem dX11_of_4 : decode cX11_of 4 = .ok (.iload_n 1, 1) := by decide +kernel
theorem dX11_of_5 : decode cX11_of 5 = .ok (.invokevirtual 95, 3) := by decide +kernel
theorem dX11_of_8 : decode cX11_of 8 = .ok (.ifCond .ne 13, 3) := by decide +kernel
theorem dX11_order_0 : decode cX11_order 0 = .ok (.aload_n 0, 1) := by decide +kernel
theorem dX11_order_1 : decode cX11_order 1 = .ok (.getfield 10, 3) := by decide +kernel
theorem dX11_order_22 : decode cX11_order 22 = .ok (.new 171, 3) := by decide +kernel
theorem dX11_order_25 : decode cX11_order 25 = .ok (.dup, 1) := by decide +kernel
theorem dX11_order_26 : decode cX11_order 26 = .ok (.ldc 229, 2) := by decide +kernel
theorem dX11_order_28 : decode cX11_order 28 = .ok (.invokespecial 175, 3) := by decide +kernel
theorem dX11_order_31 : decode cX11_order 31 = .ok (.athrow, 1) := by decide +kernel
theorem dX11_order_4 : decode cX11_order 4 = .ok (.iload_n 1, 1) := by decide +kernel
theorem dX11_order_5 : decode cX11_order 5 = .ok (.invokevirtual 95, 3) := by decide +kernel
theorem dX11_order_8 : decode cX11_order 8 = .ok (.ifCond .eq 14, 3) := by decide +kernel
theorem dX11_pay_0 : decode cX11_pay 0 = .ok (.aload_n 0, 1) := by decide +kernel
theorem dX11_pay_1 : decode cX11_pay 1 = .ok (.getfield 10, 3) := by decide +kernel
theorem dX11_pay_11 : decode cX11_pay 11 = .ok (.new 171, 3) := by decide +kernel
theorem dX11_pay_14 : decode cX11_pay 14 = .ok (.dup, 1) := by decide +kernel
theorem dX11_pay_15 : decode cX11_pay 15 = .ok (.ldc_w 273, 3) := by decide +kernel
theorem dX11_pay_18 : decode cX11_pay 18 = .ok (.invokespecial 175, 3) := by decide +kernel
theorem dX11_pay_21 : decode cX11_pay 21 = .ok (.athrow, 1) := by decide +kernel
theorem dX11_pay_4 : decode cX11_pay 4 = .ok (.iload_n 1, 1) := by decide +kernel
theorem dX11_pay_5 : decode cX11_pay 5 = .ok (.invokevirtual 201, 3) := by decide +kernel
theorem dX11_pay_8 : decode cX11_pay 8 = .ok (.ifCond .ne 14, 3) := by decide +kernel
theorem dX11_piece_0 : decode cX11_piece 0 = .ok (.iload_n 1, 1) := by decide +kernel
theorem dX11_piece_1 : decode cX11_piece 1 = .ok (.iconst 0, 1) := by decide +kernel
theorem dX11_piece_10 : decode cX11_piece 10 = .ok (.iload_n 2, 1) := by decide +kernel
theorem dX11_piece_102 : decode cX11_piece 102 = .ok (.ifCond .eq 7, 3) := by decide +kernel
theorem dX11_piece_105 : decode cX11_piece 105 = .ok (.iconst 1, 1) := by decide +kernel
theorem dX11_piece_106 : decode cX11_piece 106 = .ok (.goto 4, 3) := by decide +kernel
theorem dX11_piece_109 : decode cX11_piece 109 = .ok (.iconst 0, 1) := by decide +kernel
theorem dX11_piece_11 : decode cX11_piece 11 = .ok (.iconst 0, 1) := by decide +kernel
theorem dX11_piece_110 : decode cX11_piece 110 = .ok (.istore 10, 2) := by decide +kernel
theorem dX11_piece_112 : decode cX11_piece 112 = .ok (.iload 10, 2) := by decide +kernel
theorem dX11_piece_114 : decode cX11_piece 114 = .ok (.ifCond .eq 15, 3) := by decide +kernel
theorem dX11_piece_117 : decode cX11_piece 117 = .ok (.aload_n 0, 1) := by decide +kernel
theorem dX11_piece_118 : decode cX11_piece 118 = .ok (.getfield 10, 3) := by decide +kernel
theorem dX11_piece_12 : decode cX11_piece 12 = .ok (.bipush 7, 2) := by decide +kernel
theorem dX11_piece_121 : decode cX11_piece 121 = .ok (.getfield 112, 3) := by decide +kernel
theorem dX11_piece_124 : decode cX11_piece 124 = .ok (.bipush 30, 2) := by decide +kernel
theorem dX11_piece_126 : decode cX11_piece 126 = .ok (.if_icmp .lt 5, 3) := by decide +kernel
theorem dX11_piece_129 : decode cX11_piece 129 = .ok (.iconst (-1), 1) := by decide +kernel
theorem dX11_piece_130 : decode cX11_piece 130 = .ok (.ireturn, 1) := by decide +kernel
theorem dX11_piece_131 : decode cX11_piece 131 = .ok (.new 115, 3) := by decide +kernel
theorem dX11_piece_134 : decode cX11_piece 134 = .ok (.dup, 1) := by decide +kernel
theorem dX11_piece_135 : decode cX11_piece 135 = .ok (.invokespecial 117, 3) := by decide +kernel
theorem dX11_piece_138 : decode cX11_piece 138 = .ok (.astore 11, 2) := by decide +kernel
theorem dX11_piece_14 : decode cX11_piece 14 = .ok (.invokestatic 68, 3) := by decide +kernel
theorem dX11_piece_140 : decode cX11_piece 140 = .ok (.aload 11, 2) := by decide +kernel
theorem dX11_piece_142 : decode cX11_piece 142 = .ok (.iload_n 1, 1) := by decide +kernel
theorem dX11_piece_143 : decode cX11_piece 143 = .ok (.putfield 118, 3) := by decide +kernel
theorem dX11_piece_146 : decode cX11_piece 146 = .ok (.aload 11, 2) := by decide +kernel
theorem dX11_piece_148 : decode cX11_piece 148 = .ok (.iload_n 2, 1) := by decide +kernel
theorem dX11_piece_149 : decode cX11_piece 149 = .ok (.putfield 121, 3) := by decide +kernel
theorem dX11_piece_152 : decode cX11_piece 152 = .ok (.aload 11, 2) := by decide +kernel
theorem dX11_piece_154 : decode cX11_piece 154 = .ok (.iload_n 3, 1) := by decide +kernel
theorem dX11_piece_155 : decode cX11_piece 155 = .ok (.putfield 124, 3) := by decide +kernel
theorem dX11_piece_158 : decode cX11_piece 158 = .ok (.aload 11, 2) := by decide +kernel
theorem dX11_piece_160 : decode cX11_piece 160 = .ok (.iload 4, 2) := by decide +kernel
theorem dX11_piece_162 : decode cX11_piece 162 = .ok (.putfield 127, 3) := by decide +kernel
theorem dX11_piece_165 : decode cX11_piece 165 = .ok (.aload 11, 2) := by decide +kernel
theorem dX11_piece_167 : decode cX11_piece 167 = .ok (.iload 5, 2) := by decide +kernel
theorem dX11_piece_169 : decode cX11_piece 169 = .ok (.putfield 130, 3) := by decide +kernel
theorem dX11_piece_17 : decode cX11_piece 17 = .ok (.ifCond .eq 92, 3) := by decide +kernel
theorem dX11_piece_172 : decode cX11_piece 172 = .ok (.aload 11, 2) := by decide +kernel
theorem dX11_piece_174 : decode cX11_piece 174 = .ok (.iload 6, 2) := by decide +kernel
theorem dX11_piece_176 : decode cX11_piece 176 = .ok (.putfield 133, 3) := by decide +kernel
theorem dX11_piece_179 : decode cX11_piece 179 = .ok (.aload 11, 2) := by decide +kernel
theorem dX11_piece_181 : decode cX11_piece 181 = .ok (.iload 7, 2) := by decide +kernel
theorem dX11_piece_183 : decode cX11_piece 183 = .ok (.putfield 136, 3) := by decide +kernel
theorem dX11_piece_186 : decode cX11_piece 186 = .ok (.aload 11, 2) := by decide +kernel
theorem dX11_piece_188 : decode cX11_piece 188 = .ok (.iload 8, 2) := by decide +kernel
theorem dX11_piece_190 : decode cX11_piece 190 = .ok (.putfield 139, 3) := by decide +kernel
theorem dX11_piece_193 : decode cX11_piece 193 = .ok (.aload 11, 2) := by decide +kernel
theorem dX11_piece_195 : decode cX11_piece 195 = .ok (.iload 9, 2) := by decide +kernel
theorem dX11_piece_197 : decode cX11_piece 197 = .ok (.putfield 142, 3) := by decide +kernel
theorem dX11_piece_2 : decode cX11_piece 2 = .ok (.bipush 7, 2) := by decide +kernel
theorem dX11_piece_20 : decode cX11_piece 20 = .ok (.iload_n 3, 1) := by decide +kernel
theorem dX11_piece_200 : decode cX11_piece 200 = .ok (.aload_n 0, 1) := by decide +kernel
theorem dX11_piece_201 : decode cX11_piece 201 = .ok (.getfield 10, 3) := by decide +kernel
theorem dX11_piece_204 : decode cX11_piece 204 = .ok (.getfield 112, 3) := by decide +kernel
theorem dX11_piece_207 : decode cX11_piece 207 = .ok (.istore 12, 2) := by decide +kernel
theorem dX11_piece_209 : decode cX11_piece 209 = .ok (.aload_n 0, 1) := by decide +kernel
theorem dX11_piece_21 : decode cX11_piece 21 = .ok (.iconst 1, 1) := by decide +kernel
theorem dX11_piece_210 : decode cX11_piece 210 = .ok (.getfield 10, 3) := by decide +kernel
theorem dX11_piece_213 : decode cX11_piece 213 = .ok (.getfield 145, 3) := by decide +kernel
theorem dX11_piece_216 : decode cX11_piece 216 = .ok (.iload 12, 2) := by decide +kernel
theorem dX11_piece_218 : decode cX11_piece 218 = .ok (.aload 11, 2) := by decide +kernel
theorem dX11_piece_22 : decode cX11_piece 22 = .ok (.sipush 400, 3) := by decide +kernel
theorem dX11_piece_220 : decode cX11_piece 220 = .ok (.aastore, 1) := by decide +kernel
theorem dX11_piece_221 : decode cX11_piece 221 = .ok (.aload_n 0, 1) := by decide +kernel
theorem dX11_piece_222 : decode cX11_piece 222 = .ok (.getfield 10, 3) := by decide +kernel
theorem dX11_piece_225 : decode cX11_piece 225 = .ok (.dup, 1) := by decide +kernel
theorem dX11_piece_226 : decode cX11_piece 226 = .ok (.getfield 112, 3) := by decide +kernel
theorem dX11_piece_229 : decode cX11_piece 229 = .ok (.iconst 1, 1) := by decide +kernel
theorem dX11_piece_230 : decode cX11_piece 230 = .ok (.iadd, 1) := by decide +kernel
theorem dX11_piece_231 : decode cX11_piece 231 = .ok (.putfield 112, 3) := by decide +kernel
theorem dX11_piece_234 : decode cX11_piece 234 = .ok (.aload_n 0, 1) := by decide +kernel
theorem dX11_piece_235 : decode cX11_piece 235 = .ok (.getfield 28, 3) := by decide +kernel
theorem dX11_piece_238 : decode cX11_piece 238 = .ok (.iload 12, 2) := by decide +kernel
theorem dX11_piece_240 : decode cX11_piece 240 = .ok (.aload 11, 2) := by decide +kernel
theorem dX11_piece_242 : decode cX11_piece 242 = .ok (.invokevirtual 149, 3) := by decide +kernel
theorem dX11_piece_245 : decode cX11_piece 245 = .ok (.invokevirtual 153, 3) := by decide +kernel
theorem dX11_piece_248 : decode cX11_piece 248 = .ok (.iload 12, 2) := by decide +kernel
theorem dX11_piece_25 : decode cX11_piece 25 = .ok (.invokestatic 68, 3) := by decide +kernel
theorem dX11_piece_250 : decode cX11_piece 250 = .ok (.ireturn, 1) := by decide +kernel
theorem dX11_piece_28 : decode cX11_piece 28 = .ok (.ifCond .eq 81, 3) := by decide +kernel
theorem dX11_piece_31 : decode cX11_piece 31 = .ok (.iload 4, 2) := by decide +kernel
theorem dX11_piece_33 : decode cX11_piece 33 = .ok (.iconst 0, 1) := by decide +kernel
theorem dX11_piece_34 : decode cX11_piece 34 = .ok (.iconst 3, 1) := by decide +kernel
theorem dX11_piece_35 : decode cX11_piece 35 = .ok (.invokestatic 68, 3) := by decide +kernel
theorem dX11_piece_38 : decode cX11_piece 38 = .ok (.ifCond .eq 71, 3) := by decide +kernel
theorem dX11_piece_4 : decode cX11_piece 4 = .ok (.invokestatic 68, 3) := by decide +kernel
theorem dX11_piece_41 : decode cX11_piece 41 = .ok (.iload 5, 2) := by decide +kernel
theorem dX11_piece_43 : decode cX11_piece 43 = .ok (.iconst 0, 1) := by decide +kernel
theorem dX11_piece_44 : decode cX11_piece 44 = .ok (.bipush 9, 2) := by decide +kernel
theorem dX11_piece_46 : decode cX11_piece 46 = .ok (.invokestatic 68, 3) := by decide +kernel
theorem dX11_piece_49 : decode cX11_piece 49 = .ok (.ifCond .eq 60, 3) := by decide +kernel
theorem dX11_piece_52 : decode cX11_piece 52 = .ok (.iload 6, 2) := by decide +kernel
theorem dX11_piece_54 : decode cX11_piece 54 = .ok (.aload_n 0, 1) := by decide +kernel
theorem dX11_piece_55 : decode cX11_piece 55 = .ok (.getfield 28, 3) := by decide +kernel
theorem dX11_piece_58 : decode cX11_piece 58 = .ok (.getfield 99, 3) := by decide +kernel
theorem dX11_piece_61 : decode cX11_piece 61 = .ok (.sipush 4800, 3) := by decide +kernel
theorem dX11_piece_64 : decode cX11_piece 64 = .ok (.invokestatic 68, 3) := by decide +kernel
theorem dX11_piece_67 : decode cX11_piece 67 = .ok (.ifCond .eq 42, 3) := by decide +kernel
theorem dX11_piece_7 : decode cX11_piece 7 = .ok (.ifCond .eq 102, 3) := by decide +kernel
theorem dX11_piece_70 : decode cX11_piece 70 = .ok (.iload 7, 2) := by decide +kernel
theorem dX11_piece_72 : decode cX11_piece 72 = .ok (.iload 6, 2) := by decide +kernel
theorem dX11_piece_74 : decode cX11_piece 74 = .ok (.sipush 4800, 3) := by decide +kernel
theorem dX11_piece_77 : decode cX11_piece 77 = .ok (.invokestatic 68, 3) := by decide +kernel
theorem dX11_piece_80 : decode cX11_piece 80 = .ok (.ifCond .eq 29, 3) := by decide +kernel
theorem dX11_piece_83 : decode cX11_piece 83 = .ok (.iload 8, 2) := by decide +kernel
theorem dX11_piece_85 : decode cX11_piece 85 = .ok (.iconst 0, 1) := by decide +kernel
theorem dX11_piece_86 : decode cX11_piece 86 = .ok (.ldc 78, 2) := by decide +kernel
theorem dX11_piece_88 : decode cX11_piece 88 = .ok (.invokestatic 68, 3) := by decide +kernel
theorem dX11_piece_91 : decode cX11_piece 91 = .ok (.ifCond .eq 18, 3) := by decide +kernel
theorem dX11_piece_94 : decode cX11_piece 94 = .ok (.iload 9, 2) := by decide +kernel
theorem dX11_piece_96 : decode cX11_piece 96 = .ok (.iconst 0, 1) := by decide +kernel
theorem dX11_piece_97 : decode cX11_piece 97 = .ok (.bipush 6, 2) := by decide +kernel
theorem dX11_piece_99 : decode cX11_piece 99 = .ok (.invokestatic 68, 3) := by decide +kernel
theorem dX11_plan_0 : decode cX11_plan 0 = .ok (.aload_n 0, 1) := by decide +kernel
theorem dX11_plan_1 : decode cX11_plan 1 = .ok (.getfield 49, 3) := by decide +kernel
theorem dX11_plan_10 : decode cX11_plan 10 = .ok (.iload_n 3, 1) := by decide +kernel
theorem dX11_plan_11 : decode cX11_plan 11 = .ok (.ifCond .ge 5, 3) := by decide +kernel
theorem dX11_plan_14 : decode cX11_plan 14 = .ok (.iload_n 3, 1) := by decide +kernel
theorem dX11_plan_15 : decode cX11_plan 15 = .ok (.ireturn, 1) := by decide +kernel
theorem dX11_plan_4 : decode cX11_plan 4 = .ok (.iload_n 1, 1) := by decide +kernel
theorem dX11_plan_5 : decode cX11_plan 5 = .ok (.iload_n 2, 1) := by decide +kernel
theorem dX11_plan_6 : decode cX11_plan 6 = .ok (.invokevirtual 306, 3) := by decide +kernel
theorem dX11_plan_9 : decode cX11_plan 9 = .ok (.istore_n 3, 1) := by decide +kernel
theorem dX11_post_0 : decode cX11_post 0 = .ok (.iload_n 1, 1) := by decide +kernel
theorem dX11_post_1 : decode cX11_post 1 = .ok (.iconst 0, 1) := by decide +kernel
theorem dX11_post_11 : decode cX11_post 11 = .ok (.aload_n 0, 1) := by decide +kernel
theorem dX11_post_12 : decode cX11_post 12 = .ok (.getfield 10, 3) := by decide +kernel
theorem dX11_post_15 : decode cX11_post 15 = .ok (.getfield 72, 3) := by decide +kernel
theorem dX11_post_18 : decode cX11_post 18 = .ok (.iconst 4, 1) := by decide +kernel
theorem dX11_post_19 : decode cX11_post 19 = .ok (.if_icmp .lt 5, 3) := by decide +kernel
theorem dX11_post_2 : decode cX11_post 2 = .ok (.sipush 479, 3) := by decide +kernel
theorem dX11_post_22 : decode cX11_post 22 = .ok (.iconst (-1), 1) := by decide +kernel
theorem dX11_post_23 : decode cX11_post 23 = .ok (.ireturn, 1) := by decide +kernel
theorem dX11_post_24 : decode cX11_post 24 = .ok (.aload_n 0, 1) := by decide +kernel
theorem dX11_post_25 : decode cX11_post 25 = .ok (.getfield 10, 3) := by decide +kernel
theorem dX11_post_28 : decode cX11_post 28 = .ok (.getfield 75, 3) := by decide +kernel
theorem dX11_post_31 : decode cX11_post 31 = .ok (.aload_n 0, 1) := by decide +kernel
theorem dX11_post_32 : decode cX11_post 32 = .ok (.getfield 10, 3) := by decide +kernel
theorem dX11_post_35 : decode cX11_post 35 = .ok (.getfield 72, 3) := by decide +kernel
theorem dX11_post_38 : decode cX11_post 38 = .ok (.iload_n 1, 1) := by decide +kernel
theorem dX11_post_39 : decode cX11_post 39 = .ok (.iastore, 1) := by decide +kernel
theorem dX11_post_40 : decode cX11_post 40 = .ok (.aload_n 0, 1) := by decide +kernel
theorem dX11_post_41 : decode cX11_post 41 = .ok (.getfield 10, 3) := by decide +kernel
theorem dX11_post_44 : decode cX11_post 44 = .ok (.dup, 1) := by decide +kernel
theorem dX11_post_45 : decode cX11_post 45 = .ok (.getfield 72, 3) := by decide +kernel
theorem dX11_post_48 : decode cX11_post 48 = .ok (.iconst 1, 1) := by decide +kernel
theorem dX11_post_49 : decode cX11_post 49 = .ok (.iadd, 1) := by decide +kernel
theorem dX11_post_5 : decode cX11_post 5 = .ok (.invokestatic 68, 3) := by decide +kernel
theorem dX11_post_50 : decode cX11_post 50 = .ok (.putfield 72, 3) := by decide +kernel
theorem dX11_post_53 : decode cX11_post 53 = .ok (.aload_n 0, 1) := by decide +kernel
theorem dX11_post_54 : decode cX11_post 54 = .ok (.getfield 10, 3) := by decide +kernel
theorem dX11_post_57 : decode cX11_post 57 = .ok (.getfield 72, 3) := by decide +kernel
theorem dX11_post_60 : decode cX11_post 60 = .ok (.ireturn, 1) := by decide +kernel
theorem dX11_post_8 : decode cX11_post 8 = .ok (.ifCond .eq 14, 3) := by decide +kernel
theorem dX11_quick_0 : decode cX11_quick 0 = .ok (.aload_n 0, 1) := by decide +kernel
theorem dX11_quick_1 : decode cX11_quick 1 = .ok (.getfield 10, 3) := by decide +kernel
theorem dX11_quick_24 : decode cX11_quick 24 = .ok (.iconst (-1), 1) := by decide +kernel
theorem dX11_quick_25 : decode cX11_quick 25 = .ok (.ireturn, 1) := by decide +kernel
theorem dX11_quick_4 : decode cX11_quick 4 = .ok (.iload_n 1, 1) := by decide +kernel
theorem dX11_quick_5 : decode cX11_quick 5 = .ok (.invokevirtual 95, 3) := by decide +kernel
theorem dX11_quick_8 : decode cX11_quick 8 = .ok (.ifCond .eq 16, 3) := by decide +kernel
theorem dX11_row_0 : decode cX11_row 0 = .ok (.iload_n 1, 1) := by decide +kernel
theorem dX11_row_1 : decode cX11_row 1 = .ok (.ifCond .lt 11, 3) := by decide +kernel
theorem dX11_row_12 : decode cX11_row 12 = .ok (.new 171, 3) := by decide +kernel
theorem dX11_row_15 : decode cX11_row 15 = .ok (.dup, 1) := by decide +kernel
theorem dX11_row_16 : decode cX11_row 16 = .ok (.ldc_w 340, 3) := by decide +kernel
theorem dX11_row_19 : decode cX11_row 19 = .ok (.invokespecial 175, 3) := by decide +kernel
theorem dX11_row_22 : decode cX11_row 22 = .ok (.athrow, 1) := by decide +kernel
theorem dX11_row_4 : decode cX11_row 4 = .ok (.iload_n 1, 1) := by decide +kernel
theorem dX11_row_5 : decode cX11_row 5 = .ok (.aload_n 0, 1) := by decide +kernel
theorem dX11_row_6 : decode cX11_row 6 = .ok (.getfield 65, 3) := by decide +kernel
theorem dX11_row_9 : decode cX11_row 9 = .ok (.if_icmp .lt 14, 3) := by decide +kernel
theorem dX11_rule_0 : decode cX11_rule 0 = .ok (.iload_n 1, 1) := by decide +kernel
theorem dX11_rule_1 : decode cX11_rule 1 = .ok (.iconst 0, 1) := by decide +kernel
theorem dX11_rule_10 : decode cX11_rule 10 = .ok (.iconst 0, 1) := by decide +kernel
theorem dX11_rule_11 : decode cX11_rule 11 = .ok (.bipush 9, 2) := by decide +kernel
theorem dX11_rule_13 : decode cX11_rule 13 = .ok (.invokestatic 68, 3) := by decide +kernel
theorem dX11_rule_16 : decode cX11_rule 16 = .ok (.ifCond .eq 7, 3) := by decide +kernel
theorem dX11_rule_19 : decode cX11_rule 19 = .ok (.iconst 1, 1) := by decide +kernel
theorem dX11_rule_2 : decode cX11_rule 2 = .ok (.iconst 3, 1) := by decide +kernel
theorem dX11_rule_20 : decode cX11_rule 20 = .ok (.goto 4, 3) := by decide +kernel
theorem dX11_rule_23 : decode cX11_rule 23 = .ok (.iconst 0, 1) := by decide +kernel
theorem dX11_rule_24 : decode cX11_rule 24 = .ok (.istore_n 3, 1) := by decide +kernel
theorem dX11_rule_25 : decode cX11_rule 25 = .ok (.iload_n 3, 1) := by decide +kernel
theorem dX11_rule_26 : decode cX11_rule 26 = .ok (.ifCond .eq 15, 3) := by decide +kernel
theorem dX11_rule_29 : decode cX11_rule 29 = .ok (.aload_n 0, 1) := by decide +kernel
theorem dX11_rule_3 : decode cX11_rule 3 = .ok (.invokestatic 68, 3) := by decide +kernel
theorem dX11_rule_30 : decode cX11_rule 30 = .ok (.getfield 19, 3) := by decide +kernel
theorem dX11_rule_33 : decode cX11_rule 33 = .ok (.getfield 156, 3) := by decide +kernel
theorem dX11_rule_36 : decode cX11_rule 36 = .ok (.bipush 20, 2) := by decide +kernel
theorem dX11_rule_38 : decode cX11_rule 38 = .ok (.if_icmp .lt 6, 3) := by decide +kernel
theorem dX11_rule_41 : decode cX11_rule 41 = .ok (.bipush (-100), 2) := by decide +kernel
theorem dX11_rule_43 : decode cX11_rule 43 = .ok (.ireturn, 1) := by decide +kernel
theorem dX11_rule_44 : decode cX11_rule 44 = .ok (.aload_n 0, 1) := by decide +kernel
theorem dX11_rule_45 : decode cX11_rule 45 = .ok (.getfield 57, 3) := by decide +kernel
theorem dX11_rule_48 : decode cX11_rule 48 = .ok (.istore 4, 2) := by decide +kernel
theorem dX11_rule_50 : decode cX11_rule 50 = .ok (.aload_n 0, 1) := by decide +kernel
theorem dX11_rule_51 : decode cX11_rule 51 = .ok (.iconst 0, 1) := by decide +kernel
theorem dX11_rule_52 : decode cX11_rule 52 = .ok (.putfield 57, 3) := by decide +kernel
theorem dX11_rule_55 : decode cX11_rule 55 = .ok (.aload_n 0, 1) := by decide +kernel
theorem dX11_rule_56 : decode cX11_rule 56 = .ok (.getfield 19, 3) := by decide +kernel
theorem dX11_rule_59 : decode cX11_rule 59 = .ok (.iload_n 1, 1) := by decide +kernel
theorem dX11_rule_6 : decode cX11_rule 6 = .ok (.ifCond .eq 17, 3) := by decide +kernel
theorem dX11_rule_60 : decode cX11_rule 60 = .ok (.iload_n 2, 1) := by decide +kernel
theorem dX11_rule_61 : decode cX11_rule 61 = .ok (.aload_n 0, 1) := by decide +kernel
theorem dX11_rule_62 : decode cX11_rule 62 = .ok (.getfield 53, 3) := by decide +kernel
theorem dX11_rule_65 : decode cX11_rule 65 = .ok (.iload 4, 2) := by decide +kernel
theorem dX11_rule_67 : decode cX11_rule 67 = .ok (.invokevirtual 159, 3) := by decide +kernel
theorem dX11_rule_70 : decode cX11_rule 70 = .ok (.ireturn, 1) := by decide +kernel
theorem dX11_rule_9 : decode cX11_rule 9 = .ok (.iload_n 2, 1) := by decide +kernel
theorem dX11_sign_0 : decode cX11_sign 0 = .ok (.aload_n 0, 1) := by decide +kernel
theorem dX11_sign_1 : decode cX11_sign 1 = .ok (.getfield 57, 3) := by decide +kernel
theorem dX11_sign_13 : decode cX11_sign 13 = .ok (.bipush 24, 2) := by decide +kernel
theorem dX11_sign_15 : decode cX11_sign 15 = .ok (.istore_n 2, 1) := by decide +kernel
theorem dX11_sign_16 : decode cX11_sign 16 = .ok (.iload_n 2, 1) := by decide +kernel
theorem dX11_sign_17 : decode cX11_sign 17 = .ok (.ifCond .lt 36, 3) := by decide +kernel
theorem dX11_sign_20 : decode cX11_sign 20 = .ok (.aload_n 0, 1) := by decide +kernel
theorem dX11_sign_21 : decode cX11_sign 21 = .ok (.getfield 53, 3) := by decide +kernel
theorem dX11_sign_24 : decode cX11_sign 24 = .ok (.aload_n 0, 1) := by decide +kernel
theorem dX11_sign_25 : decode cX11_sign 25 = .ok (.getfield 57, 3) := by decide +kernel
theorem dX11_sign_28 : decode cX11_sign 28 = .ok (.iload_n 1, 1) := by decide +kernel
theorem dX11_sign_29 : decode cX11_sign 29 = .ok (.iload_n 2, 1) := by decide +kernel
theorem dX11_sign_30 : decode cX11_sign 30 = .ok (.iushr, 1) := by decide +kernel
theorem dX11_sign_31 : decode cX11_sign 31 = .ok (.sipush 255, 3) := by decide +kernel
theorem dX11_sign_34 : decode cX11_sign 34 = .ok (.iand, 1) := by decide +kernel
theorem dX11_sign_35 : decode cX11_sign 35 = .ok (.i2c, 1) := by decide +kernel
theorem dX11_sign_36 : decode cX11_sign 36 = .ok (.castore, 1) := by decide +kernel
theorem dX11_sign_37 : decode cX11_sign 37 = .ok (.aload_n 0, 1) := by decide +kernel
theorem dX11_sign_38 : decode cX11_sign 38 = .ok (.dup, 1) := by decide +kernel
theorem dX11_sign_39 : decode cX11_sign 39 = .ok (.getfield 57, 3) := by decide +kernel
theorem dX11_sign_4 : decode cX11_sign 4 = .ok (.iconst 4, 1) := by decide +kernel
theorem dX11_sign_42 : decode cX11_sign 42 = .ok (.iconst 1, 1) := by decide +kernel
theorem dX11_sign_43 : decode cX11_sign 43 = .ok (.iadd, 1) := by decide +kernel
theorem dX11_sign_44 : decode cX11_sign 44 = .ok (.putfield 57, 3) := by decide +kernel
theorem dX11_sign_47 : decode cX11_sign 47 = .ok (.iinc 2 (-8), 3) := by decide +kernel
theorem dX11_sign_5 : decode cX11_sign 5 = .ok (.iadd, 1) := by decide +kernel
theorem dX11_sign_50 : decode cX11_sign 50 = .ok (.goto (-34), 3) := by decide +kernel
theorem dX11_sign_53 : decode cX11_sign 53 = .ok (.aload_n 0, 1) := by decide +kernel
theorem dX11_sign_54 : decode cX11_sign 54 = .ok (.getfield 57, 3) := by decide +kernel
theorem dX11_sign_57 : decode cX11_sign 57 = .ok (.ireturn, 1) := by decide +kernel
theorem dX11_sign_6 : decode cX11_sign 6 = .ok (.bipush 100, 2) := by decide +kernel
theorem dX11_sign_8 : decode cX11_sign 8 = .ok (.if_icmp .le 5, 3) := by decide +kernel
theorem dX11_slips_0 : decode cX11_slips 0 = .ok (.aload_n 0, 1) := by decide +kernel
theorem dX11_slips_1 : decode cX11_slips 1 = .ok (.getfield 10, 3) := by decide +kernel
theorem dX11_slips_30 : decode cX11_slips 30 = .ok (.iconst 0, 1) := by decide +kernel
theorem dX11_slips_31 : decode cX11_slips 31 = .ok (.ireturn, 1) := by decide +kernel
theorem dX11_slips_4 : decode cX11_slips 4 = .ok (.iload_n 1, 1) := by decide +kernel
theorem dX11_slips_5 : decode cX11_slips 5 = .ok (.invokevirtual 201, 3) := by decide +kernel
theorem dX11_slips_8 : decode cX11_slips 8 = .ok (.ifCond .eq 22, 3) := by decide +kernel
theorem dX11_step_0 : decode cX11_step 0 = .ok (.aload_n 0, 1) := by decide +kernel
theorem dX11_step_1 : decode cX11_step 1 = .ok (.iload_n 1, 1) := by decide +kernel
theorem dX11_step_10 : decode cX11_step 10 = .ok (.ireturn, 1) := by decide +kernel
theorem dX11_step_11 : decode cX11_step 11 = .ok (.aload_n 0, 1) := by decide +kernel
theorem dX11_step_12 : decode cX11_step 12 = .ok (.getfield 28, 3) := by decide +kernel
theorem dX11_step_15 : decode cX11_step 15 = .ok (.iload_n 1, 1) := by decide +kernel
theorem dX11_step_16 : decode cX11_step 16 = .ok (.aconst_null, 1) := by decide +kernel
theorem dX11_step_17 : decode cX11_step 17 = .ok (.iconst (-1), 1) := by decide +kernel
theorem dX11_step_18 : decode cX11_step 18 = .ok (.invokevirtual 167, 3) := by decide +kernel
theorem dX11_step_2 : decode cX11_step 2 = .ok (.iconst 0, 1) := by decide +kernel
theorem dX11_step_21 : decode cX11_step 21 = .ok (.aload_n 0, 1) := by decide +kernel
theorem dX11_step_22 : decode cX11_step 22 = .ok (.getfield 28, 3) := by decide +kernel
theorem dX11_step_25 : decode cX11_step 25 = .ok (.getfield 99, 3) := by decide +kernel
theorem dX11_step_28 : decode cX11_step 28 = .ok (.ireturn, 1) := by decide +kernel
theorem dX11_step_3 : decode cX11_step 3 = .ok (.invokevirtual 163, 3) := by decide +kernel
theorem dX11_step_6 : decode cX11_step 6 = .ok (.ifCond .ne 5, 3) := by decide +kernel
theorem dX11_step_9 : decode cX11_step 9 = .ok (.iconst (-1), 1) := by decide +kernel
theorem dX11_tried_0 : decode cX11_tried 0 = .ok (.iload_n 1, 1) := by decide +kernel
theorem dX11_tried_1 : decode cX11_tried 1 = .ok (.iconst (-1), 1) := by decide +kernel
theorem dX11_tried_10 : decode cX11_tried 10 = .ok (.invokevirtual 327, 3) := by decide +kernel
theorem dX11_tried_100 : decode cX11_tried 100 = .ok (.iastore, 1) := by decide +kernel
theorem dX11_tried_101 : decode cX11_tried 101 = .ok (.iinc 4 1, 3) := by decide +kernel
theorem dX11_tried_104 : decode cX11_tried 104 = .ok (.goto (-26), 3) := by decide +kernel
theorem dX11_tried_107 : decode cX11_tried 107 = .ok (.aload_n 0, 1) := by decide +kernel
theorem dX11_tried_108 : decode cX11_tried 108 = .ok (.bipush 8, 2) := by decide +kernel
theorem dX11_tried_110 : decode cX11_tried 110 = .ok (.putfield 65, 3) := by decide +kernel
theorem dX11_tried_113 : decode cX11_tried 113 = .ok (.aload_n 0, 1) := by decide +kernel
theorem dX11_tried_114 : decode cX11_tried 114 = .ok (.getfield 32, 3) := by decide +kernel
theorem dX11_tried_117 : decode cX11_tried 117 = .ok (.invokevirtual 242, 3) := by decide +kernel
theorem dX11_tried_120 : decode cX11_tried 120 = .ok (.ireturn, 1) := by decide +kernel
theorem dX11_tried_13 : decode cX11_tried 13 = .ok (.ifCond .eq 7, 3) := by decide +kernel
theorem dX11_tried_16 : decode cX11_tried 16 = .ok (.iconst 1, 1) := by decide +kernel
theorem dX11_tried_17 : decode cX11_tried 17 = .ok (.goto 4, 3) := by decide +kernel
theorem dX11_tried_2 : decode cX11_tried 2 = .ok (.if_icmp .eq 14, 3) := by decide +kernel
theorem dX11_tried_20 : decode cX11_tried 20 = .ok (.iconst 0, 1) := by decide +kernel
theorem dX11_tried_21 : decode cX11_tried 21 = .ok (.istore_n 3, 1) := by decide +kernel
theorem dX11_tried_22 : decode cX11_tried 22 = .ok (.iload_n 3, 1) := by decide +kernel
theorem dX11_tried_23 : decode cX11_tried 23 = .ok (.ifCond .eq 12, 3) := by decide +kernel
theorem dX11_tried_26 : decode cX11_tried 26 = .ok (.aload_n 0, 1) := by decide +kernel
theorem dX11_tried_27 : decode cX11_tried 27 = .ok (.iload_n 2, 1) := by decide +kernel
theorem dX11_tried_28 : decode cX11_tried 28 = .ok (.iconst 0, 1) := by decide +kernel
theorem dX11_tried_29 : decode cX11_tried 29 = .ok (.invokevirtual 163, 3) := by decide +kernel
theorem dX11_tried_32 : decode cX11_tried 32 = .ok (.ifCond .ne 5, 3) := by decide +kernel
theorem dX11_tried_35 : decode cX11_tried 35 = .ok (.iconst (-1), 1) := by decide +kernel
theorem dX11_tried_36 : decode cX11_tried 36 = .ok (.ireturn, 1) := by decide +kernel
theorem dX11_tried_37 : decode cX11_tried 37 = .ok (.aload_n 0, 1) := by decide +kernel
theorem dX11_tried_38 : decode cX11_tried 38 = .ok (.getfield 32, 3) := by decide +kernel
theorem dX11_tried_41 : decode cX11_tried 41 = .ok (.aload_n 0, 1) := by decide +kernel
theorem dX11_tried_42 : decode cX11_tried 42 = .ok (.getfield 28, 3) := by decide +kernel
theorem dX11_tried_45 : decode cX11_tried 45 = .ok (.invokevirtual 330, 3) := by decide +kernel
theorem dX11_tried_48 : decode cX11_tried 48 = .ok (.aload_n 0, 1) := by decide +kernel
theorem dX11_tried_49 : decode cX11_tried 49 = .ok (.getfield 32, 3) := by decide +kernel
theorem dX11_tried_5 : decode cX11_tried 5 = .ok (.aload_n 0, 1) := by decide +kernel
theorem dX11_tried_52 : decode cX11_tried 52 = .ok (.iload_n 2, 1) := by decide +kernel
theorem dX11_tried_53 : decode cX11_tried 53 = .ok (.iload_n 1, 1) := by decide +kernel
theorem dX11_tried_54 : decode cX11_tried 54 = .ok (.iconst (-1), 1) := by decide +kernel
theorem dX11_tried_55 : decode cX11_tried 55 = .ok (.if_icmp .ne 7, 3) := by decide +kernel
theorem dX11_tried_58 : decode cX11_tried 58 = .ok (.aconst_null, 1) := by decide +kernel
theorem dX11_tried_59 : decode cX11_tried 59 = .ok (.goto 12, 3) := by decide +kernel
theorem dX11_tried_6 : decode cX11_tried 6 = .ok (.getfield 19, 3) := by decide +kernel
theorem dX11_tried_71 : decode cX11_tried 71 = .ok (.iconst (-1), 1) := by decide +kernel
theorem dX11_tried_72 : decode cX11_tried 72 = .ok (.invokevirtual 167, 3) := by decide +kernel
theorem dX11_tried_75 : decode cX11_tried 75 = .ok (.iconst 0, 1) := by decide +kernel
theorem dX11_tried_76 : decode cX11_tried 76 = .ok (.istore 4, 2) := by decide +kernel
theorem dX11_tried_78 : decode cX11_tried 78 = .ok (.iload 4, 2) := by decide +kernel
theorem dX11_tried_80 : decode cX11_tried 80 = .ok (.bipush 8, 2) := by decide +kernel
theorem dX11_tried_82 : decode cX11_tried 82 = .ok (.if_icmp .ge 25, 3) := by decide +kernel
theorem dX11_tried_85 : decode cX11_tried 85 = .ok (.aload_n 0, 1) := by decide +kernel
theorem dX11_tried_86 : decode cX11_tried 86 = .ok (.getfield 61, 3) := by decide +kernel
theorem dX11_tried_89 : decode cX11_tried 89 = .ok (.iload 4, 2) := by decide +kernel
theorem dX11_tried_9 : decode cX11_tried 9 = .ok (.iload_n 1, 1) := by decide +kernel
theorem dX11_tried_91 : decode cX11_tried 91 = .ok (.aload_n 0, 1) := by decide +kernel
theorem dX11_tried_92 : decode cX11_tried 92 = .ok (.getfield 32, 3) := by decide +kernel
theorem dX11_tried_95 : decode cX11_tried 95 = .ok (.iload 4, 2) := by decide +kernel
theorem dX11_tried_97 : decode cX11_tried 97 = .ok (.invokevirtual 300, 3) := by decide +kernel
theorem dX11_undo_0 : decode cX11_undo 0 = .ok (.aload_n 0, 1) := by decide +kernel
theorem dX11_undo_1 : decode cX11_undo 1 = .ok (.getfield 40, 3) := by decide +kernel
theorem dX11_undo_21 : decode cX11_undo 21 = .ok (.iconst 0, 1) := by decide +kernel
theorem dX11_undo_22 : decode cX11_undo 22 = .ok (.ireturn, 1) := by decide +kernel
theorem dX11_undo_4 : decode cX11_undo 4 = .ok (.iload_n 1, 1) := by decide +kernel
theorem dX11_undo_5 : decode cX11_undo 5 = .ok (.invokevirtual 257, 3) := by decide +kernel
theorem dX11_undo_8 : decode cX11_undo 8 = .ok (.ifCond .eq 13, 3) := by decide +kernel
theorem dX11_within_0 : decode cX11_within 0 = .ok (.iload_n 0, 1) := by decide +kernel
theorem dX11_within_1 : decode cX11_within 1 = .ok (.iload_n 1, 1) := by decide +kernel
theorem dX11_within_10 : decode cX11_within 10 = .ok (.iconst 1, 1) := by decide +kernel
theorem dX11_within_11 : decode cX11_within 11 = .ok (.goto 4, 3) := by decide +kernel
theorem dX11_within_14 : decode cX11_within 14 = .ok (.iconst 0, 1) := by decide +kernel
theorem dX11_within_15 : decode cX11_within 15 = .ok (.ireturn, 1) := by decide +kernel
theorem dX11_within_2 : decode cX11_within 2 = .ok (.if_icmp .lt 12, 3) := by decide +kernel
theorem dX11_within_5 : decode cX11_within 5 = .ok (.iload_n 0, 1) := by decide +kernel
theorem dX11_within_6 : decode cX11_within 6 = .ok (.iload_n 2, 1) := by decide +kernel
theorem dX11_within_7 : decode cX11_within 7 = .ok (.if_icmp .gt 7, 3) := by decide +kernel
theorem dX1_awayMask_0 : decode cX1_awayMask 0 = .ok (.iconst 0, 1) := by decide +kernel
theorem dX1_awayMask_1 : decode cX1_awayMask 1 = .ok (.istore_n 2, 1) := by decide +kernel
theorem dX1_awayMask_2 : decode cX1_awayMask 2 = .ok (.iconst 0, 1) := by decide +kernel
theorem dX1_awayMask_3 : decode cX1_awayMask 3 = .ok (.istore_n 3, 1) := by decide +kernel
theorem dX1_awayMask_4 : decode cX1_awayMask 4 = .ok (.iload_n 3, 1) := by decide +kernel
theorem dX1_awayMask_5 : decode cX1_awayMask 5 = .ok (.aload_n 0, 1) := by decide +kernel
theorem dX1_awayMask_54 : decode cX1_awayMask 54 = .ok (.iload_n 2, 1) := by decide +kernel
theorem dX1_awayMask_55 : decode cX1_awayMask 55 = .ok (.ireturn, 1) := by decide +kernel
theorem dX1_awayMask_6 : decode cX1_awayMask 6 = .ok (.getfield 43, 3) := by decide +kernel
theorem dX1_awayMask_9 : decode cX1_awayMask 9 = .ok (.if_icmp .ge 45, 3) := by decide +kernel
theorem dX1_changeBehind_0 : decode cX1_changeBehind 0 = .ok (.iload_n 2, 1) := by decide +kernel
theorem dX1_changeBehind_1 : decode cX1_changeBehind 1 = .ok (.istore_n 3, 1) := by decide +kernel
theorem dX1_changeBehind_11 : decode cX1_changeBehind 11 = .ok (.if_icmp .ge 25, 3) := by decide +kernel
theorem dX1_changeBehind_2 : decode cX1_changeBehind 2 = .ok (.iconst 0, 1) := by decide +kernel
theorem dX1_changeBehind_3 : decode cX1_changeBehind 3 = .ok (.istore 4, 2) := by decide +kernel
theorem dX1_changeBehind_36 : decode cX1_changeBehind 36 = .ok (.iconst 0, 1) := by decide +kernel
theorem dX1_changeBehind_37 : decode cX1_changeBehind 37 = .ok (.istore 4, 2) := by decide +kernel
theorem dX1_changeBehind_39 : decode cX1_changeBehind 39 = .ok (.iload 4, 2) := by decide +kernel
theorem dX1_changeBehind_41 : decode cX1_changeBehind 41 = .ok (.aload_n 0, 1) := by decide +kernel
theorem dX1_changeBehind_42 : decode cX1_changeBehind 42 = .ok (.getfield 43, 3) := by decide +kernel
theorem dX1_changeBehind_45 : decode cX1_changeBehind 45 = .ok (.if_icmp .ge 41, 3) := by decide +kernel
theorem dX1_changeBehind_5 : decode cX1_changeBehind 5 = .ok (.iload 4, 2) := by decide +kernel
theorem dX1_changeBehind_7 : decode cX1_changeBehind 7 = .ok (.aload_n 0, 1) := by decide +kernel
theorem dX1_changeBehind_8 : decode cX1_changeBehind 8 = .ok (.getfield 34, 3) := by decide +kernel
theorem dX1_changeBehind_86 : decode cX1_changeBehind 86 = .ok (.iload_n 3, 1) := by decide +kernel
theorem dX1_changeBehind_87 : decode cX1_changeBehind 87 = .ok (.ireturn, 1) := by decide +kernel
theorem dX1_hasHand_0 : decode cX1_hasHand 0 = .ok (.iload_n 1, 1) := by decide +kernel
theorem dX1_hasHand_1 : decode cX1_hasHand 1 = .ok (.ifCond .lt 15, 3) := by decide +kernel
theorem dX1_hasHand_16 : decode cX1_hasHand 16 = .ok (.iconst 0, 1) := by decide +kernel
theorem dX1_hasHand_17 : decode cX1_hasHand 17 = .ok (.ireturn, 1) := by decide +kernel
theorem dX1_hasHand_4 : decode cX1_hasHand 4 = .ok (.iload_n 1, 1) := by decide +kernel
theorem dX1_hasHand_5 : decode cX1_hasHand 5 = .ok (.aload_n 0, 1) := by decide +kernel
theorem dX1_hasHand_6 : decode cX1_hasHand 6 = .ok (.getfield 25, 3) := by decide +kernel
theorem dX1_hasHand_9 : decode cX1_hasHand 9 = .ok (.if_icmp .ge 7, 3) := by decide +kernel
theorem dX1_hasPiece_0 : decode cX1_hasPiece 0 = .ok (.iload_n 1, 1) := by decide +kernel
theorem dX1_hasPiece_1 : decode cX1_hasPiece 1 = .ok (.ifCond .lt 15, 3) := by decide +kernel
theorem dX1_hasPiece_16 : decode cX1_hasPiece 16 = .ok (.iconst 0, 1) := by decide +kernel
theorem dX1_hasPiece_17 : decode cX1_hasPiece 17 = .ok (.ireturn, 1) := by decide +kernel
theorem dX1_hasPiece_4 : decode cX1_hasPiece 4 = .ok (.iload_n 1, 1) := by decide +kernel
theorem dX1_hasPiece_5 : decode cX1_hasPiece 5 = .ok (.aload_n 0, 1) := by decide +kernel
theorem dX1_hasPiece_6 : decode cX1_hasPiece 6 = .ok (.getfield 34, 3) := by decide +kernel
theorem dX1_hasPiece_9 : decode cX1_hasPiece 9 = .ok (.if_icmp .ge 7, 3) := by decide +kernel
theorem dX1_init_0 : decode cX1_init 0 = .ok (.aload_n 0, 1) := by decide +kernel
theorem dX1_init_1 : decode cX1_init 1 = .ok (.invokespecial 3, 3) := by decide +kernel
theorem dX1_init_11 : decode cX1_init 11 = .ok (.aload_n 0, 1) := by decide +kernel
theorem dX1_init_12 : decode cX1_init 12 = .ok (.iconst 0, 1) := by decide +kernel
theorem dX1_init_13 : decode cX1_init 13 = .ok (.putfield 15, 3) := by decide +kernel
theorem dX1_init_16 : decode cX1_init 16 = .ok (.aload_n 0, 1) := by decide +kernel
theorem dX1_init_17 : decode cX1_init 17 = .ok (.bipush 8, 2) := by decide +kernel
theorem dX1_init_19 : decode cX1_init 19 = .ok (.anewarray 19, 3) := by decide +kernel
theorem dX1_init_22 : decode cX1_init 22 = .ok (.putfield 21, 3) := by decide +kernel
theorem dX1_init_25 : decode cX1_init 25 = .ok (.aload_n 0, 1) := by decide +kernel
theorem dX1_init_26 : decode cX1_init 26 = .ok (.iconst 0, 1) := by decide +kernel
theorem dX1_init_27 : decode cX1_init 27 = .ok (.putfield 25, 3) := by decide +kernel
theorem dX1_init_30 : decode cX1_init 30 = .ok (.aload_n 0, 1) := by decide +kernel
theorem dX1_init_31 : decode cX1_init 31 = .ok (.bipush 30, 2) := by decide +kernel
theorem dX1_init_33 : decode cX1_init 33 = .ok (.anewarray 28, 3) := by decide +kernel
theorem dX1_init_36 : decode cX1_init 36 = .ok (.putfield 30, 3) := by decide +kernel
theorem dX1_init_39 : decode cX1_init 39 = .ok (.aload_n 0, 1) := by decide +kernel
theorem dX1_init_4 : decode cX1_init 4 = .ok (.aload_n 0, 1) := by decide +kernel
theorem dX1_init_40 : decode cX1_init 40 = .ok (.iconst 0, 1) := by decide +kernel
theorem dX1_init_41 : decode cX1_init 41 = .ok (.putfield 34, 3) := by decide +kernel
theorem dX1_init_44 : decode cX1_init 44 = .ok (.aload_n 0, 1) := by decide +kernel
theorem dX1_init_45 : decode cX1_init 45 = .ok (.bipush 30, 2) := by decide +kernel
theorem dX1_init_47 : decode cX1_init 47 = .ok (.anewarray 37, 3) := by decide +kernel
theorem dX1_init_5 : decode cX1_init 5 = .ok (.iconst 4, 1) := by decide +kernel
theorem dX1_init_50 : decode cX1_init 50 = .ok (.putfield 39, 3) := by decide +kernel
theorem dX1_init_53 : decode cX1_init 53 = .ok (.aload_n 0, 1) := by decide +kernel
theorem dX1_init_54 : decode cX1_init 54 = .ok (.iconst 0, 1) := by decide +kernel
theorem dX1_init_55 : decode cX1_init 55 = .ok (.putfield 43, 3) := by decide +kernel
theorem dX1_init_58 : decode cX1_init 58 = .ok (.return_, 1) := by decide +kernel
theorem dX1_init_6 : decode cX1_init 6 = .ok (.newarray .int, 2) := by decide +kernel
theorem dX1_init_8 : decode cX1_init 8 = .ok (.putfield 9, 3) := by decide +kernel
theorem dX3_changeFrom_0 : decode cX3_changeFrom 0 = .ok (.aload_n 0, 1) := by decide +kernel
theorem dX3_changeFrom_1 : decode cX3_changeFrom 1 = .ok (.getfield 9, 3) := by decide +kernel
theorem dX3_changeFrom_101 : decode cX3_changeFrom 101 = .ok (.iload 4, 2) := by decide +kernel
theorem dX3_changeFrom_103 : decode cX3_changeFrom 103 = .ok (.ireturn, 1) := by decide +kernel
theorem dX3_changeFrom_11 : decode cX3_changeFrom 11 = .ok (.irem, 1) := by decide +kernel
theorem dX3_changeFrom_12 : decode cX3_changeFrom 12 = .ok (.isub, 1) := by decide +kernel
theorem dX3_changeFrom_13 : decode cX3_changeFrom 13 = .ok (.sipush 480, 3) := by decide +kernel
theorem dX3_changeFrom_16 : decode cX3_changeFrom 16 = .ok (.iadd, 1) := by decide +kernel
theorem dX3_changeFrom_17 : decode cX3_changeFrom 17 = .ok (.istore_n 3, 1) := by decide +kernel
theorem dX3_changeFrom_18 : decode cX3_changeFrom 18 = .ok (.aload_n 0, 1) := by decide +kernel
theorem dX3_changeFrom_19 : decode cX3_changeFrom 19 = .ok (.getfield 43, 3) := by decide +kernel
theorem dX3_changeFrom_22 : decode cX3_changeFrom 22 = .ok (.aload_n 0, 1) := by decide +kernel
theorem dX3_changeFrom_23 : decode cX3_changeFrom 23 = .ok (.getfield 9, 3) := by decide +kernel
theorem dX3_changeFrom_26 : decode cX3_changeFrom 26 = .ok (.iload_n 2, 1) := by decide +kernel
theorem dX3_changeFrom_27 : decode cX3_changeFrom 27 = .ok (.iload_n 3, 1) := by decide +kernel
theorem dX3_changeFrom_28 : decode cX3_changeFrom 28 = .ok (.invokestatic 126, 3) := by decide +kernel
theorem dX3_changeFrom_31 : decode cX3_changeFrom 31 = .ok (.invokevirtual 129, 3) := by decide +kernel
theorem dX3_changeFrom_34 : decode cX3_changeFrom 34 = .ok (.istore 4, 2) := by decide +kernel
theorem dX3_changeFrom_36 : decode cX3_changeFrom 36 = .ok (.iconst 0, 1) := by decide +kernel
theorem dX3_changeFrom_37 : decode cX3_changeFrom 37 = .ok (.istore 5, 2) := by decide +kernel
theorem dX3_changeFrom_39 : decode cX3_changeFrom 39 = .ok (.iload 5, 2) := by decide +kernel
theorem dX3_changeFrom_4 : decode cX3_changeFrom 4 = .ok (.aload_n 0, 1) := by decide +kernel
theorem dX3_changeFrom_41 : decode cX3_changeFrom 41 = .ok (.aload_n 0, 1) := by decide +kernel
theorem dX3_changeFrom_42 : decode cX3_changeFrom 42 = .ok (.getfield 43, 3) := by decide +kernel
theorem dX3_changeFrom_45 : decode cX3_changeFrom 45 = .ok (.getfield 75, 3) := by decide +kernel
theorem dX3_changeFrom_48 : decode cX3_changeFrom 48 = .ok (.if_icmp .ge 53, 3) := by decide +kernel
theorem dX3_changeFrom_5 : decode cX3_changeFrom 5 = .ok (.getfield 9, 3) := by decide +kernel
theorem dX3_changeFrom_8 : decode cX3_changeFrom 8 = .ok (.sipush 480, 3) := by decide +kernel
theorem dX3_inState_0 : decode cX3_inState 0 = .ok (.iconst 0, 1) := by decide +kernel
theorem dX3_inState_1 : decode cX3_inState 1 = .ok (.istore_n 2, 1) := by decide +kernel
theorem dX3_inState_12 : decode cX3_inState 12 = .ok (.if_icmp .ge 21, 3) := by decide +kernel
theorem dX3_inState_2 : decode cX3_inState 2 = .ok (.iconst 0, 1) := by decide +kernel
theorem dX3_inState_3 : decode cX3_inState 3 = .ok (.istore_n 3, 1) := by decide +kernel
theorem dX3_inState_33 : decode cX3_inState 33 = .ok (.iload_n 2, 1) := by decide +kernel
theorem dX3_inState_34 : decode cX3_inState 34 = .ok (.ireturn, 1) := by decide +kernel
theorem dX3_inState_4 : decode cX3_inState 4 = .ok (.iload_n 3, 1) := by decide +kernel
theorem dX3_inState_5 : decode cX3_inState 5 = .ok (.aload_n 0, 1) := by decide +kernel
theorem dX3_inState_6 : decode cX3_inState 6 = .ok (.getfield 43, 3) := by decide +kernel
theorem dX3_inState_9 : decode cX3_inState 9 = .ok (.getfield 85, 3) := by decide +kernel
theorem dX3_init_0 : decode cX3_init 0 = .ok (.aload_n 0, 1) := by decide +kernel
theorem dX3_init_1 : decode cX3_init 1 = .ok (.invokespecial 3, 3) := by decide +kernel
theorem dX3_init_10 : decode cX3_init 10 = .ok (.bipush 8, 2) := by decide +kernel
theorem dX3_init_12 : decode cX3_init 12 = .ok (.newarray .int, 2) := by decide +kernel
theorem dX3_init_14 : decode cX3_init 14 = .ok (.putfield 15, 3) := by decide +kernel
theorem dX3_init_17 : decode cX3_init 17 = .ok (.aload_n 0, 1) := by decide +kernel
theorem dX3_init_18 : decode cX3_init 18 = .ok (.bipush 8, 2) := by decide +kernel
theorem dX3_init_20 : decode cX3_init 20 = .ok (.newarray .int, 2) := by decide +kernel
theorem dX3_init_22 : decode cX3_init 22 = .ok (.putfield 19, 3) := by decide +kernel
theorem dX3_init_25 : decode cX3_init 25 = .ok (.aload_n 0, 1) := by decide +kernel
theorem dX3_init_26 : decode cX3_init 26 = .ok (.bipush 8, 2) := by decide +kernel
theorem dX3_init_28 : decode cX3_init 28 = .ok (.newarray .int, 2) := by decide +kernel
theorem dX3_init_30 : decode cX3_init 30 = .ok (.putfield 22, 3) := by decide +kernel
theorem dX3_init_33 : decode cX3_init 33 = .ok (.aload_n 0, 1) := by decide +kernel
theorem dX3_init_34 : decode cX3_init 34 = .ok (.bipush 8, 2) := by decide +kernel
theorem dX3_init_36 : decode cX3_init 36 = .ok (.newarray .int, 2) := by decide +kernel
theorem dX3_init_38 : decode cX3_init 38 = .ok (.putfield 25, 3) := by decide +kernel
theorem dX3_init_4 : decode cX3_init 4 = .ok (.aload_n 0, 1) := by decide +kernel
theorem dX3_init_41 : decode cX3_init 41 = .ok (.aload_n 0, 1) := by decide +kernel
theorem dX3_init_42 : decode cX3_init 42 = .ok (.bipush 30, 2) := by decide +kernel
theorem dX3_init_44 : decode cX3_init 44 = .ok (.newarray .int, 2) := by decide +kernel
theorem dX3_init_46 : decode cX3_init 46 = .ok (.putfield 28, 3) := by decide +kernel
theorem dX3_init_49 : decode cX3_init 49 = .ok (.aload_n 0, 1) := by decide +kernel
theorem dX3_init_5 : decode cX3_init 5 = .ok (.iconst 0, 1) := by decide +kernel
theorem dX3_init_50 : decode cX3_init 50 = .ok (.bipush 30, 2) := by decide +kernel
theorem dX3_init_52 : decode cX3_init 52 = .ok (.newarray .int, 2) := by decide +kernel
theorem dX3_init_54 : decode cX3_init 54 = .ok (.putfield 31, 3) := by decide +kernel
theorem dX3_init_57 : decode cX3_init 57 = .ok (.aload_n 0, 1) := by decide +kernel
theorem dX3_init_58 : decode cX3_init 58 = .ok (.bipush 30, 2) := by decide +kernel
theorem dX3_init_6 : decode cX3_init 6 = .ok (.putfield 9, 3) := by decide +kernel
theorem dX3_init_60 : decode cX3_init 60 = .ok (.newarray .int, 2) := by decide +kernel
theorem dX3_init_62 : decode cX3_init 62 = .ok (.putfield 34, 3) := by decide +kernel
theorem dX3_init_65 : decode cX3_init 65 = .ok (.aload_n 0, 1) := by decide +kernel
theorem dX3_init_66 : decode cX3_init 66 = .ok (.bipush 30, 2) := by decide +kernel
theorem dX3_init_68 : decode cX3_init 68 = .ok (.newarray .int, 2) := by decide +kernel
theorem dX3_init_70 : decode cX3_init 70 = .ok (.putfield 37, 3) := by decide +kernel
theorem dX3_init_73 : decode cX3_init 73 = .ok (.aload_n 0, 1) := by decide +kernel
theorem dX3_init_74 : decode cX3_init 74 = .ok (.bipush 30, 2) := by decide +kernel
theorem dX3_init_76 : decode cX3_init 76 = .ok (.newarray .int, 2) := by decide +kernel
theorem dX3_init_78 : decode cX3_init 78 = .ok (.putfield 40, 3) := by decide +kernel
theorem dX3_init_81 : decode cX3_init 81 = .ok (.aload_n 0, 1) := by decide +kernel
theorem dX3_init_82 : decode cX3_init 82 = .ok (.aload_n 1, 1) := by decide +kernel
theorem dX3_init_83 : decode cX3_init 83 = .ok (.putfield 43, 3) := by decide +kernel
theorem dX3_init_86 : decode cX3_init 86 = .ok (.aload_n 0, 1) := by decide +kernel
theorem dX3_init_87 : decode cX3_init 87 = .ok (.aload_n 2, 1) := by decide +kernel
theorem dX3_init_88 : decode cX3_init 88 = .ok (.putfield 47, 3) := by decide +kernel
theorem dX3_init_9 : decode cX3_init 9 = .ok (.aload_n 0, 1) := by decide +kernel
theorem dX3_init_91 : decode cX3_init 91 = .ok (.return_, 1) := by decide +kernel
theorem dX3_lateOnes_0 : decode cX3_lateOnes 0 = .ok (.iconst 0, 1) := by decide +kernel
theorem dX3_lateOnes_1 : decode cX3_lateOnes 1 = .ok (.istore_n 1, 1) := by decide +kernel
theorem dX3_lateOnes_12 : decode cX3_lateOnes 12 = .ok (.if_icmp .ge 20, 3) := by decide +kernel
theorem dX3_lateOnes_2 : decode cX3_lateOnes 2 = .ok (.iconst 0, 1) := by decide +kernel
theorem dX3_lateOnes_3 : decode cX3_lateOnes 3 = .ok (.istore_n 2, 1) := by decide +kernel
theorem dX3_lateOnes_32 : decode cX3_lateOnes 32 = .ok (.iload_n 1, 1) := by decide +kernel
theorem dX3_lateOnes_33 : decode cX3_lateOnes 33 = .ok (.ireturn, 1) := by decide +kernel
theorem dX3_lateOnes_4 : decode cX3_lateOnes 4 = .ok (.iload_n 2, 1) := by decide +kernel
theorem dX3_lateOnes_5 : decode cX3_lateOnes 5 = .ok (.aload_n 0, 1) := by decide +kernel
theorem dX3_lateOnes_6 : decode cX3_lateOnes 6 = .ok (.getfield 43, 3) := by decide +kernel
theorem dX3_lateOnes_9 : decode cX3_lateOnes 9 = .ok (.getfield 85, 3) := by decide +kernel
theorem dX3_openHand_0 : decode cX3_openHand 0 = .ok (.aload_n 0, 1) := by decide +kernel
theorem dX3_openHand_1 : decode cX3_openHand 1 = .ok (.getfield 15, 3) := by decide +kernel
theorem dX3_openHand_11 : decode cX3_openHand 11 = .ok (.iload_n 1, 1) := by decide +kernel
theorem dX3_openHand_12 : decode cX3_openHand 12 = .ok (.iconst (-1), 1) := by decide +kernel
theorem dX3_openHand_13 : decode cX3_openHand 13 = .ok (.iastore, 1) := by decide +kernel
theorem dX3_openHand_14 : decode cX3_openHand 14 = .ok (.aload_n 0, 1) := by decide +kernel
theorem dX3_openHand_15 : decode cX3_openHand 15 = .ok (.getfield 22, 3) := by decide +kernel
theorem dX3_openHand_18 : decode cX3_openHand 18 = .ok (.iload_n 1, 1) := by decide +kernel
theorem dX3_openHand_19 : decode cX3_openHand 19 = .ok (.iload_n 2, 1) := by decide +kernel
theorem dX3_openHand_20 : decode cX3_openHand 20 = .ok (.iastore, 1) := by decide +kernel
theorem dX3_openHand_21 : decode cX3_openHand 21 = .ok (.aload_n 0, 1) := by decide +kernel
theorem dX3_openHand_22 : decode cX3_openHand 22 = .ok (.getfield 25, 3) := by decide +kernel
theorem dX3_openHand_25 : decode cX3_openHand 25 = .ok (.iload_n 1, 1) := by decide +kernel
theorem dX3_openHand_26 : decode cX3_openHand 26 = .ok (.iconst 0, 1) := by decide +kernel
theorem dX3_openHand_27 : decode cX3_openHand 27 = .ok (.iastore, 1) := by decide +kernel
theorem dX3_openHand_28 : decode cX3_openHand 28 = .ok (.return_, 1) := by decide +kernel
theorem dX3_openHand_4 : decode cX3_openHand 4 = .ok (.iload_n 1, 1) := by decide +kernel
theorem dX3_openHand_5 : decode cX3_openHand 5 = .ok (.iconst (-1), 1) := by decide +kernel
theorem dX3_openHand_6 : decode cX3_openHand 6 = .ok (.iastore, 1) := by decide +kernel
theorem dX3_openHand_7 : decode cX3_openHand 7 = .ok (.aload_n 0, 1) := by decide +kernel
theorem dX3_openHand_8 : decode cX3_openHand 8 = .ok (.getfield 19, 3) := by decide +kernel
theorem dX3_openPiece_0 : decode cX3_openPiece 0 = .ok (.aload_n 0, 1) := by decide +kernel
theorem dX3_openPiece_1 : decode cX3_openPiece 1 = .ok (.getfield 28, 3) := by decide +kernel
theorem dX3_openPiece_11 : decode cX3_openPiece 11 = .ok (.iload_n 1, 1) := by decide +kernel
theorem dX3_openPiece_12 : decode cX3_openPiece 12 = .ok (.iconst (-1), 1) := by decide +kernel
theorem dX3_openPiece_13 : decode cX3_openPiece 13 = .ok (.iastore, 1) := by decide +kernel
theorem dX3_openPiece_14 : decode cX3_openPiece 14 = .ok (.aload_n 0, 1) := by decide +kernel
theorem dX3_openPiece_15 : decode cX3_openPiece 15 = .ok (.getfield 34, 3) := by decide +kernel
theorem dX3_openPiece_18 : decode cX3_openPiece 18 = .ok (.iload_n 1, 1) := by decide +kernel
theorem dX3_openPiece_19 : decode cX3_openPiece 19 = .ok (.iconst (-1), 1) := by decide +kernel
theorem dX3_openPiece_20 : decode cX3_openPiece 20 = .ok (.iastore, 1) := by decide +kernel
theorem dX3_openPiece_21 : decode cX3_openPiece 21 = .ok (.aload_n 0, 1) := by decide +kernel
theorem dX3_openPiece_22 : decode cX3_openPiece 22 = .ok (.getfield 37, 3) := by decide +kernel
theorem dX3_openPiece_25 : decode cX3_openPiece 25 = .ok (.iload_n 1, 1) := by decide +kernel
theorem dX3_openPiece_26 : decode cX3_openPiece 26 = .ok (.iload_n 2, 1) := by decide +kernel
theorem dX3_openPiece_27 : decode cX3_openPiece 27 = .ok (.iastore, 1) := by decide +kernel
theorem dX3_openPiece_28 : decode cX3_openPiece 28 = .ok (.aload_n 0, 1) := by decide +kernel
theorem dX3_openPiece_29 : decode cX3_openPiece 29 = .ok (.getfield 40, 3) := by decide +kernel
theorem dX3_openPiece_32 : decode cX3_openPiece 32 = .ok (.iload_n 1, 1) := by decide +kernel
theorem dX3_openPiece_33 : decode cX3_openPiece 33 = .ok (.iconst 0, 1) := by decide +kernel
theorem dX3_openPiece_34 : decode cX3_openPiece 34 = .ok (.iastore, 1) := by decide +kernel
theorem dX3_openPiece_35 : decode cX3_openPiece 35 = .ok (.return_, 1) := by decide +kernel
theorem dX3_openPiece_4 : decode cX3_openPiece 4 = .ok (.iload_n 1, 1) := by decide +kernel
theorem dX3_openPiece_5 : decode cX3_openPiece 5 = .ok (.iconst (-1), 1) := by decide +kernel
theorem dX3_openPiece_6 : decode cX3_openPiece 6 = .ok (.iastore, 1) := by decide +kernel
theorem dX3_openPiece_7 : decode cX3_openPiece 7 = .ok (.aload_n 0, 1) := by decide +kernel
theorem dX3_openPiece_8 : decode cX3_openPiece 8 = .ok (.getfield 31, 3) := by decide +kernel
theorem dX3_runOn_0 : decode cX3_runOn 0 = .ok (.aload_n 0, 1) := by decide +kernel
theorem dX3_runOn_1 : decode cX3_runOn 1 = .ok (.getfield 9, 3) := by decide +kernel
theorem dX3_runOn_11 : decode cX3_runOn 11 = .ok (.iload 5, 2) := by decide +kernel
theorem dX3_runOn_13 : decode cX3_runOn 13 = .ok (.iload_n 1, 1) := by decide +kernel
theorem dX3_runOn_14 : decode cX3_runOn 14 = .ok (.if_icmp .ge 85, 3) := by decide +kernel
theorem dX3_runOn_17 : decode cX3_runOn 17 = .ok (.aload_n 0, 1) := by decide +kernel
theorem dX3_runOn_18 : decode cX3_runOn 18 = .ok (.getfield 9, 3) := by decide +kernel
theorem dX3_runOn_21 : decode cX3_runOn 21 = .ok (.iload 4, 2) := by decide +kernel
theorem dX3_runOn_23 : decode cX3_runOn 23 = .ok (.if_icmp .ge 76, 3) := by decide +kernel
theorem dX3_runOn_26 : decode cX3_runOn 26 = .ok (.aload_n 0, 1) := by decide +kernel
theorem dX3_runOn_27 : decode cX3_runOn 27 = .ok (.getfield 43, 3) := by decide +kernel
theorem dX3_runOn_30 : decode cX3_runOn 30 = .ok (.aload_n 0, 1) := by decide +kernel
theorem dX3_runOn_31 : decode cX3_runOn 31 = .ok (.getfield 9, 3) := by decide +kernel
theorem dX3_runOn_34 : decode cX3_runOn 34 = .ok (.invokevirtual 57, 3) := by decide +kernel
theorem dX3_runOn_37 : decode cX3_runOn 37 = .ok (.iload_n 3, 1) := by decide +kernel
theorem dX3_runOn_38 : decode cX3_runOn 38 = .ok (.iconst (-1), 1) := by decide +kernel
theorem dX3_runOn_39 : decode cX3_runOn 39 = .ok (.if_icmp .ne 7, 3) := by decide +kernel
theorem dX3_runOn_4 : decode cX3_runOn 4 = .ok (.iload_n 1, 1) := by decide +kernel
theorem dX3_runOn_42 : decode cX3_runOn 42 = .ok (.iconst 0, 1) := by decide +kernel
theorem dX3_runOn_43 : decode cX3_runOn 43 = .ok (.goto 6, 3) := by decide +kernel
theorem dX3_runOn_49 : decode cX3_runOn 49 = .ok (.ior, 1) := by decide +kernel
theorem dX3_runOn_5 : decode cX3_runOn 5 = .ok (.iadd, 1) := by decide +kernel
theorem dX3_runOn_50 : decode cX3_runOn 50 = .ok (.istore 6, 2) := by decide +kernel
theorem dX3_runOn_52 : decode cX3_runOn 52 = .ok (.aload_n 0, 1) := by decide +kernel
theorem dX3_runOn_53 : decode cX3_runOn 53 = .ok (.iload 6, 2) := by decide +kernel
theorem dX3_runOn_55 : decode cX3_runOn 55 = .ok (.aload_n 2, 1) := by decide +kernel
theorem dX3_runOn_56 : decode cX3_runOn 56 = .ok (.invokevirtual 63, 3) := by decide +kernel
theorem dX3_runOn_59 : decode cX3_runOn 59 = .ok (.aload_n 0, 1) := by decide +kernel
theorem dX3_runOn_6 : decode cX3_runOn 6 = .ok (.istore 4, 2) := by decide +kernel
theorem dX3_runOn_60 : decode cX3_runOn 60 = .ok (.iload 6, 2) := by decide +kernel
theorem dX3_runOn_62 : decode cX3_runOn 62 = .ok (.iload 4, 2) := by decide +kernel
theorem dX3_runOn_64 : decode cX3_runOn 64 = .ok (.invokevirtual 67, 3) := by decide +kernel
theorem dX3_runOn_67 : decode cX3_runOn 67 = .ok (.aload_n 0, 1) := by decide +kernel
theorem dX3_runOn_68 : decode cX3_runOn 68 = .ok (.getfield 9, 3) := by decide +kernel
theorem dX3_runOn_71 : decode cX3_runOn 71 = .ok (.isub, 1) := by decide +kernel
theorem dX3_runOn_72 : decode cX3_runOn 72 = .ok (.istore 7, 2) := by decide +kernel
theorem dX3_runOn_74 : decode cX3_runOn 74 = .ok (.aload_n 0, 1) := by decide +kernel
theorem dX3_runOn_75 : decode cX3_runOn 75 = .ok (.iload 6, 2) := by decide +kernel
theorem dX3_runOn_77 : decode cX3_runOn 77 = .ok (.iload 7, 2) := by decide +kernel
theorem dX3_runOn_79 : decode cX3_runOn 79 = .ok (.invokevirtual 71, 3) := by decide +kernel
theorem dX3_runOn_8 : decode cX3_runOn 8 = .ok (.iconst 0, 1) := by decide +kernel
theorem dX3_runOn_82 : decode cX3_runOn 82 = .ok (.aload_n 0, 1) := by decide +kernel
theorem dX3_runOn_83 : decode cX3_runOn 83 = .ok (.dup, 1) := by decide +kernel
theorem dX3_runOn_84 : decode cX3_runOn 84 = .ok (.getfield 9, 3) := by decide +kernel
theorem dX3_runOn_87 : decode cX3_runOn 87 = .ok (.iload 7, 2) := by decide +kernel
theorem dX3_runOn_89 : decode cX3_runOn 89 = .ok (.iadd, 1) := by decide +kernel
theorem dX3_runOn_9 : decode cX3_runOn 9 = .ok (.istore 5, 2) := by decide +kernel
theorem dX3_runOn_90 : decode cX3_runOn 90 = .ok (.putfield 9, 3) := by decide +kernel
theorem dX3_runOn_93 : decode cX3_runOn 93 = .ok (.iinc 5 1, 3) := by decide +kernel
theorem dX3_runOn_96 : decode cX3_runOn 96 = .ok (.goto (-85), 3) := by decide +kernel
theorem dX3_runOn_99 : decode cX3_runOn 99 = .ok (.return_, 1) := by decide +kernel
theorem dX3_takeAll_0 : decode cX3_takeAll 0 = .ok (.iconst 0, 1) := by decide +kernel
theorem dX3_takeAll_1 : decode cX3_takeAll 1 = .ok (.istore_n 3, 1) := by decide +kernel
theorem dX3_takeAll_10 : decode cX3_takeAll 10 = .ok (.if_icmp .ge 48, 3) := by decide +kernel
theorem dX3_takeAll_2 : decode cX3_takeAll 2 = .ok (.iload_n 3, 1) := by decide +kernel
theorem dX3_takeAll_3 : decode cX3_takeAll 3 = .ok (.aload_n 0, 1) := by decide +kernel
theorem dX3_takeAll_4 : decode cX3_takeAll 4 = .ok (.getfield 43, 3) := by decide +kernel
theorem dX3_takeAll_58 : decode cX3_takeAll 58 = .ok (.return_, 1) := by decide +kernel
theorem dX3_takeAll_7 : decode cX3_takeAll 7 = .ok (.getfield 75, 3) := by decide +kernel
theorem dX3_takeOver_0 : decode cX3_takeOver 0 = .ok (.aload_n 0, 1) := by decide +kernel
theorem dX3_takeOver_1 : decode cX3_takeOver 1 = .ok (.aload_n 1, 1) := by decide +kernel
theorem dX3_takeOver_102 : decode cX3_takeOver 102 = .ok (.iconst 0, 1) := by decide +kernel
theorem dX3_takeOver_103 : decode cX3_takeOver 103 = .ok (.aload_n 0, 1) := by decide +kernel
theorem dX3_takeOver_104 : decode cX3_takeOver 104 = .ok (.getfield 34, 3) := by decide +kernel
theorem dX3_takeOver_107 : decode cX3_takeOver 107 = .ok (.iconst 0, 1) := by decide +kernel
theorem dX3_takeOver_108 : decode cX3_takeOver 108 = .ok (.bipush 30, 2) := by decide +kernel
theorem dX3_takeOver_110 : decode cX3_takeOver 110 = .ok (.invokestatic 51, 3) := by decide +kernel
theorem dX3_takeOver_113 : decode cX3_takeOver 113 = .ok (.aload_n 1, 1) := by decide +kernel
theorem dX3_takeOver_114 : decode cX3_takeOver 114 = .ok (.getfield 37, 3) := by decide +kernel
theorem dX3_takeOver_117 : decode cX3_takeOver 117 = .ok (.iconst 0, 1) := by decide +kernel
theorem dX3_takeOver_118 : decode cX3_takeOver 118 = .ok (.aload_n 0, 1) := by decide +kernel
theorem dX3_takeOver_119 : decode cX3_takeOver 119 = .ok (.getfield 37, 3) := by decide +kernel
theorem dX3_takeOver_12 : decode cX3_takeOver 12 = .ok (.iconst 0, 1) := by decide +kernel
theorem dX3_takeOver_122 : decode cX3_takeOver 122 = .ok (.iconst 0, 1) := by decide +kernel
theorem dX3_takeOver_123 : decode cX3_takeOver 123 = .ok (.bipush 30, 2) := by decide +kernel
theorem dX3_takeOver_125 : decode cX3_takeOver 125 = .ok (.invokestatic 51, 3) := by decide +kernel
theorem dX3_takeOver_128 : decode cX3_takeOver 128 = .ok (.aload_n 1, 1) := by decide +kernel
theorem dX3_takeOver_129 : decode cX3_takeOver 129 = .ok (.getfield 40, 3) := by decide +kernel
theorem dX3_takeOver_13 : decode cX3_takeOver 13 = .ok (.aload_n 0, 1) := by decide +kernel
theorem dX3_takeOver_132 : decode cX3_takeOver 132 = .ok (.iconst 0, 1) := by decide +kernel
theorem dX3_takeOver_133 : decode cX3_takeOver 133 = .ok (.aload_n 0, 1) := by decide +kernel
theorem dX3_takeOver_134 : decode cX3_takeOver 134 = .ok (.getfield 40, 3) := by decide +kernel
theorem dX3_takeOver_137 : decode cX3_takeOver 137 = .ok (.iconst 0, 1) := by decide +kernel
theorem dX3_takeOver_138 : decode cX3_takeOver 138 = .ok (.bipush 30, 2) := by decide +kernel
theorem dX3_takeOver_14 : decode cX3_takeOver 14 = .ok (.getfield 15, 3) := by decide +kernel
theorem dX3_takeOver_140 : decode cX3_takeOver 140 = .ok (.invokestatic 51, 3) := by decide +kernel
theorem dX3_takeOver_143 : decode cX3_takeOver 143 = .ok (.return_, 1) := by decide +kernel
theorem dX3_takeOver_17 : decode cX3_takeOver 17 = .ok (.iconst 0, 1) := by decide +kernel
theorem dX3_takeOver_18 : decode cX3_takeOver 18 = .ok (.bipush 8, 2) := by decide +kernel
theorem dX3_takeOver_2 : decode cX3_takeOver 2 = .ok (.getfield 9, 3) := by decide +kernel
theorem dX3_takeOver_20 : decode cX3_takeOver 20 = .ok (.invokestatic 51, 3) := by decide +kernel
theorem dX3_takeOver_23 : decode cX3_takeOver 23 = .ok (.aload_n 1, 1) := by decide +kernel
theorem dX3_takeOver_24 : decode cX3_takeOver 24 = .ok (.getfield 19, 3) := by decide +kernel
theorem dX3_takeOver_27 : decode cX3_takeOver 27 = .ok (.iconst 0, 1) := by decide +kernel
theorem dX3_takeOver_28 : decode cX3_takeOver 28 = .ok (.aload_n 0, 1) := by decide +kernel
theorem dX3_takeOver_29 : decode cX3_takeOver 29 = .ok (.getfield 19, 3) := by decide +kernel
theorem dX3_takeOver_32 : decode cX3_takeOver 32 = .ok (.iconst 0, 1) := by decide +kernel
theorem dX3_takeOver_33 : decode cX3_takeOver 33 = .ok (.bipush 8, 2) := by decide +kernel
theorem dX3_takeOver_35 : decode cX3_takeOver 35 = .ok (.invokestatic 51, 3) := by decide +kernel
theorem dX3_takeOver_38 : decode cX3_takeOver 38 = .ok (.aload_n 1, 1) := by decide +kernel
theorem dX3_takeOver_39 : decode cX3_takeOver 39 = .ok (.getfield 22, 3) := by decide +kernel
theorem dX3_takeOver_42 : decode cX3_takeOver 42 = .ok (.iconst 0, 1) := by decide +kernel
theorem dX3_takeOver_43 : decode cX3_takeOver 43 = .ok (.aload_n 0, 1) := by decide +kernel
theorem dX3_takeOver_44 : decode cX3_takeOver 44 = .ok (.getfield 22, 3) := by decide +kernel
theorem dX3_takeOver_47 : decode cX3_takeOver 47 = .ok (.iconst 0, 1) := by decide +kernel
theorem dX3_takeOver_48 : decode cX3_takeOver 48 = .ok (.bipush 8, 2) := by decide +kernel
theorem dX3_takeOver_5 : decode cX3_takeOver 5 = .ok (.putfield 9, 3) := by decide +kernel
theorem dX3_takeOver_50 : decode cX3_takeOver 50 = .ok (.invokestatic 51, 3) := by decide +kernel
theorem dX3_takeOver_53 : decode cX3_takeOver 53 = .ok (.aload_n 1, 1) := by decide +kernel
theorem dX3_takeOver_54 : decode cX3_takeOver 54 = .ok (.getfield 25, 3) := by decide +kernel
theorem dX3_takeOver_57 : decode cX3_takeOver 57 = .ok (.iconst 0, 1) := by decide +kernel
theorem dX3_takeOver_58 : decode cX3_takeOver 58 = .ok (.aload_n 0, 1) := by decide +kernel
theorem dX3_takeOver_59 : decode cX3_takeOver 59 = .ok (.getfield 25, 3) := by decide +kernel
theorem dX3_takeOver_62 : decode cX3_takeOver 62 = .ok (.iconst 0, 1) := by decide +kernel
theorem dX3_takeOver_63 : decode cX3_takeOver 63 = .ok (.bipush 8, 2) := by decide +kernel
theorem dX3_takeOver_65 : decode cX3_takeOver 65 = .ok (.invokestatic 51, 3) := by decide +kernel
theorem dX3_takeOver_68 : decode cX3_takeOver 68 = .ok (.aload_n 1, 1) := by decide +kernel
theorem dX3_takeOver_69 : decode cX3_takeOver 69 = .ok (.getfield 28, 3) := by decide +kernel
theorem dX3_takeOver_72 : decode cX3_takeOver 72 = .ok (.iconst 0, 1) := by decide +kernel
theorem dX3_takeOver_73 : decode cX3_takeOver 73 = .ok (.aload_n 0, 1) := by decide +kernel
theorem dX3_takeOver_74 : decode cX3_takeOver 74 = .ok (.getfield 28, 3) := by decide +kernel
theorem dX3_takeOver_77 : decode cX3_takeOver 77 = .ok (.iconst 0, 1) := by decide +kernel
theorem dX3_takeOver_78 : decode cX3_takeOver 78 = .ok (.bipush 30, 2) := by decide +kernel
theorem dX3_takeOver_8 : decode cX3_takeOver 8 = .ok (.aload_n 1, 1) := by decide +kernel
theorem dX3_takeOver_80 : decode cX3_takeOver 80 = .ok (.invokestatic 51, 3) := by decide +kernel
theorem dX3_takeOver_83 : decode cX3_takeOver 83 = .ok (.aload_n 1, 1) := by decide +kernel
theorem dX3_takeOver_84 : decode cX3_takeOver 84 = .ok (.getfield 31, 3) := by decide +kernel
theorem dX3_takeOver_87 : decode cX3_takeOver 87 = .ok (.iconst 0, 1) := by decide +kernel
theorem dX3_takeOver_88 : decode cX3_takeOver 88 = .ok (.aload_n 0, 1) := by decide +kernel
theorem dX3_takeOver_89 : decode cX3_takeOver 89 = .ok (.getfield 31, 3) := by decide +kernel
theorem dX3_takeOver_9 : decode cX3_takeOver 9 = .ok (.getfield 15, 3) := by decide +kernel
theorem dX3_takeOver_92 : decode cX3_takeOver 92 = .ok (.iconst 0, 1) := by decide +kernel
theorem dX3_takeOver_93 : decode cX3_takeOver 93 = .ok (.bipush 30, 2) := by decide +kernel
theorem dX3_takeOver_95 : decode cX3_takeOver 95 = .ok (.invokestatic 51, 3) := by decide +kernel
theorem dX3_takeOver_98 : decode cX3_takeOver 98 = .ok (.aload_n 1, 1) := by decide +kernel
theorem dX3_takeOver_99 : decode cX3_takeOver 99 = .ok (.getfield 34, 3) := by decide +kernel
theorem dX3_waitedIn_0 : decode cX3_waitedIn 0 = .ok (.iconst 0, 1) := by decide +kernel
theorem dX3_waitedIn_1 : decode cX3_waitedIn 1 = .ok (.istore_n 2, 1) := by decide +kernel
theorem dX3_waitedIn_12 : decode cX3_waitedIn 12 = .ok (.if_icmp .ge 57, 3) := by decide +kernel
theorem dX3_waitedIn_2 : decode cX3_waitedIn 2 = .ok (.iconst 0, 1) := by decide +kernel
theorem dX3_waitedIn_3 : decode cX3_waitedIn 3 = .ok (.istore_n 3, 1) := by decide +kernel
theorem dX3_waitedIn_4 : decode cX3_waitedIn 4 = .ok (.iload_n 3, 1) := by decide +kernel
theorem dX3_waitedIn_5 : decode cX3_waitedIn 5 = .ok (.aload_n 0, 1) := by decide +kernel
theorem dX3_waitedIn_6 : decode cX3_waitedIn 6 = .ok (.getfield 43, 3) := by decide +kernel
theorem dX3_waitedIn_69 : decode cX3_waitedIn 69 = .ok (.iload_n 2, 1) := by decide +kernel
theorem dX3_waitedIn_70 : decode cX3_waitedIn 70 = .ok (.ireturn, 1) := by decide +kernel
theorem dX3_waitedIn_9 : decode cX3_waitedIn 9 = .ok (.getfield 85, 3) := by decide +kernel
theorem dX3_workAll_0 : decode cX3_workAll 0 = .ok (.iconst 0, 1) := by decide +kernel
theorem dX3_workAll_1 : decode cX3_workAll 1 = .ok (.istore_n 3, 1) := by decide +kernel
theorem dX3_workAll_10 : decode cX3_workAll 10 = .ok (.if_icmp .ge 77, 3) := by decide +kernel
theorem dX3_workAll_2 : decode cX3_workAll 2 = .ok (.iload_n 3, 1) := by decide +kernel
theorem dX3_workAll_3 : decode cX3_workAll 3 = .ok (.aload_n 0, 1) := by decide +kernel
theorem dX3_workAll_4 : decode cX3_workAll 4 = .ok (.getfield 43, 3) := by decide +kernel
theorem dX3_workAll_7 : decode cX3_workAll 7 = .ok (.getfield 75, 3) := by decide +kernel
theorem dX3_workAll_87 : decode cX3_workAll 87 = .ok (.return_, 1) := by decide +kernel
theorem dX4_init_0 : decode cX4_init 0 = .ok (.aload_n 0, 1) := by decide +kernel
theorem dX4_init_1 : decode cX4_init 1 = .ok (.invokespecial 1, 3) := by decide +kernel
theorem dX4_init_10 : decode cX4_init 10 = .ok (.iload_n 2, 1) := by decide +kernel
theorem dX4_init_11 : decode cX4_init 11 = .ok (.putfield 13, 3) := by decide +kernel
theorem dX4_init_14 : decode cX4_init 14 = .ok (.aload_n 0, 1) := by decide +kernel
theorem dX4_init_15 : decode cX4_init 15 = .ok (.iload_n 3, 1) := by decide +kernel
theorem dX4_init_16 : decode cX4_init 16 = .ok (.putfield 16, 3) := by decide +kernel
theorem dX4_init_19 : decode cX4_init 19 = .ok (.return_, 1) := by decide +kernel
theorem dX4_init_4 : decode cX4_init 4 = .ok (.aload_n 0, 1) := by decide +kernel
theorem dX4_init_5 : decode cX4_init 5 = .ok (.iload_n 1, 1) := by decide +kernel
theorem dX4_init_6 : decode cX4_init 6 = .ok (.putfield 7, 3) := by decide +kernel
theorem dX4_init_9 : decode cX4_init 9 = .ok (.aload_n 0, 1) := by decide +kernel
theorem dX5_hasCorrection_0 : decode cX5_hasCorrection 0 = .ok (.iload_n 1, 1) := by decide +kernel
theorem dX5_hasCorrection_1 : decode cX5_hasCorrection 1 = .ok (.ifCond .lt 15, 3) := by decide +kernel
theorem dX5_hasCorrection_16 : decode cX5_hasCorrection 16 = .ok (.iconst 0, 1) := by decide +kernel
theorem dX5_hasCorrection_17 : decode cX5_hasCorrection 17 = .ok (.ireturn, 1) := by decide +kernel
theorem dX5_hasCorrection_4 : decode cX5_hasCorrection 4 = .ok (.iload_n 1, 1) := by decide +kernel
theorem dX5_hasCorrection_5 : decode cX5_hasCorrection 5 = .ok (.aload_n 0, 1) := by decide +kernel
theorem dX5_hasCorrection_6 : decode cX5_hasCorrection 6 = .ok (.getfield 17, 3) := by decide +kernel
theorem dX5_hasCorrection_9 : decode cX5_hasCorrection 9 = .ok (.if_icmp .ge 7, 3) := by decide +kernel
theorem dX5_init_0 : decode cX5_init 0 = .ok (.aload_n 0, 1) := by decide +kernel
theorem dX5_init_1 : decode cX5_init 1 = .ok (.invokespecial 3, 3) := by decide +kernel
theorem dX5_init_10 : decode cX5_init 10 = .ok (.putfield 11, 3) := by decide +kernel
theorem dX5_init_13 : decode cX5_init 13 = .ok (.aload_n 0, 1) := by decide +kernel
theorem dX5_init_14 : decode cX5_init 14 = .ok (.iconst 0, 1) := by decide +kernel
theorem dX5_init_15 : decode cX5_init 15 = .ok (.putfield 17, 3) := by decide +kernel
theorem dX5_init_18 : decode cX5_init 18 = .ok (.aload_n 0, 1) := by decide +kernel
theorem dX5_init_19 : decode cX5_init 19 = .ok (.bipush 99, 2) := by decide +kernel
theorem dX5_init_21 : decode cX5_init 21 = .ok (.putfield 21, 3) := by decide +kernel
theorem dX5_init_24 : decode cX5_init 24 = .ok (.aload_n 0, 1) := by decide +kernel
theorem dX5_init_25 : decode cX5_init 25 = .ok (.aload_n 1, 1) := by decide +kernel
theorem dX5_init_26 : decode cX5_init 26 = .ok (.putfield 24, 3) := by decide +kernel
theorem dX5_init_29 : decode cX5_init 29 = .ok (.aload_n 0, 1) := by decide +kernel
theorem dX5_init_30 : decode cX5_init 30 = .ok (.aload_n 2, 1) := by decide +kernel
theorem dX5_init_31 : decode cX5_init 31 = .ok (.putfield 28, 3) := by decide +kernel
theorem dX5_init_34 : decode cX5_init 34 = .ok (.aload_n 0, 1) := by decide +kernel
theorem dX5_init_35 : decode cX5_init 35 = .ok (.aload_n 3, 1) := by decide +kernel
theorem dX5_init_36 : decode cX5_init 36 = .ok (.putfield 32, 3) := by decide +kernel
theorem dX5_init_39 : decode cX5_init 39 = .ok (.return_, 1) := by decide +kernel
theorem dX5_init_4 : decode cX5_init 4 = .ok (.aload_n 0, 1) := by decide +kernel
theorem dX5_init_5 : decode cX5_init 5 = .ok (.bipush 40, 2) := by decide +kernel
theorem dX5_init_7 : decode cX5_init 7 = .ok (.anewarray 9, 3) := by decide +kernel
theorem dX6_allWork_0 : decode cX6_allWork 0 = .ok (.bipush 60, 2) := by decide +kernel
theorem dX6_allWork_12 : decode cX6_allWork 12 = .ok (.imul, 1) := by decide +kernel
theorem dX6_allWork_13 : decode cX6_allWork 13 = .ok (.aload_n 0, 1) := by decide +kernel
theorem dX6_allWork_14 : decode cX6_allWork 14 = .ok (.getfield 15, 3) := by decide +kernel
theorem dX6_allWork_17 : decode cX6_allWork 17 = .ok (.imul, 1) := by decide +kernel
theorem dX6_allWork_18 : decode cX6_allWork 18 = .ok (.iadd, 1) := by decide +kernel
theorem dX6_allWork_19 : decode cX6_allWork 19 = .ok (.ireturn, 1) := by decide +kernel
theorem dX6_allWork_2 : decode cX6_allWork 2 = .ok (.aload_n 0, 1) := by decide +kernel
theorem dX6_allWork_3 : decode cX6_allWork 3 = .ok (.getfield 9, 3) := by decide +kernel
theorem dX6_allWork_6 : decode cX6_allWork 6 = .ok (.imul, 1) := by decide +kernel
theorem dX6_allWork_7 : decode cX6_allWork 7 = .ok (.iconst 2, 1) := by decide +kernel
theorem dX6_allWork_8 : decode cX6_allWork 8 = .ok (.aload_n 0, 1) := by decide +kernel
theorem dX6_allWork_9 : decode cX6_allWork 9 = .ok (.getfield 9, 3) := by decide +kernel
theorem dX6_init_0 : decode cX6_init 0 = .ok (.aload_n 0, 1) := by decide +kernel
theorem dX6_init_1 : decode cX6_init 1 = .ok (.invokespecial 3, 3) := by decide +kernel
theorem dX6_init_4 : decode cX6_init 4 = .ok (.return_, 1) := by decide +kernel
theorem dX7_init_0 : decode cX7_init 0 = .ok (.aload_n 0, 1) := by decide +kernel
theorem dX7_init_1 : decode cX7_init 1 = .ok (.invokespecial 3, 3) := by decide +kernel
theorem dX7_init_11 : decode cX7_init 11 = .ok (.aload_n 0, 1) := by decide +kernel
theorem dX7_init_12 : decode cX7_init 12 = .ok (.iconst 3, 1) := by decide +kernel
theorem dX7_init_13 : decode cX7_init 13 = .ok (.newarray .int, 2) := by decide +kernel
theorem dX7_init_15 : decode cX7_init 15 = .ok (.putfield 15, 3) := by decide +kernel
theorem dX7_init_18 : decode cX7_init 18 = .ok (.aload_n 0, 1) := by decide +kernel
theorem dX7_init_19 : decode cX7_init 19 = .ok (.iconst 3, 1) := by decide +kernel
theorem dX7_init_20 : decode cX7_init 20 = .ok (.newarray .int, 2) := by decide +kernel
theorem dX7_init_22 : decode cX7_init 22 = .ok (.putfield 18, 3) := by decide +kernel
theorem dX7_init_25 : decode cX7_init 25 = .ok (.aload_n 0, 1) := by decide +kernel
theorem dX7_init_26 : decode cX7_init 26 = .ok (.bipush 8, 2) := by decide +kernel
theorem dX7_init_28 : decode cX7_init 28 = .ok (.newarray .int, 2) := by decide +kernel
theorem dX7_init_30 : decode cX7_init 30 = .ok (.putfield 21, 3) := by decide +kernel
theorem dX7_init_33 : decode cX7_init 33 = .ok (.aload_n 0, 1) := by decide +kernel
theorem dX7_init_34 : decode cX7_init 34 = .ok (.bipush 8, 2) := by decide +kernel
theorem dX7_init_36 : decode cX7_init 36 = .ok (.newarray .int, 2) := by decide +kernel
theorem dX7_init_38 : decode cX7_init 38 = .ok (.putfield 24, 3) := by decide +kernel
theorem dX7_init_4 : decode cX7_init 4 = .ok (.aload_n 0, 1) := by decide +kernel
theorem dX7_init_41 : decode cX7_init 41 = .ok (.aload_n 0, 1) := by decide +kernel
theorem dX7_init_42 : decode cX7_init 42 = .ok (.aload_n 1, 1) := by decide +kernel
theorem dX7_init_43 : decode cX7_init 43 = .ok (.putfield 27, 3) := by decide +kernel
theorem dX7_init_46 : decode cX7_init 46 = .ok (.aload_n 0, 1) := by decide +kernel
theorem dX7_init_47 : decode cX7_init 47 = .ok (.aload_n 2, 1) := by decide +kernel
theorem dX7_init_48 : decode cX7_init 48 = .ok (.putfield 31, 3) := by decide +kernel
theorem dX7_init_5 : decode cX7_init 5 = .ok (.iconst 5, 1) := by decide +kernel
theorem dX7_init_51 : decode cX7_init 51 = .ok (.return_, 1) := by decide +kernel
theorem dX7_init_6 : decode cX7_init 6 = .ok (.newarray .int, 2) := by decide +kernel
theorem dX7_init_8 : decode cX7_init 8 = .ok (.putfield 9, 3) := by decide +kernel
theorem dX7_listPieces_0 : decode cX7_listPieces 0 = .ok (.aload_n 0, 1) := by decide +kernel
theorem dX7_listPieces_1 : decode cX7_listPieces 1 = .ok (.iconst 0, 1) := by decide +kernel
theorem dX7_listPieces_10 : decode cX7_listPieces 10 = .ok (.if_icmp .ge 81, 3) := by decide +kernel
theorem dX7_listPieces_102 : decode cX7_listPieces 102 = .ok (.iconst 0, 1) := by decide +kernel
theorem dX7_listPieces_103 : decode cX7_listPieces 103 = .ok (.ireturn, 1) := by decide +kernel
theorem dX7_listPieces_13 : decode cX7_listPieces 13 = .ok (.iload_n 1, 1) := by decide +kernel
theorem dX7_listPieces_14 : decode cX7_listPieces 14 = .ok (.iload_n 2, 1) := by decide +kernel
theorem dX7_listPieces_15 : decode cX7_listPieces 15 = .ok (.iushr, 1) := by decide +kernel
theorem dX7_listPieces_16 : decode cX7_listPieces 16 = .ok (.iconst 1, 1) := by decide +kernel
theorem dX7_listPieces_17 : decode cX7_listPieces 17 = .ok (.iand, 1) := by decide +kernel
theorem dX7_listPieces_18 : decode cX7_listPieces 18 = .ok (.iconst 1, 1) := by decide +kernel
theorem dX7_listPieces_19 : decode cX7_listPieces 19 = .ok (.if_icmp .ne 66, 3) := by decide +kernel
theorem dX7_listPieces_2 : decode cX7_listPieces 2 = .ok (.putfield 42, 3) := by decide +kernel
theorem dX7_listPieces_22 : decode cX7_listPieces 22 = .ok (.aload_n 0, 1) := by decide +kernel
theorem dX7_listPieces_23 : decode cX7_listPieces 23 = .ok (.getfield 27, 3) := by decide +kernel
theorem dX7_listPieces_26 : decode cX7_listPieces 26 = .ok (.iload_n 2, 1) := by decide +kernel
theorem dX7_listPieces_27 : decode cX7_listPieces 27 = .ok (.invokevirtual 67, 3) := by decide +kernel
theorem dX7_listPieces_30 : decode cX7_listPieces 30 = .ok (.ifCond .eq 27, 3) := by decide +kernel
theorem dX7_listPieces_5 : decode cX7_listPieces 5 = .ok (.iconst 0, 1) := by decide +kernel
theorem dX7_listPieces_57 : decode cX7_listPieces 57 = .ok (.iconst 0, 1) := by decide +kernel
theorem dX7_listPieces_58 : decode cX7_listPieces 58 = .ok (.istore_n 3, 1) := by decide +kernel
theorem dX7_listPieces_59 : decode cX7_listPieces 59 = .ok (.iload_n 3, 1) := by decide +kernel
theorem dX7_listPieces_6 : decode cX7_listPieces 6 = .ok (.istore_n 2, 1) := by decide +kernel
theorem dX7_listPieces_60 : decode cX7_listPieces 60 = .ok (.ifCond .ne 5, 3) := by decide +kernel
theorem dX7_listPieces_63 : decode cX7_listPieces 63 = .ok (.iconst 0, 1) := by decide +kernel
theorem dX7_listPieces_64 : decode cX7_listPieces 64 = .ok (.ireturn, 1) := by decide +kernel
theorem dX7_listPieces_7 : decode cX7_listPieces 7 = .ok (.iload_n 2, 1) := by decide +kernel
theorem dX7_listPieces_8 : decode cX7_listPieces 8 = .ok (.bipush 32, 2) := by decide +kernel
theorem dX7_listPieces_85 : decode cX7_listPieces 85 = .ok (.iinc 2 1, 3) := by decide +kernel
theorem dX7_listPieces_88 : decode cX7_listPieces 88 = .ok (.goto (-81), 3) := by decide +kernel
theorem dX7_listPieces_91 : decode cX7_listPieces 91 = .ok (.aload_n 0, 1) := by decide +kernel
theorem dX7_listPieces_92 : decode cX7_listPieces 92 = .ok (.getfield 42, 3) := by decide +kernel
theorem dX7_listPieces_95 : decode cX7_listPieces 95 = .ok (.ifCond .le 7, 3) := by decide +kernel
theorem dX7_seek_0 : decode cX7_seek 0 = .ok (.aload_n 0, 1) := by decide +kernel
theorem dX7_seek_1 : decode cX7_seek 1 = .ok (.iload_n 1, 1) := by decide +kernel
theorem dX7_seek_16 : decode cX7_seek 16 = .ok (.iconst (-1), 1) := by decide +kernel
theorem dX7_seek_17 : decode cX7_seek 17 = .ok (.ireturn, 1) := by decide +kernel
theorem dX7_seek_2 : decode cX7_seek 2 = .ok (.invokevirtual 35, 3) := by decide +kernel
theorem dX7_seek_5 : decode cX7_seek 5 = .ok (.ifCond .eq 11, 3) := by decide +kernel
theorem dX8_beginsThing_0 : decode cX8_beginsThing 0 = .ok (.aload_n 2, 1) := by decide +kernel
theorem dX8_beginsThing_1 : decode cX8_beginsThing 1 = .ok (.iload_n 1, 1) := by decide +kernel
theorem dX8_beginsThing_10 : decode cX8_beginsThing 10 = .ok (.ifCond .ne 7, 3) := by decide +kernel
theorem dX8_beginsThing_102 : decode cX8_beginsThing 102 = .ok (.iconst 0, 1) := by decide +kernel
theorem dX8_beginsThing_103 : decode cX8_beginsThing 103 = .ok (.ireturn, 1) := by decide +kernel
theorem dX8_beginsThing_104 : decode cX8_beginsThing 104 = .ok (.aload_n 0, 1) := by decide +kernel
theorem dX8_beginsThing_105 : decode cX8_beginsThing 105 = .ok (.iload_n 1, 1) := by decide +kernel
theorem dX8_beginsThing_106 : decode cX8_beginsThing 106 = .ok (.invokevirtual 75, 3) := by decide +kernel
theorem dX8_beginsThing_109 : decode cX8_beginsThing 109 = .ok (.aload_n 0, 1) := by decide +kernel
theorem dX8_beginsThing_110 : decode cX8_beginsThing 110 = .ok (.dup, 1) := by decide +kernel
theorem dX8_beginsThing_111 : decode cX8_beginsThing 111 = .ok (.getfield 26, 3) := by decide +kernel
theorem dX8_beginsThing_114 : decode cX8_beginsThing 114 = .ok (.iconst 1, 1) := by decide +kernel
theorem dX8_beginsThing_115 : decode cX8_beginsThing 115 = .ok (.iadd, 1) := by decide +kernel
theorem dX8_beginsThing_116 : decode cX8_beginsThing 116 = .ok (.putfield 26, 3) := by decide +kernel
theorem dX8_beginsThing_119 : decode cX8_beginsThing 119 = .ok (.aload_n 0, 1) := by decide +kernel
theorem dX8_beginsThing_120 : decode cX8_beginsThing 120 = .ok (.dup, 1) := by decide +kernel
theorem dX8_beginsThing_121 : decode cX8_beginsThing 121 = .ok (.getfield 29, 3) := by decide +kernel
theorem dX8_beginsThing_124 : decode cX8_beginsThing 124 = .ok (.iconst 1, 1) := by decide +kernel
theorem dX8_beginsThing_125 : decode cX8_beginsThing 125 = .ok (.aload_n 0, 1) := by decide +kernel
theorem dX8_beginsThing_126 : decode cX8_beginsThing 126 = .ok (.getfield 26, 3) := by decide +kernel
theorem dX8_beginsThing_129 : decode cX8_beginsThing 129 = .ok (.ishl, 1) := by decide +kernel
theorem dX8_beginsThing_13 : decode cX8_beginsThing 13 = .ok (.iload_n 3, 1) := by decide +kernel
theorem dX8_beginsThing_130 : decode cX8_beginsThing 130 = .ok (.iconst (-1), 1) := by decide +kernel
theorem dX8_beginsThing_131 : decode cX8_beginsThing 131 = .ok (.ixor, 1) := by decide +kernel
theorem dX8_beginsThing_132 : decode cX8_beginsThing 132 = .ok (.iand, 1) := by decide +kernel
theorem dX8_beginsThing_133 : decode cX8_beginsThing 133 = .ok (.putfield 29, 3) := by decide +kernel
theorem dX8_beginsThing_136 : decode cX8_beginsThing 136 = .ok (.iconst 1, 1) := by decide +kernel
theorem dX8_beginsThing_137 : decode cX8_beginsThing 137 = .ok (.ireturn, 1) := by decide +kernel
theorem dX8_beginsThing_14 : decode cX8_beginsThing 14 = .ok (.ifCond .lt 43, 3) := by decide +kernel
theorem dX8_beginsThing_17 : decode cX8_beginsThing 17 = .ok (.aload_n 0, 1) := by decide +kernel
theorem dX8_beginsThing_18 : decode cX8_beginsThing 18 = .ok (.iload_n 3, 1) := by decide +kernel
theorem dX8_beginsThing_19 : decode cX8_beginsThing 19 = .ok (.ifCond .lt 11, 3) := by decide +kernel
theorem dX8_beginsThing_2 : decode cX8_beginsThing 2 = .ok (.invokevirtual 63, 3) := by decide +kernel
theorem dX8_beginsThing_22 : decode cX8_beginsThing 22 = .ok (.sipush 10000, 3) := by decide +kernel
theorem dX8_beginsThing_25 : decode cX8_beginsThing 25 = .ok (.iload_n 3, 1) := by decide +kernel
theorem dX8_beginsThing_26 : decode cX8_beginsThing 26 = .ok (.iadd, 1) := by decide +kernel
theorem dX8_beginsThing_27 : decode cX8_beginsThing 27 = .ok (.goto 7, 3) := by decide +kernel
theorem dX8_beginsThing_30 : decode cX8_beginsThing 30 = .ok (.iload_n 1, 1) := by decide +kernel
theorem dX8_beginsThing_31 : decode cX8_beginsThing 31 = .ok (.bipush 48, 2) := by decide +kernel
theorem dX8_beginsThing_33 : decode cX8_beginsThing 33 = .ok (.isub, 1) := by decide +kernel
theorem dX8_beginsThing_34 : decode cX8_beginsThing 34 = .ok (.invokevirtual 72, 3) := by decide +kernel
theorem dX8_beginsThing_37 : decode cX8_beginsThing 37 = .ok (.aload_n 0, 1) := by decide +kernel
theorem dX8_beginsThing_38 : decode cX8_beginsThing 38 = .ok (.iload_n 3, 1) := by decide +kernel
theorem dX8_beginsThing_39 : decode cX8_beginsThing 39 = .ok (.ifCond .lt 7, 3) := by decide +kernel
theorem dX8_beginsThing_42 : decode cX8_beginsThing 42 = .ok (.iconst 0, 1) := by decide +kernel
theorem dX8_beginsThing_43 : decode cX8_beginsThing 43 = .ok (.goto 4, 3) := by decide +kernel
theorem dX8_beginsThing_46 : decode cX8_beginsThing 46 = .ok (.iconst 1, 1) := by decide +kernel
theorem dX8_beginsThing_47 : decode cX8_beginsThing 47 = .ok (.putfield 32, 3) := by decide +kernel
theorem dX8_beginsThing_5 : decode cX8_beginsThing 5 = .ok (.istore_n 3, 1) := by decide +kernel
theorem dX8_beginsThing_50 : decode cX8_beginsThing 50 = .ok (.aload_n 0, 1) := by decide +kernel
theorem dX8_beginsThing_51 : decode cX8_beginsThing 51 = .ok (.iconst 0, 1) := by decide +kernel
theorem dX8_beginsThing_52 : decode cX8_beginsThing 52 = .ok (.putfield 35, 3) := by decide +kernel
theorem dX8_beginsThing_55 : decode cX8_beginsThing 55 = .ok (.iconst 1, 1) := by decide +kernel
theorem dX8_beginsThing_56 : decode cX8_beginsThing 56 = .ok (.ireturn, 1) := by decide +kernel
theorem dX8_beginsThing_57 : decode cX8_beginsThing 57 = .ok (.iload_n 1, 1) := by decide +kernel
theorem dX8_beginsThing_58 : decode cX8_beginsThing 58 = .ok (.bipush 33, 2) := by decide +kernel
theorem dX8_beginsThing_6 : decode cX8_beginsThing 6 = .ok (.iload_n 1, 1) := by decide +kernel
theorem dX8_beginsThing_60 : decode cX8_beginsThing 60 = .ok (.if_icmp .eq 9, 3) := by decide +kernel
theorem dX8_beginsThing_63 : decode cX8_beginsThing 63 = .ok (.iload_n 1, 1) := by decide +kernel
theorem dX8_beginsThing_64 : decode cX8_beginsThing 64 = .ok (.bipush 45, 2) := by decide +kernel
theorem dX8_beginsThing_66 : decode cX8_beginsThing 66 = .ok (.if_icmp .ne 21, 3) := by decide +kernel
theorem dX8_beginsThing_69 : decode cX8_beginsThing 69 = .ok (.aload_n 0, 1) := by decide +kernel
theorem dX8_beginsThing_7 : decode cX8_beginsThing 7 = .ok (.invokestatic 69, 3) := by decide +kernel
theorem dX8_beginsThing_70 : decode cX8_beginsThing 70 = .ok (.iload_n 1, 1) := by decide +kernel
theorem dX8_beginsThing_71 : decode cX8_beginsThing 71 = .ok (.bipush 45, 2) := by decide +kernel
theorem dX8_beginsThing_73 : decode cX8_beginsThing 73 = .ok (.if_icmp .ne 8, 3) := by decide +kernel
theorem dX8_beginsThing_76 : decode cX8_beginsThing 76 = .ok (.bipush 126, 2) := by decide +kernel
theorem dX8_beginsThing_78 : decode cX8_beginsThing 78 = .ok (.goto 4, 3) := by decide +kernel
theorem dX8_beginsThing_81 : decode cX8_beginsThing 81 = .ok (.iload_n 1, 1) := by decide +kernel
theorem dX8_beginsThing_82 : decode cX8_beginsThing 82 = .ok (.invokevirtual 75, 3) := by decide +kernel
theorem dX8_beginsThing_85 : decode cX8_beginsThing 85 = .ok (.iconst 1, 1) := by decide +kernel
theorem dX8_beginsThing_86 : decode cX8_beginsThing 86 = .ok (.ireturn, 1) := by decide +kernel
theorem dX8_beginsThing_87 : decode cX8_beginsThing 87 = .ok (.iload_n 1, 1) := by decide +kernel
theorem dX8_beginsThing_88 : decode cX8_beginsThing 88 = .ok (.bipush 40, 2) := by decide +kernel
theorem dX8_beginsThing_90 : decode cX8_beginsThing 90 = .ok (.if_icmp .ne 12, 3) := by decide +kernel
theorem dX8_beginsThing_93 : decode cX8_beginsThing 93 = .ok (.aload_n 0, 1) := by decide +kernel
theorem dX8_beginsThing_94 : decode cX8_beginsThing 94 = .ok (.getfield 26, 3) := by decide +kernel
theorem dX8_beginsThing_97 : decode cX8_beginsThing 97 = .ok (.bipush 6, 2) := by decide +kernel
theorem dX8_beginsThing_99 : decode cX8_beginsThing 99 = .ok (.if_icmp .lt 5, 3) := by decide +kernel
theorem dX8_binding_0 : decode cX8_binding 0 = .ok (.iload_n 0, 1) := by decide +kernel
theorem dX8_binding_1 : decode cX8_binding 1 = .ok (.lookupswitch 104 #[(33, 101), (38, 93), (42, 99), (43, 97), (45, 97), (60, 95), (61, 95), (62, 95), (124, 91), (126, 101)], 91) := by decide +kernel
theorem dX8_binding_100 : decode cX8_binding 100 = .ok (.iconst 5, 1) := by decide +kernel
theorem dX8_binding_101 : decode cX8_binding 101 = .ok (.ireturn, 1) := by decide +kernel
theorem dX8_binding_102 : decode cX8_binding 102 = .ok (.bipush 6, 2) := by decide +kernel
theorem dX8_binding_104 : decode cX8_binding 104 = .ok (.ireturn, 1) := by decide +kernel
theorem dX8_binding_105 : decode cX8_binding 105 = .ok (.iconst 0, 1) := by decide +kernel
theorem dX8_binding_106 : decode cX8_binding 106 = .ok (.ireturn, 1) := by decide +kernel
theorem dX8_binding_92 : decode cX8_binding 92 = .ok (.iconst 1, 1) := by decide +kernel
theorem dX8_binding_93 : decode cX8_binding 93 = .ok (.ireturn, 1) := by decide +kernel
theorem dX8_binding_94 : decode cX8_binding 94 = .ok (.iconst 2, 1) := by decide +kernel
theorem dX8_binding_95 : decode cX8_binding 95 = .ok (.ireturn, 1) := by decide +kernel
theorem dX8_binding_96 : decode cX8_binding 96 = .ok (.iconst 3, 1) := by decide +kernel
theorem dX8_binding_97 : decode cX8_binding 97 = .ok (.ireturn, 1) := by decide +kernel
theorem dX8_binding_98 : decode cX8_binding 98 = .ok (.iconst 4, 1) := by decide +kernel
theorem dX8_binding_99 : decode cX8_binding 99 = .ok (.ireturn, 1) := by decide +kernel
theorem dX8_close_0 : decode cX8_close 0 = .ok (.aload_n 0, 1) := by decide +kernel
theorem dX8_close_1 : decode cX8_close 1 = .ok (.getfield 23, 3) := by decide +kernel
theorem dX8_close_11 : decode cX8_close 11 = .ok (.aload_n 0, 1) := by decide +kernel
theorem dX8_close_12 : decode cX8_close 12 = .ok (.getfield 23, 3) := by decide +kernel
theorem dX8_close_15 : decode cX8_close 15 = .ok (.iconst 1, 1) := by decide +kernel
theorem dX8_close_16 : decode cX8_close 16 = .ok (.isub, 1) := by decide +kernel
theorem dX8_close_17 : decode cX8_close 17 = .ok (.caload, 1) := by decide +kernel
theorem dX8_close_18 : decode cX8_close 18 = .ok (.invokestatic 86, 3) := by decide +kernel
theorem dX8_close_21 : decode cX8_close 21 = .ok (.iload_n 1, 1) := by decide +kernel
theorem dX8_close_22 : decode cX8_close 22 = .ok (.if_icmp .lt 33, 3) := by decide +kernel
theorem dX8_close_25 : decode cX8_close 25 = .ok (.aload_n 0, 1) := by decide +kernel
theorem dX8_close_26 : decode cX8_close 26 = .ok (.dup, 1) := by decide +kernel
theorem dX8_close_27 : decode cX8_close 27 = .ok (.getfield 23, 3) := by decide +kernel
theorem dX8_close_30 : decode cX8_close 30 = .ok (.iconst 1, 1) := by decide +kernel
theorem dX8_close_31 : decode cX8_close 31 = .ok (.isub, 1) := by decide +kernel
theorem dX8_close_32 : decode cX8_close 32 = .ok (.putfield 23, 3) := by decide +kernel
theorem dX8_close_35 : decode cX8_close 35 = .ok (.aload_n 0, 1) := by decide +kernel
theorem dX8_close_36 : decode cX8_close 36 = .ok (.sipush 20000, 3) := by decide +kernel
theorem dX8_close_39 : decode cX8_close 39 = .ok (.aload_n 0, 1) := by decide +kernel
theorem dX8_close_4 : decode cX8_close 4 = .ok (.ifCond .le 51, 3) := by decide +kernel
theorem dX8_close_40 : decode cX8_close 40 = .ok (.getfield 15, 3) := by decide +kernel
theorem dX8_close_43 : decode cX8_close 43 = .ok (.aload_n 0, 1) := by decide +kernel
theorem dX8_close_44 : decode cX8_close 44 = .ok (.getfield 23, 3) := by decide +kernel
theorem dX8_close_47 : decode cX8_close 47 = .ok (.caload, 1) := by decide +kernel
theorem dX8_close_48 : decode cX8_close 48 = .ok (.iadd, 1) := by decide +kernel
theorem dX8_close_49 : decode cX8_close 49 = .ok (.invokevirtual 72, 3) := by decide +kernel
theorem dX8_close_52 : decode cX8_close 52 = .ok (.goto (-52), 3) := by decide +kernel
theorem dX8_close_55 : decode cX8_close 55 = .ok (.return_, 1) := by decide +kernel
theorem dX8_close_7 : decode cX8_close 7 = .ok (.aload_n 0, 1) := by decide +kernel
theorem dX8_close_8 : decode cX8_close 8 = .ok (.getfield 15, 3) := by decide +kernel
theorem dX8_closesBracket_0 : decode cX8_closesBracket 0 = .ok (.aload_n 0, 1) := by decide +kernel
theorem dX8_closesBracket_1 : decode cX8_closesBracket 1 = .ok (.getfield 26, 3) := by decide +kernel
theorem dX8_closesBracket_10 : decode cX8_closesBracket 10 = .ok (.iconst 1, 1) := by decide +kernel
theorem dX8_closesBracket_11 : decode cX8_closesBracket 11 = .ok (.invokevirtual 53, 3) := by decide +kernel
theorem dX8_closesBracket_14 : decode cX8_closesBracket 14 = .ok (.aload_n 0, 1) := by decide +kernel
theorem dX8_closesBracket_15 : decode cX8_closesBracket 15 = .ok (.getfield 23, 3) := by decide +kernel
theorem dX8_closesBracket_18 : decode cX8_closesBracket 18 = .ok (.ifCond .le 13, 3) := by decide +kernel
theorem dX8_closesBracket_21 : decode cX8_closesBracket 21 = .ok (.aload_n 0, 1) := by decide +kernel
theorem dX8_closesBracket_22 : decode cX8_closesBracket 22 = .ok (.dup, 1) := by decide +kernel
theorem dX8_closesBracket_23 : decode cX8_closesBracket 23 = .ok (.getfield 23, 3) := by decide +kernel
theorem dX8_closesBracket_26 : decode cX8_closesBracket 26 = .ok (.iconst 1, 1) := by decide +kernel
theorem dX8_closesBracket_27 : decode cX8_closesBracket 27 = .ok (.isub, 1) := by decide +kernel
theorem dX8_closesBracket_28 : decode cX8_closesBracket 28 = .ok (.putfield 23, 3) := by decide +kernel
theorem dX8_closesBracket_31 : decode cX8_closesBracket 31 = .ok (.aload_n 0, 1) := by decide +kernel
theorem dX8_closesBracket_32 : decode cX8_closesBracket 32 = .ok (.dup, 1) := by decide +kernel
theorem dX8_closesBracket_33 : decode cX8_closesBracket 33 = .ok (.getfield 26, 3) := by decide +kernel
theorem dX8_closesBracket_36 : decode cX8_closesBracket 36 = .ok (.iconst 1, 1) := by decide +kernel
theorem dX8_closesBracket_37 : decode cX8_closesBracket 37 = .ok (.isub, 1) := by decide +kernel
theorem dX8_closesBracket_38 : decode cX8_closesBracket 38 = .ok (.putfield 26, 3) := by decide +kernel
theorem dX8_closesBracket_4 : decode cX8_closesBracket 4 = .ok (.ifCond .ne 5, 3) := by decide +kernel
theorem dX8_closesBracket_41 : decode cX8_closesBracket 41 = .ok (.iconst 1, 1) := by decide +kernel
theorem dX8_closesBracket_42 : decode cX8_closesBracket 42 = .ok (.ireturn, 1) := by decide +kernel
theorem dX8_closesBracket_7 : decode cX8_closesBracket 7 = .ok (.iconst 0, 1) := by decide +kernel
theorem dX8_closesBracket_8 : decode cX8_closesBracket 8 = .ok (.ireturn, 1) := by decide +kernel
theorem dX8_closesBracket_9 : decode cX8_closesBracket 9 = .ok (.aload_n 0, 1) := by decide +kernel
theorem dX8_codeRead_0 : decode cX8_codeRead 0 = .ok (.aload_n 0, 1) := by decide +kernel
theorem dX8_codeRead_1 : decode cX8_codeRead 1 = .ok (.getfield 11, 3) := by decide +kernel
theorem dX8_codeRead_11 : decode cX8_codeRead 11 = .ok (.areturn, 1) := by decide +kernel
theorem dX8_codeRead_4 : decode cX8_codeRead 4 = .ok (.aload_n 0, 1) := by decide +kernel
theorem dX8_codeRead_5 : decode cX8_codeRead 5 = .ok (.getfield 19, 3) := by decide +kernel
theorem dX8_codeRead_8 : decode cX8_codeRead 8 = .ok (.invokestatic 57, 3) := by decide +kernel
theorem dX8_followsThing_0 : decode cX8_followsThing 0 = .ok (.iload_n 1, 1) := by decide +kernel
theorem dX8_followsThing_1 : decode cX8_followsThing 1 = .ok (.invokestatic 69, 3) := by decide +kernel
theorem dX8_followsThing_101 : decode cX8_followsThing 101 = .ok (.ishl, 1) := by decide +kernel
theorem dX8_followsThing_102 : decode cX8_followsThing 102 = .ok (.iconst (-1), 1) := by decide +kernel
theorem dX8_followsThing_103 : decode cX8_followsThing 103 = .ok (.ixor, 1) := by decide +kernel
theorem dX8_followsThing_104 : decode cX8_followsThing 104 = .ok (.iand, 1) := by decide +kernel
theorem dX8_followsThing_105 : decode cX8_followsThing 105 = .ok (.putfield 29, 3) := by decide +kernel
theorem dX8_followsThing_108 : decode cX8_followsThing 108 = .ok (.aload_n 0, 1) := by decide +kernel
theorem dX8_followsThing_109 : decode cX8_followsThing 109 = .ok (.iload_n 2, 1) := by decide +kernel
theorem dX8_followsThing_110 : decode cX8_followsThing 110 = .ok (.invokevirtual 53, 3) := by decide +kernel
theorem dX8_followsThing_113 : decode cX8_followsThing 113 = .ok (.aload_n 0, 1) := by decide +kernel
theorem dX8_followsThing_114 : decode cX8_followsThing 114 = .ok (.iload_n 1, 1) := by decide +kernel
theorem dX8_followsThing_115 : decode cX8_followsThing 115 = .ok (.invokevirtual 75, 3) := by decide +kernel
theorem dX8_followsThing_118 : decode cX8_followsThing 118 = .ok (.aload_n 0, 1) := by decide +kernel
theorem dX8_followsThing_119 : decode cX8_followsThing 119 = .ok (.iconst 1, 1) := by decide +kernel
theorem dX8_followsThing_12 : decode cX8_followsThing 12 = .ok (.ireturn, 1) := by decide +kernel
theorem dX8_followsThing_120 : decode cX8_followsThing 120 = .ok (.putfield 35, 3) := by decide +kernel
theorem dX8_followsThing_123 : decode cX8_followsThing 123 = .ok (.iconst 1, 1) := by decide +kernel
theorem dX8_followsThing_124 : decode cX8_followsThing 124 = .ok (.ireturn, 1) := by decide +kernel
theorem dX8_followsThing_13 : decode cX8_followsThing 13 = .ok (.aload_n 0, 1) := by decide +kernel
theorem dX8_followsThing_14 : decode cX8_followsThing 14 = .ok (.iconst 0, 1) := by decide +kernel
theorem dX8_followsThing_15 : decode cX8_followsThing 15 = .ok (.putfield 32, 3) := by decide +kernel
theorem dX8_followsThing_18 : decode cX8_followsThing 18 = .ok (.iload_n 1, 1) := by decide +kernel
theorem dX8_followsThing_19 : decode cX8_followsThing 19 = .ok (.bipush 41, 2) := by decide +kernel
theorem dX8_followsThing_21 : decode cX8_followsThing 21 = .ok (.if_icmp .ne 8, 3) := by decide +kernel
theorem dX8_followsThing_24 : decode cX8_followsThing 24 = .ok (.aload_n 0, 1) := by decide +kernel
theorem dX8_followsThing_25 : decode cX8_followsThing 25 = .ok (.invokevirtual 82, 3) := by decide +kernel
theorem dX8_followsThing_28 : decode cX8_followsThing 28 = .ok (.ireturn, 1) := by decide +kernel
theorem dX8_followsThing_29 : decode cX8_followsThing 29 = .ok (.iload_n 1, 1) := by decide +kernel
theorem dX8_followsThing_30 : decode cX8_followsThing 30 = .ok (.invokestatic 86, 3) := by decide +kernel
theorem dX8_followsThing_33 : decode cX8_followsThing 33 = .ok (.istore_n 2, 1) := by decide +kernel
theorem dX8_followsThing_34 : decode cX8_followsThing 34 = .ok (.iload_n 2, 1) := by decide +kernel
theorem dX8_followsThing_35 : decode cX8_followsThing 35 = .ok (.ifCond .eq 9, 3) := by decide +kernel
theorem dX8_followsThing_38 : decode cX8_followsThing 38 = .ok (.iload_n 2, 1) := by decide +kernel
theorem dX8_followsThing_39 : decode cX8_followsThing 39 = .ok (.bipush 6, 2) := by decide +kernel
theorem dX8_followsThing_4 : decode cX8_followsThing 4 = .ok (.ifCond .eq 9, 3) := by decide +kernel
theorem dX8_followsThing_41 : decode cX8_followsThing 41 = .ok (.if_icmp .ne 5, 3) := by decide +kernel
theorem dX8_followsThing_44 : decode cX8_followsThing 44 = .ok (.iconst 0, 1) := by decide +kernel
theorem dX8_followsThing_45 : decode cX8_followsThing 45 = .ok (.ireturn, 1) := by decide +kernel
theorem dX8_followsThing_46 : decode cX8_followsThing 46 = .ok (.iload_n 2, 1) := by decide +kernel
theorem dX8_followsThing_47 : decode cX8_followsThing 47 = .ok (.iconst 3, 1) := by decide +kernel
theorem dX8_followsThing_48 : decode cX8_followsThing 48 = .ok (.if_icmp .ne 38, 3) := by decide +kernel
theorem dX8_followsThing_51 : decode cX8_followsThing 51 = .ok (.aload_n 0, 1) := by decide +kernel
theorem dX8_followsThing_52 : decode cX8_followsThing 52 = .ok (.getfield 29, 3) := by decide +kernel
theorem dX8_followsThing_55 : decode cX8_followsThing 55 = .ok (.aload_n 0, 1) := by decide +kernel
theorem dX8_followsThing_56 : decode cX8_followsThing 56 = .ok (.getfield 26, 3) := by decide +kernel
theorem dX8_followsThing_59 : decode cX8_followsThing 59 = .ok (.ishr, 1) := by decide +kernel
theorem dX8_followsThing_60 : decode cX8_followsThing 60 = .ok (.iconst 1, 1) := by decide +kernel
theorem dX8_followsThing_61 : decode cX8_followsThing 61 = .ok (.iand, 1) := by decide +kernel
theorem dX8_followsThing_62 : decode cX8_followsThing 62 = .ok (.iconst 1, 1) := by decide +kernel
theorem dX8_followsThing_63 : decode cX8_followsThing 63 = .ok (.if_icmp .ne 5, 3) := by decide +kernel
theorem dX8_followsThing_66 : decode cX8_followsThing 66 = .ok (.iconst 0, 1) := by decide +kernel
theorem dX8_followsThing_67 : decode cX8_followsThing 67 = .ok (.ireturn, 1) := by decide +kernel
theorem dX8_followsThing_68 : decode cX8_followsThing 68 = .ok (.aload_n 0, 1) := by decide +kernel
theorem dX8_followsThing_69 : decode cX8_followsThing 69 = .ok (.dup, 1) := by decide +kernel
theorem dX8_followsThing_7 : decode cX8_followsThing 7 = .ok (.aload_n 0, 1) := by decide +kernel
theorem dX8_followsThing_70 : decode cX8_followsThing 70 = .ok (.getfield 29, 3) := by decide +kernel
theorem dX8_followsThing_73 : decode cX8_followsThing 73 = .ok (.iconst 1, 1) := by decide +kernel
theorem dX8_followsThing_74 : decode cX8_followsThing 74 = .ok (.aload_n 0, 1) := by decide +kernel
theorem dX8_followsThing_75 : decode cX8_followsThing 75 = .ok (.getfield 26, 3) := by decide +kernel
theorem dX8_followsThing_78 : decode cX8_followsThing 78 = .ok (.ishl, 1) := by decide +kernel
theorem dX8_followsThing_79 : decode cX8_followsThing 79 = .ok (.ior, 1) := by decide +kernel
theorem dX8_followsThing_8 : decode cX8_followsThing 8 = .ok (.iload_n 1, 1) := by decide +kernel
theorem dX8_followsThing_80 : decode cX8_followsThing 80 = .ok (.putfield 29, 3) := by decide +kernel
theorem dX8_followsThing_83 : decode cX8_followsThing 83 = .ok (.goto 25, 3) := by decide +kernel
theorem dX8_followsThing_86 : decode cX8_followsThing 86 = .ok (.iload_n 2, 1) := by decide +kernel
theorem dX8_followsThing_87 : decode cX8_followsThing 87 = .ok (.iconst 3, 1) := by decide +kernel
theorem dX8_followsThing_88 : decode cX8_followsThing 88 = .ok (.if_icmp .ge 20, 3) := by decide +kernel
theorem dX8_followsThing_9 : decode cX8_followsThing 9 = .ok (.invokevirtual 79, 3) := by decide +kernel
theorem dX8_followsThing_91 : decode cX8_followsThing 91 = .ok (.aload_n 0, 1) := by decide +kernel
theorem dX8_followsThing_92 : decode cX8_followsThing 92 = .ok (.dup, 1) := by decide +kernel
theorem dX8_followsThing_93 : decode cX8_followsThing 93 = .ok (.getfield 29, 3) := by decide +kernel
theorem dX8_followsThing_96 : decode cX8_followsThing 96 = .ok (.iconst 1, 1) := by decide +kernel
theorem dX8_followsThing_97 : decode cX8_followsThing 97 = .ok (.aload_n 0, 1) := by decide +kernel
theorem dX8_followsThing_98 : decode cX8_followsThing 98 = .ok (.getfield 26, 3) := by decide +kernel
theorem dX8_goesOnNumber_0 : decode cX8_goesOnNumber 0 = .ok (.aload_n 0, 1) := by decide +kernel
theorem dX8_goesOnNumber_1 : decode cX8_goesOnNumber 1 = .ok (.getfield 32, 3) := by decide +kernel
theorem dX8_goesOnNumber_11 : decode cX8_goesOnNumber 11 = .ok (.iconst 4, 1) := by decide +kernel
theorem dX8_goesOnNumber_12 : decode cX8_goesOnNumber 12 = .ok (.if_icmp .ge 11, 3) := by decide +kernel
theorem dX8_goesOnNumber_15 : decode cX8_goesOnNumber 15 = .ok (.aload_n 0, 1) := by decide +kernel
theorem dX8_goesOnNumber_16 : decode cX8_goesOnNumber 16 = .ok (.getfield 19, 3) := by decide +kernel
theorem dX8_goesOnNumber_19 : decode cX8_goesOnNumber 19 = .ok (.iconst 1, 1) := by decide +kernel
theorem dX8_goesOnNumber_20 : decode cX8_goesOnNumber 20 = .ok (.if_icmp .ge 5, 3) := by decide +kernel
theorem dX8_goesOnNumber_23 : decode cX8_goesOnNumber 23 = .ok (.iconst 0, 1) := by decide +kernel
theorem dX8_goesOnNumber_24 : decode cX8_goesOnNumber 24 = .ok (.ireturn, 1) := by decide +kernel
theorem dX8_goesOnNumber_25 : decode cX8_goesOnNumber 25 = .ok (.aload_n 0, 1) := by decide +kernel
theorem dX8_goesOnNumber_26 : decode cX8_goesOnNumber 26 = .ok (.getfield 11, 3) := by decide +kernel
theorem dX8_goesOnNumber_29 : decode cX8_goesOnNumber 29 = .ok (.aload_n 0, 1) := by decide +kernel
theorem dX8_goesOnNumber_30 : decode cX8_goesOnNumber 30 = .ok (.getfield 19, 3) := by decide +kernel
theorem dX8_goesOnNumber_33 : decode cX8_goesOnNumber 33 = .ok (.iconst 1, 1) := by decide +kernel
theorem dX8_goesOnNumber_34 : decode cX8_goesOnNumber 34 = .ok (.isub, 1) := by decide +kernel
theorem dX8_goesOnNumber_35 : decode cX8_goesOnNumber 35 = .ok (.aload_n 0, 1) := by decide +kernel
theorem dX8_goesOnNumber_36 : decode cX8_goesOnNumber 36 = .ok (.getfield 11, 3) := by decide +kernel
theorem dX8_goesOnNumber_39 : decode cX8_goesOnNumber 39 = .ok (.aload_n 0, 1) := by decide +kernel
theorem dX8_goesOnNumber_4 : decode cX8_goesOnNumber 4 = .ok (.ifCond .eq 19, 3) := by decide +kernel
theorem dX8_goesOnNumber_40 : decode cX8_goesOnNumber 40 = .ok (.getfield 19, 3) := by decide +kernel
theorem dX8_goesOnNumber_43 : decode cX8_goesOnNumber 43 = .ok (.iconst 1, 1) := by decide +kernel
theorem dX8_goesOnNumber_44 : decode cX8_goesOnNumber 44 = .ok (.isub, 1) := by decide +kernel
theorem dX8_goesOnNumber_45 : decode cX8_goesOnNumber 45 = .ok (.iaload, 1) := by decide +kernel
theorem dX8_goesOnNumber_46 : decode cX8_goesOnNumber 46 = .ok (.bipush 10, 2) := by decide +kernel
theorem dX8_goesOnNumber_48 : decode cX8_goesOnNumber 48 = .ok (.imul, 1) := by decide +kernel
theorem dX8_goesOnNumber_49 : decode cX8_goesOnNumber 49 = .ok (.iload_n 1, 1) := by decide +kernel
theorem dX8_goesOnNumber_50 : decode cX8_goesOnNumber 50 = .ok (.bipush 48, 2) := by decide +kernel
theorem dX8_goesOnNumber_52 : decode cX8_goesOnNumber 52 = .ok (.isub, 1) := by decide +kernel
theorem dX8_goesOnNumber_53 : decode cX8_goesOnNumber 53 = .ok (.iadd, 1) := by decide +kernel
theorem dX8_goesOnNumber_54 : decode cX8_goesOnNumber 54 = .ok (.iastore, 1) := by decide +kernel
theorem dX8_goesOnNumber_55 : decode cX8_goesOnNumber 55 = .ok (.aload_n 0, 1) := by decide +kernel
theorem dX8_goesOnNumber_56 : decode cX8_goesOnNumber 56 = .ok (.dup, 1) := by decide +kernel
theorem dX8_goesOnNumber_57 : decode cX8_goesOnNumber 57 = .ok (.getfield 32, 3) := by decide +kernel
theorem dX8_goesOnNumber_60 : decode cX8_goesOnNumber 60 = .ok (.iconst 1, 1) := by decide +kernel
theorem dX8_goesOnNumber_61 : decode cX8_goesOnNumber 61 = .ok (.iadd, 1) := by decide +kernel
theorem dX8_goesOnNumber_62 : decode cX8_goesOnNumber 62 = .ok (.putfield 32, 3) := by decide +kernel
theorem dX8_goesOnNumber_65 : decode cX8_goesOnNumber 65 = .ok (.iconst 1, 1) := by decide +kernel
theorem dX8_goesOnNumber_66 : decode cX8_goesOnNumber 66 = .ok (.ireturn, 1) := by decide +kernel
theorem dX8_goesOnNumber_7 : decode cX8_goesOnNumber 7 = .ok (.aload_n 0, 1) := by decide +kernel
theorem dX8_goesOnNumber_8 : decode cX8_goesOnNumber 8 = .ok (.getfield 32, 3) := by decide +kernel
theorem dX8_init_0 : decode cX8_init 0 = .ok (.aload_n 0, 1) := by decide +kernel
theorem dX8_init_1 : decode cX8_init 1 = .ok (.invokespecial 3, 3) := by decide +kernel
theorem dX8_init_12 : decode cX8_init 12 = .ok (.aload_n 0, 1) := by decide +kernel
theorem dX8_init_13 : decode cX8_init 13 = .ok (.bipush 60, 2) := by decide +kernel
theorem dX8_init_15 : decode cX8_init 15 = .ok (.newarray .char, 2) := by decide +kernel
theorem dX8_init_17 : decode cX8_init 17 = .ok (.putfield 15, 3) := by decide +kernel
theorem dX8_init_20 : decode cX8_init 20 = .ok (.return_, 1) := by decide +kernel
theorem dX8_init_4 : decode cX8_init 4 = .ok (.aload_n 0, 1) := by decide +kernel
theorem dX8_init_5 : decode cX8_init 5 = .ok (.bipush 60, 2) := by decide +kernel
theorem dX8_init_7 : decode cX8_init 7 = .ok (.newarray .int, 2) := by decide +kernel
theorem dX8_init_9 : decode cX8_init 9 = .ok (.putfield 11, 3) := by decide +kernel
theorem dX8_isDigit_0 : decode cX8_isDigit 0 = .ok (.iload_n 0, 1) := by decide +kernel
theorem dX8_isDigit_1 : decode cX8_isDigit 1 = .ok (.bipush 48, 2) := by decide +kernel
theorem dX8_isDigit_12 : decode cX8_isDigit 12 = .ok (.iconst 1, 1) := by decide +kernel
theorem dX8_isDigit_13 : decode cX8_isDigit 13 = .ok (.goto 4, 3) := by decide +kernel
theorem dX8_isDigit_16 : decode cX8_isDigit 16 = .ok (.iconst 0, 1) := by decide +kernel
theorem dX8_isDigit_17 : decode cX8_isDigit 17 = .ok (.ireturn, 1) := by decide +kernel
theorem dX8_isDigit_3 : decode cX8_isDigit 3 = .ok (.if_icmp .lt 13, 3) := by decide +kernel
theorem dX8_isDigit_6 : decode cX8_isDigit 6 = .ok (.iload_n 0, 1) := by decide +kernel
theorem dX8_isDigit_7 : decode cX8_isDigit 7 = .ok (.bipush 57, 2) := by decide +kernel
theorem dX8_isDigit_9 : decode cX8_isDigit 9 = .ok (.if_icmp .gt 7, 3) := by decide +kernel
theorem dX8_keepOpen_0 : decode cX8_keepOpen 0 = .ok (.aload_n 0, 1) := by decide +kernel
theorem dX8_keepOpen_1 : decode cX8_keepOpen 1 = .ok (.getfield 23, 3) := by decide +kernel
theorem dX8_keepOpen_12 : decode cX8_keepOpen 12 = .ok (.aload_n 0, 1) := by decide +kernel
theorem dX8_keepOpen_13 : decode cX8_keepOpen 13 = .ok (.getfield 15, 3) := by decide +kernel
theorem dX8_keepOpen_16 : decode cX8_keepOpen 16 = .ok (.aload_n 0, 1) := by decide +kernel
theorem dX8_keepOpen_17 : decode cX8_keepOpen 17 = .ok (.getfield 23, 3) := by decide +kernel
theorem dX8_keepOpen_20 : decode cX8_keepOpen 20 = .ok (.iload_n 1, 1) := by decide +kernel
theorem dX8_keepOpen_21 : decode cX8_keepOpen 21 = .ok (.castore, 1) := by decide +kernel
theorem dX8_keepOpen_22 : decode cX8_keepOpen 22 = .ok (.aload_n 0, 1) := by decide +kernel
theorem dX8_keepOpen_23 : decode cX8_keepOpen 23 = .ok (.dup, 1) := by decide +kernel
theorem dX8_keepOpen_24 : decode cX8_keepOpen 24 = .ok (.getfield 23, 3) := by decide +kernel
theorem dX8_keepOpen_27 : decode cX8_keepOpen 27 = .ok (.iconst 1, 1) := by decide +kernel
theorem dX8_keepOpen_28 : decode cX8_keepOpen 28 = .ok (.iadd, 1) := by decide +kernel
theorem dX8_keepOpen_29 : decode cX8_keepOpen 29 = .ok (.putfield 23, 3) := by decide +kernel
theorem dX8_keepOpen_32 : decode cX8_keepOpen 32 = .ok (.return_, 1) := by decide +kernel
theorem dX8_keepOpen_4 : decode cX8_keepOpen 4 = .ok (.aload_n 0, 1) := by decide +kernel
theorem dX8_keepOpen_5 : decode cX8_keepOpen 5 = .ok (.getfield 15, 3) := by decide +kernel
theorem dX8_keepOpen_8 : decode cX8_keepOpen 8 = .ok (.arraylength, 1) := by decide +kernel
theorem dX8_keepOpen_9 : decode cX8_keepOpen 9 = .ok (.if_icmp .ge 23, 3) := by decide +kernel
theorem dX8_read_0 : decode cX8_read 0 = .ok (.aload_n 0, 1) := by decide +kernel
theorem dX8_read_1 : decode cX8_read 1 = .ok (.iconst 0, 1) := by decide +kernel
theorem dX8_read_10 : decode cX8_read 10 = .ok (.aload_n 0, 1) := by decide +kernel
theorem dX8_read_102 : decode cX8_read 102 = .ok (.bipush 60, 2) := by decide +kernel
theorem dX8_read_104 : decode cX8_read 104 = .ok (.ireturn, 1) := by decide +kernel
theorem dX8_read_105 : decode cX8_read 105 = .ok (.aload_n 0, 1) := by decide +kernel
theorem dX8_read_106 : decode cX8_read 106 = .ok (.getfield 35, 3) := by decide +kernel
theorem dX8_read_109 : decode cX8_read 109 = .ok (.ifCond .ne 10, 3) := by decide +kernel
theorem dX8_read_11 : decode cX8_read 11 = .ok (.iconst 0, 1) := by decide +kernel
theorem dX8_read_112 : decode cX8_read 112 = .ok (.aload_n 0, 1) := by decide +kernel
theorem dX8_read_113 : decode cX8_read 113 = .ok (.getfield 26, 3) := by decide +kernel
theorem dX8_read_116 : decode cX8_read 116 = .ok (.ifCond .le 5, 3) := by decide +kernel
theorem dX8_read_119 : decode cX8_read 119 = .ok (.iload_n 2, 1) := by decide +kernel
theorem dX8_read_12 : decode cX8_read 12 = .ok (.putfield 26, 3) := by decide +kernel
theorem dX8_read_120 : decode cX8_read 120 = .ok (.ireturn, 1) := by decide +kernel
theorem dX8_read_121 : decode cX8_read 121 = .ok (.aload_n 0, 1) := by decide +kernel
theorem dX8_read_122 : decode cX8_read 122 = .ok (.iconst 1, 1) := by decide +kernel
theorem dX8_read_123 : decode cX8_read 123 = .ok (.invokevirtual 53, 3) := by decide +kernel
theorem dX8_read_126 : decode cX8_read 126 = .ok (.iconst (-1), 1) := by decide +kernel
theorem dX8_read_127 : decode cX8_read 127 = .ok (.ireturn, 1) := by decide +kernel
theorem dX8_read_15 : decode cX8_read 15 = .ok (.aload_n 0, 1) := by decide +kernel
theorem dX8_read_16 : decode cX8_read 16 = .ok (.iconst 0, 1) := by decide +kernel
theorem dX8_read_17 : decode cX8_read 17 = .ok (.putfield 29, 3) := by decide +kernel
theorem dX8_read_2 : decode cX8_read 2 = .ok (.putfield 19, 3) := by decide +kernel
theorem dX8_read_20 : decode cX8_read 20 = .ok (.aload_n 0, 1) := by decide +kernel
theorem dX8_read_21 : decode cX8_read 21 = .ok (.iconst 0, 1) := by decide +kernel
theorem dX8_read_22 : decode cX8_read 22 = .ok (.putfield 32, 3) := by decide +kernel
theorem dX8_read_25 : decode cX8_read 25 = .ok (.aload_n 0, 1) := by decide +kernel
theorem dX8_read_26 : decode cX8_read 26 = .ok (.iconst 1, 1) := by decide +kernel
theorem dX8_read_27 : decode cX8_read 27 = .ok (.putfield 35, 3) := by decide +kernel
theorem dX8_read_30 : decode cX8_read 30 = .ok (.iload_n 2, 1) := by decide +kernel
theorem dX8_read_31 : decode cX8_read 31 = .ok (.bipush 60, 2) := by decide +kernel
theorem dX8_read_33 : decode cX8_read 33 = .ok (.invokestatic 39, 3) := by decide +kernel
theorem dX8_read_36 : decode cX8_read 36 = .ok (.aload_n 1, 1) := by decide +kernel
theorem dX8_read_37 : decode cX8_read 37 = .ok (.arraylength, 1) := by decide +kernel
theorem dX8_read_38 : decode cX8_read 38 = .ok (.invokestatic 39, 3) := by decide +kernel
theorem dX8_read_41 : decode cX8_read 41 = .ok (.istore 4, 2) := by decide +kernel
theorem dX8_read_43 : decode cX8_read 43 = .ok (.iconst 0, 1) := by decide +kernel
theorem dX8_read_44 : decode cX8_read 44 = .ok (.istore 5, 2) := by decide +kernel
theorem dX8_read_46 : decode cX8_read 46 = .ok (.iload 5, 2) := by decide +kernel
theorem dX8_read_48 : decode cX8_read 48 = .ok (.iload 4, 2) := by decide +kernel
theorem dX8_read_5 : decode cX8_read 5 = .ok (.aload_n 0, 1) := by decide +kernel
theorem dX8_read_50 : decode cX8_read 50 = .ok (.if_icmp .ge 46, 3) := by decide +kernel
theorem dX8_read_53 : decode cX8_read 53 = .ok (.aload_n 0, 1) := by decide +kernel
theorem dX8_read_54 : decode cX8_read 54 = .ok (.getfield 35, 3) := by decide +kernel
theorem dX8_read_57 : decode cX8_read 57 = .ok (.ifCond .eq 15, 3) := by decide +kernel
theorem dX8_read_6 : decode cX8_read 6 = .ok (.iconst 0, 1) := by decide +kernel
theorem dX8_read_60 : decode cX8_read 60 = .ok (.aload_n 0, 1) := by decide +kernel
theorem dX8_read_61 : decode cX8_read 61 = .ok (.aload_n 1, 1) := by decide +kernel
theorem dX8_read_62 : decode cX8_read 62 = .ok (.iload 5, 2) := by decide +kernel
theorem dX8_read_64 : decode cX8_read 64 = .ok (.caload, 1) := by decide +kernel
theorem dX8_read_65 : decode cX8_read 65 = .ok (.aload_n 3, 1) := by decide +kernel
theorem dX8_read_66 : decode cX8_read 66 = .ok (.invokevirtual 45, 3) := by decide +kernel
theorem dX8_read_69 : decode cX8_read 69 = .ok (.goto 11, 3) := by decide +kernel
theorem dX8_read_7 : decode cX8_read 7 = .ok (.putfield 23, 3) := by decide +kernel
theorem dX8_read_72 : decode cX8_read 72 = .ok (.aload_n 0, 1) := by decide +kernel
theorem dX8_read_73 : decode cX8_read 73 = .ok (.aload_n 1, 1) := by decide +kernel
theorem dX8_read_74 : decode cX8_read 74 = .ok (.iload 5, 2) := by decide +kernel
theorem dX8_read_76 : decode cX8_read 76 = .ok (.caload, 1) := by decide +kernel
theorem dX8_read_77 : decode cX8_read 77 = .ok (.invokevirtual 49, 3) := by decide +kernel
theorem dX8_read_80 : decode cX8_read 80 = .ok (.istore 6, 2) := by decide +kernel
theorem dX8_read_82 : decode cX8_read 82 = .ok (.iload 6, 2) := by decide +kernel
theorem dX8_read_84 : decode cX8_read 84 = .ok (.ifCond .ne 6, 3) := by decide +kernel
theorem dX8_read_87 : decode cX8_read 87 = .ok (.iload 5, 2) := by decide +kernel
theorem dX8_read_89 : decode cX8_read 89 = .ok (.ireturn, 1) := by decide +kernel
theorem dX8_read_90 : decode cX8_read 90 = .ok (.iinc 5 1, 3) := by decide +kernel
theorem dX8_read_93 : decode cX8_read 93 = .ok (.goto (-47), 3) := by decide +kernel
theorem dX8_read_96 : decode cX8_read 96 = .ok (.iload_n 2, 1) := by decide +kernel
theorem dX8_read_97 : decode cX8_read 97 = .ok (.bipush 60, 2) := by decide +kernel
theorem dX8_read_99 : decode cX8_read 99 = .ok (.if_icmp .le 6, 3) := by decide +kernel
theorem dX8_write_0 : decode cX8_write 0 = .ok (.aload_n 0, 1) := by decide +kernel
theorem dX8_write_1 : decode cX8_write 1 = .ok (.getfield 19, 3) := by decide +kernel
theorem dX8_write_12 : decode cX8_write 12 = .ok (.aload_n 0, 1) := by decide +kernel
theorem dX8_write_13 : decode cX8_write 13 = .ok (.getfield 11, 3) := by decide +kernel
theorem dX8_write_16 : decode cX8_write 16 = .ok (.aload_n 0, 1) := by decide +kernel
theorem dX8_write_17 : decode cX8_write 17 = .ok (.getfield 19, 3) := by decide +kernel
theorem dX8_write_20 : decode cX8_write 20 = .ok (.iload_n 1, 1) := by decide +kernel
theorem dX8_write_21 : decode cX8_write 21 = .ok (.iastore, 1) := by decide +kernel
theorem dX8_write_22 : decode cX8_write 22 = .ok (.aload_n 0, 1) := by decide +kernel
theorem dX8_write_23 : decode cX8_write 23 = .ok (.dup, 1) := by decide +kernel
theorem dX8_write_24 : decode cX8_write 24 = .ok (.getfield 19, 3) := by decide +kernel
theorem dX8_write_27 : decode cX8_write 27 = .ok (.iconst 1, 1) := by decide +kernel
theorem dX8_write_28 : decode cX8_write 28 = .ok (.iadd, 1) := by decide +kernel
theorem dX8_write_29 : decode cX8_write 29 = .ok (.putfield 19, 3) := by decide +kernel
theorem dX8_write_32 : decode cX8_write 32 = .ok (.return_, 1) := by decide +kernel
theorem dX8_write_4 : decode cX8_write 4 = .ok (.aload_n 0, 1) := by decide +kernel
theorem dX8_write_5 : decode cX8_write 5 = .ok (.getfield 11, 3) := by decide +kernel
theorem dX8_write_8 : decode cX8_write 8 = .ok (.arraylength, 1) := by decide +kernel
theorem dX8_write_9 : decode cX8_write 9 = .ok (.if_icmp .ge 23, 3) := by decide +kernel
theorem dX9_init_0 : decode cX9_init 0 = .ok (.aload_n 0, 1) := by decide +kernel
theorem dX9_init_1 : decode cX9_init 1 = .ok (.invokespecial 1, 3) := by decide +kernel
theorem dX9_init_10 : decode cX9_init 10 = .ok (.iload_n 2, 1) := by decide +kernel
theorem dX9_init_11 : decode cX9_init 11 = .ok (.putfield 13, 3) := by decide +kernel
theorem dX9_init_14 : decode cX9_init 14 = .ok (.aload_n 0, 1) := by decide +kernel
theorem dX9_init_15 : decode cX9_init 15 = .ok (.aload_n 3, 1) := by decide +kernel
theorem dX9_init_16 : decode cX9_init 16 = .ok (.putfield 16, 3) := by decide +kernel
theorem dX9_init_19 : decode cX9_init 19 = .ok (.return_, 1) := by decide +kernel
theorem dX9_init_4 : decode cX9_init 4 = .ok (.aload_n 0, 1) := by decide +kernel
theorem dX9_init_5 : decode cX9_init 5 = .ok (.iload_n 1, 1) := by decide +kernel
theorem dX9_init_6 : decode cX9_init 6 = .ok (.putfield 7, 3) := by decide +kernel
theorem dX9_init_9 : decode cX9_init 9 = .ok (.aload_n 0, 1) := by decide +kernel
