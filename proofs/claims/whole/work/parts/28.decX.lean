theorem dJ6_bitCount_0f7a4_0 : decode cJ6_bitCount_0f7a4 0 = .ok (.iload_n 0, 1) := by decide +kernel
theorem dJ6_bitCount_0f7a4_1 : decode cJ6_bitCount_0f7a4 1 = .ok (.iload_n 0, 1) := by decide +kernel
theorem dJ6_bitCount_0f7a4_2 : decode cJ6_bitCount_0f7a4 2 = .ok (.iconst 1, 1) := by decide +kernel
theorem dJ6_bitCount_0f7a4_3 : decode cJ6_bitCount_0f7a4 3 = .ok (.iushr, 1) := by decide +kernel
theorem dJ6_bitCount_0f7a4_4 : decode cJ6_bitCount_0f7a4 4 = .ok (.ldc_w 265, 3) := by decide +kernel
theorem dJ6_bitCount_0f7a4_7 : decode cJ6_bitCount_0f7a4 7 = .ok (.iand, 1) := by decide +kernel
theorem dJ6_bitCount_0f7a4_8 : decode cJ6_bitCount_0f7a4 8 = .ok (.isub, 1) := by decide +kernel
theorem dJ6_bitCount_0f7a4_9 : decode cJ6_bitCount_0f7a4 9 = .ok (.istore_n 0, 1) := by decide +kernel
theorem dJ6_bitCount_0f7a4_10 : decode cJ6_bitCount_0f7a4 10 = .ok (.iload_n 0, 1) := by decide +kernel
theorem dJ6_bitCount_0f7a4_11 : decode cJ6_bitCount_0f7a4 11 = .ok (.ldc_w 266, 3) := by decide +kernel
theorem dJ6_bitCount_0f7a4_14 : decode cJ6_bitCount_0f7a4 14 = .ok (.iand, 1) := by decide +kernel
theorem dJ6_bitCount_0f7a4_15 : decode cJ6_bitCount_0f7a4 15 = .ok (.iload_n 0, 1) := by decide +kernel
theorem dJ6_bitCount_0f7a4_16 : decode cJ6_bitCount_0f7a4 16 = .ok (.iconst 2, 1) := by decide +kernel
theorem dJ6_bitCount_0f7a4_17 : decode cJ6_bitCount_0f7a4 17 = .ok (.iushr, 1) := by decide +kernel
theorem dJ6_bitCount_0f7a4_18 : decode cJ6_bitCount_0f7a4 18 = .ok (.ldc_w 266, 3) := by decide +kernel
theorem dJ6_bitCount_0f7a4_21 : decode cJ6_bitCount_0f7a4 21 = .ok (.iand, 1) := by decide +kernel
theorem dJ6_bitCount_0f7a4_22 : decode cJ6_bitCount_0f7a4 22 = .ok (.iadd, 1) := by decide +kernel
theorem dJ6_bitCount_0f7a4_23 : decode cJ6_bitCount_0f7a4 23 = .ok (.istore_n 0, 1) := by decide +kernel
theorem dJ6_bitCount_0f7a4_24 : decode cJ6_bitCount_0f7a4 24 = .ok (.iload_n 0, 1) := by decide +kernel
theorem dJ6_bitCount_0f7a4_25 : decode cJ6_bitCount_0f7a4 25 = .ok (.iload_n 0, 1) := by decide +kernel
theorem dJ6_bitCount_0f7a4_26 : decode cJ6_bitCount_0f7a4 26 = .ok (.iconst 4, 1) := by decide +kernel
theorem dJ6_bitCount_0f7a4_27 : decode cJ6_bitCount_0f7a4 27 = .ok (.iushr, 1) := by decide +kernel
theorem dJ6_bitCount_0f7a4_28 : decode cJ6_bitCount_0f7a4 28 = .ok (.iadd, 1) := by decide +kernel
theorem dJ6_bitCount_0f7a4_29 : decode cJ6_bitCount_0f7a4 29 = .ok (.ldc_w 267, 3) := by decide +kernel
theorem dJ6_bitCount_0f7a4_32 : decode cJ6_bitCount_0f7a4 32 = .ok (.iand, 1) := by decide +kernel
theorem dJ6_bitCount_0f7a4_33 : decode cJ6_bitCount_0f7a4 33 = .ok (.istore_n 0, 1) := by decide +kernel
theorem dJ6_bitCount_0f7a4_34 : decode cJ6_bitCount_0f7a4 34 = .ok (.iload_n 0, 1) := by decide +kernel
theorem dJ6_bitCount_0f7a4_35 : decode cJ6_bitCount_0f7a4 35 = .ok (.iload_n 0, 1) := by decide +kernel
theorem dJ6_bitCount_0f7a4_36 : decode cJ6_bitCount_0f7a4 36 = .ok (.bipush 8, 2) := by decide +kernel
theorem dJ6_bitCount_0f7a4_38 : decode cJ6_bitCount_0f7a4 38 = .ok (.iushr, 1) := by decide +kernel
theorem dJ6_bitCount_0f7a4_39 : decode cJ6_bitCount_0f7a4 39 = .ok (.iadd, 1) := by decide +kernel
theorem dJ6_bitCount_0f7a4_40 : decode cJ6_bitCount_0f7a4 40 = .ok (.istore_n 0, 1) := by decide +kernel
theorem dJ6_bitCount_0f7a4_41 : decode cJ6_bitCount_0f7a4 41 = .ok (.iload_n 0, 1) := by decide +kernel
theorem dJ6_bitCount_0f7a4_42 : decode cJ6_bitCount_0f7a4 42 = .ok (.iload_n 0, 1) := by decide +kernel
theorem dJ6_bitCount_0f7a4_43 : decode cJ6_bitCount_0f7a4 43 = .ok (.bipush 16, 2) := by decide +kernel
theorem dJ6_bitCount_0f7a4_45 : decode cJ6_bitCount_0f7a4 45 = .ok (.iushr, 1) := by decide +kernel
theorem dJ6_bitCount_0f7a4_46 : decode cJ6_bitCount_0f7a4 46 = .ok (.iadd, 1) := by decide +kernel
theorem dJ6_bitCount_0f7a4_47 : decode cJ6_bitCount_0f7a4 47 = .ok (.istore_n 0, 1) := by decide +kernel
theorem dJ6_bitCount_0f7a4_48 : decode cJ6_bitCount_0f7a4 48 = .ok (.iload_n 0, 1) := by decide +kernel
theorem dJ6_bitCount_0f7a4_49 : decode cJ6_bitCount_0f7a4 49 = .ok (.bipush 63, 2) := by decide +kernel
theorem dJ6_bitCount_0f7a4_51 : decode cJ6_bitCount_0f7a4 51 = .ok (.iand, 1) := by decide +kernel
theorem dJ6_bitCount_0f7a4_52 : decode cJ6_bitCount_0f7a4 52 = .ok (.ireturn, 1) := by decide +kernel
theorem dJ9_max_7cf53_0 : decode cJ9_max_7cf53 0 = .ok (.iload_n 0, 1) := by decide +kernel
theorem dJ9_max_7cf53_1 : decode cJ9_max_7cf53 1 = .ok (.iload_n 1, 1) := by decide +kernel
theorem dJ9_max_7cf53_2 : decode cJ9_max_7cf53 2 = .ok (.if_icmp .lt 7, 3) := by decide +kernel
theorem dJ9_max_7cf53_5 : decode cJ9_max_7cf53 5 = .ok (.iload_n 0, 1) := by decide +kernel
theorem dJ9_max_7cf53_6 : decode cJ9_max_7cf53 6 = .ok (.goto 4, 3) := by decide +kernel
theorem dJ9_max_7cf53_9 : decode cJ9_max_7cf53 9 = .ok (.iload_n 1, 1) := by decide +kernel
theorem dJ9_max_7cf53_10 : decode cJ9_max_7cf53 10 = .ok (.ireturn, 1) := by decide +kernel
theorem dJ9_min_7cf53_0 : decode cJ9_min_7cf53 0 = .ok (.iload_n 0, 1) := by decide +kernel
theorem dJ9_min_7cf53_1 : decode cJ9_min_7cf53 1 = .ok (.iload_n 1, 1) := by decide +kernel
theorem dJ9_min_7cf53_2 : decode cJ9_min_7cf53 2 = .ok (.if_icmp .gt 7, 3) := by decide +kernel
theorem dJ9_min_7cf53_5 : decode cJ9_min_7cf53 5 = .ok (.iload_n 0, 1) := by decide +kernel
theorem dJ9_min_7cf53_6 : decode cJ9_min_7cf53 6 = .ok (.goto 4, 3) := by decide +kernel
theorem dJ9_min_7cf53_9 : decode cJ9_min_7cf53 9 = .ok (.iload_n 1, 1) := by decide +kernel
theorem dJ9_min_7cf53_10 : decode cJ9_min_7cf53 10 = .ok (.ireturn, 1) := by decide +kernel
theorem dJ0_length_8abf5_0 : decode cJ0_length_8abf5 0 = .ok (.aload_n 0, 1) := by decide +kernel
theorem dJ0_length_8abf5_1 : decode cJ0_length_8abf5 1 = .ok (.getfield 9, 3) := by decide +kernel
theorem dJ0_length_8abf5_4 : decode cJ0_length_8abf5 4 = .ok (.arraylength, 1) := by decide +kernel
theorem dJ0_length_8abf5_5 : decode cJ0_length_8abf5 5 = .ok (.aload_n 0, 1) := by decide +kernel
theorem dJ0_length_8abf5_6 : decode cJ0_length_8abf5 6 = .ok (.invokevirtual 335, 3) := by decide +kernel
theorem dJ0_length_8abf5_9 : decode cJ0_length_8abf5 9 = .ok (.ishr, 1) := by decide +kernel
theorem dJ0_length_8abf5_10 : decode cJ0_length_8abf5 10 = .ok (.ireturn, 1) := by decide +kernel
theorem dJ0_charAt_5068e_0 : decode cJ0_charAt_5068e 0 = .ok (.aload_n 0, 1) := by decide +kernel
theorem dJ0_charAt_5068e_1 : decode cJ0_charAt_5068e 1 = .ok (.invokevirtual 492, 3) := by decide +kernel
theorem dJ0_charAt_5068e_4 : decode cJ0_charAt_5068e 4 = .ok (.ifCond .eq 12, 3) := by decide +kernel
theorem dJ0_charAt_5068e_7 : decode cJ0_charAt_5068e 7 = .ok (.aload_n 0, 1) := by decide +kernel
theorem dJ0_charAt_5068e_8 : decode cJ0_charAt_5068e 8 = .ok (.getfield 9, 3) := by decide +kernel
theorem dJ0_charAt_5068e_11 : decode cJ0_charAt_5068e 11 = .ok (.iload_n 1, 1) := by decide +kernel
theorem dJ0_charAt_5068e_12 : decode cJ0_charAt_5068e 12 = .ok (.invokestatic 495, 3) := by decide +kernel
theorem dJ0_charAt_5068e_15 : decode cJ0_charAt_5068e 15 = .ok (.ireturn, 1) := by decide +kernel
theorem dJ0_charAt_5068e_16 : decode cJ0_charAt_5068e 16 = .ok (.aload_n 0, 1) := by decide +kernel
theorem dJ0_charAt_5068e_17 : decode cJ0_charAt_5068e 17 = .ok (.getfield 9, 3) := by decide +kernel
theorem dJ0_charAt_5068e_20 : decode cJ0_charAt_5068e 20 = .ok (.iload_n 1, 1) := by decide +kernel
theorem dJ0_charAt_5068e_21 : decode cJ0_charAt_5068e 21 = .ok (.invokestatic 498, 3) := by decide +kernel
theorem dJ0_charAt_5068e_24 : decode cJ0_charAt_5068e 24 = .ok (.ireturn, 1) := by decide +kernel
theorem dJ0_coder_7d493_0 : decode cJ0_coder_7d493 0 = .ok (.getstatic 38, 3) := by decide +kernel
theorem dJ0_coder_7d493_3 : decode cJ0_coder_7d493 3 = .ok (.ifCond .eq 10, 3) := by decide +kernel
theorem dJ0_coder_7d493_6 : decode cJ0_coder_7d493 6 = .ok (.aload_n 0, 1) := by decide +kernel
theorem dJ0_coder_7d493_7 : decode cJ0_coder_7d493 7 = .ok (.getfield 15, 3) := by decide +kernel
theorem dJ0_coder_7d493_10 : decode cJ0_coder_7d493 10 = .ok (.goto 4, 3) := by decide +kernel
theorem dJ0_coder_7d493_13 : decode cJ0_coder_7d493 13 = .ok (.iconst 1, 1) := by decide +kernel
theorem dJ0_coder_7d493_14 : decode cJ0_coder_7d493 14 = .ok (.ireturn, 1) := by decide +kernel
theorem dJ0_isLatin1_aae02_0 : decode cJ0_isLatin1_aae02 0 = .ok (.getstatic 38, 3) := by decide +kernel
theorem dJ0_isLatin1_aae02_3 : decode cJ0_isLatin1_aae02 3 = .ok (.ifCond .eq 14, 3) := by decide +kernel
theorem dJ0_isLatin1_aae02_6 : decode cJ0_isLatin1_aae02 6 = .ok (.aload_n 0, 1) := by decide +kernel
theorem dJ0_isLatin1_aae02_7 : decode cJ0_isLatin1_aae02 7 = .ok (.getfield 15, 3) := by decide +kernel
theorem dJ0_isLatin1_aae02_10 : decode cJ0_isLatin1_aae02 10 = .ok (.ifCond .ne 7, 3) := by decide +kernel
theorem dJ0_isLatin1_aae02_13 : decode cJ0_isLatin1_aae02 13 = .ok (.iconst 1, 1) := by decide +kernel
theorem dJ0_isLatin1_aae02_14 : decode cJ0_isLatin1_aae02 14 = .ok (.goto 4, 3) := by decide +kernel
theorem dJ0_isLatin1_aae02_17 : decode cJ0_isLatin1_aae02 17 = .ok (.iconst 0, 1) := by decide +kernel
theorem dJ0_isLatin1_aae02_18 : decode cJ0_isLatin1_aae02 18 = .ok (.ireturn, 1) := by decide +kernel
theorem dJ0_checkIndex_df160_0 : decode cJ0_checkIndex_df160 0 = .ok (.iload_n 0, 1) := by decide +kernel
theorem dJ0_checkIndex_df160_1 : decode cJ0_checkIndex_df160 1 = .ok (.iload_n 1, 1) := by decide +kernel
theorem dJ0_checkIndex_df160_2 : decode cJ0_checkIndex_df160 2 = .ok (.getstatic 1053, 3) := by decide +kernel
theorem dJ0_checkIndex_df160_5 : decode cJ0_checkIndex_df160 5 = .ok (.invokestatic 1059, 3) := by decide +kernel
theorem dJ0_checkIndex_df160_8 : decode cJ0_checkIndex_df160 8 = .ok (.pop, 1) := by decide +kernel
theorem dJ0_checkIndex_df160_9 : decode cJ0_checkIndex_df160 9 = .ok (.return_, 1) := by decide +kernel
theorem dJ1_charAt_3b067_0 : decode cJ1_charAt_3b067 0 = .ok (.iload_n 1, 1) := by decide +kernel
theorem dJ1_charAt_3b067_1 : decode cJ1_charAt_3b067 1 = .ok (.aload_n 0, 1) := by decide +kernel
theorem dJ1_charAt_3b067_2 : decode cJ1_charAt_3b067 2 = .ok (.arraylength, 1) := by decide +kernel
theorem dJ1_charAt_3b067_3 : decode cJ1_charAt_3b067 3 = .ok (.invokestatic 9, 3) := by decide +kernel
theorem dJ1_charAt_3b067_6 : decode cJ1_charAt_3b067 6 = .ok (.aload_n 0, 1) := by decide +kernel
theorem dJ1_charAt_3b067_7 : decode cJ1_charAt_3b067 7 = .ok (.iload_n 1, 1) := by decide +kernel
theorem dJ1_charAt_3b067_8 : decode cJ1_charAt_3b067 8 = .ok (.baload, 1) := by decide +kernel
theorem dJ1_charAt_3b067_9 : decode cJ1_charAt_3b067 9 = .ok (.sipush 255, 3) := by decide +kernel
theorem dJ1_charAt_3b067_12 : decode cJ1_charAt_3b067 12 = .ok (.iand, 1) := by decide +kernel
theorem dJ1_charAt_3b067_13 : decode cJ1_charAt_3b067 13 = .ok (.i2c, 1) := by decide +kernel
theorem dJ1_charAt_3b067_14 : decode cJ1_charAt_3b067 14 = .ok (.ireturn, 1) := by decide +kernel
theorem dJ2_getChar_3b067_0 : decode cJ2_getChar_3b067 0 = .ok (.getstatic 44, 3) := by decide +kernel
theorem dJ2_getChar_3b067_3 : decode cJ2_getChar_3b067 3 = .ok (.ifCond .ne 25, 3) := by decide +kernel
theorem dJ2_getChar_3b067_6 : decode cJ2_getChar_3b067 6 = .ok (.iload_n 1, 1) := by decide +kernel
theorem dJ2_getChar_3b067_7 : decode cJ2_getChar_3b067 7 = .ok (.ifCond .lt 11, 3) := by decide +kernel
theorem dJ2_getChar_3b067_10 : decode cJ2_getChar_3b067 10 = .ok (.iload_n 1, 1) := by decide +kernel
theorem dJ2_getChar_3b067_11 : decode cJ2_getChar_3b067 11 = .ok (.aload_n 0, 1) := by decide +kernel
theorem dJ2_getChar_3b067_12 : decode cJ2_getChar_3b067 12 = .ok (.invokestatic 48, 3) := by decide +kernel
theorem dJ2_getChar_3b067_15 : decode cJ2_getChar_3b067 15 = .ok (.if_icmp .lt 13, 3) := by decide +kernel
theorem dJ2_getChar_3b067_18 : decode cJ2_getChar_3b067 18 = .ok (.new 52, 3) := by decide +kernel
theorem dJ2_getChar_3b067_21 : decode cJ2_getChar_3b067 21 = .ok (.dup, 1) := by decide +kernel
theorem dJ2_getChar_3b067_22 : decode cJ2_getChar_3b067 22 = .ok (.ldc 54, 2) := by decide +kernel
theorem dJ2_getChar_3b067_24 : decode cJ2_getChar_3b067 24 = .ok (.invokespecial 56, 3) := by decide +kernel
theorem dJ2_getChar_3b067_27 : decode cJ2_getChar_3b067 27 = .ok (.athrow, 1) := by decide +kernel
theorem dJ2_getChar_3b067_28 : decode cJ2_getChar_3b067 28 = .ok (.iload_n 1, 1) := by decide +kernel
theorem dJ2_getChar_3b067_29 : decode cJ2_getChar_3b067 29 = .ok (.iconst 1, 1) := by decide +kernel
theorem dJ2_getChar_3b067_30 : decode cJ2_getChar_3b067 30 = .ok (.ishl, 1) := by decide +kernel
theorem dJ2_getChar_3b067_31 : decode cJ2_getChar_3b067 31 = .ok (.istore_n 1, 1) := by decide +kernel
theorem dJ2_getChar_3b067_32 : decode cJ2_getChar_3b067 32 = .ok (.aload_n 0, 1) := by decide +kernel
theorem dJ2_getChar_3b067_33 : decode cJ2_getChar_3b067 33 = .ok (.iload_n 1, 1) := by decide +kernel
theorem dJ2_getChar_3b067_34 : decode cJ2_getChar_3b067 34 = .ok (.iinc 1 1, 3) := by decide +kernel
theorem dJ2_getChar_3b067_37 : decode cJ2_getChar_3b067 37 = .ok (.baload, 1) := by decide +kernel
theorem dJ2_getChar_3b067_38 : decode cJ2_getChar_3b067 38 = .ok (.sipush 255, 3) := by decide +kernel
theorem dJ2_getChar_3b067_41 : decode cJ2_getChar_3b067 41 = .ok (.iand, 1) := by decide +kernel
theorem dJ2_getChar_3b067_42 : decode cJ2_getChar_3b067 42 = .ok (.getstatic 59, 3) := by decide +kernel
theorem dJ2_getChar_3b067_45 : decode cJ2_getChar_3b067 45 = .ok (.ishl, 1) := by decide +kernel
theorem dJ2_getChar_3b067_46 : decode cJ2_getChar_3b067 46 = .ok (.aload_n 0, 1) := by decide +kernel
theorem dJ2_getChar_3b067_47 : decode cJ2_getChar_3b067 47 = .ok (.iload_n 1, 1) := by decide +kernel
theorem dJ2_getChar_3b067_48 : decode cJ2_getChar_3b067 48 = .ok (.baload, 1) := by decide +kernel
theorem dJ2_getChar_3b067_49 : decode cJ2_getChar_3b067 49 = .ok (.sipush 255, 3) := by decide +kernel
theorem dJ2_getChar_3b067_52 : decode cJ2_getChar_3b067 52 = .ok (.iand, 1) := by decide +kernel
theorem dJ2_getChar_3b067_53 : decode cJ2_getChar_3b067 53 = .ok (.getstatic 63, 3) := by decide +kernel
theorem dJ2_getChar_3b067_56 : decode cJ2_getChar_3b067 56 = .ok (.ishl, 1) := by decide +kernel
theorem dJ2_getChar_3b067_57 : decode cJ2_getChar_3b067 57 = .ok (.ior, 1) := by decide +kernel
theorem dJ2_getChar_3b067_58 : decode cJ2_getChar_3b067 58 = .ok (.i2c, 1) := by decide +kernel
theorem dJ2_getChar_3b067_59 : decode cJ2_getChar_3b067 59 = .ok (.ireturn, 1) := by decide +kernel
theorem dJ2_length_9d52b_0 : decode cJ2_length_9d52b 0 = .ok (.aload_n 0, 1) := by decide +kernel
theorem dJ2_length_9d52b_1 : decode cJ2_length_9d52b 1 = .ok (.arraylength, 1) := by decide +kernel
theorem dJ2_length_9d52b_2 : decode cJ2_length_9d52b 2 = .ok (.iconst 1, 1) := by decide +kernel
theorem dJ2_length_9d52b_3 : decode cJ2_length_9d52b 3 = .ok (.ishr, 1) := by decide +kernel
theorem dJ2_length_9d52b_4 : decode cJ2_length_9d52b 4 = .ok (.ireturn, 1) := by decide +kernel
theorem dJ2_charAt_3b067_0 : decode cJ2_charAt_3b067 0 = .ok (.iload_n 1, 1) := by decide +kernel
theorem dJ2_charAt_3b067_1 : decode cJ2_charAt_3b067 1 = .ok (.aload_n 0, 1) := by decide +kernel
theorem dJ2_charAt_3b067_2 : decode cJ2_charAt_3b067 2 = .ok (.invokestatic 67, 3) := by decide +kernel
theorem dJ2_charAt_3b067_5 : decode cJ2_charAt_3b067 5 = .ok (.aload_n 0, 1) := by decide +kernel
theorem dJ2_charAt_3b067_6 : decode cJ2_charAt_3b067 6 = .ok (.iload_n 1, 1) := by decide +kernel
theorem dJ2_charAt_3b067_7 : decode cJ2_charAt_3b067 7 = .ok (.invokestatic 71, 3) := by decide +kernel
theorem dJ2_charAt_3b067_10 : decode cJ2_charAt_3b067 10 = .ok (.ireturn, 1) := by decide +kernel
theorem dJ2_checkIndex_2214a_0 : decode cJ2_checkIndex_2214a 0 = .ok (.iload_n 0, 1) := by decide +kernel
theorem dJ2_checkIndex_2214a_1 : decode cJ2_checkIndex_2214a 1 = .ok (.aload_n 1, 1) := by decide +kernel
theorem dJ2_checkIndex_2214a_2 : decode cJ2_checkIndex_2214a 2 = .ok (.invokestatic 48, 3) := by decide +kernel
theorem dJ2_checkIndex_2214a_5 : decode cJ2_checkIndex_2214a 5 = .ok (.invokestatic 414, 3) := by decide +kernel
theorem dJ2_checkIndex_2214a_8 : decode cJ2_checkIndex_2214a 8 = .ok (.return_, 1) := by decide +kernel
theorem dJ3_checkIndex_8e157_0 : decode cJ3_checkIndex_8e157 0 = .ok (.iload_n 0, 1) := by decide +kernel
theorem dJ3_checkIndex_8e157_1 : decode cJ3_checkIndex_8e157 1 = .ok (.ifCond .lt 8, 3) := by decide +kernel
theorem dJ3_checkIndex_8e157_4 : decode cJ3_checkIndex_8e157 4 = .ok (.iload_n 0, 1) := by decide +kernel
theorem dJ3_checkIndex_8e157_5 : decode cJ3_checkIndex_8e157 5 = .ok (.iload_n 1, 1) := by decide +kernel
theorem dJ3_checkIndex_8e157_6 : decode cJ3_checkIndex_8e157 6 = .ok (.if_icmp .lt 10, 3) := by decide +kernel
theorem dJ3_checkIndex_8e157_9 : decode cJ3_checkIndex_8e157 9 = .ok (.aload_n 2, 1) := by decide +kernel
theorem dJ3_checkIndex_8e157_10 : decode cJ3_checkIndex_8e157 10 = .ok (.iload_n 0, 1) := by decide +kernel
theorem dJ3_checkIndex_8e157_11 : decode cJ3_checkIndex_8e157 11 = .ok (.iload_n 1, 1) := by decide +kernel
theorem dJ3_checkIndex_8e157_12 : decode cJ3_checkIndex_8e157 12 = .ok (.invokestatic 95, 3) := by decide +kernel
theorem dJ3_checkIndex_8e157_15 : decode cJ3_checkIndex_8e157 15 = .ok (.athrow, 1) := by decide +kernel
theorem dJ3_checkIndex_8e157_16 : decode cJ3_checkIndex_8e157 16 = .ok (.iload_n 0, 1) := by decide +kernel
theorem dJ3_checkIndex_8e157_17 : decode cJ3_checkIndex_8e157 17 = .ok (.ireturn, 1) := by decide +kernel
theorem dX0_init_0 : decode cX0_init 0 = .ok (.aload_n 0, 1) := by decide +kernel
theorem dX0_init_1 : decode cX0_init 1 = .ok (.invokespecial 3, 3) := by decide +kernel
theorem dX0_init_4 : decode cX0_init 4 = .ok (.aload_n 0, 1) := by decide +kernel
theorem dX0_init_5 : decode cX0_init 5 = .ok (.bipush 8, 2) := by decide +kernel
theorem dX0_init_7 : decode cX0_init 7 = .ok (.newarray .int, 2) := by decide +kernel
theorem dX0_init_9 : decode cX0_init 9 = .ok (.putfield 9, 3) := by decide +kernel
theorem dX0_init_12 : decode cX0_init 12 = .ok (.return_, 1) := by decide +kernel
theorem dX0_clear_0 : decode cX0_clear 0 = .ok (.aload_n 0, 1) := by decide +kernel
theorem dX0_clear_1 : decode cX0_clear 1 = .ok (.iconst 0, 1) := by decide +kernel
theorem dX0_clear_2 : decode cX0_clear 2 = .ok (.putfield 15, 3) := by decide +kernel
theorem dX0_clear_5 : decode cX0_clear 5 = .ok (.iconst 0, 1) := by decide +kernel
theorem dX0_clear_6 : decode cX0_clear 6 = .ok (.istore_n 1, 1) := by decide +kernel
theorem dX0_clear_7 : decode cX0_clear 7 = .ok (.iload_n 1, 1) := by decide +kernel
theorem dX0_clear_8 : decode cX0_clear 8 = .ok (.aload_n 0, 1) := by decide +kernel
theorem dX0_clear_9 : decode cX0_clear 9 = .ok (.getfield 9, 3) := by decide +kernel
theorem dX0_clear_12 : decode cX0_clear 12 = .ok (.arraylength, 1) := by decide +kernel
theorem dX0_clear_13 : decode cX0_clear 13 = .ok (.if_icmp .ge 16, 3) := by decide +kernel
theorem dX0_clear_16 : decode cX0_clear 16 = .ok (.aload_n 0, 1) := by decide +kernel
theorem dX0_clear_17 : decode cX0_clear 17 = .ok (.getfield 9, 3) := by decide +kernel
theorem dX0_clear_20 : decode cX0_clear 20 = .ok (.iload_n 1, 1) := by decide +kernel
theorem dX0_clear_21 : decode cX0_clear 21 = .ok (.iconst (-1), 1) := by decide +kernel
theorem dX0_clear_22 : decode cX0_clear 22 = .ok (.iastore, 1) := by decide +kernel
theorem dX0_clear_23 : decode cX0_clear 23 = .ok (.iinc 1 1, 3) := by decide +kernel
theorem dX0_clear_26 : decode cX0_clear 26 = .ok (.goto (-19), 3) := by decide +kernel
theorem dX0_clear_29 : decode cX0_clear 29 = .ok (.return_, 1) := by decide +kernel
theorem dX0_take_0 : decode cX0_take 0 = .ok (.aload_n 0, 1) := by decide +kernel
theorem dX0_take_1 : decode cX0_take 1 = .ok (.aload_n 1, 1) := by decide +kernel
theorem dX0_take_2 : decode cX0_take 2 = .ok (.getfield 15, 3) := by decide +kernel
theorem dX0_take_5 : decode cX0_take 5 = .ok (.putfield 15, 3) := by decide +kernel
theorem dX0_take_8 : decode cX0_take 8 = .ok (.aload_n 1, 1) := by decide +kernel
theorem dX0_take_9 : decode cX0_take 9 = .ok (.getfield 9, 3) := by decide +kernel
theorem dX0_take_12 : decode cX0_take 12 = .ok (.iconst 0, 1) := by decide +kernel
theorem dX0_take_13 : decode cX0_take 13 = .ok (.aload_n 0, 1) := by decide +kernel
theorem dX0_take_14 : decode cX0_take 14 = .ok (.getfield 9, 3) := by decide +kernel
theorem dX0_take_17 : decode cX0_take 17 = .ok (.iconst 0, 1) := by decide +kernel
theorem dX0_take_18 : decode cX0_take 18 = .ok (.bipush 8, 2) := by decide +kernel
theorem dX0_take_20 : decode cX0_take 20 = .ok (.invokestatic 19, 3) := by decide +kernel
theorem dX0_take_23 : decode cX0_take 23 = .ok (.return_, 1) := by decide +kernel
theorem dX0_tellsOf_0 : decode cX0_tellsOf 0 = .ok (.aload_n 0, 1) := by decide +kernel
theorem dX0_tellsOf_1 : decode cX0_tellsOf 1 = .ok (.getfield 15, 3) := by decide +kernel
theorem dX0_tellsOf_4 : decode cX0_tellsOf 4 = .ok (.ifCond .le 19, 3) := by decide +kernel
theorem dX0_tellsOf_7 : decode cX0_tellsOf 7 = .ok (.aload_n 0, 1) := by decide +kernel
theorem dX0_tellsOf_8 : decode cX0_tellsOf 8 = .ok (.getfield 9, 3) := by decide +kernel
theorem dX0_tellsOf_11 : decode cX0_tellsOf 11 = .ok (.iload_n 1, 1) := by decide +kernel
theorem dX0_tellsOf_12 : decode cX0_tellsOf 12 = .ok (.invokestatic 25, 3) := by decide +kernel
theorem dX0_tellsOf_15 : decode cX0_tellsOf 15 = .ok (.iconst (-1), 1) := by decide +kernel
theorem dX0_tellsOf_16 : decode cX0_tellsOf 16 = .ok (.if_icmp .eq 7, 3) := by decide +kernel
theorem dX0_tellsOf_19 : decode cX0_tellsOf 19 = .ok (.iconst 1, 1) := by decide +kernel
theorem dX0_tellsOf_20 : decode cX0_tellsOf 20 = .ok (.goto 4, 3) := by decide +kernel
theorem dX0_tellsOf_23 : decode cX0_tellsOf 23 = .ok (.iconst 0, 1) := by decide +kernel
theorem dX0_tellsOf_24 : decode cX0_tellsOf 24 = .ok (.ireturn, 1) := by decide +kernel
theorem dX0_isRightFor_0 : decode cX0_isRightFor 0 = .ok (.iconst 0, 1) := by decide +kernel
theorem dX0_isRightFor_1 : decode cX0_isRightFor 1 = .ok (.istore_n 2, 1) := by decide +kernel
theorem dX0_isRightFor_2 : decode cX0_isRightFor 2 = .ok (.iload_n 2, 1) := by decide +kernel
theorem dX0_isRightFor_3 : decode cX0_isRightFor 3 = .ok (.bipush 8, 2) := by decide +kernel
theorem dX0_isRightFor_5 : decode cX0_isRightFor 5 = .ok (.if_icmp .ge 35, 3) := by decide +kernel
theorem dX0_isRightFor_8 : decode cX0_isRightFor 8 = .ok (.aload_n 0, 1) := by decide +kernel
theorem dX0_isRightFor_9 : decode cX0_isRightFor 9 = .ok (.iload_n 2, 1) := by decide +kernel
theorem dX0_isRightFor_10 : decode cX0_isRightFor 10 = .ok (.invokevirtual 29, 3) := by decide +kernel
theorem dX0_isRightFor_13 : decode cX0_isRightFor 13 = .ok (.ifCond .eq 21, 3) := by decide +kernel
theorem dX0_isRightFor_16 : decode cX0_isRightFor 16 = .ok (.aload_n 1, 1) := by decide +kernel
theorem dX0_isRightFor_17 : decode cX0_isRightFor 17 = .ok (.iload_n 2, 1) := by decide +kernel
theorem dX0_isRightFor_18 : decode cX0_isRightFor 18 = .ok (.invokevirtual 33, 3) := by decide +kernel
theorem dX0_isRightFor_21 : decode cX0_isRightFor 21 = .ok (.aload_n 0, 1) := by decide +kernel
theorem dX0_isRightFor_22 : decode cX0_isRightFor 22 = .ok (.getfield 9, 3) := by decide +kernel
theorem dX0_isRightFor_25 : decode cX0_isRightFor 25 = .ok (.iload_n 2, 1) := by decide +kernel
theorem dX0_isRightFor_26 : decode cX0_isRightFor 26 = .ok (.invokestatic 25, 3) := by decide +kernel
theorem dX0_isRightFor_29 : decode cX0_isRightFor 29 = .ok (.if_icmp .eq 5, 3) := by decide +kernel
theorem dX0_isRightFor_32 : decode cX0_isRightFor 32 = .ok (.iconst 0, 1) := by decide +kernel
theorem dX0_isRightFor_33 : decode cX0_isRightFor 33 = .ok (.ireturn, 1) := by decide +kernel
theorem dX0_isRightFor_34 : decode cX0_isRightFor 34 = .ok (.iinc 2 1, 3) := by decide +kernel
theorem dX0_isRightFor_37 : decode cX0_isRightFor 37 = .ok (.goto (-35), 3) := by decide +kernel
theorem dX0_isRightFor_40 : decode cX0_isRightFor 40 = .ok (.iconst 1, 1) := by decide +kernel
theorem dX0_isRightFor_41 : decode cX0_isRightFor 41 = .ok (.ireturn, 1) := by decide +kernel
theorem dX0_readFrom_0 : decode cX0_readFrom 0 = .ok (.aload_n 0, 1) := by decide +kernel
theorem dX0_readFrom_1 : decode cX0_readFrom 1 = .ok (.invokevirtual 39, 3) := by decide +kernel
theorem dX0_readFrom_4 : decode cX0_readFrom 4 = .ok (.iconst 0, 1) := by decide +kernel
theorem dX0_readFrom_5 : decode cX0_readFrom 5 = .ok (.istore_n 3, 1) := by decide +kernel
theorem dX0_readFrom_6 : decode cX0_readFrom 6 = .ok (.iload_n 3, 1) := by decide +kernel
theorem dX0_readFrom_7 : decode cX0_readFrom 7 = .ok (.bipush 8, 2) := by decide +kernel
theorem dX0_readFrom_9 : decode cX0_readFrom 9 = .ok (.if_icmp .gt 83, 3) := by decide +kernel
theorem dX0_readFrom_12 : decode cX0_readFrom 12 = .ok (.aload_n 1, 1) := by decide +kernel
theorem dX0_readFrom_13 : decode cX0_readFrom 13 = .ok (.invokevirtual 42, 3) := by decide +kernel
theorem dX0_readFrom_16 : decode cX0_readFrom 16 = .ok (.ifCond .eq 76, 3) := by decide +kernel
theorem dX0_readFrom_19 : decode cX0_readFrom 19 = .ok (.aload_n 1, 1) := by decide +kernel
theorem dX0_readFrom_20 : decode cX0_readFrom 20 = .ok (.iconst 0, 1) := by decide +kernel
theorem dX0_readFrom_21 : decode cX0_readFrom 21 = .ok (.iload_n 2, 1) := by decide +kernel
theorem dX0_readFrom_22 : decode cX0_readFrom 22 = .ok (.iconst 1, 1) := by decide +kernel
theorem dX0_readFrom_23 : decode cX0_readFrom 23 = .ok (.isub, 1) := by decide +kernel
theorem dX0_readFrom_24 : decode cX0_readFrom 24 = .ok (.invokevirtual 48, 3) := by decide +kernel
theorem dX0_readFrom_27 : decode cX0_readFrom 27 = .ok (.istore 4, 2) := by decide +kernel
theorem dX0_readFrom_29 : decode cX0_readFrom 29 = .ok (.aload_n 1, 1) := by decide +kernel
theorem dX0_readFrom_30 : decode cX0_readFrom 30 = .ok (.invokevirtual 52, 3) := by decide +kernel
theorem dX0_readFrom_33 : decode cX0_readFrom 33 = .ok (.ifCond .eq 21, 3) := by decide +kernel
theorem dX0_readFrom_36 : decode cX0_readFrom 36 = .ok (.aload_n 0, 1) := by decide +kernel
theorem dX0_readFrom_37 : decode cX0_readFrom 37 = .ok (.iload 4, 2) := by decide +kernel
theorem dX0_readFrom_39 : decode cX0_readFrom 39 = .ok (.invokevirtual 29, 3) := by decide +kernel
theorem dX0_readFrom_42 : decode cX0_readFrom 42 = .ok (.ifCond .eq 12, 3) := by decide +kernel
theorem dX0_readFrom_45 : decode cX0_readFrom 45 = .ok (.aload_n 1, 1) := by decide +kernel
theorem dX0_readFrom_46 : decode cX0_readFrom 46 = .ok (.iconst 2, 1) := by decide +kernel
theorem dX0_readFrom_47 : decode cX0_readFrom 47 = .ok (.aload_n 1, 1) := by decide +kernel
theorem dX0_readFrom_48 : decode cX0_readFrom 48 = .ok (.getfield 55, 3) := by decide +kernel
theorem dX0_readFrom_51 : decode cX0_readFrom 51 = .ok (.invokevirtual 58, 3) := by decide +kernel
theorem dX0_readFrom_54 : decode cX0_readFrom 54 = .ok (.aload_n 0, 1) := by decide +kernel
theorem dX0_readFrom_55 : decode cX0_readFrom 55 = .ok (.getfield 9, 3) := by decide +kernel
theorem dX0_readFrom_58 : decode cX0_readFrom 58 = .ok (.iload 4, 2) := by decide +kernel
theorem dX0_readFrom_60 : decode cX0_readFrom 60 = .ok (.aload_n 1, 1) := by decide +kernel
theorem dX0_readFrom_61 : decode cX0_readFrom 61 = .ok (.iconst 0, 1) := by decide +kernel
theorem dX0_readFrom_62 : decode cX0_readFrom 62 = .ok (.bipush 8, 2) := by decide +kernel
theorem dX0_readFrom_64 : decode cX0_readFrom 64 = .ok (.invokevirtual 48, 3) := by decide +kernel
theorem dX0_readFrom_67 : decode cX0_readFrom 67 = .ok (.invokestatic 62, 3) := by decide +kernel
theorem dX0_readFrom_70 : decode cX0_readFrom 70 = .ok (.aload_n 0, 1) := by decide +kernel
theorem dX0_readFrom_71 : decode cX0_readFrom 71 = .ok (.dup, 1) := by decide +kernel
theorem dX0_readFrom_72 : decode cX0_readFrom 72 = .ok (.getfield 15, 3) := by decide +kernel
theorem dX0_readFrom_75 : decode cX0_readFrom 75 = .ok (.iconst 1, 1) := by decide +kernel
theorem dX0_readFrom_76 : decode cX0_readFrom 76 = .ok (.iadd, 1) := by decide +kernel
theorem dX0_readFrom_77 : decode cX0_readFrom 77 = .ok (.putfield 15, 3) := by decide +kernel
theorem dX0_readFrom_80 : decode cX0_readFrom 80 = .ok (.aload_n 1, 1) := by decide +kernel
theorem dX0_readFrom_81 : decode cX0_readFrom 81 = .ok (.bipush 59, 2) := by decide +kernel
theorem dX0_readFrom_83 : decode cX0_readFrom 83 = .ok (.invokevirtual 66, 3) := by decide +kernel
theorem dX0_readFrom_86 : decode cX0_readFrom 86 = .ok (.iinc 3 1, 3) := by decide +kernel
theorem dX0_readFrom_89 : decode cX0_readFrom 89 = .ok (.goto (-83), 3) := by decide +kernel
theorem dX0_readFrom_92 : decode cX0_readFrom 92 = .ok (.return_, 1) := by decide +kernel
theorem dX1_init_0 : decode cX1_init 0 = .ok (.aload_n 0, 1) := by decide +kernel
theorem dX1_init_1 : decode cX1_init 1 = .ok (.invokespecial 3, 3) := by decide +kernel
theorem dX1_init_4 : decode cX1_init 4 = .ok (.aload_n 0, 1) := by decide +kernel
theorem dX1_init_5 : decode cX1_init 5 = .ok (.iconst 3, 1) := by decide +kernel
theorem dX1_init_6 : decode cX1_init 6 = .ok (.putfield 9, 3) := by decide +kernel
theorem dX1_init_9 : decode cX1_init 9 = .ok (.aload_n 0, 1) := by decide +kernel
theorem dX1_init_10 : decode cX1_init 10 = .ok (.bipush 8, 2) := by decide +kernel
theorem dX1_init_12 : decode cX1_init 12 = .ok (.newarray .int, 2) := by decide +kernel
theorem dX1_init_14 : decode cX1_init 14 = .ok (.putfield 15, 3) := by decide +kernel
theorem dX1_init_17 : decode cX1_init 17 = .ok (.aload_n 0, 1) := by decide +kernel
theorem dX1_init_18 : decode cX1_init 18 = .ok (.bipush 8, 2) := by decide +kernel
theorem dX1_init_20 : decode cX1_init 20 = .ok (.newarray .int, 2) := by decide +kernel
theorem dX1_init_22 : decode cX1_init 22 = .ok (.putfield 19, 3) := by decide +kernel
theorem dX1_init_25 : decode cX1_init 25 = .ok (.aload_n 0, 1) := by decide +kernel
theorem dX1_init_26 : decode cX1_init 26 = .ok (.bipush 8, 2) := by decide +kernel
theorem dX1_init_28 : decode cX1_init 28 = .ok (.newarray .int, 2) := by decide +kernel
theorem dX1_init_30 : decode cX1_init 30 = .ok (.putfield 22, 3) := by decide +kernel
theorem dX1_init_33 : decode cX1_init 33 = .ok (.return_, 1) := by decide +kernel
theorem dX1_take_0 : decode cX1_take 0 = .ok (.aload_n 0, 1) := by decide +kernel
theorem dX1_take_1 : decode cX1_take 1 = .ok (.aload_n 1, 1) := by decide +kernel
theorem dX1_take_2 : decode cX1_take 2 = .ok (.getfield 25, 3) := by decide +kernel
theorem dX1_take_5 : decode cX1_take 5 = .ok (.putfield 25, 3) := by decide +kernel
theorem dX1_take_8 : decode cX1_take 8 = .ok (.aload_n 0, 1) := by decide +kernel
theorem dX1_take_9 : decode cX1_take 9 = .ok (.aload_n 1, 1) := by decide +kernel
theorem dX1_take_10 : decode cX1_take 10 = .ok (.getfield 9, 3) := by decide +kernel
theorem dX1_take_13 : decode cX1_take 13 = .ok (.putfield 9, 3) := by decide +kernel
theorem dX1_take_16 : decode cX1_take 16 = .ok (.aload_n 1, 1) := by decide +kernel
theorem dX1_take_17 : decode cX1_take 17 = .ok (.getfield 15, 3) := by decide +kernel
theorem dX1_take_20 : decode cX1_take 20 = .ok (.iconst 0, 1) := by decide +kernel
theorem dX1_take_21 : decode cX1_take 21 = .ok (.aload_n 0, 1) := by decide +kernel
theorem dX1_take_22 : decode cX1_take 22 = .ok (.getfield 15, 3) := by decide +kernel
theorem dX1_take_25 : decode cX1_take 25 = .ok (.iconst 0, 1) := by decide +kernel
theorem dX1_take_26 : decode cX1_take 26 = .ok (.bipush 8, 2) := by decide +kernel
theorem dX1_take_28 : decode cX1_take 28 = .ok (.invokestatic 28, 3) := by decide +kernel
theorem dX1_take_31 : decode cX1_take 31 = .ok (.aload_n 1, 1) := by decide +kernel
theorem dX1_take_32 : decode cX1_take 32 = .ok (.getfield 19, 3) := by decide +kernel
theorem dX1_take_35 : decode cX1_take 35 = .ok (.iconst 0, 1) := by decide +kernel
theorem dX1_take_36 : decode cX1_take 36 = .ok (.aload_n 0, 1) := by decide +kernel
theorem dX1_take_37 : decode cX1_take 37 = .ok (.getfield 19, 3) := by decide +kernel
theorem dX1_take_40 : decode cX1_take 40 = .ok (.iconst 0, 1) := by decide +kernel
theorem dX1_take_41 : decode cX1_take 41 = .ok (.bipush 8, 2) := by decide +kernel
theorem dX1_take_43 : decode cX1_take 43 = .ok (.invokestatic 28, 3) := by decide +kernel
theorem dX1_take_46 : decode cX1_take 46 = .ok (.aload_n 1, 1) := by decide +kernel
theorem dX1_take_47 : decode cX1_take 47 = .ok (.getfield 22, 3) := by decide +kernel
theorem dX1_take_50 : decode cX1_take 50 = .ok (.iconst 0, 1) := by decide +kernel
theorem dX1_take_51 : decode cX1_take 51 = .ok (.aload_n 0, 1) := by decide +kernel
theorem dX1_take_52 : decode cX1_take 52 = .ok (.getfield 22, 3) := by decide +kernel
theorem dX1_take_55 : decode cX1_take 55 = .ok (.iconst 0, 1) := by decide +kernel
theorem dX1_take_56 : decode cX1_take 56 = .ok (.bipush 8, 2) := by decide +kernel
theorem dX1_take_58 : decode cX1_take 58 = .ok (.invokestatic 28, 3) := by decide +kernel
theorem dX1_take_61 : decode cX1_take 61 = .ok (.return_, 1) := by decide +kernel
theorem dX1_areFriends_0 : decode cX1_areFriends 0 = .ok (.iload_n 2, 1) := by decide +kernel
theorem dX1_areFriends_1 : decode cX1_areFriends 1 = .ok (.ifCond .lt 29, 3) := by decide +kernel
theorem dX1_areFriends_4 : decode cX1_areFriends 4 = .ok (.iload_n 2, 1) := by decide +kernel
theorem dX1_areFriends_5 : decode cX1_areFriends 5 = .ok (.bipush 8, 2) := by decide +kernel
theorem dX1_areFriends_7 : decode cX1_areFriends 7 = .ok (.if_icmp .ge 23, 3) := by decide +kernel
theorem dX1_areFriends_10 : decode cX1_areFriends 10 = .ok (.aload_n 0, 1) := by decide +kernel
theorem dX1_areFriends_11 : decode cX1_areFriends 11 = .ok (.getfield 22, 3) := by decide +kernel
theorem dX1_areFriends_14 : decode cX1_areFriends 14 = .ok (.iload_n 1, 1) := by decide +kernel
theorem dX1_areFriends_15 : decode cX1_areFriends 15 = .ok (.invokestatic 34, 3) := by decide +kernel
theorem dX1_areFriends_18 : decode cX1_areFriends 18 = .ok (.iload_n 2, 1) := by decide +kernel
theorem dX1_areFriends_19 : decode cX1_areFriends 19 = .ok (.ishr, 1) := by decide +kernel
theorem dX1_areFriends_20 : decode cX1_areFriends 20 = .ok (.iconst 1, 1) := by decide +kernel
theorem dX1_areFriends_21 : decode cX1_areFriends 21 = .ok (.iand, 1) := by decide +kernel
theorem dX1_areFriends_22 : decode cX1_areFriends 22 = .ok (.iconst 1, 1) := by decide +kernel
theorem dX1_areFriends_23 : decode cX1_areFriends 23 = .ok (.if_icmp .ne 7, 3) := by decide +kernel
theorem dX1_areFriends_26 : decode cX1_areFriends 26 = .ok (.iconst 1, 1) := by decide +kernel
theorem dX1_areFriends_27 : decode cX1_areFriends 27 = .ok (.goto 4, 3) := by decide +kernel
theorem dX1_areFriends_30 : decode cX1_areFriends 30 = .ok (.iconst 0, 1) := by decide +kernel
theorem dX1_areFriends_31 : decode cX1_areFriends 31 = .ok (.ireturn, 1) := by decide +kernel
theorem dX1_readFrom_0 : decode cX1_readFrom 0 = .ok (.aload_n 0, 1) := by decide +kernel
theorem dX1_readFrom_1 : decode cX1_readFrom 1 = .ok (.iconst 0, 1) := by decide +kernel
theorem dX1_readFrom_2 : decode cX1_readFrom 2 = .ok (.putfield 25, 3) := by decide +kernel
theorem dX1_readFrom_5 : decode cX1_readFrom 5 = .ok (.aload_n 0, 1) := by decide +kernel
theorem dX1_readFrom_6 : decode cX1_readFrom 6 = .ok (.iconst 3, 1) := by decide +kernel
theorem dX1_readFrom_7 : decode cX1_readFrom 7 = .ok (.putfield 9, 3) := by decide +kernel
theorem dX1_readFrom_10 : decode cX1_readFrom 10 = .ok (.iconst 0, 1) := by decide +kernel
theorem dX1_readFrom_11 : decode cX1_readFrom 11 = .ok (.istore_n 2, 1) := by decide +kernel
theorem dX1_readFrom_12 : decode cX1_readFrom 12 = .ok (.iload_n 2, 1) := by decide +kernel
theorem dX1_readFrom_13 : decode cX1_readFrom 13 = .ok (.bipush 60, 2) := by decide +kernel
theorem dX1_readFrom_15 : decode cX1_readFrom 15 = .ok (.if_icmp .gt 22, 3) := by decide +kernel
theorem dX1_readFrom_18 : decode cX1_readFrom 18 = .ok (.aload_n 1, 1) := by decide +kernel
theorem dX1_readFrom_19 : decode cX1_readFrom 19 = .ok (.invokevirtual 38, 3) := by decide +kernel
theorem dX1_readFrom_22 : decode cX1_readFrom 22 = .ok (.ifCond .eq 15, 3) := by decide +kernel
theorem dX1_readFrom_25 : decode cX1_readFrom 25 = .ok (.aload_n 0, 1) := by decide +kernel
theorem dX1_readFrom_26 : decode cX1_readFrom 26 = .ok (.aload_n 1, 1) := by decide +kernel
theorem dX1_readFrom_27 : decode cX1_readFrom 27 = .ok (.iload_n 2, 1) := by decide +kernel
theorem dX1_readFrom_28 : decode cX1_readFrom 28 = .ok (.invokevirtual 44, 3) := by decide +kernel
theorem dX1_readFrom_31 : decode cX1_readFrom 31 = .ok (.iinc 2 1, 3) := by decide +kernel
theorem dX1_readFrom_34 : decode cX1_readFrom 34 = .ok (.goto (-22), 3) := by decide +kernel
theorem dX1_readFrom_37 : decode cX1_readFrom 37 = .ok (.return_, 1) := by decide +kernel
theorem dX1_readClause_0 : decode cX1_readClause 0 = .ok (.aload_n 1, 1) := by decide +kernel
theorem dX1_readClause_1 : decode cX1_readClause 1 = .ok (.invokevirtual 48, 3) := by decide +kernel
theorem dX1_readClause_4 : decode cX1_readClause 4 = .ok (.aload_n 1, 1) := by decide +kernel
theorem dX1_readClause_5 : decode cX1_readClause 5 = .ok (.ldc 51, 2) := by decide +kernel
theorem dX1_readClause_7 : decode cX1_readClause 7 = .ok (.invokevirtual 53, 3) := by decide +kernel
theorem dX1_readClause_10 : decode cX1_readClause 10 = .ok (.istore_n 3, 1) := by decide +kernel
theorem dX1_readClause_11 : decode cX1_readClause 11 = .ok (.aload_n 1, 1) := by decide +kernel
theorem dX1_readClause_12 : decode cX1_readClause 12 = .ok (.ldc 57, 2) := by decide +kernel
theorem dX1_readClause_14 : decode cX1_readClause 14 = .ok (.invokevirtual 53, 3) := by decide +kernel
theorem dX1_readClause_17 : decode cX1_readClause 17 = .ok (.istore 4, 2) := by decide +kernel
theorem dX1_readClause_19 : decode cX1_readClause 19 = .ok (.iload_n 3, 1) := by decide +kernel
theorem dX1_readClause_20 : decode cX1_readClause 20 = .ok (.ifCond .ne 29, 3) := by decide +kernel
theorem dX1_readClause_23 : decode cX1_readClause 23 = .ok (.iload 4, 2) := by decide +kernel
theorem dX1_readClause_25 : decode cX1_readClause 25 = .ok (.ifCond .ne 24, 3) := by decide +kernel
theorem dX1_readClause_28 : decode cX1_readClause 28 = .ok (.aload_n 1, 1) := by decide +kernel
theorem dX1_readClause_29 : decode cX1_readClause 29 = .ok (.ldc 59, 2) := by decide +kernel
theorem dX1_readClause_31 : decode cX1_readClause 31 = .ok (.invokevirtual 53, 3) := by decide +kernel
theorem dX1_readClause_34 : decode cX1_readClause 34 = .ok (.ifCond .ne 15, 3) := by decide +kernel
theorem dX1_readClause_37 : decode cX1_readClause 37 = .ok (.aload_n 1, 1) := by decide +kernel
theorem dX1_readClause_38 : decode cX1_readClause 38 = .ok (.iconst 1, 1) := by decide +kernel
theorem dX1_readClause_39 : decode cX1_readClause 39 = .ok (.aload_n 1, 1) := by decide +kernel
theorem dX1_readClause_40 : decode cX1_readClause 40 = .ok (.getfield 60, 3) := by decide +kernel
theorem dX1_readClause_43 : decode cX1_readClause 43 = .ok (.invokevirtual 63, 3) := by decide +kernel
theorem dX1_readClause_46 : decode cX1_readClause 46 = .ok (.goto 69, 3) := by decide +kernel
theorem dX1_readClause_49 : decode cX1_readClause 49 = .ok (.iload_n 2, 1) := by decide +kernel
theorem dX1_readClause_50 : decode cX1_readClause 50 = .ok (.bipush 60, 2) := by decide +kernel
theorem dX1_readClause_52 : decode cX1_readClause 52 = .ok (.if_icmp .ge 16, 3) := by decide +kernel
theorem dX1_readClause_55 : decode cX1_readClause 55 = .ok (.iload_n 3, 1) := by decide +kernel
theorem dX1_readClause_56 : decode cX1_readClause 56 = .ok (.ifCond .eq 24, 3) := by decide +kernel
theorem dX1_readClause_59 : decode cX1_readClause 59 = .ok (.aload_n 0, 1) := by decide +kernel
theorem dX1_readClause_60 : decode cX1_readClause 60 = .ok (.getfield 25, 3) := by decide +kernel
theorem dX1_readClause_63 : decode cX1_readClause 63 = .ok (.bipush 8, 2) := by decide +kernel
theorem dX1_readClause_65 : decode cX1_readClause 65 = .ok (.if_icmp .lt 15, 3) := by decide +kernel
theorem dX1_readClause_68 : decode cX1_readClause 68 = .ok (.aload_n 1, 1) := by decide +kernel
theorem dX1_readClause_69 : decode cX1_readClause 69 = .ok (.iconst 3, 1) := by decide +kernel
theorem dX1_readClause_70 : decode cX1_readClause 70 = .ok (.aload_n 1, 1) := by decide +kernel
theorem dX1_readClause_71 : decode cX1_readClause 71 = .ok (.getfield 60, 3) := by decide +kernel
theorem dX1_readClause_74 : decode cX1_readClause 74 = .ok (.invokevirtual 63, 3) := by decide +kernel
theorem dX1_readClause_77 : decode cX1_readClause 77 = .ok (.goto 38, 3) := by decide +kernel
theorem dX1_readClause_80 : decode cX1_readClause 80 = .ok (.iload_n 3, 1) := by decide +kernel
theorem dX1_readClause_81 : decode cX1_readClause 81 = .ok (.ifCond .eq 11, 3) := by decide +kernel
theorem dX1_readClause_84 : decode cX1_readClause 84 = .ok (.aload_n 0, 1) := by decide +kernel
theorem dX1_readClause_85 : decode cX1_readClause 85 = .ok (.aload_n 1, 1) := by decide +kernel
theorem dX1_readClause_86 : decode cX1_readClause 86 = .ok (.invokevirtual 67, 3) := by decide +kernel
theorem dX1_readClause_89 : decode cX1_readClause 89 = .ok (.goto 26, 3) := by decide +kernel
theorem dX1_readClause_92 : decode cX1_readClause 92 = .ok (.iload 4, 2) := by decide +kernel
theorem dX1_readClause_94 : decode cX1_readClause 94 = .ok (.ifCond .eq 11, 3) := by decide +kernel
theorem dX1_readClause_97 : decode cX1_readClause 97 = .ok (.aload_n 0, 1) := by decide +kernel
theorem dX1_readClause_98 : decode cX1_readClause 98 = .ok (.aload_n 1, 1) := by decide +kernel
theorem dX1_readClause_99 : decode cX1_readClause 99 = .ok (.invokevirtual 71, 3) := by decide +kernel
theorem dX1_readClause_102 : decode cX1_readClause 102 = .ok (.goto 13, 3) := by decide +kernel
theorem dX1_readClause_105 : decode cX1_readClause 105 = .ok (.aload_n 0, 1) := by decide +kernel
theorem dX1_readClause_106 : decode cX1_readClause 106 = .ok (.aload_n 1, 1) := by decide +kernel
theorem dX1_readClause_107 : decode cX1_readClause 107 = .ok (.iconst 1, 1) := by decide +kernel
theorem dX1_readClause_108 : decode cX1_readClause 108 = .ok (.iconst 4, 1) := by decide +kernel
theorem dX1_readClause_109 : decode cX1_readClause 109 = .ok (.invokevirtual 74, 3) := by decide +kernel
theorem dX1_readClause_112 : decode cX1_readClause 112 = .ok (.putfield 9, 3) := by decide +kernel
theorem dX1_readClause_115 : decode cX1_readClause 115 = .ok (.aload_n 1, 1) := by decide +kernel
theorem dX1_readClause_116 : decode cX1_readClause 116 = .ok (.bipush 59, 2) := by decide +kernel
theorem dX1_readClause_118 : decode cX1_readClause 118 = .ok (.invokevirtual 78, 3) := by decide +kernel
theorem dX1_readClause_121 : decode cX1_readClause 121 = .ok (.return_, 1) := by decide +kernel
theorem dX1_readPerson_0 : decode cX1_readPerson 0 = .ok (.aload_n 0, 1) := by decide +kernel
theorem dX1_readPerson_1 : decode cX1_readPerson 1 = .ok (.getfield 15, 3) := by decide +kernel
theorem dX1_readPerson_4 : decode cX1_readPerson 4 = .ok (.aload_n 0, 1) := by decide +kernel
theorem dX1_readPerson_5 : decode cX1_readPerson 5 = .ok (.getfield 25, 3) := by decide +kernel
theorem dX1_readPerson_8 : decode cX1_readPerson 8 = .ok (.aload_n 1, 1) := by decide +kernel
theorem dX1_readPerson_9 : decode cX1_readPerson 9 = .ok (.iconst 0, 1) := by decide +kernel
theorem dX1_readPerson_10 : decode cX1_readPerson 10 = .ok (.bipush 9, 2) := by decide +kernel
theorem dX1_readPerson_12 : decode cX1_readPerson 12 = .ok (.invokevirtual 74, 3) := by decide +kernel
theorem dX1_readPerson_15 : decode cX1_readPerson 15 = .ok (.invokestatic 82, 3) := by decide +kernel
theorem dX1_readPerson_18 : decode cX1_readPerson 18 = .ok (.aload_n 0, 1) := by decide +kernel
theorem dX1_readPerson_19 : decode cX1_readPerson 19 = .ok (.getfield 19, 3) := by decide +kernel
theorem dX1_readPerson_22 : decode cX1_readPerson 22 = .ok (.aload_n 0, 1) := by decide +kernel
theorem dX1_readPerson_23 : decode cX1_readPerson 23 = .ok (.getfield 25, 3) := by decide +kernel
theorem dX1_readPerson_26 : decode cX1_readPerson 26 = .ok (.aload_n 1, 1) := by decide +kernel
theorem dX1_readPerson_27 : decode cX1_readPerson 27 = .ok (.iconst 0, 1) := by decide +kernel
theorem dX1_readPerson_28 : decode cX1_readPerson 28 = .ok (.bipush 60, 2) := by decide +kernel
theorem dX1_readPerson_30 : decode cX1_readPerson 30 = .ok (.invokevirtual 74, 3) := by decide +kernel
theorem dX1_readPerson_33 : decode cX1_readPerson 33 = .ok (.invokestatic 82, 3) := by decide +kernel
theorem dX1_readPerson_36 : decode cX1_readPerson 36 = .ok (.aload_n 0, 1) := by decide +kernel
theorem dX1_readPerson_37 : decode cX1_readPerson 37 = .ok (.getfield 22, 3) := by decide +kernel
theorem dX1_readPerson_40 : decode cX1_readPerson 40 = .ok (.aload_n 0, 1) := by decide +kernel
theorem dX1_readPerson_41 : decode cX1_readPerson 41 = .ok (.getfield 25, 3) := by decide +kernel
theorem dX1_readPerson_44 : decode cX1_readPerson 44 = .ok (.iconst 0, 1) := by decide +kernel
theorem dX1_readPerson_45 : decode cX1_readPerson 45 = .ok (.invokestatic 82, 3) := by decide +kernel
theorem dX1_readPerson_48 : decode cX1_readPerson 48 = .ok (.aload_n 0, 1) := by decide +kernel
theorem dX1_readPerson_49 : decode cX1_readPerson 49 = .ok (.dup, 1) := by decide +kernel
theorem dX1_readPerson_50 : decode cX1_readPerson 50 = .ok (.getfield 25, 3) := by decide +kernel
theorem dX1_readPerson_53 : decode cX1_readPerson 53 = .ok (.iconst 1, 1) := by decide +kernel
theorem dX1_readPerson_54 : decode cX1_readPerson 54 = .ok (.iadd, 1) := by decide +kernel
theorem dX1_readPerson_55 : decode cX1_readPerson 55 = .ok (.putfield 25, 3) := by decide +kernel
theorem dX1_readPerson_58 : decode cX1_readPerson 58 = .ok (.return_, 1) := by decide +kernel
theorem dX1_readFriends_0 : decode cX1_readFriends 0 = .ok (.aload_n 1, 1) := by decide +kernel
theorem dX1_readFriends_1 : decode cX1_readFriends 1 = .ok (.iconst 0, 1) := by decide +kernel
theorem dX1_readFriends_2 : decode cX1_readFriends 2 = .ok (.aload_n 0, 1) := by decide +kernel
theorem dX1_readFriends_3 : decode cX1_readFriends 3 = .ok (.getfield 25, 3) := by decide +kernel
theorem dX1_readFriends_6 : decode cX1_readFriends 6 = .ok (.iconst 1, 1) := by decide +kernel
theorem dX1_readFriends_7 : decode cX1_readFriends 7 = .ok (.isub, 1) := by decide +kernel
theorem dX1_readFriends_8 : decode cX1_readFriends 8 = .ok (.invokevirtual 74, 3) := by decide +kernel
theorem dX1_readFriends_11 : decode cX1_readFriends 11 = .ok (.istore_n 2, 1) := by decide +kernel
theorem dX1_readFriends_12 : decode cX1_readFriends 12 = .ok (.aload_n 1, 1) := by decide +kernel
theorem dX1_readFriends_13 : decode cX1_readFriends 13 = .ok (.iconst 0, 1) := by decide +kernel
theorem dX1_readFriends_14 : decode cX1_readFriends 14 = .ok (.aload_n 0, 1) := by decide +kernel
theorem dX1_readFriends_15 : decode cX1_readFriends 15 = .ok (.getfield 25, 3) := by decide +kernel
theorem dX1_readFriends_18 : decode cX1_readFriends 18 = .ok (.iconst 1, 1) := by decide +kernel
theorem dX1_readFriends_19 : decode cX1_readFriends 19 = .ok (.isub, 1) := by decide +kernel
theorem dX1_readFriends_20 : decode cX1_readFriends 20 = .ok (.invokevirtual 74, 3) := by decide +kernel
theorem dX1_readFriends_23 : decode cX1_readFriends 23 = .ok (.istore_n 3, 1) := by decide +kernel
theorem dX1_readFriends_24 : decode cX1_readFriends 24 = .ok (.iload_n 2, 1) := by decide +kernel
theorem dX1_readFriends_25 : decode cX1_readFriends 25 = .ok (.iload_n 3, 1) := by decide +kernel
theorem dX1_readFriends_26 : decode cX1_readFriends 26 = .ok (.if_icmp .ne 12, 3) := by decide +kernel
theorem dX1_readFriends_29 : decode cX1_readFriends 29 = .ok (.aload_n 1, 1) := by decide +kernel
theorem dX1_readFriends_30 : decode cX1_readFriends 30 = .ok (.iconst 2, 1) := by decide +kernel
theorem dX1_readFriends_31 : decode cX1_readFriends 31 = .ok (.aload_n 1, 1) := by decide +kernel
theorem dX1_readFriends_32 : decode cX1_readFriends 32 = .ok (.getfield 86, 3) := by decide +kernel
theorem dX1_readFriends_35 : decode cX1_readFriends 35 = .ok (.invokevirtual 63, 3) := by decide +kernel
theorem dX1_readFriends_38 : decode cX1_readFriends 38 = .ok (.aload_n 1, 1) := by decide +kernel
theorem dX1_readFriends_39 : decode cX1_readFriends 39 = .ok (.invokevirtual 89, 3) := by decide +kernel
theorem dX1_readFriends_42 : decode cX1_readFriends 42 = .ok (.ifCond .eq 43, 3) := by decide +kernel
theorem dX1_readFriends_45 : decode cX1_readFriends 45 = .ok (.aload_n 0, 1) := by decide +kernel
theorem dX1_readFriends_46 : decode cX1_readFriends 46 = .ok (.getfield 22, 3) := by decide +kernel
theorem dX1_readFriends_49 : decode cX1_readFriends 49 = .ok (.iload_n 2, 1) := by decide +kernel
theorem dX1_readFriends_50 : decode cX1_readFriends 50 = .ok (.aload_n 0, 1) := by decide +kernel
theorem dX1_readFriends_51 : decode cX1_readFriends 51 = .ok (.getfield 22, 3) := by decide +kernel
theorem dX1_readFriends_54 : decode cX1_readFriends 54 = .ok (.iload_n 2, 1) := by decide +kernel
theorem dX1_readFriends_55 : decode cX1_readFriends 55 = .ok (.invokestatic 34, 3) := by decide +kernel
theorem dX1_readFriends_58 : decode cX1_readFriends 58 = .ok (.iconst 1, 1) := by decide +kernel
theorem dX1_readFriends_59 : decode cX1_readFriends 59 = .ok (.iload_n 3, 1) := by decide +kernel
theorem dX1_readFriends_60 : decode cX1_readFriends 60 = .ok (.ishl, 1) := by decide +kernel
theorem dX1_readFriends_61 : decode cX1_readFriends 61 = .ok (.ior, 1) := by decide +kernel
theorem dX1_readFriends_62 : decode cX1_readFriends 62 = .ok (.invokestatic 82, 3) := by decide +kernel
theorem dX1_readFriends_65 : decode cX1_readFriends 65 = .ok (.aload_n 0, 1) := by decide +kernel
theorem dX1_readFriends_66 : decode cX1_readFriends 66 = .ok (.getfield 22, 3) := by decide +kernel
theorem dX1_readFriends_69 : decode cX1_readFriends 69 = .ok (.iload_n 3, 1) := by decide +kernel
theorem dX1_readFriends_70 : decode cX1_readFriends 70 = .ok (.aload_n 0, 1) := by decide +kernel
theorem dX1_readFriends_71 : decode cX1_readFriends 71 = .ok (.getfield 22, 3) := by decide +kernel
theorem dX1_readFriends_74 : decode cX1_readFriends 74 = .ok (.iload_n 3, 1) := by decide +kernel
theorem dX1_readFriends_75 : decode cX1_readFriends 75 = .ok (.invokestatic 34, 3) := by decide +kernel
theorem dX1_readFriends_78 : decode cX1_readFriends 78 = .ok (.iconst 1, 1) := by decide +kernel
theorem dX1_readFriends_79 : decode cX1_readFriends 79 = .ok (.iload_n 2, 1) := by decide +kernel
theorem dX1_readFriends_80 : decode cX1_readFriends 80 = .ok (.ishl, 1) := by decide +kernel
theorem dX1_readFriends_81 : decode cX1_readFriends 81 = .ok (.ior, 1) := by decide +kernel
theorem dX1_readFriends_82 : decode cX1_readFriends 82 = .ok (.invokestatic 82, 3) := by decide +kernel
theorem dX1_readFriends_85 : decode cX1_readFriends 85 = .ok (.return_, 1) := by decide +kernel
theorem dX2_init_0 : decode cX2_init 0 = .ok (.aload_n 0, 1) := by decide +kernel
theorem dX2_init_1 : decode cX2_init 1 = .ok (.invokespecial 3, 3) := by decide +kernel
theorem dX2_init_4 : decode cX2_init 4 = .ok (.aload_n 0, 1) := by decide +kernel
theorem dX2_init_5 : decode cX2_init 5 = .ok (.sipush 150, 3) := by decide +kernel
theorem dX2_init_8 : decode cX2_init 8 = .ok (.newarray .int, 2) := by decide +kernel
theorem dX2_init_10 : decode cX2_init 10 = .ok (.putfield 9, 3) := by decide +kernel
theorem dX2_init_13 : decode cX2_init 13 = .ok (.aload_n 0, 1) := by decide +kernel
theorem dX2_init_14 : decode cX2_init 14 = .ok (.sipush 150, 3) := by decide +kernel
theorem dX2_init_17 : decode cX2_init 17 = .ok (.newarray .int, 2) := by decide +kernel
theorem dX2_init_19 : decode cX2_init 19 = .ok (.putfield 15, 3) := by decide +kernel
theorem dX2_init_22 : decode cX2_init 22 = .ok (.aload_n 0, 1) := by decide +kernel
theorem dX2_init_23 : decode cX2_init 23 = .ok (.bipush 8, 2) := by decide +kernel
theorem dX2_init_25 : decode cX2_init 25 = .ok (.newarray .int, 2) := by decide +kernel
theorem dX2_init_27 : decode cX2_init 27 = .ok (.putfield 18, 3) := by decide +kernel
theorem dX2_init_30 : decode cX2_init 30 = .ok (.return_, 1) := by decide +kernel
theorem dX2_clear_0 : decode cX2_clear 0 = .ok (.aload_n 0, 1) := by decide +kernel
theorem dX2_clear_1 : decode cX2_clear 1 = .ok (.iconst 0, 1) := by decide +kernel
theorem dX2_clear_2 : decode cX2_clear 2 = .ok (.putfield 21, 3) := by decide +kernel
theorem dX2_clear_5 : decode cX2_clear 5 = .ok (.return_, 1) := by decide +kernel
theorem dX2_add_0 : decode cX2_add 0 = .ok (.aload_n 0, 1) := by decide +kernel
theorem dX2_add_1 : decode cX2_add 1 = .ok (.getfield 21, 3) := by decide +kernel
theorem dX2_add_4 : decode cX2_add 4 = .ok (.sipush 150, 3) := by decide +kernel
theorem dX2_add_7 : decode cX2_add 7 = .ok (.if_icmp .ge 25, 3) := by decide +kernel
theorem dX2_add_10 : decode cX2_add 10 = .ok (.aload_n 0, 1) := by decide +kernel
theorem dX2_add_11 : decode cX2_add 11 = .ok (.getfield 9, 3) := by decide +kernel
theorem dX2_add_14 : decode cX2_add 14 = .ok (.aload_n 0, 1) := by decide +kernel
theorem dX2_add_15 : decode cX2_add 15 = .ok (.getfield 21, 3) := by decide +kernel
theorem dX2_add_18 : decode cX2_add 18 = .ok (.iload_n 1, 1) := by decide +kernel
theorem dX2_add_19 : decode cX2_add 19 = .ok (.invokestatic 25, 3) := by decide +kernel
theorem dX2_add_22 : decode cX2_add 22 = .ok (.aload_n 0, 1) := by decide +kernel
theorem dX2_add_23 : decode cX2_add 23 = .ok (.dup, 1) := by decide +kernel
theorem dX2_add_24 : decode cX2_add 24 = .ok (.getfield 21, 3) := by decide +kernel
theorem dX2_add_27 : decode cX2_add 27 = .ok (.iconst 1, 1) := by decide +kernel
theorem dX2_add_28 : decode cX2_add 28 = .ok (.iadd, 1) := by decide +kernel
theorem dX2_add_29 : decode cX2_add 29 = .ok (.putfield 21, 3) := by decide +kernel
theorem dX2_add_32 : decode cX2_add 32 = .ok (.return_, 1) := by decide +kernel
theorem dX2_take_0 : decode cX2_take 0 = .ok (.aload_n 0, 1) := by decide +kernel
theorem dX2_take_1 : decode cX2_take 1 = .ok (.aload_n 1, 1) := by decide +kernel
theorem dX2_take_2 : decode cX2_take 2 = .ok (.getfield 21, 3) := by decide +kernel
theorem dX2_take_5 : decode cX2_take 5 = .ok (.putfield 21, 3) := by decide +kernel
theorem dX2_take_8 : decode cX2_take 8 = .ok (.aload_n 1, 1) := by decide +kernel
theorem dX2_take_9 : decode cX2_take 9 = .ok (.getfield 9, 3) := by decide +kernel
theorem dX2_take_12 : decode cX2_take 12 = .ok (.iconst 0, 1) := by decide +kernel
theorem dX2_take_13 : decode cX2_take 13 = .ok (.aload_n 0, 1) := by decide +kernel
theorem dX2_take_14 : decode cX2_take 14 = .ok (.getfield 9, 3) := by decide +kernel
theorem dX2_take_17 : decode cX2_take 17 = .ok (.iconst 0, 1) := by decide +kernel
theorem dX2_take_18 : decode cX2_take 18 = .ok (.aload_n 1, 1) := by decide +kernel
theorem dX2_take_19 : decode cX2_take 19 = .ok (.getfield 21, 3) := by decide +kernel
theorem dX2_take_22 : decode cX2_take 22 = .ok (.invokestatic 31, 3) := by decide +kernel
theorem dX2_take_25 : decode cX2_take 25 = .ok (.return_, 1) := by decide +kernel
theorem dX2_becomePlain_0 : decode cX2_becomePlain 0 = .ok (.aload_n 0, 1) := by decide +kernel
theorem dX2_becomePlain_1 : decode cX2_becomePlain 1 = .ok (.invokevirtual 35, 3) := by decide +kernel
theorem dX2_becomePlain_4 : decode cX2_becomePlain 4 = .ok (.aload_n 0, 1) := by decide +kernel
theorem dX2_becomePlain_5 : decode cX2_becomePlain 5 = .ok (.sipush 1000, 3) := by decide +kernel
theorem dX2_becomePlain_8 : decode cX2_becomePlain 8 = .ok (.invokevirtual 38, 3) := by decide +kernel
theorem dX2_becomePlain_11 : decode cX2_becomePlain 11 = .ok (.aload_n 0, 1) := by decide +kernel
theorem dX2_becomePlain_12 : decode cX2_becomePlain 12 = .ok (.iconst 3, 1) := by decide +kernel
theorem dX2_becomePlain_13 : decode cX2_becomePlain 13 = .ok (.invokevirtual 38, 3) := by decide +kernel
theorem dX2_becomePlain_16 : decode cX2_becomePlain 16 = .ok (.aload_n 0, 1) := by decide +kernel
theorem dX2_becomePlain_17 : decode cX2_becomePlain 17 = .ok (.sipush 2042, 3) := by decide +kernel
theorem dX2_becomePlain_20 : decode cX2_becomePlain 20 = .ok (.invokevirtual 38, 3) := by decide +kernel
theorem dX2_becomePlain_23 : decode cX2_becomePlain 23 = .ok (.aload_n 0, 1) := by decide +kernel
theorem dX2_becomePlain_24 : decode cX2_becomePlain 24 = .ok (.sipush 1003, 3) := by decide +kernel
theorem dX2_becomePlain_27 : decode cX2_becomePlain 27 = .ok (.invokevirtual 38, 3) := by decide +kernel
theorem dX2_becomePlain_30 : decode cX2_becomePlain 30 = .ok (.aload_n 0, 1) := by decide +kernel
theorem dX2_becomePlain_31 : decode cX2_becomePlain 31 = .ok (.bipush 9, 2) := by decide +kernel
theorem dX2_becomePlain_33 : decode cX2_becomePlain 33 = .ok (.invokevirtual 38, 3) := by decide +kernel
theorem dX2_becomePlain_36 : decode cX2_becomePlain 36 = .ok (.aload_n 0, 1) := by decide +kernel
theorem dX2_becomePlain_37 : decode cX2_becomePlain 37 = .ok (.sipush 2042, 3) := by decide +kernel
theorem dX2_becomePlain_40 : decode cX2_becomePlain 40 = .ok (.invokevirtual 38, 3) := by decide +kernel
theorem dX2_becomePlain_43 : decode cX2_becomePlain 43 = .ok (.aload_n 0, 1) := by decide +kernel
theorem dX2_becomePlain_44 : decode cX2_becomePlain 44 = .ok (.sipush 2043, 3) := by decide +kernel
theorem dX2_becomePlain_47 : decode cX2_becomePlain 47 = .ok (.invokevirtual 38, 3) := by decide +kernel
theorem dX2_becomePlain_50 : decode cX2_becomePlain 50 = .ok (.aload_n 0, 1) := by decide +kernel
theorem dX2_becomePlain_51 : decode cX2_becomePlain 51 = .ok (.sipush 1002, 3) := by decide +kernel
theorem dX2_becomePlain_54 : decode cX2_becomePlain 54 = .ok (.invokevirtual 38, 3) := by decide +kernel
theorem dX2_becomePlain_57 : decode cX2_becomePlain 57 = .ok (.aload_n 0, 1) := by decide +kernel
theorem dX2_becomePlain_58 : decode cX2_becomePlain 58 = .ok (.iconst 5, 1) := by decide +kernel
theorem dX2_becomePlain_59 : decode cX2_becomePlain 59 = .ok (.invokevirtual 38, 3) := by decide +kernel
theorem dX2_becomePlain_62 : decode cX2_becomePlain 62 = .ok (.aload_n 0, 1) := by decide +kernel
theorem dX2_becomePlain_63 : decode cX2_becomePlain 63 = .ok (.sipush 2042, 3) := by decide +kernel
theorem dX2_becomePlain_66 : decode cX2_becomePlain 66 = .ok (.invokevirtual 38, 3) := by decide +kernel
theorem dX2_becomePlain_69 : decode cX2_becomePlain 69 = .ok (.aload_n 0, 1) := by decide +kernel
theorem dX2_becomePlain_70 : decode cX2_becomePlain 70 = .ok (.sipush 2045, 3) := by decide +kernel
theorem dX2_becomePlain_73 : decode cX2_becomePlain 73 = .ok (.invokevirtual 38, 3) := by decide +kernel
theorem dX2_becomePlain_76 : decode cX2_becomePlain 76 = .ok (.return_, 1) := by decide +kernel
theorem dX2_answer_0 : decode cX2_answer 0 = .ok (.iconst 0, 1) := by decide +kernel
theorem dX2_answer_1 : decode cX2_answer 1 = .ok (.istore_n 1, 1) := by decide +kernel
theorem dX2_answer_2 : decode cX2_answer 2 = .ok (.iconst 0, 1) := by decide +kernel
theorem dX2_answer_3 : decode cX2_answer 3 = .ok (.istore_n 2, 1) := by decide +kernel
theorem dX2_answer_4 : decode cX2_answer 4 = .ok (.iload_n 2, 1) := by decide +kernel
theorem dX2_answer_5 : decode cX2_answer 5 = .ok (.aload_n 0, 1) := by decide +kernel
theorem dX2_answer_6 : decode cX2_answer 6 = .ok (.getfield 21, 3) := by decide +kernel
theorem dX2_answer_9 : decode cX2_answer 9 = .ok (.if_icmp .ge 105, 3) := by decide +kernel
theorem dX2_answer_12 : decode cX2_answer 12 = .ok (.aload_n 0, 1) := by decide +kernel
theorem dX2_answer_13 : decode cX2_answer 13 = .ok (.getfield 9, 3) := by decide +kernel
theorem dX2_answer_16 : decode cX2_answer 16 = .ok (.iload_n 2, 1) := by decide +kernel
theorem dX2_answer_17 : decode cX2_answer 17 = .ok (.invokestatic 42, 3) := by decide +kernel
theorem dX2_answer_20 : decode cX2_answer 20 = .ok (.istore_n 3, 1) := by decide +kernel
theorem dX2_answer_21 : decode cX2_answer 21 = .ok (.iload_n 3, 1) := by decide +kernel
theorem dX2_answer_22 : decode cX2_answer 22 = .ok (.sipush 2000, 3) := by decide +kernel
theorem dX2_answer_25 : decode cX2_answer 25 = .ok (.if_icmp .ge 40, 3) := by decide +kernel
theorem dX2_answer_28 : decode cX2_answer 28 = .ok (.aload_n 0, 1) := by decide +kernel
theorem dX2_answer_29 : decode cX2_answer 29 = .ok (.getfield 15, 3) := by decide +kernel
theorem dX2_answer_32 : decode cX2_answer 32 = .ok (.iload_n 1, 1) := by decide +kernel
theorem dX2_answer_33 : decode cX2_answer 33 = .ok (.iload_n 3, 1) := by decide +kernel
theorem dX2_answer_34 : decode cX2_answer 34 = .ok (.sipush 1000, 3) := by decide +kernel
theorem dX2_answer_37 : decode cX2_answer 37 = .ok (.if_icmp .ge 7, 3) := by decide +kernel
theorem dX2_answer_40 : decode cX2_answer 40 = .ok (.iload_n 3, 1) := by decide +kernel
theorem dX2_answer_41 : decode cX2_answer 41 = .ok (.goto 15, 3) := by decide +kernel
theorem dX2_answer_44 : decode cX2_answer 44 = .ok (.aload_n 0, 1) := by decide +kernel
theorem dX2_answer_45 : decode cX2_answer 45 = .ok (.getfield 18, 3) := by decide +kernel
theorem dX2_answer_48 : decode cX2_answer 48 = .ok (.iload_n 3, 1) := by decide +kernel
theorem dX2_answer_49 : decode cX2_answer 49 = .ok (.sipush 1000, 3) := by decide +kernel
theorem dX2_answer_52 : decode cX2_answer 52 = .ok (.isub, 1) := by decide +kernel
theorem dX2_answer_53 : decode cX2_answer 53 = .ok (.invokestatic 42, 3) := by decide +kernel
theorem dX2_answer_56 : decode cX2_answer 56 = .ok (.invokestatic 25, 3) := by decide +kernel
theorem dX2_answer_59 : decode cX2_answer 59 = .ok (.iinc 1 1, 3) := by decide +kernel
theorem dX2_answer_62 : decode cX2_answer 62 = .ok (.goto 46, 3) := by decide +kernel
theorem dX2_answer_65 : decode cX2_answer 65 = .ok (.iinc 1 (-1), 3) := by decide +kernel
theorem dX2_answer_68 : decode cX2_answer 68 = .ok (.aload_n 0, 1) := by decide +kernel
theorem dX2_answer_69 : decode cX2_answer 69 = .ok (.getfield 15, 3) := by decide +kernel
theorem dX2_answer_72 : decode cX2_answer 72 = .ok (.iload_n 1, 1) := by decide +kernel
theorem dX2_answer_73 : decode cX2_answer 73 = .ok (.iconst 1, 1) := by decide +kernel
theorem dX2_answer_74 : decode cX2_answer 74 = .ok (.isub, 1) := by decide +kernel
theorem dX2_answer_75 : decode cX2_answer 75 = .ok (.invokestatic 42, 3) := by decide +kernel
theorem dX2_answer_78 : decode cX2_answer 78 = .ok (.istore 4, 2) := by decide +kernel
theorem dX2_answer_80 : decode cX2_answer 80 = .ok (.aload_n 0, 1) := by decide +kernel
theorem dX2_answer_81 : decode cX2_answer 81 = .ok (.getfield 15, 3) := by decide +kernel
theorem dX2_answer_84 : decode cX2_answer 84 = .ok (.iload_n 1, 1) := by decide +kernel
theorem dX2_answer_85 : decode cX2_answer 85 = .ok (.iconst 1, 1) := by decide +kernel
theorem dX2_answer_86 : decode cX2_answer 86 = .ok (.isub, 1) := by decide +kernel
theorem dX2_answer_87 : decode cX2_answer 87 = .ok (.iload_n 3, 1) := by decide +kernel
theorem dX2_answer_88 : decode cX2_answer 88 = .ok (.sipush 2000, 3) := by decide +kernel
theorem dX2_answer_91 : decode cX2_answer 91 = .ok (.isub, 1) := by decide +kernel
theorem dX2_answer_92 : decode cX2_answer 92 = .ok (.iload 4, 2) := by decide +kernel
theorem dX2_answer_94 : decode cX2_answer 94 = .ok (.aload_n 0, 1) := by decide +kernel
theorem dX2_answer_95 : decode cX2_answer 95 = .ok (.getfield 15, 3) := by decide +kernel
theorem dX2_answer_98 : decode cX2_answer 98 = .ok (.iload_n 1, 1) := by decide +kernel
theorem dX2_answer_99 : decode cX2_answer 99 = .ok (.invokestatic 42, 3) := by decide +kernel
theorem dX2_answer_102 : decode cX2_answer 102 = .ok (.invokestatic 46, 3) := by decide +kernel
theorem dX2_answer_105 : decode cX2_answer 105 = .ok (.invokestatic 25, 3) := by decide +kernel
theorem dX2_answer_108 : decode cX2_answer 108 = .ok (.iinc 2 1, 3) := by decide +kernel
theorem dX2_answer_111 : decode cX2_answer 111 = .ok (.goto (-107), 3) := by decide +kernel
theorem dX2_answer_114 : decode cX2_answer 114 = .ok (.aload_n 0, 1) := by decide +kernel
theorem dX2_answer_115 : decode cX2_answer 115 = .ok (.getfield 15, 3) := by decide +kernel
theorem dX2_answer_118 : decode cX2_answer 118 = .ok (.iconst 0, 1) := by decide +kernel
theorem dX2_answer_119 : decode cX2_answer 119 = .ok (.invokestatic 42, 3) := by decide +kernel
theorem dX2_answer_122 : decode cX2_answer 122 = .ok (.istore_n 2, 1) := by decide +kernel
theorem dX2_answer_123 : decode cX2_answer 123 = .ok (.iload_n 2, 1) := by decide +kernel
theorem dX2_answer_124 : decode cX2_answer 124 = .ok (.ifCond .ge 7, 3) := by decide +kernel
theorem dX2_answer_127 : decode cX2_answer 127 = .ok (.iconst 0, 1) := by decide +kernel
theorem dX2_answer_128 : decode cX2_answer 128 = .ok (.goto 15, 3) := by decide +kernel
theorem dX2_answer_131 : decode cX2_answer 131 = .ok (.iload_n 2, 1) := by decide +kernel
theorem dX2_answer_132 : decode cX2_answer 132 = .ok (.bipush 99, 2) := by decide +kernel
theorem dX2_answer_134 : decode cX2_answer 134 = .ok (.if_icmp .le 8, 3) := by decide +kernel
theorem dX2_answer_137 : decode cX2_answer 137 = .ok (.bipush 99, 2) := by decide +kernel
theorem dX2_answer_139 : decode cX2_answer 139 = .ok (.goto 4, 3) := by decide +kernel
theorem dX2_answer_142 : decode cX2_answer 142 = .ok (.iload_n 2, 1) := by decide +kernel
theorem dX2_answer_143 : decode cX2_answer 143 = .ok (.ireturn, 1) := by decide +kernel
theorem dX2_joined_0 : decode cX2_joined 0 = .ok (.iload_n 0, 1) := by decide +kernel
theorem dX2_joined_1 : decode cX2_joined 1 = .ok (.lookupswitch 106 #[(37, 83), (42, 67), (43, 59), (45, 63), (47, 71), (76, 95)], 59) := by decide +kernel
theorem dX2_joined_60 : decode cX2_joined 60 = .ok (.iload_n 1, 1) := by decide +kernel
theorem dX2_joined_61 : decode cX2_joined 61 = .ok (.iload_n 2, 1) := by decide +kernel
theorem dX2_joined_62 : decode cX2_joined 62 = .ok (.iadd, 1) := by decide +kernel
theorem dX2_joined_63 : decode cX2_joined 63 = .ok (.ireturn, 1) := by decide +kernel
theorem dX2_joined_64 : decode cX2_joined 64 = .ok (.iload_n 1, 1) := by decide +kernel
theorem dX2_joined_65 : decode cX2_joined 65 = .ok (.iload_n 2, 1) := by decide +kernel
theorem dX2_joined_66 : decode cX2_joined 66 = .ok (.isub, 1) := by decide +kernel
theorem dX2_joined_67 : decode cX2_joined 67 = .ok (.ireturn, 1) := by decide +kernel
theorem dX2_joined_68 : decode cX2_joined 68 = .ok (.iload_n 1, 1) := by decide +kernel
theorem dX2_joined_69 : decode cX2_joined 69 = .ok (.iload_n 2, 1) := by decide +kernel
theorem dX2_joined_70 : decode cX2_joined 70 = .ok (.imul, 1) := by decide +kernel
theorem dX2_joined_71 : decode cX2_joined 71 = .ok (.ireturn, 1) := by decide +kernel
theorem dX2_joined_72 : decode cX2_joined 72 = .ok (.iload_n 2, 1) := by decide +kernel
theorem dX2_joined_73 : decode cX2_joined 73 = .ok (.ifCond .ne 7, 3) := by decide +kernel
theorem dX2_joined_76 : decode cX2_joined 76 = .ok (.iconst 0, 1) := by decide +kernel
theorem dX2_joined_77 : decode cX2_joined 77 = .ok (.goto 6, 3) := by decide +kernel
theorem dX2_joined_80 : decode cX2_joined 80 = .ok (.iload_n 1, 1) := by decide +kernel
theorem dX2_joined_81 : decode cX2_joined 81 = .ok (.iload_n 2, 1) := by decide +kernel
theorem dX2_joined_82 : decode cX2_joined 82 = .ok (.idiv, 1) := by decide +kernel
theorem dX2_joined_83 : decode cX2_joined 83 = .ok (.ireturn, 1) := by decide +kernel
theorem dX2_joined_84 : decode cX2_joined 84 = .ok (.iload_n 2, 1) := by decide +kernel
theorem dX2_joined_85 : decode cX2_joined 85 = .ok (.ifCond .ne 7, 3) := by decide +kernel
theorem dX2_joined_88 : decode cX2_joined 88 = .ok (.iconst 0, 1) := by decide +kernel
theorem dX2_joined_89 : decode cX2_joined 89 = .ok (.goto 6, 3) := by decide +kernel
theorem dX2_joined_92 : decode cX2_joined 92 = .ok (.iload_n 1, 1) := by decide +kernel
theorem dX2_joined_93 : decode cX2_joined 93 = .ok (.iload_n 2, 1) := by decide +kernel
theorem dX2_joined_94 : decode cX2_joined 94 = .ok (.irem, 1) := by decide +kernel
theorem dX2_joined_95 : decode cX2_joined 95 = .ok (.ireturn, 1) := by decide +kernel
theorem dX2_joined_96 : decode cX2_joined 96 = .ok (.iload_n 1, 1) := by decide +kernel
theorem dX2_joined_97 : decode cX2_joined 97 = .ok (.iload_n 2, 1) := by decide +kernel
theorem dX2_joined_98 : decode cX2_joined 98 = .ok (.if_icmp .ge 7, 3) := by decide +kernel
theorem dX2_joined_101 : decode cX2_joined 101 = .ok (.iload_n 1, 1) := by decide +kernel
theorem dX2_joined_102 : decode cX2_joined 102 = .ok (.goto 4, 3) := by decide +kernel
theorem dX2_joined_105 : decode cX2_joined 105 = .ok (.iload_n 2, 1) := by decide +kernel
theorem dX2_joined_106 : decode cX2_joined 106 = .ok (.ireturn, 1) := by decide +kernel
theorem dX2_joined_107 : decode cX2_joined 107 = .ok (.iload_n 1, 1) := by decide +kernel
theorem dX2_joined_108 : decode cX2_joined 108 = .ok (.iload_n 2, 1) := by decide +kernel
theorem dX2_joined_109 : decode cX2_joined 109 = .ok (.if_icmp .le 7, 3) := by decide +kernel
theorem dX2_joined_112 : decode cX2_joined 112 = .ok (.iload_n 1, 1) := by decide +kernel
theorem dX2_joined_113 : decode cX2_joined 113 = .ok (.goto 4, 3) := by decide +kernel
theorem dX2_joined_116 : decode cX2_joined 116 = .ok (.iload_n 2, 1) := by decide +kernel
theorem dX2_joined_117 : decode cX2_joined 117 = .ok (.ireturn, 1) := by decide +kernel
theorem dX3_init_0 : decode cX3_init 0 = .ok (.aload_n 0, 1) := by decide +kernel
theorem dX3_init_1 : decode cX3_init 1 = .ok (.invokespecial 3, 3) := by decide +kernel
theorem dX3_init_4 : decode cX3_init 4 = .ok (.aload_n 0, 1) := by decide +kernel
theorem dX3_init_5 : decode cX3_init 5 = .ok (.sipush 150, 3) := by decide +kernel
theorem dX3_init_8 : decode cX3_init 8 = .ok (.newarray .int, 2) := by decide +kernel
theorem dX3_init_10 : decode cX3_init 10 = .ok (.putfield 9, 3) := by decide +kernel
theorem dX3_init_13 : decode cX3_init 13 = .ok (.return_, 1) := by decide +kernel
theorem dX3_readFrom_0 : decode cX3_readFrom 0 = .ok (.aload_n 0, 1) := by decide +kernel
theorem dX3_readFrom_1 : decode cX3_readFrom 1 = .ok (.iconst 0, 1) := by decide +kernel
theorem dX3_readFrom_2 : decode cX3_readFrom 2 = .ok (.putfield 15, 3) := by decide +kernel
theorem dX3_readFrom_5 : decode cX3_readFrom 5 = .ok (.aload_n 0, 1) := by decide +kernel
theorem dX3_readFrom_6 : decode cX3_readFrom 6 = .ok (.iconst 0, 1) := by decide +kernel
theorem dX3_readFrom_7 : decode cX3_readFrom 7 = .ok (.putfield 19, 3) := by decide +kernel
theorem dX3_readFrom_10 : decode cX3_readFrom 10 = .ok (.aload_n 2, 1) := by decide +kernel
theorem dX3_readFrom_11 : decode cX3_readFrom 11 = .ok (.invokevirtual 22, 3) := by decide +kernel
theorem dX3_readFrom_14 : decode cX3_readFrom 14 = .ok (.iconst 1, 1) := by decide +kernel
theorem dX3_readFrom_15 : decode cX3_readFrom 15 = .ok (.istore_n 3, 1) := by decide +kernel
theorem dX3_readFrom_16 : decode cX3_readFrom 16 = .ok (.iconst 0, 1) := by decide +kernel
theorem dX3_readFrom_17 : decode cX3_readFrom 17 = .ok (.istore 4, 2) := by decide +kernel
theorem dX3_readFrom_19 : decode cX3_readFrom 19 = .ok (.iload 4, 2) := by decide +kernel
theorem dX3_readFrom_21 : decode cX3_readFrom 21 = .ok (.sipush 150, 3) := by decide +kernel
theorem dX3_readFrom_24 : decode cX3_readFrom 24 = .ok (.if_icmp .ge 36, 3) := by decide +kernel
theorem dX3_readFrom_27 : decode cX3_readFrom 27 = .ok (.aload_n 1, 1) := by decide +kernel
theorem dX3_readFrom_28 : decode cX3_readFrom 28 = .ok (.invokevirtual 27, 3) := by decide +kernel
theorem dX3_readFrom_31 : decode cX3_readFrom 31 = .ok (.ifCond .eq 29, 3) := by decide +kernel
theorem dX3_readFrom_34 : decode cX3_readFrom 34 = .ok (.iload_n 3, 1) := by decide +kernel
theorem dX3_readFrom_35 : decode cX3_readFrom 35 = .ok (.ifCond .eq 12, 3) := by decide +kernel
theorem dX3_readFrom_38 : decode cX3_readFrom 38 = .ok (.aload_n 0, 1) := by decide +kernel
theorem dX3_readFrom_39 : decode cX3_readFrom 39 = .ok (.aload_n 1, 1) := by decide +kernel
theorem dX3_readFrom_40 : decode cX3_readFrom 40 = .ok (.aload_n 2, 1) := by decide +kernel
theorem dX3_readFrom_41 : decode cX3_readFrom 41 = .ok (.invokevirtual 33, 3) := by decide +kernel
theorem dX3_readFrom_44 : decode cX3_readFrom 44 = .ok (.goto 9, 3) := by decide +kernel
theorem dX3_readFrom_47 : decode cX3_readFrom 47 = .ok (.aload_n 0, 1) := by decide +kernel
theorem dX3_readFrom_48 : decode cX3_readFrom 48 = .ok (.aload_n 1, 1) := by decide +kernel
theorem dX3_readFrom_49 : decode cX3_readFrom 49 = .ok (.aload_n 2, 1) := by decide +kernel
theorem dX3_readFrom_50 : decode cX3_readFrom 50 = .ok (.invokevirtual 37, 3) := by decide +kernel
theorem dX3_readFrom_53 : decode cX3_readFrom 53 = .ok (.istore_n 3, 1) := by decide +kernel
theorem dX3_readFrom_54 : decode cX3_readFrom 54 = .ok (.iinc 4 1, 3) := by decide +kernel
theorem dX3_readFrom_57 : decode cX3_readFrom 57 = .ok (.goto (-38), 3) := by decide +kernel
theorem dX3_readFrom_60 : decode cX3_readFrom 60 = .ok (.iload_n 3, 1) := by decide +kernel
theorem dX3_readFrom_61 : decode cX3_readFrom 61 = .ok (.ifCond .ne 10, 3) := by decide +kernel
theorem dX3_readFrom_64 : decode cX3_readFrom 64 = .ok (.aload_n 0, 1) := by decide +kernel
theorem dX3_readFrom_65 : decode cX3_readFrom 65 = .ok (.getfield 19, 3) := by decide +kernel
theorem dX3_readFrom_68 : decode cX3_readFrom 68 = .ok (.ifCond .le 12, 3) := by decide +kernel
theorem dX3_readFrom_71 : decode cX3_readFrom 71 = .ok (.aload_n 1, 1) := by decide +kernel
theorem dX3_readFrom_72 : decode cX3_readFrom 72 = .ok (.iconst 1, 1) := by decide +kernel
theorem dX3_readFrom_73 : decode cX3_readFrom 73 = .ok (.aload_n 1, 1) := by decide +kernel
theorem dX3_readFrom_74 : decode cX3_readFrom 74 = .ok (.getfield 40, 3) := by decide +kernel
theorem dX3_readFrom_77 : decode cX3_readFrom 77 = .ok (.invokevirtual 43, 3) := by decide +kernel
theorem dX3_readFrom_80 : decode cX3_readFrom 80 = .ok (.aload_n 0, 1) := by decide +kernel
theorem dX3_readFrom_81 : decode cX3_readFrom 81 = .ok (.aload_n 2, 1) := by decide +kernel
theorem dX3_readFrom_82 : decode cX3_readFrom 82 = .ok (.iconst 1, 1) := by decide +kernel
theorem dX3_readFrom_83 : decode cX3_readFrom 83 = .ok (.invokevirtual 47, 3) := by decide +kernel
theorem dX3_readFrom_86 : decode cX3_readFrom 86 = .ok (.return_, 1) := by decide +kernel
theorem dX3_readUnit_0 : decode cX3_readUnit 0 = .ok (.aload_n 1, 1) := by decide +kernel
theorem dX3_readUnit_1 : decode cX3_readUnit 1 = .ok (.invokevirtual 51, 3) := by decide +kernel
theorem dX3_readUnit_4 : decode cX3_readUnit 4 = .ok (.istore_n 3, 1) := by decide +kernel
theorem dX3_readUnit_5 : decode cX3_readUnit 5 = .ok (.iload_n 3, 1) := by decide +kernel
theorem dX3_readUnit_6 : decode cX3_readUnit 6 = .ok (.invokestatic 55, 3) := by decide +kernel
theorem dX3_readUnit_9 : decode cX3_readUnit 9 = .ok (.ifCond .eq 17, 3) := by decide +kernel
theorem dX3_readUnit_12 : decode cX3_readUnit 12 = .ok (.aload_n 2, 1) := by decide +kernel
theorem dX3_readUnit_13 : decode cX3_readUnit 13 = .ok (.aload_n 1, 1) := by decide +kernel
theorem dX3_readUnit_14 : decode cX3_readUnit 14 = .ok (.iconst 0, 1) := by decide +kernel
theorem dX3_readUnit_15 : decode cX3_readUnit 15 = .ok (.sipush 999, 3) := by decide +kernel
theorem dX3_readUnit_18 : decode cX3_readUnit 18 = .ok (.invokevirtual 59, 3) := by decide +kernel
theorem dX3_readUnit_21 : decode cX3_readUnit 21 = .ok (.invokevirtual 63, 3) := by decide +kernel
theorem dX3_readUnit_24 : decode cX3_readUnit 24 = .ok (.iconst 0, 1) := by decide +kernel
theorem dX3_readUnit_25 : decode cX3_readUnit 25 = .ok (.ireturn, 1) := by decide +kernel
theorem dX3_readUnit_26 : decode cX3_readUnit 26 = .ok (.iload_n 3, 1) := by decide +kernel
theorem dX3_readUnit_27 : decode cX3_readUnit 27 = .ok (.bipush 40, 2) := by decide +kernel
theorem dX3_readUnit_29 : decode cX3_readUnit 29 = .ok (.if_icmp .ne 20, 3) := by decide +kernel
theorem dX3_readUnit_32 : decode cX3_readUnit 32 = .ok (.aload_n 0, 1) := by decide +kernel
theorem dX3_readUnit_33 : decode cX3_readUnit 33 = .ok (.aload_n 1, 1) := by decide +kernel
theorem dX3_readUnit_34 : decode cX3_readUnit 34 = .ok (.bipush 40, 2) := by decide +kernel
theorem dX3_readUnit_36 : decode cX3_readUnit 36 = .ok (.aload_n 1, 1) := by decide +kernel
theorem dX3_readUnit_37 : decode cX3_readUnit 37 = .ok (.getfield 40, 3) := by decide +kernel
theorem dX3_readUnit_40 : decode cX3_readUnit 40 = .ok (.invokevirtual 67, 3) := by decide +kernel
theorem dX3_readUnit_43 : decode cX3_readUnit 43 = .ok (.aload_n 1, 1) := by decide +kernel
theorem dX3_readUnit_44 : decode cX3_readUnit 44 = .ok (.invokevirtual 71, 3) := by decide +kernel
theorem dX3_readUnit_47 : decode cX3_readUnit 47 = .ok (.iconst 1, 1) := by decide +kernel
theorem dX3_readUnit_48 : decode cX3_readUnit 48 = .ok (.ireturn, 1) := by decide +kernel
theorem dX3_readUnit_49 : decode cX3_readUnit 49 = .ok (.aload_n 1, 1) := by decide +kernel
theorem dX3_readUnit_50 : decode cX3_readUnit 50 = .ok (.invokevirtual 74, 3) := by decide +kernel
theorem dX3_readUnit_53 : decode cX3_readUnit 53 = .ok (.aload_n 1, 1) := by decide +kernel
theorem dX3_readUnit_54 : decode cX3_readUnit 54 = .ok (.invokestatic 77, 3) := by decide +kernel
theorem dX3_readUnit_57 : decode cX3_readUnit 57 = .ok (.istore 4, 2) := by decide +kernel
theorem dX3_readUnit_59 : decode cX3_readUnit 59 = .ok (.iload 4, 2) := by decide +kernel
theorem dX3_readUnit_61 : decode cX3_readUnit 61 = .ok (.iconst (-1), 1) := by decide +kernel
theorem dX3_readUnit_62 : decode cX3_readUnit 62 = .ok (.if_icmp .eq 15, 3) := by decide +kernel
theorem dX3_readUnit_65 : decode cX3_readUnit 65 = .ok (.aload_n 2, 1) := by decide +kernel
theorem dX3_readUnit_66 : decode cX3_readUnit 66 = .ok (.sipush 1000, 3) := by decide +kernel
theorem dX3_readUnit_69 : decode cX3_readUnit 69 = .ok (.iload 4, 2) := by decide +kernel
theorem dX3_readUnit_71 : decode cX3_readUnit 71 = .ok (.iadd, 1) := by decide +kernel
theorem dX3_readUnit_72 : decode cX3_readUnit 72 = .ok (.invokevirtual 63, 3) := by decide +kernel
theorem dX3_readUnit_75 : decode cX3_readUnit 75 = .ok (.iconst 0, 1) := by decide +kernel
theorem dX3_readUnit_76 : decode cX3_readUnit 76 = .ok (.ireturn, 1) := by decide +kernel
theorem dX3_readUnit_77 : decode cX3_readUnit 77 = .ok (.aload_n 1, 1) := by decide +kernel
theorem dX3_readUnit_78 : decode cX3_readUnit 78 = .ok (.ldc 81, 2) := by decide +kernel
theorem dX3_readUnit_80 : decode cX3_readUnit 80 = .ok (.invokevirtual 83, 3) := by decide +kernel
theorem dX3_readUnit_83 : decode cX3_readUnit 83 = .ok (.ifCond .eq 17, 3) := by decide +kernel
theorem dX3_readUnit_86 : decode cX3_readUnit 86 = .ok (.aload_n 0, 1) := by decide +kernel
theorem dX3_readUnit_87 : decode cX3_readUnit 87 = .ok (.aload_n 1, 1) := by decide +kernel
theorem dX3_readUnit_88 : decode cX3_readUnit 88 = .ok (.bipush 108, 2) := by decide +kernel
theorem dX3_readUnit_90 : decode cX3_readUnit 90 = .ok (.aload_n 1, 1) := by decide +kernel
theorem dX3_readUnit_91 : decode cX3_readUnit 91 = .ok (.getfield 87, 3) := by decide +kernel
theorem dX3_readUnit_94 : decode cX3_readUnit 94 = .ok (.invokevirtual 67, 3) := by decide +kernel
theorem dX3_readUnit_97 : decode cX3_readUnit 97 = .ok (.goto 35, 3) := by decide +kernel
theorem dX3_readUnit_100 : decode cX3_readUnit 100 = .ok (.aload_n 1, 1) := by decide +kernel
theorem dX3_readUnit_101 : decode cX3_readUnit 101 = .ok (.ldc 90, 2) := by decide +kernel
theorem dX3_readUnit_103 : decode cX3_readUnit 103 = .ok (.invokevirtual 83, 3) := by decide +kernel
theorem dX3_readUnit_106 : decode cX3_readUnit 106 = .ok (.ifCond .eq 17, 3) := by decide +kernel
theorem dX3_readUnit_109 : decode cX3_readUnit 109 = .ok (.aload_n 0, 1) := by decide +kernel
theorem dX3_readUnit_110 : decode cX3_readUnit 110 = .ok (.aload_n 1, 1) := by decide +kernel
theorem dX3_readUnit_111 : decode cX3_readUnit 111 = .ok (.bipush 109, 2) := by decide +kernel
theorem dX3_readUnit_113 : decode cX3_readUnit 113 = .ok (.aload_n 1, 1) := by decide +kernel
theorem dX3_readUnit_114 : decode cX3_readUnit 114 = .ok (.getfield 87, 3) := by decide +kernel
theorem dX3_readUnit_117 : decode cX3_readUnit 117 = .ok (.invokevirtual 67, 3) := by decide +kernel
theorem dX3_readUnit_120 : decode cX3_readUnit 120 = .ok (.goto 12, 3) := by decide +kernel
theorem dX3_readUnit_123 : decode cX3_readUnit 123 = .ok (.aload_n 1, 1) := by decide +kernel
theorem dX3_readUnit_124 : decode cX3_readUnit 124 = .ok (.iconst 1, 1) := by decide +kernel
theorem dX3_readUnit_125 : decode cX3_readUnit 125 = .ok (.aload_n 1, 1) := by decide +kernel
theorem dX3_readUnit_126 : decode cX3_readUnit 126 = .ok (.getfield 87, 3) := by decide +kernel
theorem dX3_readUnit_129 : decode cX3_readUnit 129 = .ok (.invokevirtual 43, 3) := by decide +kernel
theorem dX3_readUnit_132 : decode cX3_readUnit 132 = .ok (.aload_n 1, 1) := by decide +kernel
theorem dX3_readUnit_133 : decode cX3_readUnit 133 = .ok (.bipush 91, 2) := by decide +kernel
theorem dX3_readUnit_135 : decode cX3_readUnit 135 = .ok (.invokevirtual 92, 3) := by decide +kernel
theorem dX3_readUnit_138 : decode cX3_readUnit 138 = .ok (.iconst 1, 1) := by decide +kernel
theorem dX3_readUnit_139 : decode cX3_readUnit 139 = .ok (.ireturn, 1) := by decide +kernel
theorem dX3_push_0 : decode cX3_push 0 = .ok (.aload_n 0, 1) := by decide +kernel
theorem dX3_push_1 : decode cX3_push 1 = .ok (.getfield 19, 3) := by decide +kernel
theorem dX3_push_4 : decode cX3_push 4 = .ok (.bipush 6, 2) := by decide +kernel
theorem dX3_push_6 : decode cX3_push 6 = .ok (.if_icmp .lt 9, 3) := by decide +kernel
theorem dX3_push_9 : decode cX3_push 9 = .ok (.aload_n 1, 1) := by decide +kernel
theorem dX3_push_10 : decode cX3_push 10 = .ok (.iconst 3, 1) := by decide +kernel
theorem dX3_push_11 : decode cX3_push 11 = .ok (.iload_n 3, 1) := by decide +kernel
theorem dX3_push_12 : decode cX3_push 12 = .ok (.invokevirtual 43, 3) := by decide +kernel
theorem dX3_push_15 : decode cX3_push 15 = .ok (.aload_n 0, 1) := by decide +kernel
theorem dX3_push_16 : decode cX3_push 16 = .ok (.dup, 1) := by decide +kernel
theorem dX3_push_17 : decode cX3_push 17 = .ok (.getfield 19, 3) := by decide +kernel
theorem dX3_push_20 : decode cX3_push 20 = .ok (.iconst 1, 1) := by decide +kernel
theorem dX3_push_21 : decode cX3_push 21 = .ok (.iadd, 1) := by decide +kernel
theorem dX3_push_22 : decode cX3_push 22 = .ok (.putfield 19, 3) := by decide +kernel
theorem dX3_push_25 : decode cX3_push 25 = .ok (.aload_n 0, 1) := by decide +kernel
theorem dX3_push_26 : decode cX3_push 26 = .ok (.iload_n 2, 1) := by decide +kernel
theorem dX3_push_27 : decode cX3_push 27 = .ok (.invokevirtual 96, 3) := by decide +kernel
theorem dX3_push_30 : decode cX3_push 30 = .ok (.return_, 1) := by decide +kernel
theorem dX3_hold_0 : decode cX3_hold 0 = .ok (.aload_n 0, 1) := by decide +kernel
theorem dX3_hold_1 : decode cX3_hold 1 = .ok (.getfield 15, 3) := by decide +kernel
theorem dX3_hold_4 : decode cX3_hold 4 = .ok (.sipush 150, 3) := by decide +kernel
theorem dX3_hold_7 : decode cX3_hold 7 = .ok (.if_icmp .ge 25, 3) := by decide +kernel
theorem dX3_hold_10 : decode cX3_hold 10 = .ok (.aload_n 0, 1) := by decide +kernel
theorem dX3_hold_11 : decode cX3_hold 11 = .ok (.getfield 9, 3) := by decide +kernel
theorem dX3_hold_14 : decode cX3_hold 14 = .ok (.aload_n 0, 1) := by decide +kernel
theorem dX3_hold_15 : decode cX3_hold 15 = .ok (.getfield 15, 3) := by decide +kernel
theorem dX3_hold_18 : decode cX3_hold 18 = .ok (.iload_n 1, 1) := by decide +kernel
theorem dX3_hold_19 : decode cX3_hold 19 = .ok (.invokestatic 99, 3) := by decide +kernel
theorem dX3_hold_22 : decode cX3_hold 22 = .ok (.aload_n 0, 1) := by decide +kernel
theorem dX3_hold_23 : decode cX3_hold 23 = .ok (.dup, 1) := by decide +kernel
theorem dX3_hold_24 : decode cX3_hold 24 = .ok (.getfield 15, 3) := by decide +kernel
theorem dX3_hold_27 : decode cX3_hold 27 = .ok (.iconst 1, 1) := by decide +kernel
theorem dX3_hold_28 : decode cX3_hold 28 = .ok (.iadd, 1) := by decide +kernel
theorem dX3_hold_29 : decode cX3_hold 29 = .ok (.putfield 15, 3) := by decide +kernel
theorem dX3_hold_32 : decode cX3_hold 32 = .ok (.return_, 1) := by decide +kernel
theorem dX3_factOf_0 : decode cX3_factOf 0 = .ok (.aload_n 0, 1) := by decide +kernel
theorem dX3_factOf_1 : decode cX3_factOf 1 = .ok (.ldc 105, 2) := by decide +kernel
theorem dX3_factOf_3 : decode cX3_factOf 3 = .ok (.invokevirtual 83, 3) := by decide +kernel
theorem dX3_factOf_6 : decode cX3_factOf 6 = .ok (.ifCond .eq 7, 3) := by decide +kernel
theorem dX3_factOf_9 : decode cX3_factOf 9 = .ok (.iconst 0, 1) := by decide +kernel
theorem dX3_factOf_10 : decode cX3_factOf 10 = .ok (.goto 97, 3) := by decide +kernel
theorem dX3_factOf_13 : decode cX3_factOf 13 = .ok (.aload_n 0, 1) := by decide +kernel
theorem dX3_factOf_14 : decode cX3_factOf 14 = .ok (.ldc 107, 2) := by decide +kernel
theorem dX3_factOf_16 : decode cX3_factOf 16 = .ok (.invokevirtual 83, 3) := by decide +kernel
theorem dX3_factOf_19 : decode cX3_factOf 19 = .ok (.ifCond .eq 7, 3) := by decide +kernel
theorem dX3_factOf_22 : decode cX3_factOf 22 = .ok (.iconst 1, 1) := by decide +kernel
theorem dX3_factOf_23 : decode cX3_factOf 23 = .ok (.goto 84, 3) := by decide +kernel
theorem dX3_factOf_26 : decode cX3_factOf 26 = .ok (.aload_n 0, 1) := by decide +kernel
theorem dX3_factOf_27 : decode cX3_factOf 27 = .ok (.ldc 109, 2) := by decide +kernel
theorem dX3_factOf_29 : decode cX3_factOf 29 = .ok (.invokevirtual 83, 3) := by decide +kernel
theorem dX3_factOf_32 : decode cX3_factOf 32 = .ok (.ifCond .eq 7, 3) := by decide +kernel
theorem dX3_factOf_35 : decode cX3_factOf 35 = .ok (.iconst 2, 1) := by decide +kernel
theorem dX3_factOf_36 : decode cX3_factOf 36 = .ok (.goto 71, 3) := by decide +kernel
theorem dX3_factOf_39 : decode cX3_factOf 39 = .ok (.aload_n 0, 1) := by decide +kernel
theorem dX3_factOf_40 : decode cX3_factOf 40 = .ok (.ldc 111, 2) := by decide +kernel
theorem dX3_factOf_42 : decode cX3_factOf 42 = .ok (.invokevirtual 83, 3) := by decide +kernel
theorem dX3_factOf_45 : decode cX3_factOf 45 = .ok (.ifCond .eq 7, 3) := by decide +kernel
theorem dX3_factOf_48 : decode cX3_factOf 48 = .ok (.iconst 3, 1) := by decide +kernel
theorem dX3_factOf_49 : decode cX3_factOf 49 = .ok (.goto 58, 3) := by decide +kernel
theorem dX3_factOf_52 : decode cX3_factOf 52 = .ok (.aload_n 0, 1) := by decide +kernel
theorem dX3_factOf_53 : decode cX3_factOf 53 = .ok (.ldc 113, 2) := by decide +kernel
theorem dX3_factOf_55 : decode cX3_factOf 55 = .ok (.invokevirtual 83, 3) := by decide +kernel
theorem dX3_factOf_58 : decode cX3_factOf 58 = .ok (.ifCond .eq 7, 3) := by decide +kernel
theorem dX3_factOf_61 : decode cX3_factOf 61 = .ok (.iconst 4, 1) := by decide +kernel
theorem dX3_factOf_62 : decode cX3_factOf 62 = .ok (.goto 45, 3) := by decide +kernel
theorem dX3_factOf_65 : decode cX3_factOf 65 = .ok (.aload_n 0, 1) := by decide +kernel
theorem dX3_factOf_66 : decode cX3_factOf 66 = .ok (.ldc 115, 2) := by decide +kernel
theorem dX3_factOf_68 : decode cX3_factOf 68 = .ok (.invokevirtual 83, 3) := by decide +kernel
theorem dX3_factOf_71 : decode cX3_factOf 71 = .ok (.ifCond .eq 7, 3) := by decide +kernel
theorem dX3_factOf_74 : decode cX3_factOf 74 = .ok (.iconst 5, 1) := by decide +kernel
theorem dX3_factOf_75 : decode cX3_factOf 75 = .ok (.goto 32, 3) := by decide +kernel
theorem dX3_factOf_78 : decode cX3_factOf 78 = .ok (.aload_n 0, 1) := by decide +kernel
theorem dX3_factOf_79 : decode cX3_factOf 79 = .ok (.ldc 117, 2) := by decide +kernel
theorem dX3_factOf_81 : decode cX3_factOf 81 = .ok (.invokevirtual 83, 3) := by decide +kernel
theorem dX3_factOf_84 : decode cX3_factOf 84 = .ok (.ifCond .eq 8, 3) := by decide +kernel
theorem dX3_factOf_87 : decode cX3_factOf 87 = .ok (.bipush 6, 2) := by decide +kernel
theorem dX3_factOf_89 : decode cX3_factOf 89 = .ok (.goto 18, 3) := by decide +kernel
theorem dX3_factOf_92 : decode cX3_factOf 92 = .ok (.aload_n 0, 1) := by decide +kernel
theorem dX3_factOf_93 : decode cX3_factOf 93 = .ok (.ldc 119, 2) := by decide +kernel
theorem dX3_factOf_95 : decode cX3_factOf 95 = .ok (.invokevirtual 83, 3) := by decide +kernel
theorem dX3_factOf_98 : decode cX3_factOf 98 = .ok (.ifCond .eq 8, 3) := by decide +kernel
theorem dX3_factOf_101 : decode cX3_factOf 101 = .ok (.bipush 7, 2) := by decide +kernel
theorem dX3_factOf_103 : decode cX3_factOf 103 = .ok (.goto 4, 3) := by decide +kernel
theorem dX3_factOf_106 : decode cX3_factOf 106 = .ok (.iconst (-1), 1) := by decide +kernel
theorem dX3_factOf_107 : decode cX3_factOf 107 = .ok (.ireturn, 1) := by decide +kernel
theorem dX3_readSign_0 : decode cX3_readSign 0 = .ok (.aload_n 1, 1) := by decide +kernel
theorem dX3_readSign_1 : decode cX3_readSign 1 = .ok (.invokevirtual 51, 3) := by decide +kernel
theorem dX3_readSign_4 : decode cX3_readSign 4 = .ok (.istore_n 3, 1) := by decide +kernel
theorem dX3_readSign_5 : decode cX3_readSign 5 = .ok (.iload_n 3, 1) := by decide +kernel
theorem dX3_readSign_6 : decode cX3_readSign 6 = .ok (.invokestatic 121, 3) := by decide +kernel
theorem dX3_readSign_9 : decode cX3_readSign 9 = .ok (.istore 4, 2) := by decide +kernel
theorem dX3_readSign_11 : decode cX3_readSign 11 = .ok (.iload 4, 2) := by decide +kernel
theorem dX3_readSign_13 : decode cX3_readSign 13 = .ok (.ifCond .le 21, 3) := by decide +kernel
theorem dX3_readSign_16 : decode cX3_readSign 16 = .ok (.aload_n 0, 1) := by decide +kernel
theorem dX3_readSign_17 : decode cX3_readSign 17 = .ok (.aload_n 2, 1) := by decide +kernel
theorem dX3_readSign_18 : decode cX3_readSign 18 = .ok (.iload 4, 2) := by decide +kernel
theorem dX3_readSign_20 : decode cX3_readSign 20 = .ok (.invokevirtual 47, 3) := by decide +kernel
theorem dX3_readSign_23 : decode cX3_readSign 23 = .ok (.aload_n 0, 1) := by decide +kernel
theorem dX3_readSign_24 : decode cX3_readSign 24 = .ok (.iload_n 3, 1) := by decide +kernel
theorem dX3_readSign_25 : decode cX3_readSign 25 = .ok (.invokevirtual 96, 3) := by decide +kernel
theorem dX3_readSign_28 : decode cX3_readSign 28 = .ok (.aload_n 1, 1) := by decide +kernel
theorem dX3_readSign_29 : decode cX3_readSign 29 = .ok (.invokevirtual 71, 3) := by decide +kernel
theorem dX3_readSign_32 : decode cX3_readSign 32 = .ok (.iconst 1, 1) := by decide +kernel
theorem dX3_readSign_33 : decode cX3_readSign 33 = .ok (.ireturn, 1) := by decide +kernel
theorem dX3_readSign_34 : decode cX3_readSign 34 = .ok (.aload_n 0, 1) := by decide +kernel
theorem dX3_readSign_35 : decode cX3_readSign 35 = .ok (.aload_n 2, 1) := by decide +kernel
theorem dX3_readSign_36 : decode cX3_readSign 36 = .ok (.iconst 1, 1) := by decide +kernel
theorem dX3_readSign_37 : decode cX3_readSign 37 = .ok (.invokevirtual 47, 3) := by decide +kernel
theorem dX3_readSign_40 : decode cX3_readSign 40 = .ok (.aload_n 0, 1) := by decide +kernel
theorem dX3_readSign_41 : decode cX3_readSign 41 = .ok (.getfield 15, 3) := by decide +kernel
theorem dX3_readSign_44 : decode cX3_readSign 44 = .ok (.ifCond .le 19, 3) := by decide +kernel
theorem dX3_readSign_47 : decode cX3_readSign 47 = .ok (.aload_n 0, 1) := by decide +kernel
theorem dX3_readSign_48 : decode cX3_readSign 48 = .ok (.getfield 9, 3) := by decide +kernel
theorem dX3_readSign_51 : decode cX3_readSign 51 = .ok (.aload_n 0, 1) := by decide +kernel
theorem dX3_readSign_52 : decode cX3_readSign 52 = .ok (.getfield 15, 3) := by decide +kernel
theorem dX3_readSign_55 : decode cX3_readSign 55 = .ok (.iconst 1, 1) := by decide +kernel
theorem dX3_readSign_56 : decode cX3_readSign 56 = .ok (.isub, 1) := by decide +kernel
theorem dX3_readSign_57 : decode cX3_readSign 57 = .ok (.invokestatic 125, 3) := by decide +kernel
theorem dX3_readSign_60 : decode cX3_readSign 60 = .ok (.goto 4, 3) := by decide +kernel
theorem dX3_readSign_63 : decode cX3_readSign 63 = .ok (.iconst (-1), 1) := by decide +kernel
theorem dX3_readSign_64 : decode cX3_readSign 64 = .ok (.istore 5, 2) := by decide +kernel
theorem dX3_readSign_66 : decode cX3_readSign 66 = .ok (.iload_n 3, 1) := by decide +kernel
theorem dX3_readSign_67 : decode cX3_readSign 67 = .ok (.bipush 44, 2) := by decide +kernel
theorem dX3_readSign_69 : decode cX3_readSign 69 = .ok (.if_icmp .ne 50, 3) := by decide +kernel
theorem dX3_readSign_72 : decode cX3_readSign 72 = .ok (.iload 5, 2) := by decide +kernel
theorem dX3_readSign_74 : decode cX3_readSign 74 = .ok (.bipush 108, 2) := by decide +kernel
theorem dX3_readSign_76 : decode cX3_readSign 76 = .ok (.if_icmp .eq 10, 3) := by decide +kernel
theorem dX3_readSign_79 : decode cX3_readSign 79 = .ok (.iload 5, 2) := by decide +kernel
theorem dX3_readSign_81 : decode cX3_readSign 81 = .ok (.bipush 109, 2) := by decide +kernel
theorem dX3_readSign_83 : decode cX3_readSign 83 = .ok (.if_icmp .ne 36, 3) := by decide +kernel
theorem dX3_readSign_86 : decode cX3_readSign 86 = .ok (.aload_n 0, 1) := by decide +kernel
theorem dX3_readSign_87 : decode cX3_readSign 87 = .ok (.getfield 9, 3) := by decide +kernel
theorem dX3_readSign_90 : decode cX3_readSign 90 = .ok (.aload_n 0, 1) := by decide +kernel
theorem dX3_readSign_91 : decode cX3_readSign 91 = .ok (.getfield 15, 3) := by decide +kernel
theorem dX3_readSign_94 : decode cX3_readSign 94 = .ok (.iconst 1, 1) := by decide +kernel
theorem dX3_readSign_95 : decode cX3_readSign 95 = .ok (.isub, 1) := by decide +kernel
theorem dX3_readSign_96 : decode cX3_readSign 96 = .ok (.iload 5, 2) := by decide +kernel
theorem dX3_readSign_98 : decode cX3_readSign 98 = .ok (.bipush 108, 2) := by decide +kernel
theorem dX3_readSign_100 : decode cX3_readSign 100 = .ok (.if_icmp .ne 8, 3) := by decide +kernel
theorem dX3_readSign_103 : decode cX3_readSign 103 = .ok (.bipush 76, 2) := by decide +kernel
theorem dX3_readSign_105 : decode cX3_readSign 105 = .ok (.goto 5, 3) := by decide +kernel
theorem dX3_readSign_108 : decode cX3_readSign 108 = .ok (.bipush 77, 2) := by decide +kernel
theorem dX3_readSign_110 : decode cX3_readSign 110 = .ok (.invokestatic 99, 3) := by decide +kernel
theorem dX3_readSign_113 : decode cX3_readSign 113 = .ok (.aload_n 1, 1) := by decide +kernel
theorem dX3_readSign_114 : decode cX3_readSign 114 = .ok (.invokevirtual 71, 3) := by decide +kernel
theorem dX3_readSign_117 : decode cX3_readSign 117 = .ok (.iconst 1, 1) := by decide +kernel
theorem dX3_readSign_118 : decode cX3_readSign 118 = .ok (.ireturn, 1) := by decide +kernel
theorem dX3_readSign_119 : decode cX3_readSign 119 = .ok (.iload_n 3, 1) := by decide +kernel
theorem dX3_readSign_120 : decode cX3_readSign 120 = .ok (.bipush 93, 2) := by decide +kernel
theorem dX3_readSign_122 : decode cX3_readSign 122 = .ok (.if_icmp .ne 30, 3) := by decide +kernel
theorem dX3_readSign_125 : decode cX3_readSign 125 = .ok (.iload 5, 2) := by decide +kernel
theorem dX3_readSign_127 : decode cX3_readSign 127 = .ok (.bipush 76, 2) := by decide +kernel
theorem dX3_readSign_129 : decode cX3_readSign 129 = .ok (.if_icmp .eq 10, 3) := by decide +kernel
theorem dX3_readSign_132 : decode cX3_readSign 132 = .ok (.iload 5, 2) := by decide +kernel
theorem dX3_readSign_134 : decode cX3_readSign 134 = .ok (.bipush 77, 2) := by decide +kernel
theorem dX3_readSign_136 : decode cX3_readSign 136 = .ok (.if_icmp .ne 16, 3) := by decide +kernel
theorem dX3_readSign_139 : decode cX3_readSign 139 = .ok (.aload_n 2, 1) := by decide +kernel
theorem dX3_readSign_140 : decode cX3_readSign 140 = .ok (.sipush 2000, 3) := by decide +kernel
theorem dX3_readSign_143 : decode cX3_readSign 143 = .ok (.iload 5, 2) := by decide +kernel
theorem dX3_readSign_145 : decode cX3_readSign 145 = .ok (.iadd, 1) := by decide +kernel
theorem dX3_readSign_146 : decode cX3_readSign 146 = .ok (.invokevirtual 63, 3) := by decide +kernel
theorem dX3_readSign_149 : decode cX3_readSign 149 = .ok (.goto 27, 3) := by decide +kernel
theorem dX3_readSign_152 : decode cX3_readSign 152 = .ok (.iload_n 3, 1) := by decide +kernel
theorem dX3_readSign_153 : decode cX3_readSign 153 = .ok (.bipush 41, 2) := by decide +kernel
theorem dX3_readSign_155 : decode cX3_readSign 155 = .ok (.if_icmp .ne 10, 3) := by decide +kernel
theorem dX3_readSign_158 : decode cX3_readSign 158 = .ok (.iload 5, 2) := by decide +kernel
theorem dX3_readSign_160 : decode cX3_readSign 160 = .ok (.bipush 40, 2) := by decide +kernel
theorem dX3_readSign_162 : decode cX3_readSign 162 = .ok (.if_icmp .eq 14, 3) := by decide +kernel
theorem dX3_readSign_165 : decode cX3_readSign 165 = .ok (.aload_n 1, 1) := by decide +kernel
theorem dX3_readSign_166 : decode cX3_readSign 166 = .ok (.iconst 1, 1) := by decide +kernel
theorem dX3_readSign_167 : decode cX3_readSign 167 = .ok (.aload_n 1, 1) := by decide +kernel
theorem dX3_readSign_168 : decode cX3_readSign 168 = .ok (.getfield 40, 3) := by decide +kernel
theorem dX3_readSign_171 : decode cX3_readSign 171 = .ok (.invokevirtual 43, 3) := by decide +kernel
theorem dX3_readSign_174 : decode cX3_readSign 174 = .ok (.iconst 0, 1) := by decide +kernel
theorem dX3_readSign_175 : decode cX3_readSign 175 = .ok (.ireturn, 1) := by decide +kernel
theorem dX3_readSign_176 : decode cX3_readSign 176 = .ok (.aload_n 0, 1) := by decide +kernel
theorem dX3_readSign_177 : decode cX3_readSign 177 = .ok (.dup, 1) := by decide +kernel
theorem dX3_readSign_178 : decode cX3_readSign 178 = .ok (.getfield 15, 3) := by decide +kernel
theorem dX3_readSign_181 : decode cX3_readSign 181 = .ok (.iconst 1, 1) := by decide +kernel
theorem dX3_readSign_182 : decode cX3_readSign 182 = .ok (.isub, 1) := by decide +kernel
theorem dX3_readSign_183 : decode cX3_readSign 183 = .ok (.putfield 15, 3) := by decide +kernel
theorem dX3_readSign_186 : decode cX3_readSign 186 = .ok (.aload_n 0, 1) := by decide +kernel
theorem dX3_readSign_187 : decode cX3_readSign 187 = .ok (.dup, 1) := by decide +kernel
theorem dX3_readSign_188 : decode cX3_readSign 188 = .ok (.getfield 19, 3) := by decide +kernel
theorem dX3_readSign_191 : decode cX3_readSign 191 = .ok (.iconst 1, 1) := by decide +kernel
theorem dX3_readSign_192 : decode cX3_readSign 192 = .ok (.isub, 1) := by decide +kernel
theorem dX3_readSign_193 : decode cX3_readSign 193 = .ok (.putfield 19, 3) := by decide +kernel
theorem dX3_readSign_196 : decode cX3_readSign 196 = .ok (.aload_n 1, 1) := by decide +kernel
theorem dX3_readSign_197 : decode cX3_readSign 197 = .ok (.invokevirtual 71, 3) := by decide +kernel
theorem dX3_readSign_200 : decode cX3_readSign 200 = .ok (.iconst 0, 1) := by decide +kernel
theorem dX3_readSign_201 : decode cX3_readSign 201 = .ok (.ireturn, 1) := by decide +kernel
theorem dX3_rankOf_0 : decode cX3_rankOf 0 = .ok (.iload_n 0, 1) := by decide +kernel
theorem dX3_rankOf_1 : decode cX3_rankOf 1 = .ok (.tableswitch 63 37 47 #[61, 63, 63, 63, 63, 61, 59, 63, 59, 63, 61], 59) := by decide +kernel
theorem dX3_rankOf_60 : decode cX3_rankOf 60 = .ok (.iconst 1, 1) := by decide +kernel
theorem dX3_rankOf_61 : decode cX3_rankOf 61 = .ok (.ireturn, 1) := by decide +kernel
theorem dX3_rankOf_62 : decode cX3_rankOf 62 = .ok (.iconst 2, 1) := by decide +kernel
theorem dX3_rankOf_63 : decode cX3_rankOf 63 = .ok (.ireturn, 1) := by decide +kernel
theorem dX3_rankOf_64 : decode cX3_rankOf 64 = .ok (.iconst 0, 1) := by decide +kernel
theorem dX3_rankOf_65 : decode cX3_rankOf 65 = .ok (.ireturn, 1) := by decide +kernel
theorem dX3_settle_0 : decode cX3_settle 0 = .ok (.aload_n 0, 1) := by decide +kernel
theorem dX3_settle_1 : decode cX3_settle 1 = .ok (.getfield 15, 3) := by decide +kernel
theorem dX3_settle_4 : decode cX3_settle 4 = .ok (.ifCond .le 55, 3) := by decide +kernel
theorem dX3_settle_7 : decode cX3_settle 7 = .ok (.aload_n 0, 1) := by decide +kernel
theorem dX3_settle_8 : decode cX3_settle 8 = .ok (.getfield 9, 3) := by decide +kernel
theorem dX3_settle_11 : decode cX3_settle 11 = .ok (.aload_n 0, 1) := by decide +kernel
theorem dX3_settle_12 : decode cX3_settle 12 = .ok (.getfield 15, 3) := by decide +kernel
theorem dX3_settle_15 : decode cX3_settle 15 = .ok (.iconst 1, 1) := by decide +kernel
theorem dX3_settle_16 : decode cX3_settle 16 = .ok (.isub, 1) := by decide +kernel
theorem dX3_settle_17 : decode cX3_settle 17 = .ok (.invokestatic 125, 3) := by decide +kernel
theorem dX3_settle_20 : decode cX3_settle 20 = .ok (.invokestatic 121, 3) := by decide +kernel
theorem dX3_settle_23 : decode cX3_settle 23 = .ok (.iload_n 2, 1) := by decide +kernel
theorem dX3_settle_24 : decode cX3_settle 24 = .ok (.if_icmp .lt 35, 3) := by decide +kernel
theorem dX3_settle_27 : decode cX3_settle 27 = .ok (.aload_n 0, 1) := by decide +kernel
theorem dX3_settle_28 : decode cX3_settle 28 = .ok (.dup, 1) := by decide +kernel
theorem dX3_settle_29 : decode cX3_settle 29 = .ok (.getfield 15, 3) := by decide +kernel
theorem dX3_settle_32 : decode cX3_settle 32 = .ok (.iconst 1, 1) := by decide +kernel
theorem dX3_settle_33 : decode cX3_settle 33 = .ok (.isub, 1) := by decide +kernel
theorem dX3_settle_34 : decode cX3_settle 34 = .ok (.putfield 15, 3) := by decide +kernel
theorem dX3_settle_37 : decode cX3_settle 37 = .ok (.aload_n 1, 1) := by decide +kernel
theorem dX3_settle_38 : decode cX3_settle 38 = .ok (.sipush 2000, 3) := by decide +kernel
theorem dX3_settle_41 : decode cX3_settle 41 = .ok (.aload_n 0, 1) := by decide +kernel
theorem dX3_settle_42 : decode cX3_settle 42 = .ok (.getfield 9, 3) := by decide +kernel
theorem dX3_settle_45 : decode cX3_settle 45 = .ok (.aload_n 0, 1) := by decide +kernel
theorem dX3_settle_46 : decode cX3_settle 46 = .ok (.getfield 15, 3) := by decide +kernel
theorem dX3_settle_49 : decode cX3_settle 49 = .ok (.invokestatic 125, 3) := by decide +kernel
theorem dX3_settle_52 : decode cX3_settle 52 = .ok (.iadd, 1) := by decide +kernel
theorem dX3_settle_53 : decode cX3_settle 53 = .ok (.invokevirtual 63, 3) := by decide +kernel
theorem dX3_settle_56 : decode cX3_settle 56 = .ok (.goto (-56), 3) := by decide +kernel
theorem dX3_settle_59 : decode cX3_settle 59 = .ok (.return_, 1) := by decide +kernel
theorem dX4_init_0 : decode cX4_init 0 = .ok (.aload_n 0, 1) := by decide +kernel
theorem dX4_init_1 : decode cX4_init 1 = .ok (.invokespecial 3, 3) := by decide +kernel
theorem dX4_init_4 : decode cX4_init 4 = .ok (.aload_n 0, 1) := by decide +kernel
theorem dX4_init_5 : decode cX4_init 5 = .ok (.iconst 5, 1) := by decide +kernel
theorem dX4_init_6 : decode cX4_init 6 = .ok (.newarray .int, 2) := by decide +kernel
theorem dX4_init_8 : decode cX4_init 8 = .ok (.putfield 9, 3) := by decide +kernel
theorem dX4_init_11 : decode cX4_init 11 = .ok (.aload_n 0, 1) := by decide +kernel
theorem dX4_init_12 : decode cX4_init 12 = .ok (.bipush 72, 2) := by decide +kernel
theorem dX4_init_14 : decode cX4_init 14 = .ok (.newarray .int, 2) := by decide +kernel
theorem dX4_init_16 : decode cX4_init 16 = .ok (.putfield 15, 3) := by decide +kernel
theorem dX4_init_19 : decode cX4_init 19 = .ok (.return_, 1) := by decide +kernel
theorem dX4_gather_0 : decode cX4_gather 0 = .ok (.aload_n 0, 1) := by decide +kernel
theorem dX4_gather_1 : decode cX4_gather 1 = .ok (.iconst 0, 1) := by decide +kernel
theorem dX4_gather_2 : decode cX4_gather 2 = .ok (.putfield 18, 3) := by decide +kernel
theorem dX4_gather_5 : decode cX4_gather 5 = .ok (.iload_n 2, 1) := by decide +kernel
theorem dX4_gather_6 : decode cX4_gather 6 = .ok (.aload_n 1, 1) := by decide +kernel
theorem dX4_gather_7 : decode cX4_gather 7 = .ok (.invokevirtual 22, 3) := by decide +kernel
theorem dX4_gather_10 : decode cX4_gather 10 = .ok (.iand, 1) := by decide +kernel
theorem dX4_gather_11 : decode cX4_gather 11 = .ok (.istore_n 3, 1) := by decide +kernel
theorem dX4_gather_12 : decode cX4_gather 12 = .ok (.iload_n 3, 1) := by decide +kernel
theorem dX4_gather_13 : decode cX4_gather 13 = .ok (.invokestatic 28, 3) := by decide +kernel
theorem dX4_gather_16 : decode cX4_gather 16 = .ok (.iconst 5, 1) := by decide +kernel
theorem dX4_gather_17 : decode cX4_gather 17 = .ok (.if_icmp .le 5, 3) := by decide +kernel
theorem dX4_gather_20 : decode cX4_gather 20 = .ok (.iconst 0, 1) := by decide +kernel
theorem dX4_gather_21 : decode cX4_gather 21 = .ok (.ireturn, 1) := by decide +kernel
theorem dX4_gather_22 : decode cX4_gather 22 = .ok (.iconst 0, 1) := by decide +kernel
theorem dX4_gather_23 : decode cX4_gather 23 = .ok (.istore 4, 2) := by decide +kernel
theorem dX4_gather_25 : decode cX4_gather 25 = .ok (.iload 4, 2) := by decide +kernel
theorem dX4_gather_27 : decode cX4_gather 27 = .ok (.bipush 8, 2) := by decide +kernel
theorem dX4_gather_29 : decode cX4_gather 29 = .ok (.if_icmp .ge 42, 3) := by decide +kernel
theorem dX4_gather_32 : decode cX4_gather 32 = .ok (.iload_n 3, 1) := by decide +kernel
theorem dX4_gather_33 : decode cX4_gather 33 = .ok (.iload 4, 2) := by decide +kernel
theorem dX4_gather_35 : decode cX4_gather 35 = .ok (.ishr, 1) := by decide +kernel
theorem dX4_gather_36 : decode cX4_gather 36 = .ok (.iconst 1, 1) := by decide +kernel
theorem dX4_gather_37 : decode cX4_gather 37 = .ok (.iand, 1) := by decide +kernel
theorem dX4_gather_38 : decode cX4_gather 38 = .ok (.iconst 1, 1) := by decide +kernel
theorem dX4_gather_39 : decode cX4_gather 39 = .ok (.if_icmp .ne 26, 3) := by decide +kernel
theorem dX4_gather_42 : decode cX4_gather 42 = .ok (.aload_n 0, 1) := by decide +kernel
theorem dX4_gather_43 : decode cX4_gather 43 = .ok (.getfield 9, 3) := by decide +kernel
theorem dX4_gather_46 : decode cX4_gather 46 = .ok (.aload_n 0, 1) := by decide +kernel
theorem dX4_gather_47 : decode cX4_gather 47 = .ok (.getfield 18, 3) := by decide +kernel
theorem dX4_gather_50 : decode cX4_gather 50 = .ok (.iload 4, 2) := by decide +kernel
theorem dX4_gather_52 : decode cX4_gather 52 = .ok (.invokestatic 34, 3) := by decide +kernel
theorem dX4_gather_55 : decode cX4_gather 55 = .ok (.aload_n 0, 1) := by decide +kernel
theorem dX4_gather_56 : decode cX4_gather 56 = .ok (.dup, 1) := by decide +kernel
theorem dX4_gather_57 : decode cX4_gather 57 = .ok (.getfield 18, 3) := by decide +kernel
theorem dX4_gather_60 : decode cX4_gather 60 = .ok (.iconst 1, 1) := by decide +kernel
theorem dX4_gather_61 : decode cX4_gather 61 = .ok (.iadd, 1) := by decide +kernel
theorem dX4_gather_62 : decode cX4_gather 62 = .ok (.putfield 18, 3) := by decide +kernel
theorem dX4_gather_65 : decode cX4_gather 65 = .ok (.iinc 4 1, 3) := by decide +kernel
theorem dX4_gather_68 : decode cX4_gather 68 = .ok (.goto (-43), 3) := by decide +kernel
theorem dX4_gather_71 : decode cX4_gather 71 = .ok (.iconst 1, 1) := by decide +kernel
theorem dX4_gather_72 : decode cX4_gather 72 = .ok (.ireturn, 1) := by decide +kernel
theorem dX4_step_0 : decode cX4_step 0 = .ok (.aload_n 0, 1) := by decide +kernel
theorem dX4_step_1 : decode cX4_step 1 = .ok (.getfield 18, 3) := by decide +kernel
theorem dX4_step_4 : decode cX4_step 4 = .ok (.iconst 2, 1) := by decide +kernel
theorem dX4_step_5 : decode cX4_step 5 = .ok (.isub, 1) := by decide +kernel
theorem dX4_step_6 : decode cX4_step 6 = .ok (.istore_n 1, 1) := by decide +kernel
theorem dX4_step_7 : decode cX4_step 7 = .ok (.iload_n 1, 1) := by decide +kernel
theorem dX4_step_8 : decode cX4_step 8 = .ok (.ifCond .lt 30, 3) := by decide +kernel
theorem dX4_step_11 : decode cX4_step 11 = .ok (.aload_n 0, 1) := by decide +kernel
theorem dX4_step_12 : decode cX4_step 12 = .ok (.getfield 9, 3) := by decide +kernel
theorem dX4_step_15 : decode cX4_step 15 = .ok (.iload_n 1, 1) := by decide +kernel
theorem dX4_step_16 : decode cX4_step 16 = .ok (.invokestatic 40, 3) := by decide +kernel
theorem dX4_step_19 : decode cX4_step 19 = .ok (.aload_n 0, 1) := by decide +kernel
theorem dX4_step_20 : decode cX4_step 20 = .ok (.getfield 9, 3) := by decide +kernel
theorem dX4_step_23 : decode cX4_step 23 = .ok (.iload_n 1, 1) := by decide +kernel
theorem dX4_step_24 : decode cX4_step 24 = .ok (.iconst 1, 1) := by decide +kernel
theorem dX4_step_25 : decode cX4_step 25 = .ok (.iadd, 1) := by decide +kernel
theorem dX4_step_26 : decode cX4_step 26 = .ok (.invokestatic 40, 3) := by decide +kernel
theorem dX4_step_29 : decode cX4_step 29 = .ok (.if_icmp .le 9, 3) := by decide +kernel
theorem dX4_step_32 : decode cX4_step 32 = .ok (.iinc 1 (-1), 3) := by decide +kernel
theorem dX4_step_35 : decode cX4_step 35 = .ok (.goto (-28), 3) := by decide +kernel
theorem dX4_step_38 : decode cX4_step 38 = .ok (.iload_n 1, 1) := by decide +kernel
theorem dX4_step_39 : decode cX4_step 39 = .ok (.ifCond .ge 5, 3) := by decide +kernel
theorem dX4_step_42 : decode cX4_step 42 = .ok (.iconst 0, 1) := by decide +kernel
theorem dX4_step_43 : decode cX4_step 43 = .ok (.ireturn, 1) := by decide +kernel
theorem dX4_step_44 : decode cX4_step 44 = .ok (.aload_n 0, 1) := by decide +kernel
theorem dX4_step_45 : decode cX4_step 45 = .ok (.getfield 18, 3) := by decide +kernel
theorem dX4_step_48 : decode cX4_step 48 = .ok (.iconst 1, 1) := by decide +kernel
theorem dX4_step_49 : decode cX4_step 49 = .ok (.isub, 1) := by decide +kernel
theorem dX4_step_50 : decode cX4_step 50 = .ok (.istore_n 2, 1) := by decide +kernel
theorem dX4_step_51 : decode cX4_step 51 = .ok (.iload_n 2, 1) := by decide +kernel
theorem dX4_step_52 : decode cX4_step 52 = .ok (.iload_n 1, 1) := by decide +kernel
theorem dX4_step_53 : decode cX4_step 53 = .ok (.if_icmp .le 28, 3) := by decide +kernel
theorem dX4_step_56 : decode cX4_step 56 = .ok (.aload_n 0, 1) := by decide +kernel
theorem dX4_step_57 : decode cX4_step 57 = .ok (.getfield 9, 3) := by decide +kernel
theorem dX4_step_60 : decode cX4_step 60 = .ok (.iload_n 2, 1) := by decide +kernel
theorem dX4_step_61 : decode cX4_step 61 = .ok (.invokestatic 40, 3) := by decide +kernel
theorem dX4_step_64 : decode cX4_step 64 = .ok (.aload_n 0, 1) := by decide +kernel
theorem dX4_step_65 : decode cX4_step 65 = .ok (.getfield 9, 3) := by decide +kernel
theorem dX4_step_68 : decode cX4_step 68 = .ok (.iload_n 1, 1) := by decide +kernel
theorem dX4_step_69 : decode cX4_step 69 = .ok (.invokestatic 40, 3) := by decide +kernel
theorem dX4_step_72 : decode cX4_step 72 = .ok (.if_icmp .ge 9, 3) := by decide +kernel
theorem dX4_step_75 : decode cX4_step 75 = .ok (.iinc 2 (-1), 3) := by decide +kernel
theorem dX4_step_78 : decode cX4_step 78 = .ok (.goto (-27), 3) := by decide +kernel
theorem dX4_step_81 : decode cX4_step 81 = .ok (.aload_n 0, 1) := by decide +kernel
theorem dX4_step_82 : decode cX4_step 82 = .ok (.iload_n 1, 1) := by decide +kernel
theorem dX4_step_83 : decode cX4_step 83 = .ok (.iload_n 2, 1) := by decide +kernel
theorem dX4_step_84 : decode cX4_step 84 = .ok (.invokevirtual 44, 3) := by decide +kernel
theorem dX4_step_87 : decode cX4_step 87 = .ok (.iload_n 1, 1) := by decide +kernel
theorem dX4_step_88 : decode cX4_step 88 = .ok (.iconst 1, 1) := by decide +kernel
theorem dX4_step_89 : decode cX4_step 89 = .ok (.iadd, 1) := by decide +kernel
theorem dX4_step_90 : decode cX4_step 90 = .ok (.istore_n 3, 1) := by decide +kernel
theorem dX4_step_91 : decode cX4_step 91 = .ok (.aload_n 0, 1) := by decide +kernel
theorem dX4_step_92 : decode cX4_step 92 = .ok (.getfield 18, 3) := by decide +kernel
theorem dX4_step_95 : decode cX4_step 95 = .ok (.iconst 1, 1) := by decide +kernel
theorem dX4_step_96 : decode cX4_step 96 = .ok (.isub, 1) := by decide +kernel
theorem dX4_step_97 : decode cX4_step 97 = .ok (.istore 4, 2) := by decide +kernel
theorem dX4_step_99 : decode cX4_step 99 = .ok (.iload_n 3, 1) := by decide +kernel
theorem dX4_step_100 : decode cX4_step 100 = .ok (.iload 4, 2) := by decide +kernel
theorem dX4_step_102 : decode cX4_step 102 = .ok (.if_icmp .ge 19, 3) := by decide +kernel
theorem dX4_step_105 : decode cX4_step 105 = .ok (.aload_n 0, 1) := by decide +kernel
theorem dX4_step_106 : decode cX4_step 106 = .ok (.iload_n 3, 1) := by decide +kernel
theorem dX4_step_107 : decode cX4_step 107 = .ok (.iload 4, 2) := by decide +kernel
theorem dX4_step_109 : decode cX4_step 109 = .ok (.invokevirtual 44, 3) := by decide +kernel
theorem dX4_step_112 : decode cX4_step 112 = .ok (.iinc 3 1, 3) := by decide +kernel
theorem dX4_step_115 : decode cX4_step 115 = .ok (.iinc 4 (-1), 3) := by decide +kernel
theorem dX4_step_118 : decode cX4_step 118 = .ok (.goto (-19), 3) := by decide +kernel
theorem dX4_step_121 : decode cX4_step 121 = .ok (.iconst 1, 1) := by decide +kernel
theorem dX4_step_122 : decode cX4_step 122 = .ok (.ireturn, 1) := by decide +kernel
theorem dX4_swap_0 : decode cX4_swap 0 = .ok (.aload_n 0, 1) := by decide +kernel
theorem dX4_swap_1 : decode cX4_swap 1 = .ok (.getfield 9, 3) := by decide +kernel
theorem dX4_swap_4 : decode cX4_swap 4 = .ok (.iload_n 1, 1) := by decide +kernel
theorem dX4_swap_5 : decode cX4_swap 5 = .ok (.invokestatic 40, 3) := by decide +kernel
theorem dX4_swap_8 : decode cX4_swap 8 = .ok (.istore_n 3, 1) := by decide +kernel
theorem dX4_swap_9 : decode cX4_swap 9 = .ok (.aload_n 0, 1) := by decide +kernel
theorem dX4_swap_10 : decode cX4_swap 10 = .ok (.getfield 9, 3) := by decide +kernel
theorem dX4_swap_13 : decode cX4_swap 13 = .ok (.iload_n 1, 1) := by decide +kernel
theorem dX4_swap_14 : decode cX4_swap 14 = .ok (.aload_n 0, 1) := by decide +kernel
theorem dX4_swap_15 : decode cX4_swap 15 = .ok (.getfield 9, 3) := by decide +kernel
theorem dX4_swap_18 : decode cX4_swap 18 = .ok (.iload_n 2, 1) := by decide +kernel
theorem dX4_swap_19 : decode cX4_swap 19 = .ok (.invokestatic 40, 3) := by decide +kernel
theorem dX4_swap_22 : decode cX4_swap 22 = .ok (.invokestatic 34, 3) := by decide +kernel
theorem dX4_swap_25 : decode cX4_swap 25 = .ok (.aload_n 0, 1) := by decide +kernel
theorem dX4_swap_26 : decode cX4_swap 26 = .ok (.getfield 9, 3) := by decide +kernel
theorem dX4_swap_29 : decode cX4_swap 29 = .ok (.iload_n 2, 1) := by decide +kernel
theorem dX4_swap_30 : decode cX4_swap 30 = .ok (.iload_n 3, 1) := by decide +kernel
theorem dX4_swap_31 : decode cX4_swap 31 = .ok (.invokestatic 34, 3) := by decide +kernel
theorem dX4_swap_34 : decode cX4_swap 34 = .ok (.return_, 1) := by decide +kernel
theorem dX4_digits_0 : decode cX4_digits 0 = .ok (.iconst 0, 1) := by decide +kernel
theorem dX4_digits_1 : decode cX4_digits 1 = .ok (.istore_n 1, 1) := by decide +kernel
theorem dX4_digits_2 : decode cX4_digits 2 = .ok (.aload_n 0, 1) := by decide +kernel
theorem dX4_digits_3 : decode cX4_digits 3 = .ok (.getfield 18, 3) := by decide +kernel
theorem dX4_digits_6 : decode cX4_digits 6 = .ok (.iconst 1, 1) := by decide +kernel
theorem dX4_digits_7 : decode cX4_digits 7 = .ok (.isub, 1) := by decide +kernel
theorem dX4_digits_8 : decode cX4_digits 8 = .ok (.istore_n 2, 1) := by decide +kernel
theorem dX4_digits_9 : decode cX4_digits 9 = .ok (.iload_n 2, 1) := by decide +kernel
theorem dX4_digits_10 : decode cX4_digits 10 = .ok (.ifCond .lt 23, 3) := by decide +kernel
theorem dX4_digits_13 : decode cX4_digits 13 = .ok (.iload_n 1, 1) := by decide +kernel
theorem dX4_digits_14 : decode cX4_digits 14 = .ok (.bipush 8, 2) := by decide +kernel
theorem dX4_digits_16 : decode cX4_digits 16 = .ok (.imul, 1) := by decide +kernel
theorem dX4_digits_17 : decode cX4_digits 17 = .ok (.aload_n 0, 1) := by decide +kernel
theorem dX4_digits_18 : decode cX4_digits 18 = .ok (.getfield 9, 3) := by decide +kernel
theorem dX4_digits_21 : decode cX4_digits 21 = .ok (.iload_n 2, 1) := by decide +kernel
theorem dX4_digits_22 : decode cX4_digits 22 = .ok (.invokestatic 40, 3) := by decide +kernel
theorem dX4_digits_25 : decode cX4_digits 25 = .ok (.iadd, 1) := by decide +kernel
theorem dX4_digits_26 : decode cX4_digits 26 = .ok (.istore_n 1, 1) := by decide +kernel
theorem dX4_digits_27 : decode cX4_digits 27 = .ok (.iinc 2 (-1), 3) := by decide +kernel
theorem dX4_digits_30 : decode cX4_digits 30 = .ok (.goto (-21), 3) := by decide +kernel
theorem dX4_digits_33 : decode cX4_digits 33 = .ok (.iload_n 1, 1) := by decide +kernel
theorem dX4_digits_34 : decode cX4_digits 34 = .ok (.ireturn, 1) := by decide +kernel
theorem dX4_forget_0 : decode cX4_forget 0 = .ok (.aload_n 0, 1) := by decide +kernel
theorem dX4_forget_1 : decode cX4_forget 1 = .ok (.bipush 9, 2) := by decide +kernel
theorem dX4_forget_3 : decode cX4_forget 3 = .ok (.putfield 48, 3) := by decide +kernel
theorem dX4_forget_6 : decode cX4_forget 6 = .ok (.aload_n 0, 1) := by decide +kernel
theorem dX4_forget_7 : decode cX4_forget 7 = .ok (.iconst 0, 1) := by decide +kernel
theorem dX4_forget_8 : decode cX4_forget 8 = .ok (.putfield 51, 3) := by decide +kernel
theorem dX4_forget_11 : decode cX4_forget 11 = .ok (.aload_n 0, 1) := by decide +kernel
theorem dX4_forget_12 : decode cX4_forget 12 = .ok (.iconst 0, 1) := by decide +kernel
theorem dX4_forget_13 : decode cX4_forget 13 = .ok (.putfield 54, 3) := by decide +kernel
theorem dX4_forget_16 : decode cX4_forget 16 = .ok (.aload_n 0, 1) := by decide +kernel
theorem dX4_forget_17 : decode cX4_forget 17 = .ok (.iconst (-1), 1) := by decide +kernel
theorem dX4_forget_18 : decode cX4_forget 18 = .ok (.putfield 57, 3) := by decide +kernel
theorem dX4_forget_21 : decode cX4_forget 21 = .ok (.iconst 0, 1) := by decide +kernel
theorem dX4_forget_22 : decode cX4_forget 22 = .ok (.istore_n 1, 1) := by decide +kernel
theorem dX4_forget_23 : decode cX4_forget 23 = .ok (.iload_n 1, 1) := by decide +kernel
theorem dX4_forget_24 : decode cX4_forget 24 = .ok (.aload_n 0, 1) := by decide +kernel
theorem dX4_forget_25 : decode cX4_forget 25 = .ok (.getfield 15, 3) := by decide +kernel
theorem dX4_forget_28 : decode cX4_forget 28 = .ok (.arraylength, 1) := by decide +kernel
theorem dX4_forget_29 : decode cX4_forget 29 = .ok (.if_icmp .ge 16, 3) := by decide +kernel
theorem dX4_forget_32 : decode cX4_forget 32 = .ok (.aload_n 0, 1) := by decide +kernel
theorem dX4_forget_33 : decode cX4_forget 33 = .ok (.getfield 15, 3) := by decide +kernel
theorem dX4_forget_36 : decode cX4_forget 36 = .ok (.iload_n 1, 1) := by decide +kernel
theorem dX4_forget_37 : decode cX4_forget 37 = .ok (.iconst 0, 1) := by decide +kernel
theorem dX4_forget_38 : decode cX4_forget 38 = .ok (.iastore, 1) := by decide +kernel
theorem dX4_forget_39 : decode cX4_forget 39 = .ok (.iinc 1 1, 3) := by decide +kernel
theorem dX4_forget_42 : decode cX4_forget 42 = .ok (.goto (-19), 3) := by decide +kernel
theorem dX4_forget_45 : decode cX4_forget 45 = .ok (.return_, 1) := by decide +kernel
theorem dX4_note_0 : decode cX4_note 0 = .ok (.aload_n 1, 1) := by decide +kernel
theorem dX4_note_1 : decode cX4_note 1 = .ok (.invokevirtual 60, 3) := by decide +kernel
theorem dX4_note_4 : decode cX4_note 4 = .ok (.invokestatic 28, 3) := by decide +kernel
theorem dX4_note_7 : decode cX4_note 7 = .ok (.istore_n 3, 1) := by decide +kernel
theorem dX4_note_8 : decode cX4_note 8 = .ok (.iload_n 3, 1) := by decide +kernel
theorem dX4_note_9 : decode cX4_note 9 = .ok (.aload_n 0, 1) := by decide +kernel
theorem dX4_note_10 : decode cX4_note 10 = .ok (.getfield 48, 3) := by decide +kernel
theorem dX4_note_13 : decode cX4_note 13 = .ok (.if_icmp .ge 16, 3) := by decide +kernel
theorem dX4_note_16 : decode cX4_note 16 = .ok (.aload_n 0, 1) := by decide +kernel
theorem dX4_note_17 : decode cX4_note 17 = .ok (.iload_n 3, 1) := by decide +kernel
theorem dX4_note_18 : decode cX4_note 18 = .ok (.putfield 48, 3) := by decide +kernel
theorem dX4_note_21 : decode cX4_note 21 = .ok (.aload_n 0, 1) := by decide +kernel
theorem dX4_note_22 : decode cX4_note 22 = .ok (.aload_n 0, 1) := by decide +kernel
theorem dX4_note_23 : decode cX4_note 23 = .ok (.invokevirtual 63, 3) := by decide +kernel
theorem dX4_note_26 : decode cX4_note 26 = .ok (.putfield 51, 3) := by decide +kernel
theorem dX4_note_29 : decode cX4_note 29 = .ok (.iload_n 2, 1) := by decide +kernel
theorem dX4_note_30 : decode cX4_note 30 = .ok (.ifCond .eq 40, 3) := by decide +kernel
theorem dX4_note_33 : decode cX4_note 33 = .ok (.aload_n 0, 1) := by decide +kernel
theorem dX4_note_34 : decode cX4_note 34 = .ok (.aload_n 0, 1) := by decide +kernel
theorem dX4_note_35 : decode cX4_note 35 = .ok (.getfield 54, 3) := by decide +kernel
theorem dX4_note_38 : decode cX4_note 38 = .ok (.ifCond .ne 10, 3) := by decide +kernel
theorem dX4_note_41 : decode cX4_note 41 = .ok (.aload_n 0, 1) := by decide +kernel
theorem dX4_note_42 : decode cX4_note 42 = .ok (.invokevirtual 63, 3) := by decide +kernel
theorem dX4_note_45 : decode cX4_note 45 = .ok (.goto 7, 3) := by decide +kernel
theorem dX4_note_48 : decode cX4_note 48 = .ok (.aload_n 0, 1) := by decide +kernel
theorem dX4_note_49 : decode cX4_note 49 = .ok (.getfield 57, 3) := by decide +kernel
theorem dX4_note_52 : decode cX4_note 52 = .ok (.putfield 57, 3) := by decide +kernel
theorem dX4_note_55 : decode cX4_note 55 = .ok (.aload_n 0, 1) := by decide +kernel
theorem dX4_note_56 : decode cX4_note 56 = .ok (.dup, 1) := by decide +kernel
theorem dX4_note_57 : decode cX4_note 57 = .ok (.getfield 54, 3) := by decide +kernel
theorem dX4_note_60 : decode cX4_note 60 = .ok (.iconst 1, 1) := by decide +kernel
theorem dX4_note_61 : decode cX4_note 61 = .ok (.iadd, 1) := by decide +kernel
theorem dX4_note_62 : decode cX4_note 62 = .ok (.putfield 54, 3) := by decide +kernel
theorem dX4_note_65 : decode cX4_note 65 = .ok (.aload_n 0, 1) := by decide +kernel
theorem dX4_note_66 : decode cX4_note 66 = .ok (.aload_n 1, 1) := by decide +kernel
theorem dX4_note_67 : decode cX4_note 67 = .ok (.invokevirtual 66, 3) := by decide +kernel
theorem dX4_note_70 : decode cX4_note 70 = .ok (.return_, 1) := by decide +kernel
theorem dX4_countStones_0 : decode cX4_countStones 0 = .ok (.iconst 0, 1) := by decide +kernel
theorem dX4_countStones_1 : decode cX4_countStones 1 = .ok (.istore_n 2, 1) := by decide +kernel
theorem dX4_countStones_2 : decode cX4_countStones 2 = .ok (.iload_n 2, 1) := by decide +kernel
theorem dX4_countStones_3 : decode cX4_countStones 3 = .ok (.bipush 8, 2) := by decide +kernel
theorem dX4_countStones_5 : decode cX4_countStones 5 = .ok (.if_icmp .ge 38, 3) := by decide +kernel
theorem dX4_countStones_8 : decode cX4_countStones 8 = .ok (.iload_n 2, 1) := by decide +kernel
theorem dX4_countStones_9 : decode cX4_countStones 9 = .ok (.bipush 9, 2) := by decide +kernel
theorem dX4_countStones_11 : decode cX4_countStones 11 = .ok (.imul, 1) := by decide +kernel
theorem dX4_countStones_12 : decode cX4_countStones 12 = .ok (.aload_n 1, 1) := by decide +kernel
theorem dX4_countStones_13 : decode cX4_countStones 13 = .ok (.iload_n 2, 1) := by decide +kernel
theorem dX4_countStones_14 : decode cX4_countStones 14 = .ok (.invokevirtual 70, 3) := by decide +kernel
theorem dX4_countStones_17 : decode cX4_countStones 17 = .ok (.iadd, 1) := by decide +kernel
theorem dX4_countStones_18 : decode cX4_countStones 18 = .ok (.istore_n 3, 1) := by decide +kernel
theorem dX4_countStones_19 : decode cX4_countStones 19 = .ok (.aload_n 0, 1) := by decide +kernel
theorem dX4_countStones_20 : decode cX4_countStones 20 = .ok (.getfield 15, 3) := by decide +kernel
theorem dX4_countStones_23 : decode cX4_countStones 23 = .ok (.iload_n 3, 1) := by decide +kernel
theorem dX4_countStones_24 : decode cX4_countStones 24 = .ok (.aload_n 0, 1) := by decide +kernel
theorem dX4_countStones_25 : decode cX4_countStones 25 = .ok (.getfield 15, 3) := by decide +kernel
theorem dX4_countStones_28 : decode cX4_countStones 28 = .ok (.iload_n 3, 1) := by decide +kernel
theorem dX4_countStones_29 : decode cX4_countStones 29 = .ok (.invokestatic 40, 3) := by decide +kernel
theorem dX4_countStones_32 : decode cX4_countStones 32 = .ok (.iconst 1, 1) := by decide +kernel
theorem dX4_countStones_33 : decode cX4_countStones 33 = .ok (.iadd, 1) := by decide +kernel
theorem dX4_countStones_34 : decode cX4_countStones 34 = .ok (.invokestatic 34, 3) := by decide +kernel
theorem dX4_countStones_37 : decode cX4_countStones 37 = .ok (.iinc 2 1, 3) := by decide +kernel
theorem dX4_countStones_40 : decode cX4_countStones 40 = .ok (.goto (-38), 3) := by decide +kernel
theorem dX4_countStones_43 : decode cX4_countStones 43 = .ok (.return_, 1) := by decide +kernel
theorem dX4_mostAlike_0 : decode cX4_mostAlike 0 = .ok (.iconst 0, 1) := by decide +kernel
theorem dX4_mostAlike_1 : decode cX4_mostAlike 1 = .ok (.istore_n 2, 1) := by decide +kernel
theorem dX4_mostAlike_2 : decode cX4_mostAlike 2 = .ok (.iconst 0, 1) := by decide +kernel
theorem dX4_mostAlike_3 : decode cX4_mostAlike 3 = .ok (.istore_n 3, 1) := by decide +kernel
theorem dX4_mostAlike_4 : decode cX4_mostAlike 4 = .ok (.iload_n 3, 1) := by decide +kernel
theorem dX4_mostAlike_5 : decode cX4_mostAlike 5 = .ok (.bipush 9, 2) := by decide +kernel
theorem dX4_mostAlike_7 : decode cX4_mostAlike 7 = .ok (.if_icmp .ge 27, 3) := by decide +kernel
theorem dX4_mostAlike_10 : decode cX4_mostAlike 10 = .ok (.iload_n 2, 1) := by decide +kernel
theorem dX4_mostAlike_11 : decode cX4_mostAlike 11 = .ok (.aload_n 0, 1) := by decide +kernel
theorem dX4_mostAlike_12 : decode cX4_mostAlike 12 = .ok (.getfield 15, 3) := by decide +kernel
theorem dX4_mostAlike_15 : decode cX4_mostAlike 15 = .ok (.iload_n 1, 1) := by decide +kernel
theorem dX4_mostAlike_16 : decode cX4_mostAlike 16 = .ok (.bipush 9, 2) := by decide +kernel
theorem dX4_mostAlike_18 : decode cX4_mostAlike 18 = .ok (.imul, 1) := by decide +kernel
theorem dX4_mostAlike_19 : decode cX4_mostAlike 19 = .ok (.iload_n 3, 1) := by decide +kernel
theorem dX4_mostAlike_20 : decode cX4_mostAlike 20 = .ok (.iadd, 1) := by decide +kernel
theorem dX4_mostAlike_21 : decode cX4_mostAlike 21 = .ok (.invokestatic 40, 3) := by decide +kernel
theorem dX4_mostAlike_24 : decode cX4_mostAlike 24 = .ok (.invokestatic 73, 3) := by decide +kernel
theorem dX4_mostAlike_27 : decode cX4_mostAlike 27 = .ok (.istore_n 2, 1) := by decide +kernel
theorem dX4_mostAlike_28 : decode cX4_mostAlike 28 = .ok (.iinc 3 1, 3) := by decide +kernel
theorem dX4_mostAlike_31 : decode cX4_mostAlike 31 = .ok (.goto (-27), 3) := by decide +kernel
theorem dX4_mostAlike_34 : decode cX4_mostAlike 34 = .ok (.iload_n 2, 1) := by decide +kernel
theorem dX4_mostAlike_35 : decode cX4_mostAlike 35 = .ok (.ireturn, 1) := by decide +kernel
theorem dX5_init_0 : decode cX5_init 0 = .ok (.aload_n 0, 1) := by decide +kernel
theorem dX5_init_1 : decode cX5_init 1 = .ok (.invokespecial 7, 3) := by decide +kernel
theorem dX5_init_4 : decode cX5_init 4 = .ok (.aload_n 0, 1) := by decide +kernel
theorem dX5_init_5 : decode cX5_init 5 = .ok (.sipush 400, 3) := by decide +kernel
theorem dX5_init_8 : decode cX5_init 8 = .ok (.newarray .int, 2) := by decide +kernel
theorem dX5_init_10 : decode cX5_init 10 = .ok (.putfield 13, 3) := by decide +kernel
theorem dX5_init_13 : decode cX5_init 13 = .ok (.aload_n 0, 1) := by decide +kernel
theorem dX5_init_14 : decode cX5_init 14 = .ok (.sipush 1278, 3) := by decide +kernel
theorem dX5_init_17 : decode cX5_init 17 = .ok (.newarray .int, 2) := by decide +kernel
theorem dX5_init_19 : decode cX5_init 19 = .ok (.putfield 17, 3) := by decide +kernel
theorem dX5_init_22 : decode cX5_init 22 = .ok (.return_, 1) := by decide +kernel
theorem dX5_clear_0 : decode cX5_clear 0 = .ok (.aload_n 0, 1) := by decide +kernel
theorem dX5_clear_1 : decode cX5_clear 1 = .ok (.iconst 0, 1) := by decide +kernel
theorem dX5_clear_2 : decode cX5_clear 2 = .ok (.putfield 20, 3) := by decide +kernel
theorem dX5_clear_5 : decode cX5_clear 5 = .ok (.aload_n 0, 1) := by decide +kernel
theorem dX5_clear_6 : decode cX5_clear 6 = .ok (.iconst 0, 1) := by decide +kernel
theorem dX5_clear_7 : decode cX5_clear 7 = .ok (.putfield 24, 3) := by decide +kernel
theorem dX5_clear_10 : decode cX5_clear 10 = .ok (.return_, 1) := by decide +kernel
theorem dX5_isFull_0 : decode cX5_isFull 0 = .ok (.aload_n 0, 1) := by decide +kernel
theorem dX5_isFull_1 : decode cX5_isFull 1 = .ok (.getfield 20, 3) := by decide +kernel
theorem dX5_isFull_4 : decode cX5_isFull 4 = .ok (.bipush 16, 2) := by decide +kernel
theorem dX5_isFull_6 : decode cX5_isFull 6 = .ok (.if_icmp .lt 7, 3) := by decide +kernel
theorem dX5_isFull_9 : decode cX5_isFull 9 = .ok (.iconst 1, 1) := by decide +kernel
theorem dX5_isFull_10 : decode cX5_isFull 10 = .ok (.goto 4, 3) := by decide +kernel
theorem dX5_isFull_13 : decode cX5_isFull 13 = .ok (.iconst 0, 1) := by decide +kernel
theorem dX5_isFull_14 : decode cX5_isFull 14 = .ok (.ireturn, 1) := by decide +kernel
theorem dX5_keepWork_0 : decode cX5_keepWork 0 = .ok (.aload_n 0, 1) := by decide +kernel
theorem dX5_keepWork_1 : decode cX5_keepWork 1 = .ok (.getfield 20, 3) := by decide +kernel
theorem dX5_keepWork_4 : decode cX5_keepWork 4 = .ok (.bipush 16, 2) := by decide +kernel
theorem dX5_keepWork_6 : decode cX5_keepWork 6 = .ok (.if_icmp .ge 28, 3) := by decide +kernel
theorem dX5_keepWork_9 : decode cX5_keepWork 9 = .ok (.aload_n 1, 1) := by decide +kernel
theorem dX5_keepWork_10 : decode cX5_keepWork 10 = .ok (.aload_n 0, 1) := by decide +kernel
theorem dX5_keepWork_11 : decode cX5_keepWork 11 = .ok (.getfield 13, 3) := by decide +kernel
theorem dX5_keepWork_14 : decode cX5_keepWork 14 = .ok (.aload_n 0, 1) := by decide +kernel
theorem dX5_keepWork_15 : decode cX5_keepWork 15 = .ok (.getfield 20, 3) := by decide +kernel
theorem dX5_keepWork_18 : decode cX5_keepWork 18 = .ok (.bipush 25, 2) := by decide +kernel
theorem dX5_keepWork_20 : decode cX5_keepWork 20 = .ok (.imul, 1) := by decide +kernel
theorem dX5_keepWork_21 : decode cX5_keepWork 21 = .ok (.invokevirtual 27, 3) := by decide +kernel
theorem dX5_keepWork_24 : decode cX5_keepWork 24 = .ok (.aload_n 0, 1) := by decide +kernel
theorem dX5_keepWork_25 : decode cX5_keepWork 25 = .ok (.dup, 1) := by decide +kernel
theorem dX5_keepWork_26 : decode cX5_keepWork 26 = .ok (.getfield 20, 3) := by decide +kernel
theorem dX5_keepWork_29 : decode cX5_keepWork 29 = .ok (.iconst 1, 1) := by decide +kernel
theorem dX5_keepWork_30 : decode cX5_keepWork 30 = .ok (.iadd, 1) := by decide +kernel
theorem dX5_keepWork_31 : decode cX5_keepWork 31 = .ok (.putfield 20, 3) := by decide +kernel
theorem dX5_keepWork_34 : decode cX5_keepWork 34 = .ok (.return_, 1) := by decide +kernel
theorem dX5_undoWork_0 : decode cX5_undoWork 0 = .ok (.aload_n 0, 1) := by decide +kernel
theorem dX5_undoWork_1 : decode cX5_undoWork 1 = .ok (.getfield 20, 3) := by decide +kernel
theorem dX5_undoWork_4 : decode cX5_undoWork 4 = .ok (.ifCond .le 28, 3) := by decide +kernel
theorem dX5_undoWork_7 : decode cX5_undoWork 7 = .ok (.aload_n 0, 1) := by decide +kernel
theorem dX5_undoWork_8 : decode cX5_undoWork 8 = .ok (.dup, 1) := by decide +kernel
theorem dX5_undoWork_9 : decode cX5_undoWork 9 = .ok (.getfield 20, 3) := by decide +kernel
theorem dX5_undoWork_12 : decode cX5_undoWork 12 = .ok (.iconst 1, 1) := by decide +kernel
theorem dX5_undoWork_13 : decode cX5_undoWork 13 = .ok (.isub, 1) := by decide +kernel
theorem dX5_undoWork_14 : decode cX5_undoWork 14 = .ok (.putfield 20, 3) := by decide +kernel
theorem dX5_undoWork_17 : decode cX5_undoWork 17 = .ok (.aload_n 1, 1) := by decide +kernel
theorem dX5_undoWork_18 : decode cX5_undoWork 18 = .ok (.aload_n 0, 1) := by decide +kernel
theorem dX5_undoWork_19 : decode cX5_undoWork 19 = .ok (.getfield 13, 3) := by decide +kernel
theorem dX5_undoWork_22 : decode cX5_undoWork 22 = .ok (.aload_n 0, 1) := by decide +kernel
theorem dX5_undoWork_23 : decode cX5_undoWork 23 = .ok (.getfield 20, 3) := by decide +kernel
theorem dX5_undoWork_26 : decode cX5_undoWork 26 = .ok (.bipush 25, 2) := by decide +kernel
theorem dX5_undoWork_28 : decode cX5_undoWork 28 = .ok (.imul, 1) := by decide +kernel
theorem dX5_undoWork_29 : decode cX5_undoWork 29 = .ok (.invokevirtual 31, 3) := by decide +kernel
theorem dX5_undoWork_32 : decode cX5_undoWork 32 = .ok (.return_, 1) := by decide +kernel
theorem dX5_keepImage_0 : decode cX5_keepImage 0 = .ok (.aload_n 0, 1) := by decide +kernel
theorem dX5_keepImage_1 : decode cX5_keepImage 1 = .ok (.getfield 24, 3) := by decide +kernel
theorem dX5_keepImage_4 : decode cX5_keepImage 4 = .ok (.iconst 3, 1) := by decide +kernel
theorem dX5_keepImage_5 : decode cX5_keepImage 5 = .ok (.if_icmp .ge 66, 3) := by decide +kernel
theorem dX5_keepImage_8 : decode cX5_keepImage 8 = .ok (.aload_n 0, 1) := by decide +kernel
theorem dX5_keepImage_9 : decode cX5_keepImage 9 = .ok (.getfield 24, 3) := by decide +kernel
theorem dX5_keepImage_12 : decode cX5_keepImage 12 = .ok (.sipush 426, 3) := by decide +kernel
theorem dX5_keepImage_15 : decode cX5_keepImage 15 = .ok (.imul, 1) := by decide +kernel
theorem dX5_keepImage_16 : decode cX5_keepImage 16 = .ok (.istore_n 2, 1) := by decide +kernel
theorem dX5_keepImage_17 : decode cX5_keepImage 17 = .ok (.aload_n 0, 1) := by decide +kernel
theorem dX5_keepImage_18 : decode cX5_keepImage 18 = .ok (.getfield 17, 3) := by decide +kernel
theorem dX5_keepImage_21 : decode cX5_keepImage 21 = .ok (.iload_n 2, 1) := by decide +kernel
theorem dX5_keepImage_22 : decode cX5_keepImage 22 = .ok (.aload_n 0, 1) := by decide +kernel
theorem dX5_keepImage_23 : decode cX5_keepImage 23 = .ok (.getfield 20, 3) := by decide +kernel
theorem dX5_keepImage_26 : decode cX5_keepImage 26 = .ok (.invokestatic 34, 3) := by decide +kernel
theorem dX5_keepImage_29 : decode cX5_keepImage 29 = .ok (.aload_n 1, 1) := by decide +kernel
theorem dX5_keepImage_30 : decode cX5_keepImage 30 = .ok (.aload_n 0, 1) := by decide +kernel
theorem dX5_keepImage_31 : decode cX5_keepImage 31 = .ok (.getfield 17, 3) := by decide +kernel
theorem dX5_keepImage_34 : decode cX5_keepImage 34 = .ok (.iload_n 2, 1) := by decide +kernel
theorem dX5_keepImage_35 : decode cX5_keepImage 35 = .ok (.iconst 1, 1) := by decide +kernel
theorem dX5_keepImage_36 : decode cX5_keepImage 36 = .ok (.iadd, 1) := by decide +kernel
theorem dX5_keepImage_37 : decode cX5_keepImage 37 = .ok (.invokevirtual 27, 3) := by decide +kernel
theorem dX5_keepImage_40 : decode cX5_keepImage 40 = .ok (.aload_n 0, 1) := by decide +kernel
theorem dX5_keepImage_41 : decode cX5_keepImage 41 = .ok (.getfield 13, 3) := by decide +kernel
theorem dX5_keepImage_44 : decode cX5_keepImage 44 = .ok (.iconst 0, 1) := by decide +kernel
theorem dX5_keepImage_45 : decode cX5_keepImage 45 = .ok (.aload_n 0, 1) := by decide +kernel
theorem dX5_keepImage_46 : decode cX5_keepImage 46 = .ok (.getfield 17, 3) := by decide +kernel
theorem dX5_keepImage_49 : decode cX5_keepImage 49 = .ok (.iload_n 2, 1) := by decide +kernel
theorem dX5_keepImage_50 : decode cX5_keepImage 50 = .ok (.iconst 1, 1) := by decide +kernel
theorem dX5_keepImage_51 : decode cX5_keepImage 51 = .ok (.iadd, 1) := by decide +kernel
theorem dX5_keepImage_52 : decode cX5_keepImage 52 = .ok (.bipush 25, 2) := by decide +kernel
theorem dX5_keepImage_54 : decode cX5_keepImage 54 = .ok (.iadd, 1) := by decide +kernel
theorem dX5_keepImage_55 : decode cX5_keepImage 55 = .ok (.sipush 400, 3) := by decide +kernel
theorem dX5_keepImage_58 : decode cX5_keepImage 58 = .ok (.invokestatic 40, 3) := by decide +kernel
theorem dX5_keepImage_61 : decode cX5_keepImage 61 = .ok (.aload_n 0, 1) := by decide +kernel
theorem dX5_keepImage_62 : decode cX5_keepImage 62 = .ok (.dup, 1) := by decide +kernel
theorem dX5_keepImage_63 : decode cX5_keepImage 63 = .ok (.getfield 24, 3) := by decide +kernel
theorem dX5_keepImage_66 : decode cX5_keepImage 66 = .ok (.iconst 1, 1) := by decide +kernel
theorem dX5_keepImage_67 : decode cX5_keepImage 67 = .ok (.iadd, 1) := by decide +kernel
theorem dX5_keepImage_68 : decode cX5_keepImage 68 = .ok (.putfield 24, 3) := by decide +kernel
theorem dX5_keepImage_71 : decode cX5_keepImage 71 = .ok (.return_, 1) := by decide +kernel
theorem dX5_restoreImage_0 : decode cX5_restoreImage 0 = .ok (.aload_n 0, 1) := by decide +kernel
theorem dX5_restoreImage_1 : decode cX5_restoreImage 1 = .ok (.getfield 24, 3) := by decide +kernel
theorem dX5_restoreImage_4 : decode cX5_restoreImage 4 = .ok (.ifCond .le 66, 3) := by decide +kernel
theorem dX5_restoreImage_7 : decode cX5_restoreImage 7 = .ok (.aload_n 0, 1) := by decide +kernel
theorem dX5_restoreImage_8 : decode cX5_restoreImage 8 = .ok (.dup, 1) := by decide +kernel
theorem dX5_restoreImage_9 : decode cX5_restoreImage 9 = .ok (.getfield 24, 3) := by decide +kernel
theorem dX5_restoreImage_12 : decode cX5_restoreImage 12 = .ok (.iconst 1, 1) := by decide +kernel
theorem dX5_restoreImage_13 : decode cX5_restoreImage 13 = .ok (.isub, 1) := by decide +kernel
theorem dX5_restoreImage_14 : decode cX5_restoreImage 14 = .ok (.putfield 24, 3) := by decide +kernel
theorem dX5_restoreImage_17 : decode cX5_restoreImage 17 = .ok (.aload_n 0, 1) := by decide +kernel
theorem dX5_restoreImage_18 : decode cX5_restoreImage 18 = .ok (.getfield 24, 3) := by decide +kernel
theorem dX5_restoreImage_21 : decode cX5_restoreImage 21 = .ok (.sipush 426, 3) := by decide +kernel
theorem dX5_restoreImage_24 : decode cX5_restoreImage 24 = .ok (.imul, 1) := by decide +kernel
theorem dX5_restoreImage_25 : decode cX5_restoreImage 25 = .ok (.istore_n 2, 1) := by decide +kernel
theorem dX5_restoreImage_26 : decode cX5_restoreImage 26 = .ok (.aload_n 0, 1) := by decide +kernel
theorem dX5_restoreImage_27 : decode cX5_restoreImage 27 = .ok (.aload_n 0, 1) := by decide +kernel
theorem dX5_restoreImage_28 : decode cX5_restoreImage 28 = .ok (.getfield 17, 3) := by decide +kernel
theorem dX5_restoreImage_31 : decode cX5_restoreImage 31 = .ok (.iload_n 2, 1) := by decide +kernel
theorem dX5_restoreImage_32 : decode cX5_restoreImage 32 = .ok (.invokestatic 44, 3) := by decide +kernel
theorem dX5_restoreImage_35 : decode cX5_restoreImage 35 = .ok (.putfield 20, 3) := by decide +kernel
theorem dX5_restoreImage_38 : decode cX5_restoreImage 38 = .ok (.aload_n 1, 1) := by decide +kernel
theorem dX5_restoreImage_39 : decode cX5_restoreImage 39 = .ok (.aload_n 0, 1) := by decide +kernel
theorem dX5_restoreImage_40 : decode cX5_restoreImage 40 = .ok (.getfield 17, 3) := by decide +kernel
theorem dX5_restoreImage_43 : decode cX5_restoreImage 43 = .ok (.iload_n 2, 1) := by decide +kernel
theorem dX5_restoreImage_44 : decode cX5_restoreImage 44 = .ok (.iconst 1, 1) := by decide +kernel
theorem dX5_restoreImage_45 : decode cX5_restoreImage 45 = .ok (.iadd, 1) := by decide +kernel
theorem dX5_restoreImage_46 : decode cX5_restoreImage 46 = .ok (.invokevirtual 31, 3) := by decide +kernel
theorem dX5_restoreImage_49 : decode cX5_restoreImage 49 = .ok (.aload_n 0, 1) := by decide +kernel
theorem dX5_restoreImage_50 : decode cX5_restoreImage 50 = .ok (.getfield 17, 3) := by decide +kernel
theorem dX5_restoreImage_53 : decode cX5_restoreImage 53 = .ok (.iload_n 2, 1) := by decide +kernel
theorem dX5_restoreImage_54 : decode cX5_restoreImage 54 = .ok (.iconst 1, 1) := by decide +kernel
theorem dX5_restoreImage_55 : decode cX5_restoreImage 55 = .ok (.iadd, 1) := by decide +kernel
theorem dX5_restoreImage_56 : decode cX5_restoreImage 56 = .ok (.bipush 25, 2) := by decide +kernel
theorem dX5_restoreImage_58 : decode cX5_restoreImage 58 = .ok (.iadd, 1) := by decide +kernel
theorem dX5_restoreImage_59 : decode cX5_restoreImage 59 = .ok (.aload_n 0, 1) := by decide +kernel
theorem dX5_restoreImage_60 : decode cX5_restoreImage 60 = .ok (.getfield 13, 3) := by decide +kernel
theorem dX5_restoreImage_63 : decode cX5_restoreImage 63 = .ok (.iconst 0, 1) := by decide +kernel
theorem dX5_restoreImage_64 : decode cX5_restoreImage 64 = .ok (.sipush 400, 3) := by decide +kernel
theorem dX5_restoreImage_67 : decode cX5_restoreImage 67 = .ok (.invokestatic 40, 3) := by decide +kernel
theorem dX5_restoreImage_70 : decode cX5_restoreImage 70 = .ok (.return_, 1) := by decide +kernel
theorem dX6_at_0 : decode cX6_at 0 = .ok (.aload_n 0, 1) := by decide +kernel
theorem dX6_at_1 : decode cX6_at 1 = .ok (.ifnull 19, 3) := by decide +kernel
theorem dX6_at_4 : decode cX6_at 4 = .ok (.iload_n 1, 1) := by decide +kernel
theorem dX6_at_5 : decode cX6_at 5 = .ok (.ifCond .lt 15, 3) := by decide +kernel
theorem dX6_at_8 : decode cX6_at 8 = .ok (.iload_n 1, 1) := by decide +kernel
theorem dX6_at_9 : decode cX6_at 9 = .ok (.aload_n 0, 1) := by decide +kernel
theorem dX6_at_10 : decode cX6_at 10 = .ok (.arraylength, 1) := by decide +kernel
theorem dX6_at_11 : decode cX6_at 11 = .ok (.if_icmp .ge 9, 3) := by decide +kernel
theorem dX6_at_14 : decode cX6_at 14 = .ok (.aload_n 0, 1) := by decide +kernel
theorem dX6_at_15 : decode cX6_at 15 = .ok (.iload_n 1, 1) := by decide +kernel
theorem dX6_at_16 : decode cX6_at 16 = .ok (.iaload, 1) := by decide +kernel
theorem dX6_at_17 : decode cX6_at 17 = .ok (.goto 4, 3) := by decide +kernel
theorem dX6_at_20 : decode cX6_at 20 = .ok (.iconst 0, 1) := by decide +kernel
theorem dX6_at_21 : decode cX6_at 21 = .ok (.ireturn, 1) := by decide +kernel
theorem dX6_put_0 : decode cX6_put 0 = .ok (.aload_n 0, 1) := by decide +kernel
theorem dX6_put_1 : decode cX6_put 1 = .ok (.ifnull 17, 3) := by decide +kernel
theorem dX6_put_4 : decode cX6_put 4 = .ok (.iload_n 1, 1) := by decide +kernel
theorem dX6_put_5 : decode cX6_put 5 = .ok (.ifCond .lt 13, 3) := by decide +kernel
theorem dX6_put_8 : decode cX6_put 8 = .ok (.iload_n 1, 1) := by decide +kernel
theorem dX6_put_9 : decode cX6_put 9 = .ok (.aload_n 0, 1) := by decide +kernel
theorem dX6_put_10 : decode cX6_put 10 = .ok (.arraylength, 1) := by decide +kernel
theorem dX6_put_11 : decode cX6_put 11 = .ok (.if_icmp .ge 7, 3) := by decide +kernel
theorem dX6_put_14 : decode cX6_put 14 = .ok (.aload_n 0, 1) := by decide +kernel
theorem dX6_put_15 : decode cX6_put 15 = .ok (.iload_n 1, 1) := by decide +kernel
theorem dX6_put_16 : decode cX6_put 16 = .ok (.iload_n 2, 1) := by decide +kernel
theorem dX6_put_17 : decode cX6_put 17 = .ok (.iastore, 1) := by decide +kernel
theorem dX6_put_18 : decode cX6_put 18 = .ok (.return_, 1) := by decide +kernel
theorem dX6_copy_0 : decode cX6_copy 0 = .ok (.iconst 0, 1) := by decide +kernel
theorem dX6_copy_1 : decode cX6_copy 1 = .ok (.istore 5, 2) := by decide +kernel
theorem dX6_copy_3 : decode cX6_copy 3 = .ok (.iload 5, 2) := by decide +kernel
theorem dX6_copy_5 : decode cX6_copy 5 = .ok (.iload 4, 2) := by decide +kernel
theorem dX6_copy_7 : decode cX6_copy 7 = .ok (.if_icmp .ge 25, 3) := by decide +kernel
theorem dX6_copy_10 : decode cX6_copy 10 = .ok (.aload_n 2, 1) := by decide +kernel
theorem dX6_copy_11 : decode cX6_copy 11 = .ok (.iload_n 3, 1) := by decide +kernel
theorem dX6_copy_12 : decode cX6_copy 12 = .ok (.iload 5, 2) := by decide +kernel
theorem dX6_copy_14 : decode cX6_copy 14 = .ok (.iadd, 1) := by decide +kernel
theorem dX6_copy_15 : decode cX6_copy 15 = .ok (.aload_n 0, 1) := by decide +kernel
theorem dX6_copy_16 : decode cX6_copy 16 = .ok (.iload_n 1, 1) := by decide +kernel
theorem dX6_copy_17 : decode cX6_copy 17 = .ok (.iload 5, 2) := by decide +kernel
theorem dX6_copy_19 : decode cX6_copy 19 = .ok (.iadd, 1) := by decide +kernel
theorem dX6_copy_20 : decode cX6_copy 20 = .ok (.invokestatic 7, 3) := by decide +kernel
theorem dX6_copy_23 : decode cX6_copy 23 = .ok (.invokestatic 13, 3) := by decide +kernel
theorem dX6_copy_26 : decode cX6_copy 26 = .ok (.iinc 5 1, 3) := by decide +kernel
theorem dX6_copy_29 : decode cX6_copy 29 = .ok (.goto (-26), 3) := by decide +kernel
theorem dX6_copy_32 : decode cX6_copy 32 = .ok (.return_, 1) := by decide +kernel
theorem dX7_init_0 : decode cX7_init 0 = .ok (.aload_n 0, 1) := by decide +kernel
theorem dX7_init_1 : decode cX7_init 1 = .ok (.invokespecial 3, 3) := by decide +kernel
theorem dX7_init_4 : decode cX7_init 4 = .ok (.aload_n 0, 1) := by decide +kernel
theorem dX7_init_5 : decode cX7_init 5 = .ok (.bipush 8, 2) := by decide +kernel
theorem dX7_init_7 : decode cX7_init 7 = .ok (.newarray .int, 2) := by decide +kernel
theorem dX7_init_9 : decode cX7_init 9 = .ok (.putfield 9, 3) := by decide +kernel
theorem dX7_init_12 : decode cX7_init 12 = .ok (.aload_n 0, 1) := by decide +kernel
theorem dX7_init_13 : decode cX7_init 13 = .ok (.bipush 8, 2) := by decide +kernel
theorem dX7_init_15 : decode cX7_init 15 = .ok (.newarray .int, 2) := by decide +kernel
theorem dX7_init_17 : decode cX7_init 17 = .ok (.putfield 15, 3) := by decide +kernel
theorem dX7_init_20 : decode cX7_init 20 = .ok (.aload_n 0, 1) := by decide +kernel
theorem dX7_init_21 : decode cX7_init 21 = .ok (.bipush 8, 2) := by decide +kernel
theorem dX7_init_23 : decode cX7_init 23 = .ok (.newarray .int, 2) := by decide +kernel
theorem dX7_init_25 : decode cX7_init 25 = .ok (.putfield 18, 3) := by decide +kernel
theorem dX7_init_28 : decode cX7_init 28 = .ok (.aload_n 0, 1) := by decide +kernel
theorem dX7_init_29 : decode cX7_init 29 = .ok (.aload_n 1, 1) := by decide +kernel
theorem dX7_init_30 : decode cX7_init 30 = .ok (.putfield 21, 3) := by decide +kernel
theorem dX7_init_33 : decode cX7_init 33 = .ok (.aload_n 0, 1) := by decide +kernel
theorem dX7_init_34 : decode cX7_init 34 = .ok (.aload_n 2, 1) := by decide +kernel
theorem dX7_init_35 : decode cX7_init 35 = .ok (.putfield 25, 3) := by decide +kernel
theorem dX7_init_38 : decode cX7_init 38 = .ok (.return_, 1) := by decide +kernel
theorem dX7_begin_0 : decode cX7_begin 0 = .ok (.aload_n 0, 1) := by decide +kernel
theorem dX7_begin_1 : decode cX7_begin 1 = .ok (.iconst 0, 1) := by decide +kernel
theorem dX7_begin_2 : decode cX7_begin 2 = .ok (.putfield 29, 3) := by decide +kernel
theorem dX7_begin_5 : decode cX7_begin 5 = .ok (.iconst 0, 1) := by decide +kernel
theorem dX7_begin_6 : decode cX7_begin 6 = .ok (.istore_n 1, 1) := by decide +kernel
theorem dX7_begin_7 : decode cX7_begin 7 = .ok (.iload_n 1, 1) := by decide +kernel
theorem dX7_begin_8 : decode cX7_begin 8 = .ok (.bipush 8, 2) := by decide +kernel
theorem dX7_begin_10 : decode cX7_begin 10 = .ok (.if_icmp .ge 61, 3) := by decide +kernel
theorem dX7_begin_13 : decode cX7_begin 13 = .ok (.aload_n 0, 1) := by decide +kernel
theorem dX7_begin_14 : decode cX7_begin 14 = .ok (.getfield 9, 3) := by decide +kernel
theorem dX7_begin_17 : decode cX7_begin 17 = .ok (.iload_n 1, 1) := by decide +kernel
theorem dX7_begin_18 : decode cX7_begin 18 = .ok (.iload_n 1, 1) := by decide +kernel
theorem dX7_begin_19 : decode cX7_begin 19 = .ok (.aload_n 0, 1) := by decide +kernel
theorem dX7_begin_20 : decode cX7_begin 20 = .ok (.getfield 21, 3) := by decide +kernel
theorem dX7_begin_23 : decode cX7_begin 23 = .ok (.getfield 33, 3) := by decide +kernel
theorem dX7_begin_26 : decode cX7_begin 26 = .ok (.if_icmp .ge 17, 3) := by decide +kernel
theorem dX7_begin_29 : decode cX7_begin 29 = .ok (.aload_n 0, 1) := by decide +kernel
theorem dX7_begin_30 : decode cX7_begin 30 = .ok (.getfield 21, 3) := by decide +kernel
theorem dX7_begin_33 : decode cX7_begin 33 = .ok (.getfield 38, 3) := by decide +kernel
theorem dX7_begin_36 : decode cX7_begin 36 = .ok (.iload_n 1, 1) := by decide +kernel
theorem dX7_begin_37 : decode cX7_begin 37 = .ok (.invokestatic 41, 3) := by decide +kernel
theorem dX7_begin_40 : decode cX7_begin 40 = .ok (.goto 4, 3) := by decide +kernel
theorem dX7_begin_43 : decode cX7_begin 43 = .ok (.iconst 0, 1) := by decide +kernel
theorem dX7_begin_44 : decode cX7_begin 44 = .ok (.invokestatic 47, 3) := by decide +kernel
theorem dX7_begin_47 : decode cX7_begin 47 = .ok (.aload_n 0, 1) := by decide +kernel
theorem dX7_begin_48 : decode cX7_begin 48 = .ok (.getfield 15, 3) := by decide +kernel
theorem dX7_begin_51 : decode cX7_begin 51 = .ok (.iload_n 1, 1) := by decide +kernel
theorem dX7_begin_52 : decode cX7_begin 52 = .ok (.iconst (-1), 1) := by decide +kernel
theorem dX7_begin_53 : decode cX7_begin 53 = .ok (.invokestatic 47, 3) := by decide +kernel
theorem dX7_begin_56 : decode cX7_begin 56 = .ok (.aload_n 0, 1) := by decide +kernel
theorem dX7_begin_57 : decode cX7_begin 57 = .ok (.getfield 18, 3) := by decide +kernel
theorem dX7_begin_60 : decode cX7_begin 60 = .ok (.iload_n 1, 1) := by decide +kernel
theorem dX7_begin_61 : decode cX7_begin 61 = .ok (.iconst (-1), 1) := by decide +kernel
theorem dX7_begin_62 : decode cX7_begin 62 = .ok (.invokestatic 47, 3) := by decide +kernel
theorem dX7_begin_65 : decode cX7_begin 65 = .ok (.iinc 1 1, 3) := by decide +kernel
theorem dX7_begin_68 : decode cX7_begin 68 = .ok (.goto (-61), 3) := by decide +kernel
theorem dX7_begin_71 : decode cX7_begin 71 = .ok (.return_, 1) := by decide +kernel
theorem dX7_take_0 : decode cX7_take 0 = .ok (.aload_n 0, 1) := by decide +kernel
theorem dX7_take_1 : decode cX7_take 1 = .ok (.aload_n 1, 1) := by decide +kernel
theorem dX7_take_2 : decode cX7_take 2 = .ok (.getfield 29, 3) := by decide +kernel
theorem dX7_take_5 : decode cX7_take 5 = .ok (.putfield 29, 3) := by decide +kernel
theorem dX7_take_8 : decode cX7_take 8 = .ok (.aload_n 1, 1) := by decide +kernel
theorem dX7_take_9 : decode cX7_take 9 = .ok (.getfield 9, 3) := by decide +kernel
theorem dX7_take_12 : decode cX7_take 12 = .ok (.iconst 0, 1) := by decide +kernel
theorem dX7_take_13 : decode cX7_take 13 = .ok (.aload_n 0, 1) := by decide +kernel
theorem dX7_take_14 : decode cX7_take 14 = .ok (.getfield 9, 3) := by decide +kernel
theorem dX7_take_17 : decode cX7_take 17 = .ok (.iconst 0, 1) := by decide +kernel
theorem dX7_take_18 : decode cX7_take 18 = .ok (.bipush 8, 2) := by decide +kernel
theorem dX7_take_20 : decode cX7_take 20 = .ok (.invokestatic 51, 3) := by decide +kernel
theorem dX7_take_23 : decode cX7_take 23 = .ok (.aload_n 1, 1) := by decide +kernel
theorem dX7_take_24 : decode cX7_take 24 = .ok (.getfield 15, 3) := by decide +kernel
theorem dX7_take_27 : decode cX7_take 27 = .ok (.iconst 0, 1) := by decide +kernel
theorem dX7_take_28 : decode cX7_take 28 = .ok (.aload_n 0, 1) := by decide +kernel
theorem dX7_take_29 : decode cX7_take 29 = .ok (.getfield 15, 3) := by decide +kernel
theorem dX7_take_32 : decode cX7_take 32 = .ok (.iconst 0, 1) := by decide +kernel
theorem dX7_take_33 : decode cX7_take 33 = .ok (.bipush 8, 2) := by decide +kernel
theorem dX7_take_35 : decode cX7_take 35 = .ok (.invokestatic 51, 3) := by decide +kernel
theorem dX7_take_38 : decode cX7_take 38 = .ok (.aload_n 1, 1) := by decide +kernel
theorem dX7_take_39 : decode cX7_take 39 = .ok (.getfield 18, 3) := by decide +kernel
theorem dX7_take_42 : decode cX7_take 42 = .ok (.iconst 0, 1) := by decide +kernel
theorem dX7_take_43 : decode cX7_take 43 = .ok (.aload_n 0, 1) := by decide +kernel
theorem dX7_take_44 : decode cX7_take 44 = .ok (.getfield 18, 3) := by decide +kernel
theorem dX7_take_47 : decode cX7_take 47 = .ok (.iconst 0, 1) := by decide +kernel
theorem dX7_take_48 : decode cX7_take 48 = .ok (.bipush 8, 2) := by decide +kernel
theorem dX7_take_50 : decode cX7_take 50 = .ok (.invokestatic 51, 3) := by decide +kernel
theorem dX7_take_53 : decode cX7_take 53 = .ok (.return_, 1) := by decide +kernel
theorem dX7_writeTo_0 : decode cX7_writeTo 0 = .ok (.aload_n 0, 1) := by decide +kernel
theorem dX7_writeTo_1 : decode cX7_writeTo 1 = .ok (.getfield 9, 3) := by decide +kernel
theorem dX7_writeTo_4 : decode cX7_writeTo 4 = .ok (.iconst 0, 1) := by decide +kernel
theorem dX7_writeTo_5 : decode cX7_writeTo 5 = .ok (.aload_n 1, 1) := by decide +kernel
theorem dX7_writeTo_6 : decode cX7_writeTo 6 = .ok (.iload_n 2, 1) := by decide +kernel
theorem dX7_writeTo_7 : decode cX7_writeTo 7 = .ok (.bipush 8, 2) := by decide +kernel
theorem dX7_writeTo_9 : decode cX7_writeTo 9 = .ok (.invokestatic 51, 3) := by decide +kernel
theorem dX7_writeTo_12 : decode cX7_writeTo 12 = .ok (.aload_n 0, 1) := by decide +kernel
theorem dX7_writeTo_13 : decode cX7_writeTo 13 = .ok (.getfield 15, 3) := by decide +kernel
theorem dX7_writeTo_16 : decode cX7_writeTo 16 = .ok (.iconst 0, 1) := by decide +kernel
theorem dX7_writeTo_17 : decode cX7_writeTo 17 = .ok (.aload_n 1, 1) := by decide +kernel
theorem dX7_writeTo_18 : decode cX7_writeTo 18 = .ok (.iload_n 2, 1) := by decide +kernel
theorem dX7_writeTo_19 : decode cX7_writeTo 19 = .ok (.bipush 8, 2) := by decide +kernel
theorem dX7_writeTo_21 : decode cX7_writeTo 21 = .ok (.iadd, 1) := by decide +kernel
theorem dX7_writeTo_22 : decode cX7_writeTo 22 = .ok (.bipush 8, 2) := by decide +kernel
theorem dX7_writeTo_24 : decode cX7_writeTo 24 = .ok (.invokestatic 51, 3) := by decide +kernel
theorem dX7_writeTo_27 : decode cX7_writeTo 27 = .ok (.aload_n 0, 1) := by decide +kernel
theorem dX7_writeTo_28 : decode cX7_writeTo 28 = .ok (.getfield 18, 3) := by decide +kernel
theorem dX7_writeTo_31 : decode cX7_writeTo 31 = .ok (.iconst 0, 1) := by decide +kernel
theorem dX7_writeTo_32 : decode cX7_writeTo 32 = .ok (.aload_n 1, 1) := by decide +kernel
theorem dX7_writeTo_33 : decode cX7_writeTo 33 = .ok (.iload_n 2, 1) := by decide +kernel
theorem dX7_writeTo_34 : decode cX7_writeTo 34 = .ok (.bipush 16, 2) := by decide +kernel
theorem dX7_writeTo_36 : decode cX7_writeTo 36 = .ok (.iadd, 1) := by decide +kernel
theorem dX7_writeTo_37 : decode cX7_writeTo 37 = .ok (.bipush 8, 2) := by decide +kernel
theorem dX7_writeTo_39 : decode cX7_writeTo 39 = .ok (.invokestatic 51, 3) := by decide +kernel
theorem dX7_writeTo_42 : decode cX7_writeTo 42 = .ok (.aload_n 1, 1) := by decide +kernel
theorem dX7_writeTo_43 : decode cX7_writeTo 43 = .ok (.iload_n 2, 1) := by decide +kernel
theorem dX7_writeTo_44 : decode cX7_writeTo 44 = .ok (.bipush 24, 2) := by decide +kernel
theorem dX7_writeTo_46 : decode cX7_writeTo 46 = .ok (.iadd, 1) := by decide +kernel
theorem dX7_writeTo_47 : decode cX7_writeTo 47 = .ok (.aload_n 0, 1) := by decide +kernel
theorem dX7_writeTo_48 : decode cX7_writeTo 48 = .ok (.getfield 29, 3) := by decide +kernel
theorem dX7_writeTo_51 : decode cX7_writeTo 51 = .ok (.invokestatic 47, 3) := by decide +kernel
theorem dX7_writeTo_54 : decode cX7_writeTo 54 = .ok (.return_, 1) := by decide +kernel
theorem dX7_readFrom_0 : decode cX7_readFrom 0 = .ok (.aload_n 1, 1) := by decide +kernel
theorem dX7_readFrom_1 : decode cX7_readFrom 1 = .ok (.iload_n 2, 1) := by decide +kernel
theorem dX7_readFrom_2 : decode cX7_readFrom 2 = .ok (.aload_n 0, 1) := by decide +kernel
theorem dX7_readFrom_3 : decode cX7_readFrom 3 = .ok (.getfield 9, 3) := by decide +kernel
theorem dX7_readFrom_6 : decode cX7_readFrom 6 = .ok (.iconst 0, 1) := by decide +kernel
theorem dX7_readFrom_7 : decode cX7_readFrom 7 = .ok (.bipush 8, 2) := by decide +kernel
theorem dX7_readFrom_9 : decode cX7_readFrom 9 = .ok (.invokestatic 51, 3) := by decide +kernel
theorem dX7_readFrom_12 : decode cX7_readFrom 12 = .ok (.aload_n 1, 1) := by decide +kernel
theorem dX7_readFrom_13 : decode cX7_readFrom 13 = .ok (.iload_n 2, 1) := by decide +kernel
theorem dX7_readFrom_14 : decode cX7_readFrom 14 = .ok (.bipush 8, 2) := by decide +kernel
theorem dX7_readFrom_16 : decode cX7_readFrom 16 = .ok (.iadd, 1) := by decide +kernel
theorem dX7_readFrom_17 : decode cX7_readFrom 17 = .ok (.aload_n 0, 1) := by decide +kernel
theorem dX7_readFrom_18 : decode cX7_readFrom 18 = .ok (.getfield 15, 3) := by decide +kernel
theorem dX7_readFrom_21 : decode cX7_readFrom 21 = .ok (.iconst 0, 1) := by decide +kernel
theorem dX7_readFrom_22 : decode cX7_readFrom 22 = .ok (.bipush 8, 2) := by decide +kernel
theorem dX7_readFrom_24 : decode cX7_readFrom 24 = .ok (.invokestatic 51, 3) := by decide +kernel
theorem dX7_readFrom_27 : decode cX7_readFrom 27 = .ok (.aload_n 1, 1) := by decide +kernel
theorem dX7_readFrom_28 : decode cX7_readFrom 28 = .ok (.iload_n 2, 1) := by decide +kernel
theorem dX7_readFrom_29 : decode cX7_readFrom 29 = .ok (.bipush 16, 2) := by decide +kernel
theorem dX7_readFrom_31 : decode cX7_readFrom 31 = .ok (.iadd, 1) := by decide +kernel
theorem dX7_readFrom_32 : decode cX7_readFrom 32 = .ok (.aload_n 0, 1) := by decide +kernel
theorem dX7_readFrom_33 : decode cX7_readFrom 33 = .ok (.getfield 18, 3) := by decide +kernel
theorem dX7_readFrom_36 : decode cX7_readFrom 36 = .ok (.iconst 0, 1) := by decide +kernel
theorem dX7_readFrom_37 : decode cX7_readFrom 37 = .ok (.bipush 8, 2) := by decide +kernel
theorem dX7_readFrom_39 : decode cX7_readFrom 39 = .ok (.invokestatic 51, 3) := by decide +kernel
theorem dX7_readFrom_42 : decode cX7_readFrom 42 = .ok (.aload_n 0, 1) := by decide +kernel
theorem dX7_readFrom_43 : decode cX7_readFrom 43 = .ok (.aload_n 1, 1) := by decide +kernel
theorem dX7_readFrom_44 : decode cX7_readFrom 44 = .ok (.iload_n 2, 1) := by decide +kernel
theorem dX7_readFrom_45 : decode cX7_readFrom 45 = .ok (.bipush 24, 2) := by decide +kernel
theorem dX7_readFrom_47 : decode cX7_readFrom 47 = .ok (.iadd, 1) := by decide +kernel
theorem dX7_readFrom_48 : decode cX7_readFrom 48 = .ok (.invokestatic 41, 3) := by decide +kernel
theorem dX7_readFrom_51 : decode cX7_readFrom 51 = .ok (.putfield 29, 3) := by decide +kernel
theorem dX7_readFrom_54 : decode cX7_readFrom 54 = .ok (.return_, 1) := by decide +kernel
theorem dX7_lives_0 : decode cX7_lives 0 = .ok (.iload_n 1, 1) := by decide +kernel
theorem dX7_lives_1 : decode cX7_lives 1 = .ok (.ifCond .lt 30, 3) := by decide +kernel
theorem dX7_lives_4 : decode cX7_lives 4 = .ok (.iload_n 1, 1) := by decide +kernel
theorem dX7_lives_5 : decode cX7_lives 5 = .ok (.aload_n 0, 1) := by decide +kernel
theorem dX7_lives_6 : decode cX7_lives 6 = .ok (.getfield 21, 3) := by decide +kernel
theorem dX7_lives_9 : decode cX7_lives 9 = .ok (.getfield 33, 3) := by decide +kernel
theorem dX7_lives_12 : decode cX7_lives 12 = .ok (.if_icmp .ge 19, 3) := by decide +kernel
theorem dX7_lives_15 : decode cX7_lives 15 = .ok (.aload_n 0, 1) := by decide +kernel
theorem dX7_lives_16 : decode cX7_lives 16 = .ok (.getfield 18, 3) := by decide +kernel
theorem dX7_lives_19 : decode cX7_lives 19 = .ok (.iload_n 1, 1) := by decide +kernel
theorem dX7_lives_20 : decode cX7_lives 20 = .ok (.invokestatic 41, 3) := by decide +kernel
theorem dX7_lives_23 : decode cX7_lives 23 = .ok (.iconst (-1), 1) := by decide +kernel
theorem dX7_lives_24 : decode cX7_lives 24 = .ok (.if_icmp .ne 7, 3) := by decide +kernel
theorem dX7_lives_27 : decode cX7_lives 27 = .ok (.iconst 1, 1) := by decide +kernel
theorem dX7_lives_28 : decode cX7_lives 28 = .ok (.goto 4, 3) := by decide +kernel
theorem dX7_lives_31 : decode cX7_lives 31 = .ok (.iconst 0, 1) := by decide +kernel
theorem dX7_lives_32 : decode cX7_lives 32 = .ok (.ireturn, 1) := by decide +kernel
theorem dX7_isDead_0 : decode cX7_isDead 0 = .ok (.iload_n 1, 1) := by decide +kernel
theorem dX7_isDead_1 : decode cX7_isDead 1 = .ok (.ifCond .lt 30, 3) := by decide +kernel
theorem dX7_isDead_4 : decode cX7_isDead 4 = .ok (.iload_n 1, 1) := by decide +kernel
theorem dX7_isDead_5 : decode cX7_isDead 5 = .ok (.aload_n 0, 1) := by decide +kernel
theorem dX7_isDead_6 : decode cX7_isDead 6 = .ok (.getfield 21, 3) := by decide +kernel
theorem dX7_isDead_9 : decode cX7_isDead 9 = .ok (.getfield 33, 3) := by decide +kernel
theorem dX7_isDead_12 : decode cX7_isDead 12 = .ok (.if_icmp .ge 19, 3) := by decide +kernel
theorem dX7_isDead_15 : decode cX7_isDead 15 = .ok (.aload_n 0, 1) := by decide +kernel
theorem dX7_isDead_16 : decode cX7_isDead 16 = .ok (.getfield 18, 3) := by decide +kernel
theorem dX7_isDead_19 : decode cX7_isDead 19 = .ok (.iload_n 1, 1) := by decide +kernel
theorem dX7_isDead_20 : decode cX7_isDead 20 = .ok (.invokestatic 41, 3) := by decide +kernel
theorem dX7_isDead_23 : decode cX7_isDead 23 = .ok (.iconst (-1), 1) := by decide +kernel
theorem dX7_isDead_24 : decode cX7_isDead 24 = .ok (.if_icmp .eq 7, 3) := by decide +kernel
theorem dX7_isDead_27 : decode cX7_isDead 27 = .ok (.iconst 1, 1) := by decide +kernel
theorem dX7_isDead_28 : decode cX7_isDead 28 = .ok (.goto 4, 3) := by decide +kernel
theorem dX7_isDead_31 : decode cX7_isDead 31 = .ok (.iconst 0, 1) := by decide +kernel
theorem dX7_isDead_32 : decode cX7_isDead 32 = .ok (.ireturn, 1) := by decide +kernel
theorem dX7_living_0 : decode cX7_living 0 = .ok (.iconst 0, 1) := by decide +kernel
theorem dX7_living_1 : decode cX7_living 1 = .ok (.istore_n 1, 1) := by decide +kernel
theorem dX7_living_2 : decode cX7_living 2 = .ok (.iconst 0, 1) := by decide +kernel
theorem dX7_living_3 : decode cX7_living 3 = .ok (.istore_n 2, 1) := by decide +kernel
theorem dX7_living_4 : decode cX7_living 4 = .ok (.iload_n 2, 1) := by decide +kernel
theorem dX7_living_5 : decode cX7_living 5 = .ok (.aload_n 0, 1) := by decide +kernel
theorem dX7_living_6 : decode cX7_living 6 = .ok (.getfield 21, 3) := by decide +kernel
theorem dX7_living_9 : decode cX7_living 9 = .ok (.getfield 33, 3) := by decide +kernel
theorem dX7_living_12 : decode cX7_living 12 = .ok (.if_icmp .ge 23, 3) := by decide +kernel
theorem dX7_living_15 : decode cX7_living 15 = .ok (.aload_n 0, 1) := by decide +kernel
theorem dX7_living_16 : decode cX7_living 16 = .ok (.iload_n 2, 1) := by decide +kernel
theorem dX7_living_17 : decode cX7_living 17 = .ok (.invokevirtual 55, 3) := by decide +kernel
theorem dX7_living_20 : decode cX7_living 20 = .ok (.ifCond .eq 9, 3) := by decide +kernel
theorem dX7_living_23 : decode cX7_living 23 = .ok (.iload_n 1, 1) := by decide +kernel
theorem dX7_living_24 : decode cX7_living 24 = .ok (.iconst 1, 1) := by decide +kernel
theorem dX7_living_25 : decode cX7_living 25 = .ok (.iload_n 2, 1) := by decide +kernel
theorem dX7_living_26 : decode cX7_living 26 = .ok (.ishl, 1) := by decide +kernel
theorem dX7_living_27 : decode cX7_living 27 = .ok (.ior, 1) := by decide +kernel
theorem dX7_living_28 : decode cX7_living 28 = .ok (.istore_n 1, 1) := by decide +kernel
theorem dX7_living_29 : decode cX7_living 29 = .ok (.iinc 2 1, 3) := by decide +kernel
theorem dX7_living_32 : decode cX7_living 32 = .ok (.goto (-28), 3) := by decide +kernel
theorem dX7_living_35 : decode cX7_living 35 = .ok (.iload_n 1, 1) := by decide +kernel
theorem dX7_living_36 : decode cX7_living 36 = .ok (.ireturn, 1) := by decide +kernel
theorem dX7_nameless_0 : decode cX7_nameless 0 = .ok (.iconst 0, 1) := by decide +kernel
theorem dX7_nameless_1 : decode cX7_nameless 1 = .ok (.istore_n 1, 1) := by decide +kernel
theorem dX7_nameless_2 : decode cX7_nameless 2 = .ok (.iconst 0, 1) := by decide +kernel
theorem dX7_nameless_3 : decode cX7_nameless 3 = .ok (.istore_n 2, 1) := by decide +kernel
theorem dX7_nameless_4 : decode cX7_nameless 4 = .ok (.iload_n 2, 1) := by decide +kernel
theorem dX7_nameless_5 : decode cX7_nameless 5 = .ok (.aload_n 0, 1) := by decide +kernel
theorem dX7_nameless_6 : decode cX7_nameless 6 = .ok (.getfield 21, 3) := by decide +kernel
theorem dX7_nameless_9 : decode cX7_nameless 9 = .ok (.getfield 33, 3) := by decide +kernel
theorem dX7_nameless_12 : decode cX7_nameless 12 = .ok (.if_icmp .ge 35, 3) := by decide +kernel
theorem dX7_nameless_15 : decode cX7_nameless 15 = .ok (.aload_n 0, 1) := by decide +kernel
theorem dX7_nameless_16 : decode cX7_nameless 16 = .ok (.iload_n 2, 1) := by decide +kernel
theorem dX7_nameless_17 : decode cX7_nameless 17 = .ok (.invokevirtual 59, 3) := by decide +kernel
theorem dX7_nameless_20 : decode cX7_nameless 20 = .ok (.ifCond .eq 21, 3) := by decide +kernel
theorem dX7_nameless_23 : decode cX7_nameless 23 = .ok (.aload_n 0, 1) := by decide +kernel
theorem dX7_nameless_24 : decode cX7_nameless 24 = .ok (.getfield 15, 3) := by decide +kernel
theorem dX7_nameless_27 : decode cX7_nameless 27 = .ok (.iload_n 2, 1) := by decide +kernel
theorem dX7_nameless_28 : decode cX7_nameless 28 = .ok (.invokestatic 41, 3) := by decide +kernel
theorem dX7_nameless_31 : decode cX7_nameless 31 = .ok (.iconst (-1), 1) := by decide +kernel
theorem dX7_nameless_32 : decode cX7_nameless 32 = .ok (.if_icmp .ne 9, 3) := by decide +kernel
theorem dX7_nameless_35 : decode cX7_nameless 35 = .ok (.iload_n 1, 1) := by decide +kernel
theorem dX7_nameless_36 : decode cX7_nameless 36 = .ok (.iconst 1, 1) := by decide +kernel
theorem dX7_nameless_37 : decode cX7_nameless 37 = .ok (.iload_n 2, 1) := by decide +kernel
theorem dX7_nameless_38 : decode cX7_nameless 38 = .ok (.ishl, 1) := by decide +kernel
theorem dX7_nameless_39 : decode cX7_nameless 39 = .ok (.ior, 1) := by decide +kernel
theorem dX7_nameless_40 : decode cX7_nameless 40 = .ok (.istore_n 1, 1) := by decide +kernel
theorem dX7_nameless_41 : decode cX7_nameless 41 = .ok (.iinc 2 1, 3) := by decide +kernel
theorem dX7_nameless_44 : decode cX7_nameless 44 = .ok (.goto (-40), 3) := by decide +kernel
theorem dX7_nameless_47 : decode cX7_nameless 47 = .ok (.iload_n 1, 1) := by decide +kernel
theorem dX7_nameless_48 : decode cX7_nameless 48 = .ok (.ireturn, 1) := by decide +kernel
theorem dX7_named_0 : decode cX7_named 0 = .ok (.iconst 0, 1) := by decide +kernel
theorem dX7_named_1 : decode cX7_named 1 = .ok (.istore_n 1, 1) := by decide +kernel
theorem dX7_named_2 : decode cX7_named 2 = .ok (.iconst 0, 1) := by decide +kernel
theorem dX7_named_3 : decode cX7_named 3 = .ok (.istore_n 2, 1) := by decide +kernel
theorem dX7_named_4 : decode cX7_named 4 = .ok (.iload_n 2, 1) := by decide +kernel
theorem dX7_named_5 : decode cX7_named 5 = .ok (.bipush 8, 2) := by decide +kernel
theorem dX7_named_7 : decode cX7_named 7 = .ok (.if_icmp .ge 24, 3) := by decide +kernel
theorem dX7_named_10 : decode cX7_named 10 = .ok (.aload_n 0, 1) := by decide +kernel
theorem dX7_named_11 : decode cX7_named 11 = .ok (.getfield 15, 3) := by decide +kernel
theorem dX7_named_14 : decode cX7_named 14 = .ok (.iload_n 2, 1) := by decide +kernel
theorem dX7_named_15 : decode cX7_named 15 = .ok (.invokestatic 41, 3) := by decide +kernel
theorem dX7_named_18 : decode cX7_named 18 = .ok (.iconst (-1), 1) := by decide +kernel
theorem dX7_named_19 : decode cX7_named 19 = .ok (.if_icmp .eq 6, 3) := by decide +kernel
theorem dX7_named_22 : decode cX7_named 22 = .ok (.iinc 1 1, 3) := by decide +kernel
theorem dX7_named_25 : decode cX7_named 25 = .ok (.iinc 2 1, 3) := by decide +kernel
theorem dX7_named_28 : decode cX7_named 28 = .ok (.goto (-24), 3) := by decide +kernel
theorem dX7_named_31 : decode cX7_named 31 = .ok (.iload_n 1, 1) := by decide +kernel
theorem dX7_named_32 : decode cX7_named 32 = .ok (.ireturn, 1) := by decide +kernel
theorem dX7_howManyDead_0 : decode cX7_howManyDead 0 = .ok (.iconst 0, 1) := by decide +kernel
theorem dX7_howManyDead_1 : decode cX7_howManyDead 1 = .ok (.istore_n 1, 1) := by decide +kernel
theorem dX7_howManyDead_2 : decode cX7_howManyDead 2 = .ok (.iconst 0, 1) := by decide +kernel
theorem dX7_howManyDead_3 : decode cX7_howManyDead 3 = .ok (.istore_n 2, 1) := by decide +kernel
theorem dX7_howManyDead_4 : decode cX7_howManyDead 4 = .ok (.iload_n 2, 1) := by decide +kernel
theorem dX7_howManyDead_5 : decode cX7_howManyDead 5 = .ok (.aload_n 0, 1) := by decide +kernel
theorem dX7_howManyDead_6 : decode cX7_howManyDead 6 = .ok (.getfield 18, 3) := by decide +kernel
theorem dX7_howManyDead_9 : decode cX7_howManyDead 9 = .ok (.arraylength, 1) := by decide +kernel
theorem dX7_howManyDead_10 : decode cX7_howManyDead 10 = .ok (.if_icmp .ge 22, 3) := by decide +kernel
theorem dX7_howManyDead_13 : decode cX7_howManyDead 13 = .ok (.aload_n 0, 1) := by decide +kernel
theorem dX7_howManyDead_14 : decode cX7_howManyDead 14 = .ok (.getfield 18, 3) := by decide +kernel
theorem dX7_howManyDead_17 : decode cX7_howManyDead 17 = .ok (.iload_n 2, 1) := by decide +kernel
theorem dX7_howManyDead_18 : decode cX7_howManyDead 18 = .ok (.iaload, 1) := by decide +kernel
theorem dX7_howManyDead_19 : decode cX7_howManyDead 19 = .ok (.iconst (-1), 1) := by decide +kernel
theorem dX7_howManyDead_20 : decode cX7_howManyDead 20 = .ok (.if_icmp .eq 6, 3) := by decide +kernel
theorem dX7_howManyDead_23 : decode cX7_howManyDead 23 = .ok (.iinc 1 1, 3) := by decide +kernel
theorem dX7_howManyDead_26 : decode cX7_howManyDead 26 = .ok (.iinc 2 1, 3) := by decide +kernel
theorem dX7_howManyDead_29 : decode cX7_howManyDead 29 = .ok (.goto (-25), 3) := by decide +kernel
theorem dX7_howManyDead_32 : decode cX7_howManyDead 32 = .ok (.iload_n 1, 1) := by decide +kernel
theorem dX7_howManyDead_33 : decode cX7_howManyDead 33 = .ok (.ireturn, 1) := by decide +kernel
theorem dX7_stonesOf_0 : decode cX7_stonesOf 0 = .ok (.iconst 0, 1) := by decide +kernel
theorem dX7_stonesOf_1 : decode cX7_stonesOf 1 = .ok (.istore_n 2, 1) := by decide +kernel
theorem dX7_stonesOf_2 : decode cX7_stonesOf 2 = .ok (.iconst 0, 1) := by decide +kernel
theorem dX7_stonesOf_3 : decode cX7_stonesOf 3 = .ok (.istore_n 3, 1) := by decide +kernel
theorem dX7_stonesOf_4 : decode cX7_stonesOf 4 = .ok (.iload_n 3, 1) := by decide +kernel
theorem dX7_stonesOf_5 : decode cX7_stonesOf 5 = .ok (.aload_n 0, 1) := by decide +kernel
theorem dX7_stonesOf_6 : decode cX7_stonesOf 6 = .ok (.getfield 15, 3) := by decide +kernel
theorem dX7_stonesOf_9 : decode cX7_stonesOf 9 = .ok (.arraylength, 1) := by decide +kernel
theorem dX7_stonesOf_10 : decode cX7_stonesOf 10 = .ok (.if_icmp .ge 22, 3) := by decide +kernel
theorem dX7_stonesOf_13 : decode cX7_stonesOf 13 = .ok (.aload_n 0, 1) := by decide +kernel
theorem dX7_stonesOf_14 : decode cX7_stonesOf 14 = .ok (.getfield 15, 3) := by decide +kernel
theorem dX7_stonesOf_17 : decode cX7_stonesOf 17 = .ok (.iload_n 3, 1) := by decide +kernel
theorem dX7_stonesOf_18 : decode cX7_stonesOf 18 = .ok (.iaload, 1) := by decide +kernel
theorem dX7_stonesOf_19 : decode cX7_stonesOf 19 = .ok (.iload_n 1, 1) := by decide +kernel
theorem dX7_stonesOf_20 : decode cX7_stonesOf 20 = .ok (.if_icmp .ne 6, 3) := by decide +kernel
theorem dX7_stonesOf_23 : decode cX7_stonesOf 23 = .ok (.iinc 2 1, 3) := by decide +kernel
theorem dX7_stonesOf_26 : decode cX7_stonesOf 26 = .ok (.iinc 3 1, 3) := by decide +kernel
theorem dX7_stonesOf_29 : decode cX7_stonesOf 29 = .ok (.goto (-25), 3) := by decide +kernel
theorem dX7_stonesOf_32 : decode cX7_stonesOf 32 = .ok (.iload_n 2, 1) := by decide +kernel
theorem dX7_stonesOf_33 : decode cX7_stonesOf 33 = .ok (.ireturn, 1) := by decide +kernel
theorem dX7_stonesUpTo_0 : decode cX7_stonesUpTo 0 = .ok (.iconst 0, 1) := by decide +kernel
theorem dX7_stonesUpTo_1 : decode cX7_stonesUpTo 1 = .ok (.istore_n 3, 1) := by decide +kernel
theorem dX7_stonesUpTo_2 : decode cX7_stonesUpTo 2 = .ok (.iconst 0, 1) := by decide +kernel
theorem dX7_stonesUpTo_3 : decode cX7_stonesUpTo 3 = .ok (.istore 4, 2) := by decide +kernel
theorem dX7_stonesUpTo_5 : decode cX7_stonesUpTo 5 = .ok (.iload 4, 2) := by decide +kernel
theorem dX7_stonesUpTo_7 : decode cX7_stonesUpTo 7 = .ok (.aload_n 0, 1) := by decide +kernel
theorem dX7_stonesUpTo_8 : decode cX7_stonesUpTo 8 = .ok (.getfield 21, 3) := by decide +kernel
theorem dX7_stonesUpTo_11 : decode cX7_stonesUpTo 11 = .ok (.getfield 33, 3) := by decide +kernel
theorem dX7_stonesUpTo_14 : decode cX7_stonesUpTo 14 = .ok (.if_icmp .ge 32, 3) := by decide +kernel
theorem dX7_stonesUpTo_17 : decode cX7_stonesUpTo 17 = .ok (.iload_n 1, 1) := by decide +kernel
theorem dX7_stonesUpTo_18 : decode cX7_stonesUpTo 18 = .ok (.iload 4, 2) := by decide +kernel
theorem dX7_stonesUpTo_20 : decode cX7_stonesUpTo 20 = .ok (.ishr, 1) := by decide +kernel
theorem dX7_stonesUpTo_21 : decode cX7_stonesUpTo 21 = .ok (.iconst 1, 1) := by decide +kernel
theorem dX7_stonesUpTo_22 : decode cX7_stonesUpTo 22 = .ok (.iand, 1) := by decide +kernel
theorem dX7_stonesUpTo_23 : decode cX7_stonesUpTo 23 = .ok (.iconst 1, 1) := by decide +kernel
theorem dX7_stonesUpTo_24 : decode cX7_stonesUpTo 24 = .ok (.if_icmp .ne 16, 3) := by decide +kernel
theorem dX7_stonesUpTo_27 : decode cX7_stonesUpTo 27 = .ok (.iload_n 3, 1) := by decide +kernel
theorem dX7_stonesUpTo_28 : decode cX7_stonesUpTo 28 = .ok (.iload_n 2, 1) := by decide +kernel
theorem dX7_stonesUpTo_29 : decode cX7_stonesUpTo 29 = .ok (.aload_n 0, 1) := by decide +kernel
theorem dX7_stonesUpTo_30 : decode cX7_stonesUpTo 30 = .ok (.iload 4, 2) := by decide +kernel
theorem dX7_stonesUpTo_32 : decode cX7_stonesUpTo 32 = .ok (.invokevirtual 62, 3) := by decide +kernel
theorem dX7_stonesUpTo_35 : decode cX7_stonesUpTo 35 = .ok (.invokestatic 66, 3) := by decide +kernel
theorem dX7_stonesUpTo_38 : decode cX7_stonesUpTo 38 = .ok (.iadd, 1) := by decide +kernel
theorem dX7_stonesUpTo_39 : decode cX7_stonesUpTo 39 = .ok (.istore_n 3, 1) := by decide +kernel
theorem dX7_stonesUpTo_40 : decode cX7_stonesUpTo 40 = .ok (.iinc 4 1, 3) := by decide +kernel
theorem dX7_stonesUpTo_43 : decode cX7_stonesUpTo 43 = .ok (.goto (-38), 3) := by decide +kernel
theorem dX7_stonesUpTo_46 : decode cX7_stonesUpTo 46 = .ok (.iload_n 3, 1) := by decide +kernel
theorem dX7_stonesUpTo_47 : decode cX7_stonesUpTo 47 = .ok (.ireturn, 1) := by decide +kernel
theorem dX7_directlyUnder_0 : decode cX7_directlyUnder 0 = .ok (.iconst 0, 1) := by decide +kernel
theorem dX7_directlyUnder_1 : decode cX7_directlyUnder 1 = .ok (.istore_n 2, 1) := by decide +kernel
theorem dX7_directlyUnder_2 : decode cX7_directlyUnder 2 = .ok (.iconst 0, 1) := by decide +kernel
theorem dX7_directlyUnder_3 : decode cX7_directlyUnder 3 = .ok (.istore_n 3, 1) := by decide +kernel
theorem dX7_directlyUnder_4 : decode cX7_directlyUnder 4 = .ok (.iload_n 3, 1) := by decide +kernel
theorem dX7_directlyUnder_5 : decode cX7_directlyUnder 5 = .ok (.aload_n 0, 1) := by decide +kernel
theorem dX7_directlyUnder_6 : decode cX7_directlyUnder 6 = .ok (.getfield 21, 3) := by decide +kernel
theorem dX7_directlyUnder_9 : decode cX7_directlyUnder 9 = .ok (.getfield 33, 3) := by decide +kernel
theorem dX7_directlyUnder_12 : decode cX7_directlyUnder 12 = .ok (.if_icmp .ge 27, 3) := by decide +kernel
theorem dX7_directlyUnder_15 : decode cX7_directlyUnder 15 = .ok (.aload_n 0, 1) := by decide +kernel
theorem dX7_directlyUnder_16 : decode cX7_directlyUnder 16 = .ok (.getfield 15, 3) := by decide +kernel
theorem dX7_directlyUnder_19 : decode cX7_directlyUnder 19 = .ok (.iload_n 3, 1) := by decide +kernel
theorem dX7_directlyUnder_20 : decode cX7_directlyUnder 20 = .ok (.invokestatic 41, 3) := by decide +kernel
theorem dX7_directlyUnder_23 : decode cX7_directlyUnder 23 = .ok (.iload_n 1, 1) := by decide +kernel
theorem dX7_directlyUnder_24 : decode cX7_directlyUnder 24 = .ok (.if_icmp .ne 9, 3) := by decide +kernel
theorem dX7_directlyUnder_27 : decode cX7_directlyUnder 27 = .ok (.iload_n 2, 1) := by decide +kernel
theorem dX7_directlyUnder_28 : decode cX7_directlyUnder 28 = .ok (.iconst 1, 1) := by decide +kernel
theorem dX7_directlyUnder_29 : decode cX7_directlyUnder 29 = .ok (.iload_n 3, 1) := by decide +kernel
theorem dX7_directlyUnder_30 : decode cX7_directlyUnder 30 = .ok (.ishl, 1) := by decide +kernel
theorem dX7_directlyUnder_31 : decode cX7_directlyUnder 31 = .ok (.ior, 1) := by decide +kernel
theorem dX7_directlyUnder_32 : decode cX7_directlyUnder 32 = .ok (.istore_n 2, 1) := by decide +kernel
theorem dX7_directlyUnder_33 : decode cX7_directlyUnder 33 = .ok (.iinc 3 1, 3) := by decide +kernel
theorem dX7_directlyUnder_36 : decode cX7_directlyUnder 36 = .ok (.goto (-32), 3) := by decide +kernel
theorem dX7_directlyUnder_39 : decode cX7_directlyUnder 39 = .ok (.iload_n 2, 1) := by decide +kernel
theorem dX7_directlyUnder_40 : decode cX7_directlyUnder 40 = .ok (.ireturn, 1) := by decide +kernel
theorem dX7_allDebts_0 : decode cX7_allDebts 0 = .ok (.iconst 0, 1) := by decide +kernel
theorem dX7_allDebts_1 : decode cX7_allDebts 1 = .ok (.istore_n 1, 1) := by decide +kernel
theorem dX7_allDebts_2 : decode cX7_allDebts 2 = .ok (.iconst 0, 1) := by decide +kernel
theorem dX7_allDebts_3 : decode cX7_allDebts 3 = .ok (.istore_n 2, 1) := by decide +kernel
theorem dX7_allDebts_4 : decode cX7_allDebts 4 = .ok (.iload_n 2, 1) := by decide +kernel
theorem dX7_allDebts_5 : decode cX7_allDebts 5 = .ok (.aload_n 0, 1) := by decide +kernel
theorem dX7_allDebts_6 : decode cX7_allDebts 6 = .ok (.getfield 9, 3) := by decide +kernel
theorem dX7_allDebts_9 : decode cX7_allDebts 9 = .ok (.arraylength, 1) := by decide +kernel
theorem dX7_allDebts_10 : decode cX7_allDebts 10 = .ok (.if_icmp .ge 18, 3) := by decide +kernel
theorem dX7_allDebts_13 : decode cX7_allDebts 13 = .ok (.iload_n 1, 1) := by decide +kernel
theorem dX7_allDebts_14 : decode cX7_allDebts 14 = .ok (.aload_n 0, 1) := by decide +kernel
theorem dX7_allDebts_15 : decode cX7_allDebts 15 = .ok (.getfield 9, 3) := by decide +kernel
theorem dX7_allDebts_18 : decode cX7_allDebts 18 = .ok (.iload_n 2, 1) := by decide +kernel
theorem dX7_allDebts_19 : decode cX7_allDebts 19 = .ok (.iaload, 1) := by decide +kernel
theorem dX7_allDebts_20 : decode cX7_allDebts 20 = .ok (.iadd, 1) := by decide +kernel
theorem dX7_allDebts_21 : decode cX7_allDebts 21 = .ok (.istore_n 1, 1) := by decide +kernel
theorem dX7_allDebts_22 : decode cX7_allDebts 22 = .ok (.iinc 2 1, 3) := by decide +kernel
theorem dX7_allDebts_25 : decode cX7_allDebts 25 = .ok (.goto (-21), 3) := by decide +kernel
theorem dX7_allDebts_28 : decode cX7_allDebts 28 = .ok (.iload_n 1, 1) := by decide +kernel
theorem dX7_allDebts_29 : decode cX7_allDebts 29 = .ok (.ireturn, 1) := by decide +kernel
theorem dX7_debtsOfDead_0 : decode cX7_debtsOfDead 0 = .ok (.iconst 0, 1) := by decide +kernel
theorem dX7_debtsOfDead_1 : decode cX7_debtsOfDead 1 = .ok (.istore_n 1, 1) := by decide +kernel
theorem dX7_debtsOfDead_2 : decode cX7_debtsOfDead 2 = .ok (.iconst 0, 1) := by decide +kernel
theorem dX7_debtsOfDead_3 : decode cX7_debtsOfDead 3 = .ok (.istore_n 2, 1) := by decide +kernel
theorem dX7_debtsOfDead_4 : decode cX7_debtsOfDead 4 = .ok (.iload_n 2, 1) := by decide +kernel
theorem dX7_debtsOfDead_5 : decode cX7_debtsOfDead 5 = .ok (.aload_n 0, 1) := by decide +kernel
theorem dX7_debtsOfDead_6 : decode cX7_debtsOfDead 6 = .ok (.getfield 21, 3) := by decide +kernel
theorem dX7_debtsOfDead_9 : decode cX7_debtsOfDead 9 = .ok (.getfield 33, 3) := by decide +kernel
theorem dX7_debtsOfDead_12 : decode cX7_debtsOfDead 12 = .ok (.if_icmp .ge 28, 3) := by decide +kernel
theorem dX7_debtsOfDead_15 : decode cX7_debtsOfDead 15 = .ok (.aload_n 0, 1) := by decide +kernel
theorem dX7_debtsOfDead_16 : decode cX7_debtsOfDead 16 = .ok (.iload_n 2, 1) := by decide +kernel
theorem dX7_debtsOfDead_17 : decode cX7_debtsOfDead 17 = .ok (.invokevirtual 59, 3) := by decide +kernel
theorem dX7_debtsOfDead_20 : decode cX7_debtsOfDead 20 = .ok (.ifCond .eq 14, 3) := by decide +kernel
theorem dX7_debtsOfDead_23 : decode cX7_debtsOfDead 23 = .ok (.iload_n 1, 1) := by decide +kernel
theorem dX7_debtsOfDead_24 : decode cX7_debtsOfDead 24 = .ok (.aload_n 0, 1) := by decide +kernel
theorem dX7_debtsOfDead_25 : decode cX7_debtsOfDead 25 = .ok (.getfield 9, 3) := by decide +kernel
theorem dX7_debtsOfDead_28 : decode cX7_debtsOfDead 28 = .ok (.iload_n 2, 1) := by decide +kernel
theorem dX7_debtsOfDead_29 : decode cX7_debtsOfDead 29 = .ok (.invokestatic 41, 3) := by decide +kernel
theorem dX7_debtsOfDead_32 : decode cX7_debtsOfDead 32 = .ok (.iadd, 1) := by decide +kernel
theorem dX7_debtsOfDead_33 : decode cX7_debtsOfDead 33 = .ok (.istore_n 1, 1) := by decide +kernel
theorem dX7_debtsOfDead_34 : decode cX7_debtsOfDead 34 = .ok (.iinc 2 1, 3) := by decide +kernel
theorem dX7_debtsOfDead_37 : decode cX7_debtsOfDead 37 = .ok (.goto (-33), 3) := by decide +kernel
theorem dX7_debtsOfDead_40 : decode cX7_debtsOfDead 40 = .ok (.iload_n 1, 1) := by decide +kernel
theorem dX7_debtsOfDead_41 : decode cX7_debtsOfDead 41 = .ok (.ireturn, 1) := by decide +kernel
theorem dX7_mostInDebt_0 : decode cX7_mostInDebt 0 = .ok (.iconst (-1), 1) := by decide +kernel
theorem dX7_mostInDebt_1 : decode cX7_mostInDebt 1 = .ok (.istore_n 1, 1) := by decide +kernel
theorem dX7_mostInDebt_2 : decode cX7_mostInDebt 2 = .ok (.iconst 0, 1) := by decide +kernel
theorem dX7_mostInDebt_3 : decode cX7_mostInDebt 3 = .ok (.istore_n 2, 1) := by decide +kernel
theorem dX7_mostInDebt_4 : decode cX7_mostInDebt 4 = .ok (.iload_n 2, 1) := by decide +kernel
theorem dX7_mostInDebt_5 : decode cX7_mostInDebt 5 = .ok (.aload_n 0, 1) := by decide +kernel
theorem dX7_mostInDebt_6 : decode cX7_mostInDebt 6 = .ok (.getfield 21, 3) := by decide +kernel
theorem dX7_mostInDebt_9 : decode cX7_mostInDebt 9 = .ok (.getfield 33, 3) := by decide +kernel
theorem dX7_mostInDebt_12 : decode cX7_mostInDebt 12 = .ok (.if_icmp .ge 35, 3) := by decide +kernel
theorem dX7_mostInDebt_15 : decode cX7_mostInDebt 15 = .ok (.iload_n 1, 1) := by decide +kernel
theorem dX7_mostInDebt_16 : decode cX7_mostInDebt 16 = .ok (.iconst (-1), 1) := by decide +kernel
theorem dX7_mostInDebt_17 : decode cX7_mostInDebt 17 = .ok (.if_icmp .eq 22, 3) := by decide +kernel
theorem dX7_mostInDebt_20 : decode cX7_mostInDebt 20 = .ok (.aload_n 0, 1) := by decide +kernel
theorem dX7_mostInDebt_21 : decode cX7_mostInDebt 21 = .ok (.getfield 9, 3) := by decide +kernel
theorem dX7_mostInDebt_24 : decode cX7_mostInDebt 24 = .ok (.iload_n 2, 1) := by decide +kernel
theorem dX7_mostInDebt_25 : decode cX7_mostInDebt 25 = .ok (.invokestatic 41, 3) := by decide +kernel
theorem dX7_mostInDebt_28 : decode cX7_mostInDebt 28 = .ok (.aload_n 0, 1) := by decide +kernel
theorem dX7_mostInDebt_29 : decode cX7_mostInDebt 29 = .ok (.getfield 9, 3) := by decide +kernel
theorem dX7_mostInDebt_32 : decode cX7_mostInDebt 32 = .ok (.iload_n 1, 1) := by decide +kernel
theorem dX7_mostInDebt_33 : decode cX7_mostInDebt 33 = .ok (.invokestatic 41, 3) := by decide +kernel
theorem dX7_mostInDebt_36 : decode cX7_mostInDebt 36 = .ok (.if_icmp .le 5, 3) := by decide +kernel
theorem dX7_mostInDebt_39 : decode cX7_mostInDebt 39 = .ok (.iload_n 2, 1) := by decide +kernel
theorem dX7_mostInDebt_40 : decode cX7_mostInDebt 40 = .ok (.istore_n 1, 1) := by decide +kernel
theorem dX7_mostInDebt_41 : decode cX7_mostInDebt 41 = .ok (.iinc 2 1, 3) := by decide +kernel
theorem dX7_mostInDebt_44 : decode cX7_mostInDebt 44 = .ok (.goto (-40), 3) := by decide +kernel
theorem dX7_mostInDebt_47 : decode cX7_mostInDebt 47 = .ok (.iload_n 1, 1) := by decide +kernel
theorem dX7_mostInDebt_48 : decode cX7_mostInDebt 48 = .ok (.ireturn, 1) := by decide +kernel
theorem dX7_roomOf_0 : decode cX7_roomOf 0 = .ok (.aload_n 0, 1) := by decide +kernel
theorem dX7_roomOf_1 : decode cX7_roomOf 1 = .ok (.getfield 21, 3) := by decide +kernel
theorem dX7_roomOf_4 : decode cX7_roomOf 4 = .ok (.getfield 72, 3) := by decide +kernel
theorem dX7_roomOf_7 : decode cX7_roomOf 7 = .ok (.aload_n 0, 1) := by decide +kernel
theorem dX7_roomOf_8 : decode cX7_roomOf 8 = .ok (.iload_n 1, 1) := by decide +kernel
theorem dX7_roomOf_9 : decode cX7_roomOf 9 = .ok (.invokevirtual 62, 3) := by decide +kernel
theorem dX7_roomOf_12 : decode cX7_roomOf 12 = .ok (.isub, 1) := by decide +kernel
theorem dX7_roomOf_13 : decode cX7_roomOf 13 = .ok (.ireturn, 1) := by decide +kernel
theorem dX7_hasRoom_0 : decode cX7_hasRoom 0 = .ok (.aload_n 0, 1) := by decide +kernel
theorem dX7_hasRoom_1 : decode cX7_hasRoom 1 = .ok (.iload_n 1, 1) := by decide +kernel
theorem dX7_hasRoom_2 : decode cX7_hasRoom 2 = .ok (.invokevirtual 62, 3) := by decide +kernel
theorem dX7_hasRoom_5 : decode cX7_hasRoom 5 = .ok (.aload_n 0, 1) := by decide +kernel
theorem dX7_hasRoom_6 : decode cX7_hasRoom 6 = .ok (.getfield 21, 3) := by decide +kernel
theorem dX7_hasRoom_9 : decode cX7_hasRoom 9 = .ok (.getfield 72, 3) := by decide +kernel
theorem dX7_hasRoom_12 : decode cX7_hasRoom 12 = .ok (.if_icmp .ge 7, 3) := by decide +kernel
theorem dX7_hasRoom_15 : decode cX7_hasRoom 15 = .ok (.iconst 1, 1) := by decide +kernel
theorem dX7_hasRoom_16 : decode cX7_hasRoom 16 = .ok (.goto 4, 3) := by decide +kernel
theorem dX7_hasRoom_19 : decode cX7_hasRoom 19 = .ok (.iconst 0, 1) := by decide +kernel
theorem dX7_hasRoom_20 : decode cX7_hasRoom 20 = .ok (.ireturn, 1) := by decide +kernel
theorem dX7_willOf_0 : decode cX7_willOf 0 = .ok (.aload_n 0, 1) := by decide +kernel
theorem dX7_willOf_1 : decode cX7_willOf 1 = .ok (.getfield 25, 3) := by decide +kernel
theorem dX7_willOf_4 : decode cX7_willOf 4 = .ok (.getfield 75, 3) := by decide +kernel
theorem dX7_willOf_7 : decode cX7_willOf 7 = .ok (.astore_n 3, 1) := by decide +kernel
theorem dX7_willOf_8 : decode cX7_willOf 8 = .ok (.aload_n 3, 1) := by decide +kernel
theorem dX7_willOf_9 : decode cX7_willOf 9 = .ok (.iconst 0, 1) := by decide +kernel
theorem dX7_willOf_10 : decode cX7_willOf 10 = .ok (.aload_n 0, 1) := by decide +kernel
theorem dX7_willOf_11 : decode cX7_willOf 11 = .ok (.getfield 21, 3) := by decide +kernel
theorem dX7_willOf_14 : decode cX7_willOf 14 = .ok (.getfield 80, 3) := by decide +kernel
theorem dX7_willOf_17 : decode cX7_willOf 17 = .ok (.iload_n 1, 1) := by decide +kernel
theorem dX7_willOf_18 : decode cX7_willOf 18 = .ok (.invokestatic 41, 3) := by decide +kernel
theorem dX7_willOf_21 : decode cX7_willOf 21 = .ok (.invokestatic 47, 3) := by decide +kernel
theorem dX7_willOf_24 : decode cX7_willOf 24 = .ok (.aload_n 3, 1) := by decide +kernel
theorem dX7_willOf_25 : decode cX7_willOf 25 = .ok (.iconst 1, 1) := by decide +kernel
theorem dX7_willOf_26 : decode cX7_willOf 26 = .ok (.aload_n 0, 1) := by decide +kernel
theorem dX7_willOf_27 : decode cX7_willOf 27 = .ok (.getfield 9, 3) := by decide +kernel
theorem dX7_willOf_30 : decode cX7_willOf 30 = .ok (.iload_n 1, 1) := by decide +kernel
theorem dX7_willOf_31 : decode cX7_willOf 31 = .ok (.invokestatic 41, 3) := by decide +kernel
theorem dX7_willOf_34 : decode cX7_willOf 34 = .ok (.invokestatic 47, 3) := by decide +kernel
theorem dX7_willOf_37 : decode cX7_willOf 37 = .ok (.aload_n 3, 1) := by decide +kernel
theorem dX7_willOf_38 : decode cX7_willOf 38 = .ok (.iconst 2, 1) := by decide +kernel
theorem dX7_willOf_39 : decode cX7_willOf 39 = .ok (.aload_n 0, 1) := by decide +kernel
theorem dX7_willOf_40 : decode cX7_willOf 40 = .ok (.iload_n 1, 1) := by decide +kernel
theorem dX7_willOf_41 : decode cX7_willOf 41 = .ok (.invokevirtual 62, 3) := by decide +kernel
theorem dX7_willOf_44 : decode cX7_willOf 44 = .ok (.invokestatic 47, 3) := by decide +kernel
theorem dX7_willOf_47 : decode cX7_willOf 47 = .ok (.aload_n 3, 1) := by decide +kernel
theorem dX7_willOf_48 : decode cX7_willOf 48 = .ok (.iconst 3, 1) := by decide +kernel
theorem dX7_willOf_49 : decode cX7_willOf 49 = .ok (.aload_n 0, 1) := by decide +kernel
theorem dX7_willOf_50 : decode cX7_willOf 50 = .ok (.getfield 21, 3) := by decide +kernel
theorem dX7_willOf_53 : decode cX7_willOf 53 = .ok (.iload_n 1, 1) := by decide +kernel
theorem dX7_willOf_54 : decode cX7_willOf 54 = .ok (.iload_n 2, 1) := by decide +kernel
theorem dX7_willOf_55 : decode cX7_willOf 55 = .ok (.invokevirtual 83, 3) := by decide +kernel
theorem dX7_willOf_58 : decode cX7_willOf 58 = .ok (.ifCond .eq 7, 3) := by decide +kernel
theorem dX7_willOf_61 : decode cX7_willOf 61 = .ok (.iconst 1, 1) := by decide +kernel
theorem dX7_willOf_62 : decode cX7_willOf 62 = .ok (.goto 4, 3) := by decide +kernel
theorem dX7_willOf_65 : decode cX7_willOf 65 = .ok (.iconst 0, 1) := by decide +kernel
theorem dX7_willOf_66 : decode cX7_willOf 66 = .ok (.invokestatic 47, 3) := by decide +kernel
theorem dX7_willOf_69 : decode cX7_willOf 69 = .ok (.aload_n 3, 1) := by decide +kernel
theorem dX7_willOf_70 : decode cX7_willOf 70 = .ok (.iconst 4, 1) := by decide +kernel
theorem dX7_willOf_71 : decode cX7_willOf 71 = .ok (.aload_n 0, 1) := by decide +kernel
theorem dX7_willOf_72 : decode cX7_willOf 72 = .ok (.getfield 9, 3) := by decide +kernel
theorem dX7_willOf_75 : decode cX7_willOf 75 = .ok (.iload_n 2, 1) := by decide +kernel
theorem dX7_willOf_76 : decode cX7_willOf 76 = .ok (.invokestatic 41, 3) := by decide +kernel
theorem dX7_willOf_79 : decode cX7_willOf 79 = .ok (.invokestatic 47, 3) := by decide +kernel
theorem dX7_willOf_82 : decode cX7_willOf 82 = .ok (.aload_n 3, 1) := by decide +kernel
theorem dX7_willOf_83 : decode cX7_willOf 83 = .ok (.iconst 5, 1) := by decide +kernel
theorem dX7_willOf_84 : decode cX7_willOf 84 = .ok (.aload_n 0, 1) := by decide +kernel
theorem dX7_willOf_85 : decode cX7_willOf 85 = .ok (.invokevirtual 87, 3) := by decide +kernel
theorem dX7_willOf_88 : decode cX7_willOf 88 = .ok (.invokestatic 47, 3) := by decide +kernel
theorem dX7_willOf_91 : decode cX7_willOf 91 = .ok (.aload_n 3, 1) := by decide +kernel
theorem dX7_willOf_92 : decode cX7_willOf 92 = .ok (.bipush 6, 2) := by decide +kernel
theorem dX7_willOf_94 : decode cX7_willOf 94 = .ok (.aload_n 0, 1) := by decide +kernel
theorem dX7_willOf_95 : decode cX7_willOf 95 = .ok (.getfield 29, 3) := by decide +kernel
theorem dX7_willOf_98 : decode cX7_willOf 98 = .ok (.invokestatic 47, 3) := by decide +kernel
theorem dX7_willOf_101 : decode cX7_willOf 101 = .ok (.aload_n 3, 1) := by decide +kernel
theorem dX7_willOf_102 : decode cX7_willOf 102 = .ok (.bipush 7, 2) := by decide +kernel
theorem dX7_willOf_104 : decode cX7_willOf 104 = .ok (.iload_n 1, 1) := by decide +kernel
theorem dX7_willOf_105 : decode cX7_willOf 105 = .ok (.invokestatic 47, 3) := by decide +kernel
theorem dX7_willOf_108 : decode cX7_willOf 108 = .ok (.aload_n 0, 1) := by decide +kernel
theorem dX7_willOf_109 : decode cX7_willOf 109 = .ok (.getfield 25, 3) := by decide +kernel
theorem dX7_willOf_112 : decode cX7_willOf 112 = .ok (.invokevirtual 91, 3) := by decide +kernel
theorem dX7_willOf_115 : decode cX7_willOf 115 = .ok (.ireturn, 1) := by decide +kernel
theorem dX7_couldLend_0 : decode cX7_couldLend 0 = .ok (.iload_n 1, 1) := by decide +kernel
theorem dX7_couldLend_1 : decode cX7_couldLend 1 = .ok (.iload_n 2, 1) := by decide +kernel
theorem dX7_couldLend_2 : decode cX7_couldLend 2 = .ok (.if_icmp .eq 23, 3) := by decide +kernel
theorem dX7_couldLend_5 : decode cX7_couldLend 5 = .ok (.aload_n 0, 1) := by decide +kernel
theorem dX7_couldLend_6 : decode cX7_couldLend 6 = .ok (.iload_n 1, 1) := by decide +kernel
theorem dX7_couldLend_7 : decode cX7_couldLend 7 = .ok (.invokevirtual 55, 3) := by decide +kernel
theorem dX7_couldLend_10 : decode cX7_couldLend 10 = .ok (.ifCond .eq 15, 3) := by decide +kernel
theorem dX7_couldLend_13 : decode cX7_couldLend 13 = .ok (.aload_n 0, 1) := by decide +kernel
theorem dX7_couldLend_14 : decode cX7_couldLend 14 = .ok (.iload_n 1, 1) := by decide +kernel
theorem dX7_couldLend_15 : decode cX7_couldLend 15 = .ok (.invokevirtual 94, 3) := by decide +kernel
theorem dX7_couldLend_18 : decode cX7_couldLend 18 = .ok (.ifCond .eq 7, 3) := by decide +kernel
theorem dX7_couldLend_21 : decode cX7_couldLend 21 = .ok (.iconst 1, 1) := by decide +kernel
theorem dX7_couldLend_22 : decode cX7_couldLend 22 = .ok (.goto 4, 3) := by decide +kernel
theorem dX7_couldLend_25 : decode cX7_couldLend 25 = .ok (.iconst 0, 1) := by decide +kernel
theorem dX7_couldLend_26 : decode cX7_couldLend 26 = .ok (.ireturn, 1) := by decide +kernel
theorem dX7_lendsTo_0 : decode cX7_lendsTo 0 = .ok (.aload_n 0, 1) := by decide +kernel
theorem dX7_lendsTo_1 : decode cX7_lendsTo 1 = .ok (.iload_n 1, 1) := by decide +kernel
theorem dX7_lendsTo_2 : decode cX7_lendsTo 2 = .ok (.iload_n 2, 1) := by decide +kernel
theorem dX7_lendsTo_3 : decode cX7_lendsTo 3 = .ok (.invokevirtual 97, 3) := by decide +kernel
theorem dX7_lendsTo_6 : decode cX7_lendsTo 6 = .ok (.ifCond .eq 18, 3) := by decide +kernel
theorem dX7_lendsTo_9 : decode cX7_lendsTo 9 = .ok (.aload_n 0, 1) := by decide +kernel
theorem dX7_lendsTo_10 : decode cX7_lendsTo 10 = .ok (.iload_n 1, 1) := by decide +kernel
theorem dX7_lendsTo_11 : decode cX7_lendsTo 11 = .ok (.iload_n 2, 1) := by decide +kernel
theorem dX7_lendsTo_12 : decode cX7_lendsTo 12 = .ok (.invokevirtual 100, 3) := by decide +kernel
theorem dX7_lendsTo_15 : decode cX7_lendsTo 15 = .ok (.bipush 10, 2) := by decide +kernel
theorem dX7_lendsTo_17 : decode cX7_lendsTo 17 = .ok (.if_icmp .lt 7, 3) := by decide +kernel
theorem dX7_lendsTo_20 : decode cX7_lendsTo 20 = .ok (.iconst 1, 1) := by decide +kernel
theorem dX7_lendsTo_21 : decode cX7_lendsTo 21 = .ok (.goto 4, 3) := by decide +kernel
theorem dX7_lendsTo_24 : decode cX7_lendsTo 24 = .ok (.iconst 0, 1) := by decide +kernel
theorem dX7_lendsTo_25 : decode cX7_lendsTo 25 = .ok (.ireturn, 1) := by decide +kernel
theorem dX7_heirOf_0 : decode cX7_heirOf 0 = .ok (.aload_n 0, 1) := by decide +kernel
theorem dX7_heirOf_1 : decode cX7_heirOf 1 = .ok (.getfield 18, 3) := by decide +kernel
theorem dX7_heirOf_4 : decode cX7_heirOf 4 = .ok (.iload_n 1, 1) := by decide +kernel
theorem dX7_heirOf_5 : decode cX7_heirOf 5 = .ok (.invokestatic 41, 3) := by decide +kernel
theorem dX7_heirOf_8 : decode cX7_heirOf 8 = .ok (.istore_n 2, 1) := by decide +kernel
theorem dX7_heirOf_9 : decode cX7_heirOf 9 = .ok (.aload_n 0, 1) := by decide +kernel
theorem dX7_heirOf_10 : decode cX7_heirOf 10 = .ok (.getfield 18, 3) := by decide +kernel
theorem dX7_heirOf_13 : decode cX7_heirOf 13 = .ok (.iload_n 1, 1) := by decide +kernel
theorem dX7_heirOf_14 : decode cX7_heirOf 14 = .ok (.aload_n 0, 1) := by decide +kernel
theorem dX7_heirOf_15 : decode cX7_heirOf 15 = .ok (.getfield 29, 3) := by decide +kernel
theorem dX7_heirOf_18 : decode cX7_heirOf 18 = .ok (.invokestatic 47, 3) := by decide +kernel
theorem dX7_heirOf_21 : decode cX7_heirOf 21 = .ok (.iconst (-1), 1) := by decide +kernel
theorem dX7_heirOf_22 : decode cX7_heirOf 22 = .ok (.istore_n 3, 1) := by decide +kernel
theorem dX7_heirOf_23 : decode cX7_heirOf 23 = .ok (.bipush 9, 2) := by decide +kernel
theorem dX7_heirOf_25 : decode cX7_heirOf 25 = .ok (.istore 4, 2) := by decide +kernel
theorem dX7_heirOf_27 : decode cX7_heirOf 27 = .ok (.iconst 0, 1) := by decide +kernel
theorem dX7_heirOf_28 : decode cX7_heirOf 28 = .ok (.istore 5, 2) := by decide +kernel
theorem dX7_heirOf_30 : decode cX7_heirOf 30 = .ok (.iload 5, 2) := by decide +kernel
theorem dX7_heirOf_32 : decode cX7_heirOf 32 = .ok (.aload_n 0, 1) := by decide +kernel
theorem dX7_heirOf_33 : decode cX7_heirOf 33 = .ok (.getfield 21, 3) := by decide +kernel
theorem dX7_heirOf_36 : decode cX7_heirOf 36 = .ok (.getfield 33, 3) := by decide +kernel
theorem dX7_heirOf_39 : decode cX7_heirOf 39 = .ok (.if_icmp .ge 42, 3) := by decide +kernel
theorem dX7_heirOf_42 : decode cX7_heirOf 42 = .ok (.aload_n 0, 1) := by decide +kernel
theorem dX7_heirOf_43 : decode cX7_heirOf 43 = .ok (.iload 5, 2) := by decide +kernel
theorem dX7_heirOf_45 : decode cX7_heirOf 45 = .ok (.iload_n 1, 1) := by decide +kernel
theorem dX7_heirOf_46 : decode cX7_heirOf 46 = .ok (.invokevirtual 97, 3) := by decide +kernel
theorem dX7_heirOf_49 : decode cX7_heirOf 49 = .ok (.ifCond .eq 26, 3) := by decide +kernel
theorem dX7_heirOf_52 : decode cX7_heirOf 52 = .ok (.aload_n 0, 1) := by decide +kernel
theorem dX7_heirOf_53 : decode cX7_heirOf 53 = .ok (.iload 5, 2) := by decide +kernel
theorem dX7_heirOf_55 : decode cX7_heirOf 55 = .ok (.iload_n 1, 1) := by decide +kernel
theorem dX7_heirOf_56 : decode cX7_heirOf 56 = .ok (.invokevirtual 100, 3) := by decide +kernel
theorem dX7_heirOf_59 : decode cX7_heirOf 59 = .ok (.istore 6, 2) := by decide +kernel
theorem dX7_heirOf_61 : decode cX7_heirOf 61 = .ok (.iload 6, 2) := by decide +kernel
theorem dX7_heirOf_63 : decode cX7_heirOf 63 = .ok (.iload 4, 2) := by decide +kernel
theorem dX7_heirOf_65 : decode cX7_heirOf 65 = .ok (.if_icmp .le 10, 3) := by decide +kernel
theorem dX7_heirOf_68 : decode cX7_heirOf 68 = .ok (.iload 5, 2) := by decide +kernel
theorem dX7_heirOf_70 : decode cX7_heirOf 70 = .ok (.istore_n 3, 1) := by decide +kernel
theorem dX7_heirOf_71 : decode cX7_heirOf 71 = .ok (.iload 6, 2) := by decide +kernel
theorem dX7_heirOf_73 : decode cX7_heirOf 73 = .ok (.istore 4, 2) := by decide +kernel
theorem dX7_heirOf_75 : decode cX7_heirOf 75 = .ok (.iinc 5 1, 3) := by decide +kernel
theorem dX7_heirOf_78 : decode cX7_heirOf 78 = .ok (.goto (-48), 3) := by decide +kernel
theorem dX7_heirOf_81 : decode cX7_heirOf 81 = .ok (.aload_n 0, 1) := by decide +kernel
theorem dX7_heirOf_82 : decode cX7_heirOf 82 = .ok (.getfield 18, 3) := by decide +kernel
theorem dX7_heirOf_85 : decode cX7_heirOf 85 = .ok (.iload_n 1, 1) := by decide +kernel
theorem dX7_heirOf_86 : decode cX7_heirOf 86 = .ok (.iload_n 2, 1) := by decide +kernel
theorem dX7_heirOf_87 : decode cX7_heirOf 87 = .ok (.invokestatic 47, 3) := by decide +kernel
theorem dX7_heirOf_90 : decode cX7_heirOf 90 = .ok (.iload_n 3, 1) := by decide +kernel
theorem dX7_heirOf_91 : decode cX7_heirOf 91 = .ok (.ireturn, 1) := by decide +kernel
theorem dX7_heirs_0 : decode cX7_heirs 0 = .ok (.iconst 0, 1) := by decide +kernel
theorem dX7_heirs_1 : decode cX7_heirs 1 = .ok (.istore_n 1, 1) := by decide +kernel
theorem dX7_heirs_2 : decode cX7_heirs 2 = .ok (.iconst 0, 1) := by decide +kernel
theorem dX7_heirs_3 : decode cX7_heirs 3 = .ok (.istore_n 2, 1) := by decide +kernel
theorem dX7_heirs_4 : decode cX7_heirs 4 = .ok (.iload_n 2, 1) := by decide +kernel
theorem dX7_heirs_5 : decode cX7_heirs 5 = .ok (.aload_n 0, 1) := by decide +kernel
theorem dX7_heirs_6 : decode cX7_heirs 6 = .ok (.getfield 21, 3) := by decide +kernel
theorem dX7_heirs_9 : decode cX7_heirs 9 = .ok (.getfield 33, 3) := by decide +kernel
theorem dX7_heirs_12 : decode cX7_heirs 12 = .ok (.if_icmp .ge 38, 3) := by decide +kernel
theorem dX7_heirs_15 : decode cX7_heirs 15 = .ok (.aload_n 0, 1) := by decide +kernel
theorem dX7_heirs_16 : decode cX7_heirs 16 = .ok (.iload_n 2, 1) := by decide +kernel
theorem dX7_heirs_17 : decode cX7_heirs 17 = .ok (.invokevirtual 55, 3) := by decide +kernel
theorem dX7_heirs_20 : decode cX7_heirs 20 = .ok (.ifCond .eq 11, 3) := by decide +kernel
theorem dX7_heirs_23 : decode cX7_heirs 23 = .ok (.aload_n 0, 1) := by decide +kernel
theorem dX7_heirs_24 : decode cX7_heirs 24 = .ok (.iload_n 2, 1) := by decide +kernel
theorem dX7_heirs_25 : decode cX7_heirs 25 = .ok (.invokevirtual 103, 3) := by decide +kernel
theorem dX7_heirs_28 : decode cX7_heirs 28 = .ok (.goto 4, 3) := by decide +kernel
theorem dX7_heirs_31 : decode cX7_heirs 31 = .ok (.iconst (-1), 1) := by decide +kernel
theorem dX7_heirs_32 : decode cX7_heirs 32 = .ok (.istore_n 3, 1) := by decide +kernel
theorem dX7_heirs_33 : decode cX7_heirs 33 = .ok (.iload_n 3, 1) := by decide +kernel
theorem dX7_heirs_34 : decode cX7_heirs 34 = .ok (.iconst (-1), 1) := by decide +kernel
theorem dX7_heirs_35 : decode cX7_heirs 35 = .ok (.if_icmp .eq 9, 3) := by decide +kernel
theorem dX7_heirs_38 : decode cX7_heirs 38 = .ok (.iload_n 1, 1) := by decide +kernel
theorem dX7_heirs_39 : decode cX7_heirs 39 = .ok (.iconst 1, 1) := by decide +kernel
theorem dX7_heirs_40 : decode cX7_heirs 40 = .ok (.iload_n 3, 1) := by decide +kernel
theorem dX7_heirs_41 : decode cX7_heirs 41 = .ok (.ishl, 1) := by decide +kernel
theorem dX7_heirs_42 : decode cX7_heirs 42 = .ok (.ior, 1) := by decide +kernel
theorem dX7_heirs_43 : decode cX7_heirs 43 = .ok (.istore_n 1, 1) := by decide +kernel
theorem dX7_heirs_44 : decode cX7_heirs 44 = .ok (.iinc 2 1, 3) := by decide +kernel
theorem dX7_heirs_47 : decode cX7_heirs 47 = .ok (.goto (-43), 3) := by decide +kernel
theorem dX7_heirs_50 : decode cX7_heirs 50 = .ok (.iload_n 1, 1) := by decide +kernel
theorem dX7_heirs_51 : decode cX7_heirs 51 = .ok (.ireturn, 1) := by decide +kernel
theorem dX7_heired_0 : decode cX7_heired 0 = .ok (.iconst 0, 1) := by decide +kernel
theorem dX7_heired_1 : decode cX7_heired 1 = .ok (.istore_n 1, 1) := by decide +kernel
theorem dX7_heired_2 : decode cX7_heired 2 = .ok (.iconst 0, 1) := by decide +kernel
theorem dX7_heired_3 : decode cX7_heired 3 = .ok (.istore_n 2, 1) := by decide +kernel
theorem dX7_heired_4 : decode cX7_heired 4 = .ok (.iload_n 2, 1) := by decide +kernel
theorem dX7_heired_5 : decode cX7_heired 5 = .ok (.aload_n 0, 1) := by decide +kernel
theorem dX7_heired_6 : decode cX7_heired 6 = .ok (.getfield 21, 3) := by decide +kernel
theorem dX7_heired_9 : decode cX7_heired 9 = .ok (.getfield 33, 3) := by decide +kernel
theorem dX7_heired_12 : decode cX7_heired 12 = .ok (.if_icmp .ge 32, 3) := by decide +kernel
theorem dX7_heired_15 : decode cX7_heired 15 = .ok (.aload_n 0, 1) := by decide +kernel
theorem dX7_heired_16 : decode cX7_heired 16 = .ok (.iload_n 2, 1) := by decide +kernel
theorem dX7_heired_17 : decode cX7_heired 17 = .ok (.invokevirtual 55, 3) := by decide +kernel
theorem dX7_heired_20 : decode cX7_heired 20 = .ok (.ifCond .eq 18, 3) := by decide +kernel
theorem dX7_heired_23 : decode cX7_heired 23 = .ok (.aload_n 0, 1) := by decide +kernel
theorem dX7_heired_24 : decode cX7_heired 24 = .ok (.iload_n 2, 1) := by decide +kernel
theorem dX7_heired_25 : decode cX7_heired 25 = .ok (.invokevirtual 103, 3) := by decide +kernel
theorem dX7_heired_28 : decode cX7_heired 28 = .ok (.iconst (-1), 1) := by decide +kernel
theorem dX7_heired_29 : decode cX7_heired 29 = .ok (.if_icmp .eq 9, 3) := by decide +kernel
theorem dX7_heired_32 : decode cX7_heired 32 = .ok (.iload_n 1, 1) := by decide +kernel
theorem dX7_heired_33 : decode cX7_heired 33 = .ok (.iconst 1, 1) := by decide +kernel
theorem dX7_heired_34 : decode cX7_heired 34 = .ok (.iload_n 2, 1) := by decide +kernel
theorem dX7_heired_35 : decode cX7_heired 35 = .ok (.ishl, 1) := by decide +kernel
theorem dX7_heired_36 : decode cX7_heired 36 = .ok (.ior, 1) := by decide +kernel
theorem dX7_heired_37 : decode cX7_heired 37 = .ok (.istore_n 1, 1) := by decide +kernel
theorem dX7_heired_38 : decode cX7_heired 38 = .ok (.iinc 2 1, 3) := by decide +kernel
theorem dX7_heired_41 : decode cX7_heired 41 = .ok (.goto (-37), 3) := by decide +kernel
theorem dX7_heired_44 : decode cX7_heired 44 = .ok (.iload_n 1, 1) := by decide +kernel
theorem dX7_heired_45 : decode cX7_heired 45 = .ok (.ireturn, 1) := by decide +kernel
theorem dX7_does_0 : decode cX7_does 0 = .ok (.iload_n 1, 1) := by decide +kernel
theorem dX7_does_1 : decode cX7_does 1 = .ok (.tableswitch 205 0 4 #[35, 79, 118, 155, 187], 35) := by decide +kernel
theorem dX7_does_36 : decode cX7_does 36 = .ok (.aload_n 0, 1) := by decide +kernel
theorem dX7_does_37 : decode cX7_does 37 = .ok (.iload_n 2, 1) := by decide +kernel
theorem dX7_does_38 : decode cX7_does 38 = .ok (.invokevirtual 55, 3) := by decide +kernel
theorem dX7_does_41 : decode cX7_does 41 = .ok (.ifCond .ne 5, 3) := by decide +kernel
theorem dX7_does_44 : decode cX7_does 44 = .ok (.iconst 0, 1) := by decide +kernel
theorem dX7_does_45 : decode cX7_does 45 = .ok (.ireturn, 1) := by decide +kernel
theorem dX7_does_46 : decode cX7_does 46 = .ok (.aload_n 0, 1) := by decide +kernel
theorem dX7_does_47 : decode cX7_does 47 = .ok (.iload_n 2, 1) := by decide +kernel
theorem dX7_does_48 : decode cX7_does 48 = .ok (.invokevirtual 103, 3) := by decide +kernel
theorem dX7_does_51 : decode cX7_does 51 = .ok (.istore 4, 2) := by decide +kernel
theorem dX7_does_53 : decode cX7_does 53 = .ok (.aload_n 0, 1) := by decide +kernel
theorem dX7_does_54 : decode cX7_does 54 = .ok (.getfield 18, 3) := by decide +kernel
theorem dX7_does_57 : decode cX7_does 57 = .ok (.iload_n 2, 1) := by decide +kernel
theorem dX7_does_58 : decode cX7_does 58 = .ok (.aload_n 0, 1) := by decide +kernel
theorem dX7_does_59 : decode cX7_does 59 = .ok (.getfield 29, 3) := by decide +kernel
theorem dX7_does_62 : decode cX7_does 62 = .ok (.invokestatic 47, 3) := by decide +kernel
theorem dX7_does_65 : decode cX7_does 65 = .ok (.iload 4, 2) := by decide +kernel
theorem dX7_does_67 : decode cX7_does 67 = .ok (.iconst (-1), 1) := by decide +kernel
theorem dX7_does_68 : decode cX7_does 68 = .ok (.if_icmp .eq 10, 3) := by decide +kernel
theorem dX7_does_71 : decode cX7_does 71 = .ok (.aload_n 0, 1) := by decide +kernel
theorem dX7_does_72 : decode cX7_does 72 = .ok (.iload_n 2, 1) := by decide +kernel
theorem dX7_does_73 : decode cX7_does 73 = .ok (.iload 4, 2) := by decide +kernel
theorem dX7_does_75 : decode cX7_does 75 = .ok (.invokevirtual 106, 3) := by decide +kernel
theorem dX7_does_78 : decode cX7_does 78 = .ok (.iconst 1, 1) := by decide +kernel
theorem dX7_does_79 : decode cX7_does 79 = .ok (.ireturn, 1) := by decide +kernel
theorem dX7_does_80 : decode cX7_does 80 = .ok (.aload_n 0, 1) := by decide +kernel
theorem dX7_does_81 : decode cX7_does 81 = .ok (.iload_n 3, 1) := by decide +kernel
theorem dX7_does_82 : decode cX7_does 82 = .ok (.invokevirtual 59, 3) := by decide +kernel
theorem dX7_does_85 : decode cX7_does 85 = .ok (.ifCond .eq 24, 3) := by decide +kernel
theorem dX7_does_88 : decode cX7_does 88 = .ok (.aload_n 0, 1) := by decide +kernel
theorem dX7_does_89 : decode cX7_does 89 = .ok (.getfield 15, 3) := by decide +kernel
theorem dX7_does_92 : decode cX7_does 92 = .ok (.iload_n 3, 1) := by decide +kernel
theorem dX7_does_93 : decode cX7_does 93 = .ok (.invokestatic 41, 3) := by decide +kernel
theorem dX7_does_96 : decode cX7_does 96 = .ok (.iconst (-1), 1) := by decide +kernel
theorem dX7_does_97 : decode cX7_does 97 = .ok (.if_icmp .ne 12, 3) := by decide +kernel
theorem dX7_does_100 : decode cX7_does 100 = .ok (.aload_n 0, 1) := by decide +kernel
theorem dX7_does_101 : decode cX7_does 101 = .ok (.iload_n 2, 1) := by decide +kernel
theorem dX7_does_102 : decode cX7_does 102 = .ok (.iload_n 3, 1) := by decide +kernel
theorem dX7_does_103 : decode cX7_does 103 = .ok (.invokevirtual 110, 3) := by decide +kernel
theorem dX7_does_106 : decode cX7_does 106 = .ok (.ifCond .ne 5, 3) := by decide +kernel
theorem dX7_does_109 : decode cX7_does 109 = .ok (.iconst 0, 1) := by decide +kernel
theorem dX7_does_110 : decode cX7_does 110 = .ok (.ireturn, 1) := by decide +kernel
theorem dX7_does_111 : decode cX7_does 111 = .ok (.aload_n 0, 1) := by decide +kernel
theorem dX7_does_112 : decode cX7_does 112 = .ok (.iload_n 3, 1) := by decide +kernel
theorem dX7_does_113 : decode cX7_does 113 = .ok (.iload_n 2, 1) := by decide +kernel
theorem dX7_does_114 : decode cX7_does 114 = .ok (.invokevirtual 106, 3) := by decide +kernel
theorem dX7_does_117 : decode cX7_does 117 = .ok (.iconst 1, 1) := by decide +kernel
theorem dX7_does_118 : decode cX7_does 118 = .ok (.ireturn, 1) := by decide +kernel
theorem dX7_does_119 : decode cX7_does 119 = .ok (.aload_n 0, 1) := by decide +kernel
theorem dX7_does_120 : decode cX7_does 120 = .ok (.getfield 9, 3) := by decide +kernel
theorem dX7_does_123 : decode cX7_does 123 = .ok (.iload_n 2, 1) := by decide +kernel
theorem dX7_does_124 : decode cX7_does 124 = .ok (.invokestatic 41, 3) := by decide +kernel
theorem dX7_does_127 : decode cX7_does 127 = .ok (.ifCond .gt 5, 3) := by decide +kernel
theorem dX7_does_130 : decode cX7_does 130 = .ok (.iconst 0, 1) := by decide +kernel
theorem dX7_does_131 : decode cX7_does 131 = .ok (.ireturn, 1) := by decide +kernel
theorem dX7_does_132 : decode cX7_does 132 = .ok (.aload_n 0, 1) := by decide +kernel
theorem dX7_does_133 : decode cX7_does 133 = .ok (.getfield 9, 3) := by decide +kernel
theorem dX7_does_136 : decode cX7_does 136 = .ok (.iload_n 2, 1) := by decide +kernel
theorem dX7_does_137 : decode cX7_does 137 = .ok (.iconst 0, 1) := by decide +kernel
theorem dX7_does_138 : decode cX7_does 138 = .ok (.aload_n 0, 1) := by decide +kernel
theorem dX7_does_139 : decode cX7_does 139 = .ok (.getfield 9, 3) := by decide +kernel
theorem dX7_does_142 : decode cX7_does 142 = .ok (.iload_n 2, 1) := by decide +kernel
theorem dX7_does_143 : decode cX7_does 143 = .ok (.invokestatic 41, 3) := by decide +kernel
theorem dX7_does_146 : decode cX7_does 146 = .ok (.iload_n 3, 1) := by decide +kernel
theorem dX7_does_147 : decode cX7_does 147 = .ok (.isub, 1) := by decide +kernel
theorem dX7_does_148 : decode cX7_does 148 = .ok (.invokestatic 113, 3) := by decide +kernel
theorem dX7_does_151 : decode cX7_does 151 = .ok (.invokestatic 47, 3) := by decide +kernel
theorem dX7_does_154 : decode cX7_does 154 = .ok (.iconst 1, 1) := by decide +kernel
theorem dX7_does_155 : decode cX7_does 155 = .ok (.ireturn, 1) := by decide +kernel
theorem dX7_does_156 : decode cX7_does 156 = .ok (.aload_n 0, 1) := by decide +kernel
theorem dX7_does_157 : decode cX7_does 157 = .ok (.iload_n 2, 1) := by decide +kernel
theorem dX7_does_158 : decode cX7_does 158 = .ok (.invokevirtual 55, 3) := by decide +kernel
theorem dX7_does_161 : decode cX7_does 161 = .ok (.ifCond .eq 17, 3) := by decide +kernel
theorem dX7_does_164 : decode cX7_does 164 = .ok (.aload_n 0, 1) := by decide +kernel
theorem dX7_does_165 : decode cX7_does 165 = .ok (.getfield 9, 3) := by decide +kernel
theorem dX7_does_168 : decode cX7_does 168 = .ok (.iload_n 2, 1) := by decide +kernel
theorem dX7_does_169 : decode cX7_does 169 = .ok (.invokestatic 41, 3) := by decide +kernel
theorem dX7_does_172 : decode cX7_does 172 = .ok (.sipush 999, 3) := by decide +kernel
theorem dX7_does_175 : decode cX7_does 175 = .ok (.if_icmp .lt 5, 3) := by decide +kernel
theorem dX7_does_178 : decode cX7_does 178 = .ok (.iconst 0, 1) := by decide +kernel
theorem dX7_does_179 : decode cX7_does 179 = .ok (.ireturn, 1) := by decide +kernel
theorem dX7_does_180 : decode cX7_does 180 = .ok (.aload_n 0, 1) := by decide +kernel
theorem dX7_does_181 : decode cX7_does 181 = .ok (.iload_n 2, 1) := by decide +kernel
theorem dX7_does_182 : decode cX7_does 182 = .ok (.iload_n 3, 1) := by decide +kernel
theorem dX7_does_183 : decode cX7_does 183 = .ok (.invokevirtual 116, 3) := by decide +kernel
theorem dX7_does_186 : decode cX7_does 186 = .ok (.iconst 1, 1) := by decide +kernel
theorem dX7_does_187 : decode cX7_does 187 = .ok (.ireturn, 1) := by decide +kernel
theorem dX7_does_188 : decode cX7_does 188 = .ok (.aload_n 0, 1) := by decide +kernel
theorem dX7_does_189 : decode cX7_does 189 = .ok (.getfield 29, 3) := by decide +kernel
theorem dX7_does_192 : decode cX7_does 192 = .ok (.sipush 900, 3) := by decide +kernel
theorem dX7_does_195 : decode cX7_does 195 = .ok (.if_icmp .lt 5, 3) := by decide +kernel
theorem dX7_does_198 : decode cX7_does 198 = .ok (.iconst 0, 1) := by decide +kernel
theorem dX7_does_199 : decode cX7_does 199 = .ok (.ireturn, 1) := by decide +kernel
theorem dX7_does_200 : decode cX7_does 200 = .ok (.aload_n 0, 1) := by decide +kernel
theorem dX7_does_201 : decode cX7_does 201 = .ok (.invokevirtual 119, 3) := by decide +kernel
theorem dX7_does_204 : decode cX7_does 204 = .ok (.iconst 1, 1) := by decide +kernel
theorem dX7_does_205 : decode cX7_does 205 = .ok (.ireturn, 1) := by decide +kernel
theorem dX7_does_206 : decode cX7_does 206 = .ok (.iconst 0, 1) := by decide +kernel
theorem dX7_does_207 : decode cX7_does 207 = .ok (.ireturn, 1) := by decide +kernel
theorem dX7_owes_0 : decode cX7_owes 0 = .ok (.aload_n 0, 1) := by decide +kernel
theorem dX7_owes_1 : decode cX7_owes 1 = .ok (.getfield 9, 3) := by decide +kernel
theorem dX7_owes_4 : decode cX7_owes 4 = .ok (.iload_n 1, 1) := by decide +kernel
theorem dX7_owes_5 : decode cX7_owes 5 = .ok (.sipush 999, 3) := by decide +kernel
theorem dX7_owes_8 : decode cX7_owes 8 = .ok (.aload_n 0, 1) := by decide +kernel
theorem dX7_owes_9 : decode cX7_owes 9 = .ok (.getfield 9, 3) := by decide +kernel
theorem dX7_owes_12 : decode cX7_owes 12 = .ok (.iload_n 1, 1) := by decide +kernel
theorem dX7_owes_13 : decode cX7_owes 13 = .ok (.invokestatic 41, 3) := by decide +kernel
theorem dX7_owes_16 : decode cX7_owes 16 = .ok (.iload_n 2, 1) := by decide +kernel
theorem dX7_owes_17 : decode cX7_owes 17 = .ok (.iadd, 1) := by decide +kernel
theorem dX7_owes_18 : decode cX7_owes 18 = .ok (.invokestatic 66, 3) := by decide +kernel
theorem dX7_owes_21 : decode cX7_owes 21 = .ok (.invokestatic 47, 3) := by decide +kernel
theorem dX7_owes_24 : decode cX7_owes 24 = .ok (.return_, 1) := by decide +kernel
theorem dX7_takeName_0 : decode cX7_takeName 0 = .ok (.aload_n 0, 1) := by decide +kernel
theorem dX7_takeName_1 : decode cX7_takeName 1 = .ok (.getfield 15, 3) := by decide +kernel
theorem dX7_takeName_4 : decode cX7_takeName 4 = .ok (.iload_n 1, 1) := by decide +kernel
theorem dX7_takeName_5 : decode cX7_takeName 5 = .ok (.iload_n 2, 1) := by decide +kernel
theorem dX7_takeName_6 : decode cX7_takeName 6 = .ok (.invokestatic 47, 3) := by decide +kernel
theorem dX7_takeName_9 : decode cX7_takeName 9 = .ok (.aload_n 0, 1) := by decide +kernel
theorem dX7_takeName_10 : decode cX7_takeName 10 = .ok (.iload_n 2, 1) := by decide +kernel
theorem dX7_takeName_11 : decode cX7_takeName 11 = .ok (.aload_n 0, 1) := by decide +kernel
theorem dX7_takeName_12 : decode cX7_takeName 12 = .ok (.getfield 9, 3) := by decide +kernel
theorem dX7_takeName_15 : decode cX7_takeName 15 = .ok (.iload_n 1, 1) := by decide +kernel
theorem dX7_takeName_16 : decode cX7_takeName 16 = .ok (.invokestatic 41, 3) := by decide +kernel
theorem dX7_takeName_19 : decode cX7_takeName 19 = .ok (.invokevirtual 116, 3) := by decide +kernel
theorem dX7_takeName_22 : decode cX7_takeName 22 = .ok (.aload_n 0, 1) := by decide +kernel
theorem dX7_takeName_23 : decode cX7_takeName 23 = .ok (.getfield 9, 3) := by decide +kernel
theorem dX7_takeName_26 : decode cX7_takeName 26 = .ok (.iload_n 1, 1) := by decide +kernel
theorem dX7_takeName_27 : decode cX7_takeName 27 = .ok (.iconst 0, 1) := by decide +kernel
theorem dX7_takeName_28 : decode cX7_takeName 28 = .ok (.invokestatic 47, 3) := by decide +kernel
theorem dX7_takeName_31 : decode cX7_takeName 31 = .ok (.return_, 1) := by decide +kernel
theorem dX7_passYear_0 : decode cX7_passYear 0 = .ok (.iconst 0, 1) := by decide +kernel
theorem dX7_passYear_1 : decode cX7_passYear 1 = .ok (.istore_n 1, 1) := by decide +kernel
theorem dX7_passYear_2 : decode cX7_passYear 2 = .ok (.iload_n 1, 1) := by decide +kernel
theorem dX7_passYear_3 : decode cX7_passYear 3 = .ok (.aload_n 0, 1) := by decide +kernel
theorem dX7_passYear_4 : decode cX7_passYear 4 = .ok (.getfield 21, 3) := by decide +kernel
theorem dX7_passYear_7 : decode cX7_passYear 7 = .ok (.getfield 33, 3) := by decide +kernel
theorem dX7_passYear_10 : decode cX7_passYear 10 = .ok (.if_icmp .ge 27, 3) := by decide +kernel
theorem dX7_passYear_13 : decode cX7_passYear 13 = .ok (.aload_n 0, 1) := by decide +kernel
theorem dX7_passYear_14 : decode cX7_passYear 14 = .ok (.iload_n 1, 1) := by decide +kernel
theorem dX7_passYear_15 : decode cX7_passYear 15 = .ok (.invokevirtual 55, 3) := by decide +kernel
theorem dX7_passYear_18 : decode cX7_passYear 18 = .ok (.ifCond .eq 13, 3) := by decide +kernel
theorem dX7_passYear_21 : decode cX7_passYear 21 = .ok (.aload_n 0, 1) := by decide +kernel
theorem dX7_passYear_22 : decode cX7_passYear 22 = .ok (.iload_n 1, 1) := by decide +kernel
theorem dX7_passYear_23 : decode cX7_passYear 23 = .ok (.aload_n 0, 1) := by decide +kernel
theorem dX7_passYear_24 : decode cX7_passYear 24 = .ok (.iload_n 1, 1) := by decide +kernel
theorem dX7_passYear_25 : decode cX7_passYear 25 = .ok (.invokevirtual 62, 3) := by decide +kernel
theorem dX7_passYear_28 : decode cX7_passYear 28 = .ok (.invokevirtual 116, 3) := by decide +kernel
theorem dX7_passYear_31 : decode cX7_passYear 31 = .ok (.iinc 1 1, 3) := by decide +kernel
theorem dX7_passYear_34 : decode cX7_passYear 34 = .ok (.goto (-32), 3) := by decide +kernel
theorem dX7_passYear_37 : decode cX7_passYear 37 = .ok (.aload_n 0, 1) := by decide +kernel
theorem dX7_passYear_38 : decode cX7_passYear 38 = .ok (.dup, 1) := by decide +kernel
theorem dX7_passYear_39 : decode cX7_passYear 39 = .ok (.getfield 29, 3) := by decide +kernel
theorem dX7_passYear_42 : decode cX7_passYear 42 = .ok (.iconst 1, 1) := by decide +kernel
theorem dX7_passYear_43 : decode cX7_passYear 43 = .ok (.iadd, 1) := by decide +kernel
theorem dX7_passYear_44 : decode cX7_passYear 44 = .ok (.putfield 29, 3) := by decide +kernel
theorem dX7_passYear_47 : decode cX7_passYear 47 = .ok (.return_, 1) := by decide +kernel
theorem dX7_trueName_0 : decode cX7_trueName 0 = .ok (.aload_n 0, 1) := by decide +kernel
theorem dX7_trueName_1 : decode cX7_trueName 1 = .ok (.getfield 15, 3) := by decide +kernel
theorem dX7_trueName_4 : decode cX7_trueName 4 = .ok (.iload_n 1, 1) := by decide +kernel
theorem dX7_trueName_5 : decode cX7_trueName 5 = .ok (.invokestatic 41, 3) := by decide +kernel
theorem dX7_trueName_8 : decode cX7_trueName 8 = .ok (.istore_n 2, 1) := by decide +kernel
theorem dX7_trueName_9 : decode cX7_trueName 9 = .ok (.iconst 0, 1) := by decide +kernel
theorem dX7_trueName_10 : decode cX7_trueName 10 = .ok (.istore_n 3, 1) := by decide +kernel
theorem dX7_trueName_11 : decode cX7_trueName 11 = .ok (.iload_n 3, 1) := by decide +kernel
theorem dX7_trueName_12 : decode cX7_trueName 12 = .ok (.bipush 8, 2) := by decide +kernel
theorem dX7_trueName_14 : decode cX7_trueName 14 = .ok (.if_icmp .ge 26, 3) := by decide +kernel
theorem dX7_trueName_17 : decode cX7_trueName 17 = .ok (.aload_n 0, 1) := by decide +kernel
theorem dX7_trueName_18 : decode cX7_trueName 18 = .ok (.iload_n 2, 1) := by decide +kernel
theorem dX7_trueName_19 : decode cX7_trueName 19 = .ok (.invokevirtual 59, 3) := by decide +kernel
theorem dX7_trueName_22 : decode cX7_trueName 22 = .ok (.ifCond .eq 18, 3) := by decide +kernel
theorem dX7_trueName_25 : decode cX7_trueName 25 = .ok (.aload_n 0, 1) := by decide +kernel
theorem dX7_trueName_26 : decode cX7_trueName 26 = .ok (.getfield 15, 3) := by decide +kernel
theorem dX7_trueName_29 : decode cX7_trueName 29 = .ok (.iload_n 2, 1) := by decide +kernel
theorem dX7_trueName_30 : decode cX7_trueName 30 = .ok (.invokestatic 41, 3) := by decide +kernel
theorem dX7_trueName_33 : decode cX7_trueName 33 = .ok (.istore_n 2, 1) := by decide +kernel
theorem dX7_trueName_34 : decode cX7_trueName 34 = .ok (.iinc 3 1, 3) := by decide +kernel
theorem dX7_trueName_37 : decode cX7_trueName 37 = .ok (.goto (-26), 3) := by decide +kernel
theorem dX7_trueName_40 : decode cX7_trueName 40 = .ok (.iload_n 2, 1) := by decide +kernel
theorem dX7_trueName_41 : decode cX7_trueName 41 = .ok (.ireturn, 1) := by decide +kernel
theorem dX7_chainLength_0 : decode cX7_chainLength 0 = .ok (.aload_n 0, 1) := by decide +kernel
theorem dX7_chainLength_1 : decode cX7_chainLength 1 = .ok (.getfield 15, 3) := by decide +kernel
theorem dX7_chainLength_4 : decode cX7_chainLength 4 = .ok (.iload_n 1, 1) := by decide +kernel
theorem dX7_chainLength_5 : decode cX7_chainLength 5 = .ok (.invokestatic 41, 3) := by decide +kernel
theorem dX7_chainLength_8 : decode cX7_chainLength 8 = .ok (.istore_n 2, 1) := by decide +kernel
theorem dX7_chainLength_9 : decode cX7_chainLength 9 = .ok (.iconst 0, 1) := by decide +kernel
theorem dX7_chainLength_10 : decode cX7_chainLength 10 = .ok (.istore_n 3, 1) := by decide +kernel
theorem dX7_chainLength_11 : decode cX7_chainLength 11 = .ok (.iconst 0, 1) := by decide +kernel
theorem dX7_chainLength_12 : decode cX7_chainLength 12 = .ok (.istore 4, 2) := by decide +kernel
theorem dX7_chainLength_14 : decode cX7_chainLength 14 = .ok (.iload 4, 2) := by decide +kernel
theorem dX7_chainLength_16 : decode cX7_chainLength 16 = .ok (.bipush 8, 2) := by decide +kernel
theorem dX7_chainLength_18 : decode cX7_chainLength 18 = .ok (.if_icmp .ge 26, 3) := by decide +kernel
theorem dX7_chainLength_21 : decode cX7_chainLength 21 = .ok (.iload_n 2, 1) := by decide +kernel
theorem dX7_chainLength_22 : decode cX7_chainLength 22 = .ok (.iconst (-1), 1) := by decide +kernel
theorem dX7_chainLength_23 : decode cX7_chainLength 23 = .ok (.if_icmp .eq 21, 3) := by decide +kernel
theorem dX7_chainLength_26 : decode cX7_chainLength 26 = .ok (.iinc 3 1, 3) := by decide +kernel
theorem dX7_chainLength_29 : decode cX7_chainLength 29 = .ok (.aload_n 0, 1) := by decide +kernel
theorem dX7_chainLength_30 : decode cX7_chainLength 30 = .ok (.getfield 15, 3) := by decide +kernel
theorem dX7_chainLength_33 : decode cX7_chainLength 33 = .ok (.iload_n 2, 1) := by decide +kernel
theorem dX7_chainLength_34 : decode cX7_chainLength 34 = .ok (.invokestatic 41, 3) := by decide +kernel
theorem dX7_chainLength_37 : decode cX7_chainLength 37 = .ok (.istore_n 2, 1) := by decide +kernel
theorem dX7_chainLength_38 : decode cX7_chainLength 38 = .ok (.iinc 4 1, 3) := by decide +kernel
theorem dX7_chainLength_41 : decode cX7_chainLength 41 = .ok (.goto (-27), 3) := by decide +kernel
theorem dX7_chainLength_44 : decode cX7_chainLength 44 = .ok (.iload_n 3, 1) := by decide +kernel
theorem dX7_chainLength_45 : decode cX7_chainLength 45 = .ok (.ireturn, 1) := by decide +kernel
theorem dX7_longestChain_0 : decode cX7_longestChain 0 = .ok (.iconst 0, 1) := by decide +kernel
theorem dX7_longestChain_1 : decode cX7_longestChain 1 = .ok (.istore_n 1, 1) := by decide +kernel
theorem dX7_longestChain_2 : decode cX7_longestChain 2 = .ok (.iconst 0, 1) := by decide +kernel
theorem dX7_longestChain_3 : decode cX7_longestChain 3 = .ok (.istore_n 2, 1) := by decide +kernel
theorem dX7_longestChain_4 : decode cX7_longestChain 4 = .ok (.iload_n 2, 1) := by decide +kernel
theorem dX7_longestChain_5 : decode cX7_longestChain 5 = .ok (.aload_n 0, 1) := by decide +kernel
theorem dX7_longestChain_6 : decode cX7_longestChain 6 = .ok (.getfield 21, 3) := by decide +kernel
theorem dX7_longestChain_9 : decode cX7_longestChain 9 = .ok (.getfield 33, 3) := by decide +kernel
theorem dX7_longestChain_12 : decode cX7_longestChain 12 = .ok (.if_icmp .ge 19, 3) := by decide +kernel
theorem dX7_longestChain_15 : decode cX7_longestChain 15 = .ok (.iload_n 1, 1) := by decide +kernel
theorem dX7_longestChain_16 : decode cX7_longestChain 16 = .ok (.aload_n 0, 1) := by decide +kernel
theorem dX7_longestChain_17 : decode cX7_longestChain 17 = .ok (.iload_n 2, 1) := by decide +kernel
theorem dX7_longestChain_18 : decode cX7_longestChain 18 = .ok (.invokevirtual 122, 3) := by decide +kernel
theorem dX7_longestChain_21 : decode cX7_longestChain 21 = .ok (.invokestatic 113, 3) := by decide +kernel
theorem dX7_longestChain_24 : decode cX7_longestChain 24 = .ok (.istore_n 1, 1) := by decide +kernel
theorem dX7_longestChain_25 : decode cX7_longestChain 25 = .ok (.iinc 2 1, 3) := by decide +kernel
theorem dX7_longestChain_28 : decode cX7_longestChain 28 = .ok (.goto (-24), 3) := by decide +kernel
theorem dX7_longestChain_31 : decode cX7_longestChain 31 = .ok (.iload_n 1, 1) := by decide +kernel
theorem dX7_longestChain_32 : decode cX7_longestChain 32 = .ok (.ireturn, 1) := by decide +kernel
theorem dX8_init_0 : decode cX8_init 0 = .ok (.aload_n 0, 1) := by decide +kernel
theorem dX8_init_1 : decode cX8_init 1 = .ok (.invokespecial 3, 3) := by decide +kernel
theorem dX8_init_4 : decode cX8_init 4 = .ok (.aload_n 0, 1) := by decide +kernel
theorem dX8_init_5 : decode cX8_init 5 = .ok (.sipush 150, 3) := by decide +kernel
theorem dX8_init_8 : decode cX8_init 8 = .ok (.newarray .int, 2) := by decide +kernel
theorem dX8_init_10 : decode cX8_init 10 = .ok (.putfield 9, 3) := by decide +kernel
theorem dX8_init_13 : decode cX8_init 13 = .ok (.aload_n 0, 1) := by decide +kernel
theorem dX8_init_14 : decode cX8_init 14 = .ok (.sipush 150, 3) := by decide +kernel
theorem dX8_init_17 : decode cX8_init 17 = .ok (.newarray .int, 2) := by decide +kernel
theorem dX8_init_19 : decode cX8_init 19 = .ok (.putfield 15, 3) := by decide +kernel
theorem dX8_init_22 : decode cX8_init 22 = .ok (.aload_n 0, 1) := by decide +kernel
theorem dX8_init_23 : decode cX8_init 23 = .ok (.sipush 150, 3) := by decide +kernel
theorem dX8_init_26 : decode cX8_init 26 = .ok (.newarray .int, 2) := by decide +kernel
theorem dX8_init_28 : decode cX8_init 28 = .ok (.putfield 18, 3) := by decide +kernel
theorem dX8_init_31 : decode cX8_init 31 = .ok (.aload_n 0, 1) := by decide +kernel
theorem dX8_init_32 : decode cX8_init 32 = .ok (.bipush 6, 2) := by decide +kernel
theorem dX8_init_34 : decode cX8_init 34 = .ok (.newarray .int, 2) := by decide +kernel
theorem dX8_init_36 : decode cX8_init 36 = .ok (.putfield 21, 3) := by decide +kernel
theorem dX8_init_39 : decode cX8_init 39 = .ok (.aload_n 0, 1) := by decide +kernel
theorem dX8_init_40 : decode cX8_init 40 = .ok (.bipush 6, 2) := by decide +kernel
theorem dX8_init_42 : decode cX8_init 42 = .ok (.newarray .int, 2) := by decide +kernel
theorem dX8_init_44 : decode cX8_init 44 = .ok (.putfield 24, 3) := by decide +kernel
theorem dX8_init_47 : decode cX8_init 47 = .ok (.return_, 1) := by decide +kernel
theorem dX8_readFrom_0 : decode cX8_readFrom 0 = .ok (.aload_n 0, 1) := by decide +kernel
theorem dX8_readFrom_1 : decode cX8_readFrom 1 = .ok (.iconst 0, 1) := by decide +kernel
theorem dX8_readFrom_2 : decode cX8_readFrom 2 = .ok (.putfield 27, 3) := by decide +kernel
theorem dX8_readFrom_5 : decode cX8_readFrom 5 = .ok (.aload_n 0, 1) := by decide +kernel
theorem dX8_readFrom_6 : decode cX8_readFrom 6 = .ok (.iconst 0, 1) := by decide +kernel
theorem dX8_readFrom_7 : decode cX8_readFrom 7 = .ok (.putfield 31, 3) := by decide +kernel
theorem dX8_readFrom_10 : decode cX8_readFrom 10 = .ok (.iconst 0, 1) := by decide +kernel
theorem dX8_readFrom_11 : decode cX8_readFrom 11 = .ok (.istore_n 3, 1) := by decide +kernel
theorem dX8_readFrom_12 : decode cX8_readFrom 12 = .ok (.iload_n 3, 1) := by decide +kernel
theorem dX8_readFrom_13 : decode cX8_readFrom 13 = .ok (.sipush 150, 3) := by decide +kernel
theorem dX8_readFrom_16 : decode cX8_readFrom 16 = .ok (.if_icmp .ge 55, 3) := by decide +kernel
theorem dX8_readFrom_19 : decode cX8_readFrom 19 = .ok (.aload_n 1, 1) := by decide +kernel
theorem dX8_readFrom_20 : decode cX8_readFrom 20 = .ok (.invokevirtual 34, 3) := by decide +kernel
theorem dX8_readFrom_23 : decode cX8_readFrom 23 = .ok (.ifCond .eq 48, 3) := by decide +kernel
theorem dX8_readFrom_26 : decode cX8_readFrom 26 = .ok (.aload_n 0, 1) := by decide +kernel
theorem dX8_readFrom_27 : decode cX8_readFrom 27 = .ok (.getfield 31, 3) := by decide +kernel
theorem dX8_readFrom_30 : decode cX8_readFrom 30 = .ok (.ifCond .le 29, 3) := by decide +kernel
theorem dX8_readFrom_33 : decode cX8_readFrom 33 = .ok (.aload_n 1, 1) := by decide +kernel
theorem dX8_readFrom_34 : decode cX8_readFrom 34 = .ok (.invokevirtual 40, 3) := by decide +kernel
theorem dX8_readFrom_37 : decode cX8_readFrom 37 = .ok (.bipush 93, 2) := by decide +kernel
theorem dX8_readFrom_39 : decode cX8_readFrom 39 = .ok (.if_icmp .ne 20, 3) := by decide +kernel
theorem dX8_readFrom_42 : decode cX8_readFrom 42 = .ok (.aload_n 1, 1) := by decide +kernel
theorem dX8_readFrom_43 : decode cX8_readFrom 43 = .ok (.invokevirtual 44, 3) := by decide +kernel
theorem dX8_readFrom_46 : decode cX8_readFrom 46 = .ok (.aload_n 0, 1) := by decide +kernel
theorem dX8_readFrom_47 : decode cX8_readFrom 47 = .ok (.invokevirtual 47, 3) := by decide +kernel
theorem dX8_readFrom_50 : decode cX8_readFrom 50 = .ok (.aload_n 1, 1) := by decide +kernel
theorem dX8_readFrom_51 : decode cX8_readFrom 51 = .ok (.bipush 59, 2) := by decide +kernel
theorem dX8_readFrom_53 : decode cX8_readFrom 53 = .ok (.invokevirtual 50, 3) := by decide +kernel
theorem dX8_readFrom_56 : decode cX8_readFrom 56 = .ok (.goto 9, 3) := by decide +kernel
theorem dX8_readFrom_59 : decode cX8_readFrom 59 = .ok (.aload_n 0, 1) := by decide +kernel
theorem dX8_readFrom_60 : decode cX8_readFrom 60 = .ok (.aload_n 1, 1) := by decide +kernel
theorem dX8_readFrom_61 : decode cX8_readFrom 61 = .ok (.iload_n 2, 1) := by decide +kernel
theorem dX8_readFrom_62 : decode cX8_readFrom 62 = .ok (.invokevirtual 54, 3) := by decide +kernel
theorem dX8_readFrom_65 : decode cX8_readFrom 65 = .ok (.iinc 3 1, 3) := by decide +kernel
theorem dX8_readFrom_68 : decode cX8_readFrom 68 = .ok (.goto (-56), 3) := by decide +kernel
theorem dX8_readFrom_71 : decode cX8_readFrom 71 = .ok (.aload_n 0, 1) := by decide +kernel
theorem dX8_readFrom_72 : decode cX8_readFrom 72 = .ok (.getfield 31, 3) := by decide +kernel
theorem dX8_readFrom_75 : decode cX8_readFrom 75 = .ok (.ifCond .le 12, 3) := by decide +kernel
theorem dX8_readFrom_78 : decode cX8_readFrom 78 = .ok (.aload_n 1, 1) := by decide +kernel
theorem dX8_readFrom_79 : decode cX8_readFrom 79 = .ok (.iconst 1, 1) := by decide +kernel
theorem dX8_readFrom_80 : decode cX8_readFrom 80 = .ok (.aload_n 1, 1) := by decide +kernel
theorem dX8_readFrom_81 : decode cX8_readFrom 81 = .ok (.getfield 58, 3) := by decide +kernel
theorem dX8_readFrom_84 : decode cX8_readFrom 84 = .ok (.invokevirtual 61, 3) := by decide +kernel
theorem dX8_readFrom_87 : decode cX8_readFrom 87 = .ok (.return_, 1) := by decide +kernel
theorem dX8_readStep_0 : decode cX8_readStep 0 = .ok (.aload_n 1, 1) := by decide +kernel
theorem dX8_readStep_1 : decode cX8_readStep 1 = .ok (.invokevirtual 65, 3) := by decide +kernel
theorem dX8_readStep_4 : decode cX8_readStep 4 = .ok (.aload_n 1, 1) := by decide +kernel
theorem dX8_readStep_5 : decode cX8_readStep 5 = .ok (.ldc 68, 2) := by decide +kernel
theorem dX8_readStep_7 : decode cX8_readStep 7 = .ok (.invokevirtual 70, 3) := by decide +kernel
theorem dX8_readStep_10 : decode cX8_readStep 10 = .ok (.ifCond .eq 9, 3) := by decide +kernel
theorem dX8_readStep_13 : decode cX8_readStep 13 = .ok (.aload_n 0, 1) := by decide +kernel
theorem dX8_readStep_14 : decode cX8_readStep 14 = .ok (.aload_n 1, 1) := by decide +kernel
theorem dX8_readStep_15 : decode cX8_readStep 15 = .ok (.invokevirtual 74, 3) := by decide +kernel
theorem dX8_readStep_18 : decode cX8_readStep 18 = .ok (.return_, 1) := by decide +kernel
theorem dX8_readStep_19 : decode cX8_readStep 19 = .ok (.aload_n 1, 1) := by decide +kernel
theorem dX8_readStep_20 : decode cX8_readStep 20 = .ok (.ldc 78, 2) := by decide +kernel
theorem dX8_readStep_22 : decode cX8_readStep 22 = .ok (.invokevirtual 70, 3) := by decide +kernel
theorem dX8_readStep_25 : decode cX8_readStep 25 = .ok (.ifCond .eq 20, 3) := by decide +kernel
theorem dX8_readStep_28 : decode cX8_readStep 28 = .ok (.aload_n 0, 1) := by decide +kernel
theorem dX8_readStep_29 : decode cX8_readStep 29 = .ok (.iconst 0, 1) := by decide +kernel
theorem dX8_readStep_30 : decode cX8_readStep 30 = .ok (.aload_n 1, 1) := by decide +kernel
theorem dX8_readStep_31 : decode cX8_readStep 31 = .ok (.iconst 0, 1) := by decide +kernel
theorem dX8_readStep_32 : decode cX8_readStep 32 = .ok (.iload_n 2, 1) := by decide +kernel
theorem dX8_readStep_33 : decode cX8_readStep 33 = .ok (.iconst 1, 1) := by decide +kernel
theorem dX8_readStep_34 : decode cX8_readStep 34 = .ok (.isub, 1) := by decide +kernel
theorem dX8_readStep_35 : decode cX8_readStep 35 = .ok (.invokevirtual 80, 3) := by decide +kernel
theorem dX8_readStep_38 : decode cX8_readStep 38 = .ok (.iconst 0, 1) := by decide +kernel
theorem dX8_readStep_39 : decode cX8_readStep 39 = .ok (.invokevirtual 84, 3) := by decide +kernel
theorem dX8_readStep_42 : decode cX8_readStep 42 = .ok (.goto 134, 3) := by decide +kernel
theorem dX8_readStep_45 : decode cX8_readStep 45 = .ok (.aload_n 1, 1) := by decide +kernel
theorem dX8_readStep_46 : decode cX8_readStep 46 = .ok (.ldc 88, 2) := by decide +kernel
theorem dX8_readStep_48 : decode cX8_readStep 48 = .ok (.invokevirtual 70, 3) := by decide +kernel
theorem dX8_readStep_51 : decode cX8_readStep 51 = .ok (.ifCond .eq 29, 3) := by decide +kernel
theorem dX8_readStep_54 : decode cX8_readStep 54 = .ok (.aload_n 1, 1) := by decide +kernel
theorem dX8_readStep_55 : decode cX8_readStep 55 = .ok (.iconst 0, 1) := by decide +kernel
theorem dX8_readStep_56 : decode cX8_readStep 56 = .ok (.iload_n 2, 1) := by decide +kernel
theorem dX8_readStep_57 : decode cX8_readStep 57 = .ok (.iconst 1, 1) := by decide +kernel
theorem dX8_readStep_58 : decode cX8_readStep 58 = .ok (.isub, 1) := by decide +kernel
theorem dX8_readStep_59 : decode cX8_readStep 59 = .ok (.invokevirtual 80, 3) := by decide +kernel
theorem dX8_readStep_62 : decode cX8_readStep 62 = .ok (.istore_n 3, 1) := by decide +kernel
theorem dX8_readStep_63 : decode cX8_readStep 63 = .ok (.aload_n 0, 1) := by decide +kernel
theorem dX8_readStep_64 : decode cX8_readStep 64 = .ok (.iconst 1, 1) := by decide +kernel
theorem dX8_readStep_65 : decode cX8_readStep 65 = .ok (.iload_n 3, 1) := by decide +kernel
theorem dX8_readStep_66 : decode cX8_readStep 66 = .ok (.aload_n 1, 1) := by decide +kernel
theorem dX8_readStep_67 : decode cX8_readStep 67 = .ok (.iconst 0, 1) := by decide +kernel
theorem dX8_readStep_68 : decode cX8_readStep 68 = .ok (.iload_n 2, 1) := by decide +kernel
theorem dX8_readStep_69 : decode cX8_readStep 69 = .ok (.iconst 1, 1) := by decide +kernel
theorem dX8_readStep_70 : decode cX8_readStep 70 = .ok (.isub, 1) := by decide +kernel
theorem dX8_readStep_71 : decode cX8_readStep 71 = .ok (.invokevirtual 80, 3) := by decide +kernel
theorem dX8_readStep_74 : decode cX8_readStep 74 = .ok (.invokevirtual 84, 3) := by decide +kernel
theorem dX8_readStep_77 : decode cX8_readStep 77 = .ok (.goto 99, 3) := by decide +kernel
theorem dX8_readStep_80 : decode cX8_readStep 80 = .ok (.aload_n 1, 1) := by decide +kernel
theorem dX8_readStep_81 : decode cX8_readStep 81 = .ok (.ldc 90, 2) := by decide +kernel
theorem dX8_readStep_83 : decode cX8_readStep 83 = .ok (.invokevirtual 70, 3) := by decide +kernel
theorem dX8_readStep_86 : decode cX8_readStep 86 = .ok (.ifCond .eq 28, 3) := by decide +kernel
theorem dX8_readStep_89 : decode cX8_readStep 89 = .ok (.aload_n 1, 1) := by decide +kernel
theorem dX8_readStep_90 : decode cX8_readStep 90 = .ok (.iconst 0, 1) := by decide +kernel
theorem dX8_readStep_91 : decode cX8_readStep 91 = .ok (.iload_n 2, 1) := by decide +kernel
theorem dX8_readStep_92 : decode cX8_readStep 92 = .ok (.iconst 1, 1) := by decide +kernel
theorem dX8_readStep_93 : decode cX8_readStep 93 = .ok (.isub, 1) := by decide +kernel
theorem dX8_readStep_94 : decode cX8_readStep 94 = .ok (.invokevirtual 80, 3) := by decide +kernel
theorem dX8_readStep_97 : decode cX8_readStep 97 = .ok (.istore_n 3, 1) := by decide +kernel
theorem dX8_readStep_98 : decode cX8_readStep 98 = .ok (.aload_n 0, 1) := by decide +kernel
theorem dX8_readStep_99 : decode cX8_readStep 99 = .ok (.iconst 2, 1) := by decide +kernel
theorem dX8_readStep_100 : decode cX8_readStep 100 = .ok (.iload_n 3, 1) := by decide +kernel
theorem dX8_readStep_101 : decode cX8_readStep 101 = .ok (.aload_n 1, 1) := by decide +kernel
theorem dX8_readStep_102 : decode cX8_readStep 102 = .ok (.iconst 1, 1) := by decide +kernel
theorem dX8_readStep_103 : decode cX8_readStep 103 = .ok (.bipush 60, 2) := by decide +kernel
theorem dX8_readStep_105 : decode cX8_readStep 105 = .ok (.invokevirtual 80, 3) := by decide +kernel
theorem dX8_readStep_108 : decode cX8_readStep 108 = .ok (.invokevirtual 84, 3) := by decide +kernel
theorem dX8_readStep_111 : decode cX8_readStep 111 = .ok (.goto 65, 3) := by decide +kernel
theorem dX8_readStep_114 : decode cX8_readStep 114 = .ok (.aload_n 1, 1) := by decide +kernel
theorem dX8_readStep_115 : decode cX8_readStep 115 = .ok (.ldc 92, 2) := by decide +kernel
theorem dX8_readStep_117 : decode cX8_readStep 117 = .ok (.invokevirtual 70, 3) := by decide +kernel
theorem dX8_readStep_120 : decode cX8_readStep 120 = .ok (.ifCond .eq 28, 3) := by decide +kernel
theorem dX8_readStep_123 : decode cX8_readStep 123 = .ok (.aload_n 1, 1) := by decide +kernel
theorem dX8_readStep_124 : decode cX8_readStep 124 = .ok (.iconst 0, 1) := by decide +kernel
theorem dX8_readStep_125 : decode cX8_readStep 125 = .ok (.iload_n 2, 1) := by decide +kernel
theorem dX8_readStep_126 : decode cX8_readStep 126 = .ok (.iconst 1, 1) := by decide +kernel
theorem dX8_readStep_127 : decode cX8_readStep 127 = .ok (.isub, 1) := by decide +kernel
theorem dX8_readStep_128 : decode cX8_readStep 128 = .ok (.invokevirtual 80, 3) := by decide +kernel
theorem dX8_readStep_131 : decode cX8_readStep 131 = .ok (.istore_n 3, 1) := by decide +kernel
theorem dX8_readStep_132 : decode cX8_readStep 132 = .ok (.aload_n 0, 1) := by decide +kernel
theorem dX8_readStep_133 : decode cX8_readStep 133 = .ok (.iconst 3, 1) := by decide +kernel
theorem dX8_readStep_134 : decode cX8_readStep 134 = .ok (.iload_n 3, 1) := by decide +kernel
theorem dX8_readStep_135 : decode cX8_readStep 135 = .ok (.aload_n 1, 1) := by decide +kernel
theorem dX8_readStep_136 : decode cX8_readStep 136 = .ok (.iconst 1, 1) := by decide +kernel
theorem dX8_readStep_137 : decode cX8_readStep 137 = .ok (.bipush 60, 2) := by decide +kernel
theorem dX8_readStep_139 : decode cX8_readStep 139 = .ok (.invokevirtual 80, 3) := by decide +kernel
theorem dX8_readStep_142 : decode cX8_readStep 142 = .ok (.invokevirtual 84, 3) := by decide +kernel
theorem dX8_readStep_145 : decode cX8_readStep 145 = .ok (.goto 31, 3) := by decide +kernel
theorem dX8_readStep_148 : decode cX8_readStep 148 = .ok (.aload_n 1, 1) := by decide +kernel
theorem dX8_readStep_149 : decode cX8_readStep 149 = .ok (.ldc 94, 2) := by decide +kernel
theorem dX8_readStep_151 : decode cX8_readStep 151 = .ok (.invokevirtual 70, 3) := by decide +kernel
theorem dX8_readStep_154 : decode cX8_readStep 154 = .ok (.ifCond .eq 13, 3) := by decide +kernel
theorem dX8_readStep_157 : decode cX8_readStep 157 = .ok (.aload_n 0, 1) := by decide +kernel
theorem dX8_readStep_158 : decode cX8_readStep 158 = .ok (.iconst 4, 1) := by decide +kernel
theorem dX8_readStep_159 : decode cX8_readStep 159 = .ok (.iconst 0, 1) := by decide +kernel
theorem dX8_readStep_160 : decode cX8_readStep 160 = .ok (.iconst 0, 1) := by decide +kernel
theorem dX8_readStep_161 : decode cX8_readStep 161 = .ok (.invokevirtual 84, 3) := by decide +kernel
theorem dX8_readStep_164 : decode cX8_readStep 164 = .ok (.goto 12, 3) := by decide +kernel
theorem dX8_readStep_167 : decode cX8_readStep 167 = .ok (.aload_n 1, 1) := by decide +kernel
theorem dX8_readStep_168 : decode cX8_readStep 168 = .ok (.iconst 1, 1) := by decide +kernel
theorem dX8_readStep_169 : decode cX8_readStep 169 = .ok (.aload_n 1, 1) := by decide +kernel
theorem dX8_readStep_170 : decode cX8_readStep 170 = .ok (.getfield 96, 3) := by decide +kernel
theorem dX8_readStep_173 : decode cX8_readStep 173 = .ok (.invokevirtual 61, 3) := by decide +kernel
theorem dX8_readStep_176 : decode cX8_readStep 176 = .ok (.aload_n 1, 1) := by decide +kernel
theorem dX8_readStep_177 : decode cX8_readStep 177 = .ok (.bipush 59, 2) := by decide +kernel
theorem dX8_readStep_179 : decode cX8_readStep 179 = .ok (.invokevirtual 50, 3) := by decide +kernel
theorem dX8_readStep_182 : decode cX8_readStep 182 = .ok (.return_, 1) := by decide +kernel
theorem dX8_openAgain_0 : decode cX8_openAgain 0 = .ok (.aload_n 0, 1) := by decide +kernel
theorem dX8_openAgain_1 : decode cX8_openAgain 1 = .ok (.getfield 31, 3) := by decide +kernel
theorem dX8_openAgain_4 : decode cX8_openAgain 4 = .ok (.bipush 6, 2) := by decide +kernel
theorem dX8_openAgain_6 : decode cX8_openAgain 6 = .ok (.if_icmp .lt 12, 3) := by decide +kernel
theorem dX8_openAgain_9 : decode cX8_openAgain 9 = .ok (.aload_n 1, 1) := by decide +kernel
theorem dX8_openAgain_10 : decode cX8_openAgain 10 = .ok (.iconst 3, 1) := by decide +kernel
theorem dX8_openAgain_11 : decode cX8_openAgain 11 = .ok (.aload_n 1, 1) := by decide +kernel
theorem dX8_openAgain_12 : decode cX8_openAgain 12 = .ok (.getfield 96, 3) := by decide +kernel
theorem dX8_openAgain_15 : decode cX8_openAgain 15 = .ok (.invokevirtual 61, 3) := by decide +kernel
theorem dX8_openAgain_18 : decode cX8_openAgain 18 = .ok (.aload_n 1, 1) := by decide +kernel
theorem dX8_openAgain_19 : decode cX8_openAgain 19 = .ok (.iconst 0, 1) := by decide +kernel
theorem dX8_openAgain_20 : decode cX8_openAgain 20 = .ok (.bipush 60, 2) := by decide +kernel
theorem dX8_openAgain_22 : decode cX8_openAgain 22 = .ok (.invokevirtual 80, 3) := by decide +kernel
theorem dX8_openAgain_25 : decode cX8_openAgain 25 = .ok (.istore_n 2, 1) := by decide +kernel
theorem dX8_openAgain_26 : decode cX8_openAgain 26 = .ok (.aload_n 1, 1) := by decide +kernel
theorem dX8_openAgain_27 : decode cX8_openAgain 27 = .ok (.bipush 91, 2) := by decide +kernel
theorem dX8_openAgain_29 : decode cX8_openAgain 29 = .ok (.invokevirtual 50, 3) := by decide +kernel
theorem dX8_openAgain_32 : decode cX8_openAgain 32 = .ok (.aload_n 0, 1) := by decide +kernel
theorem dX8_openAgain_33 : decode cX8_openAgain 33 = .ok (.getfield 21, 3) := by decide +kernel
theorem dX8_openAgain_36 : decode cX8_openAgain 36 = .ok (.aload_n 0, 1) := by decide +kernel
theorem dX8_openAgain_37 : decode cX8_openAgain 37 = .ok (.getfield 31, 3) := by decide +kernel
theorem dX8_openAgain_40 : decode cX8_openAgain 40 = .ok (.aload_n 0, 1) := by decide +kernel
theorem dX8_openAgain_41 : decode cX8_openAgain 41 = .ok (.getfield 27, 3) := by decide +kernel
theorem dX8_openAgain_44 : decode cX8_openAgain 44 = .ok (.invokestatic 99, 3) := by decide +kernel
theorem dX8_openAgain_47 : decode cX8_openAgain 47 = .ok (.aload_n 0, 1) := by decide +kernel
theorem dX8_openAgain_48 : decode cX8_openAgain 48 = .ok (.dup, 1) := by decide +kernel
theorem dX8_openAgain_49 : decode cX8_openAgain 49 = .ok (.getfield 31, 3) := by decide +kernel
theorem dX8_openAgain_52 : decode cX8_openAgain 52 = .ok (.iconst 1, 1) := by decide +kernel
theorem dX8_openAgain_53 : decode cX8_openAgain 53 = .ok (.iadd, 1) := by decide +kernel
theorem dX8_openAgain_54 : decode cX8_openAgain 54 = .ok (.putfield 31, 3) := by decide +kernel
theorem dX8_openAgain_57 : decode cX8_openAgain 57 = .ok (.aload_n 0, 1) := by decide +kernel
theorem dX8_openAgain_58 : decode cX8_openAgain 58 = .ok (.iconst 5, 1) := by decide +kernel
theorem dX8_openAgain_59 : decode cX8_openAgain 59 = .ok (.iload_n 2, 1) := by decide +kernel
theorem dX8_openAgain_60 : decode cX8_openAgain 60 = .ok (.iconst 0, 1) := by decide +kernel
theorem dX8_openAgain_61 : decode cX8_openAgain 61 = .ok (.invokevirtual 84, 3) := by decide +kernel
theorem dX8_openAgain_64 : decode cX8_openAgain 64 = .ok (.return_, 1) := by decide +kernel
theorem dX8_closeAgain_0 : decode cX8_closeAgain 0 = .ok (.aload_n 0, 1) := by decide +kernel
theorem dX8_closeAgain_1 : decode cX8_closeAgain 1 = .ok (.dup, 1) := by decide +kernel
theorem dX8_closeAgain_2 : decode cX8_closeAgain 2 = .ok (.getfield 31, 3) := by decide +kernel
theorem dX8_closeAgain_5 : decode cX8_closeAgain 5 = .ok (.iconst 1, 1) := by decide +kernel
theorem dX8_closeAgain_6 : decode cX8_closeAgain 6 = .ok (.isub, 1) := by decide +kernel
theorem dX8_closeAgain_7 : decode cX8_closeAgain 7 = .ok (.putfield 31, 3) := by decide +kernel
theorem dX8_closeAgain_10 : decode cX8_closeAgain 10 = .ok (.aload_n 0, 1) := by decide +kernel
theorem dX8_closeAgain_11 : decode cX8_closeAgain 11 = .ok (.getfield 21, 3) := by decide +kernel
theorem dX8_closeAgain_14 : decode cX8_closeAgain 14 = .ok (.aload_n 0, 1) := by decide +kernel
theorem dX8_closeAgain_15 : decode cX8_closeAgain 15 = .ok (.getfield 31, 3) := by decide +kernel
theorem dX8_closeAgain_18 : decode cX8_closeAgain 18 = .ok (.invokestatic 105, 3) := by decide +kernel
theorem dX8_closeAgain_21 : decode cX8_closeAgain 21 = .ok (.istore_n 1, 1) := by decide +kernel
theorem dX8_closeAgain_22 : decode cX8_closeAgain 22 = .ok (.aload_n 0, 1) := by decide +kernel
theorem dX8_closeAgain_23 : decode cX8_closeAgain 23 = .ok (.getfield 18, 3) := by decide +kernel
theorem dX8_closeAgain_26 : decode cX8_closeAgain 26 = .ok (.iload_n 1, 1) := by decide +kernel
theorem dX8_closeAgain_27 : decode cX8_closeAgain 27 = .ok (.aload_n 0, 1) := by decide +kernel
theorem dX8_closeAgain_28 : decode cX8_closeAgain 28 = .ok (.getfield 27, 3) := by decide +kernel
theorem dX8_closeAgain_31 : decode cX8_closeAgain 31 = .ok (.invokestatic 99, 3) := by decide +kernel
theorem dX8_closeAgain_34 : decode cX8_closeAgain 34 = .ok (.aload_n 0, 1) := by decide +kernel
theorem dX8_closeAgain_35 : decode cX8_closeAgain 35 = .ok (.bipush 6, 2) := by decide +kernel
theorem dX8_closeAgain_37 : decode cX8_closeAgain 37 = .ok (.iload_n 1, 1) := by decide +kernel
theorem dX8_closeAgain_38 : decode cX8_closeAgain 38 = .ok (.iconst 0, 1) := by decide +kernel
theorem dX8_closeAgain_39 : decode cX8_closeAgain 39 = .ok (.invokevirtual 84, 3) := by decide +kernel
theorem dX8_closeAgain_42 : decode cX8_closeAgain 42 = .ok (.return_, 1) := by decide +kernel
theorem dX8_add_0 : decode cX8_add 0 = .ok (.aload_n 0, 1) := by decide +kernel
theorem dX8_add_1 : decode cX8_add 1 = .ok (.getfield 27, 3) := by decide +kernel
theorem dX8_add_4 : decode cX8_add 4 = .ok (.sipush 150, 3) := by decide +kernel
theorem dX8_add_7 : decode cX8_add 7 = .ok (.if_icmp .ge 49, 3) := by decide +kernel
theorem dX8_add_10 : decode cX8_add 10 = .ok (.aload_n 0, 1) := by decide +kernel
theorem dX8_add_11 : decode cX8_add 11 = .ok (.getfield 9, 3) := by decide +kernel
theorem dX8_add_14 : decode cX8_add 14 = .ok (.aload_n 0, 1) := by decide +kernel
theorem dX8_add_15 : decode cX8_add 15 = .ok (.getfield 27, 3) := by decide +kernel
theorem dX8_add_18 : decode cX8_add 18 = .ok (.iload_n 1, 1) := by decide +kernel
theorem dX8_add_19 : decode cX8_add 19 = .ok (.invokestatic 99, 3) := by decide +kernel
theorem dX8_add_22 : decode cX8_add 22 = .ok (.aload_n 0, 1) := by decide +kernel
theorem dX8_add_23 : decode cX8_add 23 = .ok (.getfield 15, 3) := by decide +kernel
theorem dX8_add_26 : decode cX8_add 26 = .ok (.aload_n 0, 1) := by decide +kernel
theorem dX8_add_27 : decode cX8_add 27 = .ok (.getfield 27, 3) := by decide +kernel
theorem dX8_add_30 : decode cX8_add 30 = .ok (.iload_n 2, 1) := by decide +kernel
theorem dX8_add_31 : decode cX8_add 31 = .ok (.invokestatic 99, 3) := by decide +kernel
theorem dX8_add_34 : decode cX8_add 34 = .ok (.aload_n 0, 1) := by decide +kernel
theorem dX8_add_35 : decode cX8_add 35 = .ok (.getfield 18, 3) := by decide +kernel
theorem dX8_add_38 : decode cX8_add 38 = .ok (.aload_n 0, 1) := by decide +kernel
theorem dX8_add_39 : decode cX8_add 39 = .ok (.getfield 27, 3) := by decide +kernel
theorem dX8_add_42 : decode cX8_add 42 = .ok (.iload_n 3, 1) := by decide +kernel
theorem dX8_add_43 : decode cX8_add 43 = .ok (.invokestatic 99, 3) := by decide +kernel
theorem dX8_add_46 : decode cX8_add 46 = .ok (.aload_n 0, 1) := by decide +kernel
theorem dX8_add_47 : decode cX8_add 47 = .ok (.dup, 1) := by decide +kernel
theorem dX8_add_48 : decode cX8_add 48 = .ok (.getfield 27, 3) := by decide +kernel
theorem dX8_add_51 : decode cX8_add 51 = .ok (.iconst 1, 1) := by decide +kernel
theorem dX8_add_52 : decode cX8_add 52 = .ok (.iadd, 1) := by decide +kernel
theorem dX8_add_53 : decode cX8_add 53 = .ok (.putfield 27, 3) := by decide +kernel
theorem dX8_add_56 : decode cX8_add 56 = .ok (.return_, 1) := by decide +kernel
theorem dX8_run_0 : decode cX8_run 0 = .ok (.aload_n 0, 1) := by decide +kernel
theorem dX8_run_1 : decode cX8_run 1 = .ok (.iconst 0, 1) := by decide +kernel
theorem dX8_run_2 : decode cX8_run 2 = .ok (.putfield 109, 3) := by decide +kernel
theorem dX8_run_5 : decode cX8_run 5 = .ok (.aload_n 0, 1) := by decide +kernel
theorem dX8_run_6 : decode cX8_run 6 = .ok (.iconst 0, 1) := by decide +kernel
theorem dX8_run_7 : decode cX8_run 7 = .ok (.putfield 112, 3) := by decide +kernel
theorem dX8_run_10 : decode cX8_run 10 = .ok (.aload_n 0, 1) := by decide +kernel
theorem dX8_run_11 : decode cX8_run 11 = .ok (.iconst 0, 1) := by decide +kernel
theorem dX8_run_12 : decode cX8_run 12 = .ok (.putfield 31, 3) := by decide +kernel
theorem dX8_run_15 : decode cX8_run 15 = .ok (.iconst 0, 1) := by decide +kernel
theorem dX8_run_16 : decode cX8_run 16 = .ok (.istore_n 2, 1) := by decide +kernel
theorem dX8_run_17 : decode cX8_run 17 = .ok (.iconst 0, 1) := by decide +kernel
theorem dX8_run_18 : decode cX8_run 18 = .ok (.istore_n 3, 1) := by decide +kernel
theorem dX8_run_19 : decode cX8_run 19 = .ok (.iconst 0, 1) := by decide +kernel
theorem dX8_run_20 : decode cX8_run 20 = .ok (.istore 4, 2) := by decide +kernel
theorem dX8_run_22 : decode cX8_run 22 = .ok (.iload 4, 2) := by decide +kernel
theorem dX8_run_24 : decode cX8_run 24 = .ok (.ldc 115, 2) := by decide +kernel
theorem dX8_run_26 : decode cX8_run 26 = .ok (.if_icmp .ge 122, 3) := by decide +kernel
theorem dX8_run_29 : decode cX8_run 29 = .ok (.iload_n 3, 1) := by decide +kernel
theorem dX8_run_30 : decode cX8_run 30 = .ok (.aload_n 0, 1) := by decide +kernel
theorem dX8_run_31 : decode cX8_run 31 = .ok (.getfield 27, 3) := by decide +kernel
theorem dX8_run_34 : decode cX8_run 34 = .ok (.if_icmp .ge 114, 3) := by decide +kernel
theorem dX8_run_37 : decode cX8_run 37 = .ok (.iload_n 2, 1) := by decide +kernel
theorem dX8_run_38 : decode cX8_run 38 = .ok (.sipush 200, 3) := by decide +kernel
theorem dX8_run_41 : decode cX8_run 41 = .ok (.if_icmp .ge 107, 3) := by decide +kernel
theorem dX8_run_44 : decode cX8_run 44 = .ok (.aload_n 0, 1) := by decide +kernel
theorem dX8_run_45 : decode cX8_run 45 = .ok (.getfield 9, 3) := by decide +kernel
theorem dX8_run_48 : decode cX8_run 48 = .ok (.iload_n 3, 1) := by decide +kernel
theorem dX8_run_49 : decode cX8_run 49 = .ok (.invokestatic 105, 3) := by decide +kernel
theorem dX8_run_52 : decode cX8_run 52 = .ok (.istore 5, 2) := by decide +kernel
theorem dX8_run_54 : decode cX8_run 54 = .ok (.iload 5, 2) := by decide +kernel
theorem dX8_run_56 : decode cX8_run 56 = .ok (.bipush 6, 2) := by decide +kernel
theorem dX8_run_58 : decode cX8_run 58 = .ok (.if_icmp .ne 12, 3) := by decide +kernel
theorem dX8_run_61 : decode cX8_run 61 = .ok (.aload_n 0, 1) := by decide +kernel
theorem dX8_run_62 : decode cX8_run 62 = .ok (.iload_n 3, 1) := by decide +kernel
theorem dX8_run_63 : decode cX8_run 63 = .ok (.invokevirtual 116, 3) := by decide +kernel
theorem dX8_run_66 : decode cX8_run 66 = .ok (.istore_n 3, 1) := by decide +kernel
theorem dX8_run_67 : decode cX8_run 67 = .ok (.goto 75, 3) := by decide +kernel
theorem dX8_run_70 : decode cX8_run 70 = .ok (.iload 5, 2) := by decide +kernel
theorem dX8_run_72 : decode cX8_run 72 = .ok (.iconst 5, 1) := by decide +kernel
theorem dX8_run_73 : decode cX8_run 73 = .ok (.if_icmp .ne 15, 3) := by decide +kernel
theorem dX8_run_76 : decode cX8_run 76 = .ok (.iinc 2 1, 3) := by decide +kernel
theorem dX8_run_79 : decode cX8_run 79 = .ok (.aload_n 0, 1) := by decide +kernel
theorem dX8_run_80 : decode cX8_run 80 = .ok (.iload_n 3, 1) := by decide +kernel
theorem dX8_run_81 : decode cX8_run 81 = .ok (.invokevirtual 120, 3) := by decide +kernel
theorem dX8_run_84 : decode cX8_run 84 = .ok (.istore_n 3, 1) := by decide +kernel
theorem dX8_run_85 : decode cX8_run 85 = .ok (.goto 57, 3) := by decide +kernel
theorem dX8_run_88 : decode cX8_run 88 = .ok (.iinc 2 1, 3) := by decide +kernel
theorem dX8_run_91 : decode cX8_run 91 = .ok (.aload_n 1, 1) := by decide +kernel
theorem dX8_run_92 : decode cX8_run 92 = .ok (.iload 5, 2) := by decide +kernel
theorem dX8_run_94 : decode cX8_run 94 = .ok (.aload_n 0, 1) := by decide +kernel
theorem dX8_run_95 : decode cX8_run 95 = .ok (.getfield 15, 3) := by decide +kernel
theorem dX8_run_98 : decode cX8_run 98 = .ok (.iload_n 3, 1) := by decide +kernel
theorem dX8_run_99 : decode cX8_run 99 = .ok (.invokestatic 105, 3) := by decide +kernel
theorem dX8_run_102 : decode cX8_run 102 = .ok (.aload_n 0, 1) := by decide +kernel
theorem dX8_run_103 : decode cX8_run 103 = .ok (.getfield 18, 3) := by decide +kernel
theorem dX8_run_106 : decode cX8_run 106 = .ok (.iload_n 3, 1) := by decide +kernel
theorem dX8_run_107 : decode cX8_run 107 = .ok (.invokestatic 105, 3) := by decide +kernel
theorem dX8_run_110 : decode cX8_run 110 = .ok (.invokevirtual 123, 3) := by decide +kernel
theorem dX8_run_113 : decode cX8_run 113 = .ok (.ifCond .eq 16, 3) := by decide +kernel
theorem dX8_run_116 : decode cX8_run 116 = .ok (.aload_n 0, 1) := by decide +kernel
theorem dX8_run_117 : decode cX8_run 117 = .ok (.dup, 1) := by decide +kernel
theorem dX8_run_118 : decode cX8_run 118 = .ok (.getfield 109, 3) := by decide +kernel
theorem dX8_run_121 : decode cX8_run 121 = .ok (.iconst 1, 1) := by decide +kernel
theorem dX8_run_122 : decode cX8_run 122 = .ok (.iadd, 1) := by decide +kernel
theorem dX8_run_123 : decode cX8_run 123 = .ok (.putfield 109, 3) := by decide +kernel
theorem dX8_run_126 : decode cX8_run 126 = .ok (.goto 13, 3) := by decide +kernel
theorem dX8_run_129 : decode cX8_run 129 = .ok (.aload_n 0, 1) := by decide +kernel
theorem dX8_run_130 : decode cX8_run 130 = .ok (.dup, 1) := by decide +kernel
theorem dX8_run_131 : decode cX8_run 131 = .ok (.getfield 112, 3) := by decide +kernel
theorem dX8_run_134 : decode cX8_run 134 = .ok (.iconst 1, 1) := by decide +kernel
theorem dX8_run_135 : decode cX8_run 135 = .ok (.iadd, 1) := by decide +kernel
theorem dX8_run_136 : decode cX8_run 136 = .ok (.putfield 112, 3) := by decide +kernel
theorem dX8_run_139 : decode cX8_run 139 = .ok (.iinc 3 1, 3) := by decide +kernel
theorem dX8_run_142 : decode cX8_run 142 = .ok (.iinc 4 1, 3) := by decide +kernel
theorem dX8_run_145 : decode cX8_run 145 = .ok (.goto (-123), 3) := by decide +kernel
theorem dX8_run_148 : decode cX8_run 148 = .ok (.return_, 1) := by decide +kernel
theorem dX8_behindAgain_0 : decode cX8_behindAgain 0 = .ok (.aload_n 0, 1) := by decide +kernel
theorem dX8_behindAgain_1 : decode cX8_behindAgain 1 = .ok (.getfield 15, 3) := by decide +kernel
theorem dX8_behindAgain_4 : decode cX8_behindAgain 4 = .ok (.iload_n 1, 1) := by decide +kernel
theorem dX8_behindAgain_5 : decode cX8_behindAgain 5 = .ok (.invokestatic 105, 3) := by decide +kernel
theorem dX8_behindAgain_8 : decode cX8_behindAgain 8 = .ok (.istore_n 2, 1) := by decide +kernel
theorem dX8_behindAgain_9 : decode cX8_behindAgain 9 = .ok (.iload_n 2, 1) := by decide +kernel
theorem dX8_behindAgain_10 : decode cX8_behindAgain 10 = .ok (.ifCond .gt 14, 3) := by decide +kernel
theorem dX8_behindAgain_13 : decode cX8_behindAgain 13 = .ok (.aload_n 0, 1) := by decide +kernel
theorem dX8_behindAgain_14 : decode cX8_behindAgain 14 = .ok (.getfield 18, 3) := by decide +kernel
theorem dX8_behindAgain_17 : decode cX8_behindAgain 17 = .ok (.iload_n 1, 1) := by decide +kernel
theorem dX8_behindAgain_18 : decode cX8_behindAgain 18 = .ok (.invokestatic 105, 3) := by decide +kernel
theorem dX8_behindAgain_21 : decode cX8_behindAgain 21 = .ok (.iconst 1, 1) := by decide +kernel
theorem dX8_behindAgain_22 : decode cX8_behindAgain 22 = .ok (.iadd, 1) := by decide +kernel
theorem dX8_behindAgain_23 : decode cX8_behindAgain 23 = .ok (.ireturn, 1) := by decide +kernel
theorem dX8_behindAgain_24 : decode cX8_behindAgain 24 = .ok (.aload_n 0, 1) := by decide +kernel
theorem dX8_behindAgain_25 : decode cX8_behindAgain 25 = .ok (.getfield 24, 3) := by decide +kernel
theorem dX8_behindAgain_28 : decode cX8_behindAgain 28 = .ok (.aload_n 0, 1) := by decide +kernel
theorem dX8_behindAgain_29 : decode cX8_behindAgain 29 = .ok (.getfield 31, 3) := by decide +kernel
theorem dX8_behindAgain_32 : decode cX8_behindAgain 32 = .ok (.iload_n 2, 1) := by decide +kernel
theorem dX8_behindAgain_33 : decode cX8_behindAgain 33 = .ok (.invokestatic 99, 3) := by decide +kernel
theorem dX8_behindAgain_36 : decode cX8_behindAgain 36 = .ok (.aload_n 0, 1) := by decide +kernel
theorem dX8_behindAgain_37 : decode cX8_behindAgain 37 = .ok (.dup, 1) := by decide +kernel
theorem dX8_behindAgain_38 : decode cX8_behindAgain 38 = .ok (.getfield 31, 3) := by decide +kernel
theorem dX8_behindAgain_41 : decode cX8_behindAgain 41 = .ok (.iconst 1, 1) := by decide +kernel
theorem dX8_behindAgain_42 : decode cX8_behindAgain 42 = .ok (.iadd, 1) := by decide +kernel
theorem dX8_behindAgain_43 : decode cX8_behindAgain 43 = .ok (.putfield 31, 3) := by decide +kernel
theorem dX8_behindAgain_46 : decode cX8_behindAgain 46 = .ok (.iload_n 1, 1) := by decide +kernel
theorem dX8_behindAgain_47 : decode cX8_behindAgain 47 = .ok (.iconst 1, 1) := by decide +kernel
theorem dX8_behindAgain_48 : decode cX8_behindAgain 48 = .ok (.iadd, 1) := by decide +kernel
theorem dX8_behindAgain_49 : decode cX8_behindAgain 49 = .ok (.ireturn, 1) := by decide +kernel
theorem dX8_behindEnd_0 : decode cX8_behindEnd 0 = .ok (.aload_n 0, 1) := by decide +kernel
theorem dX8_behindEnd_1 : decode cX8_behindEnd 1 = .ok (.getfield 24, 3) := by decide +kernel
theorem dX8_behindEnd_4 : decode cX8_behindEnd 4 = .ok (.aload_n 0, 1) := by decide +kernel
theorem dX8_behindEnd_5 : decode cX8_behindEnd 5 = .ok (.getfield 31, 3) := by decide +kernel
theorem dX8_behindEnd_8 : decode cX8_behindEnd 8 = .ok (.iconst 1, 1) := by decide +kernel
theorem dX8_behindEnd_9 : decode cX8_behindEnd 9 = .ok (.isub, 1) := by decide +kernel
theorem dX8_behindEnd_10 : decode cX8_behindEnd 10 = .ok (.invokestatic 105, 3) := by decide +kernel
theorem dX8_behindEnd_13 : decode cX8_behindEnd 13 = .ok (.iconst 1, 1) := by decide +kernel
theorem dX8_behindEnd_14 : decode cX8_behindEnd 14 = .ok (.isub, 1) := by decide +kernel
theorem dX8_behindEnd_15 : decode cX8_behindEnd 15 = .ok (.istore_n 2, 1) := by decide +kernel
theorem dX8_behindEnd_16 : decode cX8_behindEnd 16 = .ok (.iload_n 2, 1) := by decide +kernel
theorem dX8_behindEnd_17 : decode cX8_behindEnd 17 = .ok (.ifCond .le 28, 3) := by decide +kernel
theorem dX8_behindEnd_20 : decode cX8_behindEnd 20 = .ok (.aload_n 0, 1) := by decide +kernel
theorem dX8_behindEnd_21 : decode cX8_behindEnd 21 = .ok (.getfield 24, 3) := by decide +kernel
theorem dX8_behindEnd_24 : decode cX8_behindEnd 24 = .ok (.aload_n 0, 1) := by decide +kernel
theorem dX8_behindEnd_25 : decode cX8_behindEnd 25 = .ok (.getfield 31, 3) := by decide +kernel
theorem dX8_behindEnd_28 : decode cX8_behindEnd 28 = .ok (.iconst 1, 1) := by decide +kernel
theorem dX8_behindEnd_29 : decode cX8_behindEnd 29 = .ok (.isub, 1) := by decide +kernel
theorem dX8_behindEnd_30 : decode cX8_behindEnd 30 = .ok (.iload_n 2, 1) := by decide +kernel
theorem dX8_behindEnd_31 : decode cX8_behindEnd 31 = .ok (.invokestatic 99, 3) := by decide +kernel
theorem dX8_behindEnd_34 : decode cX8_behindEnd 34 = .ok (.aload_n 0, 1) := by decide +kernel
theorem dX8_behindEnd_35 : decode cX8_behindEnd 35 = .ok (.getfield 15, 3) := by decide +kernel
theorem dX8_behindEnd_38 : decode cX8_behindEnd 38 = .ok (.iload_n 1, 1) := by decide +kernel
theorem dX8_behindEnd_39 : decode cX8_behindEnd 39 = .ok (.invokestatic 105, 3) := by decide +kernel
theorem dX8_behindEnd_42 : decode cX8_behindEnd 42 = .ok (.iconst 1, 1) := by decide +kernel
theorem dX8_behindEnd_43 : decode cX8_behindEnd 43 = .ok (.iadd, 1) := by decide +kernel
theorem dX8_behindEnd_44 : decode cX8_behindEnd 44 = .ok (.ireturn, 1) := by decide +kernel
theorem dX8_behindEnd_45 : decode cX8_behindEnd 45 = .ok (.aload_n 0, 1) := by decide +kernel
theorem dX8_behindEnd_46 : decode cX8_behindEnd 46 = .ok (.dup, 1) := by decide +kernel
theorem dX8_behindEnd_47 : decode cX8_behindEnd 47 = .ok (.getfield 31, 3) := by decide +kernel
theorem dX8_behindEnd_50 : decode cX8_behindEnd 50 = .ok (.iconst 1, 1) := by decide +kernel
theorem dX8_behindEnd_51 : decode cX8_behindEnd 51 = .ok (.isub, 1) := by decide +kernel
theorem dX8_behindEnd_52 : decode cX8_behindEnd 52 = .ok (.putfield 31, 3) := by decide +kernel
theorem dX8_behindEnd_55 : decode cX8_behindEnd 55 = .ok (.iload_n 1, 1) := by decide +kernel
theorem dX8_behindEnd_56 : decode cX8_behindEnd 56 = .ok (.iconst 1, 1) := by decide +kernel
theorem dX8_behindEnd_57 : decode cX8_behindEnd 57 = .ok (.iadd, 1) := by decide +kernel
theorem dX8_behindEnd_58 : decode cX8_behindEnd 58 = .ok (.ireturn, 1) := by decide +kernel
theorem dX9_init_0 : decode cX9_init 0 = .ok (.aload_n 0, 1) := by decide +kernel
theorem dX9_init_1 : decode cX9_init 1 = .ok (.invokespecial 3, 3) := by decide +kernel
theorem dX9_init_4 : decode cX9_init 4 = .ok (.aload_n 0, 1) := by decide +kernel
theorem dX9_init_5 : decode cX9_init 5 = .ok (.sipush 600, 3) := by decide +kernel
theorem dX9_init_8 : decode cX9_init 8 = .ok (.newarray .int, 2) := by decide +kernel
theorem dX9_init_10 : decode cX9_init 10 = .ok (.putfield 9, 3) := by decide +kernel
theorem dX9_init_13 : decode cX9_init 13 = .ok (.aload_n 0, 1) := by decide +kernel
theorem dX9_init_14 : decode cX9_init 14 = .ok (.iconst (-1), 1) := by decide +kernel
theorem dX9_init_15 : decode cX9_init 15 = .ok (.putfield 15, 3) := by decide +kernel
theorem dX9_init_18 : decode cX9_init 18 = .ok (.return_, 1) := by decide +kernel
theorem dX9_takesTwenty_0 : decode cX9_takesTwenty 0 = .ok (.aload_n 0, 1) := by decide +kernel
theorem dX9_takesTwenty_1 : decode cX9_takesTwenty 1 = .ok (.getfield 19, 3) := by decide +kernel
theorem dX9_takesTwenty_4 : decode cX9_takesTwenty 4 = .ok (.bipush 20, 2) := by decide +kernel
theorem dX9_takesTwenty_6 : decode cX9_takesTwenty 6 = .ok (.iadd, 1) := by decide +kernel
theorem dX9_takesTwenty_7 : decode cX9_takesTwenty 7 = .ok (.sipush 600, 3) := by decide +kernel
theorem dX9_takesTwenty_10 : decode cX9_takesTwenty 10 = .ok (.if_icmp .gt 7, 3) := by decide +kernel
theorem dX9_takesTwenty_13 : decode cX9_takesTwenty 13 = .ok (.iconst 1, 1) := by decide +kernel
theorem dX9_takesTwenty_14 : decode cX9_takesTwenty 14 = .ok (.goto 4, 3) := by decide +kernel
theorem dX9_takesTwenty_17 : decode cX9_takesTwenty 17 = .ok (.iconst 0, 1) := by decide +kernel
theorem dX9_takesTwenty_18 : decode cX9_takesTwenty 18 = .ok (.ireturn, 1) := by decide +kernel
theorem dX9_takeNumber_0 : decode cX9_takeNumber 0 = .ok (.bipush 24, 2) := by decide +kernel
theorem dX9_takeNumber_2 : decode cX9_takeNumber 2 = .ok (.istore_n 2, 1) := by decide +kernel
theorem dX9_takeNumber_3 : decode cX9_takeNumber 3 = .ok (.iload_n 2, 1) := by decide +kernel
theorem dX9_takeNumber_4 : decode cX9_takeNumber 4 = .ok (.ifCond .lt 37, 3) := by decide +kernel
theorem dX9_takeNumber_7 : decode cX9_takeNumber 7 = .ok (.aload_n 0, 1) := by decide +kernel
theorem dX9_takeNumber_8 : decode cX9_takeNumber 8 = .ok (.getfield 9, 3) := by decide +kernel
theorem dX9_takeNumber_11 : decode cX9_takeNumber 11 = .ok (.aload_n 0, 1) := by decide +kernel
theorem dX9_takeNumber_12 : decode cX9_takeNumber 12 = .ok (.getfield 19, 3) := by decide +kernel
theorem dX9_takeNumber_15 : decode cX9_takeNumber 15 = .ok (.iload_n 1, 1) := by decide +kernel
theorem dX9_takeNumber_16 : decode cX9_takeNumber 16 = .ok (.iload_n 2, 1) := by decide +kernel
theorem dX9_takeNumber_17 : decode cX9_takeNumber 17 = .ok (.iushr, 1) := by decide +kernel
theorem dX9_takeNumber_18 : decode cX9_takeNumber 18 = .ok (.sipush 255, 3) := by decide +kernel
theorem dX9_takeNumber_21 : decode cX9_takeNumber 21 = .ok (.iand, 1) := by decide +kernel
theorem dX9_takeNumber_22 : decode cX9_takeNumber 22 = .ok (.invokestatic 22, 3) := by decide +kernel
theorem dX9_takeNumber_25 : decode cX9_takeNumber 25 = .ok (.aload_n 0, 1) := by decide +kernel
theorem dX9_takeNumber_26 : decode cX9_takeNumber 26 = .ok (.dup, 1) := by decide +kernel
theorem dX9_takeNumber_27 : decode cX9_takeNumber 27 = .ok (.getfield 19, 3) := by decide +kernel
theorem dX9_takeNumber_30 : decode cX9_takeNumber 30 = .ok (.iconst 1, 1) := by decide +kernel
theorem dX9_takeNumber_31 : decode cX9_takeNumber 31 = .ok (.iadd, 1) := by decide +kernel
theorem dX9_takeNumber_32 : decode cX9_takeNumber 32 = .ok (.putfield 19, 3) := by decide +kernel
theorem dX9_takeNumber_35 : decode cX9_takeNumber 35 = .ok (.iinc 2 (-8), 3) := by decide +kernel
theorem dX9_takeNumber_38 : decode cX9_takeNumber 38 = .ok (.goto (-35), 3) := by decide +kernel
theorem dX9_takeNumber_41 : decode cX9_takeNumber 41 = .ok (.return_, 1) := by decide +kernel
theorem dX9_begin_0 : decode cX9_begin 0 = .ok (.aload_n 0, 1) := by decide +kernel
theorem dX9_begin_1 : decode cX9_begin 1 = .ok (.iload_n 1, 1) := by decide +kernel
theorem dX9_begin_2 : decode cX9_begin 2 = .ok (.putfield 28, 3) := by decide +kernel
theorem dX9_begin_5 : decode cX9_begin 5 = .ok (.aload_n 0, 1) := by decide +kernel
theorem dX9_begin_6 : decode cX9_begin 6 = .ok (.iconst 0, 1) := by decide +kernel
theorem dX9_begin_7 : decode cX9_begin 7 = .ok (.putfield 19, 3) := by decide +kernel
theorem dX9_begin_10 : decode cX9_begin 10 = .ok (.aload_n 0, 1) := by decide +kernel
theorem dX9_begin_11 : decode cX9_begin 11 = .ok (.iconst 0, 1) := by decide +kernel
theorem dX9_begin_12 : decode cX9_begin 12 = .ok (.putfield 31, 3) := by decide +kernel
theorem dX9_begin_15 : decode cX9_begin 15 = .ok (.aload_n 0, 1) := by decide +kernel
theorem dX9_begin_16 : decode cX9_begin 16 = .ok (.iconst 0, 1) := by decide +kernel
theorem dX9_begin_17 : decode cX9_begin 17 = .ok (.putfield 34, 3) := by decide +kernel
theorem dX9_begin_20 : decode cX9_begin 20 = .ok (.aload_n 0, 1) := by decide +kernel
theorem dX9_begin_21 : decode cX9_begin 21 = .ok (.iconst (-1), 1) := by decide +kernel
theorem dX9_begin_22 : decode cX9_begin 22 = .ok (.putfield 15, 3) := by decide +kernel
theorem dX9_begin_25 : decode cX9_begin 25 = .ok (.return_, 1) := by decide +kernel
theorem dX9_isSound_0 : decode cX9_isSound 0 = .ok (.aload_n 0, 1) := by decide +kernel
theorem dX9_isSound_1 : decode cX9_isSound 1 = .ok (.getfield 34, 3) := by decide +kernel
theorem dX9_isSound_4 : decode cX9_isSound 4 = .ok (.ifCond .ne 7, 3) := by decide +kernel
theorem dX9_isSound_7 : decode cX9_isSound 7 = .ok (.iconst 1, 1) := by decide +kernel
theorem dX9_isSound_8 : decode cX9_isSound 8 = .ok (.goto 4, 3) := by decide +kernel
theorem dX9_isSound_11 : decode cX9_isSound 11 = .ok (.iconst 0, 1) := by decide +kernel
theorem dX9_isSound_12 : decode cX9_isSound 12 = .ok (.ireturn, 1) := by decide +kernel
theorem dX9_faultLessTen_0 : decode cX9_faultLessTen 0 = .ok (.aload_n 0, 1) := by decide +kernel
theorem dX9_faultLessTen_1 : decode cX9_faultLessTen 1 = .ok (.getfield 34, 3) := by decide +kernel
theorem dX9_faultLessTen_4 : decode cX9_faultLessTen 4 = .ok (.bipush 10, 2) := by decide +kernel
theorem dX9_faultLessTen_6 : decode cX9_faultLessTen 6 = .ok (.isub, 1) := by decide +kernel
theorem dX9_faultLessTen_7 : decode cX9_faultLessTen 7 = .ok (.ireturn, 1) := by decide +kernel
theorem dX9_blame_0 : decode cX9_blame 0 = .ok (.aload_n 0, 1) := by decide +kernel
theorem dX9_blame_1 : decode cX9_blame 1 = .ok (.getfield 34, 3) := by decide +kernel
theorem dX9_blame_4 : decode cX9_blame 4 = .ok (.ifCond .ne 13, 3) := by decide +kernel
theorem dX9_blame_7 : decode cX9_blame 7 = .ok (.aload_n 0, 1) := by decide +kernel
theorem dX9_blame_8 : decode cX9_blame 8 = .ok (.iload_n 1, 1) := by decide +kernel
theorem dX9_blame_9 : decode cX9_blame 9 = .ok (.putfield 34, 3) := by decide +kernel
theorem dX9_blame_12 : decode cX9_blame 12 = .ok (.aload_n 0, 1) := by decide +kernel
theorem dX9_blame_13 : decode cX9_blame 13 = .ok (.iload_n 2, 1) := by decide +kernel
theorem dX9_blame_14 : decode cX9_blame 14 = .ok (.putfield 15, 3) := by decide +kernel
theorem dX9_blame_17 : decode cX9_blame 17 = .ok (.return_, 1) := by decide +kernel
theorem dX9_nextByte_0 : decode cX9_nextByte 0 = .ok (.aload_n 0, 1) := by decide +kernel
theorem dX9_nextByte_1 : decode cX9_nextByte 1 = .ok (.getfield 31, 3) := by decide +kernel
theorem dX9_nextByte_4 : decode cX9_nextByte 4 = .ok (.aload_n 0, 1) := by decide +kernel
theorem dX9_nextByte_5 : decode cX9_nextByte 5 = .ok (.getfield 28, 3) := by decide +kernel
theorem dX9_nextByte_8 : decode cX9_nextByte 8 = .ok (.if_icmp .ge 32, 3) := by decide +kernel
theorem dX9_nextByte_11 : decode cX9_nextByte 11 = .ok (.aload_n 0, 1) := by decide +kernel
theorem dX9_nextByte_12 : decode cX9_nextByte 12 = .ok (.getfield 9, 3) := by decide +kernel
theorem dX9_nextByte_15 : decode cX9_nextByte 15 = .ok (.aload_n 0, 1) := by decide +kernel
theorem dX9_nextByte_16 : decode cX9_nextByte 16 = .ok (.getfield 31, 3) := by decide +kernel
theorem dX9_nextByte_19 : decode cX9_nextByte 19 = .ok (.invokestatic 37, 3) := by decide +kernel
theorem dX9_nextByte_22 : decode cX9_nextByte 22 = .ok (.bipush 32, 2) := by decide +kernel
theorem dX9_nextByte_24 : decode cX9_nextByte 24 = .ok (.if_icmp .ne 16, 3) := by decide +kernel
theorem dX9_nextByte_27 : decode cX9_nextByte 27 = .ok (.aload_n 0, 1) := by decide +kernel
theorem dX9_nextByte_28 : decode cX9_nextByte 28 = .ok (.dup, 1) := by decide +kernel
theorem dX9_nextByte_29 : decode cX9_nextByte 29 = .ok (.getfield 31, 3) := by decide +kernel
theorem dX9_nextByte_32 : decode cX9_nextByte 32 = .ok (.iconst 1, 1) := by decide +kernel
theorem dX9_nextByte_33 : decode cX9_nextByte 33 = .ok (.iadd, 1) := by decide +kernel
theorem dX9_nextByte_34 : decode cX9_nextByte 34 = .ok (.putfield 31, 3) := by decide +kernel
theorem dX9_nextByte_37 : decode cX9_nextByte 37 = .ok (.goto (-37), 3) := by decide +kernel
theorem dX9_nextByte_40 : decode cX9_nextByte 40 = .ok (.aload_n 0, 1) := by decide +kernel
theorem dX9_nextByte_41 : decode cX9_nextByte 41 = .ok (.getfield 31, 3) := by decide +kernel
theorem dX9_nextByte_44 : decode cX9_nextByte 44 = .ok (.aload_n 0, 1) := by decide +kernel
theorem dX9_nextByte_45 : decode cX9_nextByte 45 = .ok (.getfield 28, 3) := by decide +kernel
theorem dX9_nextByte_48 : decode cX9_nextByte 48 = .ok (.if_icmp .ge 17, 3) := by decide +kernel
theorem dX9_nextByte_51 : decode cX9_nextByte 51 = .ok (.aload_n 0, 1) := by decide +kernel
theorem dX9_nextByte_52 : decode cX9_nextByte 52 = .ok (.getfield 9, 3) := by decide +kernel
theorem dX9_nextByte_55 : decode cX9_nextByte 55 = .ok (.aload_n 0, 1) := by decide +kernel
theorem dX9_nextByte_56 : decode cX9_nextByte 56 = .ok (.getfield 31, 3) := by decide +kernel
theorem dX9_nextByte_59 : decode cX9_nextByte 59 = .ok (.invokestatic 37, 3) := by decide +kernel
theorem dX9_nextByte_62 : decode cX9_nextByte 62 = .ok (.goto 4, 3) := by decide +kernel
theorem dX9_nextByte_65 : decode cX9_nextByte 65 = .ok (.iconst (-1), 1) := by decide +kernel
theorem dX9_nextByte_66 : decode cX9_nextByte 66 = .ok (.ireturn, 1) := by decide +kernel
theorem dX9_hasMore_0 : decode cX9_hasMore 0 = .ok (.aload_n 0, 1) := by decide +kernel
theorem dX9_hasMore_1 : decode cX9_hasMore 1 = .ok (.getfield 34, 3) := by decide +kernel
theorem dX9_hasMore_4 : decode cX9_hasMore 4 = .ok (.ifCond .ne 15, 3) := by decide +kernel
theorem dX9_hasMore_7 : decode cX9_hasMore 7 = .ok (.aload_n 0, 1) := by decide +kernel
theorem dX9_hasMore_8 : decode cX9_hasMore 8 = .ok (.invokevirtual 41, 3) := by decide +kernel
theorem dX9_hasMore_11 : decode cX9_hasMore 11 = .ok (.iconst (-1), 1) := by decide +kernel
theorem dX9_hasMore_12 : decode cX9_hasMore 12 = .ok (.if_icmp .eq 7, 3) := by decide +kernel
theorem dX9_hasMore_15 : decode cX9_hasMore 15 = .ok (.iconst 1, 1) := by decide +kernel
theorem dX9_hasMore_16 : decode cX9_hasMore 16 = .ok (.goto 4, 3) := by decide +kernel
theorem dX9_hasMore_19 : decode cX9_hasMore 19 = .ok (.iconst 0, 1) := by decide +kernel
theorem dX9_hasMore_20 : decode cX9_hasMore 20 = .ok (.ireturn, 1) := by decide +kernel
theorem dX9_pass_0 : decode cX9_pass 0 = .ok (.aload_n 0, 1) := by decide +kernel
theorem dX9_pass_1 : decode cX9_pass 1 = .ok (.dup, 1) := by decide +kernel
theorem dX9_pass_2 : decode cX9_pass 2 = .ok (.getfield 31, 3) := by decide +kernel
theorem dX9_pass_5 : decode cX9_pass 5 = .ok (.iconst 1, 1) := by decide +kernel
theorem dX9_pass_6 : decode cX9_pass 6 = .ok (.iadd, 1) := by decide +kernel
theorem dX9_pass_7 : decode cX9_pass 7 = .ok (.putfield 31, 3) := by decide +kernel
theorem dX9_pass_10 : decode cX9_pass 10 = .ok (.return_, 1) := by decide +kernel
theorem dX9_expect_0 : decode cX9_expect 0 = .ok (.aload_n 0, 1) := by decide +kernel
theorem dX9_expect_1 : decode cX9_expect 1 = .ok (.getfield 34, 3) := by decide +kernel
theorem dX9_expect_4 : decode cX9_expect 4 = .ok (.ifCond .eq 4, 3) := by decide +kernel
theorem dX9_expect_7 : decode cX9_expect 7 = .ok (.return_, 1) := by decide +kernel
theorem dX9_expect_8 : decode cX9_expect 8 = .ok (.aload_n 0, 1) := by decide +kernel
theorem dX9_expect_9 : decode cX9_expect 9 = .ok (.invokevirtual 41, 3) := by decide +kernel
theorem dX9_expect_12 : decode cX9_expect 12 = .ok (.iload_n 1, 1) := by decide +kernel
theorem dX9_expect_13 : decode cX9_expect 13 = .ok (.if_icmp .ne 16, 3) := by decide +kernel
theorem dX9_expect_16 : decode cX9_expect 16 = .ok (.aload_n 0, 1) := by decide +kernel
theorem dX9_expect_17 : decode cX9_expect 17 = .ok (.dup, 1) := by decide +kernel
theorem dX9_expect_18 : decode cX9_expect 18 = .ok (.getfield 31, 3) := by decide +kernel
theorem dX9_expect_21 : decode cX9_expect 21 = .ok (.iconst 1, 1) := by decide +kernel
theorem dX9_expect_22 : decode cX9_expect 22 = .ok (.iadd, 1) := by decide +kernel
theorem dX9_expect_23 : decode cX9_expect 23 = .ok (.putfield 31, 3) := by decide +kernel
theorem dX9_expect_26 : decode cX9_expect 26 = .ok (.goto 12, 3) := by decide +kernel
theorem dX9_expect_29 : decode cX9_expect 29 = .ok (.aload_n 0, 1) := by decide +kernel
theorem dX9_expect_30 : decode cX9_expect 30 = .ok (.iconst 1, 1) := by decide +kernel
theorem dX9_expect_31 : decode cX9_expect 31 = .ok (.aload_n 0, 1) := by decide +kernel
theorem dX9_expect_32 : decode cX9_expect 32 = .ok (.getfield 31, 3) := by decide +kernel
theorem dX9_expect_35 : decode cX9_expect 35 = .ok (.invokevirtual 45, 3) := by decide +kernel
theorem dX9_expect_38 : decode cX9_expect 38 = .ok (.return_, 1) := by decide +kernel
theorem dX9_isDigit_0 : decode cX9_isDigit 0 = .ok (.iload_n 0, 1) := by decide +kernel
theorem dX9_isDigit_1 : decode cX9_isDigit 1 = .ok (.bipush 48, 2) := by decide +kernel
theorem dX9_isDigit_3 : decode cX9_isDigit 3 = .ok (.if_icmp .lt 13, 3) := by decide +kernel
theorem dX9_isDigit_6 : decode cX9_isDigit 6 = .ok (.iload_n 0, 1) := by decide +kernel
theorem dX9_isDigit_7 : decode cX9_isDigit 7 = .ok (.bipush 57, 2) := by decide +kernel
theorem dX9_isDigit_9 : decode cX9_isDigit 9 = .ok (.if_icmp .gt 7, 3) := by decide +kernel
theorem dX9_isDigit_12 : decode cX9_isDigit 12 = .ok (.iconst 1, 1) := by decide +kernel
theorem dX9_isDigit_13 : decode cX9_isDigit 13 = .ok (.goto 4, 3) := by decide +kernel
theorem dX9_isDigit_16 : decode cX9_isDigit 16 = .ok (.iconst 0, 1) := by decide +kernel
theorem dX9_isDigit_17 : decode cX9_isDigit 17 = .ok (.ireturn, 1) := by decide +kernel
theorem dX9_isLetter_0 : decode cX9_isLetter 0 = .ok (.iload_n 0, 1) := by decide +kernel
theorem dX9_isLetter_1 : decode cX9_isLetter 1 = .ok (.bipush 97, 2) := by decide +kernel
theorem dX9_isLetter_3 : decode cX9_isLetter 3 = .ok (.if_icmp .lt 13, 3) := by decide +kernel
theorem dX9_isLetter_6 : decode cX9_isLetter 6 = .ok (.iload_n 0, 1) := by decide +kernel
theorem dX9_isLetter_7 : decode cX9_isLetter 7 = .ok (.bipush 122, 2) := by decide +kernel
theorem dX9_isLetter_9 : decode cX9_isLetter 9 = .ok (.if_icmp .gt 7, 3) := by decide +kernel
theorem dX9_isLetter_12 : decode cX9_isLetter 12 = .ok (.iconst 1, 1) := by decide +kernel
theorem dX9_isLetter_13 : decode cX9_isLetter 13 = .ok (.goto 4, 3) := by decide +kernel
theorem dX9_isLetter_16 : decode cX9_isLetter 16 = .ok (.iconst 0, 1) := by decide +kernel
theorem dX9_isLetter_17 : decode cX9_isLetter 17 = .ok (.ireturn, 1) := by decide +kernel
theorem dX9_number_0 : decode cX9_number 0 = .ok (.aload_n 0, 1) := by decide +kernel
theorem dX9_number_1 : decode cX9_number 1 = .ok (.getfield 34, 3) := by decide +kernel
theorem dX9_number_4 : decode cX9_number 4 = .ok (.ifCond .eq 5, 3) := by decide +kernel
theorem dX9_number_7 : decode cX9_number 7 = .ok (.iconst (-1), 1) := by decide +kernel
theorem dX9_number_8 : decode cX9_number 8 = .ok (.ireturn, 1) := by decide +kernel
theorem dX9_number_9 : decode cX9_number 9 = .ok (.aload_n 0, 1) := by decide +kernel
theorem dX9_number_10 : decode cX9_number 10 = .ok (.invokevirtual 41, 3) := by decide +kernel
theorem dX9_number_13 : decode cX9_number 13 = .ok (.invokestatic 49, 3) := by decide +kernel
theorem dX9_number_16 : decode cX9_number 16 = .ok (.ifCond .ne 14, 3) := by decide +kernel
theorem dX9_number_19 : decode cX9_number 19 = .ok (.aload_n 0, 1) := by decide +kernel
theorem dX9_number_20 : decode cX9_number 20 = .ok (.iconst 1, 1) := by decide +kernel
theorem dX9_number_21 : decode cX9_number 21 = .ok (.aload_n 0, 1) := by decide +kernel
theorem dX9_number_22 : decode cX9_number 22 = .ok (.getfield 31, 3) := by decide +kernel
theorem dX9_number_25 : decode cX9_number 25 = .ok (.invokevirtual 45, 3) := by decide +kernel
theorem dX9_number_28 : decode cX9_number 28 = .ok (.iconst (-1), 1) := by decide +kernel
theorem dX9_number_29 : decode cX9_number 29 = .ok (.ireturn, 1) := by decide +kernel
theorem dX9_number_30 : decode cX9_number 30 = .ok (.aload_n 0, 1) := by decide +kernel
theorem dX9_number_31 : decode cX9_number 31 = .ok (.aload_n 0, 1) := by decide +kernel
theorem dX9_number_32 : decode cX9_number 32 = .ok (.getfield 31, 3) := by decide +kernel
theorem dX9_number_35 : decode cX9_number 35 = .ok (.putfield 53, 3) := by decide +kernel
theorem dX9_number_38 : decode cX9_number 38 = .ok (.iconst 0, 1) := by decide +kernel
theorem dX9_number_39 : decode cX9_number 39 = .ok (.istore_n 3, 1) := by decide +kernel
theorem dX9_number_40 : decode cX9_number 40 = .ok (.aload_n 0, 1) := by decide +kernel
theorem dX9_number_41 : decode cX9_number 41 = .ok (.getfield 31, 3) := by decide +kernel
theorem dX9_number_44 : decode cX9_number 44 = .ok (.aload_n 0, 1) := by decide +kernel
theorem dX9_number_45 : decode cX9_number 45 = .ok (.getfield 28, 3) := by decide +kernel
theorem dX9_number_48 : decode cX9_number 48 = .ok (.if_icmp .ge 59, 3) := by decide +kernel
theorem dX9_number_51 : decode cX9_number 51 = .ok (.aload_n 0, 1) := by decide +kernel
theorem dX9_number_52 : decode cX9_number 52 = .ok (.getfield 9, 3) := by decide +kernel
theorem dX9_number_55 : decode cX9_number 55 = .ok (.aload_n 0, 1) := by decide +kernel
theorem dX9_number_56 : decode cX9_number 56 = .ok (.getfield 31, 3) := by decide +kernel
theorem dX9_number_59 : decode cX9_number 59 = .ok (.invokestatic 37, 3) := by decide +kernel
theorem dX9_number_62 : decode cX9_number 62 = .ok (.invokestatic 49, 3) := by decide +kernel
theorem dX9_number_65 : decode cX9_number 65 = .ok (.ifCond .eq 42, 3) := by decide +kernel
theorem dX9_number_68 : decode cX9_number 68 = .ok (.sipush 10000, 3) := by decide +kernel
theorem dX9_number_71 : decode cX9_number 71 = .ok (.iload_n 3, 1) := by decide +kernel
theorem dX9_number_72 : decode cX9_number 72 = .ok (.bipush 10, 2) := by decide +kernel
theorem dX9_number_74 : decode cX9_number 74 = .ok (.imul, 1) := by decide +kernel
theorem dX9_number_75 : decode cX9_number 75 = .ok (.aload_n 0, 1) := by decide +kernel
theorem dX9_number_76 : decode cX9_number 76 = .ok (.getfield 9, 3) := by decide +kernel
theorem dX9_number_79 : decode cX9_number 79 = .ok (.aload_n 0, 1) := by decide +kernel
theorem dX9_number_80 : decode cX9_number 80 = .ok (.getfield 31, 3) := by decide +kernel
theorem dX9_number_83 : decode cX9_number 83 = .ok (.invokestatic 37, 3) := by decide +kernel
theorem dX9_number_86 : decode cX9_number 86 = .ok (.iadd, 1) := by decide +kernel
theorem dX9_number_87 : decode cX9_number 87 = .ok (.bipush 48, 2) := by decide +kernel
theorem dX9_number_89 : decode cX9_number 89 = .ok (.isub, 1) := by decide +kernel
theorem dX9_number_90 : decode cX9_number 90 = .ok (.invokestatic 56, 3) := by decide +kernel
theorem dX9_number_93 : decode cX9_number 93 = .ok (.istore_n 3, 1) := by decide +kernel
theorem dX9_number_94 : decode cX9_number 94 = .ok (.aload_n 0, 1) := by decide +kernel
theorem dX9_number_95 : decode cX9_number 95 = .ok (.dup, 1) := by decide +kernel
theorem dX9_number_96 : decode cX9_number 96 = .ok (.getfield 31, 3) := by decide +kernel
theorem dX9_number_99 : decode cX9_number 99 = .ok (.iconst 1, 1) := by decide +kernel
theorem dX9_number_100 : decode cX9_number 100 = .ok (.iadd, 1) := by decide +kernel
theorem dX9_number_101 : decode cX9_number 101 = .ok (.putfield 31, 3) := by decide +kernel
theorem dX9_number_104 : decode cX9_number 104 = .ok (.goto (-64), 3) := by decide +kernel
theorem dX9_number_107 : decode cX9_number 107 = .ok (.iload_n 3, 1) := by decide +kernel
theorem dX9_number_108 : decode cX9_number 108 = .ok (.iload_n 1, 1) := by decide +kernel
theorem dX9_number_109 : decode cX9_number 109 = .ok (.if_icmp .lt 8, 3) := by decide +kernel
theorem dX9_number_112 : decode cX9_number 112 = .ok (.iload_n 3, 1) := by decide +kernel
theorem dX9_number_113 : decode cX9_number 113 = .ok (.iload_n 2, 1) := by decide +kernel
theorem dX9_number_114 : decode cX9_number 114 = .ok (.if_icmp .le 14, 3) := by decide +kernel
theorem dX9_number_117 : decode cX9_number 117 = .ok (.aload_n 0, 1) := by decide +kernel
theorem dX9_number_118 : decode cX9_number 118 = .ok (.iconst 2, 1) := by decide +kernel
theorem dX9_number_119 : decode cX9_number 119 = .ok (.aload_n 0, 1) := by decide +kernel
theorem dX9_number_120 : decode cX9_number 120 = .ok (.getfield 53, 3) := by decide +kernel
theorem dX9_number_123 : decode cX9_number 123 = .ok (.invokevirtual 45, 3) := by decide +kernel
theorem dX9_number_126 : decode cX9_number 126 = .ok (.iconst (-1), 1) := by decide +kernel
theorem dX9_number_127 : decode cX9_number 127 = .ok (.ireturn, 1) := by decide +kernel
theorem dX9_number_128 : decode cX9_number 128 = .ok (.iload_n 3, 1) := by decide +kernel
theorem dX9_number_129 : decode cX9_number 129 = .ok (.ireturn, 1) := by decide +kernel
theorem dX9_word_0 : decode cX9_word 0 = .ok (.aload_n 0, 1) := by decide +kernel
theorem dX9_word_1 : decode cX9_word 1 = .ok (.getfield 34, 3) := by decide +kernel
theorem dX9_word_4 : decode cX9_word 4 = .ok (.ifCond .eq 4, 3) := by decide +kernel
theorem dX9_word_7 : decode cX9_word 7 = .ok (.return_, 1) := by decide +kernel
theorem dX9_word_8 : decode cX9_word 8 = .ok (.aload_n 0, 1) := by decide +kernel
theorem dX9_word_9 : decode cX9_word 9 = .ok (.invokevirtual 41, 3) := by decide +kernel
theorem dX9_word_12 : decode cX9_word 12 = .ok (.pop, 1) := by decide +kernel
theorem dX9_word_13 : decode cX9_word 13 = .ok (.aload_n 0, 1) := by decide +kernel
theorem dX9_word_14 : decode cX9_word 14 = .ok (.aload_n 0, 1) := by decide +kernel
theorem dX9_word_15 : decode cX9_word 15 = .ok (.getfield 31, 3) := by decide +kernel
theorem dX9_word_18 : decode cX9_word 18 = .ok (.putfield 62, 3) := by decide +kernel
theorem dX9_word_21 : decode cX9_word 21 = .ok (.aload_n 0, 1) := by decide +kernel
theorem dX9_word_22 : decode cX9_word 22 = .ok (.getfield 31, 3) := by decide +kernel
theorem dX9_word_25 : decode cX9_word 25 = .ok (.aload_n 0, 1) := by decide +kernel
theorem dX9_word_26 : decode cX9_word 26 = .ok (.getfield 28, 3) := by decide +kernel
theorem dX9_word_29 : decode cX9_word 29 = .ok (.if_icmp .ge 33, 3) := by decide +kernel
theorem dX9_word_32 : decode cX9_word 32 = .ok (.aload_n 0, 1) := by decide +kernel
theorem dX9_word_33 : decode cX9_word 33 = .ok (.getfield 9, 3) := by decide +kernel
theorem dX9_word_36 : decode cX9_word 36 = .ok (.aload_n 0, 1) := by decide +kernel
theorem dX9_word_37 : decode cX9_word 37 = .ok (.getfield 31, 3) := by decide +kernel
theorem dX9_word_40 : decode cX9_word 40 = .ok (.invokestatic 37, 3) := by decide +kernel
theorem dX9_word_43 : decode cX9_word 43 = .ok (.invokestatic 65, 3) := by decide +kernel
theorem dX9_word_46 : decode cX9_word 46 = .ok (.ifCond .eq 16, 3) := by decide +kernel
theorem dX9_word_49 : decode cX9_word 49 = .ok (.aload_n 0, 1) := by decide +kernel
theorem dX9_word_50 : decode cX9_word 50 = .ok (.dup, 1) := by decide +kernel
theorem dX9_word_51 : decode cX9_word 51 = .ok (.getfield 31, 3) := by decide +kernel
theorem dX9_word_54 : decode cX9_word 54 = .ok (.iconst 1, 1) := by decide +kernel
theorem dX9_word_55 : decode cX9_word 55 = .ok (.iadd, 1) := by decide +kernel
theorem dX9_word_56 : decode cX9_word 56 = .ok (.putfield 31, 3) := by decide +kernel
theorem dX9_word_59 : decode cX9_word 59 = .ok (.goto (-38), 3) := by decide +kernel
theorem dX9_word_62 : decode cX9_word 62 = .ok (.return_, 1) := by decide +kernel
theorem dX9_isWord_0 : decode cX9_isWord 0 = .ok (.aload_n 0, 1) := by decide +kernel
theorem dX9_isWord_1 : decode cX9_isWord 1 = .ok (.getfield 34, 3) := by decide +kernel
theorem dX9_isWord_4 : decode cX9_isWord 4 = .ok (.ifCond .ne 19, 3) := by decide +kernel
theorem dX9_isWord_7 : decode cX9_isWord 7 = .ok (.aload_n 0, 1) := by decide +kernel
theorem dX9_isWord_8 : decode cX9_isWord 8 = .ok (.getfield 31, 3) := by decide +kernel
theorem dX9_isWord_11 : decode cX9_isWord 11 = .ok (.aload_n 0, 1) := by decide +kernel
theorem dX9_isWord_12 : decode cX9_isWord 12 = .ok (.getfield 62, 3) := by decide +kernel
theorem dX9_isWord_15 : decode cX9_isWord 15 = .ok (.isub, 1) := by decide +kernel
theorem dX9_isWord_16 : decode cX9_isWord 16 = .ok (.aload_n 1, 1) := by decide +kernel
theorem dX9_isWord_17 : decode cX9_isWord 17 = .ok (.invokevirtual 68, 3) := by decide +kernel
theorem dX9_isWord_20 : decode cX9_isWord 20 = .ok (.if_icmp .eq 5, 3) := by decide +kernel
theorem dX9_isWord_23 : decode cX9_isWord 23 = .ok (.iconst 0, 1) := by decide +kernel
theorem dX9_isWord_24 : decode cX9_isWord 24 = .ok (.ireturn, 1) := by decide +kernel
theorem dX9_isWord_25 : decode cX9_isWord 25 = .ok (.iconst 0, 1) := by decide +kernel
theorem dX9_isWord_26 : decode cX9_isWord 26 = .ok (.istore_n 2, 1) := by decide +kernel
theorem dX9_isWord_27 : decode cX9_isWord 27 = .ok (.iload_n 2, 1) := by decide +kernel
theorem dX9_isWord_28 : decode cX9_isWord 28 = .ok (.aload_n 1, 1) := by decide +kernel
theorem dX9_isWord_29 : decode cX9_isWord 29 = .ok (.invokevirtual 68, 3) := by decide +kernel
theorem dX9_isWord_32 : decode cX9_isWord 32 = .ok (.if_icmp .ge 32, 3) := by decide +kernel
theorem dX9_isWord_35 : decode cX9_isWord 35 = .ok (.aload_n 0, 1) := by decide +kernel
theorem dX9_isWord_36 : decode cX9_isWord 36 = .ok (.getfield 9, 3) := by decide +kernel
theorem dX9_isWord_39 : decode cX9_isWord 39 = .ok (.aload_n 0, 1) := by decide +kernel
theorem dX9_isWord_40 : decode cX9_isWord 40 = .ok (.getfield 62, 3) := by decide +kernel
theorem dX9_isWord_43 : decode cX9_isWord 43 = .ok (.iload_n 2, 1) := by decide +kernel
theorem dX9_isWord_44 : decode cX9_isWord 44 = .ok (.iadd, 1) := by decide +kernel
theorem dX9_isWord_45 : decode cX9_isWord 45 = .ok (.invokestatic 37, 3) := by decide +kernel
theorem dX9_isWord_48 : decode cX9_isWord 48 = .ok (.aload_n 1, 1) := by decide +kernel
theorem dX9_isWord_49 : decode cX9_isWord 49 = .ok (.iload_n 2, 1) := by decide +kernel
theorem dX9_isWord_50 : decode cX9_isWord 50 = .ok (.invokevirtual 73, 3) := by decide +kernel
theorem dX9_isWord_53 : decode cX9_isWord 53 = .ok (.if_icmp .eq 5, 3) := by decide +kernel
theorem dX9_isWord_56 : decode cX9_isWord 56 = .ok (.iconst 0, 1) := by decide +kernel
theorem dX9_isWord_57 : decode cX9_isWord 57 = .ok (.ireturn, 1) := by decide +kernel
theorem dX9_isWord_58 : decode cX9_isWord 58 = .ok (.iinc 2 1, 3) := by decide +kernel
theorem dX9_isWord_61 : decode cX9_isWord 61 = .ok (.goto (-34), 3) := by decide +kernel
theorem dX9_isWord_64 : decode cX9_isWord 64 = .ok (.iconst 1, 1) := by decide +kernel
theorem dX9_isWord_65 : decode cX9_isWord 65 = .ok (.ireturn, 1) := by decide +kernel
theorem dX10_init_0 : decode cX10_init 0 = .ok (.aload_n 0, 1) := by decide +kernel
theorem dX10_init_1 : decode cX10_init 1 = .ok (.invokespecial 3, 3) := by decide +kernel
theorem dX10_init_4 : decode cX10_init 4 = .ok (.aload_n 0, 1) := by decide +kernel
theorem dX10_init_5 : decode cX10_init 5 = .ok (.bipush 8, 2) := by decide +kernel
theorem dX10_init_7 : decode cX10_init 7 = .ok (.newarray .int, 2) := by decide +kernel
theorem dX10_init_9 : decode cX10_init 9 = .ok (.putfield 9, 3) := by decide +kernel
theorem dX10_init_12 : decode cX10_init 12 = .ok (.aload_n 0, 1) := by decide +kernel
theorem dX10_init_13 : decode cX10_init 13 = .ok (.bipush 64, 2) := by decide +kernel
theorem dX10_init_15 : decode cX10_init 15 = .ok (.newarray .int, 2) := by decide +kernel
theorem dX10_init_17 : decode cX10_init 17 = .ok (.putfield 15, 3) := by decide +kernel
theorem dX10_init_20 : decode cX10_init 20 = .ok (.aload_n 0, 1) := by decide +kernel
theorem dX10_init_21 : decode cX10_init 21 = .ok (.bipush 8, 2) := by decide +kernel
theorem dX10_init_23 : decode cX10_init 23 = .ok (.newarray .int, 2) := by decide +kernel
theorem dX10_init_25 : decode cX10_init 25 = .ok (.putfield 18, 3) := by decide +kernel
theorem dX10_init_28 : decode cX10_init 28 = .ok (.aload_n 0, 1) := by decide +kernel
theorem dX10_init_29 : decode cX10_init 29 = .ok (.bipush 8, 2) := by decide +kernel
theorem dX10_init_31 : decode cX10_init 31 = .ok (.newarray .int, 2) := by decide +kernel
theorem dX10_init_33 : decode cX10_init 33 = .ok (.putfield 21, 3) := by decide +kernel
theorem dX10_init_36 : decode cX10_init 36 = .ok (.aload_n 0, 1) := by decide +kernel
theorem dX10_init_37 : decode cX10_init 37 = .ok (.bipush 8, 2) := by decide +kernel
theorem dX10_init_39 : decode cX10_init 39 = .ok (.newarray .int, 2) := by decide +kernel
theorem dX10_init_41 : decode cX10_init 41 = .ok (.putfield 24, 3) := by decide +kernel
theorem dX10_init_44 : decode cX10_init 44 = .ok (.return_, 1) := by decide +kernel
theorem dX10_search_0 : decode cX10_search 0 = .ok (.aload_n 0, 1) := by decide +kernel
theorem dX10_search_1 : decode cX10_search 1 = .ok (.iconst 0, 1) := by decide +kernel
theorem dX10_search_2 : decode cX10_search 2 = .ok (.putfield 27, 3) := by decide +kernel
theorem dX10_search_5 : decode cX10_search 5 = .ok (.aload_n 0, 1) := by decide +kernel
theorem dX10_search_6 : decode cX10_search 6 = .ok (.iconst (-1), 1) := by decide +kernel
theorem dX10_search_7 : decode cX10_search 7 = .ok (.putfield 31, 3) := by decide +kernel
theorem dX10_search_10 : decode cX10_search 10 = .ok (.aload_n 0, 1) := by decide +kernel
theorem dX10_search_11 : decode cX10_search 11 = .ok (.iconst (-1), 1) := by decide +kernel
theorem dX10_search_12 : decode cX10_search 12 = .ok (.putfield 34, 3) := by decide +kernel
theorem dX10_search_15 : decode cX10_search 15 = .ok (.iconst 0, 1) := by decide +kernel
theorem dX10_search_16 : decode cX10_search 16 = .ok (.istore_n 3, 1) := by decide +kernel
theorem dX10_search_17 : decode cX10_search 17 = .ok (.iload_n 3, 1) := by decide +kernel
theorem dX10_search_18 : decode cX10_search 18 = .ok (.bipush 8, 2) := by decide +kernel
theorem dX10_search_20 : decode cX10_search 20 = .ok (.if_icmp .ge 71, 3) := by decide +kernel
theorem dX10_search_23 : decode cX10_search 23 = .ok (.aload_n 0, 1) := by decide +kernel
theorem dX10_search_24 : decode cX10_search 24 = .ok (.getfield 18, 3) := by decide +kernel
theorem dX10_search_27 : decode cX10_search 27 = .ok (.iload_n 3, 1) := by decide +kernel
theorem dX10_search_28 : decode cX10_search 28 = .ok (.aload_n 1, 1) := by decide +kernel
theorem dX10_search_29 : decode cX10_search 29 = .ok (.iload_n 3, 1) := by decide +kernel
theorem dX10_search_30 : decode cX10_search 30 = .ok (.invokevirtual 37, 3) := by decide +kernel
theorem dX10_search_33 : decode cX10_search 33 = .ok (.invokestatic 43, 3) := by decide +kernel
theorem dX10_search_36 : decode cX10_search 36 = .ok (.iload_n 2, 1) := by decide +kernel
theorem dX10_search_37 : decode cX10_search 37 = .ok (.iload_n 3, 1) := by decide +kernel
theorem dX10_search_38 : decode cX10_search 38 = .ok (.ishr, 1) := by decide +kernel
theorem dX10_search_39 : decode cX10_search 39 = .ok (.iconst 1, 1) := by decide +kernel
theorem dX10_search_40 : decode cX10_search 40 = .ok (.iand, 1) := by decide +kernel
theorem dX10_search_41 : decode cX10_search 41 = .ok (.iconst 1, 1) := by decide +kernel
theorem dX10_search_42 : decode cX10_search 42 = .ok (.if_icmp .ne 43, 3) := by decide +kernel
theorem dX10_search_45 : decode cX10_search 45 = .ok (.aload_n 1, 1) := by decide +kernel
theorem dX10_search_46 : decode cX10_search 46 = .ok (.iload_n 3, 1) := by decide +kernel
theorem dX10_search_47 : decode cX10_search 47 = .ok (.invokevirtual 49, 3) := by decide +kernel
theorem dX10_search_50 : decode cX10_search 50 = .ok (.ifCond .eq 35, 3) := by decide +kernel
theorem dX10_search_53 : decode cX10_search 53 = .ok (.aload_n 0, 1) := by decide +kernel
theorem dX10_search_54 : decode cX10_search 54 = .ok (.getfield 9, 3) := by decide +kernel
theorem dX10_search_57 : decode cX10_search 57 = .ok (.aload_n 0, 1) := by decide +kernel
theorem dX10_search_58 : decode cX10_search 58 = .ok (.getfield 27, 3) := by decide +kernel
theorem dX10_search_61 : decode cX10_search 61 = .ok (.iload_n 3, 1) := by decide +kernel
theorem dX10_search_62 : decode cX10_search 62 = .ok (.invokestatic 43, 3) := by decide +kernel
theorem dX10_search_65 : decode cX10_search 65 = .ok (.aload_n 0, 1) := by decide +kernel
theorem dX10_search_66 : decode cX10_search 66 = .ok (.aload_n 1, 1) := by decide +kernel
theorem dX10_search_67 : decode cX10_search 67 = .ok (.aload_n 0, 1) := by decide +kernel
theorem dX10_search_68 : decode cX10_search 68 = .ok (.getfield 27, 3) := by decide +kernel
theorem dX10_search_71 : decode cX10_search 71 = .ok (.iload_n 2, 1) := by decide +kernel
theorem dX10_search_72 : decode cX10_search 72 = .ok (.invokevirtual 53, 3) := by decide +kernel
theorem dX10_search_75 : decode cX10_search 75 = .ok (.aload_n 0, 1) := by decide +kernel
theorem dX10_search_76 : decode cX10_search 76 = .ok (.dup, 1) := by decide +kernel
theorem dX10_search_77 : decode cX10_search 77 = .ok (.getfield 27, 3) := by decide +kernel
theorem dX10_search_80 : decode cX10_search 80 = .ok (.iconst 1, 1) := by decide +kernel
theorem dX10_search_81 : decode cX10_search 81 = .ok (.iadd, 1) := by decide +kernel
theorem dX10_search_82 : decode cX10_search 82 = .ok (.putfield 27, 3) := by decide +kernel
theorem dX10_search_85 : decode cX10_search 85 = .ok (.iinc 3 1, 3) := by decide +kernel
theorem dX10_search_88 : decode cX10_search 88 = .ok (.goto (-71), 3) := by decide +kernel
theorem dX10_search_91 : decode cX10_search 91 = .ok (.aload_n 0, 1) := by decide +kernel
theorem dX10_search_92 : decode cX10_search 92 = .ok (.iconst 0, 1) := by decide +kernel
theorem dX10_search_93 : decode cX10_search 93 = .ok (.iconst 0, 1) := by decide +kernel
theorem dX10_search_94 : decode cX10_search 94 = .ok (.iconst 0, 1) := by decide +kernel
theorem dX10_search_95 : decode cX10_search 95 = .ok (.invokevirtual 57, 3) := by decide +kernel
theorem dX10_search_98 : decode cX10_search 98 = .ok (.return_, 1) := by decide +kernel
theorem dX10_takeOffers_0 : decode cX10_takeOffers 0 = .ok (.aload_n 0, 1) := by decide +kernel
theorem dX10_takeOffers_1 : decode cX10_takeOffers 1 = .ok (.getfield 9, 3) := by decide +kernel
theorem dX10_takeOffers_4 : decode cX10_takeOffers 4 = .ok (.iload_n 2, 1) := by decide +kernel
theorem dX10_takeOffers_5 : decode cX10_takeOffers 5 = .ok (.invokestatic 61, 3) := by decide +kernel
theorem dX10_takeOffers_8 : decode cX10_takeOffers 8 = .ok (.istore 4, 2) := by decide +kernel
theorem dX10_takeOffers_10 : decode cX10_takeOffers 10 = .ok (.iconst 0, 1) := by decide +kernel
theorem dX10_takeOffers_11 : decode cX10_takeOffers 11 = .ok (.istore 5, 2) := by decide +kernel
theorem dX10_takeOffers_13 : decode cX10_takeOffers 13 = .ok (.iload 5, 2) := by decide +kernel
theorem dX10_takeOffers_15 : decode cX10_takeOffers 15 = .ok (.bipush 8, 2) := by decide +kernel
theorem dX10_takeOffers_17 : decode cX10_takeOffers 17 = .ok (.if_icmp .ge 67, 3) := by decide +kernel
theorem dX10_takeOffers_20 : decode cX10_takeOffers 20 = .ok (.iload_n 3, 1) := by decide +kernel
theorem dX10_takeOffers_21 : decode cX10_takeOffers 21 = .ok (.iload 5, 2) := by decide +kernel
theorem dX10_takeOffers_23 : decode cX10_takeOffers 23 = .ok (.ishr, 1) := by decide +kernel
theorem dX10_takeOffers_24 : decode cX10_takeOffers 24 = .ok (.iconst 1, 1) := by decide +kernel
theorem dX10_takeOffers_25 : decode cX10_takeOffers 25 = .ok (.iand, 1) := by decide +kernel
theorem dX10_takeOffers_26 : decode cX10_takeOffers 26 = .ok (.ifCond .ne 18, 3) := by decide +kernel
theorem dX10_takeOffers_29 : decode cX10_takeOffers 29 = .ok (.aload_n 1, 1) := by decide +kernel
theorem dX10_takeOffers_30 : decode cX10_takeOffers 30 = .ok (.iload 5, 2) := by decide +kernel
theorem dX10_takeOffers_32 : decode cX10_takeOffers 32 = .ok (.iload 4, 2) := by decide +kernel
theorem dX10_takeOffers_34 : decode cX10_takeOffers 34 = .ok (.invokevirtual 65, 3) := by decide +kernel
theorem dX10_takeOffers_37 : decode cX10_takeOffers 37 = .ok (.ifCond .eq 7, 3) := by decide +kernel
theorem dX10_takeOffers_40 : decode cX10_takeOffers 40 = .ok (.iconst 1, 1) := by decide +kernel
theorem dX10_takeOffers_41 : decode cX10_takeOffers 41 = .ok (.goto 4, 3) := by decide +kernel
theorem dX10_takeOffers_44 : decode cX10_takeOffers 44 = .ok (.iconst 0, 1) := by decide +kernel
theorem dX10_takeOffers_45 : decode cX10_takeOffers 45 = .ok (.istore 6, 2) := by decide +kernel
theorem dX10_takeOffers_47 : decode cX10_takeOffers 47 = .ok (.aload_n 0, 1) := by decide +kernel
theorem dX10_takeOffers_48 : decode cX10_takeOffers 48 = .ok (.getfield 15, 3) := by decide +kernel
theorem dX10_takeOffers_51 : decode cX10_takeOffers 51 = .ok (.iload_n 2, 1) := by decide +kernel
theorem dX10_takeOffers_52 : decode cX10_takeOffers 52 = .ok (.bipush 8, 2) := by decide +kernel
theorem dX10_takeOffers_54 : decode cX10_takeOffers 54 = .ok (.imul, 1) := by decide +kernel
theorem dX10_takeOffers_55 : decode cX10_takeOffers 55 = .ok (.iload 5, 2) := by decide +kernel
theorem dX10_takeOffers_57 : decode cX10_takeOffers 57 = .ok (.iadd, 1) := by decide +kernel
theorem dX10_takeOffers_58 : decode cX10_takeOffers 58 = .ok (.iload 6, 2) := by decide +kernel
theorem dX10_takeOffers_60 : decode cX10_takeOffers 60 = .ok (.ifCond .eq 14, 3) := by decide +kernel
theorem dX10_takeOffers_63 : decode cX10_takeOffers 63 = .ok (.aload_n 1, 1) := by decide +kernel
theorem dX10_takeOffers_64 : decode cX10_takeOffers 64 = .ok (.iload 5, 2) := by decide +kernel
theorem dX10_takeOffers_66 : decode cX10_takeOffers 66 = .ok (.iload 4, 2) := by decide +kernel
theorem dX10_takeOffers_68 : decode cX10_takeOffers 68 = .ok (.invokevirtual 69, 3) := by decide +kernel
theorem dX10_takeOffers_71 : decode cX10_takeOffers 71 = .ok (.goto 4, 3) := by decide +kernel
theorem dX10_takeOffers_74 : decode cX10_takeOffers 74 = .ok (.iconst (-1), 1) := by decide +kernel
theorem dX10_takeOffers_75 : decode cX10_takeOffers 75 = .ok (.invokestatic 43, 3) := by decide +kernel
theorem dX10_takeOffers_78 : decode cX10_takeOffers 78 = .ok (.iinc 5 1, 3) := by decide +kernel
theorem dX10_takeOffers_81 : decode cX10_takeOffers 81 = .ok (.goto (-68), 3) := by decide +kernel
theorem dX10_takeOffers_84 : decode cX10_takeOffers 84 = .ok (.return_, 1) := by decide +kernel
theorem dX10_give_0 : decode cX10_give 0 = .ok (.iload_n 1, 1) := by decide +kernel
theorem dX10_give_1 : decode cX10_give 1 = .ok (.aload_n 0, 1) := by decide +kernel
theorem dX10_give_2 : decode cX10_give 2 = .ok (.getfield 27, 3) := by decide +kernel
theorem dX10_give_5 : decode cX10_give 5 = .ok (.if_icmp .ge 9, 3) := by decide +kernel
theorem dX10_give_8 : decode cX10_give 8 = .ok (.iload_n 1, 1) := by decide +kernel
theorem dX10_give_9 : decode cX10_give 9 = .ok (.bipush 8, 2) := by decide +kernel
theorem dX10_give_11 : decode cX10_give 11 = .ok (.if_icmp .lt 10, 3) := by decide +kernel
theorem dX10_give_14 : decode cX10_give 14 = .ok (.aload_n 0, 1) := by decide +kernel
theorem dX10_give_15 : decode cX10_give 15 = .ok (.iload_n 2, 1) := by decide +kernel
theorem dX10_give_16 : decode cX10_give 16 = .ok (.iload_n 3, 1) := by decide +kernel
theorem dX10_give_17 : decode cX10_give 17 = .ok (.invokevirtual 73, 3) := by decide +kernel
theorem dX10_give_20 : decode cX10_give 20 = .ok (.return_, 1) := by decide +kernel
theorem dX10_give_21 : decode cX10_give 21 = .ok (.iconst 0, 1) := by decide +kernel
theorem dX10_give_22 : decode cX10_give 22 = .ok (.istore 4, 2) := by decide +kernel
theorem dX10_give_24 : decode cX10_give 24 = .ok (.iload 4, 2) := by decide +kernel
theorem dX10_give_26 : decode cX10_give 26 = .ok (.bipush 8, 2) := by decide +kernel
theorem dX10_give_28 : decode cX10_give 28 = .ok (.if_icmp .ge 95, 3) := by decide +kernel
theorem dX10_give_31 : decode cX10_give 31 = .ok (.aload_n 0, 1) := by decide +kernel
theorem dX10_give_32 : decode cX10_give 32 = .ok (.getfield 15, 3) := by decide +kernel
theorem dX10_give_35 : decode cX10_give 35 = .ok (.iload_n 1, 1) := by decide +kernel
theorem dX10_give_36 : decode cX10_give 36 = .ok (.bipush 8, 2) := by decide +kernel
theorem dX10_give_38 : decode cX10_give 38 = .ok (.imul, 1) := by decide +kernel
theorem dX10_give_39 : decode cX10_give 39 = .ok (.iload 4, 2) := by decide +kernel
theorem dX10_give_41 : decode cX10_give 41 = .ok (.iadd, 1) := by decide +kernel
theorem dX10_give_42 : decode cX10_give 42 = .ok (.invokestatic 61, 3) := by decide +kernel
theorem dX10_give_45 : decode cX10_give 45 = .ok (.istore 5, 2) := by decide +kernel
theorem dX10_give_47 : decode cX10_give 47 = .ok (.aload_n 0, 1) := by decide +kernel
theorem dX10_give_48 : decode cX10_give 48 = .ok (.getfield 18, 3) := by decide +kernel
theorem dX10_give_51 : decode cX10_give 51 = .ok (.iload 4, 2) := by decide +kernel
theorem dX10_give_53 : decode cX10_give 53 = .ok (.invokestatic 61, 3) := by decide +kernel
theorem dX10_give_56 : decode cX10_give 56 = .ok (.istore 6, 2) := by decide +kernel
theorem dX10_give_58 : decode cX10_give 58 = .ok (.iload 5, 2) := by decide +kernel
theorem dX10_give_60 : decode cX10_give 60 = .ok (.iconst (-1), 1) := by decide +kernel
theorem dX10_give_61 : decode cX10_give 61 = .ok (.if_icmp .eq 56, 3) := by decide +kernel
theorem dX10_give_64 : decode cX10_give 64 = .ok (.iload 6, 2) := by decide +kernel
theorem dX10_give_66 : decode cX10_give 66 = .ok (.ifCond .le 51, 3) := by decide +kernel
theorem dX10_give_69 : decode cX10_give 69 = .ok (.aload_n 0, 1) := by decide +kernel
theorem dX10_give_70 : decode cX10_give 70 = .ok (.getfield 18, 3) := by decide +kernel
theorem dX10_give_73 : decode cX10_give 73 = .ok (.iload 4, 2) := by decide +kernel
theorem dX10_give_75 : decode cX10_give 75 = .ok (.iload 6, 2) := by decide +kernel
theorem dX10_give_77 : decode cX10_give 77 = .ok (.iconst 1, 1) := by decide +kernel
theorem dX10_give_78 : decode cX10_give 78 = .ok (.isub, 1) := by decide +kernel
theorem dX10_give_79 : decode cX10_give 79 = .ok (.invokestatic 43, 3) := by decide +kernel
theorem dX10_give_82 : decode cX10_give 82 = .ok (.aload_n 0, 1) := by decide +kernel
theorem dX10_give_83 : decode cX10_give 83 = .ok (.getfield 21, 3) := by decide +kernel
theorem dX10_give_86 : decode cX10_give 86 = .ok (.iload_n 1, 1) := by decide +kernel
theorem dX10_give_87 : decode cX10_give 87 = .ok (.iload 4, 2) := by decide +kernel
theorem dX10_give_89 : decode cX10_give 89 = .ok (.invokestatic 43, 3) := by decide +kernel
theorem dX10_give_92 : decode cX10_give 92 = .ok (.aload_n 0, 1) := by decide +kernel
theorem dX10_give_93 : decode cX10_give 93 = .ok (.iload_n 1, 1) := by decide +kernel
theorem dX10_give_94 : decode cX10_give 94 = .ok (.iconst 1, 1) := by decide +kernel
theorem dX10_give_95 : decode cX10_give 95 = .ok (.iadd, 1) := by decide +kernel
theorem dX10_give_96 : decode cX10_give 96 = .ok (.iload_n 2, 1) := by decide +kernel
theorem dX10_give_97 : decode cX10_give 97 = .ok (.iconst 1, 1) := by decide +kernel
theorem dX10_give_98 : decode cX10_give 98 = .ok (.iadd, 1) := by decide +kernel
theorem dX10_give_99 : decode cX10_give 99 = .ok (.iload_n 3, 1) := by decide +kernel
theorem dX10_give_100 : decode cX10_give 100 = .ok (.iload 5, 2) := by decide +kernel
theorem dX10_give_102 : decode cX10_give 102 = .ok (.iadd, 1) := by decide +kernel
theorem dX10_give_103 : decode cX10_give 103 = .ok (.invokevirtual 57, 3) := by decide +kernel
theorem dX10_give_106 : decode cX10_give 106 = .ok (.aload_n 0, 1) := by decide +kernel
theorem dX10_give_107 : decode cX10_give 107 = .ok (.getfield 18, 3) := by decide +kernel
theorem dX10_give_110 : decode cX10_give 110 = .ok (.iload 4, 2) := by decide +kernel
theorem dX10_give_112 : decode cX10_give 112 = .ok (.iload 6, 2) := by decide +kernel
theorem dX10_give_114 : decode cX10_give 114 = .ok (.invokestatic 43, 3) := by decide +kernel
theorem dX10_give_117 : decode cX10_give 117 = .ok (.iinc 4 1, 3) := by decide +kernel
theorem dX10_give_120 : decode cX10_give 120 = .ok (.goto (-96), 3) := by decide +kernel
theorem dX10_give_123 : decode cX10_give 123 = .ok (.aload_n 0, 1) := by decide +kernel
theorem dX10_give_124 : decode cX10_give 124 = .ok (.getfield 21, 3) := by decide +kernel
theorem dX10_give_127 : decode cX10_give 127 = .ok (.iload_n 1, 1) := by decide +kernel
theorem dX10_give_128 : decode cX10_give 128 = .ok (.iconst (-1), 1) := by decide +kernel
theorem dX10_give_129 : decode cX10_give 129 = .ok (.invokestatic 43, 3) := by decide +kernel
theorem dX10_give_132 : decode cX10_give 132 = .ok (.aload_n 0, 1) := by decide +kernel
theorem dX10_give_133 : decode cX10_give 133 = .ok (.iload_n 1, 1) := by decide +kernel
theorem dX10_give_134 : decode cX10_give 134 = .ok (.iconst 1, 1) := by decide +kernel
theorem dX10_give_135 : decode cX10_give 135 = .ok (.iadd, 1) := by decide +kernel
theorem dX10_give_136 : decode cX10_give 136 = .ok (.iload_n 2, 1) := by decide +kernel
theorem dX10_give_137 : decode cX10_give 137 = .ok (.iload_n 3, 1) := by decide +kernel
theorem dX10_give_138 : decode cX10_give 138 = .ok (.invokevirtual 57, 3) := by decide +kernel
theorem dX10_give_141 : decode cX10_give 141 = .ok (.return_, 1) := by decide +kernel
theorem dX10_keepIfBetter_0 : decode cX10_keepIfBetter 0 = .ok (.iload_n 1, 1) := by decide +kernel
theorem dX10_keepIfBetter_1 : decode cX10_keepIfBetter 1 = .ok (.aload_n 0, 1) := by decide +kernel
theorem dX10_keepIfBetter_2 : decode cX10_keepIfBetter 2 = .ok (.getfield 31, 3) := by decide +kernel
theorem dX10_keepIfBetter_5 : decode cX10_keepIfBetter 5 = .ok (.if_icmp .gt 19, 3) := by decide +kernel
theorem dX10_keepIfBetter_8 : decode cX10_keepIfBetter 8 = .ok (.iload_n 1, 1) := by decide +kernel
theorem dX10_keepIfBetter_9 : decode cX10_keepIfBetter 9 = .ok (.aload_n 0, 1) := by decide +kernel
theorem dX10_keepIfBetter_10 : decode cX10_keepIfBetter 10 = .ok (.getfield 31, 3) := by decide +kernel
theorem dX10_keepIfBetter_13 : decode cX10_keepIfBetter 13 = .ok (.if_icmp .ne 38, 3) := by decide +kernel
theorem dX10_keepIfBetter_16 : decode cX10_keepIfBetter 16 = .ok (.iload_n 2, 1) := by decide +kernel
theorem dX10_keepIfBetter_17 : decode cX10_keepIfBetter 17 = .ok (.aload_n 0, 1) := by decide +kernel
theorem dX10_keepIfBetter_18 : decode cX10_keepIfBetter 18 = .ok (.getfield 34, 3) := by decide +kernel
theorem dX10_keepIfBetter_21 : decode cX10_keepIfBetter 21 = .ok (.if_icmp .le 30, 3) := by decide +kernel
theorem dX10_keepIfBetter_24 : decode cX10_keepIfBetter 24 = .ok (.aload_n 0, 1) := by decide +kernel
theorem dX10_keepIfBetter_25 : decode cX10_keepIfBetter 25 = .ok (.iload_n 1, 1) := by decide +kernel
theorem dX10_keepIfBetter_26 : decode cX10_keepIfBetter 26 = .ok (.putfield 31, 3) := by decide +kernel
theorem dX10_keepIfBetter_29 : decode cX10_keepIfBetter 29 = .ok (.aload_n 0, 1) := by decide +kernel
theorem dX10_keepIfBetter_30 : decode cX10_keepIfBetter 30 = .ok (.iload_n 2, 1) := by decide +kernel
theorem dX10_keepIfBetter_31 : decode cX10_keepIfBetter 31 = .ok (.putfield 34, 3) := by decide +kernel
theorem dX10_keepIfBetter_34 : decode cX10_keepIfBetter 34 = .ok (.aload_n 0, 1) := by decide +kernel
theorem dX10_keepIfBetter_35 : decode cX10_keepIfBetter 35 = .ok (.getfield 21, 3) := by decide +kernel
theorem dX10_keepIfBetter_38 : decode cX10_keepIfBetter 38 = .ok (.iconst 0, 1) := by decide +kernel
theorem dX10_keepIfBetter_39 : decode cX10_keepIfBetter 39 = .ok (.aload_n 0, 1) := by decide +kernel
theorem dX10_keepIfBetter_40 : decode cX10_keepIfBetter 40 = .ok (.getfield 24, 3) := by decide +kernel
theorem dX10_keepIfBetter_43 : decode cX10_keepIfBetter 43 = .ok (.iconst 0, 1) := by decide +kernel
theorem dX10_keepIfBetter_44 : decode cX10_keepIfBetter 44 = .ok (.aload_n 0, 1) := by decide +kernel
theorem dX10_keepIfBetter_45 : decode cX10_keepIfBetter 45 = .ok (.getfield 27, 3) := by decide +kernel
theorem dX10_keepIfBetter_48 : decode cX10_keepIfBetter 48 = .ok (.invokestatic 77, 3) := by decide +kernel
theorem dX10_keepIfBetter_51 : decode cX10_keepIfBetter 51 = .ok (.return_, 1) := by decide +kernel
theorem dX10_lenderOf_0 : decode cX10_lenderOf 0 = .ok (.iconst 0, 1) := by decide +kernel
theorem dX10_lenderOf_1 : decode cX10_lenderOf 1 = .ok (.istore_n 2, 1) := by decide +kernel
theorem dX10_lenderOf_2 : decode cX10_lenderOf 2 = .ok (.iload_n 2, 1) := by decide +kernel
theorem dX10_lenderOf_3 : decode cX10_lenderOf 3 = .ok (.aload_n 0, 1) := by decide +kernel
theorem dX10_lenderOf_4 : decode cX10_lenderOf 4 = .ok (.getfield 27, 3) := by decide +kernel
theorem dX10_lenderOf_7 : decode cX10_lenderOf 7 = .ok (.if_icmp .ge 30, 3) := by decide +kernel
theorem dX10_lenderOf_10 : decode cX10_lenderOf 10 = .ok (.aload_n 0, 1) := by decide +kernel
theorem dX10_lenderOf_11 : decode cX10_lenderOf 11 = .ok (.getfield 9, 3) := by decide +kernel
theorem dX10_lenderOf_14 : decode cX10_lenderOf 14 = .ok (.iload_n 2, 1) := by decide +kernel
theorem dX10_lenderOf_15 : decode cX10_lenderOf 15 = .ok (.invokestatic 61, 3) := by decide +kernel
theorem dX10_lenderOf_18 : decode cX10_lenderOf 18 = .ok (.iload_n 1, 1) := by decide +kernel
theorem dX10_lenderOf_19 : decode cX10_lenderOf 19 = .ok (.if_icmp .ne 12, 3) := by decide +kernel
theorem dX10_lenderOf_22 : decode cX10_lenderOf 22 = .ok (.aload_n 0, 1) := by decide +kernel
theorem dX10_lenderOf_23 : decode cX10_lenderOf 23 = .ok (.getfield 24, 3) := by decide +kernel
theorem dX10_lenderOf_26 : decode cX10_lenderOf 26 = .ok (.iload_n 2, 1) := by decide +kernel
theorem dX10_lenderOf_27 : decode cX10_lenderOf 27 = .ok (.invokestatic 61, 3) := by decide +kernel
theorem dX10_lenderOf_30 : decode cX10_lenderOf 30 = .ok (.ireturn, 1) := by decide +kernel
theorem dX10_lenderOf_31 : decode cX10_lenderOf 31 = .ok (.iinc 2 1, 3) := by decide +kernel
theorem dX10_lenderOf_34 : decode cX10_lenderOf 34 = .ok (.goto (-32), 3) := by decide +kernel
theorem dX10_lenderOf_37 : decode cX10_lenderOf 37 = .ok (.iconst (-1), 1) := by decide +kernel
theorem dX10_lenderOf_38 : decode cX10_lenderOf 38 = .ok (.ireturn, 1) := by decide +kernel
theorem dX11_init_0 : decode cX11_init 0 = .ok (.aload_n 0, 1) := by decide +kernel
theorem dX11_init_1 : decode cX11_init 1 = .ok (.invokespecial 1, 3) := by decide +kernel
theorem dX11_init_4 : decode cX11_init 4 = .ok (.aload_n 0, 1) := by decide +kernel
theorem dX11_init_5 : decode cX11_init 5 = .ok (.new 7, 3) := by decide +kernel
theorem dX11_init_8 : decode cX11_init 8 = .ok (.dup, 1) := by decide +kernel
theorem dX11_init_9 : decode cX11_init 9 = .ok (.invokespecial 9, 3) := by decide +kernel
theorem dX11_init_12 : decode cX11_init 12 = .ok (.putfield 10, 3) := by decide +kernel
theorem dX11_init_15 : decode cX11_init 15 = .ok (.aload_n 0, 1) := by decide +kernel
theorem dX11_init_16 : decode cX11_init 16 = .ok (.new 16, 3) := by decide +kernel
theorem dX11_init_19 : decode cX11_init 19 = .ok (.dup, 1) := by decide +kernel
theorem dX11_init_20 : decode cX11_init 20 = .ok (.invokespecial 18, 3) := by decide +kernel
theorem dX11_init_23 : decode cX11_init 23 = .ok (.putfield 19, 3) := by decide +kernel
theorem dX11_init_26 : decode cX11_init 26 = .ok (.aload_n 0, 1) := by decide +kernel
theorem dX11_init_27 : decode cX11_init 27 = .ok (.new 16, 3) := by decide +kernel
theorem dX11_init_30 : decode cX11_init 30 = .ok (.dup, 1) := by decide +kernel
theorem dX11_init_31 : decode cX11_init 31 = .ok (.invokespecial 18, 3) := by decide +kernel
theorem dX11_init_34 : decode cX11_init 34 = .ok (.putfield 23, 3) := by decide +kernel
theorem dX11_init_37 : decode cX11_init 37 = .ok (.aload_n 0, 1) := by decide +kernel
theorem dX11_init_38 : decode cX11_init 38 = .ok (.new 26, 3) := by decide +kernel
theorem dX11_init_41 : decode cX11_init 41 = .ok (.dup, 1) := by decide +kernel
theorem dX11_init_42 : decode cX11_init 42 = .ok (.invokespecial 28, 3) := by decide +kernel
theorem dX11_init_45 : decode cX11_init 45 = .ok (.putfield 29, 3) := by decide +kernel
theorem dX11_init_48 : decode cX11_init 48 = .ok (.aload_n 0, 1) := by decide +kernel
theorem dX11_init_49 : decode cX11_init 49 = .ok (.new 26, 3) := by decide +kernel
theorem dX11_init_52 : decode cX11_init 52 = .ok (.dup, 1) := by decide +kernel
theorem dX11_init_53 : decode cX11_init 53 = .ok (.invokespecial 28, 3) := by decide +kernel
theorem dX11_init_56 : decode cX11_init 56 = .ok (.putfield 33, 3) := by decide +kernel
theorem dX11_init_59 : decode cX11_init 59 = .ok (.aload_n 0, 1) := by decide +kernel
theorem dX11_init_60 : decode cX11_init 60 = .ok (.new 36, 3) := by decide +kernel
theorem dX11_init_63 : decode cX11_init 63 = .ok (.dup, 1) := by decide +kernel
theorem dX11_init_64 : decode cX11_init 64 = .ok (.invokespecial 38, 3) := by decide +kernel
theorem dX11_init_67 : decode cX11_init 67 = .ok (.putfield 39, 3) := by decide +kernel
theorem dX11_init_70 : decode cX11_init 70 = .ok (.aload_n 0, 1) := by decide +kernel
theorem dX11_init_71 : decode cX11_init 71 = .ok (.new 43, 3) := by decide +kernel
theorem dX11_init_74 : decode cX11_init 74 = .ok (.dup, 1) := by decide +kernel
theorem dX11_init_75 : decode cX11_init 75 = .ok (.invokespecial 45, 3) := by decide +kernel
theorem dX11_init_78 : decode cX11_init 78 = .ok (.putfield 46, 3) := by decide +kernel
theorem dX11_init_81 : decode cX11_init 81 = .ok (.aload_n 0, 1) := by decide +kernel
theorem dX11_init_82 : decode cX11_init 82 = .ok (.new 50, 3) := by decide +kernel
theorem dX11_init_85 : decode cX11_init 85 = .ok (.dup, 1) := by decide +kernel
theorem dX11_init_86 : decode cX11_init 86 = .ok (.invokespecial 52, 3) := by decide +kernel
theorem dX11_init_89 : decode cX11_init 89 = .ok (.putfield 53, 3) := by decide +kernel
theorem dX11_init_92 : decode cX11_init 92 = .ok (.aload_n 0, 1) := by decide +kernel
theorem dX11_init_93 : decode cX11_init 93 = .ok (.new 50, 3) := by decide +kernel
theorem dX11_init_96 : decode cX11_init 96 = .ok (.dup, 1) := by decide +kernel
theorem dX11_init_97 : decode cX11_init 97 = .ok (.invokespecial 52, 3) := by decide +kernel
theorem dX11_init_100 : decode cX11_init 100 = .ok (.putfield 57, 3) := by decide +kernel
theorem dX11_init_103 : decode cX11_init 103 = .ok (.aload_n 0, 1) := by decide +kernel
theorem dX11_init_104 : decode cX11_init 104 = .ok (.new 60, 3) := by decide +kernel
theorem dX11_init_107 : decode cX11_init 107 = .ok (.dup, 1) := by decide +kernel
theorem dX11_init_108 : decode cX11_init 108 = .ok (.aload_n 0, 1) := by decide +kernel
theorem dX11_init_109 : decode cX11_init 109 = .ok (.getfield 19, 3) := by decide +kernel
theorem dX11_init_112 : decode cX11_init 112 = .ok (.aload_n 0, 1) := by decide +kernel
theorem dX11_init_113 : decode cX11_init 113 = .ok (.getfield 29, 3) := by decide +kernel
theorem dX11_init_116 : decode cX11_init 116 = .ok (.invokespecial 62, 3) := by decide +kernel
theorem dX11_init_119 : decode cX11_init 119 = .ok (.putfield 65, 3) := by decide +kernel
theorem dX11_init_122 : decode cX11_init 122 = .ok (.aload_n 0, 1) := by decide +kernel
theorem dX11_init_123 : decode cX11_init 123 = .ok (.new 60, 3) := by decide +kernel
theorem dX11_init_126 : decode cX11_init 126 = .ok (.dup, 1) := by decide +kernel
theorem dX11_init_127 : decode cX11_init 127 = .ok (.aload_n 0, 1) := by decide +kernel
theorem dX11_init_128 : decode cX11_init 128 = .ok (.getfield 19, 3) := by decide +kernel
theorem dX11_init_131 : decode cX11_init 131 = .ok (.aload_n 0, 1) := by decide +kernel
theorem dX11_init_132 : decode cX11_init 132 = .ok (.getfield 29, 3) := by decide +kernel
theorem dX11_init_135 : decode cX11_init 135 = .ok (.invokespecial 62, 3) := by decide +kernel
theorem dX11_init_138 : decode cX11_init 138 = .ok (.putfield 69, 3) := by decide +kernel
theorem dX11_init_141 : decode cX11_init 141 = .ok (.aload_n 0, 1) := by decide +kernel
theorem dX11_init_142 : decode cX11_init 142 = .ok (.new 72, 3) := by decide +kernel
theorem dX11_init_145 : decode cX11_init 145 = .ok (.dup, 1) := by decide +kernel
theorem dX11_init_146 : decode cX11_init 146 = .ok (.invokespecial 74, 3) := by decide +kernel
theorem dX11_init_149 : decode cX11_init 149 = .ok (.putfield 75, 3) := by decide +kernel
theorem dX11_init_152 : decode cX11_init 152 = .ok (.aload_n 0, 1) := by decide +kernel
theorem dX11_init_153 : decode cX11_init 153 = .ok (.new 79, 3) := by decide +kernel
theorem dX11_init_156 : decode cX11_init 156 = .ok (.dup, 1) := by decide +kernel
theorem dX11_init_157 : decode cX11_init 157 = .ok (.invokespecial 81, 3) := by decide +kernel
theorem dX11_init_160 : decode cX11_init 160 = .ok (.putfield 82, 3) := by decide +kernel
theorem dX11_init_163 : decode cX11_init 163 = .ok (.aload_n 0, 1) := by decide +kernel
theorem dX11_init_164 : decode cX11_init 164 = .ok (.new 86, 3) := by decide +kernel
theorem dX11_init_167 : decode cX11_init 167 = .ok (.dup, 1) := by decide +kernel
theorem dX11_init_168 : decode cX11_init 168 = .ok (.invokespecial 88, 3) := by decide +kernel
theorem dX11_init_171 : decode cX11_init 171 = .ok (.putfield 89, 3) := by decide +kernel
theorem dX11_init_174 : decode cX11_init 174 = .ok (.aload_n 0, 1) := by decide +kernel
theorem dX11_init_175 : decode cX11_init 175 = .ok (.bipush 13, 2) := by decide +kernel
theorem dX11_init_177 : decode cX11_init 177 = .ok (.newarray .long, 2) := by decide +kernel
theorem dX11_init_179 : decode cX11_init 179 = .ok (.putfield 93, 3) := by decide +kernel
theorem dX11_init_182 : decode cX11_init 182 = .ok (.aload_n 0, 1) := by decide +kernel
theorem dX11_init_183 : decode cX11_init 183 = .ok (.getfield 29, 3) := by decide +kernel
theorem dX11_init_186 : decode cX11_init 186 = .ok (.invokevirtual 97, 3) := by decide +kernel
theorem dX11_init_189 : decode cX11_init 189 = .ok (.aload_n 0, 1) := by decide +kernel
theorem dX11_init_190 : decode cX11_init 190 = .ok (.getfield 65, 3) := by decide +kernel
theorem dX11_init_193 : decode cX11_init 193 = .ok (.invokevirtual 100, 3) := by decide +kernel
theorem dX11_init_196 : decode cX11_init 196 = .ok (.return_, 1) := by decide +kernel
theorem dX11_feed_0 : decode cX11_feed 0 = .ok (.aload_n 0, 1) := by decide +kernel
theorem dX11_feed_1 : decode cX11_feed 1 = .ok (.getfield 10, 3) := by decide +kernel
theorem dX11_feed_4 : decode cX11_feed 4 = .ok (.invokevirtual 103, 3) := by decide +kernel
theorem dX11_feed_7 : decode cX11_feed 7 = .ok (.ifCond .ne 5, 3) := by decide +kernel
theorem dX11_feed_10 : decode cX11_feed 10 = .ok (.iconst (-1), 1) := by decide +kernel
theorem dX11_feed_11 : decode cX11_feed 11 = .ok (.ireturn, 1) := by decide +kernel
theorem dX11_feed_12 : decode cX11_feed 12 = .ok (.aload_n 0, 1) := by decide +kernel
theorem dX11_feed_13 : decode cX11_feed 13 = .ok (.getfield 10, 3) := by decide +kernel
theorem dX11_feed_16 : decode cX11_feed 16 = .ok (.iload_n 1, 1) := by decide +kernel
theorem dX11_feed_17 : decode cX11_feed 17 = .ok (.invokevirtual 107, 3) := by decide +kernel
theorem dX11_feed_20 : decode cX11_feed 20 = .ok (.aload_n 0, 1) := by decide +kernel
theorem dX11_feed_21 : decode cX11_feed 21 = .ok (.getfield 10, 3) := by decide +kernel
theorem dX11_feed_24 : decode cX11_feed 24 = .ok (.iload_n 2, 1) := by decide +kernel
theorem dX11_feed_25 : decode cX11_feed 25 = .ok (.invokevirtual 107, 3) := by decide +kernel
theorem dX11_feed_28 : decode cX11_feed 28 = .ok (.aload_n 0, 1) := by decide +kernel
theorem dX11_feed_29 : decode cX11_feed 29 = .ok (.getfield 10, 3) := by decide +kernel
theorem dX11_feed_32 : decode cX11_feed 32 = .ok (.iload_n 3, 1) := by decide +kernel
theorem dX11_feed_33 : decode cX11_feed 33 = .ok (.invokevirtual 107, 3) := by decide +kernel
theorem dX11_feed_36 : decode cX11_feed 36 = .ok (.aload_n 0, 1) := by decide +kernel
theorem dX11_feed_37 : decode cX11_feed 37 = .ok (.getfield 10, 3) := by decide +kernel
theorem dX11_feed_40 : decode cX11_feed 40 = .ok (.iload 4, 2) := by decide +kernel
theorem dX11_feed_42 : decode cX11_feed 42 = .ok (.invokevirtual 107, 3) := by decide +kernel
theorem dX11_feed_45 : decode cX11_feed 45 = .ok (.aload_n 0, 1) := by decide +kernel
theorem dX11_feed_46 : decode cX11_feed 46 = .ok (.getfield 10, 3) := by decide +kernel
theorem dX11_feed_49 : decode cX11_feed 49 = .ok (.iload 5, 2) := by decide +kernel
theorem dX11_feed_51 : decode cX11_feed 51 = .ok (.invokevirtual 107, 3) := by decide +kernel
theorem dX11_feed_54 : decode cX11_feed 54 = .ok (.aload_n 0, 1) := by decide +kernel
theorem dX11_feed_55 : decode cX11_feed 55 = .ok (.getfield 10, 3) := by decide +kernel
theorem dX11_feed_58 : decode cX11_feed 58 = .ok (.getfield 111, 3) := by decide +kernel
theorem dX11_feed_61 : decode cX11_feed 61 = .ok (.ireturn, 1) := by decide +kernel
theorem dX11_peninsula_0 : decode cX11_peninsula 0 = .ok (.aload_n 0, 1) := by decide +kernel
theorem dX11_peninsula_1 : decode cX11_peninsula 1 = .ok (.iload_n 1, 1) := by decide +kernel
theorem dX11_peninsula_2 : decode cX11_peninsula 2 = .ok (.ifCond .lt 18, 3) := by decide +kernel
theorem dX11_peninsula_5 : decode cX11_peninsula 5 = .ok (.iload_n 1, 1) := by decide +kernel
theorem dX11_peninsula_6 : decode cX11_peninsula 6 = .ok (.aload_n 0, 1) := by decide +kernel
theorem dX11_peninsula_7 : decode cX11_peninsula 7 = .ok (.getfield 10, 3) := by decide +kernel
theorem dX11_peninsula_10 : decode cX11_peninsula 10 = .ok (.getfield 111, 3) := by decide +kernel
theorem dX11_peninsula_13 : decode cX11_peninsula 13 = .ok (.if_icmp .gt 7, 3) := by decide +kernel
theorem dX11_peninsula_16 : decode cX11_peninsula 16 = .ok (.iconst 1, 1) := by decide +kernel
theorem dX11_peninsula_17 : decode cX11_peninsula 17 = .ok (.goto 4, 3) := by decide +kernel
theorem dX11_peninsula_20 : decode cX11_peninsula 20 = .ok (.iconst 0, 1) := by decide +kernel
theorem dX11_peninsula_21 : decode cX11_peninsula 21 = .ok (.invokevirtual 115, 3) := by decide +kernel
theorem dX11_peninsula_24 : decode cX11_peninsula 24 = .ok (.aload_n 0, 1) := by decide +kernel
theorem dX11_peninsula_25 : decode cX11_peninsula 25 = .ok (.getfield 10, 3) := by decide +kernel
theorem dX11_peninsula_28 : decode cX11_peninsula 28 = .ok (.iload_n 1, 1) := by decide +kernel
theorem dX11_peninsula_29 : decode cX11_peninsula 29 = .ok (.invokevirtual 119, 3) := by decide +kernel
theorem dX11_peninsula_32 : decode cX11_peninsula 32 = .ok (.aload_n 0, 1) := by decide +kernel
theorem dX11_peninsula_33 : decode cX11_peninsula 33 = .ok (.getfield 23, 3) := by decide +kernel
theorem dX11_peninsula_36 : decode cX11_peninsula 36 = .ok (.aload_n 0, 1) := by decide +kernel
theorem dX11_peninsula_37 : decode cX11_peninsula 37 = .ok (.getfield 10, 3) := by decide +kernel
theorem dX11_peninsula_40 : decode cX11_peninsula 40 = .ok (.invokevirtual 121, 3) := by decide +kernel
theorem dX11_peninsula_43 : decode cX11_peninsula 43 = .ok (.aload_n 0, 1) := by decide +kernel
theorem dX11_peninsula_44 : decode cX11_peninsula 44 = .ok (.getfield 10, 3) := by decide +kernel
theorem dX11_peninsula_47 : decode cX11_peninsula 47 = .ok (.invokevirtual 125, 3) := by decide +kernel
theorem dX11_peninsula_50 : decode cX11_peninsula 50 = .ok (.ifCond .ne 11, 3) := by decide +kernel
theorem dX11_peninsula_53 : decode cX11_peninsula 53 = .ok (.aload_n 0, 1) := by decide +kernel
theorem dX11_peninsula_54 : decode cX11_peninsula 54 = .ok (.getfield 10, 3) := by decide +kernel
theorem dX11_peninsula_57 : decode cX11_peninsula 57 = .ok (.invokevirtual 128, 3) := by decide +kernel
theorem dX11_peninsula_60 : decode cX11_peninsula 60 = .ok (.ireturn, 1) := by decide +kernel
theorem dX11_peninsula_61 : decode cX11_peninsula 61 = .ok (.aload_n 0, 1) := by decide +kernel
theorem dX11_peninsula_62 : decode cX11_peninsula 62 = .ok (.getfield 19, 3) := by decide +kernel
theorem dX11_peninsula_65 : decode cX11_peninsula 65 = .ok (.aload_n 0, 1) := by decide +kernel
theorem dX11_peninsula_66 : decode cX11_peninsula 66 = .ok (.getfield 23, 3) := by decide +kernel
theorem dX11_peninsula_69 : decode cX11_peninsula 69 = .ok (.invokevirtual 132, 3) := by decide +kernel
theorem dX11_peninsula_72 : decode cX11_peninsula 72 = .ok (.aload_n 0, 1) := by decide +kernel
theorem dX11_peninsula_73 : decode cX11_peninsula 73 = .ok (.getfield 29, 3) := by decide +kernel
theorem dX11_peninsula_76 : decode cX11_peninsula 76 = .ok (.invokevirtual 97, 3) := by decide +kernel
theorem dX11_peninsula_79 : decode cX11_peninsula 79 = .ok (.aload_n 0, 1) := by decide +kernel
theorem dX11_peninsula_80 : decode cX11_peninsula 80 = .ok (.getfield 53, 3) := by decide +kernel
theorem dX11_peninsula_83 : decode cX11_peninsula 83 = .ok (.invokevirtual 136, 3) := by decide +kernel
theorem dX11_peninsula_86 : decode cX11_peninsula 86 = .ok (.aload_n 0, 1) := by decide +kernel
theorem dX11_peninsula_87 : decode cX11_peninsula 87 = .ok (.getfield 75, 3) := by decide +kernel
theorem dX11_peninsula_90 : decode cX11_peninsula 90 = .ok (.invokevirtual 139, 3) := by decide +kernel
theorem dX11_peninsula_93 : decode cX11_peninsula 93 = .ok (.aload_n 0, 1) := by decide +kernel
theorem dX11_peninsula_94 : decode cX11_peninsula 94 = .ok (.getfield 65, 3) := by decide +kernel
theorem dX11_peninsula_97 : decode cX11_peninsula 97 = .ok (.invokevirtual 100, 3) := by decide +kernel
theorem dX11_peninsula_100 : decode cX11_peninsula 100 = .ok (.aload_n 0, 1) := by decide +kernel
theorem dX11_peninsula_101 : decode cX11_peninsula 101 = .ok (.iconst 0, 1) := by decide +kernel
theorem dX11_peninsula_102 : decode cX11_peninsula 102 = .ok (.putfield 140, 3) := by decide +kernel
theorem dX11_peninsula_105 : decode cX11_peninsula 105 = .ok (.aload_n 0, 1) := by decide +kernel
theorem dX11_peninsula_106 : decode cX11_peninsula 106 = .ok (.getfield 19, 3) := by decide +kernel
theorem dX11_peninsula_109 : decode cX11_peninsula 109 = .ok (.getfield 143, 3) := by decide +kernel
theorem dX11_peninsula_112 : decode cX11_peninsula 112 = .ok (.ireturn, 1) := by decide +kernel
theorem dX11_law_0 : decode cX11_law 0 = .ok (.aload_n 0, 1) := by decide +kernel
theorem dX11_law_1 : decode cX11_law 1 = .ok (.iload_n 1, 1) := by decide +kernel
theorem dX11_law_2 : decode cX11_law 2 = .ok (.ifCond .lt 25, 3) := by decide +kernel
theorem dX11_law_5 : decode cX11_law 5 = .ok (.iload_n 1, 1) := by decide +kernel
theorem dX11_law_6 : decode cX11_law 6 = .ok (.aload_n 0, 1) := by decide +kernel
theorem dX11_law_7 : decode cX11_law 7 = .ok (.getfield 10, 3) := by decide +kernel
theorem dX11_law_10 : decode cX11_law 10 = .ok (.getfield 111, 3) := by decide +kernel
theorem dX11_law_13 : decode cX11_law 13 = .ok (.if_icmp .gt 14, 3) := by decide +kernel
theorem dX11_law_16 : decode cX11_law 16 = .ok (.iload_n 1, 1) := by decide +kernel
theorem dX11_law_17 : decode cX11_law 17 = .ok (.sipush 150, 3) := by decide +kernel
theorem dX11_law_20 : decode cX11_law 20 = .ok (.if_icmp .gt 7, 3) := by decide +kernel
theorem dX11_law_23 : decode cX11_law 23 = .ok (.iconst 1, 1) := by decide +kernel
theorem dX11_law_24 : decode cX11_law 24 = .ok (.goto 4, 3) := by decide +kernel
theorem dX11_law_27 : decode cX11_law 27 = .ok (.iconst 0, 1) := by decide +kernel
theorem dX11_law_28 : decode cX11_law 28 = .ok (.invokevirtual 115, 3) := by decide +kernel
theorem dX11_law_31 : decode cX11_law 31 = .ok (.aload_n 0, 1) := by decide +kernel
theorem dX11_law_32 : decode cX11_law 32 = .ok (.getfield 10, 3) := by decide +kernel
theorem dX11_law_35 : decode cX11_law 35 = .ok (.iload_n 1, 1) := by decide +kernel
theorem dX11_law_36 : decode cX11_law 36 = .ok (.invokevirtual 119, 3) := by decide +kernel
theorem dX11_law_39 : decode cX11_law 39 = .ok (.aload_n 0, 1) := by decide +kernel
theorem dX11_law_40 : decode cX11_law 40 = .ok (.getfield 39, 3) := by decide +kernel
theorem dX11_law_43 : decode cX11_law 43 = .ok (.aload_n 0, 1) := by decide +kernel
theorem dX11_law_44 : decode cX11_law 44 = .ok (.getfield 10, 3) := by decide +kernel
theorem dX11_law_47 : decode cX11_law 47 = .ok (.aload_n 0, 1) := by decide +kernel
theorem dX11_law_48 : decode cX11_law 48 = .ok (.getfield 33, 3) := by decide +kernel
theorem dX11_law_51 : decode cX11_law 51 = .ok (.invokevirtual 146, 3) := by decide +kernel
theorem dX11_law_54 : decode cX11_law 54 = .ok (.aload_n 0, 1) := by decide +kernel
theorem dX11_law_55 : decode cX11_law 55 = .ok (.getfield 10, 3) := by decide +kernel
theorem dX11_law_58 : decode cX11_law 58 = .ok (.invokevirtual 125, 3) := by decide +kernel
theorem dX11_law_61 : decode cX11_law 61 = .ok (.ifCond .ne 11, 3) := by decide +kernel
theorem dX11_law_64 : decode cX11_law 64 = .ok (.aload_n 0, 1) := by decide +kernel
theorem dX11_law_65 : decode cX11_law 65 = .ok (.getfield 10, 3) := by decide +kernel
theorem dX11_law_68 : decode cX11_law 68 = .ok (.invokevirtual 128, 3) := by decide +kernel
theorem dX11_law_71 : decode cX11_law 71 = .ok (.ireturn, 1) := by decide +kernel
theorem dX11_law_72 : decode cX11_law 72 = .ok (.aload_n 0, 1) := by decide +kernel
theorem dX11_law_73 : decode cX11_law 73 = .ok (.getfield 29, 3) := by decide +kernel
theorem dX11_law_76 : decode cX11_law 76 = .ok (.aload_n 0, 1) := by decide +kernel
theorem dX11_law_77 : decode cX11_law 77 = .ok (.getfield 33, 3) := by decide +kernel
theorem dX11_law_80 : decode cX11_law 80 = .ok (.invokevirtual 149, 3) := by decide +kernel
theorem dX11_law_83 : decode cX11_law 83 = .ok (.iconst 1, 1) := by decide +kernel
theorem dX11_law_84 : decode cX11_law 84 = .ok (.ireturn, 1) := by decide +kernel
theorem dX11_work_0 : decode cX11_work 0 = .ok (.aload_n 0, 1) := by decide +kernel
theorem dX11_work_1 : decode cX11_work 1 = .ok (.iload_n 1, 1) := by decide +kernel
theorem dX11_work_2 : decode cX11_work 2 = .ok (.ifCond .lt 25, 3) := by decide +kernel
theorem dX11_work_5 : decode cX11_work 5 = .ok (.iload_n 1, 1) := by decide +kernel
theorem dX11_work_6 : decode cX11_work 6 = .ok (.aload_n 0, 1) := by decide +kernel
theorem dX11_work_7 : decode cX11_work 7 = .ok (.getfield 10, 3) := by decide +kernel
theorem dX11_work_10 : decode cX11_work 10 = .ok (.getfield 111, 3) := by decide +kernel
theorem dX11_work_13 : decode cX11_work 13 = .ok (.if_icmp .gt 14, 3) := by decide +kernel
theorem dX11_work_16 : decode cX11_work 16 = .ok (.iload_n 1, 1) := by decide +kernel
theorem dX11_work_17 : decode cX11_work 17 = .ok (.sipush 150, 3) := by decide +kernel
theorem dX11_work_20 : decode cX11_work 20 = .ok (.if_icmp .gt 7, 3) := by decide +kernel
theorem dX11_work_23 : decode cX11_work 23 = .ok (.iconst 1, 1) := by decide +kernel
theorem dX11_work_24 : decode cX11_work 24 = .ok (.goto 4, 3) := by decide +kernel
theorem dX11_work_27 : decode cX11_work 27 = .ok (.iconst 0, 1) := by decide +kernel
theorem dX11_work_28 : decode cX11_work 28 = .ok (.invokevirtual 115, 3) := by decide +kernel
theorem dX11_work_31 : decode cX11_work 31 = .ok (.aload_n 0, 1) := by decide +kernel
theorem dX11_work_32 : decode cX11_work 32 = .ok (.getfield 10, 3) := by decide +kernel
theorem dX11_work_35 : decode cX11_work 35 = .ok (.iload_n 1, 1) := by decide +kernel
theorem dX11_work_36 : decode cX11_work 36 = .ok (.invokevirtual 119, 3) := by decide +kernel
theorem dX11_work_39 : decode cX11_work 39 = .ok (.aload_n 0, 1) := by decide +kernel
theorem dX11_work_40 : decode cX11_work 40 = .ok (.getfield 75, 3) := by decide +kernel
theorem dX11_work_43 : decode cX11_work 43 = .ok (.invokevirtual 152, 3) := by decide +kernel
theorem dX11_work_46 : decode cX11_work 46 = .ok (.ifCond .eq 6, 3) := by decide +kernel
theorem dX11_work_49 : decode cX11_work 49 = .ok (.bipush (-20), 2) := by decide +kernel
theorem dX11_work_51 : decode cX11_work 51 = .ok (.ireturn, 1) := by decide +kernel
theorem dX11_work_52 : decode cX11_work 52 = .ok (.aload_n 0, 1) := by decide +kernel
theorem dX11_work_53 : decode cX11_work 53 = .ok (.getfield 46, 3) := by decide +kernel
theorem dX11_work_56 : decode cX11_work 56 = .ok (.aload_n 0, 1) := by decide +kernel
theorem dX11_work_57 : decode cX11_work 57 = .ok (.getfield 10, 3) := by decide +kernel
theorem dX11_work_60 : decode cX11_work 60 = .ok (.aload_n 0, 1) := by decide +kernel
theorem dX11_work_61 : decode cX11_work 61 = .ok (.getfield 19, 3) := by decide +kernel
theorem dX11_work_64 : decode cX11_work 64 = .ok (.getfield 143, 3) := by decide +kernel
theorem dX11_work_67 : decode cX11_work 67 = .ok (.invokevirtual 155, 3) := by decide +kernel
theorem dX11_work_70 : decode cX11_work 70 = .ok (.aload_n 0, 1) := by decide +kernel
theorem dX11_work_71 : decode cX11_work 71 = .ok (.getfield 10, 3) := by decide +kernel
theorem dX11_work_74 : decode cX11_work 74 = .ok (.invokevirtual 125, 3) := by decide +kernel
theorem dX11_work_77 : decode cX11_work 77 = .ok (.ifCond .ne 11, 3) := by decide +kernel
theorem dX11_work_80 : decode cX11_work 80 = .ok (.aload_n 0, 1) := by decide +kernel
theorem dX11_work_81 : decode cX11_work 81 = .ok (.getfield 10, 3) := by decide +kernel
theorem dX11_work_84 : decode cX11_work 84 = .ok (.invokevirtual 128, 3) := by decide +kernel
theorem dX11_work_87 : decode cX11_work 87 = .ok (.ireturn, 1) := by decide +kernel
theorem dX11_work_88 : decode cX11_work 88 = .ok (.aload_n 0, 1) := by decide +kernel
theorem dX11_work_89 : decode cX11_work 89 = .ok (.getfield 75, 3) := by decide +kernel
theorem dX11_work_92 : decode cX11_work 92 = .ok (.aload_n 0, 1) := by decide +kernel
theorem dX11_work_93 : decode cX11_work 93 = .ok (.getfield 65, 3) := by decide +kernel
theorem dX11_work_96 : decode cX11_work 96 = .ok (.invokevirtual 158, 3) := by decide +kernel
theorem dX11_work_99 : decode cX11_work 99 = .ok (.aload_n 0, 1) := by decide +kernel
theorem dX11_work_100 : decode cX11_work 100 = .ok (.getfield 46, 3) := by decide +kernel
theorem dX11_work_103 : decode cX11_work 103 = .ok (.aload_n 0, 1) := by decide +kernel
theorem dX11_work_104 : decode cX11_work 104 = .ok (.getfield 65, 3) := by decide +kernel
theorem dX11_work_107 : decode cX11_work 107 = .ok (.invokevirtual 162, 3) := by decide +kernel
theorem dX11_work_110 : decode cX11_work 110 = .ok (.aload_n 0, 1) := by decide +kernel
theorem dX11_work_111 : decode cX11_work 111 = .ok (.aload_n 0, 1) := by decide +kernel
theorem dX11_work_112 : decode cX11_work 112 = .ok (.getfield 46, 3) := by decide +kernel
theorem dX11_work_115 : decode cX11_work 115 = .ok (.getfield 165, 3) := by decide +kernel
theorem dX11_work_118 : decode cX11_work 118 = .ok (.putfield 140, 3) := by decide +kernel
theorem dX11_work_121 : decode cX11_work 121 = .ok (.aload_n 0, 1) := by decide +kernel
theorem dX11_work_122 : decode cX11_work 122 = .ok (.getfield 46, 3) := by decide +kernel
theorem dX11_work_125 : decode cX11_work 125 = .ok (.getfield 168, 3) := by decide +kernel
theorem dX11_work_128 : decode cX11_work 128 = .ok (.ireturn, 1) := by decide +kernel
theorem dX11_book_0 : decode cX11_book 0 = .ok (.aload_n 0, 1) := by decide +kernel
theorem dX11_book_1 : decode cX11_book 1 = .ok (.iload_n 1, 1) := by decide +kernel
theorem dX11_book_2 : decode cX11_book 2 = .ok (.ifCond .lt 24, 3) := by decide +kernel
theorem dX11_book_5 : decode cX11_book 5 = .ok (.iload_n 1, 1) := by decide +kernel
theorem dX11_book_6 : decode cX11_book 6 = .ok (.aload_n 0, 1) := by decide +kernel
theorem dX11_book_7 : decode cX11_book 7 = .ok (.getfield 10, 3) := by decide +kernel
theorem dX11_book_10 : decode cX11_book 10 = .ok (.getfield 111, 3) := by decide +kernel
theorem dX11_book_13 : decode cX11_book 13 = .ok (.if_icmp .gt 13, 3) := by decide +kernel
theorem dX11_book_16 : decode cX11_book 16 = .ok (.iload_n 1, 1) := by decide +kernel
theorem dX11_book_17 : decode cX11_book 17 = .ok (.bipush 60, 2) := by decide +kernel
theorem dX11_book_19 : decode cX11_book 19 = .ok (.if_icmp .gt 7, 3) := by decide +kernel
theorem dX11_book_22 : decode cX11_book 22 = .ok (.iconst 1, 1) := by decide +kernel
theorem dX11_book_23 : decode cX11_book 23 = .ok (.goto 4, 3) := by decide +kernel
theorem dX11_book_26 : decode cX11_book 26 = .ok (.iconst 0, 1) := by decide +kernel
theorem dX11_book_27 : decode cX11_book 27 = .ok (.invokevirtual 115, 3) := by decide +kernel
theorem dX11_book_30 : decode cX11_book 30 = .ok (.aload_n 0, 1) := by decide +kernel
theorem dX11_book_31 : decode cX11_book 31 = .ok (.getfield 10, 3) := by decide +kernel
theorem dX11_book_34 : decode cX11_book 34 = .ok (.iload_n 1, 1) := by decide +kernel
theorem dX11_book_35 : decode cX11_book 35 = .ok (.invokevirtual 119, 3) := by decide +kernel
theorem dX11_book_38 : decode cX11_book 38 = .ok (.aload_n 0, 1) := by decide +kernel
theorem dX11_book_39 : decode cX11_book 39 = .ok (.getfield 57, 3) := by decide +kernel
theorem dX11_book_42 : decode cX11_book 42 = .ok (.aload_n 0, 1) := by decide +kernel
theorem dX11_book_43 : decode cX11_book 43 = .ok (.getfield 10, 3) := by decide +kernel
theorem dX11_book_46 : decode cX11_book 46 = .ok (.aload_n 0, 1) := by decide +kernel
theorem dX11_book_47 : decode cX11_book 47 = .ok (.getfield 19, 3) := by decide +kernel
theorem dX11_book_50 : decode cX11_book 50 = .ok (.getfield 143, 3) := by decide +kernel
theorem dX11_book_53 : decode cX11_book 53 = .ok (.invokevirtual 171, 3) := by decide +kernel
theorem dX11_book_56 : decode cX11_book 56 = .ok (.aload_n 0, 1) := by decide +kernel
theorem dX11_book_57 : decode cX11_book 57 = .ok (.getfield 10, 3) := by decide +kernel
theorem dX11_book_60 : decode cX11_book 60 = .ok (.invokevirtual 125, 3) := by decide +kernel
theorem dX11_book_63 : decode cX11_book 63 = .ok (.ifCond .ne 11, 3) := by decide +kernel
theorem dX11_book_66 : decode cX11_book 66 = .ok (.aload_n 0, 1) := by decide +kernel
theorem dX11_book_67 : decode cX11_book 67 = .ok (.getfield 10, 3) := by decide +kernel
theorem dX11_book_70 : decode cX11_book 70 = .ok (.invokevirtual 128, 3) := by decide +kernel
theorem dX11_book_73 : decode cX11_book 73 = .ok (.ireturn, 1) := by decide +kernel
theorem dX11_book_74 : decode cX11_book 74 = .ok (.aload_n 0, 1) := by decide +kernel
theorem dX11_book_75 : decode cX11_book 75 = .ok (.getfield 53, 3) := by decide +kernel
theorem dX11_book_78 : decode cX11_book 78 = .ok (.aload_n 0, 1) := by decide +kernel
theorem dX11_book_79 : decode cX11_book 79 = .ok (.getfield 57, 3) := by decide +kernel
theorem dX11_book_82 : decode cX11_book 82 = .ok (.invokevirtual 172, 3) := by decide +kernel
theorem dX11_book_85 : decode cX11_book 85 = .ok (.aload_n 0, 1) := by decide +kernel
theorem dX11_book_86 : decode cX11_book 86 = .ok (.getfield 53, 3) := by decide +kernel
theorem dX11_book_89 : decode cX11_book 89 = .ok (.getfield 175, 3) := by decide +kernel
theorem dX11_book_92 : decode cX11_book 92 = .ok (.ireturn, 1) := by decide +kernel
theorem dX11_fault_0 : decode cX11_fault 0 = .ok (.aload_n 0, 1) := by decide +kernel
theorem dX11_fault_1 : decode cX11_fault 1 = .ok (.getfield 10, 3) := by decide +kernel
theorem dX11_fault_4 : decode cX11_fault 4 = .ok (.getfield 178, 3) := by decide +kernel
theorem dX11_fault_7 : decode cX11_fault 7 = .ok (.ireturn, 1) := by decide +kernel
theorem dX11_undo_0 : decode cX11_undo 0 = .ok (.aload_n 0, 1) := by decide +kernel
theorem dX11_undo_1 : decode cX11_undo 1 = .ok (.getfield 75, 3) := by decide +kernel
theorem dX11_undo_4 : decode cX11_undo 4 = .ok (.getfield 181, 3) := by decide +kernel
theorem dX11_undo_7 : decode cX11_undo 7 = .ok (.ifCond .gt 5, 3) := by decide +kernel
theorem dX11_undo_10 : decode cX11_undo 10 = .ok (.iconst (-1), 1) := by decide +kernel
theorem dX11_undo_11 : decode cX11_undo 11 = .ok (.ireturn, 1) := by decide +kernel
theorem dX11_undo_12 : decode cX11_undo 12 = .ok (.aload_n 0, 1) := by decide +kernel
theorem dX11_undo_13 : decode cX11_undo 13 = .ok (.getfield 75, 3) := by decide +kernel
theorem dX11_undo_16 : decode cX11_undo 16 = .ok (.aload_n 0, 1) := by decide +kernel
theorem dX11_undo_17 : decode cX11_undo 17 = .ok (.getfield 65, 3) := by decide +kernel
theorem dX11_undo_20 : decode cX11_undo 20 = .ok (.invokevirtual 184, 3) := by decide +kernel
theorem dX11_undo_23 : decode cX11_undo 23 = .ok (.aload_n 0, 1) := by decide +kernel
theorem dX11_undo_24 : decode cX11_undo 24 = .ok (.iconst 0, 1) := by decide +kernel
theorem dX11_undo_25 : decode cX11_undo 25 = .ok (.putfield 140, 3) := by decide +kernel
theorem dX11_undo_28 : decode cX11_undo 28 = .ok (.aload_n 0, 1) := by decide +kernel
theorem dX11_undo_29 : decode cX11_undo 29 = .ok (.getfield 75, 3) := by decide +kernel
theorem dX11_undo_32 : decode cX11_undo 32 = .ok (.getfield 181, 3) := by decide +kernel
theorem dX11_undo_35 : decode cX11_undo 35 = .ok (.ireturn, 1) := by decide +kernel
theorem dX11_told_0 : decode cX11_told 0 = .ok (.aload_n 0, 1) := by decide +kernel
theorem dX11_told_1 : decode cX11_told 1 = .ok (.iload_n 1, 1) := by decide +kernel
theorem dX11_told_2 : decode cX11_told 2 = .ok (.ifCond .lt 13, 3) := by decide +kernel
theorem dX11_told_5 : decode cX11_told 5 = .ok (.iload_n 1, 1) := by decide +kernel
theorem dX11_told_6 : decode cX11_told 6 = .ok (.bipush 11, 2) := by decide +kernel
theorem dX11_told_8 : decode cX11_told 8 = .ok (.if_icmp .gt 7, 3) := by decide +kernel
theorem dX11_told_11 : decode cX11_told 11 = .ok (.iconst 1, 1) := by decide +kernel
theorem dX11_told_12 : decode cX11_told 12 = .ok (.goto 4, 3) := by decide +kernel
theorem dX11_told_15 : decode cX11_told 15 = .ok (.iconst 0, 1) := by decide +kernel
theorem dX11_told_16 : decode cX11_told 16 = .ok (.invokevirtual 115, 3) := by decide +kernel
theorem dX11_told_19 : decode cX11_told 19 = .ok (.iload_n 1, 1) := by decide +kernel
theorem dX11_told_20 : decode cX11_told 20 = .ok (.tableswitch 145 0 10 #[60, 68, 76, 84, 92, 100, 108, 116, 124, 132, 140], 60) := by decide +kernel
theorem dX11_told_80 : decode cX11_told 80 = .ok (.aload_n 0, 1) := by decide +kernel
theorem dX11_told_81 : decode cX11_told 81 = .ok (.getfield 19, 3) := by decide +kernel
theorem dX11_told_84 : decode cX11_told 84 = .ok (.getfield 143, 3) := by decide +kernel
theorem dX11_told_87 : decode cX11_told 87 = .ok (.ireturn, 1) := by decide +kernel
theorem dX11_told_88 : decode cX11_told 88 = .ok (.aload_n 0, 1) := by decide +kernel
theorem dX11_told_89 : decode cX11_told 89 = .ok (.getfield 65, 3) := by decide +kernel
theorem dX11_told_92 : decode cX11_told 92 = .ok (.invokevirtual 187, 3) := by decide +kernel
theorem dX11_told_95 : decode cX11_told 95 = .ok (.ireturn, 1) := by decide +kernel
theorem dX11_told_96 : decode cX11_told 96 = .ok (.aload_n 0, 1) := by decide +kernel
theorem dX11_told_97 : decode cX11_told 97 = .ok (.getfield 65, 3) := by decide +kernel
theorem dX11_told_100 : decode cX11_told 100 = .ok (.invokevirtual 190, 3) := by decide +kernel
theorem dX11_told_103 : decode cX11_told 103 = .ok (.ireturn, 1) := by decide +kernel
theorem dX11_told_104 : decode cX11_told 104 = .ok (.aload_n 0, 1) := by decide +kernel
theorem dX11_told_105 : decode cX11_told 105 = .ok (.getfield 65, 3) := by decide +kernel
theorem dX11_told_108 : decode cX11_told 108 = .ok (.getfield 193, 3) := by decide +kernel
theorem dX11_told_111 : decode cX11_told 111 = .ok (.ireturn, 1) := by decide +kernel
theorem dX11_told_112 : decode cX11_told 112 = .ok (.aload_n 0, 1) := by decide +kernel
theorem dX11_told_113 : decode cX11_told 113 = .ok (.getfield 65, 3) := by decide +kernel
theorem dX11_told_116 : decode cX11_told 116 = .ok (.invokevirtual 196, 3) := by decide +kernel
theorem dX11_told_119 : decode cX11_told 119 = .ok (.ireturn, 1) := by decide +kernel
theorem dX11_told_120 : decode cX11_told 120 = .ok (.aload_n 0, 1) := by decide +kernel
theorem dX11_told_121 : decode cX11_told 121 = .ok (.getfield 65, 3) := by decide +kernel
theorem dX11_told_124 : decode cX11_told 124 = .ok (.invokevirtual 199, 3) := by decide +kernel
theorem dX11_told_127 : decode cX11_told 127 = .ok (.ireturn, 1) := by decide +kernel
theorem dX11_told_128 : decode cX11_told 128 = .ok (.aload_n 0, 1) := by decide +kernel
theorem dX11_told_129 : decode cX11_told 129 = .ok (.getfield 65, 3) := by decide +kernel
theorem dX11_told_132 : decode cX11_told 132 = .ok (.invokevirtual 202, 3) := by decide +kernel
theorem dX11_told_135 : decode cX11_told 135 = .ok (.ireturn, 1) := by decide +kernel
theorem dX11_told_136 : decode cX11_told 136 = .ok (.aload_n 0, 1) := by decide +kernel
theorem dX11_told_137 : decode cX11_told 137 = .ok (.getfield 65, 3) := by decide +kernel
theorem dX11_told_140 : decode cX11_told 140 = .ok (.invokevirtual 205, 3) := by decide +kernel
theorem dX11_told_143 : decode cX11_told 143 = .ok (.ireturn, 1) := by decide +kernel
theorem dX11_told_144 : decode cX11_told 144 = .ok (.aload_n 0, 1) := by decide +kernel
theorem dX11_told_145 : decode cX11_told 145 = .ok (.getfield 19, 3) := by decide +kernel
theorem dX11_told_148 : decode cX11_told 148 = .ok (.getfield 208, 3) := by decide +kernel
theorem dX11_told_151 : decode cX11_told 151 = .ok (.ireturn, 1) := by decide +kernel
theorem dX11_told_152 : decode cX11_told 152 = .ok (.aload_n 0, 1) := by decide +kernel
theorem dX11_told_153 : decode cX11_told 153 = .ok (.getfield 53, 3) := by decide +kernel
theorem dX11_told_156 : decode cX11_told 156 = .ok (.getfield 175, 3) := by decide +kernel
theorem dX11_told_159 : decode cX11_told 159 = .ok (.ireturn, 1) := by decide +kernel
theorem dX11_told_160 : decode cX11_told 160 = .ok (.aload_n 0, 1) := by decide +kernel
theorem dX11_told_161 : decode cX11_told 161 = .ok (.getfield 140, 3) := by decide +kernel
theorem dX11_told_164 : decode cX11_told 164 = .ok (.ireturn, 1) := by decide +kernel
theorem dX11_told_165 : decode cX11_told 165 = .ok (.aload_n 0, 1) := by decide +kernel
theorem dX11_told_166 : decode cX11_told 166 = .ok (.getfield 65, 3) := by decide +kernel
theorem dX11_told_169 : decode cX11_told 169 = .ok (.invokevirtual 211, 3) := by decide +kernel
theorem dX11_told_172 : decode cX11_told 172 = .ok (.ireturn, 1) := by decide +kernel
theorem dX11_person_0 : decode cX11_person 0 = .ok (.aload_n 0, 1) := by decide +kernel
theorem dX11_person_1 : decode cX11_person 1 = .ok (.iload_n 1, 1) := by decide +kernel
theorem dX11_person_2 : decode cX11_person 2 = .ok (.invokevirtual 214, 3) := by decide +kernel
theorem dX11_person_5 : decode cX11_person 5 = .ok (.aload_n 0, 1) := by decide +kernel
theorem dX11_person_6 : decode cX11_person 6 = .ok (.iload_n 2, 1) := by decide +kernel
theorem dX11_person_7 : decode cX11_person 7 = .ok (.ifCond .lt 13, 3) := by decide +kernel
theorem dX11_person_10 : decode cX11_person 10 = .ok (.iload_n 2, 1) := by decide +kernel
theorem dX11_person_11 : decode cX11_person 11 = .ok (.bipush 7, 2) := by decide +kernel
theorem dX11_person_13 : decode cX11_person 13 = .ok (.if_icmp .gt 7, 3) := by decide +kernel
theorem dX11_person_16 : decode cX11_person 16 = .ok (.iconst 1, 1) := by decide +kernel
theorem dX11_person_17 : decode cX11_person 17 = .ok (.goto 4, 3) := by decide +kernel
theorem dX11_person_20 : decode cX11_person 20 = .ok (.iconst 0, 1) := by decide +kernel
theorem dX11_person_21 : decode cX11_person 21 = .ok (.invokevirtual 115, 3) := by decide +kernel
theorem dX11_person_24 : decode cX11_person 24 = .ok (.iload_n 2, 1) := by decide +kernel
theorem dX11_person_25 : decode cX11_person 25 = .ok (.tableswitch 126 0 6 #[43, 55, 67, 84, 96, 105, 114], 43) := by decide +kernel
theorem dX11_person_68 : decode cX11_person 68 = .ok (.aload_n 0, 1) := by decide +kernel
theorem dX11_person_69 : decode cX11_person 69 = .ok (.getfield 19, 3) := by decide +kernel
theorem dX11_person_72 : decode cX11_person 72 = .ok (.getfield 217, 3) := by decide +kernel
theorem dX11_person_75 : decode cX11_person 75 = .ok (.iload_n 1, 1) := by decide +kernel
theorem dX11_person_76 : decode cX11_person 76 = .ok (.invokestatic 221, 3) := by decide +kernel
theorem dX11_person_79 : decode cX11_person 79 = .ok (.ireturn, 1) := by decide +kernel
theorem dX11_person_80 : decode cX11_person 80 = .ok (.aload_n 0, 1) := by decide +kernel
theorem dX11_person_81 : decode cX11_person 81 = .ok (.getfield 65, 3) := by decide +kernel
theorem dX11_person_84 : decode cX11_person 84 = .ok (.getfield 227, 3) := by decide +kernel
theorem dX11_person_87 : decode cX11_person 87 = .ok (.iload_n 1, 1) := by decide +kernel
theorem dX11_person_88 : decode cX11_person 88 = .ok (.invokestatic 221, 3) := by decide +kernel
theorem dX11_person_91 : decode cX11_person 91 = .ok (.ireturn, 1) := by decide +kernel
theorem dX11_person_92 : decode cX11_person 92 = .ok (.aload_n 0, 1) := by decide +kernel
theorem dX11_person_93 : decode cX11_person 93 = .ok (.getfield 65, 3) := by decide +kernel
theorem dX11_person_96 : decode cX11_person 96 = .ok (.iload_n 1, 1) := by decide +kernel
theorem dX11_person_97 : decode cX11_person 97 = .ok (.invokevirtual 230, 3) := by decide +kernel
theorem dX11_person_100 : decode cX11_person 100 = .ok (.ifCond .eq 7, 3) := by decide +kernel
theorem dX11_person_103 : decode cX11_person 103 = .ok (.iconst 1, 1) := by decide +kernel
theorem dX11_person_104 : decode cX11_person 104 = .ok (.goto 4, 3) := by decide +kernel
theorem dX11_person_107 : decode cX11_person 107 = .ok (.iconst 0, 1) := by decide +kernel
theorem dX11_person_108 : decode cX11_person 108 = .ok (.ireturn, 1) := by decide +kernel
theorem dX11_person_109 : decode cX11_person 109 = .ok (.aload_n 0, 1) := by decide +kernel
theorem dX11_person_110 : decode cX11_person 110 = .ok (.getfield 65, 3) := by decide +kernel
theorem dX11_person_113 : decode cX11_person 113 = .ok (.getfield 234, 3) := by decide +kernel
theorem dX11_person_116 : decode cX11_person 116 = .ok (.iload_n 1, 1) := by decide +kernel
theorem dX11_person_117 : decode cX11_person 117 = .ok (.invokestatic 221, 3) := by decide +kernel
theorem dX11_person_120 : decode cX11_person 120 = .ok (.ireturn, 1) := by decide +kernel
theorem dX11_person_121 : decode cX11_person 121 = .ok (.aload_n 0, 1) := by decide +kernel
theorem dX11_person_122 : decode cX11_person 122 = .ok (.getfield 65, 3) := by decide +kernel
theorem dX11_person_125 : decode cX11_person 125 = .ok (.iload_n 1, 1) := by decide +kernel
theorem dX11_person_126 : decode cX11_person 126 = .ok (.invokevirtual 237, 3) := by decide +kernel
theorem dX11_person_129 : decode cX11_person 129 = .ok (.ireturn, 1) := by decide +kernel
theorem dX11_person_130 : decode cX11_person 130 = .ok (.aload_n 0, 1) := by decide +kernel
theorem dX11_person_131 : decode cX11_person 131 = .ok (.getfield 65, 3) := by decide +kernel
theorem dX11_person_134 : decode cX11_person 134 = .ok (.iload_n 1, 1) := by decide +kernel
theorem dX11_person_135 : decode cX11_person 135 = .ok (.invokevirtual 241, 3) := by decide +kernel
theorem dX11_person_138 : decode cX11_person 138 = .ok (.ireturn, 1) := by decide +kernel
theorem dX11_person_139 : decode cX11_person 139 = .ok (.aload_n 0, 1) := by decide +kernel
theorem dX11_person_140 : decode cX11_person 140 = .ok (.getfield 19, 3) := by decide +kernel
theorem dX11_person_143 : decode cX11_person 143 = .ok (.getfield 244, 3) := by decide +kernel
theorem dX11_person_146 : decode cX11_person 146 = .ok (.iload_n 1, 1) := by decide +kernel
theorem dX11_person_147 : decode cX11_person 147 = .ok (.invokestatic 221, 3) := by decide +kernel
theorem dX11_person_150 : decode cX11_person 150 = .ok (.ireturn, 1) := by decide +kernel
theorem dX11_person_151 : decode cX11_person 151 = .ok (.aload_n 0, 1) := by decide +kernel
theorem dX11_person_152 : decode cX11_person 152 = .ok (.getfield 65, 3) := by decide +kernel
theorem dX11_person_155 : decode cX11_person 155 = .ok (.getfield 247, 3) := by decide +kernel
theorem dX11_person_158 : decode cX11_person 158 = .ok (.iload_n 1, 1) := by decide +kernel
theorem dX11_person_159 : decode cX11_person 159 = .ok (.invokestatic 221, 3) := by decide +kernel
theorem dX11_person_162 : decode cX11_person 162 = .ok (.ireturn, 1) := by decide +kernel
theorem dX11_will_0 : decode cX11_will 0 = .ok (.aload_n 0, 1) := by decide +kernel
theorem dX11_will_1 : decode cX11_will 1 = .ok (.iload_n 1, 1) := by decide +kernel
theorem dX11_will_2 : decode cX11_will 2 = .ok (.invokevirtual 214, 3) := by decide +kernel
theorem dX11_will_5 : decode cX11_will 5 = .ok (.aload_n 0, 1) := by decide +kernel
theorem dX11_will_6 : decode cX11_will 6 = .ok (.iload_n 2, 1) := by decide +kernel
theorem dX11_will_7 : decode cX11_will 7 = .ok (.invokevirtual 214, 3) := by decide +kernel
theorem dX11_will_10 : decode cX11_will 10 = .ok (.aload_n 0, 1) := by decide +kernel
theorem dX11_will_11 : decode cX11_will 11 = .ok (.getfield 65, 3) := by decide +kernel
theorem dX11_will_14 : decode cX11_will 14 = .ok (.iload_n 1, 1) := by decide +kernel
theorem dX11_will_15 : decode cX11_will 15 = .ok (.iload_n 2, 1) := by decide +kernel
theorem dX11_will_16 : decode cX11_will 16 = .ok (.invokevirtual 250, 3) := by decide +kernel
theorem dX11_will_19 : decode cX11_will 19 = .ok (.ireturn, 1) := by decide +kernel
theorem dX11_lends_0 : decode cX11_lends 0 = .ok (.aload_n 0, 1) := by decide +kernel
theorem dX11_lends_1 : decode cX11_lends 1 = .ok (.iload_n 1, 1) := by decide +kernel
theorem dX11_lends_2 : decode cX11_lends 2 = .ok (.invokevirtual 214, 3) := by decide +kernel
theorem dX11_lends_5 : decode cX11_lends 5 = .ok (.aload_n 0, 1) := by decide +kernel
theorem dX11_lends_6 : decode cX11_lends 6 = .ok (.iload_n 2, 1) := by decide +kernel
theorem dX11_lends_7 : decode cX11_lends 7 = .ok (.invokevirtual 214, 3) := by decide +kernel
theorem dX11_lends_10 : decode cX11_lends 10 = .ok (.aload_n 0, 1) := by decide +kernel
theorem dX11_lends_11 : decode cX11_lends 11 = .ok (.getfield 65, 3) := by decide +kernel
theorem dX11_lends_14 : decode cX11_lends 14 = .ok (.iload_n 1, 1) := by decide +kernel
theorem dX11_lends_15 : decode cX11_lends 15 = .ok (.iload_n 2, 1) := by decide +kernel
theorem dX11_lends_16 : decode cX11_lends 16 = .ok (.invokevirtual 254, 3) := by decide +kernel
theorem dX11_lends_19 : decode cX11_lends 19 = .ok (.ireturn, 1) := by decide +kernel
theorem dX11_would_0 : decode cX11_would 0 = .ok (.aload_n 0, 1) := by decide +kernel
theorem dX11_would_1 : decode cX11_would 1 = .ok (.iload_n 1, 1) := by decide +kernel
theorem dX11_would_2 : decode cX11_would 2 = .ok (.ifCond .lt 24, 3) := by decide +kernel
theorem dX11_would_5 : decode cX11_would 5 = .ok (.iload_n 1, 1) := by decide +kernel
theorem dX11_would_6 : decode cX11_would 6 = .ok (.bipush 9, 2) := by decide +kernel
theorem dX11_would_8 : decode cX11_would 8 = .ok (.if_icmp .gt 18, 3) := by decide +kernel
theorem dX11_would_11 : decode cX11_would 11 = .ok (.iload_n 2, 1) := by decide +kernel
theorem dX11_would_12 : decode cX11_would 12 = .ok (.ifCond .lt 14, 3) := by decide +kernel
theorem dX11_would_15 : decode cX11_would 15 = .ok (.iload_n 2, 1) := by decide +kernel
theorem dX11_would_16 : decode cX11_would 16 = .ok (.sipush 999, 3) := by decide +kernel
theorem dX11_would_19 : decode cX11_would 19 = .ok (.if_icmp .gt 7, 3) := by decide +kernel
theorem dX11_would_22 : decode cX11_would 22 = .ok (.iconst 1, 1) := by decide +kernel
theorem dX11_would_23 : decode cX11_would 23 = .ok (.goto 4, 3) := by decide +kernel
theorem dX11_would_26 : decode cX11_would 26 = .ok (.iconst 0, 1) := by decide +kernel
theorem dX11_would_27 : decode cX11_would 27 = .ok (.invokevirtual 115, 3) := by decide +kernel
theorem dX11_would_30 : decode cX11_would 30 = .ok (.aload_n 0, 1) := by decide +kernel
theorem dX11_would_31 : decode cX11_would 31 = .ok (.iload_n 3, 1) := by decide +kernel
theorem dX11_would_32 : decode cX11_would 32 = .ok (.ifCond .lt 24, 3) := by decide +kernel
theorem dX11_would_35 : decode cX11_would 35 = .ok (.iload_n 3, 1) := by decide +kernel
theorem dX11_would_36 : decode cX11_would 36 = .ok (.bipush 8, 2) := by decide +kernel
theorem dX11_would_38 : decode cX11_would 38 = .ok (.if_icmp .gt 18, 3) := by decide +kernel
theorem dX11_would_41 : decode cX11_would 41 = .ok (.iload 4, 2) := by decide +kernel
theorem dX11_would_43 : decode cX11_would 43 = .ok (.ifCond .eq 9, 3) := by decide +kernel
theorem dX11_would_46 : decode cX11_would 46 = .ok (.iload 4, 2) := by decide +kernel
theorem dX11_would_48 : decode cX11_would 48 = .ok (.iconst 1, 1) := by decide +kernel
theorem dX11_would_49 : decode cX11_would 49 = .ok (.if_icmp .ne 7, 3) := by decide +kernel
theorem dX11_would_52 : decode cX11_would 52 = .ok (.iconst 1, 1) := by decide +kernel
theorem dX11_would_53 : decode cX11_would 53 = .ok (.goto 4, 3) := by decide +kernel
theorem dX11_would_56 : decode cX11_would 56 = .ok (.iconst 0, 1) := by decide +kernel
theorem dX11_would_57 : decode cX11_would 57 = .ok (.invokevirtual 115, 3) := by decide +kernel
theorem dX11_would_60 : decode cX11_would 60 = .ok (.aload_n 0, 1) := by decide +kernel
theorem dX11_would_61 : decode cX11_would 61 = .ok (.iload 5, 2) := by decide +kernel
theorem dX11_would_63 : decode cX11_would 63 = .ok (.ifCond .lt 27, 3) := by decide +kernel
theorem dX11_would_66 : decode cX11_would 66 = .ok (.iload 5, 2) := by decide +kernel
theorem dX11_would_68 : decode cX11_would 68 = .ok (.sipush 999, 3) := by decide +kernel
theorem dX11_would_71 : decode cX11_would 71 = .ok (.if_icmp .gt 19, 3) := by decide +kernel
theorem dX11_would_74 : decode cX11_would 74 = .ok (.iload 6, 2) := by decide +kernel
theorem dX11_would_76 : decode cX11_would 76 = .ok (.ifCond .lt 14, 3) := by decide +kernel
theorem dX11_would_79 : decode cX11_would 79 = .ok (.iload 6, 2) := by decide +kernel
theorem dX11_would_81 : decode cX11_would 81 = .ok (.bipush 8, 2) := by decide +kernel
theorem dX11_would_83 : decode cX11_would 83 = .ok (.if_icmp .gt 7, 3) := by decide +kernel
theorem dX11_would_86 : decode cX11_would 86 = .ok (.iconst 1, 1) := by decide +kernel
theorem dX11_would_87 : decode cX11_would 87 = .ok (.goto 4, 3) := by decide +kernel
theorem dX11_would_90 : decode cX11_would 90 = .ok (.iconst 0, 1) := by decide +kernel
theorem dX11_would_91 : decode cX11_would 91 = .ok (.invokevirtual 115, 3) := by decide +kernel
theorem dX11_would_94 : decode cX11_would 94 = .ok (.aload_n 0, 1) := by decide +kernel
theorem dX11_would_95 : decode cX11_would 95 = .ok (.iload 7, 2) := by decide +kernel
theorem dX11_would_97 : decode cX11_would 97 = .ok (.ifCond .lt 27, 3) := by decide +kernel
theorem dX11_would_100 : decode cX11_would 100 = .ok (.iload 7, 2) := by decide +kernel
theorem dX11_would_102 : decode cX11_would 102 = .ok (.sipush 900, 3) := by decide +kernel
theorem dX11_would_105 : decode cX11_would 105 = .ok (.if_icmp .gt 19, 3) := by decide +kernel
theorem dX11_would_108 : decode cX11_would 108 = .ok (.iload 8, 2) := by decide +kernel
theorem dX11_would_110 : decode cX11_would 110 = .ok (.ifCond .lt 14, 3) := by decide +kernel
theorem dX11_would_113 : decode cX11_would 113 = .ok (.iload 8, 2) := by decide +kernel
theorem dX11_would_115 : decode cX11_would 115 = .ok (.bipush 8, 2) := by decide +kernel
theorem dX11_would_117 : decode cX11_would 117 = .ok (.if_icmp .ge 7, 3) := by decide +kernel
theorem dX11_would_120 : decode cX11_would 120 = .ok (.iconst 1, 1) := by decide +kernel
theorem dX11_would_121 : decode cX11_would 121 = .ok (.goto 4, 3) := by decide +kernel
theorem dX11_would_124 : decode cX11_would 124 = .ok (.iconst 0, 1) := by decide +kernel
theorem dX11_would_125 : decode cX11_would 125 = .ok (.invokevirtual 115, 3) := by decide +kernel
theorem dX11_would_128 : decode cX11_would 128 = .ok (.aload_n 0, 1) := by decide +kernel
theorem dX11_would_129 : decode cX11_would 129 = .ok (.getfield 29, 3) := by decide +kernel
theorem dX11_would_132 : decode cX11_would 132 = .ok (.getfield 258, 3) := by decide +kernel
theorem dX11_would_135 : decode cX11_would 135 = .ok (.iconst 0, 1) := by decide +kernel
theorem dX11_would_136 : decode cX11_would 136 = .ok (.iload_n 1, 1) := by decide +kernel
theorem dX11_would_137 : decode cX11_would 137 = .ok (.invokestatic 261, 3) := by decide +kernel
theorem dX11_would_140 : decode cX11_would 140 = .ok (.aload_n 0, 1) := by decide +kernel
theorem dX11_would_141 : decode cX11_would 141 = .ok (.getfield 29, 3) := by decide +kernel
theorem dX11_would_144 : decode cX11_would 144 = .ok (.getfield 258, 3) := by decide +kernel
theorem dX11_would_147 : decode cX11_would 147 = .ok (.iconst 1, 1) := by decide +kernel
theorem dX11_would_148 : decode cX11_would 148 = .ok (.iload_n 2, 1) := by decide +kernel
theorem dX11_would_149 : decode cX11_would 149 = .ok (.invokestatic 261, 3) := by decide +kernel
theorem dX11_would_152 : decode cX11_would 152 = .ok (.aload_n 0, 1) := by decide +kernel
theorem dX11_would_153 : decode cX11_would 153 = .ok (.getfield 29, 3) := by decide +kernel
theorem dX11_would_156 : decode cX11_would 156 = .ok (.getfield 258, 3) := by decide +kernel
theorem dX11_would_159 : decode cX11_would 159 = .ok (.iconst 2, 1) := by decide +kernel
theorem dX11_would_160 : decode cX11_would 160 = .ok (.iload_n 3, 1) := by decide +kernel
theorem dX11_would_161 : decode cX11_would 161 = .ok (.invokestatic 261, 3) := by decide +kernel
theorem dX11_would_164 : decode cX11_would 164 = .ok (.aload_n 0, 1) := by decide +kernel
theorem dX11_would_165 : decode cX11_would 165 = .ok (.getfield 29, 3) := by decide +kernel
theorem dX11_would_168 : decode cX11_would 168 = .ok (.getfield 258, 3) := by decide +kernel
theorem dX11_would_171 : decode cX11_would 171 = .ok (.iconst 3, 1) := by decide +kernel
theorem dX11_would_172 : decode cX11_would 172 = .ok (.iload 4, 2) := by decide +kernel
theorem dX11_would_174 : decode cX11_would 174 = .ok (.invokestatic 261, 3) := by decide +kernel
theorem dX11_would_177 : decode cX11_would 177 = .ok (.aload_n 0, 1) := by decide +kernel
theorem dX11_would_178 : decode cX11_would 178 = .ok (.getfield 29, 3) := by decide +kernel
theorem dX11_would_181 : decode cX11_would 181 = .ok (.getfield 258, 3) := by decide +kernel
theorem dX11_would_184 : decode cX11_would 184 = .ok (.iconst 4, 1) := by decide +kernel
theorem dX11_would_185 : decode cX11_would 185 = .ok (.iload 5, 2) := by decide +kernel
theorem dX11_would_187 : decode cX11_would 187 = .ok (.invokestatic 261, 3) := by decide +kernel
theorem dX11_would_190 : decode cX11_would 190 = .ok (.aload_n 0, 1) := by decide +kernel
theorem dX11_would_191 : decode cX11_would 191 = .ok (.getfield 29, 3) := by decide +kernel
theorem dX11_would_194 : decode cX11_would 194 = .ok (.getfield 258, 3) := by decide +kernel
theorem dX11_would_197 : decode cX11_would 197 = .ok (.iconst 5, 1) := by decide +kernel
theorem dX11_would_198 : decode cX11_would 198 = .ok (.iload 6, 2) := by decide +kernel
theorem dX11_would_200 : decode cX11_would 200 = .ok (.invokestatic 261, 3) := by decide +kernel
theorem dX11_would_203 : decode cX11_would 203 = .ok (.aload_n 0, 1) := by decide +kernel
theorem dX11_would_204 : decode cX11_would 204 = .ok (.getfield 29, 3) := by decide +kernel
theorem dX11_would_207 : decode cX11_would 207 = .ok (.getfield 258, 3) := by decide +kernel
theorem dX11_would_210 : decode cX11_would 210 = .ok (.bipush 6, 2) := by decide +kernel
theorem dX11_would_212 : decode cX11_would 212 = .ok (.iload 7, 2) := by decide +kernel
theorem dX11_would_214 : decode cX11_would 214 = .ok (.invokestatic 261, 3) := by decide +kernel
theorem dX11_would_217 : decode cX11_would 217 = .ok (.aload_n 0, 1) := by decide +kernel
theorem dX11_would_218 : decode cX11_would 218 = .ok (.getfield 29, 3) := by decide +kernel
theorem dX11_would_221 : decode cX11_would 221 = .ok (.getfield 258, 3) := by decide +kernel
theorem dX11_would_224 : decode cX11_would 224 = .ok (.bipush 7, 2) := by decide +kernel
theorem dX11_would_226 : decode cX11_would 226 = .ok (.iload 8, 2) := by decide +kernel
theorem dX11_would_228 : decode cX11_would 228 = .ok (.invokestatic 261, 3) := by decide +kernel
theorem dX11_would_231 : decode cX11_would 231 = .ok (.aload_n 0, 1) := by decide +kernel
theorem dX11_would_232 : decode cX11_would 232 = .ok (.getfield 29, 3) := by decide +kernel
theorem dX11_would_235 : decode cX11_would 235 = .ok (.invokevirtual 265, 3) := by decide +kernel
theorem dX11_would_238 : decode cX11_would 238 = .ok (.ireturn, 1) := by decide +kernel
theorem dX11_lender_0 : decode cX11_lender 0 = .ok (.aload_n 0, 1) := by decide +kernel
theorem dX11_lender_1 : decode cX11_lender 1 = .ok (.iload_n 1, 1) := by decide +kernel
theorem dX11_lender_2 : decode cX11_lender 2 = .ok (.invokevirtual 214, 3) := by decide +kernel
theorem dX11_lender_5 : decode cX11_lender 5 = .ok (.aload_n 0, 1) := by decide +kernel
theorem dX11_lender_6 : decode cX11_lender 6 = .ok (.getfield 65, 3) := by decide +kernel
theorem dX11_lender_9 : decode cX11_lender 9 = .ok (.iload_n 1, 1) := by decide +kernel
theorem dX11_lender_10 : decode cX11_lender 10 = .ok (.invokevirtual 230, 3) := by decide +kernel
theorem dX11_lender_13 : decode cX11_lender 13 = .ok (.ifCond .eq 14, 3) := by decide +kernel
theorem dX11_lender_16 : decode cX11_lender 16 = .ok (.aload_n 0, 1) := by decide +kernel
theorem dX11_lender_17 : decode cX11_lender 17 = .ok (.getfield 65, 3) := by decide +kernel
theorem dX11_lender_20 : decode cX11_lender 20 = .ok (.iload_n 1, 1) := by decide +kernel
theorem dX11_lender_21 : decode cX11_lender 21 = .ok (.invokevirtual 268, 3) := by decide +kernel
theorem dX11_lender_24 : decode cX11_lender 24 = .ok (.goto 4, 3) := by decide +kernel
theorem dX11_lender_27 : decode cX11_lender 27 = .ok (.iconst (-1), 1) := by decide +kernel
theorem dX11_lender_28 : decode cX11_lender 28 = .ok (.ireturn, 1) := by decide +kernel
theorem dX11_ahead_0 : decode cX11_ahead 0 = .ok (.aload_n 0, 1) := by decide +kernel
theorem dX11_ahead_1 : decode cX11_ahead 1 = .ok (.iload_n 1, 1) := by decide +kernel
theorem dX11_ahead_2 : decode cX11_ahead 2 = .ok (.ifCond .lt 22, 3) := by decide +kernel
theorem dX11_ahead_5 : decode cX11_ahead 5 = .ok (.iload_n 1, 1) := by decide +kernel
theorem dX11_ahead_6 : decode cX11_ahead 6 = .ok (.bipush 99, 2) := by decide +kernel
theorem dX11_ahead_8 : decode cX11_ahead 8 = .ok (.if_icmp .gt 16, 3) := by decide +kernel
theorem dX11_ahead_11 : decode cX11_ahead 11 = .ok (.iload_n 2, 1) := by decide +kernel
theorem dX11_ahead_12 : decode cX11_ahead 12 = .ok (.ifCond .lt 12, 3) := by decide +kernel
theorem dX11_ahead_15 : decode cX11_ahead 15 = .ok (.iload_n 2, 1) := by decide +kernel
theorem dX11_ahead_16 : decode cX11_ahead 16 = .ok (.iconst 2, 1) := by decide +kernel
theorem dX11_ahead_17 : decode cX11_ahead 17 = .ok (.if_icmp .gt 7, 3) := by decide +kernel
theorem dX11_ahead_20 : decode cX11_ahead 20 = .ok (.iconst 1, 1) := by decide +kernel
theorem dX11_ahead_21 : decode cX11_ahead 21 = .ok (.goto 4, 3) := by decide +kernel
theorem dX11_ahead_24 : decode cX11_ahead 24 = .ok (.iconst 0, 1) := by decide +kernel
theorem dX11_ahead_25 : decode cX11_ahead 25 = .ok (.invokevirtual 115, 3) := by decide +kernel
theorem dX11_ahead_28 : decode cX11_ahead 28 = .ok (.aload_n 0, 1) := by decide +kernel
theorem dX11_ahead_29 : decode cX11_ahead 29 = .ok (.getfield 69, 3) := by decide +kernel
theorem dX11_ahead_32 : decode cX11_ahead 32 = .ok (.aload_n 0, 1) := by decide +kernel
theorem dX11_ahead_33 : decode cX11_ahead 33 = .ok (.getfield 65, 3) := by decide +kernel
theorem dX11_ahead_36 : decode cX11_ahead 36 = .ok (.invokevirtual 271, 3) := by decide +kernel
theorem dX11_ahead_39 : decode cX11_ahead 39 = .ok (.iconst 0, 1) := by decide +kernel
theorem dX11_ahead_40 : decode cX11_ahead 40 = .ok (.istore_n 3, 1) := by decide +kernel
theorem dX11_ahead_41 : decode cX11_ahead 41 = .ok (.iload_n 3, 1) := by decide +kernel
theorem dX11_ahead_42 : decode cX11_ahead 42 = .ok (.iload_n 1, 1) := by decide +kernel
theorem dX11_ahead_43 : decode cX11_ahead 43 = .ok (.if_icmp .ge 16, 3) := by decide +kernel
theorem dX11_ahead_46 : decode cX11_ahead 46 = .ok (.aload_n 0, 1) := by decide +kernel
theorem dX11_ahead_47 : decode cX11_ahead 47 = .ok (.getfield 69, 3) := by decide +kernel
theorem dX11_ahead_50 : decode cX11_ahead 50 = .ok (.invokevirtual 273, 3) := by decide +kernel
theorem dX11_ahead_53 : decode cX11_ahead 53 = .ok (.iinc 3 1, 3) := by decide +kernel
theorem dX11_ahead_56 : decode cX11_ahead 56 = .ok (.goto (-15), 3) := by decide +kernel
theorem dX11_ahead_59 : decode cX11_ahead 59 = .ok (.iload_n 2, 1) := by decide +kernel
theorem dX11_ahead_60 : decode cX11_ahead 60 = .ok (.lookupswitch 44 #[(0, 28), (1, 36)], 28) := by decide +kernel
theorem dX11_ahead_88 : decode cX11_ahead 88 = .ok (.aload_n 0, 1) := by decide +kernel
theorem dX11_ahead_89 : decode cX11_ahead 89 = .ok (.getfield 69, 3) := by decide +kernel
theorem dX11_ahead_92 : decode cX11_ahead 92 = .ok (.invokevirtual 199, 3) := by decide +kernel
theorem dX11_ahead_95 : decode cX11_ahead 95 = .ok (.ireturn, 1) := by decide +kernel
theorem dX11_ahead_96 : decode cX11_ahead 96 = .ok (.aload_n 0, 1) := by decide +kernel
theorem dX11_ahead_97 : decode cX11_ahead 97 = .ok (.getfield 69, 3) := by decide +kernel
theorem dX11_ahead_100 : decode cX11_ahead 100 = .ok (.invokevirtual 276, 3) := by decide +kernel
theorem dX11_ahead_103 : decode cX11_ahead 103 = .ok (.ireturn, 1) := by decide +kernel
theorem dX11_ahead_104 : decode cX11_ahead 104 = .ok (.aload_n 0, 1) := by decide +kernel
theorem dX11_ahead_105 : decode cX11_ahead 105 = .ok (.getfield 69, 3) := by decide +kernel
theorem dX11_ahead_108 : decode cX11_ahead 108 = .ok (.invokevirtual 279, 3) := by decide +kernel
theorem dX11_ahead_111 : decode cX11_ahead 111 = .ok (.ireturn, 1) := by decide +kernel
theorem dX11_truly_0 : decode cX11_truly 0 = .ok (.aload_n 0, 1) := by decide +kernel
theorem dX11_truly_1 : decode cX11_truly 1 = .ok (.iload_n 1, 1) := by decide +kernel
theorem dX11_truly_2 : decode cX11_truly 2 = .ok (.invokevirtual 214, 3) := by decide +kernel
theorem dX11_truly_5 : decode cX11_truly 5 = .ok (.aload_n 0, 1) := by decide +kernel
theorem dX11_truly_6 : decode cX11_truly 6 = .ok (.getfield 65, 3) := by decide +kernel
theorem dX11_truly_9 : decode cX11_truly 9 = .ok (.iload_n 1, 1) := by decide +kernel
theorem dX11_truly_10 : decode cX11_truly 10 = .ok (.invokevirtual 282, 3) := by decide +kernel
theorem dX11_truly_13 : decode cX11_truly 13 = .ok (.ireturn, 1) := by decide +kernel
theorem dX11_chain_0 : decode cX11_chain 0 = .ok (.aload_n 0, 1) := by decide +kernel
theorem dX11_chain_1 : decode cX11_chain 1 = .ok (.iload_n 1, 1) := by decide +kernel
theorem dX11_chain_2 : decode cX11_chain 2 = .ok (.invokevirtual 214, 3) := by decide +kernel
theorem dX11_chain_5 : decode cX11_chain 5 = .ok (.aload_n 0, 1) := by decide +kernel
theorem dX11_chain_6 : decode cX11_chain 6 = .ok (.getfield 65, 3) := by decide +kernel
theorem dX11_chain_9 : decode cX11_chain 9 = .ok (.iload_n 1, 1) := by decide +kernel
theorem dX11_chain_10 : decode cX11_chain 10 = .ok (.invokevirtual 285, 3) := by decide +kernel
theorem dX11_chain_13 : decode cX11_chain 13 = .ok (.ireturn, 1) := by decide +kernel
theorem dX11_served_0 : decode cX11_served 0 = .ok (.aload_n 0, 1) := by decide +kernel
theorem dX11_served_1 : decode cX11_served 1 = .ok (.aload_n 0, 1) := by decide +kernel
theorem dX11_served_2 : decode cX11_served 2 = .ok (.iload_n 1, 1) := by decide +kernel
theorem dX11_served_3 : decode cX11_served 3 = .ok (.invokevirtual 288, 3) := by decide +kernel
theorem dX11_served_6 : decode cX11_served 6 = .ok (.ifCond .eq 16, 3) := by decide +kernel
theorem dX11_served_9 : decode cX11_served 9 = .ok (.iload_n 2, 1) := by decide +kernel
theorem dX11_served_10 : decode cX11_served 10 = .ok (.ifCond .eq 8, 3) := by decide +kernel
theorem dX11_served_13 : decode cX11_served 13 = .ok (.iload_n 2, 1) := by decide +kernel
theorem dX11_served_14 : decode cX11_served 14 = .ok (.iconst 1, 1) := by decide +kernel
theorem dX11_served_15 : decode cX11_served 15 = .ok (.if_icmp .ne 7, 3) := by decide +kernel
theorem dX11_served_18 : decode cX11_served 18 = .ok (.iconst 1, 1) := by decide +kernel
theorem dX11_served_19 : decode cX11_served 19 = .ok (.goto 4, 3) := by decide +kernel
theorem dX11_served_22 : decode cX11_served 22 = .ok (.iconst 0, 1) := by decide +kernel
theorem dX11_served_23 : decode cX11_served 23 = .ok (.invokevirtual 115, 3) := by decide +kernel
theorem dX11_served_26 : decode cX11_served 26 = .ok (.aload_n 0, 1) := by decide +kernel
theorem dX11_served_27 : decode cX11_served 27 = .ok (.getfield 89, 3) := by decide +kernel
theorem dX11_served_30 : decode cX11_served 30 = .ok (.aload_n 0, 1) := by decide +kernel
theorem dX11_served_31 : decode cX11_served 31 = .ok (.getfield 65, 3) := by decide +kernel
theorem dX11_served_34 : decode cX11_served 34 = .ok (.iload_n 1, 1) := by decide +kernel
theorem dX11_served_35 : decode cX11_served 35 = .ok (.invokevirtual 291, 3) := by decide +kernel
theorem dX11_served_38 : decode cX11_served 38 = .ok (.iload_n 2, 1) := by decide +kernel
theorem dX11_served_39 : decode cX11_served 39 = .ok (.ifCond .ne 13, 3) := by decide +kernel
theorem dX11_served_42 : decode cX11_served 42 = .ok (.aload_n 0, 1) := by decide +kernel
theorem dX11_served_43 : decode cX11_served 43 = .ok (.getfield 89, 3) := by decide +kernel
theorem dX11_served_46 : decode cX11_served 46 = .ok (.getfield 295, 3) := by decide +kernel
theorem dX11_served_49 : decode cX11_served 49 = .ok (.goto 10, 3) := by decide +kernel
theorem dX11_served_52 : decode cX11_served 52 = .ok (.aload_n 0, 1) := by decide +kernel
theorem dX11_served_53 : decode cX11_served 53 = .ok (.getfield 89, 3) := by decide +kernel
theorem dX11_served_56 : decode cX11_served 56 = .ok (.getfield 298, 3) := by decide +kernel
theorem dX11_served_59 : decode cX11_served 59 = .ok (.ireturn, 1) := by decide +kernel
theorem dX11_giver_0 : decode cX11_giver 0 = .ok (.aload_n 0, 1) := by decide +kernel
theorem dX11_giver_1 : decode cX11_giver 1 = .ok (.iload_n 1, 1) := by decide +kernel
theorem dX11_giver_2 : decode cX11_giver 2 = .ok (.invokevirtual 214, 3) := by decide +kernel
theorem dX11_giver_5 : decode cX11_giver 5 = .ok (.aload_n 0, 1) := by decide +kernel
theorem dX11_giver_6 : decode cX11_giver 6 = .ok (.aload_n 0, 1) := by decide +kernel
theorem dX11_giver_7 : decode cX11_giver 7 = .ok (.iload_n 2, 1) := by decide +kernel
theorem dX11_giver_8 : decode cX11_giver 8 = .ok (.invokevirtual 288, 3) := by decide +kernel
theorem dX11_giver_11 : decode cX11_giver 11 = .ok (.invokevirtual 115, 3) := by decide +kernel
theorem dX11_giver_14 : decode cX11_giver 14 = .ok (.aload_n 0, 1) := by decide +kernel
theorem dX11_giver_15 : decode cX11_giver 15 = .ok (.getfield 89, 3) := by decide +kernel
theorem dX11_giver_18 : decode cX11_giver 18 = .ok (.aload_n 0, 1) := by decide +kernel
theorem dX11_giver_19 : decode cX11_giver 19 = .ok (.getfield 65, 3) := by decide +kernel
theorem dX11_giver_22 : decode cX11_giver 22 = .ok (.iload_n 2, 1) := by decide +kernel
theorem dX11_giver_23 : decode cX11_giver 23 = .ok (.invokevirtual 291, 3) := by decide +kernel
theorem dX11_giver_26 : decode cX11_giver 26 = .ok (.aload_n 0, 1) := by decide +kernel
theorem dX11_giver_27 : decode cX11_giver 27 = .ok (.getfield 89, 3) := by decide +kernel
theorem dX11_giver_30 : decode cX11_giver 30 = .ok (.iload_n 1, 1) := by decide +kernel
theorem dX11_giver_31 : decode cX11_giver 31 = .ok (.invokevirtual 301, 3) := by decide +kernel
theorem dX11_giver_34 : decode cX11_giver 34 = .ok (.ireturn, 1) := by decide +kernel
theorem dX11_order_0 : decode cX11_order 0 = .ok (.aload_n 0, 1) := by decide +kernel
theorem dX11_order_1 : decode cX11_order 1 = .ok (.iload_n 1, 1) := by decide +kernel
theorem dX11_order_2 : decode cX11_order 2 = .ok (.iload_n 2, 1) := by decide +kernel
theorem dX11_order_3 : decode cX11_order 3 = .ok (.invokevirtual 304, 3) := by decide +kernel
theorem dX11_order_6 : decode cX11_order 6 = .ok (.aload_n 0, 1) := by decide +kernel
theorem dX11_order_7 : decode cX11_order 7 = .ok (.invokevirtual 308, 3) := by decide +kernel
theorem dX11_order_10 : decode cX11_order 10 = .ok (.iload_n 2, 1) := by decide +kernel
theorem dX11_order_11 : decode cX11_order 11 = .ok (.ifCond .ne 24, 3) := by decide +kernel
theorem dX11_order_14 : decode cX11_order 14 = .ok (.aload_n 0, 1) := by decide +kernel
theorem dX11_order_15 : decode cX11_order 15 = .ok (.getfield 82, 3) := by decide +kernel
theorem dX11_order_18 : decode cX11_order 18 = .ok (.getfield 311, 3) := by decide +kernel
theorem dX11_order_21 : decode cX11_order 21 = .ok (.aload_n 0, 1) := by decide +kernel
theorem dX11_order_22 : decode cX11_order 22 = .ok (.getfield 65, 3) := by decide +kernel
theorem dX11_order_25 : decode cX11_order 25 = .ok (.invokevirtual 190, 3) := by decide +kernel
theorem dX11_order_28 : decode cX11_order 28 = .ok (.invokestatic 314, 3) := by decide +kernel
theorem dX11_order_31 : decode cX11_order 31 = .ok (.isub, 1) := by decide +kernel
theorem dX11_order_32 : decode cX11_order 32 = .ok (.goto 10, 3) := by decide +kernel
theorem dX11_order_35 : decode cX11_order 35 = .ok (.aload_n 0, 1) := by decide +kernel
theorem dX11_order_36 : decode cX11_order 36 = .ok (.getfield 82, 3) := by decide +kernel
theorem dX11_order_39 : decode cX11_order 39 = .ok (.getfield 319, 3) := by decide +kernel
theorem dX11_order_42 : decode cX11_order 42 = .ok (.ireturn, 1) := by decide +kernel
theorem dX11_fits_0 : decode cX11_fits 0 = .ok (.aload_n 0, 1) := by decide +kernel
theorem dX11_fits_1 : decode cX11_fits 1 = .ok (.iload_n 1, 1) := by decide +kernel
theorem dX11_fits_2 : decode cX11_fits 2 = .ok (.iload_n 2, 1) := by decide +kernel
theorem dX11_fits_3 : decode cX11_fits 3 = .ok (.invokevirtual 304, 3) := by decide +kernel
theorem dX11_fits_6 : decode cX11_fits 6 = .ok (.aload_n 0, 1) := by decide +kernel
theorem dX11_fits_7 : decode cX11_fits 7 = .ok (.invokevirtual 308, 3) := by decide +kernel
theorem dX11_fits_10 : decode cX11_fits 10 = .ok (.iload_n 2, 1) := by decide +kernel
theorem dX11_fits_11 : decode cX11_fits 11 = .ok (.ifCond .ne 13, 3) := by decide +kernel
theorem dX11_fits_14 : decode cX11_fits 14 = .ok (.aload_n 0, 1) := by decide +kernel
theorem dX11_fits_15 : decode cX11_fits 15 = .ok (.getfield 82, 3) := by decide +kernel
theorem dX11_fits_18 : decode cX11_fits 18 = .ok (.getfield 322, 3) := by decide +kernel
theorem dX11_fits_21 : decode cX11_fits 21 = .ok (.goto 10, 3) := by decide +kernel
theorem dX11_fits_24 : decode cX11_fits 24 = .ok (.aload_n 0, 1) := by decide +kernel
theorem dX11_fits_25 : decode cX11_fits 25 = .ok (.getfield 82, 3) := by decide +kernel
theorem dX11_fits_28 : decode cX11_fits 28 = .ok (.getfield 325, 3) := by decide +kernel
theorem dX11_fits_31 : decode cX11_fits 31 = .ok (.ireturn, 1) := by decide +kernel
theorem dX11_look_0 : decode cX11_look 0 = .ok (.aload_n 0, 1) := by decide +kernel
theorem dX11_look_1 : decode cX11_look 1 = .ok (.iload_n 1, 1) := by decide +kernel
theorem dX11_look_2 : decode cX11_look 2 = .ok (.iload_n 2, 1) := by decide +kernel
theorem dX11_look_3 : decode cX11_look 3 = .ok (.invokevirtual 304, 3) := by decide +kernel
theorem dX11_look_6 : decode cX11_look 6 = .ok (.aload_n 0, 1) := by decide +kernel
theorem dX11_look_7 : decode cX11_look 7 = .ok (.invokevirtual 308, 3) := by decide +kernel
theorem dX11_look_10 : decode cX11_look 10 = .ok (.iconst (-1), 1) := by decide +kernel
theorem dX11_look_11 : decode cX11_look 11 = .ok (.istore_n 3, 1) := by decide +kernel
theorem dX11_look_12 : decode cX11_look 12 = .ok (.iconst (-1), 1) := by decide +kernel
theorem dX11_look_13 : decode cX11_look 13 = .ok (.istore 4, 2) := by decide +kernel
theorem dX11_look_15 : decode cX11_look 15 = .ok (.iconst 0, 1) := by decide +kernel
theorem dX11_look_16 : decode cX11_look 16 = .ok (.istore 5, 2) := by decide +kernel
theorem dX11_look_18 : decode cX11_look 18 = .ok (.iload 5, 2) := by decide +kernel
theorem dX11_look_20 : decode cX11_look 20 = .ok (.aload_n 0, 1) := by decide +kernel
theorem dX11_look_21 : decode cX11_look 21 = .ok (.getfield 19, 3) := by decide +kernel
theorem dX11_look_24 : decode cX11_look 24 = .ok (.getfield 143, 3) := by decide +kernel
theorem dX11_look_27 : decode cX11_look 27 = .ok (.if_icmp .ge 51, 3) := by decide +kernel
theorem dX11_look_30 : decode cX11_look 30 = .ok (.aload_n 0, 1) := by decide +kernel
theorem dX11_look_31 : decode cX11_look 31 = .ok (.getfield 53, 3) := by decide +kernel
theorem dX11_look_34 : decode cX11_look 34 = .ok (.iload 5, 2) := by decide +kernel
theorem dX11_look_36 : decode cX11_look 36 = .ok (.invokevirtual 328, 3) := by decide +kernel
theorem dX11_look_39 : decode cX11_look 39 = .ok (.ifCond .ne 33, 3) := by decide +kernel
theorem dX11_look_42 : decode cX11_look 42 = .ok (.aload_n 0, 1) := by decide +kernel
theorem dX11_look_43 : decode cX11_look 43 = .ok (.getfield 82, 3) := by decide +kernel
theorem dX11_look_46 : decode cX11_look 46 = .ok (.iload 5, 2) := by decide +kernel
theorem dX11_look_48 : decode cX11_look 48 = .ok (.invokevirtual 331, 3) := by decide +kernel
theorem dX11_look_51 : decode cX11_look 51 = .ok (.istore 6, 2) := by decide +kernel
theorem dX11_look_53 : decode cX11_look 53 = .ok (.iload_n 3, 1) := by decide +kernel
theorem dX11_look_54 : decode cX11_look 54 = .ok (.iconst (-1), 1) := by decide +kernel
theorem dX11_look_55 : decode cX11_look 55 = .ok (.if_icmp .eq 10, 3) := by decide +kernel
theorem dX11_look_58 : decode cX11_look 58 = .ok (.iload 6, 2) := by decide +kernel
theorem dX11_look_60 : decode cX11_look 60 = .ok (.iload 4, 2) := by decide +kernel
theorem dX11_look_62 : decode cX11_look 62 = .ok (.if_icmp .ge 10, 3) := by decide +kernel
theorem dX11_look_65 : decode cX11_look 65 = .ok (.iload 5, 2) := by decide +kernel
theorem dX11_look_67 : decode cX11_look 67 = .ok (.istore_n 3, 1) := by decide +kernel
theorem dX11_look_68 : decode cX11_look 68 = .ok (.iload 6, 2) := by decide +kernel
theorem dX11_look_70 : decode cX11_look 70 = .ok (.istore 4, 2) := by decide +kernel
theorem dX11_look_72 : decode cX11_look 72 = .ok (.iinc 5 1, 3) := by decide +kernel
theorem dX11_look_75 : decode cX11_look 75 = .ok (.goto (-57), 3) := by decide +kernel
theorem dX11_look_78 : decode cX11_look 78 = .ok (.iload_n 2, 1) := by decide +kernel
theorem dX11_look_79 : decode cX11_look 79 = .ok (.ifCond .ne 7, 3) := by decide +kernel
theorem dX11_look_82 : decode cX11_look 82 = .ok (.iload_n 3, 1) := by decide +kernel
theorem dX11_look_83 : decode cX11_look 83 = .ok (.goto 5, 3) := by decide +kernel
theorem dX11_look_86 : decode cX11_look 86 = .ok (.iload 4, 2) := by decide +kernel
theorem dX11_look_88 : decode cX11_look 88 = .ok (.ireturn, 1) := by decide +kernel
theorem dX11_neighbours_0 : decode cX11_neighbours 0 = .ok (.aload_n 0, 1) := by decide +kernel
theorem dX11_neighbours_1 : decode cX11_neighbours 1 = .ok (.iload_n 1, 1) := by decide +kernel
theorem dX11_neighbours_2 : decode cX11_neighbours 2 = .ok (.ifCond .lt 32, 3) := by decide +kernel
theorem dX11_neighbours_5 : decode cX11_neighbours 5 = .ok (.iload_n 1, 1) := by decide +kernel
theorem dX11_neighbours_6 : decode cX11_neighbours 6 = .ok (.bipush 99, 2) := by decide +kernel
theorem dX11_neighbours_8 : decode cX11_neighbours 8 = .ok (.if_icmp .gt 26, 3) := by decide +kernel
theorem dX11_neighbours_11 : decode cX11_neighbours 11 = .ok (.iload_n 2, 1) := by decide +kernel
theorem dX11_neighbours_12 : decode cX11_neighbours 12 = .ok (.ifCond .lt 22, 3) := by decide +kernel
theorem dX11_neighbours_15 : decode cX11_neighbours 15 = .ok (.iload_n 2, 1) := by decide +kernel
theorem dX11_neighbours_16 : decode cX11_neighbours 16 = .ok (.bipush 99, 2) := by decide +kernel
theorem dX11_neighbours_18 : decode cX11_neighbours 18 = .ok (.if_icmp .gt 16, 3) := by decide +kernel
theorem dX11_neighbours_21 : decode cX11_neighbours 21 = .ok (.iload_n 3, 1) := by decide +kernel
theorem dX11_neighbours_22 : decode cX11_neighbours 22 = .ok (.ifCond .lt 12, 3) := by decide +kernel
theorem dX11_neighbours_25 : decode cX11_neighbours 25 = .ok (.iload_n 3, 1) := by decide +kernel
theorem dX11_neighbours_26 : decode cX11_neighbours 26 = .ok (.iconst 2, 1) := by decide +kernel
theorem dX11_neighbours_27 : decode cX11_neighbours 27 = .ok (.if_icmp .gt 7, 3) := by decide +kernel
theorem dX11_neighbours_30 : decode cX11_neighbours 30 = .ok (.iconst 1, 1) := by decide +kernel
theorem dX11_neighbours_31 : decode cX11_neighbours 31 = .ok (.goto 4, 3) := by decide +kernel
theorem dX11_neighbours_34 : decode cX11_neighbours 34 = .ok (.iconst 0, 1) := by decide +kernel
theorem dX11_neighbours_35 : decode cX11_neighbours 35 = .ok (.invokevirtual 115, 3) := by decide +kernel
theorem dX11_neighbours_38 : decode cX11_neighbours 38 = .ok (.iconst 0, 1) := by decide +kernel
theorem dX11_neighbours_39 : decode cX11_neighbours 39 = .ok (.istore 4, 2) := by decide +kernel
theorem dX11_neighbours_41 : decode cX11_neighbours 41 = .ok (.iconst (-1), 1) := by decide +kernel
theorem dX11_neighbours_42 : decode cX11_neighbours 42 = .ok (.istore 5, 2) := by decide +kernel
theorem dX11_neighbours_44 : decode cX11_neighbours 44 = .ok (.iconst 0, 1) := by decide +kernel
theorem dX11_neighbours_45 : decode cX11_neighbours 45 = .ok (.istore 6, 2) := by decide +kernel
theorem dX11_neighbours_47 : decode cX11_neighbours 47 = .ok (.iconst 0, 1) := by decide +kernel
theorem dX11_neighbours_48 : decode cX11_neighbours 48 = .ok (.istore 7, 2) := by decide +kernel
theorem dX11_neighbours_50 : decode cX11_neighbours 50 = .ok (.iload 7, 2) := by decide +kernel
theorem dX11_neighbours_52 : decode cX11_neighbours 52 = .ok (.iconst 4, 1) := by decide +kernel
theorem dX11_neighbours_53 : decode cX11_neighbours 53 = .ok (.if_icmp .ge 131, 3) := by decide +kernel
theorem dX11_neighbours_56 : decode cX11_neighbours 56 = .ok (.iload 7, 2) := by decide +kernel
theorem dX11_neighbours_58 : decode cX11_neighbours 58 = .ok (.iconst 1, 1) := by decide +kernel
theorem dX11_neighbours_59 : decode cX11_neighbours 59 = .ok (.ishr, 1) := by decide +kernel
theorem dX11_neighbours_60 : decode cX11_neighbours 60 = .ok (.istore 8, 2) := by decide +kernel
theorem dX11_neighbours_62 : decode cX11_neighbours 62 = .ok (.iload 7, 2) := by decide +kernel
theorem dX11_neighbours_64 : decode cX11_neighbours 64 = .ok (.iconst 1, 1) := by decide +kernel
theorem dX11_neighbours_65 : decode cX11_neighbours 65 = .ok (.iand, 1) := by decide +kernel
theorem dX11_neighbours_66 : decode cX11_neighbours 66 = .ok (.istore 9, 2) := by decide +kernel
theorem dX11_neighbours_68 : decode cX11_neighbours 68 = .ok (.iload 8, 2) := by decide +kernel
theorem dX11_neighbours_70 : decode cX11_neighbours 70 = .ok (.iload 9, 2) := by decide +kernel
theorem dX11_neighbours_72 : decode cX11_neighbours 72 = .ok (.iload_n 1, 1) := by decide +kernel
theorem dX11_neighbours_73 : decode cX11_neighbours 73 = .ok (.iload_n 2, 1) := by decide +kernel
theorem dX11_neighbours_74 : decode cX11_neighbours 74 = .ok (.invokestatic 334, 3) := by decide +kernel
theorem dX11_neighbours_77 : decode cX11_neighbours 77 = .ok (.iconst 1, 1) := by decide +kernel
theorem dX11_neighbours_78 : decode cX11_neighbours 78 = .ok (.iload 8, 2) := by decide +kernel
theorem dX11_neighbours_80 : decode cX11_neighbours 80 = .ok (.isub, 1) := by decide +kernel
theorem dX11_neighbours_81 : decode cX11_neighbours 81 = .ok (.iload 9, 2) := by decide +kernel
theorem dX11_neighbours_83 : decode cX11_neighbours 83 = .ok (.iload_n 1, 1) := by decide +kernel
theorem dX11_neighbours_84 : decode cX11_neighbours 84 = .ok (.iload_n 2, 1) := by decide +kernel
theorem dX11_neighbours_85 : decode cX11_neighbours 85 = .ok (.invokestatic 334, 3) := by decide +kernel
theorem dX11_neighbours_88 : decode cX11_neighbours 88 = .ok (.if_icmp .lt 7, 3) := by decide +kernel
theorem dX11_neighbours_91 : decode cX11_neighbours 91 = .ok (.iconst 1, 1) := by decide +kernel
theorem dX11_neighbours_92 : decode cX11_neighbours 92 = .ok (.goto 4, 3) := by decide +kernel
theorem dX11_neighbours_95 : decode cX11_neighbours 95 = .ok (.iconst 0, 1) := by decide +kernel
theorem dX11_neighbours_96 : decode cX11_neighbours 96 = .ok (.istore 10, 2) := by decide +kernel
theorem dX11_neighbours_98 : decode cX11_neighbours 98 = .ok (.iload 9, 2) := by decide +kernel
theorem dX11_neighbours_100 : decode cX11_neighbours 100 = .ok (.iload 8, 2) := by decide +kernel
theorem dX11_neighbours_102 : decode cX11_neighbours 102 = .ok (.iload_n 1, 1) := by decide +kernel
theorem dX11_neighbours_103 : decode cX11_neighbours 103 = .ok (.iload_n 2, 1) := by decide +kernel
theorem dX11_neighbours_104 : decode cX11_neighbours 104 = .ok (.invokestatic 334, 3) := by decide +kernel
theorem dX11_neighbours_107 : decode cX11_neighbours 107 = .ok (.iconst 1, 1) := by decide +kernel
theorem dX11_neighbours_108 : decode cX11_neighbours 108 = .ok (.iload 9, 2) := by decide +kernel
theorem dX11_neighbours_110 : decode cX11_neighbours 110 = .ok (.isub, 1) := by decide +kernel
theorem dX11_neighbours_111 : decode cX11_neighbours 111 = .ok (.iload 8, 2) := by decide +kernel
theorem dX11_neighbours_113 : decode cX11_neighbours 113 = .ok (.iload_n 1, 1) := by decide +kernel
theorem dX11_neighbours_114 : decode cX11_neighbours 114 = .ok (.iload_n 2, 1) := by decide +kernel
theorem dX11_neighbours_115 : decode cX11_neighbours 115 = .ok (.invokestatic 334, 3) := by decide +kernel
theorem dX11_neighbours_118 : decode cX11_neighbours 118 = .ok (.if_icmp .lt 7, 3) := by decide +kernel
theorem dX11_neighbours_121 : decode cX11_neighbours 121 = .ok (.iconst 1, 1) := by decide +kernel
theorem dX11_neighbours_122 : decode cX11_neighbours 122 = .ok (.goto 4, 3) := by decide +kernel
theorem dX11_neighbours_125 : decode cX11_neighbours 125 = .ok (.iconst 0, 1) := by decide +kernel
theorem dX11_neighbours_126 : decode cX11_neighbours 126 = .ok (.istore 11, 2) := by decide +kernel
theorem dX11_neighbours_128 : decode cX11_neighbours 128 = .ok (.iload 10, 2) := by decide +kernel
theorem dX11_neighbours_130 : decode cX11_neighbours 130 = .ok (.ifCond .eq 48, 3) := by decide +kernel
theorem dX11_neighbours_133 : decode cX11_neighbours 133 = .ok (.iload 11, 2) := by decide +kernel
theorem dX11_neighbours_135 : decode cX11_neighbours 135 = .ok (.ifCond .eq 43, 3) := by decide +kernel
theorem dX11_neighbours_138 : decode cX11_neighbours 138 = .ok (.iinc 4 1, 3) := by decide +kernel
theorem dX11_neighbours_141 : decode cX11_neighbours 141 = .ok (.iload 5, 2) := by decide +kernel
theorem dX11_neighbours_143 : decode cX11_neighbours 143 = .ok (.iconst (-1), 1) := by decide +kernel
theorem dX11_neighbours_144 : decode cX11_neighbours 144 = .ok (.if_icmp .ne 34, 3) := by decide +kernel
theorem dX11_neighbours_147 : decode cX11_neighbours 147 = .ok (.bipush 10, 2) := by decide +kernel
theorem dX11_neighbours_149 : decode cX11_neighbours 149 = .ok (.iload 8, 2) := by decide +kernel
theorem dX11_neighbours_151 : decode cX11_neighbours 151 = .ok (.imul, 1) := by decide +kernel
theorem dX11_neighbours_152 : decode cX11_neighbours 152 = .ok (.iload 9, 2) := by decide +kernel
theorem dX11_neighbours_154 : decode cX11_neighbours 154 = .ok (.iadd, 1) := by decide +kernel
theorem dX11_neighbours_155 : decode cX11_neighbours 155 = .ok (.istore 5, 2) := by decide +kernel
theorem dX11_neighbours_157 : decode cX11_neighbours 157 = .ok (.iload 8, 2) := by decide +kernel
theorem dX11_neighbours_159 : decode cX11_neighbours 159 = .ok (.iload 9, 2) := by decide +kernel
theorem dX11_neighbours_161 : decode cX11_neighbours 161 = .ok (.iload_n 1, 1) := by decide +kernel
theorem dX11_neighbours_162 : decode cX11_neighbours 162 = .ok (.iload_n 2, 1) := by decide +kernel
theorem dX11_neighbours_163 : decode cX11_neighbours 163 = .ok (.invokestatic 334, 3) := by decide +kernel
theorem dX11_neighbours_166 : decode cX11_neighbours 166 = .ok (.iload 9, 2) := by decide +kernel
theorem dX11_neighbours_168 : decode cX11_neighbours 168 = .ok (.iload 8, 2) := by decide +kernel
theorem dX11_neighbours_170 : decode cX11_neighbours 170 = .ok (.iload_n 1, 1) := by decide +kernel
theorem dX11_neighbours_171 : decode cX11_neighbours 171 = .ok (.iload_n 2, 1) := by decide +kernel
theorem dX11_neighbours_172 : decode cX11_neighbours 172 = .ok (.invokestatic 334, 3) := by decide +kernel
theorem dX11_neighbours_175 : decode cX11_neighbours 175 = .ok (.iadd, 1) := by decide +kernel
theorem dX11_neighbours_176 : decode cX11_neighbours 176 = .ok (.istore 6, 2) := by decide +kernel
theorem dX11_neighbours_178 : decode cX11_neighbours 178 = .ok (.iinc 7 1, 3) := by decide +kernel
theorem dX11_neighbours_181 : decode cX11_neighbours 181 = .ok (.goto (-131), 3) := by decide +kernel
theorem dX11_neighbours_184 : decode cX11_neighbours 184 = .ok (.iload_n 3, 1) := by decide +kernel
theorem dX11_neighbours_185 : decode cX11_neighbours 185 = .ok (.ifCond .ne 8, 3) := by decide +kernel
theorem dX11_neighbours_188 : decode cX11_neighbours 188 = .ok (.iload 4, 2) := by decide +kernel
theorem dX11_neighbours_190 : decode cX11_neighbours 190 = .ok (.goto 15, 3) := by decide +kernel
theorem dX11_neighbours_193 : decode cX11_neighbours 193 = .ok (.iload_n 3, 1) := by decide +kernel
theorem dX11_neighbours_194 : decode cX11_neighbours 194 = .ok (.iconst 1, 1) := by decide +kernel
theorem dX11_neighbours_195 : decode cX11_neighbours 195 = .ok (.if_icmp .ne 8, 3) := by decide +kernel
theorem dX11_neighbours_198 : decode cX11_neighbours 198 = .ok (.iload 5, 2) := by decide +kernel
theorem dX11_neighbours_200 : decode cX11_neighbours 200 = .ok (.goto 5, 3) := by decide +kernel
theorem dX11_neighbours_203 : decode cX11_neighbours 203 = .ok (.iload 6, 2) := by decide +kernel
theorem dX11_neighbours_205 : decode cX11_neighbours 205 = .ok (.ireturn, 1) := by decide +kernel
theorem dX11_home_0 : decode cX11_home 0 = .ok (.aload_n 0, 1) := by decide +kernel
theorem dX11_home_1 : decode cX11_home 1 = .ok (.iload_n 1, 1) := by decide +kernel
theorem dX11_home_2 : decode cX11_home 2 = .ok (.ifCond .lt 23, 3) := by decide +kernel
theorem dX11_home_5 : decode cX11_home 5 = .ok (.iload_n 1, 1) := by decide +kernel
theorem dX11_home_6 : decode cX11_home 6 = .ok (.bipush 12, 2) := by decide +kernel
theorem dX11_home_8 : decode cX11_home 8 = .ok (.if_icmp .gt 17, 3) := by decide +kernel
theorem dX11_home_11 : decode cX11_home 11 = .ok (.iload_n 2, 1) := by decide +kernel
theorem dX11_home_12 : decode cX11_home 12 = .ok (.ifCond .lt 13, 3) := by decide +kernel
theorem dX11_home_15 : decode cX11_home 15 = .ok (.iload_n 2, 1) := by decide +kernel
theorem dX11_home_16 : decode cX11_home 16 = .ok (.bipush 13, 2) := by decide +kernel
theorem dX11_home_18 : decode cX11_home 18 = .ok (.if_icmp .gt 7, 3) := by decide +kernel
theorem dX11_home_21 : decode cX11_home 21 = .ok (.iconst 1, 1) := by decide +kernel
theorem dX11_home_22 : decode cX11_home 22 = .ok (.goto 4, 3) := by decide +kernel
theorem dX11_home_25 : decode cX11_home 25 = .ok (.iconst 0, 1) := by decide +kernel
theorem dX11_home_26 : decode cX11_home 26 = .ok (.invokevirtual 115, 3) := by decide +kernel
theorem dX11_home_29 : decode cX11_home 29 = .ok (.aload_n 0, 1) := by decide +kernel
theorem dX11_home_30 : decode cX11_home 30 = .ok (.iload_n 3, 1) := by decide +kernel
theorem dX11_home_31 : decode cX11_home 31 = .ok (.ifCond .lt 24, 3) := by decide +kernel
theorem dX11_home_34 : decode cX11_home 34 = .ok (.iload_n 3, 1) := by decide +kernel
theorem dX11_home_35 : decode cX11_home 35 = .ok (.bipush 16, 2) := by decide +kernel
theorem dX11_home_37 : decode cX11_home 37 = .ok (.if_icmp .gt 18, 3) := by decide +kernel
theorem dX11_home_40 : decode cX11_home 40 = .ok (.iload 4, 2) := by decide +kernel
theorem dX11_home_42 : decode cX11_home 42 = .ok (.ifCond .eq 9, 3) := by decide +kernel
theorem dX11_home_45 : decode cX11_home 45 = .ok (.iload 4, 2) := by decide +kernel
theorem dX11_home_47 : decode cX11_home 47 = .ok (.iconst 1, 1) := by decide +kernel
theorem dX11_home_48 : decode cX11_home 48 = .ok (.if_icmp .ne 7, 3) := by decide +kernel
theorem dX11_home_51 : decode cX11_home 51 = .ok (.iconst 1, 1) := by decide +kernel
theorem dX11_home_52 : decode cX11_home 52 = .ok (.goto 4, 3) := by decide +kernel
theorem dX11_home_55 : decode cX11_home 55 = .ok (.iconst 0, 1) := by decide +kernel
theorem dX11_home_56 : decode cX11_home 56 = .ok (.invokevirtual 115, 3) := by decide +kernel
theorem dX11_home_59 : decode cX11_home 59 = .ok (.aload_n 0, 1) := by decide +kernel
theorem dX11_home_60 : decode cX11_home 60 = .ok (.iload_n 1, 1) := by decide +kernel
theorem dX11_home_61 : decode cX11_home 61 = .ok (.iload_n 3, 1) := by decide +kernel
theorem dX11_home_62 : decode cX11_home 62 = .ok (.invokevirtual 338, 3) := by decide +kernel
theorem dX11_home_65 : decode cX11_home 65 = .ok (.lconst 0, 1) := by decide +kernel
theorem dX11_home_66 : decode cX11_home 66 = .ok (.lstore 5, 2) := by decide +kernel
theorem dX11_home_68 : decode cX11_home 68 = .ok (.iload_n 2, 1) := by decide +kernel
theorem dX11_home_69 : decode cX11_home 69 = .ok (.istore 7, 2) := by decide +kernel
theorem dX11_home_71 : decode cX11_home 71 = .ok (.iload 7, 2) := by decide +kernel
theorem dX11_home_73 : decode cX11_home 73 = .ok (.iload_n 1, 1) := by decide +kernel
theorem dX11_home_74 : decode cX11_home 74 = .ok (.if_icmp .gt 31, 3) := by decide +kernel
theorem dX11_home_77 : decode cX11_home 77 = .ok (.iload 7, 2) := by decide +kernel
theorem dX11_home_79 : decode cX11_home 79 = .ok (.aload_n 0, 1) := by decide +kernel
theorem dX11_home_80 : decode cX11_home 80 = .ok (.getfield 93, 3) := by decide +kernel
theorem dX11_home_83 : decode cX11_home 83 = .ok (.arraylength, 1) := by decide +kernel
theorem dX11_home_84 : decode cX11_home 84 = .ok (.if_icmp .ge 21, 3) := by decide +kernel
theorem dX11_home_87 : decode cX11_home 87 = .ok (.lload 5, 2) := by decide +kernel
theorem dX11_home_89 : decode cX11_home 89 = .ok (.aload_n 0, 1) := by decide +kernel
theorem dX11_home_90 : decode cX11_home 90 = .ok (.getfield 93, 3) := by decide +kernel
theorem dX11_home_93 : decode cX11_home 93 = .ok (.iload 7, 2) := by decide +kernel
theorem dX11_home_95 : decode cX11_home 95 = .ok (.laload, 1) := by decide +kernel
theorem dX11_home_96 : decode cX11_home 96 = .ok (.ladd, 1) := by decide +kernel
theorem dX11_home_97 : decode cX11_home 97 = .ok (.lstore 5, 2) := by decide +kernel
theorem dX11_home_99 : decode cX11_home 99 = .ok (.iinc 7 1, 3) := by decide +kernel
theorem dX11_home_102 : decode cX11_home 102 = .ok (.goto (-31), 3) := by decide +kernel
theorem dX11_home_105 : decode cX11_home 105 = .ok (.lconst 1, 1) := by decide +kernel
theorem dX11_home_106 : decode cX11_home 106 = .ok (.iconst 4, 1) := by decide +kernel
theorem dX11_home_107 : decode cX11_home 107 = .ok (.iload_n 1, 1) := by decide +kernel
theorem dX11_home_108 : decode cX11_home 108 = .ok (.imul, 1) := by decide +kernel
theorem dX11_home_109 : decode cX11_home 109 = .ok (.lshl, 1) := by decide +kernel
theorem dX11_home_110 : decode cX11_home 110 = .ok (.lstore 7, 2) := by decide +kernel
theorem dX11_home_112 : decode cX11_home 112 = .ok (.iconst 0, 1) := by decide +kernel
theorem dX11_home_113 : decode cX11_home 113 = .ok (.istore 9, 2) := by decide +kernel
theorem dX11_home_115 : decode cX11_home 115 = .ok (.iload 9, 2) := by decide +kernel
theorem dX11_home_117 : decode cX11_home 117 = .ok (.bipush 64, 2) := by decide +kernel
theorem dX11_home_119 : decode cX11_home 119 = .ok (.if_icmp .ge 37, 3) := by decide +kernel
theorem dX11_home_122 : decode cX11_home 122 = .ok (.lload 7, 2) := by decide +kernel
theorem dX11_home_124 : decode cX11_home 124 = .ok (.lconst 1, 1) := by decide +kernel
theorem dX11_home_125 : decode cX11_home 125 = .ok (.lcmp, 1) := by decide +kernel
theorem dX11_home_126 : decode cX11_home 126 = .ok (.ifCond .le 30, 3) := by decide +kernel
theorem dX11_home_129 : decode cX11_home 129 = .ok (.lload 5, 2) := by decide +kernel
theorem dX11_home_131 : decode cX11_home 131 = .ok (.lconst 1, 1) := by decide +kernel
theorem dX11_home_132 : decode cX11_home 132 = .ok (.land, 1) := by decide +kernel
theorem dX11_home_133 : decode cX11_home 133 = .ok (.lconst 0, 1) := by decide +kernel
theorem dX11_home_134 : decode cX11_home 134 = .ok (.lcmp, 1) := by decide +kernel
theorem dX11_home_135 : decode cX11_home 135 = .ok (.ifCond .ne 21, 3) := by decide +kernel
theorem dX11_home_138 : decode cX11_home 138 = .ok (.lload 5, 2) := by decide +kernel
theorem dX11_home_140 : decode cX11_home 140 = .ok (.iconst 1, 1) := by decide +kernel
theorem dX11_home_141 : decode cX11_home 141 = .ok (.lshr, 1) := by decide +kernel
theorem dX11_home_142 : decode cX11_home 142 = .ok (.lstore 5, 2) := by decide +kernel
theorem dX11_home_144 : decode cX11_home 144 = .ok (.lload 7, 2) := by decide +kernel
theorem dX11_home_146 : decode cX11_home 146 = .ok (.iconst 1, 1) := by decide +kernel
theorem dX11_home_147 : decode cX11_home 147 = .ok (.lshr, 1) := by decide +kernel
theorem dX11_home_148 : decode cX11_home 148 = .ok (.lstore 7, 2) := by decide +kernel
theorem dX11_home_150 : decode cX11_home 150 = .ok (.iinc 9 1, 3) := by decide +kernel
theorem dX11_home_153 : decode cX11_home 153 = .ok (.goto (-38), 3) := by decide +kernel
theorem dX11_home_156 : decode cX11_home 156 = .ok (.iload 4, 2) := by decide +kernel
theorem dX11_home_158 : decode cX11_home 158 = .ok (.ifCond .ne 8, 3) := by decide +kernel
theorem dX11_home_161 : decode cX11_home 161 = .ok (.lload 5, 2) := by decide +kernel
theorem dX11_home_163 : decode cX11_home 163 = .ok (.goto 5, 3) := by decide +kernel
theorem dX11_home_166 : decode cX11_home 166 = .ok (.lload 7, 2) := by decide +kernel
theorem dX11_home_168 : decode cX11_home 168 = .ok (.lreturn, 1) := by decide +kernel
theorem dX11_flowers_0 : decode cX11_flowers 0 = .ok (.aload_n 0, 1) := by decide +kernel
theorem dX11_flowers_1 : decode cX11_flowers 1 = .ok (.iload_n 1, 1) := by decide +kernel
theorem dX11_flowers_2 : decode cX11_flowers 2 = .ok (.invokevirtual 214, 3) := by decide +kernel
theorem dX11_flowers_5 : decode cX11_flowers 5 = .ok (.aload_n 0, 1) := by decide +kernel
theorem dX11_flowers_6 : decode cX11_flowers 6 = .ok (.aload_n 0, 1) := by decide +kernel
theorem dX11_flowers_7 : decode cX11_flowers 7 = .ok (.iload_n 2, 1) := by decide +kernel
theorem dX11_flowers_8 : decode cX11_flowers 8 = .ok (.invokevirtual 288, 3) := by decide +kernel
theorem dX11_flowers_11 : decode cX11_flowers 11 = .ok (.ifCond .eq 17, 3) := by decide +kernel
theorem dX11_flowers_14 : decode cX11_flowers 14 = .ok (.iload_n 3, 1) := by decide +kernel
theorem dX11_flowers_15 : decode cX11_flowers 15 = .ok (.ifCond .lt 13, 3) := by decide +kernel
theorem dX11_flowers_18 : decode cX11_flowers 18 = .ok (.iload_n 3, 1) := by decide +kernel
theorem dX11_flowers_19 : decode cX11_flowers 19 = .ok (.bipush 99, 2) := by decide +kernel
theorem dX11_flowers_21 : decode cX11_flowers 21 = .ok (.if_icmp .gt 7, 3) := by decide +kernel
theorem dX11_flowers_24 : decode cX11_flowers 24 = .ok (.iconst 1, 1) := by decide +kernel
theorem dX11_flowers_25 : decode cX11_flowers 25 = .ok (.goto 4, 3) := by decide +kernel
theorem dX11_flowers_28 : decode cX11_flowers 28 = .ok (.iconst 0, 1) := by decide +kernel
theorem dX11_flowers_29 : decode cX11_flowers 29 = .ok (.invokevirtual 115, 3) := by decide +kernel
theorem dX11_flowers_32 : decode cX11_flowers 32 = .ok (.iload_n 2, 1) := by decide +kernel
theorem dX11_flowers_33 : decode cX11_flowers 33 = .ok (.iload_n 1, 1) := by decide +kernel
theorem dX11_flowers_34 : decode cX11_flowers 34 = .ok (.ishr, 1) := by decide +kernel
theorem dX11_flowers_35 : decode cX11_flowers 35 = .ok (.iconst 1, 1) := by decide +kernel
theorem dX11_flowers_36 : decode cX11_flowers 36 = .ok (.iand, 1) := by decide +kernel
theorem dX11_flowers_37 : decode cX11_flowers 37 = .ok (.ifCond .ne 5, 3) := by decide +kernel
theorem dX11_flowers_40 : decode cX11_flowers 40 = .ok (.iconst 0, 1) := by decide +kernel
theorem dX11_flowers_41 : decode cX11_flowers 41 = .ok (.ireturn, 1) := by decide +kernel
theorem dX11_flowers_42 : decode cX11_flowers 42 = .ok (.bipush 8, 2) := by decide +kernel
theorem dX11_flowers_44 : decode cX11_flowers 44 = .ok (.istore 4, 2) := by decide +kernel
theorem dX11_flowers_46 : decode cX11_flowers 46 = .ok (.iload 4, 2) := by decide +kernel
theorem dX11_flowers_48 : decode cX11_flowers 48 = .ok (.ifCond .le 23, 3) := by decide +kernel
theorem dX11_flowers_51 : decode cX11_flowers 51 = .ok (.aload_n 0, 1) := by decide +kernel
theorem dX11_flowers_52 : decode cX11_flowers 52 = .ok (.getfield 65, 3) := by decide +kernel
theorem dX11_flowers_55 : decode cX11_flowers 55 = .ok (.iload_n 2, 1) := by decide +kernel
theorem dX11_flowers_56 : decode cX11_flowers 56 = .ok (.iload 4, 2) := by decide +kernel
theorem dX11_flowers_58 : decode cX11_flowers 58 = .ok (.invokevirtual 341, 3) := by decide +kernel
theorem dX11_flowers_61 : decode cX11_flowers 61 = .ok (.iload_n 3, 1) := by decide +kernel
theorem dX11_flowers_62 : decode cX11_flowers 62 = .ok (.if_icmp .le 9, 3) := by decide +kernel
theorem dX11_flowers_65 : decode cX11_flowers 65 = .ok (.iinc 4 (-1), 3) := by decide +kernel
theorem dX11_flowers_68 : decode cX11_flowers 68 = .ok (.goto (-22), 3) := by decide +kernel
theorem dX11_flowers_71 : decode cX11_flowers 71 = .ok (.aload_n 0, 1) := by decide +kernel
theorem dX11_flowers_72 : decode cX11_flowers 72 = .ok (.getfield 65, 3) := by decide +kernel
theorem dX11_flowers_75 : decode cX11_flowers 75 = .ok (.iload_n 1, 1) := by decide +kernel
theorem dX11_flowers_76 : decode cX11_flowers 76 = .ok (.invokevirtual 237, 3) := by decide +kernel
theorem dX11_flowers_79 : decode cX11_flowers 79 = .ok (.iload 4, 2) := by decide +kernel
theorem dX11_flowers_81 : decode cX11_flowers 81 = .ok (.invokestatic 344, 3) := by decide +kernel
theorem dX11_flowers_84 : decode cX11_flowers 84 = .ok (.ireturn, 1) := by decide +kernel
theorem dX11_honoured_0 : decode cX11_honoured 0 = .ok (.aload_n 0, 1) := by decide +kernel
theorem dX11_honoured_1 : decode cX11_honoured 1 = .ok (.iload_n 1, 1) := by decide +kernel
theorem dX11_honoured_2 : decode cX11_honoured 2 = .ok (.ifCond .eq 8, 3) := by decide +kernel
theorem dX11_honoured_5 : decode cX11_honoured 5 = .ok (.iload_n 1, 1) := by decide +kernel
theorem dX11_honoured_6 : decode cX11_honoured 6 = .ok (.iconst 1, 1) := by decide +kernel
theorem dX11_honoured_7 : decode cX11_honoured 7 = .ok (.if_icmp .ne 7, 3) := by decide +kernel
theorem dX11_honoured_10 : decode cX11_honoured 10 = .ok (.iconst 1, 1) := by decide +kernel
theorem dX11_honoured_11 : decode cX11_honoured 11 = .ok (.goto 4, 3) := by decide +kernel
theorem dX11_honoured_14 : decode cX11_honoured 14 = .ok (.iconst 0, 1) := by decide +kernel
theorem dX11_honoured_15 : decode cX11_honoured 15 = .ok (.invokevirtual 115, 3) := by decide +kernel
theorem dX11_honoured_18 : decode cX11_honoured 18 = .ok (.iconst (-1), 1) := by decide +kernel
theorem dX11_honoured_19 : decode cX11_honoured 19 = .ok (.istore_n 2, 1) := by decide +kernel
theorem dX11_honoured_20 : decode cX11_honoured 20 = .ok (.iconst 0, 1) := by decide +kernel
theorem dX11_honoured_21 : decode cX11_honoured 21 = .ok (.istore_n 3, 1) := by decide +kernel
theorem dX11_honoured_22 : decode cX11_honoured 22 = .ok (.iconst 0, 1) := by decide +kernel
theorem dX11_honoured_23 : decode cX11_honoured 23 = .ok (.istore 4, 2) := by decide +kernel
theorem dX11_honoured_25 : decode cX11_honoured 25 = .ok (.iload 4, 2) := by decide +kernel
theorem dX11_honoured_27 : decode cX11_honoured 27 = .ok (.aload_n 0, 1) := by decide +kernel
theorem dX11_honoured_28 : decode cX11_honoured 28 = .ok (.getfield 19, 3) := by decide +kernel
theorem dX11_honoured_31 : decode cX11_honoured 31 = .ok (.getfield 143, 3) := by decide +kernel
theorem dX11_honoured_34 : decode cX11_honoured 34 = .ok (.if_icmp .ge 32, 3) := by decide +kernel
theorem dX11_honoured_37 : decode cX11_honoured 37 = .ok (.aload_n 0, 1) := by decide +kernel
theorem dX11_honoured_38 : decode cX11_honoured 38 = .ok (.getfield 65, 3) := by decide +kernel
theorem dX11_honoured_41 : decode cX11_honoured 41 = .ok (.iload 4, 2) := by decide +kernel
theorem dX11_honoured_43 : decode cX11_honoured 43 = .ok (.invokevirtual 237, 3) := by decide +kernel
theorem dX11_honoured_46 : decode cX11_honoured 46 = .ok (.istore 5, 2) := by decide +kernel
theorem dX11_honoured_48 : decode cX11_honoured 48 = .ok (.iload 5, 2) := by decide +kernel
theorem dX11_honoured_50 : decode cX11_honoured 50 = .ok (.iload_n 3, 1) := by decide +kernel
theorem dX11_honoured_51 : decode cX11_honoured 51 = .ok (.if_icmp .le 9, 3) := by decide +kernel
theorem dX11_honoured_54 : decode cX11_honoured 54 = .ok (.iload 4, 2) := by decide +kernel
theorem dX11_honoured_56 : decode cX11_honoured 56 = .ok (.istore_n 2, 1) := by decide +kernel
theorem dX11_honoured_57 : decode cX11_honoured 57 = .ok (.iload 5, 2) := by decide +kernel
theorem dX11_honoured_59 : decode cX11_honoured 59 = .ok (.istore_n 3, 1) := by decide +kernel
theorem dX11_honoured_60 : decode cX11_honoured 60 = .ok (.iinc 4 1, 3) := by decide +kernel
theorem dX11_honoured_63 : decode cX11_honoured 63 = .ok (.goto (-38), 3) := by decide +kernel
theorem dX11_honoured_66 : decode cX11_honoured 66 = .ok (.iload_n 2, 1) := by decide +kernel
theorem dX11_honoured_67 : decode cX11_honoured 67 = .ok (.iconst (-1), 1) := by decide +kernel
theorem dX11_honoured_68 : decode cX11_honoured 68 = .ok (.if_icmp .eq 7, 3) := by decide +kernel
theorem dX11_honoured_71 : decode cX11_honoured 71 = .ok (.iload_n 1, 1) := by decide +kernel
theorem dX11_honoured_72 : decode cX11_honoured 72 = .ok (.ifCond .ne 7, 3) := by decide +kernel
theorem dX11_honoured_75 : decode cX11_honoured 75 = .ok (.iload_n 2, 1) := by decide +kernel
theorem dX11_honoured_76 : decode cX11_honoured 76 = .ok (.goto 4, 3) := by decide +kernel
theorem dX11_honoured_79 : decode cX11_honoured 79 = .ok (.iload_n 3, 1) := by decide +kernel
theorem dX11_honoured_80 : decode cX11_honoured 80 = .ok (.ireturn, 1) := by decide +kernel
theorem dX11_sued_0 : decode cX11_sued 0 = .ok (.aload_n 0, 1) := by decide +kernel
theorem dX11_sued_1 : decode cX11_sued 1 = .ok (.iload_n 1, 1) := by decide +kernel
theorem dX11_sued_2 : decode cX11_sued 2 = .ok (.ifCond .eq 8, 3) := by decide +kernel
theorem dX11_sued_5 : decode cX11_sued 5 = .ok (.iload_n 1, 1) := by decide +kernel
theorem dX11_sued_6 : decode cX11_sued 6 = .ok (.iconst 1, 1) := by decide +kernel
theorem dX11_sued_7 : decode cX11_sued 7 = .ok (.if_icmp .ne 7, 3) := by decide +kernel
theorem dX11_sued_10 : decode cX11_sued 10 = .ok (.iconst 1, 1) := by decide +kernel
theorem dX11_sued_11 : decode cX11_sued 11 = .ok (.goto 4, 3) := by decide +kernel
theorem dX11_sued_14 : decode cX11_sued 14 = .ok (.iconst 0, 1) := by decide +kernel
theorem dX11_sued_15 : decode cX11_sued 15 = .ok (.invokevirtual 115, 3) := by decide +kernel
theorem dX11_sued_18 : decode cX11_sued 18 = .ok (.aload_n 0, 1) := by decide +kernel
theorem dX11_sued_19 : decode cX11_sued 19 = .ok (.getfield 65, 3) := by decide +kernel
theorem dX11_sued_22 : decode cX11_sued 22 = .ok (.invokevirtual 279, 3) := by decide +kernel
theorem dX11_sued_25 : decode cX11_sued 25 = .ok (.istore_n 2, 1) := by decide +kernel
theorem dX11_sued_26 : decode cX11_sued 26 = .ok (.aload_n 0, 1) := by decide +kernel
theorem dX11_sued_27 : decode cX11_sued 27 = .ok (.getfield 65, 3) := by decide +kernel
theorem dX11_sued_30 : decode cX11_sued 30 = .ok (.getfield 227, 3) := by decide +kernel
theorem dX11_sued_33 : decode cX11_sued 33 = .ok (.iload_n 2, 1) := by decide +kernel
theorem dX11_sued_34 : decode cX11_sued 34 = .ok (.invokestatic 221, 3) := by decide +kernel
theorem dX11_sued_37 : decode cX11_sued 37 = .ok (.istore_n 3, 1) := by decide +kernel
theorem dX11_sued_38 : decode cX11_sued 38 = .ok (.iload_n 3, 1) := by decide +kernel
theorem dX11_sued_39 : decode cX11_sued 39 = .ok (.ifCond .gt 5, 3) := by decide +kernel
theorem dX11_sued_42 : decode cX11_sued 42 = .ok (.iconst (-1), 1) := by decide +kernel
theorem dX11_sued_43 : decode cX11_sued 43 = .ok (.ireturn, 1) := by decide +kernel
theorem dX11_sued_44 : decode cX11_sued 44 = .ok (.iload_n 1, 1) := by decide +kernel
theorem dX11_sued_45 : decode cX11_sued 45 = .ok (.ifCond .ne 7, 3) := by decide +kernel
theorem dX11_sued_48 : decode cX11_sued 48 = .ok (.iload_n 2, 1) := by decide +kernel
theorem dX11_sued_49 : decode cX11_sued 49 = .ok (.goto 4, 3) := by decide +kernel
theorem dX11_sued_52 : decode cX11_sued 52 = .ok (.iload_n 3, 1) := by decide +kernel
theorem dX11_sued_53 : decode cX11_sued 53 = .ok (.ireturn, 1) := by decide +kernel
theorem dX11_free_0 : decode cX11_free 0 = .ok (.aload_n 0, 1) := by decide +kernel
theorem dX11_free_1 : decode cX11_free 1 = .ok (.iload_n 1, 1) := by decide +kernel
theorem dX11_free_2 : decode cX11_free 2 = .ok (.invokevirtual 214, 3) := by decide +kernel
theorem dX11_free_5 : decode cX11_free 5 = .ok (.iconst 0, 1) := by decide +kernel
theorem dX11_free_6 : decode cX11_free 6 = .ok (.istore_n 2, 1) := by decide +kernel
theorem dX11_free_7 : decode cX11_free 7 = .ok (.iconst 0, 1) := by decide +kernel
theorem dX11_free_8 : decode cX11_free 8 = .ok (.istore_n 3, 1) := by decide +kernel
theorem dX11_free_9 : decode cX11_free 9 = .ok (.iload_n 3, 1) := by decide +kernel
theorem dX11_free_10 : decode cX11_free 10 = .ok (.aload_n 0, 1) := by decide +kernel
theorem dX11_free_11 : decode cX11_free 11 = .ok (.getfield 19, 3) := by decide +kernel
theorem dX11_free_14 : decode cX11_free 14 = .ok (.getfield 143, 3) := by decide +kernel
theorem dX11_free_17 : decode cX11_free 17 = .ok (.if_icmp .ge 49, 3) := by decide +kernel
theorem dX11_free_20 : decode cX11_free 20 = .ok (.aload_n 0, 1) := by decide +kernel
theorem dX11_free_21 : decode cX11_free 21 = .ok (.getfield 19, 3) := by decide +kernel
theorem dX11_free_24 : decode cX11_free 24 = .ok (.iload_n 1, 1) := by decide +kernel
theorem dX11_free_25 : decode cX11_free 25 = .ok (.iload_n 3, 1) := by decide +kernel
theorem dX11_free_26 : decode cX11_free 26 = .ok (.invokevirtual 349, 3) := by decide +kernel
theorem dX11_free_29 : decode cX11_free 29 = .ok (.ifCond .eq 31, 3) := by decide +kernel
theorem dX11_free_32 : decode cX11_free 32 = .ok (.aload_n 0, 1) := by decide +kernel
theorem dX11_free_33 : decode cX11_free 33 = .ok (.getfield 65, 3) := by decide +kernel
theorem dX11_free_36 : decode cX11_free 36 = .ok (.iload_n 3, 1) := by decide +kernel
theorem dX11_free_37 : decode cX11_free 37 = .ok (.invokevirtual 230, 3) := by decide +kernel
theorem dX11_free_40 : decode cX11_free 40 = .ok (.ifCond .eq 20, 3) := by decide +kernel
theorem dX11_free_43 : decode cX11_free 43 = .ok (.aload_n 0, 1) := by decide +kernel
theorem dX11_free_44 : decode cX11_free 44 = .ok (.getfield 65, 3) := by decide +kernel
theorem dX11_free_47 : decode cX11_free 47 = .ok (.iload_n 3, 1) := by decide +kernel
theorem dX11_free_48 : decode cX11_free 48 = .ok (.invokevirtual 352, 3) := by decide +kernel
theorem dX11_free_51 : decode cX11_free 51 = .ok (.ifCond .eq 9, 3) := by decide +kernel
theorem dX11_free_54 : decode cX11_free 54 = .ok (.iload_n 2, 1) := by decide +kernel
theorem dX11_free_55 : decode cX11_free 55 = .ok (.iconst 1, 1) := by decide +kernel
theorem dX11_free_56 : decode cX11_free 56 = .ok (.iload_n 3, 1) := by decide +kernel
theorem dX11_free_57 : decode cX11_free 57 = .ok (.ishl, 1) := by decide +kernel
theorem dX11_free_58 : decode cX11_free 58 = .ok (.ior, 1) := by decide +kernel
theorem dX11_free_59 : decode cX11_free 59 = .ok (.istore_n 2, 1) := by decide +kernel
theorem dX11_free_60 : decode cX11_free 60 = .ok (.iinc 3 1, 3) := by decide +kernel
theorem dX11_free_63 : decode cX11_free 63 = .ok (.goto (-54), 3) := by decide +kernel
theorem dX11_free_66 : decode cX11_free 66 = .ok (.iload_n 2, 1) := by decide +kernel
theorem dX11_free_67 : decode cX11_free 67 = .ok (.ireturn, 1) := by decide +kernel
theorem dX11_kin_0 : decode cX11_kin 0 = .ok (.aload_n 0, 1) := by decide +kernel
theorem dX11_kin_1 : decode cX11_kin 1 = .ok (.iload_n 1, 1) := by decide +kernel
theorem dX11_kin_2 : decode cX11_kin 2 = .ok (.invokevirtual 214, 3) := by decide +kernel
theorem dX11_kin_5 : decode cX11_kin 5 = .ok (.iconst 1, 1) := by decide +kernel
theorem dX11_kin_6 : decode cX11_kin 6 = .ok (.iload_n 1, 1) := by decide +kernel
theorem dX11_kin_7 : decode cX11_kin 7 = .ok (.ishl, 1) := by decide +kernel
theorem dX11_kin_8 : decode cX11_kin 8 = .ok (.istore_n 2, 1) := by decide +kernel
theorem dX11_kin_9 : decode cX11_kin 9 = .ok (.iconst 0, 1) := by decide +kernel
theorem dX11_kin_10 : decode cX11_kin 10 = .ok (.istore_n 3, 1) := by decide +kernel
theorem dX11_kin_11 : decode cX11_kin 11 = .ok (.iload_n 3, 1) := by decide +kernel
theorem dX11_kin_12 : decode cX11_kin 12 = .ok (.bipush 8, 2) := by decide +kernel
theorem dX11_kin_14 : decode cX11_kin 14 = .ok (.if_icmp .ge 55, 3) := by decide +kernel
theorem dX11_kin_17 : decode cX11_kin 17 = .ok (.iconst 0, 1) := by decide +kernel
theorem dX11_kin_18 : decode cX11_kin 18 = .ok (.istore 4, 2) := by decide +kernel
theorem dX11_kin_20 : decode cX11_kin 20 = .ok (.iload 4, 2) := by decide +kernel
theorem dX11_kin_22 : decode cX11_kin 22 = .ok (.aload_n 0, 1) := by decide +kernel
theorem dX11_kin_23 : decode cX11_kin 23 = .ok (.getfield 19, 3) := by decide +kernel
theorem dX11_kin_26 : decode cX11_kin 26 = .ok (.getfield 143, 3) := by decide +kernel
theorem dX11_kin_29 : decode cX11_kin 29 = .ok (.if_icmp .ge 34, 3) := by decide +kernel
theorem dX11_kin_32 : decode cX11_kin 32 = .ok (.iload_n 2, 1) := by decide +kernel
theorem dX11_kin_33 : decode cX11_kin 33 = .ok (.iload 4, 2) := by decide +kernel
theorem dX11_kin_35 : decode cX11_kin 35 = .ok (.ishr, 1) := by decide +kernel
theorem dX11_kin_36 : decode cX11_kin 36 = .ok (.iconst 1, 1) := by decide +kernel
theorem dX11_kin_37 : decode cX11_kin 37 = .ok (.iand, 1) := by decide +kernel
theorem dX11_kin_38 : decode cX11_kin 38 = .ok (.iconst 1, 1) := by decide +kernel
theorem dX11_kin_39 : decode cX11_kin 39 = .ok (.if_icmp .ne 18, 3) := by decide +kernel
theorem dX11_kin_42 : decode cX11_kin 42 = .ok (.iload_n 2, 1) := by decide +kernel
theorem dX11_kin_43 : decode cX11_kin 43 = .ok (.aload_n 0, 1) := by decide +kernel
theorem dX11_kin_44 : decode cX11_kin 44 = .ok (.getfield 19, 3) := by decide +kernel
theorem dX11_kin_47 : decode cX11_kin 47 = .ok (.getfield 244, 3) := by decide +kernel
theorem dX11_kin_50 : decode cX11_kin 50 = .ok (.iload 4, 2) := by decide +kernel
theorem dX11_kin_52 : decode cX11_kin 52 = .ok (.invokestatic 221, 3) := by decide +kernel
theorem dX11_kin_55 : decode cX11_kin 55 = .ok (.ior, 1) := by decide +kernel
theorem dX11_kin_56 : decode cX11_kin 56 = .ok (.istore_n 2, 1) := by decide +kernel
theorem dX11_kin_57 : decode cX11_kin 57 = .ok (.iinc 4 1, 3) := by decide +kernel
theorem dX11_kin_60 : decode cX11_kin 60 = .ok (.goto (-40), 3) := by decide +kernel
theorem dX11_kin_63 : decode cX11_kin 63 = .ok (.iinc 3 1, 3) := by decide +kernel
theorem dX11_kin_66 : decode cX11_kin 66 = .ok (.goto (-55), 3) := by decide +kernel
theorem dX11_kin_69 : decode cX11_kin 69 = .ok (.iload_n 2, 1) := by decide +kernel
theorem dX11_kin_70 : decode cX11_kin 70 = .ok (.ireturn, 1) := by decide +kernel
theorem dX11_willing_0 : decode cX11_willing 0 = .ok (.aload_n 0, 1) := by decide +kernel
theorem dX11_willing_1 : decode cX11_willing 1 = .ok (.iload_n 1, 1) := by decide +kernel
theorem dX11_willing_2 : decode cX11_willing 2 = .ok (.invokevirtual 214, 3) := by decide +kernel
theorem dX11_willing_5 : decode cX11_willing 5 = .ok (.iconst 0, 1) := by decide +kernel
theorem dX11_willing_6 : decode cX11_willing 6 = .ok (.istore_n 2, 1) := by decide +kernel
theorem dX11_willing_7 : decode cX11_willing 7 = .ok (.iconst 0, 1) := by decide +kernel
theorem dX11_willing_8 : decode cX11_willing 8 = .ok (.istore_n 3, 1) := by decide +kernel
theorem dX11_willing_9 : decode cX11_willing 9 = .ok (.iload_n 3, 1) := by decide +kernel
theorem dX11_willing_10 : decode cX11_willing 10 = .ok (.aload_n 0, 1) := by decide +kernel
theorem dX11_willing_11 : decode cX11_willing 11 = .ok (.getfield 19, 3) := by decide +kernel
theorem dX11_willing_14 : decode cX11_willing 14 = .ok (.getfield 143, 3) := by decide +kernel
theorem dX11_willing_17 : decode cX11_willing 17 = .ok (.if_icmp .ge 27, 3) := by decide +kernel
theorem dX11_willing_20 : decode cX11_willing 20 = .ok (.aload_n 0, 1) := by decide +kernel
theorem dX11_willing_21 : decode cX11_willing 21 = .ok (.getfield 65, 3) := by decide +kernel
theorem dX11_willing_24 : decode cX11_willing 24 = .ok (.iload_n 3, 1) := by decide +kernel
theorem dX11_willing_25 : decode cX11_willing 25 = .ok (.iload_n 1, 1) := by decide +kernel
theorem dX11_willing_26 : decode cX11_willing 26 = .ok (.invokevirtual 254, 3) := by decide +kernel
theorem dX11_willing_29 : decode cX11_willing 29 = .ok (.ifCond .eq 9, 3) := by decide +kernel
theorem dX11_willing_32 : decode cX11_willing 32 = .ok (.iload_n 2, 1) := by decide +kernel
theorem dX11_willing_33 : decode cX11_willing 33 = .ok (.iconst 1, 1) := by decide +kernel
theorem dX11_willing_34 : decode cX11_willing 34 = .ok (.iload_n 3, 1) := by decide +kernel
theorem dX11_willing_35 : decode cX11_willing 35 = .ok (.ishl, 1) := by decide +kernel
theorem dX11_willing_36 : decode cX11_willing 36 = .ok (.ior, 1) := by decide +kernel
theorem dX11_willing_37 : decode cX11_willing 37 = .ok (.istore_n 2, 1) := by decide +kernel
theorem dX11_willing_38 : decode cX11_willing 38 = .ok (.iinc 3 1, 3) := by decide +kernel
theorem dX11_willing_41 : decode cX11_willing 41 = .ok (.goto (-32), 3) := by decide +kernel
theorem dX11_willing_44 : decode cX11_willing 44 = .ok (.iload_n 2, 1) := by decide +kernel
theorem dX11_willing_45 : decode cX11_willing 45 = .ok (.ireturn, 1) := by decide +kernel
theorem dX11_below_0 : decode cX11_below 0 = .ok (.aload_n 0, 1) := by decide +kernel
theorem dX11_below_1 : decode cX11_below 1 = .ok (.iload_n 1, 1) := by decide +kernel
theorem dX11_below_2 : decode cX11_below 2 = .ok (.invokevirtual 214, 3) := by decide +kernel
theorem dX11_below_5 : decode cX11_below 5 = .ok (.aload_n 0, 1) := by decide +kernel
theorem dX11_below_6 : decode cX11_below 6 = .ok (.getfield 65, 3) := by decide +kernel
theorem dX11_below_9 : decode cX11_below 9 = .ok (.iload_n 1, 1) := by decide +kernel
theorem dX11_below_10 : decode cX11_below 10 = .ok (.invokevirtual 241, 3) := by decide +kernel
theorem dX11_below_13 : decode cX11_below 13 = .ok (.istore_n 2, 1) := by decide +kernel
theorem dX11_below_14 : decode cX11_below 14 = .ok (.iconst 0, 1) := by decide +kernel
theorem dX11_below_15 : decode cX11_below 15 = .ok (.istore_n 3, 1) := by decide +kernel
theorem dX11_below_16 : decode cX11_below 16 = .ok (.iload_n 3, 1) := by decide +kernel
theorem dX11_below_17 : decode cX11_below 17 = .ok (.bipush 8, 2) := by decide +kernel
theorem dX11_below_19 : decode cX11_below 19 = .ok (.if_icmp .ge 52, 3) := by decide +kernel
theorem dX11_below_22 : decode cX11_below 22 = .ok (.iconst 0, 1) := by decide +kernel
theorem dX11_below_23 : decode cX11_below 23 = .ok (.istore 4, 2) := by decide +kernel
theorem dX11_below_25 : decode cX11_below 25 = .ok (.iload 4, 2) := by decide +kernel
theorem dX11_below_27 : decode cX11_below 27 = .ok (.aload_n 0, 1) := by decide +kernel
theorem dX11_below_28 : decode cX11_below 28 = .ok (.getfield 19, 3) := by decide +kernel
theorem dX11_below_31 : decode cX11_below 31 = .ok (.getfield 143, 3) := by decide +kernel
theorem dX11_below_34 : decode cX11_below 34 = .ok (.if_icmp .ge 31, 3) := by decide +kernel
theorem dX11_below_37 : decode cX11_below 37 = .ok (.iload_n 2, 1) := by decide +kernel
theorem dX11_below_38 : decode cX11_below 38 = .ok (.iload 4, 2) := by decide +kernel
theorem dX11_below_40 : decode cX11_below 40 = .ok (.ishr, 1) := by decide +kernel
theorem dX11_below_41 : decode cX11_below 41 = .ok (.iconst 1, 1) := by decide +kernel
theorem dX11_below_42 : decode cX11_below 42 = .ok (.iand, 1) := by decide +kernel
theorem dX11_below_43 : decode cX11_below 43 = .ok (.iconst 1, 1) := by decide +kernel
theorem dX11_below_44 : decode cX11_below 44 = .ok (.if_icmp .ne 15, 3) := by decide +kernel
theorem dX11_below_47 : decode cX11_below 47 = .ok (.iload_n 2, 1) := by decide +kernel
theorem dX11_below_48 : decode cX11_below 48 = .ok (.aload_n 0, 1) := by decide +kernel
theorem dX11_below_49 : decode cX11_below 49 = .ok (.getfield 65, 3) := by decide +kernel
theorem dX11_below_52 : decode cX11_below 52 = .ok (.iload 4, 2) := by decide +kernel
theorem dX11_below_54 : decode cX11_below 54 = .ok (.invokevirtual 241, 3) := by decide +kernel
theorem dX11_below_57 : decode cX11_below 57 = .ok (.ior, 1) := by decide +kernel
theorem dX11_below_58 : decode cX11_below 58 = .ok (.istore_n 2, 1) := by decide +kernel
theorem dX11_below_59 : decode cX11_below 59 = .ok (.iinc 4 1, 3) := by decide +kernel
theorem dX11_below_62 : decode cX11_below 62 = .ok (.goto (-37), 3) := by decide +kernel
theorem dX11_below_65 : decode cX11_below 65 = .ok (.iinc 3 1, 3) := by decide +kernel
theorem dX11_below_68 : decode cX11_below 68 = .ok (.goto (-52), 3) := by decide +kernel
theorem dX11_below_71 : decode cX11_below 71 = .ok (.iload_n 2, 1) := by decide +kernel
theorem dX11_below_72 : decode cX11_below 72 = .ok (.ireturn, 1) := by decide +kernel
theorem dX11_debtless_0 : decode cX11_debtless 0 = .ok (.iconst 0, 1) := by decide +kernel
theorem dX11_debtless_1 : decode cX11_debtless 1 = .ok (.istore_n 1, 1) := by decide +kernel
theorem dX11_debtless_2 : decode cX11_debtless 2 = .ok (.iconst 0, 1) := by decide +kernel
theorem dX11_debtless_3 : decode cX11_debtless 3 = .ok (.istore_n 2, 1) := by decide +kernel
theorem dX11_debtless_4 : decode cX11_debtless 4 = .ok (.iload_n 2, 1) := by decide +kernel
theorem dX11_debtless_5 : decode cX11_debtless 5 = .ok (.aload_n 0, 1) := by decide +kernel
theorem dX11_debtless_6 : decode cX11_debtless 6 = .ok (.getfield 19, 3) := by decide +kernel
theorem dX11_debtless_9 : decode cX11_debtless 9 = .ok (.getfield 143, 3) := by decide +kernel
theorem dX11_debtless_12 : decode cX11_debtless 12 = .ok (.if_icmp .ge 29, 3) := by decide +kernel
theorem dX11_debtless_15 : decode cX11_debtless 15 = .ok (.aload_n 0, 1) := by decide +kernel
theorem dX11_debtless_16 : decode cX11_debtless 16 = .ok (.getfield 65, 3) := by decide +kernel
theorem dX11_debtless_19 : decode cX11_debtless 19 = .ok (.getfield 227, 3) := by decide +kernel
theorem dX11_debtless_22 : decode cX11_debtless 22 = .ok (.iload_n 2, 1) := by decide +kernel
theorem dX11_debtless_23 : decode cX11_debtless 23 = .ok (.invokestatic 221, 3) := by decide +kernel
theorem dX11_debtless_26 : decode cX11_debtless 26 = .ok (.ifCond .ne 9, 3) := by decide +kernel
theorem dX11_debtless_29 : decode cX11_debtless 29 = .ok (.iload_n 1, 1) := by decide +kernel
theorem dX11_debtless_30 : decode cX11_debtless 30 = .ok (.iconst 1, 1) := by decide +kernel
theorem dX11_debtless_31 : decode cX11_debtless 31 = .ok (.iload_n 2, 1) := by decide +kernel
theorem dX11_debtless_32 : decode cX11_debtless 32 = .ok (.ishl, 1) := by decide +kernel
theorem dX11_debtless_33 : decode cX11_debtless 33 = .ok (.ior, 1) := by decide +kernel
theorem dX11_debtless_34 : decode cX11_debtless 34 = .ok (.istore_n 1, 1) := by decide +kernel
theorem dX11_debtless_35 : decode cX11_debtless 35 = .ok (.iinc 2 1, 3) := by decide +kernel
theorem dX11_debtless_38 : decode cX11_debtless 38 = .ok (.goto (-34), 3) := by decide +kernel
theorem dX11_debtless_41 : decode cX11_debtless 41 = .ok (.iload_n 1, 1) := by decide +kernel
theorem dX11_debtless_42 : decode cX11_debtless 42 = .ok (.ireturn, 1) := by decide +kernel
theorem dX11_after_0 : decode cX11_after 0 = .ok (.aload_n 0, 1) := by decide +kernel
theorem dX11_after_1 : decode cX11_after 1 = .ok (.iload_n 1, 1) := by decide +kernel
theorem dX11_after_2 : decode cX11_after 2 = .ok (.invokevirtual 214, 3) := by decide +kernel
theorem dX11_after_5 : decode cX11_after 5 = .ok (.aload_n 0, 1) := by decide +kernel
theorem dX11_after_6 : decode cX11_after 6 = .ok (.iload_n 2, 1) := by decide +kernel
theorem dX11_after_7 : decode cX11_after 7 = .ok (.ifCond .eq 8, 3) := by decide +kernel
theorem dX11_after_10 : decode cX11_after 10 = .ok (.iload_n 2, 1) := by decide +kernel
theorem dX11_after_11 : decode cX11_after 11 = .ok (.iconst 1, 1) := by decide +kernel
theorem dX11_after_12 : decode cX11_after 12 = .ok (.if_icmp .ne 7, 3) := by decide +kernel
theorem dX11_after_15 : decode cX11_after 15 = .ok (.iconst 1, 1) := by decide +kernel
theorem dX11_after_16 : decode cX11_after 16 = .ok (.goto 4, 3) := by decide +kernel
theorem dX11_after_19 : decode cX11_after 19 = .ok (.iconst 0, 1) := by decide +kernel
theorem dX11_after_20 : decode cX11_after 20 = .ok (.invokevirtual 115, 3) := by decide +kernel
theorem dX11_after_23 : decode cX11_after 23 = .ok (.aload_n 0, 1) := by decide +kernel
theorem dX11_after_24 : decode cX11_after 24 = .ok (.getfield 65, 3) := by decide +kernel
theorem dX11_after_27 : decode cX11_after 27 = .ok (.iload_n 1, 1) := by decide +kernel
theorem dX11_after_28 : decode cX11_after 28 = .ok (.invokevirtual 230, 3) := by decide +kernel
theorem dX11_after_31 : decode cX11_after 31 = .ok (.ifCond .eq 14, 3) := by decide +kernel
theorem dX11_after_34 : decode cX11_after 34 = .ok (.aload_n 0, 1) := by decide +kernel
theorem dX11_after_35 : decode cX11_after 35 = .ok (.getfield 65, 3) := by decide +kernel
theorem dX11_after_38 : decode cX11_after 38 = .ok (.iload_n 1, 1) := by decide +kernel
theorem dX11_after_39 : decode cX11_after 39 = .ok (.invokevirtual 268, 3) := by decide +kernel
theorem dX11_after_42 : decode cX11_after 42 = .ok (.goto 4, 3) := by decide +kernel
theorem dX11_after_45 : decode cX11_after 45 = .ok (.iconst (-1), 1) := by decide +kernel
theorem dX11_after_46 : decode cX11_after 46 = .ok (.istore_n 3, 1) := by decide +kernel
theorem dX11_after_47 : decode cX11_after 47 = .ok (.iload_n 3, 1) := by decide +kernel
theorem dX11_after_48 : decode cX11_after 48 = .ok (.iconst (-1), 1) := by decide +kernel
theorem dX11_after_49 : decode cX11_after 49 = .ok (.if_icmp .ne 5, 3) := by decide +kernel
theorem dX11_after_52 : decode cX11_after 52 = .ok (.iconst (-1), 1) := by decide +kernel
theorem dX11_after_53 : decode cX11_after 53 = .ok (.ireturn, 1) := by decide +kernel
theorem dX11_after_54 : decode cX11_after 54 = .ok (.iload_n 2, 1) := by decide +kernel
theorem dX11_after_55 : decode cX11_after 55 = .ok (.ifCond .ne 14, 3) := by decide +kernel
theorem dX11_after_58 : decode cX11_after 58 = .ok (.aload_n 0, 1) := by decide +kernel
theorem dX11_after_59 : decode cX11_after 59 = .ok (.getfield 65, 3) := by decide +kernel
theorem dX11_after_62 : decode cX11_after 62 = .ok (.iload_n 3, 1) := by decide +kernel
theorem dX11_after_63 : decode cX11_after 63 = .ok (.invokevirtual 237, 3) := by decide +kernel
theorem dX11_after_66 : decode cX11_after 66 = .ok (.iconst 1, 1) := by decide +kernel
theorem dX11_after_67 : decode cX11_after 67 = .ok (.iadd, 1) := by decide +kernel
theorem dX11_after_68 : decode cX11_after 68 = .ok (.ireturn, 1) := by decide +kernel
theorem dX11_after_69 : decode cX11_after 69 = .ok (.sipush 999, 3) := by decide +kernel
theorem dX11_after_72 : decode cX11_after 72 = .ok (.aload_n 0, 1) := by decide +kernel
theorem dX11_after_73 : decode cX11_after 73 = .ok (.getfield 65, 3) := by decide +kernel
theorem dX11_after_76 : decode cX11_after 76 = .ok (.getfield 227, 3) := by decide +kernel
theorem dX11_after_79 : decode cX11_after 79 = .ok (.iload_n 3, 1) := by decide +kernel
theorem dX11_after_80 : decode cX11_after 80 = .ok (.invokestatic 221, 3) := by decide +kernel
theorem dX11_after_83 : decode cX11_after 83 = .ok (.aload_n 0, 1) := by decide +kernel
theorem dX11_after_84 : decode cX11_after 84 = .ok (.getfield 65, 3) := by decide +kernel
theorem dX11_after_87 : decode cX11_after 87 = .ok (.getfield 227, 3) := by decide +kernel
theorem dX11_after_90 : decode cX11_after 90 = .ok (.iload_n 1, 1) := by decide +kernel
theorem dX11_after_91 : decode cX11_after 91 = .ok (.invokestatic 221, 3) := by decide +kernel
theorem dX11_after_94 : decode cX11_after 94 = .ok (.iadd, 1) := by decide +kernel
theorem dX11_after_95 : decode cX11_after 95 = .ok (.invokestatic 344, 3) := by decide +kernel
theorem dX11_after_98 : decode cX11_after 98 = .ok (.ireturn, 1) := by decide +kernel
theorem dX11_latest_0 : decode cX11_latest 0 = .ok (.aload_n 0, 1) := by decide +kernel
theorem dX11_latest_1 : decode cX11_latest 1 = .ok (.iload_n 1, 1) := by decide +kernel
theorem dX11_latest_2 : decode cX11_latest 2 = .ok (.ifCond .eq 8, 3) := by decide +kernel
theorem dX11_latest_5 : decode cX11_latest 5 = .ok (.iload_n 1, 1) := by decide +kernel
theorem dX11_latest_6 : decode cX11_latest 6 = .ok (.iconst 1, 1) := by decide +kernel
theorem dX11_latest_7 : decode cX11_latest 7 = .ok (.if_icmp .ne 7, 3) := by decide +kernel
theorem dX11_latest_10 : decode cX11_latest 10 = .ok (.iconst 1, 1) := by decide +kernel
theorem dX11_latest_11 : decode cX11_latest 11 = .ok (.goto 4, 3) := by decide +kernel
theorem dX11_latest_14 : decode cX11_latest 14 = .ok (.iconst 0, 1) := by decide +kernel
theorem dX11_latest_15 : decode cX11_latest 15 = .ok (.invokevirtual 115, 3) := by decide +kernel
theorem dX11_latest_18 : decode cX11_latest 18 = .ok (.iconst (-1), 1) := by decide +kernel
theorem dX11_latest_19 : decode cX11_latest 19 = .ok (.istore_n 2, 1) := by decide +kernel
theorem dX11_latest_20 : decode cX11_latest 20 = .ok (.iconst (-1), 1) := by decide +kernel
theorem dX11_latest_21 : decode cX11_latest 21 = .ok (.istore_n 3, 1) := by decide +kernel
theorem dX11_latest_22 : decode cX11_latest 22 = .ok (.iconst 0, 1) := by decide +kernel
theorem dX11_latest_23 : decode cX11_latest 23 = .ok (.istore 4, 2) := by decide +kernel
theorem dX11_latest_25 : decode cX11_latest 25 = .ok (.iload 4, 2) := by decide +kernel
theorem dX11_latest_27 : decode cX11_latest 27 = .ok (.aload_n 0, 1) := by decide +kernel
theorem dX11_latest_28 : decode cX11_latest 28 = .ok (.getfield 19, 3) := by decide +kernel
theorem dX11_latest_31 : decode cX11_latest 31 = .ok (.getfield 143, 3) := by decide +kernel
theorem dX11_latest_34 : decode cX11_latest 34 = .ok (.if_icmp .ge 41, 3) := by decide +kernel
theorem dX11_latest_37 : decode cX11_latest 37 = .ok (.aload_n 0, 1) := by decide +kernel
theorem dX11_latest_38 : decode cX11_latest 38 = .ok (.getfield 65, 3) := by decide +kernel
theorem dX11_latest_41 : decode cX11_latest 41 = .ok (.getfield 247, 3) := by decide +kernel
theorem dX11_latest_44 : decode cX11_latest 44 = .ok (.iload 4, 2) := by decide +kernel
theorem dX11_latest_46 : decode cX11_latest 46 = .ok (.invokestatic 221, 3) := by decide +kernel
theorem dX11_latest_49 : decode cX11_latest 49 = .ok (.iload_n 3, 1) := by decide +kernel
theorem dX11_latest_50 : decode cX11_latest 50 = .ok (.if_icmp .le 19, 3) := by decide +kernel
theorem dX11_latest_53 : decode cX11_latest 53 = .ok (.iload 4, 2) := by decide +kernel
theorem dX11_latest_55 : decode cX11_latest 55 = .ok (.istore_n 2, 1) := by decide +kernel
theorem dX11_latest_56 : decode cX11_latest 56 = .ok (.aload_n 0, 1) := by decide +kernel
theorem dX11_latest_57 : decode cX11_latest 57 = .ok (.getfield 65, 3) := by decide +kernel
theorem dX11_latest_60 : decode cX11_latest 60 = .ok (.getfield 247, 3) := by decide +kernel
theorem dX11_latest_63 : decode cX11_latest 63 = .ok (.iload 4, 2) := by decide +kernel
theorem dX11_latest_65 : decode cX11_latest 65 = .ok (.invokestatic 221, 3) := by decide +kernel
theorem dX11_latest_68 : decode cX11_latest 68 = .ok (.istore_n 3, 1) := by decide +kernel
theorem dX11_latest_69 : decode cX11_latest 69 = .ok (.iinc 4 1, 3) := by decide +kernel
theorem dX11_latest_72 : decode cX11_latest 72 = .ok (.goto (-47), 3) := by decide +kernel
theorem dX11_latest_75 : decode cX11_latest 75 = .ok (.iload_n 1, 1) := by decide +kernel
theorem dX11_latest_76 : decode cX11_latest 76 = .ok (.ifCond .ne 7, 3) := by decide +kernel
theorem dX11_latest_79 : decode cX11_latest 79 = .ok (.iload_n 2, 1) := by decide +kernel
theorem dX11_latest_80 : decode cX11_latest 80 = .ok (.goto 4, 3) := by decide +kernel
theorem dX11_latest_83 : decode cX11_latest 83 = .ok (.iload_n 3, 1) := by decide +kernel
theorem dX11_latest_84 : decode cX11_latest 84 = .ok (.ireturn, 1) := by decide +kernel
theorem dX11_century_0 : decode cX11_century 0 = .ok (.aload_n 0, 1) := by decide +kernel
theorem dX11_century_1 : decode cX11_century 1 = .ok (.iload_n 2, 1) := by decide +kernel
theorem dX11_century_2 : decode cX11_century 2 = .ok (.iconst 1, 1) := by decide +kernel
theorem dX11_century_3 : decode cX11_century 3 = .ok (.if_icmp .lt 34, 3) := by decide +kernel
theorem dX11_century_6 : decode cX11_century 6 = .ok (.iload_n 2, 1) := by decide +kernel
theorem dX11_century_7 : decode cX11_century 7 = .ok (.bipush 96, 2) := by decide +kernel
theorem dX11_century_9 : decode cX11_century 9 = .ok (.if_icmp .gt 28, 3) := by decide +kernel
theorem dX11_century_12 : decode cX11_century 12 = .ok (.iload_n 3, 1) := by decide +kernel
theorem dX11_century_13 : decode cX11_century 13 = .ok (.ifCond .lt 24, 3) := by decide +kernel
theorem dX11_century_16 : decode cX11_century 16 = .ok (.iload_n 3, 1) := by decide +kernel
theorem dX11_century_17 : decode cX11_century 17 = .ok (.bipush 16, 2) := by decide +kernel
theorem dX11_century_19 : decode cX11_century 19 = .ok (.if_icmp .gt 18, 3) := by decide +kernel
theorem dX11_century_22 : decode cX11_century 22 = .ok (.iload 4, 2) := by decide +kernel
theorem dX11_century_24 : decode cX11_century 24 = .ok (.ifCond .lt 13, 3) := by decide +kernel
theorem dX11_century_27 : decode cX11_century 27 = .ok (.iload 4, 2) := by decide +kernel
theorem dX11_century_29 : decode cX11_century 29 = .ok (.iconst 3, 1) := by decide +kernel
theorem dX11_century_30 : decode cX11_century 30 = .ok (.if_icmp .gt 7, 3) := by decide +kernel
theorem dX11_century_33 : decode cX11_century 33 = .ok (.iconst 1, 1) := by decide +kernel
theorem dX11_century_34 : decode cX11_century 34 = .ok (.goto 4, 3) := by decide +kernel
theorem dX11_century_37 : decode cX11_century 37 = .ok (.iconst 0, 1) := by decide +kernel
theorem dX11_century_38 : decode cX11_century 38 = .ok (.invokevirtual 115, 3) := by decide +kernel
theorem dX11_century_41 : decode cX11_century 41 = .ok (.aload_n 0, 1) := by decide +kernel
theorem dX11_century_42 : decode cX11_century 42 = .ok (.iload_n 1, 1) := by decide +kernel
theorem dX11_century_43 : decode cX11_century 43 = .ok (.iload_n 2, 1) := by decide +kernel
theorem dX11_century_44 : decode cX11_century 44 = .ok (.iload_n 3, 1) := by decide +kernel
theorem dX11_century_45 : decode cX11_century 45 = .ok (.invokevirtual 355, 3) := by decide +kernel
theorem dX11_century_48 : decode cX11_century 48 = .ok (.iload 4, 2) := by decide +kernel
theorem dX11_century_50 : decode cX11_century 50 = .ok (.tableswitch 50 0 2 #[26, 34, 42], 26) := by decide +kernel
theorem dX11_century_76 : decode cX11_century 76 = .ok (.aload_n 0, 1) := by decide +kernel
theorem dX11_century_77 : decode cX11_century 77 = .ok (.getfield 69, 3) := by decide +kernel
theorem dX11_century_80 : decode cX11_century 80 = .ok (.invokevirtual 187, 3) := by decide +kernel
theorem dX11_century_83 : decode cX11_century 83 = .ok (.ireturn, 1) := by decide +kernel
theorem dX11_century_84 : decode cX11_century 84 = .ok (.aload_n 0, 1) := by decide +kernel
theorem dX11_century_85 : decode cX11_century 85 = .ok (.getfield 69, 3) := by decide +kernel
theorem dX11_century_88 : decode cX11_century 88 = .ok (.invokevirtual 190, 3) := by decide +kernel
theorem dX11_century_91 : decode cX11_century 91 = .ok (.ireturn, 1) := by decide +kernel
theorem dX11_century_92 : decode cX11_century 92 = .ok (.aload_n 0, 1) := by decide +kernel
theorem dX11_century_93 : decode cX11_century 93 = .ok (.getfield 69, 3) := by decide +kernel
theorem dX11_century_96 : decode cX11_century 96 = .ok (.invokevirtual 199, 3) := by decide +kernel
theorem dX11_century_99 : decode cX11_century 99 = .ok (.ireturn, 1) := by decide +kernel
theorem dX11_century_100 : decode cX11_century 100 = .ok (.aload_n 0, 1) := by decide +kernel
theorem dX11_century_101 : decode cX11_century 101 = .ok (.getfield 69, 3) := by decide +kernel
theorem dX11_century_104 : decode cX11_century 104 = .ok (.invokevirtual 211, 3) := by decide +kernel
theorem dX11_century_107 : decode cX11_century 107 = .ok (.ireturn, 1) := by decide +kernel
theorem dX11_span_0 : decode cX11_span 0 = .ok (.aload_n 0, 1) := by decide +kernel
theorem dX11_span_1 : decode cX11_span 1 = .ok (.iload_n 2, 1) := by decide +kernel
theorem dX11_span_2 : decode cX11_span 2 = .ok (.iconst 1, 1) := by decide +kernel
theorem dX11_span_3 : decode cX11_span 3 = .ok (.if_icmp .lt 36, 3) := by decide +kernel
theorem dX11_span_6 : decode cX11_span 6 = .ok (.iload_n 2, 1) := by decide +kernel
theorem dX11_span_7 : decode cX11_span 7 = .ok (.bipush 20, 2) := by decide +kernel
theorem dX11_span_9 : decode cX11_span 9 = .ok (.if_icmp .gt 30, 3) := by decide +kernel
theorem dX11_span_12 : decode cX11_span 12 = .ok (.iload_n 3, 1) := by decide +kernel
theorem dX11_span_13 : decode cX11_span 13 = .ok (.iconst 1, 1) := by decide +kernel
theorem dX11_span_14 : decode cX11_span 14 = .ok (.if_icmp .lt 25, 3) := by decide +kernel
theorem dX11_span_17 : decode cX11_span 17 = .ok (.iload_n 3, 1) := by decide +kernel
theorem dX11_span_18 : decode cX11_span 18 = .ok (.bipush 96, 2) := by decide +kernel
theorem dX11_span_20 : decode cX11_span 20 = .ok (.if_icmp .gt 19, 3) := by decide +kernel
theorem dX11_span_23 : decode cX11_span 23 = .ok (.iload 4, 2) := by decide +kernel
theorem dX11_span_25 : decode cX11_span 25 = .ok (.ifCond .lt 14, 3) := by decide +kernel
theorem dX11_span_28 : decode cX11_span 28 = .ok (.iload 4, 2) := by decide +kernel
theorem dX11_span_30 : decode cX11_span 30 = .ok (.bipush 16, 2) := by decide +kernel
theorem dX11_span_32 : decode cX11_span 32 = .ok (.if_icmp .gt 7, 3) := by decide +kernel
theorem dX11_span_35 : decode cX11_span 35 = .ok (.iconst 1, 1) := by decide +kernel
theorem dX11_span_36 : decode cX11_span 36 = .ok (.goto 4, 3) := by decide +kernel
theorem dX11_span_39 : decode cX11_span 39 = .ok (.iconst 0, 1) := by decide +kernel
theorem dX11_span_40 : decode cX11_span 40 = .ok (.invokevirtual 115, 3) := by decide +kernel
theorem dX11_span_43 : decode cX11_span 43 = .ok (.aload_n 0, 1) := by decide +kernel
theorem dX11_span_44 : decode cX11_span 44 = .ok (.iload 5, 2) := by decide +kernel
theorem dX11_span_46 : decode cX11_span 46 = .ok (.ifCond .lt 30, 3) := by decide +kernel
theorem dX11_span_49 : decode cX11_span 49 = .ok (.iload 5, 2) := by decide +kernel
theorem dX11_span_51 : decode cX11_span 51 = .ok (.iconst 2, 1) := by decide +kernel
theorem dX11_span_52 : decode cX11_span 52 = .ok (.if_icmp .gt 24, 3) := by decide +kernel
theorem dX11_span_55 : decode cX11_span 55 = .ok (.iload 6, 2) := by decide +kernel
theorem dX11_span_57 : decode cX11_span 57 = .ok (.ifCond .lt 19, 3) := by decide +kernel
theorem dX11_span_60 : decode cX11_span 60 = .ok (.iload 6, 2) := by decide +kernel
theorem dX11_span_62 : decode cX11_span 62 = .ok (.aload_n 0, 1) := by decide +kernel
theorem dX11_span_63 : decode cX11_span 63 = .ok (.getfield 19, 3) := by decide +kernel
theorem dX11_span_66 : decode cX11_span 66 = .ok (.getfield 143, 3) := by decide +kernel
theorem dX11_span_69 : decode cX11_span 69 = .ok (.if_icmp .ge 7, 3) := by decide +kernel
theorem dX11_span_72 : decode cX11_span 72 = .ok (.iconst 1, 1) := by decide +kernel
theorem dX11_span_73 : decode cX11_span 73 = .ok (.goto 4, 3) := by decide +kernel
theorem dX11_span_76 : decode cX11_span 76 = .ok (.iconst 0, 1) := by decide +kernel
theorem dX11_span_77 : decode cX11_span 77 = .ok (.invokevirtual 115, 3) := by decide +kernel
theorem dX11_span_80 : decode cX11_span 80 = .ok (.bipush 9, 2) := by decide +kernel
theorem dX11_span_82 : decode cX11_span 82 = .ok (.istore 7, 2) := by decide +kernel
theorem dX11_span_84 : decode cX11_span 84 = .ok (.iconst 0, 1) := by decide +kernel
theorem dX11_span_85 : decode cX11_span 85 = .ok (.istore 8, 2) := by decide +kernel
theorem dX11_span_87 : decode cX11_span 87 = .ok (.iconst 0, 1) := by decide +kernel
theorem dX11_span_88 : decode cX11_span 88 = .ok (.istore 9, 2) := by decide +kernel
theorem dX11_span_90 : decode cX11_span 90 = .ok (.iconst 0, 1) := by decide +kernel
theorem dX11_span_91 : decode cX11_span 91 = .ok (.istore 10, 2) := by decide +kernel
theorem dX11_span_93 : decode cX11_span 93 = .ok (.iload 10, 2) := by decide +kernel
theorem dX11_span_95 : decode cX11_span 95 = .ok (.iload_n 2, 1) := by decide +kernel
theorem dX11_span_96 : decode cX11_span 96 = .ok (.if_icmp .ge 72, 3) := by decide +kernel
theorem dX11_span_99 : decode cX11_span 99 = .ok (.aload_n 0, 1) := by decide +kernel
theorem dX11_span_100 : decode cX11_span 100 = .ok (.iload_n 1, 1) := by decide +kernel
theorem dX11_span_101 : decode cX11_span 101 = .ok (.iload 10, 2) := by decide +kernel
theorem dX11_span_103 : decode cX11_span 103 = .ok (.iadd, 1) := by decide +kernel
theorem dX11_span_104 : decode cX11_span 104 = .ok (.iload_n 3, 1) := by decide +kernel
theorem dX11_span_105 : decode cX11_span 105 = .ok (.iload 4, 2) := by decide +kernel
theorem dX11_span_107 : decode cX11_span 107 = .ok (.invokevirtual 355, 3) := by decide +kernel
theorem dX11_span_110 : decode cX11_span 110 = .ok (.aload_n 0, 1) := by decide +kernel
theorem dX11_span_111 : decode cX11_span 111 = .ok (.getfield 69, 3) := by decide +kernel
theorem dX11_span_114 : decode cX11_span 114 = .ok (.invokevirtual 190, 3) := by decide +kernel
theorem dX11_span_117 : decode cX11_span 117 = .ok (.invokestatic 314, 3) := by decide +kernel
theorem dX11_span_120 : decode cX11_span 120 = .ok (.istore 11, 2) := by decide +kernel
theorem dX11_span_122 : decode cX11_span 122 = .ok (.iload 7, 2) := by decide +kernel
theorem dX11_span_124 : decode cX11_span 124 = .ok (.iload 11, 2) := by decide +kernel
theorem dX11_span_126 : decode cX11_span 126 = .ok (.invokestatic 344, 3) := by decide +kernel
theorem dX11_span_129 : decode cX11_span 129 = .ok (.istore 7, 2) := by decide +kernel
theorem dX11_span_131 : decode cX11_span 131 = .ok (.iload 8, 2) := by decide +kernel
theorem dX11_span_133 : decode cX11_span 133 = .ok (.iload 11, 2) := by decide +kernel
theorem dX11_span_135 : decode cX11_span 135 = .ok (.invokestatic 359, 3) := by decide +kernel
theorem dX11_span_138 : decode cX11_span 138 = .ok (.istore 8, 2) := by decide +kernel
theorem dX11_span_140 : decode cX11_span 140 = .ok (.iload 9, 2) := by decide +kernel
theorem dX11_span_142 : decode cX11_span 142 = .ok (.aload_n 0, 1) := by decide +kernel
theorem dX11_span_143 : decode cX11_span 143 = .ok (.getfield 69, 3) := by decide +kernel
theorem dX11_span_146 : decode cX11_span 146 = .ok (.iload 6, 2) := by decide +kernel
theorem dX11_span_148 : decode cX11_span 148 = .ok (.invokevirtual 230, 3) := by decide +kernel
theorem dX11_span_151 : decode cX11_span 151 = .ok (.ifCond .eq 7, 3) := by decide +kernel
theorem dX11_span_154 : decode cX11_span 154 = .ok (.iconst 1, 1) := by decide +kernel
theorem dX11_span_155 : decode cX11_span 155 = .ok (.goto 4, 3) := by decide +kernel
theorem dX11_span_158 : decode cX11_span 158 = .ok (.iconst 0, 1) := by decide +kernel
theorem dX11_span_159 : decode cX11_span 159 = .ok (.iadd, 1) := by decide +kernel
theorem dX11_span_160 : decode cX11_span 160 = .ok (.istore 9, 2) := by decide +kernel
theorem dX11_span_162 : decode cX11_span 162 = .ok (.iinc 10 1, 3) := by decide +kernel
theorem dX11_span_165 : decode cX11_span 165 = .ok (.goto (-72), 3) := by decide +kernel
theorem dX11_span_168 : decode cX11_span 168 = .ok (.iload 5, 2) := by decide +kernel
theorem dX11_span_170 : decode cX11_span 170 = .ok (.ifCond .ne 8, 3) := by decide +kernel
theorem dX11_span_173 : decode cX11_span 173 = .ok (.iload 7, 2) := by decide +kernel
theorem dX11_span_175 : decode cX11_span 175 = .ok (.goto 16, 3) := by decide +kernel
theorem dX11_span_178 : decode cX11_span 178 = .ok (.iload 5, 2) := by decide +kernel
theorem dX11_span_180 : decode cX11_span 180 = .ok (.iconst 1, 1) := by decide +kernel
theorem dX11_span_181 : decode cX11_span 181 = .ok (.if_icmp .ne 8, 3) := by decide +kernel
theorem dX11_span_184 : decode cX11_span 184 = .ok (.iload 8, 2) := by decide +kernel
theorem dX11_span_186 : decode cX11_span 186 = .ok (.goto 5, 3) := by decide +kernel
theorem dX11_span_189 : decode cX11_span 189 = .ok (.iload 9, 2) := by decide +kernel
theorem dX11_span_191 : decode cX11_span 191 = .ok (.ireturn, 1) := by decide +kernel
theorem dX11_image_0 : decode cX11_image 0 = .ok (.aload_n 0, 1) := by decide +kernel
theorem dX11_image_1 : decode cX11_image 1 = .ok (.getfield 75, 3) := by decide +kernel
theorem dX11_image_4 : decode cX11_image 4 = .ok (.getfield 362, 3) := by decide +kernel
theorem dX11_image_7 : decode cX11_image 7 = .ok (.iconst 3, 1) := by decide +kernel
theorem dX11_image_8 : decode cX11_image 8 = .ok (.if_icmp .lt 5, 3) := by decide +kernel
theorem dX11_image_11 : decode cX11_image 11 = .ok (.iconst (-1), 1) := by decide +kernel
theorem dX11_image_12 : decode cX11_image 12 = .ok (.ireturn, 1) := by decide +kernel
theorem dX11_image_13 : decode cX11_image 13 = .ok (.aload_n 0, 1) := by decide +kernel
theorem dX11_image_14 : decode cX11_image 14 = .ok (.getfield 75, 3) := by decide +kernel
theorem dX11_image_17 : decode cX11_image 17 = .ok (.aload_n 0, 1) := by decide +kernel
theorem dX11_image_18 : decode cX11_image 18 = .ok (.getfield 65, 3) := by decide +kernel
theorem dX11_image_21 : decode cX11_image 21 = .ok (.invokevirtual 365, 3) := by decide +kernel
theorem dX11_image_24 : decode cX11_image 24 = .ok (.aload_n 0, 1) := by decide +kernel
theorem dX11_image_25 : decode cX11_image 25 = .ok (.getfield 75, 3) := by decide +kernel
theorem dX11_image_28 : decode cX11_image 28 = .ok (.getfield 362, 3) := by decide +kernel
theorem dX11_image_31 : decode cX11_image 31 = .ok (.ireturn, 1) := by decide +kernel
theorem dX11_restore_0 : decode cX11_restore 0 = .ok (.aload_n 0, 1) := by decide +kernel
theorem dX11_restore_1 : decode cX11_restore 1 = .ok (.getfield 75, 3) := by decide +kernel
theorem dX11_restore_4 : decode cX11_restore 4 = .ok (.getfield 362, 3) := by decide +kernel
theorem dX11_restore_7 : decode cX11_restore 7 = .ok (.ifCond .gt 5, 3) := by decide +kernel
theorem dX11_restore_10 : decode cX11_restore 10 = .ok (.iconst (-1), 1) := by decide +kernel
theorem dX11_restore_11 : decode cX11_restore 11 = .ok (.ireturn, 1) := by decide +kernel
theorem dX11_restore_12 : decode cX11_restore 12 = .ok (.aload_n 0, 1) := by decide +kernel
theorem dX11_restore_13 : decode cX11_restore 13 = .ok (.getfield 75, 3) := by decide +kernel
theorem dX11_restore_16 : decode cX11_restore 16 = .ok (.aload_n 0, 1) := by decide +kernel
theorem dX11_restore_17 : decode cX11_restore 17 = .ok (.getfield 65, 3) := by decide +kernel
theorem dX11_restore_20 : decode cX11_restore 20 = .ok (.invokevirtual 368, 3) := by decide +kernel
theorem dX11_restore_23 : decode cX11_restore 23 = .ok (.aload_n 0, 1) := by decide +kernel
theorem dX11_restore_24 : decode cX11_restore 24 = .ok (.iconst 0, 1) := by decide +kernel
theorem dX11_restore_25 : decode cX11_restore 25 = .ok (.putfield 140, 3) := by decide +kernel
theorem dX11_restore_28 : decode cX11_restore 28 = .ok (.aload_n 0, 1) := by decide +kernel
theorem dX11_restore_29 : decode cX11_restore 29 = .ok (.getfield 75, 3) := by decide +kernel
theorem dX11_restore_32 : decode cX11_restore 32 = .ok (.getfield 362, 3) := by decide +kernel
theorem dX11_restore_35 : decode cX11_restore 35 = .ok (.ireturn, 1) := by decide +kernel
theorem dX11_status_0 : decode cX11_status 0 = .ok (.iload_n 1, 1) := by decide +kernel
theorem dX11_status_1 : decode cX11_status 1 = .ok (.ifCond .ne 10, 3) := by decide +kernel
theorem dX11_status_4 : decode cX11_status 4 = .ok (.aload_n 0, 1) := by decide +kernel
theorem dX11_status_5 : decode cX11_status 5 = .ok (.getfield 371, 3) := by decide +kernel
theorem dX11_status_8 : decode cX11_status 8 = .ok (.goto 16, 3) := by decide +kernel
theorem dX11_status_11 : decode cX11_status 11 = .ok (.iload_n 1, 1) := by decide +kernel
theorem dX11_status_12 : decode cX11_status 12 = .ok (.iconst 1, 1) := by decide +kernel
theorem dX11_status_13 : decode cX11_status 13 = .ok (.if_icmp .ne 10, 3) := by decide +kernel
theorem dX11_status_16 : decode cX11_status 16 = .ok (.aload_n 0, 1) := by decide +kernel
theorem dX11_status_17 : decode cX11_status 17 = .ok (.getfield 374, 3) := by decide +kernel
theorem dX11_status_20 : decode cX11_status 20 = .ok (.goto 4, 3) := by decide +kernel
theorem dX11_status_23 : decode cX11_status 23 = .ok (.iconst (-1), 1) := by decide +kernel
theorem dX11_status_24 : decode cX11_status 24 = .ok (.ireturn, 1) := by decide +kernel
theorem dX11_count_0 : decode cX11_count 0 = .ok (.iload_n 1, 1) := by decide +kernel
theorem dX11_count_1 : decode cX11_count 1 = .ok (.tableswitch 51 0 2 #[27, 35, 43], 27) := by decide +kernel
theorem dX11_count_28 : decode cX11_count 28 = .ok (.aload_n 0, 1) := by decide +kernel
theorem dX11_count_29 : decode cX11_count 29 = .ok (.getfield 75, 3) := by decide +kernel
theorem dX11_count_32 : decode cX11_count 32 = .ok (.getfield 362, 3) := by decide +kernel
theorem dX11_count_35 : decode cX11_count 35 = .ok (.ireturn, 1) := by decide +kernel
theorem dX11_count_36 : decode cX11_count 36 = .ok (.aload_n 0, 1) := by decide +kernel
theorem dX11_count_37 : decode cX11_count 37 = .ok (.getfield 10, 3) := by decide +kernel
theorem dX11_count_40 : decode cX11_count 40 = .ok (.getfield 111, 3) := by decide +kernel
theorem dX11_count_43 : decode cX11_count 43 = .ok (.ireturn, 1) := by decide +kernel
theorem dX11_count_44 : decode cX11_count 44 = .ok (.aload_n 0, 1) := by decide +kernel
theorem dX11_count_45 : decode cX11_count 45 = .ok (.getfield 75, 3) := by decide +kernel
theorem dX11_count_48 : decode cX11_count 48 = .ok (.getfield 181, 3) := by decide +kernel
theorem dX11_count_51 : decode cX11_count 51 = .ok (.ireturn, 1) := by decide +kernel
theorem dX11_count_52 : decode cX11_count 52 = .ok (.iconst (-1), 1) := by decide +kernel
theorem dX11_count_53 : decode cX11_count 53 = .ok (.ireturn, 1) := by decide +kernel
theorem dX11_needPerson_0 : decode cX11_needPerson 0 = .ok (.iload_n 1, 1) := by decide +kernel
theorem dX11_needPerson_1 : decode cX11_needPerson 1 = .ok (.ifCond .lt 14, 3) := by decide +kernel
theorem dX11_needPerson_4 : decode cX11_needPerson 4 = .ok (.iload_n 1, 1) := by decide +kernel
theorem dX11_needPerson_5 : decode cX11_needPerson 5 = .ok (.aload_n 0, 1) := by decide +kernel
theorem dX11_needPerson_6 : decode cX11_needPerson 6 = .ok (.getfield 19, 3) := by decide +kernel
theorem dX11_needPerson_9 : decode cX11_needPerson 9 = .ok (.getfield 143, 3) := by decide +kernel
theorem dX11_needPerson_12 : decode cX11_needPerson 12 = .ok (.if_icmp .lt 21, 3) := by decide +kernel
theorem dX11_needPerson_15 : decode cX11_needPerson 15 = .ok (.aload_n 0, 1) := by decide +kernel
theorem dX11_needPerson_16 : decode cX11_needPerson 16 = .ok (.dup, 1) := by decide +kernel
theorem dX11_needPerson_17 : decode cX11_needPerson 17 = .ok (.getfield 371, 3) := by decide +kernel
theorem dX11_needPerson_20 : decode cX11_needPerson 20 = .ok (.iconst 1, 1) := by decide +kernel
theorem dX11_needPerson_21 : decode cX11_needPerson 21 = .ok (.iadd, 1) := by decide +kernel
theorem dX11_needPerson_22 : decode cX11_needPerson 22 = .ok (.putfield 371, 3) := by decide +kernel
theorem dX11_needPerson_25 : decode cX11_needPerson 25 = .ok (.new 377, 3) := by decide +kernel
theorem dX11_needPerson_28 : decode cX11_needPerson 28 = .ok (.dup, 1) := by decide +kernel
theorem dX11_needPerson_29 : decode cX11_needPerson 29 = .ok (.invokespecial 379, 3) := by decide +kernel
theorem dX11_needPerson_32 : decode cX11_needPerson 32 = .ok (.athrow, 1) := by decide +kernel
theorem dX11_needPerson_33 : decode cX11_needPerson 33 = .ok (.return_, 1) := by decide +kernel
theorem dX11_need_0 : decode cX11_need 0 = .ok (.iload_n 1, 1) := by decide +kernel
theorem dX11_need_1 : decode cX11_need 1 = .ok (.ifCond .ne 21, 3) := by decide +kernel
theorem dX11_need_4 : decode cX11_need 4 = .ok (.aload_n 0, 1) := by decide +kernel
theorem dX11_need_5 : decode cX11_need 5 = .ok (.dup, 1) := by decide +kernel
theorem dX11_need_6 : decode cX11_need 6 = .ok (.getfield 374, 3) := by decide +kernel
theorem dX11_need_9 : decode cX11_need 9 = .ok (.iconst 1, 1) := by decide +kernel
theorem dX11_need_10 : decode cX11_need 10 = .ok (.iadd, 1) := by decide +kernel
theorem dX11_need_11 : decode cX11_need 11 = .ok (.putfield 374, 3) := by decide +kernel
theorem dX11_need_14 : decode cX11_need 14 = .ok (.new 380, 3) := by decide +kernel
theorem dX11_need_17 : decode cX11_need 17 = .ok (.dup, 1) := by decide +kernel
theorem dX11_need_18 : decode cX11_need 18 = .ok (.invokespecial 382, 3) := by decide +kernel
theorem dX11_need_21 : decode cX11_need 21 = .ok (.athrow, 1) := by decide +kernel
theorem dX11_need_22 : decode cX11_need 22 = .ok (.return_, 1) := by decide +kernel
theorem dX11_needOrders_0 : decode cX11_needOrders 0 = .ok (.aload_n 0, 1) := by decide +kernel
theorem dX11_needOrders_1 : decode cX11_needOrders 1 = .ok (.aload_n 0, 1) := by decide +kernel
theorem dX11_needOrders_2 : decode cX11_needOrders 2 = .ok (.iload_n 1, 1) := by decide +kernel
theorem dX11_needOrders_3 : decode cX11_needOrders 3 = .ok (.invokevirtual 288, 3) := by decide +kernel
theorem dX11_needOrders_6 : decode cX11_needOrders 6 = .ok (.ifCond .eq 16, 3) := by decide +kernel
theorem dX11_needOrders_9 : decode cX11_needOrders 9 = .ok (.iload_n 2, 1) := by decide +kernel
theorem dX11_needOrders_10 : decode cX11_needOrders 10 = .ok (.ifCond .eq 8, 3) := by decide +kernel
theorem dX11_needOrders_13 : decode cX11_needOrders 13 = .ok (.iload_n 2, 1) := by decide +kernel
theorem dX11_needOrders_14 : decode cX11_needOrders 14 = .ok (.iconst 1, 1) := by decide +kernel
theorem dX11_needOrders_15 : decode cX11_needOrders 15 = .ok (.if_icmp .ne 7, 3) := by decide +kernel
theorem dX11_needOrders_18 : decode cX11_needOrders 18 = .ok (.iconst 1, 1) := by decide +kernel
theorem dX11_needOrders_19 : decode cX11_needOrders 19 = .ok (.goto 4, 3) := by decide +kernel
theorem dX11_needOrders_22 : decode cX11_needOrders 22 = .ok (.iconst 0, 1) := by decide +kernel
theorem dX11_needOrders_23 : decode cX11_needOrders 23 = .ok (.invokevirtual 115, 3) := by decide +kernel
theorem dX11_needOrders_26 : decode cX11_needOrders 26 = .ok (.aload_n 0, 1) := by decide +kernel
theorem dX11_needOrders_27 : decode cX11_needOrders 27 = .ok (.aload_n 0, 1) := by decide +kernel
theorem dX11_needOrders_28 : decode cX11_needOrders 28 = .ok (.getfield 82, 3) := by decide +kernel
theorem dX11_needOrders_31 : decode cX11_needOrders 31 = .ok (.aload_n 0, 1) := by decide +kernel
theorem dX11_needOrders_32 : decode cX11_needOrders 32 = .ok (.getfield 65, 3) := by decide +kernel
theorem dX11_needOrders_35 : decode cX11_needOrders 35 = .ok (.iload_n 1, 1) := by decide +kernel
theorem dX11_needOrders_36 : decode cX11_needOrders 36 = .ok (.invokevirtual 383, 3) := by decide +kernel
theorem dX11_needOrders_39 : decode cX11_needOrders 39 = .ok (.invokevirtual 115, 3) := by decide +kernel
theorem dX11_needOrders_42 : decode cX11_needOrders 42 = .ok (.return_, 1) := by decide +kernel
theorem dX11_areTold_0 : decode cX11_areTold 0 = .ok (.iload_n 1, 1) := by decide +kernel
theorem dX11_areTold_1 : decode cX11_areTold 1 = .ok (.ifCond .lt 20, 3) := by decide +kernel
theorem dX11_areTold_4 : decode cX11_areTold 4 = .ok (.iload_n 1, 1) := by decide +kernel
theorem dX11_areTold_5 : decode cX11_areTold 5 = .ok (.iconst 1, 1) := by decide +kernel
theorem dX11_areTold_6 : decode cX11_areTold 6 = .ok (.aload_n 0, 1) := by decide +kernel
theorem dX11_areTold_7 : decode cX11_areTold 7 = .ok (.getfield 19, 3) := by decide +kernel
theorem dX11_areTold_10 : decode cX11_areTold 10 = .ok (.getfield 143, 3) := by decide +kernel
theorem dX11_areTold_13 : decode cX11_areTold 13 = .ok (.ishl, 1) := by decide +kernel
theorem dX11_areTold_14 : decode cX11_areTold 14 = .ok (.if_icmp .ge 7, 3) := by decide +kernel
theorem dX11_areTold_17 : decode cX11_areTold 17 = .ok (.iconst 1, 1) := by decide +kernel
theorem dX11_areTold_18 : decode cX11_areTold 18 = .ok (.goto 4, 3) := by decide +kernel
theorem dX11_areTold_21 : decode cX11_areTold 21 = .ok (.iconst 0, 1) := by decide +kernel
theorem dX11_areTold_22 : decode cX11_areTold 22 = .ok (.ireturn, 1) := by decide +kernel
theorem dX11_tryOrders_0 : decode cX11_tryOrders 0 = .ok (.aload_n 0, 1) := by decide +kernel
theorem dX11_tryOrders_1 : decode cX11_tryOrders 1 = .ok (.getfield 82, 3) := by decide +kernel
theorem dX11_tryOrders_4 : decode cX11_tryOrders 4 = .ok (.invokevirtual 387, 3) := by decide +kernel
theorem dX11_tryOrders_7 : decode cX11_tryOrders 7 = .ok (.iconst 1, 1) := by decide +kernel
theorem dX11_tryOrders_8 : decode cX11_tryOrders 8 = .ok (.istore_n 1, 1) := by decide +kernel
theorem dX11_tryOrders_9 : decode cX11_tryOrders 9 = .ok (.iconst 0, 1) := by decide +kernel
theorem dX11_tryOrders_10 : decode cX11_tryOrders 10 = .ok (.istore_n 2, 1) := by decide +kernel
theorem dX11_tryOrders_11 : decode cX11_tryOrders 11 = .ok (.iload_n 2, 1) := by decide +kernel
theorem dX11_tryOrders_12 : decode cX11_tryOrders 12 = .ok (.bipush 120, 2) := by decide +kernel
theorem dX11_tryOrders_14 : decode cX11_tryOrders 14 = .ok (.if_icmp .ge 94, 3) := by decide +kernel
theorem dX11_tryOrders_17 : decode cX11_tryOrders 17 = .ok (.iload_n 1, 1) := by decide +kernel
theorem dX11_tryOrders_18 : decode cX11_tryOrders 18 = .ok (.ifCond .eq 90, 3) := by decide +kernel
theorem dX11_tryOrders_21 : decode cX11_tryOrders 21 = .ok (.aload_n 0, 1) := by decide +kernel
theorem dX11_tryOrders_22 : decode cX11_tryOrders 22 = .ok (.getfield 69, 3) := by decide +kernel
theorem dX11_tryOrders_25 : decode cX11_tryOrders 25 = .ok (.aload_n 0, 1) := by decide +kernel
theorem dX11_tryOrders_26 : decode cX11_tryOrders 26 = .ok (.getfield 65, 3) := by decide +kernel
theorem dX11_tryOrders_29 : decode cX11_tryOrders 29 = .ok (.invokevirtual 271, 3) := by decide +kernel
theorem dX11_tryOrders_32 : decode cX11_tryOrders 32 = .ok (.iconst 0, 1) := by decide +kernel
theorem dX11_tryOrders_33 : decode cX11_tryOrders 33 = .ok (.istore_n 3, 1) := by decide +kernel
theorem dX11_tryOrders_34 : decode cX11_tryOrders 34 = .ok (.iload_n 3, 1) := by decide +kernel
theorem dX11_tryOrders_35 : decode cX11_tryOrders 35 = .ok (.aload_n 0, 1) := by decide +kernel
theorem dX11_tryOrders_36 : decode cX11_tryOrders 36 = .ok (.getfield 82, 3) := by decide +kernel
theorem dX11_tryOrders_39 : decode cX11_tryOrders 39 = .ok (.getfield 390, 3) := by decide +kernel
theorem dX11_tryOrders_42 : decode cX11_tryOrders 42 = .ok (.if_icmp .ge 30, 3) := by decide +kernel
theorem dX11_tryOrders_45 : decode cX11_tryOrders 45 = .ok (.aload_n 0, 1) := by decide +kernel
theorem dX11_tryOrders_46 : decode cX11_tryOrders 46 = .ok (.getfield 69, 3) := by decide +kernel
theorem dX11_tryOrders_49 : decode cX11_tryOrders 49 = .ok (.iconst 0, 1) := by decide +kernel
theorem dX11_tryOrders_50 : decode cX11_tryOrders 50 = .ok (.aload_n 0, 1) := by decide +kernel
theorem dX11_tryOrders_51 : decode cX11_tryOrders 51 = .ok (.getfield 82, 3) := by decide +kernel
theorem dX11_tryOrders_54 : decode cX11_tryOrders 54 = .ok (.getfield 393, 3) := by decide +kernel
theorem dX11_tryOrders_57 : decode cX11_tryOrders 57 = .ok (.iload_n 3, 1) := by decide +kernel
theorem dX11_tryOrders_58 : decode cX11_tryOrders 58 = .ok (.invokestatic 221, 3) := by decide +kernel
theorem dX11_tryOrders_61 : decode cX11_tryOrders 61 = .ok (.iconst 0, 1) := by decide +kernel
theorem dX11_tryOrders_62 : decode cX11_tryOrders 62 = .ok (.invokevirtual 396, 3) := by decide +kernel
theorem dX11_tryOrders_65 : decode cX11_tryOrders 65 = .ok (.pop, 1) := by decide +kernel
theorem dX11_tryOrders_66 : decode cX11_tryOrders 66 = .ok (.iinc 3 1, 3) := by decide +kernel
theorem dX11_tryOrders_69 : decode cX11_tryOrders 69 = .ok (.goto (-35), 3) := by decide +kernel
theorem dX11_tryOrders_72 : decode cX11_tryOrders 72 = .ok (.aload_n 0, 1) := by decide +kernel
theorem dX11_tryOrders_73 : decode cX11_tryOrders 73 = .ok (.getfield 82, 3) := by decide +kernel
theorem dX11_tryOrders_76 : decode cX11_tryOrders 76 = .ok (.aload_n 0, 1) := by decide +kernel
theorem dX11_tryOrders_77 : decode cX11_tryOrders 77 = .ok (.getfield 69, 3) := by decide +kernel
theorem dX11_tryOrders_80 : decode cX11_tryOrders 80 = .ok (.aload_n 0, 1) := by decide +kernel
theorem dX11_tryOrders_81 : decode cX11_tryOrders 81 = .ok (.getfield 53, 3) := by decide +kernel
theorem dX11_tryOrders_84 : decode cX11_tryOrders 84 = .ok (.aload_n 0, 1) := by decide +kernel
theorem dX11_tryOrders_85 : decode cX11_tryOrders 85 = .ok (.getfield 69, 3) := by decide +kernel
theorem dX11_tryOrders_88 : decode cX11_tryOrders 88 = .ok (.invokevirtual 400, 3) := by decide +kernel
theorem dX11_tryOrders_91 : decode cX11_tryOrders 91 = .ok (.invokevirtual 404, 3) := by decide +kernel
theorem dX11_tryOrders_94 : decode cX11_tryOrders 94 = .ok (.aload_n 0, 1) := by decide +kernel
theorem dX11_tryOrders_95 : decode cX11_tryOrders 95 = .ok (.getfield 82, 3) := by decide +kernel
theorem dX11_tryOrders_98 : decode cX11_tryOrders 98 = .ok (.invokevirtual 408, 3) := by decide +kernel
theorem dX11_tryOrders_101 : decode cX11_tryOrders 101 = .ok (.istore_n 1, 1) := by decide +kernel
theorem dX11_tryOrders_102 : decode cX11_tryOrders 102 = .ok (.iinc 2 1, 3) := by decide +kernel
theorem dX11_tryOrders_105 : decode cX11_tryOrders 105 = .ok (.goto (-94), 3) := by decide +kernel
theorem dX11_tryOrders_108 : decode cX11_tryOrders 108 = .ok (.return_, 1) := by decide +kernel
theorem dX11_gain_0 : decode cX11_gain 0 = .ok (.iload_n 1, 1) := by decide +kernel
theorem dX11_gain_1 : decode cX11_gain 1 = .ok (.ifCond .ne 5, 3) := by decide +kernel
theorem dX11_gain_4 : decode cX11_gain 4 = .ok (.iload_n 2, 1) := by decide +kernel
theorem dX11_gain_5 : decode cX11_gain 5 = .ok (.ireturn, 1) := by decide +kernel
theorem dX11_gain_6 : decode cX11_gain 6 = .ok (.iload_n 0, 1) := by decide +kernel
theorem dX11_gain_7 : decode cX11_gain 7 = .ok (.ifCond .ne 9, 3) := by decide +kernel
theorem dX11_gain_10 : decode cX11_gain 10 = .ok (.iconst 0, 1) := by decide +kernel
theorem dX11_gain_11 : decode cX11_gain 11 = .ok (.iload_n 3, 1) := by decide +kernel
theorem dX11_gain_12 : decode cX11_gain 12 = .ok (.isub, 1) := by decide +kernel
theorem dX11_gain_13 : decode cX11_gain 13 = .ok (.goto 4, 3) := by decide +kernel
theorem dX11_gain_16 : decode cX11_gain 16 = .ok (.iconst 0, 1) := by decide +kernel
theorem dX11_gain_17 : decode cX11_gain 17 = .ok (.ireturn, 1) := by decide +kernel
theorem dX11_weighNames_0 : decode cX11_weighNames 0 = .ok (.iconst 0, 1) := by decide +kernel
theorem dX11_weighNames_1 : decode cX11_weighNames 1 = .ok (.istore_n 3, 1) := by decide +kernel
theorem dX11_weighNames_2 : decode cX11_weighNames 2 = .ok (.iload_n 3, 1) := by decide +kernel
theorem dX11_weighNames_3 : decode cX11_weighNames 3 = .ok (.aload_n 0, 1) := by decide +kernel
theorem dX11_weighNames_4 : decode cX11_weighNames 4 = .ok (.getfield 93, 3) := by decide +kernel
theorem dX11_weighNames_7 : decode cX11_weighNames 7 = .ok (.arraylength, 1) := by decide +kernel
theorem dX11_weighNames_8 : decode cX11_weighNames 8 = .ok (.if_icmp .ge 24, 3) := by decide +kernel
theorem dX11_weighNames_11 : decode cX11_weighNames 11 = .ok (.aload_n 0, 1) := by decide +kernel
theorem dX11_weighNames_12 : decode cX11_weighNames 12 = .ok (.getfield 93, 3) := by decide +kernel
theorem dX11_weighNames_15 : decode cX11_weighNames 15 = .ok (.iload_n 3, 1) := by decide +kernel
theorem dX11_weighNames_16 : decode cX11_weighNames 16 = .ok (.iload_n 3, 1) := by decide +kernel
theorem dX11_weighNames_17 : decode cX11_weighNames 17 = .ok (.ifCond .ne 7, 3) := by decide +kernel
theorem dX11_weighNames_20 : decode cX11_weighNames 20 = .ok (.lconst 1, 1) := by decide +kernel
theorem dX11_weighNames_21 : decode cX11_weighNames 21 = .ok (.goto 4, 3) := by decide +kernel
theorem dX11_weighNames_24 : decode cX11_weighNames 24 = .ok (.lconst 0, 1) := by decide +kernel
theorem dX11_weighNames_25 : decode cX11_weighNames 25 = .ok (.lastore, 1) := by decide +kernel
theorem dX11_weighNames_26 : decode cX11_weighNames 26 = .ok (.iinc 3 1, 3) := by decide +kernel
theorem dX11_weighNames_29 : decode cX11_weighNames 29 = .ok (.goto (-27), 3) := by decide +kernel
theorem dX11_weighNames_32 : decode cX11_weighNames 32 = .ok (.iconst 0, 1) := by decide +kernel
theorem dX11_weighNames_33 : decode cX11_weighNames 33 = .ok (.istore_n 3, 1) := by decide +kernel
theorem dX11_weighNames_34 : decode cX11_weighNames 34 = .ok (.iload_n 3, 1) := by decide +kernel
theorem dX11_weighNames_35 : decode cX11_weighNames 35 = .ok (.iload_n 1, 1) := by decide +kernel
theorem dX11_weighNames_36 : decode cX11_weighNames 36 = .ok (.if_icmp .ge 75, 3) := by decide +kernel
theorem dX11_weighNames_39 : decode cX11_weighNames 39 = .ok (.aload_n 0, 1) := by decide +kernel
theorem dX11_weighNames_40 : decode cX11_weighNames 40 = .ok (.getfield 93, 3) := by decide +kernel
theorem dX11_weighNames_43 : decode cX11_weighNames 43 = .ok (.arraylength, 1) := by decide +kernel
theorem dX11_weighNames_44 : decode cX11_weighNames 44 = .ok (.iconst 1, 1) := by decide +kernel
theorem dX11_weighNames_45 : decode cX11_weighNames 45 = .ok (.isub, 1) := by decide +kernel
theorem dX11_weighNames_46 : decode cX11_weighNames 46 = .ok (.istore 4, 2) := by decide +kernel
theorem dX11_weighNames_48 : decode cX11_weighNames 48 = .ok (.iload 4, 2) := by decide +kernel
theorem dX11_weighNames_50 : decode cX11_weighNames 50 = .ok (.ifCond .lt 55, 3) := by decide +kernel
theorem dX11_weighNames_53 : decode cX11_weighNames 53 = .ok (.iload 4, 2) := by decide +kernel
theorem dX11_weighNames_55 : decode cX11_weighNames 55 = .ok (.ifCond .le 15, 3) := by decide +kernel
theorem dX11_weighNames_58 : decode cX11_weighNames 58 = .ok (.aload_n 0, 1) := by decide +kernel
theorem dX11_weighNames_59 : decode cX11_weighNames 59 = .ok (.getfield 93, 3) := by decide +kernel
theorem dX11_weighNames_62 : decode cX11_weighNames 62 = .ok (.iload 4, 2) := by decide +kernel
theorem dX11_weighNames_64 : decode cX11_weighNames 64 = .ok (.iconst 1, 1) := by decide +kernel
theorem dX11_weighNames_65 : decode cX11_weighNames 65 = .ok (.isub, 1) := by decide +kernel
theorem dX11_weighNames_66 : decode cX11_weighNames 66 = .ok (.laload, 1) := by decide +kernel
theorem dX11_weighNames_67 : decode cX11_weighNames 67 = .ok (.goto 4, 3) := by decide +kernel
theorem dX11_weighNames_70 : decode cX11_weighNames 70 = .ok (.lconst 0, 1) := by decide +kernel
theorem dX11_weighNames_71 : decode cX11_weighNames 71 = .ok (.lstore 5, 2) := by decide +kernel
theorem dX11_weighNames_73 : decode cX11_weighNames 73 = .ok (.aload_n 0, 1) := by decide +kernel
theorem dX11_weighNames_74 : decode cX11_weighNames 74 = .ok (.getfield 93, 3) := by decide +kernel
theorem dX11_weighNames_77 : decode cX11_weighNames 77 = .ok (.iload 4, 2) := by decide +kernel
theorem dX11_weighNames_79 : decode cX11_weighNames 79 = .ok (.aload_n 0, 1) := by decide +kernel
theorem dX11_weighNames_80 : decode cX11_weighNames 80 = .ok (.getfield 93, 3) := by decide +kernel
theorem dX11_weighNames_83 : decode cX11_weighNames 83 = .ok (.iload 4, 2) := by decide +kernel
theorem dX11_weighNames_85 : decode cX11_weighNames 85 = .ok (.laload, 1) := by decide +kernel
theorem dX11_weighNames_86 : decode cX11_weighNames 86 = .ok (.iload_n 2, 1) := by decide +kernel
theorem dX11_weighNames_87 : decode cX11_weighNames 87 = .ok (.i2l, 1) := by decide +kernel
theorem dX11_weighNames_88 : decode cX11_weighNames 88 = .ok (.lmul, 1) := by decide +kernel
theorem dX11_weighNames_89 : decode cX11_weighNames 89 = .ok (.lload 5, 2) := by decide +kernel
theorem dX11_weighNames_91 : decode cX11_weighNames 91 = .ok (.bipush 16, 2) := by decide +kernel
theorem dX11_weighNames_93 : decode cX11_weighNames 93 = .ok (.iload_n 2, 1) := by decide +kernel
theorem dX11_weighNames_94 : decode cX11_weighNames 94 = .ok (.isub, 1) := by decide +kernel
theorem dX11_weighNames_95 : decode cX11_weighNames 95 = .ok (.i2l, 1) := by decide +kernel
theorem dX11_weighNames_96 : decode cX11_weighNames 96 = .ok (.lmul, 1) := by decide +kernel
theorem dX11_weighNames_97 : decode cX11_weighNames 97 = .ok (.ladd, 1) := by decide +kernel
theorem dX11_weighNames_98 : decode cX11_weighNames 98 = .ok (.lastore, 1) := by decide +kernel
theorem dX11_weighNames_99 : decode cX11_weighNames 99 = .ok (.iinc 4 (-1), 3) := by decide +kernel
theorem dX11_weighNames_102 : decode cX11_weighNames 102 = .ok (.goto (-54), 3) := by decide +kernel
theorem dX11_weighNames_105 : decode cX11_weighNames 105 = .ok (.iinc 3 1, 3) := by decide +kernel
theorem dX11_weighNames_108 : decode cX11_weighNames 108 = .ok (.goto (-74), 3) := by decide +kernel
theorem dX11_weighNames_111 : decode cX11_weighNames 111 = .ok (.return_, 1) := by decide +kernel
theorem dX11_passCentury_0 : decode cX11_passCentury 0 = .ok (.aload_n 0, 1) := by decide +kernel
theorem dX11_passCentury_1 : decode cX11_passCentury 1 = .ok (.getfield 69, 3) := by decide +kernel
theorem dX11_passCentury_4 : decode cX11_passCentury 4 = .ok (.aload_n 0, 1) := by decide +kernel
theorem dX11_passCentury_5 : decode cX11_passCentury 5 = .ok (.getfield 65, 3) := by decide +kernel
theorem dX11_passCentury_8 : decode cX11_passCentury 8 = .ok (.invokevirtual 271, 3) := by decide +kernel
theorem dX11_passCentury_11 : decode cX11_passCentury 11 = .ok (.aload_n 0, 1) := by decide +kernel
theorem dX11_passCentury_12 : decode cX11_passCentury 12 = .ok (.iload_n 1, 1) := by decide +kernel
theorem dX11_passCentury_13 : decode cX11_passCentury 13 = .ok (.putfield 411, 3) := by decide +kernel
theorem dX11_passCentury_16 : decode cX11_passCentury 16 = .ok (.iconst 0, 1) := by decide +kernel
theorem dX11_passCentury_17 : decode cX11_passCentury 17 = .ok (.istore 4, 2) := by decide +kernel
theorem dX11_passCentury_19 : decode cX11_passCentury 19 = .ok (.iload 4, 2) := by decide +kernel
theorem dX11_passCentury_21 : decode cX11_passCentury 21 = .ok (.iload_n 2, 1) := by decide +kernel
theorem dX11_passCentury_22 : decode cX11_passCentury 22 = .ok (.if_icmp .ge 96, 3) := by decide +kernel
theorem dX11_passCentury_25 : decode cX11_passCentury 25 = .ok (.aload_n 0, 1) := by decide +kernel
theorem dX11_passCentury_26 : decode cX11_passCentury 26 = .ok (.getfield 19, 3) := by decide +kernel
theorem dX11_passCentury_29 : decode cX11_passCentury 29 = .ok (.getfield 143, 3) := by decide +kernel
theorem dX11_passCentury_32 : decode cX11_passCentury 32 = .ok (.ifCond .le 73, 3) := by decide +kernel
theorem dX11_passCentury_35 : decode cX11_passCentury 35 = .ok (.aload_n 0, 1) := by decide +kernel
theorem dX11_passCentury_36 : decode cX11_passCentury 36 = .ok (.bipush 16, 2) := by decide +kernel
theorem dX11_passCentury_38 : decode cX11_passCentury 38 = .ok (.invokevirtual 414, 3) := by decide +kernel
theorem dX11_passCentury_41 : decode cX11_passCentury 41 = .ok (.iload_n 3, 1) := by decide +kernel
theorem dX11_passCentury_42 : decode cX11_passCentury 42 = .ok (.if_icmp .ge 24, 3) := by decide +kernel
theorem dX11_passCentury_45 : decode cX11_passCentury 45 = .ok (.aload_n 0, 1) := by decide +kernel
theorem dX11_passCentury_46 : decode cX11_passCentury 46 = .ok (.getfield 69, 3) := by decide +kernel
theorem dX11_passCentury_49 : decode cX11_passCentury 49 = .ok (.iconst 0, 1) := by decide +kernel
theorem dX11_passCentury_50 : decode cX11_passCentury 50 = .ok (.aload_n 0, 1) := by decide +kernel
theorem dX11_passCentury_51 : decode cX11_passCentury 51 = .ok (.aload_n 0, 1) := by decide +kernel
theorem dX11_passCentury_52 : decode cX11_passCentury 52 = .ok (.getfield 19, 3) := by decide +kernel
theorem dX11_passCentury_55 : decode cX11_passCentury 55 = .ok (.getfield 143, 3) := by decide +kernel
theorem dX11_passCentury_58 : decode cX11_passCentury 58 = .ok (.invokevirtual 414, 3) := by decide +kernel
theorem dX11_passCentury_61 : decode cX11_passCentury 61 = .ok (.iconst 0, 1) := by decide +kernel
theorem dX11_passCentury_62 : decode cX11_passCentury 62 = .ok (.invokevirtual 396, 3) := by decide +kernel
theorem dX11_passCentury_65 : decode cX11_passCentury 65 = .ok (.pop, 1) := by decide +kernel
theorem dX11_passCentury_66 : decode cX11_passCentury 66 = .ok (.aload_n 0, 1) := by decide +kernel
theorem dX11_passCentury_67 : decode cX11_passCentury 67 = .ok (.aload_n 0, 1) := by decide +kernel
theorem dX11_passCentury_68 : decode cX11_passCentury 68 = .ok (.getfield 19, 3) := by decide +kernel
theorem dX11_passCentury_71 : decode cX11_passCentury 71 = .ok (.getfield 143, 3) := by decide +kernel
theorem dX11_passCentury_74 : decode cX11_passCentury 74 = .ok (.invokevirtual 414, 3) := by decide +kernel
theorem dX11_passCentury_77 : decode cX11_passCentury 77 = .ok (.istore 5, 2) := by decide +kernel
theorem dX11_passCentury_79 : decode cX11_passCentury 79 = .ok (.aload_n 0, 1) := by decide +kernel
theorem dX11_passCentury_80 : decode cX11_passCentury 80 = .ok (.aload_n 0, 1) := by decide +kernel
theorem dX11_passCentury_81 : decode cX11_passCentury 81 = .ok (.getfield 19, 3) := by decide +kernel
theorem dX11_passCentury_84 : decode cX11_passCentury 84 = .ok (.getfield 143, 3) := by decide +kernel
theorem dX11_passCentury_87 : decode cX11_passCentury 87 = .ok (.invokevirtual 414, 3) := by decide +kernel
theorem dX11_passCentury_90 : decode cX11_passCentury 90 = .ok (.istore 6, 2) := by decide +kernel
theorem dX11_passCentury_92 : decode cX11_passCentury 92 = .ok (.aload_n 0, 1) := by decide +kernel
theorem dX11_passCentury_93 : decode cX11_passCentury 93 = .ok (.getfield 69, 3) := by decide +kernel
theorem dX11_passCentury_96 : decode cX11_passCentury 96 = .ok (.iconst 1, 1) := by decide +kernel
theorem dX11_passCentury_97 : decode cX11_passCentury 97 = .ok (.iload 5, 2) := by decide +kernel
theorem dX11_passCentury_99 : decode cX11_passCentury 99 = .ok (.iload 6, 2) := by decide +kernel
theorem dX11_passCentury_101 : decode cX11_passCentury 101 = .ok (.invokevirtual 396, 3) := by decide +kernel
theorem dX11_passCentury_104 : decode cX11_passCentury 104 = .ok (.pop, 1) := by decide +kernel
theorem dX11_passCentury_105 : decode cX11_passCentury 105 = .ok (.aload_n 0, 1) := by decide +kernel
theorem dX11_passCentury_106 : decode cX11_passCentury 106 = .ok (.getfield 69, 3) := by decide +kernel
theorem dX11_passCentury_109 : decode cX11_passCentury 109 = .ok (.invokevirtual 273, 3) := by decide +kernel
theorem dX11_passCentury_112 : decode cX11_passCentury 112 = .ok (.iinc 4 1, 3) := by decide +kernel
theorem dX11_passCentury_115 : decode cX11_passCentury 115 = .ok (.goto (-96), 3) := by decide +kernel
theorem dX11_passCentury_118 : decode cX11_passCentury 118 = .ok (.return_, 1) := by decide +kernel
theorem dX11_drawn_0 : decode cX11_drawn 0 = .ok (.aload_n 0, 1) := by decide +kernel
theorem dX11_drawn_1 : decode cX11_drawn 1 = .ok (.aload_n 0, 1) := by decide +kernel
theorem dX11_drawn_2 : decode cX11_drawn 2 = .ok (.getfield 411, 3) := by decide +kernel
theorem dX11_drawn_5 : decode cX11_drawn 5 = .ok (.ldc_w 417, 3) := by decide +kernel
theorem dX11_drawn_8 : decode cX11_drawn 8 = .ok (.imul, 1) := by decide +kernel
theorem dX11_drawn_9 : decode cX11_drawn 9 = .ok (.sipush 12345, 3) := by decide +kernel
theorem dX11_drawn_12 : decode cX11_drawn 12 = .ok (.iadd, 1) := by decide +kernel
theorem dX11_drawn_13 : decode cX11_drawn 13 = .ok (.putfield 411, 3) := by decide +kernel
theorem dX11_drawn_16 : decode cX11_drawn 16 = .ok (.aload_n 0, 1) := by decide +kernel
theorem dX11_drawn_17 : decode cX11_drawn 17 = .ok (.getfield 411, 3) := by decide +kernel
theorem dX11_drawn_20 : decode cX11_drawn 20 = .ok (.bipush 16, 2) := by decide +kernel
theorem dX11_drawn_22 : decode cX11_drawn 22 = .ok (.iushr, 1) := by decide +kernel
theorem dX11_drawn_23 : decode cX11_drawn 23 = .ok (.sipush 32767, 3) := by decide +kernel
theorem dX11_drawn_26 : decode cX11_drawn 26 = .ok (.iand, 1) := by decide +kernel
theorem dX11_drawn_27 : decode cX11_drawn 27 = .ok (.istore_n 2, 1) := by decide +kernel
theorem dX11_drawn_28 : decode cX11_drawn 28 = .ok (.iload_n 1, 1) := by decide +kernel
theorem dX11_drawn_29 : decode cX11_drawn 29 = .ok (.ifCond .le 9, 3) := by decide +kernel
theorem dX11_drawn_32 : decode cX11_drawn 32 = .ok (.iload_n 2, 1) := by decide +kernel
theorem dX11_drawn_33 : decode cX11_drawn 33 = .ok (.iload_n 1, 1) := by decide +kernel
theorem dX11_drawn_34 : decode cX11_drawn 34 = .ok (.irem, 1) := by decide +kernel
theorem dX11_drawn_35 : decode cX11_drawn 35 = .ok (.goto 4, 3) := by decide +kernel
theorem dX11_drawn_38 : decode cX11_drawn 38 = .ok (.iconst 0, 1) := by decide +kernel
theorem dX11_drawn_39 : decode cX11_drawn 39 = .ok (.ireturn, 1) := by decide +kernel
