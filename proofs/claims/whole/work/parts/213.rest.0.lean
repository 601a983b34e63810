set_option maxRecDepth 20000 in
theorem ggJ0_length_8abf5_J0_coder_7d493 : GoodIn wsJ0_length_8abf5 wsJ0_coder_7d493 := goodIn_r _ [6, 7, 8] rfl (by decide +kernel)
set_option maxRecDepth 20000 in
theorem gJ0_length_8abf5_J0_coder_7d493 : GoodIn wsJ0_length_8abf5 (wsV RJ0 335 RJ0 yJ0_coder_7d493 wsJ0_coder_7d493) := goodIn_app (goodIn_of _ (by decide +kernel)) ggJ0_length_8abf5_J0_coder_7d493
theorem dJ0_length_8abf5_0 : decode cJ0_length_8abf5 0 = .ok (.aload_n 0, 1) := by decide +kernel
theorem dJ0_length_8abf5_1 : decode cJ0_length_8abf5 1 = .ok (.getfield 9, 3) := by decide +kernel
theorem dJ0_length_8abf5_4 : decode cJ0_length_8abf5 4 = .ok (.arraylength, 1) := by decide +kernel
theorem dJ0_length_8abf5_5 : decode cJ0_length_8abf5 5 = .ok (.aload_n 0, 1) := by decide +kernel
theorem dJ0_length_8abf5_6 : decode cJ0_length_8abf5 6 = .ok (.invokevirtual 335, 3) := by decide +kernel
theorem dJ0_length_8abf5_9 : decode cJ0_length_8abf5 9 = .ok (.ishr, 1) := by decide +kernel
theorem dJ0_length_8abf5_10 : decode cJ0_length_8abf5 10 = .ok (.ireturn, 1) := by decide +kernel
set_option maxRecDepth 20000 in
theorem ggJ0_charAt_5068e_J0_isLatin1_aae02 : GoodIn wsJ0_charAt_5068e wsJ0_isLatin1_aae02 := goodIn_r _ [6, 7, 8] rfl (by decide +kernel)
set_option maxRecDepth 20000 in
theorem gJ0_charAt_5068e_J0_isLatin1_aae02 : GoodIn wsJ0_charAt_5068e (wsV RJ0 492 RJ0 yJ0_isLatin1_aae02 wsJ0_isLatin1_aae02) := goodIn_app (goodIn_of _ (by decide +kernel)) ggJ0_charAt_5068e_J0_isLatin1_aae02
set_option maxRecDepth 20000 in
theorem ggJ0_charAt_5068e_J1_charAt_3b067 : GoodIn wsJ0_charAt_5068e wsJ1_charAt_3b067 := goodIn_r _ [12, 13, 14, 5, 15, 16, 17, 18, 19, 20] rfl (by decide +kernel)
set_option maxRecDepth 20000 in
theorem gJ0_charAt_5068e_J1_charAt_3b067 : GoodIn wsJ0_charAt_5068e (va_wsS RJ0 495 yJ1_charAt_3b067 wsJ1_charAt_3b067) := goodIn_app (goodIn_of _ (by decide +kernel)) ggJ0_charAt_5068e_J1_charAt_3b067
set_option maxRecDepth 20000 in
theorem ggJ0_charAt_5068e_J2_charAt_3b067 : GoodIn wsJ0_charAt_5068e wsJ2_charAt_3b067 := goodIn_r _ [24, 25, 26, 23, 27, 28, 29, 30, 31, 14, 5, 15, 16, 17, 18, 19, 20, 32, 33, 34, 35, 36, 37] rfl (by decide +kernel)
set_option maxRecDepth 20000 in
theorem gJ0_charAt_5068e_J2_charAt_3b067 : GoodIn wsJ0_charAt_5068e (va_wsS RJ0 498 yJ2_charAt_3b067 wsJ2_charAt_3b067) := goodIn_app (goodIn_of _ (by decide +kernel)) ggJ0_charAt_5068e_J2_charAt_3b067
theorem dJ0_charAt_5068e_0 : decode cJ0_charAt_5068e 0 = .ok (.aload_n 0, 1) := by decide +kernel
theorem dJ0_charAt_5068e_1 : decode cJ0_charAt_5068e 1 = .ok (.invokevirtual 492, 3) := by decide +kernel
theorem dJ0_charAt_5068e_4 : decode cJ0_charAt_5068e 4 = .ok (.ifCond .eq 12, 3) := by decide +kernel
theorem dJ0_charAt_5068e_7 : decode cJ0_charAt_5068e 7 = .ok (.aload_n 0, 1) := by decide +kernel
theorem dJ0_charAt_5068e_8 : decode cJ0_charAt_5068e 8 = .ok (.getfield 9, 3) := by decide +kernel
theorem dJ0_charAt_5068e_11 : decode cJ0_charAt_5068e 11 = .ok (.iload_n 1, 1) := by decide +kernel
theorem dJ0_charAt_5068e_12 : decode cJ0_charAt_5068e 12 = .ok (.invokestatic 495, 3) := by decide +kernel
theorem dJ0_charAt_5068e_15 : decode cJ0_charAt_5068e 15 = .ok (.ireturn, 1) := by decide +kernel
theorem dJ0_charAt_5068e_16 : decode cJ0_charAt_5068e 16 = .ok (.aload_n 0, 1) := by decide +kernel
theorem dJ0_charAt_5068e_17 : decode cJ0_charAt_5068e 17 = .ok (.getfield 9, 3) := by decide +kernel
theorem dJ0_charAt_5068e_20 : decode cJ0_charAt_5068e 20 = .ok (.iload_n 1, 1) := by decide +kernel
theorem dJ0_charAt_5068e_21 : decode cJ0_charAt_5068e 21 = .ok (.invokestatic 498, 3) := by decide +kernel
theorem dJ0_charAt_5068e_24 : decode cJ0_charAt_5068e 24 = .ok (.ireturn, 1) := by decide +kernel
theorem dJ0_coder_7d493_0 : decode cJ0_coder_7d493 0 = .ok (.getstatic 38, 3) := by decide +kernel
theorem dJ0_coder_7d493_3 : decode cJ0_coder_7d493 3 = .ok (.ifCond .eq 10, 3) := by decide +kernel
theorem dJ0_coder_7d493_6 : decode cJ0_coder_7d493 6 = .ok (.aload_n 0, 1) := by decide +kernel
theorem dJ0_coder_7d493_7 : decode cJ0_coder_7d493 7 = .ok (.getfield 15, 3) := by decide +kernel
theorem dJ0_coder_7d493_10 : decode cJ0_coder_7d493 10 = .ok (.goto 4, 3) := by decide +kernel
theorem dJ0_coder_7d493_13 : decode cJ0_coder_7d493 13 = .ok (.iconst 1, 1) := by decide +kernel
theorem dJ0_coder_7d493_14 : decode cJ0_coder_7d493 14 = .ok (.ireturn, 1) := by decide +kernel
theorem dJ0_isLatin1_aae02_0 : decode cJ0_isLatin1_aae02 0 = .ok (.getstatic 38, 3) := by decide +kernel
theorem dJ0_isLatin1_aae02_3 : decode cJ0_isLatin1_aae02 3 = .ok (.ifCond .eq 14, 3) := by decide +kernel
theorem dJ0_isLatin1_aae02_6 : decode cJ0_isLatin1_aae02 6 = .ok (.aload_n 0, 1) := by decide +kernel
theorem dJ0_isLatin1_aae02_7 : decode cJ0_isLatin1_aae02 7 = .ok (.getfield 15, 3) := by decide +kernel
theorem dJ0_isLatin1_aae02_10 : decode cJ0_isLatin1_aae02 10 = .ok (.ifCond .ne 7, 3) := by decide +kernel
theorem dJ0_isLatin1_aae02_13 : decode cJ0_isLatin1_aae02 13 = .ok (.iconst 1, 1) := by decide +kernel
theorem dJ0_isLatin1_aae02_14 : decode cJ0_isLatin1_aae02 14 = .ok (.goto 4, 3) := by decide +kernel
theorem dJ0_isLatin1_aae02_17 : decode cJ0_isLatin1_aae02 17 = .ok (.iconst 0, 1) := by decide +kernel
theorem dJ0_isLatin1_aae02_18 : decode cJ0_isLatin1_aae02 18 = .ok (.ireturn, 1) := by decide +kernel
set_option maxRecDepth 20000 in
theorem ggJ0_checkIndex_df160_J3_checkIndex_8e157 : GoodIn wsJ0_checkIndex_df160 wsJ3_checkIndex_8e157 := goodIn_r _ [5] rfl (by decide +kernel)
set_option maxRecDepth 20000 in
theorem gJ0_checkIndex_df160_J3_checkIndex_8e157 : GoodIn wsJ0_checkIndex_df160 (va_wsS RJ0 1059 yJ3_checkIndex_8e157 wsJ3_checkIndex_8e157) := goodIn_app (goodIn_of _ (by decide +kernel)) ggJ0_checkIndex_df160_J3_checkIndex_8e157
theorem dJ0_checkIndex_df160_0 : decode cJ0_checkIndex_df160 0 = .ok (.iload_n 0, 1) := by decide +kernel
theorem dJ0_checkIndex_df160_1 : decode cJ0_checkIndex_df160 1 = .ok (.iload_n 1, 1) := by decide +kernel
theorem dJ0_checkIndex_df160_2 : decode cJ0_checkIndex_df160 2 = .ok (.getstatic 1053, 3) := by decide +kernel
theorem dJ0_checkIndex_df160_5 : decode cJ0_checkIndex_df160 5 = .ok (.invokestatic 1059, 3) := by decide +kernel
theorem dJ0_checkIndex_df160_8 : decode cJ0_checkIndex_df160 8 = .ok (.pop, 1) := by decide +kernel
theorem dJ0_checkIndex_df160_9 : decode cJ0_checkIndex_df160 9 = .ok (.return_, 1) := by decide +kernel
set_option maxRecDepth 20000 in
theorem ggJ1_charAt_3b067_J0_checkIndex_df160 : GoodIn wsJ1_charAt_3b067 wsJ0_checkIndex_df160 := goodIn_r _ [4, 5, 6, 7, 8, 9] rfl (by decide +kernel)
set_option maxRecDepth 20000 in
theorem gJ1_charAt_3b067_J0_checkIndex_df160 : GoodIn wsJ1_charAt_3b067 (va_wsS RJ1 9 yJ0_checkIndex_df160 wsJ0_checkIndex_df160) := goodIn_app (goodIn_of _ (by decide +kernel)) ggJ1_charAt_3b067_J0_checkIndex_df160
theorem dJ1_charAt_3b067_0 : decode cJ1_charAt_3b067 0 = .ok (.iload_n 1, 1) := by decide +kernel
theorem dJ1_charAt_3b067_1 : decode cJ1_charAt_3b067 1 = .ok (.aload_n 0, 1) := by decide +kernel
theorem dJ1_charAt_3b067_2 : decode cJ1_charAt_3b067 2 = .ok (.arraylength, 1) := by decide +kernel
theorem dJ1_charAt_3b067_3 : decode cJ1_charAt_3b067 3 = .ok (.invokestatic 9, 3) := by decide +kernel
theorem dJ1_charAt_3b067_6 : decode cJ1_charAt_3b067 6 = .ok (.aload_n 0, 1) := by decide +kernel
theorem dJ1_charAt_3b067_7 : decode cJ1_charAt_3b067 7 = .ok (.iload_n 1, 1) := by decide +kernel
theorem dJ1_charAt_3b067_8 : decode cJ1_charAt_3b067 8 = .ok (.baload, 1) := by decide +kernel
theorem dJ1_charAt_3b067_9 : decode cJ1_charAt_3b067 9 = .ok (.sipush 255, 3) := by decide +kernel
theorem dJ1_charAt_3b067_12 : decode cJ1_charAt_3b067 12 = .ok (.iand, 1) := by decide +kernel
theorem dJ1_charAt_3b067_13 : decode cJ1_charAt_3b067 13 = .ok (.i2c, 1) := by decide +kernel
theorem dJ1_charAt_3b067_14 : decode cJ1_charAt_3b067 14 = .ok (.ireturn, 1) := by decide +kernel
set_option maxRecDepth 20000 in
theorem ggJ2_getChar_3b067_J2_length_9d52b : GoodIn wsJ2_getChar_3b067 wsJ2_length_9d52b := goodIn_r _ [7] rfl (by decide +kernel)
set_option maxRecDepth 20000 in
theorem gJ2_getChar_3b067_J2_length_9d52b : GoodIn wsJ2_getChar_3b067 (va_wsS RJ2 48 yJ2_length_9d52b wsJ2_length_9d52b) := goodIn_app (goodIn_of _ (by decide +kernel)) ggJ2_getChar_3b067_J2_length_9d52b
theorem dJ2_getChar_3b067_0 : decode cJ2_getChar_3b067 0 = .ok (.getstatic 44, 3) := by decide +kernel
theorem dJ2_getChar_3b067_3 : decode cJ2_getChar_3b067 3 = .ok (.ifCond .ne 25, 3) := by decide +kernel
theorem dJ2_getChar_3b067_6 : decode cJ2_getChar_3b067 6 = .ok (.iload_n 1, 1) := by decide +kernel
theorem dJ2_getChar_3b067_7 : decode cJ2_getChar_3b067 7 = .ok (.ifCond .lt 11, 3) := by decide +kernel
theorem dJ2_getChar_3b067_10 : decode cJ2_getChar_3b067 10 = .ok (.iload_n 1, 1) := by decide +kernel
theorem dJ2_getChar_3b067_11 : decode cJ2_getChar_3b067 11 = .ok (.aload_n 0, 1) := by decide +kernel
theorem dJ2_getChar_3b067_12 : decode cJ2_getChar_3b067 12 = .ok (.invokestatic 48, 3) := by decide +kernel
theorem dJ2_getChar_3b067_15 : decode cJ2_getChar_3b067 15 = .ok (.if_icmp .lt 13, 3) := by decide +kernel
theorem dJ2_getChar_3b067_18 : decode cJ2_getChar_3b067 18 = .ok (.new 52, 3) := by decide +kernel
theorem dJ2_getChar_3b067_21 : decode cJ2_getChar_3b067 21 = .ok (.dup, 1) := by decide +kernel
theorem dJ2_getChar_3b067_22 : decode cJ2_getChar_3b067 22 = .ok (.ldc 54, 2) := by decide +kernel
theorem dJ2_getChar_3b067_24 : decode cJ2_getChar_3b067 24 = .ok (.invokespecial 56, 3) := by decide +kernel
theorem dJ2_getChar_3b067_27 : decode cJ2_getChar_3b067 27 = .ok (.athrow, 1) := by decide +kernel
theorem dJ2_getChar_3b067_28 : decode cJ2_getChar_3b067 28 = .ok (.iload_n 1, 1) := by decide +kernel
theorem dJ2_getChar_3b067_29 : decode cJ2_getChar_3b067 29 = .ok (.iconst 1, 1) := by decide +kernel
theorem dJ2_getChar_3b067_30 : decode cJ2_getChar_3b067 30 = .ok (.ishl, 1) := by decide +kernel
theorem dJ2_getChar_3b067_31 : decode cJ2_getChar_3b067 31 = .ok (.istore_n 1, 1) := by decide +kernel
theorem dJ2_getChar_3b067_32 : decode cJ2_getChar_3b067 32 = .ok (.aload_n 0, 1) := by decide +kernel
theorem dJ2_getChar_3b067_33 : decode cJ2_getChar_3b067 33 = .ok (.iload_n 1, 1) := by decide +kernel
theorem dJ2_getChar_3b067_34 : decode cJ2_getChar_3b067 34 = .ok (.iinc 1 1, 3) := by decide +kernel
theorem dJ2_getChar_3b067_37 : decode cJ2_getChar_3b067 37 = .ok (.baload, 1) := by decide +kernel
theorem dJ2_getChar_3b067_38 : decode cJ2_getChar_3b067 38 = .ok (.sipush 255, 3) := by decide +kernel
theorem dJ2_getChar_3b067_41 : decode cJ2_getChar_3b067 41 = .ok (.iand, 1) := by decide +kernel
theorem dJ2_getChar_3b067_42 : decode cJ2_getChar_3b067 42 = .ok (.getstatic 59, 3) := by decide +kernel
theorem dJ2_getChar_3b067_45 : decode cJ2_getChar_3b067 45 = .ok (.ishl, 1) := by decide +kernel
theorem dJ2_getChar_3b067_46 : decode cJ2_getChar_3b067 46 = .ok (.aload_n 0, 1) := by decide +kernel
theorem dJ2_getChar_3b067_47 : decode cJ2_getChar_3b067 47 = .ok (.iload_n 1, 1) := by decide +kernel
theorem dJ2_getChar_3b067_48 : decode cJ2_getChar_3b067 48 = .ok (.baload, 1) := by decide +kernel
theorem dJ2_getChar_3b067_49 : decode cJ2_getChar_3b067 49 = .ok (.sipush 255, 3) := by decide +kernel
theorem dJ2_getChar_3b067_52 : decode cJ2_getChar_3b067 52 = .ok (.iand, 1) := by decide +kernel
theorem dJ2_getChar_3b067_53 : decode cJ2_getChar_3b067 53 = .ok (.getstatic 63, 3) := by decide +kernel
theorem dJ2_getChar_3b067_56 : decode cJ2_getChar_3b067 56 = .ok (.ishl, 1) := by decide +kernel
theorem dJ2_getChar_3b067_57 : decode cJ2_getChar_3b067 57 = .ok (.ior, 1) := by decide +kernel
theorem dJ2_getChar_3b067_58 : decode cJ2_getChar_3b067 58 = .ok (.i2c, 1) := by decide +kernel
theorem dJ2_getChar_3b067_59 : decode cJ2_getChar_3b067 59 = .ok (.ireturn, 1) := by decide +kernel
theorem dJ2_length_9d52b_0 : decode cJ2_length_9d52b 0 = .ok (.aload_n 0, 1) := by decide +kernel
theorem dJ2_length_9d52b_1 : decode cJ2_length_9d52b 1 = .ok (.arraylength, 1) := by decide +kernel
theorem dJ2_length_9d52b_2 : decode cJ2_length_9d52b 2 = .ok (.iconst 1, 1) := by decide +kernel
theorem dJ2_length_9d52b_3 : decode cJ2_length_9d52b 3 = .ok (.ishr, 1) := by decide +kernel
theorem dJ2_length_9d52b_4 : decode cJ2_length_9d52b 4 = .ok (.ireturn, 1) := by decide +kernel
set_option maxRecDepth 20000 in
theorem ggJ2_charAt_3b067_J2_checkIndex_2214a : GoodIn wsJ2_charAt_3b067 wsJ2_checkIndex_2214a := goodIn_r _ [4, 5, 6, 3, 7, 8, 9, 10, 11, 12, 13, 14, 15, 16] rfl (by decide +kernel)
set_option maxRecDepth 20000 in
theorem gJ2_charAt_3b067_J2_checkIndex_2214a : GoodIn wsJ2_charAt_3b067 (va_wsS RJ2 67 yJ2_checkIndex_2214a wsJ2_checkIndex_2214a) := goodIn_app (goodIn_of _ (by decide +kernel)) ggJ2_charAt_3b067_J2_checkIndex_2214a
set_option maxRecDepth 20000 in
theorem ggJ2_charAt_3b067_J2_getChar_3b067 : GoodIn wsJ2_charAt_3b067 wsJ2_getChar_3b067 := goodIn_r _ [19, 20, 21, 22, 5, 6, 3, 7] rfl (by decide +kernel)
set_option maxRecDepth 20000 in
theorem gJ2_charAt_3b067_J2_getChar_3b067 : GoodIn wsJ2_charAt_3b067 (va_wsS RJ2 71 yJ2_getChar_3b067 wsJ2_getChar_3b067) := goodIn_app (goodIn_of _ (by decide +kernel)) ggJ2_charAt_3b067_J2_getChar_3b067
theorem dJ2_charAt_3b067_0 : decode cJ2_charAt_3b067 0 = .ok (.iload_n 1, 1) := by decide +kernel
theorem dJ2_charAt_3b067_1 : decode cJ2_charAt_3b067 1 = .ok (.aload_n 0, 1) := by decide +kernel
theorem dJ2_charAt_3b067_2 : decode cJ2_charAt_3b067 2 = .ok (.invokestatic 67, 3) := by decide +kernel
theorem dJ2_charAt_3b067_5 : decode cJ2_charAt_3b067 5 = .ok (.aload_n 0, 1) := by decide +kernel
theorem dJ2_charAt_3b067_6 : decode cJ2_charAt_3b067 6 = .ok (.iload_n 1, 1) := by decide +kernel
theorem dJ2_charAt_3b067_7 : decode cJ2_charAt_3b067 7 = .ok (.invokestatic 71, 3) := by decide +kernel
theorem dJ2_charAt_3b067_10 : decode cJ2_charAt_3b067 10 = .ok (.ireturn, 1) := by decide +kernel
set_option maxRecDepth 20000 in
theorem ggJ2_checkIndex_2214a_J2_length_9d52b : GoodIn wsJ2_checkIndex_2214a wsJ2_length_9d52b := goodIn_r _ [4] rfl (by decide +kernel)
set_option maxRecDepth 20000 in
theorem gJ2_checkIndex_2214a_J2_length_9d52b : GoodIn wsJ2_checkIndex_2214a (va_wsS RJ2 48 yJ2_length_9d52b wsJ2_length_9d52b) := goodIn_app (goodIn_of _ (by decide +kernel)) ggJ2_checkIndex_2214a_J2_length_9d52b
set_option maxRecDepth 20000 in
theorem ggJ2_checkIndex_2214a_J0_checkIndex_df160 : GoodIn wsJ2_checkIndex_2214a wsJ0_checkIndex_df160 := goodIn_r _ [8, 9, 10, 11, 12, 13] rfl (by decide +kernel)
set_option maxRecDepth 20000 in
theorem gJ2_checkIndex_2214a_J0_checkIndex_df160 : GoodIn wsJ2_checkIndex_2214a (va_wsS RJ2 414 yJ0_checkIndex_df160 wsJ0_checkIndex_df160) := goodIn_app (goodIn_of _ (by decide +kernel)) ggJ2_checkIndex_2214a_J0_checkIndex_df160
theorem dJ2_checkIndex_2214a_0 : decode cJ2_checkIndex_2214a 0 = .ok (.iload_n 0, 1) := by decide +kernel
theorem dJ2_checkIndex_2214a_1 : decode cJ2_checkIndex_2214a 1 = .ok (.aload_n 1, 1) := by decide +kernel
theorem dJ2_checkIndex_2214a_2 : decode cJ2_checkIndex_2214a 2 = .ok (.invokestatic 48, 3) := by decide +kernel
theorem dJ2_checkIndex_2214a_5 : decode cJ2_checkIndex_2214a 5 = .ok (.invokestatic 414, 3) := by decide +kernel
theorem dJ2_checkIndex_2214a_8 : decode cJ2_checkIndex_2214a 8 = .ok (.return_, 1) := by decide +kernel
theorem dJ3_checkIndex_8e157_0 : decode cJ3_checkIndex_8e157 0 = .ok (.iload_n 0, 1) := by decide +kernel
theorem dJ3_checkIndex_8e157_1 : decode cJ3_checkIndex_8e157 1 = .ok (.ifCond .lt 8, 3) := by decide +kernel
theorem dJ3_checkIndex_8e157_4 : decode cJ3_checkIndex_8e157 4 = .ok (.iload_n 0, 1) := by decide +kernel
theorem dJ3_checkIndex_8e157_5 : decode cJ3_checkIndex_8e157 5 = .ok (.iload_n 1, 1) := by decide +kernel
theorem dJ3_checkIndex_8e157_6 : decode cJ3_checkIndex_8e157 6 = .ok (.if_icmp .lt 10, 3) := by decide +kernel
theorem dJ3_checkIndex_8e157_9 : decode cJ3_checkIndex_8e157 9 = .ok (.aload_n 2, 1) := by decide +kernel
theorem dJ3_checkIndex_8e157_10 : decode cJ3_checkIndex_8e157 10 = .ok (.iload_n 0, 1) := by decide +kernel
theorem dJ3_checkIndex_8e157_11 : decode cJ3_checkIndex_8e157 11 = .ok (.iload_n 1, 1) := by decide +kernel
theorem dJ3_checkIndex_8e157_12 : decode cJ3_checkIndex_8e157 12 = .ok (.invokestatic 95, 3) := by decide +kernel
theorem dJ3_checkIndex_8e157_15 : decode cJ3_checkIndex_8e157 15 = .ok (.athrow, 1) := by decide +kernel
theorem dJ3_checkIndex_8e157_16 : decode cJ3_checkIndex_8e157 16 = .ok (.iload_n 0, 1) := by decide +kernel
theorem dJ3_checkIndex_8e157_17 : decode cJ3_checkIndex_8e157 17 = .ok (.ireturn, 1) := by decide +kernel
theorem dJ7_fill_53178_0 : decode cJ7_fill_53178 0 = .ok (.iconst 0, 1) := by decide +kernel
theorem dJ7_fill_53178_1 : decode cJ7_fill_53178 1 = .ok (.istore_n 2, 1) := by decide +kernel
theorem dJ7_fill_53178_2 : decode cJ7_fill_53178 2 = .ok (.aload_n 0, 1) := by decide +kernel
theorem dJ7_fill_53178_3 : decode cJ7_fill_53178 3 = .ok (.arraylength, 1) := by decide +kernel
theorem dJ7_fill_53178_4 : decode cJ7_fill_53178 4 = .ok (.istore_n 3, 1) := by decide +kernel
theorem dJ7_fill_53178_5 : decode cJ7_fill_53178 5 = .ok (.iload_n 2, 1) := by decide +kernel
theorem dJ7_fill_53178_6 : decode cJ7_fill_53178 6 = .ok (.iload_n 3, 1) := by decide +kernel
theorem dJ7_fill_53178_7 : decode cJ7_fill_53178 7 = .ok (.if_icmp .ge 13, 3) := by decide +kernel
theorem dJ7_fill_53178_10 : decode cJ7_fill_53178 10 = .ok (.aload_n 0, 1) := by decide +kernel
theorem dJ7_fill_53178_11 : decode cJ7_fill_53178 11 = .ok (.iload_n 2, 1) := by decide +kernel
theorem dJ7_fill_53178_12 : decode cJ7_fill_53178 12 = .ok (.iload_n 1, 1) := by decide +kernel
theorem dJ7_fill_53178_13 : decode cJ7_fill_53178 13 = .ok (.iastore, 1) := by decide +kernel
theorem dJ7_fill_53178_14 : decode cJ7_fill_53178 14 = .ok (.iinc 2 1, 3) := by decide +kernel
theorem dJ7_fill_53178_17 : decode cJ7_fill_53178 17 = .ok (.goto (-12), 3) := by decide +kernel
theorem dJ7_fill_53178_20 : decode cJ7_fill_53178 20 = .ok (.return_, 1) := by decide +kernel
theorem dJ7_copyOf_59c91_0 : decode cJ7_copyOf_59c91 0 = .ok (.iload_n 1, 1) := by decide +kernel
theorem dJ7_copyOf_59c91_1 : decode cJ7_copyOf_59c91 1 = .ok (.aload_n 0, 1) := by decide +kernel
theorem dJ7_copyOf_59c91_2 : decode cJ7_copyOf_59c91 2 = .ok (.arraylength, 1) := by decide +kernel
theorem dJ7_copyOf_59c91_3 : decode cJ7_copyOf_59c91 3 = .ok (.if_icmp .ne 11, 3) := by decide +kernel
theorem dJ7_copyOf_59c91_6 : decode cJ7_copyOf_59c91 6 = .ok (.aload_n 0, 1) := by decide +kernel
theorem dJ7_copyOf_59c91_7 : decode cJ7_copyOf_59c91 7 = .ok (.invokevirtual 316, 3) := by decide +kernel
theorem dJ7_copyOf_59c91_10 : decode cJ7_copyOf_59c91 10 = .ok (.checkcast 317, 3) := by decide +kernel
theorem dJ7_copyOf_59c91_13 : decode cJ7_copyOf_59c91 13 = .ok (.areturn, 1) := by decide +kernel
theorem dJ7_copyOf_59c91_14 : decode cJ7_copyOf_59c91 14 = .ok (.iload_n 1, 1) := by decide +kernel
theorem dJ7_copyOf_59c91_15 : decode cJ7_copyOf_59c91 15 = .ok (.newarray .int, 2) := by decide +kernel
theorem dJ7_copyOf_59c91_17 : decode cJ7_copyOf_59c91 17 = .ok (.astore_n 2, 1) := by decide +kernel
theorem dJ7_copyOf_59c91_18 : decode cJ7_copyOf_59c91 18 = .ok (.aload_n 0, 1) := by decide +kernel
theorem dJ7_copyOf_59c91_19 : decode cJ7_copyOf_59c91 19 = .ok (.iconst 0, 1) := by decide +kernel
theorem dJ7_copyOf_59c91_20 : decode cJ7_copyOf_59c91 20 = .ok (.aload_n 2, 1) := by decide +kernel
theorem dJ7_copyOf_59c91_21 : decode cJ7_copyOf_59c91 21 = .ok (.iconst 0, 1) := by decide +kernel
theorem dJ7_copyOf_59c91_22 : decode cJ7_copyOf_59c91 22 = .ok (.aload_n 0, 1) := by decide +kernel
theorem dJ7_copyOf_59c91_23 : decode cJ7_copyOf_59c91 23 = .ok (.arraylength, 1) := by decide +kernel
theorem dJ7_copyOf_59c91_24 : decode cJ7_copyOf_59c91 24 = .ok (.iload_n 1, 1) := by decide +kernel
theorem dJ7_copyOf_59c91_25 : decode cJ7_copyOf_59c91 25 = .ok (.invokestatic 304, 3) := by decide +kernel
theorem dJ7_copyOf_59c91_28 : decode cJ7_copyOf_59c91 28 = .ok (.invokestatic 150, 3) := by decide +kernel
theorem dJ7_copyOf_59c91_31 : decode cJ7_copyOf_59c91 31 = .ok (.aload_n 2, 1) := by decide +kernel
theorem dJ7_copyOf_59c91_32 : decode cJ7_copyOf_59c91 32 = .ok (.areturn, 1) := by decide +kernel
theorem dJ9_floorMod_7cf53_0 : decode cJ9_floorMod_7cf53 0 = .ok (.iload_n 0, 1) := by decide +kernel
theorem dJ9_floorMod_7cf53_1 : decode cJ9_floorMod_7cf53 1 = .ok (.iload_n 1, 1) := by decide +kernel
theorem dJ9_floorMod_7cf53_2 : decode cJ9_floorMod_7cf53 2 = .ok (.irem, 1) := by decide +kernel
theorem dJ9_floorMod_7cf53_3 : decode cJ9_floorMod_7cf53 3 = .ok (.istore_n 2, 1) := by decide +kernel
theorem dJ9_floorMod_7cf53_4 : decode cJ9_floorMod_7cf53 4 = .ok (.iload_n 0, 1) := by decide +kernel
theorem dJ9_floorMod_7cf53_5 : decode cJ9_floorMod_7cf53 5 = .ok (.iload_n 1, 1) := by decide +kernel
theorem dJ9_floorMod_7cf53_6 : decode cJ9_floorMod_7cf53 6 = .ok (.ixor, 1) := by decide +kernel
theorem dJ9_floorMod_7cf53_7 : decode cJ9_floorMod_7cf53 7 = .ok (.ifCond .ge 11, 3) := by decide +kernel
theorem dJ9_floorMod_7cf53_10 : decode cJ9_floorMod_7cf53 10 = .ok (.iload_n 2, 1) := by decide +kernel
theorem dJ9_floorMod_7cf53_11 : decode cJ9_floorMod_7cf53 11 = .ok (.ifCond .eq 7, 3) := by decide +kernel
theorem dJ9_floorMod_7cf53_14 : decode cJ9_floorMod_7cf53 14 = .ok (.iload_n 2, 1) := by decide +kernel
theorem dJ9_floorMod_7cf53_15 : decode cJ9_floorMod_7cf53 15 = .ok (.iload_n 1, 1) := by decide +kernel
theorem dJ9_floorMod_7cf53_16 : decode cJ9_floorMod_7cf53 16 = .ok (.iadd, 1) := by decide +kernel
theorem dJ9_floorMod_7cf53_17 : decode cJ9_floorMod_7cf53 17 = .ok (.ireturn, 1) := by decide +kernel
theorem dJ9_floorMod_7cf53_18 : decode cJ9_floorMod_7cf53 18 = .ok (.iload_n 2, 1) := by decide +kernel
theorem dJ9_floorMod_7cf53_19 : decode cJ9_floorMod_7cf53 19 = .ok (.ireturn, 1) := by decide +kernel
theorem dJ9_abs_0f7a4_0 : decode cJ9_abs_0f7a4 0 = .ok (.iload_n 0, 1) := by decide +kernel
theorem dJ9_abs_0f7a4_1 : decode cJ9_abs_0f7a4 1 = .ok (.ifCond .ge 8, 3) := by decide +kernel
theorem dJ9_abs_0f7a4_4 : decode cJ9_abs_0f7a4 4 = .ok (.iload_n 0, 1) := by decide +kernel
theorem dJ9_abs_0f7a4_5 : decode cJ9_abs_0f7a4 5 = .ok (.ineg, 1) := by decide +kernel
theorem dJ9_abs_0f7a4_6 : decode cJ9_abs_0f7a4 6 = .ok (.goto 4, 3) := by decide +kernel
theorem dJ9_abs_0f7a4_9 : decode cJ9_abs_0f7a4 9 = .ok (.iload_n 0, 1) := by decide +kernel
theorem dJ9_abs_0f7a4_10 : decode cJ9_abs_0f7a4 10 = .ok (.ireturn, 1) := by decide +kernel
theorem dJ9_max_7cf53_0 : decode cJ9_max_7cf53 0 = .ok (.iload_n 0, 1) := by decide +kernel
theorem dJ9_max_7cf53_1 : decode cJ9_max_7cf53 1 = .ok (.iload_n 1, 1) := by decide +kernel
theorem dJ9_max_7cf53_2 : decode cJ9_max_7cf53 2 = .ok (.if_icmp .lt 7, 3) := by decide +kernel
theorem dJ9_max_7cf53_5 : decode cJ9_max_7cf53 5 = .ok (.iload_n 0, 1) := by decide +kernel
theorem dJ9_max_7cf53_6 : decode cJ9_max_7cf53 6 = .ok (.goto 4, 3) := by decide +kernel
theorem dJ9_max_7cf53_9 : decode cJ9_max_7cf53 9 = .ok (.iload_n 1, 1) := by decide +kernel
theorem dJ9_max_7cf53_10 : decode cJ9_max_7cf53 10 = .ok (.ireturn, 1) := by decide +kernel
theorem dJ9_max_f86c9_0 : decode cJ9_max_f86c9 0 = .ok (.lload_n 0, 1) := by decide +kernel
theorem dJ9_max_f86c9_1 : decode cJ9_max_f86c9 1 = .ok (.lload_n 2, 1) := by decide +kernel
theorem dJ9_max_f86c9_2 : decode cJ9_max_f86c9 2 = .ok (.lcmp, 1) := by decide +kernel
theorem dJ9_max_f86c9_3 : decode cJ9_max_f86c9 3 = .ok (.ifCond .lt 7, 3) := by decide +kernel
theorem dJ9_max_f86c9_6 : decode cJ9_max_f86c9 6 = .ok (.lload_n 0, 1) := by decide +kernel
theorem dJ9_max_f86c9_7 : decode cJ9_max_f86c9 7 = .ok (.goto 4, 3) := by decide +kernel
theorem dJ9_max_f86c9_10 : decode cJ9_max_f86c9 10 = .ok (.lload_n 2, 1) := by decide +kernel
theorem dJ9_max_f86c9_11 : decode cJ9_max_f86c9 11 = .ok (.lreturn, 1) := by decide +kernel
theorem dJ9_min_7cf53_0 : decode cJ9_min_7cf53 0 = .ok (.iload_n 0, 1) := by decide +kernel
theorem dJ9_min_7cf53_1 : decode cJ9_min_7cf53 1 = .ok (.iload_n 1, 1) := by decide +kernel
theorem dJ9_min_7cf53_2 : decode cJ9_min_7cf53 2 = .ok (.if_icmp .gt 7, 3) := by decide +kernel
theorem dJ9_min_7cf53_5 : decode cJ9_min_7cf53 5 = .ok (.iload_n 0, 1) := by decide +kernel
theorem dJ9_min_7cf53_6 : decode cJ9_min_7cf53 6 = .ok (.goto 4, 3) := by decide +kernel
theorem dJ9_min_7cf53_9 : decode cJ9_min_7cf53 9 = .ok (.iload_n 1, 1) := by decide +kernel
theorem dJ9_min_7cf53_10 : decode cJ9_min_7cf53 10 = .ok (.ireturn, 1) := by decide +kernel
theorem dJ9_min_f86c9_0 : decode cJ9_min_f86c9 0 = .ok (.lload_n 0, 1) := by decide +kernel
theorem dJ9_min_f86c9_1 : decode cJ9_min_f86c9 1 = .ok (.lload_n 2, 1) := by decide +kernel
theorem dJ9_min_f86c9_2 : decode cJ9_min_f86c9 2 = .ok (.lcmp, 1) := by decide +kernel
theorem dJ9_min_f86c9_3 : decode cJ9_min_f86c9 3 = .ok (.ifCond .gt 7, 3) := by decide +kernel
theorem dJ9_min_f86c9_6 : decode cJ9_min_f86c9 6 = .ok (.lload_n 0, 1) := by decide +kernel
theorem dJ9_min_f86c9_7 : decode cJ9_min_f86c9 7 = .ok (.goto 4, 3) := by decide +kernel
theorem dJ9_min_f86c9_10 : decode cJ9_min_f86c9 10 = .ok (.lload_n 2, 1) := by decide +kernel
theorem dJ9_min_f86c9_11 : decode cJ9_min_f86c9 11 = .ok (.lreturn, 1) := by decide +kernel
set_option maxRecDepth 20000 in
theorem ggX0_init_X3_init : GoodIn wsX0_init wsX3_init := goodIn_r _ [24, 25, 2, 3, 26, 27, 28, 66, 67] rfl (by decide +kernel)
set_option maxRecDepth 20000 in
theorem gX0_init_X3_init : GoodIn wsX0_init (wsX3_init) := ggX0_init_X3_init
set_option maxRecDepth 20000 in
theorem ggX0_init_X9_init : GoodIn wsX0_init wsX9_init := goodIn_r _ [31, 32, 2, 3, 33, 34, 35, 36, 10, 37, 38, 39, 40, 41, 42, 43, 44, 45, 46, 47, 48, 107, 108, 109, 110, 111, 112, 113, 114, 115, 79, 80, 81, 82, 83] rfl (by decide +kernel)
set_option maxRecDepth 20000 in
theorem gX0_init_X9_init : GoodIn wsX0_init (wsX9_init) := ggX0_init_X9_init
set_option maxRecDepth 20000 in
theorem ggX0_init_X1_init : GoodIn wsX0_init wsX1_init := goodIn_r _ [51, 52, 2, 3, 10, 53, 54, 55, 56, 84, 85, 86, 87, 88, 89, 90, 91, 92, 93, 94, 95] rfl (by decide +kernel)
set_option maxRecDepth 20000 in
theorem gX0_init_X1_init : GoodIn wsX0_init (wsX1_init) := ggX0_init_X1_init
set_option maxRecDepth 20000 in
theorem ggX0_init_X2_init : GoodIn wsX0_init wsX2_init := goodIn_r _ [59, 60, 2, 3, 10, 61, 62, 63, 64, 65, 96, 97, 98, 99, 100, 101, 102, 103, 104, 105, 106] rfl (by decide +kernel)
set_option maxRecDepth 20000 in
theorem gX0_init_X2_init : GoodIn wsX0_init (wsX2_init) := ggX0_init_X2_init
theorem dX0_init_0 : decode cX0_init 0 = .ok (.aload_n 0, 1) := by decide +kernel
theorem dX0_init_1 : decode cX0_init 1 = .ok (.invokespecial 1, 3) := by decide +kernel
theorem dX0_init_4 : decode cX0_init 4 = .ok (.aload_n 0, 1) := by decide +kernel
theorem dX0_init_5 : decode cX0_init 5 = .ok (.new 7, 3) := by decide +kernel
theorem dX0_init_8 : decode cX0_init 8 = .ok (.dup, 1) := by decide +kernel
theorem dX0_init_9 : decode cX0_init 9 = .ok (.invokespecial 9, 3) := by decide +kernel
theorem dX0_init_12 : decode cX0_init 12 = .ok (.putfield 10, 3) := by decide +kernel
theorem dX0_init_15 : decode cX0_init 15 = .ok (.aload_n 0, 1) := by decide +kernel
theorem dX0_init_16 : decode cX0_init 16 = .ok (.bipush 7, 2) := by decide +kernel
theorem dX0_init_18 : decode cX0_init 18 = .ok (.anewarray 18, 3) := by decide +kernel
theorem dX0_init_21 : decode cX0_init 21 = .ok (.putfield 20, 3) := by decide +kernel
theorem dX0_init_24 : decode cX0_init 24 = .ok (.aload_n 0, 1) := by decide +kernel
theorem dX0_init_25 : decode cX0_init 25 = .ok (.iconst 3, 1) := by decide +kernel
theorem dX0_init_26 : decode cX0_init 26 = .ok (.newarray .int, 2) := by decide +kernel
theorem dX0_init_28 : decode cX0_init 28 = .ok (.putfield 24, 3) := by decide +kernel
theorem dX0_init_31 : decode cX0_init 31 = .ok (.iconst 0, 1) := by decide +kernel
theorem dX0_init_32 : decode cX0_init 32 = .ok (.istore_n 1, 1) := by decide +kernel
theorem dX0_init_33 : decode cX0_init 33 = .ok (.iload_n 1, 1) := by decide +kernel
theorem dX0_init_34 : decode cX0_init 34 = .ok (.aload_n 0, 1) := by decide +kernel
theorem dX0_init_35 : decode cX0_init 35 = .ok (.getfield 20, 3) := by decide +kernel
theorem dX0_init_38 : decode cX0_init 38 = .ok (.arraylength, 1) := by decide +kernel
theorem dX0_init_39 : decode cX0_init 39 = .ok (.if_icmp .ge 22, 3) := by decide +kernel
theorem dX0_init_42 : decode cX0_init 42 = .ok (.aload_n 0, 1) := by decide +kernel
theorem dX0_init_43 : decode cX0_init 43 = .ok (.getfield 20, 3) := by decide +kernel
theorem dX0_init_46 : decode cX0_init 46 = .ok (.iload_n 1, 1) := by decide +kernel
theorem dX0_init_47 : decode cX0_init 47 = .ok (.new 18, 3) := by decide +kernel
theorem dX0_init_50 : decode cX0_init 50 = .ok (.dup, 1) := by decide +kernel
theorem dX0_init_51 : decode cX0_init 51 = .ok (.invokespecial 28, 3) := by decide +kernel
theorem dX0_init_54 : decode cX0_init 54 = .ok (.aastore, 1) := by decide +kernel
theorem dX0_init_55 : decode cX0_init 55 = .ok (.iinc 1 1, 3) := by decide +kernel
theorem dX0_init_58 : decode cX0_init 58 = .ok (.goto (-25), 3) := by decide +kernel
theorem dX0_init_61 : decode cX0_init 61 = .ok (.aload_n 0, 1) := by decide +kernel
theorem dX0_init_62 : decode cX0_init 62 = .ok (.new 16, 3) := by decide +kernel
theorem dX0_init_65 : decode cX0_init 65 = .ok (.dup, 1) := by decide +kernel
theorem dX0_init_66 : decode cX0_init 66 = .ok (.aload_n 0, 1) := by decide +kernel
theorem dX0_init_67 : decode cX0_init 67 = .ok (.getfield 10, 3) := by decide +kernel
theorem dX0_init_70 : decode cX0_init 70 = .ok (.aload_n 0, 1) := by decide +kernel
theorem dX0_init_71 : decode cX0_init 71 = .ok (.getfield 20, 3) := by decide +kernel
theorem dX0_init_74 : decode cX0_init 74 = .ok (.invokespecial 29, 3) := by decide +kernel
theorem dX0_init_77 : decode cX0_init 77 = .ok (.putfield 32, 3) := by decide +kernel
theorem dX0_init_80 : decode cX0_init 80 = .ok (.aload_n 0, 1) := by decide +kernel
theorem dX0_init_81 : decode cX0_init 81 = .ok (.new 36, 3) := by decide +kernel
theorem dX0_init_84 : decode cX0_init 84 = .ok (.dup, 1) := by decide +kernel
theorem dX0_init_85 : decode cX0_init 85 = .ok (.aload_n 0, 1) := by decide +kernel
theorem dX0_init_86 : decode cX0_init 86 = .ok (.getfield 10, 3) := by decide +kernel
theorem dX0_init_89 : decode cX0_init 89 = .ok (.aload_n 0, 1) := by decide +kernel
theorem dX0_init_90 : decode cX0_init 90 = .ok (.getfield 20, 3) := by decide +kernel
theorem dX0_init_93 : decode cX0_init 93 = .ok (.invokespecial 38, 3) := by decide +kernel
theorem dX0_init_96 : decode cX0_init 96 = .ok (.putfield 39, 3) := by decide +kernel
theorem dX0_init_99 : decode cX0_init 99 = .ok (.return_, 1) := by decide +kernel
set_option maxRecDepth 20000 in
theorem ggX0_go_X9_isMet : GoodIn wsX0_go wsX9_isMet := goodIn_r _ [6, 7, 8, 9, 5, 10, 11, 12, 13, 138, 139, 140, 141, 142, 143, 144, 145, 146, 147, 148, 149, 150, 151] rfl (by decide +kernel)
set_option maxRecDepth 20000 in
theorem gX0_go_X9_isMet : GoodIn wsX0_go (wsV RX0 43 RX9 yX9_isMet wsX9_isMet) := goodIn_app (goodIn_of _ (by decide +kernel)) ggX0_go_X9_isMet
set_option maxRecDepth 20000 in
theorem ggX0_go_X8_errorOn : GoodIn wsX0_go wsX8_errorOn := goodIn_r _ [18, 19, 20, 21, 22, 23, 152, 153, 154, 155, 156] rfl (by decide +kernel)
set_option maxRecDepth 20000 in
theorem gX0_go_X8_errorOn : GoodIn wsX0_go (wsV RX0 51 RX8 yX8_errorOn wsX8_errorOn) := goodIn_app (goodIn_of _ (by decide +kernel)) ggX0_go_X8_errorOn
set_option maxRecDepth 20000 in
theorem ggX0_go_X0_actBoth : GoodIn wsX0_go wsX0_actBoth := goodIn_r _ [28, 29, 30, 31, 32, 33, 34, 35, 36, 37, 38, 5, 39, 40, 41, 42, 43, 44, 45, 46, 47, 48, 49, 13, 11, 50, 51, 52, 53, 54, 55, 56, 57, 58, 59, 60, 61, 62, 63, 7, 8, 9, 10, 12, 64, 65, 66, 67, 68, 69, 70, 71, 72, 73, 74, 75, 76, 77, 78, 79, 80, 81, 82, 83, 84, 85, 86, 87, 88, 89, 90, 91, 92, 93, 94, 95, 96, 97, 98, 99, 100, 101, 102, 103, 104, 105, 106, 107, 108, 109, 110, 111, 112, 113, 114, 115, 116, 117, 118, 119, 120, 121, 122, 123, 124, 125, 126, 127, 128, 129, 157, 158, 159, 160, 161, 162, 163, 164, 165, 166, 167, 138, 139, 140, 141, 142, 143, 144, 145, 146, 147, 148, 149, 150, 151, 168, 169, 170, 171, 172, 173, 174] rfl (by decide +kernel)
set_option maxRecDepth 20000 in
theorem gX0_go_X0_actBoth : GoodIn wsX0_go (wsV RX0 57 RX0 yX0_actBoth wsX0_actBoth) := goodIn_app (goodIn_of _ (by decide +kernel)) ggX0_go_X0_actBoth
set_option maxRecDepth 20000 in
theorem ggX0_go_X9_endDay : GoodIn wsX0_go wsX9_endDay := goodIn_r _ [133, 11, 134, 135, 136, 137, 121, 122, 123, 5, 124, 13, 125, 96, 97, 98, 138, 139, 140, 141, 142, 143, 144, 145, 146, 147, 148, 149, 150, 151] rfl (by decide +kernel)
set_option maxRecDepth 20000 in
theorem gX0_go_X9_endDay : GoodIn wsX0_go (wsV RX0 61 RX9 yX9_endDay wsX9_endDay) := goodIn_app (goodIn_of _ (by decide +kernel)) ggX0_go_X9_endDay
theorem dX0_go_0 : decode cX0_go 0 = .ok (.iconst 0, 1) := by decide +kernel
theorem dX0_go_1 : decode cX0_go 1 = .ok (.istore 6, 2) := by decide +kernel
theorem dX0_go_3 : decode cX0_go 3 = .ok (.iload 6, 2) := by decide +kernel
theorem dX0_go_5 : decode cX0_go 5 = .ok (.iload 5, 2) := by decide +kernel
theorem dX0_go_7 : decode cX0_go 7 = .ok (.if_icmp .ge 46, 3) := by decide +kernel
theorem dX0_go_10 : decode cX0_go 10 = .ok (.aload_n 1, 1) := by decide +kernel
theorem dX0_go_11 : decode cX0_go 11 = .ok (.invokevirtual 43, 3) := by decide +kernel
theorem dX0_go_14 : decode cX0_go 14 = .ok (.ifCond .ne 39, 3) := by decide +kernel
theorem dX0_go_17 : decode cX0_go 17 = .ok (.aload_n 0, 1) := by decide +kernel
theorem dX0_go_18 : decode cX0_go 18 = .ok (.aload_n 1, 1) := by decide +kernel
theorem dX0_go_19 : decode cX0_go 19 = .ok (.aload_n 3, 1) := by decide +kernel
theorem dX0_go_20 : decode cX0_go 20 = .ok (.aload 4, 2) := by decide +kernel
theorem dX0_go_22 : decode cX0_go 22 = .ok (.aload_n 2, 1) := by decide +kernel
theorem dX0_go_23 : decode cX0_go 23 = .ok (.iconst 0, 1) := by decide +kernel
theorem dX0_go_24 : decode cX0_go 24 = .ok (.aload_n 1, 1) := by decide +kernel
theorem dX0_go_25 : decode cX0_go 25 = .ok (.getfield 47, 3) := by decide +kernel
theorem dX0_go_28 : decode cX0_go 28 = .ok (.invokevirtual 51, 3) := by decide +kernel
theorem dX0_go_31 : decode cX0_go 31 = .ok (.aload_n 2, 1) := by decide +kernel
theorem dX0_go_32 : decode cX0_go 32 = .ok (.iconst 1, 1) := by decide +kernel
theorem dX0_go_33 : decode cX0_go 33 = .ok (.aload_n 1, 1) := by decide +kernel
theorem dX0_go_34 : decode cX0_go 34 = .ok (.getfield 47, 3) := by decide +kernel
theorem dX0_go_37 : decode cX0_go 37 = .ok (.invokevirtual 51, 3) := by decide +kernel
theorem dX0_go_40 : decode cX0_go 40 = .ok (.invokevirtual 57, 3) := by decide +kernel
theorem dX0_go_43 : decode cX0_go 43 = .ok (.aload_n 1, 1) := by decide +kernel
theorem dX0_go_44 : decode cX0_go 44 = .ok (.invokevirtual 61, 3) := by decide +kernel
theorem dX0_go_47 : decode cX0_go 47 = .ok (.iinc 6 1, 3) := by decide +kernel
theorem dX0_go_50 : decode cX0_go 50 = .ok (.goto (-47), 3) := by decide +kernel
theorem dX0_go_53 : decode cX0_go 53 = .ok (.return_, 1) := by decide +kernel
set_option maxRecDepth 20000 in
theorem ggX0_actBoth_X3_planOf : GoodIn wsX0_actBoth wsX3_planOf := goodIn_r _ [6, 7, 8, 9, 10, 11, 12, 13, 14, 15, 5, 16, 17, 18, 19, 20, 21, 22, 23, 24, 25, 26, 27, 28, 29, 30, 31, 32, 33, 34, 35, 36, 37, 38, 39, 40, 41, 42, 43, 44, 45, 46, 47, 48, 49, 50, 51, 52, 53, 54, 55, 56, 57, 58, 59, 60, 61, 62, 63, 64, 65, 66, 67, 68, 69, 70, 71, 72, 73, 74, 75, 76, 77, 78, 79, 80, 81, 82, 83, 84, 85, 86, 87, 88, 89, 90, 91, 92, 93, 94, 95, 96, 121, 122, 123, 124, 125, 126, 127, 128, 129, 130, 131, 132, 133, 134, 135, 136, 137, 138, 139, 140, 141] rfl (by decide +kernel)
set_option maxRecDepth 20000 in
theorem gX0_actBoth_X3_planOf : GoodIn wsX0_actBoth (wsV RX0 64 RX3 yX3_planOf wsX3_planOf) := goodIn_app (goodIn_of _ (by decide +kernel)) ggX0_actBoth_X3_planOf
set_option maxRecDepth 20000 in
theorem ggX0_actBoth_X9_act : GoodIn wsX0_actBoth wsX9_act := goodIn_r _ [100, 101, 102, 103, 11, 104, 23, 105, 76, 77, 78, 106, 107, 108, 109, 26, 32, 39, 40, 41, 42, 24, 43, 38, 20, 21, 22, 25, 48, 28, 29, 30, 31, 121, 122, 123, 124, 125, 126, 127, 128, 129, 130, 131, 132, 133, 134] rfl (by decide +kernel)
set_option maxRecDepth 20000 in
theorem gX0_actBoth_X9_act : GoodIn wsX0_actBoth (wsV RX0 68 RX9 yX9_act wsX9_act) := goodIn_app (goodIn_of _ (by decide +kernel)) ggX0_actBoth_X9_act
theorem dX0_actBoth_0 : decode cX0_actBoth 0 = .ok (.aload_n 0, 1) := by decide +kernel
theorem dX0_actBoth_1 : decode cX0_actBoth 1 = .ok (.getfield 10, 3) := by decide +kernel
theorem dX0_actBoth_4 : decode cX0_actBoth 4 = .ok (.aload_n 1, 1) := by decide +kernel
theorem dX0_actBoth_5 : decode cX0_actBoth 5 = .ok (.aload_n 2, 1) := by decide +kernel
theorem dX0_actBoth_6 : decode cX0_actBoth 6 = .ok (.iconst 0, 1) := by decide +kernel
theorem dX0_actBoth_7 : decode cX0_actBoth 7 = .ok (.iload 4, 2) := by decide +kernel
theorem dX0_actBoth_9 : decode cX0_actBoth 9 = .ok (.invokevirtual 64, 3) := by decide +kernel
theorem dX0_actBoth_12 : decode cX0_actBoth 12 = .ok (.istore 6, 2) := by decide +kernel
theorem dX0_actBoth_14 : decode cX0_actBoth 14 = .ok (.aload_n 0, 1) := by decide +kernel
theorem dX0_actBoth_15 : decode cX0_actBoth 15 = .ok (.getfield 10, 3) := by decide +kernel
theorem dX0_actBoth_18 : decode cX0_actBoth 18 = .ok (.aload_n 1, 1) := by decide +kernel
theorem dX0_actBoth_19 : decode cX0_actBoth 19 = .ok (.aload_n 3, 1) := by decide +kernel
theorem dX0_actBoth_20 : decode cX0_actBoth 20 = .ok (.iconst 1, 1) := by decide +kernel
theorem dX0_actBoth_21 : decode cX0_actBoth 21 = .ok (.iload 5, 2) := by decide +kernel
theorem dX0_actBoth_23 : decode cX0_actBoth 23 = .ok (.invokevirtual 64, 3) := by decide +kernel
theorem dX0_actBoth_26 : decode cX0_actBoth 26 = .ok (.istore 7, 2) := by decide +kernel
theorem dX0_actBoth_28 : decode cX0_actBoth 28 = .ok (.aload_n 1, 1) := by decide +kernel
theorem dX0_actBoth_29 : decode cX0_actBoth 29 = .ok (.iconst 0, 1) := by decide +kernel
theorem dX0_actBoth_30 : decode cX0_actBoth 30 = .ok (.iload 6, 2) := by decide +kernel
theorem dX0_actBoth_32 : decode cX0_actBoth 32 = .ok (.invokevirtual 68, 3) := by decide +kernel
theorem dX0_actBoth_35 : decode cX0_actBoth 35 = .ok (.aload_n 1, 1) := by decide +kernel
theorem dX0_actBoth_36 : decode cX0_actBoth 36 = .ok (.iconst 1, 1) := by decide +kernel
theorem dX0_actBoth_37 : decode cX0_actBoth 37 = .ok (.iload 7, 2) := by decide +kernel
theorem dX0_actBoth_39 : decode cX0_actBoth 39 = .ok (.invokevirtual 68, 3) := by decide +kernel
theorem dX0_actBoth_42 : decode cX0_actBoth 42 = .ok (.return_, 1) := by decide +kernel
set_option maxRecDepth 20000 in
theorem ggX0_spanAfter_X9_become : GoodIn wsX0_spanAfter wsX9_become := goodIn_r _ [7, 8, 9, 10, 11, 12, 13, 14, 15, 16, 168, 169, 170, 171, 172] rfl (by decide +kernel)
set_option maxRecDepth 20000 in
theorem gX0_spanAfter_X9_become : GoodIn wsX0_spanAfter (wsV RX0 76 RX9 yX9_become wsX9_become) := goodIn_app (goodIn_of _ (by decide +kernel)) ggX0_spanAfter_X9_become
set_option maxRecDepth 20000 in
theorem ggX0_spanAfter_X0_go : GoodIn wsX0_spanAfter wsX0_go := goodIn_r _ [21, 22, 23, 24, 25, 6, 26, 27, 28, 29, 30, 8, 31, 10, 32, 33, 34, 35, 36, 37, 38, 39, 40, 41, 42, 43, 44, 20, 45, 46, 47, 48, 49, 50, 51, 52, 53, 54, 55, 56, 57, 58, 59, 60, 61, 62, 63, 64, 65, 66, 67, 11, 68, 69, 70, 71, 72, 16, 73, 74, 75, 76, 77, 78, 79, 80, 81, 82, 83, 84, 85, 86, 87, 88, 89, 90, 91, 92, 93, 94, 95, 96, 97, 98, 99, 100, 101, 102, 103, 104, 105, 106, 107, 108, 109, 110, 111, 112, 113, 114, 115, 116, 117, 118, 119, 120, 121, 122, 123, 124, 125, 126, 127, 128, 129, 130, 131, 132, 133, 134, 135, 136, 137, 138, 139, 140, 141, 142, 143, 144, 145, 146, 147, 148, 149, 150, 9, 151, 168, 169, 170, 171, 172, 173, 174, 175, 176, 177, 178, 179, 180, 181, 163, 164, 165, 166, 167, 152, 153, 154, 155, 156, 157, 158, 159, 160, 161, 162, 182, 183, 184, 185, 186, 187, 188] rfl (by decide +kernel)
set_option maxRecDepth 20000 in
theorem gX0_spanAfter_X0_go : GoodIn wsX0_spanAfter (wsV RX0 80 RX0 yX0_go wsX0_go) := goodIn_app (goodIn_of _ (by decide +kernel)) ggX0_spanAfter_X0_go
theorem dX0_spanAfter_0 : decode cX0_spanAfter 0 = .ok (.aload_n 0, 1) := by decide +kernel
theorem dX0_spanAfter_1 : decode cX0_spanAfter 1 = .ok (.getfield 20, 3) := by decide +kernel
theorem dX0_spanAfter_4 : decode cX0_spanAfter 4 = .ok (.iconst 0, 1) := by decide +kernel
theorem dX0_spanAfter_5 : decode cX0_spanAfter 5 = .ok (.aaload, 1) := by decide +kernel
theorem dX0_spanAfter_6 : decode cX0_spanAfter 6 = .ok (.astore 5, 2) := by decide +kernel
theorem dX0_spanAfter_8 : decode cX0_spanAfter 8 = .ok (.aload 5, 2) := by decide +kernel
theorem dX0_spanAfter_10 : decode cX0_spanAfter 10 = .ok (.aload_n 1, 1) := by decide +kernel
theorem dX0_spanAfter_11 : decode cX0_spanAfter 11 = .ok (.getfield 72, 3) := by decide +kernel
theorem dX0_spanAfter_14 : decode cX0_spanAfter 14 = .ok (.invokevirtual 76, 3) := by decide +kernel
theorem dX0_spanAfter_17 : decode cX0_spanAfter 17 = .ok (.aload_n 0, 1) := by decide +kernel
theorem dX0_spanAfter_18 : decode cX0_spanAfter 18 = .ok (.aload 5, 2) := by decide +kernel
theorem dX0_spanAfter_20 : decode cX0_spanAfter 20 = .ok (.aload_n 1, 1) := by decide +kernel
theorem dX0_spanAfter_21 : decode cX0_spanAfter 21 = .ok (.aload_n 2, 1) := by decide +kernel
theorem dX0_spanAfter_22 : decode cX0_spanAfter 22 = .ok (.aload_n 3, 1) := by decide +kernel
theorem dX0_spanAfter_23 : decode cX0_spanAfter 23 = .ok (.iload 4, 2) := by decide +kernel
theorem dX0_spanAfter_25 : decode cX0_spanAfter 25 = .ok (.invokevirtual 80, 3) := by decide +kernel
theorem dX0_spanAfter_28 : decode cX0_spanAfter 28 = .ok (.aload 5, 2) := by decide +kernel
theorem dX0_spanAfter_30 : decode cX0_spanAfter 30 = .ok (.areturn, 1) := by decide +kernel
theorem dX0_tellRow_0 : decode cX0_tellRow 0 = .ok (.aload_n 0, 1) := by decide +kernel
theorem dX0_tellRow_1 : decode cX0_tellRow 1 = .ok (.iload_n 1, 1) := by decide +kernel
theorem dX0_tellRow_2 : decode cX0_tellRow 2 = .ok (.putfield 84, 3) := by decide +kernel
theorem dX0_tellRow_5 : decode cX0_tellRow 5 = .ok (.aload_n 0, 1) := by decide +kernel
theorem dX0_tellRow_6 : decode cX0_tellRow 6 = .ok (.iload_n 3, 1) := by decide +kernel
theorem dX0_tellRow_7 : decode cX0_tellRow 7 = .ok (.aload_n 0, 1) := by decide +kernel
theorem dX0_tellRow_8 : decode cX0_tellRow 8 = .ok (.getfield 24, 3) := by decide +kernel
theorem dX0_tellRow_11 : decode cX0_tellRow 11 = .ok (.arraylength, 1) := by decide +kernel
theorem dX0_tellRow_12 : decode cX0_tellRow 12 = .ok (.invokestatic 87, 3) := by decide +kernel
theorem dX0_tellRow_15 : decode cX0_tellRow 15 = .ok (.putfield 92, 3) := by decide +kernel
theorem dX0_tellRow_18 : decode cX0_tellRow 18 = .ok (.iload_n 2, 1) := by decide +kernel
theorem dX0_tellRow_19 : decode cX0_tellRow 19 = .ok (.istore 5, 2) := by decide +kernel
theorem dX0_tellRow_21 : decode cX0_tellRow 21 = .ok (.iconst 0, 1) := by decide +kernel
theorem dX0_tellRow_22 : decode cX0_tellRow 22 = .ok (.istore 6, 2) := by decide +kernel
theorem dX0_tellRow_24 : decode cX0_tellRow 24 = .ok (.iload 6, 2) := by decide +kernel
theorem dX0_tellRow_26 : decode cX0_tellRow 26 = .ok (.aload_n 0, 1) := by decide +kernel
theorem dX0_tellRow_27 : decode cX0_tellRow 27 = .ok (.getfield 92, 3) := by decide +kernel
theorem dX0_tellRow_30 : decode cX0_tellRow 30 = .ok (.if_icmp .ge 31, 3) := by decide +kernel
theorem dX0_tellRow_33 : decode cX0_tellRow 33 = .ok (.aload_n 0, 1) := by decide +kernel
theorem dX0_tellRow_34 : decode cX0_tellRow 34 = .ok (.getfield 24, 3) := by decide +kernel
theorem dX0_tellRow_37 : decode cX0_tellRow 37 = .ok (.iload 6, 2) := by decide +kernel
theorem dX0_tellRow_39 : decode cX0_tellRow 39 = .ok (.iload 5, 2) := by decide +kernel
theorem dX0_tellRow_41 : decode cX0_tellRow 41 = .ok (.iconst 3, 1) := by decide +kernel
theorem dX0_tellRow_42 : decode cX0_tellRow 42 = .ok (.irem, 1) := by decide +kernel
theorem dX0_tellRow_43 : decode cX0_tellRow 43 = .ok (.iconst 1, 1) := by decide +kernel
theorem dX0_tellRow_44 : decode cX0_tellRow 44 = .ok (.isub, 1) := by decide +kernel
theorem dX0_tellRow_45 : decode cX0_tellRow 45 = .ok (.iload 4, 2) := by decide +kernel
theorem dX0_tellRow_47 : decode cX0_tellRow 47 = .ok (.imul, 1) := by decide +kernel
theorem dX0_tellRow_48 : decode cX0_tellRow 48 = .ok (.iastore, 1) := by decide +kernel
theorem dX0_tellRow_49 : decode cX0_tellRow 49 = .ok (.iload 5, 2) := by decide +kernel
theorem dX0_tellRow_51 : decode cX0_tellRow 51 = .ok (.iconst 3, 1) := by decide +kernel
theorem dX0_tellRow_52 : decode cX0_tellRow 52 = .ok (.idiv, 1) := by decide +kernel
theorem dX0_tellRow_53 : decode cX0_tellRow 53 = .ok (.istore 5, 2) := by decide +kernel
theorem dX0_tellRow_55 : decode cX0_tellRow 55 = .ok (.iinc 6 1, 3) := by decide +kernel
theorem dX0_tellRow_58 : decode cX0_tellRow 58 = .ok (.goto (-34), 3) := by decide +kernel
theorem dX0_tellRow_61 : decode cX0_tellRow 61 = .ok (.return_, 1) := by decide +kernel
set_option maxRecDepth 20000 in
theorem ggX0_spanByRow_X9_become : GoodIn wsX0_spanByRow wsX9_become := goodIn_r _ [8, 9, 10, 11, 12, 13, 14, 15, 16, 17, 171, 172, 173, 174, 175] rfl (by decide +kernel)
set_option maxRecDepth 20000 in
theorem gX0_spanByRow_X9_become : GoodIn wsX0_spanByRow (wsV RX0 76 RX9 yX9_become wsX9_become) := goodIn_app (goodIn_of _ (by decide +kernel)) ggX0_spanByRow_X9_become
set_option maxRecDepth 20000 in
theorem ggX0_spanByRow_X9_isMet : GoodIn wsX0_spanByRow wsX9_isMet := goodIn_r _ [21, 22, 23, 24, 7, 25, 9, 26, 11, 171, 172, 173, 174, 175, 176, 177, 178, 179, 180, 181, 182, 183, 184] rfl (by decide +kernel)
set_option maxRecDepth 20000 in
theorem gX0_spanByRow_X9_isMet : GoodIn wsX0_spanByRow (wsV RX0 43 RX9 yX9_isMet wsX9_isMet) := goodIn_app (goodIn_of _ (by decide +kernel)) ggX0_spanByRow_X9_isMet
set_option maxRecDepth 20000 in
theorem ggX0_spanByRow_X0_rowError : GoodIn wsX0_spanByRow wsX0_rowError := goodIn_r _ [31, 32, 33, 34, 35, 36, 37, 38, 39, 40, 41, 42, 43, 44, 155, 156, 157, 158, 159, 160, 161, 162, 163, 164, 165, 166, 167, 168, 169, 170] rfl (by decide +kernel)
set_option maxRecDepth 20000 in
theorem gX0_spanByRow_X0_rowError : GoodIn wsX0_spanByRow (wsV RX0 95 RX0 yX0_rowError wsX0_rowError) := goodIn_app (goodIn_of _ (by decide +kernel)) ggX0_spanByRow_X0_rowError
set_option maxRecDepth 20000 in
theorem ggX0_spanByRow_X0_actBoth : GoodIn wsX0_spanByRow wsX0_actBoth := goodIn_r _ [48, 49, 50, 51, 52, 53, 54, 55, 56, 57, 58, 7, 59, 60, 61, 62, 63, 64, 65, 66, 67, 68, 69, 11, 9, 70, 12, 71, 72, 73, 74, 75, 17, 76, 77, 78, 79, 80, 81, 22, 23, 24, 25, 26, 82, 83, 84, 85, 86, 87, 88, 89, 90, 91, 92, 93, 94, 95, 96, 97, 98, 99, 100, 101, 102, 103, 104, 105, 106, 107, 108, 109, 110, 111, 112, 113, 114, 115, 116, 117, 118, 119, 120, 121, 122, 123, 124, 125, 126, 127, 128, 129, 130, 131, 132, 133, 134, 135, 136, 137, 138, 139, 140, 141, 142, 143, 144, 145, 146, 147, 155, 156, 157, 158, 159, 160, 161, 162, 163, 164, 165, 171, 172, 173, 174, 175, 176, 177, 178, 179, 180, 181, 182, 183, 184, 185, 186, 187, 188, 189, 190, 191] rfl (by decide +kernel)
set_option maxRecDepth 20000 in
theorem gX0_spanByRow_X0_actBoth : GoodIn wsX0_spanByRow (wsV RX0 57 RX0 yX0_actBoth wsX0_actBoth) := goodIn_app (goodIn_of _ (by decide +kernel)) ggX0_spanByRow_X0_actBoth
set_option maxRecDepth 20000 in
theorem ggX0_spanByRow_X9_endDay : GoodIn wsX0_spanByRow wsX9_endDay := goodIn_r _ [151, 9, 152, 153, 10, 154, 139, 140, 141, 7, 142, 11, 143, 114, 115, 116, 171, 172, 173, 174, 175, 176, 177, 178, 179, 180, 181, 182, 183, 184] rfl (by decide +kernel)
set_option maxRecDepth 20000 in
theorem gX0_spanByRow_X9_endDay : GoodIn wsX0_spanByRow (wsV RX0 61 RX9 yX9_endDay wsX9_endDay) := goodIn_app (goodIn_of _ (by decide +kernel)) ggX0_spanByRow_X9_endDay
theorem dX0_spanByRow_0 : decode cX0_spanByRow 0 = .ok (.aload_n 0, 1) := by decide +kernel
theorem dX0_spanByRow_1 : decode cX0_spanByRow 1 = .ok (.getfield 20, 3) := by decide +kernel
theorem dX0_spanByRow_4 : decode cX0_spanByRow 4 = .ok (.iconst 0, 1) := by decide +kernel
theorem dX0_spanByRow_5 : decode cX0_spanByRow 5 = .ok (.aaload, 1) := by decide +kernel
theorem dX0_spanByRow_6 : decode cX0_spanByRow 6 = .ok (.astore 5, 2) := by decide +kernel
theorem dX0_spanByRow_8 : decode cX0_spanByRow 8 = .ok (.aload 5, 2) := by decide +kernel
theorem dX0_spanByRow_10 : decode cX0_spanByRow 10 = .ok (.aload_n 1, 1) := by decide +kernel
theorem dX0_spanByRow_11 : decode cX0_spanByRow 11 = .ok (.getfield 72, 3) := by decide +kernel
theorem dX0_spanByRow_14 : decode cX0_spanByRow 14 = .ok (.invokevirtual 76, 3) := by decide +kernel
theorem dX0_spanByRow_17 : decode cX0_spanByRow 17 = .ok (.iconst 0, 1) := by decide +kernel
theorem dX0_spanByRow_18 : decode cX0_spanByRow 18 = .ok (.istore 6, 2) := by decide +kernel
theorem dX0_spanByRow_20 : decode cX0_spanByRow 20 = .ok (.iload 6, 2) := by decide +kernel
theorem dX0_spanByRow_22 : decode cX0_spanByRow 22 = .ok (.iload 4, 2) := by decide +kernel
theorem dX0_spanByRow_24 : decode cX0_spanByRow 24 = .ok (.if_icmp .ge 56, 3) := by decide +kernel
theorem dX0_spanByRow_27 : decode cX0_spanByRow 27 = .ok (.aload 5, 2) := by decide +kernel
theorem dX0_spanByRow_29 : decode cX0_spanByRow 29 = .ok (.invokevirtual 43, 3) := by decide +kernel
theorem dX0_spanByRow_32 : decode cX0_spanByRow 32 = .ok (.ifCond .ne 48, 3) := by decide +kernel
theorem dX0_spanByRow_35 : decode cX0_spanByRow 35 = .ok (.aload_n 0, 1) := by decide +kernel
theorem dX0_spanByRow_36 : decode cX0_spanByRow 36 = .ok (.aload 5, 2) := by decide +kernel
theorem dX0_spanByRow_38 : decode cX0_spanByRow 38 = .ok (.aload_n 2, 1) := by decide +kernel
theorem dX0_spanByRow_39 : decode cX0_spanByRow 39 = .ok (.aload_n 3, 1) := by decide +kernel
theorem dX0_spanByRow_40 : decode cX0_spanByRow 40 = .ok (.aload_n 0, 1) := by decide +kernel
theorem dX0_spanByRow_41 : decode cX0_spanByRow 41 = .ok (.aload_n 1, 1) := by decide +kernel
theorem dX0_spanByRow_42 : decode cX0_spanByRow 42 = .ok (.aload 5, 2) := by decide +kernel
theorem dX0_spanByRow_44 : decode cX0_spanByRow 44 = .ok (.getfield 47, 3) := by decide +kernel
theorem dX0_spanByRow_47 : decode cX0_spanByRow 47 = .ok (.iconst 0, 1) := by decide +kernel
theorem dX0_spanByRow_48 : decode cX0_spanByRow 48 = .ok (.iload 6, 2) := by decide +kernel
theorem dX0_spanByRow_50 : decode cX0_spanByRow 50 = .ok (.invokevirtual 95, 3) := by decide +kernel
theorem dX0_spanByRow_53 : decode cX0_spanByRow 53 = .ok (.aload_n 0, 1) := by decide +kernel
theorem dX0_spanByRow_54 : decode cX0_spanByRow 54 = .ok (.aload_n 1, 1) := by decide +kernel
theorem dX0_spanByRow_55 : decode cX0_spanByRow 55 = .ok (.aload 5, 2) := by decide +kernel
theorem dX0_spanByRow_57 : decode cX0_spanByRow 57 = .ok (.getfield 47, 3) := by decide +kernel
theorem dX0_spanByRow_60 : decode cX0_spanByRow 60 = .ok (.iconst 1, 1) := by decide +kernel
theorem dX0_spanByRow_61 : decode cX0_spanByRow 61 = .ok (.iload 6, 2) := by decide +kernel
theorem dX0_spanByRow_63 : decode cX0_spanByRow 63 = .ok (.invokevirtual 95, 3) := by decide +kernel
theorem dX0_spanByRow_66 : decode cX0_spanByRow 66 = .ok (.invokevirtual 57, 3) := by decide +kernel
theorem dX0_spanByRow_69 : decode cX0_spanByRow 69 = .ok (.aload 5, 2) := by decide +kernel
theorem dX0_spanByRow_71 : decode cX0_spanByRow 71 = .ok (.invokevirtual 61, 3) := by decide +kernel
theorem dX0_spanByRow_74 : decode cX0_spanByRow 74 = .ok (.iinc 6 1, 3) := by decide +kernel
theorem dX0_spanByRow_77 : decode cX0_spanByRow 77 = .ok (.goto (-57), 3) := by decide +kernel
theorem dX0_spanByRow_80 : decode cX0_spanByRow 80 = .ok (.aload 5, 2) := by decide +kernel
theorem dX0_spanByRow_82 : decode cX0_spanByRow 82 = .ok (.areturn, 1) := by decide +kernel
set_option maxRecDepth 20000 in
theorem ggX0_rowError_X8_errorOn : GoodIn wsX0_rowError wsX8_errorOn := goodIn_r _ [8, 9, 10, 11, 12, 13, 25, 26, 27, 28, 29] rfl (by decide +kernel)
set_option maxRecDepth 20000 in
theorem gX0_rowError_X8_errorOn : GoodIn wsX0_rowError (wsV RX0 51 RX8 yX8_errorOn wsX8_errorOn) := goodIn_app (goodIn_of _ (by decide +kernel)) ggX0_rowError_X8_errorOn
theorem dX0_rowError_0 : decode cX0_rowError 0 = .ok (.iload_n 3, 1) := by decide +kernel
theorem dX0_rowError_1 : decode cX0_rowError 1 = .ok (.aload_n 0, 1) := by decide +kernel
theorem dX0_rowError_2 : decode cX0_rowError 2 = .ok (.getfield 84, 3) := by decide +kernel
theorem dX0_rowError_5 : decode cX0_rowError 5 = .ok (.if_icmp .ne 22, 3) := by decide +kernel
theorem dX0_rowError_8 : decode cX0_rowError 8 = .ok (.iload 4, 2) := by decide +kernel
theorem dX0_rowError_10 : decode cX0_rowError 10 = .ok (.aload_n 0, 1) := by decide +kernel
theorem dX0_rowError_11 : decode cX0_rowError 11 = .ok (.getfield 92, 3) := by decide +kernel
theorem dX0_rowError_14 : decode cX0_rowError 14 = .ok (.if_icmp .ge 13, 3) := by decide +kernel
theorem dX0_rowError_17 : decode cX0_rowError 17 = .ok (.aload_n 0, 1) := by decide +kernel
theorem dX0_rowError_18 : decode cX0_rowError 18 = .ok (.getfield 24, 3) := by decide +kernel
theorem dX0_rowError_21 : decode cX0_rowError 21 = .ok (.iload 4, 2) := by decide +kernel
theorem dX0_rowError_23 : decode cX0_rowError 23 = .ok (.iaload, 1) := by decide +kernel
theorem dX0_rowError_24 : decode cX0_rowError 24 = .ok (.goto 9, 3) := by decide +kernel
theorem dX0_rowError_27 : decode cX0_rowError 27 = .ok (.aload_n 1, 1) := by decide +kernel
theorem dX0_rowError_28 : decode cX0_rowError 28 = .ok (.iload_n 3, 1) := by decide +kernel
theorem dX0_rowError_29 : decode cX0_rowError 29 = .ok (.iload_n 2, 1) := by decide +kernel
theorem dX0_rowError_30 : decode cX0_rowError 30 = .ok (.invokevirtual 51, 3) := by decide +kernel
theorem dX0_rowError_33 : decode cX0_rowError 33 = .ok (.ireturn, 1) := by decide +kernel
set_option maxRecDepth 20000 in
theorem ggX0_spanTried_X9_become : GoodIn wsX0_spanTried wsX9_become := goodIn_r _ [13, 14, 15, 16, 17, 18, 19, 20, 21, 22, 170, 171, 172, 173, 174] rfl (by decide +kernel)
set_option maxRecDepth 20000 in
theorem gX0_spanTried_X9_become : GoodIn wsX0_spanTried (wsV RX0 76 RX9 yX9_become wsX9_become) := goodIn_app (goodIn_of _ (by decide +kernel)) ggX0_spanTried_X9_become
set_option maxRecDepth 20000 in
theorem ggX0_spanTried_X9_isMet : GoodIn wsX0_spanTried wsX9_isMet := goodIn_r _ [26, 27, 28, 29, 12, 30, 14, 31, 16, 170, 171, 172, 173, 174, 175, 176, 177, 178, 179, 180, 181, 182, 183] rfl (by decide +kernel)
set_option maxRecDepth 20000 in
theorem gX0_spanTried_X9_isMet : GoodIn wsX0_spanTried (wsV RX0 43 RX9 yX9_isMet wsX9_isMet) := goodIn_app (goodIn_of _ (by decide +kernel)) ggX0_spanTried_X9_isMet
set_option maxRecDepth 20000 in
theorem ggX0_spanTried_X8_errorOn : GoodIn wsX0_spanTried wsX8_errorOn := goodIn_r _ [36, 37, 38, 39, 40, 41, 165, 166, 167, 168, 169] rfl (by decide +kernel)
set_option maxRecDepth 20000 in
theorem gX0_spanTried_X8_errorOn : GoodIn wsX0_spanTried (wsV RX0 51 RX8 yX8_errorOn wsX8_errorOn) := goodIn_app (goodIn_of _ (by decide +kernel)) ggX0_spanTried_X8_errorOn
set_option maxRecDepth 20000 in
theorem ggX0_spanTried_X0_actBoth : GoodIn wsX0_spanTried wsX0_actBoth := goodIn_r _ [46, 47, 48, 49, 50, 51, 52, 53, 54, 55, 56, 12, 57, 58, 59, 60, 61, 62, 63, 64, 65, 66, 67, 16, 14, 68, 17, 69, 70, 71, 72, 73, 22, 74, 75, 76, 77, 78, 79, 27, 28, 29, 30, 31, 80, 81, 82, 83, 84, 85, 86, 87, 88, 89, 90, 91, 92, 93, 94, 95, 96, 97, 98, 99, 100, 101, 102, 103, 104, 105, 106, 107, 108, 109, 110, 111, 112, 113, 114, 115, 116, 117, 118, 119, 120, 121, 122, 123, 124, 125, 126, 127, 128, 129, 130, 131, 132, 133, 134, 135, 136, 137, 138, 139, 140, 141, 142, 143, 144, 145, 154, 155, 156, 157, 158, 159, 160, 161, 162, 163, 164, 170, 171, 172, 173, 174, 175, 176, 177, 178, 179, 180, 181, 182, 183, 184, 185, 186, 187, 188, 189, 190] rfl (by decide +kernel)
set_option maxRecDepth 20000 in
theorem gX0_spanTried_X0_actBoth : GoodIn wsX0_spanTried (wsV RX0 57 RX0 yX0_actBoth wsX0_actBoth) := goodIn_app (goodIn_of _ (by decide +kernel)) ggX0_spanTried_X0_actBoth
set_option maxRecDepth 20000 in
theorem ggX0_spanTried_X9_endDay : GoodIn wsX0_spanTried wsX9_endDay := goodIn_r _ [149, 14, 150, 151, 15, 152, 137, 138, 139, 12, 140, 16, 141, 112, 113, 114, 170, 171, 172, 173, 174, 175, 176, 177, 178, 179, 180, 181, 182, 183] rfl (by decide +kernel)
set_option maxRecDepth 20000 in
theorem gX0_spanTried_X9_endDay : GoodIn wsX0_spanTried (wsV RX0 61 RX9 yX9_endDay wsX9_endDay) := goodIn_app (goodIn_of _ (by decide +kernel)) ggX0_spanTried_X9_endDay
set_option maxRecDepth 20000 in
theorem ggX0_spanTried_X9_take : GoodIn wsX0_spanTried wsX9_take := goodIn_r _ [140, 16, 141, 112, 113, 114, 170, 171, 172, 173, 174] rfl (by decide +kernel)
set_option maxRecDepth 20000 in
theorem gX0_spanTried_X9_take : GoodIn wsX0_spanTried (wsV RX0 109 RX9 yX9_take wsX9_take) := goodIn_app (goodIn_of _ (by decide +kernel)) ggX0_spanTried_X9_take
theorem dX0_spanTried_0 : decode cX0_spanTried 0 = .ok (.aload_n 0, 1) := by decide +kernel
theorem dX0_spanTried_1 : decode cX0_spanTried 1 = .ok (.getfield 20, 3) := by decide +kernel
theorem dX0_spanTried_4 : decode cX0_spanTried 4 = .ok (.iconst 0, 1) := by decide +kernel
theorem dX0_spanTried_5 : decode cX0_spanTried 5 = .ok (.aaload, 1) := by decide +kernel
theorem dX0_spanTried_6 : decode cX0_spanTried 6 = .ok (.astore 6, 2) := by decide +kernel
theorem dX0_spanTried_8 : decode cX0_spanTried 8 = .ok (.aload 6, 2) := by decide +kernel
theorem dX0_spanTried_10 : decode cX0_spanTried 10 = .ok (.aload_n 1, 1) := by decide +kernel
theorem dX0_spanTried_11 : decode cX0_spanTried 11 = .ok (.getfield 72, 3) := by decide +kernel
theorem dX0_spanTried_14 : decode cX0_spanTried 14 = .ok (.invokevirtual 76, 3) := by decide +kernel
theorem dX0_spanTried_17 : decode cX0_spanTried 17 = .ok (.iconst 0, 1) := by decide +kernel
theorem dX0_spanTried_18 : decode cX0_spanTried 18 = .ok (.istore 7, 2) := by decide +kernel
theorem dX0_spanTried_20 : decode cX0_spanTried 20 = .ok (.iload 7, 2) := by decide +kernel
theorem dX0_spanTried_22 : decode cX0_spanTried 22 = .ok (.iload 4, 2) := by decide +kernel
theorem dX0_spanTried_24 : decode cX0_spanTried 24 = .ok (.if_icmp .ge 101, 3) := by decide +kernel
theorem dX0_spanTried_27 : decode cX0_spanTried 27 = .ok (.aload 6, 2) := by decide +kernel
theorem dX0_spanTried_29 : decode cX0_spanTried 29 = .ok (.invokevirtual 43, 3) := by decide +kernel
theorem dX0_spanTried_32 : decode cX0_spanTried 32 = .ok (.ifCond .ne 93, 3) := by decide +kernel
theorem dX0_spanTried_35 : decode cX0_spanTried 35 = .ok (.aload_n 0, 1) := by decide +kernel
theorem dX0_spanTried_36 : decode cX0_spanTried 36 = .ok (.aload 6, 2) := by decide +kernel
theorem dX0_spanTried_38 : decode cX0_spanTried 38 = .ok (.aload_n 2, 1) := by decide +kernel
theorem dX0_spanTried_39 : decode cX0_spanTried 39 = .ok (.aload_n 3, 1) := by decide +kernel
theorem dX0_spanTried_40 : decode cX0_spanTried 40 = .ok (.aload_n 1, 1) := by decide +kernel
theorem dX0_spanTried_41 : decode cX0_spanTried 41 = .ok (.iconst 0, 1) := by decide +kernel
theorem dX0_spanTried_42 : decode cX0_spanTried 42 = .ok (.aload 6, 2) := by decide +kernel
theorem dX0_spanTried_44 : decode cX0_spanTried 44 = .ok (.getfield 47, 3) := by decide +kernel
theorem dX0_spanTried_47 : decode cX0_spanTried 47 = .ok (.invokevirtual 51, 3) := by decide +kernel
theorem dX0_spanTried_50 : decode cX0_spanTried 50 = .ok (.aload_n 1, 1) := by decide +kernel
theorem dX0_spanTried_51 : decode cX0_spanTried 51 = .ok (.iconst 1, 1) := by decide +kernel
theorem dX0_spanTried_52 : decode cX0_spanTried 52 = .ok (.aload 6, 2) := by decide +kernel
theorem dX0_spanTried_54 : decode cX0_spanTried 54 = .ok (.getfield 47, 3) := by decide +kernel
theorem dX0_spanTried_57 : decode cX0_spanTried 57 = .ok (.invokevirtual 51, 3) := by decide +kernel
theorem dX0_spanTried_60 : decode cX0_spanTried 60 = .ok (.invokevirtual 57, 3) := by decide +kernel
theorem dX0_spanTried_63 : decode cX0_spanTried 63 = .ok (.aload 6, 2) := by decide +kernel
theorem dX0_spanTried_65 : decode cX0_spanTried 65 = .ok (.invokevirtual 61, 3) := by decide +kernel
theorem dX0_spanTried_68 : decode cX0_spanTried 68 = .ok (.aload_n 0, 1) := by decide +kernel
theorem dX0_spanTried_69 : decode cX0_spanTried 69 = .ok (.aload_n 0, 1) := by decide +kernel
theorem dX0_spanTried_70 : decode cX0_spanTried 70 = .ok (.getfield 99, 3) := by decide +kernel
theorem dX0_spanTried_73 : decode cX0_spanTried 73 = .ok (.i2l, 1) := by decide +kernel
theorem dX0_spanTried_74 : decode cX0_spanTried 74 = .ok (.ldc2_w 102, 3) := by decide +kernel
theorem dX0_spanTried_77 : decode cX0_spanTried 77 = .ok (.lmul, 1) := by decide +kernel
theorem dX0_spanTried_78 : decode cX0_spanTried 78 = .ok (.ldc2_w 104, 3) := by decide +kernel
theorem dX0_spanTried_81 : decode cX0_spanTried 81 = .ok (.ladd, 1) := by decide +kernel
theorem dX0_spanTried_82 : decode cX0_spanTried 82 = .ok (.ldc2_w 106, 3) := by decide +kernel
theorem dX0_spanTried_85 : decode cX0_spanTried 85 = .ok (.land, 1) := by decide +kernel
theorem dX0_spanTried_86 : decode cX0_spanTried 86 = .ok (.l2i, 1) := by decide +kernel
theorem dX0_spanTried_87 : decode cX0_spanTried 87 = .ok (.putfield 99, 3) := by decide +kernel
theorem dX0_spanTried_90 : decode cX0_spanTried 90 = .ok (.aload_n 0, 1) := by decide +kernel
theorem dX0_spanTried_91 : decode cX0_spanTried 91 = .ok (.getfield 99, 3) := by decide +kernel
theorem dX0_spanTried_94 : decode cX0_spanTried 94 = .ok (.ldc 108, 2) := by decide +kernel
theorem dX0_spanTried_96 : decode cX0_spanTried 96 = .ok (.idiv, 1) := by decide +kernel
theorem dX0_spanTried_97 : decode cX0_spanTried 97 = .ok (.bipush 100, 2) := by decide +kernel
theorem dX0_spanTried_99 : decode cX0_spanTried 99 = .ok (.irem, 1) := by decide +kernel
theorem dX0_spanTried_100 : decode cX0_spanTried 100 = .ok (.iload 5, 2) := by decide +kernel
theorem dX0_spanTried_102 : decode cX0_spanTried 102 = .ok (.if_icmp .ge 17, 3) := by decide +kernel
theorem dX0_spanTried_105 : decode cX0_spanTried 105 = .ok (.aload 6, 2) := by decide +kernel
theorem dX0_spanTried_107 : decode cX0_spanTried 107 = .ok (.iconst 0, 1) := by decide +kernel
theorem dX0_spanTried_108 : decode cX0_spanTried 108 = .ok (.iconst 1, 1) := by decide +kernel
theorem dX0_spanTried_109 : decode cX0_spanTried 109 = .ok (.invokevirtual 109, 3) := by decide +kernel
theorem dX0_spanTried_112 : decode cX0_spanTried 112 = .ok (.aload 6, 2) := by decide +kernel
theorem dX0_spanTried_114 : decode cX0_spanTried 114 = .ok (.iconst 1, 1) := by decide +kernel
theorem dX0_spanTried_115 : decode cX0_spanTried 115 = .ok (.iconst 1, 1) := by decide +kernel
theorem dX0_spanTried_116 : decode cX0_spanTried 116 = .ok (.invokevirtual 109, 3) := by decide +kernel
theorem dX0_spanTried_119 : decode cX0_spanTried 119 = .ok (.iinc 7 1, 3) := by decide +kernel
theorem dX0_spanTried_122 : decode cX0_spanTried 122 = .ok (.goto (-102), 3) := by decide +kernel
theorem dX0_spanTried_125 : decode cX0_spanTried 125 = .ok (.aload 6, 2) := by decide +kernel
theorem dX0_spanTried_127 : decode cX0_spanTried 127 = .ok (.areturn, 1) := by decide +kernel
set_option maxRecDepth 20000 in
theorem ggX0_comesAgain_X9_become : GoodIn wsX0_comesAgain wsX9_become := goodIn_r _ [12, 13, 14, 15, 16, 17, 18, 19, 20, 21, 175, 176, 177, 178, 179] rfl (by decide +kernel)
set_option maxRecDepth 20000 in
theorem gX0_comesAgain_X9_become : GoodIn wsX0_comesAgain (wsV RX0 76 RX9 yX9_become wsX9_become) := goodIn_app (goodIn_of _ (by decide +kernel)) ggX0_comesAgain_X9_become
set_option maxRecDepth 20000 in
theorem ggX0_comesAgain_X9_pack : GoodIn wsX0_comesAgain wsX9_pack := goodIn_r _ [25, 15, 26, 27, 28, 29, 11, 30, 13, 31, 16, 32, 33, 34, 35, 36, 21, 37, 38, 39, 175, 176, 177, 178, 179, 180, 181, 182, 183, 184, 185, 186, 187, 188] rfl (by decide +kernel)
set_option maxRecDepth 20000 in
theorem gX0_comesAgain_X9_pack : GoodIn wsX0_comesAgain (wsV RX0 116 RX9 yX9_pack wsX9_pack) := goodIn_app (goodIn_of _ (by decide +kernel)) ggX0_comesAgain_X9_pack
set_option maxRecDepth 20000 in
theorem ggX0_comesAgain_X0_firstLike : GoodIn wsX0_comesAgain wsX0_firstLike := goodIn_r _ [44, 1, 159, 160, 161, 162, 163, 164, 165, 166, 167, 168, 169] rfl (by decide +kernel)
set_option maxRecDepth 20000 in
theorem gX0_comesAgain_X0_firstLike : GoodIn wsX0_comesAgain (wsV RX0 120 RX0 yX0_firstLike wsX0_firstLike) := goodIn_app (goodIn_of _ (by decide +kernel)) ggX0_comesAgain_X0_firstLike
set_option maxRecDepth 20000 in
theorem ggX0_comesAgain_X9_isMet : GoodIn wsX0_comesAgain wsX9_isMet := goodIn_r _ [48, 49, 50, 51, 11, 52, 13, 53, 15, 175, 176, 177, 178, 179, 180, 181, 182, 183, 184, 185, 186, 187, 188] rfl (by decide +kernel)
set_option maxRecDepth 20000 in
theorem gX0_comesAgain_X9_isMet : GoodIn wsX0_comesAgain (wsV RX0 43 RX9 yX9_isMet wsX9_isMet) := goodIn_app (goodIn_of _ (by decide +kernel)) ggX0_comesAgain_X9_isMet
set_option maxRecDepth 20000 in
theorem ggX0_comesAgain_X8_errorOn : GoodIn wsX0_comesAgain wsX8_errorOn := goodIn_r _ [58, 59, 60, 61, 62, 63, 170, 171, 172, 173, 174] rfl (by decide +kernel)
set_option maxRecDepth 20000 in
theorem gX0_comesAgain_X8_errorOn : GoodIn wsX0_comesAgain (wsV RX0 51 RX8 yX8_errorOn wsX8_errorOn) := goodIn_app (goodIn_of _ (by decide +kernel)) ggX0_comesAgain_X8_errorOn
set_option maxRecDepth 20000 in
theorem ggX0_comesAgain_X0_actBoth : GoodIn wsX0_comesAgain wsX0_actBoth := goodIn_r _ [67, 68, 69, 70, 71, 72, 73, 74, 75, 76, 38, 11, 39, 77, 78, 79, 80, 81, 82, 83, 84, 85, 86, 15, 13, 31, 16, 87, 88, 89, 90, 36, 21, 91, 92, 93, 94, 95, 96, 49, 50, 51, 52, 53, 97, 98, 99, 100, 101, 102, 103, 104, 105, 106, 107, 108, 109, 110, 27, 28, 29, 30, 111, 112, 113, 114, 115, 116, 117, 118, 119, 120, 121, 122, 123, 124, 125, 126, 127, 128, 129, 130, 131, 132, 133, 134, 135, 136, 137, 138, 139, 140, 141, 142, 143, 144, 145, 146, 147, 148, 149, 150, 151, 152, 153, 154, 155, 156, 157, 158, 159, 160, 161, 162, 163, 164, 165, 166, 167, 168, 169, 175, 176, 177, 178, 179, 180, 181, 182, 183, 184, 185, 186, 187, 188, 189, 190, 191, 192, 193, 194, 195] rfl (by decide +kernel)
set_option maxRecDepth 20000 in
theorem gX0_comesAgain_X0_actBoth : GoodIn wsX0_comesAgain (wsV RX0 57 RX0 yX0_actBoth wsX0_actBoth) := goodIn_app (goodIn_of _ (by decide +kernel)) ggX0_comesAgain_X0_actBoth
theorem dX0_comesAgain_0 : decode cX0_comesAgain 0 = .ok (.aload_n 0, 1) := by decide +kernel
theorem dX0_comesAgain_1 : decode cX0_comesAgain 1 = .ok (.getfield 112, 3) := by decide +kernel
theorem dX0_comesAgain_4 : decode cX0_comesAgain 4 = .ok (.ifnonnull 12, 3) := by decide +kernel
theorem dX0_comesAgain_7 : decode cX0_comesAgain 7 = .ok (.aload_n 0, 1) := by decide +kernel
theorem dX0_comesAgain_8 : decode cX0_comesAgain 8 = .ok (.sipush 2709, 3) := by decide +kernel
theorem dX0_comesAgain_11 : decode cX0_comesAgain 11 = .ok (.newarray .long, 2) := by decide +kernel
theorem dX0_comesAgain_13 : decode cX0_comesAgain 13 = .ok (.putfield 112, 3) := by decide +kernel
theorem dX0_comesAgain_16 : decode cX0_comesAgain 16 = .ok (.aload_n 0, 1) := by decide +kernel
theorem dX0_comesAgain_17 : decode cX0_comesAgain 17 = .ok (.getfield 20, 3) := by decide +kernel
theorem dX0_comesAgain_20 : decode cX0_comesAgain 20 = .ok (.iconst 0, 1) := by decide +kernel
theorem dX0_comesAgain_21 : decode cX0_comesAgain 21 = .ok (.aaload, 1) := by decide +kernel
theorem dX0_comesAgain_22 : decode cX0_comesAgain 22 = .ok (.astore 4, 2) := by decide +kernel
theorem dX0_comesAgain_24 : decode cX0_comesAgain 24 = .ok (.aload 4, 2) := by decide +kernel
theorem dX0_comesAgain_26 : decode cX0_comesAgain 26 = .ok (.aload_n 1, 1) := by decide +kernel
theorem dX0_comesAgain_27 : decode cX0_comesAgain 27 = .ok (.getfield 72, 3) := by decide +kernel
theorem dX0_comesAgain_30 : decode cX0_comesAgain 30 = .ok (.invokevirtual 76, 3) := by decide +kernel
theorem dX0_comesAgain_33 : decode cX0_comesAgain 33 = .ok (.iconst 0, 1) := by decide +kernel
theorem dX0_comesAgain_34 : decode cX0_comesAgain 34 = .ok (.istore 5, 2) := by decide +kernel
theorem dX0_comesAgain_36 : decode cX0_comesAgain 36 = .ok (.iload 5, 2) := by decide +kernel
theorem dX0_comesAgain_38 : decode cX0_comesAgain 38 = .ok (.sipush 300, 3) := by decide +kernel
theorem dX0_comesAgain_41 : decode cX0_comesAgain 41 = .ok (.if_icmp .gt 91, 3) := by decide +kernel
theorem dX0_comesAgain_44 : decode cX0_comesAgain 44 = .ok (.aload 4, 2) := by decide +kernel
theorem dX0_comesAgain_46 : decode cX0_comesAgain 46 = .ok (.aload_n 0, 1) := by decide +kernel
theorem dX0_comesAgain_47 : decode cX0_comesAgain 47 = .ok (.getfield 112, 3) := by decide +kernel
theorem dX0_comesAgain_50 : decode cX0_comesAgain 50 = .ok (.iload 5, 2) := by decide +kernel
theorem dX0_comesAgain_52 : decode cX0_comesAgain 52 = .ok (.bipush 9, 2) := by decide +kernel
theorem dX0_comesAgain_54 : decode cX0_comesAgain 54 = .ok (.imul, 1) := by decide +kernel
theorem dX0_comesAgain_55 : decode cX0_comesAgain 55 = .ok (.invokevirtual 116, 3) := by decide +kernel
theorem dX0_comesAgain_58 : decode cX0_comesAgain 58 = .ok (.aload_n 0, 1) := by decide +kernel
theorem dX0_comesAgain_59 : decode cX0_comesAgain 59 = .ok (.aload_n 0, 1) := by decide +kernel
theorem dX0_comesAgain_60 : decode cX0_comesAgain 60 = .ok (.iload 5, 2) := by decide +kernel
theorem dX0_comesAgain_62 : decode cX0_comesAgain 62 = .ok (.invokevirtual 120, 3) := by decide +kernel
theorem dX0_comesAgain_65 : decode cX0_comesAgain 65 = .ok (.putfield 124, 3) := by decide +kernel
theorem dX0_comesAgain_68 : decode cX0_comesAgain 68 = .ok (.aload_n 0, 1) := by decide +kernel
theorem dX0_comesAgain_69 : decode cX0_comesAgain 69 = .ok (.getfield 124, 3) := by decide +kernel
theorem dX0_comesAgain_72 : decode cX0_comesAgain 72 = .ok (.iload 5, 2) := by decide +kernel
theorem dX0_comesAgain_74 : decode cX0_comesAgain 74 = .ok (.if_icmp .ge 16, 3) := by decide +kernel
theorem dX0_comesAgain_77 : decode cX0_comesAgain 77 = .ok (.aload_n 0, 1) := by decide +kernel
theorem dX0_comesAgain_78 : decode cX0_comesAgain 78 = .ok (.iload 5, 2) := by decide +kernel
theorem dX0_comesAgain_80 : decode cX0_comesAgain 80 = .ok (.aload_n 0, 1) := by decide +kernel
theorem dX0_comesAgain_81 : decode cX0_comesAgain 81 = .ok (.getfield 124, 3) := by decide +kernel
theorem dX0_comesAgain_84 : decode cX0_comesAgain 84 = .ok (.isub, 1) := by decide +kernel
theorem dX0_comesAgain_85 : decode cX0_comesAgain 85 = .ok (.putfield 127, 3) := by decide +kernel
theorem dX0_comesAgain_88 : decode cX0_comesAgain 88 = .ok (.iconst 1, 1) := by decide +kernel
theorem dX0_comesAgain_89 : decode cX0_comesAgain 89 = .ok (.ireturn, 1) := by decide +kernel
theorem dX0_comesAgain_90 : decode cX0_comesAgain 90 = .ok (.aload 4, 2) := by decide +kernel
theorem dX0_comesAgain_92 : decode cX0_comesAgain 92 = .ok (.invokevirtual 43, 3) := by decide +kernel
theorem dX0_comesAgain_95 : decode cX0_comesAgain 95 = .ok (.ifCond .ne 31, 3) := by decide +kernel
theorem dX0_comesAgain_98 : decode cX0_comesAgain 98 = .ok (.aload_n 0, 1) := by decide +kernel
theorem dX0_comesAgain_99 : decode cX0_comesAgain 99 = .ok (.aload 4, 2) := by decide +kernel
theorem dX0_comesAgain_101 : decode cX0_comesAgain 101 = .ok (.aload_n 2, 1) := by decide +kernel
theorem dX0_comesAgain_102 : decode cX0_comesAgain 102 = .ok (.aload_n 3, 1) := by decide +kernel
theorem dX0_comesAgain_103 : decode cX0_comesAgain 103 = .ok (.aload_n 1, 1) := by decide +kernel
theorem dX0_comesAgain_104 : decode cX0_comesAgain 104 = .ok (.iconst 0, 1) := by decide +kernel
theorem dX0_comesAgain_105 : decode cX0_comesAgain 105 = .ok (.aload 4, 2) := by decide +kernel
theorem dX0_comesAgain_107 : decode cX0_comesAgain 107 = .ok (.getfield 47, 3) := by decide +kernel
theorem dX0_comesAgain_110 : decode cX0_comesAgain 110 = .ok (.invokevirtual 51, 3) := by decide +kernel
theorem dX0_comesAgain_113 : decode cX0_comesAgain 113 = .ok (.aload_n 1, 1) := by decide +kernel
theorem dX0_comesAgain_114 : decode cX0_comesAgain 114 = .ok (.iconst 1, 1) := by decide +kernel
theorem dX0_comesAgain_115 : decode cX0_comesAgain 115 = .ok (.aload 4, 2) := by decide +kernel
theorem dX0_comesAgain_117 : decode cX0_comesAgain 117 = .ok (.getfield 47, 3) := by decide +kernel
theorem dX0_comesAgain_120 : decode cX0_comesAgain 120 = .ok (.invokevirtual 51, 3) := by decide +kernel
theorem dX0_comesAgain_123 : decode cX0_comesAgain 123 = .ok (.invokevirtual 57, 3) := by decide +kernel
theorem dX0_comesAgain_126 : decode cX0_comesAgain 126 = .ok (.iinc 5 1, 3) := by decide +kernel
theorem dX0_comesAgain_129 : decode cX0_comesAgain 129 = .ok (.goto (-93), 3) := by decide +kernel
theorem dX0_comesAgain_132 : decode cX0_comesAgain 132 = .ok (.iconst 0, 1) := by decide +kernel
theorem dX0_comesAgain_133 : decode cX0_comesAgain 133 = .ok (.ireturn, 1) := by decide +kernel
theorem dX0_firstLike_0 : decode cX0_firstLike 0 = .ok (.bipush 9, 2) := by decide +kernel
theorem dX0_firstLike_2 : decode cX0_firstLike 2 = .ok (.istore_n 2, 1) := by decide +kernel
theorem dX0_firstLike_3 : decode cX0_firstLike 3 = .ok (.iconst 0, 1) := by decide +kernel
theorem dX0_firstLike_4 : decode cX0_firstLike 4 = .ok (.istore_n 3, 1) := by decide +kernel
theorem dX0_firstLike_5 : decode cX0_firstLike 5 = .ok (.iload_n 3, 1) := by decide +kernel
theorem dX0_firstLike_6 : decode cX0_firstLike 6 = .ok (.iload_n 1, 1) := by decide +kernel
theorem dX0_firstLike_7 : decode cX0_firstLike 7 = .ok (.if_icmp .ge 58, 3) := by decide +kernel
theorem dX0_firstLike_10 : decode cX0_firstLike 10 = .ok (.iconst 0, 1) := by decide +kernel
theorem dX0_firstLike_11 : decode cX0_firstLike 11 = .ok (.istore 4, 2) := by decide +kernel
theorem dX0_firstLike_13 : decode cX0_firstLike 13 = .ok (.iload 4, 2) := by decide +kernel
theorem dX0_firstLike_15 : decode cX0_firstLike 15 = .ok (.iload_n 2, 1) := by decide +kernel
theorem dX0_firstLike_16 : decode cX0_firstLike 16 = .ok (.if_icmp .ge 35, 3) := by decide +kernel
theorem dX0_firstLike_19 : decode cX0_firstLike 19 = .ok (.aload_n 0, 1) := by decide +kernel
theorem dX0_firstLike_20 : decode cX0_firstLike 20 = .ok (.getfield 112, 3) := by decide +kernel
theorem dX0_firstLike_23 : decode cX0_firstLike 23 = .ok (.iload_n 3, 1) := by decide +kernel
theorem dX0_firstLike_24 : decode cX0_firstLike 24 = .ok (.iload_n 2, 1) := by decide +kernel
theorem dX0_firstLike_25 : decode cX0_firstLike 25 = .ok (.imul, 1) := by decide +kernel
theorem dX0_firstLike_26 : decode cX0_firstLike 26 = .ok (.iload 4, 2) := by decide +kernel
theorem dX0_firstLike_28 : decode cX0_firstLike 28 = .ok (.iadd, 1) := by decide +kernel
theorem dX0_firstLike_29 : decode cX0_firstLike 29 = .ok (.laload, 1) := by decide +kernel
theorem dX0_firstLike_30 : decode cX0_firstLike 30 = .ok (.aload_n 0, 1) := by decide +kernel
theorem dX0_firstLike_31 : decode cX0_firstLike 31 = .ok (.getfield 112, 3) := by decide +kernel
theorem dX0_firstLike_34 : decode cX0_firstLike 34 = .ok (.iload_n 1, 1) := by decide +kernel
theorem dX0_firstLike_35 : decode cX0_firstLike 35 = .ok (.iload_n 2, 1) := by decide +kernel
theorem dX0_firstLike_36 : decode cX0_firstLike 36 = .ok (.imul, 1) := by decide +kernel
theorem dX0_firstLike_37 : decode cX0_firstLike 37 = .ok (.iload 4, 2) := by decide +kernel
theorem dX0_firstLike_39 : decode cX0_firstLike 39 = .ok (.iadd, 1) := by decide +kernel
theorem dX0_firstLike_40 : decode cX0_firstLike 40 = .ok (.laload, 1) := by decide +kernel
theorem dX0_firstLike_41 : decode cX0_firstLike 41 = .ok (.lcmp, 1) := by decide +kernel
theorem dX0_firstLike_42 : decode cX0_firstLike 42 = .ok (.ifCond .ne 9, 3) := by decide +kernel
theorem dX0_firstLike_45 : decode cX0_firstLike 45 = .ok (.iinc 4 1, 3) := by decide +kernel
theorem dX0_firstLike_48 : decode cX0_firstLike 48 = .ok (.goto (-35), 3) := by decide +kernel
theorem dX0_firstLike_51 : decode cX0_firstLike 51 = .ok (.iload 4, 2) := by decide +kernel
theorem dX0_firstLike_53 : decode cX0_firstLike 53 = .ok (.iload_n 2, 1) := by decide +kernel
theorem dX0_firstLike_54 : decode cX0_firstLike 54 = .ok (.if_icmp .ne 5, 3) := by decide +kernel
theorem dX0_firstLike_57 : decode cX0_firstLike 57 = .ok (.iload_n 3, 1) := by decide +kernel
theorem dX0_firstLike_58 : decode cX0_firstLike 58 = .ok (.ireturn, 1) := by decide +kernel
theorem dX0_firstLike_59 : decode cX0_firstLike 59 = .ok (.iinc 3 1, 3) := by decide +kernel
theorem dX0_firstLike_62 : decode cX0_firstLike 62 = .ok (.goto (-57), 3) := by decide +kernel
theorem dX0_firstLike_65 : decode cX0_firstLike 65 = .ok (.iload_n 1, 1) := by decide +kernel
theorem dX0_firstLike_66 : decode cX0_firstLike 66 = .ok (.ireturn, 1) := by decide +kernel
theorem dX1_init_0 : decode cX1_init 0 = .ok (.aload_n 0, 1) := by decide +kernel
theorem dX1_init_1 : decode cX1_init 1 = .ok (.invokespecial 3, 3) := by decide +kernel
theorem dX1_init_4 : decode cX1_init 4 = .ok (.aload_n 0, 1) := by decide +kernel
theorem dX1_init_5 : decode cX1_init 5 = .ok (.bipush 6, 2) := by decide +kernel
theorem dX1_init_7 : decode cX1_init 7 = .ok (.newarray .int, 2) := by decide +kernel
theorem dX1_init_9 : decode cX1_init 9 = .ok (.putfield 11, 3) := by decide +kernel
theorem dX1_init_12 : decode cX1_init 12 = .ok (.aload_n 0, 1) := by decide +kernel
theorem dX1_init_13 : decode cX1_init 13 = .ok (.bipush 6, 2) := by decide +kernel
theorem dX1_init_15 : decode cX1_init 15 = .ok (.newarray .int, 2) := by decide +kernel
theorem dX1_init_17 : decode cX1_init 17 = .ok (.putfield 15, 3) := by decide +kernel
theorem dX1_init_20 : decode cX1_init 20 = .ok (.aload_n 0, 1) := by decide +kernel
theorem dX1_init_21 : decode cX1_init 21 = .ok (.aload_n 1, 1) := by decide +kernel
theorem dX1_init_22 : decode cX1_init 22 = .ok (.putfield 18, 3) := by decide +kernel
theorem dX1_init_25 : decode cX1_init 25 = .ok (.aload_n 0, 1) := by decide +kernel
theorem dX1_init_26 : decode cX1_init 26 = .ok (.aload_n 2, 1) := by decide +kernel
theorem dX1_init_27 : decode cX1_init 27 = .ok (.putfield 22, 3) := by decide +kernel
theorem dX1_init_30 : decode cX1_init 30 = .ok (.return_, 1) := by decide +kernel
set_option maxRecDepth 20000 in
theorem ggX1_goStraight_X1_beginBy : GoodIn wsX1_goStraight wsX1_beginBy := goodIn_r _ [8, 9, 10, 11, 12, 13, 14, 15, 16, 17, 18, 19, 20, 21, 22, 23, 24, 25, 26, 27, 28, 29, 207, 208, 209, 210, 211, 212, 213, 214, 215, 216, 217, 218, 219, 220, 221, 222, 223, 224, 225, 226, 227, 228] rfl (by decide +kernel)
set_option maxRecDepth 20000 in
theorem gX1_goStraight_X1_beginBy : GoodIn wsX1_goStraight (wsV RX1 37 RX1 yX1_beginBy wsX1_beginBy) := goodIn_app (goodIn_of _ (by decide +kernel)) ggX1_goStraight_X1_beginBy
set_option maxRecDepth 20000 in
theorem ggX1_goStraight_X1_goDeeper : GoodIn wsX1_goStraight wsX1_goDeeper := goodIn_r _ [33, 14, 2, 1, 10, 34, 11, 9, 35, 36, 37, 38, 39, 40, 41, 42, 43, 44, 3, 45, 46, 47, 48, 19, 49, 50, 51, 52, 53, 21, 54, 23, 55, 56, 57, 7, 58, 12, 13, 59, 60, 61, 62, 63, 64, 65, 66, 67, 68, 24, 69, 70, 71, 72, 73, 29, 74, 75, 76, 77, 78, 79, 80, 81, 82, 83, 84, 85, 86, 87, 88, 89, 90, 91, 92, 93, 94, 95, 96, 97, 98, 99, 100, 101, 102, 103, 104, 105, 106, 107, 108, 109, 110, 111, 112, 113, 114, 115, 116, 117, 118, 119, 120, 121, 122, 123, 124, 125, 126, 127, 128, 129, 130, 131, 132, 133, 134, 135, 136, 137, 138, 139, 140, 141, 142, 143, 144, 145, 146, 147, 148, 149, 150, 151, 152, 153, 154, 155, 156, 157, 158, 159, 160, 161, 162, 163, 164, 165, 166, 167, 168, 169, 170, 171, 172, 173, 174, 175, 176, 177, 178, 179, 180, 181, 182, 183, 184, 185, 16, 17, 18, 20, 22, 25, 26, 27, 28, 186, 187, 188, 189, 190, 191, 192, 193, 194, 195, 196, 197, 198, 199, 200, 201, 202, 203, 204, 205, 206, 30, 31, 32, 207, 208, 209, 210, 211, 212, 213, 214, 215, 216, 217, 218, 224, 225, 226, 227, 228, 229, 230, 231, 232, 233, 234, 235, 236, 237, 219, 220, 221, 222, 223, 238, 239, 240, 241, 242, 243, 244] rfl (by decide +kernel)
set_option maxRecDepth 20000 in
theorem gX1_goStraight_X1_goDeeper : GoodIn wsX1_goStraight (wsV RX1 41 RX1 yX1_goDeeper wsX1_goDeeper) := goodIn_app (goodIn_of _ (by decide +kernel)) ggX1_goStraight_X1_goDeeper
theorem dX1_goStraight_0 : decode cX1_goStraight 0 = .ok (.aload_n 0, 1) := by decide +kernel
theorem dX1_goStraight_1 : decode cX1_goStraight 1 = .ok (.iconst 0, 1) := by decide +kernel
theorem dX1_goStraight_2 : decode cX1_goStraight 2 = .ok (.putfield 26, 3) := by decide +kernel
theorem dX1_goStraight_5 : decode cX1_goStraight 5 = .ok (.aload_n 0, 1) := by decide +kernel
theorem dX1_goStraight_6 : decode cX1_goStraight 6 = .ok (.bipush 6, 2) := by decide +kernel
theorem dX1_goStraight_8 : decode cX1_goStraight 8 = .ok (.putfield 30, 3) := by decide +kernel
theorem dX1_goStraight_11 : decode cX1_goStraight 11 = .ok (.aload_n 0, 1) := by decide +kernel
theorem dX1_goStraight_12 : decode cX1_goStraight 12 = .ok (.bipush 12, 2) := by decide +kernel
theorem dX1_goStraight_14 : decode cX1_goStraight 14 = .ok (.putfield 34, 3) := by decide +kernel
theorem dX1_goStraight_17 : decode cX1_goStraight 17 = .ok (.aload_n 0, 1) := by decide +kernel
theorem dX1_goStraight_18 : decode cX1_goStraight 18 = .ok (.aload_n 1, 1) := by decide +kernel
theorem dX1_goStraight_19 : decode cX1_goStraight 19 = .ok (.iload_n 2, 1) := by decide +kernel
theorem dX1_goStraight_20 : decode cX1_goStraight 20 = .ok (.aload_n 3, 1) := by decide +kernel
theorem dX1_goStraight_21 : decode cX1_goStraight 21 = .ok (.invokevirtual 37, 3) := by decide +kernel
theorem dX1_goStraight_24 : decode cX1_goStraight 24 = .ok (.aload_n 0, 1) := by decide +kernel
theorem dX1_goStraight_25 : decode cX1_goStraight 25 = .ok (.iconst 0, 1) := by decide +kernel
theorem dX1_goStraight_26 : decode cX1_goStraight 26 = .ok (.iconst 0, 1) := by decide +kernel
theorem dX1_goStraight_27 : decode cX1_goStraight 27 = .ok (.invokevirtual 41, 3) := by decide +kernel
theorem dX1_goStraight_30 : decode cX1_goStraight 30 = .ok (.return_, 1) := by decide +kernel
set_option maxRecDepth 20000 in
theorem ggX1_goSpiteful_X1_beginBy : GoodIn wsX1_goSpiteful wsX1_beginBy := goodIn_r _ [8, 9, 10, 11, 12, 13, 14, 15, 16, 17, 18, 19, 20, 21, 22, 23, 24, 25, 26, 27, 28, 29, 207, 208, 209, 210, 211, 212, 213, 214, 215, 216, 217, 218, 219, 220, 221, 222, 223, 224, 225, 226, 227, 228] rfl (by decide +kernel)
set_option maxRecDepth 20000 in
theorem gX1_goSpiteful_X1_beginBy : GoodIn wsX1_goSpiteful (wsV RX1 37 RX1 yX1_beginBy wsX1_beginBy) := goodIn_app (goodIn_of _ (by decide +kernel)) ggX1_goSpiteful_X1_beginBy
set_option maxRecDepth 20000 in
theorem ggX1_goSpiteful_X1_goDeeper : GoodIn wsX1_goSpiteful wsX1_goDeeper := goodIn_r _ [33, 14, 2, 1, 10, 34, 11, 9, 35, 36, 37, 38, 39, 40, 41, 42, 43, 44, 3, 45, 46, 47, 48, 19, 49, 50, 51, 52, 53, 21, 54, 23, 55, 56, 57, 7, 58, 12, 13, 59, 60, 61, 62, 63, 64, 65, 66, 67, 68, 24, 69, 70, 71, 72, 73, 29, 74, 75, 76, 77, 78, 79, 80, 81, 82, 83, 84, 85, 86, 87, 88, 89, 90, 91, 92, 93, 94, 95, 96, 97, 98, 99, 100, 101, 102, 103, 104, 105, 106, 107, 108, 109, 110, 111, 112, 113, 114, 115, 116, 117, 118, 119, 120, 121, 122, 123, 124, 125, 126, 127, 128, 129, 130, 131, 132, 133, 134, 135, 136, 137, 138, 139, 140, 141, 142, 143, 144, 145, 146, 147, 148, 149, 150, 151, 152, 153, 154, 155, 156, 157, 158, 159, 160, 161, 162, 163, 164, 165, 166, 167, 168, 169, 170, 171, 172, 173, 174, 175, 176, 177, 178, 179, 180, 181, 182, 183, 184, 185, 16, 17, 18, 20, 22, 25, 26, 27, 28, 186, 187, 188, 189, 190, 191, 192, 193, 194, 195, 196, 197, 198, 199, 200, 201, 202, 203, 204, 205, 206, 30, 31, 32, 207, 208, 209, 210, 211, 212, 213, 214, 215, 216, 217, 218, 224, 225, 226, 227, 228, 229, 230, 231, 232, 233, 234, 235, 236, 237, 219, 220, 221, 222, 223, 238, 239, 240, 241, 242, 243, 244] rfl (by decide +kernel)
set_option maxRecDepth 20000 in
theorem gX1_goSpiteful_X1_goDeeper : GoodIn wsX1_goSpiteful (wsV RX1 41 RX1 yX1_goDeeper wsX1_goDeeper) := goodIn_app (goodIn_of _ (by decide +kernel)) ggX1_goSpiteful_X1_goDeeper
theorem dX1_goSpiteful_0 : decode cX1_goSpiteful 0 = .ok (.aload_n 0, 1) := by decide +kernel
theorem dX1_goSpiteful_1 : decode cX1_goSpiteful 1 = .ok (.iconst 1, 1) := by decide +kernel
theorem dX1_goSpiteful_2 : decode cX1_goSpiteful 2 = .ok (.putfield 26, 3) := by decide +kernel
theorem dX1_goSpiteful_5 : decode cX1_goSpiteful 5 = .ok (.aload_n 0, 1) := by decide +kernel
theorem dX1_goSpiteful_6 : decode cX1_goSpiteful 6 = .ok (.iconst 4, 1) := by decide +kernel
theorem dX1_goSpiteful_7 : decode cX1_goSpiteful 7 = .ok (.putfield 30, 3) := by decide +kernel
theorem dX1_goSpiteful_10 : decode cX1_goSpiteful 10 = .ok (.aload_n 0, 1) := by decide +kernel
theorem dX1_goSpiteful_11 : decode cX1_goSpiteful 11 = .ok (.iload 4, 2) := by decide +kernel
theorem dX1_goSpiteful_13 : decode cX1_goSpiteful 13 = .ok (.putfield 34, 3) := by decide +kernel
theorem dX1_goSpiteful_16 : decode cX1_goSpiteful 16 = .ok (.aload_n 0, 1) := by decide +kernel
theorem dX1_goSpiteful_17 : decode cX1_goSpiteful 17 = .ok (.aload_n 1, 1) := by decide +kernel
theorem dX1_goSpiteful_18 : decode cX1_goSpiteful 18 = .ok (.iload_n 2, 1) := by decide +kernel
theorem dX1_goSpiteful_19 : decode cX1_goSpiteful 19 = .ok (.aload_n 3, 1) := by decide +kernel
theorem dX1_goSpiteful_20 : decode cX1_goSpiteful 20 = .ok (.invokevirtual 37, 3) := by decide +kernel
theorem dX1_goSpiteful_23 : decode cX1_goSpiteful 23 = .ok (.aload_n 0, 1) := by decide +kernel
theorem dX1_goSpiteful_24 : decode cX1_goSpiteful 24 = .ok (.iconst 0, 1) := by decide +kernel
theorem dX1_goSpiteful_25 : decode cX1_goSpiteful 25 = .ok (.iconst 0, 1) := by decide +kernel
theorem dX1_goSpiteful_26 : decode cX1_goSpiteful 26 = .ok (.invokevirtual 41, 3) := by decide +kernel
theorem dX1_goSpiteful_29 : decode cX1_goSpiteful 29 = .ok (.return_, 1) := by decide +kernel
theorem dX1_bestTurnOn_0 : decode cX1_bestTurnOn 0 = .ok (.iload_n 1, 1) := by decide +kernel
theorem dX1_bestTurnOn_1 : decode cX1_bestTurnOn 1 = .ok (.ifCond .lt 21, 3) := by decide +kernel
theorem dX1_bestTurnOn_4 : decode cX1_bestTurnOn 4 = .ok (.iload_n 1, 1) := by decide +kernel
theorem dX1_bestTurnOn_5 : decode cX1_bestTurnOn 5 = .ok (.aload_n 0, 1) := by decide +kernel
theorem dX1_bestTurnOn_6 : decode cX1_bestTurnOn 6 = .ok (.getfield 15, 3) := by decide +kernel
theorem dX1_bestTurnOn_9 : decode cX1_bestTurnOn 9 = .ok (.arraylength, 1) := by decide +kernel
theorem dX1_bestTurnOn_10 : decode cX1_bestTurnOn 10 = .ok (.if_icmp .ge 12, 3) := by decide +kernel
theorem dX1_bestTurnOn_13 : decode cX1_bestTurnOn 13 = .ok (.aload_n 0, 1) := by decide +kernel
theorem dX1_bestTurnOn_14 : decode cX1_bestTurnOn 14 = .ok (.getfield 15, 3) := by decide +kernel
theorem dX1_bestTurnOn_17 : decode cX1_bestTurnOn 17 = .ok (.iload_n 1, 1) := by decide +kernel
theorem dX1_bestTurnOn_18 : decode cX1_bestTurnOn 18 = .ok (.iaload, 1) := by decide +kernel
theorem dX1_bestTurnOn_19 : decode cX1_bestTurnOn 19 = .ok (.goto 5, 3) := by decide +kernel
theorem dX1_bestTurnOn_22 : decode cX1_bestTurnOn 22 = .ok (.bipush (-100), 2) := by decide +kernel
theorem dX1_bestTurnOn_24 : decode cX1_bestTurnOn 24 = .ok (.ireturn, 1) := by decide +kernel
set_option maxRecDepth 20000 in
theorem ggX1_beginBy_X9_become : GoodIn wsX1_beginBy wsX9_become := goodIn_r _ [12, 13, 14, 15, 16, 17, 18, 19, 20, 21, 39, 40, 41, 42, 43] rfl (by decide +kernel)
set_option maxRecDepth 20000 in
theorem gX1_beginBy_X9_become : GoodIn wsX1_beginBy (wsV RX1 68 RX9 yX9_become wsX9_become) := goodIn_app (goodIn_of _ (by decide +kernel)) ggX1_beginBy_X9_become
theorem dX1_beginBy_0 : decode cX1_beginBy 0 = .ok (.aload_n 0, 1) := by decide +kernel
theorem dX1_beginBy_1 : decode cX1_beginBy 1 = .ok (.aload_n 1, 1) := by decide +kernel
theorem dX1_beginBy_2 : decode cX1_beginBy 2 = .ok (.putfield 45, 3) := by decide +kernel
theorem dX1_beginBy_5 : decode cX1_beginBy 5 = .ok (.aload_n 0, 1) := by decide +kernel
theorem dX1_beginBy_6 : decode cX1_beginBy 6 = .ok (.iload_n 2, 1) := by decide +kernel
theorem dX1_beginBy_7 : decode cX1_beginBy 7 = .ok (.putfield 49, 3) := by decide +kernel
theorem dX1_beginBy_10 : decode cX1_beginBy 10 = .ok (.aload_n 0, 1) := by decide +kernel
theorem dX1_beginBy_11 : decode cX1_beginBy 11 = .ok (.aload_n 3, 1) := by decide +kernel
theorem dX1_beginBy_12 : decode cX1_beginBy 12 = .ok (.putfield 52, 3) := by decide +kernel
theorem dX1_beginBy_15 : decode cX1_beginBy 15 = .ok (.aload_n 0, 1) := by decide +kernel
theorem dX1_beginBy_16 : decode cX1_beginBy 16 = .ok (.iconst 0, 1) := by decide +kernel
theorem dX1_beginBy_17 : decode cX1_beginBy 17 = .ok (.putfield 56, 3) := by decide +kernel
theorem dX1_beginBy_20 : decode cX1_beginBy 20 = .ok (.aload_n 0, 1) := by decide +kernel
theorem dX1_beginBy_21 : decode cX1_beginBy 21 = .ok (.iconst 0, 1) := by decide +kernel
theorem dX1_beginBy_22 : decode cX1_beginBy 22 = .ok (.putfield 59, 3) := by decide +kernel
theorem dX1_beginBy_25 : decode cX1_beginBy 25 = .ok (.aload_n 0, 1) := by decide +kernel
theorem dX1_beginBy_26 : decode cX1_beginBy 26 = .ok (.getfield 22, 3) := by decide +kernel
theorem dX1_beginBy_29 : decode cX1_beginBy 29 = .ok (.iconst 0, 1) := by decide +kernel
theorem dX1_beginBy_30 : decode cX1_beginBy 30 = .ok (.aaload, 1) := by decide +kernel
theorem dX1_beginBy_31 : decode cX1_beginBy 31 = .ok (.aload_n 1, 1) := by decide +kernel
theorem dX1_beginBy_32 : decode cX1_beginBy 32 = .ok (.getfield 62, 3) := by decide +kernel
theorem dX1_beginBy_35 : decode cX1_beginBy 35 = .ok (.invokevirtual 68, 3) := by decide +kernel
theorem dX1_beginBy_38 : decode cX1_beginBy 38 = .ok (.return_, 1) := by decide +kernel
set_option maxRecDepth 20000 in
theorem ggX1_goDeeper_X9_isMet : GoodIn wsX1_goDeeper wsX9_isMet := goodIn_r _ [24, 25, 26, 27, 23, 28, 29, 30, 31, 213, 214, 215, 216, 217, 218, 219, 220, 221, 222, 223, 224, 225, 226] rfl (by decide +kernel)
set_option maxRecDepth 20000 in
theorem gX1_goDeeper_X9_isMet : GoodIn wsX1_goDeeper (wsV RX1 74 RX9 yX9_isMet wsX9_isMet) := goodIn_app (goodIn_of _ (by decide +kernel)) ggX1_goDeeper_X9_isMet
set_option maxRecDepth 20000 in
theorem ggX1_goDeeper_X1_weigh : GoodIn wsX1_goDeeper wsX1_weigh := goodIn_r _ [36, 3, 4, 37, 38, 18, 39, 40, 41, 23, 42, 31, 43, 16, 13, 17, 44, 45, 46, 47, 29, 48, 49, 50, 51, 52, 53, 54, 55, 56, 57, 58, 35, 59, 60, 19, 61, 62, 63, 64, 65, 66, 21, 22, 24, 25, 26, 27, 28, 30, 67, 68, 69, 70, 71, 72, 73, 74, 75, 76, 77, 78, 79, 80, 81, 82, 201, 202, 203, 204, 205, 206, 207, 208, 209, 210, 211, 212, 213, 214, 215, 216, 217, 218, 219, 220, 221, 222, 223, 224, 225, 226] rfl (by decide +kernel)
set_option maxRecDepth 20000 in
theorem gX1_goDeeper_X1_weigh : GoodIn wsX1_goDeeper (wsV RX1 78 RX1 yX1_weigh wsX1_weigh) := goodIn_app (goodIn_of _ (by decide +kernel)) ggX1_goDeeper_X1_weigh
set_option maxRecDepth 20000 in
theorem ggX1_goDeeper_X9_gap : GoodIn wsX1_goDeeper wsX9_gap := goodIn_r _ [28, 29, 30, 31, 213, 214, 215, 216, 217, 218, 219, 220, 221, 222, 223, 224, 225, 226] rfl (by decide +kernel)
set_option maxRecDepth 20000 in
theorem gX1_goDeeper_X9_gap : GoodIn wsX1_goDeeper (wsV RX1 82 RX9 yX9_gap wsX9_gap) := goodIn_app (goodIn_of _ (by decide +kernel)) ggX1_goDeeper_X9_gap
set_option maxRecDepth 20000 in
theorem ggX1_goDeeper_X8_errorOn : GoodIn wsX1_goDeeper wsX8_errorOn := goodIn_r _ [88, 89, 90, 91, 92, 93, 227, 228, 229, 230, 231] rfl (by decide +kernel)
set_option maxRecDepth 20000 in
theorem gX1_goDeeper_X8_errorOn : GoodIn wsX1_goDeeper (wsV RX1 89 RX8 yX8_errorOn wsX8_errorOn) := goodIn_app (goodIn_of _ (by decide +kernel)) ggX1_goDeeper_X8_errorOn
set_option maxRecDepth 20000 in
theorem ggX1_goDeeper_X3_planOf : GoodIn wsX1_goDeeper wsX3_planOf := goodIn_r _ [98, 99, 100, 101, 102, 23, 103, 104, 105, 106, 97, 107, 108, 109, 110, 72, 73, 74, 31, 29, 48, 49, 111, 80, 81, 82, 54, 55, 112, 113, 114, 115, 116, 71, 25, 26, 27, 28, 30, 117, 118, 119, 120, 79, 121, 122, 123, 124, 125, 126, 127, 128, 129, 44, 45, 46, 47, 130, 131, 132, 133, 134, 135, 136, 137, 138, 139, 140, 141, 142, 143, 144, 13, 145, 146, 147, 148, 149, 150, 151, 152, 153, 154, 155, 156, 157, 158, 159, 160, 161, 162, 163, 213, 214, 215, 216, 217, 218, 219, 220, 221, 222, 223, 224, 225, 226, 232, 233, 234, 235, 236, 237, 238] rfl (by decide +kernel)
set_option maxRecDepth 20000 in
theorem gX1_goDeeper_X3_planOf : GoodIn wsX1_goDeeper (wsV RX1 93 RX3 yX3_planOf wsX3_planOf) := goodIn_app (goodIn_of _ (by decide +kernel)) ggX1_goDeeper_X3_planOf
set_option maxRecDepth 20000 in
theorem ggX1_goDeeper_X1_goDay : GoodIn wsX1_goDeeper wsX1_goDay := goodIn_r _ [167, 4, 168, 169, 170, 23, 171, 29, 172, 31, 49, 173, 174, 175, 176, 55, 177, 178, 179, 180, 25, 26, 27, 28, 30, 71, 72, 73, 74, 48, 79, 80, 81, 82, 54, 181, 182, 183, 184, 185, 186, 187, 188, 189, 144, 13, 145, 190, 191, 192, 193, 194, 195, 196, 197, 201, 202, 203, 204, 205, 206, 207, 208, 209, 210, 211, 212, 213, 214, 215, 216, 217, 218, 219, 220, 221, 222, 223, 224, 225, 226] rfl (by decide +kernel)
set_option maxRecDepth 20000 in
theorem gX1_goDeeper_X1_goDay : GoodIn wsX1_goDeeper (wsV RX1 117 RX1 yX1_goDay wsX1_goDay) := goodIn_app (goodIn_of _ (by decide +kernel)) ggX1_goDeeper_X1_goDay
set_option maxRecDepth 20000 in
theorem ggX1_goDeeper_X1_goDeeper : GoodIn wsX1_goDeeper wsX1_goDeeper := goodIn_r _ [0, 1, 2, 3, 4, 5, 6, 7, 8, 9, 10, 11, 12, 13, 14, 15, 16, 17, 18, 19, 20, 21, 22, 23, 24, 25, 26, 27, 28, 29, 30, 31, 32, 33, 34, 35, 36, 37, 38, 39, 40, 41, 42, 43, 44, 45, 46, 47, 48, 49, 50, 51, 52, 53, 54, 55, 56, 57, 58, 59, 60, 61, 62, 63, 64, 65, 66, 67, 68, 69, 70, 71, 72, 73, 74, 75, 76, 77, 78, 79, 80, 81, 82, 83, 84, 85, 86, 87, 88, 89, 90, 91, 92, 93, 94, 95, 96, 97, 98, 99, 100, 101, 102, 103, 104, 105, 106, 107, 108, 109, 110, 111, 112, 113, 114, 115, 116, 117, 118, 119, 120, 121, 122, 123, 124, 125, 126, 127, 128, 129, 130, 131, 132, 133, 134, 135, 136, 137, 138, 139, 140, 141, 142, 143, 144, 145, 146, 147, 148, 149, 150, 151, 152, 153, 154, 155, 156, 157, 158, 159, 160, 161, 162, 163, 164, 165, 166, 167, 168, 169, 170, 171, 172, 173, 174, 175, 176, 177, 178, 179, 180, 181, 182, 183, 184, 185, 186, 187, 188, 189, 190, 191, 192, 193, 194, 195, 196, 197, 198, 199, 200, 201, 202, 203, 204, 205, 206, 207, 208, 209, 210, 211, 212, 213, 214, 215, 216, 217, 218, 219, 220, 221, 222, 223, 224, 225, 226, 227, 228, 229, 230, 231, 232, 233, 234, 235, 236, 237, 238] rfl (by decide +kernel)
set_option maxRecDepth 20000 in
theorem gX1_goDeeper_X1_goDeeper : GoodIn wsX1_goDeeper (wsV RX1 41 RX1 yX1_goDeeper wsX1_goDeeper) := goodIn_app (goodIn_of _ (by decide +kernel)) ggX1_goDeeper_X1_goDeeper
theorem dX1_goDeeper_0 : decode cX1_goDeeper 0 = .ok (.aload_n 0, 1) := by decide +kernel
theorem dX1_goDeeper_1 : decode cX1_goDeeper 1 = .ok (.getfield 22, 3) := by decide +kernel
theorem dX1_goDeeper_4 : decode cX1_goDeeper 4 = .ok (.iload_n 1, 1) := by decide +kernel
theorem dX1_goDeeper_5 : decode cX1_goDeeper 5 = .ok (.aaload, 1) := by decide +kernel
theorem dX1_goDeeper_6 : decode cX1_goDeeper 6 = .ok (.astore_n 3, 1) := by decide +kernel
theorem dX1_goDeeper_7 : decode cX1_goDeeper 7 = .ok (.aload_n 3, 1) := by decide +kernel
theorem dX1_goDeeper_8 : decode cX1_goDeeper 8 = .ok (.invokevirtual 74, 3) := by decide +kernel
theorem dX1_goDeeper_11 : decode cX1_goDeeper 11 = .ok (.ifCond .ne 11, 3) := by decide +kernel
theorem dX1_goDeeper_14 : decode cX1_goDeeper 14 = .ok (.iload_n 1, 1) := by decide +kernel
theorem dX1_goDeeper_15 : decode cX1_goDeeper 15 = .ok (.aload_n 0, 1) := by decide +kernel
theorem dX1_goDeeper_16 : decode cX1_goDeeper 16 = .ok (.getfield 30, 3) := by decide +kernel
theorem dX1_goDeeper_19 : decode cX1_goDeeper 19 = .ok (.if_icmp .lt 11, 3) := by decide +kernel
theorem dX1_goDeeper_22 : decode cX1_goDeeper 22 = .ok (.aload_n 0, 1) := by decide +kernel
theorem dX1_goDeeper_23 : decode cX1_goDeeper 23 = .ok (.aload_n 3, 1) := by decide +kernel
theorem dX1_goDeeper_24 : decode cX1_goDeeper 24 = .ok (.iload_n 1, 1) := by decide +kernel
theorem dX1_goDeeper_25 : decode cX1_goDeeper 25 = .ok (.iload_n 2, 1) := by decide +kernel
theorem dX1_goDeeper_26 : decode cX1_goDeeper 26 = .ok (.invokevirtual 78, 3) := by decide +kernel
theorem dX1_goDeeper_29 : decode cX1_goDeeper 29 = .ok (.return_, 1) := by decide +kernel
theorem dX1_goDeeper_30 : decode cX1_goDeeper 30 = .ok (.aload_n 0, 1) := by decide +kernel
theorem dX1_goDeeper_31 : decode cX1_goDeeper 31 = .ok (.getfield 26, 3) := by decide +kernel
theorem dX1_goDeeper_34 : decode cX1_goDeeper 34 = .ok (.ifCond .ne 19, 3) := by decide +kernel
theorem dX1_goDeeper_37 : decode cX1_goDeeper 37 = .ok (.aload_n 3, 1) := by decide +kernel
theorem dX1_goDeeper_38 : decode cX1_goDeeper 38 = .ok (.invokevirtual 82, 3) := by decide +kernel
theorem dX1_goDeeper_41 : decode cX1_goDeeper 41 = .ok (.iconst 2, 1) := by decide +kernel
theorem dX1_goDeeper_42 : decode cX1_goDeeper 42 = .ok (.aload_n 0, 1) := by decide +kernel
theorem dX1_goDeeper_43 : decode cX1_goDeeper 43 = .ok (.getfield 30, 3) := by decide +kernel
theorem dX1_goDeeper_46 : decode cX1_goDeeper 46 = .ok (.iload_n 1, 1) := by decide +kernel
theorem dX1_goDeeper_47 : decode cX1_goDeeper 47 = .ok (.isub, 1) := by decide +kernel
theorem dX1_goDeeper_48 : decode cX1_goDeeper 48 = .ok (.imul, 1) := by decide +kernel
theorem dX1_goDeeper_49 : decode cX1_goDeeper 49 = .ok (.if_icmp .le 4, 3) := by decide +kernel
theorem dX1_goDeeper_52 : decode cX1_goDeeper 52 = .ok (.return_, 1) := by decide +kernel
theorem dX1_goDeeper_53 : decode cX1_goDeeper 53 = .ok (.iconst 1, 1) := by decide +kernel
theorem dX1_goDeeper_54 : decode cX1_goDeeper 54 = .ok (.aload_n 0, 1) := by decide +kernel
theorem dX1_goDeeper_55 : decode cX1_goDeeper 55 = .ok (.getfield 49, 3) := by decide +kernel
theorem dX1_goDeeper_58 : decode cX1_goDeeper 58 = .ok (.isub, 1) := by decide +kernel
theorem dX1_goDeeper_59 : decode cX1_goDeeper 59 = .ok (.istore 4, 2) := by decide +kernel
theorem dX1_goDeeper_61 : decode cX1_goDeeper 61 = .ok (.aload_n 0, 1) := by decide +kernel
theorem dX1_goDeeper_62 : decode cX1_goDeeper 62 = .ok (.getfield 18, 3) := by decide +kernel
theorem dX1_goDeeper_65 : decode cX1_goDeeper 65 = .ok (.aload_n 3, 1) := by decide +kernel
theorem dX1_goDeeper_66 : decode cX1_goDeeper 66 = .ok (.aload_n 0, 1) := by decide +kernel
theorem dX1_goDeeper_67 : decode cX1_goDeeper 67 = .ok (.getfield 52, 3) := by decide +kernel
theorem dX1_goDeeper_70 : decode cX1_goDeeper 70 = .ok (.iload 4, 2) := by decide +kernel
theorem dX1_goDeeper_72 : decode cX1_goDeeper 72 = .ok (.aload_n 0, 1) := by decide +kernel
theorem dX1_goDeeper_73 : decode cX1_goDeeper 73 = .ok (.getfield 45, 3) := by decide +kernel
theorem dX1_goDeeper_76 : decode cX1_goDeeper 76 = .ok (.iload 4, 2) := by decide +kernel
theorem dX1_goDeeper_78 : decode cX1_goDeeper 78 = .ok (.aload_n 3, 1) := by decide +kernel
theorem dX1_goDeeper_79 : decode cX1_goDeeper 79 = .ok (.getfield 86, 3) := by decide +kernel
theorem dX1_goDeeper_82 : decode cX1_goDeeper 82 = .ok (.invokevirtual 89, 3) := by decide +kernel
theorem dX1_goDeeper_85 : decode cX1_goDeeper 85 = .ok (.invokevirtual 93, 3) := by decide +kernel
theorem dX1_goDeeper_88 : decode cX1_goDeeper 88 = .ok (.istore 5, 2) := by decide +kernel
theorem dX1_goDeeper_90 : decode cX1_goDeeper 90 = .ok (.iconst 2, 1) := by decide +kernel
theorem dX1_goDeeper_91 : decode cX1_goDeeper 91 = .ok (.aload_n 3, 1) := by decide +kernel
theorem dX1_goDeeper_92 : decode cX1_goDeeper 92 = .ok (.getfield 99, 3) := by decide +kernel
theorem dX1_goDeeper_95 : decode cX1_goDeeper 95 = .ok (.getfield 103, 3) := by decide +kernel
theorem dX1_goDeeper_98 : decode cX1_goDeeper 98 = .ok (.invokestatic 108, 3) := by decide +kernel
theorem dX1_goDeeper_101 : decode cX1_goDeeper 101 = .ok (.istore 6, 2) := by decide +kernel
theorem dX1_goDeeper_103 : decode cX1_goDeeper 103 = .ok (.iconst 1, 1) := by decide +kernel
theorem dX1_goDeeper_104 : decode cX1_goDeeper 104 = .ok (.istore 7, 2) := by decide +kernel
theorem dX1_goDeeper_106 : decode cX1_goDeeper 106 = .ok (.iload 6, 2) := by decide +kernel
theorem dX1_goDeeper_108 : decode cX1_goDeeper 108 = .ok (.ineg, 1) := by decide +kernel
theorem dX1_goDeeper_109 : decode cX1_goDeeper 109 = .ok (.istore 8, 2) := by decide +kernel
theorem dX1_goDeeper_111 : decode cX1_goDeeper 111 = .ok (.iload 8, 2) := by decide +kernel
theorem dX1_goDeeper_113 : decode cX1_goDeeper 113 = .ok (.iload 6, 2) := by decide +kernel
theorem dX1_goDeeper_115 : decode cX1_goDeeper 115 = .ok (.if_icmp .gt 88, 3) := by decide +kernel
theorem dX1_goDeeper_118 : decode cX1_goDeeper 118 = .ok (.iload 7, 2) := by decide +kernel
theorem dX1_goDeeper_120 : decode cX1_goDeeper 120 = .ok (.ifCond .eq 83, 3) := by decide +kernel
theorem dX1_goDeeper_123 : decode cX1_goDeeper 123 = .ok (.iload_n 2, 1) := by decide +kernel
theorem dX1_goDeeper_124 : decode cX1_goDeeper 124 = .ok (.iload 8, 2) := by decide +kernel
theorem dX1_goDeeper_126 : decode cX1_goDeeper 126 = .ok (.invokestatic 113, 3) := by decide +kernel
theorem dX1_goDeeper_129 : decode cX1_goDeeper 129 = .ok (.iadd, 1) := by decide +kernel
theorem dX1_goDeeper_130 : decode cX1_goDeeper 130 = .ok (.aload_n 0, 1) := by decide +kernel
theorem dX1_goDeeper_131 : decode cX1_goDeeper 131 = .ok (.getfield 34, 3) := by decide +kernel
theorem dX1_goDeeper_134 : decode cX1_goDeeper 134 = .ok (.if_icmp .gt 63, 3) := by decide +kernel
theorem dX1_goDeeper_137 : decode cX1_goDeeper 137 = .ok (.aload_n 0, 1) := by decide +kernel
theorem dX1_goDeeper_138 : decode cX1_goDeeper 138 = .ok (.aload_n 3, 1) := by decide +kernel
theorem dX1_goDeeper_139 : decode cX1_goDeeper 139 = .ok (.aload_n 0, 1) := by decide +kernel
theorem dX1_goDeeper_140 : decode cX1_goDeeper 140 = .ok (.getfield 22, 3) := by decide +kernel
theorem dX1_goDeeper_143 : decode cX1_goDeeper 143 = .ok (.iload_n 1, 1) := by decide +kernel
theorem dX1_goDeeper_144 : decode cX1_goDeeper 144 = .ok (.iconst 1, 1) := by decide +kernel
theorem dX1_goDeeper_145 : decode cX1_goDeeper 145 = .ok (.iadd, 1) := by decide +kernel
theorem dX1_goDeeper_146 : decode cX1_goDeeper 146 = .ok (.aaload, 1) := by decide +kernel
theorem dX1_goDeeper_147 : decode cX1_goDeeper 147 = .ok (.iload 8, 2) := by decide +kernel
theorem dX1_goDeeper_149 : decode cX1_goDeeper 149 = .ok (.iload 5, 2) := by decide +kernel
theorem dX1_goDeeper_151 : decode cX1_goDeeper 151 = .ok (.invokevirtual 117, 3) := by decide +kernel
theorem dX1_goDeeper_154 : decode cX1_goDeeper 154 = .ok (.istore 7, 2) := by decide +kernel
theorem dX1_goDeeper_156 : decode cX1_goDeeper 156 = .ok (.aload_n 0, 1) := by decide +kernel
theorem dX1_goDeeper_157 : decode cX1_goDeeper 157 = .ok (.getfield 11, 3) := by decide +kernel
theorem dX1_goDeeper_160 : decode cX1_goDeeper 160 = .ok (.iload_n 1, 1) := by decide +kernel
theorem dX1_goDeeper_161 : decode cX1_goDeeper 161 = .ok (.iload 7, 2) := by decide +kernel
theorem dX1_goDeeper_163 : decode cX1_goDeeper 163 = .ok (.ifCond .eq 8, 3) := by decide +kernel
theorem dX1_goDeeper_166 : decode cX1_goDeeper 166 = .ok (.iload 8, 2) := by decide +kernel
theorem dX1_goDeeper_168 : decode cX1_goDeeper 168 = .ok (.goto 5, 3) := by decide +kernel
theorem dX1_goDeeper_171 : decode cX1_goDeeper 171 = .ok (.bipush (-100), 2) := by decide +kernel
theorem dX1_goDeeper_173 : decode cX1_goDeeper 173 = .ok (.iastore, 1) := by decide +kernel
theorem dX1_goDeeper_174 : decode cX1_goDeeper 174 = .ok (.aload_n 0, 1) := by decide +kernel
theorem dX1_goDeeper_175 : decode cX1_goDeeper 175 = .ok (.iload_n 1, 1) := by decide +kernel
theorem dX1_goDeeper_176 : decode cX1_goDeeper 176 = .ok (.iconst 1, 1) := by decide +kernel
theorem dX1_goDeeper_177 : decode cX1_goDeeper 177 = .ok (.iadd, 1) := by decide +kernel
theorem dX1_goDeeper_178 : decode cX1_goDeeper 178 = .ok (.iload 7, 2) := by decide +kernel
theorem dX1_goDeeper_180 : decode cX1_goDeeper 180 = .ok (.ifCond .eq 13, 3) := by decide +kernel
theorem dX1_goDeeper_183 : decode cX1_goDeeper 183 = .ok (.iload_n 2, 1) := by decide +kernel
theorem dX1_goDeeper_184 : decode cX1_goDeeper 184 = .ok (.iload 8, 2) := by decide +kernel
theorem dX1_goDeeper_186 : decode cX1_goDeeper 186 = .ok (.invokestatic 113, 3) := by decide +kernel
theorem dX1_goDeeper_189 : decode cX1_goDeeper 189 = .ok (.iadd, 1) := by decide +kernel
theorem dX1_goDeeper_190 : decode cX1_goDeeper 190 = .ok (.goto 4, 3) := by decide +kernel
theorem dX1_goDeeper_193 : decode cX1_goDeeper 193 = .ok (.iload_n 2, 1) := by decide +kernel
theorem dX1_goDeeper_194 : decode cX1_goDeeper 194 = .ok (.invokevirtual 41, 3) := by decide +kernel
theorem dX1_goDeeper_197 : decode cX1_goDeeper 197 = .ok (.iinc 8 1, 3) := by decide +kernel
theorem dX1_goDeeper_200 : decode cX1_goDeeper 200 = .ok (.goto (-89), 3) := by decide +kernel
theorem dX1_goDeeper_203 : decode cX1_goDeeper 203 = .ok (.return_, 1) := by decide +kernel
set_option maxRecDepth 20000 in
theorem ggX1_goDay_X9_become : GoodIn wsX1_goDay wsX9_become := goodIn_r _ [6, 7, 8, 9, 10, 11, 12, 13, 14, 15, 67, 68, 69, 70, 71] rfl (by decide +kernel)
set_option maxRecDepth 20000 in
theorem gX1_goDay_X9_become : GoodIn wsX1_goDay (wsV RX1 68 RX9 yX9_become wsX9_become) := goodIn_app (goodIn_of _ (by decide +kernel)) ggX1_goDay_X9_become
set_option maxRecDepth 20000 in
theorem ggX1_goDay_X9_add : GoodIn wsX1_goDay wsX9_add := goodIn_r _ [19, 9, 10, 15, 20, 21, 22, 5, 23, 7, 24, 25, 26, 27, 28, 29, 30, 31, 32, 33, 34, 67, 68, 69, 70, 71, 72, 73, 74, 75, 76, 77, 78, 79, 80] rfl (by decide +kernel)
set_option maxRecDepth 20000 in
theorem gX1_goDay_X9_add : GoodIn wsX1_goDay (wsV RX1 121 RX9 yX9_add wsX9_add) := goodIn_app (goodIn_of _ (by decide +kernel)) ggX1_goDay_X9_add
set_option maxRecDepth 20000 in
theorem ggX1_goDay_X9_act : GoodIn wsX1_goDay wsX9_act := goodIn_r _ [38, 39, 40, 41, 5, 42, 9, 43, 44, 45, 46, 47, 17, 18, 19, 10, 15, 20, 21, 22, 23, 7, 24, 25, 26, 27, 28, 29, 30, 31, 32, 33, 34, 67, 68, 69, 70, 71, 72, 73, 74, 75, 76, 77, 78, 79, 80] rfl (by decide +kernel)
set_option maxRecDepth 20000 in
theorem gX1_goDay_X9_act : GoodIn wsX1_goDay (wsV RX1 125 RX9 yX9_act wsX9_act) := goodIn_app (goodIn_of _ (by decide +kernel)) ggX1_goDay_X9_act
set_option maxRecDepth 20000 in
theorem ggX1_goDay_X9_endDay : GoodIn wsX1_goDay wsX9_endDay := goodIn_r _ [51, 7, 52, 53, 8, 54, 39, 40, 41, 5, 42, 9, 43, 44, 45, 46, 67, 68, 69, 70, 71, 72, 73, 74, 75, 76, 77, 78, 79, 80] rfl (by decide +kernel)
set_option maxRecDepth 20000 in
theorem gX1_goDay_X9_endDay : GoodIn wsX1_goDay (wsV RX1 128 RX9 yX9_endDay wsX9_endDay) := goodIn_app (goodIn_of _ (by decide +kernel)) ggX1_goDay_X9_endDay
theorem dX1_goDay_0 : decode cX1_goDay 0 = .ok (.aload_n 2, 1) := by decide +kernel
theorem dX1_goDay_1 : decode cX1_goDay 1 = .ok (.aload_n 1, 1) := by decide +kernel
theorem dX1_goDay_2 : decode cX1_goDay 2 = .ok (.invokevirtual 68, 3) := by decide +kernel
theorem dX1_goDay_5 : decode cX1_goDay 5 = .ok (.aload_n 0, 1) := by decide +kernel
theorem dX1_goDay_6 : decode cX1_goDay 6 = .ok (.getfield 49, 3) := by decide +kernel
theorem dX1_goDay_9 : decode cX1_goDay 9 = .ok (.ifCond .ne 22, 3) := by decide +kernel
theorem dX1_goDay_12 : decode cX1_goDay 12 = .ok (.aload_n 2, 1) := by decide +kernel
theorem dX1_goDay_13 : decode cX1_goDay 13 = .ok (.iconst 0, 1) := by decide +kernel
theorem dX1_goDay_14 : decode cX1_goDay 14 = .ok (.iload_n 3, 1) := by decide +kernel
theorem dX1_goDay_15 : decode cX1_goDay 15 = .ok (.iconst 0, 1) := by decide +kernel
theorem dX1_goDay_16 : decode cX1_goDay 16 = .ok (.invokevirtual 121, 3) := by decide +kernel
theorem dX1_goDay_19 : decode cX1_goDay 19 = .ok (.istore 5, 2) := by decide +kernel
theorem dX1_goDay_21 : decode cX1_goDay 21 = .ok (.aload_n 2, 1) := by decide +kernel
theorem dX1_goDay_22 : decode cX1_goDay 22 = .ok (.iconst 1, 1) := by decide +kernel
theorem dX1_goDay_23 : decode cX1_goDay 23 = .ok (.iload 4, 2) := by decide +kernel
theorem dX1_goDay_25 : decode cX1_goDay 25 = .ok (.invokevirtual 125, 3) := by decide +kernel
theorem dX1_goDay_28 : decode cX1_goDay 28 = .ok (.goto 19, 3) := by decide +kernel
theorem dX1_goDay_31 : decode cX1_goDay 31 = .ok (.aload_n 2, 1) := by decide +kernel
theorem dX1_goDay_32 : decode cX1_goDay 32 = .ok (.iconst 0, 1) := by decide +kernel
theorem dX1_goDay_33 : decode cX1_goDay 33 = .ok (.iload 4, 2) := by decide +kernel
theorem dX1_goDay_35 : decode cX1_goDay 35 = .ok (.invokevirtual 125, 3) := by decide +kernel
theorem dX1_goDay_38 : decode cX1_goDay 38 = .ok (.aload_n 2, 1) := by decide +kernel
theorem dX1_goDay_39 : decode cX1_goDay 39 = .ok (.iconst 1, 1) := by decide +kernel
theorem dX1_goDay_40 : decode cX1_goDay 40 = .ok (.iload_n 3, 1) := by decide +kernel
theorem dX1_goDay_41 : decode cX1_goDay 41 = .ok (.iconst 0, 1) := by decide +kernel
theorem dX1_goDay_42 : decode cX1_goDay 42 = .ok (.invokevirtual 121, 3) := by decide +kernel
theorem dX1_goDay_45 : decode cX1_goDay 45 = .ok (.istore 5, 2) := by decide +kernel
theorem dX1_goDay_47 : decode cX1_goDay 47 = .ok (.aload_n 2, 1) := by decide +kernel
theorem dX1_goDay_48 : decode cX1_goDay 48 = .ok (.invokevirtual 128, 3) := by decide +kernel
theorem dX1_goDay_51 : decode cX1_goDay 51 = .ok (.iload 5, 2) := by decide +kernel
theorem dX1_goDay_53 : decode cX1_goDay 53 = .ok (.ireturn, 1) := by decide +kernel
set_option maxRecDepth 20000 in
theorem ggX1_weigh_X9_crookedness : GoodIn wsX1_weigh wsX9_crookedness := goodIn_r _ [10, 11, 12, 13, 14, 15, 16, 17, 18, 9, 19, 20, 21, 22, 23, 24, 25, 26, 27, 28, 78, 79, 80, 81, 82, 83, 84, 85, 86, 87, 88, 89, 90, 91] rfl (by decide +kernel)
set_option maxRecDepth 20000 in
theorem gX1_weigh_X9_crookedness : GoodIn wsX1_weigh (wsV RX1 131 RX9 yX9_crookedness wsX9_crookedness) := goodIn_app (goodIn_of _ (by decide +kernel)) ggX1_weigh_X9_crookedness
set_option maxRecDepth 20000 in
theorem ggX1_weigh_X1_keep : GoodIn wsX1_weigh wsX1_keep := goodIn_r _ [33, 3, 4, 34, 35, 66, 67, 68, 69, 70, 71, 72, 73, 74, 75, 76, 77] rfl (by decide +kernel)
set_option maxRecDepth 20000 in
theorem gX1_weigh_X1_keep : GoodIn wsX1_weigh (wsV RX1 134 RX1 yX1_keep wsX1_keep) := goodIn_app (goodIn_of _ (by decide +kernel)) ggX1_weigh_X1_keep
set_option maxRecDepth 20000 in
theorem ggX1_weigh_X9_isInTime : GoodIn wsX1_weigh wsX9_isInTime := goodIn_r _ [39, 20, 40, 41, 42, 43, 9, 44, 45, 46, 47, 48, 49, 11, 50, 51, 52, 53, 12, 13, 14, 15, 54, 55, 56, 57, 21, 22, 58, 59, 60, 61, 62, 63, 64, 65, 27, 28, 78, 79, 80, 81, 82, 83, 84, 85, 86, 87, 88, 89, 90, 91] rfl (by decide +kernel)
set_option maxRecDepth 20000 in
theorem gX1_weigh_X9_isInTime : GoodIn wsX1_weigh (wsV RX1 137 RX9 yX9_isInTime wsX9_isInTime) := goodIn_app (goodIn_of _ (by decide +kernel)) ggX1_weigh_X9_isInTime
theorem dX1_weigh_0 : decode cX1_weigh 0 = .ok (.aload_n 0, 1) := by decide +kernel
theorem dX1_weigh_1 : decode cX1_weigh 1 = .ok (.getfield 26, 3) := by decide +kernel
theorem dX1_weigh_4 : decode cX1_weigh 4 = .ok (.ifCond .eq 41, 3) := by decide +kernel
theorem dX1_weigh_7 : decode cX1_weigh 7 = .ok (.aload_n 1, 1) := by decide +kernel
theorem dX1_weigh_8 : decode cX1_weigh 8 = .ok (.iconst 1, 1) := by decide +kernel
theorem dX1_weigh_9 : decode cX1_weigh 9 = .ok (.aload_n 0, 1) := by decide +kernel
theorem dX1_weigh_10 : decode cX1_weigh 10 = .ok (.getfield 49, 3) := by decide +kernel
theorem dX1_weigh_13 : decode cX1_weigh 13 = .ok (.isub, 1) := by decide +kernel
theorem dX1_weigh_14 : decode cX1_weigh 14 = .ok (.invokevirtual 131, 3) := by decide +kernel
theorem dX1_weigh_17 : decode cX1_weigh 17 = .ok (.istore 4, 2) := by decide +kernel
theorem dX1_weigh_19 : decode cX1_weigh 19 = .ok (.aload_n 0, 1) := by decide +kernel
theorem dX1_weigh_20 : decode cX1_weigh 20 = .ok (.getfield 56, 3) := by decide +kernel
theorem dX1_weigh_23 : decode cX1_weigh 23 = .ok (.ifCond .eq 12, 3) := by decide +kernel
theorem dX1_weigh_26 : decode cX1_weigh 26 = .ok (.iload 4, 2) := by decide +kernel
theorem dX1_weigh_28 : decode cX1_weigh 28 = .ok (.aload_n 0, 1) := by decide +kernel
theorem dX1_weigh_29 : decode cX1_weigh 29 = .ok (.getfield 59, 3) := by decide +kernel
theorem dX1_weigh_32 : decode cX1_weigh 32 = .ok (.if_icmp .le 10, 3) := by decide +kernel
theorem dX1_weigh_35 : decode cX1_weigh 35 = .ok (.aload_n 0, 1) := by decide +kernel
theorem dX1_weigh_36 : decode cX1_weigh 36 = .ok (.iload_n 2, 1) := by decide +kernel
theorem dX1_weigh_37 : decode cX1_weigh 37 = .ok (.iload 4, 2) := by decide +kernel
theorem dX1_weigh_39 : decode cX1_weigh 39 = .ok (.invokevirtual 134, 3) := by decide +kernel
theorem dX1_weigh_42 : decode cX1_weigh 42 = .ok (.goto 31, 3) := by decide +kernel
theorem dX1_weigh_45 : decode cX1_weigh 45 = .ok (.aload_n 1, 1) := by decide +kernel
theorem dX1_weigh_46 : decode cX1_weigh 46 = .ok (.invokevirtual 137, 3) := by decide +kernel
theorem dX1_weigh_49 : decode cX1_weigh 49 = .ok (.ifCond .eq 24, 3) := by decide +kernel
theorem dX1_weigh_52 : decode cX1_weigh 52 = .ok (.iload_n 3, 1) := by decide +kernel
theorem dX1_weigh_53 : decode cX1_weigh 53 = .ok (.aload_n 0, 1) := by decide +kernel
theorem dX1_weigh_54 : decode cX1_weigh 54 = .ok (.getfield 34, 3) := by decide +kernel
theorem dX1_weigh_57 : decode cX1_weigh 57 = .ok (.if_icmp .gt 16, 3) := by decide +kernel
theorem dX1_weigh_60 : decode cX1_weigh 60 = .ok (.aload_n 0, 1) := by decide +kernel
theorem dX1_weigh_61 : decode cX1_weigh 61 = .ok (.iload_n 2, 1) := by decide +kernel
theorem dX1_weigh_62 : decode cX1_weigh 62 = .ok (.iload_n 3, 1) := by decide +kernel
theorem dX1_weigh_63 : decode cX1_weigh 63 = .ok (.invokevirtual 134, 3) := by decide +kernel
theorem dX1_weigh_66 : decode cX1_weigh 66 = .ok (.aload_n 0, 1) := by decide +kernel
theorem dX1_weigh_67 : decode cX1_weigh 67 = .ok (.iload_n 3, 1) := by decide +kernel
theorem dX1_weigh_68 : decode cX1_weigh 68 = .ok (.iconst 1, 1) := by decide +kernel
theorem dX1_weigh_69 : decode cX1_weigh 69 = .ok (.isub, 1) := by decide +kernel
theorem dX1_weigh_70 : decode cX1_weigh 70 = .ok (.putfield 34, 3) := by decide +kernel
theorem dX1_weigh_73 : decode cX1_weigh 73 = .ok (.return_, 1) := by decide +kernel
theorem dX1_keep_0 : decode cX1_keep 0 = .ok (.aload_n 0, 1) := by decide +kernel
theorem dX1_keep_1 : decode cX1_keep 1 = .ok (.iconst 1, 1) := by decide +kernel
theorem dX1_keep_2 : decode cX1_keep 2 = .ok (.putfield 56, 3) := by decide +kernel
theorem dX1_keep_5 : decode cX1_keep 5 = .ok (.aload_n 0, 1) := by decide +kernel
theorem dX1_keep_6 : decode cX1_keep 6 = .ok (.iload_n 2, 1) := by decide +kernel
theorem dX1_keep_7 : decode cX1_keep 7 = .ok (.putfield 59, 3) := by decide +kernel
theorem dX1_keep_10 : decode cX1_keep 10 = .ok (.iconst 0, 1) := by decide +kernel
theorem dX1_keep_11 : decode cX1_keep 11 = .ok (.istore_n 3, 1) := by decide +kernel
theorem dX1_keep_12 : decode cX1_keep 12 = .ok (.iload_n 3, 1) := by decide +kernel
theorem dX1_keep_13 : decode cX1_keep 13 = .ok (.aload_n 0, 1) := by decide +kernel
theorem dX1_keep_14 : decode cX1_keep 14 = .ok (.getfield 15, 3) := by decide +kernel
theorem dX1_keep_17 : decode cX1_keep 17 = .ok (.arraylength, 1) := by decide +kernel
theorem dX1_keep_18 : decode cX1_keep 18 = .ok (.if_icmp .ge 31, 3) := by decide +kernel
theorem dX1_keep_21 : decode cX1_keep 21 = .ok (.aload_n 0, 1) := by decide +kernel
theorem dX1_keep_22 : decode cX1_keep 22 = .ok (.getfield 15, 3) := by decide +kernel
theorem dX1_keep_25 : decode cX1_keep 25 = .ok (.iload_n 3, 1) := by decide +kernel
theorem dX1_keep_26 : decode cX1_keep 26 = .ok (.iload_n 3, 1) := by decide +kernel
theorem dX1_keep_27 : decode cX1_keep 27 = .ok (.iload_n 1, 1) := by decide +kernel
theorem dX1_keep_28 : decode cX1_keep 28 = .ok (.if_icmp .ge 12, 3) := by decide +kernel
theorem dX1_keep_31 : decode cX1_keep 31 = .ok (.aload_n 0, 1) := by decide +kernel
theorem dX1_keep_32 : decode cX1_keep 32 = .ok (.getfield 11, 3) := by decide +kernel
theorem dX1_keep_35 : decode cX1_keep 35 = .ok (.iload_n 3, 1) := by decide +kernel
theorem dX1_keep_36 : decode cX1_keep 36 = .ok (.iaload, 1) := by decide +kernel
theorem dX1_keep_37 : decode cX1_keep 37 = .ok (.goto 5, 3) := by decide +kernel
theorem dX1_keep_40 : decode cX1_keep 40 = .ok (.bipush (-100), 2) := by decide +kernel
theorem dX1_keep_42 : decode cX1_keep 42 = .ok (.iastore, 1) := by decide +kernel
theorem dX1_keep_43 : decode cX1_keep 43 = .ok (.iinc 3 1, 3) := by decide +kernel
theorem dX1_keep_46 : decode cX1_keep 46 = .ok (.goto (-34), 3) := by decide +kernel
theorem dX1_keep_49 : decode cX1_keep 49 = .ok (.return_, 1) := by decide +kernel
theorem dX10_init_0 : decode cX10_init 0 = .ok (.aload_n 0, 1) := by decide +kernel
theorem dX10_init_1 : decode cX10_init 1 = .ok (.invokespecial 3, 3) := by decide +kernel
theorem dX10_init_4 : decode cX10_init 4 = .ok (.aload_n 0, 1) := by decide +kernel
theorem dX10_init_5 : decode cX10_init 5 = .ok (.sipush 401, 3) := by decide +kernel
theorem dX10_init_8 : decode cX10_init 8 = .ok (.newarray .int, 2) := by decide +kernel
theorem dX10_init_10 : decode cX10_init 10 = .ok (.putfield 9, 3) := by decide +kernel
theorem dX10_init_13 : decode cX10_init 13 = .ok (.aload_n 0, 1) := by decide +kernel
theorem dX10_init_14 : decode cX10_init 14 = .ok (.sipush 401, 3) := by decide +kernel
theorem dX10_init_17 : decode cX10_init 17 = .ok (.newarray .int, 2) := by decide +kernel
theorem dX10_init_19 : decode cX10_init 19 = .ok (.putfield 15, 3) := by decide +kernel
theorem dX10_init_22 : decode cX10_init 22 = .ok (.aload_n 0, 1) := by decide +kernel
theorem dX10_init_23 : decode cX10_init 23 = .ok (.sipush 401, 3) := by decide +kernel
theorem dX10_init_26 : decode cX10_init 26 = .ok (.newarray .int, 2) := by decide +kernel
theorem dX10_init_28 : decode cX10_init 28 = .ok (.putfield 18, 3) := by decide +kernel
theorem dX10_init_31 : decode cX10_init 31 = .ok (.return_, 1) := by decide +kernel
set_option maxRecDepth 20000 in
theorem ggX10_scan_X10_runEnd : GoodIn wsX10_scan wsX10_runEnd := goodIn_r _ [14, 15, 16, 13, 17, 18, 19, 20] rfl (by decide +kernel)
set_option maxRecDepth 20000 in
theorem gX10_scan_X10_runEnd : GoodIn wsX10_scan (va_wsS RX10 37 yX10_runEnd wsX10_runEnd) := goodIn_app (goodIn_of _ (by decide +kernel)) ggX10_scan_X10_runEnd
set_option maxRecDepth 20000 in
theorem ggX10_scan_X10_kindOf : GoodIn wsX10_scan wsX10_kindOf := goodIn_r _ [23, 15, 16, 13, 17, 24, 25, 26, 27, 28, 29, 30, 31, 32, 33, 34, 35, 36, 37, 38, 39, 40, 41, 42, 43, 44, 45, 46, 47, 48, 49, 50, 51, 52, 53, 54, 55, 56, 57, 58, 59, 60, 61, 62, 63, 64, 65, 66, 67, 68, 69, 70, 71, 72, 73, 74, 75, 76, 77, 78, 79, 80, 81, 82, 83, 84, 18, 19, 20, 85, 86, 87] rfl (by decide +kernel)
set_option maxRecDepth 20000 in
theorem gX10_scan_X10_kindOf : GoodIn wsX10_scan (va_wsS RX10 44 yX10_kindOf wsX10_kindOf) := goodIn_app (goodIn_of _ (by decide +kernel)) ggX10_scan_X10_kindOf
set_option maxRecDepth 20000 in
theorem ggX10_scan_X10_valueOf : GoodIn wsX10_scan wsX10_valueOf := goodIn_r _ [90, 18, 19, 13, 20] rfl (by decide +kernel)
set_option maxRecDepth 20000 in
theorem gX10_scan_X10_valueOf : GoodIn wsX10_scan (va_wsS RX10 47 yX10_valueOf wsX10_valueOf) := goodIn_app (goodIn_of _ (by decide +kernel)) ggX10_scan_X10_valueOf
set_option maxRecDepth 20000 in
theorem ggX10_scan_X10_put : GoodIn wsX10_scan wsX10_put := goodIn_r _ [94, 1, 95, 96, 97, 98, 99, 100, 101, 102, 103] rfl (by decide +kernel)
set_option maxRecDepth 20000 in
theorem gX10_scan_X10_put : GoodIn wsX10_scan (wsV RX10 50 RX10 yX10_put wsX10_put) := goodIn_app (goodIn_of _ (by decide +kernel)) ggX10_scan_X10_put
theorem dX10_scan_0 : decode cX10_scan 0 = .ok (.aload_n 0, 1) := by decide +kernel
theorem dX10_scan_1 : decode cX10_scan 1 = .ok (.iconst 0, 1) := by decide +kernel
theorem dX10_scan_2 : decode cX10_scan 2 = .ok (.putfield 21, 3) := by decide +kernel
theorem dX10_scan_5 : decode cX10_scan 5 = .ok (.aload_n 0, 1) := by decide +kernel
theorem dX10_scan_6 : decode cX10_scan 6 = .ok (.iconst 0, 1) := by decide +kernel
theorem dX10_scan_7 : decode cX10_scan 7 = .ok (.putfield 25, 3) := by decide +kernel
theorem dX10_scan_10 : decode cX10_scan 10 = .ok (.aload_n 0, 1) := by decide +kernel
theorem dX10_scan_11 : decode cX10_scan 11 = .ok (.iconst 0, 1) := by decide +kernel
theorem dX10_scan_12 : decode cX10_scan 12 = .ok (.putfield 28, 3) := by decide +kernel
theorem dX10_scan_15 : decode cX10_scan 15 = .ok (.iload_n 2, 1) := by decide +kernel
theorem dX10_scan_16 : decode cX10_scan 16 = .ok (.aload_n 1, 1) := by decide +kernel
theorem dX10_scan_17 : decode cX10_scan 17 = .ok (.arraylength, 1) := by decide +kernel
theorem dX10_scan_18 : decode cX10_scan 18 = .ok (.invokestatic 31, 3) := by decide +kernel
theorem dX10_scan_21 : decode cX10_scan 21 = .ok (.istore_n 3, 1) := by decide +kernel
theorem dX10_scan_22 : decode cX10_scan 22 = .ok (.iconst 0, 1) := by decide +kernel
theorem dX10_scan_23 : decode cX10_scan 23 = .ok (.istore 4, 2) := by decide +kernel
theorem dX10_scan_25 : decode cX10_scan 25 = .ok (.iload 4, 2) := by decide +kernel
theorem dX10_scan_27 : decode cX10_scan 27 = .ok (.iload_n 3, 1) := by decide +kernel
theorem dX10_scan_28 : decode cX10_scan 28 = .ok (.if_icmp .ge 57, 3) := by decide +kernel
theorem dX10_scan_31 : decode cX10_scan 31 = .ok (.aload_n 1, 1) := by decide +kernel
theorem dX10_scan_32 : decode cX10_scan 32 = .ok (.iload 4, 2) := by decide +kernel
theorem dX10_scan_34 : decode cX10_scan 34 = .ok (.iload_n 3, 1) := by decide +kernel
theorem dX10_scan_35 : decode cX10_scan 35 = .ok (.invokestatic 37, 3) := by decide +kernel
theorem dX10_scan_38 : decode cX10_scan 38 = .ok (.iload 4, 2) := by decide +kernel
theorem dX10_scan_40 : decode cX10_scan 40 = .ok (.iconst 1, 1) := by decide +kernel
theorem dX10_scan_41 : decode cX10_scan 41 = .ok (.iadd, 1) := by decide +kernel
theorem dX10_scan_42 : decode cX10_scan 42 = .ok (.invokestatic 41, 3) := by decide +kernel
theorem dX10_scan_45 : decode cX10_scan 45 = .ok (.istore 5, 2) := by decide +kernel
theorem dX10_scan_47 : decode cX10_scan 47 = .ok (.aload_n 1, 1) := by decide +kernel
theorem dX10_scan_48 : decode cX10_scan 48 = .ok (.iload 4, 2) := by decide +kernel
theorem dX10_scan_50 : decode cX10_scan 50 = .ok (.baload, 1) := by decide +kernel
theorem dX10_scan_51 : decode cX10_scan 51 = .ok (.bipush 32, 2) := by decide +kernel
theorem dX10_scan_53 : decode cX10_scan 53 = .ok (.if_icmp .eq 25, 3) := by decide +kernel
theorem dX10_scan_56 : decode cX10_scan 56 = .ok (.aload_n 0, 1) := by decide +kernel
theorem dX10_scan_57 : decode cX10_scan 57 = .ok (.aload_n 1, 1) := by decide +kernel
theorem dX10_scan_58 : decode cX10_scan 58 = .ok (.iload 4, 2) := by decide +kernel
theorem dX10_scan_60 : decode cX10_scan 60 = .ok (.iload 5, 2) := by decide +kernel
theorem dX10_scan_62 : decode cX10_scan 62 = .ok (.invokestatic 44, 3) := by decide +kernel
theorem dX10_scan_65 : decode cX10_scan 65 = .ok (.iload 4, 2) := by decide +kernel
theorem dX10_scan_67 : decode cX10_scan 67 = .ok (.aload_n 1, 1) := by decide +kernel
theorem dX10_scan_68 : decode cX10_scan 68 = .ok (.iload 4, 2) := by decide +kernel
theorem dX10_scan_70 : decode cX10_scan 70 = .ok (.iload 5, 2) := by decide +kernel
theorem dX10_scan_72 : decode cX10_scan 72 = .ok (.invokestatic 47, 3) := by decide +kernel
theorem dX10_scan_75 : decode cX10_scan 75 = .ok (.invokevirtual 50, 3) := by decide +kernel
theorem dX10_scan_78 : decode cX10_scan 78 = .ok (.iload 5, 2) := by decide +kernel
theorem dX10_scan_80 : decode cX10_scan 80 = .ok (.istore 4, 2) := by decide +kernel
theorem dX10_scan_82 : decode cX10_scan 82 = .ok (.goto (-57), 3) := by decide +kernel
theorem dX10_scan_85 : decode cX10_scan 85 = .ok (.aload_n 0, 1) := by decide +kernel
theorem dX10_scan_86 : decode cX10_scan 86 = .ok (.iconst 0, 1) := by decide +kernel
theorem dX10_scan_87 : decode cX10_scan 87 = .ok (.iload_n 3, 1) := by decide +kernel
theorem dX10_scan_88 : decode cX10_scan 88 = .ok (.iconst 0, 1) := by decide +kernel
theorem dX10_scan_89 : decode cX10_scan 89 = .ok (.invokevirtual 50, 3) := by decide +kernel
theorem dX10_scan_92 : decode cX10_scan 92 = .ok (.return_, 1) := by decide +kernel
theorem dX10_kind_0 : decode cX10_kind 0 = .ok (.aload_n 0, 1) := by decide +kernel
theorem dX10_kind_1 : decode cX10_kind 1 = .ok (.getfield 28, 3) := by decide +kernel
theorem dX10_kind_4 : decode cX10_kind 4 = .ok (.ifCond .ne 26, 3) := by decide +kernel
theorem dX10_kind_7 : decode cX10_kind 7 = .ok (.aload_n 0, 1) := by decide +kernel
theorem dX10_kind_8 : decode cX10_kind 8 = .ok (.getfield 25, 3) := by decide +kernel
theorem dX10_kind_11 : decode cX10_kind 11 = .ok (.aload_n 0, 1) := by decide +kernel
theorem dX10_kind_12 : decode cX10_kind 12 = .ok (.getfield 21, 3) := by decide +kernel
theorem dX10_kind_15 : decode cX10_kind 15 = .ok (.if_icmp .ge 15, 3) := by decide +kernel
theorem dX10_kind_18 : decode cX10_kind 18 = .ok (.aload_n 0, 1) := by decide +kernel
theorem dX10_kind_19 : decode cX10_kind 19 = .ok (.getfield 9, 3) := by decide +kernel
theorem dX10_kind_22 : decode cX10_kind 22 = .ok (.aload_n 0, 1) := by decide +kernel
theorem dX10_kind_23 : decode cX10_kind 23 = .ok (.getfield 25, 3) := by decide +kernel
theorem dX10_kind_26 : decode cX10_kind 26 = .ok (.iaload, 1) := by decide +kernel
theorem dX10_kind_27 : decode cX10_kind 27 = .ok (.goto 4, 3) := by decide +kernel
theorem dX10_kind_30 : decode cX10_kind 30 = .ok (.iconst 1, 1) := by decide +kernel
theorem dX10_kind_31 : decode cX10_kind 31 = .ok (.ireturn, 1) := by decide +kernel
theorem dX10_value_0 : decode cX10_value 0 = .ok (.aload_n 0, 1) := by decide +kernel
theorem dX10_value_1 : decode cX10_value 1 = .ok (.getfield 25, 3) := by decide +kernel
theorem dX10_value_4 : decode cX10_value 4 = .ok (.aload_n 0, 1) := by decide +kernel
theorem dX10_value_5 : decode cX10_value 5 = .ok (.getfield 21, 3) := by decide +kernel
theorem dX10_value_8 : decode cX10_value 8 = .ok (.if_icmp .ge 15, 3) := by decide +kernel
theorem dX10_value_11 : decode cX10_value 11 = .ok (.aload_n 0, 1) := by decide +kernel
theorem dX10_value_12 : decode cX10_value 12 = .ok (.getfield 18, 3) := by decide +kernel
theorem dX10_value_15 : decode cX10_value 15 = .ok (.aload_n 0, 1) := by decide +kernel
theorem dX10_value_16 : decode cX10_value 16 = .ok (.getfield 25, 3) := by decide +kernel
theorem dX10_value_19 : decode cX10_value 19 = .ok (.iaload, 1) := by decide +kernel
theorem dX10_value_20 : decode cX10_value 20 = .ok (.goto 4, 3) := by decide +kernel
theorem dX10_value_23 : decode cX10_value 23 = .ok (.iconst (-1), 1) := by decide +kernel
theorem dX10_value_24 : decode cX10_value 24 = .ok (.ireturn, 1) := by decide +kernel
theorem dX10_next_0 : decode cX10_next 0 = .ok (.aload_n 0, 1) := by decide +kernel
theorem dX10_next_1 : decode cX10_next 1 = .ok (.getfield 25, 3) := by decide +kernel
theorem dX10_next_4 : decode cX10_next 4 = .ok (.aload_n 0, 1) := by decide +kernel
theorem dX10_next_5 : decode cX10_next 5 = .ok (.getfield 21, 3) := by decide +kernel
theorem dX10_next_8 : decode cX10_next 8 = .ok (.iconst 1, 1) := by decide +kernel
theorem dX10_next_9 : decode cX10_next 9 = .ok (.isub, 1) := by decide +kernel
theorem dX10_next_10 : decode cX10_next 10 = .ok (.if_icmp .ge 13, 3) := by decide +kernel
theorem dX10_next_13 : decode cX10_next 13 = .ok (.aload_n 0, 1) := by decide +kernel
theorem dX10_next_14 : decode cX10_next 14 = .ok (.dup, 1) := by decide +kernel
theorem dX10_next_15 : decode cX10_next 15 = .ok (.getfield 25, 3) := by decide +kernel
theorem dX10_next_18 : decode cX10_next 18 = .ok (.iconst 1, 1) := by decide +kernel
theorem dX10_next_19 : decode cX10_next 19 = .ok (.iadd, 1) := by decide +kernel
theorem dX10_next_20 : decode cX10_next 20 = .ok (.putfield 25, 3) := by decide +kernel
theorem dX10_next_23 : decode cX10_next 23 = .ok (.return_, 1) := by decide +kernel
theorem dX10_fail_0 : decode cX10_fail 0 = .ok (.aload_n 0, 1) := by decide +kernel
theorem dX10_fail_1 : decode cX10_fail 1 = .ok (.getfield 28, 3) := by decide +kernel
theorem dX10_fail_4 : decode cX10_fail 4 = .ok (.ifCond .ne 34, 3) := by decide +kernel
theorem dX10_fail_7 : decode cX10_fail 7 = .ok (.aload_n 0, 1) := by decide +kernel
theorem dX10_fail_8 : decode cX10_fail 8 = .ok (.getfield 25, 3) := by decide +kernel
theorem dX10_fail_11 : decode cX10_fail 11 = .ok (.aload_n 0, 1) := by decide +kernel
theorem dX10_fail_12 : decode cX10_fail 12 = .ok (.getfield 21, 3) := by decide +kernel
theorem dX10_fail_15 : decode cX10_fail 15 = .ok (.if_icmp .ge 23, 3) := by decide +kernel
theorem dX10_fail_18 : decode cX10_fail 18 = .ok (.aload_n 0, 1) := by decide +kernel
theorem dX10_fail_19 : decode cX10_fail 19 = .ok (.iconst 1, 1) := by decide +kernel
theorem dX10_fail_20 : decode cX10_fail 20 = .ok (.bipush 8, 2) := by decide +kernel
theorem dX10_fail_22 : decode cX10_fail 22 = .ok (.aload_n 0, 1) := by decide +kernel
theorem dX10_fail_23 : decode cX10_fail 23 = .ok (.getfield 15, 3) := by decide +kernel
theorem dX10_fail_26 : decode cX10_fail 26 = .ok (.aload_n 0, 1) := by decide +kernel
theorem dX10_fail_27 : decode cX10_fail 27 = .ok (.getfield 25, 3) := by decide +kernel
theorem dX10_fail_30 : decode cX10_fail 30 = .ok (.iaload, 1) := by decide +kernel
theorem dX10_fail_31 : decode cX10_fail 31 = .ok (.imul, 1) := by decide +kernel
theorem dX10_fail_32 : decode cX10_fail 32 = .ok (.iadd, 1) := by decide +kernel
theorem dX10_fail_33 : decode cX10_fail 33 = .ok (.iload_n 1, 1) := by decide +kernel
theorem dX10_fail_34 : decode cX10_fail 34 = .ok (.iadd, 1) := by decide +kernel
theorem dX10_fail_35 : decode cX10_fail 35 = .ok (.putfield 28, 3) := by decide +kernel
theorem dX10_fail_38 : decode cX10_fail 38 = .ok (.return_, 1) := by decide +kernel
theorem dX10_put_0 : decode cX10_put 0 = .ok (.aload_n 0, 1) := by decide +kernel
theorem dX10_put_1 : decode cX10_put 1 = .ok (.getfield 21, 3) := by decide +kernel
theorem dX10_put_4 : decode cX10_put 4 = .ok (.aload_n 0, 1) := by decide +kernel
theorem dX10_put_5 : decode cX10_put 5 = .ok (.getfield 9, 3) := by decide +kernel
theorem dX10_put_8 : decode cX10_put 8 = .ok (.arraylength, 1) := by decide +kernel
theorem dX10_put_9 : decode cX10_put 9 = .ok (.if_icmp .ge 43, 3) := by decide +kernel
theorem dX10_put_12 : decode cX10_put 12 = .ok (.aload_n 0, 1) := by decide +kernel
theorem dX10_put_13 : decode cX10_put 13 = .ok (.getfield 9, 3) := by decide +kernel
theorem dX10_put_16 : decode cX10_put 16 = .ok (.aload_n 0, 1) := by decide +kernel
theorem dX10_put_17 : decode cX10_put 17 = .ok (.getfield 21, 3) := by decide +kernel
theorem dX10_put_20 : decode cX10_put 20 = .ok (.iload_n 1, 1) := by decide +kernel
theorem dX10_put_21 : decode cX10_put 21 = .ok (.iastore, 1) := by decide +kernel
theorem dX10_put_22 : decode cX10_put 22 = .ok (.aload_n 0, 1) := by decide +kernel
theorem dX10_put_23 : decode cX10_put 23 = .ok (.getfield 15, 3) := by decide +kernel
theorem dX10_put_26 : decode cX10_put 26 = .ok (.aload_n 0, 1) := by decide +kernel
theorem dX10_put_27 : decode cX10_put 27 = .ok (.getfield 21, 3) := by decide +kernel
theorem dX10_put_30 : decode cX10_put 30 = .ok (.iload_n 2, 1) := by decide +kernel
theorem dX10_put_31 : decode cX10_put 31 = .ok (.iastore, 1) := by decide +kernel
theorem dX10_put_32 : decode cX10_put 32 = .ok (.aload_n 0, 1) := by decide +kernel
theorem dX10_put_33 : decode cX10_put 33 = .ok (.getfield 18, 3) := by decide +kernel
theorem dX10_put_36 : decode cX10_put 36 = .ok (.aload_n 0, 1) := by decide +kernel
theorem dX10_put_37 : decode cX10_put 37 = .ok (.getfield 21, 3) := by decide +kernel
theorem dX10_put_40 : decode cX10_put 40 = .ok (.iload_n 3, 1) := by decide +kernel
theorem dX10_put_41 : decode cX10_put 41 = .ok (.iastore, 1) := by decide +kernel
theorem dX10_put_42 : decode cX10_put 42 = .ok (.aload_n 0, 1) := by decide +kernel
theorem dX10_put_43 : decode cX10_put 43 = .ok (.dup, 1) := by decide +kernel
theorem dX10_put_44 : decode cX10_put 44 = .ok (.getfield 21, 3) := by decide +kernel
theorem dX10_put_47 : decode cX10_put 47 = .ok (.iconst 1, 1) := by decide +kernel
theorem dX10_put_48 : decode cX10_put 48 = .ok (.iadd, 1) := by decide +kernel
theorem dX10_put_49 : decode cX10_put 49 = .ok (.putfield 21, 3) := by decide +kernel
theorem dX10_put_52 : decode cX10_put 52 = .ok (.return_, 1) := by decide +kernel
set_option maxRecDepth 20000 in
theorem ggX10_runEnd_X10_isLetter : GoodIn wsX10_runEnd wsX10_isLetter := goodIn_r _ [4] rfl (by decide +kernel)
set_option maxRecDepth 20000 in
theorem gX10_runEnd_X10_isLetter : GoodIn wsX10_runEnd (va_wsS RX10 54 yX10_isLetter wsX10_isLetter) := goodIn_app (goodIn_of _ (by decide +kernel)) ggX10_runEnd_X10_isLetter
set_option maxRecDepth 20000 in
theorem ggX10_runEnd_X10_isDigit : GoodIn wsX10_runEnd wsX10_isDigit := goodIn_r _ [7] rfl (by decide +kernel)
set_option maxRecDepth 20000 in
theorem gX10_runEnd_X10_isDigit : GoodIn wsX10_runEnd (va_wsS RX10 58 yX10_isDigit wsX10_isDigit) := goodIn_app (goodIn_of _ (by decide +kernel)) ggX10_runEnd_X10_isDigit
theorem dX10_runEnd_0 : decode cX10_runEnd 0 = .ok (.iload_n 1, 1) := by decide +kernel
theorem dX10_runEnd_1 : decode cX10_runEnd 1 = .ok (.iconst 1, 1) := by decide +kernel
theorem dX10_runEnd_2 : decode cX10_runEnd 2 = .ok (.iadd, 1) := by decide +kernel
theorem dX10_runEnd_3 : decode cX10_runEnd 3 = .ok (.istore_n 3, 1) := by decide +kernel
theorem dX10_runEnd_4 : decode cX10_runEnd 4 = .ok (.aload_n 0, 1) := by decide +kernel
theorem dX10_runEnd_5 : decode cX10_runEnd 5 = .ok (.iload_n 1, 1) := by decide +kernel
theorem dX10_runEnd_6 : decode cX10_runEnd 6 = .ok (.baload, 1) := by decide +kernel
theorem dX10_runEnd_7 : decode cX10_runEnd 7 = .ok (.invokestatic 54, 3) := by decide +kernel
theorem dX10_runEnd_10 : decode cX10_runEnd 10 = .ok (.ifCond .eq 23, 3) := by decide +kernel
theorem dX10_runEnd_13 : decode cX10_runEnd 13 = .ok (.iload_n 3, 1) := by decide +kernel
theorem dX10_runEnd_14 : decode cX10_runEnd 14 = .ok (.iload_n 2, 1) := by decide +kernel
theorem dX10_runEnd_15 : decode cX10_runEnd 15 = .ok (.if_icmp .ge 79, 3) := by decide +kernel
theorem dX10_runEnd_18 : decode cX10_runEnd 18 = .ok (.aload_n 0, 1) := by decide +kernel
theorem dX10_runEnd_19 : decode cX10_runEnd 19 = .ok (.iload_n 3, 1) := by decide +kernel
theorem dX10_runEnd_20 : decode cX10_runEnd 20 = .ok (.baload, 1) := by decide +kernel
theorem dX10_runEnd_21 : decode cX10_runEnd 21 = .ok (.invokestatic 54, 3) := by decide +kernel
theorem dX10_runEnd_24 : decode cX10_runEnd 24 = .ok (.ifCond .eq 70, 3) := by decide +kernel
theorem dX10_runEnd_27 : decode cX10_runEnd 27 = .ok (.iinc 3 1, 3) := by decide +kernel
theorem dX10_runEnd_30 : decode cX10_runEnd 30 = .ok (.goto (-17), 3) := by decide +kernel
theorem dX10_runEnd_33 : decode cX10_runEnd 33 = .ok (.aload_n 0, 1) := by decide +kernel
theorem dX10_runEnd_34 : decode cX10_runEnd 34 = .ok (.iload_n 1, 1) := by decide +kernel
theorem dX10_runEnd_35 : decode cX10_runEnd 35 = .ok (.baload, 1) := by decide +kernel
theorem dX10_runEnd_36 : decode cX10_runEnd 36 = .ok (.invokestatic 58, 3) := by decide +kernel
theorem dX10_runEnd_39 : decode cX10_runEnd 39 = .ok (.ifCond .eq 23, 3) := by decide +kernel
theorem dX10_runEnd_42 : decode cX10_runEnd 42 = .ok (.iload_n 3, 1) := by decide +kernel
theorem dX10_runEnd_43 : decode cX10_runEnd 43 = .ok (.iload_n 2, 1) := by decide +kernel
theorem dX10_runEnd_44 : decode cX10_runEnd 44 = .ok (.if_icmp .ge 50, 3) := by decide +kernel
theorem dX10_runEnd_47 : decode cX10_runEnd 47 = .ok (.aload_n 0, 1) := by decide +kernel
theorem dX10_runEnd_48 : decode cX10_runEnd 48 = .ok (.iload_n 3, 1) := by decide +kernel
theorem dX10_runEnd_49 : decode cX10_runEnd 49 = .ok (.baload, 1) := by decide +kernel
theorem dX10_runEnd_50 : decode cX10_runEnd 50 = .ok (.invokestatic 58, 3) := by decide +kernel
theorem dX10_runEnd_53 : decode cX10_runEnd 53 = .ok (.ifCond .eq 41, 3) := by decide +kernel
theorem dX10_runEnd_56 : decode cX10_runEnd 56 = .ok (.iinc 3 1, 3) := by decide +kernel
theorem dX10_runEnd_59 : decode cX10_runEnd 59 = .ok (.goto (-17), 3) := by decide +kernel
theorem dX10_runEnd_62 : decode cX10_runEnd 62 = .ok (.aload_n 0, 1) := by decide +kernel
theorem dX10_runEnd_63 : decode cX10_runEnd 63 = .ok (.iload_n 1, 1) := by decide +kernel
theorem dX10_runEnd_64 : decode cX10_runEnd 64 = .ok (.baload, 1) := by decide +kernel
theorem dX10_runEnd_65 : decode cX10_runEnd 65 = .ok (.bipush 60, 2) := by decide +kernel
theorem dX10_runEnd_67 : decode cX10_runEnd 67 = .ok (.if_icmp .eq 11, 3) := by decide +kernel
theorem dX10_runEnd_70 : decode cX10_runEnd 70 = .ok (.aload_n 0, 1) := by decide +kernel
theorem dX10_runEnd_71 : decode cX10_runEnd 71 = .ok (.iload_n 1, 1) := by decide +kernel
theorem dX10_runEnd_72 : decode cX10_runEnd 72 = .ok (.baload, 1) := by decide +kernel
theorem dX10_runEnd_73 : decode cX10_runEnd 73 = .ok (.bipush 62, 2) := by decide +kernel
theorem dX10_runEnd_75 : decode cX10_runEnd 75 = .ok (.if_icmp .ne 19, 3) := by decide +kernel
theorem dX10_runEnd_78 : decode cX10_runEnd 78 = .ok (.iload_n 3, 1) := by decide +kernel
theorem dX10_runEnd_79 : decode cX10_runEnd 79 = .ok (.iload_n 2, 1) := by decide +kernel
theorem dX10_runEnd_80 : decode cX10_runEnd 80 = .ok (.if_icmp .ge 14, 3) := by decide +kernel
theorem dX10_runEnd_83 : decode cX10_runEnd 83 = .ok (.aload_n 0, 1) := by decide +kernel
theorem dX10_runEnd_84 : decode cX10_runEnd 84 = .ok (.iload_n 3, 1) := by decide +kernel
theorem dX10_runEnd_85 : decode cX10_runEnd 85 = .ok (.baload, 1) := by decide +kernel
theorem dX10_runEnd_86 : decode cX10_runEnd 86 = .ok (.bipush 61, 2) := by decide +kernel
theorem dX10_runEnd_88 : decode cX10_runEnd 88 = .ok (.if_icmp .ne 6, 3) := by decide +kernel
theorem dX10_runEnd_91 : decode cX10_runEnd 91 = .ok (.iinc 3 1, 3) := by decide +kernel
theorem dX10_runEnd_94 : decode cX10_runEnd 94 = .ok (.iload_n 3, 1) := by decide +kernel
theorem dX10_runEnd_95 : decode cX10_runEnd 95 = .ok (.ireturn, 1) := by decide +kernel
set_option maxRecDepth 20000 in
theorem ggX10_kindOf_X10_isLetter : GoodIn wsX10_kindOf wsX10_isLetter := goodIn_r _ [4] rfl (by decide +kernel)
set_option maxRecDepth 20000 in
theorem gX10_kindOf_X10_isLetter : GoodIn wsX10_kindOf (va_wsS RX10 54 yX10_isLetter wsX10_isLetter) := goodIn_app (goodIn_of _ (by decide +kernel)) ggX10_kindOf_X10_isLetter
set_option maxRecDepth 20000 in
theorem ggX10_kindOf_X10_riverWord : GoodIn wsX10_kindOf wsX10_riverWord := goodIn_r _ [7, 8, 9, 3, 10, 11, 12, 13, 14, 15, 16, 17, 18, 19, 20, 21, 22, 23, 24, 25, 26, 27, 28, 29, 30, 31, 32, 33, 34, 35, 36, 37, 38, 39, 40, 41, 42, 43, 44, 45, 46, 47, 48, 49, 50, 51, 52, 53, 54, 55, 56, 57, 58, 59] rfl (by decide +kernel)
set_option maxRecDepth 20000 in
theorem gX10_kindOf_X10_riverWord : GoodIn wsX10_kindOf (va_wsS RX10 61 yX10_riverWord wsX10_riverWord) := goodIn_app (goodIn_of _ (by decide +kernel)) ggX10_kindOf_X10_riverWord
set_option maxRecDepth 20000 in
theorem ggX10_kindOf_X10_ruleWord : GoodIn wsX10_kindOf wsX10_ruleWord := goodIn_r _ [62, 8, 9, 3, 10, 11, 12, 13, 14, 15, 16, 17, 18, 19, 20, 21, 22, 23, 24, 25, 26, 27, 28, 29, 30, 31, 32, 33, 34, 35, 36, 37, 38, 39, 40, 41, 42, 43, 44, 45, 46, 47, 48, 49, 50, 51, 52, 53, 54, 55, 56, 57, 58, 59, 63, 64, 65] rfl (by decide +kernel)
set_option maxRecDepth 20000 in
theorem gX10_kindOf_X10_ruleWord : GoodIn wsX10_kindOf (va_wsS RX10 64 yX10_ruleWord wsX10_ruleWord) := goodIn_app (goodIn_of _ (by decide +kernel)) ggX10_kindOf_X10_ruleWord
set_option maxRecDepth 20000 in
theorem ggX10_kindOf_X10_isDigit : GoodIn wsX10_kindOf wsX10_isDigit := goodIn_r _ [68] rfl (by decide +kernel)
set_option maxRecDepth 20000 in
theorem gX10_kindOf_X10_isDigit : GoodIn wsX10_kindOf (va_wsS RX10 58 yX10_isDigit wsX10_isDigit) := goodIn_app (goodIn_of _ (by decide +kernel)) ggX10_kindOf_X10_isDigit
set_option maxRecDepth 20000 in
theorem ggX10_kindOf_X10_isSign : GoodIn wsX10_kindOf wsX10_isSign := goodIn_r _ [71] rfl (by decide +kernel)
set_option maxRecDepth 20000 in
theorem gX10_kindOf_X10_isSign : GoodIn wsX10_kindOf (va_wsS RX10 67 yX10_isSign wsX10_isSign) := goodIn_app (goodIn_of _ (by decide +kernel)) ggX10_kindOf_X10_isSign
theorem dX10_kindOf_0 : decode cX10_kindOf 0 = .ok (.aload_n 0, 1) := by decide +kernel
theorem dX10_kindOf_1 : decode cX10_kindOf 1 = .ok (.iload_n 1, 1) := by decide +kernel
theorem dX10_kindOf_2 : decode cX10_kindOf 2 = .ok (.baload, 1) := by decide +kernel
theorem dX10_kindOf_3 : decode cX10_kindOf 3 = .ok (.istore_n 3, 1) := by decide +kernel
theorem dX10_kindOf_4 : decode cX10_kindOf 4 = .ok (.iload_n 3, 1) := by decide +kernel
theorem dX10_kindOf_5 : decode cX10_kindOf 5 = .ok (.invokestatic 54, 3) := by decide +kernel
theorem dX10_kindOf_8 : decode cX10_kindOf 8 = .ok (.ifCond .eq 29, 3) := by decide +kernel
theorem dX10_kindOf_11 : decode cX10_kindOf 11 = .ok (.aload_n 0, 1) := by decide +kernel
theorem dX10_kindOf_12 : decode cX10_kindOf 12 = .ok (.iload_n 1, 1) := by decide +kernel
theorem dX10_kindOf_13 : decode cX10_kindOf 13 = .ok (.iload_n 2, 1) := by decide +kernel
theorem dX10_kindOf_14 : decode cX10_kindOf 14 = .ok (.invokestatic 61, 3) := by decide +kernel
theorem dX10_kindOf_17 : decode cX10_kindOf 17 = .ok (.istore 4, 2) := by decide +kernel
theorem dX10_kindOf_19 : decode cX10_kindOf 19 = .ok (.iload 4, 2) := by decide +kernel
theorem dX10_kindOf_21 : decode cX10_kindOf 21 = .ok (.iconst 1, 1) := by decide +kernel
theorem dX10_kindOf_22 : decode cX10_kindOf 22 = .ok (.if_icmp .ne 12, 3) := by decide +kernel
theorem dX10_kindOf_25 : decode cX10_kindOf 25 = .ok (.aload_n 0, 1) := by decide +kernel
theorem dX10_kindOf_26 : decode cX10_kindOf 26 = .ok (.iload_n 1, 1) := by decide +kernel
theorem dX10_kindOf_27 : decode cX10_kindOf 27 = .ok (.iload_n 2, 1) := by decide +kernel
theorem dX10_kindOf_28 : decode cX10_kindOf 28 = .ok (.invokestatic 64, 3) := by decide +kernel
theorem dX10_kindOf_31 : decode cX10_kindOf 31 = .ok (.goto 5, 3) := by decide +kernel
theorem dX10_kindOf_34 : decode cX10_kindOf 34 = .ok (.iload 4, 2) := by decide +kernel
theorem dX10_kindOf_36 : decode cX10_kindOf 36 = .ok (.ireturn, 1) := by decide +kernel
theorem dX10_kindOf_37 : decode cX10_kindOf 37 = .ok (.iload_n 3, 1) := by decide +kernel
theorem dX10_kindOf_38 : decode cX10_kindOf 38 = .ok (.invokestatic 58, 3) := by decide +kernel
theorem dX10_kindOf_41 : decode cX10_kindOf 41 = .ok (.ifCond .eq 5, 3) := by decide +kernel
theorem dX10_kindOf_44 : decode cX10_kindOf 44 = .ok (.iconst 2, 1) := by decide +kernel
theorem dX10_kindOf_45 : decode cX10_kindOf 45 = .ok (.ireturn, 1) := by decide +kernel
theorem dX10_kindOf_46 : decode cX10_kindOf 46 = .ok (.iload_n 2, 1) := by decide +kernel
theorem dX10_kindOf_47 : decode cX10_kindOf 47 = .ok (.iload_n 1, 1) := by decide +kernel
theorem dX10_kindOf_48 : decode cX10_kindOf 48 = .ok (.isub, 1) := by decide +kernel
theorem dX10_kindOf_49 : decode cX10_kindOf 49 = .ok (.iconst 2, 1) := by decide +kernel
theorem dX10_kindOf_50 : decode cX10_kindOf 50 = .ok (.if_icmp .ne 15, 3) := by decide +kernel
theorem dX10_kindOf_53 : decode cX10_kindOf 53 = .ok (.iload_n 3, 1) := by decide +kernel
theorem dX10_kindOf_54 : decode cX10_kindOf 54 = .ok (.bipush 60, 2) := by decide +kernel
theorem dX10_kindOf_56 : decode cX10_kindOf 56 = .ok (.if_icmp .ne 7, 3) := by decide +kernel
theorem dX10_kindOf_59 : decode cX10_kindOf 59 = .ok (.iconst 3, 1) := by decide +kernel
theorem dX10_kindOf_60 : decode cX10_kindOf 60 = .ok (.goto 4, 3) := by decide +kernel
theorem dX10_kindOf_63 : decode cX10_kindOf 63 = .ok (.iconst 4, 1) := by decide +kernel
theorem dX10_kindOf_64 : decode cX10_kindOf 64 = .ok (.ireturn, 1) := by decide +kernel
theorem dX10_kindOf_65 : decode cX10_kindOf 65 = .ok (.iload_n 3, 1) := by decide +kernel
theorem dX10_kindOf_66 : decode cX10_kindOf 66 = .ok (.invokestatic 67, 3) := by decide +kernel
theorem dX10_kindOf_69 : decode cX10_kindOf 69 = .ok (.ifCond .eq 7, 3) := by decide +kernel
theorem dX10_kindOf_72 : decode cX10_kindOf 72 = .ok (.iload_n 3, 1) := by decide +kernel
theorem dX10_kindOf_73 : decode cX10_kindOf 73 = .ok (.goto 4, 3) := by decide +kernel
theorem dX10_kindOf_76 : decode cX10_kindOf 76 = .ok (.iconst 1, 1) := by decide +kernel
theorem dX10_kindOf_77 : decode cX10_kindOf 77 = .ok (.ireturn, 1) := by decide +kernel
set_option maxRecDepth 20000 in
theorem ggX10_valueOf_X10_isDigit : GoodIn wsX10_valueOf wsX10_isDigit := goodIn_r _ [4] rfl (by decide +kernel)
set_option maxRecDepth 20000 in
theorem gX10_valueOf_X10_isDigit : GoodIn wsX10_valueOf (va_wsS RX10 58 yX10_isDigit wsX10_isDigit) := goodIn_app (goodIn_of _ (by decide +kernel)) ggX10_valueOf_X10_isDigit
theorem dX10_valueOf_0 : decode cX10_valueOf 0 = .ok (.iload_n 2, 1) := by decide +kernel
theorem dX10_valueOf_1 : decode cX10_valueOf 1 = .ok (.iload_n 1, 1) := by decide +kernel
theorem dX10_valueOf_2 : decode cX10_valueOf 2 = .ok (.isub, 1) := by decide +kernel
theorem dX10_valueOf_3 : decode cX10_valueOf 3 = .ok (.iconst 5, 1) := by decide +kernel
theorem dX10_valueOf_4 : decode cX10_valueOf 4 = .ok (.if_icmp .gt 12, 3) := by decide +kernel
theorem dX10_valueOf_7 : decode cX10_valueOf 7 = .ok (.aload_n 0, 1) := by decide +kernel
theorem dX10_valueOf_8 : decode cX10_valueOf 8 = .ok (.iload_n 1, 1) := by decide +kernel
theorem dX10_valueOf_9 : decode cX10_valueOf 9 = .ok (.baload, 1) := by decide +kernel
theorem dX10_valueOf_10 : decode cX10_valueOf 10 = .ok (.invokestatic 58, 3) := by decide +kernel
theorem dX10_valueOf_13 : decode cX10_valueOf 13 = .ok (.ifCond .ne 5, 3) := by decide +kernel
theorem dX10_valueOf_16 : decode cX10_valueOf 16 = .ok (.iconst (-1), 1) := by decide +kernel
theorem dX10_valueOf_17 : decode cX10_valueOf 17 = .ok (.ireturn, 1) := by decide +kernel
theorem dX10_valueOf_18 : decode cX10_valueOf 18 = .ok (.iconst 0, 1) := by decide +kernel
theorem dX10_valueOf_19 : decode cX10_valueOf 19 = .ok (.istore_n 3, 1) := by decide +kernel
theorem dX10_valueOf_20 : decode cX10_valueOf 20 = .ok (.iload_n 1, 1) := by decide +kernel
theorem dX10_valueOf_21 : decode cX10_valueOf 21 = .ok (.istore 4, 2) := by decide +kernel
theorem dX10_valueOf_23 : decode cX10_valueOf 23 = .ok (.iload 4, 2) := by decide +kernel
theorem dX10_valueOf_25 : decode cX10_valueOf 25 = .ok (.iload_n 2, 1) := by decide +kernel
theorem dX10_valueOf_26 : decode cX10_valueOf 26 = .ok (.if_icmp .ge 22, 3) := by decide +kernel
theorem dX10_valueOf_29 : decode cX10_valueOf 29 = .ok (.iload_n 3, 1) := by decide +kernel
theorem dX10_valueOf_30 : decode cX10_valueOf 30 = .ok (.bipush 10, 2) := by decide +kernel
theorem dX10_valueOf_32 : decode cX10_valueOf 32 = .ok (.imul, 1) := by decide +kernel
theorem dX10_valueOf_33 : decode cX10_valueOf 33 = .ok (.aload_n 0, 1) := by decide +kernel
theorem dX10_valueOf_34 : decode cX10_valueOf 34 = .ok (.iload 4, 2) := by decide +kernel
theorem dX10_valueOf_36 : decode cX10_valueOf 36 = .ok (.baload, 1) := by decide +kernel
theorem dX10_valueOf_37 : decode cX10_valueOf 37 = .ok (.iadd, 1) := by decide +kernel
theorem dX10_valueOf_38 : decode cX10_valueOf 38 = .ok (.bipush 48, 2) := by decide +kernel
theorem dX10_valueOf_40 : decode cX10_valueOf 40 = .ok (.isub, 1) := by decide +kernel
theorem dX10_valueOf_41 : decode cX10_valueOf 41 = .ok (.istore_n 3, 1) := by decide +kernel
theorem dX10_valueOf_42 : decode cX10_valueOf 42 = .ok (.iinc 4 1, 3) := by decide +kernel
theorem dX10_valueOf_45 : decode cX10_valueOf 45 = .ok (.goto (-22), 3) := by decide +kernel
theorem dX10_valueOf_48 : decode cX10_valueOf 48 = .ok (.iload_n 3, 1) := by decide +kernel
theorem dX10_valueOf_49 : decode cX10_valueOf 49 = .ok (.ireturn, 1) := by decide +kernel
theorem dX10_isLetter_0 : decode cX10_isLetter 0 = .ok (.iload_n 0, 1) := by decide +kernel
theorem dX10_isLetter_1 : decode cX10_isLetter 1 = .ok (.bipush 97, 2) := by decide +kernel
theorem dX10_isLetter_3 : decode cX10_isLetter 3 = .ok (.if_icmp .lt 13, 3) := by decide +kernel
theorem dX10_isLetter_6 : decode cX10_isLetter 6 = .ok (.iload_n 0, 1) := by decide +kernel
theorem dX10_isLetter_7 : decode cX10_isLetter 7 = .ok (.bipush 122, 2) := by decide +kernel
theorem dX10_isLetter_9 : decode cX10_isLetter 9 = .ok (.if_icmp .gt 7, 3) := by decide +kernel
theorem dX10_isLetter_12 : decode cX10_isLetter 12 = .ok (.iconst 1, 1) := by decide +kernel
theorem dX10_isLetter_13 : decode cX10_isLetter 13 = .ok (.goto 4, 3) := by decide +kernel
theorem dX10_isLetter_16 : decode cX10_isLetter 16 = .ok (.iconst 0, 1) := by decide +kernel
theorem dX10_isLetter_17 : decode cX10_isLetter 17 = .ok (.ireturn, 1) := by decide +kernel
theorem dX10_isDigit_0 : decode cX10_isDigit 0 = .ok (.iload_n 0, 1) := by decide +kernel
theorem dX10_isDigit_1 : decode cX10_isDigit 1 = .ok (.bipush 48, 2) := by decide +kernel
theorem dX10_isDigit_3 : decode cX10_isDigit 3 = .ok (.if_icmp .lt 13, 3) := by decide +kernel
theorem dX10_isDigit_6 : decode cX10_isDigit 6 = .ok (.iload_n 0, 1) := by decide +kernel
theorem dX10_isDigit_7 : decode cX10_isDigit 7 = .ok (.bipush 57, 2) := by decide +kernel
theorem dX10_isDigit_9 : decode cX10_isDigit 9 = .ok (.if_icmp .gt 7, 3) := by decide +kernel
theorem dX10_isDigit_12 : decode cX10_isDigit 12 = .ok (.iconst 1, 1) := by decide +kernel
theorem dX10_isDigit_13 : decode cX10_isDigit 13 = .ok (.goto 4, 3) := by decide +kernel
theorem dX10_isDigit_16 : decode cX10_isDigit 16 = .ok (.iconst 0, 1) := by decide +kernel
theorem dX10_isDigit_17 : decode cX10_isDigit 17 = .ok (.ireturn, 1) := by decide +kernel
theorem dX10_isSign_0 : decode cX10_isSign 0 = .ok (.iload_n 0, 1) := by decide +kernel
theorem dX10_isSign_1 : decode cX10_isSign 1 = .ok (.lookupswitch 93 #[(42, 91), (43, 91), (45, 91), (47, 91), (59, 91), (60, 91), (61, 91), (62, 91), (91, 91), (93, 91)], 91) := by decide +kernel
theorem dX10_isSign_92 : decode cX10_isSign 92 = .ok (.iconst 1, 1) := by decide +kernel
theorem dX10_isSign_93 : decode cX10_isSign 93 = .ok (.ireturn, 1) := by decide +kernel
theorem dX10_isSign_94 : decode cX10_isSign 94 = .ok (.iconst 0, 1) := by decide +kernel
theorem dX10_isSign_95 : decode cX10_isSign 95 = .ok (.ireturn, 1) := by decide +kernel
set_option maxRecDepth 20000 in
theorem ggX10_riverWord_X10_spells : GoodIn wsX10_riverWord wsX10_spells := goodIn_r _ [4, 5, 6, 7, 8, 9, 10, 11, 12, 13, 14, 15, 16, 17, 18, 19, 20, 21, 22, 23, 24, 25, 26, 27, 28, 29, 30, 31, 32, 33, 34, 35, 36, 37, 38, 39, 40, 41, 42, 43, 44, 45, 46, 47, 48, 49, 50, 51, 52, 53] rfl (by decide +kernel)
set_option maxRecDepth 20000 in
theorem gX10_riverWord_X10_spells : GoodIn wsX10_riverWord (va_wsS RX10 72 yX10_spells wsX10_spells) := goodIn_app (goodIn_of _ (by decide +kernel)) ggX10_riverWord_X10_spells
theorem dX10_riverWord_0 : decode cX10_riverWord 0 = .ok (.aload_n 0, 1) := by decide +kernel
theorem dX10_riverWord_1 : decode cX10_riverWord 1 = .ok (.iload_n 1, 1) := by decide +kernel
theorem dX10_riverWord_2 : decode cX10_riverWord 2 = .ok (.iload_n 2, 1) := by decide +kernel
theorem dX10_riverWord_3 : decode cX10_riverWord 3 = .ok (.ldc 70, 2) := by decide +kernel
theorem dX10_riverWord_5 : decode cX10_riverWord 5 = .ok (.invokestatic 72, 3) := by decide +kernel
theorem dX10_riverWord_8 : decode cX10_riverWord 8 = .ok (.ifCond .eq 7, 3) := by decide +kernel
theorem dX10_riverWord_11 : decode cX10_riverWord 11 = .ok (.sipush 256, 3) := by decide +kernel
theorem dX10_riverWord_14 : decode cX10_riverWord 14 = .ok (.ireturn, 1) := by decide +kernel
theorem dX10_riverWord_15 : decode cX10_riverWord 15 = .ok (.aload_n 0, 1) := by decide +kernel
theorem dX10_riverWord_16 : decode cX10_riverWord 16 = .ok (.iload_n 1, 1) := by decide +kernel
theorem dX10_riverWord_17 : decode cX10_riverWord 17 = .ok (.iload_n 2, 1) := by decide +kernel
theorem dX10_riverWord_18 : decode cX10_riverWord 18 = .ok (.ldc 76, 2) := by decide +kernel
theorem dX10_riverWord_20 : decode cX10_riverWord 20 = .ok (.invokestatic 72, 3) := by decide +kernel
theorem dX10_riverWord_23 : decode cX10_riverWord 23 = .ok (.ifCond .eq 7, 3) := by decide +kernel
theorem dX10_riverWord_26 : decode cX10_riverWord 26 = .ok (.sipush 257, 3) := by decide +kernel
theorem dX10_riverWord_29 : decode cX10_riverWord 29 = .ok (.ireturn, 1) := by decide +kernel
theorem dX10_riverWord_30 : decode cX10_riverWord 30 = .ok (.aload_n 0, 1) := by decide +kernel
theorem dX10_riverWord_31 : decode cX10_riverWord 31 = .ok (.iload_n 1, 1) := by decide +kernel
theorem dX10_riverWord_32 : decode cX10_riverWord 32 = .ok (.iload_n 2, 1) := by decide +kernel
theorem dX10_riverWord_33 : decode cX10_riverWord 33 = .ok (.ldc 78, 2) := by decide +kernel
theorem dX10_riverWord_35 : decode cX10_riverWord 35 = .ok (.invokestatic 72, 3) := by decide +kernel
theorem dX10_riverWord_38 : decode cX10_riverWord 38 = .ok (.ifCond .eq 7, 3) := by decide +kernel
theorem dX10_riverWord_41 : decode cX10_riverWord 41 = .ok (.sipush 258, 3) := by decide +kernel
theorem dX10_riverWord_44 : decode cX10_riverWord 44 = .ok (.ireturn, 1) := by decide +kernel
theorem dX10_riverWord_45 : decode cX10_riverWord 45 = .ok (.aload_n 0, 1) := by decide +kernel
theorem dX10_riverWord_46 : decode cX10_riverWord 46 = .ok (.iload_n 1, 1) := by decide +kernel
theorem dX10_riverWord_47 : decode cX10_riverWord 47 = .ok (.iload_n 2, 1) := by decide +kernel
theorem dX10_riverWord_48 : decode cX10_riverWord 48 = .ok (.ldc 80, 2) := by decide +kernel
theorem dX10_riverWord_50 : decode cX10_riverWord 50 = .ok (.invokestatic 72, 3) := by decide +kernel
theorem dX10_riverWord_53 : decode cX10_riverWord 53 = .ok (.ifCond .eq 7, 3) := by decide +kernel
theorem dX10_riverWord_56 : decode cX10_riverWord 56 = .ok (.sipush 259, 3) := by decide +kernel
