/-! Methods of the JDK. -/
theorem eJ0_length_8abf5_0 : zD KJ0_length_8abf5 0 (.aload_n 0) 1 1 := ⟨(by decide +kernel : decode cJ0_length_8abf5 0 = .ok (.aload_n 0, 1)), rfl⟩
theorem eJ0_length_8abf5_1 : zD KJ0_length_8abf5 1 (.getfield 9) 3 4 := ⟨(by decide +kernel : decode cJ0_length_8abf5 1 = .ok (.getfield 9, 3)), rfl⟩
theorem eJ0_length_8abf5_4 : zD KJ0_length_8abf5 4 (.arraylength) 1 5 := ⟨(by decide +kernel : decode cJ0_length_8abf5 4 = .ok (.arraylength, 1)), rfl⟩
theorem eJ0_length_8abf5_5 : zD KJ0_length_8abf5 5 (.aload_n 0) 1 6 := ⟨(by decide +kernel : decode cJ0_length_8abf5 5 = .ok (.aload_n 0, 1)), rfl⟩
theorem eJ0_length_8abf5_6 : zD KJ0_length_8abf5 6 (.invokevirtual 335) 3 9 := ⟨(by decide +kernel : decode cJ0_length_8abf5 6 = .ok (.invokevirtual 335, 3)), rfl⟩
theorem eJ0_length_8abf5_9 : zD KJ0_length_8abf5 9 (.ishr) 1 10 := ⟨(by decide +kernel : decode cJ0_length_8abf5 9 = .ok (.ishr, 1)), rfl⟩
theorem eJ0_length_8abf5_10 : zD KJ0_length_8abf5 10 (.ireturn) 1 11 := ⟨(by decide +kernel : decode cJ0_length_8abf5 10 = .ok (.ireturn, 1)), rfl⟩
theorem eJ0_coder_7d493_0 : zD KJ0_coder_7d493 0 (.getstatic 38) 3 3 := ⟨(by decide +kernel : decode cJ0_coder_7d493 0 = .ok (.getstatic 38, 3)), rfl⟩
theorem eJ0_coder_7d493_3 : zD KJ0_coder_7d493 3 (.ifCond .eq 10) 3 6 := ⟨(by decide +kernel : decode cJ0_coder_7d493 3 = .ok (.ifCond .eq 10, 3)), rfl⟩
theorem eJ0_coder_7d493_6 : zD KJ0_coder_7d493 6 (.aload_n 0) 1 7 := ⟨(by decide +kernel : decode cJ0_coder_7d493 6 = .ok (.aload_n 0, 1)), rfl⟩
theorem eJ0_coder_7d493_7 : zD KJ0_coder_7d493 7 (.getfield 15) 3 10 := ⟨(by decide +kernel : decode cJ0_coder_7d493 7 = .ok (.getfield 15, 3)), rfl⟩
theorem eJ0_coder_7d493_10 : zD KJ0_coder_7d493 10 (.goto 4) 3 13 := ⟨(by decide +kernel : decode cJ0_coder_7d493 10 = .ok (.goto 4, 3)), rfl⟩
theorem eJ0_coder_7d493_13 : zD KJ0_coder_7d493 13 (.iconst 1) 1 14 := ⟨(by decide +kernel : decode cJ0_coder_7d493 13 = .ok (.iconst 1, 1)), rfl⟩
theorem eJ0_coder_7d493_14 : zD KJ0_coder_7d493 14 (.ireturn) 1 15 := ⟨(by decide +kernel : decode cJ0_coder_7d493 14 = .ok (.ireturn, 1)), rfl⟩
theorem eJ0_isLatin1_aae02_0 : zD KJ0_isLatin1_aae02 0 (.getstatic 38) 3 3 := ⟨(by decide +kernel : decode cJ0_isLatin1_aae02 0 = .ok (.getstatic 38, 3)), rfl⟩
theorem eJ0_isLatin1_aae02_3 : zD KJ0_isLatin1_aae02 3 (.ifCond .eq 14) 3 6 := ⟨(by decide +kernel : decode cJ0_isLatin1_aae02 3 = .ok (.ifCond .eq 14, 3)), rfl⟩
theorem eJ0_isLatin1_aae02_6 : zD KJ0_isLatin1_aae02 6 (.aload_n 0) 1 7 := ⟨(by decide +kernel : decode cJ0_isLatin1_aae02 6 = .ok (.aload_n 0, 1)), rfl⟩
theorem eJ0_isLatin1_aae02_7 : zD KJ0_isLatin1_aae02 7 (.getfield 15) 3 10 := ⟨(by decide +kernel : decode cJ0_isLatin1_aae02 7 = .ok (.getfield 15, 3)), rfl⟩
theorem eJ0_isLatin1_aae02_10 : zD KJ0_isLatin1_aae02 10 (.ifCond .ne 7) 3 13 := ⟨(by decide +kernel : decode cJ0_isLatin1_aae02 10 = .ok (.ifCond .ne 7, 3)), rfl⟩
theorem eJ0_isLatin1_aae02_13 : zD KJ0_isLatin1_aae02 13 (.iconst 1) 1 14 := ⟨(by decide +kernel : decode cJ0_isLatin1_aae02 13 = .ok (.iconst 1, 1)), rfl⟩
theorem eJ0_isLatin1_aae02_14 : zD KJ0_isLatin1_aae02 14 (.goto 4) 3 17 := ⟨(by decide +kernel : decode cJ0_isLatin1_aae02 14 = .ok (.goto 4, 3)), rfl⟩
theorem eJ0_isLatin1_aae02_17 : zD KJ0_isLatin1_aae02 17 (.iconst 0) 1 18 := ⟨(by decide +kernel : decode cJ0_isLatin1_aae02 17 = .ok (.iconst 0, 1)), rfl⟩
theorem eJ0_isLatin1_aae02_18 : zD KJ0_isLatin1_aae02 18 (.ireturn) 1 19 := ⟨(by decide +kernel : decode cJ0_isLatin1_aae02 18 = .ok (.ireturn, 1)), rfl⟩
theorem eJ0_charAt_5068e_0 : zD KJ0_charAt_5068e 0 (.aload_n 0) 1 1 := ⟨(by decide +kernel : decode cJ0_charAt_5068e 0 = .ok (.aload_n 0, 1)), rfl⟩
theorem eJ0_charAt_5068e_1 : zD KJ0_charAt_5068e 1 (.invokevirtual 492) 3 4 := ⟨(by decide +kernel : decode cJ0_charAt_5068e 1 = .ok (.invokevirtual 492, 3)), rfl⟩
theorem eJ0_charAt_5068e_4 : zD KJ0_charAt_5068e 4 (.ifCond .eq 12) 3 7 := ⟨(by decide +kernel : decode cJ0_charAt_5068e 4 = .ok (.ifCond .eq 12, 3)), rfl⟩
theorem eJ0_charAt_5068e_7 : zD KJ0_charAt_5068e 7 (.aload_n 0) 1 8 := ⟨(by decide +kernel : decode cJ0_charAt_5068e 7 = .ok (.aload_n 0, 1)), rfl⟩
theorem eJ0_charAt_5068e_8 : zD KJ0_charAt_5068e 8 (.getfield 9) 3 11 := ⟨(by decide +kernel : decode cJ0_charAt_5068e 8 = .ok (.getfield 9, 3)), rfl⟩
theorem eJ0_charAt_5068e_11 : zD KJ0_charAt_5068e 11 (.iload_n 1) 1 12 := ⟨(by decide +kernel : decode cJ0_charAt_5068e 11 = .ok (.iload_n 1, 1)), rfl⟩
theorem eJ0_charAt_5068e_12 : zD KJ0_charAt_5068e 12 (.invokestatic 495) 3 15 := ⟨(by decide +kernel : decode cJ0_charAt_5068e 12 = .ok (.invokestatic 495, 3)), rfl⟩
theorem eJ0_charAt_5068e_15 : zD KJ0_charAt_5068e 15 (.ireturn) 1 16 := ⟨(by decide +kernel : decode cJ0_charAt_5068e 15 = .ok (.ireturn, 1)), rfl⟩
theorem eJ0_checkIndex_df160_0 : zD KJ0_checkIndex_df160 0 (.iload_n 0) 1 1 := ⟨(by decide +kernel : decode cJ0_checkIndex_df160 0 = .ok (.iload_n 0, 1)), rfl⟩
theorem eJ0_checkIndex_df160_1 : zD KJ0_checkIndex_df160 1 (.iload_n 1) 1 2 := ⟨(by decide +kernel : decode cJ0_checkIndex_df160 1 = .ok (.iload_n 1, 1)), rfl⟩
theorem eJ0_checkIndex_df160_2 : zD KJ0_checkIndex_df160 2 (.getstatic 1053) 3 5 := ⟨(by decide +kernel : decode cJ0_checkIndex_df160 2 = .ok (.getstatic 1053, 3)), rfl⟩
theorem eJ0_checkIndex_df160_5 : zD KJ0_checkIndex_df160 5 (.invokestatic 1059) 3 8 := ⟨(by decide +kernel : decode cJ0_checkIndex_df160 5 = .ok (.invokestatic 1059, 3)), rfl⟩
theorem eJ0_checkIndex_df160_8 : zD KJ0_checkIndex_df160 8 (.pop) 1 9 := ⟨(by decide +kernel : decode cJ0_checkIndex_df160 8 = .ok (.pop, 1)), rfl⟩
theorem eJ0_checkIndex_df160_9 : zD KJ0_checkIndex_df160 9 (.return_) 1 10 := ⟨(by decide +kernel : decode cJ0_checkIndex_df160 9 = .ok (.return_, 1)), rfl⟩
theorem eJ1_charAt_3b067_0 : zD KJ1_charAt_3b067 0 (.iload_n 1) 1 1 := ⟨(by decide +kernel : decode cJ1_charAt_3b067 0 = .ok (.iload_n 1, 1)), rfl⟩
theorem eJ1_charAt_3b067_1 : zD KJ1_charAt_3b067 1 (.aload_n 0) 1 2 := ⟨(by decide +kernel : decode cJ1_charAt_3b067 1 = .ok (.aload_n 0, 1)), rfl⟩
theorem eJ1_charAt_3b067_2 : zD KJ1_charAt_3b067 2 (.arraylength) 1 3 := ⟨(by decide +kernel : decode cJ1_charAt_3b067 2 = .ok (.arraylength, 1)), rfl⟩
theorem eJ1_charAt_3b067_3 : zD KJ1_charAt_3b067 3 (.invokestatic 9) 3 6 := ⟨(by decide +kernel : decode cJ1_charAt_3b067 3 = .ok (.invokestatic 9, 3)), rfl⟩
theorem eJ1_charAt_3b067_6 : zD KJ1_charAt_3b067 6 (.aload_n 0) 1 7 := ⟨(by decide +kernel : decode cJ1_charAt_3b067 6 = .ok (.aload_n 0, 1)), rfl⟩
theorem eJ1_charAt_3b067_7 : zD KJ1_charAt_3b067 7 (.iload_n 1) 1 8 := ⟨(by decide +kernel : decode cJ1_charAt_3b067 7 = .ok (.iload_n 1, 1)), rfl⟩
theorem eJ1_charAt_3b067_8 : zD KJ1_charAt_3b067 8 (.baload) 1 9 := ⟨(by decide +kernel : decode cJ1_charAt_3b067 8 = .ok (.baload, 1)), rfl⟩
theorem eJ1_charAt_3b067_9 : zD KJ1_charAt_3b067 9 (.sipush 255) 3 12 := ⟨(by decide +kernel : decode cJ1_charAt_3b067 9 = .ok (.sipush 255, 3)), rfl⟩
theorem eJ1_charAt_3b067_12 : zD KJ1_charAt_3b067 12 (.iand) 1 13 := ⟨(by decide +kernel : decode cJ1_charAt_3b067 12 = .ok (.iand, 1)), rfl⟩
theorem eJ1_charAt_3b067_13 : zD KJ1_charAt_3b067 13 (.i2c) 1 14 := ⟨(by decide +kernel : decode cJ1_charAt_3b067 13 = .ok (.i2c, 1)), rfl⟩
theorem eJ1_charAt_3b067_14 : zD KJ1_charAt_3b067 14 (.ireturn) 1 15 := ⟨(by decide +kernel : decode cJ1_charAt_3b067 14 = .ok (.ireturn, 1)), rfl⟩
theorem eJ3_checkIndex_8e157_0 : zD KJ3_checkIndex_8e157 0 (.iload_n 0) 1 1 := ⟨(by decide +kernel : decode cJ3_checkIndex_8e157 0 = .ok (.iload_n 0, 1)), rfl⟩
theorem eJ3_checkIndex_8e157_1 : zD KJ3_checkIndex_8e157 1 (.ifCond .lt 8) 3 4 := ⟨(by decide +kernel : decode cJ3_checkIndex_8e157 1 = .ok (.ifCond .lt 8, 3)), rfl⟩
theorem eJ3_checkIndex_8e157_4 : zD KJ3_checkIndex_8e157 4 (.iload_n 0) 1 5 := ⟨(by decide +kernel : decode cJ3_checkIndex_8e157 4 = .ok (.iload_n 0, 1)), rfl⟩
theorem eJ3_checkIndex_8e157_5 : zD KJ3_checkIndex_8e157 5 (.iload_n 1) 1 6 := ⟨(by decide +kernel : decode cJ3_checkIndex_8e157 5 = .ok (.iload_n 1, 1)), rfl⟩
theorem eJ3_checkIndex_8e157_6 : zD KJ3_checkIndex_8e157 6 (.if_icmp .lt 10) 3 9 := ⟨(by decide +kernel : decode cJ3_checkIndex_8e157 6 = .ok (.if_icmp .lt 10, 3)), rfl⟩
theorem eJ3_checkIndex_8e157_16 : zD KJ3_checkIndex_8e157 16 (.iload_n 0) 1 17 := ⟨(by decide +kernel : decode cJ3_checkIndex_8e157 16 = .ok (.iload_n 0, 1)), rfl⟩
theorem eJ3_checkIndex_8e157_17 : zD KJ3_checkIndex_8e157 17 (.ireturn) 1 18 := ⟨(by decide +kernel : decode cJ3_checkIndex_8e157 17 = .ok (.ireturn, 1)), rfl⟩
theorem eJ7_fill_53178_0 : zD KJ7_fill_53178 0 (.iconst 0) 1 1 := ⟨(by decide +kernel : decode cJ7_fill_53178 0 = .ok (.iconst 0, 1)), rfl⟩
theorem eJ7_fill_53178_1 : zD KJ7_fill_53178 1 (.istore_n 2) 1 2 := ⟨(by decide +kernel : decode cJ7_fill_53178 1 = .ok (.istore_n 2, 1)), rfl⟩
theorem eJ7_fill_53178_2 : zD KJ7_fill_53178 2 (.aload_n 0) 1 3 := ⟨(by decide +kernel : decode cJ7_fill_53178 2 = .ok (.aload_n 0, 1)), rfl⟩
theorem eJ7_fill_53178_3 : zD KJ7_fill_53178 3 (.arraylength) 1 4 := ⟨(by decide +kernel : decode cJ7_fill_53178 3 = .ok (.arraylength, 1)), rfl⟩
theorem eJ7_fill_53178_4 : zD KJ7_fill_53178 4 (.istore_n 3) 1 5 := ⟨(by decide +kernel : decode cJ7_fill_53178 4 = .ok (.istore_n 3, 1)), rfl⟩
theorem eJ7_fill_53178_5 : zD KJ7_fill_53178 5 (.iload_n 2) 1 6 := ⟨(by decide +kernel : decode cJ7_fill_53178 5 = .ok (.iload_n 2, 1)), rfl⟩
theorem eJ7_fill_53178_6 : zD KJ7_fill_53178 6 (.iload_n 3) 1 7 := ⟨(by decide +kernel : decode cJ7_fill_53178 6 = .ok (.iload_n 3, 1)), rfl⟩
theorem eJ7_fill_53178_7 : zD KJ7_fill_53178 7 (.if_icmp .ge 13) 3 10 := ⟨(by decide +kernel : decode cJ7_fill_53178 7 = .ok (.if_icmp .ge 13, 3)), rfl⟩
theorem eJ7_fill_53178_10 : zD KJ7_fill_53178 10 (.aload_n 0) 1 11 := ⟨(by decide +kernel : decode cJ7_fill_53178 10 = .ok (.aload_n 0, 1)), rfl⟩
theorem eJ7_fill_53178_11 : zD KJ7_fill_53178 11 (.iload_n 2) 1 12 := ⟨(by decide +kernel : decode cJ7_fill_53178 11 = .ok (.iload_n 2, 1)), rfl⟩
theorem eJ7_fill_53178_12 : zD KJ7_fill_53178 12 (.iload_n 1) 1 13 := ⟨(by decide +kernel : decode cJ7_fill_53178 12 = .ok (.iload_n 1, 1)), rfl⟩
theorem eJ7_fill_53178_13 : zD KJ7_fill_53178 13 (.iastore) 1 14 := ⟨(by decide +kernel : decode cJ7_fill_53178 13 = .ok (.iastore, 1)), rfl⟩
theorem eJ7_fill_53178_14 : zD KJ7_fill_53178 14 (.iinc 2 1) 3 17 := ⟨(by decide +kernel : decode cJ7_fill_53178 14 = .ok (.iinc 2 1, 3)), rfl⟩
theorem eJ7_fill_53178_17 : zD KJ7_fill_53178 17 (.goto (-12)) 3 20 := ⟨(by decide +kernel : decode cJ7_fill_53178 17 = .ok (.goto (-12), 3)), rfl⟩
theorem eJ7_fill_53178_20 : zD KJ7_fill_53178 20 (.return_) 1 21 := ⟨(by decide +kernel : decode cJ7_fill_53178 20 = .ok (.return_, 1)), rfl⟩
theorem eJ6_bitCount_0f7a4_0 : zD KJ6_bitCount_0f7a4 0 (.iload_n 0) 1 1 := ⟨(by decide +kernel : decode cJ6_bitCount_0f7a4 0 = .ok (.iload_n 0, 1)), rfl⟩
theorem eJ6_bitCount_0f7a4_1 : zD KJ6_bitCount_0f7a4 1 (.iload_n 0) 1 2 := ⟨(by decide +kernel : decode cJ6_bitCount_0f7a4 1 = .ok (.iload_n 0, 1)), rfl⟩
theorem eJ6_bitCount_0f7a4_2 : zD KJ6_bitCount_0f7a4 2 (.iconst 1) 1 3 := ⟨(by decide +kernel : decode cJ6_bitCount_0f7a4 2 = .ok (.iconst 1, 1)), rfl⟩
theorem eJ6_bitCount_0f7a4_3 : zD KJ6_bitCount_0f7a4 3 (.iushr) 1 4 := ⟨(by decide +kernel : decode cJ6_bitCount_0f7a4 3 = .ok (.iushr, 1)), rfl⟩
theorem eJ6_bitCount_0f7a4_4 : zD KJ6_bitCount_0f7a4 4 (.ldc_w 265) 3 7 := ⟨(by decide +kernel : decode cJ6_bitCount_0f7a4 4 = .ok (.ldc_w 265, 3)), rfl⟩
theorem eJ6_bitCount_0f7a4_7 : zD KJ6_bitCount_0f7a4 7 (.iand) 1 8 := ⟨(by decide +kernel : decode cJ6_bitCount_0f7a4 7 = .ok (.iand, 1)), rfl⟩
theorem eJ6_bitCount_0f7a4_8 : zD KJ6_bitCount_0f7a4 8 (.isub) 1 9 := ⟨(by decide +kernel : decode cJ6_bitCount_0f7a4 8 = .ok (.isub, 1)), rfl⟩
theorem eJ6_bitCount_0f7a4_9 : zD KJ6_bitCount_0f7a4 9 (.istore_n 0) 1 10 := ⟨(by decide +kernel : decode cJ6_bitCount_0f7a4 9 = .ok (.istore_n 0, 1)), rfl⟩
theorem eJ6_bitCount_0f7a4_10 : zD KJ6_bitCount_0f7a4 10 (.iload_n 0) 1 11 := ⟨(by decide +kernel : decode cJ6_bitCount_0f7a4 10 = .ok (.iload_n 0, 1)), rfl⟩
theorem eJ6_bitCount_0f7a4_11 : zD KJ6_bitCount_0f7a4 11 (.ldc_w 266) 3 14 := ⟨(by decide +kernel : decode cJ6_bitCount_0f7a4 11 = .ok (.ldc_w 266, 3)), rfl⟩
theorem eJ6_bitCount_0f7a4_14 : zD KJ6_bitCount_0f7a4 14 (.iand) 1 15 := ⟨(by decide +kernel : decode cJ6_bitCount_0f7a4 14 = .ok (.iand, 1)), rfl⟩
theorem eJ6_bitCount_0f7a4_15 : zD KJ6_bitCount_0f7a4 15 (.iload_n 0) 1 16 := ⟨(by decide +kernel : decode cJ6_bitCount_0f7a4 15 = .ok (.iload_n 0, 1)), rfl⟩
theorem eJ6_bitCount_0f7a4_16 : zD KJ6_bitCount_0f7a4 16 (.iconst 2) 1 17 := ⟨(by decide +kernel : decode cJ6_bitCount_0f7a4 16 = .ok (.iconst 2, 1)), rfl⟩
theorem eJ6_bitCount_0f7a4_17 : zD KJ6_bitCount_0f7a4 17 (.iushr) 1 18 := ⟨(by decide +kernel : decode cJ6_bitCount_0f7a4 17 = .ok (.iushr, 1)), rfl⟩
theorem eJ6_bitCount_0f7a4_18 : zD KJ6_bitCount_0f7a4 18 (.ldc_w 266) 3 21 := ⟨(by decide +kernel : decode cJ6_bitCount_0f7a4 18 = .ok (.ldc_w 266, 3)), rfl⟩
theorem eJ6_bitCount_0f7a4_21 : zD KJ6_bitCount_0f7a4 21 (.iand) 1 22 := ⟨(by decide +kernel : decode cJ6_bitCount_0f7a4 21 = .ok (.iand, 1)), rfl⟩
theorem eJ6_bitCount_0f7a4_22 : zD KJ6_bitCount_0f7a4 22 (.iadd) 1 23 := ⟨(by decide +kernel : decode cJ6_bitCount_0f7a4 22 = .ok (.iadd, 1)), rfl⟩
theorem eJ6_bitCount_0f7a4_23 : zD KJ6_bitCount_0f7a4 23 (.istore_n 0) 1 24 := ⟨(by decide +kernel : decode cJ6_bitCount_0f7a4 23 = .ok (.istore_n 0, 1)), rfl⟩
theorem eJ6_bitCount_0f7a4_24 : zD KJ6_bitCount_0f7a4 24 (.iload_n 0) 1 25 := ⟨(by decide +kernel : decode cJ6_bitCount_0f7a4 24 = .ok (.iload_n 0, 1)), rfl⟩
theorem eJ6_bitCount_0f7a4_25 : zD KJ6_bitCount_0f7a4 25 (.iload_n 0) 1 26 := ⟨(by decide +kernel : decode cJ6_bitCount_0f7a4 25 = .ok (.iload_n 0, 1)), rfl⟩
theorem eJ6_bitCount_0f7a4_26 : zD KJ6_bitCount_0f7a4 26 (.iconst 4) 1 27 := ⟨(by decide +kernel : decode cJ6_bitCount_0f7a4 26 = .ok (.iconst 4, 1)), rfl⟩
theorem eJ6_bitCount_0f7a4_27 : zD KJ6_bitCount_0f7a4 27 (.iushr) 1 28 := ⟨(by decide +kernel : decode cJ6_bitCount_0f7a4 27 = .ok (.iushr, 1)), rfl⟩
theorem eJ6_bitCount_0f7a4_28 : zD KJ6_bitCount_0f7a4 28 (.iadd) 1 29 := ⟨(by decide +kernel : decode cJ6_bitCount_0f7a4 28 = .ok (.iadd, 1)), rfl⟩
theorem eJ6_bitCount_0f7a4_29 : zD KJ6_bitCount_0f7a4 29 (.ldc_w 267) 3 32 := ⟨(by decide +kernel : decode cJ6_bitCount_0f7a4 29 = .ok (.ldc_w 267, 3)), rfl⟩
theorem eJ6_bitCount_0f7a4_32 : zD KJ6_bitCount_0f7a4 32 (.iand) 1 33 := ⟨(by decide +kernel : decode cJ6_bitCount_0f7a4 32 = .ok (.iand, 1)), rfl⟩
theorem eJ6_bitCount_0f7a4_33 : zD KJ6_bitCount_0f7a4 33 (.istore_n 0) 1 34 := ⟨(by decide +kernel : decode cJ6_bitCount_0f7a4 33 = .ok (.istore_n 0, 1)), rfl⟩
theorem eJ6_bitCount_0f7a4_34 : zD KJ6_bitCount_0f7a4 34 (.iload_n 0) 1 35 := ⟨(by decide +kernel : decode cJ6_bitCount_0f7a4 34 = .ok (.iload_n 0, 1)), rfl⟩
theorem eJ6_bitCount_0f7a4_35 : zD KJ6_bitCount_0f7a4 35 (.iload_n 0) 1 36 := ⟨(by decide +kernel : decode cJ6_bitCount_0f7a4 35 = .ok (.iload_n 0, 1)), rfl⟩
theorem eJ6_bitCount_0f7a4_36 : zD KJ6_bitCount_0f7a4 36 (.bipush 8) 2 38 := ⟨(by decide +kernel : decode cJ6_bitCount_0f7a4 36 = .ok (.bipush 8, 2)), rfl⟩
theorem eJ6_bitCount_0f7a4_38 : zD KJ6_bitCount_0f7a4 38 (.iushr) 1 39 := ⟨(by decide +kernel : decode cJ6_bitCount_0f7a4 38 = .ok (.iushr, 1)), rfl⟩
theorem eJ6_bitCount_0f7a4_39 : zD KJ6_bitCount_0f7a4 39 (.iadd) 1 40 := ⟨(by decide +kernel : decode cJ6_bitCount_0f7a4 39 = .ok (.iadd, 1)), rfl⟩
theorem eJ6_bitCount_0f7a4_40 : zD KJ6_bitCount_0f7a4 40 (.istore_n 0) 1 41 := ⟨(by decide +kernel : decode cJ6_bitCount_0f7a4 40 = .ok (.istore_n 0, 1)), rfl⟩
theorem eJ6_bitCount_0f7a4_41 : zD KJ6_bitCount_0f7a4 41 (.iload_n 0) 1 42 := ⟨(by decide +kernel : decode cJ6_bitCount_0f7a4 41 = .ok (.iload_n 0, 1)), rfl⟩
theorem eJ6_bitCount_0f7a4_42 : zD KJ6_bitCount_0f7a4 42 (.iload_n 0) 1 43 := ⟨(by decide +kernel : decode cJ6_bitCount_0f7a4 42 = .ok (.iload_n 0, 1)), rfl⟩
theorem eJ6_bitCount_0f7a4_43 : zD KJ6_bitCount_0f7a4 43 (.bipush 16) 2 45 := ⟨(by decide +kernel : decode cJ6_bitCount_0f7a4 43 = .ok (.bipush 16, 2)), rfl⟩
theorem eJ6_bitCount_0f7a4_45 : zD KJ6_bitCount_0f7a4 45 (.iushr) 1 46 := ⟨(by decide +kernel : decode cJ6_bitCount_0f7a4 45 = .ok (.iushr, 1)), rfl⟩
theorem eJ6_bitCount_0f7a4_46 : zD KJ6_bitCount_0f7a4 46 (.iadd) 1 47 := ⟨(by decide +kernel : decode cJ6_bitCount_0f7a4 46 = .ok (.iadd, 1)), rfl⟩
theorem eJ6_bitCount_0f7a4_47 : zD KJ6_bitCount_0f7a4 47 (.istore_n 0) 1 48 := ⟨(by decide +kernel : decode cJ6_bitCount_0f7a4 47 = .ok (.istore_n 0, 1)), rfl⟩
theorem eJ6_bitCount_0f7a4_48 : zD KJ6_bitCount_0f7a4 48 (.iload_n 0) 1 49 := ⟨(by decide +kernel : decode cJ6_bitCount_0f7a4 48 = .ok (.iload_n 0, 1)), rfl⟩
theorem eJ6_bitCount_0f7a4_49 : zD KJ6_bitCount_0f7a4 49 (.bipush 63) 2 51 := ⟨(by decide +kernel : decode cJ6_bitCount_0f7a4 49 = .ok (.bipush 63, 2)), rfl⟩
theorem eJ6_bitCount_0f7a4_51 : zD KJ6_bitCount_0f7a4 51 (.iand) 1 52 := ⟨(by decide +kernel : decode cJ6_bitCount_0f7a4 51 = .ok (.iand, 1)), rfl⟩
theorem eJ6_bitCount_0f7a4_52 : zD KJ6_bitCount_0f7a4 52 (.ireturn) 1 53 := ⟨(by decide +kernel : decode cJ6_bitCount_0f7a4 52 = .ok (.ireturn, 1)), rfl⟩
def jL0 : List (Nat × Cond) := [(842, .code yJ0_length_8abf5 cJ0_length_8abf5 1 (some .int)), (139, .initialized RJ0), (846, .code yJ0_coder_7d493 cJ0_coder_7d493 1 (some .byte)), (856, .code yJ0_isLatin1_aae02 cJ0_isLatin1_aae02 1 (some .boolean)), (852, .code yJ0_charAt_5068e cJ0_charAt_5068e 2 (some .char)), (862, .code yJ0_checkIndex_df160 cJ0_checkIndex_df160 2 none), (859, .code yJ1_charAt_3b067 cJ1_charAt_3b067 2 (some .char)), (140, .initialized RJ1), (867, .code yJ3_checkIndex_8e157 cJ3_checkIndex_8e157 3 (some .int)), (141, .initialized RJ3), (168, .code yJ7_fill_53178 cJ7_fill_53178 4 none), (125, .initialized RJ7), (616, .code yJ6_bitCount_0f7a4 cJ6_bitCount_0f7a4 1 (some .int)), (150, .initialized RJ6), (843, .methodLink RJ0 335 yJ0_coder_7d493), (844, .instanceMethod yJ0_coder_7d493), (845, .selects RJ0 yJ0_coder_7d493 yJ0_coder_7d493), (853, .methodLink RJ0 492 yJ0_isLatin1_aae02), (854, .instanceMethod yJ0_isLatin1_aae02), (855, .selects RJ0 yJ0_isLatin1_aae02 yJ0_isLatin1_aae02), (857, .methodLink RJ0 495 yJ1_charAt_3b067), (858, .static yJ1_charAt_3b067), (860, .methodLink RJ1 9 yJ0_checkIndex_df160), (861, .static yJ0_checkIndex_df160)]
set_option maxRecDepth 100000 in
theorem jK0 : ∀ q ∈ jL0, lw_tbl[q.1]? = some q.2 ∧ goodWord q.2 = true := by decide +kernel
theorem j0 : .code yJ0_length_8abf5 cJ0_length_8abf5 1 (some .int) ∈ zTg := zin_of (jK0 _ (List.mem_of_getElem? (i := 0) (show jL0[0]? = some (842, .code yJ0_length_8abf5 cJ0_length_8abf5 1 (some .int)) from rfl)))
theorem j1 : .initialized RJ0 ∈ zTg := zin_of (jK0 _ (List.mem_of_getElem? (i := 1) (show jL0[1]? = some (139, .initialized RJ0) from rfl)))
theorem j2 : .code yJ0_coder_7d493 cJ0_coder_7d493 1 (some .byte) ∈ zTg := zin_of (jK0 _ (List.mem_of_getElem? (i := 2) (show jL0[2]? = some (846, .code yJ0_coder_7d493 cJ0_coder_7d493 1 (some .byte)) from rfl)))
theorem j3 : .code yJ0_isLatin1_aae02 cJ0_isLatin1_aae02 1 (some .boolean) ∈ zTg := zin_of (jK0 _ (List.mem_of_getElem? (i := 3) (show jL0[3]? = some (856, .code yJ0_isLatin1_aae02 cJ0_isLatin1_aae02 1 (some .boolean)) from rfl)))
theorem j4 : .code yJ0_charAt_5068e cJ0_charAt_5068e 2 (some .char) ∈ zTg := zin_of (jK0 _ (List.mem_of_getElem? (i := 4) (show jL0[4]? = some (852, .code yJ0_charAt_5068e cJ0_charAt_5068e 2 (some .char)) from rfl)))
theorem j5 : .code yJ0_checkIndex_df160 cJ0_checkIndex_df160 2 none ∈ zTg := zin_of (jK0 _ (List.mem_of_getElem? (i := 5) (show jL0[5]? = some (862, .code yJ0_checkIndex_df160 cJ0_checkIndex_df160 2 none) from rfl)))
theorem j6 : .code yJ1_charAt_3b067 cJ1_charAt_3b067 2 (some .char) ∈ zTg := zin_of (jK0 _ (List.mem_of_getElem? (i := 6) (show jL0[6]? = some (859, .code yJ1_charAt_3b067 cJ1_charAt_3b067 2 (some .char)) from rfl)))
theorem j7 : .initialized RJ1 ∈ zTg := zin_of (jK0 _ (List.mem_of_getElem? (i := 7) (show jL0[7]? = some (140, .initialized RJ1) from rfl)))
theorem j8 : .code yJ3_checkIndex_8e157 cJ3_checkIndex_8e157 3 (some .int) ∈ zTg := zin_of (jK0 _ (List.mem_of_getElem? (i := 8) (show jL0[8]? = some (867, .code yJ3_checkIndex_8e157 cJ3_checkIndex_8e157 3 (some .int)) from rfl)))
theorem j9 : .initialized RJ3 ∈ zTg := zin_of (jK0 _ (List.mem_of_getElem? (i := 9) (show jL0[9]? = some (141, .initialized RJ3) from rfl)))
theorem j10 : .code yJ7_fill_53178 cJ7_fill_53178 4 none ∈ zTg := zin_of (jK0 _ (List.mem_of_getElem? (i := 10) (show jL0[10]? = some (168, .code yJ7_fill_53178 cJ7_fill_53178 4 none) from rfl)))
theorem j11 : .initialized RJ7 ∈ zTg := zin_of (jK0 _ (List.mem_of_getElem? (i := 11) (show jL0[11]? = some (125, .initialized RJ7) from rfl)))
theorem j12 : .code yJ6_bitCount_0f7a4 cJ6_bitCount_0f7a4 1 (some .int) ∈ zTg := zin_of (jK0 _ (List.mem_of_getElem? (i := 12) (show jL0[12]? = some (616, .code yJ6_bitCount_0f7a4 cJ6_bitCount_0f7a4 1 (some .int)) from rfl)))
theorem j13 : .initialized RJ6 ∈ zTg := zin_of (jK0 _ (List.mem_of_getElem? (i := 13) (show jL0[13]? = some (150, .initialized RJ6) from rfl)))
theorem j14 : .methodLink RJ0 335 yJ0_coder_7d493 ∈ zTg := zin_of (jK0 _ (List.mem_of_getElem? (i := 14) (show jL0[14]? = some (843, .methodLink RJ0 335 yJ0_coder_7d493) from rfl)))
theorem j15 : .instanceMethod yJ0_coder_7d493 ∈ zTg := zin_of (jK0 _ (List.mem_of_getElem? (i := 15) (show jL0[15]? = some (844, .instanceMethod yJ0_coder_7d493) from rfl)))
theorem j16 : .selects RJ0 yJ0_coder_7d493 yJ0_coder_7d493 ∈ zTg := zin_of (jK0 _ (List.mem_of_getElem? (i := 16) (show jL0[16]? = some (845, .selects RJ0 yJ0_coder_7d493 yJ0_coder_7d493) from rfl)))
theorem j17 : .methodLink RJ0 492 yJ0_isLatin1_aae02 ∈ zTg := zin_of (jK0 _ (List.mem_of_getElem? (i := 17) (show jL0[17]? = some (853, .methodLink RJ0 492 yJ0_isLatin1_aae02) from rfl)))
theorem j18 : .instanceMethod yJ0_isLatin1_aae02 ∈ zTg := zin_of (jK0 _ (List.mem_of_getElem? (i := 18) (show jL0[18]? = some (854, .instanceMethod yJ0_isLatin1_aae02) from rfl)))
theorem j19 : .selects RJ0 yJ0_isLatin1_aae02 yJ0_isLatin1_aae02 ∈ zTg := zin_of (jK0 _ (List.mem_of_getElem? (i := 19) (show jL0[19]? = some (855, .selects RJ0 yJ0_isLatin1_aae02 yJ0_isLatin1_aae02) from rfl)))
theorem j20 : .methodLink RJ0 495 yJ1_charAt_3b067 ∈ zTg := zin_of (jK0 _ (List.mem_of_getElem? (i := 20) (show jL0[20]? = some (857, .methodLink RJ0 495 yJ1_charAt_3b067) from rfl)))
theorem j21 : .static yJ1_charAt_3b067 ∈ zTg := zin_of (jK0 _ (List.mem_of_getElem? (i := 21) (show jL0[21]? = some (858, .static yJ1_charAt_3b067) from rfl)))
theorem j22 : .methodLink RJ1 9 yJ0_checkIndex_df160 ∈ zTg := zin_of (jK0 _ (List.mem_of_getElem? (i := 22) (show jL0[22]? = some (860, .methodLink RJ1 9 yJ0_checkIndex_df160) from rfl)))
theorem j23 : .static yJ0_checkIndex_df160 ∈ zTg := zin_of (jK0 _ (List.mem_of_getElem? (i := 23) (show jL0[23]? = some (861, .static yJ0_checkIndex_df160) from rfl)))
def jL1 : List (Nat × Cond) := [(865, .methodLink RJ0 1059 yJ3_checkIndex_8e157), (866, .static yJ3_checkIndex_8e157), (2431, .fieldLink RJ0 9 "java/lang/String" "value" "[B"), (2432, .fieldLink RJ0 15 "java/lang/String" "coder" "B"), (847, .fieldLink RJ0 38 "java/lang/String" "COMPACT_STRINGS" "Z"), (863, .fieldLink RJ0 1053 "jdk/internal/util/Preconditions" "SIOOBE_FORMATTER" "Ljava/util/function/BiFunction;"), (617, .constant RJ6 265 (Int32.ofInt 1431655765)), (618, .constant RJ6 266 (Int32.ofInt 858993459)), (619, .constant RJ6 267 (Int32.ofInt 252645135))]
set_option maxRecDepth 100000 in
theorem jK1 : ∀ q ∈ jL1, lw_tbl[q.1]? = some q.2 ∧ goodWord q.2 = true := by decide +kernel
theorem j24 : .methodLink RJ0 1059 yJ3_checkIndex_8e157 ∈ zTg := zin_of (jK1 _ (List.mem_of_getElem? (i := 0) (show jL1[0]? = some (865, .methodLink RJ0 1059 yJ3_checkIndex_8e157) from rfl)))
theorem j25 : .static yJ3_checkIndex_8e157 ∈ zTg := zin_of (jK1 _ (List.mem_of_getElem? (i := 1) (show jL1[1]? = some (866, .static yJ3_checkIndex_8e157) from rfl)))
theorem j26 : .fieldLink RJ0 9 "java/lang/String" "value" "[B" ∈ zTg := zin_of (jK1 _ (List.mem_of_getElem? (i := 2) (show jL1[2]? = some (2431, .fieldLink RJ0 9 "java/lang/String" "value" "[B") from rfl)))
theorem j27 : .fieldLink RJ0 15 "java/lang/String" "coder" "B" ∈ zTg := zin_of (jK1 _ (List.mem_of_getElem? (i := 3) (show jL1[3]? = some (2432, .fieldLink RJ0 15 "java/lang/String" "coder" "B") from rfl)))
theorem j28 : .fieldLink RJ0 38 "java/lang/String" "COMPACT_STRINGS" "Z" ∈ zTg := zin_of (jK1 _ (List.mem_of_getElem? (i := 4) (show jL1[4]? = some (847, .fieldLink RJ0 38 "java/lang/String" "COMPACT_STRINGS" "Z") from rfl)))
theorem j29 : .fieldLink RJ0 1053 "jdk/internal/util/Preconditions" "SIOOBE_FORMATTER" "Ljava/util/function/BiFunction;" ∈ zTg := zin_of (jK1 _ (List.mem_of_getElem? (i := 5) (show jL1[5]? = some (863, .fieldLink RJ0 1053 "jdk/internal/util/Preconditions" "SIOOBE_FORMATTER" "Ljava/util/function/BiFunction;") from rfl)))
theorem j30 : .constant RJ6 265 (Int32.ofInt 1431655765) ∈ zTg := zin_of (jK1 _ (List.mem_of_getElem? (i := 6) (show jL1[6]? = some (617, .constant RJ6 265 (Int32.ofInt 1431655765)) from rfl)))
theorem j31 : .constant RJ6 266 (Int32.ofInt 858993459) ∈ zTg := zin_of (jK1 _ (List.mem_of_getElem? (i := 7) (show jL1[7]? = some (618, .constant RJ6 266 (Int32.ofInt 858993459)) from rfl)))
theorem j32 : .constant RJ6 267 (Int32.ofInt 252645135) ∈ zTg := zin_of (jK1 _ (List.mem_of_getElem? (i := 8) (show jL1[8]? = some (619, .constant RJ6 267 (Int32.ofInt 252645135)) from rfl)))
theorem gJ0 : ∀ q ∈ ([(KJ0_length_8abf5, 0), (KJ0_coder_7d493, 0), (KJ0_isLatin1_aae02, 0), (KJ0_charAt_5068e, 1), (KJ0_checkIndex_df160, 2), (KJ1_charAt_3b067, 2), (KJ3_checkIndex_8e157, 3), (KJ7_fill_53178, 2), (KJ6_bitCount_0f7a4, 1)] : List (zK × Nat)), plainName q.1.1.cls = true ∧ (q.1.1.cls ≠ "java/lang/invoke/MethodHandle" ∧ q.1.1.cls ≠ "java/lang/invoke/VarHandle" ∧ (parseMethodDescriptor q.1.1.desc).map (fun d => d.parameters.length) = some q.2) ∧ q.1.2.2.1 ≤ 40 := by decide +kernel
theorem gJ0_length_8abf5 : zGood KJ0_length_8abf5 0 := by
  obtain ⟨h1, h2, h3⟩ := gJ0 (KJ0_length_8abf5, 0) (List.mem_of_getElem? (i := 0) rfl)
  exact ⟨h1, j0, h2, h3, j1⟩
theorem gJ0_coder_7d493 : zGood KJ0_coder_7d493 0 := by
  obtain ⟨h1, h2, h3⟩ := gJ0 (KJ0_coder_7d493, 0) (List.mem_of_getElem? (i := 1) rfl)
  exact ⟨h1, j2, h2, h3, j1⟩
theorem gJ0_isLatin1_aae02 : zGood KJ0_isLatin1_aae02 0 := by
  obtain ⟨h1, h2, h3⟩ := gJ0 (KJ0_isLatin1_aae02, 0) (List.mem_of_getElem? (i := 2) rfl)
  exact ⟨h1, j3, h2, h3, j1⟩
theorem gJ0_charAt_5068e : zGood KJ0_charAt_5068e 1 := by
  obtain ⟨h1, h2, h3⟩ := gJ0 (KJ0_charAt_5068e, 1) (List.mem_of_getElem? (i := 3) rfl)
  exact ⟨h1, j4, h2, h3, j1⟩
theorem gJ0_checkIndex_df160 : zGood KJ0_checkIndex_df160 2 := by
  obtain ⟨h1, h2, h3⟩ := gJ0 (KJ0_checkIndex_df160, 2) (List.mem_of_getElem? (i := 4) rfl)
  exact ⟨h1, j5, h2, h3, j1⟩
theorem gJ1_charAt_3b067 : zGood KJ1_charAt_3b067 2 := by
  obtain ⟨h1, h2, h3⟩ := gJ0 (KJ1_charAt_3b067, 2) (List.mem_of_getElem? (i := 5) rfl)
  exact ⟨h1, j6, h2, h3, j7⟩
theorem gJ3_checkIndex_8e157 : zGood KJ3_checkIndex_8e157 3 := by
  obtain ⟨h1, h2, h3⟩ := gJ0 (KJ3_checkIndex_8e157, 3) (List.mem_of_getElem? (i := 6) rfl)
  exact ⟨h1, j8, h2, h3, j9⟩
theorem gJ7_fill_53178 : zGood KJ7_fill_53178 2 := by
  obtain ⟨h1, h2, h3⟩ := gJ0 (KJ7_fill_53178, 2) (List.mem_of_getElem? (i := 7) rfl)
  exact ⟨h1, j10, h2, h3, j11⟩
theorem gJ6_bitCount_0f7a4 : zGood KJ6_bitCount_0f7a4 1 := by
  obtain ⟨h1, h2, h3⟩ := gJ0 (KJ6_bitCount_0f7a4, 1) (List.mem_of_getElem? (i := 8) rfl)
  exact ⟨h1, j12, h2, h3, j13⟩
theorem vJ0_335 : zMl RJ0 335 KJ0_coder_7d493 := ⟨j14, j15, j16⟩
theorem vJ0_492 : zMl RJ0 492 KJ0_isLatin1_aae02 := ⟨j17, j18, j19⟩
theorem vJ0_495 : zSc RJ0 495 KJ1_charAt_3b067 2 := ⟨gJ1_charAt_3b067, rfl, j20, j21⟩
theorem vJ1_9 : zSc RJ1 9 KJ0_checkIndex_df160 2 := ⟨gJ0_checkIndex_df160, rfl, j22, j23⟩
theorem vJ0_1059 : zSc RJ0 1059 KJ3_checkIndex_8e157 3 := ⟨gJ3_checkIndex_8e157, rfl, j24, j25⟩
theorem lJ0_9 : Cond.fieldLink "java/lang/String" 9 "java/lang/String" "value" "[B" ∈ zTg := j26
theorem lJ0_15 : Cond.fieldLink "java/lang/String" 15 "java/lang/String" "coder" "B" ∈ zTg := j27
theorem lJ0_38 : Cond.fieldLink "java/lang/String" 38 "java/lang/String" "COMPACT_STRINGS" "Z" ∈ zTg := j28
theorem lJ0_1053 : Cond.fieldLink "java/lang/String" 1053 "jdk/internal/util/Preconditions" "SIOOBE_FORMATTER" "Ljava/util/function/BiFunction;" ∈ zTg := j29
theorem kJ6_265 : Cond.constant RJ6 265 (Int32.ofInt 1431655765) ∈ zTg := j30
theorem kJ6_266 : Cond.constant RJ6 266 (Int32.ofInt 858993459) ∈ zTg := j31
theorem kJ6_267 : Cond.constant RJ6 267 (Int32.ofInt 252645135) ∈ zTg := j32
section ZJDK
variable {G : zG} {lay : zLay} {C : zMem} {nx : Int}
theorem mJ_coder {o nn : Int} (ho : lay o = (104, nn)) : zMM G 1 KJ0_coder_7d493 [zP o] lay C nx (0, 0) (zR (some (zI 0)) lay C nx) := by
  refine z_met' (L := [zP o]) gJ0_coder_7d493.1 rfl rfl (Nat.le_of_ble_eq_true rfl) rfl ?_
  refine z_compact eJ0_coder_7d493_0 rfl lJ0_38 ?_
  refine z_if_eq (tgt := 13) eJ0_coder_7d493_3 rfl (by decide) (fun h => absurd h (by decide)) (fun _ => ?_)
  by_cases hm : o = -1
  · subst hm
    intro p e R s m args below meth c H locs cells slots mc ms ls α₀ lay₀ α cx he hw
    exact absurd hw.2.2.2.1 (by rw [ho]; exact Nat.succ_ne_zero _)
  refine z_al0 eJ0_coder_7d493_6 hm ?_
  refine z_strcod eJ0_coder_7d493_7 rfl lJ0_15 ho ?_
  refine z_goto eJ0_coder_7d493_10 (tgt := 14) rfl ?_
  refine z_breturn0 eJ0_coder_7d493_14 rfl ⟨rfl, rfl, rfl, rfl⟩
theorem mJ_isLatin1 {o nn : Int} (hm : o ≠ -1) (ho : lay o = (104, nn)) : zMM G 1 KJ0_isLatin1_aae02 [zP o] lay C nx (0, 0) (zR (some (zI 1)) lay C nx) := by
  refine z_met' (L := [zP o]) gJ0_isLatin1_aae02.1 rfl rfl (Nat.le_of_ble_eq_true rfl) rfl ?_
  refine z_compact eJ0_isLatin1_aae02_0 rfl lJ0_38 ?_
  refine z_if_eq (tgt := 17) eJ0_isLatin1_aae02_3 rfl (by decide) (fun h => absurd h (by decide)) (fun _ => ?_)
  refine z_al0 eJ0_isLatin1_aae02_6 hm ?_
  refine z_strcod eJ0_isLatin1_aae02_7 rfl lJ0_15 ho ?_
  refine z_if_ne (tgt := 17) eJ0_isLatin1_aae02_10 rfl (by decide) (fun h => absurd rfl h) (fun _ => ?_)
  refine z_iconst eJ0_isLatin1_aae02_13 ?_
  refine z_goto eJ0_isLatin1_aae02_14 (tgt := 18) rfl ?_
  refine z_zreturn eJ0_isLatin1_aae02_18 rfl (Or.inr rfl) ⟨rfl, rfl, rfl, rfl⟩
theorem mJ_pre {i n : Int} {v : zAV} (hv : v.1 ≠ 1) (hi : 0 ≤ i ∧ i < n) (hn : n < 2147483648) : zMM G 1 KJ3_checkIndex_8e157 [zI i, zI n, v] lay C nx (0, 0) (zR (some (zI i)) lay C nx) := by
  refine z_met (av := [zI i, zI n, v]) gJ3_checkIndex_8e157.1 rfl (fun w hw => ?_) (Nat.le_of_ble_eq_true rfl) ?_
  · simp only [List.mem_cons, List.not_mem_nil, or_false] at hw
    rcases hw with rfl | rfl | rfl
    · exact Nat.ne_of_beq_eq_false rfl
    · exact Nat.ne_of_beq_eq_false rfl
    · exact hv
  show zW G KJ3_checkIndex_8e157 1 _ 0 [zI i, zI n, v] [] lay C nx (0, 0)
  refine z_il0 eJ3_checkIndex_8e157_0 ?_
  refine z_if_lt (tgt := 9) eJ3_checkIndex_8e157_1 rfl ⟨by omega, by omega⟩ (fun h => absurd h (by omega)) (fun _ => ?_)
  refine z_il0 eJ3_checkIndex_8e157_4 ?_
  refine z_il1 eJ3_checkIndex_8e157_5 ?_
  refine z_icmp_lt (tgt := 16) eJ3_checkIndex_8e157_6 rfl ⟨⟨by omega, by omega⟩, ⟨by omega, by omega⟩⟩ (fun _ => ?_) (fun h => absurd hi.2 h)
  refine z_il0 eJ3_checkIndex_8e157_16 ?_
  refine z_ireturn eJ3_checkIndex_8e157_17 rfl ⟨rfl, rfl, rfl, rfl⟩
theorem mJ_chk {i n : Int} (hi : 0 ≤ i ∧ i < n) (hn : n < 2147483648) : zMM G 2 KJ0_checkIndex_df160 [zI i, zI n] lay C nx (0, 0) (zR none lay C nx) := by
  refine z_met' (L := [zI i, zI n]) gJ0_checkIndex_df160.1 rfl rfl (Nat.le_of_ble_eq_true rfl) rfl ?_
  refine z_il0 eJ0_checkIndex_df160_0 ?_
  refine z_il1 eJ0_checkIndex_df160_1 ?_
  refine z_sioobe eJ0_checkIndex_df160_2 rfl lJ0_1053 (fun v hv => ?_)
  refine z_S3 eJ0_checkIndex_df160_5 vJ0_1059 rfl rfl (Nat.le_of_ble_eq_true rfl) (Nat.le_of_ble_eq_true rfl) (mJ_pre (by rcases hv with rfl | ⟨t, rfl⟩ <;> exact Nat.ne_of_beq_eq_false rfl) hi hn) ?_
  refine z_pop eJ0_checkIndex_df160_8 (Nat.ne_of_beq_eq_false rfl) ?_
  refine z_return eJ0_checkIndex_df160_9 rfl ⟨rfl, rfl, rfl, rfl⟩
theorem zand255 : ∀ n, n < 128 → zand (n : Nat) 255 = (n : Nat) := by decide +kernel
theorem mJ_char1 {o i n : Int} (hm : o ≠ -1) (ho : lay o = (105, n)) (hi : 0 ≤ i ∧ i < n) (hn : n < 2147483648) (hc : 0 ≤ C o i ∧ C o i < 128) : zMM G 3 KJ1_charAt_3b067 [zP o, zI i] lay C nx (0, 0) (zR (some (zI (C o i))) lay C nx) := by
  refine z_met' (L := [zP o, zI i]) gJ1_charAt_3b067.1 rfl rfl (Nat.le_of_ble_eq_true rfl) rfl ?_
  refine z_il1 eJ1_charAt_3b067_0 ?_
  refine z_al0 eJ1_charAt_3b067_1 hm ?_
  refine z_blen eJ1_charAt_3b067_2 ho ?_
  refine z_S2v eJ1_charAt_3b067_3 vJ1_9 rfl rfl (Nat.le_of_ble_eq_true rfl) (Nat.le_of_ble_eq_true rfl) (mJ_chk hi hn) ?_
  refine z_al0 eJ1_charAt_3b067_6 hm ?_
  refine z_il1 eJ1_charAt_3b067_7 ?_
  refine z_baload eJ1_charAt_3b067_8 ho hi hn ?_
  refine z_sipush eJ1_charAt_3b067_9 (by decide) ?_
  refine z_iand eJ1_charAt_3b067_12 ?_
  have e := zand255 (C o i).toNat (by omega)
  rw [Int.toNat_of_nonneg hc.1] at e
  rw [e]
  refine z_i2c eJ1_charAt_3b067_13 hc ?_
  refine z_creturn eJ1_charAt_3b067_14 rfl hc ⟨rfl, rfl, rfl, rfl⟩
theorem zshr0 : ∀ n, n < 64 → zshr (n : Nat) 0 = (n : Nat) := by decide +kernel
/-- text t: n bytes, in cells -10 - t and -1000 - t -/
theorem m_length {t : Nat} {n : Int} (ho : lay (-10 - (t : Int)) = (104, n)) (hb : lay (-1000 - (t : Int)) = (105, n)) (hn : 0 ≤ n ∧ n < 64) : zMM G 2 KJ0_length_8abf5 [zP (-10 - (t : Int))] lay C nx (0, 0) (zR (some (zI n)) lay C nx) := by
  refine z_met' (L := [zP (-10 - (t : Int))]) gJ0_length_8abf5.1 rfl rfl (Nat.le_of_ble_eq_true rfl) rfl ?_
  refine z_al0 eJ0_length_8abf5_0 (by omega) ?_
  refine z_strval eJ0_length_8abf5_1 rfl lJ0_9 ho rfl (by rw [hb]) ?_
  refine z_blen eJ0_length_8abf5_4 hb ?_
  refine z_al0 eJ0_length_8abf5_5 (by omega) ?_
  have h9 := z_callT (G := G) (k := KJ0_length_8abf5) (D := 2) (Q := zR (some (zI n)) lay C nx) (lay := lay) (C := C) (nx := nx) (av := []) (L := [zP (-10 - (t : Int))]) (st := [zI n]) (b' := (0, 0)) (b'' := (0, 0)) (n := 0) eJ0_length_8abf5_6 rfl gJ0_coder_7d493 rfl vJ0_335 (mJ_coder ho) (Nat.le_refl 2) ho rfl rfl (Nat.le_of_ble_eq_true rfl)
    (fun r l c m q => by
      obtain ⟨q1, q2, q3, q4⟩ := q
      have q5 := Sum.inl.inj q1
      subst q5; subst q2; subst q3; subst q4
      show zW G KJ0_length_8abf5 2 _ 9 [zP (-10 - (t : Int))] [zI 0, zI n] _ _ _ (0, 0)
      refine z_ishr eJ0_length_8abf5_9 ?_
      have e := zshr0 n.toNat (by omega)
      rw [Int.toNat_of_nonneg hn.1] at e
      rw [e]
      exact z_ireturn eJ0_length_8abf5_10 rfl ⟨rfl, rfl, rfl, rfl⟩) (fun E l c m q => absurd q (zR_no E l c m))
  exact h9
theorem m_charAt {t : Nat} {n i : Int} (ho : lay (-10 - (t : Int)) = (104, n)) (hb : lay (-1000 - (t : Int)) = (105, n)) (hn : n < 2147483648) (hi : 0 ≤ i ∧ i < n) (hc : 0 ≤ C (-1000 - (t : Int)) i ∧ C (-1000 - (t : Int)) i < 128) : zMM G 4 KJ0_charAt_5068e [zP (-10 - (t : Int)), zI i] lay C nx (0, 0) (zR (some (zI (C (-1000 - (t : Int)) i))) lay C nx) := by
  refine z_met' (L := [zP (-10 - (t : Int)), zI i]) gJ0_charAt_5068e.1 rfl rfl (Nat.le_of_ble_eq_true rfl) rfl ?_
  refine z_al0 eJ0_charAt_5068e_0 (by omega) ?_
  have h9 := z_callT (G := G) (k := KJ0_charAt_5068e) (D := 4) (Q := zR (some (zI (C (-1000 - (t : Int)) i))) lay C nx) (lay := lay) (C := C) (nx := nx) (av := []) (L := [zP (-10 - (t : Int)), zI i]) (st := []) (b' := (0, 0)) (b'' := (0, 0)) (n := 0) eJ0_charAt_5068e_1 rfl gJ0_isLatin1_aae02 rfl vJ0_492 (mJ_isLatin1 (by omega) ho) (Nat.le_of_ble_eq_true rfl) ho rfl rfl (Nat.le_of_ble_eq_true rfl)
    (fun r l c m q => by
      obtain ⟨q1, q2, q3, q4⟩ := q
      have q5 := Sum.inl.inj q1
      subst q5; subst q2; subst q3; subst q4
      show zW G KJ0_charAt_5068e 4 _ 4 [zP (-10 - (t : Int)), zI i] [zI 1] _ _ _ (0, 0)
      refine z_if_eq (tgt := 16) eJ0_charAt_5068e_4 rfl (by decide) (fun h => absurd h (by decide)) (fun _ => ?_)
      refine z_al0 eJ0_charAt_5068e_7 (by omega) ?_
      refine z_strval eJ0_charAt_5068e_8 rfl lJ0_9 ho rfl (by rw [hb]) ?_
      refine z_il1 eJ0_charAt_5068e_11 ?_
      refine z_S2 eJ0_charAt_5068e_12 vJ0_495 rfl rfl (Nat.le_refl 4) (Nat.le_of_ble_eq_true rfl) (mJ_char1 (by omega) hb hi hn hc) ?_
      exact z_creturn eJ0_charAt_5068e_15 rfl hc ⟨rfl, rfl, rfl, rfl⟩) (fun E l c m q => absurd q (zR_no E l c m))
  exact h9
/-- Arrays.fill of ints -/
def zfill (C : zMem) (o n v : Int) : zMem := fun o' j => if o' = o ∧ 0 ≤ j ∧ j < n then v else C o' j
theorem zfill_s {C : zMem} {o n v : Int} (h : 0 ≤ n) : zset (zfill C o n v) o n v = zfill C o (n + 1) v := by
  funext o' j
  unfold zset zfill
  by_cases h1 : o' = o
  · subst h1
    by_cases h2 : j = n
    · subst h2
      rw [if_pos ⟨rfl, rfl⟩, if_pos ⟨rfl, h, by omega⟩]
    · rw [if_neg (fun q => h2 q.2)]
      by_cases h3 : 0 ≤ j ∧ j < n
      · rw [if_pos ⟨rfl, h3⟩, if_pos ⟨rfl, h3.1, by omega⟩]
      · rw [if_neg (fun q => h3 q.2), if_neg (fun q => h3 ⟨q.2.1, by omega⟩)]
  · rw [if_neg (fun q => h1 q.1), if_neg (fun q => h1 q.1), if_neg (fun q => h1 q.1)]
theorem zfill_0 {C : zMem} {o v : Int} : zfill C o 0 v = C := by
  funext o' j
  unfold zfill
  rw [if_neg (fun q => by omega)]
theorem m_fill {o n v : Int} (hm : o ≠ -1) (ho : lay o = (100, n)) (hn : 0 ≤ n ∧ n < 2147483647) : zMM G 1 KJ7_fill_53178 [zP o, zI v] lay C nx (0, 0) (zR none lay (zfill C o n v) nx) := by
  have hl : ∀ t : Int, 0 ≤ t → t ≤ n → zW G KJ7_fill_53178 1 (zR none lay (zfill C o n v) nx) 5 [zP o, zI v, zI t, zI n] [] lay (zfill C o t v) nx (0, 0) := by
    refine z_up n ?_ ?_
    · refine z_il2 eJ7_fill_53178_5 ?_
      refine z_il3 eJ7_fill_53178_6 ?_
      refine z_icmp_ge (tgt := 20) eJ7_fill_53178_7 rfl ⟨⟨by omega, by omega⟩, ⟨by omega, by omega⟩⟩ (fun _ => ?_) (fun h => absurd (Int.le_refl n) h)
      exact z_return eJ7_fill_53178_20 rfl ⟨rfl, rfl, rfl, rfl⟩
    · intro t h0 h1 ih
      refine z_il2 eJ7_fill_53178_5 ?_
      refine z_il3 eJ7_fill_53178_6 ?_
      refine z_icmp_ge (tgt := 20) eJ7_fill_53178_7 rfl ⟨⟨by omega, by omega⟩, ⟨by omega, by omega⟩⟩ (fun h => absurd h1 (by omega)) (fun _ => ?_)
      refine z_al0 eJ7_fill_53178_10 hm ?_
      refine z_il2 eJ7_fill_53178_11 ?_
      refine z_il1 eJ7_fill_53178_12 ?_
      refine z_iastore eJ7_fill_53178_13 ho ⟨h0, h1⟩ ?_
      refine z_ii2 eJ7_fill_53178_14 (Nat.ne_of_beq_eq_false rfl) ?_
      refine z_goto eJ7_fill_53178_17 (tgt := 5) rfl ?_
      rw [zfill_s h0]
      exact ih
  refine z_met' (L := [zP o, zI v, zU, zU]) gJ7_fill_53178.1 rfl rfl (Nat.le_of_ble_eq_true rfl) rfl ?_
  refine z_iconst eJ7_fill_53178_0 ?_
  refine z_is2 eJ7_fill_53178_1 (Nat.ne_of_beq_eq_false rfl) ?_
  refine z_al0 eJ7_fill_53178_2 hm ?_
  refine z_alen eJ7_fill_53178_3 ho ?_
  refine z_is3 eJ7_fill_53178_4 (Nat.ne_of_beq_eq_false rfl) ?_
  have h9 := hl 0 (by omega) hn.1
  rwa [zfill_0] at h9
/-- Integer.bitCount -/
def zbc1 (i : Int) : Int := i - zand (zushr i 1) 1431655765
def zbc2 (i : Int) : Int := zand i 858993459 + zand (zushr i 2) 858993459
def zbc3 (i : Int) : Int := zand (i + zushr i 4) 252645135
def zbc4 (i : Int) : Int := i + zushr i 8
def zbc5 (i : Int) : Int := i + zushr i 16
def zbc (i : Int) : Int := zand (zbc5 (zbc4 (zbc3 (zbc2 (zbc1 i))))) 63
theorem m_bitCount {i : Int} : zMM G 1 KJ6_bitCount_0f7a4 [zI i] lay C nx (0, 0) (zR (some (zI (zbc i))) lay C nx) := by
  refine z_met' (L := [zI i]) gJ6_bitCount_0f7a4.1 rfl rfl (Nat.le_of_ble_eq_true rfl) rfl ?_
  refine z_il0 eJ6_bitCount_0f7a4_0 ?_
  refine z_il0 eJ6_bitCount_0f7a4_1 ?_
  refine z_iconst eJ6_bitCount_0f7a4_2 ?_
  refine z_iushr eJ6_bitCount_0f7a4_3 ?_
  refine z_ldcw eJ6_bitCount_0f7a4_4 kJ6_265 ?_
  refine z_iand eJ6_bitCount_0f7a4_7 ?_
  refine z_isub eJ6_bitCount_0f7a4_8 ?_
  refine z_is0 eJ6_bitCount_0f7a4_9 ?_
  refine z_il0 eJ6_bitCount_0f7a4_10 ?_
  refine z_ldcw eJ6_bitCount_0f7a4_11 kJ6_266 ?_
  refine z_iand eJ6_bitCount_0f7a4_14 ?_
  refine z_il0 eJ6_bitCount_0f7a4_15 ?_
  refine z_iconst eJ6_bitCount_0f7a4_16 ?_
  refine z_iushr eJ6_bitCount_0f7a4_17 ?_
  refine z_ldcw eJ6_bitCount_0f7a4_18 kJ6_266 ?_
  refine z_iand eJ6_bitCount_0f7a4_21 ?_
  refine z_iadd eJ6_bitCount_0f7a4_22 ?_
  refine z_is0 eJ6_bitCount_0f7a4_23 ?_
  refine z_il0 eJ6_bitCount_0f7a4_24 ?_
  refine z_il0 eJ6_bitCount_0f7a4_25 ?_
  refine z_iconst eJ6_bitCount_0f7a4_26 ?_
  refine z_iushr eJ6_bitCount_0f7a4_27 ?_
  refine z_iadd eJ6_bitCount_0f7a4_28 ?_
  refine z_ldcw eJ6_bitCount_0f7a4_29 kJ6_267 ?_
  refine z_iand eJ6_bitCount_0f7a4_32 ?_
  refine z_is0 eJ6_bitCount_0f7a4_33 ?_
  refine z_il0 eJ6_bitCount_0f7a4_34 ?_
  refine z_il0 eJ6_bitCount_0f7a4_35 ?_
  refine z_bipush eJ6_bitCount_0f7a4_36 (by decide) ?_
  refine z_iushr eJ6_bitCount_0f7a4_38 ?_
  refine z_iadd eJ6_bitCount_0f7a4_39 ?_
  refine z_is0 eJ6_bitCount_0f7a4_40 ?_
  refine z_il0 eJ6_bitCount_0f7a4_41 ?_
  refine z_il0 eJ6_bitCount_0f7a4_42 ?_
  refine z_bipush eJ6_bitCount_0f7a4_43 (by decide) ?_
  refine z_iushr eJ6_bitCount_0f7a4_45 ?_
  refine z_iadd eJ6_bitCount_0f7a4_46 ?_
  refine z_is0 eJ6_bitCount_0f7a4_47 ?_
  refine z_il0 eJ6_bitCount_0f7a4_48 ?_
  refine z_bipush eJ6_bitCount_0f7a4_49 (by decide) ?_
  refine z_iand eJ6_bitCount_0f7a4_51 ?_
  exact z_ireturn eJ6_bitCount_0f7a4_52 rfl ⟨rfl, rfl, rfl, rfl⟩
end ZJDK

