/-! String: decode rows -/
theorem dJ0_length_8abf5_0 : fet cJ0_length_8abf5 0 = some (.aload_n 0) := by decide +kernel
theorem dJ0_length_8abf5_1 : fet cJ0_length_8abf5 1 = some (.getfield 9) := by decide +kernel
theorem dJ0_length_8abf5_4 : fet cJ0_length_8abf5 4 = some (.arraylength) := by decide +kernel
theorem dJ0_length_8abf5_5 : fet cJ0_length_8abf5 5 = some (.aload_n 0) := by decide +kernel
theorem dJ0_length_8abf5_6 : fet cJ0_length_8abf5 6 = some (.invokevirtual 335) := by decide +kernel
theorem dJ0_length_8abf5_9 : fet cJ0_length_8abf5 9 = some (.ishr) := by decide +kernel
theorem dJ0_length_8abf5_10 : fet cJ0_length_8abf5 10 = some (.ireturn) := by decide +kernel
theorem dJ0_charAt_5068e_0 : fet cJ0_charAt_5068e 0 = some (.aload_n 0) := by decide +kernel
theorem dJ0_charAt_5068e_1 : fet cJ0_charAt_5068e 1 = some (.invokevirtual 492) := by decide +kernel
theorem dJ0_charAt_5068e_4 : fet cJ0_charAt_5068e 4 = some (.ifCond .eq 12) := by decide +kernel
theorem dJ0_charAt_5068e_7 : fet cJ0_charAt_5068e 7 = some (.aload_n 0) := by decide +kernel
theorem dJ0_charAt_5068e_8 : fet cJ0_charAt_5068e 8 = some (.getfield 9) := by decide +kernel
theorem dJ0_charAt_5068e_11 : fet cJ0_charAt_5068e 11 = some (.iload_n 1) := by decide +kernel
theorem dJ0_charAt_5068e_12 : fet cJ0_charAt_5068e 12 = some (.invokestatic 495) := by decide +kernel
theorem dJ0_charAt_5068e_15 : fet cJ0_charAt_5068e 15 = some (.ireturn) := by decide +kernel
theorem dJ0_charAt_5068e_16 : fet cJ0_charAt_5068e 16 = some (.aload_n 0) := by decide +kernel
theorem dJ0_charAt_5068e_17 : fet cJ0_charAt_5068e 17 = some (.getfield 9) := by decide +kernel
theorem dJ0_charAt_5068e_20 : fet cJ0_charAt_5068e 20 = some (.iload_n 1) := by decide +kernel
theorem dJ0_charAt_5068e_21 : fet cJ0_charAt_5068e 21 = some (.invokestatic 498) := by decide +kernel
theorem dJ0_charAt_5068e_24 : fet cJ0_charAt_5068e 24 = some (.ireturn) := by decide +kernel
theorem dJ0_coder_7d493_0 : fet cJ0_coder_7d493 0 = some (.getstatic 38) := by decide +kernel
theorem dJ0_coder_7d493_3 : fet cJ0_coder_7d493 3 = some (.ifCond .eq 10) := by decide +kernel
theorem dJ0_coder_7d493_6 : fet cJ0_coder_7d493 6 = some (.aload_n 0) := by decide +kernel
theorem dJ0_coder_7d493_7 : fet cJ0_coder_7d493 7 = some (.getfield 15) := by decide +kernel
theorem dJ0_coder_7d493_10 : fet cJ0_coder_7d493 10 = some (.goto 4) := by decide +kernel
theorem dJ0_coder_7d493_13 : fet cJ0_coder_7d493 13 = some (.iconst 1) := by decide +kernel
theorem dJ0_coder_7d493_14 : fet cJ0_coder_7d493 14 = some (.ireturn) := by decide +kernel
theorem dJ0_isLatin1_aae02_0 : fet cJ0_isLatin1_aae02 0 = some (.getstatic 38) := by decide +kernel
theorem dJ0_isLatin1_aae02_3 : fet cJ0_isLatin1_aae02 3 = some (.ifCond .eq 14) := by decide +kernel
theorem dJ0_isLatin1_aae02_6 : fet cJ0_isLatin1_aae02 6 = some (.aload_n 0) := by decide +kernel
theorem dJ0_isLatin1_aae02_7 : fet cJ0_isLatin1_aae02 7 = some (.getfield 15) := by decide +kernel
theorem dJ0_isLatin1_aae02_10 : fet cJ0_isLatin1_aae02 10 = some (.ifCond .ne 7) := by decide +kernel
theorem dJ0_isLatin1_aae02_13 : fet cJ0_isLatin1_aae02 13 = some (.iconst 1) := by decide +kernel
theorem dJ0_isLatin1_aae02_14 : fet cJ0_isLatin1_aae02 14 = some (.goto 4) := by decide +kernel
theorem dJ0_isLatin1_aae02_17 : fet cJ0_isLatin1_aae02 17 = some (.iconst 0) := by decide +kernel
theorem dJ0_isLatin1_aae02_18 : fet cJ0_isLatin1_aae02 18 = some (.ireturn) := by decide +kernel
theorem dJ0_checkIndex_df160_0 : fet cJ0_checkIndex_df160 0 = some (.iload_n 0) := by decide +kernel
theorem dJ0_checkIndex_df160_1 : fet cJ0_checkIndex_df160 1 = some (.iload_n 1) := by decide +kernel
theorem dJ0_checkIndex_df160_2 : fet cJ0_checkIndex_df160 2 = some (.getstatic 1053) := by decide +kernel
theorem dJ0_checkIndex_df160_5 : fet cJ0_checkIndex_df160 5 = some (.invokestatic 1059) := by decide +kernel
theorem dJ0_checkIndex_df160_8 : fet cJ0_checkIndex_df160 8 = some (.pop) := by decide +kernel
theorem dJ0_checkIndex_df160_9 : fet cJ0_checkIndex_df160 9 = some (.return_) := by decide +kernel
theorem dJ1_charAt_3b067_0 : fet cJ1_charAt_3b067 0 = some (.iload_n 1) := by decide +kernel
theorem dJ1_charAt_3b067_1 : fet cJ1_charAt_3b067 1 = some (.aload_n 0) := by decide +kernel
theorem dJ1_charAt_3b067_2 : fet cJ1_charAt_3b067 2 = some (.arraylength) := by decide +kernel
theorem dJ1_charAt_3b067_3 : fet cJ1_charAt_3b067 3 = some (.invokestatic 9) := by decide +kernel
theorem dJ1_charAt_3b067_6 : fet cJ1_charAt_3b067 6 = some (.aload_n 0) := by decide +kernel
theorem dJ1_charAt_3b067_7 : fet cJ1_charAt_3b067 7 = some (.iload_n 1) := by decide +kernel
theorem dJ1_charAt_3b067_8 : fet cJ1_charAt_3b067 8 = some (.baload) := by decide +kernel
theorem dJ1_charAt_3b067_9 : fet cJ1_charAt_3b067 9 = some (.sipush 255) := by decide +kernel
theorem dJ1_charAt_3b067_12 : fet cJ1_charAt_3b067 12 = some (.iand) := by decide +kernel
theorem dJ1_charAt_3b067_13 : fet cJ1_charAt_3b067 13 = some (.i2c) := by decide +kernel
theorem dJ1_charAt_3b067_14 : fet cJ1_charAt_3b067 14 = some (.ireturn) := by decide +kernel
theorem dJ3_checkIndex_8e157_0 : fet cJ3_checkIndex_8e157 0 = some (.iload_n 0) := by decide +kernel
theorem dJ3_checkIndex_8e157_1 : fet cJ3_checkIndex_8e157 1 = some (.ifCond .lt 8) := by decide +kernel
theorem dJ3_checkIndex_8e157_4 : fet cJ3_checkIndex_8e157 4 = some (.iload_n 0) := by decide +kernel
theorem dJ3_checkIndex_8e157_5 : fet cJ3_checkIndex_8e157 5 = some (.iload_n 1) := by decide +kernel
theorem dJ3_checkIndex_8e157_6 : fet cJ3_checkIndex_8e157 6 = some (.if_icmp .lt 10) := by decide +kernel
theorem dJ3_checkIndex_8e157_9 : fet cJ3_checkIndex_8e157 9 = some (.aload_n 2) := by decide +kernel
theorem dJ3_checkIndex_8e157_10 : fet cJ3_checkIndex_8e157 10 = some (.iload_n 0) := by decide +kernel
theorem dJ3_checkIndex_8e157_11 : fet cJ3_checkIndex_8e157 11 = some (.iload_n 1) := by decide +kernel
theorem dJ3_checkIndex_8e157_12 : fet cJ3_checkIndex_8e157 12 = some (.invokestatic 95) := by decide +kernel
theorem dJ3_checkIndex_8e157_15 : fet cJ3_checkIndex_8e157 15 = some (.athrow) := by decide +kernel
theorem dJ3_checkIndex_8e157_16 : fet cJ3_checkIndex_8e157 16 = some (.iload_n 0) := by decide +kernel
theorem dJ3_checkIndex_8e157_17 : fet cJ3_checkIndex_8e157 17 = some (.ireturn) := by decide +kernel
