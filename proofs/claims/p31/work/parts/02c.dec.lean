set_option maxRecDepth 100000 in
theorem dkAc0 : decode cJ6_numberOfTrailingZeros_0f7a4 0 = .ok (.iload_n 0, 1) ∧ decode cJ6_numberOfTrailingZeros_0f7a4 1 = .ok (.iconst (-1), 1) ∧ decode cJ6_numberOfTrailingZeros_0f7a4 2 = .ok (.ixor, 1) ∧ decode cJ6_numberOfTrailingZeros_0f7a4 3 = .ok (.iload_n 0, 1) ∧ decode cJ6_numberOfTrailingZeros_0f7a4 4 = .ok (.iconst 1, 1) ∧ decode cJ6_numberOfTrailingZeros_0f7a4 5 = .ok (.isub, 1) ∧ decode cJ6_numberOfTrailingZeros_0f7a4 6 = .ok (.iand, 1) ∧ decode cJ6_numberOfTrailingZeros_0f7a4 7 = .ok (.istore_n 0, 1) ∧ decode cJ6_numberOfTrailingZeros_0f7a4 8 = .ok (.iload_n 0, 1) ∧ decode cJ6_numberOfTrailingZeros_0f7a4 9 = .ok (.ifCond .gt 8, 3) ∧ decode cJ6_numberOfTrailingZeros_0f7a4 12 = .ok (.iload_n 0, 1) ∧ decode cJ6_numberOfTrailingZeros_0f7a4 13 = .ok (.bipush 32, 2) := by decide +kernel
theorem dJ6_numberOfTrailingZeros_0f7a4_0 : decode cJ6_numberOfTrailingZeros_0f7a4 0 = .ok (.iload_n 0, 1) := dkAc0.1
theorem dJ6_numberOfTrailingZeros_0f7a4_1 : decode cJ6_numberOfTrailingZeros_0f7a4 1 = .ok (.iconst (-1), 1) := dkAc0.2.1
theorem dJ6_numberOfTrailingZeros_0f7a4_2 : decode cJ6_numberOfTrailingZeros_0f7a4 2 = .ok (.ixor, 1) := dkAc0.2.2.1
theorem dJ6_numberOfTrailingZeros_0f7a4_3 : decode cJ6_numberOfTrailingZeros_0f7a4 3 = .ok (.iload_n 0, 1) := dkAc0.2.2.2.1
theorem dJ6_numberOfTrailingZeros_0f7a4_4 : decode cJ6_numberOfTrailingZeros_0f7a4 4 = .ok (.iconst 1, 1) := dkAc0.2.2.2.2.1
theorem dJ6_numberOfTrailingZeros_0f7a4_5 : decode cJ6_numberOfTrailingZeros_0f7a4 5 = .ok (.isub, 1) := dkAc0.2.2.2.2.2.1
theorem dJ6_numberOfTrailingZeros_0f7a4_6 : decode cJ6_numberOfTrailingZeros_0f7a4 6 = .ok (.iand, 1) := dkAc0.2.2.2.2.2.2.1
theorem dJ6_numberOfTrailingZeros_0f7a4_7 : decode cJ6_numberOfTrailingZeros_0f7a4 7 = .ok (.istore_n 0, 1) := dkAc0.2.2.2.2.2.2.2.1
theorem dJ6_numberOfTrailingZeros_0f7a4_8 : decode cJ6_numberOfTrailingZeros_0f7a4 8 = .ok (.iload_n 0, 1) := dkAc0.2.2.2.2.2.2.2.2.1
theorem dJ6_numberOfTrailingZeros_0f7a4_9 : decode cJ6_numberOfTrailingZeros_0f7a4 9 = .ok (.ifCond .gt 8, 3) := dkAc0.2.2.2.2.2.2.2.2.2.1
theorem dJ6_numberOfTrailingZeros_0f7a4_12 : decode cJ6_numberOfTrailingZeros_0f7a4 12 = .ok (.iload_n 0, 1) := dkAc0.2.2.2.2.2.2.2.2.2.2.1
theorem dJ6_numberOfTrailingZeros_0f7a4_13 : decode cJ6_numberOfTrailingZeros_0f7a4 13 = .ok (.bipush 32, 2) := dkAc0.2.2.2.2.2.2.2.2.2.2.2
set_option maxRecDepth 100000 in
theorem dkAc1 : decode cJ6_numberOfTrailingZeros_0f7a4 15 = .ok (.iand, 1) ∧ decode cJ6_numberOfTrailingZeros_0f7a4 16 = .ok (.ireturn, 1) ∧ decode cJ6_numberOfTrailingZeros_0f7a4 17 = .ok (.iconst 1, 1) ∧ decode cJ6_numberOfTrailingZeros_0f7a4 18 = .ok (.istore_n 1, 1) ∧ decode cJ6_numberOfTrailingZeros_0f7a4 19 = .ok (.iload_n 0, 1) ∧ decode cJ6_numberOfTrailingZeros_0f7a4 20 = .ok (.ldc_w 264, 3) ∧ decode cJ6_numberOfTrailingZeros_0f7a4 23 = .ok (.if_icmp .le 11, 3) ∧ decode cJ6_numberOfTrailingZeros_0f7a4 26 = .ok (.iinc 1 16, 3) ∧ decode cJ6_numberOfTrailingZeros_0f7a4 29 = .ok (.iload_n 0, 1) ∧ decode cJ6_numberOfTrailingZeros_0f7a4 30 = .ok (.bipush 16, 2) ∧ decode cJ6_numberOfTrailingZeros_0f7a4 32 = .ok (.iushr, 1) ∧ decode cJ6_numberOfTrailingZeros_0f7a4 33 = .ok (.istore_n 0, 1) := by decide +kernel
theorem dJ6_numberOfTrailingZeros_0f7a4_15 : decode cJ6_numberOfTrailingZeros_0f7a4 15 = .ok (.iand, 1) := dkAc1.1
theorem dJ6_numberOfTrailingZeros_0f7a4_16 : decode cJ6_numberOfTrailingZeros_0f7a4 16 = .ok (.ireturn, 1) := dkAc1.2.1
theorem dJ6_numberOfTrailingZeros_0f7a4_17 : decode cJ6_numberOfTrailingZeros_0f7a4 17 = .ok (.iconst 1, 1) := dkAc1.2.2.1
theorem dJ6_numberOfTrailingZeros_0f7a4_18 : decode cJ6_numberOfTrailingZeros_0f7a4 18 = .ok (.istore_n 1, 1) := dkAc1.2.2.2.1
theorem dJ6_numberOfTrailingZeros_0f7a4_19 : decode cJ6_numberOfTrailingZeros_0f7a4 19 = .ok (.iload_n 0, 1) := dkAc1.2.2.2.2.1
theorem dJ6_numberOfTrailingZeros_0f7a4_20 : decode cJ6_numberOfTrailingZeros_0f7a4 20 = .ok (.ldc_w 264, 3) := dkAc1.2.2.2.2.2.1
theorem dJ6_numberOfTrailingZeros_0f7a4_23 : decode cJ6_numberOfTrailingZeros_0f7a4 23 = .ok (.if_icmp .le 11, 3) := dkAc1.2.2.2.2.2.2.1
theorem dJ6_numberOfTrailingZeros_0f7a4_26 : decode cJ6_numberOfTrailingZeros_0f7a4 26 = .ok (.iinc 1 16, 3) := dkAc1.2.2.2.2.2.2.2.1
theorem dJ6_numberOfTrailingZeros_0f7a4_29 : decode cJ6_numberOfTrailingZeros_0f7a4 29 = .ok (.iload_n 0, 1) := dkAc1.2.2.2.2.2.2.2.2.1
theorem dJ6_numberOfTrailingZeros_0f7a4_30 : decode cJ6_numberOfTrailingZeros_0f7a4 30 = .ok (.bipush 16, 2) := dkAc1.2.2.2.2.2.2.2.2.2.1
theorem dJ6_numberOfTrailingZeros_0f7a4_32 : decode cJ6_numberOfTrailingZeros_0f7a4 32 = .ok (.iushr, 1) := dkAc1.2.2.2.2.2.2.2.2.2.2.1
theorem dJ6_numberOfTrailingZeros_0f7a4_33 : decode cJ6_numberOfTrailingZeros_0f7a4 33 = .ok (.istore_n 0, 1) := dkAc1.2.2.2.2.2.2.2.2.2.2.2
set_option maxRecDepth 100000 in
theorem dkAc2 : decode cJ6_numberOfTrailingZeros_0f7a4 34 = .ok (.iload_n 0, 1) ∧ decode cJ6_numberOfTrailingZeros_0f7a4 35 = .ok (.sipush 256, 3) ∧ decode cJ6_numberOfTrailingZeros_0f7a4 38 = .ok (.if_icmp .le 11, 3) ∧ decode cJ6_numberOfTrailingZeros_0f7a4 41 = .ok (.iinc 1 8, 3) ∧ decode cJ6_numberOfTrailingZeros_0f7a4 44 = .ok (.iload_n 0, 1) ∧ decode cJ6_numberOfTrailingZeros_0f7a4 45 = .ok (.bipush 8, 2) ∧ decode cJ6_numberOfTrailingZeros_0f7a4 47 = .ok (.iushr, 1) ∧ decode cJ6_numberOfTrailingZeros_0f7a4 48 = .ok (.istore_n 0, 1) ∧ decode cJ6_numberOfTrailingZeros_0f7a4 49 = .ok (.iload_n 0, 1) ∧ decode cJ6_numberOfTrailingZeros_0f7a4 50 = .ok (.bipush 16, 2) ∧ decode cJ6_numberOfTrailingZeros_0f7a4 52 = .ok (.if_icmp .le 10, 3) ∧ decode cJ6_numberOfTrailingZeros_0f7a4 55 = .ok (.iinc 1 4, 3) := by decide +kernel
theorem dJ6_numberOfTrailingZeros_0f7a4_34 : decode cJ6_numberOfTrailingZeros_0f7a4 34 = .ok (.iload_n 0, 1) := dkAc2.1
theorem dJ6_numberOfTrailingZeros_0f7a4_35 : decode cJ6_numberOfTrailingZeros_0f7a4 35 = .ok (.sipush 256, 3) := dkAc2.2.1
theorem dJ6_numberOfTrailingZeros_0f7a4_38 : decode cJ6_numberOfTrailingZeros_0f7a4 38 = .ok (.if_icmp .le 11, 3) := dkAc2.2.2.1
theorem dJ6_numberOfTrailingZeros_0f7a4_41 : decode cJ6_numberOfTrailingZeros_0f7a4 41 = .ok (.iinc 1 8, 3) := dkAc2.2.2.2.1
theorem dJ6_numberOfTrailingZeros_0f7a4_44 : decode cJ6_numberOfTrailingZeros_0f7a4 44 = .ok (.iload_n 0, 1) := dkAc2.2.2.2.2.1
theorem dJ6_numberOfTrailingZeros_0f7a4_45 : decode cJ6_numberOfTrailingZeros_0f7a4 45 = .ok (.bipush 8, 2) := dkAc2.2.2.2.2.2.1
theorem dJ6_numberOfTrailingZeros_0f7a4_47 : decode cJ6_numberOfTrailingZeros_0f7a4 47 = .ok (.iushr, 1) := dkAc2.2.2.2.2.2.2.1
theorem dJ6_numberOfTrailingZeros_0f7a4_48 : decode cJ6_numberOfTrailingZeros_0f7a4 48 = .ok (.istore_n 0, 1) := dkAc2.2.2.2.2.2.2.2.1
theorem dJ6_numberOfTrailingZeros_0f7a4_49 : decode cJ6_numberOfTrailingZeros_0f7a4 49 = .ok (.iload_n 0, 1) := dkAc2.2.2.2.2.2.2.2.2.1
theorem dJ6_numberOfTrailingZeros_0f7a4_50 : decode cJ6_numberOfTrailingZeros_0f7a4 50 = .ok (.bipush 16, 2) := dkAc2.2.2.2.2.2.2.2.2.2.1
theorem dJ6_numberOfTrailingZeros_0f7a4_52 : decode cJ6_numberOfTrailingZeros_0f7a4 52 = .ok (.if_icmp .le 10, 3) := dkAc2.2.2.2.2.2.2.2.2.2.2.1
theorem dJ6_numberOfTrailingZeros_0f7a4_55 : decode cJ6_numberOfTrailingZeros_0f7a4 55 = .ok (.iinc 1 4, 3) := dkAc2.2.2.2.2.2.2.2.2.2.2.2
set_option maxRecDepth 100000 in
theorem dkAc3 : decode cJ6_numberOfTrailingZeros_0f7a4 58 = .ok (.iload_n 0, 1) ∧ decode cJ6_numberOfTrailingZeros_0f7a4 59 = .ok (.iconst 4, 1) ∧ decode cJ6_numberOfTrailingZeros_0f7a4 60 = .ok (.iushr, 1) ∧ decode cJ6_numberOfTrailingZeros_0f7a4 61 = .ok (.istore_n 0, 1) ∧ decode cJ6_numberOfTrailingZeros_0f7a4 62 = .ok (.iload_n 0, 1) ∧ decode cJ6_numberOfTrailingZeros_0f7a4 63 = .ok (.iconst 4, 1) ∧ decode cJ6_numberOfTrailingZeros_0f7a4 64 = .ok (.if_icmp .le 10, 3) ∧ decode cJ6_numberOfTrailingZeros_0f7a4 67 = .ok (.iinc 1 2, 3) ∧ decode cJ6_numberOfTrailingZeros_0f7a4 70 = .ok (.iload_n 0, 1) ∧ decode cJ6_numberOfTrailingZeros_0f7a4 71 = .ok (.iconst 2, 1) ∧ decode cJ6_numberOfTrailingZeros_0f7a4 72 = .ok (.iushr, 1) ∧ decode cJ6_numberOfTrailingZeros_0f7a4 73 = .ok (.istore_n 0, 1) := by decide +kernel
theorem dJ6_numberOfTrailingZeros_0f7a4_58 : decode cJ6_numberOfTrailingZeros_0f7a4 58 = .ok (.iload_n 0, 1) := dkAc3.1
theorem dJ6_numberOfTrailingZeros_0f7a4_59 : decode cJ6_numberOfTrailingZeros_0f7a4 59 = .ok (.iconst 4, 1) := dkAc3.2.1
theorem dJ6_numberOfTrailingZeros_0f7a4_60 : decode cJ6_numberOfTrailingZeros_0f7a4 60 = .ok (.iushr, 1) := dkAc3.2.2.1
theorem dJ6_numberOfTrailingZeros_0f7a4_61 : decode cJ6_numberOfTrailingZeros_0f7a4 61 = .ok (.istore_n 0, 1) := dkAc3.2.2.2.1
theorem dJ6_numberOfTrailingZeros_0f7a4_62 : decode cJ6_numberOfTrailingZeros_0f7a4 62 = .ok (.iload_n 0, 1) := dkAc3.2.2.2.2.1
theorem dJ6_numberOfTrailingZeros_0f7a4_63 : decode cJ6_numberOfTrailingZeros_0f7a4 63 = .ok (.iconst 4, 1) := dkAc3.2.2.2.2.2.1
theorem dJ6_numberOfTrailingZeros_0f7a4_64 : decode cJ6_numberOfTrailingZeros_0f7a4 64 = .ok (.if_icmp .le 10, 3) := dkAc3.2.2.2.2.2.2.1
theorem dJ6_numberOfTrailingZeros_0f7a4_67 : decode cJ6_numberOfTrailingZeros_0f7a4 67 = .ok (.iinc 1 2, 3) := dkAc3.2.2.2.2.2.2.2.1
theorem dJ6_numberOfTrailingZeros_0f7a4_70 : decode cJ6_numberOfTrailingZeros_0f7a4 70 = .ok (.iload_n 0, 1) := dkAc3.2.2.2.2.2.2.2.2.1
theorem dJ6_numberOfTrailingZeros_0f7a4_71 : decode cJ6_numberOfTrailingZeros_0f7a4 71 = .ok (.iconst 2, 1) := dkAc3.2.2.2.2.2.2.2.2.2.1
theorem dJ6_numberOfTrailingZeros_0f7a4_72 : decode cJ6_numberOfTrailingZeros_0f7a4 72 = .ok (.iushr, 1) := dkAc3.2.2.2.2.2.2.2.2.2.2.1
theorem dJ6_numberOfTrailingZeros_0f7a4_73 : decode cJ6_numberOfTrailingZeros_0f7a4 73 = .ok (.istore_n 0, 1) := dkAc3.2.2.2.2.2.2.2.2.2.2.2
set_option maxRecDepth 100000 in
theorem dkAc4 : decode cJ6_numberOfTrailingZeros_0f7a4 74 = .ok (.iload_n 1, 1) ∧ decode cJ6_numberOfTrailingZeros_0f7a4 75 = .ok (.iload_n 0, 1) ∧ decode cJ6_numberOfTrailingZeros_0f7a4 76 = .ok (.iconst 1, 1) ∧ decode cJ6_numberOfTrailingZeros_0f7a4 77 = .ok (.iushr, 1) ∧ decode cJ6_numberOfTrailingZeros_0f7a4 78 = .ok (.iadd, 1) ∧ decode cJ6_numberOfTrailingZeros_0f7a4 79 = .ok (.ireturn, 1) := by decide +kernel
theorem dJ6_numberOfTrailingZeros_0f7a4_74 : decode cJ6_numberOfTrailingZeros_0f7a4 74 = .ok (.iload_n 1, 1) := dkAc4.1
theorem dJ6_numberOfTrailingZeros_0f7a4_75 : decode cJ6_numberOfTrailingZeros_0f7a4 75 = .ok (.iload_n 0, 1) := dkAc4.2.1
theorem dJ6_numberOfTrailingZeros_0f7a4_76 : decode cJ6_numberOfTrailingZeros_0f7a4 76 = .ok (.iconst 1, 1) := dkAc4.2.2.1
theorem dJ6_numberOfTrailingZeros_0f7a4_77 : decode cJ6_numberOfTrailingZeros_0f7a4 77 = .ok (.iushr, 1) := dkAc4.2.2.2.1
theorem dJ6_numberOfTrailingZeros_0f7a4_78 : decode cJ6_numberOfTrailingZeros_0f7a4 78 = .ok (.iadd, 1) := dkAc4.2.2.2.2.1
theorem dJ6_numberOfTrailingZeros_0f7a4_79 : decode cJ6_numberOfTrailingZeros_0f7a4 79 = .ok (.ireturn, 1) := dkAc4.2.2.2.2.2
set_option maxRecDepth 100000 in
theorem dkAc5 : decode cJ6_bitCount_0f7a4 0 = .ok (.iload_n 0, 1) ∧ decode cJ6_bitCount_0f7a4 1 = .ok (.iload_n 0, 1) ∧ decode cJ6_bitCount_0f7a4 2 = .ok (.iconst 1, 1) ∧ decode cJ6_bitCount_0f7a4 3 = .ok (.iushr, 1) ∧ decode cJ6_bitCount_0f7a4 4 = .ok (.ldc_w 265, 3) ∧ decode cJ6_bitCount_0f7a4 7 = .ok (.iand, 1) ∧ decode cJ6_bitCount_0f7a4 8 = .ok (.isub, 1) ∧ decode cJ6_bitCount_0f7a4 9 = .ok (.istore_n 0, 1) ∧ decode cJ6_bitCount_0f7a4 10 = .ok (.iload_n 0, 1) ∧ decode cJ6_bitCount_0f7a4 11 = .ok (.ldc_w 266, 3) ∧ decode cJ6_bitCount_0f7a4 14 = .ok (.iand, 1) ∧ decode cJ6_bitCount_0f7a4 15 = .ok (.iload_n 0, 1) := by decide +kernel
theorem dJ6_bitCount_0f7a4_0 : decode cJ6_bitCount_0f7a4 0 = .ok (.iload_n 0, 1) := dkAc5.1
theorem dJ6_bitCount_0f7a4_1 : decode cJ6_bitCount_0f7a4 1 = .ok (.iload_n 0, 1) := dkAc5.2.1
theorem dJ6_bitCount_0f7a4_2 : decode cJ6_bitCount_0f7a4 2 = .ok (.iconst 1, 1) := dkAc5.2.2.1
theorem dJ6_bitCount_0f7a4_3 : decode cJ6_bitCount_0f7a4 3 = .ok (.iushr, 1) := dkAc5.2.2.2.1
theorem dJ6_bitCount_0f7a4_4 : decode cJ6_bitCount_0f7a4 4 = .ok (.ldc_w 265, 3) := dkAc5.2.2.2.2.1
theorem dJ6_bitCount_0f7a4_7 : decode cJ6_bitCount_0f7a4 7 = .ok (.iand, 1) := dkAc5.2.2.2.2.2.1
theorem dJ6_bitCount_0f7a4_8 : decode cJ6_bitCount_0f7a4 8 = .ok (.isub, 1) := dkAc5.2.2.2.2.2.2.1
theorem dJ6_bitCount_0f7a4_9 : decode cJ6_bitCount_0f7a4 9 = .ok (.istore_n 0, 1) := dkAc5.2.2.2.2.2.2.2.1
theorem dJ6_bitCount_0f7a4_10 : decode cJ6_bitCount_0f7a4 10 = .ok (.iload_n 0, 1) := dkAc5.2.2.2.2.2.2.2.2.1
theorem dJ6_bitCount_0f7a4_11 : decode cJ6_bitCount_0f7a4 11 = .ok (.ldc_w 266, 3) := dkAc5.2.2.2.2.2.2.2.2.2.1
theorem dJ6_bitCount_0f7a4_14 : decode cJ6_bitCount_0f7a4 14 = .ok (.iand, 1) := dkAc5.2.2.2.2.2.2.2.2.2.2.1
theorem dJ6_bitCount_0f7a4_15 : decode cJ6_bitCount_0f7a4 15 = .ok (.iload_n 0, 1) := dkAc5.2.2.2.2.2.2.2.2.2.2.2
set_option maxRecDepth 100000 in
theorem dkAc6 : decode cJ6_bitCount_0f7a4 16 = .ok (.iconst 2, 1) ∧ decode cJ6_bitCount_0f7a4 17 = .ok (.iushr, 1) ∧ decode cJ6_bitCount_0f7a4 18 = .ok (.ldc_w 266, 3) ∧ decode cJ6_bitCount_0f7a4 21 = .ok (.iand, 1) ∧ decode cJ6_bitCount_0f7a4 22 = .ok (.iadd, 1) ∧ decode cJ6_bitCount_0f7a4 23 = .ok (.istore_n 0, 1) ∧ decode cJ6_bitCount_0f7a4 24 = .ok (.iload_n 0, 1) ∧ decode cJ6_bitCount_0f7a4 25 = .ok (.iload_n 0, 1) ∧ decode cJ6_bitCount_0f7a4 26 = .ok (.iconst 4, 1) ∧ decode cJ6_bitCount_0f7a4 27 = .ok (.iushr, 1) ∧ decode cJ6_bitCount_0f7a4 28 = .ok (.iadd, 1) ∧ decode cJ6_bitCount_0f7a4 29 = .ok (.ldc_w 267, 3) := by decide +kernel
theorem dJ6_bitCount_0f7a4_16 : decode cJ6_bitCount_0f7a4 16 = .ok (.iconst 2, 1) := dkAc6.1
theorem dJ6_bitCount_0f7a4_17 : decode cJ6_bitCount_0f7a4 17 = .ok (.iushr, 1) := dkAc6.2.1
theorem dJ6_bitCount_0f7a4_18 : decode cJ6_bitCount_0f7a4 18 = .ok (.ldc_w 266, 3) := dkAc6.2.2.1
theorem dJ6_bitCount_0f7a4_21 : decode cJ6_bitCount_0f7a4 21 = .ok (.iand, 1) := dkAc6.2.2.2.1
theorem dJ6_bitCount_0f7a4_22 : decode cJ6_bitCount_0f7a4 22 = .ok (.iadd, 1) := dkAc6.2.2.2.2.1
theorem dJ6_bitCount_0f7a4_23 : decode cJ6_bitCount_0f7a4 23 = .ok (.istore_n 0, 1) := dkAc6.2.2.2.2.2.1
theorem dJ6_bitCount_0f7a4_24 : decode cJ6_bitCount_0f7a4 24 = .ok (.iload_n 0, 1) := dkAc6.2.2.2.2.2.2.1
theorem dJ6_bitCount_0f7a4_25 : decode cJ6_bitCount_0f7a4 25 = .ok (.iload_n 0, 1) := dkAc6.2.2.2.2.2.2.2.1
theorem dJ6_bitCount_0f7a4_26 : decode cJ6_bitCount_0f7a4 26 = .ok (.iconst 4, 1) := dkAc6.2.2.2.2.2.2.2.2.1
theorem dJ6_bitCount_0f7a4_27 : decode cJ6_bitCount_0f7a4 27 = .ok (.iushr, 1) := dkAc6.2.2.2.2.2.2.2.2.2.1
theorem dJ6_bitCount_0f7a4_28 : decode cJ6_bitCount_0f7a4 28 = .ok (.iadd, 1) := dkAc6.2.2.2.2.2.2.2.2.2.2.1
theorem dJ6_bitCount_0f7a4_29 : decode cJ6_bitCount_0f7a4 29 = .ok (.ldc_w 267, 3) := dkAc6.2.2.2.2.2.2.2.2.2.2.2
set_option maxRecDepth 100000 in
theorem dkAc7 : decode cJ6_bitCount_0f7a4 32 = .ok (.iand, 1) ∧ decode cJ6_bitCount_0f7a4 33 = .ok (.istore_n 0, 1) ∧ decode cJ6_bitCount_0f7a4 34 = .ok (.iload_n 0, 1) ∧ decode cJ6_bitCount_0f7a4 35 = .ok (.iload_n 0, 1) ∧ decode cJ6_bitCount_0f7a4 36 = .ok (.bipush 8, 2) ∧ decode cJ6_bitCount_0f7a4 38 = .ok (.iushr, 1) ∧ decode cJ6_bitCount_0f7a4 39 = .ok (.iadd, 1) ∧ decode cJ6_bitCount_0f7a4 40 = .ok (.istore_n 0, 1) ∧ decode cJ6_bitCount_0f7a4 41 = .ok (.iload_n 0, 1) ∧ decode cJ6_bitCount_0f7a4 42 = .ok (.iload_n 0, 1) ∧ decode cJ6_bitCount_0f7a4 43 = .ok (.bipush 16, 2) ∧ decode cJ6_bitCount_0f7a4 45 = .ok (.iushr, 1) := by decide +kernel
theorem dJ6_bitCount_0f7a4_32 : decode cJ6_bitCount_0f7a4 32 = .ok (.iand, 1) := dkAc7.1
theorem dJ6_bitCount_0f7a4_33 : decode cJ6_bitCount_0f7a4 33 = .ok (.istore_n 0, 1) := dkAc7.2.1
theorem dJ6_bitCount_0f7a4_34 : decode cJ6_bitCount_0f7a4 34 = .ok (.iload_n 0, 1) := dkAc7.2.2.1
theorem dJ6_bitCount_0f7a4_35 : decode cJ6_bitCount_0f7a4 35 = .ok (.iload_n 0, 1) := dkAc7.2.2.2.1
theorem dJ6_bitCount_0f7a4_36 : decode cJ6_bitCount_0f7a4 36 = .ok (.bipush 8, 2) := dkAc7.2.2.2.2.1
theorem dJ6_bitCount_0f7a4_38 : decode cJ6_bitCount_0f7a4 38 = .ok (.iushr, 1) := dkAc7.2.2.2.2.2.1
theorem dJ6_bitCount_0f7a4_39 : decode cJ6_bitCount_0f7a4 39 = .ok (.iadd, 1) := dkAc7.2.2.2.2.2.2.1
theorem dJ6_bitCount_0f7a4_40 : decode cJ6_bitCount_0f7a4 40 = .ok (.istore_n 0, 1) := dkAc7.2.2.2.2.2.2.2.1
theorem dJ6_bitCount_0f7a4_41 : decode cJ6_bitCount_0f7a4 41 = .ok (.iload_n 0, 1) := dkAc7.2.2.2.2.2.2.2.2.1
theorem dJ6_bitCount_0f7a4_42 : decode cJ6_bitCount_0f7a4 42 = .ok (.iload_n 0, 1) := dkAc7.2.2.2.2.2.2.2.2.2.1
theorem dJ6_bitCount_0f7a4_43 : decode cJ6_bitCount_0f7a4 43 = .ok (.bipush 16, 2) := dkAc7.2.2.2.2.2.2.2.2.2.2.1
theorem dJ6_bitCount_0f7a4_45 : decode cJ6_bitCount_0f7a4 45 = .ok (.iushr, 1) := dkAc7.2.2.2.2.2.2.2.2.2.2.2
set_option maxRecDepth 100000 in
theorem dkAc8 : decode cJ6_bitCount_0f7a4 46 = .ok (.iadd, 1) ∧ decode cJ6_bitCount_0f7a4 47 = .ok (.istore_n 0, 1) ∧ decode cJ6_bitCount_0f7a4 48 = .ok (.iload_n 0, 1) ∧ decode cJ6_bitCount_0f7a4 49 = .ok (.bipush 63, 2) ∧ decode cJ6_bitCount_0f7a4 51 = .ok (.iand, 1) ∧ decode cJ6_bitCount_0f7a4 52 = .ok (.ireturn, 1) := by decide +kernel
theorem dJ6_bitCount_0f7a4_46 : decode cJ6_bitCount_0f7a4 46 = .ok (.iadd, 1) := dkAc8.1
theorem dJ6_bitCount_0f7a4_47 : decode cJ6_bitCount_0f7a4 47 = .ok (.istore_n 0, 1) := dkAc8.2.1
theorem dJ6_bitCount_0f7a4_48 : decode cJ6_bitCount_0f7a4 48 = .ok (.iload_n 0, 1) := dkAc8.2.2.1
theorem dJ6_bitCount_0f7a4_49 : decode cJ6_bitCount_0f7a4 49 = .ok (.bipush 63, 2) := dkAc8.2.2.2.1
theorem dJ6_bitCount_0f7a4_51 : decode cJ6_bitCount_0f7a4 51 = .ok (.iand, 1) := dkAc8.2.2.2.2.1
theorem dJ6_bitCount_0f7a4_52 : decode cJ6_bitCount_0f7a4 52 = .ok (.ireturn, 1) := dkAc8.2.2.2.2.2
set_option maxRecDepth 100000 in
theorem dkAc9 : decode cJ9_abs_0f7a4 0 = .ok (.iload_n 0, 1) ∧ decode cJ9_abs_0f7a4 1 = .ok (.ifCond .ge 8, 3) ∧ decode cJ9_abs_0f7a4 4 = .ok (.iload_n 0, 1) ∧ decode cJ9_abs_0f7a4 5 = .ok (.ineg, 1) ∧ decode cJ9_abs_0f7a4 6 = .ok (.goto 4, 3) ∧ decode cJ9_abs_0f7a4 9 = .ok (.iload_n 0, 1) ∧ decode cJ9_abs_0f7a4 10 = .ok (.ireturn, 1) := by decide +kernel
theorem dJ9_abs_0f7a4_0 : decode cJ9_abs_0f7a4 0 = .ok (.iload_n 0, 1) := dkAc9.1
theorem dJ9_abs_0f7a4_1 : decode cJ9_abs_0f7a4 1 = .ok (.ifCond .ge 8, 3) := dkAc9.2.1
theorem dJ9_abs_0f7a4_4 : decode cJ9_abs_0f7a4 4 = .ok (.iload_n 0, 1) := dkAc9.2.2.1
theorem dJ9_abs_0f7a4_5 : decode cJ9_abs_0f7a4 5 = .ok (.ineg, 1) := dkAc9.2.2.2.1
theorem dJ9_abs_0f7a4_6 : decode cJ9_abs_0f7a4 6 = .ok (.goto 4, 3) := dkAc9.2.2.2.2.1
theorem dJ9_abs_0f7a4_9 : decode cJ9_abs_0f7a4 9 = .ok (.iload_n 0, 1) := dkAc9.2.2.2.2.2.1
theorem dJ9_abs_0f7a4_10 : decode cJ9_abs_0f7a4 10 = .ok (.ireturn, 1) := dkAc9.2.2.2.2.2.2
set_option maxRecDepth 100000 in
theorem dkAc10 : decode cJ9_max_7cf53 0 = .ok (.iload_n 0, 1) ∧ decode cJ9_max_7cf53 1 = .ok (.iload_n 1, 1) ∧ decode cJ9_max_7cf53 2 = .ok (.if_icmp .lt 7, 3) ∧ decode cJ9_max_7cf53 5 = .ok (.iload_n 0, 1) ∧ decode cJ9_max_7cf53 6 = .ok (.goto 4, 3) ∧ decode cJ9_max_7cf53 9 = .ok (.iload_n 1, 1) ∧ decode cJ9_max_7cf53 10 = .ok (.ireturn, 1) := by decide +kernel
theorem dJ9_max_7cf53_0 : decode cJ9_max_7cf53 0 = .ok (.iload_n 0, 1) := dkAc10.1
theorem dJ9_max_7cf53_1 : decode cJ9_max_7cf53 1 = .ok (.iload_n 1, 1) := dkAc10.2.1
theorem dJ9_max_7cf53_2 : decode cJ9_max_7cf53 2 = .ok (.if_icmp .lt 7, 3) := dkAc10.2.2.1
theorem dJ9_max_7cf53_5 : decode cJ9_max_7cf53 5 = .ok (.iload_n 0, 1) := dkAc10.2.2.2.1
theorem dJ9_max_7cf53_6 : decode cJ9_max_7cf53 6 = .ok (.goto 4, 3) := dkAc10.2.2.2.2.1
theorem dJ9_max_7cf53_9 : decode cJ9_max_7cf53 9 = .ok (.iload_n 1, 1) := dkAc10.2.2.2.2.2.1
theorem dJ9_max_7cf53_10 : decode cJ9_max_7cf53 10 = .ok (.ireturn, 1) := dkAc10.2.2.2.2.2.2
set_option maxRecDepth 100000 in
theorem dkAc11 : decode cJ9_min_7cf53 0 = .ok (.iload_n 0, 1) ∧ decode cJ9_min_7cf53 1 = .ok (.iload_n 1, 1) ∧ decode cJ9_min_7cf53 2 = .ok (.if_icmp .gt 7, 3) ∧ decode cJ9_min_7cf53 5 = .ok (.iload_n 0, 1) ∧ decode cJ9_min_7cf53 6 = .ok (.goto 4, 3) ∧ decode cJ9_min_7cf53 9 = .ok (.iload_n 1, 1) ∧ decode cJ9_min_7cf53 10 = .ok (.ireturn, 1) := by decide +kernel
theorem dJ9_min_7cf53_0 : decode cJ9_min_7cf53 0 = .ok (.iload_n 0, 1) := dkAc11.1
theorem dJ9_min_7cf53_1 : decode cJ9_min_7cf53 1 = .ok (.iload_n 1, 1) := dkAc11.2.1
theorem dJ9_min_7cf53_2 : decode cJ9_min_7cf53 2 = .ok (.if_icmp .gt 7, 3) := dkAc11.2.2.1
theorem dJ9_min_7cf53_5 : decode cJ9_min_7cf53 5 = .ok (.iload_n 0, 1) := dkAc11.2.2.2.1
theorem dJ9_min_7cf53_6 : decode cJ9_min_7cf53 6 = .ok (.goto 4, 3) := dkAc11.2.2.2.2.1
theorem dJ9_min_7cf53_9 : decode cJ9_min_7cf53 9 = .ok (.iload_n 1, 1) := dkAc11.2.2.2.2.2.1
theorem dJ9_min_7cf53_10 : decode cJ9_min_7cf53 10 = .ok (.ireturn, 1) := dkAc11.2.2.2.2.2.2
set_option maxRecDepth 100000 in
theorem dkAc12 : decode cL_law 0 = .ok (.new 7, 3) ∧ decode cL_law 3 = .ok (.dup, 1) ∧ decode cL_law 4 = .ok (.invokespecial 9, 3) ∧ decode cL_law 7 = .ok (.astore_n 1, 1) ∧ decode cL_law 8 = .ok (.new 10, 3) ∧ decode cL_law 11 = .ok (.dup, 1) ∧ decode cL_law 12 = .ok (.invokespecial 12, 3) ∧ decode cL_law 15 = .ok (.astore_n 2, 1) ∧ decode cL_law 16 = .ok (.iconst 0, 1) ∧ decode cL_law 17 = .ok (.istore_n 3, 1) ∧ decode cL_law 18 = .ok (.iload_n 3, 1) ∧ decode cL_law 19 = .ok (.aload_n 0, 1) := by decide +kernel
theorem dL_law_0 : decode cL_law 0 = .ok (.new 7, 3) := dkAc12.1
theorem dL_law_3 : decode cL_law 3 = .ok (.dup, 1) := dkAc12.2.1
theorem dL_law_4 : decode cL_law 4 = .ok (.invokespecial 9, 3) := dkAc12.2.2.1
theorem dL_law_7 : decode cL_law 7 = .ok (.astore_n 1, 1) := dkAc12.2.2.2.1
theorem dL_law_8 : decode cL_law 8 = .ok (.new 10, 3) := dkAc12.2.2.2.2.1
theorem dL_law_11 : decode cL_law 11 = .ok (.dup, 1) := dkAc12.2.2.2.2.2.1
theorem dL_law_12 : decode cL_law 12 = .ok (.invokespecial 12, 3) := dkAc12.2.2.2.2.2.2.1
theorem dL_law_15 : decode cL_law 15 = .ok (.astore_n 2, 1) := dkAc12.2.2.2.2.2.2.2.1
theorem dL_law_16 : decode cL_law 16 = .ok (.iconst 0, 1) := dkAc12.2.2.2.2.2.2.2.2.1
theorem dL_law_17 : decode cL_law 17 = .ok (.istore_n 3, 1) := dkAc12.2.2.2.2.2.2.2.2.2.1
theorem dL_law_18 : decode cL_law 18 = .ok (.iload_n 3, 1) := dkAc12.2.2.2.2.2.2.2.2.2.2.1
theorem dL_law_19 : decode cL_law 19 = .ok (.aload_n 0, 1) := dkAc12.2.2.2.2.2.2.2.2.2.2.2
set_option maxRecDepth 100000 in
theorem dkAc13 : decode cL_law 20 = .ok (.arraylength, 1) ∧ decode cL_law 21 = .ok (.iconst 5, 1) ∧ decode cL_law 22 = .ok (.isub, 1) ∧ decode cL_law 23 = .ok (.if_icmp .gt 967, 3) ∧ decode cL_law 26 = .ok (.aload_n 0, 1) ∧ decode cL_law 27 = .ok (.iload_n 3, 1) ∧ decode cL_law 28 = .ok (.iaload, 1) ∧ decode cL_law 29 = .ok (.bipush 31, 2) ∧ decode cL_law 31 = .ok (.iand, 1) ∧ decode cL_law 32 = .ok (.tableswitch 952 0 29 #[136, 159, 172, 185, 208, 241, 264, 287, 310, 343, 376, 419, 442, 455, 488, 521, 574, 597, 630, 673, 722, 745, 758, 791, 824, 857, 870, 883, 906, 929], 136) ∧ decode cL_law 168 = .ok (.aload_n 1, 1) ∧ decode cL_law 169 = .ok (.aload_n 0, 1) := by decide +kernel
theorem dL_law_20 : decode cL_law 20 = .ok (.arraylength, 1) := dkAc13.1
theorem dL_law_21 : decode cL_law 21 = .ok (.iconst 5, 1) := dkAc13.2.1
theorem dL_law_22 : decode cL_law 22 = .ok (.isub, 1) := dkAc13.2.2.1
theorem dL_law_23 : decode cL_law 23 = .ok (.if_icmp .gt 967, 3) := dkAc13.2.2.2.1
theorem dL_law_26 : decode cL_law 26 = .ok (.aload_n 0, 1) := dkAc13.2.2.2.2.1
theorem dL_law_27 : decode cL_law 27 = .ok (.iload_n 3, 1) := dkAc13.2.2.2.2.2.1
theorem dL_law_28 : decode cL_law 28 = .ok (.iaload, 1) := dkAc13.2.2.2.2.2.2.1
theorem dL_law_29 : decode cL_law 29 = .ok (.bipush 31, 2) := dkAc13.2.2.2.2.2.2.2.1
theorem dL_law_31 : decode cL_law 31 = .ok (.iand, 1) := dkAc13.2.2.2.2.2.2.2.2.1
theorem dL_law_32 : decode cL_law 32 = .ok (.tableswitch 952 0 29 #[136, 159, 172, 185, 208, 241, 264, 287, 310, 343, 376, 419, 442, 455, 488, 521, 574, 597, 630, 673, 722, 745, 758, 791, 824, 857, 870, 883, 906, 929], 136) := dkAc13.2.2.2.2.2.2.2.2.2.1
theorem dL_law_168 : decode cL_law 168 = .ok (.aload_n 1, 1) := dkAc13.2.2.2.2.2.2.2.2.2.2.1
theorem dL_law_169 : decode cL_law 169 = .ok (.aload_n 0, 1) := dkAc13.2.2.2.2.2.2.2.2.2.2.2
set_option maxRecDepth 100000 in
theorem dkAc14 : decode cL_law 170 = .ok (.iload_n 3, 1) ∧ decode cL_law 171 = .ok (.iconst 1, 1) ∧ decode cL_law 172 = .ok (.iadd, 1) ∧ decode cL_law 173 = .ok (.iaload, 1) ∧ decode cL_law 174 = .ok (.invokevirtual 13, 3) ∧ decode cL_law 177 = .ok (.pop, 1) ∧ decode cL_law 178 = .ok (.aload_n 2, 1) ∧ decode cL_law 179 = .ok (.aload_n 0, 1) ∧ decode cL_law 180 = .ok (.iload_n 3, 1) ∧ decode cL_law 181 = .ok (.iconst 1, 1) ∧ decode cL_law 182 = .ok (.iadd, 1) ∧ decode cL_law 183 = .ok (.iaload, 1) := by decide +kernel
theorem dL_law_170 : decode cL_law 170 = .ok (.iload_n 3, 1) := dkAc14.1
theorem dL_law_171 : decode cL_law 171 = .ok (.iconst 1, 1) := dkAc14.2.1
theorem dL_law_172 : decode cL_law 172 = .ok (.iadd, 1) := dkAc14.2.2.1
theorem dL_law_173 : decode cL_law 173 = .ok (.iaload, 1) := dkAc14.2.2.2.1
theorem dL_law_174 : decode cL_law 174 = .ok (.invokevirtual 13, 3) := dkAc14.2.2.2.2.1
theorem dL_law_177 : decode cL_law 177 = .ok (.pop, 1) := dkAc14.2.2.2.2.2.1
theorem dL_law_178 : decode cL_law 178 = .ok (.aload_n 2, 1) := dkAc14.2.2.2.2.2.2.1
theorem dL_law_179 : decode cL_law 179 = .ok (.aload_n 0, 1) := dkAc14.2.2.2.2.2.2.2.1
theorem dL_law_180 : decode cL_law 180 = .ok (.iload_n 3, 1) := dkAc14.2.2.2.2.2.2.2.2.1
theorem dL_law_181 : decode cL_law 181 = .ok (.iconst 1, 1) := dkAc14.2.2.2.2.2.2.2.2.2.1
theorem dL_law_182 : decode cL_law 182 = .ok (.iadd, 1) := dkAc14.2.2.2.2.2.2.2.2.2.2.1
theorem dL_law_183 : decode cL_law 183 = .ok (.iaload, 1) := dkAc14.2.2.2.2.2.2.2.2.2.2.2
set_option maxRecDepth 100000 in
theorem dkAc15 : decode cL_law 184 = .ok (.invokevirtual 17, 3) ∧ decode cL_law 187 = .ok (.pop, 1) ∧ decode cL_law 188 = .ok (.goto 796, 3) ∧ decode cL_law 191 = .ok (.aload_n 1, 1) ∧ decode cL_law 192 = .ok (.invokevirtual 18, 3) ∧ decode cL_law 195 = .ok (.pop, 1) ∧ decode cL_law 196 = .ok (.aload_n 2, 1) ∧ decode cL_law 197 = .ok (.invokevirtual 22, 3) ∧ decode cL_law 200 = .ok (.pop, 1) ∧ decode cL_law 201 = .ok (.goto 783, 3) ∧ decode cL_law 204 = .ok (.aload_n 1, 1) ∧ decode cL_law 205 = .ok (.invokevirtual 23, 3) := by decide +kernel
theorem dL_law_184 : decode cL_law 184 = .ok (.invokevirtual 17, 3) := dkAc15.1
theorem dL_law_187 : decode cL_law 187 = .ok (.pop, 1) := dkAc15.2.1
theorem dL_law_188 : decode cL_law 188 = .ok (.goto 796, 3) := dkAc15.2.2.1
theorem dL_law_191 : decode cL_law 191 = .ok (.aload_n 1, 1) := dkAc15.2.2.2.1
theorem dL_law_192 : decode cL_law 192 = .ok (.invokevirtual 18, 3) := dkAc15.2.2.2.2.1
theorem dL_law_195 : decode cL_law 195 = .ok (.pop, 1) := dkAc15.2.2.2.2.2.1
theorem dL_law_196 : decode cL_law 196 = .ok (.aload_n 2, 1) := dkAc15.2.2.2.2.2.2.1
theorem dL_law_197 : decode cL_law 197 = .ok (.invokevirtual 22, 3) := dkAc15.2.2.2.2.2.2.2.1
theorem dL_law_200 : decode cL_law 200 = .ok (.pop, 1) := dkAc15.2.2.2.2.2.2.2.2.1
theorem dL_law_201 : decode cL_law 201 = .ok (.goto 783, 3) := dkAc15.2.2.2.2.2.2.2.2.2.1
theorem dL_law_204 : decode cL_law 204 = .ok (.aload_n 1, 1) := dkAc15.2.2.2.2.2.2.2.2.2.2.1
theorem dL_law_205 : decode cL_law 205 = .ok (.invokevirtual 23, 3) := dkAc15.2.2.2.2.2.2.2.2.2.2.2
set_option maxRecDepth 100000 in
theorem dkAc16 : decode cL_law 208 = .ok (.pop, 1) ∧ decode cL_law 209 = .ok (.aload_n 2, 1) ∧ decode cL_law 210 = .ok (.invokevirtual 26, 3) ∧ decode cL_law 213 = .ok (.pop, 1) ∧ decode cL_law 214 = .ok (.goto 770, 3) ∧ decode cL_law 217 = .ok (.aload_n 1, 1) ∧ decode cL_law 218 = .ok (.aload_n 0, 1) ∧ decode cL_law 219 = .ok (.iload_n 3, 1) ∧ decode cL_law 220 = .ok (.iconst 1, 1) ∧ decode cL_law 221 = .ok (.iadd, 1) ∧ decode cL_law 222 = .ok (.iaload, 1) ∧ decode cL_law 223 = .ok (.invokevirtual 27, 3) := by decide +kernel
theorem dL_law_208 : decode cL_law 208 = .ok (.pop, 1) := dkAc16.1
theorem dL_law_209 : decode cL_law 209 = .ok (.aload_n 2, 1) := dkAc16.2.1
theorem dL_law_210 : decode cL_law 210 = .ok (.invokevirtual 26, 3) := dkAc16.2.2.1
theorem dL_law_213 : decode cL_law 213 = .ok (.pop, 1) := dkAc16.2.2.2.1
theorem dL_law_214 : decode cL_law 214 = .ok (.goto 770, 3) := dkAc16.2.2.2.2.1
theorem dL_law_217 : decode cL_law 217 = .ok (.aload_n 1, 1) := dkAc16.2.2.2.2.2.1
theorem dL_law_218 : decode cL_law 218 = .ok (.aload_n 0, 1) := dkAc16.2.2.2.2.2.2.1
theorem dL_law_219 : decode cL_law 219 = .ok (.iload_n 3, 1) := dkAc16.2.2.2.2.2.2.2.1
theorem dL_law_220 : decode cL_law 220 = .ok (.iconst 1, 1) := dkAc16.2.2.2.2.2.2.2.2.1
theorem dL_law_221 : decode cL_law 221 = .ok (.iadd, 1) := dkAc16.2.2.2.2.2.2.2.2.2.1
theorem dL_law_222 : decode cL_law 222 = .ok (.iaload, 1) := dkAc16.2.2.2.2.2.2.2.2.2.2.1
theorem dL_law_223 : decode cL_law 223 = .ok (.invokevirtual 27, 3) := dkAc16.2.2.2.2.2.2.2.2.2.2.2
set_option maxRecDepth 100000 in
theorem dkAc17 : decode cL_law 226 = .ok (.pop, 1) ∧ decode cL_law 227 = .ok (.aload_n 2, 1) ∧ decode cL_law 228 = .ok (.aload_n 0, 1) ∧ decode cL_law 229 = .ok (.iload_n 3, 1) ∧ decode cL_law 230 = .ok (.iconst 1, 1) ∧ decode cL_law 231 = .ok (.iadd, 1) ∧ decode cL_law 232 = .ok (.iaload, 1) ∧ decode cL_law 233 = .ok (.invokevirtual 30, 3) ∧ decode cL_law 236 = .ok (.pop, 1) ∧ decode cL_law 237 = .ok (.goto 747, 3) ∧ decode cL_law 240 = .ok (.aload_n 1, 1) ∧ decode cL_law 241 = .ok (.aload_n 0, 1) := by decide +kernel
theorem dL_law_226 : decode cL_law 226 = .ok (.pop, 1) := dkAc17.1
theorem dL_law_227 : decode cL_law 227 = .ok (.aload_n 2, 1) := dkAc17.2.1
theorem dL_law_228 : decode cL_law 228 = .ok (.aload_n 0, 1) := dkAc17.2.2.1
theorem dL_law_229 : decode cL_law 229 = .ok (.iload_n 3, 1) := dkAc17.2.2.2.1
theorem dL_law_230 : decode cL_law 230 = .ok (.iconst 1, 1) := dkAc17.2.2.2.2.1
theorem dL_law_231 : decode cL_law 231 = .ok (.iadd, 1) := dkAc17.2.2.2.2.2.1
theorem dL_law_232 : decode cL_law 232 = .ok (.iaload, 1) := dkAc17.2.2.2.2.2.2.1
theorem dL_law_233 : decode cL_law 233 = .ok (.invokevirtual 30, 3) := dkAc17.2.2.2.2.2.2.2.1
theorem dL_law_236 : decode cL_law 236 = .ok (.pop, 1) := dkAc17.2.2.2.2.2.2.2.2.1
theorem dL_law_237 : decode cL_law 237 = .ok (.goto 747, 3) := dkAc17.2.2.2.2.2.2.2.2.2.1
theorem dL_law_240 : decode cL_law 240 = .ok (.aload_n 1, 1) := dkAc17.2.2.2.2.2.2.2.2.2.2.1
theorem dL_law_241 : decode cL_law 241 = .ok (.aload_n 0, 1) := dkAc17.2.2.2.2.2.2.2.2.2.2.2
set_option maxRecDepth 100000 in
theorem dkAc18 : decode cL_law 242 = .ok (.iload_n 3, 1) ∧ decode cL_law 243 = .ok (.iconst 1, 1) ∧ decode cL_law 244 = .ok (.iadd, 1) ∧ decode cL_law 245 = .ok (.iaload, 1) ∧ decode cL_law 246 = .ok (.aload_n 0, 1) ∧ decode cL_law 247 = .ok (.iload_n 3, 1) ∧ decode cL_law 248 = .ok (.iconst 2, 1) ∧ decode cL_law 249 = .ok (.iadd, 1) ∧ decode cL_law 250 = .ok (.iaload, 1) ∧ decode cL_law 251 = .ok (.invokevirtual 31, 3) ∧ decode cL_law 254 = .ok (.pop, 1) ∧ decode cL_law 255 = .ok (.aload_n 2, 1) := by decide +kernel
theorem dL_law_242 : decode cL_law 242 = .ok (.iload_n 3, 1) := dkAc18.1
theorem dL_law_243 : decode cL_law 243 = .ok (.iconst 1, 1) := dkAc18.2.1
theorem dL_law_244 : decode cL_law 244 = .ok (.iadd, 1) := dkAc18.2.2.1
theorem dL_law_245 : decode cL_law 245 = .ok (.iaload, 1) := dkAc18.2.2.2.1
theorem dL_law_246 : decode cL_law 246 = .ok (.aload_n 0, 1) := dkAc18.2.2.2.2.1
theorem dL_law_247 : decode cL_law 247 = .ok (.iload_n 3, 1) := dkAc18.2.2.2.2.2.1
theorem dL_law_248 : decode cL_law 248 = .ok (.iconst 2, 1) := dkAc18.2.2.2.2.2.2.1
theorem dL_law_249 : decode cL_law 249 = .ok (.iadd, 1) := dkAc18.2.2.2.2.2.2.2.1
theorem dL_law_250 : decode cL_law 250 = .ok (.iaload, 1) := dkAc18.2.2.2.2.2.2.2.2.1
theorem dL_law_251 : decode cL_law 251 = .ok (.invokevirtual 31, 3) := dkAc18.2.2.2.2.2.2.2.2.2.1
theorem dL_law_254 : decode cL_law 254 = .ok (.pop, 1) := dkAc18.2.2.2.2.2.2.2.2.2.2.1
theorem dL_law_255 : decode cL_law 255 = .ok (.aload_n 2, 1) := dkAc18.2.2.2.2.2.2.2.2.2.2.2
set_option maxRecDepth 100000 in
theorem dkAc19 : decode cL_law 256 = .ok (.aload_n 0, 1) ∧ decode cL_law 257 = .ok (.iload_n 3, 1) ∧ decode cL_law 258 = .ok (.iconst 1, 1) ∧ decode cL_law 259 = .ok (.iadd, 1) ∧ decode cL_law 260 = .ok (.iaload, 1) ∧ decode cL_law 261 = .ok (.aload_n 0, 1) ∧ decode cL_law 262 = .ok (.iload_n 3, 1) ∧ decode cL_law 263 = .ok (.iconst 2, 1) ∧ decode cL_law 264 = .ok (.iadd, 1) ∧ decode cL_law 265 = .ok (.iaload, 1) ∧ decode cL_law 266 = .ok (.invokevirtual 35, 3) ∧ decode cL_law 269 = .ok (.pop, 1) := by decide +kernel
theorem dL_law_256 : decode cL_law 256 = .ok (.aload_n 0, 1) := dkAc19.1
theorem dL_law_257 : decode cL_law 257 = .ok (.iload_n 3, 1) := dkAc19.2.1
theorem dL_law_258 : decode cL_law 258 = .ok (.iconst 1, 1) := dkAc19.2.2.1
theorem dL_law_259 : decode cL_law 259 = .ok (.iadd, 1) := dkAc19.2.2.2.1
theorem dL_law_260 : decode cL_law 260 = .ok (.iaload, 1) := dkAc19.2.2.2.2.1
theorem dL_law_261 : decode cL_law 261 = .ok (.aload_n 0, 1) := dkAc19.2.2.2.2.2.1
theorem dL_law_262 : decode cL_law 262 = .ok (.iload_n 3, 1) := dkAc19.2.2.2.2.2.2.1
theorem dL_law_263 : decode cL_law 263 = .ok (.iconst 2, 1) := dkAc19.2.2.2.2.2.2.2.1
theorem dL_law_264 : decode cL_law 264 = .ok (.iadd, 1) := dkAc19.2.2.2.2.2.2.2.2.1
theorem dL_law_265 : decode cL_law 265 = .ok (.iaload, 1) := dkAc19.2.2.2.2.2.2.2.2.2.1
theorem dL_law_266 : decode cL_law 266 = .ok (.invokevirtual 35, 3) := dkAc19.2.2.2.2.2.2.2.2.2.2.1
theorem dL_law_269 : decode cL_law 269 = .ok (.pop, 1) := dkAc19.2.2.2.2.2.2.2.2.2.2.2
set_option maxRecDepth 100000 in
theorem dkAc20 : decode cL_law 270 = .ok (.goto 714, 3) ∧ decode cL_law 273 = .ok (.aload_n 1, 1) ∧ decode cL_law 274 = .ok (.aload_n 0, 1) ∧ decode cL_law 275 = .ok (.iload_n 3, 1) ∧ decode cL_law 276 = .ok (.iconst 1, 1) ∧ decode cL_law 277 = .ok (.iadd, 1) ∧ decode cL_law 278 = .ok (.iaload, 1) ∧ decode cL_law 279 = .ok (.invokevirtual 36, 3) ∧ decode cL_law 282 = .ok (.pop, 1) ∧ decode cL_law 283 = .ok (.aload_n 2, 1) ∧ decode cL_law 284 = .ok (.aload_n 0, 1) ∧ decode cL_law 285 = .ok (.iload_n 3, 1) := by decide +kernel
theorem dL_law_270 : decode cL_law 270 = .ok (.goto 714, 3) := dkAc20.1
theorem dL_law_273 : decode cL_law 273 = .ok (.aload_n 1, 1) := dkAc20.2.1
theorem dL_law_274 : decode cL_law 274 = .ok (.aload_n 0, 1) := dkAc20.2.2.1
theorem dL_law_275 : decode cL_law 275 = .ok (.iload_n 3, 1) := dkAc20.2.2.2.1
theorem dL_law_276 : decode cL_law 276 = .ok (.iconst 1, 1) := dkAc20.2.2.2.2.1
theorem dL_law_277 : decode cL_law 277 = .ok (.iadd, 1) := dkAc20.2.2.2.2.2.1
theorem dL_law_278 : decode cL_law 278 = .ok (.iaload, 1) := dkAc20.2.2.2.2.2.2.1
theorem dL_law_279 : decode cL_law 279 = .ok (.invokevirtual 36, 3) := dkAc20.2.2.2.2.2.2.2.1
theorem dL_law_282 : decode cL_law 282 = .ok (.pop, 1) := dkAc20.2.2.2.2.2.2.2.2.1
theorem dL_law_283 : decode cL_law 283 = .ok (.aload_n 2, 1) := dkAc20.2.2.2.2.2.2.2.2.2.1
theorem dL_law_284 : decode cL_law 284 = .ok (.aload_n 0, 1) := dkAc20.2.2.2.2.2.2.2.2.2.2.1
theorem dL_law_285 : decode cL_law 285 = .ok (.iload_n 3, 1) := dkAc20.2.2.2.2.2.2.2.2.2.2.2
set_option maxRecDepth 100000 in
theorem dkAc21 : decode cL_law 286 = .ok (.iconst 1, 1) ∧ decode cL_law 287 = .ok (.iadd, 1) ∧ decode cL_law 288 = .ok (.iaload, 1) ∧ decode cL_law 289 = .ok (.invokevirtual 39, 3) ∧ decode cL_law 292 = .ok (.pop, 1) ∧ decode cL_law 293 = .ok (.goto 691, 3) ∧ decode cL_law 296 = .ok (.aload_n 1, 1) ∧ decode cL_law 297 = .ok (.aload_n 0, 1) ∧ decode cL_law 298 = .ok (.iload_n 3, 1) ∧ decode cL_law 299 = .ok (.iconst 1, 1) ∧ decode cL_law 300 = .ok (.iadd, 1) ∧ decode cL_law 301 = .ok (.iaload, 1) := by decide +kernel
theorem dL_law_286 : decode cL_law 286 = .ok (.iconst 1, 1) := dkAc21.1
theorem dL_law_287 : decode cL_law 287 = .ok (.iadd, 1) := dkAc21.2.1
theorem dL_law_288 : decode cL_law 288 = .ok (.iaload, 1) := dkAc21.2.2.1
theorem dL_law_289 : decode cL_law 289 = .ok (.invokevirtual 39, 3) := dkAc21.2.2.2.1
theorem dL_law_292 : decode cL_law 292 = .ok (.pop, 1) := dkAc21.2.2.2.2.1
theorem dL_law_293 : decode cL_law 293 = .ok (.goto 691, 3) := dkAc21.2.2.2.2.2.1
theorem dL_law_296 : decode cL_law 296 = .ok (.aload_n 1, 1) := dkAc21.2.2.2.2.2.2.1
theorem dL_law_297 : decode cL_law 297 = .ok (.aload_n 0, 1) := dkAc21.2.2.2.2.2.2.2.1
theorem dL_law_298 : decode cL_law 298 = .ok (.iload_n 3, 1) := dkAc21.2.2.2.2.2.2.2.2.1
theorem dL_law_299 : decode cL_law 299 = .ok (.iconst 1, 1) := dkAc21.2.2.2.2.2.2.2.2.2.1
theorem dL_law_300 : decode cL_law 300 = .ok (.iadd, 1) := dkAc21.2.2.2.2.2.2.2.2.2.2.1
theorem dL_law_301 : decode cL_law 301 = .ok (.iaload, 1) := dkAc21.2.2.2.2.2.2.2.2.2.2.2
set_option maxRecDepth 100000 in
theorem dkAc22 : decode cL_law 302 = .ok (.invokevirtual 40, 3) ∧ decode cL_law 305 = .ok (.pop, 1) ∧ decode cL_law 306 = .ok (.aload_n 2, 1) ∧ decode cL_law 307 = .ok (.aload_n 0, 1) ∧ decode cL_law 308 = .ok (.iload_n 3, 1) ∧ decode cL_law 309 = .ok (.iconst 1, 1) ∧ decode cL_law 310 = .ok (.iadd, 1) ∧ decode cL_law 311 = .ok (.iaload, 1) ∧ decode cL_law 312 = .ok (.invokevirtual 43, 3) ∧ decode cL_law 315 = .ok (.pop, 1) ∧ decode cL_law 316 = .ok (.goto 668, 3) ∧ decode cL_law 319 = .ok (.aload_n 1, 1) := by decide +kernel
theorem dL_law_302 : decode cL_law 302 = .ok (.invokevirtual 40, 3) := dkAc22.1
theorem dL_law_305 : decode cL_law 305 = .ok (.pop, 1) := dkAc22.2.1
theorem dL_law_306 : decode cL_law 306 = .ok (.aload_n 2, 1) := dkAc22.2.2.1
theorem dL_law_307 : decode cL_law 307 = .ok (.aload_n 0, 1) := dkAc22.2.2.2.1
theorem dL_law_308 : decode cL_law 308 = .ok (.iload_n 3, 1) := dkAc22.2.2.2.2.1
theorem dL_law_309 : decode cL_law 309 = .ok (.iconst 1, 1) := dkAc22.2.2.2.2.2.1
theorem dL_law_310 : decode cL_law 310 = .ok (.iadd, 1) := dkAc22.2.2.2.2.2.2.1
theorem dL_law_311 : decode cL_law 311 = .ok (.iaload, 1) := dkAc22.2.2.2.2.2.2.2.1
theorem dL_law_312 : decode cL_law 312 = .ok (.invokevirtual 43, 3) := dkAc22.2.2.2.2.2.2.2.2.1
theorem dL_law_315 : decode cL_law 315 = .ok (.pop, 1) := dkAc22.2.2.2.2.2.2.2.2.2.1
theorem dL_law_316 : decode cL_law 316 = .ok (.goto 668, 3) := dkAc22.2.2.2.2.2.2.2.2.2.2.1
theorem dL_law_319 : decode cL_law 319 = .ok (.aload_n 1, 1) := dkAc22.2.2.2.2.2.2.2.2.2.2.2
set_option maxRecDepth 100000 in
theorem dkAc23 : decode cL_law 320 = .ok (.aload_n 0, 1) ∧ decode cL_law 321 = .ok (.iload_n 3, 1) ∧ decode cL_law 322 = .ok (.iconst 1, 1) ∧ decode cL_law 323 = .ok (.iadd, 1) ∧ decode cL_law 324 = .ok (.iaload, 1) ∧ decode cL_law 325 = .ok (.invokevirtual 44, 3) ∧ decode cL_law 328 = .ok (.pop, 1) ∧ decode cL_law 329 = .ok (.aload_n 2, 1) ∧ decode cL_law 330 = .ok (.aload_n 0, 1) ∧ decode cL_law 331 = .ok (.iload_n 3, 1) ∧ decode cL_law 332 = .ok (.iconst 1, 1) ∧ decode cL_law 333 = .ok (.iadd, 1) := by decide +kernel
theorem dL_law_320 : decode cL_law 320 = .ok (.aload_n 0, 1) := dkAc23.1
theorem dL_law_321 : decode cL_law 321 = .ok (.iload_n 3, 1) := dkAc23.2.1
theorem dL_law_322 : decode cL_law 322 = .ok (.iconst 1, 1) := dkAc23.2.2.1
theorem dL_law_323 : decode cL_law 323 = .ok (.iadd, 1) := dkAc23.2.2.2.1
theorem dL_law_324 : decode cL_law 324 = .ok (.iaload, 1) := dkAc23.2.2.2.2.1
theorem dL_law_325 : decode cL_law 325 = .ok (.invokevirtual 44, 3) := dkAc23.2.2.2.2.2.1
theorem dL_law_328 : decode cL_law 328 = .ok (.pop, 1) := dkAc23.2.2.2.2.2.2.1
theorem dL_law_329 : decode cL_law 329 = .ok (.aload_n 2, 1) := dkAc23.2.2.2.2.2.2.2.1
theorem dL_law_330 : decode cL_law 330 = .ok (.aload_n 0, 1) := dkAc23.2.2.2.2.2.2.2.2.1
theorem dL_law_331 : decode cL_law 331 = .ok (.iload_n 3, 1) := dkAc23.2.2.2.2.2.2.2.2.2.1
theorem dL_law_332 : decode cL_law 332 = .ok (.iconst 1, 1) := dkAc23.2.2.2.2.2.2.2.2.2.2.1
theorem dL_law_333 : decode cL_law 333 = .ok (.iadd, 1) := dkAc23.2.2.2.2.2.2.2.2.2.2.2
set_option maxRecDepth 100000 in
theorem dkAc24 : decode cL_law 334 = .ok (.iaload, 1) ∧ decode cL_law 335 = .ok (.invokevirtual 47, 3) ∧ decode cL_law 338 = .ok (.pop, 1) ∧ decode cL_law 339 = .ok (.goto 645, 3) ∧ decode cL_law 342 = .ok (.aload_n 1, 1) ∧ decode cL_law 343 = .ok (.aload_n 0, 1) ∧ decode cL_law 344 = .ok (.iload_n 3, 1) ∧ decode cL_law 345 = .ok (.iconst 1, 1) ∧ decode cL_law 346 = .ok (.iadd, 1) ∧ decode cL_law 347 = .ok (.iaload, 1) ∧ decode cL_law 348 = .ok (.aload_n 0, 1) ∧ decode cL_law 349 = .ok (.iload_n 3, 1) := by decide +kernel
theorem dL_law_334 : decode cL_law 334 = .ok (.iaload, 1) := dkAc24.1
theorem dL_law_335 : decode cL_law 335 = .ok (.invokevirtual 47, 3) := dkAc24.2.1
theorem dL_law_338 : decode cL_law 338 = .ok (.pop, 1) := dkAc24.2.2.1
theorem dL_law_339 : decode cL_law 339 = .ok (.goto 645, 3) := dkAc24.2.2.2.1
theorem dL_law_342 : decode cL_law 342 = .ok (.aload_n 1, 1) := dkAc24.2.2.2.2.1
theorem dL_law_343 : decode cL_law 343 = .ok (.aload_n 0, 1) := dkAc24.2.2.2.2.2.1
theorem dL_law_344 : decode cL_law 344 = .ok (.iload_n 3, 1) := dkAc24.2.2.2.2.2.2.1
theorem dL_law_345 : decode cL_law 345 = .ok (.iconst 1, 1) := dkAc24.2.2.2.2.2.2.2.1
theorem dL_law_346 : decode cL_law 346 = .ok (.iadd, 1) := dkAc24.2.2.2.2.2.2.2.2.1
theorem dL_law_347 : decode cL_law 347 = .ok (.iaload, 1) := dkAc24.2.2.2.2.2.2.2.2.2.1
theorem dL_law_348 : decode cL_law 348 = .ok (.aload_n 0, 1) := dkAc24.2.2.2.2.2.2.2.2.2.2.1
theorem dL_law_349 : decode cL_law 349 = .ok (.iload_n 3, 1) := dkAc24.2.2.2.2.2.2.2.2.2.2.2
set_option maxRecDepth 100000 in
theorem dkAc25 : decode cL_law 350 = .ok (.iconst 2, 1) ∧ decode cL_law 351 = .ok (.iadd, 1) ∧ decode cL_law 352 = .ok (.iaload, 1) ∧ decode cL_law 353 = .ok (.invokevirtual 48, 3) ∧ decode cL_law 356 = .ok (.pop, 1) ∧ decode cL_law 357 = .ok (.aload_n 2, 1) ∧ decode cL_law 358 = .ok (.aload_n 0, 1) ∧ decode cL_law 359 = .ok (.iload_n 3, 1) ∧ decode cL_law 360 = .ok (.iconst 1, 1) ∧ decode cL_law 361 = .ok (.iadd, 1) ∧ decode cL_law 362 = .ok (.iaload, 1) ∧ decode cL_law 363 = .ok (.aload_n 0, 1) := by decide +kernel
theorem dL_law_350 : decode cL_law 350 = .ok (.iconst 2, 1) := dkAc25.1
theorem dL_law_351 : decode cL_law 351 = .ok (.iadd, 1) := dkAc25.2.1
theorem dL_law_352 : decode cL_law 352 = .ok (.iaload, 1) := dkAc25.2.2.1
theorem dL_law_353 : decode cL_law 353 = .ok (.invokevirtual 48, 3) := dkAc25.2.2.2.1
theorem dL_law_356 : decode cL_law 356 = .ok (.pop, 1) := dkAc25.2.2.2.2.1
theorem dL_law_357 : decode cL_law 357 = .ok (.aload_n 2, 1) := dkAc25.2.2.2.2.2.1
theorem dL_law_358 : decode cL_law 358 = .ok (.aload_n 0, 1) := dkAc25.2.2.2.2.2.2.1
theorem dL_law_359 : decode cL_law 359 = .ok (.iload_n 3, 1) := dkAc25.2.2.2.2.2.2.2.1
theorem dL_law_360 : decode cL_law 360 = .ok (.iconst 1, 1) := dkAc25.2.2.2.2.2.2.2.2.1
theorem dL_law_361 : decode cL_law 361 = .ok (.iadd, 1) := dkAc25.2.2.2.2.2.2.2.2.2.1
theorem dL_law_362 : decode cL_law 362 = .ok (.iaload, 1) := dkAc25.2.2.2.2.2.2.2.2.2.2.1
theorem dL_law_363 : decode cL_law 363 = .ok (.aload_n 0, 1) := dkAc25.2.2.2.2.2.2.2.2.2.2.2
set_option maxRecDepth 100000 in
theorem dkAc26 : decode cL_law 364 = .ok (.iload_n 3, 1) ∧ decode cL_law 365 = .ok (.iconst 2, 1) ∧ decode cL_law 366 = .ok (.iadd, 1) ∧ decode cL_law 367 = .ok (.iaload, 1) ∧ decode cL_law 368 = .ok (.invokevirtual 51, 3) ∧ decode cL_law 371 = .ok (.pop, 1) ∧ decode cL_law 372 = .ok (.goto 612, 3) ∧ decode cL_law 375 = .ok (.aload_n 1, 1) ∧ decode cL_law 376 = .ok (.aload_n 0, 1) ∧ decode cL_law 377 = .ok (.iload_n 3, 1) ∧ decode cL_law 378 = .ok (.iconst 1, 1) ∧ decode cL_law 379 = .ok (.iadd, 1) := by decide +kernel
theorem dL_law_364 : decode cL_law 364 = .ok (.iload_n 3, 1) := dkAc26.1
theorem dL_law_365 : decode cL_law 365 = .ok (.iconst 2, 1) := dkAc26.2.1
theorem dL_law_366 : decode cL_law 366 = .ok (.iadd, 1) := dkAc26.2.2.1
theorem dL_law_367 : decode cL_law 367 = .ok (.iaload, 1) := dkAc26.2.2.2.1
theorem dL_law_368 : decode cL_law 368 = .ok (.invokevirtual 51, 3) := dkAc26.2.2.2.2.1
theorem dL_law_371 : decode cL_law 371 = .ok (.pop, 1) := dkAc26.2.2.2.2.2.1
theorem dL_law_372 : decode cL_law 372 = .ok (.goto 612, 3) := dkAc26.2.2.2.2.2.2.1
theorem dL_law_375 : decode cL_law 375 = .ok (.aload_n 1, 1) := dkAc26.2.2.2.2.2.2.2.1
theorem dL_law_376 : decode cL_law 376 = .ok (.aload_n 0, 1) := dkAc26.2.2.2.2.2.2.2.2.1
theorem dL_law_377 : decode cL_law 377 = .ok (.iload_n 3, 1) := dkAc26.2.2.2.2.2.2.2.2.2.1
theorem dL_law_378 : decode cL_law 378 = .ok (.iconst 1, 1) := dkAc26.2.2.2.2.2.2.2.2.2.2.1
theorem dL_law_379 : decode cL_law 379 = .ok (.iadd, 1) := dkAc26.2.2.2.2.2.2.2.2.2.2.2
set_option maxRecDepth 100000 in
theorem dkAc27 : decode cL_law 380 = .ok (.iaload, 1) ∧ decode cL_law 381 = .ok (.aload_n 0, 1) ∧ decode cL_law 382 = .ok (.iload_n 3, 1) ∧ decode cL_law 383 = .ok (.iconst 2, 1) ∧ decode cL_law 384 = .ok (.iadd, 1) ∧ decode cL_law 385 = .ok (.iaload, 1) ∧ decode cL_law 386 = .ok (.invokevirtual 52, 3) ∧ decode cL_law 389 = .ok (.pop, 1) ∧ decode cL_law 390 = .ok (.aload_n 2, 1) ∧ decode cL_law 391 = .ok (.aload_n 0, 1) ∧ decode cL_law 392 = .ok (.iload_n 3, 1) ∧ decode cL_law 393 = .ok (.iconst 1, 1) := by decide +kernel
theorem dL_law_380 : decode cL_law 380 = .ok (.iaload, 1) := dkAc27.1
theorem dL_law_381 : decode cL_law 381 = .ok (.aload_n 0, 1) := dkAc27.2.1
theorem dL_law_382 : decode cL_law 382 = .ok (.iload_n 3, 1) := dkAc27.2.2.1
theorem dL_law_383 : decode cL_law 383 = .ok (.iconst 2, 1) := dkAc27.2.2.2.1
theorem dL_law_384 : decode cL_law 384 = .ok (.iadd, 1) := dkAc27.2.2.2.2.1
theorem dL_law_385 : decode cL_law 385 = .ok (.iaload, 1) := dkAc27.2.2.2.2.2.1
theorem dL_law_386 : decode cL_law 386 = .ok (.invokevirtual 52, 3) := dkAc27.2.2.2.2.2.2.1
theorem dL_law_389 : decode cL_law 389 = .ok (.pop, 1) := dkAc27.2.2.2.2.2.2.2.1
theorem dL_law_390 : decode cL_law 390 = .ok (.aload_n 2, 1) := dkAc27.2.2.2.2.2.2.2.2.1
theorem dL_law_391 : decode cL_law 391 = .ok (.aload_n 0, 1) := dkAc27.2.2.2.2.2.2.2.2.2.1
theorem dL_law_392 : decode cL_law 392 = .ok (.iload_n 3, 1) := dkAc27.2.2.2.2.2.2.2.2.2.2.1
theorem dL_law_393 : decode cL_law 393 = .ok (.iconst 1, 1) := dkAc27.2.2.2.2.2.2.2.2.2.2.2
set_option maxRecDepth 100000 in
theorem dkAc28 : decode cL_law 394 = .ok (.iadd, 1) ∧ decode cL_law 395 = .ok (.iaload, 1) ∧ decode cL_law 396 = .ok (.aload_n 0, 1) ∧ decode cL_law 397 = .ok (.iload_n 3, 1) ∧ decode cL_law 398 = .ok (.iconst 2, 1) ∧ decode cL_law 399 = .ok (.iadd, 1) ∧ decode cL_law 400 = .ok (.iaload, 1) ∧ decode cL_law 401 = .ok (.invokevirtual 55, 3) ∧ decode cL_law 404 = .ok (.pop, 1) ∧ decode cL_law 405 = .ok (.goto 579, 3) ∧ decode cL_law 408 = .ok (.aload_n 1, 1) ∧ decode cL_law 409 = .ok (.aload_n 0, 1) := by decide +kernel
theorem dL_law_394 : decode cL_law 394 = .ok (.iadd, 1) := dkAc28.1
theorem dL_law_395 : decode cL_law 395 = .ok (.iaload, 1) := dkAc28.2.1
theorem dL_law_396 : decode cL_law 396 = .ok (.aload_n 0, 1) := dkAc28.2.2.1
theorem dL_law_397 : decode cL_law 397 = .ok (.iload_n 3, 1) := dkAc28.2.2.2.1
theorem dL_law_398 : decode cL_law 398 = .ok (.iconst 2, 1) := dkAc28.2.2.2.2.1
theorem dL_law_399 : decode cL_law 399 = .ok (.iadd, 1) := dkAc28.2.2.2.2.2.1
theorem dL_law_400 : decode cL_law 400 = .ok (.iaload, 1) := dkAc28.2.2.2.2.2.2.1
theorem dL_law_401 : decode cL_law 401 = .ok (.invokevirtual 55, 3) := dkAc28.2.2.2.2.2.2.2.1
theorem dL_law_404 : decode cL_law 404 = .ok (.pop, 1) := dkAc28.2.2.2.2.2.2.2.2.1
theorem dL_law_405 : decode cL_law 405 = .ok (.goto 579, 3) := dkAc28.2.2.2.2.2.2.2.2.2.1
theorem dL_law_408 : decode cL_law 408 = .ok (.aload_n 1, 1) := dkAc28.2.2.2.2.2.2.2.2.2.2.1
theorem dL_law_409 : decode cL_law 409 = .ok (.aload_n 0, 1) := dkAc28.2.2.2.2.2.2.2.2.2.2.2
set_option maxRecDepth 100000 in
theorem dkAc29 : decode cL_law 410 = .ok (.iload_n 3, 1) ∧ decode cL_law 411 = .ok (.iconst 1, 1) ∧ decode cL_law 412 = .ok (.iadd, 1) ∧ decode cL_law 413 = .ok (.iaload, 1) ∧ decode cL_law 414 = .ok (.aload_n 0, 1) ∧ decode cL_law 415 = .ok (.iload_n 3, 1) ∧ decode cL_law 416 = .ok (.iconst 2, 1) ∧ decode cL_law 417 = .ok (.iadd, 1) ∧ decode cL_law 418 = .ok (.iaload, 1) ∧ decode cL_law 419 = .ok (.aload_n 0, 1) ∧ decode cL_law 420 = .ok (.iload_n 3, 1) ∧ decode cL_law 421 = .ok (.iconst 3, 1) := by decide +kernel
theorem dL_law_410 : decode cL_law 410 = .ok (.iload_n 3, 1) := dkAc29.1
theorem dL_law_411 : decode cL_law 411 = .ok (.iconst 1, 1) := dkAc29.2.1
theorem dL_law_412 : decode cL_law 412 = .ok (.iadd, 1) := dkAc29.2.2.1
theorem dL_law_413 : decode cL_law 413 = .ok (.iaload, 1) := dkAc29.2.2.2.1
theorem dL_law_414 : decode cL_law 414 = .ok (.aload_n 0, 1) := dkAc29.2.2.2.2.1
theorem dL_law_415 : decode cL_law 415 = .ok (.iload_n 3, 1) := dkAc29.2.2.2.2.2.1
theorem dL_law_416 : decode cL_law 416 = .ok (.iconst 2, 1) := dkAc29.2.2.2.2.2.2.1
theorem dL_law_417 : decode cL_law 417 = .ok (.iadd, 1) := dkAc29.2.2.2.2.2.2.2.1
theorem dL_law_418 : decode cL_law 418 = .ok (.iaload, 1) := dkAc29.2.2.2.2.2.2.2.2.1
theorem dL_law_419 : decode cL_law 419 = .ok (.aload_n 0, 1) := dkAc29.2.2.2.2.2.2.2.2.2.1
theorem dL_law_420 : decode cL_law 420 = .ok (.iload_n 3, 1) := dkAc29.2.2.2.2.2.2.2.2.2.2.1
theorem dL_law_421 : decode cL_law 421 = .ok (.iconst 3, 1) := dkAc29.2.2.2.2.2.2.2.2.2.2.2
set_option maxRecDepth 100000 in
theorem dkAc30 : decode cL_law 422 = .ok (.iadd, 1) ∧ decode cL_law 423 = .ok (.iaload, 1) ∧ decode cL_law 424 = .ok (.invokevirtual 56, 3) ∧ decode cL_law 427 = .ok (.pop, 1) ∧ decode cL_law 428 = .ok (.aload_n 2, 1) ∧ decode cL_law 429 = .ok (.aload_n 0, 1) ∧ decode cL_law 430 = .ok (.iload_n 3, 1) ∧ decode cL_law 431 = .ok (.iconst 1, 1) ∧ decode cL_law 432 = .ok (.iadd, 1) ∧ decode cL_law 433 = .ok (.iaload, 1) ∧ decode cL_law 434 = .ok (.aload_n 0, 1) ∧ decode cL_law 435 = .ok (.iload_n 3, 1) := by decide +kernel
theorem dL_law_422 : decode cL_law 422 = .ok (.iadd, 1) := dkAc30.1
theorem dL_law_423 : decode cL_law 423 = .ok (.iaload, 1) := dkAc30.2.1
theorem dL_law_424 : decode cL_law 424 = .ok (.invokevirtual 56, 3) := dkAc30.2.2.1
theorem dL_law_427 : decode cL_law 427 = .ok (.pop, 1) := dkAc30.2.2.2.1
theorem dL_law_428 : decode cL_law 428 = .ok (.aload_n 2, 1) := dkAc30.2.2.2.2.1
theorem dL_law_429 : decode cL_law 429 = .ok (.aload_n 0, 1) := dkAc30.2.2.2.2.2.1
theorem dL_law_430 : decode cL_law 430 = .ok (.iload_n 3, 1) := dkAc30.2.2.2.2.2.2.1
theorem dL_law_431 : decode cL_law 431 = .ok (.iconst 1, 1) := dkAc30.2.2.2.2.2.2.2.1
theorem dL_law_432 : decode cL_law 432 = .ok (.iadd, 1) := dkAc30.2.2.2.2.2.2.2.2.1
theorem dL_law_433 : decode cL_law 433 = .ok (.iaload, 1) := dkAc30.2.2.2.2.2.2.2.2.2.1
theorem dL_law_434 : decode cL_law 434 = .ok (.aload_n 0, 1) := dkAc30.2.2.2.2.2.2.2.2.2.2.1
theorem dL_law_435 : decode cL_law 435 = .ok (.iload_n 3, 1) := dkAc30.2.2.2.2.2.2.2.2.2.2.2
set_option maxRecDepth 100000 in
theorem dkAc31 : decode cL_law 436 = .ok (.iconst 2, 1) ∧ decode cL_law 437 = .ok (.iadd, 1) ∧ decode cL_law 438 = .ok (.iaload, 1) ∧ decode cL_law 439 = .ok (.aload_n 0, 1) ∧ decode cL_law 440 = .ok (.iload_n 3, 1) ∧ decode cL_law 441 = .ok (.iconst 3, 1) ∧ decode cL_law 442 = .ok (.iadd, 1) ∧ decode cL_law 443 = .ok (.iaload, 1) ∧ decode cL_law 444 = .ok (.invokevirtual 60, 3) ∧ decode cL_law 447 = .ok (.pop, 1) ∧ decode cL_law 448 = .ok (.goto 536, 3) ∧ decode cL_law 451 = .ok (.aload_n 1, 1) := by decide +kernel
theorem dL_law_436 : decode cL_law 436 = .ok (.iconst 2, 1) := dkAc31.1
theorem dL_law_437 : decode cL_law 437 = .ok (.iadd, 1) := dkAc31.2.1
theorem dL_law_438 : decode cL_law 438 = .ok (.iaload, 1) := dkAc31.2.2.1
theorem dL_law_439 : decode cL_law 439 = .ok (.aload_n 0, 1) := dkAc31.2.2.2.1
theorem dL_law_440 : decode cL_law 440 = .ok (.iload_n 3, 1) := dkAc31.2.2.2.2.1
theorem dL_law_441 : decode cL_law 441 = .ok (.iconst 3, 1) := dkAc31.2.2.2.2.2.1
theorem dL_law_442 : decode cL_law 442 = .ok (.iadd, 1) := dkAc31.2.2.2.2.2.2.1
theorem dL_law_443 : decode cL_law 443 = .ok (.iaload, 1) := dkAc31.2.2.2.2.2.2.2.1
theorem dL_law_444 : decode cL_law 444 = .ok (.invokevirtual 60, 3) := dkAc31.2.2.2.2.2.2.2.2.1
theorem dL_law_447 : decode cL_law 447 = .ok (.pop, 1) := dkAc31.2.2.2.2.2.2.2.2.2.1
theorem dL_law_448 : decode cL_law 448 = .ok (.goto 536, 3) := dkAc31.2.2.2.2.2.2.2.2.2.2.1
theorem dL_law_451 : decode cL_law 451 = .ok (.aload_n 1, 1) := dkAc31.2.2.2.2.2.2.2.2.2.2.2
set_option maxRecDepth 100000 in
theorem dkAc32 : decode cL_law 452 = .ok (.aload_n 0, 1) ∧ decode cL_law 453 = .ok (.iload_n 3, 1) ∧ decode cL_law 454 = .ok (.iconst 1, 1) ∧ decode cL_law 455 = .ok (.iadd, 1) ∧ decode cL_law 456 = .ok (.iaload, 1) ∧ decode cL_law 457 = .ok (.invokevirtual 61, 3) ∧ decode cL_law 460 = .ok (.pop, 1) ∧ decode cL_law 461 = .ok (.aload_n 2, 1) ∧ decode cL_law 462 = .ok (.aload_n 0, 1) ∧ decode cL_law 463 = .ok (.iload_n 3, 1) ∧ decode cL_law 464 = .ok (.iconst 1, 1) ∧ decode cL_law 465 = .ok (.iadd, 1) := by decide +kernel
theorem dL_law_452 : decode cL_law 452 = .ok (.aload_n 0, 1) := dkAc32.1
theorem dL_law_453 : decode cL_law 453 = .ok (.iload_n 3, 1) := dkAc32.2.1
theorem dL_law_454 : decode cL_law 454 = .ok (.iconst 1, 1) := dkAc32.2.2.1
theorem dL_law_455 : decode cL_law 455 = .ok (.iadd, 1) := dkAc32.2.2.2.1
theorem dL_law_456 : decode cL_law 456 = .ok (.iaload, 1) := dkAc32.2.2.2.2.1
theorem dL_law_457 : decode cL_law 457 = .ok (.invokevirtual 61, 3) := dkAc32.2.2.2.2.2.1
theorem dL_law_460 : decode cL_law 460 = .ok (.pop, 1) := dkAc32.2.2.2.2.2.2.1
theorem dL_law_461 : decode cL_law 461 = .ok (.aload_n 2, 1) := dkAc32.2.2.2.2.2.2.2.1
theorem dL_law_462 : decode cL_law 462 = .ok (.aload_n 0, 1) := dkAc32.2.2.2.2.2.2.2.2.1
theorem dL_law_463 : decode cL_law 463 = .ok (.iload_n 3, 1) := dkAc32.2.2.2.2.2.2.2.2.2.1
theorem dL_law_464 : decode cL_law 464 = .ok (.iconst 1, 1) := dkAc32.2.2.2.2.2.2.2.2.2.2.1
theorem dL_law_465 : decode cL_law 465 = .ok (.iadd, 1) := dkAc32.2.2.2.2.2.2.2.2.2.2.2
set_option maxRecDepth 100000 in
theorem dkAc33 : decode cL_law 466 = .ok (.iaload, 1) ∧ decode cL_law 467 = .ok (.invokevirtual 64, 3) ∧ decode cL_law 470 = .ok (.pop, 1) ∧ decode cL_law 471 = .ok (.goto 513, 3) ∧ decode cL_law 474 = .ok (.aload_n 1, 1) ∧ decode cL_law 475 = .ok (.invokevirtual 65, 3) ∧ decode cL_law 478 = .ok (.pop, 1) ∧ decode cL_law 479 = .ok (.aload_n 2, 1) ∧ decode cL_law 480 = .ok (.invokevirtual 68, 3) ∧ decode cL_law 483 = .ok (.pop, 1) ∧ decode cL_law 484 = .ok (.goto 500, 3) ∧ decode cL_law 487 = .ok (.aload_n 1, 1) := by decide +kernel
theorem dL_law_466 : decode cL_law 466 = .ok (.iaload, 1) := dkAc33.1
theorem dL_law_467 : decode cL_law 467 = .ok (.invokevirtual 64, 3) := dkAc33.2.1
theorem dL_law_470 : decode cL_law 470 = .ok (.pop, 1) := dkAc33.2.2.1
theorem dL_law_471 : decode cL_law 471 = .ok (.goto 513, 3) := dkAc33.2.2.2.1
theorem dL_law_474 : decode cL_law 474 = .ok (.aload_n 1, 1) := dkAc33.2.2.2.2.1
theorem dL_law_475 : decode cL_law 475 = .ok (.invokevirtual 65, 3) := dkAc33.2.2.2.2.2.1
theorem dL_law_478 : decode cL_law 478 = .ok (.pop, 1) := dkAc33.2.2.2.2.2.2.1
theorem dL_law_479 : decode cL_law 479 = .ok (.aload_n 2, 1) := dkAc33.2.2.2.2.2.2.2.1
theorem dL_law_480 : decode cL_law 480 = .ok (.invokevirtual 68, 3) := dkAc33.2.2.2.2.2.2.2.2.1
theorem dL_law_483 : decode cL_law 483 = .ok (.pop, 1) := dkAc33.2.2.2.2.2.2.2.2.2.1
theorem dL_law_484 : decode cL_law 484 = .ok (.goto 500, 3) := dkAc33.2.2.2.2.2.2.2.2.2.2.1
theorem dL_law_487 : decode cL_law 487 = .ok (.aload_n 1, 1) := dkAc33.2.2.2.2.2.2.2.2.2.2.2
set_option maxRecDepth 100000 in
theorem dkAc34 : decode cL_law 488 = .ok (.aload_n 0, 1) ∧ decode cL_law 489 = .ok (.iload_n 3, 1) ∧ decode cL_law 490 = .ok (.iconst 1, 1) ∧ decode cL_law 491 = .ok (.iadd, 1) ∧ decode cL_law 492 = .ok (.iaload, 1) ∧ decode cL_law 493 = .ok (.aload_n 0, 1) ∧ decode cL_law 494 = .ok (.iload_n 3, 1) ∧ decode cL_law 495 = .ok (.iconst 2, 1) ∧ decode cL_law 496 = .ok (.iadd, 1) ∧ decode cL_law 497 = .ok (.iaload, 1) ∧ decode cL_law 498 = .ok (.invokevirtual 69, 3) ∧ decode cL_law 501 = .ok (.pop, 1) := by decide +kernel
theorem dL_law_488 : decode cL_law 488 = .ok (.aload_n 0, 1) := dkAc34.1
theorem dL_law_489 : decode cL_law 489 = .ok (.iload_n 3, 1) := dkAc34.2.1
theorem dL_law_490 : decode cL_law 490 = .ok (.iconst 1, 1) := dkAc34.2.2.1
theorem dL_law_491 : decode cL_law 491 = .ok (.iadd, 1) := dkAc34.2.2.2.1
theorem dL_law_492 : decode cL_law 492 = .ok (.iaload, 1) := dkAc34.2.2.2.2.1
theorem dL_law_493 : decode cL_law 493 = .ok (.aload_n 0, 1) := dkAc34.2.2.2.2.2.1
theorem dL_law_494 : decode cL_law 494 = .ok (.iload_n 3, 1) := dkAc34.2.2.2.2.2.2.1
theorem dL_law_495 : decode cL_law 495 = .ok (.iconst 2, 1) := dkAc34.2.2.2.2.2.2.2.1
theorem dL_law_496 : decode cL_law 496 = .ok (.iadd, 1) := dkAc34.2.2.2.2.2.2.2.2.1
theorem dL_law_497 : decode cL_law 497 = .ok (.iaload, 1) := dkAc34.2.2.2.2.2.2.2.2.2.1
theorem dL_law_498 : decode cL_law 498 = .ok (.invokevirtual 69, 3) := dkAc34.2.2.2.2.2.2.2.2.2.2.1
theorem dL_law_501 : decode cL_law 501 = .ok (.pop, 1) := dkAc34.2.2.2.2.2.2.2.2.2.2.2
set_option maxRecDepth 100000 in
theorem dkAc35 : decode cL_law 502 = .ok (.aload_n 2, 1) ∧ decode cL_law 503 = .ok (.aload_n 0, 1) ∧ decode cL_law 504 = .ok (.iload_n 3, 1) ∧ decode cL_law 505 = .ok (.iconst 1, 1) ∧ decode cL_law 506 = .ok (.iadd, 1) ∧ decode cL_law 507 = .ok (.iaload, 1) ∧ decode cL_law 508 = .ok (.aload_n 0, 1) ∧ decode cL_law 509 = .ok (.iload_n 3, 1) ∧ decode cL_law 510 = .ok (.iconst 2, 1) ∧ decode cL_law 511 = .ok (.iadd, 1) ∧ decode cL_law 512 = .ok (.iaload, 1) ∧ decode cL_law 513 = .ok (.invokevirtual 72, 3) := by decide +kernel
theorem dL_law_502 : decode cL_law 502 = .ok (.aload_n 2, 1) := dkAc35.1
theorem dL_law_503 : decode cL_law 503 = .ok (.aload_n 0, 1) := dkAc35.2.1
theorem dL_law_504 : decode cL_law 504 = .ok (.iload_n 3, 1) := dkAc35.2.2.1
theorem dL_law_505 : decode cL_law 505 = .ok (.iconst 1, 1) := dkAc35.2.2.2.1
theorem dL_law_506 : decode cL_law 506 = .ok (.iadd, 1) := dkAc35.2.2.2.2.1
theorem dL_law_507 : decode cL_law 507 = .ok (.iaload, 1) := dkAc35.2.2.2.2.2.1
theorem dL_law_508 : decode cL_law 508 = .ok (.aload_n 0, 1) := dkAc35.2.2.2.2.2.2.1
theorem dL_law_509 : decode cL_law 509 = .ok (.iload_n 3, 1) := dkAc35.2.2.2.2.2.2.2.1
theorem dL_law_510 : decode cL_law 510 = .ok (.iconst 2, 1) := dkAc35.2.2.2.2.2.2.2.2.1
theorem dL_law_511 : decode cL_law 511 = .ok (.iadd, 1) := dkAc35.2.2.2.2.2.2.2.2.2.1
theorem dL_law_512 : decode cL_law 512 = .ok (.iaload, 1) := dkAc35.2.2.2.2.2.2.2.2.2.2.1
theorem dL_law_513 : decode cL_law 513 = .ok (.invokevirtual 72, 3) := dkAc35.2.2.2.2.2.2.2.2.2.2.2
set_option maxRecDepth 100000 in
theorem dkAc36 : decode cL_law 516 = .ok (.pop, 1) ∧ decode cL_law 517 = .ok (.goto 467, 3) ∧ decode cL_law 520 = .ok (.aload_n 1, 1) ∧ decode cL_law 521 = .ok (.aload_n 0, 1) ∧ decode cL_law 522 = .ok (.iload_n 3, 1) ∧ decode cL_law 523 = .ok (.iconst 1, 1) ∧ decode cL_law 524 = .ok (.iadd, 1) ∧ decode cL_law 525 = .ok (.iaload, 1) ∧ decode cL_law 526 = .ok (.aload_n 0, 1) ∧ decode cL_law 527 = .ok (.iload_n 3, 1) ∧ decode cL_law 528 = .ok (.iconst 2, 1) ∧ decode cL_law 529 = .ok (.iadd, 1) := by decide +kernel
theorem dL_law_516 : decode cL_law 516 = .ok (.pop, 1) := dkAc36.1
theorem dL_law_517 : decode cL_law 517 = .ok (.goto 467, 3) := dkAc36.2.1
theorem dL_law_520 : decode cL_law 520 = .ok (.aload_n 1, 1) := dkAc36.2.2.1
theorem dL_law_521 : decode cL_law 521 = .ok (.aload_n 0, 1) := dkAc36.2.2.2.1
theorem dL_law_522 : decode cL_law 522 = .ok (.iload_n 3, 1) := dkAc36.2.2.2.2.1
theorem dL_law_523 : decode cL_law 523 = .ok (.iconst 1, 1) := dkAc36.2.2.2.2.2.1
theorem dL_law_524 : decode cL_law 524 = .ok (.iadd, 1) := dkAc36.2.2.2.2.2.2.1
theorem dL_law_525 : decode cL_law 525 = .ok (.iaload, 1) := dkAc36.2.2.2.2.2.2.2.1
theorem dL_law_526 : decode cL_law 526 = .ok (.aload_n 0, 1) := dkAc36.2.2.2.2.2.2.2.2.1
theorem dL_law_527 : decode cL_law 527 = .ok (.iload_n 3, 1) := dkAc36.2.2.2.2.2.2.2.2.2.1
theorem dL_law_528 : decode cL_law 528 = .ok (.iconst 2, 1) := dkAc36.2.2.2.2.2.2.2.2.2.2.1
theorem dL_law_529 : decode cL_law 529 = .ok (.iadd, 1) := dkAc36.2.2.2.2.2.2.2.2.2.2.2
set_option maxRecDepth 100000 in
theorem dkAc37 : decode cL_law 530 = .ok (.iaload, 1) ∧ decode cL_law 531 = .ok (.invokevirtual 73, 3) ∧ decode cL_law 534 = .ok (.pop, 1) ∧ decode cL_law 535 = .ok (.aload_n 2, 1) ∧ decode cL_law 536 = .ok (.aload_n 0, 1) ∧ decode cL_law 537 = .ok (.iload_n 3, 1) ∧ decode cL_law 538 = .ok (.iconst 1, 1) ∧ decode cL_law 539 = .ok (.iadd, 1) ∧ decode cL_law 540 = .ok (.iaload, 1) ∧ decode cL_law 541 = .ok (.aload_n 0, 1) ∧ decode cL_law 542 = .ok (.iload_n 3, 1) ∧ decode cL_law 543 = .ok (.iconst 2, 1) := by decide +kernel
theorem dL_law_530 : decode cL_law 530 = .ok (.iaload, 1) := dkAc37.1
theorem dL_law_531 : decode cL_law 531 = .ok (.invokevirtual 73, 3) := dkAc37.2.1
theorem dL_law_534 : decode cL_law 534 = .ok (.pop, 1) := dkAc37.2.2.1
theorem dL_law_535 : decode cL_law 535 = .ok (.aload_n 2, 1) := dkAc37.2.2.2.1
theorem dL_law_536 : decode cL_law 536 = .ok (.aload_n 0, 1) := dkAc37.2.2.2.2.1
theorem dL_law_537 : decode cL_law 537 = .ok (.iload_n 3, 1) := dkAc37.2.2.2.2.2.1
theorem dL_law_538 : decode cL_law 538 = .ok (.iconst 1, 1) := dkAc37.2.2.2.2.2.2.1
theorem dL_law_539 : decode cL_law 539 = .ok (.iadd, 1) := dkAc37.2.2.2.2.2.2.2.1
theorem dL_law_540 : decode cL_law 540 = .ok (.iaload, 1) := dkAc37.2.2.2.2.2.2.2.2.1
theorem dL_law_541 : decode cL_law 541 = .ok (.aload_n 0, 1) := dkAc37.2.2.2.2.2.2.2.2.2.1
theorem dL_law_542 : decode cL_law 542 = .ok (.iload_n 3, 1) := dkAc37.2.2.2.2.2.2.2.2.2.2.1
theorem dL_law_543 : decode cL_law 543 = .ok (.iconst 2, 1) := dkAc37.2.2.2.2.2.2.2.2.2.2.2
set_option maxRecDepth 100000 in
theorem dkAc38 : decode cL_law 544 = .ok (.iadd, 1) ∧ decode cL_law 545 = .ok (.iaload, 1) ∧ decode cL_law 546 = .ok (.invokevirtual 76, 3) ∧ decode cL_law 549 = .ok (.pop, 1) ∧ decode cL_law 550 = .ok (.goto 434, 3) ∧ decode cL_law 553 = .ok (.aload_n 1, 1) ∧ decode cL_law 554 = .ok (.aload_n 0, 1) ∧ decode cL_law 555 = .ok (.iload_n 3, 1) ∧ decode cL_law 556 = .ok (.iconst 1, 1) ∧ decode cL_law 557 = .ok (.iadd, 1) ∧ decode cL_law 558 = .ok (.iaload, 1) ∧ decode cL_law 559 = .ok (.aload_n 0, 1) := by decide +kernel
theorem dL_law_544 : decode cL_law 544 = .ok (.iadd, 1) := dkAc38.1
theorem dL_law_545 : decode cL_law 545 = .ok (.iaload, 1) := dkAc38.2.1
theorem dL_law_546 : decode cL_law 546 = .ok (.invokevirtual 76, 3) := dkAc38.2.2.1
theorem dL_law_549 : decode cL_law 549 = .ok (.pop, 1) := dkAc38.2.2.2.1
theorem dL_law_550 : decode cL_law 550 = .ok (.goto 434, 3) := dkAc38.2.2.2.2.1
theorem dL_law_553 : decode cL_law 553 = .ok (.aload_n 1, 1) := dkAc38.2.2.2.2.2.1
theorem dL_law_554 : decode cL_law 554 = .ok (.aload_n 0, 1) := dkAc38.2.2.2.2.2.2.1
theorem dL_law_555 : decode cL_law 555 = .ok (.iload_n 3, 1) := dkAc38.2.2.2.2.2.2.2.1
theorem dL_law_556 : decode cL_law 556 = .ok (.iconst 1, 1) := dkAc38.2.2.2.2.2.2.2.2.1
theorem dL_law_557 : decode cL_law 557 = .ok (.iadd, 1) := dkAc38.2.2.2.2.2.2.2.2.2.1
theorem dL_law_558 : decode cL_law 558 = .ok (.iaload, 1) := dkAc38.2.2.2.2.2.2.2.2.2.2.1
theorem dL_law_559 : decode cL_law 559 = .ok (.aload_n 0, 1) := dkAc38.2.2.2.2.2.2.2.2.2.2.2
set_option maxRecDepth 100000 in
theorem dkAc39 : decode cL_law 560 = .ok (.iload_n 3, 1) ∧ decode cL_law 561 = .ok (.iconst 2, 1) ∧ decode cL_law 562 = .ok (.iadd, 1) ∧ decode cL_law 563 = .ok (.iaload, 1) ∧ decode cL_law 564 = .ok (.aload_n 0, 1) ∧ decode cL_law 565 = .ok (.iload_n 3, 1) ∧ decode cL_law 566 = .ok (.iconst 3, 1) ∧ decode cL_law 567 = .ok (.iadd, 1) ∧ decode cL_law 568 = .ok (.iaload, 1) ∧ decode cL_law 569 = .ok (.aload_n 0, 1) ∧ decode cL_law 570 = .ok (.iload_n 3, 1) ∧ decode cL_law 571 = .ok (.iconst 4, 1) := by decide +kernel
theorem dL_law_560 : decode cL_law 560 = .ok (.iload_n 3, 1) := dkAc39.1
theorem dL_law_561 : decode cL_law 561 = .ok (.iconst 2, 1) := dkAc39.2.1
theorem dL_law_562 : decode cL_law 562 = .ok (.iadd, 1) := dkAc39.2.2.1
theorem dL_law_563 : decode cL_law 563 = .ok (.iaload, 1) := dkAc39.2.2.2.1
theorem dL_law_564 : decode cL_law 564 = .ok (.aload_n 0, 1) := dkAc39.2.2.2.2.1
theorem dL_law_565 : decode cL_law 565 = .ok (.iload_n 3, 1) := dkAc39.2.2.2.2.2.1
theorem dL_law_566 : decode cL_law 566 = .ok (.iconst 3, 1) := dkAc39.2.2.2.2.2.2.1
theorem dL_law_567 : decode cL_law 567 = .ok (.iadd, 1) := dkAc39.2.2.2.2.2.2.2.1
theorem dL_law_568 : decode cL_law 568 = .ok (.iaload, 1) := dkAc39.2.2.2.2.2.2.2.2.1
theorem dL_law_569 : decode cL_law 569 = .ok (.aload_n 0, 1) := dkAc39.2.2.2.2.2.2.2.2.2.1
theorem dL_law_570 : decode cL_law 570 = .ok (.iload_n 3, 1) := dkAc39.2.2.2.2.2.2.2.2.2.2.1
theorem dL_law_571 : decode cL_law 571 = .ok (.iconst 4, 1) := dkAc39.2.2.2.2.2.2.2.2.2.2.2
set_option maxRecDepth 100000 in
theorem dkAc40 : decode cL_law 572 = .ok (.iadd, 1) ∧ decode cL_law 573 = .ok (.iaload, 1) ∧ decode cL_law 574 = .ok (.invokevirtual 77, 3) ∧ decode cL_law 577 = .ok (.pop, 1) ∧ decode cL_law 578 = .ok (.aload_n 2, 1) ∧ decode cL_law 579 = .ok (.aload_n 0, 1) ∧ decode cL_law 580 = .ok (.iload_n 3, 1) ∧ decode cL_law 581 = .ok (.iconst 1, 1) ∧ decode cL_law 582 = .ok (.iadd, 1) ∧ decode cL_law 583 = .ok (.iaload, 1) ∧ decode cL_law 584 = .ok (.aload_n 0, 1) ∧ decode cL_law 585 = .ok (.iload_n 3, 1) := by decide +kernel
theorem dL_law_572 : decode cL_law 572 = .ok (.iadd, 1) := dkAc40.1
theorem dL_law_573 : decode cL_law 573 = .ok (.iaload, 1) := dkAc40.2.1
theorem dL_law_574 : decode cL_law 574 = .ok (.invokevirtual 77, 3) := dkAc40.2.2.1
theorem dL_law_577 : decode cL_law 577 = .ok (.pop, 1) := dkAc40.2.2.2.1
theorem dL_law_578 : decode cL_law 578 = .ok (.aload_n 2, 1) := dkAc40.2.2.2.2.1
theorem dL_law_579 : decode cL_law 579 = .ok (.aload_n 0, 1) := dkAc40.2.2.2.2.2.1
theorem dL_law_580 : decode cL_law 580 = .ok (.iload_n 3, 1) := dkAc40.2.2.2.2.2.2.1
theorem dL_law_581 : decode cL_law 581 = .ok (.iconst 1, 1) := dkAc40.2.2.2.2.2.2.2.1
theorem dL_law_582 : decode cL_law 582 = .ok (.iadd, 1) := dkAc40.2.2.2.2.2.2.2.2.1
theorem dL_law_583 : decode cL_law 583 = .ok (.iaload, 1) := dkAc40.2.2.2.2.2.2.2.2.2.1
theorem dL_law_584 : decode cL_law 584 = .ok (.aload_n 0, 1) := dkAc40.2.2.2.2.2.2.2.2.2.2.1
theorem dL_law_585 : decode cL_law 585 = .ok (.iload_n 3, 1) := dkAc40.2.2.2.2.2.2.2.2.2.2.2
set_option maxRecDepth 100000 in
theorem dkAc41 : decode cL_law 586 = .ok (.iconst 2, 1) ∧ decode cL_law 587 = .ok (.iadd, 1) ∧ decode cL_law 588 = .ok (.iaload, 1) ∧ decode cL_law 589 = .ok (.aload_n 0, 1) ∧ decode cL_law 590 = .ok (.iload_n 3, 1) ∧ decode cL_law 591 = .ok (.iconst 3, 1) ∧ decode cL_law 592 = .ok (.iadd, 1) ∧ decode cL_law 593 = .ok (.iaload, 1) ∧ decode cL_law 594 = .ok (.aload_n 0, 1) ∧ decode cL_law 595 = .ok (.iload_n 3, 1) ∧ decode cL_law 596 = .ok (.iconst 4, 1) ∧ decode cL_law 597 = .ok (.iadd, 1) := by decide +kernel
theorem dL_law_586 : decode cL_law 586 = .ok (.iconst 2, 1) := dkAc41.1
theorem dL_law_587 : decode cL_law 587 = .ok (.iadd, 1) := dkAc41.2.1
theorem dL_law_588 : decode cL_law 588 = .ok (.iaload, 1) := dkAc41.2.2.1
theorem dL_law_589 : decode cL_law 589 = .ok (.aload_n 0, 1) := dkAc41.2.2.2.1
theorem dL_law_590 : decode cL_law 590 = .ok (.iload_n 3, 1) := dkAc41.2.2.2.2.1
theorem dL_law_591 : decode cL_law 591 = .ok (.iconst 3, 1) := dkAc41.2.2.2.2.2.1
theorem dL_law_592 : decode cL_law 592 = .ok (.iadd, 1) := dkAc41.2.2.2.2.2.2.1
theorem dL_law_593 : decode cL_law 593 = .ok (.iaload, 1) := dkAc41.2.2.2.2.2.2.2.1
theorem dL_law_594 : decode cL_law 594 = .ok (.aload_n 0, 1) := dkAc41.2.2.2.2.2.2.2.2.1
theorem dL_law_595 : decode cL_law 595 = .ok (.iload_n 3, 1) := dkAc41.2.2.2.2.2.2.2.2.2.1
theorem dL_law_596 : decode cL_law 596 = .ok (.iconst 4, 1) := dkAc41.2.2.2.2.2.2.2.2.2.2.1
theorem dL_law_597 : decode cL_law 597 = .ok (.iadd, 1) := dkAc41.2.2.2.2.2.2.2.2.2.2.2
set_option maxRecDepth 100000 in
theorem dkAc42 : decode cL_law 598 = .ok (.iaload, 1) ∧ decode cL_law 599 = .ok (.invokevirtual 81, 3) ∧ decode cL_law 602 = .ok (.pop, 1) ∧ decode cL_law 603 = .ok (.goto 381, 3) ∧ decode cL_law 606 = .ok (.aload_n 1, 1) ∧ decode cL_law 607 = .ok (.aload_n 0, 1) ∧ decode cL_law 608 = .ok (.iload_n 3, 1) ∧ decode cL_law 609 = .ok (.iconst 1, 1) ∧ decode cL_law 610 = .ok (.iadd, 1) ∧ decode cL_law 611 = .ok (.iaload, 1) ∧ decode cL_law 612 = .ok (.invokevirtual 82, 3) ∧ decode cL_law 615 = .ok (.pop, 1) := by decide +kernel
theorem dL_law_598 : decode cL_law 598 = .ok (.iaload, 1) := dkAc42.1
theorem dL_law_599 : decode cL_law 599 = .ok (.invokevirtual 81, 3) := dkAc42.2.1
theorem dL_law_602 : decode cL_law 602 = .ok (.pop, 1) := dkAc42.2.2.1
theorem dL_law_603 : decode cL_law 603 = .ok (.goto 381, 3) := dkAc42.2.2.2.1
theorem dL_law_606 : decode cL_law 606 = .ok (.aload_n 1, 1) := dkAc42.2.2.2.2.1
theorem dL_law_607 : decode cL_law 607 = .ok (.aload_n 0, 1) := dkAc42.2.2.2.2.2.1
theorem dL_law_608 : decode cL_law 608 = .ok (.iload_n 3, 1) := dkAc42.2.2.2.2.2.2.1
theorem dL_law_609 : decode cL_law 609 = .ok (.iconst 1, 1) := dkAc42.2.2.2.2.2.2.2.1
theorem dL_law_610 : decode cL_law 610 = .ok (.iadd, 1) := dkAc42.2.2.2.2.2.2.2.2.1
theorem dL_law_611 : decode cL_law 611 = .ok (.iaload, 1) := dkAc42.2.2.2.2.2.2.2.2.2.1
theorem dL_law_612 : decode cL_law 612 = .ok (.invokevirtual 82, 3) := dkAc42.2.2.2.2.2.2.2.2.2.2.1
theorem dL_law_615 : decode cL_law 615 = .ok (.pop, 1) := dkAc42.2.2.2.2.2.2.2.2.2.2.2
set_option maxRecDepth 100000 in
theorem dkAc43 : decode cL_law 616 = .ok (.aload_n 2, 1) ∧ decode cL_law 617 = .ok (.aload_n 0, 1) ∧ decode cL_law 618 = .ok (.iload_n 3, 1) ∧ decode cL_law 619 = .ok (.iconst 1, 1) ∧ decode cL_law 620 = .ok (.iadd, 1) ∧ decode cL_law 621 = .ok (.iaload, 1) ∧ decode cL_law 622 = .ok (.invokevirtual 85, 3) ∧ decode cL_law 625 = .ok (.pop, 1) ∧ decode cL_law 626 = .ok (.goto 358, 3) ∧ decode cL_law 629 = .ok (.aload_n 1, 1) ∧ decode cL_law 630 = .ok (.aload_n 0, 1) ∧ decode cL_law 631 = .ok (.iload_n 3, 1) := by decide +kernel
theorem dL_law_616 : decode cL_law 616 = .ok (.aload_n 2, 1) := dkAc43.1
theorem dL_law_617 : decode cL_law 617 = .ok (.aload_n 0, 1) := dkAc43.2.1
theorem dL_law_618 : decode cL_law 618 = .ok (.iload_n 3, 1) := dkAc43.2.2.1
theorem dL_law_619 : decode cL_law 619 = .ok (.iconst 1, 1) := dkAc43.2.2.2.1
theorem dL_law_620 : decode cL_law 620 = .ok (.iadd, 1) := dkAc43.2.2.2.2.1
theorem dL_law_621 : decode cL_law 621 = .ok (.iaload, 1) := dkAc43.2.2.2.2.2.1
theorem dL_law_622 : decode cL_law 622 = .ok (.invokevirtual 85, 3) := dkAc43.2.2.2.2.2.2.1
theorem dL_law_625 : decode cL_law 625 = .ok (.pop, 1) := dkAc43.2.2.2.2.2.2.2.1
theorem dL_law_626 : decode cL_law 626 = .ok (.goto 358, 3) := dkAc43.2.2.2.2.2.2.2.2.1
theorem dL_law_629 : decode cL_law 629 = .ok (.aload_n 1, 1) := dkAc43.2.2.2.2.2.2.2.2.2.1
theorem dL_law_630 : decode cL_law 630 = .ok (.aload_n 0, 1) := dkAc43.2.2.2.2.2.2.2.2.2.2.1
theorem dL_law_631 : decode cL_law 631 = .ok (.iload_n 3, 1) := dkAc43.2.2.2.2.2.2.2.2.2.2.2
set_option maxRecDepth 100000 in
theorem dkAc44 : decode cL_law 632 = .ok (.iconst 1, 1) ∧ decode cL_law 633 = .ok (.iadd, 1) ∧ decode cL_law 634 = .ok (.iaload, 1) ∧ decode cL_law 635 = .ok (.aload_n 0, 1) ∧ decode cL_law 636 = .ok (.iload_n 3, 1) ∧ decode cL_law 637 = .ok (.iconst 2, 1) ∧ decode cL_law 638 = .ok (.iadd, 1) ∧ decode cL_law 639 = .ok (.iaload, 1) ∧ decode cL_law 640 = .ok (.invokevirtual 86, 3) ∧ decode cL_law 643 = .ok (.pop, 1) ∧ decode cL_law 644 = .ok (.aload_n 2, 1) ∧ decode cL_law 645 = .ok (.aload_n 0, 1) := by decide +kernel
theorem dL_law_632 : decode cL_law 632 = .ok (.iconst 1, 1) := dkAc44.1
theorem dL_law_633 : decode cL_law 633 = .ok (.iadd, 1) := dkAc44.2.1
theorem dL_law_634 : decode cL_law 634 = .ok (.iaload, 1) := dkAc44.2.2.1
theorem dL_law_635 : decode cL_law 635 = .ok (.aload_n 0, 1) := dkAc44.2.2.2.1
theorem dL_law_636 : decode cL_law 636 = .ok (.iload_n 3, 1) := dkAc44.2.2.2.2.1
theorem dL_law_637 : decode cL_law 637 = .ok (.iconst 2, 1) := dkAc44.2.2.2.2.2.1
theorem dL_law_638 : decode cL_law 638 = .ok (.iadd, 1) := dkAc44.2.2.2.2.2.2.1
theorem dL_law_639 : decode cL_law 639 = .ok (.iaload, 1) := dkAc44.2.2.2.2.2.2.2.1
theorem dL_law_640 : decode cL_law 640 = .ok (.invokevirtual 86, 3) := dkAc44.2.2.2.2.2.2.2.2.1
theorem dL_law_643 : decode cL_law 643 = .ok (.pop, 1) := dkAc44.2.2.2.2.2.2.2.2.2.1
theorem dL_law_644 : decode cL_law 644 = .ok (.aload_n 2, 1) := dkAc44.2.2.2.2.2.2.2.2.2.2.1
theorem dL_law_645 : decode cL_law 645 = .ok (.aload_n 0, 1) := dkAc44.2.2.2.2.2.2.2.2.2.2.2
set_option maxRecDepth 100000 in
theorem dkAc45 : decode cL_law 646 = .ok (.iload_n 3, 1) ∧ decode cL_law 647 = .ok (.iconst 1, 1) ∧ decode cL_law 648 = .ok (.iadd, 1) ∧ decode cL_law 649 = .ok (.iaload, 1) ∧ decode cL_law 650 = .ok (.aload_n 0, 1) ∧ decode cL_law 651 = .ok (.iload_n 3, 1) ∧ decode cL_law 652 = .ok (.iconst 2, 1) ∧ decode cL_law 653 = .ok (.iadd, 1) ∧ decode cL_law 654 = .ok (.iaload, 1) ∧ decode cL_law 655 = .ok (.invokevirtual 89, 3) ∧ decode cL_law 658 = .ok (.pop, 1) ∧ decode cL_law 659 = .ok (.goto 325, 3) := by decide +kernel
theorem dL_law_646 : decode cL_law 646 = .ok (.iload_n 3, 1) := dkAc45.1
theorem dL_law_647 : decode cL_law 647 = .ok (.iconst 1, 1) := dkAc45.2.1
theorem dL_law_648 : decode cL_law 648 = .ok (.iadd, 1) := dkAc45.2.2.1
theorem dL_law_649 : decode cL_law 649 = .ok (.iaload, 1) := dkAc45.2.2.2.1
theorem dL_law_650 : decode cL_law 650 = .ok (.aload_n 0, 1) := dkAc45.2.2.2.2.1
theorem dL_law_651 : decode cL_law 651 = .ok (.iload_n 3, 1) := dkAc45.2.2.2.2.2.1
theorem dL_law_652 : decode cL_law 652 = .ok (.iconst 2, 1) := dkAc45.2.2.2.2.2.2.1
theorem dL_law_653 : decode cL_law 653 = .ok (.iadd, 1) := dkAc45.2.2.2.2.2.2.2.1
theorem dL_law_654 : decode cL_law 654 = .ok (.iaload, 1) := dkAc45.2.2.2.2.2.2.2.2.1
theorem dL_law_655 : decode cL_law 655 = .ok (.invokevirtual 89, 3) := dkAc45.2.2.2.2.2.2.2.2.2.1
theorem dL_law_658 : decode cL_law 658 = .ok (.pop, 1) := dkAc45.2.2.2.2.2.2.2.2.2.2.1
theorem dL_law_659 : decode cL_law 659 = .ok (.goto 325, 3) := dkAc45.2.2.2.2.2.2.2.2.2.2.2
set_option maxRecDepth 100000 in
theorem dkAc46 : decode cL_law 662 = .ok (.aload_n 1, 1) ∧ decode cL_law 663 = .ok (.aload_n 0, 1) ∧ decode cL_law 664 = .ok (.iload_n 3, 1) ∧ decode cL_law 665 = .ok (.iconst 1, 1) ∧ decode cL_law 666 = .ok (.iadd, 1) ∧ decode cL_law 667 = .ok (.iaload, 1) ∧ decode cL_law 668 = .ok (.aload_n 0, 1) ∧ decode cL_law 669 = .ok (.iload_n 3, 1) ∧ decode cL_law 670 = .ok (.iconst 2, 1) ∧ decode cL_law 671 = .ok (.iadd, 1) ∧ decode cL_law 672 = .ok (.iaload, 1) ∧ decode cL_law 673 = .ok (.aload_n 0, 1) := by decide +kernel
theorem dL_law_662 : decode cL_law 662 = .ok (.aload_n 1, 1) := dkAc46.1
theorem dL_law_663 : decode cL_law 663 = .ok (.aload_n 0, 1) := dkAc46.2.1
theorem dL_law_664 : decode cL_law 664 = .ok (.iload_n 3, 1) := dkAc46.2.2.1
theorem dL_law_665 : decode cL_law 665 = .ok (.iconst 1, 1) := dkAc46.2.2.2.1
theorem dL_law_666 : decode cL_law 666 = .ok (.iadd, 1) := dkAc46.2.2.2.2.1
theorem dL_law_667 : decode cL_law 667 = .ok (.iaload, 1) := dkAc46.2.2.2.2.2.1
theorem dL_law_668 : decode cL_law 668 = .ok (.aload_n 0, 1) := dkAc46.2.2.2.2.2.2.1
theorem dL_law_669 : decode cL_law 669 = .ok (.iload_n 3, 1) := dkAc46.2.2.2.2.2.2.2.1
theorem dL_law_670 : decode cL_law 670 = .ok (.iconst 2, 1) := dkAc46.2.2.2.2.2.2.2.2.1
theorem dL_law_671 : decode cL_law 671 = .ok (.iadd, 1) := dkAc46.2.2.2.2.2.2.2.2.2.1
theorem dL_law_672 : decode cL_law 672 = .ok (.iaload, 1) := dkAc46.2.2.2.2.2.2.2.2.2.2.1
theorem dL_law_673 : decode cL_law 673 = .ok (.aload_n 0, 1) := dkAc46.2.2.2.2.2.2.2.2.2.2.2
set_option maxRecDepth 100000 in
theorem dkAc47 : decode cL_law 674 = .ok (.iload_n 3, 1) ∧ decode cL_law 675 = .ok (.iconst 3, 1) ∧ decode cL_law 676 = .ok (.iadd, 1) ∧ decode cL_law 677 = .ok (.iaload, 1) ∧ decode cL_law 678 = .ok (.invokevirtual 90, 3) ∧ decode cL_law 681 = .ok (.pop, 1) ∧ decode cL_law 682 = .ok (.aload_n 2, 1) ∧ decode cL_law 683 = .ok (.aload_n 0, 1) ∧ decode cL_law 684 = .ok (.iload_n 3, 1) ∧ decode cL_law 685 = .ok (.iconst 1, 1) ∧ decode cL_law 686 = .ok (.iadd, 1) ∧ decode cL_law 687 = .ok (.iaload, 1) := by decide +kernel
theorem dL_law_674 : decode cL_law 674 = .ok (.iload_n 3, 1) := dkAc47.1
theorem dL_law_675 : decode cL_law 675 = .ok (.iconst 3, 1) := dkAc47.2.1
theorem dL_law_676 : decode cL_law 676 = .ok (.iadd, 1) := dkAc47.2.2.1
theorem dL_law_677 : decode cL_law 677 = .ok (.iaload, 1) := dkAc47.2.2.2.1
theorem dL_law_678 : decode cL_law 678 = .ok (.invokevirtual 90, 3) := dkAc47.2.2.2.2.1
theorem dL_law_681 : decode cL_law 681 = .ok (.pop, 1) := dkAc47.2.2.2.2.2.1
theorem dL_law_682 : decode cL_law 682 = .ok (.aload_n 2, 1) := dkAc47.2.2.2.2.2.2.1
theorem dL_law_683 : decode cL_law 683 = .ok (.aload_n 0, 1) := dkAc47.2.2.2.2.2.2.2.1
theorem dL_law_684 : decode cL_law 684 = .ok (.iload_n 3, 1) := dkAc47.2.2.2.2.2.2.2.2.1
theorem dL_law_685 : decode cL_law 685 = .ok (.iconst 1, 1) := dkAc47.2.2.2.2.2.2.2.2.2.1
theorem dL_law_686 : decode cL_law 686 = .ok (.iadd, 1) := dkAc47.2.2.2.2.2.2.2.2.2.2.1
theorem dL_law_687 : decode cL_law 687 = .ok (.iaload, 1) := dkAc47.2.2.2.2.2.2.2.2.2.2.2
set_option maxRecDepth 100000 in
theorem dkAc48 : decode cL_law 688 = .ok (.aload_n 0, 1) ∧ decode cL_law 689 = .ok (.iload_n 3, 1) ∧ decode cL_law 690 = .ok (.iconst 2, 1) ∧ decode cL_law 691 = .ok (.iadd, 1) ∧ decode cL_law 692 = .ok (.iaload, 1) ∧ decode cL_law 693 = .ok (.aload_n 0, 1) ∧ decode cL_law 694 = .ok (.iload_n 3, 1) ∧ decode cL_law 695 = .ok (.iconst 3, 1) ∧ decode cL_law 696 = .ok (.iadd, 1) ∧ decode cL_law 697 = .ok (.iaload, 1) ∧ decode cL_law 698 = .ok (.invokevirtual 93, 3) ∧ decode cL_law 701 = .ok (.pop, 1) := by decide +kernel
theorem dL_law_688 : decode cL_law 688 = .ok (.aload_n 0, 1) := dkAc48.1
theorem dL_law_689 : decode cL_law 689 = .ok (.iload_n 3, 1) := dkAc48.2.1
theorem dL_law_690 : decode cL_law 690 = .ok (.iconst 2, 1) := dkAc48.2.2.1
theorem dL_law_691 : decode cL_law 691 = .ok (.iadd, 1) := dkAc48.2.2.2.1
theorem dL_law_692 : decode cL_law 692 = .ok (.iaload, 1) := dkAc48.2.2.2.2.1
theorem dL_law_693 : decode cL_law 693 = .ok (.aload_n 0, 1) := dkAc48.2.2.2.2.2.1
theorem dL_law_694 : decode cL_law 694 = .ok (.iload_n 3, 1) := dkAc48.2.2.2.2.2.2.1
theorem dL_law_695 : decode cL_law 695 = .ok (.iconst 3, 1) := dkAc48.2.2.2.2.2.2.2.1
theorem dL_law_696 : decode cL_law 696 = .ok (.iadd, 1) := dkAc48.2.2.2.2.2.2.2.2.1
theorem dL_law_697 : decode cL_law 697 = .ok (.iaload, 1) := dkAc48.2.2.2.2.2.2.2.2.2.1
theorem dL_law_698 : decode cL_law 698 = .ok (.invokevirtual 93, 3) := dkAc48.2.2.2.2.2.2.2.2.2.2.1
theorem dL_law_701 : decode cL_law 701 = .ok (.pop, 1) := dkAc48.2.2.2.2.2.2.2.2.2.2.2
set_option maxRecDepth 100000 in
theorem dkAc49 : decode cL_law 702 = .ok (.goto 282, 3) ∧ decode cL_law 705 = .ok (.aload_n 1, 1) ∧ decode cL_law 706 = .ok (.aload_n 0, 1) ∧ decode cL_law 707 = .ok (.iload_n 3, 1) ∧ decode cL_law 708 = .ok (.iconst 1, 1) ∧ decode cL_law 709 = .ok (.iadd, 1) ∧ decode cL_law 710 = .ok (.iaload, 1) ∧ decode cL_law 711 = .ok (.aload_n 0, 1) ∧ decode cL_law 712 = .ok (.iload_n 3, 1) ∧ decode cL_law 713 = .ok (.iconst 2, 1) ∧ decode cL_law 714 = .ok (.iadd, 1) ∧ decode cL_law 715 = .ok (.iaload, 1) := by decide +kernel
theorem dL_law_702 : decode cL_law 702 = .ok (.goto 282, 3) := dkAc49.1
theorem dL_law_705 : decode cL_law 705 = .ok (.aload_n 1, 1) := dkAc49.2.1
theorem dL_law_706 : decode cL_law 706 = .ok (.aload_n 0, 1) := dkAc49.2.2.1
theorem dL_law_707 : decode cL_law 707 = .ok (.iload_n 3, 1) := dkAc49.2.2.2.1
theorem dL_law_708 : decode cL_law 708 = .ok (.iconst 1, 1) := dkAc49.2.2.2.2.1
theorem dL_law_709 : decode cL_law 709 = .ok (.iadd, 1) := dkAc49.2.2.2.2.2.1
theorem dL_law_710 : decode cL_law 710 = .ok (.iaload, 1) := dkAc49.2.2.2.2.2.2.1
theorem dL_law_711 : decode cL_law 711 = .ok (.aload_n 0, 1) := dkAc49.2.2.2.2.2.2.2.1
theorem dL_law_712 : decode cL_law 712 = .ok (.iload_n 3, 1) := dkAc49.2.2.2.2.2.2.2.2.1
theorem dL_law_713 : decode cL_law 713 = .ok (.iconst 2, 1) := dkAc49.2.2.2.2.2.2.2.2.2.1
theorem dL_law_714 : decode cL_law 714 = .ok (.iadd, 1) := dkAc49.2.2.2.2.2.2.2.2.2.2.1
theorem dL_law_715 : decode cL_law 715 = .ok (.iaload, 1) := dkAc49.2.2.2.2.2.2.2.2.2.2.2
set_option maxRecDepth 100000 in
theorem dkAc50 : decode cL_law 716 = .ok (.ifCond .eq 7, 3) ∧ decode cL_law 719 = .ok (.iconst 1, 1) ∧ decode cL_law 720 = .ok (.goto 4, 3) ∧ decode cL_law 723 = .ok (.iconst 0, 1) ∧ decode cL_law 724 = .ok (.invokevirtual 94, 3) ∧ decode cL_law 727 = .ok (.pop, 1) ∧ decode cL_law 728 = .ok (.aload_n 2, 1) ∧ decode cL_law 729 = .ok (.aload_n 0, 1) ∧ decode cL_law 730 = .ok (.iload_n 3, 1) ∧ decode cL_law 731 = .ok (.iconst 1, 1) ∧ decode cL_law 732 = .ok (.iadd, 1) ∧ decode cL_law 733 = .ok (.iaload, 1) := by decide +kernel
theorem dL_law_716 : decode cL_law 716 = .ok (.ifCond .eq 7, 3) := dkAc50.1
theorem dL_law_719 : decode cL_law 719 = .ok (.iconst 1, 1) := dkAc50.2.1
theorem dL_law_720 : decode cL_law 720 = .ok (.goto 4, 3) := dkAc50.2.2.1
theorem dL_law_723 : decode cL_law 723 = .ok (.iconst 0, 1) := dkAc50.2.2.2.1
theorem dL_law_724 : decode cL_law 724 = .ok (.invokevirtual 94, 3) := dkAc50.2.2.2.2.1
theorem dL_law_727 : decode cL_law 727 = .ok (.pop, 1) := dkAc50.2.2.2.2.2.1
theorem dL_law_728 : decode cL_law 728 = .ok (.aload_n 2, 1) := dkAc50.2.2.2.2.2.2.1
theorem dL_law_729 : decode cL_law 729 = .ok (.aload_n 0, 1) := dkAc50.2.2.2.2.2.2.2.1
theorem dL_law_730 : decode cL_law 730 = .ok (.iload_n 3, 1) := dkAc50.2.2.2.2.2.2.2.2.1
theorem dL_law_731 : decode cL_law 731 = .ok (.iconst 1, 1) := dkAc50.2.2.2.2.2.2.2.2.2.1
theorem dL_law_732 : decode cL_law 732 = .ok (.iadd, 1) := dkAc50.2.2.2.2.2.2.2.2.2.2.1
theorem dL_law_733 : decode cL_law 733 = .ok (.iaload, 1) := dkAc50.2.2.2.2.2.2.2.2.2.2.2
set_option maxRecDepth 100000 in
theorem dkAc51 : decode cL_law 734 = .ok (.aload_n 0, 1) ∧ decode cL_law 735 = .ok (.iload_n 3, 1) ∧ decode cL_law 736 = .ok (.iconst 2, 1) ∧ decode cL_law 737 = .ok (.iadd, 1) ∧ decode cL_law 738 = .ok (.iaload, 1) ∧ decode cL_law 739 = .ok (.ifCond .eq 7, 3) ∧ decode cL_law 742 = .ok (.iconst 1, 1) ∧ decode cL_law 743 = .ok (.goto 4, 3) ∧ decode cL_law 746 = .ok (.iconst 0, 1) ∧ decode cL_law 747 = .ok (.invokevirtual 98, 3) ∧ decode cL_law 750 = .ok (.pop, 1) ∧ decode cL_law 751 = .ok (.goto 233, 3) := by decide +kernel
theorem dL_law_734 : decode cL_law 734 = .ok (.aload_n 0, 1) := dkAc51.1
theorem dL_law_735 : decode cL_law 735 = .ok (.iload_n 3, 1) := dkAc51.2.1
theorem dL_law_736 : decode cL_law 736 = .ok (.iconst 2, 1) := dkAc51.2.2.1
theorem dL_law_737 : decode cL_law 737 = .ok (.iadd, 1) := dkAc51.2.2.2.1
theorem dL_law_738 : decode cL_law 738 = .ok (.iaload, 1) := dkAc51.2.2.2.2.1
theorem dL_law_739 : decode cL_law 739 = .ok (.ifCond .eq 7, 3) := dkAc51.2.2.2.2.2.1
theorem dL_law_742 : decode cL_law 742 = .ok (.iconst 1, 1) := dkAc51.2.2.2.2.2.2.1
theorem dL_law_743 : decode cL_law 743 = .ok (.goto 4, 3) := dkAc51.2.2.2.2.2.2.2.1
theorem dL_law_746 : decode cL_law 746 = .ok (.iconst 0, 1) := dkAc51.2.2.2.2.2.2.2.2.1
theorem dL_law_747 : decode cL_law 747 = .ok (.invokevirtual 98, 3) := dkAc51.2.2.2.2.2.2.2.2.2.1
theorem dL_law_750 : decode cL_law 750 = .ok (.pop, 1) := dkAc51.2.2.2.2.2.2.2.2.2.2.1
theorem dL_law_751 : decode cL_law 751 = .ok (.goto 233, 3) := dkAc51.2.2.2.2.2.2.2.2.2.2.2
set_option maxRecDepth 100000 in
theorem dkAc52 : decode cL_law 754 = .ok (.aload_n 1, 1) ∧ decode cL_law 755 = .ok (.aload_n 0, 1) ∧ decode cL_law 756 = .ok (.iload_n 3, 1) ∧ decode cL_law 757 = .ok (.iconst 1, 1) ∧ decode cL_law 758 = .ok (.iadd, 1) ∧ decode cL_law 759 = .ok (.iaload, 1) ∧ decode cL_law 760 = .ok (.invokevirtual 99, 3) ∧ decode cL_law 763 = .ok (.pop, 1) ∧ decode cL_law 764 = .ok (.aload_n 2, 1) ∧ decode cL_law 765 = .ok (.aload_n 0, 1) ∧ decode cL_law 766 = .ok (.iload_n 3, 1) ∧ decode cL_law 767 = .ok (.iconst 1, 1) := by decide +kernel
theorem dL_law_754 : decode cL_law 754 = .ok (.aload_n 1, 1) := dkAc52.1
theorem dL_law_755 : decode cL_law 755 = .ok (.aload_n 0, 1) := dkAc52.2.1
theorem dL_law_756 : decode cL_law 756 = .ok (.iload_n 3, 1) := dkAc52.2.2.1
theorem dL_law_757 : decode cL_law 757 = .ok (.iconst 1, 1) := dkAc52.2.2.2.1
theorem dL_law_758 : decode cL_law 758 = .ok (.iadd, 1) := dkAc52.2.2.2.2.1
theorem dL_law_759 : decode cL_law 759 = .ok (.iaload, 1) := dkAc52.2.2.2.2.2.1
theorem dL_law_760 : decode cL_law 760 = .ok (.invokevirtual 99, 3) := dkAc52.2.2.2.2.2.2.1
theorem dL_law_763 : decode cL_law 763 = .ok (.pop, 1) := dkAc52.2.2.2.2.2.2.2.1
theorem dL_law_764 : decode cL_law 764 = .ok (.aload_n 2, 1) := dkAc52.2.2.2.2.2.2.2.2.1
theorem dL_law_765 : decode cL_law 765 = .ok (.aload_n 0, 1) := dkAc52.2.2.2.2.2.2.2.2.2.1
theorem dL_law_766 : decode cL_law 766 = .ok (.iload_n 3, 1) := dkAc52.2.2.2.2.2.2.2.2.2.2.1
theorem dL_law_767 : decode cL_law 767 = .ok (.iconst 1, 1) := dkAc52.2.2.2.2.2.2.2.2.2.2.2
set_option maxRecDepth 100000 in
theorem dkAc53 : decode cL_law 768 = .ok (.iadd, 1) ∧ decode cL_law 769 = .ok (.iaload, 1) ∧ decode cL_law 770 = .ok (.invokevirtual 102, 3) ∧ decode cL_law 773 = .ok (.pop, 1) ∧ decode cL_law 774 = .ok (.goto 210, 3) ∧ decode cL_law 777 = .ok (.aload_n 1, 1) ∧ decode cL_law 778 = .ok (.invokevirtual 103, 3) ∧ decode cL_law 781 = .ok (.pop, 1) ∧ decode cL_law 782 = .ok (.aload_n 2, 1) ∧ decode cL_law 783 = .ok (.invokevirtual 106, 3) ∧ decode cL_law 786 = .ok (.pop, 1) ∧ decode cL_law 787 = .ok (.goto 197, 3) := by decide +kernel
theorem dL_law_768 : decode cL_law 768 = .ok (.iadd, 1) := dkAc53.1
theorem dL_law_769 : decode cL_law 769 = .ok (.iaload, 1) := dkAc53.2.1
theorem dL_law_770 : decode cL_law 770 = .ok (.invokevirtual 102, 3) := dkAc53.2.2.1
theorem dL_law_773 : decode cL_law 773 = .ok (.pop, 1) := dkAc53.2.2.2.1
theorem dL_law_774 : decode cL_law 774 = .ok (.goto 210, 3) := dkAc53.2.2.2.2.1
theorem dL_law_777 : decode cL_law 777 = .ok (.aload_n 1, 1) := dkAc53.2.2.2.2.2.1
theorem dL_law_778 : decode cL_law 778 = .ok (.invokevirtual 103, 3) := dkAc53.2.2.2.2.2.2.1
theorem dL_law_781 : decode cL_law 781 = .ok (.pop, 1) := dkAc53.2.2.2.2.2.2.2.1
theorem dL_law_782 : decode cL_law 782 = .ok (.aload_n 2, 1) := dkAc53.2.2.2.2.2.2.2.2.1
theorem dL_law_783 : decode cL_law 783 = .ok (.invokevirtual 106, 3) := dkAc53.2.2.2.2.2.2.2.2.2.1
theorem dL_law_786 : decode cL_law 786 = .ok (.pop, 1) := dkAc53.2.2.2.2.2.2.2.2.2.2.1
theorem dL_law_787 : decode cL_law 787 = .ok (.goto 197, 3) := dkAc53.2.2.2.2.2.2.2.2.2.2.2
set_option maxRecDepth 100000 in
theorem dkAc54 : decode cL_law 790 = .ok (.aload_n 1, 1) ∧ decode cL_law 791 = .ok (.aload_n 0, 1) ∧ decode cL_law 792 = .ok (.iload_n 3, 1) ∧ decode cL_law 793 = .ok (.iconst 1, 1) ∧ decode cL_law 794 = .ok (.iadd, 1) ∧ decode cL_law 795 = .ok (.iaload, 1) ∧ decode cL_law 796 = .ok (.aload_n 0, 1) ∧ decode cL_law 797 = .ok (.iload_n 3, 1) ∧ decode cL_law 798 = .ok (.iconst 2, 1) ∧ decode cL_law 799 = .ok (.iadd, 1) ∧ decode cL_law 800 = .ok (.iaload, 1) ∧ decode cL_law 801 = .ok (.invokevirtual 107, 3) := by decide +kernel
theorem dL_law_790 : decode cL_law 790 = .ok (.aload_n 1, 1) := dkAc54.1
theorem dL_law_791 : decode cL_law 791 = .ok (.aload_n 0, 1) := dkAc54.2.1
theorem dL_law_792 : decode cL_law 792 = .ok (.iload_n 3, 1) := dkAc54.2.2.1
theorem dL_law_793 : decode cL_law 793 = .ok (.iconst 1, 1) := dkAc54.2.2.2.1
theorem dL_law_794 : decode cL_law 794 = .ok (.iadd, 1) := dkAc54.2.2.2.2.1
theorem dL_law_795 : decode cL_law 795 = .ok (.iaload, 1) := dkAc54.2.2.2.2.2.1
theorem dL_law_796 : decode cL_law 796 = .ok (.aload_n 0, 1) := dkAc54.2.2.2.2.2.2.1
theorem dL_law_797 : decode cL_law 797 = .ok (.iload_n 3, 1) := dkAc54.2.2.2.2.2.2.2.1
theorem dL_law_798 : decode cL_law 798 = .ok (.iconst 2, 1) := dkAc54.2.2.2.2.2.2.2.2.1
theorem dL_law_799 : decode cL_law 799 = .ok (.iadd, 1) := dkAc54.2.2.2.2.2.2.2.2.2.1
theorem dL_law_800 : decode cL_law 800 = .ok (.iaload, 1) := dkAc54.2.2.2.2.2.2.2.2.2.2.1
theorem dL_law_801 : decode cL_law 801 = .ok (.invokevirtual 107, 3) := dkAc54.2.2.2.2.2.2.2.2.2.2.2
set_option maxRecDepth 100000 in
theorem dkAc55 : decode cL_law 804 = .ok (.pop, 1) ∧ decode cL_law 805 = .ok (.aload_n 2, 1) ∧ decode cL_law 806 = .ok (.aload_n 0, 1) ∧ decode cL_law 807 = .ok (.iload_n 3, 1) ∧ decode cL_law 808 = .ok (.iconst 1, 1) ∧ decode cL_law 809 = .ok (.iadd, 1) ∧ decode cL_law 810 = .ok (.iaload, 1) ∧ decode cL_law 811 = .ok (.aload_n 0, 1) ∧ decode cL_law 812 = .ok (.iload_n 3, 1) ∧ decode cL_law 813 = .ok (.iconst 2, 1) ∧ decode cL_law 814 = .ok (.iadd, 1) ∧ decode cL_law 815 = .ok (.iaload, 1) := by decide +kernel
theorem dL_law_804 : decode cL_law 804 = .ok (.pop, 1) := dkAc55.1
theorem dL_law_805 : decode cL_law 805 = .ok (.aload_n 2, 1) := dkAc55.2.1
theorem dL_law_806 : decode cL_law 806 = .ok (.aload_n 0, 1) := dkAc55.2.2.1
theorem dL_law_807 : decode cL_law 807 = .ok (.iload_n 3, 1) := dkAc55.2.2.2.1
theorem dL_law_808 : decode cL_law 808 = .ok (.iconst 1, 1) := dkAc55.2.2.2.2.1
theorem dL_law_809 : decode cL_law 809 = .ok (.iadd, 1) := dkAc55.2.2.2.2.2.1
theorem dL_law_810 : decode cL_law 810 = .ok (.iaload, 1) := dkAc55.2.2.2.2.2.2.1
theorem dL_law_811 : decode cL_law 811 = .ok (.aload_n 0, 1) := dkAc55.2.2.2.2.2.2.2.1
theorem dL_law_812 : decode cL_law 812 = .ok (.iload_n 3, 1) := dkAc55.2.2.2.2.2.2.2.2.1
theorem dL_law_813 : decode cL_law 813 = .ok (.iconst 2, 1) := dkAc55.2.2.2.2.2.2.2.2.2.1
theorem dL_law_814 : decode cL_law 814 = .ok (.iadd, 1) := dkAc55.2.2.2.2.2.2.2.2.2.2.1
theorem dL_law_815 : decode cL_law 815 = .ok (.iaload, 1) := dkAc55.2.2.2.2.2.2.2.2.2.2.2
set_option maxRecDepth 100000 in
theorem dkAc56 : decode cL_law 816 = .ok (.invokevirtual 110, 3) ∧ decode cL_law 819 = .ok (.pop, 1) ∧ decode cL_law 820 = .ok (.goto 164, 3) ∧ decode cL_law 823 = .ok (.aload_n 1, 1) ∧ decode cL_law 824 = .ok (.aload_n 0, 1) ∧ decode cL_law 825 = .ok (.iload_n 3, 1) ∧ decode cL_law 826 = .ok (.iconst 1, 1) ∧ decode cL_law 827 = .ok (.iadd, 1) ∧ decode cL_law 828 = .ok (.iaload, 1) ∧ decode cL_law 829 = .ok (.aload_n 0, 1) ∧ decode cL_law 830 = .ok (.iload_n 3, 1) ∧ decode cL_law 831 = .ok (.iconst 2, 1) := by decide +kernel
theorem dL_law_816 : decode cL_law 816 = .ok (.invokevirtual 110, 3) := dkAc56.1
theorem dL_law_819 : decode cL_law 819 = .ok (.pop, 1) := dkAc56.2.1
theorem dL_law_820 : decode cL_law 820 = .ok (.goto 164, 3) := dkAc56.2.2.1
theorem dL_law_823 : decode cL_law 823 = .ok (.aload_n 1, 1) := dkAc56.2.2.2.1
theorem dL_law_824 : decode cL_law 824 = .ok (.aload_n 0, 1) := dkAc56.2.2.2.2.1
theorem dL_law_825 : decode cL_law 825 = .ok (.iload_n 3, 1) := dkAc56.2.2.2.2.2.1
theorem dL_law_826 : decode cL_law 826 = .ok (.iconst 1, 1) := dkAc56.2.2.2.2.2.2.1
theorem dL_law_827 : decode cL_law 827 = .ok (.iadd, 1) := dkAc56.2.2.2.2.2.2.2.1
theorem dL_law_828 : decode cL_law 828 = .ok (.iaload, 1) := dkAc56.2.2.2.2.2.2.2.2.1
theorem dL_law_829 : decode cL_law 829 = .ok (.aload_n 0, 1) := dkAc56.2.2.2.2.2.2.2.2.2.1
theorem dL_law_830 : decode cL_law 830 = .ok (.iload_n 3, 1) := dkAc56.2.2.2.2.2.2.2.2.2.2.1
theorem dL_law_831 : decode cL_law 831 = .ok (.iconst 2, 1) := dkAc56.2.2.2.2.2.2.2.2.2.2.2
set_option maxRecDepth 100000 in
theorem dkAc57 : decode cL_law 832 = .ok (.iadd, 1) ∧ decode cL_law 833 = .ok (.iaload, 1) ∧ decode cL_law 834 = .ok (.invokevirtual 111, 3) ∧ decode cL_law 837 = .ok (.pop, 1) ∧ decode cL_law 838 = .ok (.aload_n 2, 1) ∧ decode cL_law 839 = .ok (.aload_n 0, 1) ∧ decode cL_law 840 = .ok (.iload_n 3, 1) ∧ decode cL_law 841 = .ok (.iconst 1, 1) ∧ decode cL_law 842 = .ok (.iadd, 1) ∧ decode cL_law 843 = .ok (.iaload, 1) ∧ decode cL_law 844 = .ok (.aload_n 0, 1) ∧ decode cL_law 845 = .ok (.iload_n 3, 1) := by decide +kernel
theorem dL_law_832 : decode cL_law 832 = .ok (.iadd, 1) := dkAc57.1
theorem dL_law_833 : decode cL_law 833 = .ok (.iaload, 1) := dkAc57.2.1
theorem dL_law_834 : decode cL_law 834 = .ok (.invokevirtual 111, 3) := dkAc57.2.2.1
theorem dL_law_837 : decode cL_law 837 = .ok (.pop, 1) := dkAc57.2.2.2.1
theorem dL_law_838 : decode cL_law 838 = .ok (.aload_n 2, 1) := dkAc57.2.2.2.2.1
theorem dL_law_839 : decode cL_law 839 = .ok (.aload_n 0, 1) := dkAc57.2.2.2.2.2.1
theorem dL_law_840 : decode cL_law 840 = .ok (.iload_n 3, 1) := dkAc57.2.2.2.2.2.2.1
theorem dL_law_841 : decode cL_law 841 = .ok (.iconst 1, 1) := dkAc57.2.2.2.2.2.2.2.1
theorem dL_law_842 : decode cL_law 842 = .ok (.iadd, 1) := dkAc57.2.2.2.2.2.2.2.2.1
theorem dL_law_843 : decode cL_law 843 = .ok (.iaload, 1) := dkAc57.2.2.2.2.2.2.2.2.2.1
theorem dL_law_844 : decode cL_law 844 = .ok (.aload_n 0, 1) := dkAc57.2.2.2.2.2.2.2.2.2.2.1
theorem dL_law_845 : decode cL_law 845 = .ok (.iload_n 3, 1) := dkAc57.2.2.2.2.2.2.2.2.2.2.2
set_option maxRecDepth 100000 in
theorem dkAc58 : decode cL_law 846 = .ok (.iconst 2, 1) ∧ decode cL_law 847 = .ok (.iadd, 1) ∧ decode cL_law 848 = .ok (.iaload, 1) ∧ decode cL_law 849 = .ok (.invokevirtual 114, 3) ∧ decode cL_law 852 = .ok (.pop, 1) ∧ decode cL_law 853 = .ok (.goto 131, 3) ∧ decode cL_law 856 = .ok (.aload_n 1, 1) ∧ decode cL_law 857 = .ok (.aload_n 0, 1) ∧ decode cL_law 858 = .ok (.iload_n 3, 1) ∧ decode cL_law 859 = .ok (.iconst 1, 1) ∧ decode cL_law 860 = .ok (.iadd, 1) ∧ decode cL_law 861 = .ok (.iaload, 1) := by decide +kernel
theorem dL_law_846 : decode cL_law 846 = .ok (.iconst 2, 1) := dkAc58.1
theorem dL_law_847 : decode cL_law 847 = .ok (.iadd, 1) := dkAc58.2.1
theorem dL_law_848 : decode cL_law 848 = .ok (.iaload, 1) := dkAc58.2.2.1
theorem dL_law_849 : decode cL_law 849 = .ok (.invokevirtual 114, 3) := dkAc58.2.2.2.1
theorem dL_law_852 : decode cL_law 852 = .ok (.pop, 1) := dkAc58.2.2.2.2.1
theorem dL_law_853 : decode cL_law 853 = .ok (.goto 131, 3) := dkAc58.2.2.2.2.2.1
theorem dL_law_856 : decode cL_law 856 = .ok (.aload_n 1, 1) := dkAc58.2.2.2.2.2.2.1
theorem dL_law_857 : decode cL_law 857 = .ok (.aload_n 0, 1) := dkAc58.2.2.2.2.2.2.2.1
theorem dL_law_858 : decode cL_law 858 = .ok (.iload_n 3, 1) := dkAc58.2.2.2.2.2.2.2.2.1
theorem dL_law_859 : decode cL_law 859 = .ok (.iconst 1, 1) := dkAc58.2.2.2.2.2.2.2.2.2.1
theorem dL_law_860 : decode cL_law 860 = .ok (.iadd, 1) := dkAc58.2.2.2.2.2.2.2.2.2.2.1
theorem dL_law_861 : decode cL_law 861 = .ok (.iaload, 1) := dkAc58.2.2.2.2.2.2.2.2.2.2.2
set_option maxRecDepth 100000 in
theorem dkAc59 : decode cL_law 862 = .ok (.aload_n 0, 1) ∧ decode cL_law 863 = .ok (.iload_n 3, 1) ∧ decode cL_law 864 = .ok (.iconst 2, 1) ∧ decode cL_law 865 = .ok (.iadd, 1) ∧ decode cL_law 866 = .ok (.iaload, 1) ∧ decode cL_law 867 = .ok (.invokevirtual 115, 3) ∧ decode cL_law 870 = .ok (.pop, 1) ∧ decode cL_law 871 = .ok (.aload_n 2, 1) ∧ decode cL_law 872 = .ok (.aload_n 0, 1) ∧ decode cL_law 873 = .ok (.iload_n 3, 1) ∧ decode cL_law 874 = .ok (.iconst 1, 1) ∧ decode cL_law 875 = .ok (.iadd, 1) := by decide +kernel
theorem dL_law_862 : decode cL_law 862 = .ok (.aload_n 0, 1) := dkAc59.1
theorem dL_law_863 : decode cL_law 863 = .ok (.iload_n 3, 1) := dkAc59.2.1
theorem dL_law_864 : decode cL_law 864 = .ok (.iconst 2, 1) := dkAc59.2.2.1
theorem dL_law_865 : decode cL_law 865 = .ok (.iadd, 1) := dkAc59.2.2.2.1
theorem dL_law_866 : decode cL_law 866 = .ok (.iaload, 1) := dkAc59.2.2.2.2.1
theorem dL_law_867 : decode cL_law 867 = .ok (.invokevirtual 115, 3) := dkAc59.2.2.2.2.2.1
theorem dL_law_870 : decode cL_law 870 = .ok (.pop, 1) := dkAc59.2.2.2.2.2.2.1
theorem dL_law_871 : decode cL_law 871 = .ok (.aload_n 2, 1) := dkAc59.2.2.2.2.2.2.2.1
theorem dL_law_872 : decode cL_law 872 = .ok (.aload_n 0, 1) := dkAc59.2.2.2.2.2.2.2.2.1
theorem dL_law_873 : decode cL_law 873 = .ok (.iload_n 3, 1) := dkAc59.2.2.2.2.2.2.2.2.2.1
theorem dL_law_874 : decode cL_law 874 = .ok (.iconst 1, 1) := dkAc59.2.2.2.2.2.2.2.2.2.2.1
theorem dL_law_875 : decode cL_law 875 = .ok (.iadd, 1) := dkAc59.2.2.2.2.2.2.2.2.2.2.2
set_option maxRecDepth 100000 in
theorem dkAc60 : decode cL_law 876 = .ok (.iaload, 1) ∧ decode cL_law 877 = .ok (.aload_n 0, 1) ∧ decode cL_law 878 = .ok (.iload_n 3, 1) ∧ decode cL_law 879 = .ok (.iconst 2, 1) ∧ decode cL_law 880 = .ok (.iadd, 1) ∧ decode cL_law 881 = .ok (.iaload, 1) ∧ decode cL_law 882 = .ok (.invokevirtual 118, 3) ∧ decode cL_law 885 = .ok (.pop, 1) ∧ decode cL_law 886 = .ok (.goto 98, 3) ∧ decode cL_law 889 = .ok (.aload_n 1, 1) ∧ decode cL_law 890 = .ok (.invokevirtual 119, 3) ∧ decode cL_law 893 = .ok (.pop, 1) := by decide +kernel
theorem dL_law_876 : decode cL_law 876 = .ok (.iaload, 1) := dkAc60.1
theorem dL_law_877 : decode cL_law 877 = .ok (.aload_n 0, 1) := dkAc60.2.1
theorem dL_law_878 : decode cL_law 878 = .ok (.iload_n 3, 1) := dkAc60.2.2.1
theorem dL_law_879 : decode cL_law 879 = .ok (.iconst 2, 1) := dkAc60.2.2.2.1
theorem dL_law_880 : decode cL_law 880 = .ok (.iadd, 1) := dkAc60.2.2.2.2.1
theorem dL_law_881 : decode cL_law 881 = .ok (.iaload, 1) := dkAc60.2.2.2.2.2.1
theorem dL_law_882 : decode cL_law 882 = .ok (.invokevirtual 118, 3) := dkAc60.2.2.2.2.2.2.1
theorem dL_law_885 : decode cL_law 885 = .ok (.pop, 1) := dkAc60.2.2.2.2.2.2.2.1
theorem dL_law_886 : decode cL_law 886 = .ok (.goto 98, 3) := dkAc60.2.2.2.2.2.2.2.2.1
theorem dL_law_889 : decode cL_law 889 = .ok (.aload_n 1, 1) := dkAc60.2.2.2.2.2.2.2.2.2.1
theorem dL_law_890 : decode cL_law 890 = .ok (.invokevirtual 119, 3) := dkAc60.2.2.2.2.2.2.2.2.2.2.1
theorem dL_law_893 : decode cL_law 893 = .ok (.pop, 1) := dkAc60.2.2.2.2.2.2.2.2.2.2.2
set_option maxRecDepth 100000 in
theorem dkAc61 : decode cL_law 894 = .ok (.aload_n 2, 1) ∧ decode cL_law 895 = .ok (.invokevirtual 122, 3) ∧ decode cL_law 898 = .ok (.pop, 1) ∧ decode cL_law 899 = .ok (.goto 85, 3) ∧ decode cL_law 902 = .ok (.aload_n 1, 1) ∧ decode cL_law 903 = .ok (.invokevirtual 123, 3) ∧ decode cL_law 906 = .ok (.pop, 1) ∧ decode cL_law 907 = .ok (.aload_n 2, 1) ∧ decode cL_law 908 = .ok (.invokevirtual 126, 3) ∧ decode cL_law 911 = .ok (.pop, 1) ∧ decode cL_law 912 = .ok (.goto 72, 3) ∧ decode cL_law 915 = .ok (.aload_n 1, 1) := by decide +kernel
theorem dL_law_894 : decode cL_law 894 = .ok (.aload_n 2, 1) := dkAc61.1
theorem dL_law_895 : decode cL_law 895 = .ok (.invokevirtual 122, 3) := dkAc61.2.1
theorem dL_law_898 : decode cL_law 898 = .ok (.pop, 1) := dkAc61.2.2.1
theorem dL_law_899 : decode cL_law 899 = .ok (.goto 85, 3) := dkAc61.2.2.2.1
theorem dL_law_902 : decode cL_law 902 = .ok (.aload_n 1, 1) := dkAc61.2.2.2.2.1
theorem dL_law_903 : decode cL_law 903 = .ok (.invokevirtual 123, 3) := dkAc61.2.2.2.2.2.1
theorem dL_law_906 : decode cL_law 906 = .ok (.pop, 1) := dkAc61.2.2.2.2.2.2.1
theorem dL_law_907 : decode cL_law 907 = .ok (.aload_n 2, 1) := dkAc61.2.2.2.2.2.2.2.1
theorem dL_law_908 : decode cL_law 908 = .ok (.invokevirtual 126, 3) := dkAc61.2.2.2.2.2.2.2.2.1
theorem dL_law_911 : decode cL_law 911 = .ok (.pop, 1) := dkAc61.2.2.2.2.2.2.2.2.2.1
theorem dL_law_912 : decode cL_law 912 = .ok (.goto 72, 3) := dkAc61.2.2.2.2.2.2.2.2.2.2.1
theorem dL_law_915 : decode cL_law 915 = .ok (.aload_n 1, 1) := dkAc61.2.2.2.2.2.2.2.2.2.2.2
set_option maxRecDepth 100000 in
theorem dkAc62 : decode cL_law 916 = .ok (.aload_n 0, 1) ∧ decode cL_law 917 = .ok (.iload_n 3, 1) ∧ decode cL_law 918 = .ok (.iconst 1, 1) ∧ decode cL_law 919 = .ok (.iadd, 1) ∧ decode cL_law 920 = .ok (.iaload, 1) ∧ decode cL_law 921 = .ok (.invokevirtual 127, 3) ∧ decode cL_law 924 = .ok (.pop, 1) ∧ decode cL_law 925 = .ok (.aload_n 2, 1) ∧ decode cL_law 926 = .ok (.aload_n 0, 1) ∧ decode cL_law 927 = .ok (.iload_n 3, 1) ∧ decode cL_law 928 = .ok (.iconst 1, 1) ∧ decode cL_law 929 = .ok (.iadd, 1) := by decide +kernel
theorem dL_law_916 : decode cL_law 916 = .ok (.aload_n 0, 1) := dkAc62.1
theorem dL_law_917 : decode cL_law 917 = .ok (.iload_n 3, 1) := dkAc62.2.1
theorem dL_law_918 : decode cL_law 918 = .ok (.iconst 1, 1) := dkAc62.2.2.1
theorem dL_law_919 : decode cL_law 919 = .ok (.iadd, 1) := dkAc62.2.2.2.1
theorem dL_law_920 : decode cL_law 920 = .ok (.iaload, 1) := dkAc62.2.2.2.2.1
theorem dL_law_921 : decode cL_law 921 = .ok (.invokevirtual 127, 3) := dkAc62.2.2.2.2.2.1
theorem dL_law_924 : decode cL_law 924 = .ok (.pop, 1) := dkAc62.2.2.2.2.2.2.1
theorem dL_law_925 : decode cL_law 925 = .ok (.aload_n 2, 1) := dkAc62.2.2.2.2.2.2.2.1
theorem dL_law_926 : decode cL_law 926 = .ok (.aload_n 0, 1) := dkAc62.2.2.2.2.2.2.2.2.1
theorem dL_law_927 : decode cL_law 927 = .ok (.iload_n 3, 1) := dkAc62.2.2.2.2.2.2.2.2.2.1
theorem dL_law_928 : decode cL_law 928 = .ok (.iconst 1, 1) := dkAc62.2.2.2.2.2.2.2.2.2.2.1
theorem dL_law_929 : decode cL_law 929 = .ok (.iadd, 1) := dkAc62.2.2.2.2.2.2.2.2.2.2.2
set_option maxRecDepth 100000 in
theorem dkAc63 : decode cL_law 930 = .ok (.iaload, 1) ∧ decode cL_law 931 = .ok (.invokevirtual 130, 3) ∧ decode cL_law 934 = .ok (.pop, 1) ∧ decode cL_law 935 = .ok (.goto 49, 3) ∧ decode cL_law 938 = .ok (.aload_n 1, 1) ∧ decode cL_law 939 = .ok (.aload_n 0, 1) ∧ decode cL_law 940 = .ok (.iload_n 3, 1) ∧ decode cL_law 941 = .ok (.iconst 1, 1) ∧ decode cL_law 942 = .ok (.iadd, 1) ∧ decode cL_law 943 = .ok (.iaload, 1) ∧ decode cL_law 944 = .ok (.invokevirtual 131, 3) ∧ decode cL_law 947 = .ok (.pop, 1) := by decide +kernel
theorem dL_law_930 : decode cL_law 930 = .ok (.iaload, 1) := dkAc63.1
theorem dL_law_931 : decode cL_law 931 = .ok (.invokevirtual 130, 3) := dkAc63.2.1
theorem dL_law_934 : decode cL_law 934 = .ok (.pop, 1) := dkAc63.2.2.1
theorem dL_law_935 : decode cL_law 935 = .ok (.goto 49, 3) := dkAc63.2.2.2.1
theorem dL_law_938 : decode cL_law 938 = .ok (.aload_n 1, 1) := dkAc63.2.2.2.2.1
theorem dL_law_939 : decode cL_law 939 = .ok (.aload_n 0, 1) := dkAc63.2.2.2.2.2.1
theorem dL_law_940 : decode cL_law 940 = .ok (.iload_n 3, 1) := dkAc63.2.2.2.2.2.2.1
theorem dL_law_941 : decode cL_law 941 = .ok (.iconst 1, 1) := dkAc63.2.2.2.2.2.2.2.1
theorem dL_law_942 : decode cL_law 942 = .ok (.iadd, 1) := dkAc63.2.2.2.2.2.2.2.2.1
theorem dL_law_943 : decode cL_law 943 = .ok (.iaload, 1) := dkAc63.2.2.2.2.2.2.2.2.2.1
theorem dL_law_944 : decode cL_law 944 = .ok (.invokevirtual 131, 3) := dkAc63.2.2.2.2.2.2.2.2.2.2.1
theorem dL_law_947 : decode cL_law 947 = .ok (.pop, 1) := dkAc63.2.2.2.2.2.2.2.2.2.2.2
set_option maxRecDepth 100000 in
theorem dkAc64 : decode cL_law 948 = .ok (.aload_n 2, 1) ∧ decode cL_law 949 = .ok (.aload_n 0, 1) ∧ decode cL_law 950 = .ok (.iload_n 3, 1) ∧ decode cL_law 951 = .ok (.iconst 1, 1) ∧ decode cL_law 952 = .ok (.iadd, 1) ∧ decode cL_law 953 = .ok (.iaload, 1) ∧ decode cL_law 954 = .ok (.invokevirtual 134, 3) ∧ decode cL_law 957 = .ok (.pop, 1) ∧ decode cL_law 958 = .ok (.goto 26, 3) ∧ decode cL_law 961 = .ok (.aload_n 1, 1) ∧ decode cL_law 962 = .ok (.aload_n 0, 1) ∧ decode cL_law 963 = .ok (.iload_n 3, 1) := by decide +kernel
theorem dL_law_948 : decode cL_law 948 = .ok (.aload_n 2, 1) := dkAc64.1
theorem dL_law_949 : decode cL_law 949 = .ok (.aload_n 0, 1) := dkAc64.2.1
theorem dL_law_950 : decode cL_law 950 = .ok (.iload_n 3, 1) := dkAc64.2.2.1
theorem dL_law_951 : decode cL_law 951 = .ok (.iconst 1, 1) := dkAc64.2.2.2.1
theorem dL_law_952 : decode cL_law 952 = .ok (.iadd, 1) := dkAc64.2.2.2.2.1
theorem dL_law_953 : decode cL_law 953 = .ok (.iaload, 1) := dkAc64.2.2.2.2.2.1
theorem dL_law_954 : decode cL_law 954 = .ok (.invokevirtual 134, 3) := dkAc64.2.2.2.2.2.2.1
theorem dL_law_957 : decode cL_law 957 = .ok (.pop, 1) := dkAc64.2.2.2.2.2.2.2.1
theorem dL_law_958 : decode cL_law 958 = .ok (.goto 26, 3) := dkAc64.2.2.2.2.2.2.2.2.1
theorem dL_law_961 : decode cL_law 961 = .ok (.aload_n 1, 1) := dkAc64.2.2.2.2.2.2.2.2.2.1
theorem dL_law_962 : decode cL_law 962 = .ok (.aload_n 0, 1) := dkAc64.2.2.2.2.2.2.2.2.2.2.1
theorem dL_law_963 : decode cL_law 963 = .ok (.iload_n 3, 1) := dkAc64.2.2.2.2.2.2.2.2.2.2.2
set_option maxRecDepth 100000 in
theorem dkAc65 : decode cL_law 964 = .ok (.iconst 1, 1) ∧ decode cL_law 965 = .ok (.iadd, 1) ∧ decode cL_law 966 = .ok (.iaload, 1) ∧ decode cL_law 967 = .ok (.invokevirtual 135, 3) ∧ decode cL_law 970 = .ok (.aload_n 2, 1) ∧ decode cL_law 971 = .ok (.aload_n 0, 1) ∧ decode cL_law 972 = .ok (.iload_n 3, 1) ∧ decode cL_law 973 = .ok (.iconst 1, 1) ∧ decode cL_law 974 = .ok (.iadd, 1) ∧ decode cL_law 975 = .ok (.iaload, 1) ∧ decode cL_law 976 = .ok (.invokevirtual 138, 3) ∧ decode cL_law 979 = .ok (.if_icmp .eq 5, 3) := by decide +kernel
theorem dL_law_964 : decode cL_law 964 = .ok (.iconst 1, 1) := dkAc65.1
theorem dL_law_965 : decode cL_law 965 = .ok (.iadd, 1) := dkAc65.2.1
theorem dL_law_966 : decode cL_law 966 = .ok (.iaload, 1) := dkAc65.2.2.1
theorem dL_law_967 : decode cL_law 967 = .ok (.invokevirtual 135, 3) := dkAc65.2.2.2.1
theorem dL_law_970 : decode cL_law 970 = .ok (.aload_n 2, 1) := dkAc65.2.2.2.2.1
theorem dL_law_971 : decode cL_law 971 = .ok (.aload_n 0, 1) := dkAc65.2.2.2.2.2.1
theorem dL_law_972 : decode cL_law 972 = .ok (.iload_n 3, 1) := dkAc65.2.2.2.2.2.2.1
theorem dL_law_973 : decode cL_law 973 = .ok (.iconst 1, 1) := dkAc65.2.2.2.2.2.2.2.1
theorem dL_law_974 : decode cL_law 974 = .ok (.iadd, 1) := dkAc65.2.2.2.2.2.2.2.2.1
theorem dL_law_975 : decode cL_law 975 = .ok (.iaload, 1) := dkAc65.2.2.2.2.2.2.2.2.2.1
theorem dL_law_976 : decode cL_law 976 = .ok (.invokevirtual 138, 3) := dkAc65.2.2.2.2.2.2.2.2.2.2.1
theorem dL_law_979 : decode cL_law 979 = .ok (.if_icmp .eq 5, 3) := dkAc65.2.2.2.2.2.2.2.2.2.2.2
set_option maxRecDepth 100000 in
theorem dkAc66 : decode cL_law 982 = .ok (.iconst 0, 1) ∧ decode cL_law 983 = .ok (.ireturn, 1) ∧ decode cL_law 984 = .ok (.iinc 3 5, 3) ∧ decode cL_law 987 = .ok (.goto (-969), 3) ∧ decode cL_law 990 = .ok (.iconst 1, 1) ∧ decode cL_law 991 = .ok (.ireturn, 1) := by decide +kernel
theorem dL_law_982 : decode cL_law 982 = .ok (.iconst 0, 1) := dkAc66.1
theorem dL_law_983 : decode cL_law 983 = .ok (.ireturn, 1) := dkAc66.2.1
theorem dL_law_984 : decode cL_law 984 = .ok (.iinc 3 5, 3) := dkAc66.2.2.1
theorem dL_law_987 : decode cL_law 987 = .ok (.goto (-969), 3) := dkAc66.2.2.2.1
theorem dL_law_990 : decode cL_law 990 = .ok (.iconst 1, 1) := dkAc66.2.2.2.2.1
theorem dL_law_991 : decode cL_law 991 = .ok (.ireturn, 1) := dkAc66.2.2.2.2.2
