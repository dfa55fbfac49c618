def dkLc0 : List (Nat × Instr × Nat) := [(0, .iload_n 0, 1), (1, .iconst (-1), 1), (2, .ixor, 1), (3, .iload_n 0, 1), (4, .iconst 1, 1), (5, .isub, 1), (6, .iand, 1), (7, .istore_n 0, 1), (8, .iload_n 0, 1), (9, .ifCond .gt 8, 3), (12, .iload_n 0, 1), (13, .bipush 32, 2), (15, .iand, 1), (16, .ireturn, 1), (17, .iconst 1, 1), (18, .istore_n 1, 1), (19, .iload_n 0, 1), (20, .ldc_w 264, 3), (23, .if_icmp .le 11, 3), (26, .iinc 1 16, 3), (29, .iload_n 0, 1), (30, .bipush 16, 2), (32, .iushr, 1), (33, .istore_n 0, 1), (34, .iload_n 0, 1), (35, .sipush 256, 3), (38, .if_icmp .le 11, 3), (41, .iinc 1 8, 3), (44, .iload_n 0, 1), (45, .bipush 8, 2), (47, .iushr, 1), (48, .istore_n 0, 1)]
set_option maxRecDepth 100000 in
theorem dkAc0 : ∀ q ∈ dkLc0, decode cJ6_numberOfTrailingZeros_0f7a4 q.1 = .ok q.2 := by decide +kernel
theorem dJ6_numberOfTrailingZeros_0f7a4_0 : decode cJ6_numberOfTrailingZeros_0f7a4 0 = .ok (.iload_n 0, 1) := dk_of dkAc0 (i := 0) rfl
theorem dJ6_numberOfTrailingZeros_0f7a4_1 : decode cJ6_numberOfTrailingZeros_0f7a4 1 = .ok (.iconst (-1), 1) := dk_of dkAc0 (i := 1) rfl
theorem dJ6_numberOfTrailingZeros_0f7a4_2 : decode cJ6_numberOfTrailingZeros_0f7a4 2 = .ok (.ixor, 1) := dk_of dkAc0 (i := 2) rfl
theorem dJ6_numberOfTrailingZeros_0f7a4_3 : decode cJ6_numberOfTrailingZeros_0f7a4 3 = .ok (.iload_n 0, 1) := dk_of dkAc0 (i := 3) rfl
theorem dJ6_numberOfTrailingZeros_0f7a4_4 : decode cJ6_numberOfTrailingZeros_0f7a4 4 = .ok (.iconst 1, 1) := dk_of dkAc0 (i := 4) rfl
theorem dJ6_numberOfTrailingZeros_0f7a4_5 : decode cJ6_numberOfTrailingZeros_0f7a4 5 = .ok (.isub, 1) := dk_of dkAc0 (i := 5) rfl
theorem dJ6_numberOfTrailingZeros_0f7a4_6 : decode cJ6_numberOfTrailingZeros_0f7a4 6 = .ok (.iand, 1) := dk_of dkAc0 (i := 6) rfl
theorem dJ6_numberOfTrailingZeros_0f7a4_7 : decode cJ6_numberOfTrailingZeros_0f7a4 7 = .ok (.istore_n 0, 1) := dk_of dkAc0 (i := 7) rfl
theorem dJ6_numberOfTrailingZeros_0f7a4_8 : decode cJ6_numberOfTrailingZeros_0f7a4 8 = .ok (.iload_n 0, 1) := dk_of dkAc0 (i := 8) rfl
theorem dJ6_numberOfTrailingZeros_0f7a4_9 : decode cJ6_numberOfTrailingZeros_0f7a4 9 = .ok (.ifCond .gt 8, 3) := dk_of dkAc0 (i := 9) rfl
theorem dJ6_numberOfTrailingZeros_0f7a4_12 : decode cJ6_numberOfTrailingZeros_0f7a4 12 = .ok (.iload_n 0, 1) := dk_of dkAc0 (i := 10) rfl
theorem dJ6_numberOfTrailingZeros_0f7a4_13 : decode cJ6_numberOfTrailingZeros_0f7a4 13 = .ok (.bipush 32, 2) := dk_of dkAc0 (i := 11) rfl
theorem dJ6_numberOfTrailingZeros_0f7a4_15 : decode cJ6_numberOfTrailingZeros_0f7a4 15 = .ok (.iand, 1) := dk_of dkAc0 (i := 12) rfl
theorem dJ6_numberOfTrailingZeros_0f7a4_16 : decode cJ6_numberOfTrailingZeros_0f7a4 16 = .ok (.ireturn, 1) := dk_of dkAc0 (i := 13) rfl
theorem dJ6_numberOfTrailingZeros_0f7a4_17 : decode cJ6_numberOfTrailingZeros_0f7a4 17 = .ok (.iconst 1, 1) := dk_of dkAc0 (i := 14) rfl
theorem dJ6_numberOfTrailingZeros_0f7a4_18 : decode cJ6_numberOfTrailingZeros_0f7a4 18 = .ok (.istore_n 1, 1) := dk_of dkAc0 (i := 15) rfl
theorem dJ6_numberOfTrailingZeros_0f7a4_19 : decode cJ6_numberOfTrailingZeros_0f7a4 19 = .ok (.iload_n 0, 1) := dk_of dkAc0 (i := 16) rfl
theorem dJ6_numberOfTrailingZeros_0f7a4_20 : decode cJ6_numberOfTrailingZeros_0f7a4 20 = .ok (.ldc_w 264, 3) := dk_of dkAc0 (i := 17) rfl
theorem dJ6_numberOfTrailingZeros_0f7a4_23 : decode cJ6_numberOfTrailingZeros_0f7a4 23 = .ok (.if_icmp .le 11, 3) := dk_of dkAc0 (i := 18) rfl
theorem dJ6_numberOfTrailingZeros_0f7a4_26 : decode cJ6_numberOfTrailingZeros_0f7a4 26 = .ok (.iinc 1 16, 3) := dk_of dkAc0 (i := 19) rfl
theorem dJ6_numberOfTrailingZeros_0f7a4_29 : decode cJ6_numberOfTrailingZeros_0f7a4 29 = .ok (.iload_n 0, 1) := dk_of dkAc0 (i := 20) rfl
theorem dJ6_numberOfTrailingZeros_0f7a4_30 : decode cJ6_numberOfTrailingZeros_0f7a4 30 = .ok (.bipush 16, 2) := dk_of dkAc0 (i := 21) rfl
theorem dJ6_numberOfTrailingZeros_0f7a4_32 : decode cJ6_numberOfTrailingZeros_0f7a4 32 = .ok (.iushr, 1) := dk_of dkAc0 (i := 22) rfl
theorem dJ6_numberOfTrailingZeros_0f7a4_33 : decode cJ6_numberOfTrailingZeros_0f7a4 33 = .ok (.istore_n 0, 1) := dk_of dkAc0 (i := 23) rfl
theorem dJ6_numberOfTrailingZeros_0f7a4_34 : decode cJ6_numberOfTrailingZeros_0f7a4 34 = .ok (.iload_n 0, 1) := dk_of dkAc0 (i := 24) rfl
theorem dJ6_numberOfTrailingZeros_0f7a4_35 : decode cJ6_numberOfTrailingZeros_0f7a4 35 = .ok (.sipush 256, 3) := dk_of dkAc0 (i := 25) rfl
theorem dJ6_numberOfTrailingZeros_0f7a4_38 : decode cJ6_numberOfTrailingZeros_0f7a4 38 = .ok (.if_icmp .le 11, 3) := dk_of dkAc0 (i := 26) rfl
theorem dJ6_numberOfTrailingZeros_0f7a4_41 : decode cJ6_numberOfTrailingZeros_0f7a4 41 = .ok (.iinc 1 8, 3) := dk_of dkAc0 (i := 27) rfl
theorem dJ6_numberOfTrailingZeros_0f7a4_44 : decode cJ6_numberOfTrailingZeros_0f7a4 44 = .ok (.iload_n 0, 1) := dk_of dkAc0 (i := 28) rfl
theorem dJ6_numberOfTrailingZeros_0f7a4_45 : decode cJ6_numberOfTrailingZeros_0f7a4 45 = .ok (.bipush 8, 2) := dk_of dkAc0 (i := 29) rfl
theorem dJ6_numberOfTrailingZeros_0f7a4_47 : decode cJ6_numberOfTrailingZeros_0f7a4 47 = .ok (.iushr, 1) := dk_of dkAc0 (i := 30) rfl
theorem dJ6_numberOfTrailingZeros_0f7a4_48 : decode cJ6_numberOfTrailingZeros_0f7a4 48 = .ok (.istore_n 0, 1) := dk_of dkAc0 (i := 31) rfl
def dkLc1 : List (Nat × Instr × Nat) := [(49, .iload_n 0, 1), (50, .bipush 16, 2), (52, .if_icmp .le 10, 3), (55, .iinc 1 4, 3), (58, .iload_n 0, 1), (59, .iconst 4, 1), (60, .iushr, 1), (61, .istore_n 0, 1), (62, .iload_n 0, 1), (63, .iconst 4, 1), (64, .if_icmp .le 10, 3), (67, .iinc 1 2, 3), (70, .iload_n 0, 1), (71, .iconst 2, 1), (72, .iushr, 1), (73, .istore_n 0, 1), (74, .iload_n 1, 1), (75, .iload_n 0, 1), (76, .iconst 1, 1), (77, .iushr, 1), (78, .iadd, 1), (79, .ireturn, 1)]
set_option maxRecDepth 100000 in
theorem dkAc1 : ∀ q ∈ dkLc1, decode cJ6_numberOfTrailingZeros_0f7a4 q.1 = .ok q.2 := by decide +kernel
theorem dJ6_numberOfTrailingZeros_0f7a4_49 : decode cJ6_numberOfTrailingZeros_0f7a4 49 = .ok (.iload_n 0, 1) := dk_of dkAc1 (i := 0) rfl
theorem dJ6_numberOfTrailingZeros_0f7a4_50 : decode cJ6_numberOfTrailingZeros_0f7a4 50 = .ok (.bipush 16, 2) := dk_of dkAc1 (i := 1) rfl
theorem dJ6_numberOfTrailingZeros_0f7a4_52 : decode cJ6_numberOfTrailingZeros_0f7a4 52 = .ok (.if_icmp .le 10, 3) := dk_of dkAc1 (i := 2) rfl
theorem dJ6_numberOfTrailingZeros_0f7a4_55 : decode cJ6_numberOfTrailingZeros_0f7a4 55 = .ok (.iinc 1 4, 3) := dk_of dkAc1 (i := 3) rfl
theorem dJ6_numberOfTrailingZeros_0f7a4_58 : decode cJ6_numberOfTrailingZeros_0f7a4 58 = .ok (.iload_n 0, 1) := dk_of dkAc1 (i := 4) rfl
theorem dJ6_numberOfTrailingZeros_0f7a4_59 : decode cJ6_numberOfTrailingZeros_0f7a4 59 = .ok (.iconst 4, 1) := dk_of dkAc1 (i := 5) rfl
theorem dJ6_numberOfTrailingZeros_0f7a4_60 : decode cJ6_numberOfTrailingZeros_0f7a4 60 = .ok (.iushr, 1) := dk_of dkAc1 (i := 6) rfl
theorem dJ6_numberOfTrailingZeros_0f7a4_61 : decode cJ6_numberOfTrailingZeros_0f7a4 61 = .ok (.istore_n 0, 1) := dk_of dkAc1 (i := 7) rfl
theorem dJ6_numberOfTrailingZeros_0f7a4_62 : decode cJ6_numberOfTrailingZeros_0f7a4 62 = .ok (.iload_n 0, 1) := dk_of dkAc1 (i := 8) rfl
theorem dJ6_numberOfTrailingZeros_0f7a4_63 : decode cJ6_numberOfTrailingZeros_0f7a4 63 = .ok (.iconst 4, 1) := dk_of dkAc1 (i := 9) rfl
theorem dJ6_numberOfTrailingZeros_0f7a4_64 : decode cJ6_numberOfTrailingZeros_0f7a4 64 = .ok (.if_icmp .le 10, 3) := dk_of dkAc1 (i := 10) rfl
theorem dJ6_numberOfTrailingZeros_0f7a4_67 : decode cJ6_numberOfTrailingZeros_0f7a4 67 = .ok (.iinc 1 2, 3) := dk_of dkAc1 (i := 11) rfl
theorem dJ6_numberOfTrailingZeros_0f7a4_70 : decode cJ6_numberOfTrailingZeros_0f7a4 70 = .ok (.iload_n 0, 1) := dk_of dkAc1 (i := 12) rfl
theorem dJ6_numberOfTrailingZeros_0f7a4_71 : decode cJ6_numberOfTrailingZeros_0f7a4 71 = .ok (.iconst 2, 1) := dk_of dkAc1 (i := 13) rfl
theorem dJ6_numberOfTrailingZeros_0f7a4_72 : decode cJ6_numberOfTrailingZeros_0f7a4 72 = .ok (.iushr, 1) := dk_of dkAc1 (i := 14) rfl
theorem dJ6_numberOfTrailingZeros_0f7a4_73 : decode cJ6_numberOfTrailingZeros_0f7a4 73 = .ok (.istore_n 0, 1) := dk_of dkAc1 (i := 15) rfl
theorem dJ6_numberOfTrailingZeros_0f7a4_74 : decode cJ6_numberOfTrailingZeros_0f7a4 74 = .ok (.iload_n 1, 1) := dk_of dkAc1 (i := 16) rfl
theorem dJ6_numberOfTrailingZeros_0f7a4_75 : decode cJ6_numberOfTrailingZeros_0f7a4 75 = .ok (.iload_n 0, 1) := dk_of dkAc1 (i := 17) rfl
theorem dJ6_numberOfTrailingZeros_0f7a4_76 : decode cJ6_numberOfTrailingZeros_0f7a4 76 = .ok (.iconst 1, 1) := dk_of dkAc1 (i := 18) rfl
theorem dJ6_numberOfTrailingZeros_0f7a4_77 : decode cJ6_numberOfTrailingZeros_0f7a4 77 = .ok (.iushr, 1) := dk_of dkAc1 (i := 19) rfl
theorem dJ6_numberOfTrailingZeros_0f7a4_78 : decode cJ6_numberOfTrailingZeros_0f7a4 78 = .ok (.iadd, 1) := dk_of dkAc1 (i := 20) rfl
theorem dJ6_numberOfTrailingZeros_0f7a4_79 : decode cJ6_numberOfTrailingZeros_0f7a4 79 = .ok (.ireturn, 1) := dk_of dkAc1 (i := 21) rfl
def dkLc2 : List (Nat × Instr × Nat) := [(0, .iload_n 0, 1), (1, .iload_n 0, 1), (2, .iconst 1, 1), (3, .iushr, 1), (4, .ldc_w 265, 3), (7, .iand, 1), (8, .isub, 1), (9, .istore_n 0, 1), (10, .iload_n 0, 1), (11, .ldc_w 266, 3), (14, .iand, 1), (15, .iload_n 0, 1), (16, .iconst 2, 1), (17, .iushr, 1), (18, .ldc_w 266, 3), (21, .iand, 1), (22, .iadd, 1), (23, .istore_n 0, 1), (24, .iload_n 0, 1), (25, .iload_n 0, 1), (26, .iconst 4, 1), (27, .iushr, 1), (28, .iadd, 1), (29, .ldc_w 267, 3), (32, .iand, 1), (33, .istore_n 0, 1), (34, .iload_n 0, 1), (35, .iload_n 0, 1), (36, .bipush 8, 2), (38, .iushr, 1), (39, .iadd, 1), (40, .istore_n 0, 1)]
set_option maxRecDepth 100000 in
theorem dkAc2 : ∀ q ∈ dkLc2, decode cJ6_bitCount_0f7a4 q.1 = .ok q.2 := by decide +kernel
theorem dJ6_bitCount_0f7a4_0 : decode cJ6_bitCount_0f7a4 0 = .ok (.iload_n 0, 1) := dk_of dkAc2 (i := 0) rfl
theorem dJ6_bitCount_0f7a4_1 : decode cJ6_bitCount_0f7a4 1 = .ok (.iload_n 0, 1) := dk_of dkAc2 (i := 1) rfl
theorem dJ6_bitCount_0f7a4_2 : decode cJ6_bitCount_0f7a4 2 = .ok (.iconst 1, 1) := dk_of dkAc2 (i := 2) rfl
theorem dJ6_bitCount_0f7a4_3 : decode cJ6_bitCount_0f7a4 3 = .ok (.iushr, 1) := dk_of dkAc2 (i := 3) rfl
theorem dJ6_bitCount_0f7a4_4 : decode cJ6_bitCount_0f7a4 4 = .ok (.ldc_w 265, 3) := dk_of dkAc2 (i := 4) rfl
theorem dJ6_bitCount_0f7a4_7 : decode cJ6_bitCount_0f7a4 7 = .ok (.iand, 1) := dk_of dkAc2 (i := 5) rfl
theorem dJ6_bitCount_0f7a4_8 : decode cJ6_bitCount_0f7a4 8 = .ok (.isub, 1) := dk_of dkAc2 (i := 6) rfl
theorem dJ6_bitCount_0f7a4_9 : decode cJ6_bitCount_0f7a4 9 = .ok (.istore_n 0, 1) := dk_of dkAc2 (i := 7) rfl
theorem dJ6_bitCount_0f7a4_10 : decode cJ6_bitCount_0f7a4 10 = .ok (.iload_n 0, 1) := dk_of dkAc2 (i := 8) rfl
theorem dJ6_bitCount_0f7a4_11 : decode cJ6_bitCount_0f7a4 11 = .ok (.ldc_w 266, 3) := dk_of dkAc2 (i := 9) rfl
theorem dJ6_bitCount_0f7a4_14 : decode cJ6_bitCount_0f7a4 14 = .ok (.iand, 1) := dk_of dkAc2 (i := 10) rfl
theorem dJ6_bitCount_0f7a4_15 : decode cJ6_bitCount_0f7a4 15 = .ok (.iload_n 0, 1) := dk_of dkAc2 (i := 11) rfl
theorem dJ6_bitCount_0f7a4_16 : decode cJ6_bitCount_0f7a4 16 = .ok (.iconst 2, 1) := dk_of dkAc2 (i := 12) rfl
theorem dJ6_bitCount_0f7a4_17 : decode cJ6_bitCount_0f7a4 17 = .ok (.iushr, 1) := dk_of dkAc2 (i := 13) rfl
theorem dJ6_bitCount_0f7a4_18 : decode cJ6_bitCount_0f7a4 18 = .ok (.ldc_w 266, 3) := dk_of dkAc2 (i := 14) rfl
theorem dJ6_bitCount_0f7a4_21 : decode cJ6_bitCount_0f7a4 21 = .ok (.iand, 1) := dk_of dkAc2 (i := 15) rfl
theorem dJ6_bitCount_0f7a4_22 : decode cJ6_bitCount_0f7a4 22 = .ok (.iadd, 1) := dk_of dkAc2 (i := 16) rfl
theorem dJ6_bitCount_0f7a4_23 : decode cJ6_bitCount_0f7a4 23 = .ok (.istore_n 0, 1) := dk_of dkAc2 (i := 17) rfl
theorem dJ6_bitCount_0f7a4_24 : decode cJ6_bitCount_0f7a4 24 = .ok (.iload_n 0, 1) := dk_of dkAc2 (i := 18) rfl
theorem dJ6_bitCount_0f7a4_25 : decode cJ6_bitCount_0f7a4 25 = .ok (.iload_n 0, 1) := dk_of dkAc2 (i := 19) rfl
theorem dJ6_bitCount_0f7a4_26 : decode cJ6_bitCount_0f7a4 26 = .ok (.iconst 4, 1) := dk_of dkAc2 (i := 20) rfl
theorem dJ6_bitCount_0f7a4_27 : decode cJ6_bitCount_0f7a4 27 = .ok (.iushr, 1) := dk_of dkAc2 (i := 21) rfl
theorem dJ6_bitCount_0f7a4_28 : decode cJ6_bitCount_0f7a4 28 = .ok (.iadd, 1) := dk_of dkAc2 (i := 22) rfl
theorem dJ6_bitCount_0f7a4_29 : decode cJ6_bitCount_0f7a4 29 = .ok (.ldc_w 267, 3) := dk_of dkAc2 (i := 23) rfl
theorem dJ6_bitCount_0f7a4_32 : decode cJ6_bitCount_0f7a4 32 = .ok (.iand, 1) := dk_of dkAc2 (i := 24) rfl
theorem dJ6_bitCount_0f7a4_33 : decode cJ6_bitCount_0f7a4 33 = .ok (.istore_n 0, 1) := dk_of dkAc2 (i := 25) rfl
theorem dJ6_bitCount_0f7a4_34 : decode cJ6_bitCount_0f7a4 34 = .ok (.iload_n 0, 1) := dk_of dkAc2 (i := 26) rfl
theorem dJ6_bitCount_0f7a4_35 : decode cJ6_bitCount_0f7a4 35 = .ok (.iload_n 0, 1) := dk_of dkAc2 (i := 27) rfl
theorem dJ6_bitCount_0f7a4_36 : decode cJ6_bitCount_0f7a4 36 = .ok (.bipush 8, 2) := dk_of dkAc2 (i := 28) rfl
theorem dJ6_bitCount_0f7a4_38 : decode cJ6_bitCount_0f7a4 38 = .ok (.iushr, 1) := dk_of dkAc2 (i := 29) rfl
theorem dJ6_bitCount_0f7a4_39 : decode cJ6_bitCount_0f7a4 39 = .ok (.iadd, 1) := dk_of dkAc2 (i := 30) rfl
theorem dJ6_bitCount_0f7a4_40 : decode cJ6_bitCount_0f7a4 40 = .ok (.istore_n 0, 1) := dk_of dkAc2 (i := 31) rfl
def dkLc3 : List (Nat × Instr × Nat) := [(41, .iload_n 0, 1), (42, .iload_n 0, 1), (43, .bipush 16, 2), (45, .iushr, 1), (46, .iadd, 1), (47, .istore_n 0, 1), (48, .iload_n 0, 1), (49, .bipush 63, 2), (51, .iand, 1), (52, .ireturn, 1)]
set_option maxRecDepth 100000 in
theorem dkAc3 : ∀ q ∈ dkLc3, decode cJ6_bitCount_0f7a4 q.1 = .ok q.2 := by decide +kernel
theorem dJ6_bitCount_0f7a4_41 : decode cJ6_bitCount_0f7a4 41 = .ok (.iload_n 0, 1) := dk_of dkAc3 (i := 0) rfl
theorem dJ6_bitCount_0f7a4_42 : decode cJ6_bitCount_0f7a4 42 = .ok (.iload_n 0, 1) := dk_of dkAc3 (i := 1) rfl
theorem dJ6_bitCount_0f7a4_43 : decode cJ6_bitCount_0f7a4 43 = .ok (.bipush 16, 2) := dk_of dkAc3 (i := 2) rfl
theorem dJ6_bitCount_0f7a4_45 : decode cJ6_bitCount_0f7a4 45 = .ok (.iushr, 1) := dk_of dkAc3 (i := 3) rfl
theorem dJ6_bitCount_0f7a4_46 : decode cJ6_bitCount_0f7a4 46 = .ok (.iadd, 1) := dk_of dkAc3 (i := 4) rfl
theorem dJ6_bitCount_0f7a4_47 : decode cJ6_bitCount_0f7a4 47 = .ok (.istore_n 0, 1) := dk_of dkAc3 (i := 5) rfl
theorem dJ6_bitCount_0f7a4_48 : decode cJ6_bitCount_0f7a4 48 = .ok (.iload_n 0, 1) := dk_of dkAc3 (i := 6) rfl
theorem dJ6_bitCount_0f7a4_49 : decode cJ6_bitCount_0f7a4 49 = .ok (.bipush 63, 2) := dk_of dkAc3 (i := 7) rfl
theorem dJ6_bitCount_0f7a4_51 : decode cJ6_bitCount_0f7a4 51 = .ok (.iand, 1) := dk_of dkAc3 (i := 8) rfl
theorem dJ6_bitCount_0f7a4_52 : decode cJ6_bitCount_0f7a4 52 = .ok (.ireturn, 1) := dk_of dkAc3 (i := 9) rfl
def dkLc4 : List (Nat × Instr × Nat) := [(0, .iload_n 0, 1), (1, .ifCond .ge 8, 3), (4, .iload_n 0, 1), (5, .ineg, 1), (6, .goto 4, 3), (9, .iload_n 0, 1), (10, .ireturn, 1)]
set_option maxRecDepth 100000 in
theorem dkAc4 : ∀ q ∈ dkLc4, decode cJ9_abs_0f7a4 q.1 = .ok q.2 := by decide +kernel
theorem dJ9_abs_0f7a4_0 : decode cJ9_abs_0f7a4 0 = .ok (.iload_n 0, 1) := dk_of dkAc4 (i := 0) rfl
theorem dJ9_abs_0f7a4_1 : decode cJ9_abs_0f7a4 1 = .ok (.ifCond .ge 8, 3) := dk_of dkAc4 (i := 1) rfl
theorem dJ9_abs_0f7a4_4 : decode cJ9_abs_0f7a4 4 = .ok (.iload_n 0, 1) := dk_of dkAc4 (i := 2) rfl
theorem dJ9_abs_0f7a4_5 : decode cJ9_abs_0f7a4 5 = .ok (.ineg, 1) := dk_of dkAc4 (i := 3) rfl
theorem dJ9_abs_0f7a4_6 : decode cJ9_abs_0f7a4 6 = .ok (.goto 4, 3) := dk_of dkAc4 (i := 4) rfl
theorem dJ9_abs_0f7a4_9 : decode cJ9_abs_0f7a4 9 = .ok (.iload_n 0, 1) := dk_of dkAc4 (i := 5) rfl
theorem dJ9_abs_0f7a4_10 : decode cJ9_abs_0f7a4 10 = .ok (.ireturn, 1) := dk_of dkAc4 (i := 6) rfl
def dkLc5 : List (Nat × Instr × Nat) := [(0, .iload_n 0, 1), (1, .iload_n 1, 1), (2, .if_icmp .lt 7, 3), (5, .iload_n 0, 1), (6, .goto 4, 3), (9, .iload_n 1, 1), (10, .ireturn, 1)]
set_option maxRecDepth 100000 in
theorem dkAc5 : ∀ q ∈ dkLc5, decode cJ9_max_7cf53 q.1 = .ok q.2 := by decide +kernel
theorem dJ9_max_7cf53_0 : decode cJ9_max_7cf53 0 = .ok (.iload_n 0, 1) := dk_of dkAc5 (i := 0) rfl
theorem dJ9_max_7cf53_1 : decode cJ9_max_7cf53 1 = .ok (.iload_n 1, 1) := dk_of dkAc5 (i := 1) rfl
theorem dJ9_max_7cf53_2 : decode cJ9_max_7cf53 2 = .ok (.if_icmp .lt 7, 3) := dk_of dkAc5 (i := 2) rfl
theorem dJ9_max_7cf53_5 : decode cJ9_max_7cf53 5 = .ok (.iload_n 0, 1) := dk_of dkAc5 (i := 3) rfl
theorem dJ9_max_7cf53_6 : decode cJ9_max_7cf53 6 = .ok (.goto 4, 3) := dk_of dkAc5 (i := 4) rfl
theorem dJ9_max_7cf53_9 : decode cJ9_max_7cf53 9 = .ok (.iload_n 1, 1) := dk_of dkAc5 (i := 5) rfl
theorem dJ9_max_7cf53_10 : decode cJ9_max_7cf53 10 = .ok (.ireturn, 1) := dk_of dkAc5 (i := 6) rfl
def dkLc6 : List (Nat × Instr × Nat) := [(0, .iload_n 0, 1), (1, .iload_n 1, 1), (2, .if_icmp .gt 7, 3), (5, .iload_n 0, 1), (6, .goto 4, 3), (9, .iload_n 1, 1), (10, .ireturn, 1)]
set_option maxRecDepth 100000 in
theorem dkAc6 : ∀ q ∈ dkLc6, decode cJ9_min_7cf53 q.1 = .ok q.2 := by decide +kernel
theorem dJ9_min_7cf53_0 : decode cJ9_min_7cf53 0 = .ok (.iload_n 0, 1) := dk_of dkAc6 (i := 0) rfl
theorem dJ9_min_7cf53_1 : decode cJ9_min_7cf53 1 = .ok (.iload_n 1, 1) := dk_of dkAc6 (i := 1) rfl
theorem dJ9_min_7cf53_2 : decode cJ9_min_7cf53 2 = .ok (.if_icmp .gt 7, 3) := dk_of dkAc6 (i := 2) rfl
theorem dJ9_min_7cf53_5 : decode cJ9_min_7cf53 5 = .ok (.iload_n 0, 1) := dk_of dkAc6 (i := 3) rfl
theorem dJ9_min_7cf53_6 : decode cJ9_min_7cf53 6 = .ok (.goto 4, 3) := dk_of dkAc6 (i := 4) rfl
theorem dJ9_min_7cf53_9 : decode cJ9_min_7cf53 9 = .ok (.iload_n 1, 1) := dk_of dkAc6 (i := 5) rfl
theorem dJ9_min_7cf53_10 : decode cJ9_min_7cf53 10 = .ok (.ireturn, 1) := dk_of dkAc6 (i := 6) rfl
def dkLc7 : List (Nat × Instr × Nat) := [(0, .new 7, 3), (3, .dup, 1), (4, .invokespecial 9, 3), (7, .astore_n 1, 1), (8, .new 10, 3), (11, .dup, 1), (12, .invokespecial 12, 3), (15, .astore_n 2, 1), (16, .iconst 0, 1), (17, .istore_n 3, 1), (18, .iload_n 3, 1), (19, .aload_n 0, 1), (20, .arraylength, 1), (21, .iconst 5, 1), (22, .isub, 1), (23, .if_icmp .gt 967, 3), (26, .aload_n 0, 1), (27, .iload_n 3, 1), (28, .iaload, 1), (29, .bipush 31, 2), (31, .iand, 1), (32, .tableswitch 952 0 29 #[136, 159, 172, 185, 208, 241, 264, 287, 310, 343, 376, 419, 442, 455, 488, 521, 574, 597, 630, 673, 722, 745, 758, 791, 824, 857, 870, 883, 906, 929], 136), (168, .aload_n 1, 1), (169, .aload_n 0, 1), (170, .iload_n 3, 1), (171, .iconst 1, 1), (172, .iadd, 1), (173, .iaload, 1), (174, .invokevirtual 13, 3), (177, .pop, 1), (178, .aload_n 2, 1), (179, .aload_n 0, 1)]
set_option maxRecDepth 100000 in
theorem dkAc7 : ∀ q ∈ dkLc7, decode cL_law q.1 = .ok q.2 := by decide +kernel
theorem dL_law_0 : decode cL_law 0 = .ok (.new 7, 3) := dk_of dkAc7 (i := 0) rfl
theorem dL_law_3 : decode cL_law 3 = .ok (.dup, 1) := dk_of dkAc7 (i := 1) rfl
theorem dL_law_4 : decode cL_law 4 = .ok (.invokespecial 9, 3) := dk_of dkAc7 (i := 2) rfl
theorem dL_law_7 : decode cL_law 7 = .ok (.astore_n 1, 1) := dk_of dkAc7 (i := 3) rfl
theorem dL_law_8 : decode cL_law 8 = .ok (.new 10, 3) := dk_of dkAc7 (i := 4) rfl
theorem dL_law_11 : decode cL_law 11 = .ok (.dup, 1) := dk_of dkAc7 (i := 5) rfl
theorem dL_law_12 : decode cL_law 12 = .ok (.invokespecial 12, 3) := dk_of dkAc7 (i := 6) rfl
theorem dL_law_15 : decode cL_law 15 = .ok (.astore_n 2, 1) := dk_of dkAc7 (i := 7) rfl
theorem dL_law_16 : decode cL_law 16 = .ok (.iconst 0, 1) := dk_of dkAc7 (i := 8) rfl
theorem dL_law_17 : decode cL_law 17 = .ok (.istore_n 3, 1) := dk_of dkAc7 (i := 9) rfl
theorem dL_law_18 : decode cL_law 18 = .ok (.iload_n 3, 1) := dk_of dkAc7 (i := 10) rfl
theorem dL_law_19 : decode cL_law 19 = .ok (.aload_n 0, 1) := dk_of dkAc7 (i := 11) rfl
theorem dL_law_20 : decode cL_law 20 = .ok (.arraylength, 1) := dk_of dkAc7 (i := 12) rfl
theorem dL_law_21 : decode cL_law 21 = .ok (.iconst 5, 1) := dk_of dkAc7 (i := 13) rfl
theorem dL_law_22 : decode cL_law 22 = .ok (.isub, 1) := dk_of dkAc7 (i := 14) rfl
theorem dL_law_23 : decode cL_law 23 = .ok (.if_icmp .gt 967, 3) := dk_of dkAc7 (i := 15) rfl
theorem dL_law_26 : decode cL_law 26 = .ok (.aload_n 0, 1) := dk_of dkAc7 (i := 16) rfl
theorem dL_law_27 : decode cL_law 27 = .ok (.iload_n 3, 1) := dk_of dkAc7 (i := 17) rfl
theorem dL_law_28 : decode cL_law 28 = .ok (.iaload, 1) := dk_of dkAc7 (i := 18) rfl
theorem dL_law_29 : decode cL_law 29 = .ok (.bipush 31, 2) := dk_of dkAc7 (i := 19) rfl
theorem dL_law_31 : decode cL_law 31 = .ok (.iand, 1) := dk_of dkAc7 (i := 20) rfl
theorem dL_law_32 : decode cL_law 32 = .ok (.tableswitch 952 0 29 #[136, 159, 172, 185, 208, 241, 264, 287, 310, 343, 376, 419, 442, 455, 488, 521, 574, 597, 630, 673, 722, 745, 758, 791, 824, 857, 870, 883, 906, 929], 136) := dk_of dkAc7 (i := 21) rfl
theorem dL_law_168 : decode cL_law 168 = .ok (.aload_n 1, 1) := dk_of dkAc7 (i := 22) rfl
theorem dL_law_169 : decode cL_law 169 = .ok (.aload_n 0, 1) := dk_of dkAc7 (i := 23) rfl
theorem dL_law_170 : decode cL_law 170 = .ok (.iload_n 3, 1) := dk_of dkAc7 (i := 24) rfl
theorem dL_law_171 : decode cL_law 171 = .ok (.iconst 1, 1) := dk_of dkAc7 (i := 25) rfl
theorem dL_law_172 : decode cL_law 172 = .ok (.iadd, 1) := dk_of dkAc7 (i := 26) rfl
theorem dL_law_173 : decode cL_law 173 = .ok (.iaload, 1) := dk_of dkAc7 (i := 27) rfl
theorem dL_law_174 : decode cL_law 174 = .ok (.invokevirtual 13, 3) := dk_of dkAc7 (i := 28) rfl
theorem dL_law_177 : decode cL_law 177 = .ok (.pop, 1) := dk_of dkAc7 (i := 29) rfl
theorem dL_law_178 : decode cL_law 178 = .ok (.aload_n 2, 1) := dk_of dkAc7 (i := 30) rfl
theorem dL_law_179 : decode cL_law 179 = .ok (.aload_n 0, 1) := dk_of dkAc7 (i := 31) rfl
def dkLc8 : List (Nat × Instr × Nat) := [(180, .iload_n 3, 1), (181, .iconst 1, 1), (182, .iadd, 1), (183, .iaload, 1), (184, .invokevirtual 17, 3), (187, .pop, 1), (188, .goto 796, 3), (191, .aload_n 1, 1), (192, .invokevirtual 18, 3), (195, .pop, 1), (196, .aload_n 2, 1), (197, .invokevirtual 22, 3), (200, .pop, 1), (201, .goto 783, 3), (204, .aload_n 1, 1), (205, .invokevirtual 23, 3), (208, .pop, 1), (209, .aload_n 2, 1), (210, .invokevirtual 26, 3), (213, .pop, 1), (214, .goto 770, 3), (217, .aload_n 1, 1), (218, .aload_n 0, 1), (219, .iload_n 3, 1), (220, .iconst 1, 1), (221, .iadd, 1), (222, .iaload, 1), (223, .invokevirtual 27, 3), (226, .pop, 1), (227, .aload_n 2, 1), (228, .aload_n 0, 1), (229, .iload_n 3, 1)]
set_option maxRecDepth 100000 in
theorem dkAc8 : ∀ q ∈ dkLc8, decode cL_law q.1 = .ok q.2 := by decide +kernel
theorem dL_law_180 : decode cL_law 180 = .ok (.iload_n 3, 1) := dk_of dkAc8 (i := 0) rfl
theorem dL_law_181 : decode cL_law 181 = .ok (.iconst 1, 1) := dk_of dkAc8 (i := 1) rfl
theorem dL_law_182 : decode cL_law 182 = .ok (.iadd, 1) := dk_of dkAc8 (i := 2) rfl
theorem dL_law_183 : decode cL_law 183 = .ok (.iaload, 1) := dk_of dkAc8 (i := 3) rfl
theorem dL_law_184 : decode cL_law 184 = .ok (.invokevirtual 17, 3) := dk_of dkAc8 (i := 4) rfl
theorem dL_law_187 : decode cL_law 187 = .ok (.pop, 1) := dk_of dkAc8 (i := 5) rfl
theorem dL_law_188 : decode cL_law 188 = .ok (.goto 796, 3) := dk_of dkAc8 (i := 6) rfl
theorem dL_law_191 : decode cL_law 191 = .ok (.aload_n 1, 1) := dk_of dkAc8 (i := 7) rfl
theorem dL_law_192 : decode cL_law 192 = .ok (.invokevirtual 18, 3) := dk_of dkAc8 (i := 8) rfl
theorem dL_law_195 : decode cL_law 195 = .ok (.pop, 1) := dk_of dkAc8 (i := 9) rfl
theorem dL_law_196 : decode cL_law 196 = .ok (.aload_n 2, 1) := dk_of dkAc8 (i := 10) rfl
theorem dL_law_197 : decode cL_law 197 = .ok (.invokevirtual 22, 3) := dk_of dkAc8 (i := 11) rfl
theorem dL_law_200 : decode cL_law 200 = .ok (.pop, 1) := dk_of dkAc8 (i := 12) rfl
theorem dL_law_201 : decode cL_law 201 = .ok (.goto 783, 3) := dk_of dkAc8 (i := 13) rfl
theorem dL_law_204 : decode cL_law 204 = .ok (.aload_n 1, 1) := dk_of dkAc8 (i := 14) rfl
theorem dL_law_205 : decode cL_law 205 = .ok (.invokevirtual 23, 3) := dk_of dkAc8 (i := 15) rfl
theorem dL_law_208 : decode cL_law 208 = .ok (.pop, 1) := dk_of dkAc8 (i := 16) rfl
theorem dL_law_209 : decode cL_law 209 = .ok (.aload_n 2, 1) := dk_of dkAc8 (i := 17) rfl
theorem dL_law_210 : decode cL_law 210 = .ok (.invokevirtual 26, 3) := dk_of dkAc8 (i := 18) rfl
theorem dL_law_213 : decode cL_law 213 = .ok (.pop, 1) := dk_of dkAc8 (i := 19) rfl
theorem dL_law_214 : decode cL_law 214 = .ok (.goto 770, 3) := dk_of dkAc8 (i := 20) rfl
theorem dL_law_217 : decode cL_law 217 = .ok (.aload_n 1, 1) := dk_of dkAc8 (i := 21) rfl
theorem dL_law_218 : decode cL_law 218 = .ok (.aload_n 0, 1) := dk_of dkAc8 (i := 22) rfl
theorem dL_law_219 : decode cL_law 219 = .ok (.iload_n 3, 1) := dk_of dkAc8 (i := 23) rfl
theorem dL_law_220 : decode cL_law 220 = .ok (.iconst 1, 1) := dk_of dkAc8 (i := 24) rfl
theorem dL_law_221 : decode cL_law 221 = .ok (.iadd, 1) := dk_of dkAc8 (i := 25) rfl
theorem dL_law_222 : decode cL_law 222 = .ok (.iaload, 1) := dk_of dkAc8 (i := 26) rfl
theorem dL_law_223 : decode cL_law 223 = .ok (.invokevirtual 27, 3) := dk_of dkAc8 (i := 27) rfl
theorem dL_law_226 : decode cL_law 226 = .ok (.pop, 1) := dk_of dkAc8 (i := 28) rfl
theorem dL_law_227 : decode cL_law 227 = .ok (.aload_n 2, 1) := dk_of dkAc8 (i := 29) rfl
theorem dL_law_228 : decode cL_law 228 = .ok (.aload_n 0, 1) := dk_of dkAc8 (i := 30) rfl
theorem dL_law_229 : decode cL_law 229 = .ok (.iload_n 3, 1) := dk_of dkAc8 (i := 31) rfl
def dkLc9 : List (Nat × Instr × Nat) := [(230, .iconst 1, 1), (231, .iadd, 1), (232, .iaload, 1), (233, .invokevirtual 30, 3), (236, .pop, 1), (237, .goto 747, 3), (240, .aload_n 1, 1), (241, .aload_n 0, 1), (242, .iload_n 3, 1), (243, .iconst 1, 1), (244, .iadd, 1), (245, .iaload, 1), (246, .aload_n 0, 1), (247, .iload_n 3, 1), (248, .iconst 2, 1), (249, .iadd, 1), (250, .iaload, 1), (251, .invokevirtual 31, 3), (254, .pop, 1), (255, .aload_n 2, 1), (256, .aload_n 0, 1), (257, .iload_n 3, 1), (258, .iconst 1, 1), (259, .iadd, 1), (260, .iaload, 1), (261, .aload_n 0, 1), (262, .iload_n 3, 1), (263, .iconst 2, 1), (264, .iadd, 1), (265, .iaload, 1), (266, .invokevirtual 35, 3), (269, .pop, 1)]
set_option maxRecDepth 100000 in
theorem dkAc9 : ∀ q ∈ dkLc9, decode cL_law q.1 = .ok q.2 := by decide +kernel
theorem dL_law_230 : decode cL_law 230 = .ok (.iconst 1, 1) := dk_of dkAc9 (i := 0) rfl
theorem dL_law_231 : decode cL_law 231 = .ok (.iadd, 1) := dk_of dkAc9 (i := 1) rfl
theorem dL_law_232 : decode cL_law 232 = .ok (.iaload, 1) := dk_of dkAc9 (i := 2) rfl
theorem dL_law_233 : decode cL_law 233 = .ok (.invokevirtual 30, 3) := dk_of dkAc9 (i := 3) rfl
theorem dL_law_236 : decode cL_law 236 = .ok (.pop, 1) := dk_of dkAc9 (i := 4) rfl
theorem dL_law_237 : decode cL_law 237 = .ok (.goto 747, 3) := dk_of dkAc9 (i := 5) rfl
theorem dL_law_240 : decode cL_law 240 = .ok (.aload_n 1, 1) := dk_of dkAc9 (i := 6) rfl
theorem dL_law_241 : decode cL_law 241 = .ok (.aload_n 0, 1) := dk_of dkAc9 (i := 7) rfl
theorem dL_law_242 : decode cL_law 242 = .ok (.iload_n 3, 1) := dk_of dkAc9 (i := 8) rfl
theorem dL_law_243 : decode cL_law 243 = .ok (.iconst 1, 1) := dk_of dkAc9 (i := 9) rfl
theorem dL_law_244 : decode cL_law 244 = .ok (.iadd, 1) := dk_of dkAc9 (i := 10) rfl
theorem dL_law_245 : decode cL_law 245 = .ok (.iaload, 1) := dk_of dkAc9 (i := 11) rfl
theorem dL_law_246 : decode cL_law 246 = .ok (.aload_n 0, 1) := dk_of dkAc9 (i := 12) rfl
theorem dL_law_247 : decode cL_law 247 = .ok (.iload_n 3, 1) := dk_of dkAc9 (i := 13) rfl
theorem dL_law_248 : decode cL_law 248 = .ok (.iconst 2, 1) := dk_of dkAc9 (i := 14) rfl
theorem dL_law_249 : decode cL_law 249 = .ok (.iadd, 1) := dk_of dkAc9 (i := 15) rfl
theorem dL_law_250 : decode cL_law 250 = .ok (.iaload, 1) := dk_of dkAc9 (i := 16) rfl
theorem dL_law_251 : decode cL_law 251 = .ok (.invokevirtual 31, 3) := dk_of dkAc9 (i := 17) rfl
theorem dL_law_254 : decode cL_law 254 = .ok (.pop, 1) := dk_of dkAc9 (i := 18) rfl
theorem dL_law_255 : decode cL_law 255 = .ok (.aload_n 2, 1) := dk_of dkAc9 (i := 19) rfl
theorem dL_law_256 : decode cL_law 256 = .ok (.aload_n 0, 1) := dk_of dkAc9 (i := 20) rfl
theorem dL_law_257 : decode cL_law 257 = .ok (.iload_n 3, 1) := dk_of dkAc9 (i := 21) rfl
theorem dL_law_258 : decode cL_law 258 = .ok (.iconst 1, 1) := dk_of dkAc9 (i := 22) rfl
theorem dL_law_259 : decode cL_law 259 = .ok (.iadd, 1) := dk_of dkAc9 (i := 23) rfl
theorem dL_law_260 : decode cL_law 260 = .ok (.iaload, 1) := dk_of dkAc9 (i := 24) rfl
theorem dL_law_261 : decode cL_law 261 = .ok (.aload_n 0, 1) := dk_of dkAc9 (i := 25) rfl
theorem dL_law_262 : decode cL_law 262 = .ok (.iload_n 3, 1) := dk_of dkAc9 (i := 26) rfl
theorem dL_law_263 : decode cL_law 263 = .ok (.iconst 2, 1) := dk_of dkAc9 (i := 27) rfl
theorem dL_law_264 : decode cL_law 264 = .ok (.iadd, 1) := dk_of dkAc9 (i := 28) rfl
theorem dL_law_265 : decode cL_law 265 = .ok (.iaload, 1) := dk_of dkAc9 (i := 29) rfl
theorem dL_law_266 : decode cL_law 266 = .ok (.invokevirtual 35, 3) := dk_of dkAc9 (i := 30) rfl
theorem dL_law_269 : decode cL_law 269 = .ok (.pop, 1) := dk_of dkAc9 (i := 31) rfl
def dkLc10 : List (Nat × Instr × Nat) := [(270, .goto 714, 3), (273, .aload_n 1, 1), (274, .aload_n 0, 1), (275, .iload_n 3, 1), (276, .iconst 1, 1), (277, .iadd, 1), (278, .iaload, 1), (279, .invokevirtual 36, 3), (282, .pop, 1), (283, .aload_n 2, 1), (284, .aload_n 0, 1), (285, .iload_n 3, 1), (286, .iconst 1, 1), (287, .iadd, 1), (288, .iaload, 1), (289, .invokevirtual 39, 3), (292, .pop, 1), (293, .goto 691, 3), (296, .aload_n 1, 1), (297, .aload_n 0, 1), (298, .iload_n 3, 1), (299, .iconst 1, 1), (300, .iadd, 1), (301, .iaload, 1), (302, .invokevirtual 40, 3), (305, .pop, 1), (306, .aload_n 2, 1), (307, .aload_n 0, 1), (308, .iload_n 3, 1), (309, .iconst 1, 1), (310, .iadd, 1), (311, .iaload, 1)]
set_option maxRecDepth 100000 in
theorem dkAc10 : ∀ q ∈ dkLc10, decode cL_law q.1 = .ok q.2 := by decide +kernel
theorem dL_law_270 : decode cL_law 270 = .ok (.goto 714, 3) := dk_of dkAc10 (i := 0) rfl
theorem dL_law_273 : decode cL_law 273 = .ok (.aload_n 1, 1) := dk_of dkAc10 (i := 1) rfl
theorem dL_law_274 : decode cL_law 274 = .ok (.aload_n 0, 1) := dk_of dkAc10 (i := 2) rfl
theorem dL_law_275 : decode cL_law 275 = .ok (.iload_n 3, 1) := dk_of dkAc10 (i := 3) rfl
theorem dL_law_276 : decode cL_law 276 = .ok (.iconst 1, 1) := dk_of dkAc10 (i := 4) rfl
theorem dL_law_277 : decode cL_law 277 = .ok (.iadd, 1) := dk_of dkAc10 (i := 5) rfl
theorem dL_law_278 : decode cL_law 278 = .ok (.iaload, 1) := dk_of dkAc10 (i := 6) rfl
theorem dL_law_279 : decode cL_law 279 = .ok (.invokevirtual 36, 3) := dk_of dkAc10 (i := 7) rfl
theorem dL_law_282 : decode cL_law 282 = .ok (.pop, 1) := dk_of dkAc10 (i := 8) rfl
theorem dL_law_283 : decode cL_law 283 = .ok (.aload_n 2, 1) := dk_of dkAc10 (i := 9) rfl
theorem dL_law_284 : decode cL_law 284 = .ok (.aload_n 0, 1) := dk_of dkAc10 (i := 10) rfl
theorem dL_law_285 : decode cL_law 285 = .ok (.iload_n 3, 1) := dk_of dkAc10 (i := 11) rfl
theorem dL_law_286 : decode cL_law 286 = .ok (.iconst 1, 1) := dk_of dkAc10 (i := 12) rfl
theorem dL_law_287 : decode cL_law 287 = .ok (.iadd, 1) := dk_of dkAc10 (i := 13) rfl
theorem dL_law_288 : decode cL_law 288 = .ok (.iaload, 1) := dk_of dkAc10 (i := 14) rfl
theorem dL_law_289 : decode cL_law 289 = .ok (.invokevirtual 39, 3) := dk_of dkAc10 (i := 15) rfl
theorem dL_law_292 : decode cL_law 292 = .ok (.pop, 1) := dk_of dkAc10 (i := 16) rfl
theorem dL_law_293 : decode cL_law 293 = .ok (.goto 691, 3) := dk_of dkAc10 (i := 17) rfl
theorem dL_law_296 : decode cL_law 296 = .ok (.aload_n 1, 1) := dk_of dkAc10 (i := 18) rfl
theorem dL_law_297 : decode cL_law 297 = .ok (.aload_n 0, 1) := dk_of dkAc10 (i := 19) rfl
theorem dL_law_298 : decode cL_law 298 = .ok (.iload_n 3, 1) := dk_of dkAc10 (i := 20) rfl
theorem dL_law_299 : decode cL_law 299 = .ok (.iconst 1, 1) := dk_of dkAc10 (i := 21) rfl
theorem dL_law_300 : decode cL_law 300 = .ok (.iadd, 1) := dk_of dkAc10 (i := 22) rfl
theorem dL_law_301 : decode cL_law 301 = .ok (.iaload, 1) := dk_of dkAc10 (i := 23) rfl
theorem dL_law_302 : decode cL_law 302 = .ok (.invokevirtual 40, 3) := dk_of dkAc10 (i := 24) rfl
theorem dL_law_305 : decode cL_law 305 = .ok (.pop, 1) := dk_of dkAc10 (i := 25) rfl
theorem dL_law_306 : decode cL_law 306 = .ok (.aload_n 2, 1) := dk_of dkAc10 (i := 26) rfl
theorem dL_law_307 : decode cL_law 307 = .ok (.aload_n 0, 1) := dk_of dkAc10 (i := 27) rfl
theorem dL_law_308 : decode cL_law 308 = .ok (.iload_n 3, 1) := dk_of dkAc10 (i := 28) rfl
theorem dL_law_309 : decode cL_law 309 = .ok (.iconst 1, 1) := dk_of dkAc10 (i := 29) rfl
theorem dL_law_310 : decode cL_law 310 = .ok (.iadd, 1) := dk_of dkAc10 (i := 30) rfl
theorem dL_law_311 : decode cL_law 311 = .ok (.iaload, 1) := dk_of dkAc10 (i := 31) rfl
def dkLc11 : List (Nat × Instr × Nat) := [(312, .invokevirtual 43, 3), (315, .pop, 1), (316, .goto 668, 3), (319, .aload_n 1, 1), (320, .aload_n 0, 1), (321, .iload_n 3, 1), (322, .iconst 1, 1), (323, .iadd, 1), (324, .iaload, 1), (325, .invokevirtual 44, 3), (328, .pop, 1), (329, .aload_n 2, 1), (330, .aload_n 0, 1), (331, .iload_n 3, 1), (332, .iconst 1, 1), (333, .iadd, 1), (334, .iaload, 1), (335, .invokevirtual 47, 3), (338, .pop, 1), (339, .goto 645, 3), (342, .aload_n 1, 1), (343, .aload_n 0, 1), (344, .iload_n 3, 1), (345, .iconst 1, 1), (346, .iadd, 1), (347, .iaload, 1), (348, .aload_n 0, 1), (349, .iload_n 3, 1), (350, .iconst 2, 1), (351, .iadd, 1), (352, .iaload, 1), (353, .invokevirtual 48, 3)]
set_option maxRecDepth 100000 in
theorem dkAc11 : ∀ q ∈ dkLc11, decode cL_law q.1 = .ok q.2 := by decide +kernel
theorem dL_law_312 : decode cL_law 312 = .ok (.invokevirtual 43, 3) := dk_of dkAc11 (i := 0) rfl
theorem dL_law_315 : decode cL_law 315 = .ok (.pop, 1) := dk_of dkAc11 (i := 1) rfl
theorem dL_law_316 : decode cL_law 316 = .ok (.goto 668, 3) := dk_of dkAc11 (i := 2) rfl
theorem dL_law_319 : decode cL_law 319 = .ok (.aload_n 1, 1) := dk_of dkAc11 (i := 3) rfl
theorem dL_law_320 : decode cL_law 320 = .ok (.aload_n 0, 1) := dk_of dkAc11 (i := 4) rfl
theorem dL_law_321 : decode cL_law 321 = .ok (.iload_n 3, 1) := dk_of dkAc11 (i := 5) rfl
theorem dL_law_322 : decode cL_law 322 = .ok (.iconst 1, 1) := dk_of dkAc11 (i := 6) rfl
theorem dL_law_323 : decode cL_law 323 = .ok (.iadd, 1) := dk_of dkAc11 (i := 7) rfl
theorem dL_law_324 : decode cL_law 324 = .ok (.iaload, 1) := dk_of dkAc11 (i := 8) rfl
theorem dL_law_325 : decode cL_law 325 = .ok (.invokevirtual 44, 3) := dk_of dkAc11 (i := 9) rfl
theorem dL_law_328 : decode cL_law 328 = .ok (.pop, 1) := dk_of dkAc11 (i := 10) rfl
theorem dL_law_329 : decode cL_law 329 = .ok (.aload_n 2, 1) := dk_of dkAc11 (i := 11) rfl
theorem dL_law_330 : decode cL_law 330 = .ok (.aload_n 0, 1) := dk_of dkAc11 (i := 12) rfl
theorem dL_law_331 : decode cL_law 331 = .ok (.iload_n 3, 1) := dk_of dkAc11 (i := 13) rfl
theorem dL_law_332 : decode cL_law 332 = .ok (.iconst 1, 1) := dk_of dkAc11 (i := 14) rfl
theorem dL_law_333 : decode cL_law 333 = .ok (.iadd, 1) := dk_of dkAc11 (i := 15) rfl
theorem dL_law_334 : decode cL_law 334 = .ok (.iaload, 1) := dk_of dkAc11 (i := 16) rfl
theorem dL_law_335 : decode cL_law 335 = .ok (.invokevirtual 47, 3) := dk_of dkAc11 (i := 17) rfl
theorem dL_law_338 : decode cL_law 338 = .ok (.pop, 1) := dk_of dkAc11 (i := 18) rfl
theorem dL_law_339 : decode cL_law 339 = .ok (.goto 645, 3) := dk_of dkAc11 (i := 19) rfl
theorem dL_law_342 : decode cL_law 342 = .ok (.aload_n 1, 1) := dk_of dkAc11 (i := 20) rfl
theorem dL_law_343 : decode cL_law 343 = .ok (.aload_n 0, 1) := dk_of dkAc11 (i := 21) rfl
theorem dL_law_344 : decode cL_law 344 = .ok (.iload_n 3, 1) := dk_of dkAc11 (i := 22) rfl
theorem dL_law_345 : decode cL_law 345 = .ok (.iconst 1, 1) := dk_of dkAc11 (i := 23) rfl
theorem dL_law_346 : decode cL_law 346 = .ok (.iadd, 1) := dk_of dkAc11 (i := 24) rfl
theorem dL_law_347 : decode cL_law 347 = .ok (.iaload, 1) := dk_of dkAc11 (i := 25) rfl
theorem dL_law_348 : decode cL_law 348 = .ok (.aload_n 0, 1) := dk_of dkAc11 (i := 26) rfl
theorem dL_law_349 : decode cL_law 349 = .ok (.iload_n 3, 1) := dk_of dkAc11 (i := 27) rfl
theorem dL_law_350 : decode cL_law 350 = .ok (.iconst 2, 1) := dk_of dkAc11 (i := 28) rfl
theorem dL_law_351 : decode cL_law 351 = .ok (.iadd, 1) := dk_of dkAc11 (i := 29) rfl
theorem dL_law_352 : decode cL_law 352 = .ok (.iaload, 1) := dk_of dkAc11 (i := 30) rfl
theorem dL_law_353 : decode cL_law 353 = .ok (.invokevirtual 48, 3) := dk_of dkAc11 (i := 31) rfl
def dkLc12 : List (Nat × Instr × Nat) := [(356, .pop, 1), (357, .aload_n 2, 1), (358, .aload_n 0, 1), (359, .iload_n 3, 1), (360, .iconst 1, 1), (361, .iadd, 1), (362, .iaload, 1), (363, .aload_n 0, 1), (364, .iload_n 3, 1), (365, .iconst 2, 1), (366, .iadd, 1), (367, .iaload, 1), (368, .invokevirtual 51, 3), (371, .pop, 1), (372, .goto 612, 3), (375, .aload_n 1, 1), (376, .aload_n 0, 1), (377, .iload_n 3, 1), (378, .iconst 1, 1), (379, .iadd, 1), (380, .iaload, 1), (381, .aload_n 0, 1), (382, .iload_n 3, 1), (383, .iconst 2, 1), (384, .iadd, 1), (385, .iaload, 1), (386, .invokevirtual 52, 3), (389, .pop, 1), (390, .aload_n 2, 1), (391, .aload_n 0, 1), (392, .iload_n 3, 1), (393, .iconst 1, 1)]
set_option maxRecDepth 100000 in
theorem dkAc12 : ∀ q ∈ dkLc12, decode cL_law q.1 = .ok q.2 := by decide +kernel
theorem dL_law_356 : decode cL_law 356 = .ok (.pop, 1) := dk_of dkAc12 (i := 0) rfl
theorem dL_law_357 : decode cL_law 357 = .ok (.aload_n 2, 1) := dk_of dkAc12 (i := 1) rfl
theorem dL_law_358 : decode cL_law 358 = .ok (.aload_n 0, 1) := dk_of dkAc12 (i := 2) rfl
theorem dL_law_359 : decode cL_law 359 = .ok (.iload_n 3, 1) := dk_of dkAc12 (i := 3) rfl
theorem dL_law_360 : decode cL_law 360 = .ok (.iconst 1, 1) := dk_of dkAc12 (i := 4) rfl
theorem dL_law_361 : decode cL_law 361 = .ok (.iadd, 1) := dk_of dkAc12 (i := 5) rfl
theorem dL_law_362 : decode cL_law 362 = .ok (.iaload, 1) := dk_of dkAc12 (i := 6) rfl
theorem dL_law_363 : decode cL_law 363 = .ok (.aload_n 0, 1) := dk_of dkAc12 (i := 7) rfl
theorem dL_law_364 : decode cL_law 364 = .ok (.iload_n 3, 1) := dk_of dkAc12 (i := 8) rfl
theorem dL_law_365 : decode cL_law 365 = .ok (.iconst 2, 1) := dk_of dkAc12 (i := 9) rfl
theorem dL_law_366 : decode cL_law 366 = .ok (.iadd, 1) := dk_of dkAc12 (i := 10) rfl
theorem dL_law_367 : decode cL_law 367 = .ok (.iaload, 1) := dk_of dkAc12 (i := 11) rfl
theorem dL_law_368 : decode cL_law 368 = .ok (.invokevirtual 51, 3) := dk_of dkAc12 (i := 12) rfl
theorem dL_law_371 : decode cL_law 371 = .ok (.pop, 1) := dk_of dkAc12 (i := 13) rfl
theorem dL_law_372 : decode cL_law 372 = .ok (.goto 612, 3) := dk_of dkAc12 (i := 14) rfl
theorem dL_law_375 : decode cL_law 375 = .ok (.aload_n 1, 1) := dk_of dkAc12 (i := 15) rfl
theorem dL_law_376 : decode cL_law 376 = .ok (.aload_n 0, 1) := dk_of dkAc12 (i := 16) rfl
theorem dL_law_377 : decode cL_law 377 = .ok (.iload_n 3, 1) := dk_of dkAc12 (i := 17) rfl
theorem dL_law_378 : decode cL_law 378 = .ok (.iconst 1, 1) := dk_of dkAc12 (i := 18) rfl
theorem dL_law_379 : decode cL_law 379 = .ok (.iadd, 1) := dk_of dkAc12 (i := 19) rfl
theorem dL_law_380 : decode cL_law 380 = .ok (.iaload, 1) := dk_of dkAc12 (i := 20) rfl
theorem dL_law_381 : decode cL_law 381 = .ok (.aload_n 0, 1) := dk_of dkAc12 (i := 21) rfl
theorem dL_law_382 : decode cL_law 382 = .ok (.iload_n 3, 1) := dk_of dkAc12 (i := 22) rfl
theorem dL_law_383 : decode cL_law 383 = .ok (.iconst 2, 1) := dk_of dkAc12 (i := 23) rfl
theorem dL_law_384 : decode cL_law 384 = .ok (.iadd, 1) := dk_of dkAc12 (i := 24) rfl
theorem dL_law_385 : decode cL_law 385 = .ok (.iaload, 1) := dk_of dkAc12 (i := 25) rfl
theorem dL_law_386 : decode cL_law 386 = .ok (.invokevirtual 52, 3) := dk_of dkAc12 (i := 26) rfl
theorem dL_law_389 : decode cL_law 389 = .ok (.pop, 1) := dk_of dkAc12 (i := 27) rfl
theorem dL_law_390 : decode cL_law 390 = .ok (.aload_n 2, 1) := dk_of dkAc12 (i := 28) rfl
theorem dL_law_391 : decode cL_law 391 = .ok (.aload_n 0, 1) := dk_of dkAc12 (i := 29) rfl
theorem dL_law_392 : decode cL_law 392 = .ok (.iload_n 3, 1) := dk_of dkAc12 (i := 30) rfl
theorem dL_law_393 : decode cL_law 393 = .ok (.iconst 1, 1) := dk_of dkAc12 (i := 31) rfl
def dkLc13 : List (Nat × Instr × Nat) := [(394, .iadd, 1), (395, .iaload, 1), (396, .aload_n 0, 1), (397, .iload_n 3, 1), (398, .iconst 2, 1), (399, .iadd, 1), (400, .iaload, 1), (401, .invokevirtual 55, 3), (404, .pop, 1), (405, .goto 579, 3), (408, .aload_n 1, 1), (409, .aload_n 0, 1), (410, .iload_n 3, 1), (411, .iconst 1, 1), (412, .iadd, 1), (413, .iaload, 1), (414, .aload_n 0, 1), (415, .iload_n 3, 1), (416, .iconst 2, 1), (417, .iadd, 1), (418, .iaload, 1), (419, .aload_n 0, 1), (420, .iload_n 3, 1), (421, .iconst 3, 1), (422, .iadd, 1), (423, .iaload, 1), (424, .invokevirtual 56, 3), (427, .pop, 1), (428, .aload_n 2, 1), (429, .aload_n 0, 1), (430, .iload_n 3, 1), (431, .iconst 1, 1)]
set_option maxRecDepth 100000 in
theorem dkAc13 : ∀ q ∈ dkLc13, decode cL_law q.1 = .ok q.2 := by decide +kernel
theorem dL_law_394 : decode cL_law 394 = .ok (.iadd, 1) := dk_of dkAc13 (i := 0) rfl
theorem dL_law_395 : decode cL_law 395 = .ok (.iaload, 1) := dk_of dkAc13 (i := 1) rfl
theorem dL_law_396 : decode cL_law 396 = .ok (.aload_n 0, 1) := dk_of dkAc13 (i := 2) rfl
theorem dL_law_397 : decode cL_law 397 = .ok (.iload_n 3, 1) := dk_of dkAc13 (i := 3) rfl
theorem dL_law_398 : decode cL_law 398 = .ok (.iconst 2, 1) := dk_of dkAc13 (i := 4) rfl
theorem dL_law_399 : decode cL_law 399 = .ok (.iadd, 1) := dk_of dkAc13 (i := 5) rfl
theorem dL_law_400 : decode cL_law 400 = .ok (.iaload, 1) := dk_of dkAc13 (i := 6) rfl
theorem dL_law_401 : decode cL_law 401 = .ok (.invokevirtual 55, 3) := dk_of dkAc13 (i := 7) rfl
theorem dL_law_404 : decode cL_law 404 = .ok (.pop, 1) := dk_of dkAc13 (i := 8) rfl
theorem dL_law_405 : decode cL_law 405 = .ok (.goto 579, 3) := dk_of dkAc13 (i := 9) rfl
theorem dL_law_408 : decode cL_law 408 = .ok (.aload_n 1, 1) := dk_of dkAc13 (i := 10) rfl
theorem dL_law_409 : decode cL_law 409 = .ok (.aload_n 0, 1) := dk_of dkAc13 (i := 11) rfl
theorem dL_law_410 : decode cL_law 410 = .ok (.iload_n 3, 1) := dk_of dkAc13 (i := 12) rfl
theorem dL_law_411 : decode cL_law 411 = .ok (.iconst 1, 1) := dk_of dkAc13 (i := 13) rfl
theorem dL_law_412 : decode cL_law 412 = .ok (.iadd, 1) := dk_of dkAc13 (i := 14) rfl
theorem dL_law_413 : decode cL_law 413 = .ok (.iaload, 1) := dk_of dkAc13 (i := 15) rfl
theorem dL_law_414 : decode cL_law 414 = .ok (.aload_n 0, 1) := dk_of dkAc13 (i := 16) rfl
theorem dL_law_415 : decode cL_law 415 = .ok (.iload_n 3, 1) := dk_of dkAc13 (i := 17) rfl
theorem dL_law_416 : decode cL_law 416 = .ok (.iconst 2, 1) := dk_of dkAc13 (i := 18) rfl
theorem dL_law_417 : decode cL_law 417 = .ok (.iadd, 1) := dk_of dkAc13 (i := 19) rfl
theorem dL_law_418 : decode cL_law 418 = .ok (.iaload, 1) := dk_of dkAc13 (i := 20) rfl
theorem dL_law_419 : decode cL_law 419 = .ok (.aload_n 0, 1) := dk_of dkAc13 (i := 21) rfl
theorem dL_law_420 : decode cL_law 420 = .ok (.iload_n 3, 1) := dk_of dkAc13 (i := 22) rfl
theorem dL_law_421 : decode cL_law 421 = .ok (.iconst 3, 1) := dk_of dkAc13 (i := 23) rfl
theorem dL_law_422 : decode cL_law 422 = .ok (.iadd, 1) := dk_of dkAc13 (i := 24) rfl
theorem dL_law_423 : decode cL_law 423 = .ok (.iaload, 1) := dk_of dkAc13 (i := 25) rfl
theorem dL_law_424 : decode cL_law 424 = .ok (.invokevirtual 56, 3) := dk_of dkAc13 (i := 26) rfl
theorem dL_law_427 : decode cL_law 427 = .ok (.pop, 1) := dk_of dkAc13 (i := 27) rfl
theorem dL_law_428 : decode cL_law 428 = .ok (.aload_n 2, 1) := dk_of dkAc13 (i := 28) rfl
theorem dL_law_429 : decode cL_law 429 = .ok (.aload_n 0, 1) := dk_of dkAc13 (i := 29) rfl
theorem dL_law_430 : decode cL_law 430 = .ok (.iload_n 3, 1) := dk_of dkAc13 (i := 30) rfl
theorem dL_law_431 : decode cL_law 431 = .ok (.iconst 1, 1) := dk_of dkAc13 (i := 31) rfl
def dkLc14 : List (Nat × Instr × Nat) := [(432, .iadd, 1), (433, .iaload, 1), (434, .aload_n 0, 1), (435, .iload_n 3, 1), (436, .iconst 2, 1), (437, .iadd, 1), (438, .iaload, 1), (439, .aload_n 0, 1), (440, .iload_n 3, 1), (441, .iconst 3, 1), (442, .iadd, 1), (443, .iaload, 1), (444, .invokevirtual 60, 3), (447, .pop, 1), (448, .goto 536, 3), (451, .aload_n 1, 1), (452, .aload_n 0, 1), (453, .iload_n 3, 1), (454, .iconst 1, 1), (455, .iadd, 1), (456, .iaload, 1), (457, .invokevirtual 61, 3), (460, .pop, 1), (461, .aload_n 2, 1), (462, .aload_n 0, 1), (463, .iload_n 3, 1), (464, .iconst 1, 1), (465, .iadd, 1), (466, .iaload, 1), (467, .invokevirtual 64, 3), (470, .pop, 1), (471, .goto 513, 3)]
set_option maxRecDepth 100000 in
theorem dkAc14 : ∀ q ∈ dkLc14, decode cL_law q.1 = .ok q.2 := by decide +kernel
theorem dL_law_432 : decode cL_law 432 = .ok (.iadd, 1) := dk_of dkAc14 (i := 0) rfl
theorem dL_law_433 : decode cL_law 433 = .ok (.iaload, 1) := dk_of dkAc14 (i := 1) rfl
theorem dL_law_434 : decode cL_law 434 = .ok (.aload_n 0, 1) := dk_of dkAc14 (i := 2) rfl
theorem dL_law_435 : decode cL_law 435 = .ok (.iload_n 3, 1) := dk_of dkAc14 (i := 3) rfl
theorem dL_law_436 : decode cL_law 436 = .ok (.iconst 2, 1) := dk_of dkAc14 (i := 4) rfl
theorem dL_law_437 : decode cL_law 437 = .ok (.iadd, 1) := dk_of dkAc14 (i := 5) rfl
theorem dL_law_438 : decode cL_law 438 = .ok (.iaload, 1) := dk_of dkAc14 (i := 6) rfl
theorem dL_law_439 : decode cL_law 439 = .ok (.aload_n 0, 1) := dk_of dkAc14 (i := 7) rfl
theorem dL_law_440 : decode cL_law 440 = .ok (.iload_n 3, 1) := dk_of dkAc14 (i := 8) rfl
theorem dL_law_441 : decode cL_law 441 = .ok (.iconst 3, 1) := dk_of dkAc14 (i := 9) rfl
theorem dL_law_442 : decode cL_law 442 = .ok (.iadd, 1) := dk_of dkAc14 (i := 10) rfl
theorem dL_law_443 : decode cL_law 443 = .ok (.iaload, 1) := dk_of dkAc14 (i := 11) rfl
theorem dL_law_444 : decode cL_law 444 = .ok (.invokevirtual 60, 3) := dk_of dkAc14 (i := 12) rfl
theorem dL_law_447 : decode cL_law 447 = .ok (.pop, 1) := dk_of dkAc14 (i := 13) rfl
theorem dL_law_448 : decode cL_law 448 = .ok (.goto 536, 3) := dk_of dkAc14 (i := 14) rfl
theorem dL_law_451 : decode cL_law 451 = .ok (.aload_n 1, 1) := dk_of dkAc14 (i := 15) rfl
theorem dL_law_452 : decode cL_law 452 = .ok (.aload_n 0, 1) := dk_of dkAc14 (i := 16) rfl
theorem dL_law_453 : decode cL_law 453 = .ok (.iload_n 3, 1) := dk_of dkAc14 (i := 17) rfl
theorem dL_law_454 : decode cL_law 454 = .ok (.iconst 1, 1) := dk_of dkAc14 (i := 18) rfl
theorem dL_law_455 : decode cL_law 455 = .ok (.iadd, 1) := dk_of dkAc14 (i := 19) rfl
theorem dL_law_456 : decode cL_law 456 = .ok (.iaload, 1) := dk_of dkAc14 (i := 20) rfl
theorem dL_law_457 : decode cL_law 457 = .ok (.invokevirtual 61, 3) := dk_of dkAc14 (i := 21) rfl
theorem dL_law_460 : decode cL_law 460 = .ok (.pop, 1) := dk_of dkAc14 (i := 22) rfl
theorem dL_law_461 : decode cL_law 461 = .ok (.aload_n 2, 1) := dk_of dkAc14 (i := 23) rfl
theorem dL_law_462 : decode cL_law 462 = .ok (.aload_n 0, 1) := dk_of dkAc14 (i := 24) rfl
theorem dL_law_463 : decode cL_law 463 = .ok (.iload_n 3, 1) := dk_of dkAc14 (i := 25) rfl
theorem dL_law_464 : decode cL_law 464 = .ok (.iconst 1, 1) := dk_of dkAc14 (i := 26) rfl
theorem dL_law_465 : decode cL_law 465 = .ok (.iadd, 1) := dk_of dkAc14 (i := 27) rfl
theorem dL_law_466 : decode cL_law 466 = .ok (.iaload, 1) := dk_of dkAc14 (i := 28) rfl
theorem dL_law_467 : decode cL_law 467 = .ok (.invokevirtual 64, 3) := dk_of dkAc14 (i := 29) rfl
theorem dL_law_470 : decode cL_law 470 = .ok (.pop, 1) := dk_of dkAc14 (i := 30) rfl
theorem dL_law_471 : decode cL_law 471 = .ok (.goto 513, 3) := dk_of dkAc14 (i := 31) rfl
def dkLc15 : List (Nat × Instr × Nat) := [(474, .aload_n 1, 1), (475, .invokevirtual 65, 3), (478, .pop, 1), (479, .aload_n 2, 1), (480, .invokevirtual 68, 3), (483, .pop, 1), (484, .goto 500, 3), (487, .aload_n 1, 1), (488, .aload_n 0, 1), (489, .iload_n 3, 1), (490, .iconst 1, 1), (491, .iadd, 1), (492, .iaload, 1), (493, .aload_n 0, 1), (494, .iload_n 3, 1), (495, .iconst 2, 1), (496, .iadd, 1), (497, .iaload, 1), (498, .invokevirtual 69, 3), (501, .pop, 1), (502, .aload_n 2, 1), (503, .aload_n 0, 1), (504, .iload_n 3, 1), (505, .iconst 1, 1), (506, .iadd, 1), (507, .iaload, 1), (508, .aload_n 0, 1), (509, .iload_n 3, 1), (510, .iconst 2, 1), (511, .iadd, 1), (512, .iaload, 1), (513, .invokevirtual 72, 3)]
set_option maxRecDepth 100000 in
theorem dkAc15 : ∀ q ∈ dkLc15, decode cL_law q.1 = .ok q.2 := by decide +kernel
theorem dL_law_474 : decode cL_law 474 = .ok (.aload_n 1, 1) := dk_of dkAc15 (i := 0) rfl
theorem dL_law_475 : decode cL_law 475 = .ok (.invokevirtual 65, 3) := dk_of dkAc15 (i := 1) rfl
theorem dL_law_478 : decode cL_law 478 = .ok (.pop, 1) := dk_of dkAc15 (i := 2) rfl
theorem dL_law_479 : decode cL_law 479 = .ok (.aload_n 2, 1) := dk_of dkAc15 (i := 3) rfl
theorem dL_law_480 : decode cL_law 480 = .ok (.invokevirtual 68, 3) := dk_of dkAc15 (i := 4) rfl
theorem dL_law_483 : decode cL_law 483 = .ok (.pop, 1) := dk_of dkAc15 (i := 5) rfl
theorem dL_law_484 : decode cL_law 484 = .ok (.goto 500, 3) := dk_of dkAc15 (i := 6) rfl
theorem dL_law_487 : decode cL_law 487 = .ok (.aload_n 1, 1) := dk_of dkAc15 (i := 7) rfl
theorem dL_law_488 : decode cL_law 488 = .ok (.aload_n 0, 1) := dk_of dkAc15 (i := 8) rfl
theorem dL_law_489 : decode cL_law 489 = .ok (.iload_n 3, 1) := dk_of dkAc15 (i := 9) rfl
theorem dL_law_490 : decode cL_law 490 = .ok (.iconst 1, 1) := dk_of dkAc15 (i := 10) rfl
theorem dL_law_491 : decode cL_law 491 = .ok (.iadd, 1) := dk_of dkAc15 (i := 11) rfl
theorem dL_law_492 : decode cL_law 492 = .ok (.iaload, 1) := dk_of dkAc15 (i := 12) rfl
theorem dL_law_493 : decode cL_law 493 = .ok (.aload_n 0, 1) := dk_of dkAc15 (i := 13) rfl
theorem dL_law_494 : decode cL_law 494 = .ok (.iload_n 3, 1) := dk_of dkAc15 (i := 14) rfl
theorem dL_law_495 : decode cL_law 495 = .ok (.iconst 2, 1) := dk_of dkAc15 (i := 15) rfl
theorem dL_law_496 : decode cL_law 496 = .ok (.iadd, 1) := dk_of dkAc15 (i := 16) rfl
theorem dL_law_497 : decode cL_law 497 = .ok (.iaload, 1) := dk_of dkAc15 (i := 17) rfl
theorem dL_law_498 : decode cL_law 498 = .ok (.invokevirtual 69, 3) := dk_of dkAc15 (i := 18) rfl
theorem dL_law_501 : decode cL_law 501 = .ok (.pop, 1) := dk_of dkAc15 (i := 19) rfl
theorem dL_law_502 : decode cL_law 502 = .ok (.aload_n 2, 1) := dk_of dkAc15 (i := 20) rfl
theorem dL_law_503 : decode cL_law 503 = .ok (.aload_n 0, 1) := dk_of dkAc15 (i := 21) rfl
theorem dL_law_504 : decode cL_law 504 = .ok (.iload_n 3, 1) := dk_of dkAc15 (i := 22) rfl
theorem dL_law_505 : decode cL_law 505 = .ok (.iconst 1, 1) := dk_of dkAc15 (i := 23) rfl
theorem dL_law_506 : decode cL_law 506 = .ok (.iadd, 1) := dk_of dkAc15 (i := 24) rfl
theorem dL_law_507 : decode cL_law 507 = .ok (.iaload, 1) := dk_of dkAc15 (i := 25) rfl
theorem dL_law_508 : decode cL_law 508 = .ok (.aload_n 0, 1) := dk_of dkAc15 (i := 26) rfl
theorem dL_law_509 : decode cL_law 509 = .ok (.iload_n 3, 1) := dk_of dkAc15 (i := 27) rfl
theorem dL_law_510 : decode cL_law 510 = .ok (.iconst 2, 1) := dk_of dkAc15 (i := 28) rfl
theorem dL_law_511 : decode cL_law 511 = .ok (.iadd, 1) := dk_of dkAc15 (i := 29) rfl
theorem dL_law_512 : decode cL_law 512 = .ok (.iaload, 1) := dk_of dkAc15 (i := 30) rfl
theorem dL_law_513 : decode cL_law 513 = .ok (.invokevirtual 72, 3) := dk_of dkAc15 (i := 31) rfl
def dkLc16 : List (Nat × Instr × Nat) := [(516, .pop, 1), (517, .goto 467, 3), (520, .aload_n 1, 1), (521, .aload_n 0, 1), (522, .iload_n 3, 1), (523, .iconst 1, 1), (524, .iadd, 1), (525, .iaload, 1), (526, .aload_n 0, 1), (527, .iload_n 3, 1), (528, .iconst 2, 1), (529, .iadd, 1), (530, .iaload, 1), (531, .invokevirtual 73, 3), (534, .pop, 1), (535, .aload_n 2, 1), (536, .aload_n 0, 1), (537, .iload_n 3, 1), (538, .iconst 1, 1), (539, .iadd, 1), (540, .iaload, 1), (541, .aload_n 0, 1), (542, .iload_n 3, 1), (543, .iconst 2, 1), (544, .iadd, 1), (545, .iaload, 1), (546, .invokevirtual 76, 3), (549, .pop, 1), (550, .goto 434, 3), (553, .aload_n 1, 1), (554, .aload_n 0, 1), (555, .iload_n 3, 1)]
set_option maxRecDepth 100000 in
theorem dkAc16 : ∀ q ∈ dkLc16, decode cL_law q.1 = .ok q.2 := by decide +kernel
theorem dL_law_516 : decode cL_law 516 = .ok (.pop, 1) := dk_of dkAc16 (i := 0) rfl
theorem dL_law_517 : decode cL_law 517 = .ok (.goto 467, 3) := dk_of dkAc16 (i := 1) rfl
theorem dL_law_520 : decode cL_law 520 = .ok (.aload_n 1, 1) := dk_of dkAc16 (i := 2) rfl
theorem dL_law_521 : decode cL_law 521 = .ok (.aload_n 0, 1) := dk_of dkAc16 (i := 3) rfl
theorem dL_law_522 : decode cL_law 522 = .ok (.iload_n 3, 1) := dk_of dkAc16 (i := 4) rfl
theorem dL_law_523 : decode cL_law 523 = .ok (.iconst 1, 1) := dk_of dkAc16 (i := 5) rfl
theorem dL_law_524 : decode cL_law 524 = .ok (.iadd, 1) := dk_of dkAc16 (i := 6) rfl
theorem dL_law_525 : decode cL_law 525 = .ok (.iaload, 1) := dk_of dkAc16 (i := 7) rfl
theorem dL_law_526 : decode cL_law 526 = .ok (.aload_n 0, 1) := dk_of dkAc16 (i := 8) rfl
theorem dL_law_527 : decode cL_law 527 = .ok (.iload_n 3, 1) := dk_of dkAc16 (i := 9) rfl
theorem dL_law_528 : decode cL_law 528 = .ok (.iconst 2, 1) := dk_of dkAc16 (i := 10) rfl
theorem dL_law_529 : decode cL_law 529 = .ok (.iadd, 1) := dk_of dkAc16 (i := 11) rfl
theorem dL_law_530 : decode cL_law 530 = .ok (.iaload, 1) := dk_of dkAc16 (i := 12) rfl
theorem dL_law_531 : decode cL_law 531 = .ok (.invokevirtual 73, 3) := dk_of dkAc16 (i := 13) rfl
theorem dL_law_534 : decode cL_law 534 = .ok (.pop, 1) := dk_of dkAc16 (i := 14) rfl
theorem dL_law_535 : decode cL_law 535 = .ok (.aload_n 2, 1) := dk_of dkAc16 (i := 15) rfl
theorem dL_law_536 : decode cL_law 536 = .ok (.aload_n 0, 1) := dk_of dkAc16 (i := 16) rfl
theorem dL_law_537 : decode cL_law 537 = .ok (.iload_n 3, 1) := dk_of dkAc16 (i := 17) rfl
theorem dL_law_538 : decode cL_law 538 = .ok (.iconst 1, 1) := dk_of dkAc16 (i := 18) rfl
theorem dL_law_539 : decode cL_law 539 = .ok (.iadd, 1) := dk_of dkAc16 (i := 19) rfl
theorem dL_law_540 : decode cL_law 540 = .ok (.iaload, 1) := dk_of dkAc16 (i := 20) rfl
theorem dL_law_541 : decode cL_law 541 = .ok (.aload_n 0, 1) := dk_of dkAc16 (i := 21) rfl
theorem dL_law_542 : decode cL_law 542 = .ok (.iload_n 3, 1) := dk_of dkAc16 (i := 22) rfl
theorem dL_law_543 : decode cL_law 543 = .ok (.iconst 2, 1) := dk_of dkAc16 (i := 23) rfl
theorem dL_law_544 : decode cL_law 544 = .ok (.iadd, 1) := dk_of dkAc16 (i := 24) rfl
theorem dL_law_545 : decode cL_law 545 = .ok (.iaload, 1) := dk_of dkAc16 (i := 25) rfl
theorem dL_law_546 : decode cL_law 546 = .ok (.invokevirtual 76, 3) := dk_of dkAc16 (i := 26) rfl
theorem dL_law_549 : decode cL_law 549 = .ok (.pop, 1) := dk_of dkAc16 (i := 27) rfl
theorem dL_law_550 : decode cL_law 550 = .ok (.goto 434, 3) := dk_of dkAc16 (i := 28) rfl
theorem dL_law_553 : decode cL_law 553 = .ok (.aload_n 1, 1) := dk_of dkAc16 (i := 29) rfl
theorem dL_law_554 : decode cL_law 554 = .ok (.aload_n 0, 1) := dk_of dkAc16 (i := 30) rfl
theorem dL_law_555 : decode cL_law 555 = .ok (.iload_n 3, 1) := dk_of dkAc16 (i := 31) rfl
def dkLc17 : List (Nat × Instr × Nat) := [(556, .iconst 1, 1), (557, .iadd, 1), (558, .iaload, 1), (559, .aload_n 0, 1), (560, .iload_n 3, 1), (561, .iconst 2, 1), (562, .iadd, 1), (563, .iaload, 1), (564, .aload_n 0, 1), (565, .iload_n 3, 1), (566, .iconst 3, 1), (567, .iadd, 1), (568, .iaload, 1), (569, .aload_n 0, 1), (570, .iload_n 3, 1), (571, .iconst 4, 1), (572, .iadd, 1), (573, .iaload, 1), (574, .invokevirtual 77, 3), (577, .pop, 1), (578, .aload_n 2, 1), (579, .aload_n 0, 1), (580, .iload_n 3, 1), (581, .iconst 1, 1), (582, .iadd, 1), (583, .iaload, 1), (584, .aload_n 0, 1), (585, .iload_n 3, 1), (586, .iconst 2, 1), (587, .iadd, 1), (588, .iaload, 1), (589, .aload_n 0, 1)]
set_option maxRecDepth 100000 in
theorem dkAc17 : ∀ q ∈ dkLc17, decode cL_law q.1 = .ok q.2 := by decide +kernel
theorem dL_law_556 : decode cL_law 556 = .ok (.iconst 1, 1) := dk_of dkAc17 (i := 0) rfl
theorem dL_law_557 : decode cL_law 557 = .ok (.iadd, 1) := dk_of dkAc17 (i := 1) rfl
theorem dL_law_558 : decode cL_law 558 = .ok (.iaload, 1) := dk_of dkAc17 (i := 2) rfl
theorem dL_law_559 : decode cL_law 559 = .ok (.aload_n 0, 1) := dk_of dkAc17 (i := 3) rfl
theorem dL_law_560 : decode cL_law 560 = .ok (.iload_n 3, 1) := dk_of dkAc17 (i := 4) rfl
theorem dL_law_561 : decode cL_law 561 = .ok (.iconst 2, 1) := dk_of dkAc17 (i := 5) rfl
theorem dL_law_562 : decode cL_law 562 = .ok (.iadd, 1) := dk_of dkAc17 (i := 6) rfl
theorem dL_law_563 : decode cL_law 563 = .ok (.iaload, 1) := dk_of dkAc17 (i := 7) rfl
theorem dL_law_564 : decode cL_law 564 = .ok (.aload_n 0, 1) := dk_of dkAc17 (i := 8) rfl
theorem dL_law_565 : decode cL_law 565 = .ok (.iload_n 3, 1) := dk_of dkAc17 (i := 9) rfl
theorem dL_law_566 : decode cL_law 566 = .ok (.iconst 3, 1) := dk_of dkAc17 (i := 10) rfl
theorem dL_law_567 : decode cL_law 567 = .ok (.iadd, 1) := dk_of dkAc17 (i := 11) rfl
theorem dL_law_568 : decode cL_law 568 = .ok (.iaload, 1) := dk_of dkAc17 (i := 12) rfl
theorem dL_law_569 : decode cL_law 569 = .ok (.aload_n 0, 1) := dk_of dkAc17 (i := 13) rfl
theorem dL_law_570 : decode cL_law 570 = .ok (.iload_n 3, 1) := dk_of dkAc17 (i := 14) rfl
theorem dL_law_571 : decode cL_law 571 = .ok (.iconst 4, 1) := dk_of dkAc17 (i := 15) rfl
theorem dL_law_572 : decode cL_law 572 = .ok (.iadd, 1) := dk_of dkAc17 (i := 16) rfl
theorem dL_law_573 : decode cL_law 573 = .ok (.iaload, 1) := dk_of dkAc17 (i := 17) rfl
theorem dL_law_574 : decode cL_law 574 = .ok (.invokevirtual 77, 3) := dk_of dkAc17 (i := 18) rfl
theorem dL_law_577 : decode cL_law 577 = .ok (.pop, 1) := dk_of dkAc17 (i := 19) rfl
theorem dL_law_578 : decode cL_law 578 = .ok (.aload_n 2, 1) := dk_of dkAc17 (i := 20) rfl
theorem dL_law_579 : decode cL_law 579 = .ok (.aload_n 0, 1) := dk_of dkAc17 (i := 21) rfl
theorem dL_law_580 : decode cL_law 580 = .ok (.iload_n 3, 1) := dk_of dkAc17 (i := 22) rfl
theorem dL_law_581 : decode cL_law 581 = .ok (.iconst 1, 1) := dk_of dkAc17 (i := 23) rfl
theorem dL_law_582 : decode cL_law 582 = .ok (.iadd, 1) := dk_of dkAc17 (i := 24) rfl
theorem dL_law_583 : decode cL_law 583 = .ok (.iaload, 1) := dk_of dkAc17 (i := 25) rfl
theorem dL_law_584 : decode cL_law 584 = .ok (.aload_n 0, 1) := dk_of dkAc17 (i := 26) rfl
theorem dL_law_585 : decode cL_law 585 = .ok (.iload_n 3, 1) := dk_of dkAc17 (i := 27) rfl
theorem dL_law_586 : decode cL_law 586 = .ok (.iconst 2, 1) := dk_of dkAc17 (i := 28) rfl
theorem dL_law_587 : decode cL_law 587 = .ok (.iadd, 1) := dk_of dkAc17 (i := 29) rfl
theorem dL_law_588 : decode cL_law 588 = .ok (.iaload, 1) := dk_of dkAc17 (i := 30) rfl
theorem dL_law_589 : decode cL_law 589 = .ok (.aload_n 0, 1) := dk_of dkAc17 (i := 31) rfl
def dkLc18 : List (Nat × Instr × Nat) := [(590, .iload_n 3, 1), (591, .iconst 3, 1), (592, .iadd, 1), (593, .iaload, 1), (594, .aload_n 0, 1), (595, .iload_n 3, 1), (596, .iconst 4, 1), (597, .iadd, 1), (598, .iaload, 1), (599, .invokevirtual 81, 3), (602, .pop, 1), (603, .goto 381, 3), (606, .aload_n 1, 1), (607, .aload_n 0, 1), (608, .iload_n 3, 1), (609, .iconst 1, 1), (610, .iadd, 1), (611, .iaload, 1), (612, .invokevirtual 82, 3), (615, .aload_n 2, 1), (616, .aload_n 0, 1), (617, .iload_n 3, 1), (618, .iconst 1, 1), (619, .iadd, 1), (620, .iaload, 1), (621, .invokevirtual 85, 3), (624, .if_icmp .eq 360, 3), (627, .iconst 0, 1), (628, .ireturn, 1), (629, .aload_n 1, 1), (630, .aload_n 0, 1), (631, .iload_n 3, 1)]
set_option maxRecDepth 100000 in
theorem dkAc18 : ∀ q ∈ dkLc18, decode cL_law q.1 = .ok q.2 := by decide +kernel
theorem dL_law_590 : decode cL_law 590 = .ok (.iload_n 3, 1) := dk_of dkAc18 (i := 0) rfl
theorem dL_law_591 : decode cL_law 591 = .ok (.iconst 3, 1) := dk_of dkAc18 (i := 1) rfl
theorem dL_law_592 : decode cL_law 592 = .ok (.iadd, 1) := dk_of dkAc18 (i := 2) rfl
theorem dL_law_593 : decode cL_law 593 = .ok (.iaload, 1) := dk_of dkAc18 (i := 3) rfl
theorem dL_law_594 : decode cL_law 594 = .ok (.aload_n 0, 1) := dk_of dkAc18 (i := 4) rfl
theorem dL_law_595 : decode cL_law 595 = .ok (.iload_n 3, 1) := dk_of dkAc18 (i := 5) rfl
theorem dL_law_596 : decode cL_law 596 = .ok (.iconst 4, 1) := dk_of dkAc18 (i := 6) rfl
theorem dL_law_597 : decode cL_law 597 = .ok (.iadd, 1) := dk_of dkAc18 (i := 7) rfl
theorem dL_law_598 : decode cL_law 598 = .ok (.iaload, 1) := dk_of dkAc18 (i := 8) rfl
theorem dL_law_599 : decode cL_law 599 = .ok (.invokevirtual 81, 3) := dk_of dkAc18 (i := 9) rfl
theorem dL_law_602 : decode cL_law 602 = .ok (.pop, 1) := dk_of dkAc18 (i := 10) rfl
theorem dL_law_603 : decode cL_law 603 = .ok (.goto 381, 3) := dk_of dkAc18 (i := 11) rfl
theorem dL_law_606 : decode cL_law 606 = .ok (.aload_n 1, 1) := dk_of dkAc18 (i := 12) rfl
theorem dL_law_607 : decode cL_law 607 = .ok (.aload_n 0, 1) := dk_of dkAc18 (i := 13) rfl
theorem dL_law_608 : decode cL_law 608 = .ok (.iload_n 3, 1) := dk_of dkAc18 (i := 14) rfl
theorem dL_law_609 : decode cL_law 609 = .ok (.iconst 1, 1) := dk_of dkAc18 (i := 15) rfl
theorem dL_law_610 : decode cL_law 610 = .ok (.iadd, 1) := dk_of dkAc18 (i := 16) rfl
theorem dL_law_611 : decode cL_law 611 = .ok (.iaload, 1) := dk_of dkAc18 (i := 17) rfl
theorem dL_law_612 : decode cL_law 612 = .ok (.invokevirtual 82, 3) := dk_of dkAc18 (i := 18) rfl
theorem dL_law_615 : decode cL_law 615 = .ok (.aload_n 2, 1) := dk_of dkAc18 (i := 19) rfl
theorem dL_law_616 : decode cL_law 616 = .ok (.aload_n 0, 1) := dk_of dkAc18 (i := 20) rfl
theorem dL_law_617 : decode cL_law 617 = .ok (.iload_n 3, 1) := dk_of dkAc18 (i := 21) rfl
theorem dL_law_618 : decode cL_law 618 = .ok (.iconst 1, 1) := dk_of dkAc18 (i := 22) rfl
theorem dL_law_619 : decode cL_law 619 = .ok (.iadd, 1) := dk_of dkAc18 (i := 23) rfl
theorem dL_law_620 : decode cL_law 620 = .ok (.iaload, 1) := dk_of dkAc18 (i := 24) rfl
theorem dL_law_621 : decode cL_law 621 = .ok (.invokevirtual 85, 3) := dk_of dkAc18 (i := 25) rfl
theorem dL_law_624 : decode cL_law 624 = .ok (.if_icmp .eq 360, 3) := dk_of dkAc18 (i := 26) rfl
theorem dL_law_627 : decode cL_law 627 = .ok (.iconst 0, 1) := dk_of dkAc18 (i := 27) rfl
theorem dL_law_628 : decode cL_law 628 = .ok (.ireturn, 1) := dk_of dkAc18 (i := 28) rfl
theorem dL_law_629 : decode cL_law 629 = .ok (.aload_n 1, 1) := dk_of dkAc18 (i := 29) rfl
theorem dL_law_630 : decode cL_law 630 = .ok (.aload_n 0, 1) := dk_of dkAc18 (i := 30) rfl
theorem dL_law_631 : decode cL_law 631 = .ok (.iload_n 3, 1) := dk_of dkAc18 (i := 31) rfl
def dkLc19 : List (Nat × Instr × Nat) := [(632, .iconst 1, 1), (633, .iadd, 1), (634, .iaload, 1), (635, .aload_n 0, 1), (636, .iload_n 3, 1), (637, .iconst 2, 1), (638, .iadd, 1), (639, .iaload, 1), (640, .invokevirtual 86, 3), (643, .pop, 1), (644, .aload_n 2, 1), (645, .aload_n 0, 1), (646, .iload_n 3, 1), (647, .iconst 1, 1), (648, .iadd, 1), (649, .iaload, 1), (650, .aload_n 0, 1), (651, .iload_n 3, 1), (652, .iconst 2, 1), (653, .iadd, 1), (654, .iaload, 1), (655, .invokevirtual 89, 3), (658, .pop, 1), (659, .goto 325, 3), (662, .aload_n 1, 1), (663, .aload_n 0, 1), (664, .iload_n 3, 1), (665, .iconst 1, 1), (666, .iadd, 1), (667, .iaload, 1), (668, .aload_n 0, 1), (669, .iload_n 3, 1)]
set_option maxRecDepth 100000 in
theorem dkAc19 : ∀ q ∈ dkLc19, decode cL_law q.1 = .ok q.2 := by decide +kernel
theorem dL_law_632 : decode cL_law 632 = .ok (.iconst 1, 1) := dk_of dkAc19 (i := 0) rfl
theorem dL_law_633 : decode cL_law 633 = .ok (.iadd, 1) := dk_of dkAc19 (i := 1) rfl
theorem dL_law_634 : decode cL_law 634 = .ok (.iaload, 1) := dk_of dkAc19 (i := 2) rfl
theorem dL_law_635 : decode cL_law 635 = .ok (.aload_n 0, 1) := dk_of dkAc19 (i := 3) rfl
theorem dL_law_636 : decode cL_law 636 = .ok (.iload_n 3, 1) := dk_of dkAc19 (i := 4) rfl
theorem dL_law_637 : decode cL_law 637 = .ok (.iconst 2, 1) := dk_of dkAc19 (i := 5) rfl
theorem dL_law_638 : decode cL_law 638 = .ok (.iadd, 1) := dk_of dkAc19 (i := 6) rfl
theorem dL_law_639 : decode cL_law 639 = .ok (.iaload, 1) := dk_of dkAc19 (i := 7) rfl
theorem dL_law_640 : decode cL_law 640 = .ok (.invokevirtual 86, 3) := dk_of dkAc19 (i := 8) rfl
theorem dL_law_643 : decode cL_law 643 = .ok (.pop, 1) := dk_of dkAc19 (i := 9) rfl
theorem dL_law_644 : decode cL_law 644 = .ok (.aload_n 2, 1) := dk_of dkAc19 (i := 10) rfl
theorem dL_law_645 : decode cL_law 645 = .ok (.aload_n 0, 1) := dk_of dkAc19 (i := 11) rfl
theorem dL_law_646 : decode cL_law 646 = .ok (.iload_n 3, 1) := dk_of dkAc19 (i := 12) rfl
theorem dL_law_647 : decode cL_law 647 = .ok (.iconst 1, 1) := dk_of dkAc19 (i := 13) rfl
theorem dL_law_648 : decode cL_law 648 = .ok (.iadd, 1) := dk_of dkAc19 (i := 14) rfl
theorem dL_law_649 : decode cL_law 649 = .ok (.iaload, 1) := dk_of dkAc19 (i := 15) rfl
theorem dL_law_650 : decode cL_law 650 = .ok (.aload_n 0, 1) := dk_of dkAc19 (i := 16) rfl
theorem dL_law_651 : decode cL_law 651 = .ok (.iload_n 3, 1) := dk_of dkAc19 (i := 17) rfl
theorem dL_law_652 : decode cL_law 652 = .ok (.iconst 2, 1) := dk_of dkAc19 (i := 18) rfl
theorem dL_law_653 : decode cL_law 653 = .ok (.iadd, 1) := dk_of dkAc19 (i := 19) rfl
theorem dL_law_654 : decode cL_law 654 = .ok (.iaload, 1) := dk_of dkAc19 (i := 20) rfl
theorem dL_law_655 : decode cL_law 655 = .ok (.invokevirtual 89, 3) := dk_of dkAc19 (i := 21) rfl
theorem dL_law_658 : decode cL_law 658 = .ok (.pop, 1) := dk_of dkAc19 (i := 22) rfl
theorem dL_law_659 : decode cL_law 659 = .ok (.goto 325, 3) := dk_of dkAc19 (i := 23) rfl
theorem dL_law_662 : decode cL_law 662 = .ok (.aload_n 1, 1) := dk_of dkAc19 (i := 24) rfl
theorem dL_law_663 : decode cL_law 663 = .ok (.aload_n 0, 1) := dk_of dkAc19 (i := 25) rfl
theorem dL_law_664 : decode cL_law 664 = .ok (.iload_n 3, 1) := dk_of dkAc19 (i := 26) rfl
theorem dL_law_665 : decode cL_law 665 = .ok (.iconst 1, 1) := dk_of dkAc19 (i := 27) rfl
theorem dL_law_666 : decode cL_law 666 = .ok (.iadd, 1) := dk_of dkAc19 (i := 28) rfl
theorem dL_law_667 : decode cL_law 667 = .ok (.iaload, 1) := dk_of dkAc19 (i := 29) rfl
theorem dL_law_668 : decode cL_law 668 = .ok (.aload_n 0, 1) := dk_of dkAc19 (i := 30) rfl
theorem dL_law_669 : decode cL_law 669 = .ok (.iload_n 3, 1) := dk_of dkAc19 (i := 31) rfl
def dkLc20 : List (Nat × Instr × Nat) := [(670, .iconst 2, 1), (671, .iadd, 1), (672, .iaload, 1), (673, .aload_n 0, 1), (674, .iload_n 3, 1), (675, .iconst 3, 1), (676, .iadd, 1), (677, .iaload, 1), (678, .invokevirtual 90, 3), (681, .pop, 1), (682, .aload_n 2, 1), (683, .aload_n 0, 1), (684, .iload_n 3, 1), (685, .iconst 1, 1), (686, .iadd, 1), (687, .iaload, 1), (688, .aload_n 0, 1), (689, .iload_n 3, 1), (690, .iconst 2, 1), (691, .iadd, 1), (692, .iaload, 1), (693, .aload_n 0, 1), (694, .iload_n 3, 1), (695, .iconst 3, 1), (696, .iadd, 1), (697, .iaload, 1), (698, .invokevirtual 93, 3), (701, .pop, 1), (702, .goto 282, 3), (705, .aload_n 1, 1), (706, .aload_n 0, 1), (707, .iload_n 3, 1)]
set_option maxRecDepth 100000 in
theorem dkAc20 : ∀ q ∈ dkLc20, decode cL_law q.1 = .ok q.2 := by decide +kernel
theorem dL_law_670 : decode cL_law 670 = .ok (.iconst 2, 1) := dk_of dkAc20 (i := 0) rfl
theorem dL_law_671 : decode cL_law 671 = .ok (.iadd, 1) := dk_of dkAc20 (i := 1) rfl
theorem dL_law_672 : decode cL_law 672 = .ok (.iaload, 1) := dk_of dkAc20 (i := 2) rfl
theorem dL_law_673 : decode cL_law 673 = .ok (.aload_n 0, 1) := dk_of dkAc20 (i := 3) rfl
theorem dL_law_674 : decode cL_law 674 = .ok (.iload_n 3, 1) := dk_of dkAc20 (i := 4) rfl
theorem dL_law_675 : decode cL_law 675 = .ok (.iconst 3, 1) := dk_of dkAc20 (i := 5) rfl
theorem dL_law_676 : decode cL_law 676 = .ok (.iadd, 1) := dk_of dkAc20 (i := 6) rfl
theorem dL_law_677 : decode cL_law 677 = .ok (.iaload, 1) := dk_of dkAc20 (i := 7) rfl
theorem dL_law_678 : decode cL_law 678 = .ok (.invokevirtual 90, 3) := dk_of dkAc20 (i := 8) rfl
theorem dL_law_681 : decode cL_law 681 = .ok (.pop, 1) := dk_of dkAc20 (i := 9) rfl
theorem dL_law_682 : decode cL_law 682 = .ok (.aload_n 2, 1) := dk_of dkAc20 (i := 10) rfl
theorem dL_law_683 : decode cL_law 683 = .ok (.aload_n 0, 1) := dk_of dkAc20 (i := 11) rfl
theorem dL_law_684 : decode cL_law 684 = .ok (.iload_n 3, 1) := dk_of dkAc20 (i := 12) rfl
theorem dL_law_685 : decode cL_law 685 = .ok (.iconst 1, 1) := dk_of dkAc20 (i := 13) rfl
theorem dL_law_686 : decode cL_law 686 = .ok (.iadd, 1) := dk_of dkAc20 (i := 14) rfl
theorem dL_law_687 : decode cL_law 687 = .ok (.iaload, 1) := dk_of dkAc20 (i := 15) rfl
theorem dL_law_688 : decode cL_law 688 = .ok (.aload_n 0, 1) := dk_of dkAc20 (i := 16) rfl
theorem dL_law_689 : decode cL_law 689 = .ok (.iload_n 3, 1) := dk_of dkAc20 (i := 17) rfl
theorem dL_law_690 : decode cL_law 690 = .ok (.iconst 2, 1) := dk_of dkAc20 (i := 18) rfl
theorem dL_law_691 : decode cL_law 691 = .ok (.iadd, 1) := dk_of dkAc20 (i := 19) rfl
theorem dL_law_692 : decode cL_law 692 = .ok (.iaload, 1) := dk_of dkAc20 (i := 20) rfl
theorem dL_law_693 : decode cL_law 693 = .ok (.aload_n 0, 1) := dk_of dkAc20 (i := 21) rfl
theorem dL_law_694 : decode cL_law 694 = .ok (.iload_n 3, 1) := dk_of dkAc20 (i := 22) rfl
theorem dL_law_695 : decode cL_law 695 = .ok (.iconst 3, 1) := dk_of dkAc20 (i := 23) rfl
theorem dL_law_696 : decode cL_law 696 = .ok (.iadd, 1) := dk_of dkAc20 (i := 24) rfl
theorem dL_law_697 : decode cL_law 697 = .ok (.iaload, 1) := dk_of dkAc20 (i := 25) rfl
theorem dL_law_698 : decode cL_law 698 = .ok (.invokevirtual 93, 3) := dk_of dkAc20 (i := 26) rfl
theorem dL_law_701 : decode cL_law 701 = .ok (.pop, 1) := dk_of dkAc20 (i := 27) rfl
theorem dL_law_702 : decode cL_law 702 = .ok (.goto 282, 3) := dk_of dkAc20 (i := 28) rfl
theorem dL_law_705 : decode cL_law 705 = .ok (.aload_n 1, 1) := dk_of dkAc20 (i := 29) rfl
theorem dL_law_706 : decode cL_law 706 = .ok (.aload_n 0, 1) := dk_of dkAc20 (i := 30) rfl
theorem dL_law_707 : decode cL_law 707 = .ok (.iload_n 3, 1) := dk_of dkAc20 (i := 31) rfl
def dkLc21 : List (Nat × Instr × Nat) := [(708, .iconst 1, 1), (709, .iadd, 1), (710, .iaload, 1), (711, .aload_n 0, 1), (712, .iload_n 3, 1), (713, .iconst 2, 1), (714, .iadd, 1), (715, .iaload, 1), (716, .ifCond .eq 7, 3), (719, .iconst 1, 1), (720, .goto 4, 3), (723, .iconst 0, 1), (724, .invokevirtual 94, 3), (727, .pop, 1), (728, .aload_n 2, 1), (729, .aload_n 0, 1), (730, .iload_n 3, 1), (731, .iconst 1, 1), (732, .iadd, 1), (733, .iaload, 1), (734, .aload_n 0, 1), (735, .iload_n 3, 1), (736, .iconst 2, 1), (737, .iadd, 1), (738, .iaload, 1), (739, .ifCond .eq 7, 3), (742, .iconst 1, 1), (743, .goto 4, 3), (746, .iconst 0, 1), (747, .invokevirtual 98, 3), (750, .pop, 1), (751, .goto 233, 3)]
set_option maxRecDepth 100000 in
theorem dkAc21 : ∀ q ∈ dkLc21, decode cL_law q.1 = .ok q.2 := by decide +kernel
theorem dL_law_708 : decode cL_law 708 = .ok (.iconst 1, 1) := dk_of dkAc21 (i := 0) rfl
theorem dL_law_709 : decode cL_law 709 = .ok (.iadd, 1) := dk_of dkAc21 (i := 1) rfl
theorem dL_law_710 : decode cL_law 710 = .ok (.iaload, 1) := dk_of dkAc21 (i := 2) rfl
theorem dL_law_711 : decode cL_law 711 = .ok (.aload_n 0, 1) := dk_of dkAc21 (i := 3) rfl
theorem dL_law_712 : decode cL_law 712 = .ok (.iload_n 3, 1) := dk_of dkAc21 (i := 4) rfl
theorem dL_law_713 : decode cL_law 713 = .ok (.iconst 2, 1) := dk_of dkAc21 (i := 5) rfl
theorem dL_law_714 : decode cL_law 714 = .ok (.iadd, 1) := dk_of dkAc21 (i := 6) rfl
theorem dL_law_715 : decode cL_law 715 = .ok (.iaload, 1) := dk_of dkAc21 (i := 7) rfl
theorem dL_law_716 : decode cL_law 716 = .ok (.ifCond .eq 7, 3) := dk_of dkAc21 (i := 8) rfl
theorem dL_law_719 : decode cL_law 719 = .ok (.iconst 1, 1) := dk_of dkAc21 (i := 9) rfl
theorem dL_law_720 : decode cL_law 720 = .ok (.goto 4, 3) := dk_of dkAc21 (i := 10) rfl
theorem dL_law_723 : decode cL_law 723 = .ok (.iconst 0, 1) := dk_of dkAc21 (i := 11) rfl
theorem dL_law_724 : decode cL_law 724 = .ok (.invokevirtual 94, 3) := dk_of dkAc21 (i := 12) rfl
theorem dL_law_727 : decode cL_law 727 = .ok (.pop, 1) := dk_of dkAc21 (i := 13) rfl
theorem dL_law_728 : decode cL_law 728 = .ok (.aload_n 2, 1) := dk_of dkAc21 (i := 14) rfl
theorem dL_law_729 : decode cL_law 729 = .ok (.aload_n 0, 1) := dk_of dkAc21 (i := 15) rfl
theorem dL_law_730 : decode cL_law 730 = .ok (.iload_n 3, 1) := dk_of dkAc21 (i := 16) rfl
theorem dL_law_731 : decode cL_law 731 = .ok (.iconst 1, 1) := dk_of dkAc21 (i := 17) rfl
theorem dL_law_732 : decode cL_law 732 = .ok (.iadd, 1) := dk_of dkAc21 (i := 18) rfl
theorem dL_law_733 : decode cL_law 733 = .ok (.iaload, 1) := dk_of dkAc21 (i := 19) rfl
theorem dL_law_734 : decode cL_law 734 = .ok (.aload_n 0, 1) := dk_of dkAc21 (i := 20) rfl
theorem dL_law_735 : decode cL_law 735 = .ok (.iload_n 3, 1) := dk_of dkAc21 (i := 21) rfl
theorem dL_law_736 : decode cL_law 736 = .ok (.iconst 2, 1) := dk_of dkAc21 (i := 22) rfl
theorem dL_law_737 : decode cL_law 737 = .ok (.iadd, 1) := dk_of dkAc21 (i := 23) rfl
theorem dL_law_738 : decode cL_law 738 = .ok (.iaload, 1) := dk_of dkAc21 (i := 24) rfl
theorem dL_law_739 : decode cL_law 739 = .ok (.ifCond .eq 7, 3) := dk_of dkAc21 (i := 25) rfl
theorem dL_law_742 : decode cL_law 742 = .ok (.iconst 1, 1) := dk_of dkAc21 (i := 26) rfl
theorem dL_law_743 : decode cL_law 743 = .ok (.goto 4, 3) := dk_of dkAc21 (i := 27) rfl
theorem dL_law_746 : decode cL_law 746 = .ok (.iconst 0, 1) := dk_of dkAc21 (i := 28) rfl
theorem dL_law_747 : decode cL_law 747 = .ok (.invokevirtual 98, 3) := dk_of dkAc21 (i := 29) rfl
theorem dL_law_750 : decode cL_law 750 = .ok (.pop, 1) := dk_of dkAc21 (i := 30) rfl
theorem dL_law_751 : decode cL_law 751 = .ok (.goto 233, 3) := dk_of dkAc21 (i := 31) rfl
def dkLc22 : List (Nat × Instr × Nat) := [(754, .aload_n 1, 1), (755, .aload_n 0, 1), (756, .iload_n 3, 1), (757, .iconst 1, 1), (758, .iadd, 1), (759, .iaload, 1), (760, .invokevirtual 99, 3), (763, .pop, 1), (764, .aload_n 2, 1), (765, .aload_n 0, 1), (766, .iload_n 3, 1), (767, .iconst 1, 1), (768, .iadd, 1), (769, .iaload, 1), (770, .invokevirtual 102, 3), (773, .pop, 1), (774, .goto 210, 3), (777, .aload_n 1, 1), (778, .invokevirtual 103, 3), (781, .pop, 1), (782, .aload_n 2, 1), (783, .invokevirtual 106, 3), (786, .pop, 1), (787, .goto 197, 3), (790, .aload_n 1, 1), (791, .aload_n 0, 1), (792, .iload_n 3, 1), (793, .iconst 1, 1), (794, .iadd, 1), (795, .iaload, 1), (796, .aload_n 0, 1), (797, .iload_n 3, 1)]
set_option maxRecDepth 100000 in
theorem dkAc22 : ∀ q ∈ dkLc22, decode cL_law q.1 = .ok q.2 := by decide +kernel
theorem dL_law_754 : decode cL_law 754 = .ok (.aload_n 1, 1) := dk_of dkAc22 (i := 0) rfl
theorem dL_law_755 : decode cL_law 755 = .ok (.aload_n 0, 1) := dk_of dkAc22 (i := 1) rfl
theorem dL_law_756 : decode cL_law 756 = .ok (.iload_n 3, 1) := dk_of dkAc22 (i := 2) rfl
theorem dL_law_757 : decode cL_law 757 = .ok (.iconst 1, 1) := dk_of dkAc22 (i := 3) rfl
theorem dL_law_758 : decode cL_law 758 = .ok (.iadd, 1) := dk_of dkAc22 (i := 4) rfl
theorem dL_law_759 : decode cL_law 759 = .ok (.iaload, 1) := dk_of dkAc22 (i := 5) rfl
theorem dL_law_760 : decode cL_law 760 = .ok (.invokevirtual 99, 3) := dk_of dkAc22 (i := 6) rfl
theorem dL_law_763 : decode cL_law 763 = .ok (.pop, 1) := dk_of dkAc22 (i := 7) rfl
theorem dL_law_764 : decode cL_law 764 = .ok (.aload_n 2, 1) := dk_of dkAc22 (i := 8) rfl
theorem dL_law_765 : decode cL_law 765 = .ok (.aload_n 0, 1) := dk_of dkAc22 (i := 9) rfl
theorem dL_law_766 : decode cL_law 766 = .ok (.iload_n 3, 1) := dk_of dkAc22 (i := 10) rfl
theorem dL_law_767 : decode cL_law 767 = .ok (.iconst 1, 1) := dk_of dkAc22 (i := 11) rfl
theorem dL_law_768 : decode cL_law 768 = .ok (.iadd, 1) := dk_of dkAc22 (i := 12) rfl
theorem dL_law_769 : decode cL_law 769 = .ok (.iaload, 1) := dk_of dkAc22 (i := 13) rfl
theorem dL_law_770 : decode cL_law 770 = .ok (.invokevirtual 102, 3) := dk_of dkAc22 (i := 14) rfl
theorem dL_law_773 : decode cL_law 773 = .ok (.pop, 1) := dk_of dkAc22 (i := 15) rfl
theorem dL_law_774 : decode cL_law 774 = .ok (.goto 210, 3) := dk_of dkAc22 (i := 16) rfl
theorem dL_law_777 : decode cL_law 777 = .ok (.aload_n 1, 1) := dk_of dkAc22 (i := 17) rfl
theorem dL_law_778 : decode cL_law 778 = .ok (.invokevirtual 103, 3) := dk_of dkAc22 (i := 18) rfl
theorem dL_law_781 : decode cL_law 781 = .ok (.pop, 1) := dk_of dkAc22 (i := 19) rfl
theorem dL_law_782 : decode cL_law 782 = .ok (.aload_n 2, 1) := dk_of dkAc22 (i := 20) rfl
theorem dL_law_783 : decode cL_law 783 = .ok (.invokevirtual 106, 3) := dk_of dkAc22 (i := 21) rfl
theorem dL_law_786 : decode cL_law 786 = .ok (.pop, 1) := dk_of dkAc22 (i := 22) rfl
theorem dL_law_787 : decode cL_law 787 = .ok (.goto 197, 3) := dk_of dkAc22 (i := 23) rfl
theorem dL_law_790 : decode cL_law 790 = .ok (.aload_n 1, 1) := dk_of dkAc22 (i := 24) rfl
theorem dL_law_791 : decode cL_law 791 = .ok (.aload_n 0, 1) := dk_of dkAc22 (i := 25) rfl
theorem dL_law_792 : decode cL_law 792 = .ok (.iload_n 3, 1) := dk_of dkAc22 (i := 26) rfl
theorem dL_law_793 : decode cL_law 793 = .ok (.iconst 1, 1) := dk_of dkAc22 (i := 27) rfl
theorem dL_law_794 : decode cL_law 794 = .ok (.iadd, 1) := dk_of dkAc22 (i := 28) rfl
theorem dL_law_795 : decode cL_law 795 = .ok (.iaload, 1) := dk_of dkAc22 (i := 29) rfl
theorem dL_law_796 : decode cL_law 796 = .ok (.aload_n 0, 1) := dk_of dkAc22 (i := 30) rfl
theorem dL_law_797 : decode cL_law 797 = .ok (.iload_n 3, 1) := dk_of dkAc22 (i := 31) rfl
def dkLc23 : List (Nat × Instr × Nat) := [(798, .iconst 2, 1), (799, .iadd, 1), (800, .iaload, 1), (801, .invokevirtual 107, 3), (804, .pop, 1), (805, .aload_n 2, 1), (806, .aload_n 0, 1), (807, .iload_n 3, 1), (808, .iconst 1, 1), (809, .iadd, 1), (810, .iaload, 1), (811, .aload_n 0, 1), (812, .iload_n 3, 1), (813, .iconst 2, 1), (814, .iadd, 1), (815, .iaload, 1), (816, .invokevirtual 110, 3), (819, .pop, 1), (820, .goto 164, 3), (823, .aload_n 1, 1), (824, .aload_n 0, 1), (825, .iload_n 3, 1), (826, .iconst 1, 1), (827, .iadd, 1), (828, .iaload, 1), (829, .aload_n 0, 1), (830, .iload_n 3, 1), (831, .iconst 2, 1), (832, .iadd, 1), (833, .iaload, 1), (834, .invokevirtual 111, 3), (837, .pop, 1)]
set_option maxRecDepth 100000 in
theorem dkAc23 : ∀ q ∈ dkLc23, decode cL_law q.1 = .ok q.2 := by decide +kernel
theorem dL_law_798 : decode cL_law 798 = .ok (.iconst 2, 1) := dk_of dkAc23 (i := 0) rfl
theorem dL_law_799 : decode cL_law 799 = .ok (.iadd, 1) := dk_of dkAc23 (i := 1) rfl
theorem dL_law_800 : decode cL_law 800 = .ok (.iaload, 1) := dk_of dkAc23 (i := 2) rfl
theorem dL_law_801 : decode cL_law 801 = .ok (.invokevirtual 107, 3) := dk_of dkAc23 (i := 3) rfl
theorem dL_law_804 : decode cL_law 804 = .ok (.pop, 1) := dk_of dkAc23 (i := 4) rfl
theorem dL_law_805 : decode cL_law 805 = .ok (.aload_n 2, 1) := dk_of dkAc23 (i := 5) rfl
theorem dL_law_806 : decode cL_law 806 = .ok (.aload_n 0, 1) := dk_of dkAc23 (i := 6) rfl
theorem dL_law_807 : decode cL_law 807 = .ok (.iload_n 3, 1) := dk_of dkAc23 (i := 7) rfl
theorem dL_law_808 : decode cL_law 808 = .ok (.iconst 1, 1) := dk_of dkAc23 (i := 8) rfl
theorem dL_law_809 : decode cL_law 809 = .ok (.iadd, 1) := dk_of dkAc23 (i := 9) rfl
theorem dL_law_810 : decode cL_law 810 = .ok (.iaload, 1) := dk_of dkAc23 (i := 10) rfl
theorem dL_law_811 : decode cL_law 811 = .ok (.aload_n 0, 1) := dk_of dkAc23 (i := 11) rfl
theorem dL_law_812 : decode cL_law 812 = .ok (.iload_n 3, 1) := dk_of dkAc23 (i := 12) rfl
theorem dL_law_813 : decode cL_law 813 = .ok (.iconst 2, 1) := dk_of dkAc23 (i := 13) rfl
theorem dL_law_814 : decode cL_law 814 = .ok (.iadd, 1) := dk_of dkAc23 (i := 14) rfl
theorem dL_law_815 : decode cL_law 815 = .ok (.iaload, 1) := dk_of dkAc23 (i := 15) rfl
theorem dL_law_816 : decode cL_law 816 = .ok (.invokevirtual 110, 3) := dk_of dkAc23 (i := 16) rfl
theorem dL_law_819 : decode cL_law 819 = .ok (.pop, 1) := dk_of dkAc23 (i := 17) rfl
theorem dL_law_820 : decode cL_law 820 = .ok (.goto 164, 3) := dk_of dkAc23 (i := 18) rfl
theorem dL_law_823 : decode cL_law 823 = .ok (.aload_n 1, 1) := dk_of dkAc23 (i := 19) rfl
theorem dL_law_824 : decode cL_law 824 = .ok (.aload_n 0, 1) := dk_of dkAc23 (i := 20) rfl
theorem dL_law_825 : decode cL_law 825 = .ok (.iload_n 3, 1) := dk_of dkAc23 (i := 21) rfl
theorem dL_law_826 : decode cL_law 826 = .ok (.iconst 1, 1) := dk_of dkAc23 (i := 22) rfl
theorem dL_law_827 : decode cL_law 827 = .ok (.iadd, 1) := dk_of dkAc23 (i := 23) rfl
theorem dL_law_828 : decode cL_law 828 = .ok (.iaload, 1) := dk_of dkAc23 (i := 24) rfl
theorem dL_law_829 : decode cL_law 829 = .ok (.aload_n 0, 1) := dk_of dkAc23 (i := 25) rfl
theorem dL_law_830 : decode cL_law 830 = .ok (.iload_n 3, 1) := dk_of dkAc23 (i := 26) rfl
theorem dL_law_831 : decode cL_law 831 = .ok (.iconst 2, 1) := dk_of dkAc23 (i := 27) rfl
theorem dL_law_832 : decode cL_law 832 = .ok (.iadd, 1) := dk_of dkAc23 (i := 28) rfl
theorem dL_law_833 : decode cL_law 833 = .ok (.iaload, 1) := dk_of dkAc23 (i := 29) rfl
theorem dL_law_834 : decode cL_law 834 = .ok (.invokevirtual 111, 3) := dk_of dkAc23 (i := 30) rfl
theorem dL_law_837 : decode cL_law 837 = .ok (.pop, 1) := dk_of dkAc23 (i := 31) rfl
def dkLc24 : List (Nat × Instr × Nat) := [(838, .aload_n 2, 1), (839, .aload_n 0, 1), (840, .iload_n 3, 1), (841, .iconst 1, 1), (842, .iadd, 1), (843, .iaload, 1), (844, .aload_n 0, 1), (845, .iload_n 3, 1), (846, .iconst 2, 1), (847, .iadd, 1), (848, .iaload, 1), (849, .invokevirtual 114, 3), (852, .pop, 1), (853, .goto 131, 3), (856, .aload_n 1, 1), (857, .aload_n 0, 1), (858, .iload_n 3, 1), (859, .iconst 1, 1), (860, .iadd, 1), (861, .iaload, 1), (862, .aload_n 0, 1), (863, .iload_n 3, 1), (864, .iconst 2, 1), (865, .iadd, 1), (866, .iaload, 1), (867, .invokevirtual 115, 3), (870, .pop, 1), (871, .aload_n 2, 1), (872, .aload_n 0, 1), (873, .iload_n 3, 1), (874, .iconst 1, 1), (875, .iadd, 1)]
set_option maxRecDepth 100000 in
theorem dkAc24 : ∀ q ∈ dkLc24, decode cL_law q.1 = .ok q.2 := by decide +kernel
theorem dL_law_838 : decode cL_law 838 = .ok (.aload_n 2, 1) := dk_of dkAc24 (i := 0) rfl
theorem dL_law_839 : decode cL_law 839 = .ok (.aload_n 0, 1) := dk_of dkAc24 (i := 1) rfl
theorem dL_law_840 : decode cL_law 840 = .ok (.iload_n 3, 1) := dk_of dkAc24 (i := 2) rfl
theorem dL_law_841 : decode cL_law 841 = .ok (.iconst 1, 1) := dk_of dkAc24 (i := 3) rfl
theorem dL_law_842 : decode cL_law 842 = .ok (.iadd, 1) := dk_of dkAc24 (i := 4) rfl
theorem dL_law_843 : decode cL_law 843 = .ok (.iaload, 1) := dk_of dkAc24 (i := 5) rfl
theorem dL_law_844 : decode cL_law 844 = .ok (.aload_n 0, 1) := dk_of dkAc24 (i := 6) rfl
theorem dL_law_845 : decode cL_law 845 = .ok (.iload_n 3, 1) := dk_of dkAc24 (i := 7) rfl
theorem dL_law_846 : decode cL_law 846 = .ok (.iconst 2, 1) := dk_of dkAc24 (i := 8) rfl
theorem dL_law_847 : decode cL_law 847 = .ok (.iadd, 1) := dk_of dkAc24 (i := 9) rfl
theorem dL_law_848 : decode cL_law 848 = .ok (.iaload, 1) := dk_of dkAc24 (i := 10) rfl
theorem dL_law_849 : decode cL_law 849 = .ok (.invokevirtual 114, 3) := dk_of dkAc24 (i := 11) rfl
theorem dL_law_852 : decode cL_law 852 = .ok (.pop, 1) := dk_of dkAc24 (i := 12) rfl
theorem dL_law_853 : decode cL_law 853 = .ok (.goto 131, 3) := dk_of dkAc24 (i := 13) rfl
theorem dL_law_856 : decode cL_law 856 = .ok (.aload_n 1, 1) := dk_of dkAc24 (i := 14) rfl
theorem dL_law_857 : decode cL_law 857 = .ok (.aload_n 0, 1) := dk_of dkAc24 (i := 15) rfl
theorem dL_law_858 : decode cL_law 858 = .ok (.iload_n 3, 1) := dk_of dkAc24 (i := 16) rfl
theorem dL_law_859 : decode cL_law 859 = .ok (.iconst 1, 1) := dk_of dkAc24 (i := 17) rfl
theorem dL_law_860 : decode cL_law 860 = .ok (.iadd, 1) := dk_of dkAc24 (i := 18) rfl
theorem dL_law_861 : decode cL_law 861 = .ok (.iaload, 1) := dk_of dkAc24 (i := 19) rfl
theorem dL_law_862 : decode cL_law 862 = .ok (.aload_n 0, 1) := dk_of dkAc24 (i := 20) rfl
theorem dL_law_863 : decode cL_law 863 = .ok (.iload_n 3, 1) := dk_of dkAc24 (i := 21) rfl
theorem dL_law_864 : decode cL_law 864 = .ok (.iconst 2, 1) := dk_of dkAc24 (i := 22) rfl
theorem dL_law_865 : decode cL_law 865 = .ok (.iadd, 1) := dk_of dkAc24 (i := 23) rfl
theorem dL_law_866 : decode cL_law 866 = .ok (.iaload, 1) := dk_of dkAc24 (i := 24) rfl
theorem dL_law_867 : decode cL_law 867 = .ok (.invokevirtual 115, 3) := dk_of dkAc24 (i := 25) rfl
theorem dL_law_870 : decode cL_law 870 = .ok (.pop, 1) := dk_of dkAc24 (i := 26) rfl
theorem dL_law_871 : decode cL_law 871 = .ok (.aload_n 2, 1) := dk_of dkAc24 (i := 27) rfl
theorem dL_law_872 : decode cL_law 872 = .ok (.aload_n 0, 1) := dk_of dkAc24 (i := 28) rfl
theorem dL_law_873 : decode cL_law 873 = .ok (.iload_n 3, 1) := dk_of dkAc24 (i := 29) rfl
theorem dL_law_874 : decode cL_law 874 = .ok (.iconst 1, 1) := dk_of dkAc24 (i := 30) rfl
theorem dL_law_875 : decode cL_law 875 = .ok (.iadd, 1) := dk_of dkAc24 (i := 31) rfl
def dkLc25 : List (Nat × Instr × Nat) := [(876, .iaload, 1), (877, .aload_n 0, 1), (878, .iload_n 3, 1), (879, .iconst 2, 1), (880, .iadd, 1), (881, .iaload, 1), (882, .invokevirtual 118, 3), (885, .pop, 1), (886, .goto 98, 3), (889, .aload_n 1, 1), (890, .invokevirtual 119, 3), (893, .pop, 1), (894, .aload_n 2, 1), (895, .invokevirtual 122, 3), (898, .pop, 1), (899, .goto 85, 3), (902, .aload_n 1, 1), (903, .invokevirtual 123, 3), (906, .pop, 1), (907, .aload_n 2, 1), (908, .invokevirtual 126, 3), (911, .pop, 1), (912, .goto 72, 3), (915, .aload_n 1, 1), (916, .aload_n 0, 1), (917, .iload_n 3, 1), (918, .iconst 1, 1), (919, .iadd, 1), (920, .iaload, 1), (921, .invokevirtual 127, 3), (924, .pop, 1), (925, .aload_n 2, 1)]
set_option maxRecDepth 100000 in
theorem dkAc25 : ∀ q ∈ dkLc25, decode cL_law q.1 = .ok q.2 := by decide +kernel
theorem dL_law_876 : decode cL_law 876 = .ok (.iaload, 1) := dk_of dkAc25 (i := 0) rfl
theorem dL_law_877 : decode cL_law 877 = .ok (.aload_n 0, 1) := dk_of dkAc25 (i := 1) rfl
theorem dL_law_878 : decode cL_law 878 = .ok (.iload_n 3, 1) := dk_of dkAc25 (i := 2) rfl
theorem dL_law_879 : decode cL_law 879 = .ok (.iconst 2, 1) := dk_of dkAc25 (i := 3) rfl
theorem dL_law_880 : decode cL_law 880 = .ok (.iadd, 1) := dk_of dkAc25 (i := 4) rfl
theorem dL_law_881 : decode cL_law 881 = .ok (.iaload, 1) := dk_of dkAc25 (i := 5) rfl
theorem dL_law_882 : decode cL_law 882 = .ok (.invokevirtual 118, 3) := dk_of dkAc25 (i := 6) rfl
theorem dL_law_885 : decode cL_law 885 = .ok (.pop, 1) := dk_of dkAc25 (i := 7) rfl
theorem dL_law_886 : decode cL_law 886 = .ok (.goto 98, 3) := dk_of dkAc25 (i := 8) rfl
theorem dL_law_889 : decode cL_law 889 = .ok (.aload_n 1, 1) := dk_of dkAc25 (i := 9) rfl
theorem dL_law_890 : decode cL_law 890 = .ok (.invokevirtual 119, 3) := dk_of dkAc25 (i := 10) rfl
theorem dL_law_893 : decode cL_law 893 = .ok (.pop, 1) := dk_of dkAc25 (i := 11) rfl
theorem dL_law_894 : decode cL_law 894 = .ok (.aload_n 2, 1) := dk_of dkAc25 (i := 12) rfl
theorem dL_law_895 : decode cL_law 895 = .ok (.invokevirtual 122, 3) := dk_of dkAc25 (i := 13) rfl
theorem dL_law_898 : decode cL_law 898 = .ok (.pop, 1) := dk_of dkAc25 (i := 14) rfl
theorem dL_law_899 : decode cL_law 899 = .ok (.goto 85, 3) := dk_of dkAc25 (i := 15) rfl
theorem dL_law_902 : decode cL_law 902 = .ok (.aload_n 1, 1) := dk_of dkAc25 (i := 16) rfl
theorem dL_law_903 : decode cL_law 903 = .ok (.invokevirtual 123, 3) := dk_of dkAc25 (i := 17) rfl
theorem dL_law_906 : decode cL_law 906 = .ok (.pop, 1) := dk_of dkAc25 (i := 18) rfl
theorem dL_law_907 : decode cL_law 907 = .ok (.aload_n 2, 1) := dk_of dkAc25 (i := 19) rfl
theorem dL_law_908 : decode cL_law 908 = .ok (.invokevirtual 126, 3) := dk_of dkAc25 (i := 20) rfl
theorem dL_law_911 : decode cL_law 911 = .ok (.pop, 1) := dk_of dkAc25 (i := 21) rfl
theorem dL_law_912 : decode cL_law 912 = .ok (.goto 72, 3) := dk_of dkAc25 (i := 22) rfl
theorem dL_law_915 : decode cL_law 915 = .ok (.aload_n 1, 1) := dk_of dkAc25 (i := 23) rfl
theorem dL_law_916 : decode cL_law 916 = .ok (.aload_n 0, 1) := dk_of dkAc25 (i := 24) rfl
theorem dL_law_917 : decode cL_law 917 = .ok (.iload_n 3, 1) := dk_of dkAc25 (i := 25) rfl
theorem dL_law_918 : decode cL_law 918 = .ok (.iconst 1, 1) := dk_of dkAc25 (i := 26) rfl
theorem dL_law_919 : decode cL_law 919 = .ok (.iadd, 1) := dk_of dkAc25 (i := 27) rfl
theorem dL_law_920 : decode cL_law 920 = .ok (.iaload, 1) := dk_of dkAc25 (i := 28) rfl
theorem dL_law_921 : decode cL_law 921 = .ok (.invokevirtual 127, 3) := dk_of dkAc25 (i := 29) rfl
theorem dL_law_924 : decode cL_law 924 = .ok (.pop, 1) := dk_of dkAc25 (i := 30) rfl
theorem dL_law_925 : decode cL_law 925 = .ok (.aload_n 2, 1) := dk_of dkAc25 (i := 31) rfl
def dkLc26 : List (Nat × Instr × Nat) := [(926, .aload_n 0, 1), (927, .iload_n 3, 1), (928, .iconst 1, 1), (929, .iadd, 1), (930, .iaload, 1), (931, .invokevirtual 130, 3), (934, .pop, 1), (935, .goto 49, 3), (938, .aload_n 1, 1), (939, .aload_n 0, 1), (940, .iload_n 3, 1), (941, .iconst 1, 1), (942, .iadd, 1), (943, .iaload, 1), (944, .invokevirtual 131, 3), (947, .pop, 1), (948, .aload_n 2, 1), (949, .aload_n 0, 1), (950, .iload_n 3, 1), (951, .iconst 1, 1), (952, .iadd, 1), (953, .iaload, 1), (954, .invokevirtual 134, 3), (957, .pop, 1), (958, .goto 26, 3), (961, .aload_n 1, 1), (962, .aload_n 0, 1), (963, .iload_n 3, 1), (964, .iconst 1, 1), (965, .iadd, 1), (966, .iaload, 1), (967, .invokevirtual 135, 3)]
set_option maxRecDepth 100000 in
theorem dkAc26 : ∀ q ∈ dkLc26, decode cL_law q.1 = .ok q.2 := by decide +kernel
theorem dL_law_926 : decode cL_law 926 = .ok (.aload_n 0, 1) := dk_of dkAc26 (i := 0) rfl
theorem dL_law_927 : decode cL_law 927 = .ok (.iload_n 3, 1) := dk_of dkAc26 (i := 1) rfl
theorem dL_law_928 : decode cL_law 928 = .ok (.iconst 1, 1) := dk_of dkAc26 (i := 2) rfl
theorem dL_law_929 : decode cL_law 929 = .ok (.iadd, 1) := dk_of dkAc26 (i := 3) rfl
theorem dL_law_930 : decode cL_law 930 = .ok (.iaload, 1) := dk_of dkAc26 (i := 4) rfl
theorem dL_law_931 : decode cL_law 931 = .ok (.invokevirtual 130, 3) := dk_of dkAc26 (i := 5) rfl
theorem dL_law_934 : decode cL_law 934 = .ok (.pop, 1) := dk_of dkAc26 (i := 6) rfl
theorem dL_law_935 : decode cL_law 935 = .ok (.goto 49, 3) := dk_of dkAc26 (i := 7) rfl
theorem dL_law_938 : decode cL_law 938 = .ok (.aload_n 1, 1) := dk_of dkAc26 (i := 8) rfl
theorem dL_law_939 : decode cL_law 939 = .ok (.aload_n 0, 1) := dk_of dkAc26 (i := 9) rfl
theorem dL_law_940 : decode cL_law 940 = .ok (.iload_n 3, 1) := dk_of dkAc26 (i := 10) rfl
theorem dL_law_941 : decode cL_law 941 = .ok (.iconst 1, 1) := dk_of dkAc26 (i := 11) rfl
theorem dL_law_942 : decode cL_law 942 = .ok (.iadd, 1) := dk_of dkAc26 (i := 12) rfl
theorem dL_law_943 : decode cL_law 943 = .ok (.iaload, 1) := dk_of dkAc26 (i := 13) rfl
theorem dL_law_944 : decode cL_law 944 = .ok (.invokevirtual 131, 3) := dk_of dkAc26 (i := 14) rfl
theorem dL_law_947 : decode cL_law 947 = .ok (.pop, 1) := dk_of dkAc26 (i := 15) rfl
theorem dL_law_948 : decode cL_law 948 = .ok (.aload_n 2, 1) := dk_of dkAc26 (i := 16) rfl
theorem dL_law_949 : decode cL_law 949 = .ok (.aload_n 0, 1) := dk_of dkAc26 (i := 17) rfl
theorem dL_law_950 : decode cL_law 950 = .ok (.iload_n 3, 1) := dk_of dkAc26 (i := 18) rfl
theorem dL_law_951 : decode cL_law 951 = .ok (.iconst 1, 1) := dk_of dkAc26 (i := 19) rfl
theorem dL_law_952 : decode cL_law 952 = .ok (.iadd, 1) := dk_of dkAc26 (i := 20) rfl
theorem dL_law_953 : decode cL_law 953 = .ok (.iaload, 1) := dk_of dkAc26 (i := 21) rfl
theorem dL_law_954 : decode cL_law 954 = .ok (.invokevirtual 134, 3) := dk_of dkAc26 (i := 22) rfl
theorem dL_law_957 : decode cL_law 957 = .ok (.pop, 1) := dk_of dkAc26 (i := 23) rfl
theorem dL_law_958 : decode cL_law 958 = .ok (.goto 26, 3) := dk_of dkAc26 (i := 24) rfl
theorem dL_law_961 : decode cL_law 961 = .ok (.aload_n 1, 1) := dk_of dkAc26 (i := 25) rfl
theorem dL_law_962 : decode cL_law 962 = .ok (.aload_n 0, 1) := dk_of dkAc26 (i := 26) rfl
theorem dL_law_963 : decode cL_law 963 = .ok (.iload_n 3, 1) := dk_of dkAc26 (i := 27) rfl
theorem dL_law_964 : decode cL_law 964 = .ok (.iconst 1, 1) := dk_of dkAc26 (i := 28) rfl
theorem dL_law_965 : decode cL_law 965 = .ok (.iadd, 1) := dk_of dkAc26 (i := 29) rfl
theorem dL_law_966 : decode cL_law 966 = .ok (.iaload, 1) := dk_of dkAc26 (i := 30) rfl
theorem dL_law_967 : decode cL_law 967 = .ok (.invokevirtual 135, 3) := dk_of dkAc26 (i := 31) rfl
def dkLc27 : List (Nat × Instr × Nat) := [(970, .pop, 1), (971, .aload_n 2, 1), (972, .aload_n 0, 1), (973, .iload_n 3, 1), (974, .iconst 1, 1), (975, .iadd, 1), (976, .iaload, 1), (977, .invokevirtual 138, 3), (980, .pop, 1), (981, .goto 3, 3), (984, .iinc 3 5, 3), (987, .goto (-969), 3), (990, .iconst 1, 1), (991, .ireturn, 1)]
set_option maxRecDepth 100000 in
theorem dkAc27 : ∀ q ∈ dkLc27, decode cL_law q.1 = .ok q.2 := by decide +kernel
theorem dL_law_970 : decode cL_law 970 = .ok (.pop, 1) := dk_of dkAc27 (i := 0) rfl
theorem dL_law_971 : decode cL_law 971 = .ok (.aload_n 2, 1) := dk_of dkAc27 (i := 1) rfl
theorem dL_law_972 : decode cL_law 972 = .ok (.aload_n 0, 1) := dk_of dkAc27 (i := 2) rfl
theorem dL_law_973 : decode cL_law 973 = .ok (.iload_n 3, 1) := dk_of dkAc27 (i := 3) rfl
theorem dL_law_974 : decode cL_law 974 = .ok (.iconst 1, 1) := dk_of dkAc27 (i := 4) rfl
theorem dL_law_975 : decode cL_law 975 = .ok (.iadd, 1) := dk_of dkAc27 (i := 5) rfl
theorem dL_law_976 : decode cL_law 976 = .ok (.iaload, 1) := dk_of dkAc27 (i := 6) rfl
theorem dL_law_977 : decode cL_law 977 = .ok (.invokevirtual 138, 3) := dk_of dkAc27 (i := 7) rfl
theorem dL_law_980 : decode cL_law 980 = .ok (.pop, 1) := dk_of dkAc27 (i := 8) rfl
theorem dL_law_981 : decode cL_law 981 = .ok (.goto 3, 3) := dk_of dkAc27 (i := 9) rfl
theorem dL_law_984 : decode cL_law 984 = .ok (.iinc 3 5, 3) := dk_of dkAc27 (i := 10) rfl
theorem dL_law_987 : decode cL_law 987 = .ok (.goto (-969), 3) := dk_of dkAc27 (i := 11) rfl
theorem dL_law_990 : decode cL_law 990 = .ok (.iconst 1, 1) := dk_of dkAc27 (i := 12) rfl
theorem dL_law_991 : decode cL_law 991 = .ok (.ireturn, 1) := dk_of dkAc27 (i := 13) rfl
