set_option maxRecDepth 100000 in
theorem dkAb0 : decode cX10_init 0 = .ok (.aload_n 0, 1) ∧ decode cX10_init 1 = .ok (.invokespecial 1, 3) ∧ decode cX10_init 4 = .ok (.aload_n 0, 1) ∧ decode cX10_init 5 = .ok (.bipush 37, 2) ∧ decode cX10_init 7 = .ok (.newarray .int, 2) ∧ decode cX10_init 9 = .ok (.putfield 7, 3) ∧ decode cX10_init 12 = .ok (.aload_n 0, 1) ∧ decode cX10_init 13 = .ok (.bipush 37, 2) ∧ decode cX10_init 15 = .ok (.newarray .int, 2) ∧ decode cX10_init 17 = .ok (.putfield 13, 3) ∧ decode cX10_init 20 = .ok (.aload_n 0, 1) ∧ decode cX10_init 21 = .ok (.bipush 30, 2) := by decide +kernel
theorem dX10_init_0 : decode cX10_init 0 = .ok (.aload_n 0, 1) := dkAb0.1
theorem dX10_init_1 : decode cX10_init 1 = .ok (.invokespecial 1, 3) := dkAb0.2.1
theorem dX10_init_4 : decode cX10_init 4 = .ok (.aload_n 0, 1) := dkAb0.2.2.1
theorem dX10_init_5 : decode cX10_init 5 = .ok (.bipush 37, 2) := dkAb0.2.2.2.1
theorem dX10_init_7 : decode cX10_init 7 = .ok (.newarray .int, 2) := dkAb0.2.2.2.2.1
theorem dX10_init_9 : decode cX10_init 9 = .ok (.putfield 7, 3) := dkAb0.2.2.2.2.2.1
theorem dX10_init_12 : decode cX10_init 12 = .ok (.aload_n 0, 1) := dkAb0.2.2.2.2.2.2.1
theorem dX10_init_13 : decode cX10_init 13 = .ok (.bipush 37, 2) := dkAb0.2.2.2.2.2.2.2.1
theorem dX10_init_15 : decode cX10_init 15 = .ok (.newarray .int, 2) := dkAb0.2.2.2.2.2.2.2.2.1
theorem dX10_init_17 : decode cX10_init 17 = .ok (.putfield 13, 3) := dkAb0.2.2.2.2.2.2.2.2.2.1
theorem dX10_init_20 : decode cX10_init 20 = .ok (.aload_n 0, 1) := dkAb0.2.2.2.2.2.2.2.2.2.2.1
theorem dX10_init_21 : decode cX10_init 21 = .ok (.bipush 30, 2) := dkAb0.2.2.2.2.2.2.2.2.2.2.2
set_option maxRecDepth 100000 in
theorem dkAb1 : decode cX10_init 23 = .ok (.newarray .int, 2) ∧ decode cX10_init 25 = .ok (.putfield 16, 3) ∧ decode cX10_init 28 = .ok (.aload_n 0, 1) ∧ decode cX10_init 29 = .ok (.bipush 30, 2) ∧ decode cX10_init 31 = .ok (.newarray .int, 2) ∧ decode cX10_init 33 = .ok (.putfield 19, 3) ∧ decode cX10_init 36 = .ok (.aload_n 0, 1) ∧ decode cX10_init 37 = .ok (.sipush 600, 3) ∧ decode cX10_init 40 = .ok (.newarray .int, 2) ∧ decode cX10_init 42 = .ok (.putfield 22, 3) ∧ decode cX10_init 45 = .ok (.aload_n 0, 1) ∧ decode cX10_init 46 = .ok (.bipush 62, 2) := by decide +kernel
theorem dX10_init_23 : decode cX10_init 23 = .ok (.newarray .int, 2) := dkAb1.1
theorem dX10_init_25 : decode cX10_init 25 = .ok (.putfield 16, 3) := dkAb1.2.1
theorem dX10_init_28 : decode cX10_init 28 = .ok (.aload_n 0, 1) := dkAb1.2.2.1
theorem dX10_init_29 : decode cX10_init 29 = .ok (.bipush 30, 2) := dkAb1.2.2.2.1
theorem dX10_init_31 : decode cX10_init 31 = .ok (.newarray .int, 2) := dkAb1.2.2.2.2.1
theorem dX10_init_33 : decode cX10_init 33 = .ok (.putfield 19, 3) := dkAb1.2.2.2.2.2.1
theorem dX10_init_36 : decode cX10_init 36 = .ok (.aload_n 0, 1) := dkAb1.2.2.2.2.2.2.1
theorem dX10_init_37 : decode cX10_init 37 = .ok (.sipush 600, 3) := dkAb1.2.2.2.2.2.2.2.1
theorem dX10_init_40 : decode cX10_init 40 = .ok (.newarray .int, 2) := dkAb1.2.2.2.2.2.2.2.2.1
theorem dX10_init_42 : decode cX10_init 42 = .ok (.putfield 22, 3) := dkAb1.2.2.2.2.2.2.2.2.2.1
theorem dX10_init_45 : decode cX10_init 45 = .ok (.aload_n 0, 1) := dkAb1.2.2.2.2.2.2.2.2.2.2.1
theorem dX10_init_46 : decode cX10_init 46 = .ok (.bipush 62, 2) := dkAb1.2.2.2.2.2.2.2.2.2.2.2
set_option maxRecDepth 100000 in
theorem dkAb2 : decode cX10_init 48 = .ok (.newarray .int, 2) ∧ decode cX10_init 50 = .ok (.putfield 25, 3) ∧ decode cX10_init 53 = .ok (.aload_n 0, 1) ∧ decode cX10_init 54 = .ok (.iconst 2, 1) ∧ decode cX10_init 55 = .ok (.newarray .boolean, 2) ∧ decode cX10_init 57 = .ok (.putfield 28, 3) ∧ decode cX10_init 60 = .ok (.aload_n 0, 1) ∧ decode cX10_init 61 = .ok (.sipush 240, 3) ∧ decode cX10_init 64 = .ok (.newarray .int, 2) ∧ decode cX10_init 66 = .ok (.putfield 32, 3) ∧ decode cX10_init 69 = .ok (.aload_n 0, 1) ∧ decode cX10_init 70 = .ok (.iconst (-1), 1) := by decide +kernel
theorem dX10_init_48 : decode cX10_init 48 = .ok (.newarray .int, 2) := dkAb2.1
theorem dX10_init_50 : decode cX10_init 50 = .ok (.putfield 25, 3) := dkAb2.2.1
theorem dX10_init_53 : decode cX10_init 53 = .ok (.aload_n 0, 1) := dkAb2.2.2.1
theorem dX10_init_54 : decode cX10_init 54 = .ok (.iconst 2, 1) := dkAb2.2.2.2.1
theorem dX10_init_55 : decode cX10_init 55 = .ok (.newarray .boolean, 2) := dkAb2.2.2.2.2.1
theorem dX10_init_57 : decode cX10_init 57 = .ok (.putfield 28, 3) := dkAb2.2.2.2.2.2.1
theorem dX10_init_60 : decode cX10_init 60 = .ok (.aload_n 0, 1) := dkAb2.2.2.2.2.2.2.1
theorem dX10_init_61 : decode cX10_init 61 = .ok (.sipush 240, 3) := dkAb2.2.2.2.2.2.2.2.1
theorem dX10_init_64 : decode cX10_init 64 = .ok (.newarray .int, 2) := dkAb2.2.2.2.2.2.2.2.2.1
theorem dX10_init_66 : decode cX10_init 66 = .ok (.putfield 32, 3) := dkAb2.2.2.2.2.2.2.2.2.2.1
theorem dX10_init_69 : decode cX10_init 69 = .ok (.aload_n 0, 1) := dkAb2.2.2.2.2.2.2.2.2.2.2.1
theorem dX10_init_70 : decode cX10_init 70 = .ok (.iconst (-1), 1) := dkAb2.2.2.2.2.2.2.2.2.2.2.2
set_option maxRecDepth 100000 in
theorem dkAb3 : decode cX10_init 71 = .ok (.putfield 35, 3) ∧ decode cX10_init 74 = .ok (.aload_n 0, 1) ∧ decode cX10_init 75 = .ok (.bipush 12, 2) ∧ decode cX10_init 77 = .ok (.newarray .int, 2) ∧ decode cX10_init 79 = .ok (.putfield 39, 3) ∧ decode cX10_init 82 = .ok (.aload_n 0, 1) ∧ decode cX10_init 83 = .ok (.bipush 12, 2) ∧ decode cX10_init 85 = .ok (.newarray .int, 2) ∧ decode cX10_init 87 = .ok (.putfield 42, 3) ∧ decode cX10_init 90 = .ok (.aload_n 0, 1) ∧ decode cX10_init 91 = .ok (.bipush 30, 2) ∧ decode cX10_init 93 = .ok (.newarray .int, 2) := by decide +kernel
theorem dX10_init_71 : decode cX10_init 71 = .ok (.putfield 35, 3) := dkAb3.1
theorem dX10_init_74 : decode cX10_init 74 = .ok (.aload_n 0, 1) := dkAb3.2.1
theorem dX10_init_75 : decode cX10_init 75 = .ok (.bipush 12, 2) := dkAb3.2.2.1
theorem dX10_init_77 : decode cX10_init 77 = .ok (.newarray .int, 2) := dkAb3.2.2.2.1
theorem dX10_init_79 : decode cX10_init 79 = .ok (.putfield 39, 3) := dkAb3.2.2.2.2.1
theorem dX10_init_82 : decode cX10_init 82 = .ok (.aload_n 0, 1) := dkAb3.2.2.2.2.2.1
theorem dX10_init_83 : decode cX10_init 83 = .ok (.bipush 12, 2) := dkAb3.2.2.2.2.2.2.1
theorem dX10_init_85 : decode cX10_init 85 = .ok (.newarray .int, 2) := dkAb3.2.2.2.2.2.2.2.1
theorem dX10_init_87 : decode cX10_init 87 = .ok (.putfield 42, 3) := dkAb3.2.2.2.2.2.2.2.2.1
theorem dX10_init_90 : decode cX10_init 90 = .ok (.aload_n 0, 1) := dkAb3.2.2.2.2.2.2.2.2.2.1
theorem dX10_init_91 : decode cX10_init 91 = .ok (.bipush 30, 2) := dkAb3.2.2.2.2.2.2.2.2.2.2.1
theorem dX10_init_93 : decode cX10_init 93 = .ok (.newarray .int, 2) := dkAb3.2.2.2.2.2.2.2.2.2.2.2
set_option maxRecDepth 100000 in
theorem dkAb4 : decode cX10_init 95 = .ok (.putfield 45, 3) ∧ decode cX10_init 98 = .ok (.aload_n 0, 1) ∧ decode cX10_init 99 = .ok (.sipush 896, 3) ∧ decode cX10_init 102 = .ok (.newarray .int, 2) ∧ decode cX10_init 104 = .ok (.putfield 48, 3) ∧ decode cX10_init 107 = .ok (.aload_n 0, 1) ∧ decode cX10_init 108 = .ok (.getfield 7, 3) ∧ decode cX10_init 111 = .ok (.invokestatic 51, 3) ∧ decode cX10_init 114 = .ok (.aload_n 0, 1) ∧ decode cX10_init 115 = .ok (.invokevirtual 55, 3) ∧ decode cX10_init 118 = .ok (.return_, 1) := by decide +kernel
theorem dX10_init_95 : decode cX10_init 95 = .ok (.putfield 45, 3) := dkAb4.1
theorem dX10_init_98 : decode cX10_init 98 = .ok (.aload_n 0, 1) := dkAb4.2.1
theorem dX10_init_99 : decode cX10_init 99 = .ok (.sipush 896, 3) := dkAb4.2.2.1
theorem dX10_init_102 : decode cX10_init 102 = .ok (.newarray .int, 2) := dkAb4.2.2.2.1
theorem dX10_init_104 : decode cX10_init 104 = .ok (.putfield 48, 3) := dkAb4.2.2.2.2.1
theorem dX10_init_107 : decode cX10_init 107 = .ok (.aload_n 0, 1) := dkAb4.2.2.2.2.2.1
theorem dX10_init_108 : decode cX10_init 108 = .ok (.getfield 7, 3) := dkAb4.2.2.2.2.2.2.1
theorem dX10_init_111 : decode cX10_init 111 = .ok (.invokestatic 51, 3) := dkAb4.2.2.2.2.2.2.2.1
theorem dX10_init_114 : decode cX10_init 114 = .ok (.aload_n 0, 1) := dkAb4.2.2.2.2.2.2.2.2.1
theorem dX10_init_115 : decode cX10_init 115 = .ok (.invokevirtual 55, 3) := dkAb4.2.2.2.2.2.2.2.2.2.1
theorem dX10_init_118 : decode cX10_init 118 = .ok (.return_, 1) := dkAb4.2.2.2.2.2.2.2.2.2.2
set_option maxRecDepth 100000 in
theorem dkAb5 : decode cX10_in 0 = .ok (.lload_n 0, 1) ∧ decode cX10_in 1 = .ok (.lload_n 2, 1) ∧ decode cX10_in 2 = .ok (.lcmp, 1) ∧ decode cX10_in 3 = .ok (.ifCond .lt 14, 3) ∧ decode cX10_in 6 = .ok (.lload_n 0, 1) ∧ decode cX10_in 7 = .ok (.lload 4, 2) ∧ decode cX10_in 9 = .ok (.lcmp, 1) ∧ decode cX10_in 10 = .ok (.ifCond .gt 7, 3) ∧ decode cX10_in 13 = .ok (.iconst 1, 1) ∧ decode cX10_in 14 = .ok (.goto 4, 3) ∧ decode cX10_in 17 = .ok (.iconst 0, 1) ∧ decode cX10_in 18 = .ok (.ireturn, 1) := by decide +kernel
theorem dX10_in_0 : decode cX10_in 0 = .ok (.lload_n 0, 1) := dkAb5.1
theorem dX10_in_1 : decode cX10_in 1 = .ok (.lload_n 2, 1) := dkAb5.2.1
theorem dX10_in_2 : decode cX10_in 2 = .ok (.lcmp, 1) := dkAb5.2.2.1
theorem dX10_in_3 : decode cX10_in 3 = .ok (.ifCond .lt 14, 3) := dkAb5.2.2.2.1
theorem dX10_in_6 : decode cX10_in 6 = .ok (.lload_n 0, 1) := dkAb5.2.2.2.2.1
theorem dX10_in_7 : decode cX10_in 7 = .ok (.lload 4, 2) := dkAb5.2.2.2.2.2.1
theorem dX10_in_9 : decode cX10_in 9 = .ok (.lcmp, 1) := dkAb5.2.2.2.2.2.2.1
theorem dX10_in_10 : decode cX10_in 10 = .ok (.ifCond .gt 7, 3) := dkAb5.2.2.2.2.2.2.2.1
theorem dX10_in_13 : decode cX10_in 13 = .ok (.iconst 1, 1) := dkAb5.2.2.2.2.2.2.2.2.1
theorem dX10_in_14 : decode cX10_in 14 = .ok (.goto 4, 3) := dkAb5.2.2.2.2.2.2.2.2.2.1
theorem dX10_in_17 : decode cX10_in 17 = .ok (.iconst 0, 1) := dkAb5.2.2.2.2.2.2.2.2.2.2.1
theorem dX10_in_18 : decode cX10_in 18 = .ok (.ireturn, 1) := dkAb5.2.2.2.2.2.2.2.2.2.2.2
set_option maxRecDepth 100000 in
theorem dkAb6 : decode cX10_isIn 0 = .ok (.iload_n 0, 1) ∧ decode cX10_isIn 1 = .ok (.iload_n 1, 1) ∧ decode cX10_isIn 2 = .ok (.ishr, 1) ∧ decode cX10_isIn 3 = .ok (.iconst 1, 1) ∧ decode cX10_isIn 4 = .ok (.iand, 1) ∧ decode cX10_isIn 5 = .ok (.iconst 1, 1) ∧ decode cX10_isIn 6 = .ok (.if_icmp .ne 7, 3) ∧ decode cX10_isIn 9 = .ok (.iconst 1, 1) ∧ decode cX10_isIn 10 = .ok (.goto 4, 3) ∧ decode cX10_isIn 13 = .ok (.iconst 0, 1) ∧ decode cX10_isIn 14 = .ok (.ireturn, 1) := by decide +kernel
theorem dX10_isIn_0 : decode cX10_isIn 0 = .ok (.iload_n 0, 1) := dkAb6.1
theorem dX10_isIn_1 : decode cX10_isIn 1 = .ok (.iload_n 1, 1) := dkAb6.2.1
theorem dX10_isIn_2 : decode cX10_isIn 2 = .ok (.ishr, 1) := dkAb6.2.2.1
theorem dX10_isIn_3 : decode cX10_isIn 3 = .ok (.iconst 1, 1) := dkAb6.2.2.2.1
theorem dX10_isIn_4 : decode cX10_isIn 4 = .ok (.iand, 1) := dkAb6.2.2.2.2.1
theorem dX10_isIn_5 : decode cX10_isIn 5 = .ok (.iconst 1, 1) := dkAb6.2.2.2.2.2.1
theorem dX10_isIn_6 : decode cX10_isIn 6 = .ok (.if_icmp .ne 7, 3) := dkAb6.2.2.2.2.2.2.1
theorem dX10_isIn_9 : decode cX10_isIn 9 = .ok (.iconst 1, 1) := dkAb6.2.2.2.2.2.2.2.1
theorem dX10_isIn_10 : decode cX10_isIn 10 = .ok (.goto 4, 3) := dkAb6.2.2.2.2.2.2.2.2.1
theorem dX10_isIn_13 : decode cX10_isIn 13 = .ok (.iconst 0, 1) := dkAb6.2.2.2.2.2.2.2.2.2.1
theorem dX10_isIn_14 : decode cX10_isIn 14 = .ok (.ireturn, 1) := dkAb6.2.2.2.2.2.2.2.2.2.2
set_option maxRecDepth 100000 in
theorem dkAb7 : decode cX10_bits 0 = .ok (.iconst 0, 1) ∧ decode cX10_bits 1 = .ok (.istore_n 1, 1) ∧ decode cX10_bits 2 = .ok (.iload_n 0, 1) ∧ decode cX10_bits 3 = .ok (.istore_n 2, 1) ∧ decode cX10_bits 4 = .ok (.iload_n 2, 1) ∧ decode cX10_bits 5 = .ok (.ifCond .eq 15, 3) ∧ decode cX10_bits 8 = .ok (.iinc 1 1, 3) ∧ decode cX10_bits 11 = .ok (.iload_n 2, 1) ∧ decode cX10_bits 12 = .ok (.iload_n 2, 1) ∧ decode cX10_bits 13 = .ok (.iconst 1, 1) ∧ decode cX10_bits 14 = .ok (.isub, 1) ∧ decode cX10_bits 15 = .ok (.iand, 1) := by decide +kernel
theorem dX10_bits_0 : decode cX10_bits 0 = .ok (.iconst 0, 1) := dkAb7.1
theorem dX10_bits_1 : decode cX10_bits 1 = .ok (.istore_n 1, 1) := dkAb7.2.1
theorem dX10_bits_2 : decode cX10_bits 2 = .ok (.iload_n 0, 1) := dkAb7.2.2.1
theorem dX10_bits_3 : decode cX10_bits 3 = .ok (.istore_n 2, 1) := dkAb7.2.2.2.1
theorem dX10_bits_4 : decode cX10_bits 4 = .ok (.iload_n 2, 1) := dkAb7.2.2.2.2.1
theorem dX10_bits_5 : decode cX10_bits 5 = .ok (.ifCond .eq 15, 3) := dkAb7.2.2.2.2.2.1
theorem dX10_bits_8 : decode cX10_bits 8 = .ok (.iinc 1 1, 3) := dkAb7.2.2.2.2.2.2.1
theorem dX10_bits_11 : decode cX10_bits 11 = .ok (.iload_n 2, 1) := dkAb7.2.2.2.2.2.2.2.1
theorem dX10_bits_12 : decode cX10_bits 12 = .ok (.iload_n 2, 1) := dkAb7.2.2.2.2.2.2.2.2.1
theorem dX10_bits_13 : decode cX10_bits 13 = .ok (.iconst 1, 1) := dkAb7.2.2.2.2.2.2.2.2.2.1
theorem dX10_bits_14 : decode cX10_bits 14 = .ok (.isub, 1) := dkAb7.2.2.2.2.2.2.2.2.2.2.1
theorem dX10_bits_15 : decode cX10_bits 15 = .ok (.iand, 1) := dkAb7.2.2.2.2.2.2.2.2.2.2.2
set_option maxRecDepth 100000 in
theorem dkAb8 : decode cX10_bits 16 = .ok (.istore_n 2, 1) ∧ decode cX10_bits 17 = .ok (.goto (-13), 3) ∧ decode cX10_bits 20 = .ok (.iload_n 1, 1) ∧ decode cX10_bits 21 = .ok (.ireturn, 1) := by decide +kernel
theorem dX10_bits_16 : decode cX10_bits 16 = .ok (.istore_n 2, 1) := dkAb8.1
theorem dX10_bits_17 : decode cX10_bits 17 = .ok (.goto (-13), 3) := dkAb8.2.1
theorem dX10_bits_20 : decode cX10_bits 20 = .ok (.iload_n 1, 1) := dkAb8.2.2.1
theorem dX10_bits_21 : decode cX10_bits 21 = .ok (.ireturn, 1) := dkAb8.2.2.2
set_option maxRecDepth 100000 in
theorem dkAb9 : decode cX10_abs 0 = .ok (.iload_n 0, 1) ∧ decode cX10_abs 1 = .ok (.ifCond .ge 8, 3) ∧ decode cX10_abs 4 = .ok (.iload_n 0, 1) ∧ decode cX10_abs 5 = .ok (.ineg, 1) ∧ decode cX10_abs 6 = .ok (.goto 4, 3) ∧ decode cX10_abs 9 = .ok (.iload_n 0, 1) ∧ decode cX10_abs 10 = .ok (.ireturn, 1) := by decide +kernel
theorem dX10_abs_0 : decode cX10_abs 0 = .ok (.iload_n 0, 1) := dkAb9.1
theorem dX10_abs_1 : decode cX10_abs 1 = .ok (.ifCond .ge 8, 3) := dkAb9.2.1
theorem dX10_abs_4 : decode cX10_abs 4 = .ok (.iload_n 0, 1) := dkAb9.2.2.1
theorem dX10_abs_5 : decode cX10_abs 5 = .ok (.ineg, 1) := dkAb9.2.2.2.1
theorem dX10_abs_6 : decode cX10_abs 6 = .ok (.goto 4, 3) := dkAb9.2.2.2.2.1
theorem dX10_abs_9 : decode cX10_abs 9 = .ok (.iload_n 0, 1) := dkAb9.2.2.2.2.2.1
theorem dX10_abs_10 : decode cX10_abs 10 = .ok (.ireturn, 1) := dkAb9.2.2.2.2.2.2
set_option maxRecDepth 100000 in
theorem dkAb10 : decode cX10_blank 0 = .ok (.iconst 0, 1) ∧ decode cX10_blank 1 = .ok (.istore_n 1, 1) ∧ decode cX10_blank 2 = .ok (.iload_n 1, 1) ∧ decode cX10_blank 3 = .ok (.bipush 37, 2) ∧ decode cX10_blank 5 = .ok (.if_icmp .ge 32, 3) ∧ decode cX10_blank 8 = .ok (.aload_n 0, 1) ∧ decode cX10_blank 9 = .ok (.iload_n 1, 1) ∧ decode cX10_blank 10 = .ok (.iload_n 1, 1) ∧ decode cX10_blank 11 = .ok (.i2l, 1) ∧ decode cX10_blank 12 = .ok (.ldc2_w 58, 3) ∧ decode cX10_blank 15 = .ok (.ldc2_w 60, 3) ∧ decode cX10_blank 18 = .ok (.invokestatic 62, 3) := by decide +kernel
theorem dX10_blank_0 : decode cX10_blank 0 = .ok (.iconst 0, 1) := dkAb10.1
theorem dX10_blank_1 : decode cX10_blank 1 = .ok (.istore_n 1, 1) := dkAb10.2.1
theorem dX10_blank_2 : decode cX10_blank 2 = .ok (.iload_n 1, 1) := dkAb10.2.2.1
theorem dX10_blank_3 : decode cX10_blank 3 = .ok (.bipush 37, 2) := dkAb10.2.2.2.1
theorem dX10_blank_5 : decode cX10_blank 5 = .ok (.if_icmp .ge 32, 3) := dkAb10.2.2.2.2.1
theorem dX10_blank_8 : decode cX10_blank 8 = .ok (.aload_n 0, 1) := dkAb10.2.2.2.2.2.1
theorem dX10_blank_9 : decode cX10_blank 9 = .ok (.iload_n 1, 1) := dkAb10.2.2.2.2.2.2.1
theorem dX10_blank_10 : decode cX10_blank 10 = .ok (.iload_n 1, 1) := dkAb10.2.2.2.2.2.2.2.1
theorem dX10_blank_11 : decode cX10_blank 11 = .ok (.i2l, 1) := dkAb10.2.2.2.2.2.2.2.2.1
theorem dX10_blank_12 : decode cX10_blank 12 = .ok (.ldc2_w 58, 3) := dkAb10.2.2.2.2.2.2.2.2.2.1
theorem dX10_blank_15 : decode cX10_blank 15 = .ok (.ldc2_w 60, 3) := dkAb10.2.2.2.2.2.2.2.2.2.2.1
theorem dX10_blank_18 : decode cX10_blank 18 = .ok (.invokestatic 62, 3) := dkAb10.2.2.2.2.2.2.2.2.2.2.2
set_option maxRecDepth 100000 in
theorem dkAb11 : decode cX10_blank 21 = .ok (.ifCond .eq 8, 3) ∧ decode cX10_blank 24 = .ok (.bipush 9, 2) ∧ decode cX10_blank 26 = .ok (.goto 4, 3) ∧ decode cX10_blank 29 = .ok (.iconst 0, 1) ∧ decode cX10_blank 30 = .ok (.iastore, 1) ∧ decode cX10_blank 31 = .ok (.iinc 1 1, 3) ∧ decode cX10_blank 34 = .ok (.goto (-32), 3) ∧ decode cX10_blank 37 = .ok (.return_, 1) := by decide +kernel
theorem dX10_blank_21 : decode cX10_blank 21 = .ok (.ifCond .eq 8, 3) := dkAb11.1
theorem dX10_blank_24 : decode cX10_blank 24 = .ok (.bipush 9, 2) := dkAb11.2.1
theorem dX10_blank_26 : decode cX10_blank 26 = .ok (.goto 4, 3) := dkAb11.2.2.1
theorem dX10_blank_29 : decode cX10_blank 29 = .ok (.iconst 0, 1) := dkAb11.2.2.2.1
theorem dX10_blank_30 : decode cX10_blank 30 = .ok (.iastore, 1) := dkAb11.2.2.2.2.1
theorem dX10_blank_31 : decode cX10_blank 31 = .ok (.iinc 1 1, 3) := dkAb11.2.2.2.2.2.1
theorem dX10_blank_34 : decode cX10_blank 34 = .ok (.goto (-32), 3) := dkAb11.2.2.2.2.2.2.1
theorem dX10_blank_37 : decode cX10_blank 37 = .ok (.return_, 1) := dkAb11.2.2.2.2.2.2.2
set_option maxRecDepth 100000 in
theorem dkAb12 : decode cX10_copies 0 = .ok (.iconst 0, 1) ∧ decode cX10_copies 1 = .ok (.istore 5, 2) ∧ decode cX10_copies 3 = .ok (.iload 5, 2) ∧ decode cX10_copies 5 = .ok (.iload 4, 2) ∧ decode cX10_copies 7 = .ok (.if_icmp .ge 21, 3) ∧ decode cX10_copies 10 = .ok (.aload_n 2, 1) ∧ decode cX10_copies 11 = .ok (.iload_n 3, 1) ∧ decode cX10_copies 12 = .ok (.iload 5, 2) ∧ decode cX10_copies 14 = .ok (.iadd, 1) ∧ decode cX10_copies 15 = .ok (.aload_n 0, 1) ∧ decode cX10_copies 16 = .ok (.iload_n 1, 1) ∧ decode cX10_copies 17 = .ok (.iload 5, 2) := by decide +kernel
theorem dX10_copies_0 : decode cX10_copies 0 = .ok (.iconst 0, 1) := dkAb12.1
theorem dX10_copies_1 : decode cX10_copies 1 = .ok (.istore 5, 2) := dkAb12.2.1
theorem dX10_copies_3 : decode cX10_copies 3 = .ok (.iload 5, 2) := dkAb12.2.2.1
theorem dX10_copies_5 : decode cX10_copies 5 = .ok (.iload 4, 2) := dkAb12.2.2.2.1
theorem dX10_copies_7 : decode cX10_copies 7 = .ok (.if_icmp .ge 21, 3) := dkAb12.2.2.2.2.1
theorem dX10_copies_10 : decode cX10_copies 10 = .ok (.aload_n 2, 1) := dkAb12.2.2.2.2.2.1
theorem dX10_copies_11 : decode cX10_copies 11 = .ok (.iload_n 3, 1) := dkAb12.2.2.2.2.2.2.1
theorem dX10_copies_12 : decode cX10_copies 12 = .ok (.iload 5, 2) := dkAb12.2.2.2.2.2.2.2.1
theorem dX10_copies_14 : decode cX10_copies 14 = .ok (.iadd, 1) := dkAb12.2.2.2.2.2.2.2.2.1
theorem dX10_copies_15 : decode cX10_copies 15 = .ok (.aload_n 0, 1) := dkAb12.2.2.2.2.2.2.2.2.2.1
theorem dX10_copies_16 : decode cX10_copies 16 = .ok (.iload_n 1, 1) := dkAb12.2.2.2.2.2.2.2.2.2.2.1
theorem dX10_copies_17 : decode cX10_copies 17 = .ok (.iload 5, 2) := dkAb12.2.2.2.2.2.2.2.2.2.2.2
set_option maxRecDepth 100000 in
theorem dkAb13 : decode cX10_copies 19 = .ok (.iadd, 1) ∧ decode cX10_copies 20 = .ok (.iaload, 1) ∧ decode cX10_copies 21 = .ok (.iastore, 1) ∧ decode cX10_copies 22 = .ok (.iinc 5 1, 3) ∧ decode cX10_copies 25 = .ok (.goto (-22), 3) ∧ decode cX10_copies 28 = .ok (.return_, 1) := by decide +kernel
theorem dX10_copies_19 : decode cX10_copies 19 = .ok (.iadd, 1) := dkAb13.1
theorem dX10_copies_20 : decode cX10_copies 20 = .ok (.iaload, 1) := dkAb13.2.1
theorem dX10_copies_21 : decode cX10_copies 21 = .ok (.iastore, 1) := dkAb13.2.2.1
theorem dX10_copies_22 : decode cX10_copies 22 = .ok (.iinc 5 1, 3) := dkAb13.2.2.2.1
theorem dX10_copies_25 : decode cX10_copies 25 = .ok (.goto (-22), 3) := dkAb13.2.2.2.2.1
theorem dX10_copies_28 : decode cX10_copies 28 = .ok (.return_, 1) := dkAb13.2.2.2.2.2
set_option maxRecDepth 100000 in
theorem dkAb14 : decode cX10_begins 0 = .ok (.iconst 0, 1) ∧ decode cX10_begins 1 = .ok (.istore_n 1, 1) ∧ decode cX10_begins 2 = .ok (.iload_n 1, 1) ∧ decode cX10_begins 3 = .ok (.bipush 7, 2) ∧ decode cX10_begins 5 = .ok (.if_icmp .ge 46, 3) ∧ decode cX10_begins 8 = .ok (.aload_n 0, 1) ∧ decode cX10_begins 9 = .ok (.getfield 16, 3) ∧ decode cX10_begins 12 = .ok (.iconst 0, 1) ∧ decode cX10_begins 13 = .ok (.iload_n 1, 1) ∧ decode cX10_begins 14 = .ok (.iadd, 1) ∧ decode cX10_begins 15 = .ok (.aload_n 0, 1) ∧ decode cX10_begins 16 = .ok (.getfield 7, 3) := by decide +kernel
theorem dX10_begins_0 : decode cX10_begins 0 = .ok (.iconst 0, 1) := dkAb14.1
theorem dX10_begins_1 : decode cX10_begins 1 = .ok (.istore_n 1, 1) := dkAb14.2.1
theorem dX10_begins_2 : decode cX10_begins 2 = .ok (.iload_n 1, 1) := dkAb14.2.2.1
theorem dX10_begins_3 : decode cX10_begins 3 = .ok (.bipush 7, 2) := dkAb14.2.2.2.1
theorem dX10_begins_5 : decode cX10_begins 5 = .ok (.if_icmp .ge 46, 3) := dkAb14.2.2.2.2.1
theorem dX10_begins_8 : decode cX10_begins 8 = .ok (.aload_n 0, 1) := dkAb14.2.2.2.2.2.1
theorem dX10_begins_9 : decode cX10_begins 9 = .ok (.getfield 16, 3) := dkAb14.2.2.2.2.2.2.1
theorem dX10_begins_12 : decode cX10_begins 12 = .ok (.iconst 0, 1) := dkAb14.2.2.2.2.2.2.2.1
theorem dX10_begins_13 : decode cX10_begins 13 = .ok (.iload_n 1, 1) := dkAb14.2.2.2.2.2.2.2.2.1
theorem dX10_begins_14 : decode cX10_begins 14 = .ok (.iadd, 1) := dkAb14.2.2.2.2.2.2.2.2.2.1
theorem dX10_begins_15 : decode cX10_begins 15 = .ok (.aload_n 0, 1) := dkAb14.2.2.2.2.2.2.2.2.2.2.1
theorem dX10_begins_16 : decode cX10_begins 16 = .ok (.getfield 7, 3) := dkAb14.2.2.2.2.2.2.2.2.2.2.2
set_option maxRecDepth 100000 in
theorem dkAb15 : decode cX10_begins 19 = .ok (.iconst 3, 1) ∧ decode cX10_begins 20 = .ok (.iload_n 1, 1) ∧ decode cX10_begins 21 = .ok (.iadd, 1) ∧ decode cX10_begins 22 = .ok (.iaload, 1) ∧ decode cX10_begins 23 = .ok (.bipush 9, 2) ∧ decode cX10_begins 25 = .ok (.if_icmp .ne 8, 3) ∧ decode cX10_begins 28 = .ok (.bipush 9, 2) ∧ decode cX10_begins 30 = .ok (.goto 4, 3) ∧ decode cX10_begins 33 = .ok (.iload_n 1, 1) ∧ decode cX10_begins 34 = .ok (.iastore, 1) ∧ decode cX10_begins 35 = .ok (.aload_n 0, 1) ∧ decode cX10_begins 36 = .ok (.getfield 16, 3) := by decide +kernel
theorem dX10_begins_19 : decode cX10_begins 19 = .ok (.iconst 3, 1) := dkAb15.1
theorem dX10_begins_20 : decode cX10_begins 20 = .ok (.iload_n 1, 1) := dkAb15.2.1
theorem dX10_begins_21 : decode cX10_begins 21 = .ok (.iadd, 1) := dkAb15.2.2.1
theorem dX10_begins_22 : decode cX10_begins 22 = .ok (.iaload, 1) := dkAb15.2.2.2.1
theorem dX10_begins_23 : decode cX10_begins 23 = .ok (.bipush 9, 2) := dkAb15.2.2.2.2.1
theorem dX10_begins_25 : decode cX10_begins 25 = .ok (.if_icmp .ne 8, 3) := dkAb15.2.2.2.2.2.1
theorem dX10_begins_28 : decode cX10_begins 28 = .ok (.bipush 9, 2) := dkAb15.2.2.2.2.2.2.1
theorem dX10_begins_30 : decode cX10_begins 30 = .ok (.goto 4, 3) := dkAb15.2.2.2.2.2.2.2.1
theorem dX10_begins_33 : decode cX10_begins 33 = .ok (.iload_n 1, 1) := dkAb15.2.2.2.2.2.2.2.2.1
theorem dX10_begins_34 : decode cX10_begins 34 = .ok (.iastore, 1) := dkAb15.2.2.2.2.2.2.2.2.2.1
theorem dX10_begins_35 : decode cX10_begins 35 = .ok (.aload_n 0, 1) := dkAb15.2.2.2.2.2.2.2.2.2.2.1
theorem dX10_begins_36 : decode cX10_begins 36 = .ok (.getfield 16, 3) := dkAb15.2.2.2.2.2.2.2.2.2.2.2
set_option maxRecDepth 100000 in
theorem dkAb16 : decode cX10_begins 39 = .ok (.bipush 7, 2) ∧ decode cX10_begins 41 = .ok (.iload_n 1, 1) ∧ decode cX10_begins 42 = .ok (.iadd, 1) ∧ decode cX10_begins 43 = .ok (.iconst 0, 1) ∧ decode cX10_begins 44 = .ok (.iastore, 1) ∧ decode cX10_begins 45 = .ok (.iinc 1 1, 3) ∧ decode cX10_begins 48 = .ok (.goto (-46), 3) ∧ decode cX10_begins 51 = .ok (.aload_n 0, 1) ∧ decode cX10_begins 52 = .ok (.getfield 7, 3) ∧ decode cX10_begins 55 = .ok (.bipush 10, 2) ∧ decode cX10_begins 57 = .ok (.aload_n 0, 1) ∧ decode cX10_begins 58 = .ok (.getfield 16, 3) := by decide +kernel
theorem dX10_begins_39 : decode cX10_begins 39 = .ok (.bipush 7, 2) := dkAb16.1
theorem dX10_begins_41 : decode cX10_begins 41 = .ok (.iload_n 1, 1) := dkAb16.2.1
theorem dX10_begins_42 : decode cX10_begins 42 = .ok (.iadd, 1) := dkAb16.2.2.1
theorem dX10_begins_43 : decode cX10_begins 43 = .ok (.iconst 0, 1) := dkAb16.2.2.2.1
theorem dX10_begins_44 : decode cX10_begins 44 = .ok (.iastore, 1) := dkAb16.2.2.2.2.1
theorem dX10_begins_45 : decode cX10_begins 45 = .ok (.iinc 1 1, 3) := dkAb16.2.2.2.2.2.1
theorem dX10_begins_48 : decode cX10_begins 48 = .ok (.goto (-46), 3) := dkAb16.2.2.2.2.2.2.1
theorem dX10_begins_51 : decode cX10_begins 51 = .ok (.aload_n 0, 1) := dkAb16.2.2.2.2.2.2.2.1
theorem dX10_begins_52 : decode cX10_begins 52 = .ok (.getfield 7, 3) := dkAb16.2.2.2.2.2.2.2.2.1
theorem dX10_begins_55 : decode cX10_begins 55 = .ok (.bipush 10, 2) := dkAb16.2.2.2.2.2.2.2.2.2.1
theorem dX10_begins_57 : decode cX10_begins 57 = .ok (.aload_n 0, 1) := dkAb16.2.2.2.2.2.2.2.2.2.2.1
theorem dX10_begins_58 : decode cX10_begins 58 = .ok (.getfield 16, 3) := dkAb16.2.2.2.2.2.2.2.2.2.2.2
set_option maxRecDepth 100000 in
theorem dkAb17 : decode cX10_begins 61 = .ok (.bipush 14, 2) ∧ decode cX10_begins 63 = .ok (.bipush 14, 2) ∧ decode cX10_begins 65 = .ok (.invokestatic 66, 3) ∧ decode cX10_begins 68 = .ok (.aload_n 0, 1) ∧ decode cX10_begins 69 = .ok (.getfield 16, 3) ∧ decode cX10_begins 72 = .ok (.bipush 28, 2) ∧ decode cX10_begins 74 = .ok (.iconst 1, 1) ∧ decode cX10_begins 75 = .ok (.aload_n 0, 1) ∧ decode cX10_begins 76 = .ok (.getfield 7, 3) ∧ decode cX10_begins 79 = .ok (.iconst 0, 1) ∧ decode cX10_begins 80 = .ok (.iaload, 1) ∧ decode cX10_begins 81 = .ok (.ishl, 1) := by decide +kernel
theorem dX10_begins_61 : decode cX10_begins 61 = .ok (.bipush 14, 2) := dkAb17.1
theorem dX10_begins_63 : decode cX10_begins 63 = .ok (.bipush 14, 2) := dkAb17.2.1
theorem dX10_begins_65 : decode cX10_begins 65 = .ok (.invokestatic 66, 3) := dkAb17.2.2.1
theorem dX10_begins_68 : decode cX10_begins 68 = .ok (.aload_n 0, 1) := dkAb17.2.2.2.1
theorem dX10_begins_69 : decode cX10_begins 69 = .ok (.getfield 16, 3) := dkAb17.2.2.2.2.1
theorem dX10_begins_72 : decode cX10_begins 72 = .ok (.bipush 28, 2) := dkAb17.2.2.2.2.2.1
theorem dX10_begins_74 : decode cX10_begins 74 = .ok (.iconst 1, 1) := dkAb17.2.2.2.2.2.2.1
theorem dX10_begins_75 : decode cX10_begins 75 = .ok (.aload_n 0, 1) := dkAb17.2.2.2.2.2.2.2.1
theorem dX10_begins_76 : decode cX10_begins 76 = .ok (.getfield 7, 3) := dkAb17.2.2.2.2.2.2.2.2.1
theorem dX10_begins_79 : decode cX10_begins 79 = .ok (.iconst 0, 1) := dkAb17.2.2.2.2.2.2.2.2.2.1
theorem dX10_begins_80 : decode cX10_begins 80 = .ok (.iaload, 1) := dkAb17.2.2.2.2.2.2.2.2.2.2.1
theorem dX10_begins_81 : decode cX10_begins 81 = .ok (.ishl, 1) := dkAb17.2.2.2.2.2.2.2.2.2.2.2
set_option maxRecDepth 100000 in
theorem dkAb18 : decode cX10_begins 82 = .ok (.iconst 1, 1) ∧ decode cX10_begins 83 = .ok (.isub, 1) ∧ decode cX10_begins 84 = .ok (.iastore, 1) ∧ decode cX10_begins 85 = .ok (.aload_n 0, 1) ∧ decode cX10_begins 86 = .ok (.getfield 16, 3) ∧ decode cX10_begins 89 = .ok (.bipush 29, 2) ∧ decode cX10_begins 91 = .ok (.iconst 0, 1) ∧ decode cX10_begins 92 = .ok (.iastore, 1) ∧ decode cX10_begins 93 = .ok (.aload_n 0, 1) ∧ decode cX10_begins 94 = .ok (.iconst 0, 1) ∧ decode cX10_begins 95 = .ok (.putfield 70, 3) ∧ decode cX10_begins 98 = .ok (.aload_n 0, 1) := by decide +kernel
theorem dX10_begins_82 : decode cX10_begins 82 = .ok (.iconst 1, 1) := dkAb18.1
theorem dX10_begins_83 : decode cX10_begins 83 = .ok (.isub, 1) := dkAb18.2.1
theorem dX10_begins_84 : decode cX10_begins 84 = .ok (.iastore, 1) := dkAb18.2.2.1
theorem dX10_begins_85 : decode cX10_begins 85 = .ok (.aload_n 0, 1) := dkAb18.2.2.2.1
theorem dX10_begins_86 : decode cX10_begins 86 = .ok (.getfield 16, 3) := dkAb18.2.2.2.2.1
theorem dX10_begins_89 : decode cX10_begins 89 = .ok (.bipush 29, 2) := dkAb18.2.2.2.2.2.1
theorem dX10_begins_91 : decode cX10_begins 91 = .ok (.iconst 0, 1) := dkAb18.2.2.2.2.2.2.1
theorem dX10_begins_92 : decode cX10_begins 92 = .ok (.iastore, 1) := dkAb18.2.2.2.2.2.2.2.1
theorem dX10_begins_93 : decode cX10_begins 93 = .ok (.aload_n 0, 1) := dkAb18.2.2.2.2.2.2.2.2.1
theorem dX10_begins_94 : decode cX10_begins 94 = .ok (.iconst 0, 1) := dkAb18.2.2.2.2.2.2.2.2.2.1
theorem dX10_begins_95 : decode cX10_begins 95 = .ok (.putfield 70, 3) := dkAb18.2.2.2.2.2.2.2.2.2.2.1
theorem dX10_begins_98 : decode cX10_begins 98 = .ok (.aload_n 0, 1) := dkAb18.2.2.2.2.2.2.2.2.2.2.2
set_option maxRecDepth 100000 in
theorem dkAb19 : decode cX10_begins 99 = .ok (.iconst 0, 1) ∧ decode cX10_begins 100 = .ok (.putfield 73, 3) ∧ decode cX10_begins 103 = .ok (.aload_n 0, 1) ∧ decode cX10_begins 104 = .ok (.iconst 0, 1) ∧ decode cX10_begins 105 = .ok (.putfield 76, 3) ∧ decode cX10_begins 108 = .ok (.aload_n 0, 1) ∧ decode cX10_begins 109 = .ok (.iconst 0, 1) ∧ decode cX10_begins 110 = .ok (.putfield 79, 3) ∧ decode cX10_begins 113 = .ok (.aload_n 0, 1) ∧ decode cX10_begins 114 = .ok (.getfield 28, 3) ∧ decode cX10_begins 117 = .ok (.iconst 0, 1) ∧ decode cX10_begins 118 = .ok (.iconst 0, 1) := by decide +kernel
theorem dX10_begins_99 : decode cX10_begins 99 = .ok (.iconst 0, 1) := dkAb19.1
theorem dX10_begins_100 : decode cX10_begins 100 = .ok (.putfield 73, 3) := dkAb19.2.1
theorem dX10_begins_103 : decode cX10_begins 103 = .ok (.aload_n 0, 1) := dkAb19.2.2.1
theorem dX10_begins_104 : decode cX10_begins 104 = .ok (.iconst 0, 1) := dkAb19.2.2.2.1
theorem dX10_begins_105 : decode cX10_begins 105 = .ok (.putfield 76, 3) := dkAb19.2.2.2.2.1
theorem dX10_begins_108 : decode cX10_begins 108 = .ok (.aload_n 0, 1) := dkAb19.2.2.2.2.2.1
theorem dX10_begins_109 : decode cX10_begins 109 = .ok (.iconst 0, 1) := dkAb19.2.2.2.2.2.2.1
theorem dX10_begins_110 : decode cX10_begins 110 = .ok (.putfield 79, 3) := dkAb19.2.2.2.2.2.2.2.1
theorem dX10_begins_113 : decode cX10_begins 113 = .ok (.aload_n 0, 1) := dkAb19.2.2.2.2.2.2.2.2.1
theorem dX10_begins_114 : decode cX10_begins 114 = .ok (.getfield 28, 3) := dkAb19.2.2.2.2.2.2.2.2.2.1
theorem dX10_begins_117 : decode cX10_begins 117 = .ok (.iconst 0, 1) := dkAb19.2.2.2.2.2.2.2.2.2.2.1
theorem dX10_begins_118 : decode cX10_begins 118 = .ok (.iconst 0, 1) := dkAb19.2.2.2.2.2.2.2.2.2.2.2
set_option maxRecDepth 100000 in
theorem dkAb20 : decode cX10_begins 119 = .ok (.bastore, 1) ∧ decode cX10_begins 120 = .ok (.aload_n 0, 1) ∧ decode cX10_begins 121 = .ok (.getfield 28, 3) ∧ decode cX10_begins 124 = .ok (.iconst 1, 1) ∧ decode cX10_begins 125 = .ok (.iconst 0, 1) ∧ decode cX10_begins 126 = .ok (.bastore, 1) ∧ decode cX10_begins 127 = .ok (.return_, 1) := by decide +kernel
theorem dX10_begins_119 : decode cX10_begins 119 = .ok (.bastore, 1) := dkAb20.1
theorem dX10_begins_120 : decode cX10_begins 120 = .ok (.aload_n 0, 1) := dkAb20.2.1
theorem dX10_begins_121 : decode cX10_begins 121 = .ok (.getfield 28, 3) := dkAb20.2.2.1
theorem dX10_begins_124 : decode cX10_begins 124 = .ok (.iconst 1, 1) := dkAb20.2.2.2.1
theorem dX10_begins_125 : decode cX10_begins 125 = .ok (.iconst 0, 1) := dkAb20.2.2.2.2.1
theorem dX10_begins_126 : decode cX10_begins 126 = .ok (.bastore, 1) := dkAb20.2.2.2.2.2.1
theorem dX10_begins_127 : decode cX10_begins 127 = .ok (.return_, 1) := dkAb20.2.2.2.2.2.2
set_option maxRecDepth 100000 in
theorem dkAb21 : decode cX10_feed 0 = .ok (.iload_n 1, 1) ∧ decode cX10_feed 1 = .ok (.i2l, 1) ∧ decode cX10_feed 2 = .ok (.lconst 0, 1) ∧ decode cX10_feed 3 = .ok (.ldc2_w 82, 3) ∧ decode cX10_feed 6 = .ok (.invokestatic 62, 3) ∧ decode cX10_feed 9 = .ok (.ifCond .ne 6, 3) ∧ decode cX10_feed 12 = .ok (.ldc 84, 2) ∧ decode cX10_feed 14 = .ok (.ireturn, 1) ∧ decode cX10_feed 15 = .ok (.aload_n 0, 1) ∧ decode cX10_feed 16 = .ok (.getfield 85, 3) ∧ decode cX10_feed 19 = .ok (.sipush 240, 3) ∧ decode cX10_feed 22 = .ok (.if_icmp .ne 6, 3) := by decide +kernel
theorem dX10_feed_0 : decode cX10_feed 0 = .ok (.iload_n 1, 1) := dkAb21.1
theorem dX10_feed_1 : decode cX10_feed 1 = .ok (.i2l, 1) := dkAb21.2.1
theorem dX10_feed_2 : decode cX10_feed 2 = .ok (.lconst 0, 1) := dkAb21.2.2.1
theorem dX10_feed_3 : decode cX10_feed 3 = .ok (.ldc2_w 82, 3) := dkAb21.2.2.2.1
theorem dX10_feed_6 : decode cX10_feed 6 = .ok (.invokestatic 62, 3) := dkAb21.2.2.2.2.1
theorem dX10_feed_9 : decode cX10_feed 9 = .ok (.ifCond .ne 6, 3) := dkAb21.2.2.2.2.2.1
theorem dX10_feed_12 : decode cX10_feed 12 = .ok (.ldc 84, 2) := dkAb21.2.2.2.2.2.2.1
theorem dX10_feed_14 : decode cX10_feed 14 = .ok (.ireturn, 1) := dkAb21.2.2.2.2.2.2.2.1
theorem dX10_feed_15 : decode cX10_feed 15 = .ok (.aload_n 0, 1) := dkAb21.2.2.2.2.2.2.2.2.1
theorem dX10_feed_16 : decode cX10_feed 16 = .ok (.getfield 85, 3) := dkAb21.2.2.2.2.2.2.2.2.2.1
theorem dX10_feed_19 : decode cX10_feed 19 = .ok (.sipush 240, 3) := dkAb21.2.2.2.2.2.2.2.2.2.2.1
theorem dX10_feed_22 : decode cX10_feed 22 = .ok (.if_icmp .ne 6, 3) := dkAb21.2.2.2.2.2.2.2.2.2.2.2
set_option maxRecDepth 100000 in
theorem dkAb22 : decode cX10_feed 25 = .ok (.ldc 88, 2) ∧ decode cX10_feed 27 = .ok (.ireturn, 1) ∧ decode cX10_feed 28 = .ok (.aload_n 0, 1) ∧ decode cX10_feed 29 = .ok (.getfield 32, 3) ∧ decode cX10_feed 32 = .ok (.aload_n 0, 1) ∧ decode cX10_feed 33 = .ok (.getfield 85, 3) ∧ decode cX10_feed 36 = .ok (.iload_n 1, 1) ∧ decode cX10_feed 37 = .ok (.iastore, 1) ∧ decode cX10_feed 38 = .ok (.aload_n 0, 1) ∧ decode cX10_feed 39 = .ok (.dup, 1) ∧ decode cX10_feed 40 = .ok (.getfield 85, 3) ∧ decode cX10_feed 43 = .ok (.iconst 1, 1) := by decide +kernel
theorem dX10_feed_25 : decode cX10_feed 25 = .ok (.ldc 88, 2) := dkAb22.1
theorem dX10_feed_27 : decode cX10_feed 27 = .ok (.ireturn, 1) := dkAb22.2.1
theorem dX10_feed_28 : decode cX10_feed 28 = .ok (.aload_n 0, 1) := dkAb22.2.2.1
theorem dX10_feed_29 : decode cX10_feed 29 = .ok (.getfield 32, 3) := dkAb22.2.2.2.1
theorem dX10_feed_32 : decode cX10_feed 32 = .ok (.aload_n 0, 1) := dkAb22.2.2.2.2.1
theorem dX10_feed_33 : decode cX10_feed 33 = .ok (.getfield 85, 3) := dkAb22.2.2.2.2.2.1
theorem dX10_feed_36 : decode cX10_feed 36 = .ok (.iload_n 1, 1) := dkAb22.2.2.2.2.2.2.1
theorem dX10_feed_37 : decode cX10_feed 37 = .ok (.iastore, 1) := dkAb22.2.2.2.2.2.2.2.1
theorem dX10_feed_38 : decode cX10_feed 38 = .ok (.aload_n 0, 1) := dkAb22.2.2.2.2.2.2.2.2.1
theorem dX10_feed_39 : decode cX10_feed 39 = .ok (.dup, 1) := dkAb22.2.2.2.2.2.2.2.2.2.1
theorem dX10_feed_40 : decode cX10_feed 40 = .ok (.getfield 85, 3) := dkAb22.2.2.2.2.2.2.2.2.2.2.1
theorem dX10_feed_43 : decode cX10_feed 43 = .ok (.iconst 1, 1) := dkAb22.2.2.2.2.2.2.2.2.2.2.2
set_option maxRecDepth 100000 in
theorem dkAb23 : decode cX10_feed 44 = .ok (.iadd, 1) ∧ decode cX10_feed 45 = .ok (.putfield 85, 3) ∧ decode cX10_feed 48 = .ok (.aload_n 0, 1) ∧ decode cX10_feed 49 = .ok (.getfield 85, 3) ∧ decode cX10_feed 52 = .ok (.ireturn, 1) := by decide +kernel
theorem dX10_feed_44 : decode cX10_feed 44 = .ok (.iadd, 1) := dkAb23.1
theorem dX10_feed_45 : decode cX10_feed 45 = .ok (.putfield 85, 3) := dkAb23.2.1
theorem dX10_feed_48 : decode cX10_feed 48 = .ok (.aload_n 0, 1) := dkAb23.2.2.1
theorem dX10_feed_49 : decode cX10_feed 49 = .ok (.getfield 85, 3) := dkAb23.2.2.2.1
theorem dX10_feed_52 : decode cX10_feed 52 = .ok (.ireturn, 1) := dkAb23.2.2.2.2
set_option maxRecDepth 100000 in
theorem dkAb24 : decode cX10_here 0 = .ok (.aload_n 0, 1) ∧ decode cX10_here 1 = .ok (.getfield 89, 3) ∧ decode cX10_here 4 = .ok (.aload_n 0, 1) ∧ decode cX10_here 5 = .ok (.getfield 85, 3) ∧ decode cX10_here 8 = .ok (.if_icmp .ge 15, 3) ∧ decode cX10_here 11 = .ok (.aload_n 0, 1) ∧ decode cX10_here 12 = .ok (.getfield 32, 3) ∧ decode cX10_here 15 = .ok (.aload_n 0, 1) ∧ decode cX10_here 16 = .ok (.getfield 89, 3) ∧ decode cX10_here 19 = .ok (.iaload, 1) ∧ decode cX10_here 20 = .ok (.goto 4, 3) ∧ decode cX10_here 23 = .ok (.iconst (-1), 1) := by decide +kernel
theorem dX10_here_0 : decode cX10_here 0 = .ok (.aload_n 0, 1) := dkAb24.1
theorem dX10_here_1 : decode cX10_here 1 = .ok (.getfield 89, 3) := dkAb24.2.1
theorem dX10_here_4 : decode cX10_here 4 = .ok (.aload_n 0, 1) := dkAb24.2.2.1
theorem dX10_here_5 : decode cX10_here 5 = .ok (.getfield 85, 3) := dkAb24.2.2.2.1
theorem dX10_here_8 : decode cX10_here 8 = .ok (.if_icmp .ge 15, 3) := dkAb24.2.2.2.2.1
theorem dX10_here_11 : decode cX10_here 11 = .ok (.aload_n 0, 1) := dkAb24.2.2.2.2.2.1
theorem dX10_here_12 : decode cX10_here 12 = .ok (.getfield 32, 3) := dkAb24.2.2.2.2.2.2.1
theorem dX10_here_15 : decode cX10_here 15 = .ok (.aload_n 0, 1) := dkAb24.2.2.2.2.2.2.2.1
theorem dX10_here_16 : decode cX10_here 16 = .ok (.getfield 89, 3) := dkAb24.2.2.2.2.2.2.2.2.1
theorem dX10_here_19 : decode cX10_here 19 = .ok (.iaload, 1) := dkAb24.2.2.2.2.2.2.2.2.2.1
theorem dX10_here_20 : decode cX10_here 20 = .ok (.goto 4, 3) := dkAb24.2.2.2.2.2.2.2.2.2.2.1
theorem dX10_here_23 : decode cX10_here 23 = .ok (.iconst (-1), 1) := dkAb24.2.2.2.2.2.2.2.2.2.2.2
theorem dX10_here_24 : decode cX10_here 24 = .ok (.ireturn, 1) := by decide +kernel
set_option maxRecDepth 100000 in
theorem dkAb25 : decode cX10_step 0 = .ok (.aload_n 0, 1) ∧ decode cX10_step 1 = .ok (.invokevirtual 92, 3) ∧ decode cX10_step 4 = .ok (.bipush 32, 2) ∧ decode cX10_step 6 = .ok (.if_icmp .ne 16, 3) ∧ decode cX10_step 9 = .ok (.aload_n 0, 1) ∧ decode cX10_step 10 = .ok (.dup, 1) ∧ decode cX10_step 11 = .ok (.getfield 89, 3) ∧ decode cX10_step 14 = .ok (.iconst 1, 1) ∧ decode cX10_step 15 = .ok (.iadd, 1) ∧ decode cX10_step 16 = .ok (.putfield 89, 3) ∧ decode cX10_step 19 = .ok (.goto (-19), 3) ∧ decode cX10_step 22 = .ok (.aload_n 0, 1) := by decide +kernel
theorem dX10_step_0 : decode cX10_step 0 = .ok (.aload_n 0, 1) := dkAb25.1
theorem dX10_step_1 : decode cX10_step 1 = .ok (.invokevirtual 92, 3) := dkAb25.2.1
theorem dX10_step_4 : decode cX10_step 4 = .ok (.bipush 32, 2) := dkAb25.2.2.1
theorem dX10_step_6 : decode cX10_step 6 = .ok (.if_icmp .ne 16, 3) := dkAb25.2.2.2.1
theorem dX10_step_9 : decode cX10_step 9 = .ok (.aload_n 0, 1) := dkAb25.2.2.2.2.1
theorem dX10_step_10 : decode cX10_step 10 = .ok (.dup, 1) := dkAb25.2.2.2.2.2.1
theorem dX10_step_11 : decode cX10_step 11 = .ok (.getfield 89, 3) := dkAb25.2.2.2.2.2.2.1
theorem dX10_step_14 : decode cX10_step 14 = .ok (.iconst 1, 1) := dkAb25.2.2.2.2.2.2.2.1
theorem dX10_step_15 : decode cX10_step 15 = .ok (.iadd, 1) := dkAb25.2.2.2.2.2.2.2.2.1
theorem dX10_step_16 : decode cX10_step 16 = .ok (.putfield 89, 3) := dkAb25.2.2.2.2.2.2.2.2.2.1
theorem dX10_step_19 : decode cX10_step 19 = .ok (.goto (-19), 3) := dkAb25.2.2.2.2.2.2.2.2.2.2.1
theorem dX10_step_22 : decode cX10_step 22 = .ok (.aload_n 0, 1) := dkAb25.2.2.2.2.2.2.2.2.2.2.2
set_option maxRecDepth 100000 in
theorem dkAb26 : decode cX10_step 23 = .ok (.aload_n 0, 1) ∧ decode cX10_step 24 = .ok (.getfield 89, 3) ∧ decode cX10_step 27 = .ok (.putfield 96, 3) ∧ decode cX10_step 30 = .ok (.aload_n 0, 1) ∧ decode cX10_step 31 = .ok (.aload_n 0, 1) ∧ decode cX10_step 32 = .ok (.invokevirtual 92, 3) ∧ decode cX10_step 35 = .ok (.putfield 99, 3) ∧ decode cX10_step 38 = .ok (.aload_n 0, 1) ∧ decode cX10_step 39 = .ok (.iconst 0, 1) ∧ decode cX10_step 40 = .ok (.putfield 102, 3) ∧ decode cX10_step 43 = .ok (.aload_n 0, 1) ∧ decode cX10_step 44 = .ok (.iconst 0, 1) := by decide +kernel
theorem dX10_step_23 : decode cX10_step 23 = .ok (.aload_n 0, 1) := dkAb26.1
theorem dX10_step_24 : decode cX10_step 24 = .ok (.getfield 89, 3) := dkAb26.2.1
theorem dX10_step_27 : decode cX10_step 27 = .ok (.putfield 96, 3) := dkAb26.2.2.1
theorem dX10_step_30 : decode cX10_step 30 = .ok (.aload_n 0, 1) := dkAb26.2.2.2.1
theorem dX10_step_31 : decode cX10_step 31 = .ok (.aload_n 0, 1) := dkAb26.2.2.2.2.1
theorem dX10_step_32 : decode cX10_step 32 = .ok (.invokevirtual 92, 3) := dkAb26.2.2.2.2.2.1
theorem dX10_step_35 : decode cX10_step 35 = .ok (.putfield 99, 3) := dkAb26.2.2.2.2.2.2.1
theorem dX10_step_38 : decode cX10_step 38 = .ok (.aload_n 0, 1) := dkAb26.2.2.2.2.2.2.2.1
theorem dX10_step_39 : decode cX10_step 39 = .ok (.iconst 0, 1) := dkAb26.2.2.2.2.2.2.2.2.1
theorem dX10_step_40 : decode cX10_step 40 = .ok (.putfield 102, 3) := dkAb26.2.2.2.2.2.2.2.2.2.1
theorem dX10_step_43 : decode cX10_step 43 = .ok (.aload_n 0, 1) := dkAb26.2.2.2.2.2.2.2.2.2.2.1
theorem dX10_step_44 : decode cX10_step 44 = .ok (.iconst 0, 1) := dkAb26.2.2.2.2.2.2.2.2.2.2.2
set_option maxRecDepth 100000 in
theorem dkAb27 : decode cX10_step 45 = .ok (.putfield 105, 3) ∧ decode cX10_step 48 = .ok (.aload_n 0, 1) ∧ decode cX10_step 49 = .ok (.getfield 99, 3) ∧ decode cX10_step 52 = .ok (.i2l, 1) ∧ decode cX10_step 53 = .ok (.ldc2_w 108, 3) ∧ decode cX10_step 56 = .ok (.ldc2_w 110, 3) ∧ decode cX10_step 59 = .ok (.invokestatic 62, 3) ∧ decode cX10_step 62 = .ok (.ifCond .ne 25, 3) ∧ decode cX10_step 65 = .ok (.aload_n 0, 1) ∧ decode cX10_step 66 = .ok (.dup, 1) ∧ decode cX10_step 67 = .ok (.getfield 89, 3) ∧ decode cX10_step 70 = .ok (.aload_n 0, 1) := by decide +kernel
theorem dX10_step_45 : decode cX10_step 45 = .ok (.putfield 105, 3) := dkAb27.1
theorem dX10_step_48 : decode cX10_step 48 = .ok (.aload_n 0, 1) := dkAb27.2.1
theorem dX10_step_49 : decode cX10_step 49 = .ok (.getfield 99, 3) := dkAb27.2.2.1
theorem dX10_step_52 : decode cX10_step 52 = .ok (.i2l, 1) := dkAb27.2.2.2.1
theorem dX10_step_53 : decode cX10_step 53 = .ok (.ldc2_w 108, 3) := dkAb27.2.2.2.2.1
theorem dX10_step_56 : decode cX10_step 56 = .ok (.ldc2_w 110, 3) := dkAb27.2.2.2.2.2.1
theorem dX10_step_59 : decode cX10_step 59 = .ok (.invokestatic 62, 3) := dkAb27.2.2.2.2.2.2.1
theorem dX10_step_62 : decode cX10_step 62 = .ok (.ifCond .ne 25, 3) := dkAb27.2.2.2.2.2.2.2.1
theorem dX10_step_65 : decode cX10_step 65 = .ok (.aload_n 0, 1) := dkAb27.2.2.2.2.2.2.2.2.1
theorem dX10_step_66 : decode cX10_step 66 = .ok (.dup, 1) := dkAb27.2.2.2.2.2.2.2.2.2.1
theorem dX10_step_67 : decode cX10_step 67 = .ok (.getfield 89, 3) := dkAb27.2.2.2.2.2.2.2.2.2.2.1
theorem dX10_step_70 : decode cX10_step 70 = .ok (.aload_n 0, 1) := dkAb27.2.2.2.2.2.2.2.2.2.2.2
set_option maxRecDepth 100000 in
theorem dkAb28 : decode cX10_step 71 = .ok (.getfield 99, 3) ∧ decode cX10_step 74 = .ok (.ifCond .ge 7, 3) ∧ decode cX10_step 77 = .ok (.iconst 0, 1) ∧ decode cX10_step 78 = .ok (.goto 4, 3) ∧ decode cX10_step 81 = .ok (.iconst 1, 1) ∧ decode cX10_step 82 = .ok (.iadd, 1) ∧ decode cX10_step 83 = .ok (.putfield 89, 3) ∧ decode cX10_step 86 = .ok (.return_, 1) ∧ decode cX10_step 87 = .ok (.aload_n 0, 1) ∧ decode cX10_step 88 = .ok (.bipush 48, 2) ∧ decode cX10_step 90 = .ok (.putfield 99, 3) ∧ decode cX10_step 93 = .ok (.aload_n 0, 1) := by decide +kernel
theorem dX10_step_71 : decode cX10_step 71 = .ok (.getfield 99, 3) := dkAb28.1
theorem dX10_step_74 : decode cX10_step 74 = .ok (.ifCond .ge 7, 3) := dkAb28.2.1
theorem dX10_step_77 : decode cX10_step 77 = .ok (.iconst 0, 1) := dkAb28.2.2.1
theorem dX10_step_78 : decode cX10_step 78 = .ok (.goto 4, 3) := dkAb28.2.2.2.1
theorem dX10_step_81 : decode cX10_step 81 = .ok (.iconst 1, 1) := dkAb28.2.2.2.2.1
theorem dX10_step_82 : decode cX10_step 82 = .ok (.iadd, 1) := dkAb28.2.2.2.2.2.1
theorem dX10_step_83 : decode cX10_step 83 = .ok (.putfield 89, 3) := dkAb28.2.2.2.2.2.2.1
theorem dX10_step_86 : decode cX10_step 86 = .ok (.return_, 1) := dkAb28.2.2.2.2.2.2.2.1
theorem dX10_step_87 : decode cX10_step 87 = .ok (.aload_n 0, 1) := dkAb28.2.2.2.2.2.2.2.2.1
theorem dX10_step_88 : decode cX10_step 88 = .ok (.bipush 48, 2) := dkAb28.2.2.2.2.2.2.2.2.2.1
theorem dX10_step_90 : decode cX10_step 90 = .ok (.putfield 99, 3) := dkAb28.2.2.2.2.2.2.2.2.2.2.1
theorem dX10_step_93 : decode cX10_step 93 = .ok (.aload_n 0, 1) := dkAb28.2.2.2.2.2.2.2.2.2.2.2
set_option maxRecDepth 100000 in
theorem dkAb29 : decode cX10_step 94 = .ok (.invokevirtual 92, 3) ∧ decode cX10_step 97 = .ok (.i2l, 1) ∧ decode cX10_step 98 = .ok (.ldc2_w 108, 3) ∧ decode cX10_step 101 = .ok (.ldc2_w 110, 3) ∧ decode cX10_step 104 = .ok (.invokestatic 62, 3) ∧ decode cX10_step 107 = .ok (.ifCond .eq 60, 3) ∧ decode cX10_step 110 = .ok (.aload_n 0, 1) ∧ decode cX10_step 111 = .ok (.aload_n 0, 1) ∧ decode cX10_step 112 = .ok (.getfield 102, 3) ∧ decode cX10_step 115 = .ok (.iconst 3, 1) ∧ decode cX10_step 116 = .ok (.if_icmp .ge 21, 3) ∧ decode cX10_step 119 = .ok (.bipush 10, 2) := by decide +kernel
theorem dX10_step_94 : decode cX10_step 94 = .ok (.invokevirtual 92, 3) := dkAb29.1
theorem dX10_step_97 : decode cX10_step 97 = .ok (.i2l, 1) := dkAb29.2.1
theorem dX10_step_98 : decode cX10_step 98 = .ok (.ldc2_w 108, 3) := dkAb29.2.2.1
theorem dX10_step_101 : decode cX10_step 101 = .ok (.ldc2_w 110, 3) := dkAb29.2.2.2.1
theorem dX10_step_104 : decode cX10_step 104 = .ok (.invokestatic 62, 3) := dkAb29.2.2.2.2.1
theorem dX10_step_107 : decode cX10_step 107 = .ok (.ifCond .eq 60, 3) := dkAb29.2.2.2.2.2.1
theorem dX10_step_110 : decode cX10_step 110 = .ok (.aload_n 0, 1) := dkAb29.2.2.2.2.2.2.1
theorem dX10_step_111 : decode cX10_step 111 = .ok (.aload_n 0, 1) := dkAb29.2.2.2.2.2.2.2.1
theorem dX10_step_112 : decode cX10_step 112 = .ok (.getfield 102, 3) := dkAb29.2.2.2.2.2.2.2.2.1
theorem dX10_step_115 : decode cX10_step 115 = .ok (.iconst 3, 1) := dkAb29.2.2.2.2.2.2.2.2.2.1
theorem dX10_step_116 : decode cX10_step 116 = .ok (.if_icmp .ge 21, 3) := dkAb29.2.2.2.2.2.2.2.2.2.2.1
theorem dX10_step_119 : decode cX10_step 119 = .ok (.bipush 10, 2) := dkAb29.2.2.2.2.2.2.2.2.2.2.2
set_option maxRecDepth 100000 in
theorem dkAb30 : decode cX10_step 121 = .ok (.aload_n 0, 1) ∧ decode cX10_step 122 = .ok (.getfield 105, 3) ∧ decode cX10_step 125 = .ok (.imul, 1) ∧ decode cX10_step 126 = .ok (.aload_n 0, 1) ∧ decode cX10_step 127 = .ok (.invokevirtual 92, 3) ∧ decode cX10_step 130 = .ok (.iadd, 1) ∧ decode cX10_step 131 = .ok (.bipush 48, 2) ∧ decode cX10_step 133 = .ok (.isub, 1) ∧ decode cX10_step 134 = .ok (.goto 7, 3) ∧ decode cX10_step 137 = .ok (.aload_n 0, 1) ∧ decode cX10_step 138 = .ok (.getfield 105, 3) ∧ decode cX10_step 141 = .ok (.putfield 105, 3) := by decide +kernel
theorem dX10_step_121 : decode cX10_step 121 = .ok (.aload_n 0, 1) := dkAb30.1
theorem dX10_step_122 : decode cX10_step 122 = .ok (.getfield 105, 3) := dkAb30.2.1
theorem dX10_step_125 : decode cX10_step 125 = .ok (.imul, 1) := dkAb30.2.2.1
theorem dX10_step_126 : decode cX10_step 126 = .ok (.aload_n 0, 1) := dkAb30.2.2.2.1
theorem dX10_step_127 : decode cX10_step 127 = .ok (.invokevirtual 92, 3) := dkAb30.2.2.2.2.1
theorem dX10_step_130 : decode cX10_step 130 = .ok (.iadd, 1) := dkAb30.2.2.2.2.2.1
theorem dX10_step_131 : decode cX10_step 131 = .ok (.bipush 48, 2) := dkAb30.2.2.2.2.2.2.1
theorem dX10_step_133 : decode cX10_step 133 = .ok (.isub, 1) := dkAb30.2.2.2.2.2.2.2.1
theorem dX10_step_134 : decode cX10_step 134 = .ok (.goto 7, 3) := dkAb30.2.2.2.2.2.2.2.2.1
theorem dX10_step_137 : decode cX10_step 137 = .ok (.aload_n 0, 1) := dkAb30.2.2.2.2.2.2.2.2.2.1
theorem dX10_step_138 : decode cX10_step 138 = .ok (.getfield 105, 3) := dkAb30.2.2.2.2.2.2.2.2.2.2.1
theorem dX10_step_141 : decode cX10_step 141 = .ok (.putfield 105, 3) := dkAb30.2.2.2.2.2.2.2.2.2.2.2
set_option maxRecDepth 100000 in
theorem dkAb31 : decode cX10_step 144 = .ok (.aload_n 0, 1) ∧ decode cX10_step 145 = .ok (.dup, 1) ∧ decode cX10_step 146 = .ok (.getfield 102, 3) ∧ decode cX10_step 149 = .ok (.iconst 1, 1) ∧ decode cX10_step 150 = .ok (.iadd, 1) ∧ decode cX10_step 151 = .ok (.putfield 102, 3) ∧ decode cX10_step 154 = .ok (.aload_n 0, 1) ∧ decode cX10_step 155 = .ok (.dup, 1) ∧ decode cX10_step 156 = .ok (.getfield 89, 3) ∧ decode cX10_step 159 = .ok (.iconst 1, 1) ∧ decode cX10_step 160 = .ok (.iadd, 1) ∧ decode cX10_step 161 = .ok (.putfield 89, 3) := by decide +kernel
theorem dX10_step_144 : decode cX10_step 144 = .ok (.aload_n 0, 1) := dkAb31.1
theorem dX10_step_145 : decode cX10_step 145 = .ok (.dup, 1) := dkAb31.2.1
theorem dX10_step_146 : decode cX10_step 146 = .ok (.getfield 102, 3) := dkAb31.2.2.1
theorem dX10_step_149 : decode cX10_step 149 = .ok (.iconst 1, 1) := dkAb31.2.2.2.1
theorem dX10_step_150 : decode cX10_step 150 = .ok (.iadd, 1) := dkAb31.2.2.2.2.1
theorem dX10_step_151 : decode cX10_step 151 = .ok (.putfield 102, 3) := dkAb31.2.2.2.2.2.1
theorem dX10_step_154 : decode cX10_step 154 = .ok (.aload_n 0, 1) := dkAb31.2.2.2.2.2.2.1
theorem dX10_step_155 : decode cX10_step 155 = .ok (.dup, 1) := dkAb31.2.2.2.2.2.2.2.1
theorem dX10_step_156 : decode cX10_step 156 = .ok (.getfield 89, 3) := dkAb31.2.2.2.2.2.2.2.2.1
theorem dX10_step_159 : decode cX10_step 159 = .ok (.iconst 1, 1) := dkAb31.2.2.2.2.2.2.2.2.2.1
theorem dX10_step_160 : decode cX10_step 160 = .ok (.iadd, 1) := dkAb31.2.2.2.2.2.2.2.2.2.2.1
theorem dX10_step_161 : decode cX10_step 161 = .ok (.putfield 89, 3) := dkAb31.2.2.2.2.2.2.2.2.2.2.2
theorem dX10_step_164 : decode cX10_step 164 = .ok (.goto (-71), 3) := by decide +kernel
theorem dX10_step_167 : decode cX10_step 167 = .ok (.return_, 1) := by decide +kernel
set_option maxRecDepth 100000 in
theorem dkAb32 : decode cX10_fails 0 = .ok (.aload_n 0, 1) ∧ decode cX10_fails 1 = .ok (.iload_n 1, 1) ∧ decode cX10_fails 2 = .ok (.putfield 112, 3) ∧ decode cX10_fails 5 = .ok (.iconst 0, 1) ∧ decode cX10_fails 6 = .ok (.ireturn, 1) := by decide +kernel
theorem dX10_fails_0 : decode cX10_fails 0 = .ok (.aload_n 0, 1) := dkAb32.1
theorem dX10_fails_1 : decode cX10_fails 1 = .ok (.iload_n 1, 1) := dkAb32.2.1
theorem dX10_fails_2 : decode cX10_fails 2 = .ok (.putfield 112, 3) := dkAb32.2.2.1
theorem dX10_fails_5 : decode cX10_fails 5 = .ok (.iconst 0, 1) := dkAb32.2.2.2.1
theorem dX10_fails_6 : decode cX10_fails 6 = .ok (.ireturn, 1) := dkAb32.2.2.2.2
set_option maxRecDepth 100000 in
theorem dkAb33 : decode cX10_number 0 = .ok (.aload_n 0, 1) ∧ decode cX10_number 1 = .ok (.invokevirtual 115, 3) ∧ decode cX10_number 4 = .ok (.aload_n 0, 1) ∧ decode cX10_number 5 = .ok (.getfield 99, 3) ∧ decode cX10_number 8 = .ok (.bipush 48, 2) ∧ decode cX10_number 10 = .ok (.if_icmp .eq 9, 3) ∧ decode cX10_number 13 = .ok (.aload_n 0, 1) ∧ decode cX10_number 14 = .ok (.iconst 1, 1) ∧ decode cX10_number 15 = .ok (.invokevirtual 118, 3) ∧ decode cX10_number 18 = .ok (.ireturn, 1) ∧ decode cX10_number 19 = .ok (.aload_n 0, 1) ∧ decode cX10_number 20 = .ok (.getfield 102, 3) := by decide +kernel
theorem dX10_number_0 : decode cX10_number 0 = .ok (.aload_n 0, 1) := dkAb33.1
theorem dX10_number_1 : decode cX10_number 1 = .ok (.invokevirtual 115, 3) := dkAb33.2.1
theorem dX10_number_4 : decode cX10_number 4 = .ok (.aload_n 0, 1) := dkAb33.2.2.1
theorem dX10_number_5 : decode cX10_number 5 = .ok (.getfield 99, 3) := dkAb33.2.2.2.1
theorem dX10_number_8 : decode cX10_number 8 = .ok (.bipush 48, 2) := dkAb33.2.2.2.2.1
theorem dX10_number_10 : decode cX10_number 10 = .ok (.if_icmp .eq 9, 3) := dkAb33.2.2.2.2.2.1
theorem dX10_number_13 : decode cX10_number 13 = .ok (.aload_n 0, 1) := dkAb33.2.2.2.2.2.2.1
theorem dX10_number_14 : decode cX10_number 14 = .ok (.iconst 1, 1) := dkAb33.2.2.2.2.2.2.2.1
theorem dX10_number_15 : decode cX10_number 15 = .ok (.invokevirtual 118, 3) := dkAb33.2.2.2.2.2.2.2.2.1
theorem dX10_number_18 : decode cX10_number 18 = .ok (.ireturn, 1) := dkAb33.2.2.2.2.2.2.2.2.2.1
theorem dX10_number_19 : decode cX10_number 19 = .ok (.aload_n 0, 1) := dkAb33.2.2.2.2.2.2.2.2.2.2.1
theorem dX10_number_20 : decode cX10_number 20 = .ok (.getfield 102, 3) := dkAb33.2.2.2.2.2.2.2.2.2.2.2
set_option maxRecDepth 100000 in
theorem dkAb34 : decode cX10_number 23 = .ok (.iconst 3, 1) ∧ decode cX10_number 24 = .ok (.if_icmp .gt 18, 3) ∧ decode cX10_number 27 = .ok (.aload_n 0, 1) ∧ decode cX10_number 28 = .ok (.getfield 105, 3) ∧ decode cX10_number 31 = .ok (.i2l, 1) ∧ decode cX10_number 32 = .ok (.iload_n 2, 1) ∧ decode cX10_number 33 = .ok (.i2l, 1) ∧ decode cX10_number 34 = .ok (.iload_n 3, 1) ∧ decode cX10_number 35 = .ok (.i2l, 1) ∧ decode cX10_number 36 = .ok (.invokestatic 62, 3) ∧ decode cX10_number 39 = .ok (.ifCond .ne 9, 3) ∧ decode cX10_number 42 = .ok (.aload_n 0, 1) := by decide +kernel
theorem dX10_number_23 : decode cX10_number 23 = .ok (.iconst 3, 1) := dkAb34.1
theorem dX10_number_24 : decode cX10_number 24 = .ok (.if_icmp .gt 18, 3) := dkAb34.2.1
theorem dX10_number_27 : decode cX10_number 27 = .ok (.aload_n 0, 1) := dkAb34.2.2.1
theorem dX10_number_28 : decode cX10_number 28 = .ok (.getfield 105, 3) := dkAb34.2.2.2.1
theorem dX10_number_31 : decode cX10_number 31 = .ok (.i2l, 1) := dkAb34.2.2.2.2.1
theorem dX10_number_32 : decode cX10_number 32 = .ok (.iload_n 2, 1) := dkAb34.2.2.2.2.2.1
theorem dX10_number_33 : decode cX10_number 33 = .ok (.i2l, 1) := dkAb34.2.2.2.2.2.2.1
theorem dX10_number_34 : decode cX10_number 34 = .ok (.iload_n 3, 1) := dkAb34.2.2.2.2.2.2.2.1
theorem dX10_number_35 : decode cX10_number 35 = .ok (.i2l, 1) := dkAb34.2.2.2.2.2.2.2.2.1
theorem dX10_number_36 : decode cX10_number 36 = .ok (.invokestatic 62, 3) := dkAb34.2.2.2.2.2.2.2.2.2.1
theorem dX10_number_39 : decode cX10_number 39 = .ok (.ifCond .ne 9, 3) := dkAb34.2.2.2.2.2.2.2.2.2.2.1
theorem dX10_number_42 : decode cX10_number 42 = .ok (.aload_n 0, 1) := dkAb34.2.2.2.2.2.2.2.2.2.2.2
set_option maxRecDepth 100000 in
theorem dkAb35 : decode cX10_number 43 = .ok (.iconst 2, 1) ∧ decode cX10_number 44 = .ok (.invokevirtual 118, 3) ∧ decode cX10_number 47 = .ok (.ireturn, 1) ∧ decode cX10_number 48 = .ok (.aload_n 0, 1) ∧ decode cX10_number 49 = .ok (.getfield 13, 3) ∧ decode cX10_number 52 = .ok (.iload_n 1, 1) ∧ decode cX10_number 53 = .ok (.aload_n 0, 1) ∧ decode cX10_number 54 = .ok (.getfield 105, 3) ∧ decode cX10_number 57 = .ok (.iastore, 1) ∧ decode cX10_number 58 = .ok (.iconst 1, 1) ∧ decode cX10_number 59 = .ok (.ireturn, 1) := by decide +kernel
theorem dX10_number_43 : decode cX10_number 43 = .ok (.iconst 2, 1) := dkAb35.1
theorem dX10_number_44 : decode cX10_number 44 = .ok (.invokevirtual 118, 3) := dkAb35.2.1
theorem dX10_number_47 : decode cX10_number 47 = .ok (.ireturn, 1) := dkAb35.2.2.1
theorem dX10_number_48 : decode cX10_number 48 = .ok (.aload_n 0, 1) := dkAb35.2.2.2.1
theorem dX10_number_49 : decode cX10_number 49 = .ok (.getfield 13, 3) := dkAb35.2.2.2.2.1
theorem dX10_number_52 : decode cX10_number 52 = .ok (.iload_n 1, 1) := dkAb35.2.2.2.2.2.1
theorem dX10_number_53 : decode cX10_number 53 = .ok (.aload_n 0, 1) := dkAb35.2.2.2.2.2.2.1
theorem dX10_number_54 : decode cX10_number 54 = .ok (.getfield 105, 3) := dkAb35.2.2.2.2.2.2.2.1
theorem dX10_number_57 : decode cX10_number 57 = .ok (.iastore, 1) := dkAb35.2.2.2.2.2.2.2.2.1
theorem dX10_number_58 : decode cX10_number 58 = .ok (.iconst 1, 1) := dkAb35.2.2.2.2.2.2.2.2.2.1
theorem dX10_number_59 : decode cX10_number 59 = .ok (.ireturn, 1) := dkAb35.2.2.2.2.2.2.2.2.2.2
set_option maxRecDepth 100000 in
theorem dkAb36 : decode cX10_ends 0 = .ok (.aload_n 0, 1) ∧ decode cX10_ends 1 = .ok (.invokevirtual 115, 3) ∧ decode cX10_ends 4 = .ok (.aload_n 0, 1) ∧ decode cX10_ends 5 = .ok (.getfield 99, 3) ∧ decode cX10_ends 8 = .ok (.bipush 59, 2) ∧ decode cX10_ends 10 = .ok (.if_icmp .eq 11, 3) ∧ decode cX10_ends 13 = .ok (.aload_n 0, 1) ∧ decode cX10_ends 14 = .ok (.iconst 1, 1) ∧ decode cX10_ends 15 = .ok (.invokevirtual 118, 3) ∧ decode cX10_ends 18 = .ok (.ifCond .eq 7, 3) ∧ decode cX10_ends 21 = .ok (.iconst 1, 1) ∧ decode cX10_ends 22 = .ok (.goto 4, 3) := by decide +kernel
theorem dX10_ends_0 : decode cX10_ends 0 = .ok (.aload_n 0, 1) := dkAb36.1
theorem dX10_ends_1 : decode cX10_ends 1 = .ok (.invokevirtual 115, 3) := dkAb36.2.1
theorem dX10_ends_4 : decode cX10_ends 4 = .ok (.aload_n 0, 1) := dkAb36.2.2.1
theorem dX10_ends_5 : decode cX10_ends 5 = .ok (.getfield 99, 3) := dkAb36.2.2.2.1
theorem dX10_ends_8 : decode cX10_ends 8 = .ok (.bipush 59, 2) := dkAb36.2.2.2.2.1
theorem dX10_ends_10 : decode cX10_ends 10 = .ok (.if_icmp .eq 11, 3) := dkAb36.2.2.2.2.2.1
theorem dX10_ends_13 : decode cX10_ends 13 = .ok (.aload_n 0, 1) := dkAb36.2.2.2.2.2.2.1
theorem dX10_ends_14 : decode cX10_ends 14 = .ok (.iconst 1, 1) := dkAb36.2.2.2.2.2.2.2.1
theorem dX10_ends_15 : decode cX10_ends 15 = .ok (.invokevirtual 118, 3) := dkAb36.2.2.2.2.2.2.2.2.1
theorem dX10_ends_18 : decode cX10_ends 18 = .ok (.ifCond .eq 7, 3) := dkAb36.2.2.2.2.2.2.2.2.2.1
theorem dX10_ends_21 : decode cX10_ends 21 = .ok (.iconst 1, 1) := dkAb36.2.2.2.2.2.2.2.2.2.2.1
theorem dX10_ends_22 : decode cX10_ends 22 = .ok (.goto 4, 3) := dkAb36.2.2.2.2.2.2.2.2.2.2.2
theorem dX10_ends_25 : decode cX10_ends 25 = .ok (.iconst 0, 1) := by decide +kernel
theorem dX10_ends_26 : decode cX10_ends 26 = .ok (.ireturn, 1) := by decide +kernel
set_option maxRecDepth 100000 in
theorem dkAb37 : decode cX10_readsPerson 0 = .ok (.aload_n 0, 1) ∧ decode cX10_readsPerson 1 = .ok (.getfield 13, 3) ∧ decode cX10_readsPerson 4 = .ok (.iconst 0, 1) ∧ decode cX10_readsPerson 5 = .ok (.iaload, 1) ∧ decode cX10_readsPerson 6 = .ok (.istore_n 1, 1) ∧ decode cX10_readsPerson 7 = .ok (.iload_n 1, 1) ∧ decode cX10_readsPerson 8 = .ok (.bipush 7, 2) ∧ decode cX10_readsPerson 10 = .ok (.if_icmp .ne 9, 3) ∧ decode cX10_readsPerson 13 = .ok (.aload_n 0, 1) ∧ decode cX10_readsPerson 14 = .ok (.iconst 3, 1) ∧ decode cX10_readsPerson 15 = .ok (.invokevirtual 118, 3) ∧ decode cX10_readsPerson 18 = .ok (.ireturn, 1) := by decide +kernel
theorem dX10_readsPerson_0 : decode cX10_readsPerson 0 = .ok (.aload_n 0, 1) := dkAb37.1
theorem dX10_readsPerson_1 : decode cX10_readsPerson 1 = .ok (.getfield 13, 3) := dkAb37.2.1
theorem dX10_readsPerson_4 : decode cX10_readsPerson 4 = .ok (.iconst 0, 1) := dkAb37.2.2.1
theorem dX10_readsPerson_5 : decode cX10_readsPerson 5 = .ok (.iaload, 1) := dkAb37.2.2.2.1
theorem dX10_readsPerson_6 : decode cX10_readsPerson 6 = .ok (.istore_n 1, 1) := dkAb37.2.2.2.2.1
theorem dX10_readsPerson_7 : decode cX10_readsPerson 7 = .ok (.iload_n 1, 1) := dkAb37.2.2.2.2.2.1
theorem dX10_readsPerson_8 : decode cX10_readsPerson 8 = .ok (.bipush 7, 2) := dkAb37.2.2.2.2.2.2.1
theorem dX10_readsPerson_10 : decode cX10_readsPerson 10 = .ok (.if_icmp .ne 9, 3) := dkAb37.2.2.2.2.2.2.2.1
theorem dX10_readsPerson_13 : decode cX10_readsPerson 13 = .ok (.aload_n 0, 1) := dkAb37.2.2.2.2.2.2.2.2.1
theorem dX10_readsPerson_14 : decode cX10_readsPerson 14 = .ok (.iconst 3, 1) := dkAb37.2.2.2.2.2.2.2.2.2.1
theorem dX10_readsPerson_15 : decode cX10_readsPerson 15 = .ok (.invokevirtual 118, 3) := dkAb37.2.2.2.2.2.2.2.2.2.2.1
theorem dX10_readsPerson_18 : decode cX10_readsPerson 18 = .ok (.ireturn, 1) := dkAb37.2.2.2.2.2.2.2.2.2.2.2
set_option maxRecDepth 100000 in
theorem dkAb38 : decode cX10_readsPerson 19 = .ok (.aload_n 0, 1) ∧ decode cX10_readsPerson 20 = .ok (.getfield 13, 3) ∧ decode cX10_readsPerson 23 = .ok (.iconst 0, 1) ∧ decode cX10_readsPerson 24 = .ok (.dup2, 1) ∧ decode cX10_readsPerson 25 = .ok (.iaload, 1) ∧ decode cX10_readsPerson 26 = .ok (.iconst 1, 1) ∧ decode cX10_readsPerson 27 = .ok (.iadd, 1) ∧ decode cX10_readsPerson 28 = .ok (.iastore, 1) ∧ decode cX10_readsPerson 29 = .ok (.aload_n 0, 1) ∧ decode cX10_readsPerson 30 = .ok (.iconst 3, 1) ∧ decode cX10_readsPerson 31 = .ok (.iload_n 1, 1) ∧ decode cX10_readsPerson 32 = .ok (.iadd, 1) := by decide +kernel
theorem dX10_readsPerson_19 : decode cX10_readsPerson 19 = .ok (.aload_n 0, 1) := dkAb38.1
theorem dX10_readsPerson_20 : decode cX10_readsPerson 20 = .ok (.getfield 13, 3) := dkAb38.2.1
theorem dX10_readsPerson_23 : decode cX10_readsPerson 23 = .ok (.iconst 0, 1) := dkAb38.2.2.1
theorem dX10_readsPerson_24 : decode cX10_readsPerson 24 = .ok (.dup2, 1) := dkAb38.2.2.2.1
theorem dX10_readsPerson_25 : decode cX10_readsPerson 25 = .ok (.iaload, 1) := dkAb38.2.2.2.2.1
theorem dX10_readsPerson_26 : decode cX10_readsPerson 26 = .ok (.iconst 1, 1) := dkAb38.2.2.2.2.2.1
theorem dX10_readsPerson_27 : decode cX10_readsPerson 27 = .ok (.iadd, 1) := dkAb38.2.2.2.2.2.2.1
theorem dX10_readsPerson_28 : decode cX10_readsPerson 28 = .ok (.iastore, 1) := dkAb38.2.2.2.2.2.2.2.1
theorem dX10_readsPerson_29 : decode cX10_readsPerson 29 = .ok (.aload_n 0, 1) := dkAb38.2.2.2.2.2.2.2.2.1
theorem dX10_readsPerson_30 : decode cX10_readsPerson 30 = .ok (.iconst 3, 1) := dkAb38.2.2.2.2.2.2.2.2.2.1
theorem dX10_readsPerson_31 : decode cX10_readsPerson 31 = .ok (.iload_n 1, 1) := dkAb38.2.2.2.2.2.2.2.2.2.2.1
theorem dX10_readsPerson_32 : decode cX10_readsPerson 32 = .ok (.iadd, 1) := dkAb38.2.2.2.2.2.2.2.2.2.2.2
set_option maxRecDepth 100000 in
theorem dkAb39 : decode cX10_readsPerson 33 = .ok (.iconst 0, 1) ∧ decode cX10_readsPerson 34 = .ok (.bipush 9, 2) ∧ decode cX10_readsPerson 36 = .ok (.invokevirtual 122, 3) ∧ decode cX10_readsPerson 39 = .ok (.ifCond .eq 14, 3) ∧ decode cX10_readsPerson 42 = .ok (.aload_n 0, 1) ∧ decode cX10_readsPerson 43 = .ok (.invokevirtual 126, 3) ∧ decode cX10_readsPerson 46 = .ok (.ifCond .eq 7, 3) ∧ decode cX10_readsPerson 49 = .ok (.iconst 1, 1) ∧ decode cX10_readsPerson 50 = .ok (.goto 4, 3) ∧ decode cX10_readsPerson 53 = .ok (.iconst 0, 1) ∧ decode cX10_readsPerson 54 = .ok (.ireturn, 1) := by decide +kernel
theorem dX10_readsPerson_33 : decode cX10_readsPerson 33 = .ok (.iconst 0, 1) := dkAb39.1
theorem dX10_readsPerson_34 : decode cX10_readsPerson 34 = .ok (.bipush 9, 2) := dkAb39.2.1
theorem dX10_readsPerson_36 : decode cX10_readsPerson 36 = .ok (.invokevirtual 122, 3) := dkAb39.2.2.1
theorem dX10_readsPerson_39 : decode cX10_readsPerson 39 = .ok (.ifCond .eq 14, 3) := dkAb39.2.2.2.1
theorem dX10_readsPerson_42 : decode cX10_readsPerson 42 = .ok (.aload_n 0, 1) := dkAb39.2.2.2.2.1
theorem dX10_readsPerson_43 : decode cX10_readsPerson 43 = .ok (.invokevirtual 126, 3) := dkAb39.2.2.2.2.2.1
theorem dX10_readsPerson_46 : decode cX10_readsPerson 46 = .ok (.ifCond .eq 7, 3) := dkAb39.2.2.2.2.2.2.1
theorem dX10_readsPerson_49 : decode cX10_readsPerson 49 = .ok (.iconst 1, 1) := dkAb39.2.2.2.2.2.2.2.1
theorem dX10_readsPerson_50 : decode cX10_readsPerson 50 = .ok (.goto 4, 3) := dkAb39.2.2.2.2.2.2.2.2.1
theorem dX10_readsPerson_53 : decode cX10_readsPerson 53 = .ok (.iconst 0, 1) := dkAb39.2.2.2.2.2.2.2.2.2.1
theorem dX10_readsPerson_54 : decode cX10_readsPerson 54 = .ok (.ireturn, 1) := dkAb39.2.2.2.2.2.2.2.2.2.2
set_option maxRecDepth 100000 in
theorem dkAb40 : decode cX10_isTold 0 = .ok (.aload_n 0, 1) ∧ decode cX10_isTold 1 = .ok (.invokevirtual 115, 3) ∧ decode cX10_isTold 4 = .ok (.aload_n 0, 1) ∧ decode cX10_isTold 5 = .ok (.getfield 99, 3) ∧ decode cX10_isTold 8 = .ok (.bipush 48, 2) ∧ decode cX10_isTold 10 = .ok (.if_icmp .eq 9, 3) ∧ decode cX10_isTold 13 = .ok (.aload_n 0, 1) ∧ decode cX10_isTold 14 = .ok (.iconst 1, 1) ∧ decode cX10_isTold 15 = .ok (.invokevirtual 118, 3) ∧ decode cX10_isTold 18 = .ok (.ireturn, 1) ∧ decode cX10_isTold 19 = .ok (.aload_n 0, 1) ∧ decode cX10_isTold 20 = .ok (.getfield 102, 3) := by decide +kernel
theorem dX10_isTold_0 : decode cX10_isTold 0 = .ok (.aload_n 0, 1) := dkAb40.1
theorem dX10_isTold_1 : decode cX10_isTold 1 = .ok (.invokevirtual 115, 3) := dkAb40.2.1
theorem dX10_isTold_4 : decode cX10_isTold 4 = .ok (.aload_n 0, 1) := dkAb40.2.2.1
theorem dX10_isTold_5 : decode cX10_isTold 5 = .ok (.getfield 99, 3) := dkAb40.2.2.2.1
theorem dX10_isTold_8 : decode cX10_isTold 8 = .ok (.bipush 48, 2) := dkAb40.2.2.2.2.1
theorem dX10_isTold_10 : decode cX10_isTold 10 = .ok (.if_icmp .eq 9, 3) := dkAb40.2.2.2.2.2.1
theorem dX10_isTold_13 : decode cX10_isTold 13 = .ok (.aload_n 0, 1) := dkAb40.2.2.2.2.2.2.1
theorem dX10_isTold_14 : decode cX10_isTold 14 = .ok (.iconst 1, 1) := dkAb40.2.2.2.2.2.2.2.1
theorem dX10_isTold_15 : decode cX10_isTold 15 = .ok (.invokevirtual 118, 3) := dkAb40.2.2.2.2.2.2.2.2.1
theorem dX10_isTold_18 : decode cX10_isTold 18 = .ok (.ireturn, 1) := dkAb40.2.2.2.2.2.2.2.2.2.1
theorem dX10_isTold_19 : decode cX10_isTold 19 = .ok (.aload_n 0, 1) := dkAb40.2.2.2.2.2.2.2.2.2.2.1
theorem dX10_isTold_20 : decode cX10_isTold 20 = .ok (.getfield 102, 3) := dkAb40.2.2.2.2.2.2.2.2.2.2.2
set_option maxRecDepth 100000 in
theorem dkAb41 : decode cX10_isTold 23 = .ok (.iconst 4, 1) ∧ decode cX10_isTold 24 = .ok (.if_icmp .ge 33, 3) ∧ decode cX10_isTold 27 = .ok (.aload_n 0, 1) ∧ decode cX10_isTold 28 = .ok (.getfield 105, 3) ∧ decode cX10_isTold 31 = .ok (.aload_n 0, 1) ∧ decode cX10_isTold 32 = .ok (.getfield 13, 3) ∧ decode cX10_isTold 35 = .ok (.iconst 0, 1) ∧ decode cX10_isTold 36 = .ok (.iaload, 1) ∧ decode cX10_isTold 37 = .ok (.if_icmp .lt 16, 3) ∧ decode cX10_isTold 40 = .ok (.iload_n 1, 1) ∧ decode cX10_isTold 41 = .ok (.ifCond .eq 16, 3) ∧ decode cX10_isTold 44 = .ok (.aload_n 0, 1) := by decide +kernel
theorem dX10_isTold_23 : decode cX10_isTold 23 = .ok (.iconst 4, 1) := dkAb41.1
theorem dX10_isTold_24 : decode cX10_isTold 24 = .ok (.if_icmp .ge 33, 3) := dkAb41.2.1
theorem dX10_isTold_27 : decode cX10_isTold 27 = .ok (.aload_n 0, 1) := dkAb41.2.2.1
theorem dX10_isTold_28 : decode cX10_isTold 28 = .ok (.getfield 105, 3) := dkAb41.2.2.2.1
theorem dX10_isTold_31 : decode cX10_isTold 31 = .ok (.aload_n 0, 1) := dkAb41.2.2.2.2.1
theorem dX10_isTold_32 : decode cX10_isTold 32 = .ok (.getfield 13, 3) := dkAb41.2.2.2.2.2.1
theorem dX10_isTold_35 : decode cX10_isTold 35 = .ok (.iconst 0, 1) := dkAb41.2.2.2.2.2.2.1
theorem dX10_isTold_36 : decode cX10_isTold 36 = .ok (.iaload, 1) := dkAb41.2.2.2.2.2.2.2.1
theorem dX10_isTold_37 : decode cX10_isTold 37 = .ok (.if_icmp .lt 16, 3) := dkAb41.2.2.2.2.2.2.2.2.1
theorem dX10_isTold_40 : decode cX10_isTold 40 = .ok (.iload_n 1, 1) := dkAb41.2.2.2.2.2.2.2.2.2.1
theorem dX10_isTold_41 : decode cX10_isTold 41 = .ok (.ifCond .eq 16, 3) := dkAb41.2.2.2.2.2.2.2.2.2.2.1
theorem dX10_isTold_44 : decode cX10_isTold 44 = .ok (.aload_n 0, 1) := dkAb41.2.2.2.2.2.2.2.2.2.2.2
set_option maxRecDepth 100000 in
theorem dkAb42 : decode cX10_isTold 45 = .ok (.getfield 105, 3) ∧ decode cX10_isTold 48 = .ok (.bipush 9, 2) ∧ decode cX10_isTold 50 = .ok (.if_icmp .ne 7, 3) ∧ decode cX10_isTold 53 = .ok (.iconst 1, 1) ∧ decode cX10_isTold 54 = .ok (.goto 4, 3) ∧ decode cX10_isTold 57 = .ok (.iconst 0, 1) ∧ decode cX10_isTold 58 = .ok (.istore_n 2, 1) ∧ decode cX10_isTold 59 = .ok (.iload_n 2, 1) ∧ decode cX10_isTold 60 = .ok (.ifCond .ne 11, 3) ∧ decode cX10_isTold 63 = .ok (.aload_n 0, 1) ∧ decode cX10_isTold 64 = .ok (.iconst 2, 1) ∧ decode cX10_isTold 65 = .ok (.invokevirtual 118, 3) := by decide +kernel
theorem dX10_isTold_45 : decode cX10_isTold 45 = .ok (.getfield 105, 3) := dkAb42.1
theorem dX10_isTold_48 : decode cX10_isTold 48 = .ok (.bipush 9, 2) := dkAb42.2.1
theorem dX10_isTold_50 : decode cX10_isTold 50 = .ok (.if_icmp .ne 7, 3) := dkAb42.2.2.1
theorem dX10_isTold_53 : decode cX10_isTold 53 = .ok (.iconst 1, 1) := dkAb42.2.2.2.1
theorem dX10_isTold_54 : decode cX10_isTold 54 = .ok (.goto 4, 3) := dkAb42.2.2.2.2.1
theorem dX10_isTold_57 : decode cX10_isTold 57 = .ok (.iconst 0, 1) := dkAb42.2.2.2.2.2.1
theorem dX10_isTold_58 : decode cX10_isTold 58 = .ok (.istore_n 2, 1) := dkAb42.2.2.2.2.2.2.1
theorem dX10_isTold_59 : decode cX10_isTold 59 = .ok (.iload_n 2, 1) := dkAb42.2.2.2.2.2.2.2.1
theorem dX10_isTold_60 : decode cX10_isTold 60 = .ok (.ifCond .ne 11, 3) := dkAb42.2.2.2.2.2.2.2.2.1
theorem dX10_isTold_63 : decode cX10_isTold 63 = .ok (.aload_n 0, 1) := dkAb42.2.2.2.2.2.2.2.2.2.1
theorem dX10_isTold_64 : decode cX10_isTold 64 = .ok (.iconst 2, 1) := dkAb42.2.2.2.2.2.2.2.2.2.2.1
theorem dX10_isTold_65 : decode cX10_isTold 65 = .ok (.invokevirtual 118, 3) := dkAb42.2.2.2.2.2.2.2.2.2.2.2
set_option maxRecDepth 100000 in
theorem dkAb43 : decode cX10_isTold 68 = .ok (.ifCond .eq 7, 3) ∧ decode cX10_isTold 71 = .ok (.iconst 1, 1) ∧ decode cX10_isTold 72 = .ok (.goto 4, 3) ∧ decode cX10_isTold 75 = .ok (.iconst 0, 1) ∧ decode cX10_isTold 76 = .ok (.ireturn, 1) := by decide +kernel
theorem dX10_isTold_68 : decode cX10_isTold 68 = .ok (.ifCond .eq 7, 3) := dkAb43.1
theorem dX10_isTold_71 : decode cX10_isTold 71 = .ok (.iconst 1, 1) := dkAb43.2.1
theorem dX10_isTold_72 : decode cX10_isTold 72 = .ok (.goto 4, 3) := dkAb43.2.2.1
theorem dX10_isTold_75 : decode cX10_isTold 75 = .ok (.iconst 0, 1) := dkAb43.2.2.2.1
theorem dX10_isTold_76 : decode cX10_isTold 76 = .ok (.ireturn, 1) := dkAb43.2.2.2.2
set_option maxRecDepth 100000 in
theorem dkAb44 : decode cX10_readsWill 0 = .ok (.aload_n 0, 1) ∧ decode cX10_readsWill 1 = .ok (.iconst 0, 1) ∧ decode cX10_readsWill 2 = .ok (.invokevirtual 130, 3) ∧ decode cX10_readsWill 5 = .ok (.ifCond .ne 5, 3) ∧ decode cX10_readsWill 8 = .ok (.iconst 0, 1) ∧ decode cX10_readsWill 9 = .ok (.ireturn, 1) ∧ decode cX10_readsWill 10 = .ok (.aload_n 0, 1) ∧ decode cX10_readsWill 11 = .ok (.getfield 105, 3) ∧ decode cX10_readsWill 14 = .ok (.istore_n 1, 1) ∧ decode cX10_readsWill 15 = .ok (.aload_n 0, 1) ∧ decode cX10_readsWill 16 = .ok (.getfield 13, 3) ∧ decode cX10_readsWill 19 = .ok (.bipush 24, 2) := by decide +kernel
theorem dX10_readsWill_0 : decode cX10_readsWill 0 = .ok (.aload_n 0, 1) := dkAb44.1
theorem dX10_readsWill_1 : decode cX10_readsWill 1 = .ok (.iconst 0, 1) := dkAb44.2.1
theorem dX10_readsWill_2 : decode cX10_readsWill 2 = .ok (.invokevirtual 130, 3) := dkAb44.2.2.1
theorem dX10_readsWill_5 : decode cX10_readsWill 5 = .ok (.ifCond .ne 5, 3) := dkAb44.2.2.2.1
theorem dX10_readsWill_8 : decode cX10_readsWill 8 = .ok (.iconst 0, 1) := dkAb44.2.2.2.2.1
theorem dX10_readsWill_9 : decode cX10_readsWill 9 = .ok (.ireturn, 1) := dkAb44.2.2.2.2.2.1
theorem dX10_readsWill_10 : decode cX10_readsWill 10 = .ok (.aload_n 0, 1) := dkAb44.2.2.2.2.2.2.1
theorem dX10_readsWill_11 : decode cX10_readsWill 11 = .ok (.getfield 105, 3) := dkAb44.2.2.2.2.2.2.2.1
theorem dX10_readsWill_14 : decode cX10_readsWill 14 = .ok (.istore_n 1, 1) := dkAb44.2.2.2.2.2.2.2.2.1
theorem dX10_readsWill_15 : decode cX10_readsWill 15 = .ok (.aload_n 0, 1) := dkAb44.2.2.2.2.2.2.2.2.2.1
theorem dX10_readsWill_16 : decode cX10_readsWill 16 = .ok (.getfield 13, 3) := dkAb44.2.2.2.2.2.2.2.2.2.2.1
theorem dX10_readsWill_19 : decode cX10_readsWill 19 = .ok (.bipush 24, 2) := dkAb44.2.2.2.2.2.2.2.2.2.2.2
set_option maxRecDepth 100000 in
theorem dkAb45 : decode cX10_readsWill 21 = .ok (.iaload, 1) ∧ decode cX10_readsWill 22 = .ok (.iload_n 1, 1) ∧ decode cX10_readsWill 23 = .ok (.invokestatic 134, 3) ∧ decode cX10_readsWill 26 = .ok (.ifCond .eq 9, 3) ∧ decode cX10_readsWill 29 = .ok (.aload_n 0, 1) ∧ decode cX10_readsWill 30 = .ok (.iconst 4, 1) ∧ decode cX10_readsWill 31 = .ok (.invokevirtual 118, 3) ∧ decode cX10_readsWill 34 = .ok (.ireturn, 1) ∧ decode cX10_readsWill 35 = .ok (.aload_n 0, 1) ∧ decode cX10_readsWill 36 = .ok (.getfield 13, 3) ∧ decode cX10_readsWill 39 = .ok (.bipush 24, 2) ∧ decode cX10_readsWill 41 = .ok (.dup2, 1) := by decide +kernel
theorem dX10_readsWill_21 : decode cX10_readsWill 21 = .ok (.iaload, 1) := dkAb45.1
theorem dX10_readsWill_22 : decode cX10_readsWill 22 = .ok (.iload_n 1, 1) := dkAb45.2.1
theorem dX10_readsWill_23 : decode cX10_readsWill 23 = .ok (.invokestatic 134, 3) := dkAb45.2.2.1
theorem dX10_readsWill_26 : decode cX10_readsWill 26 = .ok (.ifCond .eq 9, 3) := dkAb45.2.2.2.1
theorem dX10_readsWill_29 : decode cX10_readsWill 29 = .ok (.aload_n 0, 1) := dkAb45.2.2.2.2.1
theorem dX10_readsWill_30 : decode cX10_readsWill 30 = .ok (.iconst 4, 1) := dkAb45.2.2.2.2.2.1
theorem dX10_readsWill_31 : decode cX10_readsWill 31 = .ok (.invokevirtual 118, 3) := dkAb45.2.2.2.2.2.2.1
theorem dX10_readsWill_34 : decode cX10_readsWill 34 = .ok (.ireturn, 1) := dkAb45.2.2.2.2.2.2.2.1
theorem dX10_readsWill_35 : decode cX10_readsWill 35 = .ok (.aload_n 0, 1) := dkAb45.2.2.2.2.2.2.2.2.1
theorem dX10_readsWill_36 : decode cX10_readsWill 36 = .ok (.getfield 13, 3) := dkAb45.2.2.2.2.2.2.2.2.2.1
theorem dX10_readsWill_39 : decode cX10_readsWill 39 = .ok (.bipush 24, 2) := dkAb45.2.2.2.2.2.2.2.2.2.2.1
theorem dX10_readsWill_41 : decode cX10_readsWill 41 = .ok (.dup2, 1) := dkAb45.2.2.2.2.2.2.2.2.2.2.2
set_option maxRecDepth 100000 in
theorem dkAb46 : decode cX10_readsWill 42 = .ok (.iaload, 1) ∧ decode cX10_readsWill 43 = .ok (.iconst 1, 1) ∧ decode cX10_readsWill 44 = .ok (.iload_n 1, 1) ∧ decode cX10_readsWill 45 = .ok (.ishl, 1) ∧ decode cX10_readsWill 46 = .ok (.ior, 1) ∧ decode cX10_readsWill 47 = .ok (.iastore, 1) ∧ decode cX10_readsWill 48 = .ok (.iconst 0, 1) ∧ decode cX10_readsWill 49 = .ok (.istore_n 2, 1) ∧ decode cX10_readsWill 50 = .ok (.iload_n 2, 1) ∧ decode cX10_readsWill 51 = .ok (.iconst 2, 1) ∧ decode cX10_readsWill 52 = .ok (.if_icmp .ge 51, 3) ∧ decode cX10_readsWill 55 = .ok (.aload_n 0, 1) := by decide +kernel
theorem dX10_readsWill_42 : decode cX10_readsWill 42 = .ok (.iaload, 1) := dkAb46.1
theorem dX10_readsWill_43 : decode cX10_readsWill 43 = .ok (.iconst 1, 1) := dkAb46.2.1
theorem dX10_readsWill_44 : decode cX10_readsWill 44 = .ok (.iload_n 1, 1) := dkAb46.2.2.1
theorem dX10_readsWill_45 : decode cX10_readsWill 45 = .ok (.ishl, 1) := dkAb46.2.2.2.1
theorem dX10_readsWill_46 : decode cX10_readsWill 46 = .ok (.ior, 1) := dkAb46.2.2.2.2.1
theorem dX10_readsWill_47 : decode cX10_readsWill 47 = .ok (.iastore, 1) := dkAb46.2.2.2.2.2.1
theorem dX10_readsWill_48 : decode cX10_readsWill 48 = .ok (.iconst 0, 1) := dkAb46.2.2.2.2.2.2.1
theorem dX10_readsWill_49 : decode cX10_readsWill 49 = .ok (.istore_n 2, 1) := dkAb46.2.2.2.2.2.2.2.1
theorem dX10_readsWill_50 : decode cX10_readsWill 50 = .ok (.iload_n 2, 1) := dkAb46.2.2.2.2.2.2.2.2.1
theorem dX10_readsWill_51 : decode cX10_readsWill 51 = .ok (.iconst 2, 1) := dkAb46.2.2.2.2.2.2.2.2.2.1
theorem dX10_readsWill_52 : decode cX10_readsWill 52 = .ok (.if_icmp .ge 51, 3) := dkAb46.2.2.2.2.2.2.2.2.2.2.1
theorem dX10_readsWill_55 : decode cX10_readsWill 55 = .ok (.aload_n 0, 1) := dkAb46.2.2.2.2.2.2.2.2.2.2.2
set_option maxRecDepth 100000 in
theorem dkAb47 : decode cX10_readsWill 56 = .ok (.iconst 1, 1) ∧ decode cX10_readsWill 57 = .ok (.invokevirtual 130, 3) ∧ decode cX10_readsWill 60 = .ok (.ifCond .ne 5, 3) ∧ decode cX10_readsWill 63 = .ok (.iconst 0, 1) ∧ decode cX10_readsWill 64 = .ok (.ireturn, 1) ∧ decode cX10_readsWill 65 = .ok (.aload_n 0, 1) ∧ decode cX10_readsWill 66 = .ok (.getfield 105, 3) ∧ decode cX10_readsWill 69 = .ok (.iload_n 1, 1) ∧ decode cX10_readsWill 70 = .ok (.if_icmp .ne 9, 3) ∧ decode cX10_readsWill 73 = .ok (.aload_n 0, 1) ∧ decode cX10_readsWill 74 = .ok (.iconst 4, 1) ∧ decode cX10_readsWill 75 = .ok (.invokevirtual 118, 3) := by decide +kernel
theorem dX10_readsWill_56 : decode cX10_readsWill 56 = .ok (.iconst 1, 1) := dkAb47.1
theorem dX10_readsWill_57 : decode cX10_readsWill 57 = .ok (.invokevirtual 130, 3) := dkAb47.2.1
theorem dX10_readsWill_60 : decode cX10_readsWill 60 = .ok (.ifCond .ne 5, 3) := dkAb47.2.2.1
theorem dX10_readsWill_63 : decode cX10_readsWill 63 = .ok (.iconst 0, 1) := dkAb47.2.2.2.1
theorem dX10_readsWill_64 : decode cX10_readsWill 64 = .ok (.ireturn, 1) := dkAb47.2.2.2.2.1
theorem dX10_readsWill_65 : decode cX10_readsWill 65 = .ok (.aload_n 0, 1) := dkAb47.2.2.2.2.2.1
theorem dX10_readsWill_66 : decode cX10_readsWill 66 = .ok (.getfield 105, 3) := dkAb47.2.2.2.2.2.2.1
theorem dX10_readsWill_69 : decode cX10_readsWill 69 = .ok (.iload_n 1, 1) := dkAb47.2.2.2.2.2.2.2.1
theorem dX10_readsWill_70 : decode cX10_readsWill 70 = .ok (.if_icmp .ne 9, 3) := dkAb47.2.2.2.2.2.2.2.2.1
theorem dX10_readsWill_73 : decode cX10_readsWill 73 = .ok (.aload_n 0, 1) := dkAb47.2.2.2.2.2.2.2.2.2.1
theorem dX10_readsWill_74 : decode cX10_readsWill 74 = .ok (.iconst 4, 1) := dkAb47.2.2.2.2.2.2.2.2.2.2.1
theorem dX10_readsWill_75 : decode cX10_readsWill 75 = .ok (.invokevirtual 118, 3) := dkAb47.2.2.2.2.2.2.2.2.2.2.2
set_option maxRecDepth 100000 in
theorem dkAb48 : decode cX10_readsWill 78 = .ok (.ireturn, 1) ∧ decode cX10_readsWill 79 = .ok (.aload_n 0, 1) ∧ decode cX10_readsWill 80 = .ok (.getfield 13, 3) ∧ decode cX10_readsWill 83 = .ok (.bipush 10, 2) ∧ decode cX10_readsWill 85 = .ok (.bipush 7, 2) ∧ decode cX10_readsWill 87 = .ok (.iload_n 2, 1) ∧ decode cX10_readsWill 88 = .ok (.imul, 1) ∧ decode cX10_readsWill 89 = .ok (.iadd, 1) ∧ decode cX10_readsWill 90 = .ok (.iload_n 1, 1) ∧ decode cX10_readsWill 91 = .ok (.iadd, 1) ∧ decode cX10_readsWill 92 = .ok (.aload_n 0, 1) ∧ decode cX10_readsWill 93 = .ok (.getfield 105, 3) := by decide +kernel
theorem dX10_readsWill_78 : decode cX10_readsWill 78 = .ok (.ireturn, 1) := dkAb48.1
theorem dX10_readsWill_79 : decode cX10_readsWill 79 = .ok (.aload_n 0, 1) := dkAb48.2.1
theorem dX10_readsWill_80 : decode cX10_readsWill 80 = .ok (.getfield 13, 3) := dkAb48.2.2.1
theorem dX10_readsWill_83 : decode cX10_readsWill 83 = .ok (.bipush 10, 2) := dkAb48.2.2.2.1
theorem dX10_readsWill_85 : decode cX10_readsWill 85 = .ok (.bipush 7, 2) := dkAb48.2.2.2.2.1
theorem dX10_readsWill_87 : decode cX10_readsWill 87 = .ok (.iload_n 2, 1) := dkAb48.2.2.2.2.2.1
theorem dX10_readsWill_88 : decode cX10_readsWill 88 = .ok (.imul, 1) := dkAb48.2.2.2.2.2.2.1
theorem dX10_readsWill_89 : decode cX10_readsWill 89 = .ok (.iadd, 1) := dkAb48.2.2.2.2.2.2.2.1
theorem dX10_readsWill_90 : decode cX10_readsWill 90 = .ok (.iload_n 1, 1) := dkAb48.2.2.2.2.2.2.2.2.1
theorem dX10_readsWill_91 : decode cX10_readsWill 91 = .ok (.iadd, 1) := dkAb48.2.2.2.2.2.2.2.2.2.1
theorem dX10_readsWill_92 : decode cX10_readsWill 92 = .ok (.aload_n 0, 1) := dkAb48.2.2.2.2.2.2.2.2.2.2.1
theorem dX10_readsWill_93 : decode cX10_readsWill 93 = .ok (.getfield 105, 3) := dkAb48.2.2.2.2.2.2.2.2.2.2.2
set_option maxRecDepth 100000 in
theorem dkAb49 : decode cX10_readsWill 96 = .ok (.iastore, 1) ∧ decode cX10_readsWill 97 = .ok (.iinc 2 1, 3) ∧ decode cX10_readsWill 100 = .ok (.goto (-50), 3) ∧ decode cX10_readsWill 103 = .ok (.aload_n 0, 1) ∧ decode cX10_readsWill 104 = .ok (.invokevirtual 126, 3) ∧ decode cX10_readsWill 107 = .ok (.ireturn, 1) := by decide +kernel
theorem dX10_readsWill_96 : decode cX10_readsWill 96 = .ok (.iastore, 1) := dkAb49.1
theorem dX10_readsWill_97 : decode cX10_readsWill 97 = .ok (.iinc 2 1, 3) := dkAb49.2.1
theorem dX10_readsWill_100 : decode cX10_readsWill 100 = .ok (.goto (-50), 3) := dkAb49.2.2.1
theorem dX10_readsWill_103 : decode cX10_readsWill 103 = .ok (.aload_n 0, 1) := dkAb49.2.2.2.1
theorem dX10_readsWill_104 : decode cX10_readsWill 104 = .ok (.invokevirtual 126, 3) := dkAb49.2.2.2.2.1
theorem dX10_readsWill_107 : decode cX10_readsWill 107 = .ok (.ireturn, 1) := dkAb49.2.2.2.2.2
set_option maxRecDepth 100000 in
theorem dkAb50 : decode cX10_readsDoor 0 = .ok (.aload_n 0, 1) ∧ decode cX10_readsDoor 1 = .ok (.getfield 13, 3) ∧ decode cX10_readsDoor 4 = .ok (.iconst 1, 1) ∧ decode cX10_readsDoor 5 = .ok (.iaload, 1) ∧ decode cX10_readsDoor 6 = .ok (.istore_n 1, 1) ∧ decode cX10_readsDoor 7 = .ok (.iload_n 1, 1) ∧ decode cX10_readsDoor 8 = .ok (.bipush 6, 2) ∧ decode cX10_readsDoor 10 = .ok (.if_icmp .ne 9, 3) ∧ decode cX10_readsDoor 13 = .ok (.aload_n 0, 1) ∧ decode cX10_readsDoor 14 = .ok (.iconst 3, 1) ∧ decode cX10_readsDoor 15 = .ok (.invokevirtual 118, 3) ∧ decode cX10_readsDoor 18 = .ok (.ireturn, 1) := by decide +kernel
theorem dX10_readsDoor_0 : decode cX10_readsDoor 0 = .ok (.aload_n 0, 1) := dkAb50.1
theorem dX10_readsDoor_1 : decode cX10_readsDoor 1 = .ok (.getfield 13, 3) := dkAb50.2.1
theorem dX10_readsDoor_4 : decode cX10_readsDoor 4 = .ok (.iconst 1, 1) := dkAb50.2.2.1
theorem dX10_readsDoor_5 : decode cX10_readsDoor 5 = .ok (.iaload, 1) := dkAb50.2.2.2.1
theorem dX10_readsDoor_6 : decode cX10_readsDoor 6 = .ok (.istore_n 1, 1) := dkAb50.2.2.2.2.1
theorem dX10_readsDoor_7 : decode cX10_readsDoor 7 = .ok (.iload_n 1, 1) := dkAb50.2.2.2.2.2.1
theorem dX10_readsDoor_8 : decode cX10_readsDoor 8 = .ok (.bipush 6, 2) := dkAb50.2.2.2.2.2.2.1
theorem dX10_readsDoor_10 : decode cX10_readsDoor 10 = .ok (.if_icmp .ne 9, 3) := dkAb50.2.2.2.2.2.2.2.1
theorem dX10_readsDoor_13 : decode cX10_readsDoor 13 = .ok (.aload_n 0, 1) := dkAb50.2.2.2.2.2.2.2.2.1
theorem dX10_readsDoor_14 : decode cX10_readsDoor 14 = .ok (.iconst 3, 1) := dkAb50.2.2.2.2.2.2.2.2.2.1
theorem dX10_readsDoor_15 : decode cX10_readsDoor 15 = .ok (.invokevirtual 118, 3) := dkAb50.2.2.2.2.2.2.2.2.2.2.1
theorem dX10_readsDoor_18 : decode cX10_readsDoor 18 = .ok (.ireturn, 1) := dkAb50.2.2.2.2.2.2.2.2.2.2.2
set_option maxRecDepth 100000 in
theorem dkAb51 : decode cX10_readsDoor 19 = .ok (.aload_n 0, 1) ∧ decode cX10_readsDoor 20 = .ok (.getfield 13, 3) ∧ decode cX10_readsDoor 23 = .ok (.iconst 1, 1) ∧ decode cX10_readsDoor 24 = .ok (.dup2, 1) ∧ decode cX10_readsDoor 25 = .ok (.iaload, 1) ∧ decode cX10_readsDoor 26 = .ok (.iconst 1, 1) ∧ decode cX10_readsDoor 27 = .ok (.iadd, 1) ∧ decode cX10_readsDoor 28 = .ok (.iastore, 1) ∧ decode cX10_readsDoor 29 = .ok (.aload_n 0, 1) ∧ decode cX10_readsDoor 30 = .ok (.bipush 25, 2) ∧ decode cX10_readsDoor 32 = .ok (.iload_n 1, 1) ∧ decode cX10_readsDoor 33 = .ok (.iadd, 1) := by decide +kernel
theorem dX10_readsDoor_19 : decode cX10_readsDoor 19 = .ok (.aload_n 0, 1) := dkAb51.1
theorem dX10_readsDoor_20 : decode cX10_readsDoor 20 = .ok (.getfield 13, 3) := dkAb51.2.1
theorem dX10_readsDoor_23 : decode cX10_readsDoor 23 = .ok (.iconst 1, 1) := dkAb51.2.2.1
theorem dX10_readsDoor_24 : decode cX10_readsDoor 24 = .ok (.dup2, 1) := dkAb51.2.2.2.1
theorem dX10_readsDoor_25 : decode cX10_readsDoor 25 = .ok (.iaload, 1) := dkAb51.2.2.2.2.1
theorem dX10_readsDoor_26 : decode cX10_readsDoor 26 = .ok (.iconst 1, 1) := dkAb51.2.2.2.2.2.1
theorem dX10_readsDoor_27 : decode cX10_readsDoor 27 = .ok (.iadd, 1) := dkAb51.2.2.2.2.2.2.1
theorem dX10_readsDoor_28 : decode cX10_readsDoor 28 = .ok (.iastore, 1) := dkAb51.2.2.2.2.2.2.2.1
theorem dX10_readsDoor_29 : decode cX10_readsDoor 29 = .ok (.aload_n 0, 1) := dkAb51.2.2.2.2.2.2.2.2.1
theorem dX10_readsDoor_30 : decode cX10_readsDoor 30 = .ok (.bipush 25, 2) := dkAb51.2.2.2.2.2.2.2.2.2.1
theorem dX10_readsDoor_32 : decode cX10_readsDoor 32 = .ok (.iload_n 1, 1) := dkAb51.2.2.2.2.2.2.2.2.2.2.1
theorem dX10_readsDoor_33 : decode cX10_readsDoor 33 = .ok (.iadd, 1) := dkAb51.2.2.2.2.2.2.2.2.2.2.2
set_option maxRecDepth 100000 in
theorem dkAb52 : decode cX10_readsDoor 34 = .ok (.iconst 0, 1) ∧ decode cX10_readsDoor 35 = .ok (.bipush 127, 2) ∧ decode cX10_readsDoor 37 = .ok (.invokevirtual 122, 3) ∧ decode cX10_readsDoor 40 = .ok (.ifCond .eq 14, 3) ∧ decode cX10_readsDoor 43 = .ok (.aload_n 0, 1) ∧ decode cX10_readsDoor 44 = .ok (.invokevirtual 126, 3) ∧ decode cX10_readsDoor 47 = .ok (.ifCond .eq 7, 3) ∧ decode cX10_readsDoor 50 = .ok (.iconst 1, 1) ∧ decode cX10_readsDoor 51 = .ok (.goto 4, 3) ∧ decode cX10_readsDoor 54 = .ok (.iconst 0, 1) ∧ decode cX10_readsDoor 55 = .ok (.ireturn, 1) := by decide +kernel
theorem dX10_readsDoor_34 : decode cX10_readsDoor 34 = .ok (.iconst 0, 1) := dkAb52.1
theorem dX10_readsDoor_35 : decode cX10_readsDoor 35 = .ok (.bipush 127, 2) := dkAb52.2.1
theorem dX10_readsDoor_37 : decode cX10_readsDoor 37 = .ok (.invokevirtual 122, 3) := dkAb52.2.2.1
theorem dX10_readsDoor_40 : decode cX10_readsDoor 40 = .ok (.ifCond .eq 14, 3) := dkAb52.2.2.2.1
theorem dX10_readsDoor_43 : decode cX10_readsDoor 43 = .ok (.aload_n 0, 1) := dkAb52.2.2.2.2.1
theorem dX10_readsDoor_44 : decode cX10_readsDoor 44 = .ok (.invokevirtual 126, 3) := dkAb52.2.2.2.2.2.1
theorem dX10_readsDoor_47 : decode cX10_readsDoor 47 = .ok (.ifCond .eq 7, 3) := dkAb52.2.2.2.2.2.2.1
theorem dX10_readsDoor_50 : decode cX10_readsDoor 50 = .ok (.iconst 1, 1) := dkAb52.2.2.2.2.2.2.2.1
theorem dX10_readsDoor_51 : decode cX10_readsDoor 51 = .ok (.goto 4, 3) := dkAb52.2.2.2.2.2.2.2.2.1
theorem dX10_readsDoor_54 : decode cX10_readsDoor 54 = .ok (.iconst 0, 1) := dkAb52.2.2.2.2.2.2.2.2.2.1
theorem dX10_readsDoor_55 : decode cX10_readsDoor 55 = .ok (.ireturn, 1) := dkAb52.2.2.2.2.2.2.2.2.2.2
set_option maxRecDepth 100000 in
theorem dkAb53 : decode cX10_readsParts 0 = .ok (.aload_n 0, 1) ∧ decode cX10_readsParts 1 = .ok (.getfield 13, 3) ∧ decode cX10_readsParts 4 = .ok (.iconst 2, 1) ∧ decode cX10_readsParts 5 = .ok (.iaload, 1) ∧ decode cX10_readsParts 6 = .ok (.ifCond .le 9, 3) ∧ decode cX10_readsParts 9 = .ok (.aload_n 0, 1) ∧ decode cX10_readsParts 10 = .ok (.iconst 3, 1) ∧ decode cX10_readsParts 11 = .ok (.invokevirtual 118, 3) ∧ decode cX10_readsParts 14 = .ok (.ireturn, 1) ∧ decode cX10_readsParts 15 = .ok (.aload_n 0, 1) ∧ decode cX10_readsParts 16 = .ok (.bipush 31, 2) ∧ decode cX10_readsParts 18 = .ok (.aload_n 0, 1) := by decide +kernel
theorem dX10_readsParts_0 : decode cX10_readsParts 0 = .ok (.aload_n 0, 1) := dkAb53.1
theorem dX10_readsParts_1 : decode cX10_readsParts 1 = .ok (.getfield 13, 3) := dkAb53.2.1
theorem dX10_readsParts_4 : decode cX10_readsParts 4 = .ok (.iconst 2, 1) := dkAb53.2.2.1
theorem dX10_readsParts_5 : decode cX10_readsParts 5 = .ok (.iaload, 1) := dkAb53.2.2.2.1
theorem dX10_readsParts_6 : decode cX10_readsParts 6 = .ok (.ifCond .le 9, 3) := dkAb53.2.2.2.2.1
theorem dX10_readsParts_9 : decode cX10_readsParts 9 = .ok (.aload_n 0, 1) := dkAb53.2.2.2.2.2.1
theorem dX10_readsParts_10 : decode cX10_readsParts 10 = .ok (.iconst 3, 1) := dkAb53.2.2.2.2.2.2.1
theorem dX10_readsParts_11 : decode cX10_readsParts 11 = .ok (.invokevirtual 118, 3) := dkAb53.2.2.2.2.2.2.2.1
theorem dX10_readsParts_14 : decode cX10_readsParts 14 = .ok (.ireturn, 1) := dkAb53.2.2.2.2.2.2.2.2.1
theorem dX10_readsParts_15 : decode cX10_readsParts 15 = .ok (.aload_n 0, 1) := dkAb53.2.2.2.2.2.2.2.2.2.1
theorem dX10_readsParts_16 : decode cX10_readsParts 16 = .ok (.bipush 31, 2) := dkAb53.2.2.2.2.2.2.2.2.2.2.1
theorem dX10_readsParts_18 : decode cX10_readsParts 18 = .ok (.aload_n 0, 1) := dkAb53.2.2.2.2.2.2.2.2.2.2.2
set_option maxRecDepth 100000 in
theorem dkAb54 : decode cX10_readsParts 19 = .ok (.getfield 13, 3) ∧ decode cX10_readsParts 22 = .ok (.iconst 2, 1) ∧ decode cX10_readsParts 23 = .ok (.iaload, 1) ∧ decode cX10_readsParts 24 = .ok (.iadd, 1) ∧ decode cX10_readsParts 25 = .ok (.iconst 0, 1) ∧ decode cX10_readsParts 26 = .ok (.bipush 8, 2) ∧ decode cX10_readsParts 28 = .ok (.invokevirtual 122, 3) ∧ decode cX10_readsParts 31 = .ok (.ifCond .eq 54, 3) ∧ decode cX10_readsParts 34 = .ok (.aload_n 0, 1) ∧ decode cX10_readsParts 35 = .ok (.getfield 13, 3) ∧ decode cX10_readsParts 38 = .ok (.iconst 2, 1) ∧ decode cX10_readsParts 39 = .ok (.dup2, 1) := by decide +kernel
theorem dX10_readsParts_19 : decode cX10_readsParts 19 = .ok (.getfield 13, 3) := dkAb54.1
theorem dX10_readsParts_22 : decode cX10_readsParts 22 = .ok (.iconst 2, 1) := dkAb54.2.1
theorem dX10_readsParts_23 : decode cX10_readsParts 23 = .ok (.iaload, 1) := dkAb54.2.2.1
theorem dX10_readsParts_24 : decode cX10_readsParts 24 = .ok (.iadd, 1) := dkAb54.2.2.2.1
theorem dX10_readsParts_25 : decode cX10_readsParts 25 = .ok (.iconst 0, 1) := dkAb54.2.2.2.2.1
theorem dX10_readsParts_26 : decode cX10_readsParts 26 = .ok (.bipush 8, 2) := dkAb54.2.2.2.2.2.1
theorem dX10_readsParts_28 : decode cX10_readsParts 28 = .ok (.invokevirtual 122, 3) := dkAb54.2.2.2.2.2.2.1
theorem dX10_readsParts_31 : decode cX10_readsParts 31 = .ok (.ifCond .eq 54, 3) := dkAb54.2.2.2.2.2.2.2.1
theorem dX10_readsParts_34 : decode cX10_readsParts 34 = .ok (.aload_n 0, 1) := dkAb54.2.2.2.2.2.2.2.2.1
theorem dX10_readsParts_35 : decode cX10_readsParts 35 = .ok (.getfield 13, 3) := dkAb54.2.2.2.2.2.2.2.2.2.1
theorem dX10_readsParts_38 : decode cX10_readsParts 38 = .ok (.iconst 2, 1) := dkAb54.2.2.2.2.2.2.2.2.2.2.1
theorem dX10_readsParts_39 : decode cX10_readsParts 39 = .ok (.dup2, 1) := dkAb54.2.2.2.2.2.2.2.2.2.2.2
set_option maxRecDepth 100000 in
theorem dkAb55 : decode cX10_readsParts 40 = .ok (.iaload, 1) ∧ decode cX10_readsParts 41 = .ok (.iconst 1, 1) ∧ decode cX10_readsParts 42 = .ok (.iadd, 1) ∧ decode cX10_readsParts 43 = .ok (.iastore, 1) ∧ decode cX10_readsParts 44 = .ok (.aload_n 0, 1) ∧ decode cX10_readsParts 45 = .ok (.invokevirtual 115, 3) ∧ decode cX10_readsParts 48 = .ok (.aload_n 0, 1) ∧ decode cX10_readsParts 49 = .ok (.getfield 99, 3) ∧ decode cX10_readsParts 52 = .ok (.bipush 59, 2) ∧ decode cX10_readsParts 54 = .ok (.if_icmp .ne 5, 3) ∧ decode cX10_readsParts 57 = .ok (.iconst 1, 1) ∧ decode cX10_readsParts 58 = .ok (.ireturn, 1) := by decide +kernel
theorem dX10_readsParts_40 : decode cX10_readsParts 40 = .ok (.iaload, 1) := dkAb55.1
theorem dX10_readsParts_41 : decode cX10_readsParts 41 = .ok (.iconst 1, 1) := dkAb55.2.1
theorem dX10_readsParts_42 : decode cX10_readsParts 42 = .ok (.iadd, 1) := dkAb55.2.2.1
theorem dX10_readsParts_43 : decode cX10_readsParts 43 = .ok (.iastore, 1) := dkAb55.2.2.2.1
theorem dX10_readsParts_44 : decode cX10_readsParts 44 = .ok (.aload_n 0, 1) := dkAb55.2.2.2.2.1
theorem dX10_readsParts_45 : decode cX10_readsParts 45 = .ok (.invokevirtual 115, 3) := dkAb55.2.2.2.2.2.1
theorem dX10_readsParts_48 : decode cX10_readsParts 48 = .ok (.aload_n 0, 1) := dkAb55.2.2.2.2.2.2.1
theorem dX10_readsParts_49 : decode cX10_readsParts 49 = .ok (.getfield 99, 3) := dkAb55.2.2.2.2.2.2.2.1
theorem dX10_readsParts_52 : decode cX10_readsParts 52 = .ok (.bipush 59, 2) := dkAb55.2.2.2.2.2.2.2.2.1
theorem dX10_readsParts_54 : decode cX10_readsParts 54 = .ok (.if_icmp .ne 5, 3) := dkAb55.2.2.2.2.2.2.2.2.2.1
theorem dX10_readsParts_57 : decode cX10_readsParts 57 = .ok (.iconst 1, 1) := dkAb55.2.2.2.2.2.2.2.2.2.2.1
theorem dX10_readsParts_58 : decode cX10_readsParts 58 = .ok (.ireturn, 1) := dkAb55.2.2.2.2.2.2.2.2.2.2.2
set_option maxRecDepth 100000 in
theorem dkAb56 : decode cX10_readsParts 59 = .ok (.aload_n 0, 1) ∧ decode cX10_readsParts 60 = .ok (.getfield 99, 3) ∧ decode cX10_readsParts 63 = .ok (.bipush 44, 2) ∧ decode cX10_readsParts 65 = .ok (.if_icmp .ne 14, 3) ∧ decode cX10_readsParts 68 = .ok (.aload_n 0, 1) ∧ decode cX10_readsParts 69 = .ok (.getfield 13, 3) ∧ decode cX10_readsParts 72 = .ok (.iconst 2, 1) ∧ decode cX10_readsParts 73 = .ok (.iaload, 1) ∧ decode cX10_readsParts 74 = .ok (.bipush 6, 2) ∧ decode cX10_readsParts 76 = .ok (.if_icmp .ne (-61), 3) ∧ decode cX10_readsParts 79 = .ok (.aload_n 0, 1) ∧ decode cX10_readsParts 80 = .ok (.iconst 1, 1) := by decide +kernel
theorem dX10_readsParts_59 : decode cX10_readsParts 59 = .ok (.aload_n 0, 1) := dkAb56.1
theorem dX10_readsParts_60 : decode cX10_readsParts 60 = .ok (.getfield 99, 3) := dkAb56.2.1
theorem dX10_readsParts_63 : decode cX10_readsParts 63 = .ok (.bipush 44, 2) := dkAb56.2.2.1
theorem dX10_readsParts_65 : decode cX10_readsParts 65 = .ok (.if_icmp .ne 14, 3) := dkAb56.2.2.2.1
theorem dX10_readsParts_68 : decode cX10_readsParts 68 = .ok (.aload_n 0, 1) := dkAb56.2.2.2.2.1
theorem dX10_readsParts_69 : decode cX10_readsParts 69 = .ok (.getfield 13, 3) := dkAb56.2.2.2.2.2.1
theorem dX10_readsParts_72 : decode cX10_readsParts 72 = .ok (.iconst 2, 1) := dkAb56.2.2.2.2.2.2.1
theorem dX10_readsParts_73 : decode cX10_readsParts 73 = .ok (.iaload, 1) := dkAb56.2.2.2.2.2.2.2.1
theorem dX10_readsParts_74 : decode cX10_readsParts 74 = .ok (.bipush 6, 2) := dkAb56.2.2.2.2.2.2.2.2.1
theorem dX10_readsParts_76 : decode cX10_readsParts 76 = .ok (.if_icmp .ne (-61), 3) := dkAb56.2.2.2.2.2.2.2.2.2.1
theorem dX10_readsParts_79 : decode cX10_readsParts 79 = .ok (.aload_n 0, 1) := dkAb56.2.2.2.2.2.2.2.2.2.2.1
theorem dX10_readsParts_80 : decode cX10_readsParts 80 = .ok (.iconst 1, 1) := dkAb56.2.2.2.2.2.2.2.2.2.2.2
set_option maxRecDepth 100000 in
theorem dkAb57 : decode cX10_readsParts 81 = .ok (.invokevirtual 118, 3) ∧ decode cX10_readsParts 84 = .ok (.ireturn, 1) ∧ decode cX10_readsParts 85 = .ok (.iconst 0, 1) ∧ decode cX10_readsParts 86 = .ok (.ireturn, 1) := by decide +kernel
theorem dX10_readsParts_81 : decode cX10_readsParts 81 = .ok (.invokevirtual 118, 3) := dkAb57.1
theorem dX10_readsParts_84 : decode cX10_readsParts 84 = .ok (.ireturn, 1) := dkAb57.2.1
theorem dX10_readsParts_85 : decode cX10_readsParts 85 = .ok (.iconst 0, 1) := dkAb57.2.2.1
theorem dX10_readsParts_86 : decode cX10_readsParts 86 = .ok (.ireturn, 1) := dkAb57.2.2.2
set_option maxRecDepth 100000 in
theorem dkAb58 : decode cX10_readsClause 0 = .ok (.aload_n 0, 1) ∧ decode cX10_readsClause 1 = .ok (.getfield 99, 3) ∧ decode cX10_readsClause 4 = .ok (.lookupswitch 64 #[(99, 59), (100, 54), (112, 44), (119, 49)], 44) ∧ decode cX10_readsClause 48 = .ok (.aload_n 0, 1) ∧ decode cX10_readsClause 49 = .ok (.invokevirtual 138, 3) ∧ decode cX10_readsClause 52 = .ok (.ireturn, 1) ∧ decode cX10_readsClause 53 = .ok (.aload_n 0, 1) ∧ decode cX10_readsClause 54 = .ok (.invokevirtual 141, 3) ∧ decode cX10_readsClause 57 = .ok (.ireturn, 1) ∧ decode cX10_readsClause 58 = .ok (.aload_n 0, 1) ∧ decode cX10_readsClause 59 = .ok (.invokevirtual 144, 3) ∧ decode cX10_readsClause 62 = .ok (.ireturn, 1) := by decide +kernel
theorem dX10_readsClause_0 : decode cX10_readsClause 0 = .ok (.aload_n 0, 1) := dkAb58.1
theorem dX10_readsClause_1 : decode cX10_readsClause 1 = .ok (.getfield 99, 3) := dkAb58.2.1
theorem dX10_readsClause_4 : decode cX10_readsClause 4 = .ok (.lookupswitch 64 #[(99, 59), (100, 54), (112, 44), (119, 49)], 44) := dkAb58.2.2.1
theorem dX10_readsClause_48 : decode cX10_readsClause 48 = .ok (.aload_n 0, 1) := dkAb58.2.2.2.1
theorem dX10_readsClause_49 : decode cX10_readsClause 49 = .ok (.invokevirtual 138, 3) := dkAb58.2.2.2.2.1
theorem dX10_readsClause_52 : decode cX10_readsClause 52 = .ok (.ireturn, 1) := dkAb58.2.2.2.2.2.1
theorem dX10_readsClause_53 : decode cX10_readsClause 53 = .ok (.aload_n 0, 1) := dkAb58.2.2.2.2.2.2.1
theorem dX10_readsClause_54 : decode cX10_readsClause 54 = .ok (.invokevirtual 141, 3) := dkAb58.2.2.2.2.2.2.2.1
theorem dX10_readsClause_57 : decode cX10_readsClause 57 = .ok (.ireturn, 1) := dkAb58.2.2.2.2.2.2.2.2.1
theorem dX10_readsClause_58 : decode cX10_readsClause 58 = .ok (.aload_n 0, 1) := dkAb58.2.2.2.2.2.2.2.2.2.1
theorem dX10_readsClause_59 : decode cX10_readsClause 59 = .ok (.invokevirtual 144, 3) := dkAb58.2.2.2.2.2.2.2.2.2.2.1
theorem dX10_readsClause_62 : decode cX10_readsClause 62 = .ok (.ireturn, 1) := dkAb58.2.2.2.2.2.2.2.2.2.2.2
set_option maxRecDepth 100000 in
theorem dkAb59 : decode cX10_readsClause 63 = .ok (.aload_n 0, 1) ∧ decode cX10_readsClause 64 = .ok (.invokevirtual 147, 3) ∧ decode cX10_readsClause 67 = .ok (.ireturn, 1) ∧ decode cX10_readsClause 68 = .ok (.aload_n 0, 1) ∧ decode cX10_readsClause 69 = .ok (.iconst 1, 1) ∧ decode cX10_readsClause 70 = .ok (.invokevirtual 118, 3) ∧ decode cX10_readsClause 73 = .ok (.ireturn, 1) := by decide +kernel
theorem dX10_readsClause_63 : decode cX10_readsClause 63 = .ok (.aload_n 0, 1) := dkAb59.1
theorem dX10_readsClause_64 : decode cX10_readsClause 64 = .ok (.invokevirtual 147, 3) := dkAb59.2.1
theorem dX10_readsClause_67 : decode cX10_readsClause 67 = .ok (.ireturn, 1) := dkAb59.2.2.1
theorem dX10_readsClause_68 : decode cX10_readsClause 68 = .ok (.aload_n 0, 1) := dkAb59.2.2.2.1
theorem dX10_readsClause_69 : decode cX10_readsClause 69 = .ok (.iconst 1, 1) := dkAb59.2.2.2.2.1
theorem dX10_readsClause_70 : decode cX10_readsClause 70 = .ok (.invokevirtual 118, 3) := dkAb59.2.2.2.2.2.1
theorem dX10_readsClause_73 : decode cX10_readsClause 73 = .ok (.ireturn, 1) := dkAb59.2.2.2.2.2.2
set_option maxRecDepth 100000 in
theorem dkAb60 : decode cX10_parish 0 = .ok (.aload_n 0, 1) ∧ decode cX10_parish 1 = .ok (.getfield 13, 3) ∧ decode cX10_parish 4 = .ok (.invokestatic 51, 3) ∧ decode cX10_parish 7 = .ok (.aload_n 0, 1) ∧ decode cX10_parish 8 = .ok (.iconst 0, 1) ∧ decode cX10_parish 9 = .ok (.putfield 89, 3) ∧ decode cX10_parish 12 = .ok (.aload_n 0, 1) ∧ decode cX10_parish 13 = .ok (.iconst (-1), 1) ∧ decode cX10_parish 14 = .ok (.putfield 35, 3) ∧ decode cX10_parish 17 = .ok (.iconst 1, 1) ∧ decode cX10_parish 18 = .ok (.istore_n 1, 1) ∧ decode cX10_parish 19 = .ok (.aload_n 0, 1) := by decide +kernel
theorem dX10_parish_0 : decode cX10_parish 0 = .ok (.aload_n 0, 1) := dkAb60.1
theorem dX10_parish_1 : decode cX10_parish 1 = .ok (.getfield 13, 3) := dkAb60.2.1
theorem dX10_parish_4 : decode cX10_parish 4 = .ok (.invokestatic 51, 3) := dkAb60.2.2.1
theorem dX10_parish_7 : decode cX10_parish 7 = .ok (.aload_n 0, 1) := dkAb60.2.2.2.1
theorem dX10_parish_8 : decode cX10_parish 8 = .ok (.iconst 0, 1) := dkAb60.2.2.2.2.1
theorem dX10_parish_9 : decode cX10_parish 9 = .ok (.putfield 89, 3) := dkAb60.2.2.2.2.2.1
theorem dX10_parish_12 : decode cX10_parish 12 = .ok (.aload_n 0, 1) := dkAb60.2.2.2.2.2.2.1
theorem dX10_parish_13 : decode cX10_parish 13 = .ok (.iconst (-1), 1) := dkAb60.2.2.2.2.2.2.2.1
theorem dX10_parish_14 : decode cX10_parish 14 = .ok (.putfield 35, 3) := dkAb60.2.2.2.2.2.2.2.2.1
theorem dX10_parish_17 : decode cX10_parish 17 = .ok (.iconst 1, 1) := dkAb60.2.2.2.2.2.2.2.2.2.1
theorem dX10_parish_18 : decode cX10_parish 18 = .ok (.istore_n 1, 1) := dkAb60.2.2.2.2.2.2.2.2.2.2.1
theorem dX10_parish_19 : decode cX10_parish 19 = .ok (.aload_n 0, 1) := dkAb60.2.2.2.2.2.2.2.2.2.2.2
set_option maxRecDepth 100000 in
theorem dkAb61 : decode cX10_parish 20 = .ok (.invokevirtual 115, 3) ∧ decode cX10_parish 23 = .ok (.aload_n 0, 1) ∧ decode cX10_parish 24 = .ok (.getfield 99, 3) ∧ decode cX10_parish 27 = .ok (.ifCond .lt 23, 3) ∧ decode cX10_parish 30 = .ok (.iload_n 1, 1) ∧ decode cX10_parish 31 = .ok (.ifCond .eq 19, 3) ∧ decode cX10_parish 34 = .ok (.aload_n 0, 1) ∧ decode cX10_parish 35 = .ok (.invokevirtual 150, 3) ∧ decode cX10_parish 38 = .ok (.istore_n 1, 1) ∧ decode cX10_parish 39 = .ok (.iload_n 1, 1) ∧ decode cX10_parish 40 = .ok (.ifCond .eq (-17), 3) ∧ decode cX10_parish 43 = .ok (.aload_n 0, 1) := by decide +kernel
theorem dX10_parish_20 : decode cX10_parish 20 = .ok (.invokevirtual 115, 3) := dkAb61.1
theorem dX10_parish_23 : decode cX10_parish 23 = .ok (.aload_n 0, 1) := dkAb61.2.1
theorem dX10_parish_24 : decode cX10_parish 24 = .ok (.getfield 99, 3) := dkAb61.2.2.1
theorem dX10_parish_27 : decode cX10_parish 27 = .ok (.ifCond .lt 23, 3) := dkAb61.2.2.2.1
theorem dX10_parish_30 : decode cX10_parish 30 = .ok (.iload_n 1, 1) := dkAb61.2.2.2.2.1
theorem dX10_parish_31 : decode cX10_parish 31 = .ok (.ifCond .eq 19, 3) := dkAb61.2.2.2.2.2.1
theorem dX10_parish_34 : decode cX10_parish 34 = .ok (.aload_n 0, 1) := dkAb61.2.2.2.2.2.2.1
theorem dX10_parish_35 : decode cX10_parish 35 = .ok (.invokevirtual 150, 3) := dkAb61.2.2.2.2.2.2.2.1
theorem dX10_parish_38 : decode cX10_parish 38 = .ok (.istore_n 1, 1) := dkAb61.2.2.2.2.2.2.2.2.1
theorem dX10_parish_39 : decode cX10_parish 39 = .ok (.iload_n 1, 1) := dkAb61.2.2.2.2.2.2.2.2.2.1
theorem dX10_parish_40 : decode cX10_parish 40 = .ok (.ifCond .eq (-17), 3) := dkAb61.2.2.2.2.2.2.2.2.2.2.1
theorem dX10_parish_43 : decode cX10_parish 43 = .ok (.aload_n 0, 1) := dkAb61.2.2.2.2.2.2.2.2.2.2.2
set_option maxRecDepth 100000 in
theorem dkAb62 : decode cX10_parish 44 = .ok (.invokevirtual 115, 3) ∧ decode cX10_parish 47 = .ok (.goto (-24), 3) ∧ decode cX10_parish 50 = .ok (.aload_n 0, 1) ∧ decode cX10_parish 51 = .ok (.iconst 0, 1) ∧ decode cX10_parish 52 = .ok (.putfield 85, 3) ∧ decode cX10_parish 55 = .ok (.iload_n 1, 1) ∧ decode cX10_parish 56 = .ok (.ifCond .ne 19, 3) ∧ decode cX10_parish 59 = .ok (.aload_n 0, 1) ∧ decode cX10_parish 60 = .ok (.aload_n 0, 1) ∧ decode cX10_parish 61 = .ok (.getfield 96, 3) ∧ decode cX10_parish 64 = .ok (.putfield 35, 3) ∧ decode cX10_parish 67 = .ok (.bipush (-10), 2) := by decide +kernel
theorem dX10_parish_44 : decode cX10_parish 44 = .ok (.invokevirtual 115, 3) := dkAb62.1
theorem dX10_parish_47 : decode cX10_parish 47 = .ok (.goto (-24), 3) := dkAb62.2.1
theorem dX10_parish_50 : decode cX10_parish 50 = .ok (.aload_n 0, 1) := dkAb62.2.2.1
theorem dX10_parish_51 : decode cX10_parish 51 = .ok (.iconst 0, 1) := dkAb62.2.2.2.1
theorem dX10_parish_52 : decode cX10_parish 52 = .ok (.putfield 85, 3) := dkAb62.2.2.2.2.1
theorem dX10_parish_55 : decode cX10_parish 55 = .ok (.iload_n 1, 1) := dkAb62.2.2.2.2.2.1
theorem dX10_parish_56 : decode cX10_parish 56 = .ok (.ifCond .ne 19, 3) := dkAb62.2.2.2.2.2.2.1
theorem dX10_parish_59 : decode cX10_parish 59 = .ok (.aload_n 0, 1) := dkAb62.2.2.2.2.2.2.2.1
theorem dX10_parish_60 : decode cX10_parish 60 = .ok (.aload_n 0, 1) := dkAb62.2.2.2.2.2.2.2.2.1
theorem dX10_parish_61 : decode cX10_parish 61 = .ok (.getfield 96, 3) := dkAb62.2.2.2.2.2.2.2.2.2.1
theorem dX10_parish_64 : decode cX10_parish 64 = .ok (.putfield 35, 3) := dkAb62.2.2.2.2.2.2.2.2.2.2.1
theorem dX10_parish_67 : decode cX10_parish 67 = .ok (.bipush (-10), 2) := dkAb62.2.2.2.2.2.2.2.2.2.2.2
set_option maxRecDepth 100000 in
theorem dkAb63 : decode cX10_parish 69 = .ok (.aload_n 0, 1) ∧ decode cX10_parish 70 = .ok (.getfield 112, 3) ∧ decode cX10_parish 73 = .ok (.isub, 1) ∧ decode cX10_parish 74 = .ok (.ireturn, 1) ∧ decode cX10_parish 75 = .ok (.aload_n 0, 1) ∧ decode cX10_parish 76 = .ok (.getfield 13, 3) ∧ decode cX10_parish 79 = .ok (.iconst 0, 1) ∧ decode cX10_parish 80 = .ok (.aload_n 0, 1) ∧ decode cX10_parish 81 = .ok (.getfield 7, 3) ∧ decode cX10_parish 84 = .ok (.iconst 0, 1) ∧ decode cX10_parish 85 = .ok (.bipush 37, 2) ∧ decode cX10_parish 87 = .ok (.invokestatic 66, 3) := by decide +kernel
theorem dX10_parish_69 : decode cX10_parish 69 = .ok (.aload_n 0, 1) := dkAb63.1
theorem dX10_parish_70 : decode cX10_parish 70 = .ok (.getfield 112, 3) := dkAb63.2.1
theorem dX10_parish_73 : decode cX10_parish 73 = .ok (.isub, 1) := dkAb63.2.2.1
theorem dX10_parish_74 : decode cX10_parish 74 = .ok (.ireturn, 1) := dkAb63.2.2.2.1
theorem dX10_parish_75 : decode cX10_parish 75 = .ok (.aload_n 0, 1) := dkAb63.2.2.2.2.1
theorem dX10_parish_76 : decode cX10_parish 76 = .ok (.getfield 13, 3) := dkAb63.2.2.2.2.2.1
theorem dX10_parish_79 : decode cX10_parish 79 = .ok (.iconst 0, 1) := dkAb63.2.2.2.2.2.2.1
theorem dX10_parish_80 : decode cX10_parish 80 = .ok (.aload_n 0, 1) := dkAb63.2.2.2.2.2.2.2.1
theorem dX10_parish_81 : decode cX10_parish 81 = .ok (.getfield 7, 3) := dkAb63.2.2.2.2.2.2.2.2.1
theorem dX10_parish_84 : decode cX10_parish 84 = .ok (.iconst 0, 1) := dkAb63.2.2.2.2.2.2.2.2.2.1
theorem dX10_parish_85 : decode cX10_parish 85 = .ok (.bipush 37, 2) := dkAb63.2.2.2.2.2.2.2.2.2.2.1
theorem dX10_parish_87 : decode cX10_parish 87 = .ok (.invokestatic 66, 3) := dkAb63.2.2.2.2.2.2.2.2.2.2.2
set_option maxRecDepth 100000 in
theorem dkAb64 : decode cX10_parish 90 = .ok (.aload_n 0, 1) ∧ decode cX10_parish 91 = .ok (.invokevirtual 55, 3) ∧ decode cX10_parish 94 = .ok (.aload_n 0, 1) ∧ decode cX10_parish 95 = .ok (.getfield 7, 3) ∧ decode cX10_parish 98 = .ok (.iconst 0, 1) ∧ decode cX10_parish 99 = .ok (.iaload, 1) ∧ decode cX10_parish 100 = .ok (.ireturn, 1) := by decide +kernel
theorem dX10_parish_90 : decode cX10_parish 90 = .ok (.aload_n 0, 1) := dkAb64.1
theorem dX10_parish_91 : decode cX10_parish 91 = .ok (.invokevirtual 55, 3) := dkAb64.2.1
theorem dX10_parish_94 : decode cX10_parish 94 = .ok (.aload_n 0, 1) := dkAb64.2.2.1
theorem dX10_parish_95 : decode cX10_parish 95 = .ok (.getfield 7, 3) := dkAb64.2.2.2.1
theorem dX10_parish_98 : decode cX10_parish 98 = .ok (.iconst 0, 1) := dkAb64.2.2.2.2.1
theorem dX10_parish_99 : decode cX10_parish 99 = .ok (.iaload, 1) := dkAb64.2.2.2.2.2.1
theorem dX10_parish_100 : decode cX10_parish 100 = .ok (.ireturn, 1) := dkAb64.2.2.2.2.2.2
set_option maxRecDepth 100000 in
theorem dkAb65 : decode cX10_fault 0 = .ok (.aload_n 0, 1) ∧ decode cX10_fault 1 = .ok (.getfield 35, 3) ∧ decode cX10_fault 4 = .ok (.ireturn, 1) := by decide +kernel
theorem dX10_fault_0 : decode cX10_fault 0 = .ok (.aload_n 0, 1) := dkAb65.1
theorem dX10_fault_1 : decode cX10_fault 1 = .ok (.getfield 35, 3) := dkAb65.2.1
theorem dX10_fault_4 : decode cX10_fault 4 = .ok (.ireturn, 1) := dkAb65.2.2
set_option maxRecDepth 100000 in
theorem dkAb66 : decode cX10_isPerson 0 = .ok (.iload_n 1, 1) ∧ decode cX10_isPerson 1 = .ok (.i2l, 1) ∧ decode cX10_isPerson 2 = .ok (.lconst 0, 1) ∧ decode cX10_isPerson 3 = .ok (.aload_n 0, 1) ∧ decode cX10_isPerson 4 = .ok (.getfield 7, 3) ∧ decode cX10_isPerson 7 = .ok (.iconst 0, 1) ∧ decode cX10_isPerson 8 = .ok (.iaload, 1) ∧ decode cX10_isPerson 9 = .ok (.iconst 1, 1) ∧ decode cX10_isPerson 10 = .ok (.isub, 1) ∧ decode cX10_isPerson 11 = .ok (.i2l, 1) ∧ decode cX10_isPerson 12 = .ok (.invokestatic 62, 3) ∧ decode cX10_isPerson 15 = .ok (.ireturn, 1) := by decide +kernel
theorem dX10_isPerson_0 : decode cX10_isPerson 0 = .ok (.iload_n 1, 1) := dkAb66.1
theorem dX10_isPerson_1 : decode cX10_isPerson 1 = .ok (.i2l, 1) := dkAb66.2.1
theorem dX10_isPerson_2 : decode cX10_isPerson 2 = .ok (.lconst 0, 1) := dkAb66.2.2.1
theorem dX10_isPerson_3 : decode cX10_isPerson 3 = .ok (.aload_n 0, 1) := dkAb66.2.2.2.1
theorem dX10_isPerson_4 : decode cX10_isPerson 4 = .ok (.getfield 7, 3) := dkAb66.2.2.2.2.1
theorem dX10_isPerson_7 : decode cX10_isPerson 7 = .ok (.iconst 0, 1) := dkAb66.2.2.2.2.2.1
theorem dX10_isPerson_8 : decode cX10_isPerson 8 = .ok (.iaload, 1) := dkAb66.2.2.2.2.2.2.1
theorem dX10_isPerson_9 : decode cX10_isPerson 9 = .ok (.iconst 1, 1) := dkAb66.2.2.2.2.2.2.2.1
theorem dX10_isPerson_10 : decode cX10_isPerson 10 = .ok (.isub, 1) := dkAb66.2.2.2.2.2.2.2.2.1
theorem dX10_isPerson_11 : decode cX10_isPerson 11 = .ok (.i2l, 1) := dkAb66.2.2.2.2.2.2.2.2.2.1
theorem dX10_isPerson_12 : decode cX10_isPerson 12 = .ok (.invokestatic 62, 3) := dkAb66.2.2.2.2.2.2.2.2.2.2.1
theorem dX10_isPerson_15 : decode cX10_isPerson 15 = .ok (.ireturn, 1) := dkAb66.2.2.2.2.2.2.2.2.2.2.2
set_option maxRecDepth 100000 in
theorem dkAb67 : decode cX10_isVoice 0 = .ok (.iload_n 0, 1) ∧ decode cX10_isVoice 1 = .ok (.i2l, 1) ∧ decode cX10_isVoice 2 = .ok (.lconst 0, 1) ∧ decode cX10_isVoice 3 = .ok (.ldc2_w 153, 3) ∧ decode cX10_isVoice 6 = .ok (.invokestatic 62, 3) ∧ decode cX10_isVoice 9 = .ok (.ireturn, 1) := by decide +kernel
theorem dX10_isVoice_0 : decode cX10_isVoice 0 = .ok (.iload_n 0, 1) := dkAb67.1
theorem dX10_isVoice_1 : decode cX10_isVoice 1 = .ok (.i2l, 1) := dkAb67.2.1
theorem dX10_isVoice_2 : decode cX10_isVoice 2 = .ok (.lconst 0, 1) := dkAb67.2.2.1
theorem dX10_isVoice_3 : decode cX10_isVoice 3 = .ok (.ldc2_w 153, 3) := dkAb67.2.2.2.1
theorem dX10_isVoice_6 : decode cX10_isVoice 6 = .ok (.invokestatic 62, 3) := dkAb67.2.2.2.2.1
theorem dX10_isVoice_9 : decode cX10_isVoice 9 = .ok (.ireturn, 1) := dkAb67.2.2.2.2.2
set_option maxRecDepth 100000 in
theorem dkAb68 : decode cX10_isAlive 0 = .ok (.aload_n 0, 1) ∧ decode cX10_isAlive 1 = .ok (.getfield 16, 3) ∧ decode cX10_isAlive 4 = .ok (.bipush 28, 2) ∧ decode cX10_isAlive 6 = .ok (.iaload, 1) ∧ decode cX10_isAlive 7 = .ok (.iload_n 1, 1) ∧ decode cX10_isAlive 8 = .ok (.invokestatic 134, 3) ∧ decode cX10_isAlive 11 = .ok (.ireturn, 1) := by decide +kernel
theorem dX10_isAlive_0 : decode cX10_isAlive 0 = .ok (.aload_n 0, 1) := dkAb68.1
theorem dX10_isAlive_1 : decode cX10_isAlive 1 = .ok (.getfield 16, 3) := dkAb68.2.1
theorem dX10_isAlive_4 : decode cX10_isAlive 4 = .ok (.bipush 28, 2) := dkAb68.2.2.1
theorem dX10_isAlive_6 : decode cX10_isAlive 6 = .ok (.iaload, 1) := dkAb68.2.2.2.1
theorem dX10_isAlive_7 : decode cX10_isAlive 7 = .ok (.iload_n 1, 1) := dkAb68.2.2.2.2.1
theorem dX10_isAlive_8 : decode cX10_isAlive 8 = .ok (.invokestatic 134, 3) := dkAb68.2.2.2.2.2.1
theorem dX10_isAlive_11 : decode cX10_isAlive 11 = .ok (.ireturn, 1) := dkAb68.2.2.2.2.2.2
set_option maxRecDepth 100000 in
theorem dkAb69 : decode cX10_leastOf 0 = .ok (.iconst 0, 1) ∧ decode cX10_leastOf 1 = .ok (.istore_n 1, 1) ∧ decode cX10_leastOf 2 = .ok (.iload_n 1, 1) ∧ decode cX10_leastOf 3 = .ok (.bipush 7, 2) ∧ decode cX10_leastOf 5 = .ok (.if_icmp .ge 19, 3) ∧ decode cX10_leastOf 8 = .ok (.iload_n 0, 1) ∧ decode cX10_leastOf 9 = .ok (.iload_n 1, 1) ∧ decode cX10_leastOf 10 = .ok (.invokestatic 134, 3) ∧ decode cX10_leastOf 13 = .ok (.ifCond .eq 5, 3) ∧ decode cX10_leastOf 16 = .ok (.iload_n 1, 1) ∧ decode cX10_leastOf 17 = .ok (.ireturn, 1) ∧ decode cX10_leastOf 18 = .ok (.iinc 1 1, 3) := by decide +kernel
theorem dX10_leastOf_0 : decode cX10_leastOf 0 = .ok (.iconst 0, 1) := dkAb69.1
theorem dX10_leastOf_1 : decode cX10_leastOf 1 = .ok (.istore_n 1, 1) := dkAb69.2.1
theorem dX10_leastOf_2 : decode cX10_leastOf 2 = .ok (.iload_n 1, 1) := dkAb69.2.2.1
theorem dX10_leastOf_3 : decode cX10_leastOf 3 = .ok (.bipush 7, 2) := dkAb69.2.2.2.1
theorem dX10_leastOf_5 : decode cX10_leastOf 5 = .ok (.if_icmp .ge 19, 3) := dkAb69.2.2.2.2.1
theorem dX10_leastOf_8 : decode cX10_leastOf 8 = .ok (.iload_n 0, 1) := dkAb69.2.2.2.2.2.1
theorem dX10_leastOf_9 : decode cX10_leastOf 9 = .ok (.iload_n 1, 1) := dkAb69.2.2.2.2.2.2.1
theorem dX10_leastOf_10 : decode cX10_leastOf 10 = .ok (.invokestatic 134, 3) := dkAb69.2.2.2.2.2.2.2.1
theorem dX10_leastOf_13 : decode cX10_leastOf 13 = .ok (.ifCond .eq 5, 3) := dkAb69.2.2.2.2.2.2.2.2.1
theorem dX10_leastOf_16 : decode cX10_leastOf 16 = .ok (.iload_n 1, 1) := dkAb69.2.2.2.2.2.2.2.2.2.1
theorem dX10_leastOf_17 : decode cX10_leastOf 17 = .ok (.ireturn, 1) := dkAb69.2.2.2.2.2.2.2.2.2.2.1
theorem dX10_leastOf_18 : decode cX10_leastOf 18 = .ok (.iinc 1 1, 3) := dkAb69.2.2.2.2.2.2.2.2.2.2.2
set_option maxRecDepth 100000 in
theorem dkAb70 : decode cX10_leastOf 21 = .ok (.goto (-19), 3) ∧ decode cX10_leastOf 24 = .ok (.bipush 9, 2) ∧ decode cX10_leastOf 26 = .ok (.ireturn, 1) := by decide +kernel
theorem dX10_leastOf_21 : decode cX10_leastOf 21 = .ok (.goto (-19), 3) := dkAb70.1
theorem dX10_leastOf_24 : decode cX10_leastOf 24 = .ok (.bipush 9, 2) := dkAb70.2.1
theorem dX10_leastOf_26 : decode cX10_leastOf 26 = .ok (.ireturn, 1) := dkAb70.2.2
set_option maxRecDepth 100000 in
theorem dkAb71 : decode cX10_leastMute 0 = .ok (.iconst 0, 1) ∧ decode cX10_leastMute 1 = .ok (.istore_n 2, 1) ∧ decode cX10_leastMute 2 = .ok (.iload_n 2, 1) ∧ decode cX10_leastMute 3 = .ok (.aload_n 0, 1) ∧ decode cX10_leastMute 4 = .ok (.getfield 7, 3) ∧ decode cX10_leastMute 7 = .ok (.iconst 0, 1) ∧ decode cX10_leastMute 8 = .ok (.iaload, 1) ∧ decode cX10_leastMute 9 = .ok (.if_icmp .ge 32, 3) ∧ decode cX10_leastMute 12 = .ok (.aload_n 1, 1) ∧ decode cX10_leastMute 13 = .ok (.bipush 28, 2) ∧ decode cX10_leastMute 15 = .ok (.iaload, 1) ∧ decode cX10_leastMute 16 = .ok (.iload_n 2, 1) := by decide +kernel
theorem dX10_leastMute_0 : decode cX10_leastMute 0 = .ok (.iconst 0, 1) := dkAb71.1
theorem dX10_leastMute_1 : decode cX10_leastMute 1 = .ok (.istore_n 2, 1) := dkAb71.2.1
theorem dX10_leastMute_2 : decode cX10_leastMute 2 = .ok (.iload_n 2, 1) := dkAb71.2.2.1
theorem dX10_leastMute_3 : decode cX10_leastMute 3 = .ok (.aload_n 0, 1) := dkAb71.2.2.2.1
theorem dX10_leastMute_4 : decode cX10_leastMute 4 = .ok (.getfield 7, 3) := dkAb71.2.2.2.2.1
theorem dX10_leastMute_7 : decode cX10_leastMute 7 = .ok (.iconst 0, 1) := dkAb71.2.2.2.2.2.1
theorem dX10_leastMute_8 : decode cX10_leastMute 8 = .ok (.iaload, 1) := dkAb71.2.2.2.2.2.2.1
theorem dX10_leastMute_9 : decode cX10_leastMute 9 = .ok (.if_icmp .ge 32, 3) := dkAb71.2.2.2.2.2.2.2.1
theorem dX10_leastMute_12 : decode cX10_leastMute 12 = .ok (.aload_n 1, 1) := dkAb71.2.2.2.2.2.2.2.2.1
theorem dX10_leastMute_13 : decode cX10_leastMute 13 = .ok (.bipush 28, 2) := dkAb71.2.2.2.2.2.2.2.2.2.1
theorem dX10_leastMute_15 : decode cX10_leastMute 15 = .ok (.iaload, 1) := dkAb71.2.2.2.2.2.2.2.2.2.2.1
theorem dX10_leastMute_16 : decode cX10_leastMute 16 = .ok (.iload_n 2, 1) := dkAb71.2.2.2.2.2.2.2.2.2.2.2
set_option maxRecDepth 100000 in
theorem dkAb72 : decode cX10_leastMute 17 = .ok (.invokestatic 134, 3) ∧ decode cX10_leastMute 20 = .ok (.ifCond .eq 15, 3) ∧ decode cX10_leastMute 23 = .ok (.aload_n 1, 1) ∧ decode cX10_leastMute 24 = .ok (.iconst 0, 1) ∧ decode cX10_leastMute 25 = .ok (.iload_n 2, 1) ∧ decode cX10_leastMute 26 = .ok (.iadd, 1) ∧ decode cX10_leastMute 27 = .ok (.iaload, 1) ∧ decode cX10_leastMute 28 = .ok (.bipush 9, 2) ∧ decode cX10_leastMute 30 = .ok (.if_icmp .ne 5, 3) ∧ decode cX10_leastMute 33 = .ok (.iload_n 2, 1) ∧ decode cX10_leastMute 34 = .ok (.ireturn, 1) ∧ decode cX10_leastMute 35 = .ok (.iinc 2 1, 3) := by decide +kernel
theorem dX10_leastMute_17 : decode cX10_leastMute 17 = .ok (.invokestatic 134, 3) := dkAb72.1
theorem dX10_leastMute_20 : decode cX10_leastMute 20 = .ok (.ifCond .eq 15, 3) := dkAb72.2.1
theorem dX10_leastMute_23 : decode cX10_leastMute 23 = .ok (.aload_n 1, 1) := dkAb72.2.2.1
theorem dX10_leastMute_24 : decode cX10_leastMute 24 = .ok (.iconst 0, 1) := dkAb72.2.2.2.1
theorem dX10_leastMute_25 : decode cX10_leastMute 25 = .ok (.iload_n 2, 1) := dkAb72.2.2.2.2.1
theorem dX10_leastMute_26 : decode cX10_leastMute 26 = .ok (.iadd, 1) := dkAb72.2.2.2.2.2.1
theorem dX10_leastMute_27 : decode cX10_leastMute 27 = .ok (.iaload, 1) := dkAb72.2.2.2.2.2.2.1
theorem dX10_leastMute_28 : decode cX10_leastMute 28 = .ok (.bipush 9, 2) := dkAb72.2.2.2.2.2.2.2.1
theorem dX10_leastMute_30 : decode cX10_leastMute 30 = .ok (.if_icmp .ne 5, 3) := dkAb72.2.2.2.2.2.2.2.2.1
theorem dX10_leastMute_33 : decode cX10_leastMute 33 = .ok (.iload_n 2, 1) := dkAb72.2.2.2.2.2.2.2.2.2.1
theorem dX10_leastMute_34 : decode cX10_leastMute 34 = .ok (.ireturn, 1) := dkAb72.2.2.2.2.2.2.2.2.2.2.1
theorem dX10_leastMute_35 : decode cX10_leastMute 35 = .ok (.iinc 2 1, 3) := dkAb72.2.2.2.2.2.2.2.2.2.2.2
set_option maxRecDepth 100000 in
theorem dkAb73 : decode cX10_leastMute 38 = .ok (.goto (-36), 3) ∧ decode cX10_leastMute 41 = .ok (.iconst (-1), 1) ∧ decode cX10_leastMute 42 = .ok (.ireturn, 1) := by decide +kernel
theorem dX10_leastMute_38 : decode cX10_leastMute 38 = .ok (.goto (-36), 3) := dkAb73.1
theorem dX10_leastMute_41 : decode cX10_leastMute 41 = .ok (.iconst (-1), 1) := dkAb73.2.1
theorem dX10_leastMute_42 : decode cX10_leastMute 42 = .ok (.ireturn, 1) := dkAb73.2.2
set_option maxRecDepth 100000 in
theorem dkAb74 : decode cX10_gets 0 = .ok (.aload_n 1, 1) ∧ decode cX10_gets 1 = .ok (.bipush 7, 2) ∧ decode cX10_gets 3 = .ok (.iload_n 2, 1) ∧ decode cX10_gets 4 = .ok (.iadd, 1) ∧ decode cX10_gets 5 = .ok (.dup2, 1) ∧ decode cX10_gets 6 = .ok (.iaload, 1) ∧ decode cX10_gets 7 = .ok (.aload_n 1, 1) ∧ decode cX10_gets 8 = .ok (.iconst 0, 1) ∧ decode cX10_gets 9 = .ok (.iload_n 2, 1) ∧ decode cX10_gets 10 = .ok (.iadd, 1) ∧ decode cX10_gets 11 = .ok (.iaload, 1) ∧ decode cX10_gets 12 = .ok (.bipush 9, 2) := by decide +kernel
theorem dX10_gets_0 : decode cX10_gets 0 = .ok (.aload_n 1, 1) := dkAb74.1
theorem dX10_gets_1 : decode cX10_gets 1 = .ok (.bipush 7, 2) := dkAb74.2.1
theorem dX10_gets_3 : decode cX10_gets 3 = .ok (.iload_n 2, 1) := dkAb74.2.2.1
theorem dX10_gets_4 : decode cX10_gets 4 = .ok (.iadd, 1) := dkAb74.2.2.2.1
theorem dX10_gets_5 : decode cX10_gets 5 = .ok (.dup2, 1) := dkAb74.2.2.2.2.1
theorem dX10_gets_6 : decode cX10_gets 6 = .ok (.iaload, 1) := dkAb74.2.2.2.2.2.1
theorem dX10_gets_7 : decode cX10_gets 7 = .ok (.aload_n 1, 1) := dkAb74.2.2.2.2.2.2.1
theorem dX10_gets_8 : decode cX10_gets 8 = .ok (.iconst 0, 1) := dkAb74.2.2.2.2.2.2.2.1
theorem dX10_gets_9 : decode cX10_gets 9 = .ok (.iload_n 2, 1) := dkAb74.2.2.2.2.2.2.2.2.1
theorem dX10_gets_10 : decode cX10_gets 10 = .ok (.iadd, 1) := dkAb74.2.2.2.2.2.2.2.2.2.1
theorem dX10_gets_11 : decode cX10_gets 11 = .ok (.iaload, 1) := dkAb74.2.2.2.2.2.2.2.2.2.2.1
theorem dX10_gets_12 : decode cX10_gets 12 = .ok (.bipush 9, 2) := dkAb74.2.2.2.2.2.2.2.2.2.2.2
set_option maxRecDepth 100000 in
theorem dkAb75 : decode cX10_gets 14 = .ok (.if_icmp .ne 7, 3) ∧ decode cX10_gets 17 = .ok (.iconst 0, 1) ∧ decode cX10_gets 18 = .ok (.goto 10, 3) ∧ decode cX10_gets 21 = .ok (.iconst 1, 1) ∧ decode cX10_gets 22 = .ok (.aload_n 1, 1) ∧ decode cX10_gets 23 = .ok (.iconst 0, 1) ∧ decode cX10_gets 24 = .ok (.iload_n 2, 1) ∧ decode cX10_gets 25 = .ok (.iadd, 1) ∧ decode cX10_gets 26 = .ok (.iaload, 1) ∧ decode cX10_gets 27 = .ok (.ishl, 1) ∧ decode cX10_gets 28 = .ok (.ior, 1) ∧ decode cX10_gets 29 = .ok (.iastore, 1) := by decide +kernel
theorem dX10_gets_14 : decode cX10_gets 14 = .ok (.if_icmp .ne 7, 3) := dkAb75.1
theorem dX10_gets_17 : decode cX10_gets 17 = .ok (.iconst 0, 1) := dkAb75.2.1
theorem dX10_gets_18 : decode cX10_gets 18 = .ok (.goto 10, 3) := dkAb75.2.2.1
theorem dX10_gets_21 : decode cX10_gets 21 = .ok (.iconst 1, 1) := dkAb75.2.2.2.1
theorem dX10_gets_22 : decode cX10_gets 22 = .ok (.aload_n 1, 1) := dkAb75.2.2.2.2.1
theorem dX10_gets_23 : decode cX10_gets 23 = .ok (.iconst 0, 1) := dkAb75.2.2.2.2.2.1
theorem dX10_gets_24 : decode cX10_gets 24 = .ok (.iload_n 2, 1) := dkAb75.2.2.2.2.2.2.1
theorem dX10_gets_25 : decode cX10_gets 25 = .ok (.iadd, 1) := dkAb75.2.2.2.2.2.2.2.1
theorem dX10_gets_26 : decode cX10_gets 26 = .ok (.iaload, 1) := dkAb75.2.2.2.2.2.2.2.2.1
theorem dX10_gets_27 : decode cX10_gets 27 = .ok (.ishl, 1) := dkAb75.2.2.2.2.2.2.2.2.2.1
theorem dX10_gets_28 : decode cX10_gets 28 = .ok (.ior, 1) := dkAb75.2.2.2.2.2.2.2.2.2.2.1
theorem dX10_gets_29 : decode cX10_gets 29 = .ok (.iastore, 1) := dkAb75.2.2.2.2.2.2.2.2.2.2.2
set_option maxRecDepth 100000 in
theorem dkAb76 : decode cX10_gets 30 = .ok (.aload_n 1, 1) ∧ decode cX10_gets 31 = .ok (.iconst 0, 1) ∧ decode cX10_gets 32 = .ok (.iload_n 2, 1) ∧ decode cX10_gets 33 = .ok (.iadd, 1) ∧ decode cX10_gets 34 = .ok (.iload_n 3, 1) ∧ decode cX10_gets 35 = .ok (.iastore, 1) ∧ decode cX10_gets 36 = .ok (.return_, 1) := by decide +kernel
theorem dX10_gets_30 : decode cX10_gets 30 = .ok (.aload_n 1, 1) := dkAb76.1
theorem dX10_gets_31 : decode cX10_gets 31 = .ok (.iconst 0, 1) := dkAb76.2.1
theorem dX10_gets_32 : decode cX10_gets 32 = .ok (.iload_n 2, 1) := dkAb76.2.2.1
theorem dX10_gets_33 : decode cX10_gets 33 = .ok (.iadd, 1) := dkAb76.2.2.2.1
theorem dX10_gets_34 : decode cX10_gets 34 = .ok (.iload_n 3, 1) := dkAb76.2.2.2.2.1
theorem dX10_gets_35 : decode cX10_gets 35 = .ok (.iastore, 1) := dkAb76.2.2.2.2.2.1
theorem dX10_gets_36 : decode cX10_gets 36 = .ok (.return_, 1) := dkAb76.2.2.2.2.2.2
set_option maxRecDepth 100000 in
theorem dkAb77 : decode cX10_lives 0 = .ok (.iload_n 1, 1) ∧ decode cX10_lives 1 = .ok (.bipush 9, 2) ∧ decode cX10_lives 3 = .ok (.if_icmp .eq 18, 3) ∧ decode cX10_lives 6 = .ok (.aload_n 0, 1) ∧ decode cX10_lives 7 = .ok (.bipush 28, 2) ∧ decode cX10_lives 9 = .ok (.iaload, 1) ∧ decode cX10_lives 10 = .ok (.iload_n 1, 1) ∧ decode cX10_lives 11 = .ok (.invokestatic 134, 3) ∧ decode cX10_lives 14 = .ok (.ifCond .eq 7, 3) ∧ decode cX10_lives 17 = .ok (.iconst 1, 1) ∧ decode cX10_lives 18 = .ok (.goto 4, 3) ∧ decode cX10_lives 21 = .ok (.iconst 0, 1) := by decide +kernel
theorem dX10_lives_0 : decode cX10_lives 0 = .ok (.iload_n 1, 1) := dkAb77.1
theorem dX10_lives_1 : decode cX10_lives 1 = .ok (.bipush 9, 2) := dkAb77.2.1
theorem dX10_lives_3 : decode cX10_lives 3 = .ok (.if_icmp .eq 18, 3) := dkAb77.2.2.1
theorem dX10_lives_6 : decode cX10_lives 6 = .ok (.aload_n 0, 1) := dkAb77.2.2.2.1
theorem dX10_lives_7 : decode cX10_lives 7 = .ok (.bipush 28, 2) := dkAb77.2.2.2.2.1
theorem dX10_lives_9 : decode cX10_lives 9 = .ok (.iaload, 1) := dkAb77.2.2.2.2.2.1
theorem dX10_lives_10 : decode cX10_lives 10 = .ok (.iload_n 1, 1) := dkAb77.2.2.2.2.2.2.1
theorem dX10_lives_11 : decode cX10_lives 11 = .ok (.invokestatic 134, 3) := dkAb77.2.2.2.2.2.2.2.1
theorem dX10_lives_14 : decode cX10_lives 14 = .ok (.ifCond .eq 7, 3) := dkAb77.2.2.2.2.2.2.2.2.1
theorem dX10_lives_17 : decode cX10_lives 17 = .ok (.iconst 1, 1) := dkAb77.2.2.2.2.2.2.2.2.2.1
theorem dX10_lives_18 : decode cX10_lives 18 = .ok (.goto 4, 3) := dkAb77.2.2.2.2.2.2.2.2.2.2.1
theorem dX10_lives_21 : decode cX10_lives 21 = .ok (.iconst 0, 1) := dkAb77.2.2.2.2.2.2.2.2.2.2.2
theorem dX10_lives_22 : decode cX10_lives 22 = .ok (.ireturn, 1) := by decide +kernel
set_option maxRecDepth 100000 in
theorem dkAb78 : decode cX10_dies 0 = .ok (.aload_n 1, 1) ∧ decode cX10_dies 1 = .ok (.iconst 0, 1) ∧ decode cX10_dies 2 = .ok (.iload_n 2, 1) ∧ decode cX10_dies 3 = .ok (.iadd, 1) ∧ decode cX10_dies 4 = .ok (.iaload, 1) ∧ decode cX10_dies 5 = .ok (.istore_n 3, 1) ∧ decode cX10_dies 6 = .ok (.aload_n 1, 1) ∧ decode cX10_dies 7 = .ok (.bipush 7, 2) ∧ decode cX10_dies 9 = .ok (.iload_n 2, 1) ∧ decode cX10_dies 10 = .ok (.iadd, 1) ∧ decode cX10_dies 11 = .ok (.iaload, 1) ∧ decode cX10_dies 12 = .ok (.istore 4, 2) := by decide +kernel
theorem dX10_dies_0 : decode cX10_dies 0 = .ok (.aload_n 1, 1) := dkAb78.1
theorem dX10_dies_1 : decode cX10_dies 1 = .ok (.iconst 0, 1) := dkAb78.2.1
theorem dX10_dies_2 : decode cX10_dies 2 = .ok (.iload_n 2, 1) := dkAb78.2.2.1
theorem dX10_dies_3 : decode cX10_dies 3 = .ok (.iadd, 1) := dkAb78.2.2.2.1
theorem dX10_dies_4 : decode cX10_dies 4 = .ok (.iaload, 1) := dkAb78.2.2.2.2.1
theorem dX10_dies_5 : decode cX10_dies 5 = .ok (.istore_n 3, 1) := dkAb78.2.2.2.2.2.1
theorem dX10_dies_6 : decode cX10_dies 6 = .ok (.aload_n 1, 1) := dkAb78.2.2.2.2.2.2.1
theorem dX10_dies_7 : decode cX10_dies 7 = .ok (.bipush 7, 2) := dkAb78.2.2.2.2.2.2.2.1
theorem dX10_dies_9 : decode cX10_dies 9 = .ok (.iload_n 2, 1) := dkAb78.2.2.2.2.2.2.2.2.1
theorem dX10_dies_10 : decode cX10_dies 10 = .ok (.iadd, 1) := dkAb78.2.2.2.2.2.2.2.2.2.1
theorem dX10_dies_11 : decode cX10_dies 11 = .ok (.iaload, 1) := dkAb78.2.2.2.2.2.2.2.2.2.2.1
theorem dX10_dies_12 : decode cX10_dies 12 = .ok (.istore 4, 2) := dkAb78.2.2.2.2.2.2.2.2.2.2.2
set_option maxRecDepth 100000 in
theorem dkAb79 : decode cX10_dies 14 = .ok (.iconst (-1), 1) ∧ decode cX10_dies 15 = .ok (.istore 5, 2) ∧ decode cX10_dies 17 = .ok (.aload_n 1, 1) ∧ decode cX10_dies 18 = .ok (.bipush 28, 2) ∧ decode cX10_dies 20 = .ok (.dup2, 1) ∧ decode cX10_dies 21 = .ok (.iaload, 1) ∧ decode cX10_dies 22 = .ok (.iconst 1, 1) ∧ decode cX10_dies 23 = .ok (.iload_n 2, 1) ∧ decode cX10_dies 24 = .ok (.ishl, 1) ∧ decode cX10_dies 25 = .ok (.iconst (-1), 1) ∧ decode cX10_dies 26 = .ok (.ixor, 1) ∧ decode cX10_dies 27 = .ok (.iand, 1) := by decide +kernel
theorem dX10_dies_14 : decode cX10_dies 14 = .ok (.iconst (-1), 1) := dkAb79.1
theorem dX10_dies_15 : decode cX10_dies 15 = .ok (.istore 5, 2) := dkAb79.2.1
theorem dX10_dies_17 : decode cX10_dies 17 = .ok (.aload_n 1, 1) := dkAb79.2.2.1
theorem dX10_dies_18 : decode cX10_dies 18 = .ok (.bipush 28, 2) := dkAb79.2.2.2.1
theorem dX10_dies_20 : decode cX10_dies 20 = .ok (.dup2, 1) := dkAb79.2.2.2.2.1
theorem dX10_dies_21 : decode cX10_dies 21 = .ok (.iaload, 1) := dkAb79.2.2.2.2.2.1
theorem dX10_dies_22 : decode cX10_dies 22 = .ok (.iconst 1, 1) := dkAb79.2.2.2.2.2.2.1
theorem dX10_dies_23 : decode cX10_dies 23 = .ok (.iload_n 2, 1) := dkAb79.2.2.2.2.2.2.2.1
theorem dX10_dies_24 : decode cX10_dies 24 = .ok (.ishl, 1) := dkAb79.2.2.2.2.2.2.2.2.1
theorem dX10_dies_25 : decode cX10_dies 25 = .ok (.iconst (-1), 1) := dkAb79.2.2.2.2.2.2.2.2.2.1
theorem dX10_dies_26 : decode cX10_dies 26 = .ok (.ixor, 1) := dkAb79.2.2.2.2.2.2.2.2.2.2.1
theorem dX10_dies_27 : decode cX10_dies 27 = .ok (.iand, 1) := dkAb79.2.2.2.2.2.2.2.2.2.2.2
set_option maxRecDepth 100000 in
theorem dkAb80 : decode cX10_dies 28 = .ok (.iastore, 1) ∧ decode cX10_dies 29 = .ok (.aload_n 1, 1) ∧ decode cX10_dies 30 = .ok (.iconst 0, 1) ∧ decode cX10_dies 31 = .ok (.iload_n 2, 1) ∧ decode cX10_dies 32 = .ok (.iadd, 1) ∧ decode cX10_dies 33 = .ok (.bipush 9, 2) ∧ decode cX10_dies 35 = .ok (.iastore, 1) ∧ decode cX10_dies 36 = .ok (.aload_n 1, 1) ∧ decode cX10_dies 37 = .ok (.bipush 7, 2) ∧ decode cX10_dies 39 = .ok (.iload_n 2, 1) ∧ decode cX10_dies 40 = .ok (.iadd, 1) ∧ decode cX10_dies 41 = .ok (.iconst 0, 1) := by decide +kernel
theorem dX10_dies_28 : decode cX10_dies 28 = .ok (.iastore, 1) := dkAb80.1
theorem dX10_dies_29 : decode cX10_dies 29 = .ok (.aload_n 1, 1) := dkAb80.2.1
theorem dX10_dies_30 : decode cX10_dies 30 = .ok (.iconst 0, 1) := dkAb80.2.2.1
theorem dX10_dies_31 : decode cX10_dies 31 = .ok (.iload_n 2, 1) := dkAb80.2.2.2.1
theorem dX10_dies_32 : decode cX10_dies 32 = .ok (.iadd, 1) := dkAb80.2.2.2.2.1
theorem dX10_dies_33 : decode cX10_dies 33 = .ok (.bipush 9, 2) := dkAb80.2.2.2.2.2.1
theorem dX10_dies_35 : decode cX10_dies 35 = .ok (.iastore, 1) := dkAb80.2.2.2.2.2.2.1
theorem dX10_dies_36 : decode cX10_dies 36 = .ok (.aload_n 1, 1) := dkAb80.2.2.2.2.2.2.2.1
theorem dX10_dies_37 : decode cX10_dies 37 = .ok (.bipush 7, 2) := dkAb80.2.2.2.2.2.2.2.2.1
theorem dX10_dies_39 : decode cX10_dies 39 = .ok (.iload_n 2, 1) := dkAb80.2.2.2.2.2.2.2.2.2.1
theorem dX10_dies_40 : decode cX10_dies 40 = .ok (.iadd, 1) := dkAb80.2.2.2.2.2.2.2.2.2.2.1
theorem dX10_dies_41 : decode cX10_dies 41 = .ok (.iconst 0, 1) := dkAb80.2.2.2.2.2.2.2.2.2.2.2
set_option maxRecDepth 100000 in
theorem dkAb81 : decode cX10_dies 42 = .ok (.iastore, 1) ∧ decode cX10_dies 43 = .ok (.aload_n 1, 1) ∧ decode cX10_dies 44 = .ok (.bipush 29, 2) ∧ decode cX10_dies 46 = .ok (.dup2, 1) ∧ decode cX10_dies 47 = .ok (.iaload, 1) ∧ decode cX10_dies 48 = .ok (.iconst 1, 1) ∧ decode cX10_dies 49 = .ok (.iadd, 1) ∧ decode cX10_dies 50 = .ok (.iastore, 1) ∧ decode cX10_dies 51 = .ok (.iload_n 3, 1) ∧ decode cX10_dies 52 = .ok (.bipush 9, 2) ∧ decode cX10_dies 54 = .ok (.if_icmp .eq 68, 3) ∧ decode cX10_dies 57 = .ok (.aload_n 1, 1) := by decide +kernel
theorem dX10_dies_42 : decode cX10_dies 42 = .ok (.iastore, 1) := dkAb81.1
theorem dX10_dies_43 : decode cX10_dies 43 = .ok (.aload_n 1, 1) := dkAb81.2.1
theorem dX10_dies_44 : decode cX10_dies 44 = .ok (.bipush 29, 2) := dkAb81.2.2.1
theorem dX10_dies_46 : decode cX10_dies 46 = .ok (.dup2, 1) := dkAb81.2.2.2.1
theorem dX10_dies_47 : decode cX10_dies 47 = .ok (.iaload, 1) := dkAb81.2.2.2.2.1
theorem dX10_dies_48 : decode cX10_dies 48 = .ok (.iconst 1, 1) := dkAb81.2.2.2.2.2.1
theorem dX10_dies_49 : decode cX10_dies 49 = .ok (.iadd, 1) := dkAb81.2.2.2.2.2.2.1
theorem dX10_dies_50 : decode cX10_dies 50 = .ok (.iastore, 1) := dkAb81.2.2.2.2.2.2.2.1
theorem dX10_dies_51 : decode cX10_dies 51 = .ok (.iload_n 3, 1) := dkAb81.2.2.2.2.2.2.2.2.1
theorem dX10_dies_52 : decode cX10_dies 52 = .ok (.bipush 9, 2) := dkAb81.2.2.2.2.2.2.2.2.2.1
theorem dX10_dies_54 : decode cX10_dies 54 = .ok (.if_icmp .eq 68, 3) := dkAb81.2.2.2.2.2.2.2.2.2.2.1
theorem dX10_dies_57 : decode cX10_dies 57 = .ok (.aload_n 1, 1) := dkAb81.2.2.2.2.2.2.2.2.2.2.2
set_option maxRecDepth 100000 in
theorem dkAb82 : decode cX10_dies 58 = .ok (.aload_n 1, 1) ∧ decode cX10_dies 59 = .ok (.bipush 14, 2) ∧ decode cX10_dies 61 = .ok (.iload_n 2, 1) ∧ decode cX10_dies 62 = .ok (.iadd, 1) ∧ decode cX10_dies 63 = .ok (.iaload, 1) ∧ decode cX10_dies 64 = .ok (.invokestatic 155, 3) ∧ decode cX10_dies 67 = .ok (.ifCond .eq 12, 3) ∧ decode cX10_dies 70 = .ok (.aload_n 1, 1) ∧ decode cX10_dies 71 = .ok (.bipush 14, 2) ∧ decode cX10_dies 73 = .ok (.iload_n 2, 1) ∧ decode cX10_dies 74 = .ok (.iadd, 1) ∧ decode cX10_dies 75 = .ok (.iaload, 1) := by decide +kernel
theorem dX10_dies_58 : decode cX10_dies 58 = .ok (.aload_n 1, 1) := dkAb82.1
theorem dX10_dies_59 : decode cX10_dies 59 = .ok (.bipush 14, 2) := dkAb82.2.1
theorem dX10_dies_61 : decode cX10_dies 61 = .ok (.iload_n 2, 1) := dkAb82.2.2.1
theorem dX10_dies_62 : decode cX10_dies 62 = .ok (.iadd, 1) := dkAb82.2.2.2.1
theorem dX10_dies_63 : decode cX10_dies 63 = .ok (.iaload, 1) := dkAb82.2.2.2.2.1
theorem dX10_dies_64 : decode cX10_dies 64 = .ok (.invokestatic 155, 3) := dkAb82.2.2.2.2.2.1
theorem dX10_dies_67 : decode cX10_dies 67 = .ok (.ifCond .eq 12, 3) := dkAb82.2.2.2.2.2.2.1
theorem dX10_dies_70 : decode cX10_dies 70 = .ok (.aload_n 1, 1) := dkAb82.2.2.2.2.2.2.2.1
theorem dX10_dies_71 : decode cX10_dies 71 = .ok (.bipush 14, 2) := dkAb82.2.2.2.2.2.2.2.2.1
theorem dX10_dies_73 : decode cX10_dies 73 = .ok (.iload_n 2, 1) := dkAb82.2.2.2.2.2.2.2.2.2.1
theorem dX10_dies_74 : decode cX10_dies 74 = .ok (.iadd, 1) := dkAb82.2.2.2.2.2.2.2.2.2.2.1
theorem dX10_dies_75 : decode cX10_dies 75 = .ok (.iaload, 1) := dkAb82.2.2.2.2.2.2.2.2.2.2.2
set_option maxRecDepth 100000 in
theorem dkAb83 : decode cX10_dies 76 = .ok (.goto 30, 3) ∧ decode cX10_dies 79 = .ok (.aload_n 1, 1) ∧ decode cX10_dies 80 = .ok (.aload_n 1, 1) ∧ decode cX10_dies 81 = .ok (.bipush 21, 2) ∧ decode cX10_dies 83 = .ok (.iload_n 2, 1) ∧ decode cX10_dies 84 = .ok (.iadd, 1) ∧ decode cX10_dies 85 = .ok (.iaload, 1) ∧ decode cX10_dies 86 = .ok (.invokestatic 155, 3) ∧ decode cX10_dies 89 = .ok (.ifCond .eq 12, 3) ∧ decode cX10_dies 92 = .ok (.aload_n 1, 1) ∧ decode cX10_dies 93 = .ok (.bipush 21, 2) ∧ decode cX10_dies 95 = .ok (.iload_n 2, 1) := by decide +kernel
theorem dX10_dies_76 : decode cX10_dies 76 = .ok (.goto 30, 3) := dkAb83.1
theorem dX10_dies_79 : decode cX10_dies 79 = .ok (.aload_n 1, 1) := dkAb83.2.1
theorem dX10_dies_80 : decode cX10_dies 80 = .ok (.aload_n 1, 1) := dkAb83.2.2.1
theorem dX10_dies_81 : decode cX10_dies 81 = .ok (.bipush 21, 2) := dkAb83.2.2.2.1
theorem dX10_dies_83 : decode cX10_dies 83 = .ok (.iload_n 2, 1) := dkAb83.2.2.2.2.1
theorem dX10_dies_84 : decode cX10_dies 84 = .ok (.iadd, 1) := dkAb83.2.2.2.2.2.1
theorem dX10_dies_85 : decode cX10_dies 85 = .ok (.iaload, 1) := dkAb83.2.2.2.2.2.2.1
theorem dX10_dies_86 : decode cX10_dies 86 = .ok (.invokestatic 155, 3) := dkAb83.2.2.2.2.2.2.2.1
theorem dX10_dies_89 : decode cX10_dies 89 = .ok (.ifCond .eq 12, 3) := dkAb83.2.2.2.2.2.2.2.2.1
theorem dX10_dies_92 : decode cX10_dies 92 = .ok (.aload_n 1, 1) := dkAb83.2.2.2.2.2.2.2.2.2.1
theorem dX10_dies_93 : decode cX10_dies 93 = .ok (.bipush 21, 2) := dkAb83.2.2.2.2.2.2.2.2.2.2.1
theorem dX10_dies_95 : decode cX10_dies 95 = .ok (.iload_n 2, 1) := dkAb83.2.2.2.2.2.2.2.2.2.2.2
set_option maxRecDepth 100000 in
theorem dkAb84 : decode cX10_dies 96 = .ok (.iadd, 1) ∧ decode cX10_dies 97 = .ok (.iaload, 1) ∧ decode cX10_dies 98 = .ok (.goto 8, 3) ∧ decode cX10_dies 101 = .ok (.aload_n 0, 1) ∧ decode cX10_dies 102 = .ok (.aload_n 1, 1) ∧ decode cX10_dies 103 = .ok (.invokevirtual 159, 3) ∧ decode cX10_dies 106 = .ok (.istore 5, 2) ∧ decode cX10_dies 108 = .ok (.iload 5, 2) ∧ decode cX10_dies 110 = .ok (.iconst (-1), 1) ∧ decode cX10_dies 111 = .ok (.if_icmp .eq 11, 3) ∧ decode cX10_dies 114 = .ok (.aload_n 0, 1) ∧ decode cX10_dies 115 = .ok (.aload_n 1, 1) := by decide +kernel
theorem dX10_dies_96 : decode cX10_dies 96 = .ok (.iadd, 1) := dkAb84.1
theorem dX10_dies_97 : decode cX10_dies 97 = .ok (.iaload, 1) := dkAb84.2.1
theorem dX10_dies_98 : decode cX10_dies 98 = .ok (.goto 8, 3) := dkAb84.2.2.1
theorem dX10_dies_101 : decode cX10_dies 101 = .ok (.aload_n 0, 1) := dkAb84.2.2.2.1
theorem dX10_dies_102 : decode cX10_dies 102 = .ok (.aload_n 1, 1) := dkAb84.2.2.2.2.1
theorem dX10_dies_103 : decode cX10_dies 103 = .ok (.invokevirtual 159, 3) := dkAb84.2.2.2.2.2.1
theorem dX10_dies_106 : decode cX10_dies 106 = .ok (.istore 5, 2) := dkAb84.2.2.2.2.2.2.1
theorem dX10_dies_108 : decode cX10_dies 108 = .ok (.iload 5, 2) := dkAb84.2.2.2.2.2.2.2.1
theorem dX10_dies_110 : decode cX10_dies 110 = .ok (.iconst (-1), 1) := dkAb84.2.2.2.2.2.2.2.2.1
theorem dX10_dies_111 : decode cX10_dies 111 = .ok (.if_icmp .eq 11, 3) := dkAb84.2.2.2.2.2.2.2.2.2.1
theorem dX10_dies_114 : decode cX10_dies 114 = .ok (.aload_n 0, 1) := dkAb84.2.2.2.2.2.2.2.2.2.2.1
theorem dX10_dies_115 : decode cX10_dies 115 = .ok (.aload_n 1, 1) := dkAb84.2.2.2.2.2.2.2.2.2.2.2
set_option maxRecDepth 100000 in
theorem dkAb85 : decode cX10_dies 116 = .ok (.iload 5, 2) ∧ decode cX10_dies 118 = .ok (.iload_n 3, 1) ∧ decode cX10_dies 119 = .ok (.invokevirtual 163, 3) ∧ decode cX10_dies 122 = .ok (.iconst 0, 1) ∧ decode cX10_dies 123 = .ok (.istore 6, 2) ∧ decode cX10_dies 125 = .ok (.iload 6, 2) ∧ decode cX10_dies 127 = .ok (.bipush 7, 2) ∧ decode cX10_dies 129 = .ok (.if_icmp .ge 40, 3) ∧ decode cX10_dies 132 = .ok (.aload_n 0, 1) ∧ decode cX10_dies 133 = .ok (.aload_n 1, 1) ∧ decode cX10_dies 134 = .ok (.invokevirtual 159, 3) ∧ decode cX10_dies 137 = .ok (.istore 7, 2) := by decide +kernel
theorem dX10_dies_116 : decode cX10_dies 116 = .ok (.iload 5, 2) := dkAb85.1
theorem dX10_dies_118 : decode cX10_dies 118 = .ok (.iload_n 3, 1) := dkAb85.2.1
theorem dX10_dies_119 : decode cX10_dies 119 = .ok (.invokevirtual 163, 3) := dkAb85.2.2.1
theorem dX10_dies_122 : decode cX10_dies 122 = .ok (.iconst 0, 1) := dkAb85.2.2.2.1
theorem dX10_dies_123 : decode cX10_dies 123 = .ok (.istore 6, 2) := dkAb85.2.2.2.2.1
theorem dX10_dies_125 : decode cX10_dies 125 = .ok (.iload 6, 2) := dkAb85.2.2.2.2.2.1
theorem dX10_dies_127 : decode cX10_dies 127 = .ok (.bipush 7, 2) := dkAb85.2.2.2.2.2.2.1
theorem dX10_dies_129 : decode cX10_dies 129 = .ok (.if_icmp .ge 40, 3) := dkAb85.2.2.2.2.2.2.2.1
theorem dX10_dies_132 : decode cX10_dies 132 = .ok (.aload_n 0, 1) := dkAb85.2.2.2.2.2.2.2.2.1
theorem dX10_dies_133 : decode cX10_dies 133 = .ok (.aload_n 1, 1) := dkAb85.2.2.2.2.2.2.2.2.2.1
theorem dX10_dies_134 : decode cX10_dies 134 = .ok (.invokevirtual 159, 3) := dkAb85.2.2.2.2.2.2.2.2.2.2.1
theorem dX10_dies_137 : decode cX10_dies 137 = .ok (.istore 7, 2) := dkAb85.2.2.2.2.2.2.2.2.2.2.2
set_option maxRecDepth 100000 in
theorem dkAb86 : decode cX10_dies 139 = .ok (.iload 4, 2) ∧ decode cX10_dies 141 = .ok (.iload 6, 2) ∧ decode cX10_dies 143 = .ok (.invokestatic 134, 3) ∧ decode cX10_dies 146 = .ok (.ifCond .eq 17, 3) ∧ decode cX10_dies 149 = .ok (.iload 7, 2) ∧ decode cX10_dies 151 = .ok (.iconst (-1), 1) ∧ decode cX10_dies 152 = .ok (.if_icmp .eq 11, 3) ∧ decode cX10_dies 155 = .ok (.aload_n 1, 1) ∧ decode cX10_dies 156 = .ok (.iconst 0, 1) ∧ decode cX10_dies 157 = .ok (.iload 7, 2) ∧ decode cX10_dies 159 = .ok (.iadd, 1) ∧ decode cX10_dies 160 = .ok (.iload 6, 2) := by decide +kernel
theorem dX10_dies_139 : decode cX10_dies 139 = .ok (.iload 4, 2) := dkAb86.1
theorem dX10_dies_141 : decode cX10_dies 141 = .ok (.iload 6, 2) := dkAb86.2.1
theorem dX10_dies_143 : decode cX10_dies 143 = .ok (.invokestatic 134, 3) := dkAb86.2.2.1
theorem dX10_dies_146 : decode cX10_dies 146 = .ok (.ifCond .eq 17, 3) := dkAb86.2.2.2.1
theorem dX10_dies_149 : decode cX10_dies 149 = .ok (.iload 7, 2) := dkAb86.2.2.2.2.1
theorem dX10_dies_151 : decode cX10_dies 151 = .ok (.iconst (-1), 1) := dkAb86.2.2.2.2.2.1
theorem dX10_dies_152 : decode cX10_dies 152 = .ok (.if_icmp .eq 11, 3) := dkAb86.2.2.2.2.2.2.1
theorem dX10_dies_155 : decode cX10_dies 155 = .ok (.aload_n 1, 1) := dkAb86.2.2.2.2.2.2.2.1
theorem dX10_dies_156 : decode cX10_dies 156 = .ok (.iconst 0, 1) := dkAb86.2.2.2.2.2.2.2.2.1
theorem dX10_dies_157 : decode cX10_dies 157 = .ok (.iload 7, 2) := dkAb86.2.2.2.2.2.2.2.2.2.1
theorem dX10_dies_159 : decode cX10_dies 159 = .ok (.iadd, 1) := dkAb86.2.2.2.2.2.2.2.2.2.2.1
theorem dX10_dies_160 : decode cX10_dies 160 = .ok (.iload 6, 2) := dkAb86.2.2.2.2.2.2.2.2.2.2.2
set_option maxRecDepth 100000 in
theorem dkAb87 : decode cX10_dies 162 = .ok (.iastore, 1) ∧ decode cX10_dies 163 = .ok (.iinc 6 1, 3) ∧ decode cX10_dies 166 = .ok (.goto (-41), 3) ∧ decode cX10_dies 169 = .ok (.iload 5, 2) ∧ decode cX10_dies 171 = .ok (.ireturn, 1) := by decide +kernel
theorem dX10_dies_162 : decode cX10_dies 162 = .ok (.iastore, 1) := dkAb87.1
theorem dX10_dies_163 : decode cX10_dies 163 = .ok (.iinc 6 1, 3) := dkAb87.2.1
theorem dX10_dies_166 : decode cX10_dies 166 = .ok (.goto (-41), 3) := dkAb87.2.2.1
theorem dX10_dies_169 : decode cX10_dies 169 = .ok (.iload 5, 2) := dkAb87.2.2.2.1
theorem dX10_dies_171 : decode cX10_dies 171 = .ok (.ireturn, 1) := dkAb87.2.2.2.2
set_option maxRecDepth 100000 in
theorem dkAb88 : decode cX10_usesNone 0 = .ok (.iconst 0, 1) ∧ decode cX10_usesNone 1 = .ok (.istore_n 1, 1) ∧ decode cX10_usesNone 2 = .ok (.iconst 0, 1) ∧ decode cX10_usesNone 3 = .ok (.istore_n 2, 1) ∧ decode cX10_usesNone 4 = .ok (.iload_n 2, 1) ∧ decode cX10_usesNone 5 = .ok (.aload_n 0, 1) ∧ decode cX10_usesNone 6 = .ok (.getfield 7, 3) ∧ decode cX10_usesNone 9 = .ok (.iconst 0, 1) ∧ decode cX10_usesNone 10 = .ok (.iaload, 1) ∧ decode cX10_usesNone 11 = .ok (.if_icmp .ge 40, 3) ∧ decode cX10_usesNone 14 = .ok (.iload_n 1, 1) ∧ decode cX10_usesNone 15 = .ok (.aload_n 0, 1) := by decide +kernel
theorem dX10_usesNone_0 : decode cX10_usesNone 0 = .ok (.iconst 0, 1) := dkAb88.1
theorem dX10_usesNone_1 : decode cX10_usesNone 1 = .ok (.istore_n 1, 1) := dkAb88.2.1
theorem dX10_usesNone_2 : decode cX10_usesNone 2 = .ok (.iconst 0, 1) := dkAb88.2.2.1
theorem dX10_usesNone_3 : decode cX10_usesNone 3 = .ok (.istore_n 2, 1) := dkAb88.2.2.2.1
theorem dX10_usesNone_4 : decode cX10_usesNone 4 = .ok (.iload_n 2, 1) := dkAb88.2.2.2.2.1
theorem dX10_usesNone_5 : decode cX10_usesNone 5 = .ok (.aload_n 0, 1) := dkAb88.2.2.2.2.2.1
theorem dX10_usesNone_6 : decode cX10_usesNone 6 = .ok (.getfield 7, 3) := dkAb88.2.2.2.2.2.2.1
theorem dX10_usesNone_9 : decode cX10_usesNone 9 = .ok (.iconst 0, 1) := dkAb88.2.2.2.2.2.2.2.1
theorem dX10_usesNone_10 : decode cX10_usesNone 10 = .ok (.iaload, 1) := dkAb88.2.2.2.2.2.2.2.2.1
theorem dX10_usesNone_11 : decode cX10_usesNone 11 = .ok (.if_icmp .ge 40, 3) := dkAb88.2.2.2.2.2.2.2.2.2.1
theorem dX10_usesNone_14 : decode cX10_usesNone 14 = .ok (.iload_n 1, 1) := dkAb88.2.2.2.2.2.2.2.2.2.2.1
theorem dX10_usesNone_15 : decode cX10_usesNone 15 = .ok (.aload_n 0, 1) := dkAb88.2.2.2.2.2.2.2.2.2.2.2
set_option maxRecDepth 100000 in
theorem dkAb89 : decode cX10_usesNone 16 = .ok (.iload_n 2, 1) ∧ decode cX10_usesNone 17 = .ok (.invokevirtual 167, 3) ∧ decode cX10_usesNone 20 = .ok (.ifCond .eq 22, 3) ∧ decode cX10_usesNone 23 = .ok (.aload_n 0, 1) ∧ decode cX10_usesNone 24 = .ok (.getfield 16, 3) ∧ decode cX10_usesNone 27 = .ok (.iconst 0, 1) ∧ decode cX10_usesNone 28 = .ok (.iload_n 2, 1) ∧ decode cX10_usesNone 29 = .ok (.iadd, 1) ∧ decode cX10_usesNone 30 = .ok (.iaload, 1) ∧ decode cX10_usesNone 31 = .ok (.bipush 9, 2) ∧ decode cX10_usesNone 33 = .ok (.if_icmp .ne 9, 3) ∧ decode cX10_usesNone 36 = .ok (.iconst 1, 1) := by decide +kernel
theorem dX10_usesNone_16 : decode cX10_usesNone 16 = .ok (.iload_n 2, 1) := dkAb89.1
theorem dX10_usesNone_17 : decode cX10_usesNone 17 = .ok (.invokevirtual 167, 3) := dkAb89.2.1
theorem dX10_usesNone_20 : decode cX10_usesNone 20 = .ok (.ifCond .eq 22, 3) := dkAb89.2.2.1
theorem dX10_usesNone_23 : decode cX10_usesNone 23 = .ok (.aload_n 0, 1) := dkAb89.2.2.2.1
theorem dX10_usesNone_24 : decode cX10_usesNone 24 = .ok (.getfield 16, 3) := dkAb89.2.2.2.2.1
theorem dX10_usesNone_27 : decode cX10_usesNone 27 = .ok (.iconst 0, 1) := dkAb89.2.2.2.2.2.1
theorem dX10_usesNone_28 : decode cX10_usesNone 28 = .ok (.iload_n 2, 1) := dkAb89.2.2.2.2.2.2.1
theorem dX10_usesNone_29 : decode cX10_usesNone 29 = .ok (.iadd, 1) := dkAb89.2.2.2.2.2.2.2.1
theorem dX10_usesNone_30 : decode cX10_usesNone 30 = .ok (.iaload, 1) := dkAb89.2.2.2.2.2.2.2.2.1
theorem dX10_usesNone_31 : decode cX10_usesNone 31 = .ok (.bipush 9, 2) := dkAb89.2.2.2.2.2.2.2.2.2.1
theorem dX10_usesNone_33 : decode cX10_usesNone 33 = .ok (.if_icmp .ne 9, 3) := dkAb89.2.2.2.2.2.2.2.2.2.2.1
theorem dX10_usesNone_36 : decode cX10_usesNone 36 = .ok (.iconst 1, 1) := dkAb89.2.2.2.2.2.2.2.2.2.2.2
set_option maxRecDepth 100000 in
theorem dkAb90 : decode cX10_usesNone 37 = .ok (.iload_n 2, 1) ∧ decode cX10_usesNone 38 = .ok (.ishl, 1) ∧ decode cX10_usesNone 39 = .ok (.goto 4, 3) ∧ decode cX10_usesNone 42 = .ok (.iconst 0, 1) ∧ decode cX10_usesNone 43 = .ok (.ior, 1) ∧ decode cX10_usesNone 44 = .ok (.istore_n 1, 1) ∧ decode cX10_usesNone 45 = .ok (.iinc 2 1, 3) ∧ decode cX10_usesNone 48 = .ok (.goto (-44), 3) ∧ decode cX10_usesNone 51 = .ok (.iload_n 1, 1) ∧ decode cX10_usesNone 52 = .ok (.ireturn, 1) := by decide +kernel
theorem dX10_usesNone_37 : decode cX10_usesNone 37 = .ok (.iload_n 2, 1) := dkAb90.1
theorem dX10_usesNone_38 : decode cX10_usesNone 38 = .ok (.ishl, 1) := dkAb90.2.1
theorem dX10_usesNone_39 : decode cX10_usesNone 39 = .ok (.goto 4, 3) := dkAb90.2.2.1
theorem dX10_usesNone_42 : decode cX10_usesNone 42 = .ok (.iconst 0, 1) := dkAb90.2.2.2.1
theorem dX10_usesNone_43 : decode cX10_usesNone 43 = .ok (.ior, 1) := dkAb90.2.2.2.2.1
theorem dX10_usesNone_44 : decode cX10_usesNone 44 = .ok (.istore_n 1, 1) := dkAb90.2.2.2.2.2.1
theorem dX10_usesNone_45 : decode cX10_usesNone 45 = .ok (.iinc 2 1, 3) := dkAb90.2.2.2.2.2.2.1
theorem dX10_usesNone_48 : decode cX10_usesNone 48 = .ok (.goto (-44), 3) := dkAb90.2.2.2.2.2.2.2.1
theorem dX10_usesNone_51 : decode cX10_usesNone 51 = .ok (.iload_n 1, 1) := dkAb90.2.2.2.2.2.2.2.2.1
theorem dX10_usesNone_52 : decode cX10_usesNone 52 = .ok (.ireturn, 1) := dkAb90.2.2.2.2.2.2.2.2.2
set_option maxRecDepth 100000 in
theorem dkAb91 : decode cX10_allVoices 0 = .ok (.iconst 0, 1) ∧ decode cX10_allVoices 1 = .ok (.istore_n 1, 1) ∧ decode cX10_allVoices 2 = .ok (.iconst 0, 1) ∧ decode cX10_allVoices 3 = .ok (.istore_n 2, 1) ∧ decode cX10_allVoices 4 = .ok (.iload_n 2, 1) ∧ decode cX10_allVoices 5 = .ok (.aload_n 0, 1) ∧ decode cX10_allVoices 6 = .ok (.getfield 7, 3) ∧ decode cX10_allVoices 9 = .ok (.iconst 0, 1) ∧ decode cX10_allVoices 10 = .ok (.iaload, 1) ∧ decode cX10_allVoices 11 = .ok (.if_icmp .ge 32, 3) ∧ decode cX10_allVoices 14 = .ok (.iload_n 1, 1) ∧ decode cX10_allVoices 15 = .ok (.aload_n 0, 1) := by decide +kernel
theorem dX10_allVoices_0 : decode cX10_allVoices 0 = .ok (.iconst 0, 1) := dkAb91.1
theorem dX10_allVoices_1 : decode cX10_allVoices 1 = .ok (.istore_n 1, 1) := dkAb91.2.1
theorem dX10_allVoices_2 : decode cX10_allVoices 2 = .ok (.iconst 0, 1) := dkAb91.2.2.1
theorem dX10_allVoices_3 : decode cX10_allVoices 3 = .ok (.istore_n 2, 1) := dkAb91.2.2.2.1
theorem dX10_allVoices_4 : decode cX10_allVoices 4 = .ok (.iload_n 2, 1) := dkAb91.2.2.2.2.1
theorem dX10_allVoices_5 : decode cX10_allVoices 5 = .ok (.aload_n 0, 1) := dkAb91.2.2.2.2.2.1
theorem dX10_allVoices_6 : decode cX10_allVoices 6 = .ok (.getfield 7, 3) := dkAb91.2.2.2.2.2.2.1
theorem dX10_allVoices_9 : decode cX10_allVoices 9 = .ok (.iconst 0, 1) := dkAb91.2.2.2.2.2.2.2.1
theorem dX10_allVoices_10 : decode cX10_allVoices 10 = .ok (.iaload, 1) := dkAb91.2.2.2.2.2.2.2.2.1
theorem dX10_allVoices_11 : decode cX10_allVoices 11 = .ok (.if_icmp .ge 32, 3) := dkAb91.2.2.2.2.2.2.2.2.2.1
theorem dX10_allVoices_14 : decode cX10_allVoices 14 = .ok (.iload_n 1, 1) := dkAb91.2.2.2.2.2.2.2.2.2.2.1
theorem dX10_allVoices_15 : decode cX10_allVoices 15 = .ok (.aload_n 0, 1) := dkAb91.2.2.2.2.2.2.2.2.2.2.2
set_option maxRecDepth 100000 in
theorem dkAb92 : decode cX10_allVoices 16 = .ok (.getfield 7, 3) ∧ decode cX10_allVoices 19 = .ok (.iconst 3, 1) ∧ decode cX10_allVoices 20 = .ok (.iload_n 2, 1) ∧ decode cX10_allVoices 21 = .ok (.iadd, 1) ∧ decode cX10_allVoices 22 = .ok (.iaload, 1) ∧ decode cX10_allVoices 23 = .ok (.bipush 9, 2) ∧ decode cX10_allVoices 25 = .ok (.if_icmp .ne 7, 3) ∧ decode cX10_allVoices 28 = .ok (.iconst 0, 1) ∧ decode cX10_allVoices 29 = .ok (.goto 6, 3) ∧ decode cX10_allVoices 32 = .ok (.iconst 1, 1) ∧ decode cX10_allVoices 33 = .ok (.iload_n 2, 1) ∧ decode cX10_allVoices 34 = .ok (.ishl, 1) := by decide +kernel
theorem dX10_allVoices_16 : decode cX10_allVoices 16 = .ok (.getfield 7, 3) := dkAb92.1
theorem dX10_allVoices_19 : decode cX10_allVoices 19 = .ok (.iconst 3, 1) := dkAb92.2.1
theorem dX10_allVoices_20 : decode cX10_allVoices 20 = .ok (.iload_n 2, 1) := dkAb92.2.2.1
theorem dX10_allVoices_21 : decode cX10_allVoices 21 = .ok (.iadd, 1) := dkAb92.2.2.2.1
theorem dX10_allVoices_22 : decode cX10_allVoices 22 = .ok (.iaload, 1) := dkAb92.2.2.2.2.1
theorem dX10_allVoices_23 : decode cX10_allVoices 23 = .ok (.bipush 9, 2) := dkAb92.2.2.2.2.2.1
theorem dX10_allVoices_25 : decode cX10_allVoices 25 = .ok (.if_icmp .ne 7, 3) := dkAb92.2.2.2.2.2.2.1
theorem dX10_allVoices_28 : decode cX10_allVoices 28 = .ok (.iconst 0, 1) := dkAb92.2.2.2.2.2.2.2.1
theorem dX10_allVoices_29 : decode cX10_allVoices 29 = .ok (.goto 6, 3) := dkAb92.2.2.2.2.2.2.2.2.1
theorem dX10_allVoices_32 : decode cX10_allVoices 32 = .ok (.iconst 1, 1) := dkAb92.2.2.2.2.2.2.2.2.2.1
theorem dX10_allVoices_33 : decode cX10_allVoices 33 = .ok (.iload_n 2, 1) := dkAb92.2.2.2.2.2.2.2.2.2.2.1
theorem dX10_allVoices_34 : decode cX10_allVoices 34 = .ok (.ishl, 1) := dkAb92.2.2.2.2.2.2.2.2.2.2.2
set_option maxRecDepth 100000 in
theorem dkAb93 : decode cX10_allVoices 35 = .ok (.ior, 1) ∧ decode cX10_allVoices 36 = .ok (.istore_n 1, 1) ∧ decode cX10_allVoices 37 = .ok (.iinc 2 1, 3) ∧ decode cX10_allVoices 40 = .ok (.goto (-36), 3) ∧ decode cX10_allVoices 43 = .ok (.iload_n 1, 1) ∧ decode cX10_allVoices 44 = .ok (.ireturn, 1) := by decide +kernel
theorem dX10_allVoices_35 : decode cX10_allVoices 35 = .ok (.ior, 1) := dkAb93.1
theorem dX10_allVoices_36 : decode cX10_allVoices 36 = .ok (.istore_n 1, 1) := dkAb93.2.1
theorem dX10_allVoices_37 : decode cX10_allVoices 37 = .ok (.iinc 2 1, 3) := dkAb93.2.2.1
theorem dX10_allVoices_40 : decode cX10_allVoices 40 = .ok (.goto (-36), 3) := dkAb93.2.2.2.1
theorem dX10_allVoices_43 : decode cX10_allVoices 43 = .ok (.iload_n 1, 1) := dkAb93.2.2.2.2.1
theorem dX10_allVoices_44 : decode cX10_allVoices 44 = .ok (.ireturn, 1) := dkAb93.2.2.2.2.2
set_option maxRecDepth 100000 in
theorem dkAb94 : decode cX10_lost 0 = .ok (.aload_n 0, 1) ∧ decode cX10_lost 1 = .ok (.invokevirtual 170, 3) ∧ decode cX10_lost 4 = .ok (.istore_n 1, 1) ∧ decode cX10_lost 5 = .ok (.iconst 0, 1) ∧ decode cX10_lost 6 = .ok (.istore_n 2, 1) ∧ decode cX10_lost 7 = .ok (.iload_n 2, 1) ∧ decode cX10_lost 8 = .ok (.aload_n 0, 1) ∧ decode cX10_lost 9 = .ok (.getfield 7, 3) ∧ decode cX10_lost 12 = .ok (.iconst 0, 1) ∧ decode cX10_lost 13 = .ok (.iaload, 1) ∧ decode cX10_lost 14 = .ok (.if_icmp .ge 55, 3) ∧ decode cX10_lost 17 = .ok (.iload_n 1, 1) := by decide +kernel
theorem dX10_lost_0 : decode cX10_lost 0 = .ok (.aload_n 0, 1) := dkAb94.1
theorem dX10_lost_1 : decode cX10_lost 1 = .ok (.invokevirtual 170, 3) := dkAb94.2.1
theorem dX10_lost_4 : decode cX10_lost 4 = .ok (.istore_n 1, 1) := dkAb94.2.2.1
theorem dX10_lost_5 : decode cX10_lost 5 = .ok (.iconst 0, 1) := dkAb94.2.2.2.1
theorem dX10_lost_6 : decode cX10_lost 6 = .ok (.istore_n 2, 1) := dkAb94.2.2.2.2.1
theorem dX10_lost_7 : decode cX10_lost 7 = .ok (.iload_n 2, 1) := dkAb94.2.2.2.2.2.1
theorem dX10_lost_8 : decode cX10_lost 8 = .ok (.aload_n 0, 1) := dkAb94.2.2.2.2.2.2.1
theorem dX10_lost_9 : decode cX10_lost 9 = .ok (.getfield 7, 3) := dkAb94.2.2.2.2.2.2.2.1
theorem dX10_lost_12 : decode cX10_lost 12 = .ok (.iconst 0, 1) := dkAb94.2.2.2.2.2.2.2.2.1
theorem dX10_lost_13 : decode cX10_lost 13 = .ok (.iaload, 1) := dkAb94.2.2.2.2.2.2.2.2.2.1
theorem dX10_lost_14 : decode cX10_lost 14 = .ok (.if_icmp .ge 55, 3) := dkAb94.2.2.2.2.2.2.2.2.2.2.1
theorem dX10_lost_17 : decode cX10_lost 17 = .ok (.iload_n 1, 1) := dkAb94.2.2.2.2.2.2.2.2.2.2.2
set_option maxRecDepth 100000 in
theorem dkAb95 : decode cX10_lost 18 = .ok (.aload_n 0, 1) ∧ decode cX10_lost 19 = .ok (.getfield 16, 3) ∧ decode cX10_lost 22 = .ok (.bipush 7, 2) ∧ decode cX10_lost 24 = .ok (.iload_n 2, 1) ∧ decode cX10_lost 25 = .ok (.iadd, 1) ∧ decode cX10_lost 26 = .ok (.iaload, 1) ∧ decode cX10_lost 27 = .ok (.iconst (-1), 1) ∧ decode cX10_lost 28 = .ok (.ixor, 1) ∧ decode cX10_lost 29 = .ok (.iand, 1) ∧ decode cX10_lost 30 = .ok (.istore_n 1, 1) ∧ decode cX10_lost 31 = .ok (.iload_n 1, 1) ∧ decode cX10_lost 32 = .ok (.aload_n 0, 1) := by decide +kernel
theorem dX10_lost_18 : decode cX10_lost 18 = .ok (.aload_n 0, 1) := dkAb95.1
theorem dX10_lost_19 : decode cX10_lost 19 = .ok (.getfield 16, 3) := dkAb95.2.1
theorem dX10_lost_22 : decode cX10_lost 22 = .ok (.bipush 7, 2) := dkAb95.2.2.1
theorem dX10_lost_24 : decode cX10_lost 24 = .ok (.iload_n 2, 1) := dkAb95.2.2.2.1
theorem dX10_lost_25 : decode cX10_lost 25 = .ok (.iadd, 1) := dkAb95.2.2.2.2.1
theorem dX10_lost_26 : decode cX10_lost 26 = .ok (.iaload, 1) := dkAb95.2.2.2.2.2.1
theorem dX10_lost_27 : decode cX10_lost 27 = .ok (.iconst (-1), 1) := dkAb95.2.2.2.2.2.2.1
theorem dX10_lost_28 : decode cX10_lost 28 = .ok (.ixor, 1) := dkAb95.2.2.2.2.2.2.2.1
theorem dX10_lost_29 : decode cX10_lost 29 = .ok (.iand, 1) := dkAb95.2.2.2.2.2.2.2.2.1
theorem dX10_lost_30 : decode cX10_lost 30 = .ok (.istore_n 1, 1) := dkAb95.2.2.2.2.2.2.2.2.2.1
theorem dX10_lost_31 : decode cX10_lost 31 = .ok (.iload_n 1, 1) := dkAb95.2.2.2.2.2.2.2.2.2.2.1
theorem dX10_lost_32 : decode cX10_lost 32 = .ok (.aload_n 0, 1) := dkAb95.2.2.2.2.2.2.2.2.2.2.2
set_option maxRecDepth 100000 in
theorem dkAb96 : decode cX10_lost 33 = .ok (.getfield 16, 3) ∧ decode cX10_lost 36 = .ok (.iconst 0, 1) ∧ decode cX10_lost 37 = .ok (.iload_n 2, 1) ∧ decode cX10_lost 38 = .ok (.iadd, 1) ∧ decode cX10_lost 39 = .ok (.iaload, 1) ∧ decode cX10_lost 40 = .ok (.bipush 9, 2) ∧ decode cX10_lost 42 = .ok (.if_icmp .ne 7, 3) ∧ decode cX10_lost 45 = .ok (.iconst (-1), 1) ∧ decode cX10_lost 46 = .ok (.goto 15, 3) ∧ decode cX10_lost 49 = .ok (.iconst 1, 1) ∧ decode cX10_lost 50 = .ok (.aload_n 0, 1) ∧ decode cX10_lost 51 = .ok (.getfield 16, 3) := by decide +kernel
theorem dX10_lost_33 : decode cX10_lost 33 = .ok (.getfield 16, 3) := dkAb96.1
theorem dX10_lost_36 : decode cX10_lost 36 = .ok (.iconst 0, 1) := dkAb96.2.1
theorem dX10_lost_37 : decode cX10_lost 37 = .ok (.iload_n 2, 1) := dkAb96.2.2.1
theorem dX10_lost_38 : decode cX10_lost 38 = .ok (.iadd, 1) := dkAb96.2.2.2.1
theorem dX10_lost_39 : decode cX10_lost 39 = .ok (.iaload, 1) := dkAb96.2.2.2.2.1
theorem dX10_lost_40 : decode cX10_lost 40 = .ok (.bipush 9, 2) := dkAb96.2.2.2.2.2.1
theorem dX10_lost_42 : decode cX10_lost 42 = .ok (.if_icmp .ne 7, 3) := dkAb96.2.2.2.2.2.2.1
theorem dX10_lost_45 : decode cX10_lost 45 = .ok (.iconst (-1), 1) := dkAb96.2.2.2.2.2.2.2.1
theorem dX10_lost_46 : decode cX10_lost 46 = .ok (.goto 15, 3) := dkAb96.2.2.2.2.2.2.2.2.1
theorem dX10_lost_49 : decode cX10_lost 49 = .ok (.iconst 1, 1) := dkAb96.2.2.2.2.2.2.2.2.2.1
theorem dX10_lost_50 : decode cX10_lost 50 = .ok (.aload_n 0, 1) := dkAb96.2.2.2.2.2.2.2.2.2.2.1
theorem dX10_lost_51 : decode cX10_lost 51 = .ok (.getfield 16, 3) := dkAb96.2.2.2.2.2.2.2.2.2.2.2
set_option maxRecDepth 100000 in
theorem dkAb97 : decode cX10_lost 54 = .ok (.iconst 0, 1) ∧ decode cX10_lost 55 = .ok (.iload_n 2, 1) ∧ decode cX10_lost 56 = .ok (.iadd, 1) ∧ decode cX10_lost 57 = .ok (.iaload, 1) ∧ decode cX10_lost 58 = .ok (.ishl, 1) ∧ decode cX10_lost 59 = .ok (.iconst (-1), 1) ∧ decode cX10_lost 60 = .ok (.ixor, 1) ∧ decode cX10_lost 61 = .ok (.iand, 1) ∧ decode cX10_lost 62 = .ok (.istore_n 1, 1) ∧ decode cX10_lost 63 = .ok (.iinc 2 1, 3) ∧ decode cX10_lost 66 = .ok (.goto (-59), 3) ∧ decode cX10_lost 69 = .ok (.iload_n 1, 1) := by decide +kernel
theorem dX10_lost_54 : decode cX10_lost 54 = .ok (.iconst 0, 1) := dkAb97.1
theorem dX10_lost_55 : decode cX10_lost 55 = .ok (.iload_n 2, 1) := dkAb97.2.1
theorem dX10_lost_56 : decode cX10_lost 56 = .ok (.iadd, 1) := dkAb97.2.2.1
theorem dX10_lost_57 : decode cX10_lost 57 = .ok (.iaload, 1) := dkAb97.2.2.2.1
theorem dX10_lost_58 : decode cX10_lost 58 = .ok (.ishl, 1) := dkAb97.2.2.2.2.1
theorem dX10_lost_59 : decode cX10_lost 59 = .ok (.iconst (-1), 1) := dkAb97.2.2.2.2.2.1
theorem dX10_lost_60 : decode cX10_lost 60 = .ok (.ixor, 1) := dkAb97.2.2.2.2.2.2.1
theorem dX10_lost_61 : decode cX10_lost 61 = .ok (.iand, 1) := dkAb97.2.2.2.2.2.2.2.1
theorem dX10_lost_62 : decode cX10_lost 62 = .ok (.istore_n 1, 1) := dkAb97.2.2.2.2.2.2.2.2.1
theorem dX10_lost_63 : decode cX10_lost 63 = .ok (.iinc 2 1, 3) := dkAb97.2.2.2.2.2.2.2.2.2.1
theorem dX10_lost_66 : decode cX10_lost 66 = .ok (.goto (-59), 3) := dkAb97.2.2.2.2.2.2.2.2.2.2.1
theorem dX10_lost_69 : decode cX10_lost 69 = .ok (.iload_n 1, 1) := dkAb97.2.2.2.2.2.2.2.2.2.2.2
theorem dX10_lost_70 : decode cX10_lost 70 = .ok (.ireturn, 1) := by decide +kernel
set_option maxRecDepth 100000 in
theorem dkAb98 : decode cX10_openTo 0 = .ok (.iconst 0, 1) ∧ decode cX10_openTo 1 = .ok (.istore_n 2, 1) ∧ decode cX10_openTo 2 = .ok (.iconst 0, 1) ∧ decode cX10_openTo 3 = .ok (.istore_n 3, 1) ∧ decode cX10_openTo 4 = .ok (.iload_n 3, 1) ∧ decode cX10_openTo 5 = .ok (.aload_n 0, 1) ∧ decode cX10_openTo 6 = .ok (.getfield 7, 3) ∧ decode cX10_openTo 9 = .ok (.iconst 1, 1) ∧ decode cX10_openTo 10 = .ok (.iaload, 1) ∧ decode cX10_openTo 11 = .ok (.if_icmp .ge 41, 3) ∧ decode cX10_openTo 14 = .ok (.iload_n 2, 1) ∧ decode cX10_openTo 15 = .ok (.iload_n 1, 1) := by decide +kernel
theorem dX10_openTo_0 : decode cX10_openTo 0 = .ok (.iconst 0, 1) := dkAb98.1
theorem dX10_openTo_1 : decode cX10_openTo 1 = .ok (.istore_n 2, 1) := dkAb98.2.1
theorem dX10_openTo_2 : decode cX10_openTo 2 = .ok (.iconst 0, 1) := dkAb98.2.2.1
theorem dX10_openTo_3 : decode cX10_openTo 3 = .ok (.istore_n 3, 1) := dkAb98.2.2.2.1
theorem dX10_openTo_4 : decode cX10_openTo 4 = .ok (.iload_n 3, 1) := dkAb98.2.2.2.2.1
theorem dX10_openTo_5 : decode cX10_openTo 5 = .ok (.aload_n 0, 1) := dkAb98.2.2.2.2.2.1
theorem dX10_openTo_6 : decode cX10_openTo 6 = .ok (.getfield 7, 3) := dkAb98.2.2.2.2.2.2.1
theorem dX10_openTo_9 : decode cX10_openTo 9 = .ok (.iconst 1, 1) := dkAb98.2.2.2.2.2.2.2.1
theorem dX10_openTo_10 : decode cX10_openTo 10 = .ok (.iaload, 1) := dkAb98.2.2.2.2.2.2.2.2.1
theorem dX10_openTo_11 : decode cX10_openTo 11 = .ok (.if_icmp .ge 41, 3) := dkAb98.2.2.2.2.2.2.2.2.2.1
theorem dX10_openTo_14 : decode cX10_openTo 14 = .ok (.iload_n 2, 1) := dkAb98.2.2.2.2.2.2.2.2.2.2.1
theorem dX10_openTo_15 : decode cX10_openTo 15 = .ok (.iload_n 1, 1) := dkAb98.2.2.2.2.2.2.2.2.2.2.2
set_option maxRecDepth 100000 in
theorem dkAb99 : decode cX10_openTo 16 = .ok (.bipush 9, 2) ∧ decode cX10_openTo 18 = .ok (.if_icmp .eq 25, 3) ∧ decode cX10_openTo 21 = .ok (.aload_n 0, 1) ∧ decode cX10_openTo 22 = .ok (.getfield 7, 3) ∧ decode cX10_openTo 25 = .ok (.bipush 25, 2) ∧ decode cX10_openTo 27 = .ok (.iload_n 3, 1) ∧ decode cX10_openTo 28 = .ok (.iadd, 1) ∧ decode cX10_openTo 29 = .ok (.iaload, 1) ∧ decode cX10_openTo 30 = .ok (.iload_n 1, 1) ∧ decode cX10_openTo 31 = .ok (.invokestatic 134, 3) ∧ decode cX10_openTo 34 = .ok (.ifCond .eq 9, 3) ∧ decode cX10_openTo 37 = .ok (.iconst 1, 1) := by decide +kernel
theorem dX10_openTo_16 : decode cX10_openTo 16 = .ok (.bipush 9, 2) := dkAb99.1
theorem dX10_openTo_18 : decode cX10_openTo 18 = .ok (.if_icmp .eq 25, 3) := dkAb99.2.1
theorem dX10_openTo_21 : decode cX10_openTo 21 = .ok (.aload_n 0, 1) := dkAb99.2.2.1
theorem dX10_openTo_22 : decode cX10_openTo 22 = .ok (.getfield 7, 3) := dkAb99.2.2.2.1
theorem dX10_openTo_25 : decode cX10_openTo 25 = .ok (.bipush 25, 2) := dkAb99.2.2.2.2.1
theorem dX10_openTo_27 : decode cX10_openTo 27 = .ok (.iload_n 3, 1) := dkAb99.2.2.2.2.2.1
theorem dX10_openTo_28 : decode cX10_openTo 28 = .ok (.iadd, 1) := dkAb99.2.2.2.2.2.2.1
theorem dX10_openTo_29 : decode cX10_openTo 29 = .ok (.iaload, 1) := dkAb99.2.2.2.2.2.2.2.1
theorem dX10_openTo_30 : decode cX10_openTo 30 = .ok (.iload_n 1, 1) := dkAb99.2.2.2.2.2.2.2.2.1
theorem dX10_openTo_31 : decode cX10_openTo 31 = .ok (.invokestatic 134, 3) := dkAb99.2.2.2.2.2.2.2.2.2.1
theorem dX10_openTo_34 : decode cX10_openTo 34 = .ok (.ifCond .eq 9, 3) := dkAb99.2.2.2.2.2.2.2.2.2.2.1
theorem dX10_openTo_37 : decode cX10_openTo 37 = .ok (.iconst 1, 1) := dkAb99.2.2.2.2.2.2.2.2.2.2.2
set_option maxRecDepth 100000 in
theorem dkAb100 : decode cX10_openTo 38 = .ok (.iload_n 3, 1) ∧ decode cX10_openTo 39 = .ok (.ishl, 1) ∧ decode cX10_openTo 40 = .ok (.goto 4, 3) ∧ decode cX10_openTo 43 = .ok (.iconst 0, 1) ∧ decode cX10_openTo 44 = .ok (.ior, 1) ∧ decode cX10_openTo 45 = .ok (.istore_n 2, 1) ∧ decode cX10_openTo 46 = .ok (.iinc 3 1, 3) ∧ decode cX10_openTo 49 = .ok (.goto (-45), 3) ∧ decode cX10_openTo 52 = .ok (.iload_n 2, 1) ∧ decode cX10_openTo 53 = .ok (.ireturn, 1) := by decide +kernel
theorem dX10_openTo_38 : decode cX10_openTo 38 = .ok (.iload_n 3, 1) := dkAb100.1
theorem dX10_openTo_39 : decode cX10_openTo 39 = .ok (.ishl, 1) := dkAb100.2.1
theorem dX10_openTo_40 : decode cX10_openTo 40 = .ok (.goto 4, 3) := dkAb100.2.2.1
theorem dX10_openTo_43 : decode cX10_openTo 43 = .ok (.iconst 0, 1) := dkAb100.2.2.2.1
theorem dX10_openTo_44 : decode cX10_openTo 44 = .ok (.ior, 1) := dkAb100.2.2.2.2.1
theorem dX10_openTo_45 : decode cX10_openTo 45 = .ok (.istore_n 2, 1) := dkAb100.2.2.2.2.2.1
theorem dX10_openTo_46 : decode cX10_openTo 46 = .ok (.iinc 3 1, 3) := dkAb100.2.2.2.2.2.2.1
theorem dX10_openTo_49 : decode cX10_openTo 49 = .ok (.goto (-45), 3) := dkAb100.2.2.2.2.2.2.2.1
theorem dX10_openTo_52 : decode cX10_openTo 52 = .ok (.iload_n 2, 1) := dkAb100.2.2.2.2.2.2.2.2.1
theorem dX10_openTo_53 : decode cX10_openTo 53 = .ok (.ireturn, 1) := dkAb100.2.2.2.2.2.2.2.2.2
set_option maxRecDepth 100000 in
theorem dkAb101 : decode cX10_told 0 = .ok (.iload_n 1, 1) ∧ decode cX10_told 1 = .ok (.tableswitch 121 0 11 #[63, 63, 63, 70, 75, 83, 91, 96, 101, 106, 111, 116], 63) ∧ decode cX10_told 64 = .ok (.aload_n 0, 1) ∧ decode cX10_told 65 = .ok (.getfield 7, 3) ∧ decode cX10_told 68 = .ok (.iload_n 1, 1) ∧ decode cX10_told 69 = .ok (.iaload, 1) ∧ decode cX10_told 70 = .ok (.ireturn, 1) ∧ decode cX10_told 71 = .ok (.aload_n 0, 1) ∧ decode cX10_told 72 = .ok (.getfield 85, 3) ∧ decode cX10_told 75 = .ok (.ireturn, 1) ∧ decode cX10_told 76 = .ok (.aload_n 0, 1) ∧ decode cX10_told 77 = .ok (.getfield 16, 3) := by decide +kernel
theorem dX10_told_0 : decode cX10_told 0 = .ok (.iload_n 1, 1) := dkAb101.1
theorem dX10_told_1 : decode cX10_told 1 = .ok (.tableswitch 121 0 11 #[63, 63, 63, 70, 75, 83, 91, 96, 101, 106, 111, 116], 63) := dkAb101.2.1
theorem dX10_told_64 : decode cX10_told 64 = .ok (.aload_n 0, 1) := dkAb101.2.2.1
theorem dX10_told_65 : decode cX10_told 65 = .ok (.getfield 7, 3) := dkAb101.2.2.2.1
theorem dX10_told_68 : decode cX10_told 68 = .ok (.iload_n 1, 1) := dkAb101.2.2.2.2.1
theorem dX10_told_69 : decode cX10_told 69 = .ok (.iaload, 1) := dkAb101.2.2.2.2.2.1
theorem dX10_told_70 : decode cX10_told 70 = .ok (.ireturn, 1) := dkAb101.2.2.2.2.2.2.1
theorem dX10_told_71 : decode cX10_told 71 = .ok (.aload_n 0, 1) := dkAb101.2.2.2.2.2.2.2.1
theorem dX10_told_72 : decode cX10_told 72 = .ok (.getfield 85, 3) := dkAb101.2.2.2.2.2.2.2.2.1
theorem dX10_told_75 : decode cX10_told 75 = .ok (.ireturn, 1) := dkAb101.2.2.2.2.2.2.2.2.2.1
theorem dX10_told_76 : decode cX10_told 76 = .ok (.aload_n 0, 1) := dkAb101.2.2.2.2.2.2.2.2.2.2.1
theorem dX10_told_77 : decode cX10_told 77 = .ok (.getfield 16, 3) := dkAb101.2.2.2.2.2.2.2.2.2.2.2
set_option maxRecDepth 100000 in
theorem dkAb102 : decode cX10_told 80 = .ok (.bipush 29, 2) ∧ decode cX10_told 82 = .ok (.iaload, 1) ∧ decode cX10_told 83 = .ok (.ireturn, 1) ∧ decode cX10_told 84 = .ok (.aload_n 0, 1) ∧ decode cX10_told 85 = .ok (.getfield 16, 3) ∧ decode cX10_told 88 = .ok (.bipush 28, 2) ∧ decode cX10_told 90 = .ok (.iaload, 1) ∧ decode cX10_told 91 = .ok (.ireturn, 1) ∧ decode cX10_told 92 = .ok (.aload_n 0, 1) ∧ decode cX10_told 93 = .ok (.invokevirtual 173, 3) ∧ decode cX10_told 96 = .ok (.ireturn, 1) ∧ decode cX10_told 97 = .ok (.aload_n 0, 1) := by decide +kernel
theorem dX10_told_80 : decode cX10_told 80 = .ok (.bipush 29, 2) := dkAb102.1
theorem dX10_told_82 : decode cX10_told 82 = .ok (.iaload, 1) := dkAb102.2.1
theorem dX10_told_83 : decode cX10_told 83 = .ok (.ireturn, 1) := dkAb102.2.2.1
theorem dX10_told_84 : decode cX10_told 84 = .ok (.aload_n 0, 1) := dkAb102.2.2.2.1
theorem dX10_told_85 : decode cX10_told 85 = .ok (.getfield 16, 3) := dkAb102.2.2.2.2.1
theorem dX10_told_88 : decode cX10_told 88 = .ok (.bipush 28, 2) := dkAb102.2.2.2.2.2.1
theorem dX10_told_90 : decode cX10_told 90 = .ok (.iaload, 1) := dkAb102.2.2.2.2.2.2.1
theorem dX10_told_91 : decode cX10_told 91 = .ok (.ireturn, 1) := dkAb102.2.2.2.2.2.2.2.1
theorem dX10_told_92 : decode cX10_told 92 = .ok (.aload_n 0, 1) := dkAb102.2.2.2.2.2.2.2.2.1
theorem dX10_told_93 : decode cX10_told 93 = .ok (.invokevirtual 173, 3) := dkAb102.2.2.2.2.2.2.2.2.2.1
theorem dX10_told_96 : decode cX10_told 96 = .ok (.ireturn, 1) := dkAb102.2.2.2.2.2.2.2.2.2.2.1
theorem dX10_told_97 : decode cX10_told 97 = .ok (.aload_n 0, 1) := dkAb102.2.2.2.2.2.2.2.2.2.2.2
set_option maxRecDepth 100000 in
theorem dkAb103 : decode cX10_told 98 = .ok (.invokevirtual 176, 3) ∧ decode cX10_told 101 = .ok (.ireturn, 1) ∧ decode cX10_told 102 = .ok (.aload_n 0, 1) ∧ decode cX10_told 103 = .ok (.getfield 73, 3) ∧ decode cX10_told 106 = .ok (.ireturn, 1) ∧ decode cX10_told 107 = .ok (.aload_n 0, 1) ∧ decode cX10_told 108 = .ok (.getfield 76, 3) ∧ decode cX10_told 111 = .ok (.ireturn, 1) ∧ decode cX10_told 112 = .ok (.aload_n 0, 1) ∧ decode cX10_told 113 = .ok (.getfield 79, 3) ∧ decode cX10_told 116 = .ok (.ireturn, 1) ∧ decode cX10_told 117 = .ok (.aload_n 0, 1) := by decide +kernel
theorem dX10_told_98 : decode cX10_told 98 = .ok (.invokevirtual 176, 3) := dkAb103.1
theorem dX10_told_101 : decode cX10_told 101 = .ok (.ireturn, 1) := dkAb103.2.1
theorem dX10_told_102 : decode cX10_told 102 = .ok (.aload_n 0, 1) := dkAb103.2.2.1
theorem dX10_told_103 : decode cX10_told 103 = .ok (.getfield 73, 3) := dkAb103.2.2.2.1
theorem dX10_told_106 : decode cX10_told 106 = .ok (.ireturn, 1) := dkAb103.2.2.2.2.1
theorem dX10_told_107 : decode cX10_told 107 = .ok (.aload_n 0, 1) := dkAb103.2.2.2.2.2.1
theorem dX10_told_108 : decode cX10_told 108 = .ok (.getfield 76, 3) := dkAb103.2.2.2.2.2.2.1
theorem dX10_told_111 : decode cX10_told 111 = .ok (.ireturn, 1) := dkAb103.2.2.2.2.2.2.2.1
theorem dX10_told_112 : decode cX10_told 112 = .ok (.aload_n 0, 1) := dkAb103.2.2.2.2.2.2.2.2.1
theorem dX10_told_113 : decode cX10_told 113 = .ok (.getfield 79, 3) := dkAb103.2.2.2.2.2.2.2.2.2.1
theorem dX10_told_116 : decode cX10_told 116 = .ok (.ireturn, 1) := dkAb103.2.2.2.2.2.2.2.2.2.2.1
theorem dX10_told_117 : decode cX10_told 117 = .ok (.aload_n 0, 1) := dkAb103.2.2.2.2.2.2.2.2.2.2.2
set_option maxRecDepth 100000 in
theorem dkAb104 : decode cX10_told 118 = .ok (.getfield 70, 3) ∧ decode cX10_told 121 = .ok (.ireturn, 1) ∧ decode cX10_told 122 = .ok (.ldc 84, 2) ∧ decode cX10_told 124 = .ok (.ireturn, 1) := by decide +kernel
theorem dX10_told_118 : decode cX10_told 118 = .ok (.getfield 70, 3) := dkAb104.1
theorem dX10_told_121 : decode cX10_told 121 = .ok (.ireturn, 1) := dkAb104.2.1
theorem dX10_told_122 : decode cX10_told 122 = .ok (.ldc 84, 2) := dkAb104.2.2.1
theorem dX10_told_124 : decode cX10_told 124 = .ok (.ireturn, 1) := dkAb104.2.2.2
set_option maxRecDepth 100000 in
theorem dkAb105 : decode cX10_person 0 = .ok (.aload_n 0, 1) ∧ decode cX10_person 1 = .ok (.iload_n 1, 1) ∧ decode cX10_person 2 = .ok (.invokevirtual 179, 3) ∧ decode cX10_person 5 = .ok (.ifCond .ne 6, 3) ∧ decode cX10_person 8 = .ok (.ldc 182, 2) ∧ decode cX10_person 10 = .ok (.ireturn, 1) ∧ decode cX10_person 11 = .ok (.iload_n 2, 1) ∧ decode cX10_person 12 = .ok (.tableswitch 81 0 5 #[40, 40, 40, 40, 54, 67], 40) ∧ decode cX10_person 52 = .ok (.aload_n 0, 1) ∧ decode cX10_person 53 = .ok (.getfield 16, 3) ∧ decode cX10_person 56 = .ok (.iconst 0, 1) ∧ decode cX10_person 57 = .ok (.bipush 7, 2) := by decide +kernel
theorem dX10_person_0 : decode cX10_person 0 = .ok (.aload_n 0, 1) := dkAb105.1
theorem dX10_person_1 : decode cX10_person 1 = .ok (.iload_n 1, 1) := dkAb105.2.1
theorem dX10_person_2 : decode cX10_person 2 = .ok (.invokevirtual 179, 3) := dkAb105.2.2.1
theorem dX10_person_5 : decode cX10_person 5 = .ok (.ifCond .ne 6, 3) := dkAb105.2.2.2.1
theorem dX10_person_8 : decode cX10_person 8 = .ok (.ldc 182, 2) := dkAb105.2.2.2.2.1
theorem dX10_person_10 : decode cX10_person 10 = .ok (.ireturn, 1) := dkAb105.2.2.2.2.2.1
theorem dX10_person_11 : decode cX10_person 11 = .ok (.iload_n 2, 1) := dkAb105.2.2.2.2.2.2.1
theorem dX10_person_12 : decode cX10_person 12 = .ok (.tableswitch 81 0 5 #[40, 40, 40, 40, 54, 67], 40) := dkAb105.2.2.2.2.2.2.2.1
theorem dX10_person_52 : decode cX10_person 52 = .ok (.aload_n 0, 1) := dkAb105.2.2.2.2.2.2.2.2.1
theorem dX10_person_53 : decode cX10_person 53 = .ok (.getfield 16, 3) := dkAb105.2.2.2.2.2.2.2.2.2.1
theorem dX10_person_56 : decode cX10_person 56 = .ok (.iconst 0, 1) := dkAb105.2.2.2.2.2.2.2.2.2.2.1
theorem dX10_person_57 : decode cX10_person 57 = .ok (.bipush 7, 2) := dkAb105.2.2.2.2.2.2.2.2.2.2.2
set_option maxRecDepth 100000 in
theorem dkAb106 : decode cX10_person 59 = .ok (.iload_n 2, 1) ∧ decode cX10_person 60 = .ok (.imul, 1) ∧ decode cX10_person 61 = .ok (.iadd, 1) ∧ decode cX10_person 62 = .ok (.iload_n 1, 1) ∧ decode cX10_person 63 = .ok (.iadd, 1) ∧ decode cX10_person 64 = .ok (.iaload, 1) ∧ decode cX10_person 65 = .ok (.ireturn, 1) ∧ decode cX10_person 66 = .ok (.aload_n 0, 1) ∧ decode cX10_person 67 = .ok (.aload_n 0, 1) ∧ decode cX10_person 68 = .ok (.getfield 16, 3) ∧ decode cX10_person 71 = .ok (.iconst 0, 1) ∧ decode cX10_person 72 = .ok (.iload_n 1, 1) := by decide +kernel
theorem dX10_person_59 : decode cX10_person 59 = .ok (.iload_n 2, 1) := dkAb106.1
theorem dX10_person_60 : decode cX10_person 60 = .ok (.imul, 1) := dkAb106.2.1
theorem dX10_person_61 : decode cX10_person 61 = .ok (.iadd, 1) := dkAb106.2.2.1
theorem dX10_person_62 : decode cX10_person 62 = .ok (.iload_n 1, 1) := dkAb106.2.2.2.1
theorem dX10_person_63 : decode cX10_person 63 = .ok (.iadd, 1) := dkAb106.2.2.2.2.1
theorem dX10_person_64 : decode cX10_person 64 = .ok (.iaload, 1) := dkAb106.2.2.2.2.2.1
theorem dX10_person_65 : decode cX10_person 65 = .ok (.ireturn, 1) := dkAb106.2.2.2.2.2.2.1
theorem dX10_person_66 : decode cX10_person 66 = .ok (.aload_n 0, 1) := dkAb106.2.2.2.2.2.2.2.1
theorem dX10_person_67 : decode cX10_person 67 = .ok (.aload_n 0, 1) := dkAb106.2.2.2.2.2.2.2.2.1
theorem dX10_person_68 : decode cX10_person 68 = .ok (.getfield 16, 3) := dkAb106.2.2.2.2.2.2.2.2.2.1
theorem dX10_person_71 : decode cX10_person 71 = .ok (.iconst 0, 1) := dkAb106.2.2.2.2.2.2.2.2.2.2.1
theorem dX10_person_72 : decode cX10_person 72 = .ok (.iload_n 1, 1) := dkAb106.2.2.2.2.2.2.2.2.2.2.2
set_option maxRecDepth 100000 in
theorem dkAb107 : decode cX10_person 73 = .ok (.iadd, 1) ∧ decode cX10_person 74 = .ok (.iaload, 1) ∧ decode cX10_person 75 = .ok (.invokevirtual 183, 3) ∧ decode cX10_person 78 = .ok (.ireturn, 1) ∧ decode cX10_person 79 = .ok (.aload_n 0, 1) ∧ decode cX10_person 80 = .ok (.iload_n 1, 1) ∧ decode cX10_person 81 = .ok (.invokevirtual 167, 3) ∧ decode cX10_person 84 = .ok (.ifCond .eq 7, 3) ∧ decode cX10_person 87 = .ok (.iconst 1, 1) ∧ decode cX10_person 88 = .ok (.goto 4, 3) ∧ decode cX10_person 91 = .ok (.iconst 0, 1) ∧ decode cX10_person 92 = .ok (.ireturn, 1) := by decide +kernel
theorem dX10_person_73 : decode cX10_person 73 = .ok (.iadd, 1) := dkAb107.1
theorem dX10_person_74 : decode cX10_person 74 = .ok (.iaload, 1) := dkAb107.2.1
theorem dX10_person_75 : decode cX10_person 75 = .ok (.invokevirtual 183, 3) := dkAb107.2.2.1
theorem dX10_person_78 : decode cX10_person 78 = .ok (.ireturn, 1) := dkAb107.2.2.2.1
theorem dX10_person_79 : decode cX10_person 79 = .ok (.aload_n 0, 1) := dkAb107.2.2.2.2.1
theorem dX10_person_80 : decode cX10_person 80 = .ok (.iload_n 1, 1) := dkAb107.2.2.2.2.2.1
theorem dX10_person_81 : decode cX10_person 81 = .ok (.invokevirtual 167, 3) := dkAb107.2.2.2.2.2.2.1
theorem dX10_person_84 : decode cX10_person 84 = .ok (.ifCond .eq 7, 3) := dkAb107.2.2.2.2.2.2.2.1
theorem dX10_person_87 : decode cX10_person 87 = .ok (.iconst 1, 1) := dkAb107.2.2.2.2.2.2.2.2.1
theorem dX10_person_88 : decode cX10_person 88 = .ok (.goto 4, 3) := dkAb107.2.2.2.2.2.2.2.2.2.1
theorem dX10_person_91 : decode cX10_person 91 = .ok (.iconst 0, 1) := dkAb107.2.2.2.2.2.2.2.2.2.2.1
theorem dX10_person_92 : decode cX10_person 92 = .ok (.ireturn, 1) := dkAb107.2.2.2.2.2.2.2.2.2.2.2
theorem dX10_person_93 : decode cX10_person 93 = .ok (.ldc 84, 2) := by decide +kernel
theorem dX10_person_95 : decode cX10_person 95 = .ok (.ireturn, 1) := by decide +kernel
set_option maxRecDepth 100000 in
theorem dkAb108 : decode cX10_range 0 = .ok (.aload_n 0, 1) ∧ decode cX10_range 1 = .ok (.iload_n 1, 1) ∧ decode cX10_range 2 = .ok (.invokevirtual 179, 3) ∧ decode cX10_range 5 = .ok (.ifCond .eq 14, 3) ∧ decode cX10_range 8 = .ok (.aload_n 0, 1) ∧ decode cX10_range 9 = .ok (.getfield 7, 3) ∧ decode cX10_range 12 = .ok (.iconst 3, 1) ∧ decode cX10_range 13 = .ok (.iload_n 1, 1) ∧ decode cX10_range 14 = .ok (.iadd, 1) ∧ decode cX10_range 15 = .ok (.iaload, 1) ∧ decode cX10_range 16 = .ok (.goto 5, 3) ∧ decode cX10_range 19 = .ok (.ldc 182, 2) := by decide +kernel
theorem dX10_range_0 : decode cX10_range 0 = .ok (.aload_n 0, 1) := dkAb108.1
theorem dX10_range_1 : decode cX10_range 1 = .ok (.iload_n 1, 1) := dkAb108.2.1
theorem dX10_range_2 : decode cX10_range 2 = .ok (.invokevirtual 179, 3) := dkAb108.2.2.1
theorem dX10_range_5 : decode cX10_range 5 = .ok (.ifCond .eq 14, 3) := dkAb108.2.2.2.1
theorem dX10_range_8 : decode cX10_range 8 = .ok (.aload_n 0, 1) := dkAb108.2.2.2.2.1
theorem dX10_range_9 : decode cX10_range 9 = .ok (.getfield 7, 3) := dkAb108.2.2.2.2.2.1
theorem dX10_range_12 : decode cX10_range 12 = .ok (.iconst 3, 1) := dkAb108.2.2.2.2.2.2.1
theorem dX10_range_13 : decode cX10_range 13 = .ok (.iload_n 1, 1) := dkAb108.2.2.2.2.2.2.2.1
theorem dX10_range_14 : decode cX10_range 14 = .ok (.iadd, 1) := dkAb108.2.2.2.2.2.2.2.2.1
theorem dX10_range_15 : decode cX10_range 15 = .ok (.iaload, 1) := dkAb108.2.2.2.2.2.2.2.2.2.1
theorem dX10_range_16 : decode cX10_range 16 = .ok (.goto 5, 3) := dkAb108.2.2.2.2.2.2.2.2.2.2.1
theorem dX10_range_19 : decode cX10_range 19 = .ok (.ldc 182, 2) := dkAb108.2.2.2.2.2.2.2.2.2.2.2
theorem dX10_range_21 : decode cX10_range 21 = .ok (.ireturn, 1) := by decide +kernel
set_option maxRecDepth 100000 in
theorem dkAb109 : decode cX10_door 0 = .ok (.iload_n 1, 1) ∧ decode cX10_door 1 = .ok (.i2l, 1) ∧ decode cX10_door 2 = .ok (.lconst 0, 1) ∧ decode cX10_door 3 = .ok (.aload_n 0, 1) ∧ decode cX10_door 4 = .ok (.getfield 7, 3) ∧ decode cX10_door 7 = .ok (.iconst 1, 1) ∧ decode cX10_door 8 = .ok (.iaload, 1) ∧ decode cX10_door 9 = .ok (.iconst 1, 1) ∧ decode cX10_door 10 = .ok (.isub, 1) ∧ decode cX10_door 11 = .ok (.i2l, 1) ∧ decode cX10_door 12 = .ok (.invokestatic 62, 3) ∧ decode cX10_door 15 = .ok (.ifCond .eq 15, 3) := by decide +kernel
theorem dX10_door_0 : decode cX10_door 0 = .ok (.iload_n 1, 1) := dkAb109.1
theorem dX10_door_1 : decode cX10_door 1 = .ok (.i2l, 1) := dkAb109.2.1
theorem dX10_door_2 : decode cX10_door 2 = .ok (.lconst 0, 1) := dkAb109.2.2.1
theorem dX10_door_3 : decode cX10_door 3 = .ok (.aload_n 0, 1) := dkAb109.2.2.2.1
theorem dX10_door_4 : decode cX10_door 4 = .ok (.getfield 7, 3) := dkAb109.2.2.2.2.1
theorem dX10_door_7 : decode cX10_door 7 = .ok (.iconst 1, 1) := dkAb109.2.2.2.2.2.1
theorem dX10_door_8 : decode cX10_door 8 = .ok (.iaload, 1) := dkAb109.2.2.2.2.2.2.1
theorem dX10_door_9 : decode cX10_door 9 = .ok (.iconst 1, 1) := dkAb109.2.2.2.2.2.2.2.1
theorem dX10_door_10 : decode cX10_door 10 = .ok (.isub, 1) := dkAb109.2.2.2.2.2.2.2.2.1
theorem dX10_door_11 : decode cX10_door 11 = .ok (.i2l, 1) := dkAb109.2.2.2.2.2.2.2.2.2.1
theorem dX10_door_12 : decode cX10_door 12 = .ok (.invokestatic 62, 3) := dkAb109.2.2.2.2.2.2.2.2.2.2.1
theorem dX10_door_15 : decode cX10_door 15 = .ok (.ifCond .eq 15, 3) := dkAb109.2.2.2.2.2.2.2.2.2.2.2
set_option maxRecDepth 100000 in
theorem dkAb110 : decode cX10_door 18 = .ok (.aload_n 0, 1) ∧ decode cX10_door 19 = .ok (.getfield 7, 3) ∧ decode cX10_door 22 = .ok (.bipush 25, 2) ∧ decode cX10_door 24 = .ok (.iload_n 1, 1) ∧ decode cX10_door 25 = .ok (.iadd, 1) ∧ decode cX10_door 26 = .ok (.iaload, 1) ∧ decode cX10_door 27 = .ok (.goto 5, 3) ∧ decode cX10_door 30 = .ok (.ldc 182, 2) ∧ decode cX10_door 32 = .ok (.ireturn, 1) := by decide +kernel
theorem dX10_door_18 : decode cX10_door 18 = .ok (.aload_n 0, 1) := dkAb110.1
theorem dX10_door_19 : decode cX10_door 19 = .ok (.getfield 7, 3) := dkAb110.2.1
theorem dX10_door_22 : decode cX10_door 22 = .ok (.bipush 25, 2) := dkAb110.2.2.1
theorem dX10_door_24 : decode cX10_door 24 = .ok (.iload_n 1, 1) := dkAb110.2.2.2.1
theorem dX10_door_25 : decode cX10_door 25 = .ok (.iadd, 1) := dkAb110.2.2.2.2.1
theorem dX10_door_26 : decode cX10_door 26 = .ok (.iaload, 1) := dkAb110.2.2.2.2.2.1
theorem dX10_door_27 : decode cX10_door 27 = .ok (.goto 5, 3) := dkAb110.2.2.2.2.2.2.1
theorem dX10_door_30 : decode cX10_door 30 = .ok (.ldc 182, 2) := dkAb110.2.2.2.2.2.2.2.1
theorem dX10_door_32 : decode cX10_door 32 = .ok (.ireturn, 1) := dkAb110.2.2.2.2.2.2.2.2
set_option maxRecDepth 100000 in
theorem dkAb111 : decode cX10_remember 0 = .ok (.aload_n 0, 1) ∧ decode cX10_remember 1 = .ok (.getfield 70, 3) ∧ decode cX10_remember 4 = .ok (.bipush 20, 2) ∧ decode cX10_remember 6 = .ok (.if_icmp .ne 43, 3) ∧ decode cX10_remember 9 = .ok (.iconst 0, 1) ∧ decode cX10_remember 10 = .ok (.istore_n 1, 1) ∧ decode cX10_remember 11 = .ok (.iload_n 1, 1) ∧ decode cX10_remember 12 = .ok (.sipush 570, 3) ∧ decode cX10_remember 15 = .ok (.if_icmp .ge 24, 3) ∧ decode cX10_remember 18 = .ok (.aload_n 0, 1) ∧ decode cX10_remember 19 = .ok (.getfield 22, 3) ∧ decode cX10_remember 22 = .ok (.iload_n 1, 1) := by decide +kernel
theorem dX10_remember_0 : decode cX10_remember 0 = .ok (.aload_n 0, 1) := dkAb111.1
theorem dX10_remember_1 : decode cX10_remember 1 = .ok (.getfield 70, 3) := dkAb111.2.1
theorem dX10_remember_4 : decode cX10_remember 4 = .ok (.bipush 20, 2) := dkAb111.2.2.1
theorem dX10_remember_6 : decode cX10_remember 6 = .ok (.if_icmp .ne 43, 3) := dkAb111.2.2.2.1
theorem dX10_remember_9 : decode cX10_remember 9 = .ok (.iconst 0, 1) := dkAb111.2.2.2.2.1
theorem dX10_remember_10 : decode cX10_remember 10 = .ok (.istore_n 1, 1) := dkAb111.2.2.2.2.2.1
theorem dX10_remember_11 : decode cX10_remember 11 = .ok (.iload_n 1, 1) := dkAb111.2.2.2.2.2.2.1
theorem dX10_remember_12 : decode cX10_remember 12 = .ok (.sipush 570, 3) := dkAb111.2.2.2.2.2.2.2.1
theorem dX10_remember_15 : decode cX10_remember 15 = .ok (.if_icmp .ge 24, 3) := dkAb111.2.2.2.2.2.2.2.2.1
theorem dX10_remember_18 : decode cX10_remember 18 = .ok (.aload_n 0, 1) := dkAb111.2.2.2.2.2.2.2.2.2.1
theorem dX10_remember_19 : decode cX10_remember 19 = .ok (.getfield 22, 3) := dkAb111.2.2.2.2.2.2.2.2.2.2.1
theorem dX10_remember_22 : decode cX10_remember 22 = .ok (.iload_n 1, 1) := dkAb111.2.2.2.2.2.2.2.2.2.2.2
set_option maxRecDepth 100000 in
theorem dkAb112 : decode cX10_remember 23 = .ok (.aload_n 0, 1) ∧ decode cX10_remember 24 = .ok (.getfield 22, 3) ∧ decode cX10_remember 27 = .ok (.iload_n 1, 1) ∧ decode cX10_remember 28 = .ok (.bipush 30, 2) ∧ decode cX10_remember 30 = .ok (.iadd, 1) ∧ decode cX10_remember 31 = .ok (.iaload, 1) ∧ decode cX10_remember 32 = .ok (.iastore, 1) ∧ decode cX10_remember 33 = .ok (.iinc 1 1, 3) ∧ decode cX10_remember 36 = .ok (.goto (-25), 3) ∧ decode cX10_remember 39 = .ok (.aload_n 0, 1) ∧ decode cX10_remember 40 = .ok (.dup, 1) ∧ decode cX10_remember 41 = .ok (.getfield 70, 3) := by decide +kernel
theorem dX10_remember_23 : decode cX10_remember 23 = .ok (.aload_n 0, 1) := dkAb112.1
theorem dX10_remember_24 : decode cX10_remember 24 = .ok (.getfield 22, 3) := dkAb112.2.1
theorem dX10_remember_27 : decode cX10_remember 27 = .ok (.iload_n 1, 1) := dkAb112.2.2.1
theorem dX10_remember_28 : decode cX10_remember 28 = .ok (.bipush 30, 2) := dkAb112.2.2.2.1
theorem dX10_remember_30 : decode cX10_remember 30 = .ok (.iadd, 1) := dkAb112.2.2.2.2.1
theorem dX10_remember_31 : decode cX10_remember 31 = .ok (.iaload, 1) := dkAb112.2.2.2.2.2.1
theorem dX10_remember_32 : decode cX10_remember 32 = .ok (.iastore, 1) := dkAb112.2.2.2.2.2.2.1
theorem dX10_remember_33 : decode cX10_remember 33 = .ok (.iinc 1 1, 3) := dkAb112.2.2.2.2.2.2.2.1
theorem dX10_remember_36 : decode cX10_remember 36 = .ok (.goto (-25), 3) := dkAb112.2.2.2.2.2.2.2.2.1
theorem dX10_remember_39 : decode cX10_remember 39 = .ok (.aload_n 0, 1) := dkAb112.2.2.2.2.2.2.2.2.2.1
theorem dX10_remember_40 : decode cX10_remember 40 = .ok (.dup, 1) := dkAb112.2.2.2.2.2.2.2.2.2.2.1
theorem dX10_remember_41 : decode cX10_remember 41 = .ok (.getfield 70, 3) := dkAb112.2.2.2.2.2.2.2.2.2.2.2
set_option maxRecDepth 100000 in
theorem dkAb113 : decode cX10_remember 44 = .ok (.iconst 1, 1) ∧ decode cX10_remember 45 = .ok (.isub, 1) ∧ decode cX10_remember 46 = .ok (.putfield 70, 3) ∧ decode cX10_remember 49 = .ok (.aload_n 0, 1) ∧ decode cX10_remember 50 = .ok (.getfield 16, 3) ∧ decode cX10_remember 53 = .ok (.iconst 0, 1) ∧ decode cX10_remember 54 = .ok (.aload_n 0, 1) ∧ decode cX10_remember 55 = .ok (.getfield 22, 3) ∧ decode cX10_remember 58 = .ok (.bipush 30, 2) ∧ decode cX10_remember 60 = .ok (.aload_n 0, 1) ∧ decode cX10_remember 61 = .ok (.getfield 70, 3) ∧ decode cX10_remember 64 = .ok (.imul, 1) := by decide +kernel
theorem dX10_remember_44 : decode cX10_remember 44 = .ok (.iconst 1, 1) := dkAb113.1
theorem dX10_remember_45 : decode cX10_remember 45 = .ok (.isub, 1) := dkAb113.2.1
theorem dX10_remember_46 : decode cX10_remember 46 = .ok (.putfield 70, 3) := dkAb113.2.2.1
theorem dX10_remember_49 : decode cX10_remember 49 = .ok (.aload_n 0, 1) := dkAb113.2.2.2.1
theorem dX10_remember_50 : decode cX10_remember 50 = .ok (.getfield 16, 3) := dkAb113.2.2.2.2.1
theorem dX10_remember_53 : decode cX10_remember 53 = .ok (.iconst 0, 1) := dkAb113.2.2.2.2.2.1
theorem dX10_remember_54 : decode cX10_remember 54 = .ok (.aload_n 0, 1) := dkAb113.2.2.2.2.2.2.1
theorem dX10_remember_55 : decode cX10_remember 55 = .ok (.getfield 22, 3) := dkAb113.2.2.2.2.2.2.2.1
theorem dX10_remember_58 : decode cX10_remember 58 = .ok (.bipush 30, 2) := dkAb113.2.2.2.2.2.2.2.2.1
theorem dX10_remember_60 : decode cX10_remember 60 = .ok (.aload_n 0, 1) := dkAb113.2.2.2.2.2.2.2.2.2.1
theorem dX10_remember_61 : decode cX10_remember 61 = .ok (.getfield 70, 3) := dkAb113.2.2.2.2.2.2.2.2.2.2.1
theorem dX10_remember_64 : decode cX10_remember 64 = .ok (.imul, 1) := dkAb113.2.2.2.2.2.2.2.2.2.2.2
set_option maxRecDepth 100000 in
theorem dkAb114 : decode cX10_remember 65 = .ok (.bipush 30, 2) ∧ decode cX10_remember 67 = .ok (.invokestatic 66, 3) ∧ decode cX10_remember 70 = .ok (.aload_n 0, 1) ∧ decode cX10_remember 71 = .ok (.dup, 1) ∧ decode cX10_remember 72 = .ok (.getfield 70, 3) ∧ decode cX10_remember 75 = .ok (.iconst 1, 1) ∧ decode cX10_remember 76 = .ok (.iadd, 1) ∧ decode cX10_remember 77 = .ok (.putfield 70, 3) ∧ decode cX10_remember 80 = .ok (.return_, 1) := by decide +kernel
theorem dX10_remember_65 : decode cX10_remember 65 = .ok (.bipush 30, 2) := dkAb114.1
theorem dX10_remember_67 : decode cX10_remember 67 = .ok (.invokestatic 66, 3) := dkAb114.2.1
theorem dX10_remember_70 : decode cX10_remember 70 = .ok (.aload_n 0, 1) := dkAb114.2.2.1
theorem dX10_remember_71 : decode cX10_remember 71 = .ok (.dup, 1) := dkAb114.2.2.2.1
theorem dX10_remember_72 : decode cX10_remember 72 = .ok (.getfield 70, 3) := dkAb114.2.2.2.2.1
theorem dX10_remember_75 : decode cX10_remember 75 = .ok (.iconst 1, 1) := dkAb114.2.2.2.2.2.1
theorem dX10_remember_76 : decode cX10_remember 76 = .ok (.iadd, 1) := dkAb114.2.2.2.2.2.2.1
theorem dX10_remember_77 : decode cX10_remember 77 = .ok (.putfield 70, 3) := dkAb114.2.2.2.2.2.2.2.1
theorem dX10_remember_80 : decode cX10_remember 80 = .ok (.return_, 1) := dkAb114.2.2.2.2.2.2.2.2
set_option maxRecDepth 100000 in
theorem dkAb115 : decode cX10_die 0 = .ok (.aload_n 0, 1) ∧ decode cX10_die 1 = .ok (.iload_n 1, 1) ∧ decode cX10_die 2 = .ok (.invokevirtual 179, 3) ∧ decode cX10_die 5 = .ok (.ifCond .ne 6, 3) ∧ decode cX10_die 8 = .ok (.ldc 182, 2) ∧ decode cX10_die 10 = .ok (.ireturn, 1) ∧ decode cX10_die 11 = .ok (.aload_n 0, 1) ∧ decode cX10_die 12 = .ok (.iload_n 1, 1) ∧ decode cX10_die 13 = .ok (.invokevirtual 167, 3) ∧ decode cX10_die 16 = .ok (.ifCond .ne 6, 3) ∧ decode cX10_die 19 = .ok (.ldc 187, 2) ∧ decode cX10_die 21 = .ok (.ireturn, 1) := by decide +kernel
theorem dX10_die_0 : decode cX10_die 0 = .ok (.aload_n 0, 1) := dkAb115.1
theorem dX10_die_1 : decode cX10_die 1 = .ok (.iload_n 1, 1) := dkAb115.2.1
theorem dX10_die_2 : decode cX10_die 2 = .ok (.invokevirtual 179, 3) := dkAb115.2.2.1
theorem dX10_die_5 : decode cX10_die 5 = .ok (.ifCond .ne 6, 3) := dkAb115.2.2.2.1
theorem dX10_die_8 : decode cX10_die 8 = .ok (.ldc 182, 2) := dkAb115.2.2.2.2.1
theorem dX10_die_10 : decode cX10_die 10 = .ok (.ireturn, 1) := dkAb115.2.2.2.2.2.1
theorem dX10_die_11 : decode cX10_die 11 = .ok (.aload_n 0, 1) := dkAb115.2.2.2.2.2.2.1
theorem dX10_die_12 : decode cX10_die 12 = .ok (.iload_n 1, 1) := dkAb115.2.2.2.2.2.2.2.1
theorem dX10_die_13 : decode cX10_die 13 = .ok (.invokevirtual 167, 3) := dkAb115.2.2.2.2.2.2.2.2.1
theorem dX10_die_16 : decode cX10_die 16 = .ok (.ifCond .ne 6, 3) := dkAb115.2.2.2.2.2.2.2.2.2.1
theorem dX10_die_19 : decode cX10_die 19 = .ok (.ldc 187, 2) := dkAb115.2.2.2.2.2.2.2.2.2.2.1
theorem dX10_die_21 : decode cX10_die 21 = .ok (.ireturn, 1) := dkAb115.2.2.2.2.2.2.2.2.2.2.2
set_option maxRecDepth 100000 in
theorem dkAb116 : decode cX10_die 22 = .ok (.aload_n 0, 1) ∧ decode cX10_die 23 = .ok (.invokevirtual 188, 3) ∧ decode cX10_die 26 = .ok (.aload_n 0, 1) ∧ decode cX10_die 27 = .ok (.aload_n 0, 1) ∧ decode cX10_die 28 = .ok (.getfield 16, 3) ∧ decode cX10_die 31 = .ok (.iload_n 1, 1) ∧ decode cX10_die 32 = .ok (.invokevirtual 191, 3) ∧ decode cX10_die 35 = .ok (.ireturn, 1) := by decide +kernel
theorem dX10_die_22 : decode cX10_die 22 = .ok (.aload_n 0, 1) := dkAb116.1
theorem dX10_die_23 : decode cX10_die 23 = .ok (.invokevirtual 188, 3) := dkAb116.2.1
theorem dX10_die_26 : decode cX10_die 26 = .ok (.aload_n 0, 1) := dkAb116.2.2.1
theorem dX10_die_27 : decode cX10_die 27 = .ok (.aload_n 0, 1) := dkAb116.2.2.2.1
theorem dX10_die_28 : decode cX10_die 28 = .ok (.getfield 16, 3) := dkAb116.2.2.2.2.1
theorem dX10_die_31 : decode cX10_die 31 = .ok (.iload_n 1, 1) := dkAb116.2.2.2.2.2.1
theorem dX10_die_32 : decode cX10_die 32 = .ok (.invokevirtual 191, 3) := dkAb116.2.2.2.2.2.2.1
theorem dX10_die_35 : decode cX10_die 35 = .ok (.ireturn, 1) := dkAb116.2.2.2.2.2.2.2
set_option maxRecDepth 100000 in
theorem dkAb117 : decode cX10_maySell 0 = .ok (.iload_n 1, 1) ∧ decode cX10_maySell 1 = .ok (.iload_n 2, 1) ∧ decode cX10_maySell 2 = .ok (.if_icmp .eq 36, 3) ∧ decode cX10_maySell 5 = .ok (.aload_n 0, 1) ∧ decode cX10_maySell 6 = .ok (.iload_n 1, 1) ∧ decode cX10_maySell 7 = .ok (.invokevirtual 167, 3) ∧ decode cX10_maySell 10 = .ok (.ifCond .eq 28, 3) ∧ decode cX10_maySell 13 = .ok (.aload_n 0, 1) ∧ decode cX10_maySell 14 = .ok (.iload_n 2, 1) ∧ decode cX10_maySell 15 = .ok (.invokevirtual 167, 3) ∧ decode cX10_maySell 18 = .ok (.ifCond .eq 20, 3) ∧ decode cX10_maySell 21 = .ok (.aload_n 0, 1) := by decide +kernel
theorem dX10_maySell_0 : decode cX10_maySell 0 = .ok (.iload_n 1, 1) := dkAb117.1
theorem dX10_maySell_1 : decode cX10_maySell 1 = .ok (.iload_n 2, 1) := dkAb117.2.1
theorem dX10_maySell_2 : decode cX10_maySell 2 = .ok (.if_icmp .eq 36, 3) := dkAb117.2.2.1
theorem dX10_maySell_5 : decode cX10_maySell 5 = .ok (.aload_n 0, 1) := dkAb117.2.2.2.1
theorem dX10_maySell_6 : decode cX10_maySell 6 = .ok (.iload_n 1, 1) := dkAb117.2.2.2.2.1
theorem dX10_maySell_7 : decode cX10_maySell 7 = .ok (.invokevirtual 167, 3) := dkAb117.2.2.2.2.2.1
theorem dX10_maySell_10 : decode cX10_maySell 10 = .ok (.ifCond .eq 28, 3) := dkAb117.2.2.2.2.2.2.1
theorem dX10_maySell_13 : decode cX10_maySell 13 = .ok (.aload_n 0, 1) := dkAb117.2.2.2.2.2.2.2.1
theorem dX10_maySell_14 : decode cX10_maySell 14 = .ok (.iload_n 2, 1) := dkAb117.2.2.2.2.2.2.2.2.1
theorem dX10_maySell_15 : decode cX10_maySell 15 = .ok (.invokevirtual 167, 3) := dkAb117.2.2.2.2.2.2.2.2.2.1
theorem dX10_maySell_18 : decode cX10_maySell 18 = .ok (.ifCond .eq 20, 3) := dkAb117.2.2.2.2.2.2.2.2.2.2.1
theorem dX10_maySell_21 : decode cX10_maySell 21 = .ok (.aload_n 0, 1) := dkAb117.2.2.2.2.2.2.2.2.2.2.2
set_option maxRecDepth 100000 in
theorem dkAb118 : decode cX10_maySell 22 = .ok (.getfield 16, 3) ∧ decode cX10_maySell 25 = .ok (.iconst 0, 1) ∧ decode cX10_maySell 26 = .ok (.iload_n 1, 1) ∧ decode cX10_maySell 27 = .ok (.iadd, 1) ∧ decode cX10_maySell 28 = .ok (.iaload, 1) ∧ decode cX10_maySell 29 = .ok (.bipush 9, 2) ∧ decode cX10_maySell 31 = .ok (.if_icmp .eq 7, 3) ∧ decode cX10_maySell 34 = .ok (.iconst 1, 1) ∧ decode cX10_maySell 35 = .ok (.goto 4, 3) ∧ decode cX10_maySell 38 = .ok (.iconst 0, 1) ∧ decode cX10_maySell 39 = .ok (.ireturn, 1) := by decide +kernel
theorem dX10_maySell_22 : decode cX10_maySell 22 = .ok (.getfield 16, 3) := dkAb118.1
theorem dX10_maySell_25 : decode cX10_maySell 25 = .ok (.iconst 0, 1) := dkAb118.2.1
theorem dX10_maySell_26 : decode cX10_maySell 26 = .ok (.iload_n 1, 1) := dkAb118.2.2.1
theorem dX10_maySell_27 : decode cX10_maySell 27 = .ok (.iadd, 1) := dkAb118.2.2.2.1
theorem dX10_maySell_28 : decode cX10_maySell 28 = .ok (.iaload, 1) := dkAb118.2.2.2.2.1
theorem dX10_maySell_29 : decode cX10_maySell 29 = .ok (.bipush 9, 2) := dkAb118.2.2.2.2.2.1
theorem dX10_maySell_31 : decode cX10_maySell 31 = .ok (.if_icmp .eq 7, 3) := dkAb118.2.2.2.2.2.2.1
theorem dX10_maySell_34 : decode cX10_maySell 34 = .ok (.iconst 1, 1) := dkAb118.2.2.2.2.2.2.2.1
theorem dX10_maySell_35 : decode cX10_maySell 35 = .ok (.goto 4, 3) := dkAb118.2.2.2.2.2.2.2.2.1
theorem dX10_maySell_38 : decode cX10_maySell 38 = .ok (.iconst 0, 1) := dkAb118.2.2.2.2.2.2.2.2.2.1
theorem dX10_maySell_39 : decode cX10_maySell 39 = .ok (.ireturn, 1) := dkAb118.2.2.2.2.2.2.2.2.2.2
set_option maxRecDepth 100000 in
theorem dkAb119 : decode cX10_sells 0 = .ok (.aload_n 0, 1) ∧ decode cX10_sells 1 = .ok (.aload_n 0, 1) ∧ decode cX10_sells 2 = .ok (.getfield 16, 3) ∧ decode cX10_sells 5 = .ok (.iload_n 2, 1) ∧ decode cX10_sells 6 = .ok (.aload_n 0, 1) ∧ decode cX10_sells 7 = .ok (.getfield 16, 3) ∧ decode cX10_sells 10 = .ok (.iconst 0, 1) ∧ decode cX10_sells 11 = .ok (.iload_n 1, 1) ∧ decode cX10_sells 12 = .ok (.iadd, 1) ∧ decode cX10_sells 13 = .ok (.iaload, 1) ∧ decode cX10_sells 14 = .ok (.invokevirtual 163, 3) ∧ decode cX10_sells 17 = .ok (.aload_n 0, 1) := by decide +kernel
theorem dX10_sells_0 : decode cX10_sells 0 = .ok (.aload_n 0, 1) := dkAb119.1
theorem dX10_sells_1 : decode cX10_sells 1 = .ok (.aload_n 0, 1) := dkAb119.2.1
theorem dX10_sells_2 : decode cX10_sells 2 = .ok (.getfield 16, 3) := dkAb119.2.2.1
theorem dX10_sells_5 : decode cX10_sells 5 = .ok (.iload_n 2, 1) := dkAb119.2.2.2.1
theorem dX10_sells_6 : decode cX10_sells 6 = .ok (.aload_n 0, 1) := dkAb119.2.2.2.2.1
theorem dX10_sells_7 : decode cX10_sells 7 = .ok (.getfield 16, 3) := dkAb119.2.2.2.2.2.1
theorem dX10_sells_10 : decode cX10_sells 10 = .ok (.iconst 0, 1) := dkAb119.2.2.2.2.2.2.1
theorem dX10_sells_11 : decode cX10_sells 11 = .ok (.iload_n 1, 1) := dkAb119.2.2.2.2.2.2.2.1
theorem dX10_sells_12 : decode cX10_sells 12 = .ok (.iadd, 1) := dkAb119.2.2.2.2.2.2.2.2.1
theorem dX10_sells_13 : decode cX10_sells 13 = .ok (.iaload, 1) := dkAb119.2.2.2.2.2.2.2.2.2.1
theorem dX10_sells_14 : decode cX10_sells 14 = .ok (.invokevirtual 163, 3) := dkAb119.2.2.2.2.2.2.2.2.2.2.1
theorem dX10_sells_17 : decode cX10_sells 17 = .ok (.aload_n 0, 1) := dkAb119.2.2.2.2.2.2.2.2.2.2.2
set_option maxRecDepth 100000 in
theorem dkAb120 : decode cX10_sells 18 = .ok (.getfield 16, 3) ∧ decode cX10_sells 21 = .ok (.bipush 7, 2) ∧ decode cX10_sells 23 = .ok (.iload_n 1, 1) ∧ decode cX10_sells 24 = .ok (.iadd, 1) ∧ decode cX10_sells 25 = .ok (.iaload, 1) ∧ decode cX10_sells 26 = .ok (.invokestatic 195, 3) ∧ decode cX10_sells 29 = .ok (.istore_n 3, 1) ∧ decode cX10_sells 30 = .ok (.aload_n 0, 1) ∧ decode cX10_sells 31 = .ok (.getfield 16, 3) ∧ decode cX10_sells 34 = .ok (.iconst 0, 1) ∧ decode cX10_sells 35 = .ok (.iload_n 1, 1) ∧ decode cX10_sells 36 = .ok (.iadd, 1) := by decide +kernel
theorem dX10_sells_18 : decode cX10_sells 18 = .ok (.getfield 16, 3) := dkAb120.1
theorem dX10_sells_21 : decode cX10_sells 21 = .ok (.bipush 7, 2) := dkAb120.2.1
theorem dX10_sells_23 : decode cX10_sells 23 = .ok (.iload_n 1, 1) := dkAb120.2.2.1
theorem dX10_sells_24 : decode cX10_sells 24 = .ok (.iadd, 1) := dkAb120.2.2.2.1
theorem dX10_sells_25 : decode cX10_sells 25 = .ok (.iaload, 1) := dkAb120.2.2.2.2.1
theorem dX10_sells_26 : decode cX10_sells 26 = .ok (.invokestatic 195, 3) := dkAb120.2.2.2.2.2.1
theorem dX10_sells_29 : decode cX10_sells 29 = .ok (.istore_n 3, 1) := dkAb120.2.2.2.2.2.2.1
theorem dX10_sells_30 : decode cX10_sells 30 = .ok (.aload_n 0, 1) := dkAb120.2.2.2.2.2.2.2.1
theorem dX10_sells_31 : decode cX10_sells 31 = .ok (.getfield 16, 3) := dkAb120.2.2.2.2.2.2.2.2.1
theorem dX10_sells_34 : decode cX10_sells 34 = .ok (.iconst 0, 1) := dkAb120.2.2.2.2.2.2.2.2.2.1
theorem dX10_sells_35 : decode cX10_sells 35 = .ok (.iload_n 1, 1) := dkAb120.2.2.2.2.2.2.2.2.2.2.1
theorem dX10_sells_36 : decode cX10_sells 36 = .ok (.iadd, 1) := dkAb120.2.2.2.2.2.2.2.2.2.2.2
set_option maxRecDepth 100000 in
theorem dkAb121 : decode cX10_sells 37 = .ok (.iload_n 3, 1) ∧ decode cX10_sells 38 = .ok (.iastore, 1) ∧ decode cX10_sells 39 = .ok (.aload_n 0, 1) ∧ decode cX10_sells 40 = .ok (.getfield 16, 3) ∧ decode cX10_sells 43 = .ok (.bipush 7, 2) ∧ decode cX10_sells 45 = .ok (.iload_n 1, 1) ∧ decode cX10_sells 46 = .ok (.iadd, 1) ∧ decode cX10_sells 47 = .ok (.dup2, 1) ∧ decode cX10_sells 48 = .ok (.iaload, 1) ∧ decode cX10_sells 49 = .ok (.iload_n 3, 1) ∧ decode cX10_sells 50 = .ok (.bipush 9, 2) ∧ decode cX10_sells 52 = .ok (.if_icmp .ne 7, 3) := by decide +kernel
theorem dX10_sells_37 : decode cX10_sells 37 = .ok (.iload_n 3, 1) := dkAb121.1
theorem dX10_sells_38 : decode cX10_sells 38 = .ok (.iastore, 1) := dkAb121.2.1
theorem dX10_sells_39 : decode cX10_sells 39 = .ok (.aload_n 0, 1) := dkAb121.2.2.1
theorem dX10_sells_40 : decode cX10_sells 40 = .ok (.getfield 16, 3) := dkAb121.2.2.2.1
theorem dX10_sells_43 : decode cX10_sells 43 = .ok (.bipush 7, 2) := dkAb121.2.2.2.2.1
theorem dX10_sells_45 : decode cX10_sells 45 = .ok (.iload_n 1, 1) := dkAb121.2.2.2.2.2.1
theorem dX10_sells_46 : decode cX10_sells 46 = .ok (.iadd, 1) := dkAb121.2.2.2.2.2.2.1
theorem dX10_sells_47 : decode cX10_sells 47 = .ok (.dup2, 1) := dkAb121.2.2.2.2.2.2.2.1
theorem dX10_sells_48 : decode cX10_sells 48 = .ok (.iaload, 1) := dkAb121.2.2.2.2.2.2.2.2.1
theorem dX10_sells_49 : decode cX10_sells 49 = .ok (.iload_n 3, 1) := dkAb121.2.2.2.2.2.2.2.2.2.1
theorem dX10_sells_50 : decode cX10_sells 50 = .ok (.bipush 9, 2) := dkAb121.2.2.2.2.2.2.2.2.2.2.1
theorem dX10_sells_52 : decode cX10_sells 52 = .ok (.if_icmp .ne 7, 3) := dkAb121.2.2.2.2.2.2.2.2.2.2.2
set_option maxRecDepth 100000 in
theorem dkAb122 : decode cX10_sells 55 = .ok (.iconst (-1), 1) ∧ decode cX10_sells 56 = .ok (.goto 8, 3) ∧ decode cX10_sells 59 = .ok (.iconst 1, 1) ∧ decode cX10_sells 60 = .ok (.iload_n 3, 1) ∧ decode cX10_sells 61 = .ok (.ishl, 1) ∧ decode cX10_sells 62 = .ok (.iconst (-1), 1) ∧ decode cX10_sells 63 = .ok (.ixor, 1) ∧ decode cX10_sells 64 = .ok (.iand, 1) ∧ decode cX10_sells 65 = .ok (.iastore, 1) ∧ decode cX10_sells 66 = .ok (.return_, 1) := by decide +kernel
theorem dX10_sells_55 : decode cX10_sells 55 = .ok (.iconst (-1), 1) := dkAb122.1
theorem dX10_sells_56 : decode cX10_sells 56 = .ok (.goto 8, 3) := dkAb122.2.1
theorem dX10_sells_59 : decode cX10_sells 59 = .ok (.iconst 1, 1) := dkAb122.2.2.1
theorem dX10_sells_60 : decode cX10_sells 60 = .ok (.iload_n 3, 1) := dkAb122.2.2.2.1
theorem dX10_sells_61 : decode cX10_sells 61 = .ok (.ishl, 1) := dkAb122.2.2.2.2.1
theorem dX10_sells_62 : decode cX10_sells 62 = .ok (.iconst (-1), 1) := dkAb122.2.2.2.2.2.1
theorem dX10_sells_63 : decode cX10_sells 63 = .ok (.ixor, 1) := dkAb122.2.2.2.2.2.2.1
theorem dX10_sells_64 : decode cX10_sells 64 = .ok (.iand, 1) := dkAb122.2.2.2.2.2.2.2.1
theorem dX10_sells_65 : decode cX10_sells 65 = .ok (.iastore, 1) := dkAb122.2.2.2.2.2.2.2.2.1
theorem dX10_sells_66 : decode cX10_sells 66 = .ok (.return_, 1) := dkAb122.2.2.2.2.2.2.2.2.2
set_option maxRecDepth 100000 in
theorem dkAb123 : decode cX10_sell 0 = .ok (.aload_n 0, 1) ∧ decode cX10_sell 1 = .ok (.iload_n 1, 1) ∧ decode cX10_sell 2 = .ok (.invokevirtual 179, 3) ∧ decode cX10_sell 5 = .ok (.ifCond .eq 16, 3) ∧ decode cX10_sell 8 = .ok (.aload_n 0, 1) ∧ decode cX10_sell 9 = .ok (.iload_n 2, 1) ∧ decode cX10_sell 10 = .ok (.invokevirtual 179, 3) ∧ decode cX10_sell 13 = .ok (.ifCond .eq 8, 3) ∧ decode cX10_sell 16 = .ok (.iload_n 1, 1) ∧ decode cX10_sell 17 = .ok (.iload_n 2, 1) ∧ decode cX10_sell 18 = .ok (.if_icmp .ne 6, 3) ∧ decode cX10_sell 21 = .ok (.ldc 182, 2) := by decide +kernel
theorem dX10_sell_0 : decode cX10_sell 0 = .ok (.aload_n 0, 1) := dkAb123.1
theorem dX10_sell_1 : decode cX10_sell 1 = .ok (.iload_n 1, 1) := dkAb123.2.1
theorem dX10_sell_2 : decode cX10_sell 2 = .ok (.invokevirtual 179, 3) := dkAb123.2.2.1
theorem dX10_sell_5 : decode cX10_sell 5 = .ok (.ifCond .eq 16, 3) := dkAb123.2.2.2.1
theorem dX10_sell_8 : decode cX10_sell 8 = .ok (.aload_n 0, 1) := dkAb123.2.2.2.2.1
theorem dX10_sell_9 : decode cX10_sell 9 = .ok (.iload_n 2, 1) := dkAb123.2.2.2.2.2.1
theorem dX10_sell_10 : decode cX10_sell 10 = .ok (.invokevirtual 179, 3) := dkAb123.2.2.2.2.2.2.1
theorem dX10_sell_13 : decode cX10_sell 13 = .ok (.ifCond .eq 8, 3) := dkAb123.2.2.2.2.2.2.2.1
theorem dX10_sell_16 : decode cX10_sell 16 = .ok (.iload_n 1, 1) := dkAb123.2.2.2.2.2.2.2.2.1
theorem dX10_sell_17 : decode cX10_sell 17 = .ok (.iload_n 2, 1) := dkAb123.2.2.2.2.2.2.2.2.2.1
theorem dX10_sell_18 : decode cX10_sell 18 = .ok (.if_icmp .ne 6, 3) := dkAb123.2.2.2.2.2.2.2.2.2.2.1
theorem dX10_sell_21 : decode cX10_sell 21 = .ok (.ldc 182, 2) := dkAb123.2.2.2.2.2.2.2.2.2.2.2
set_option maxRecDepth 100000 in
theorem dkAb124 : decode cX10_sell 23 = .ok (.ireturn, 1) ∧ decode cX10_sell 24 = .ok (.aload_n 0, 1) ∧ decode cX10_sell 25 = .ok (.iload_n 1, 1) ∧ decode cX10_sell 26 = .ok (.iload_n 2, 1) ∧ decode cX10_sell 27 = .ok (.invokevirtual 198, 3) ∧ decode cX10_sell 30 = .ok (.ifCond .ne 6, 3) ∧ decode cX10_sell 33 = .ok (.ldc 187, 2) ∧ decode cX10_sell 35 = .ok (.ireturn, 1) ∧ decode cX10_sell 36 = .ok (.aload_n 0, 1) ∧ decode cX10_sell 37 = .ok (.invokevirtual 188, 3) ∧ decode cX10_sell 40 = .ok (.aload_n 0, 1) ∧ decode cX10_sell 41 = .ok (.iload_n 1, 1) := by decide +kernel
theorem dX10_sell_23 : decode cX10_sell 23 = .ok (.ireturn, 1) := dkAb124.1
theorem dX10_sell_24 : decode cX10_sell 24 = .ok (.aload_n 0, 1) := dkAb124.2.1
theorem dX10_sell_25 : decode cX10_sell 25 = .ok (.iload_n 1, 1) := dkAb124.2.2.1
theorem dX10_sell_26 : decode cX10_sell 26 = .ok (.iload_n 2, 1) := dkAb124.2.2.2.1
theorem dX10_sell_27 : decode cX10_sell 27 = .ok (.invokevirtual 198, 3) := dkAb124.2.2.2.2.1
theorem dX10_sell_30 : decode cX10_sell 30 = .ok (.ifCond .ne 6, 3) := dkAb124.2.2.2.2.2.1
theorem dX10_sell_33 : decode cX10_sell 33 = .ok (.ldc 187, 2) := dkAb124.2.2.2.2.2.2.1
theorem dX10_sell_35 : decode cX10_sell 35 = .ok (.ireturn, 1) := dkAb124.2.2.2.2.2.2.2.1
theorem dX10_sell_36 : decode cX10_sell 36 = .ok (.aload_n 0, 1) := dkAb124.2.2.2.2.2.2.2.2.1
theorem dX10_sell_37 : decode cX10_sell 37 = .ok (.invokevirtual 188, 3) := dkAb124.2.2.2.2.2.2.2.2.2.1
theorem dX10_sell_40 : decode cX10_sell 40 = .ok (.aload_n 0, 1) := dkAb124.2.2.2.2.2.2.2.2.2.2.1
theorem dX10_sell_41 : decode cX10_sell 41 = .ok (.iload_n 1, 1) := dkAb124.2.2.2.2.2.2.2.2.2.2.2
set_option maxRecDepth 100000 in
theorem dkAb125 : decode cX10_sell 42 = .ok (.iload_n 2, 1) ∧ decode cX10_sell 43 = .ok (.invokevirtual 201, 3) ∧ decode cX10_sell 46 = .ok (.aload_n 0, 1) ∧ decode cX10_sell 47 = .ok (.getfield 16, 3) ∧ decode cX10_sell 50 = .ok (.iconst 0, 1) ∧ decode cX10_sell 51 = .ok (.iload_n 1, 1) ∧ decode cX10_sell 52 = .ok (.iadd, 1) ∧ decode cX10_sell 53 = .ok (.iaload, 1) ∧ decode cX10_sell 54 = .ok (.ireturn, 1) := by decide +kernel
theorem dX10_sell_42 : decode cX10_sell 42 = .ok (.iload_n 2, 1) := dkAb125.1
theorem dX10_sell_43 : decode cX10_sell 43 = .ok (.invokevirtual 201, 3) := dkAb125.2.1
theorem dX10_sell_46 : decode cX10_sell 46 = .ok (.aload_n 0, 1) := dkAb125.2.2.1
theorem dX10_sell_47 : decode cX10_sell 47 = .ok (.getfield 16, 3) := dkAb125.2.2.2.1
theorem dX10_sell_50 : decode cX10_sell 50 = .ok (.iconst 0, 1) := dkAb125.2.2.2.2.1
theorem dX10_sell_51 : decode cX10_sell 51 = .ok (.iload_n 1, 1) := dkAb125.2.2.2.2.2.1
theorem dX10_sell_52 : decode cX10_sell 52 = .ok (.iadd, 1) := dkAb125.2.2.2.2.2.2.1
theorem dX10_sell_53 : decode cX10_sell 53 = .ok (.iaload, 1) := dkAb125.2.2.2.2.2.2.2.1
theorem dX10_sell_54 : decode cX10_sell 54 = .ok (.ireturn, 1) := dkAb125.2.2.2.2.2.2.2.2
set_option maxRecDepth 100000 in
theorem dkAb126 : decode cX10_putBy 0 = .ok (.aload_n 0, 1) ∧ decode cX10_putBy 1 = .ok (.iload_n 1, 1) ∧ decode cX10_putBy 2 = .ok (.invokevirtual 179, 3) ∧ decode cX10_putBy 5 = .ok (.ifCond .eq 10, 3) ∧ decode cX10_putBy 8 = .ok (.iload_n 2, 1) ∧ decode cX10_putBy 9 = .ok (.invokestatic 205, 3) ∧ decode cX10_putBy 12 = .ok (.ifCond .ne 6, 3) ∧ decode cX10_putBy 15 = .ok (.ldc 182, 2) ∧ decode cX10_putBy 17 = .ok (.ireturn, 1) ∧ decode cX10_putBy 18 = .ok (.aload_n 0, 1) ∧ decode cX10_putBy 19 = .ok (.iload_n 1, 1) ∧ decode cX10_putBy 20 = .ok (.invokevirtual 167, 3) := by decide +kernel
theorem dX10_putBy_0 : decode cX10_putBy 0 = .ok (.aload_n 0, 1) := dkAb126.1
theorem dX10_putBy_1 : decode cX10_putBy 1 = .ok (.iload_n 1, 1) := dkAb126.2.1
theorem dX10_putBy_2 : decode cX10_putBy 2 = .ok (.invokevirtual 179, 3) := dkAb126.2.2.1
theorem dX10_putBy_5 : decode cX10_putBy 5 = .ok (.ifCond .eq 10, 3) := dkAb126.2.2.2.1
theorem dX10_putBy_8 : decode cX10_putBy 8 = .ok (.iload_n 2, 1) := dkAb126.2.2.2.2.1
theorem dX10_putBy_9 : decode cX10_putBy 9 = .ok (.invokestatic 205, 3) := dkAb126.2.2.2.2.2.1
theorem dX10_putBy_12 : decode cX10_putBy 12 = .ok (.ifCond .ne 6, 3) := dkAb126.2.2.2.2.2.2.1
theorem dX10_putBy_15 : decode cX10_putBy 15 = .ok (.ldc 182, 2) := dkAb126.2.2.2.2.2.2.2.1
theorem dX10_putBy_17 : decode cX10_putBy 17 = .ok (.ireturn, 1) := dkAb126.2.2.2.2.2.2.2.2.1
theorem dX10_putBy_18 : decode cX10_putBy 18 = .ok (.aload_n 0, 1) := dkAb126.2.2.2.2.2.2.2.2.2.1
theorem dX10_putBy_19 : decode cX10_putBy 19 = .ok (.iload_n 1, 1) := dkAb126.2.2.2.2.2.2.2.2.2.2.1
theorem dX10_putBy_20 : decode cX10_putBy 20 = .ok (.invokevirtual 167, 3) := dkAb126.2.2.2.2.2.2.2.2.2.2.2
set_option maxRecDepth 100000 in
theorem dkAb127 : decode cX10_putBy 23 = .ok (.ifCond .eq 19, 3) ∧ decode cX10_putBy 26 = .ok (.aload_n 0, 1) ∧ decode cX10_putBy 27 = .ok (.getfield 16, 3) ∧ decode cX10_putBy 30 = .ok (.bipush 7, 2) ∧ decode cX10_putBy 32 = .ok (.iload_n 1, 1) ∧ decode cX10_putBy 33 = .ok (.iadd, 1) ∧ decode cX10_putBy 34 = .ok (.iaload, 1) ∧ decode cX10_putBy 35 = .ok (.iload_n 2, 1) ∧ decode cX10_putBy 36 = .ok (.invokestatic 134, 3) ∧ decode cX10_putBy 39 = .ok (.ifCond .ne 6, 3) ∧ decode cX10_putBy 42 = .ok (.ldc 187, 2) ∧ decode cX10_putBy 44 = .ok (.ireturn, 1) := by decide +kernel
theorem dX10_putBy_23 : decode cX10_putBy 23 = .ok (.ifCond .eq 19, 3) := dkAb127.1
theorem dX10_putBy_26 : decode cX10_putBy 26 = .ok (.aload_n 0, 1) := dkAb127.2.1
theorem dX10_putBy_27 : decode cX10_putBy 27 = .ok (.getfield 16, 3) := dkAb127.2.2.1
theorem dX10_putBy_30 : decode cX10_putBy 30 = .ok (.bipush 7, 2) := dkAb127.2.2.2.1
theorem dX10_putBy_32 : decode cX10_putBy 32 = .ok (.iload_n 1, 1) := dkAb127.2.2.2.2.1
theorem dX10_putBy_33 : decode cX10_putBy 33 = .ok (.iadd, 1) := dkAb127.2.2.2.2.2.1
theorem dX10_putBy_34 : decode cX10_putBy 34 = .ok (.iaload, 1) := dkAb127.2.2.2.2.2.2.1
theorem dX10_putBy_35 : decode cX10_putBy 35 = .ok (.iload_n 2, 1) := dkAb127.2.2.2.2.2.2.2.1
theorem dX10_putBy_36 : decode cX10_putBy 36 = .ok (.invokestatic 134, 3) := dkAb127.2.2.2.2.2.2.2.2.1
theorem dX10_putBy_39 : decode cX10_putBy 39 = .ok (.ifCond .ne 6, 3) := dkAb127.2.2.2.2.2.2.2.2.2.1
theorem dX10_putBy_42 : decode cX10_putBy 42 = .ok (.ldc 187, 2) := dkAb127.2.2.2.2.2.2.2.2.2.2.1
theorem dX10_putBy_44 : decode cX10_putBy 44 = .ok (.ireturn, 1) := dkAb127.2.2.2.2.2.2.2.2.2.2.2
set_option maxRecDepth 100000 in
theorem dkAb128 : decode cX10_putBy 45 = .ok (.aload_n 0, 1) ∧ decode cX10_putBy 46 = .ok (.invokevirtual 188, 3) ∧ decode cX10_putBy 49 = .ok (.aload_n 0, 1) ∧ decode cX10_putBy 50 = .ok (.getfield 16, 3) ∧ decode cX10_putBy 53 = .ok (.iconst 0, 1) ∧ decode cX10_putBy 54 = .ok (.iload_n 1, 1) ∧ decode cX10_putBy 55 = .ok (.iadd, 1) ∧ decode cX10_putBy 56 = .ok (.iaload, 1) ∧ decode cX10_putBy 57 = .ok (.istore_n 3, 1) ∧ decode cX10_putBy 58 = .ok (.aload_n 0, 1) ∧ decode cX10_putBy 59 = .ok (.getfield 16, 3) ∧ decode cX10_putBy 62 = .ok (.bipush 7, 2) := by decide +kernel
theorem dX10_putBy_45 : decode cX10_putBy 45 = .ok (.aload_n 0, 1) := dkAb128.1
theorem dX10_putBy_46 : decode cX10_putBy 46 = .ok (.invokevirtual 188, 3) := dkAb128.2.1
theorem dX10_putBy_49 : decode cX10_putBy 49 = .ok (.aload_n 0, 1) := dkAb128.2.2.1
theorem dX10_putBy_50 : decode cX10_putBy 50 = .ok (.getfield 16, 3) := dkAb128.2.2.2.1
theorem dX10_putBy_53 : decode cX10_putBy 53 = .ok (.iconst 0, 1) := dkAb128.2.2.2.2.1
theorem dX10_putBy_54 : decode cX10_putBy 54 = .ok (.iload_n 1, 1) := dkAb128.2.2.2.2.2.1
theorem dX10_putBy_55 : decode cX10_putBy 55 = .ok (.iadd, 1) := dkAb128.2.2.2.2.2.2.1
theorem dX10_putBy_56 : decode cX10_putBy 56 = .ok (.iaload, 1) := dkAb128.2.2.2.2.2.2.2.1
theorem dX10_putBy_57 : decode cX10_putBy 57 = .ok (.istore_n 3, 1) := dkAb128.2.2.2.2.2.2.2.2.1
theorem dX10_putBy_58 : decode cX10_putBy 58 = .ok (.aload_n 0, 1) := dkAb128.2.2.2.2.2.2.2.2.2.1
theorem dX10_putBy_59 : decode cX10_putBy 59 = .ok (.getfield 16, 3) := dkAb128.2.2.2.2.2.2.2.2.2.2.1
theorem dX10_putBy_62 : decode cX10_putBy 62 = .ok (.bipush 7, 2) := dkAb128.2.2.2.2.2.2.2.2.2.2.2
set_option maxRecDepth 100000 in
theorem dkAb129 : decode cX10_putBy 64 = .ok (.iload_n 1, 1) ∧ decode cX10_putBy 65 = .ok (.iadd, 1) ∧ decode cX10_putBy 66 = .ok (.dup2, 1) ∧ decode cX10_putBy 67 = .ok (.iaload, 1) ∧ decode cX10_putBy 68 = .ok (.iconst 1, 1) ∧ decode cX10_putBy 69 = .ok (.iload_n 2, 1) ∧ decode cX10_putBy 70 = .ok (.ishl, 1) ∧ decode cX10_putBy 71 = .ok (.iconst (-1), 1) ∧ decode cX10_putBy 72 = .ok (.ixor, 1) ∧ decode cX10_putBy 73 = .ok (.iand, 1) ∧ decode cX10_putBy 74 = .ok (.iastore, 1) ∧ decode cX10_putBy 75 = .ok (.aload_n 0, 1) := by decide +kernel
theorem dX10_putBy_64 : decode cX10_putBy 64 = .ok (.iload_n 1, 1) := dkAb129.1
theorem dX10_putBy_65 : decode cX10_putBy 65 = .ok (.iadd, 1) := dkAb129.2.1
theorem dX10_putBy_66 : decode cX10_putBy 66 = .ok (.dup2, 1) := dkAb129.2.2.1
theorem dX10_putBy_67 : decode cX10_putBy 67 = .ok (.iaload, 1) := dkAb129.2.2.2.1
theorem dX10_putBy_68 : decode cX10_putBy 68 = .ok (.iconst 1, 1) := dkAb129.2.2.2.2.1
theorem dX10_putBy_69 : decode cX10_putBy 69 = .ok (.iload_n 2, 1) := dkAb129.2.2.2.2.2.1
theorem dX10_putBy_70 : decode cX10_putBy 70 = .ok (.ishl, 1) := dkAb129.2.2.2.2.2.2.1
theorem dX10_putBy_71 : decode cX10_putBy 71 = .ok (.iconst (-1), 1) := dkAb129.2.2.2.2.2.2.2.1
theorem dX10_putBy_72 : decode cX10_putBy 72 = .ok (.ixor, 1) := dkAb129.2.2.2.2.2.2.2.2.1
theorem dX10_putBy_73 : decode cX10_putBy 73 = .ok (.iand, 1) := dkAb129.2.2.2.2.2.2.2.2.2.1
theorem dX10_putBy_74 : decode cX10_putBy 74 = .ok (.iastore, 1) := dkAb129.2.2.2.2.2.2.2.2.2.2.1
theorem dX10_putBy_75 : decode cX10_putBy 75 = .ok (.aload_n 0, 1) := dkAb129.2.2.2.2.2.2.2.2.2.2.2
set_option maxRecDepth 100000 in
theorem dkAb130 : decode cX10_putBy 76 = .ok (.aload_n 0, 1) ∧ decode cX10_putBy 77 = .ok (.getfield 16, 3) ∧ decode cX10_putBy 80 = .ok (.iload_n 1, 1) ∧ decode cX10_putBy 81 = .ok (.iload_n 2, 1) ∧ decode cX10_putBy 82 = .ok (.invokevirtual 163, 3) ∧ decode cX10_putBy 85 = .ok (.iload_n 3, 1) ∧ decode cX10_putBy 86 = .ok (.ireturn, 1) := by decide +kernel
theorem dX10_putBy_76 : decode cX10_putBy 76 = .ok (.aload_n 0, 1) := dkAb130.1
theorem dX10_putBy_77 : decode cX10_putBy 77 = .ok (.getfield 16, 3) := dkAb130.2.1
theorem dX10_putBy_80 : decode cX10_putBy 80 = .ok (.iload_n 1, 1) := dkAb130.2.2.1
theorem dX10_putBy_81 : decode cX10_putBy 81 = .ok (.iload_n 2, 1) := dkAb130.2.2.2.1
theorem dX10_putBy_82 : decode cX10_putBy 82 = .ok (.invokevirtual 163, 3) := dkAb130.2.2.2.2.1
theorem dX10_putBy_85 : decode cX10_putBy 85 = .ok (.iload_n 3, 1) := dkAb130.2.2.2.2.2.1
theorem dX10_putBy_86 : decode cX10_putBy 86 = .ok (.ireturn, 1) := dkAb130.2.2.2.2.2.2
set_option maxRecDepth 100000 in
theorem dkAb131 : decode cX10_isHeir 0 = .ok (.iload_n 2, 1) ∧ decode cX10_isHeir 1 = .ok (.bipush 9, 2) ∧ decode cX10_isHeir 3 = .ok (.if_icmp .eq 16, 3) ∧ decode cX10_isHeir 6 = .ok (.aload_n 0, 1) ∧ decode cX10_isHeir 7 = .ok (.iload_n 2, 1) ∧ decode cX10_isHeir 8 = .ok (.invokevirtual 179, 3) ∧ decode cX10_isHeir 11 = .ok (.ifCond .eq 12, 3) ∧ decode cX10_isHeir 14 = .ok (.iload_n 2, 1) ∧ decode cX10_isHeir 15 = .ok (.iload_n 1, 1) ∧ decode cX10_isHeir 16 = .ok (.if_icmp .eq 7, 3) ∧ decode cX10_isHeir 19 = .ok (.iconst 1, 1) ∧ decode cX10_isHeir 20 = .ok (.goto 4, 3) := by decide +kernel
theorem dX10_isHeir_0 : decode cX10_isHeir 0 = .ok (.iload_n 2, 1) := dkAb131.1
theorem dX10_isHeir_1 : decode cX10_isHeir 1 = .ok (.bipush 9, 2) := dkAb131.2.1
theorem dX10_isHeir_3 : decode cX10_isHeir 3 = .ok (.if_icmp .eq 16, 3) := dkAb131.2.2.1
theorem dX10_isHeir_6 : decode cX10_isHeir 6 = .ok (.aload_n 0, 1) := dkAb131.2.2.2.1
theorem dX10_isHeir_7 : decode cX10_isHeir 7 = .ok (.iload_n 2, 1) := dkAb131.2.2.2.2.1
theorem dX10_isHeir_8 : decode cX10_isHeir 8 = .ok (.invokevirtual 179, 3) := dkAb131.2.2.2.2.2.1
theorem dX10_isHeir_11 : decode cX10_isHeir 11 = .ok (.ifCond .eq 12, 3) := dkAb131.2.2.2.2.2.2.1
theorem dX10_isHeir_14 : decode cX10_isHeir 14 = .ok (.iload_n 2, 1) := dkAb131.2.2.2.2.2.2.2.1
theorem dX10_isHeir_15 : decode cX10_isHeir 15 = .ok (.iload_n 1, 1) := dkAb131.2.2.2.2.2.2.2.2.1
theorem dX10_isHeir_16 : decode cX10_isHeir 16 = .ok (.if_icmp .eq 7, 3) := dkAb131.2.2.2.2.2.2.2.2.2.1
theorem dX10_isHeir_19 : decode cX10_isHeir 19 = .ok (.iconst 1, 1) := dkAb131.2.2.2.2.2.2.2.2.2.2.1
theorem dX10_isHeir_20 : decode cX10_isHeir 20 = .ok (.goto 4, 3) := dkAb131.2.2.2.2.2.2.2.2.2.2.2
theorem dX10_isHeir_23 : decode cX10_isHeir 23 = .ok (.iconst 0, 1) := by decide +kernel
theorem dX10_isHeir_24 : decode cX10_isHeir 24 = .ok (.ireturn, 1) := by decide +kernel
set_option maxRecDepth 100000 in
theorem dkAb132 : decode cX10_will 0 = .ok (.aload_n 0, 1) ∧ decode cX10_will 1 = .ok (.iload_n 1, 1) ∧ decode cX10_will 2 = .ok (.invokevirtual 179, 3) ∧ decode cX10_will 5 = .ok (.ifCond .eq 21, 3) ∧ decode cX10_will 8 = .ok (.aload_n 0, 1) ∧ decode cX10_will 9 = .ok (.iload_n 1, 1) ∧ decode cX10_will 10 = .ok (.iload_n 2, 1) ∧ decode cX10_will 11 = .ok (.invokevirtual 208, 3) ∧ decode cX10_will 14 = .ok (.ifCond .eq 12, 3) ∧ decode cX10_will 17 = .ok (.aload_n 0, 1) ∧ decode cX10_will 18 = .ok (.iload_n 1, 1) ∧ decode cX10_will 19 = .ok (.iload_n 3, 1) := by decide +kernel
theorem dX10_will_0 : decode cX10_will 0 = .ok (.aload_n 0, 1) := dkAb132.1
theorem dX10_will_1 : decode cX10_will 1 = .ok (.iload_n 1, 1) := dkAb132.2.1
theorem dX10_will_2 : decode cX10_will 2 = .ok (.invokevirtual 179, 3) := dkAb132.2.2.1
theorem dX10_will_5 : decode cX10_will 5 = .ok (.ifCond .eq 21, 3) := dkAb132.2.2.2.1
theorem dX10_will_8 : decode cX10_will 8 = .ok (.aload_n 0, 1) := dkAb132.2.2.2.2.1
theorem dX10_will_9 : decode cX10_will 9 = .ok (.iload_n 1, 1) := dkAb132.2.2.2.2.2.1
theorem dX10_will_10 : decode cX10_will 10 = .ok (.iload_n 2, 1) := dkAb132.2.2.2.2.2.2.1
theorem dX10_will_11 : decode cX10_will 11 = .ok (.invokevirtual 208, 3) := dkAb132.2.2.2.2.2.2.2.1
theorem dX10_will_14 : decode cX10_will 14 = .ok (.ifCond .eq 12, 3) := dkAb132.2.2.2.2.2.2.2.2.1
theorem dX10_will_17 : decode cX10_will 17 = .ok (.aload_n 0, 1) := dkAb132.2.2.2.2.2.2.2.2.2.1
theorem dX10_will_18 : decode cX10_will 18 = .ok (.iload_n 1, 1) := dkAb132.2.2.2.2.2.2.2.2.2.2.1
theorem dX10_will_19 : decode cX10_will 19 = .ok (.iload_n 3, 1) := dkAb132.2.2.2.2.2.2.2.2.2.2.2
set_option maxRecDepth 100000 in
theorem dkAb133 : decode cX10_will 20 = .ok (.invokevirtual 208, 3) ∧ decode cX10_will 23 = .ok (.ifCond .ne 6, 3) ∧ decode cX10_will 26 = .ok (.ldc 182, 2) ∧ decode cX10_will 28 = .ok (.ireturn, 1) ∧ decode cX10_will 29 = .ok (.aload_n 0, 1) ∧ decode cX10_will 30 = .ok (.iload_n 1, 1) ∧ decode cX10_will 31 = .ok (.invokevirtual 167, 3) ∧ decode cX10_will 34 = .ok (.ifCond .ne 6, 3) ∧ decode cX10_will 37 = .ok (.ldc 187, 2) ∧ decode cX10_will 39 = .ok (.ireturn, 1) ∧ decode cX10_will 40 = .ok (.aload_n 0, 1) ∧ decode cX10_will 41 = .ok (.invokevirtual 188, 3) := by decide +kernel
theorem dX10_will_20 : decode cX10_will 20 = .ok (.invokevirtual 208, 3) := dkAb133.1
theorem dX10_will_23 : decode cX10_will 23 = .ok (.ifCond .ne 6, 3) := dkAb133.2.1
theorem dX10_will_26 : decode cX10_will 26 = .ok (.ldc 182, 2) := dkAb133.2.2.1
theorem dX10_will_28 : decode cX10_will 28 = .ok (.ireturn, 1) := dkAb133.2.2.2.1
theorem dX10_will_29 : decode cX10_will 29 = .ok (.aload_n 0, 1) := dkAb133.2.2.2.2.1
theorem dX10_will_30 : decode cX10_will 30 = .ok (.iload_n 1, 1) := dkAb133.2.2.2.2.2.1
theorem dX10_will_31 : decode cX10_will 31 = .ok (.invokevirtual 167, 3) := dkAb133.2.2.2.2.2.2.1
theorem dX10_will_34 : decode cX10_will 34 = .ok (.ifCond .ne 6, 3) := dkAb133.2.2.2.2.2.2.2.1
theorem dX10_will_37 : decode cX10_will 37 = .ok (.ldc 187, 2) := dkAb133.2.2.2.2.2.2.2.2.1
theorem dX10_will_39 : decode cX10_will 39 = .ok (.ireturn, 1) := dkAb133.2.2.2.2.2.2.2.2.2.1
theorem dX10_will_40 : decode cX10_will 40 = .ok (.aload_n 0, 1) := dkAb133.2.2.2.2.2.2.2.2.2.2.1
theorem dX10_will_41 : decode cX10_will 41 = .ok (.invokevirtual 188, 3) := dkAb133.2.2.2.2.2.2.2.2.2.2.2
set_option maxRecDepth 100000 in
theorem dkAb134 : decode cX10_will 44 = .ok (.bipush 10, 2) ∧ decode cX10_will 46 = .ok (.aload_n 0, 1) ∧ decode cX10_will 47 = .ok (.getfield 16, 3) ∧ decode cX10_will 50 = .ok (.bipush 14, 2) ∧ decode cX10_will 52 = .ok (.iload_n 1, 1) ∧ decode cX10_will 53 = .ok (.iadd, 1) ∧ decode cX10_will 54 = .ok (.iaload, 1) ∧ decode cX10_will 55 = .ok (.imul, 1) ∧ decode cX10_will 56 = .ok (.aload_n 0, 1) ∧ decode cX10_will 57 = .ok (.getfield 16, 3) ∧ decode cX10_will 60 = .ok (.bipush 21, 2) ∧ decode cX10_will 62 = .ok (.iload_n 1, 1) := by decide +kernel
theorem dX10_will_44 : decode cX10_will 44 = .ok (.bipush 10, 2) := dkAb134.1
theorem dX10_will_46 : decode cX10_will 46 = .ok (.aload_n 0, 1) := dkAb134.2.1
theorem dX10_will_47 : decode cX10_will 47 = .ok (.getfield 16, 3) := dkAb134.2.2.1
theorem dX10_will_50 : decode cX10_will 50 = .ok (.bipush 14, 2) := dkAb134.2.2.2.1
theorem dX10_will_52 : decode cX10_will 52 = .ok (.iload_n 1, 1) := dkAb134.2.2.2.2.1
theorem dX10_will_53 : decode cX10_will 53 = .ok (.iadd, 1) := dkAb134.2.2.2.2.2.1
theorem dX10_will_54 : decode cX10_will 54 = .ok (.iaload, 1) := dkAb134.2.2.2.2.2.2.1
theorem dX10_will_55 : decode cX10_will 55 = .ok (.imul, 1) := dkAb134.2.2.2.2.2.2.2.1
theorem dX10_will_56 : decode cX10_will 56 = .ok (.aload_n 0, 1) := dkAb134.2.2.2.2.2.2.2.2.1
theorem dX10_will_57 : decode cX10_will 57 = .ok (.getfield 16, 3) := dkAb134.2.2.2.2.2.2.2.2.2.1
theorem dX10_will_60 : decode cX10_will 60 = .ok (.bipush 21, 2) := dkAb134.2.2.2.2.2.2.2.2.2.2.1
theorem dX10_will_62 : decode cX10_will 62 = .ok (.iload_n 1, 1) := dkAb134.2.2.2.2.2.2.2.2.2.2.2
set_option maxRecDepth 100000 in
theorem dkAb135 : decode cX10_will 63 = .ok (.iadd, 1) ∧ decode cX10_will 64 = .ok (.iaload, 1) ∧ decode cX10_will 65 = .ok (.iadd, 1) ∧ decode cX10_will 66 = .ok (.istore 4, 2) ∧ decode cX10_will 68 = .ok (.aload_n 0, 1) ∧ decode cX10_will 69 = .ok (.getfield 16, 3) ∧ decode cX10_will 72 = .ok (.bipush 14, 2) ∧ decode cX10_will 74 = .ok (.iload_n 1, 1) ∧ decode cX10_will 75 = .ok (.iadd, 1) ∧ decode cX10_will 76 = .ok (.iload_n 2, 1) ∧ decode cX10_will 77 = .ok (.iastore, 1) ∧ decode cX10_will 78 = .ok (.aload_n 0, 1) := by decide +kernel
theorem dX10_will_63 : decode cX10_will 63 = .ok (.iadd, 1) := dkAb135.1
theorem dX10_will_64 : decode cX10_will 64 = .ok (.iaload, 1) := dkAb135.2.1
theorem dX10_will_65 : decode cX10_will 65 = .ok (.iadd, 1) := dkAb135.2.2.1
theorem dX10_will_66 : decode cX10_will 66 = .ok (.istore 4, 2) := dkAb135.2.2.2.1
theorem dX10_will_68 : decode cX10_will 68 = .ok (.aload_n 0, 1) := dkAb135.2.2.2.2.1
theorem dX10_will_69 : decode cX10_will 69 = .ok (.getfield 16, 3) := dkAb135.2.2.2.2.2.1
theorem dX10_will_72 : decode cX10_will 72 = .ok (.bipush 14, 2) := dkAb135.2.2.2.2.2.2.1
theorem dX10_will_74 : decode cX10_will 74 = .ok (.iload_n 1, 1) := dkAb135.2.2.2.2.2.2.2.1
theorem dX10_will_75 : decode cX10_will 75 = .ok (.iadd, 1) := dkAb135.2.2.2.2.2.2.2.2.1
theorem dX10_will_76 : decode cX10_will 76 = .ok (.iload_n 2, 1) := dkAb135.2.2.2.2.2.2.2.2.2.1
theorem dX10_will_77 : decode cX10_will 77 = .ok (.iastore, 1) := dkAb135.2.2.2.2.2.2.2.2.2.2.1
theorem dX10_will_78 : decode cX10_will 78 = .ok (.aload_n 0, 1) := dkAb135.2.2.2.2.2.2.2.2.2.2.2
set_option maxRecDepth 100000 in
theorem dkAb136 : decode cX10_will 79 = .ok (.getfield 16, 3) ∧ decode cX10_will 82 = .ok (.bipush 21, 2) ∧ decode cX10_will 84 = .ok (.iload_n 1, 1) ∧ decode cX10_will 85 = .ok (.iadd, 1) ∧ decode cX10_will 86 = .ok (.iload_n 3, 1) ∧ decode cX10_will 87 = .ok (.iastore, 1) ∧ decode cX10_will 88 = .ok (.iload 4, 2) ∧ decode cX10_will 90 = .ok (.ireturn, 1) := by decide +kernel
theorem dX10_will_79 : decode cX10_will 79 = .ok (.getfield 16, 3) := dkAb136.1
theorem dX10_will_82 : decode cX10_will 82 = .ok (.bipush 21, 2) := dkAb136.2.1
theorem dX10_will_84 : decode cX10_will 84 = .ok (.iload_n 1, 1) := dkAb136.2.2.1
theorem dX10_will_85 : decode cX10_will 85 = .ok (.iadd, 1) := dkAb136.2.2.2.1
theorem dX10_will_86 : decode cX10_will 86 = .ok (.iload_n 3, 1) := dkAb136.2.2.2.2.1
theorem dX10_will_87 : decode cX10_will 87 = .ok (.iastore, 1) := dkAb136.2.2.2.2.2.1
theorem dX10_will_88 : decode cX10_will 88 = .ok (.iload 4, 2) := dkAb136.2.2.2.2.2.2.1
theorem dX10_will_90 : decode cX10_will 90 = .ok (.ireturn, 1) := dkAb136.2.2.2.2.2.2.2
set_option maxRecDepth 100000 in
theorem dkAb137 : decode cX10_draw 0 = .ok (.aload_n 0, 1) ∧ decode cX10_draw 1 = .ok (.aload_n 0, 1) ∧ decode cX10_draw 2 = .ok (.getfield 211, 3) ∧ decode cX10_draw 5 = .ok (.ldc2_w 215, 3) ∧ decode cX10_draw 8 = .ok (.lmul, 1) ∧ decode cX10_draw 9 = .ok (.ldc2_w 217, 3) ∧ decode cX10_draw 12 = .ok (.ladd, 1) ∧ decode cX10_draw 13 = .ok (.ldc2_w 219, 3) ∧ decode cX10_draw 16 = .ok (.lrem, 1) ∧ decode cX10_draw 17 = .ok (.putfield 211, 3) ∧ decode cX10_draw 20 = .ok (.aload_n 0, 1) ∧ decode cX10_draw 21 = .ok (.getfield 211, 3) := by decide +kernel
theorem dX10_draw_0 : decode cX10_draw 0 = .ok (.aload_n 0, 1) := dkAb137.1
theorem dX10_draw_1 : decode cX10_draw 1 = .ok (.aload_n 0, 1) := dkAb137.2.1
theorem dX10_draw_2 : decode cX10_draw 2 = .ok (.getfield 211, 3) := dkAb137.2.2.1
theorem dX10_draw_5 : decode cX10_draw 5 = .ok (.ldc2_w 215, 3) := dkAb137.2.2.2.1
theorem dX10_draw_8 : decode cX10_draw 8 = .ok (.lmul, 1) := dkAb137.2.2.2.2.1
theorem dX10_draw_9 : decode cX10_draw 9 = .ok (.ldc2_w 217, 3) := dkAb137.2.2.2.2.2.1
theorem dX10_draw_12 : decode cX10_draw 12 = .ok (.ladd, 1) := dkAb137.2.2.2.2.2.2.1
theorem dX10_draw_13 : decode cX10_draw 13 = .ok (.ldc2_w 219, 3) := dkAb137.2.2.2.2.2.2.2.1
theorem dX10_draw_16 : decode cX10_draw 16 = .ok (.lrem, 1) := dkAb137.2.2.2.2.2.2.2.2.1
theorem dX10_draw_17 : decode cX10_draw 17 = .ok (.putfield 211, 3) := dkAb137.2.2.2.2.2.2.2.2.2.1
theorem dX10_draw_20 : decode cX10_draw 20 = .ok (.aload_n 0, 1) := dkAb137.2.2.2.2.2.2.2.2.2.2.1
theorem dX10_draw_21 : decode cX10_draw 21 = .ok (.getfield 211, 3) := dkAb137.2.2.2.2.2.2.2.2.2.2.2
set_option maxRecDepth 100000 in
theorem dkAb138 : decode cX10_draw 24 = .ok (.ldc2_w 221, 3) ∧ decode cX10_draw 27 = .ok (.ldiv, 1) ∧ decode cX10_draw 28 = .ok (.iload_n 1, 1) ∧ decode cX10_draw 29 = .ok (.i2l, 1) ∧ decode cX10_draw 30 = .ok (.lrem, 1) ∧ decode cX10_draw 31 = .ok (.l2i, 1) ∧ decode cX10_draw 32 = .ok (.ireturn, 1) := by decide +kernel
theorem dX10_draw_24 : decode cX10_draw 24 = .ok (.ldc2_w 221, 3) := dkAb138.1
theorem dX10_draw_27 : decode cX10_draw 27 = .ok (.ldiv, 1) := dkAb138.2.1
theorem dX10_draw_28 : decode cX10_draw 28 = .ok (.iload_n 1, 1) := dkAb138.2.2.1
theorem dX10_draw_29 : decode cX10_draw 29 = .ok (.i2l, 1) := dkAb138.2.2.2.1
theorem dX10_draw_30 : decode cX10_draw 30 = .ok (.lrem, 1) := dkAb138.2.2.2.2.1
theorem dX10_draw_31 : decode cX10_draw 31 = .ok (.l2i, 1) := dkAb138.2.2.2.2.2.1
theorem dX10_draw_32 : decode cX10_draw 32 = .ok (.ireturn, 1) := dkAb138.2.2.2.2.2.2
set_option maxRecDepth 100000 in
theorem dkAb139 : decode cX10_drift 0 = .ok (.iload_n 1, 1) ∧ decode cX10_drift 1 = .ok (.i2l, 1) ∧ decode cX10_drift 2 = .ok (.lconst 1, 1) ∧ decode cX10_drift 3 = .ok (.ldc2_w 223, 3) ∧ decode cX10_drift 6 = .ok (.invokestatic 62, 3) ∧ decode cX10_drift 9 = .ok (.ifCond .ne 6, 3) ∧ decode cX10_drift 12 = .ok (.ldc 84, 2) ∧ decode cX10_drift 14 = .ok (.ireturn, 1) ∧ decode cX10_drift 15 = .ok (.aload_n 0, 1) ∧ decode cX10_drift 16 = .ok (.getfield 7, 3) ∧ decode cX10_drift 19 = .ok (.iconst 0, 1) ∧ decode cX10_drift 20 = .ok (.iaload, 1) := by decide +kernel
theorem dX10_drift_0 : decode cX10_drift 0 = .ok (.iload_n 1, 1) := dkAb139.1
theorem dX10_drift_1 : decode cX10_drift 1 = .ok (.i2l, 1) := dkAb139.2.1
theorem dX10_drift_2 : decode cX10_drift 2 = .ok (.lconst 1, 1) := dkAb139.2.2.1
theorem dX10_drift_3 : decode cX10_drift 3 = .ok (.ldc2_w 223, 3) := dkAb139.2.2.2.1
theorem dX10_drift_6 : decode cX10_drift 6 = .ok (.invokestatic 62, 3) := dkAb139.2.2.2.2.1
theorem dX10_drift_9 : decode cX10_drift 9 = .ok (.ifCond .ne 6, 3) := dkAb139.2.2.2.2.2.1
theorem dX10_drift_12 : decode cX10_drift 12 = .ok (.ldc 84, 2) := dkAb139.2.2.2.2.2.2.1
theorem dX10_drift_14 : decode cX10_drift 14 = .ok (.ireturn, 1) := dkAb139.2.2.2.2.2.2.2.1
theorem dX10_drift_15 : decode cX10_drift 15 = .ok (.aload_n 0, 1) := dkAb139.2.2.2.2.2.2.2.2.1
theorem dX10_drift_16 : decode cX10_drift 16 = .ok (.getfield 7, 3) := dkAb139.2.2.2.2.2.2.2.2.2.1
theorem dX10_drift_19 : decode cX10_drift 19 = .ok (.iconst 0, 1) := dkAb139.2.2.2.2.2.2.2.2.2.2.1
theorem dX10_drift_20 : decode cX10_drift 20 = .ok (.iaload, 1) := dkAb139.2.2.2.2.2.2.2.2.2.2.2
set_option maxRecDepth 100000 in
theorem dkAb140 : decode cX10_drift 21 = .ok (.ifCond .ne 6, 3) ∧ decode cX10_drift 24 = .ok (.ldc 187, 2) ∧ decode cX10_drift 26 = .ok (.ireturn, 1) ∧ decode cX10_drift 27 = .ok (.aload_n 0, 1) ∧ decode cX10_drift 28 = .ok (.invokevirtual 188, 3) ∧ decode cX10_drift 31 = .ok (.iconst 0, 1) ∧ decode cX10_drift 32 = .ok (.istore_n 2, 1) ∧ decode cX10_drift 33 = .ok (.iload_n 2, 1) ∧ decode cX10_drift 34 = .ok (.iload_n 1, 1) ∧ decode cX10_drift 35 = .ok (.if_icmp .ge 89, 3) ∧ decode cX10_drift 38 = .ok (.aload_n 0, 1) ∧ decode cX10_drift 39 = .ok (.aload_n 0, 1) := by decide +kernel
theorem dX10_drift_21 : decode cX10_drift 21 = .ok (.ifCond .ne 6, 3) := dkAb140.1
theorem dX10_drift_24 : decode cX10_drift 24 = .ok (.ldc 187, 2) := dkAb140.2.1
theorem dX10_drift_26 : decode cX10_drift 26 = .ok (.ireturn, 1) := dkAb140.2.2.1
theorem dX10_drift_27 : decode cX10_drift 27 = .ok (.aload_n 0, 1) := dkAb140.2.2.2.1
theorem dX10_drift_28 : decode cX10_drift 28 = .ok (.invokevirtual 188, 3) := dkAb140.2.2.2.2.1
theorem dX10_drift_31 : decode cX10_drift 31 = .ok (.iconst 0, 1) := dkAb140.2.2.2.2.2.1
theorem dX10_drift_32 : decode cX10_drift 32 = .ok (.istore_n 2, 1) := dkAb140.2.2.2.2.2.2.1
theorem dX10_drift_33 : decode cX10_drift 33 = .ok (.iload_n 2, 1) := dkAb140.2.2.2.2.2.2.2.1
theorem dX10_drift_34 : decode cX10_drift 34 = .ok (.iload_n 1, 1) := dkAb140.2.2.2.2.2.2.2.2.1
theorem dX10_drift_35 : decode cX10_drift 35 = .ok (.if_icmp .ge 89, 3) := dkAb140.2.2.2.2.2.2.2.2.2.1
theorem dX10_drift_38 : decode cX10_drift 38 = .ok (.aload_n 0, 1) := dkAb140.2.2.2.2.2.2.2.2.2.2.1
theorem dX10_drift_39 : decode cX10_drift 39 = .ok (.aload_n 0, 1) := dkAb140.2.2.2.2.2.2.2.2.2.2.2
set_option maxRecDepth 100000 in
theorem dkAb141 : decode cX10_drift 40 = .ok (.getfield 7, 3) ∧ decode cX10_drift 43 = .ok (.iconst 0, 1) ∧ decode cX10_drift 44 = .ok (.iaload, 1) ∧ decode cX10_drift 45 = .ok (.invokevirtual 225, 3) ∧ decode cX10_drift 48 = .ok (.istore_n 3, 1) ∧ decode cX10_drift 49 = .ok (.aload_n 0, 1) ∧ decode cX10_drift 50 = .ok (.iconst 3, 1) ∧ decode cX10_drift 51 = .ok (.invokevirtual 225, 3) ∧ decode cX10_drift 54 = .ok (.istore 4, 2) ∧ decode cX10_drift 56 = .ok (.iload_n 3, 1) ∧ decode cX10_drift 57 = .ok (.iconst 1, 1) ∧ decode cX10_drift 58 = .ok (.iadd, 1) := by decide +kernel
theorem dX10_drift_40 : decode cX10_drift 40 = .ok (.getfield 7, 3) := dkAb141.1
theorem dX10_drift_43 : decode cX10_drift 43 = .ok (.iconst 0, 1) := dkAb141.2.1
theorem dX10_drift_44 : decode cX10_drift 44 = .ok (.iaload, 1) := dkAb141.2.2.1
theorem dX10_drift_45 : decode cX10_drift 45 = .ok (.invokevirtual 225, 3) := dkAb141.2.2.2.1
theorem dX10_drift_48 : decode cX10_drift 48 = .ok (.istore_n 3, 1) := dkAb141.2.2.2.2.1
theorem dX10_drift_49 : decode cX10_drift 49 = .ok (.aload_n 0, 1) := dkAb141.2.2.2.2.2.1
theorem dX10_drift_50 : decode cX10_drift 50 = .ok (.iconst 3, 1) := dkAb141.2.2.2.2.2.2.1
theorem dX10_drift_51 : decode cX10_drift 51 = .ok (.invokevirtual 225, 3) := dkAb141.2.2.2.2.2.2.2.1
theorem dX10_drift_54 : decode cX10_drift 54 = .ok (.istore 4, 2) := dkAb141.2.2.2.2.2.2.2.2.1
theorem dX10_drift_56 : decode cX10_drift 56 = .ok (.iload_n 3, 1) := dkAb141.2.2.2.2.2.2.2.2.2.1
theorem dX10_drift_57 : decode cX10_drift 57 = .ok (.iconst 1, 1) := dkAb141.2.2.2.2.2.2.2.2.2.2.1
theorem dX10_drift_58 : decode cX10_drift 58 = .ok (.iadd, 1) := dkAb141.2.2.2.2.2.2.2.2.2.2.2
set_option maxRecDepth 100000 in
theorem dkAb142 : decode cX10_drift 59 = .ok (.aload_n 0, 1) ∧ decode cX10_drift 60 = .ok (.getfield 7, 3) ∧ decode cX10_drift 63 = .ok (.iconst 0, 1) ∧ decode cX10_drift 64 = .ok (.iaload, 1) ∧ decode cX10_drift 65 = .ok (.irem, 1) ∧ decode cX10_drift 66 = .ok (.istore 5, 2) ∧ decode cX10_drift 68 = .ok (.iload 4, 2) ∧ decode cX10_drift 70 = .ok (.ifCond .ne 25, 3) ∧ decode cX10_drift 73 = .ok (.aload_n 0, 1) ∧ decode cX10_drift 74 = .ok (.iload_n 3, 1) ∧ decode cX10_drift 75 = .ok (.invokevirtual 167, 3) ∧ decode cX10_drift 78 = .ok (.ifCond .eq 17, 3) := by decide +kernel
theorem dX10_drift_59 : decode cX10_drift 59 = .ok (.aload_n 0, 1) := dkAb142.1
theorem dX10_drift_60 : decode cX10_drift 60 = .ok (.getfield 7, 3) := dkAb142.2.1
theorem dX10_drift_63 : decode cX10_drift 63 = .ok (.iconst 0, 1) := dkAb142.2.2.1
theorem dX10_drift_64 : decode cX10_drift 64 = .ok (.iaload, 1) := dkAb142.2.2.2.1
theorem dX10_drift_65 : decode cX10_drift 65 = .ok (.irem, 1) := dkAb142.2.2.2.2.1
theorem dX10_drift_66 : decode cX10_drift 66 = .ok (.istore 5, 2) := dkAb142.2.2.2.2.2.1
theorem dX10_drift_68 : decode cX10_drift 68 = .ok (.iload 4, 2) := dkAb142.2.2.2.2.2.2.1
theorem dX10_drift_70 : decode cX10_drift 70 = .ok (.ifCond .ne 25, 3) := dkAb142.2.2.2.2.2.2.2.1
theorem dX10_drift_73 : decode cX10_drift 73 = .ok (.aload_n 0, 1) := dkAb142.2.2.2.2.2.2.2.2.1
theorem dX10_drift_74 : decode cX10_drift 74 = .ok (.iload_n 3, 1) := dkAb142.2.2.2.2.2.2.2.2.2.1
theorem dX10_drift_75 : decode cX10_drift 75 = .ok (.invokevirtual 167, 3) := dkAb142.2.2.2.2.2.2.2.2.2.2.1
theorem dX10_drift_78 : decode cX10_drift 78 = .ok (.ifCond .eq 17, 3) := dkAb142.2.2.2.2.2.2.2.2.2.2.2
set_option maxRecDepth 100000 in
theorem dkAb143 : decode cX10_drift 81 = .ok (.aload_n 0, 1) ∧ decode cX10_drift 82 = .ok (.aload_n 0, 1) ∧ decode cX10_drift 83 = .ok (.getfield 16, 3) ∧ decode cX10_drift 86 = .ok (.iload_n 3, 1) ∧ decode cX10_drift 87 = .ok (.invokevirtual 191, 3) ∧ decode cX10_drift 90 = .ok (.istore 6, 2) ∧ decode cX10_drift 92 = .ok (.goto 26, 3) ∧ decode cX10_drift 95 = .ok (.iload 4, 2) ∧ decode cX10_drift 97 = .ok (.iconst 1, 1) ∧ decode cX10_drift 98 = .ok (.if_icmp .ne 20, 3) ∧ decode cX10_drift 101 = .ok (.aload_n 0, 1) ∧ decode cX10_drift 102 = .ok (.iload_n 3, 1) := by decide +kernel
theorem dX10_drift_81 : decode cX10_drift 81 = .ok (.aload_n 0, 1) := dkAb143.1
theorem dX10_drift_82 : decode cX10_drift 82 = .ok (.aload_n 0, 1) := dkAb143.2.1
theorem dX10_drift_83 : decode cX10_drift 83 = .ok (.getfield 16, 3) := dkAb143.2.2.1
theorem dX10_drift_86 : decode cX10_drift 86 = .ok (.iload_n 3, 1) := dkAb143.2.2.2.1
theorem dX10_drift_87 : decode cX10_drift 87 = .ok (.invokevirtual 191, 3) := dkAb143.2.2.2.2.1
theorem dX10_drift_90 : decode cX10_drift 90 = .ok (.istore 6, 2) := dkAb143.2.2.2.2.2.1
theorem dX10_drift_92 : decode cX10_drift 92 = .ok (.goto 26, 3) := dkAb143.2.2.2.2.2.2.1
theorem dX10_drift_95 : decode cX10_drift 95 = .ok (.iload 4, 2) := dkAb143.2.2.2.2.2.2.2.1
theorem dX10_drift_97 : decode cX10_drift 97 = .ok (.iconst 1, 1) := dkAb143.2.2.2.2.2.2.2.2.1
theorem dX10_drift_98 : decode cX10_drift 98 = .ok (.if_icmp .ne 20, 3) := dkAb143.2.2.2.2.2.2.2.2.2.1
theorem dX10_drift_101 : decode cX10_drift 101 = .ok (.aload_n 0, 1) := dkAb143.2.2.2.2.2.2.2.2.2.2.1
theorem dX10_drift_102 : decode cX10_drift 102 = .ok (.iload_n 3, 1) := dkAb143.2.2.2.2.2.2.2.2.2.2.2
set_option maxRecDepth 100000 in
theorem dkAb144 : decode cX10_drift 103 = .ok (.iload 5, 2) ∧ decode cX10_drift 105 = .ok (.invokevirtual 198, 3) ∧ decode cX10_drift 108 = .ok (.ifCond .eq 10, 3) ∧ decode cX10_drift 111 = .ok (.aload_n 0, 1) ∧ decode cX10_drift 112 = .ok (.iload_n 3, 1) ∧ decode cX10_drift 113 = .ok (.iload 5, 2) ∧ decode cX10_drift 115 = .ok (.invokevirtual 201, 3) ∧ decode cX10_drift 118 = .ok (.iinc 2 1, 3) ∧ decode cX10_drift 121 = .ok (.goto (-88), 3) ∧ decode cX10_drift 124 = .ok (.aload_n 0, 1) ∧ decode cX10_drift 125 = .ok (.getfield 16, 3) ∧ decode cX10_drift 128 = .ok (.bipush 28, 2) := by decide +kernel
theorem dX10_drift_103 : decode cX10_drift 103 = .ok (.iload 5, 2) := dkAb144.1
theorem dX10_drift_105 : decode cX10_drift 105 = .ok (.invokevirtual 198, 3) := dkAb144.2.1
theorem dX10_drift_108 : decode cX10_drift 108 = .ok (.ifCond .eq 10, 3) := dkAb144.2.2.1
theorem dX10_drift_111 : decode cX10_drift 111 = .ok (.aload_n 0, 1) := dkAb144.2.2.2.1
theorem dX10_drift_112 : decode cX10_drift 112 = .ok (.iload_n 3, 1) := dkAb144.2.2.2.2.1
theorem dX10_drift_113 : decode cX10_drift 113 = .ok (.iload 5, 2) := dkAb144.2.2.2.2.2.1
theorem dX10_drift_115 : decode cX10_drift 115 = .ok (.invokevirtual 201, 3) := dkAb144.2.2.2.2.2.2.1
theorem dX10_drift_118 : decode cX10_drift 118 = .ok (.iinc 2 1, 3) := dkAb144.2.2.2.2.2.2.2.1
theorem dX10_drift_121 : decode cX10_drift 121 = .ok (.goto (-88), 3) := dkAb144.2.2.2.2.2.2.2.2.1
theorem dX10_drift_124 : decode cX10_drift 124 = .ok (.aload_n 0, 1) := dkAb144.2.2.2.2.2.2.2.2.2.1
theorem dX10_drift_125 : decode cX10_drift 125 = .ok (.getfield 16, 3) := dkAb144.2.2.2.2.2.2.2.2.2.2.1
theorem dX10_drift_128 : decode cX10_drift 128 = .ok (.bipush 28, 2) := dkAb144.2.2.2.2.2.2.2.2.2.2.2
theorem dX10_drift_130 : decode cX10_drift 130 = .ok (.iaload, 1) := by decide +kernel
theorem dX10_drift_131 : decode cX10_drift 131 = .ok (.ireturn, 1) := by decide +kernel
set_option maxRecDepth 100000 in
theorem dkAb145 : decode cX10_undo 0 = .ok (.aload_n 0, 1) ∧ decode cX10_undo 1 = .ok (.getfield 70, 3) ∧ decode cX10_undo 4 = .ok (.ifCond .ne 6, 3) ∧ decode cX10_undo 7 = .ok (.ldc 187, 2) ∧ decode cX10_undo 9 = .ok (.ireturn, 1) ∧ decode cX10_undo 10 = .ok (.aload_n 0, 1) ∧ decode cX10_undo 11 = .ok (.dup, 1) ∧ decode cX10_undo 12 = .ok (.getfield 70, 3) ∧ decode cX10_undo 15 = .ok (.iconst 1, 1) ∧ decode cX10_undo 16 = .ok (.isub, 1) ∧ decode cX10_undo 17 = .ok (.putfield 70, 3) ∧ decode cX10_undo 20 = .ok (.aload_n 0, 1) := by decide +kernel
theorem dX10_undo_0 : decode cX10_undo 0 = .ok (.aload_n 0, 1) := dkAb145.1
theorem dX10_undo_1 : decode cX10_undo 1 = .ok (.getfield 70, 3) := dkAb145.2.1
theorem dX10_undo_4 : decode cX10_undo 4 = .ok (.ifCond .ne 6, 3) := dkAb145.2.2.1
theorem dX10_undo_7 : decode cX10_undo 7 = .ok (.ldc 187, 2) := dkAb145.2.2.2.1
theorem dX10_undo_9 : decode cX10_undo 9 = .ok (.ireturn, 1) := dkAb145.2.2.2.2.1
theorem dX10_undo_10 : decode cX10_undo 10 = .ok (.aload_n 0, 1) := dkAb145.2.2.2.2.2.1
theorem dX10_undo_11 : decode cX10_undo 11 = .ok (.dup, 1) := dkAb145.2.2.2.2.2.2.1
theorem dX10_undo_12 : decode cX10_undo 12 = .ok (.getfield 70, 3) := dkAb145.2.2.2.2.2.2.2.1
theorem dX10_undo_15 : decode cX10_undo 15 = .ok (.iconst 1, 1) := dkAb145.2.2.2.2.2.2.2.2.1
theorem dX10_undo_16 : decode cX10_undo 16 = .ok (.isub, 1) := dkAb145.2.2.2.2.2.2.2.2.2.1
theorem dX10_undo_17 : decode cX10_undo 17 = .ok (.putfield 70, 3) := dkAb145.2.2.2.2.2.2.2.2.2.2.1
theorem dX10_undo_20 : decode cX10_undo 20 = .ok (.aload_n 0, 1) := dkAb145.2.2.2.2.2.2.2.2.2.2.2
set_option maxRecDepth 100000 in
theorem dkAb146 : decode cX10_undo 21 = .ok (.getfield 22, 3) ∧ decode cX10_undo 24 = .ok (.bipush 30, 2) ∧ decode cX10_undo 26 = .ok (.aload_n 0, 1) ∧ decode cX10_undo 27 = .ok (.getfield 70, 3) ∧ decode cX10_undo 30 = .ok (.imul, 1) ∧ decode cX10_undo 31 = .ok (.aload_n 0, 1) ∧ decode cX10_undo 32 = .ok (.getfield 16, 3) ∧ decode cX10_undo 35 = .ok (.iconst 0, 1) ∧ decode cX10_undo 36 = .ok (.bipush 30, 2) ∧ decode cX10_undo 38 = .ok (.invokestatic 66, 3) ∧ decode cX10_undo 41 = .ok (.aload_n 0, 1) ∧ decode cX10_undo 42 = .ok (.getfield 70, 3) := by decide +kernel
theorem dX10_undo_21 : decode cX10_undo 21 = .ok (.getfield 22, 3) := dkAb146.1
theorem dX10_undo_24 : decode cX10_undo 24 = .ok (.bipush 30, 2) := dkAb146.2.1
theorem dX10_undo_26 : decode cX10_undo 26 = .ok (.aload_n 0, 1) := dkAb146.2.2.1
theorem dX10_undo_27 : decode cX10_undo 27 = .ok (.getfield 70, 3) := dkAb146.2.2.2.1
theorem dX10_undo_30 : decode cX10_undo 30 = .ok (.imul, 1) := dkAb146.2.2.2.2.1
theorem dX10_undo_31 : decode cX10_undo 31 = .ok (.aload_n 0, 1) := dkAb146.2.2.2.2.2.1
theorem dX10_undo_32 : decode cX10_undo 32 = .ok (.getfield 16, 3) := dkAb146.2.2.2.2.2.2.1
theorem dX10_undo_35 : decode cX10_undo 35 = .ok (.iconst 0, 1) := dkAb146.2.2.2.2.2.2.2.1
theorem dX10_undo_36 : decode cX10_undo 36 = .ok (.bipush 30, 2) := dkAb146.2.2.2.2.2.2.2.2.1
theorem dX10_undo_38 : decode cX10_undo 38 = .ok (.invokestatic 66, 3) := dkAb146.2.2.2.2.2.2.2.2.2.1
theorem dX10_undo_41 : decode cX10_undo 41 = .ok (.aload_n 0, 1) := dkAb146.2.2.2.2.2.2.2.2.2.2.1
theorem dX10_undo_42 : decode cX10_undo 42 = .ok (.getfield 70, 3) := dkAb146.2.2.2.2.2.2.2.2.2.2.2
theorem dX10_undo_45 : decode cX10_undo 45 = .ok (.ireturn, 1) := by decide +kernel
set_option maxRecDepth 100000 in
theorem dkAb147 : decode cX10_isOrder 0 = .ok (.iconst 0, 1) ∧ decode cX10_isOrder 1 = .ok (.istore_n 2, 1) ∧ decode cX10_isOrder 2 = .ok (.iload_n 1, 1) ∧ decode cX10_isOrder 3 = .ok (.ifCond .le 7, 3) ∧ decode cX10_isOrder 6 = .ok (.iconst 1, 1) ∧ decode cX10_isOrder 7 = .ok (.goto 4, 3) ∧ decode cX10_isOrder 10 = .ok (.iconst 0, 1) ∧ decode cX10_isOrder 11 = .ok (.istore_n 3, 1) ∧ decode cX10_isOrder 12 = .ok (.iload_n 1, 1) ∧ decode cX10_isOrder 13 = .ok (.istore 4, 2) ∧ decode cX10_isOrder 15 = .ok (.iload 4, 2) ∧ decode cX10_isOrder 17 = .ok (.ifCond .le 74, 3) := by decide +kernel
theorem dX10_isOrder_0 : decode cX10_isOrder 0 = .ok (.iconst 0, 1) := dkAb147.1
theorem dX10_isOrder_1 : decode cX10_isOrder 1 = .ok (.istore_n 2, 1) := dkAb147.2.1
theorem dX10_isOrder_2 : decode cX10_isOrder 2 = .ok (.iload_n 1, 1) := dkAb147.2.2.1
theorem dX10_isOrder_3 : decode cX10_isOrder 3 = .ok (.ifCond .le 7, 3) := dkAb147.2.2.2.1
theorem dX10_isOrder_6 : decode cX10_isOrder 6 = .ok (.iconst 1, 1) := dkAb147.2.2.2.2.1
theorem dX10_isOrder_7 : decode cX10_isOrder 7 = .ok (.goto 4, 3) := dkAb147.2.2.2.2.2.1
theorem dX10_isOrder_10 : decode cX10_isOrder 10 = .ok (.iconst 0, 1) := dkAb147.2.2.2.2.2.2.1
theorem dX10_isOrder_11 : decode cX10_isOrder 11 = .ok (.istore_n 3, 1) := dkAb147.2.2.2.2.2.2.2.1
theorem dX10_isOrder_12 : decode cX10_isOrder 12 = .ok (.iload_n 1, 1) := dkAb147.2.2.2.2.2.2.2.2.1
theorem dX10_isOrder_13 : decode cX10_isOrder 13 = .ok (.istore 4, 2) := dkAb147.2.2.2.2.2.2.2.2.2.1
theorem dX10_isOrder_15 : decode cX10_isOrder 15 = .ok (.iload 4, 2) := dkAb147.2.2.2.2.2.2.2.2.2.2.1
theorem dX10_isOrder_17 : decode cX10_isOrder 17 = .ok (.ifCond .le 74, 3) := dkAb147.2.2.2.2.2.2.2.2.2.2.2
set_option maxRecDepth 100000 in
theorem dkAb148 : decode cX10_isOrder 20 = .ok (.iload_n 3, 1) ∧ decode cX10_isOrder 21 = .ok (.ifCond .eq 70, 3) ∧ decode cX10_isOrder 24 = .ok (.iload 4, 2) ∧ decode cX10_isOrder 26 = .ok (.bipush 10, 2) ∧ decode cX10_isOrder 28 = .ok (.irem, 1) ∧ decode cX10_isOrder 29 = .ok (.iconst 1, 1) ∧ decode cX10_isOrder 30 = .ok (.isub, 1) ∧ decode cX10_isOrder 31 = .ok (.istore 5, 2) ∧ decode cX10_isOrder 33 = .ok (.aload_n 0, 1) ∧ decode cX10_isOrder 34 = .ok (.iload 5, 2) ∧ decode cX10_isOrder 36 = .ok (.invokevirtual 179, 3) ∧ decode cX10_isOrder 39 = .ok (.ifCond .eq 25, 3) := by decide +kernel
theorem dX10_isOrder_20 : decode cX10_isOrder 20 = .ok (.iload_n 3, 1) := dkAb148.1
theorem dX10_isOrder_21 : decode cX10_isOrder 21 = .ok (.ifCond .eq 70, 3) := dkAb148.2.1
theorem dX10_isOrder_24 : decode cX10_isOrder 24 = .ok (.iload 4, 2) := dkAb148.2.2.1
theorem dX10_isOrder_26 : decode cX10_isOrder 26 = .ok (.bipush 10, 2) := dkAb148.2.2.2.1
theorem dX10_isOrder_28 : decode cX10_isOrder 28 = .ok (.irem, 1) := dkAb148.2.2.2.2.1
theorem dX10_isOrder_29 : decode cX10_isOrder 29 = .ok (.iconst 1, 1) := dkAb148.2.2.2.2.2.1
theorem dX10_isOrder_30 : decode cX10_isOrder 30 = .ok (.isub, 1) := dkAb148.2.2.2.2.2.2.1
theorem dX10_isOrder_31 : decode cX10_isOrder 31 = .ok (.istore 5, 2) := dkAb148.2.2.2.2.2.2.2.1
theorem dX10_isOrder_33 : decode cX10_isOrder 33 = .ok (.aload_n 0, 1) := dkAb148.2.2.2.2.2.2.2.2.1
theorem dX10_isOrder_34 : decode cX10_isOrder 34 = .ok (.iload 5, 2) := dkAb148.2.2.2.2.2.2.2.2.2.1
theorem dX10_isOrder_36 : decode cX10_isOrder 36 = .ok (.invokevirtual 179, 3) := dkAb148.2.2.2.2.2.2.2.2.2.2.1
theorem dX10_isOrder_39 : decode cX10_isOrder 39 = .ok (.ifCond .eq 25, 3) := dkAb148.2.2.2.2.2.2.2.2.2.2.2
set_option maxRecDepth 100000 in
theorem dkAb149 : decode cX10_isOrder 42 = .ok (.aload_n 0, 1) ∧ decode cX10_isOrder 43 = .ok (.iload 5, 2) ∧ decode cX10_isOrder 45 = .ok (.invokevirtual 167, 3) ∧ decode cX10_isOrder 48 = .ok (.ifCond .eq 16, 3) ∧ decode cX10_isOrder 51 = .ok (.iload_n 2, 1) ∧ decode cX10_isOrder 52 = .ok (.iload 5, 2) ∧ decode cX10_isOrder 54 = .ok (.invokestatic 134, 3) ∧ decode cX10_isOrder 57 = .ok (.ifCond .ne 7, 3) ∧ decode cX10_isOrder 60 = .ok (.iconst 1, 1) ∧ decode cX10_isOrder 61 = .ok (.goto 4, 3) ∧ decode cX10_isOrder 64 = .ok (.iconst 0, 1) ∧ decode cX10_isOrder 65 = .ok (.istore_n 3, 1) := by decide +kernel
theorem dX10_isOrder_42 : decode cX10_isOrder 42 = .ok (.aload_n 0, 1) := dkAb149.1
theorem dX10_isOrder_43 : decode cX10_isOrder 43 = .ok (.iload 5, 2) := dkAb149.2.1
theorem dX10_isOrder_45 : decode cX10_isOrder 45 = .ok (.invokevirtual 167, 3) := dkAb149.2.2.1
theorem dX10_isOrder_48 : decode cX10_isOrder 48 = .ok (.ifCond .eq 16, 3) := dkAb149.2.2.2.1
theorem dX10_isOrder_51 : decode cX10_isOrder 51 = .ok (.iload_n 2, 1) := dkAb149.2.2.2.2.1
theorem dX10_isOrder_52 : decode cX10_isOrder 52 = .ok (.iload 5, 2) := dkAb149.2.2.2.2.2.1
theorem dX10_isOrder_54 : decode cX10_isOrder 54 = .ok (.invokestatic 134, 3) := dkAb149.2.2.2.2.2.2.1
theorem dX10_isOrder_57 : decode cX10_isOrder 57 = .ok (.ifCond .ne 7, 3) := dkAb149.2.2.2.2.2.2.2.1
theorem dX10_isOrder_60 : decode cX10_isOrder 60 = .ok (.iconst 1, 1) := dkAb149.2.2.2.2.2.2.2.2.1
theorem dX10_isOrder_61 : decode cX10_isOrder 61 = .ok (.goto 4, 3) := dkAb149.2.2.2.2.2.2.2.2.2.1
theorem dX10_isOrder_64 : decode cX10_isOrder 64 = .ok (.iconst 0, 1) := dkAb149.2.2.2.2.2.2.2.2.2.2.1
theorem dX10_isOrder_65 : decode cX10_isOrder 65 = .ok (.istore_n 3, 1) := dkAb149.2.2.2.2.2.2.2.2.2.2.2
set_option maxRecDepth 100000 in
theorem dkAb150 : decode cX10_isOrder 66 = .ok (.iload_n 2, 1) ∧ decode cX10_isOrder 67 = .ok (.iload_n 3, 1) ∧ decode cX10_isOrder 68 = .ok (.ifCond .eq 10, 3) ∧ decode cX10_isOrder 71 = .ok (.iconst 1, 1) ∧ decode cX10_isOrder 72 = .ok (.iload 5, 2) ∧ decode cX10_isOrder 74 = .ok (.ishl, 1) ∧ decode cX10_isOrder 75 = .ok (.goto 4, 3) ∧ decode cX10_isOrder 78 = .ok (.iconst 0, 1) ∧ decode cX10_isOrder 79 = .ok (.ior, 1) ∧ decode cX10_isOrder 80 = .ok (.istore_n 2, 1) ∧ decode cX10_isOrder 81 = .ok (.iload 4, 2) ∧ decode cX10_isOrder 83 = .ok (.bipush 10, 2) := by decide +kernel
theorem dX10_isOrder_66 : decode cX10_isOrder 66 = .ok (.iload_n 2, 1) := dkAb150.1
theorem dX10_isOrder_67 : decode cX10_isOrder 67 = .ok (.iload_n 3, 1) := dkAb150.2.1
theorem dX10_isOrder_68 : decode cX10_isOrder 68 = .ok (.ifCond .eq 10, 3) := dkAb150.2.2.1
theorem dX10_isOrder_71 : decode cX10_isOrder 71 = .ok (.iconst 1, 1) := dkAb150.2.2.2.1
theorem dX10_isOrder_72 : decode cX10_isOrder 72 = .ok (.iload 5, 2) := dkAb150.2.2.2.2.1
theorem dX10_isOrder_74 : decode cX10_isOrder 74 = .ok (.ishl, 1) := dkAb150.2.2.2.2.2.1
theorem dX10_isOrder_75 : decode cX10_isOrder 75 = .ok (.goto 4, 3) := dkAb150.2.2.2.2.2.2.1
theorem dX10_isOrder_78 : decode cX10_isOrder 78 = .ok (.iconst 0, 1) := dkAb150.2.2.2.2.2.2.2.1
theorem dX10_isOrder_79 : decode cX10_isOrder 79 = .ok (.ior, 1) := dkAb150.2.2.2.2.2.2.2.2.1
theorem dX10_isOrder_80 : decode cX10_isOrder 80 = .ok (.istore_n 2, 1) := dkAb150.2.2.2.2.2.2.2.2.2.1
theorem dX10_isOrder_81 : decode cX10_isOrder 81 = .ok (.iload 4, 2) := dkAb150.2.2.2.2.2.2.2.2.2.2.1
theorem dX10_isOrder_83 : decode cX10_isOrder 83 = .ok (.bipush 10, 2) := dkAb150.2.2.2.2.2.2.2.2.2.2.2
set_option maxRecDepth 100000 in
theorem dkAb151 : decode cX10_isOrder 85 = .ok (.idiv, 1) ∧ decode cX10_isOrder 86 = .ok (.istore 4, 2) ∧ decode cX10_isOrder 88 = .ok (.goto (-73), 3) ∧ decode cX10_isOrder 91 = .ok (.iload_n 3, 1) ∧ decode cX10_isOrder 92 = .ok (.ireturn, 1) := by decide +kernel
theorem dX10_isOrder_85 : decode cX10_isOrder 85 = .ok (.idiv, 1) := dkAb151.1
theorem dX10_isOrder_86 : decode cX10_isOrder 86 = .ok (.istore 4, 2) := dkAb151.2.1
theorem dX10_isOrder_88 : decode cX10_isOrder 88 = .ok (.goto (-73), 3) := dkAb151.2.2.1
theorem dX10_isOrder_91 : decode cX10_isOrder 91 = .ok (.iload_n 3, 1) := dkAb151.2.2.2.1
theorem dX10_isOrder_92 : decode cX10_isOrder 92 = .ok (.ireturn, 1) := dkAb151.2.2.2.2
set_option maxRecDepth 100000 in
theorem dkAb152 : decode cX10_layAside 0 = .ok (.aload_n 0, 1) ∧ decode cX10_layAside 1 = .ok (.getfield 16, 3) ∧ decode cX10_layAside 4 = .ok (.iconst 0, 1) ∧ decode cX10_layAside 5 = .ok (.aload_n 0, 1) ∧ decode cX10_layAside 6 = .ok (.getfield 19, 3) ∧ decode cX10_layAside 9 = .ok (.iconst 0, 1) ∧ decode cX10_layAside 10 = .ok (.bipush 30, 2) ∧ decode cX10_layAside 12 = .ok (.invokestatic 66, 3) ∧ decode cX10_layAside 15 = .ok (.return_, 1) := by decide +kernel
theorem dX10_layAside_0 : decode cX10_layAside 0 = .ok (.aload_n 0, 1) := dkAb152.1
theorem dX10_layAside_1 : decode cX10_layAside 1 = .ok (.getfield 16, 3) := dkAb152.2.1
theorem dX10_layAside_4 : decode cX10_layAside 4 = .ok (.iconst 0, 1) := dkAb152.2.2.1
theorem dX10_layAside_5 : decode cX10_layAside 5 = .ok (.aload_n 0, 1) := dkAb152.2.2.2.1
theorem dX10_layAside_6 : decode cX10_layAside 6 = .ok (.getfield 19, 3) := dkAb152.2.2.2.2.1
theorem dX10_layAside_9 : decode cX10_layAside 9 = .ok (.iconst 0, 1) := dkAb152.2.2.2.2.2.1
theorem dX10_layAside_10 : decode cX10_layAside 10 = .ok (.bipush 30, 2) := dkAb152.2.2.2.2.2.2.1
theorem dX10_layAside_12 : decode cX10_layAside 12 = .ok (.invokestatic 66, 3) := dkAb152.2.2.2.2.2.2.2.1
theorem dX10_layAside_15 : decode cX10_layAside 15 = .ok (.return_, 1) := dkAb152.2.2.2.2.2.2.2.2
set_option maxRecDepth 100000 in
theorem dkAb153 : decode cX10_allDie 0 = .ok (.iconst 1, 1) ∧ decode cX10_allDie 1 = .ok (.istore_n 2, 1) ∧ decode cX10_allDie 2 = .ok (.iload_n 1, 1) ∧ decode cX10_allDie 3 = .ok (.iload_n 2, 1) ∧ decode cX10_allDie 4 = .ok (.idiv, 1) ∧ decode cX10_allDie 5 = .ok (.bipush 10, 2) ∧ decode cX10_allDie 7 = .ok (.if_icmp .lt 11, 3) ∧ decode cX10_allDie 10 = .ok (.iload_n 2, 1) ∧ decode cX10_allDie 11 = .ok (.bipush 10, 2) ∧ decode cX10_allDie 13 = .ok (.imul, 1) ∧ decode cX10_allDie 14 = .ok (.istore_n 2, 1) ∧ decode cX10_allDie 15 = .ok (.goto (-13), 3) := by decide +kernel
theorem dX10_allDie_0 : decode cX10_allDie 0 = .ok (.iconst 1, 1) := dkAb153.1
theorem dX10_allDie_1 : decode cX10_allDie 1 = .ok (.istore_n 2, 1) := dkAb153.2.1
theorem dX10_allDie_2 : decode cX10_allDie 2 = .ok (.iload_n 1, 1) := dkAb153.2.2.1
theorem dX10_allDie_3 : decode cX10_allDie 3 = .ok (.iload_n 2, 1) := dkAb153.2.2.2.1
theorem dX10_allDie_4 : decode cX10_allDie 4 = .ok (.idiv, 1) := dkAb153.2.2.2.2.1
theorem dX10_allDie_5 : decode cX10_allDie 5 = .ok (.bipush 10, 2) := dkAb153.2.2.2.2.2.1
theorem dX10_allDie_7 : decode cX10_allDie 7 = .ok (.if_icmp .lt 11, 3) := dkAb153.2.2.2.2.2.2.1
theorem dX10_allDie_10 : decode cX10_allDie 10 = .ok (.iload_n 2, 1) := dkAb153.2.2.2.2.2.2.2.1
theorem dX10_allDie_11 : decode cX10_allDie 11 = .ok (.bipush 10, 2) := dkAb153.2.2.2.2.2.2.2.2.1
theorem dX10_allDie_13 : decode cX10_allDie 13 = .ok (.imul, 1) := dkAb153.2.2.2.2.2.2.2.2.2.1
theorem dX10_allDie_14 : decode cX10_allDie 14 = .ok (.istore_n 2, 1) := dkAb153.2.2.2.2.2.2.2.2.2.2.1
theorem dX10_allDie_15 : decode cX10_allDie 15 = .ok (.goto (-13), 3) := dkAb153.2.2.2.2.2.2.2.2.2.2.2
set_option maxRecDepth 100000 in
theorem dkAb154 : decode cX10_allDie 18 = .ok (.iload_n 2, 1) ∧ decode cX10_allDie 19 = .ok (.ifCond .le 32, 3) ∧ decode cX10_allDie 22 = .ok (.iload_n 1, 1) ∧ decode cX10_allDie 23 = .ok (.ifCond .le 28, 3) ∧ decode cX10_allDie 26 = .ok (.aload_n 0, 1) ∧ decode cX10_allDie 27 = .ok (.aload_n 0, 1) ∧ decode cX10_allDie 28 = .ok (.getfield 19, 3) ∧ decode cX10_allDie 31 = .ok (.iload_n 1, 1) ∧ decode cX10_allDie 32 = .ok (.iload_n 2, 1) ∧ decode cX10_allDie 33 = .ok (.idiv, 1) ∧ decode cX10_allDie 34 = .ok (.bipush 10, 2) ∧ decode cX10_allDie 36 = .ok (.irem, 1) := by decide +kernel
theorem dX10_allDie_18 : decode cX10_allDie 18 = .ok (.iload_n 2, 1) := dkAb154.1
theorem dX10_allDie_19 : decode cX10_allDie 19 = .ok (.ifCond .le 32, 3) := dkAb154.2.1
theorem dX10_allDie_22 : decode cX10_allDie 22 = .ok (.iload_n 1, 1) := dkAb154.2.2.1
theorem dX10_allDie_23 : decode cX10_allDie 23 = .ok (.ifCond .le 28, 3) := dkAb154.2.2.2.1
theorem dX10_allDie_26 : decode cX10_allDie 26 = .ok (.aload_n 0, 1) := dkAb154.2.2.2.2.1
theorem dX10_allDie_27 : decode cX10_allDie 27 = .ok (.aload_n 0, 1) := dkAb154.2.2.2.2.2.1
theorem dX10_allDie_28 : decode cX10_allDie 28 = .ok (.getfield 19, 3) := dkAb154.2.2.2.2.2.2.1
theorem dX10_allDie_31 : decode cX10_allDie 31 = .ok (.iload_n 1, 1) := dkAb154.2.2.2.2.2.2.2.1
theorem dX10_allDie_32 : decode cX10_allDie 32 = .ok (.iload_n 2, 1) := dkAb154.2.2.2.2.2.2.2.2.1
theorem dX10_allDie_33 : decode cX10_allDie 33 = .ok (.idiv, 1) := dkAb154.2.2.2.2.2.2.2.2.2.1
theorem dX10_allDie_34 : decode cX10_allDie 34 = .ok (.bipush 10, 2) := dkAb154.2.2.2.2.2.2.2.2.2.2.1
theorem dX10_allDie_36 : decode cX10_allDie 36 = .ok (.irem, 1) := dkAb154.2.2.2.2.2.2.2.2.2.2.2
set_option maxRecDepth 100000 in
theorem dkAb155 : decode cX10_allDie 37 = .ok (.iconst 1, 1) ∧ decode cX10_allDie 38 = .ok (.isub, 1) ∧ decode cX10_allDie 39 = .ok (.invokevirtual 191, 3) ∧ decode cX10_allDie 42 = .ok (.istore_n 3, 1) ∧ decode cX10_allDie 43 = .ok (.iload_n 2, 1) ∧ decode cX10_allDie 44 = .ok (.bipush 10, 2) ∧ decode cX10_allDie 46 = .ok (.idiv, 1) ∧ decode cX10_allDie 47 = .ok (.istore_n 2, 1) ∧ decode cX10_allDie 48 = .ok (.goto (-30), 3) ∧ decode cX10_allDie 51 = .ok (.return_, 1) := by decide +kernel
theorem dX10_allDie_37 : decode cX10_allDie 37 = .ok (.iconst 1, 1) := dkAb155.1
theorem dX10_allDie_38 : decode cX10_allDie 38 = .ok (.isub, 1) := dkAb155.2.1
theorem dX10_allDie_39 : decode cX10_allDie 39 = .ok (.invokevirtual 191, 3) := dkAb155.2.2.1
theorem dX10_allDie_42 : decode cX10_allDie 42 = .ok (.istore_n 3, 1) := dkAb155.2.2.2.1
theorem dX10_allDie_43 : decode cX10_allDie 43 = .ok (.iload_n 2, 1) := dkAb155.2.2.2.2.1
theorem dX10_allDie_44 : decode cX10_allDie 44 = .ok (.bipush 10, 2) := dkAb155.2.2.2.2.2.1
theorem dX10_allDie_46 : decode cX10_allDie 46 = .ok (.idiv, 1) := dkAb155.2.2.2.2.2.2.1
theorem dX10_allDie_47 : decode cX10_allDie 47 = .ok (.istore_n 2, 1) := dkAb155.2.2.2.2.2.2.2.1
theorem dX10_allDie_48 : decode cX10_allDie 48 = .ok (.goto (-30), 3) := dkAb155.2.2.2.2.2.2.2.2.1
theorem dX10_allDie_51 : decode cX10_allDie 51 = .ok (.return_, 1) := dkAb155.2.2.2.2.2.2.2.2.2
set_option maxRecDepth 100000 in
theorem dkAb156 : decode cX10_after 0 = .ok (.aload_n 0, 1) ∧ decode cX10_after 1 = .ok (.iload_n 2, 1) ∧ decode cX10_after 2 = .ok (.invokevirtual 179, 3) ∧ decode cX10_after 5 = .ok (.ifCond .ne 6, 3) ∧ decode cX10_after 8 = .ok (.ldc 182, 2) ∧ decode cX10_after 10 = .ok (.ireturn, 1) ∧ decode cX10_after 11 = .ok (.aload_n 0, 1) ∧ decode cX10_after 12 = .ok (.iload_n 1, 1) ∧ decode cX10_after 13 = .ok (.invokevirtual 228, 3) ∧ decode cX10_after 16 = .ok (.ifCond .ne 6, 3) ∧ decode cX10_after 19 = .ok (.ldc 84, 2) ∧ decode cX10_after 21 = .ok (.ireturn, 1) := by decide +kernel
theorem dX10_after_0 : decode cX10_after 0 = .ok (.aload_n 0, 1) := dkAb156.1
theorem dX10_after_1 : decode cX10_after 1 = .ok (.iload_n 2, 1) := dkAb156.2.1
theorem dX10_after_2 : decode cX10_after 2 = .ok (.invokevirtual 179, 3) := dkAb156.2.2.1
theorem dX10_after_5 : decode cX10_after 5 = .ok (.ifCond .ne 6, 3) := dkAb156.2.2.2.1
theorem dX10_after_8 : decode cX10_after 8 = .ok (.ldc 182, 2) := dkAb156.2.2.2.2.1
theorem dX10_after_10 : decode cX10_after 10 = .ok (.ireturn, 1) := dkAb156.2.2.2.2.2.1
theorem dX10_after_11 : decode cX10_after 11 = .ok (.aload_n 0, 1) := dkAb156.2.2.2.2.2.2.1
theorem dX10_after_12 : decode cX10_after 12 = .ok (.iload_n 1, 1) := dkAb156.2.2.2.2.2.2.2.1
theorem dX10_after_13 : decode cX10_after 13 = .ok (.invokevirtual 228, 3) := dkAb156.2.2.2.2.2.2.2.2.1
theorem dX10_after_16 : decode cX10_after 16 = .ok (.ifCond .ne 6, 3) := dkAb156.2.2.2.2.2.2.2.2.2.1
theorem dX10_after_19 : decode cX10_after 19 = .ok (.ldc 84, 2) := dkAb156.2.2.2.2.2.2.2.2.2.2.1
theorem dX10_after_21 : decode cX10_after 21 = .ok (.ireturn, 1) := dkAb156.2.2.2.2.2.2.2.2.2.2.2
set_option maxRecDepth 100000 in
theorem dkAb157 : decode cX10_after 22 = .ok (.aload_n 0, 1) ∧ decode cX10_after 23 = .ok (.invokevirtual 231, 3) ∧ decode cX10_after 26 = .ok (.aload_n 0, 1) ∧ decode cX10_after 27 = .ok (.iload_n 1, 1) ∧ decode cX10_after 28 = .ok (.invokevirtual 234, 3) ∧ decode cX10_after 31 = .ok (.aload_n 0, 1) ∧ decode cX10_after 32 = .ok (.getfield 19, 3) ∧ decode cX10_after 35 = .ok (.iconst 0, 1) ∧ decode cX10_after 36 = .ok (.iload_n 2, 1) ∧ decode cX10_after 37 = .ok (.iadd, 1) ∧ decode cX10_after 38 = .ok (.iaload, 1) ∧ decode cX10_after 39 = .ok (.ireturn, 1) := by decide +kernel
theorem dX10_after_22 : decode cX10_after 22 = .ok (.aload_n 0, 1) := dkAb157.1
theorem dX10_after_23 : decode cX10_after 23 = .ok (.invokevirtual 231, 3) := dkAb157.2.1
theorem dX10_after_26 : decode cX10_after 26 = .ok (.aload_n 0, 1) := dkAb157.2.2.1
theorem dX10_after_27 : decode cX10_after 27 = .ok (.iload_n 1, 1) := dkAb157.2.2.2.1
theorem dX10_after_28 : decode cX10_after 28 = .ok (.invokevirtual 234, 3) := dkAb157.2.2.2.2.1
theorem dX10_after_31 : decode cX10_after 31 = .ok (.aload_n 0, 1) := dkAb157.2.2.2.2.2.1
theorem dX10_after_32 : decode cX10_after 32 = .ok (.getfield 19, 3) := dkAb157.2.2.2.2.2.2.1
theorem dX10_after_35 : decode cX10_after 35 = .ok (.iconst 0, 1) := dkAb157.2.2.2.2.2.2.2.1
theorem dX10_after_36 : decode cX10_after 36 = .ok (.iload_n 2, 1) := dkAb157.2.2.2.2.2.2.2.2.1
theorem dX10_after_37 : decode cX10_after 37 = .ok (.iadd, 1) := dkAb157.2.2.2.2.2.2.2.2.2.1
theorem dX10_after_38 : decode cX10_after 38 = .ok (.iaload, 1) := dkAb157.2.2.2.2.2.2.2.2.2.2.1
theorem dX10_after_39 : decode cX10_after 39 = .ok (.ireturn, 1) := dkAb157.2.2.2.2.2.2.2.2.2.2.2
set_option maxRecDepth 100000 in
theorem dkAb158 : decode cX10_whose 0 = .ok (.iload_n 2, 1) ∧ decode cX10_whose 1 = .ok (.invokestatic 205, 3) ∧ decode cX10_whose 4 = .ok (.ifCond .ne 6, 3) ∧ decode cX10_whose 7 = .ok (.ldc 182, 2) ∧ decode cX10_whose 9 = .ok (.ireturn, 1) ∧ decode cX10_whose 10 = .ok (.aload_n 0, 1) ∧ decode cX10_whose 11 = .ok (.iload_n 1, 1) ∧ decode cX10_whose 12 = .ok (.invokevirtual 228, 3) ∧ decode cX10_whose 15 = .ok (.ifCond .ne 6, 3) ∧ decode cX10_whose 18 = .ok (.ldc 84, 2) ∧ decode cX10_whose 20 = .ok (.ireturn, 1) ∧ decode cX10_whose 21 = .ok (.aload_n 0, 1) := by decide +kernel
theorem dX10_whose_0 : decode cX10_whose 0 = .ok (.iload_n 2, 1) := dkAb158.1
theorem dX10_whose_1 : decode cX10_whose 1 = .ok (.invokestatic 205, 3) := dkAb158.2.1
theorem dX10_whose_4 : decode cX10_whose 4 = .ok (.ifCond .ne 6, 3) := dkAb158.2.2.1
theorem dX10_whose_7 : decode cX10_whose 7 = .ok (.ldc 182, 2) := dkAb158.2.2.2.1
theorem dX10_whose_9 : decode cX10_whose 9 = .ok (.ireturn, 1) := dkAb158.2.2.2.2.1
theorem dX10_whose_10 : decode cX10_whose 10 = .ok (.aload_n 0, 1) := dkAb158.2.2.2.2.2.1
theorem dX10_whose_11 : decode cX10_whose 11 = .ok (.iload_n 1, 1) := dkAb158.2.2.2.2.2.2.1
theorem dX10_whose_12 : decode cX10_whose 12 = .ok (.invokevirtual 228, 3) := dkAb158.2.2.2.2.2.2.2.1
theorem dX10_whose_15 : decode cX10_whose 15 = .ok (.ifCond .ne 6, 3) := dkAb158.2.2.2.2.2.2.2.2.1
theorem dX10_whose_18 : decode cX10_whose 18 = .ok (.ldc 84, 2) := dkAb158.2.2.2.2.2.2.2.2.2.1
theorem dX10_whose_20 : decode cX10_whose 20 = .ok (.ireturn, 1) := dkAb158.2.2.2.2.2.2.2.2.2.2.1
theorem dX10_whose_21 : decode cX10_whose 21 = .ok (.aload_n 0, 1) := dkAb158.2.2.2.2.2.2.2.2.2.2.2
set_option maxRecDepth 100000 in
theorem dkAb159 : decode cX10_whose 22 = .ok (.invokevirtual 231, 3) ∧ decode cX10_whose 25 = .ok (.aload_n 0, 1) ∧ decode cX10_whose 26 = .ok (.iload_n 1, 1) ∧ decode cX10_whose 27 = .ok (.invokevirtual 234, 3) ∧ decode cX10_whose 30 = .ok (.iconst 0, 1) ∧ decode cX10_whose 31 = .ok (.istore_n 3, 1) ∧ decode cX10_whose 32 = .ok (.iload_n 3, 1) ∧ decode cX10_whose 33 = .ok (.aload_n 0, 1) ∧ decode cX10_whose 34 = .ok (.getfield 7, 3) ∧ decode cX10_whose 37 = .ok (.iconst 0, 1) ∧ decode cX10_whose 38 = .ok (.iaload, 1) ∧ decode cX10_whose 39 = .ok (.if_icmp .ge 23, 3) := by decide +kernel
theorem dX10_whose_22 : decode cX10_whose 22 = .ok (.invokevirtual 231, 3) := dkAb159.1
theorem dX10_whose_25 : decode cX10_whose 25 = .ok (.aload_n 0, 1) := dkAb159.2.1
theorem dX10_whose_26 : decode cX10_whose 26 = .ok (.iload_n 1, 1) := dkAb159.2.2.1
theorem dX10_whose_27 : decode cX10_whose 27 = .ok (.invokevirtual 234, 3) := dkAb159.2.2.2.1
theorem dX10_whose_30 : decode cX10_whose 30 = .ok (.iconst 0, 1) := dkAb159.2.2.2.2.1
theorem dX10_whose_31 : decode cX10_whose 31 = .ok (.istore_n 3, 1) := dkAb159.2.2.2.2.2.1
theorem dX10_whose_32 : decode cX10_whose 32 = .ok (.iload_n 3, 1) := dkAb159.2.2.2.2.2.2.1
theorem dX10_whose_33 : decode cX10_whose 33 = .ok (.aload_n 0, 1) := dkAb159.2.2.2.2.2.2.2.1
theorem dX10_whose_34 : decode cX10_whose 34 = .ok (.getfield 7, 3) := dkAb159.2.2.2.2.2.2.2.2.1
theorem dX10_whose_37 : decode cX10_whose 37 = .ok (.iconst 0, 1) := dkAb159.2.2.2.2.2.2.2.2.2.1
theorem dX10_whose_38 : decode cX10_whose 38 = .ok (.iaload, 1) := dkAb159.2.2.2.2.2.2.2.2.2.2.1
theorem dX10_whose_39 : decode cX10_whose 39 = .ok (.if_icmp .ge 23, 3) := dkAb159.2.2.2.2.2.2.2.2.2.2.2
set_option maxRecDepth 100000 in
theorem dkAb160 : decode cX10_whose 42 = .ok (.aload_n 0, 1) ∧ decode cX10_whose 43 = .ok (.getfield 19, 3) ∧ decode cX10_whose 46 = .ok (.iconst 0, 1) ∧ decode cX10_whose 47 = .ok (.iload_n 3, 1) ∧ decode cX10_whose 48 = .ok (.iadd, 1) ∧ decode cX10_whose 49 = .ok (.iaload, 1) ∧ decode cX10_whose 50 = .ok (.iload_n 2, 1) ∧ decode cX10_whose 51 = .ok (.if_icmp .ne 5, 3) ∧ decode cX10_whose 54 = .ok (.iload_n 3, 1) ∧ decode cX10_whose 55 = .ok (.ireturn, 1) ∧ decode cX10_whose 56 = .ok (.iinc 3 1, 3) ∧ decode cX10_whose 59 = .ok (.goto (-27), 3) := by decide +kernel
theorem dX10_whose_42 : decode cX10_whose 42 = .ok (.aload_n 0, 1) := dkAb160.1
theorem dX10_whose_43 : decode cX10_whose 43 = .ok (.getfield 19, 3) := dkAb160.2.1
theorem dX10_whose_46 : decode cX10_whose 46 = .ok (.iconst 0, 1) := dkAb160.2.2.1
theorem dX10_whose_47 : decode cX10_whose 47 = .ok (.iload_n 3, 1) := dkAb160.2.2.2.1
theorem dX10_whose_48 : decode cX10_whose 48 = .ok (.iadd, 1) := dkAb160.2.2.2.2.1
theorem dX10_whose_49 : decode cX10_whose 49 = .ok (.iaload, 1) := dkAb160.2.2.2.2.2.1
theorem dX10_whose_50 : decode cX10_whose 50 = .ok (.iload_n 2, 1) := dkAb160.2.2.2.2.2.2.1
theorem dX10_whose_51 : decode cX10_whose 51 = .ok (.if_icmp .ne 5, 3) := dkAb160.2.2.2.2.2.2.2.1
theorem dX10_whose_54 : decode cX10_whose 54 = .ok (.iload_n 3, 1) := dkAb160.2.2.2.2.2.2.2.2.1
theorem dX10_whose_55 : decode cX10_whose 55 = .ok (.ireturn, 1) := dkAb160.2.2.2.2.2.2.2.2.2.1
theorem dX10_whose_56 : decode cX10_whose 56 = .ok (.iinc 3 1, 3) := dkAb160.2.2.2.2.2.2.2.2.2.2.1
theorem dX10_whose_59 : decode cX10_whose 59 = .ok (.goto (-27), 3) := dkAb160.2.2.2.2.2.2.2.2.2.2.2
theorem dX10_whose_62 : decode cX10_whose 62 = .ok (.iconst (-1), 1) := by decide +kernel
theorem dX10_whose_63 : decode cX10_whose 63 = .ok (.ireturn, 1) := by decide +kernel
set_option maxRecDepth 100000 in
theorem dkAb161 : decode cX10_heirOf 0 = .ok (.iload_n 1, 1) ∧ decode cX10_heirOf 1 = .ok (.aload_n 0, 1) ∧ decode cX10_heirOf 2 = .ok (.getfield 7, 3) ∧ decode cX10_heirOf 5 = .ok (.iconst 0, 1) ∧ decode cX10_heirOf 6 = .ok (.iaload, 1) ∧ decode cX10_heirOf 7 = .ok (.if_icmp .ne 8, 3) ∧ decode cX10_heirOf 10 = .ok (.bipush 9, 2) ∧ decode cX10_heirOf 12 = .ok (.goto 4, 3) ∧ decode cX10_heirOf 15 = .ok (.iload_n 1, 1) ∧ decode cX10_heirOf 16 = .ok (.ireturn, 1) := by decide +kernel
theorem dX10_heirOf_0 : decode cX10_heirOf 0 = .ok (.iload_n 1, 1) := dkAb161.1
theorem dX10_heirOf_1 : decode cX10_heirOf 1 = .ok (.aload_n 0, 1) := dkAb161.2.1
theorem dX10_heirOf_2 : decode cX10_heirOf 2 = .ok (.getfield 7, 3) := dkAb161.2.2.1
theorem dX10_heirOf_5 : decode cX10_heirOf 5 = .ok (.iconst 0, 1) := dkAb161.2.2.2.1
theorem dX10_heirOf_6 : decode cX10_heirOf 6 = .ok (.iaload, 1) := dkAb161.2.2.2.2.1
theorem dX10_heirOf_7 : decode cX10_heirOf 7 = .ok (.if_icmp .ne 8, 3) := dkAb161.2.2.2.2.2.1
theorem dX10_heirOf_10 : decode cX10_heirOf 10 = .ok (.bipush 9, 2) := dkAb161.2.2.2.2.2.2.1
theorem dX10_heirOf_12 : decode cX10_heirOf 12 = .ok (.goto 4, 3) := dkAb161.2.2.2.2.2.2.2.1
theorem dX10_heirOf_15 : decode cX10_heirOf 15 = .ok (.iload_n 1, 1) := dkAb161.2.2.2.2.2.2.2.2.1
theorem dX10_heirOf_16 : decode cX10_heirOf 16 = .ok (.ireturn, 1) := dkAb161.2.2.2.2.2.2.2.2.2
set_option maxRecDepth 100000 in
theorem dkAb162 : decode cX10_canBe 0 = .ok (.aload_n 0, 1) ∧ decode cX10_canBe 1 = .ok (.getfield 7, 3) ∧ decode cX10_canBe 4 = .ok (.iconst 0, 1) ∧ decode cX10_canBe 5 = .ok (.iaload, 1) ∧ decode cX10_canBe 6 = .ok (.iconst 1, 1) ∧ decode cX10_canBe 7 = .ok (.iadd, 1) ∧ decode cX10_canBe 8 = .ok (.istore 6, 2) ∧ decode cX10_canBe 10 = .ok (.iload 4, 2) ∧ decode cX10_canBe 12 = .ok (.iconst (-1), 1) ∧ decode cX10_canBe 13 = .ok (.if_icmp .ne 7, 3) ∧ decode cX10_canBe 16 = .ok (.iconst 1, 1) ∧ decode cX10_canBe 17 = .ok (.goto 19, 3) := by decide +kernel
theorem dX10_canBe_0 : decode cX10_canBe 0 = .ok (.aload_n 0, 1) := dkAb162.1
theorem dX10_canBe_1 : decode cX10_canBe 1 = .ok (.getfield 7, 3) := dkAb162.2.1
theorem dX10_canBe_4 : decode cX10_canBe 4 = .ok (.iconst 0, 1) := dkAb162.2.2.1
theorem dX10_canBe_5 : decode cX10_canBe 5 = .ok (.iaload, 1) := dkAb162.2.2.2.1
theorem dX10_canBe_6 : decode cX10_canBe 6 = .ok (.iconst 1, 1) := dkAb162.2.2.2.2.1
theorem dX10_canBe_7 : decode cX10_canBe 7 = .ok (.iadd, 1) := dkAb162.2.2.2.2.2.1
theorem dX10_canBe_8 : decode cX10_canBe 8 = .ok (.istore 6, 2) := dkAb162.2.2.2.2.2.2.1
theorem dX10_canBe_10 : decode cX10_canBe 10 = .ok (.iload 4, 2) := dkAb162.2.2.2.2.2.2.2.1
theorem dX10_canBe_12 : decode cX10_canBe 12 = .ok (.iconst (-1), 1) := dkAb162.2.2.2.2.2.2.2.2.1
theorem dX10_canBe_13 : decode cX10_canBe 13 = .ok (.if_icmp .ne 7, 3) := dkAb162.2.2.2.2.2.2.2.2.2.1
theorem dX10_canBe_16 : decode cX10_canBe 16 = .ok (.iconst 1, 1) := dkAb162.2.2.2.2.2.2.2.2.2.2.1
theorem dX10_canBe_17 : decode cX10_canBe 17 = .ok (.goto 19, 3) := dkAb162.2.2.2.2.2.2.2.2.2.2.2
set_option maxRecDepth 100000 in
theorem dkAb163 : decode cX10_canBe 20 = .ok (.iload 5, 2) ∧ decode cX10_canBe 22 = .ok (.iconst (-1), 1) ∧ decode cX10_canBe 23 = .ok (.if_icmp .ne 8, 3) ∧ decode cX10_canBe 26 = .ok (.iload 6, 2) ∧ decode cX10_canBe 28 = .ok (.goto 8, 3) ∧ decode cX10_canBe 31 = .ok (.iload 6, 2) ∧ decode cX10_canBe 33 = .ok (.iload 6, 2) ∧ decode cX10_canBe 35 = .ok (.imul, 1) ∧ decode cX10_canBe 36 = .ok (.istore 7, 2) ∧ decode cX10_canBe 38 = .ok (.iconst 0, 1) ∧ decode cX10_canBe 39 = .ok (.istore 8, 2) ∧ decode cX10_canBe 41 = .ok (.iload 8, 2) := by decide +kernel
theorem dX10_canBe_20 : decode cX10_canBe 20 = .ok (.iload 5, 2) := dkAb163.1
theorem dX10_canBe_22 : decode cX10_canBe 22 = .ok (.iconst (-1), 1) := dkAb163.2.1
theorem dX10_canBe_23 : decode cX10_canBe 23 = .ok (.if_icmp .ne 8, 3) := dkAb163.2.2.1
theorem dX10_canBe_26 : decode cX10_canBe 26 = .ok (.iload 6, 2) := dkAb163.2.2.2.1
theorem dX10_canBe_28 : decode cX10_canBe 28 = .ok (.goto 8, 3) := dkAb163.2.2.2.2.1
theorem dX10_canBe_31 : decode cX10_canBe 31 = .ok (.iload 6, 2) := dkAb163.2.2.2.2.2.1
theorem dX10_canBe_33 : decode cX10_canBe 33 = .ok (.iload 6, 2) := dkAb163.2.2.2.2.2.2.1
theorem dX10_canBe_35 : decode cX10_canBe 35 = .ok (.imul, 1) := dkAb163.2.2.2.2.2.2.2.1
theorem dX10_canBe_36 : decode cX10_canBe 36 = .ok (.istore 7, 2) := dkAb163.2.2.2.2.2.2.2.2.1
theorem dX10_canBe_38 : decode cX10_canBe 38 = .ok (.iconst 0, 1) := dkAb163.2.2.2.2.2.2.2.2.2.1
theorem dX10_canBe_39 : decode cX10_canBe 39 = .ok (.istore 8, 2) := dkAb163.2.2.2.2.2.2.2.2.2.2.1
theorem dX10_canBe_41 : decode cX10_canBe 41 = .ok (.iload 8, 2) := dkAb163.2.2.2.2.2.2.2.2.2.2.2
set_option maxRecDepth 100000 in
theorem dkAb164 : decode cX10_canBe 43 = .ok (.iload 7, 2) ∧ decode cX10_canBe 45 = .ok (.if_icmp .ge 152, 3) ∧ decode cX10_canBe 48 = .ok (.aload_n 0, 1) ∧ decode cX10_canBe 49 = .ok (.iload 8, 2) ∧ decode cX10_canBe 51 = .ok (.iload 6, 2) ∧ decode cX10_canBe 53 = .ok (.irem, 1) ∧ decode cX10_canBe 54 = .ok (.invokevirtual 238, 3) ∧ decode cX10_canBe 57 = .ok (.istore 9, 2) ∧ decode cX10_canBe 59 = .ok (.aload_n 0, 1) ∧ decode cX10_canBe 60 = .ok (.iload 8, 2) ∧ decode cX10_canBe 62 = .ok (.iload 6, 2) ∧ decode cX10_canBe 64 = .ok (.idiv, 1) := by decide +kernel
theorem dX10_canBe_43 : decode cX10_canBe 43 = .ok (.iload 7, 2) := dkAb164.1
theorem dX10_canBe_45 : decode cX10_canBe 45 = .ok (.if_icmp .ge 152, 3) := dkAb164.2.1
theorem dX10_canBe_48 : decode cX10_canBe 48 = .ok (.aload_n 0, 1) := dkAb164.2.2.1
theorem dX10_canBe_49 : decode cX10_canBe 49 = .ok (.iload 8, 2) := dkAb164.2.2.2.1
theorem dX10_canBe_51 : decode cX10_canBe 51 = .ok (.iload 6, 2) := dkAb164.2.2.2.2.1
theorem dX10_canBe_53 : decode cX10_canBe 53 = .ok (.irem, 1) := dkAb164.2.2.2.2.2.1
theorem dX10_canBe_54 : decode cX10_canBe 54 = .ok (.invokevirtual 238, 3) := dkAb164.2.2.2.2.2.2.1
theorem dX10_canBe_57 : decode cX10_canBe 57 = .ok (.istore 9, 2) := dkAb164.2.2.2.2.2.2.2.1
theorem dX10_canBe_59 : decode cX10_canBe 59 = .ok (.aload_n 0, 1) := dkAb164.2.2.2.2.2.2.2.2.1
theorem dX10_canBe_60 : decode cX10_canBe 60 = .ok (.iload 8, 2) := dkAb164.2.2.2.2.2.2.2.2.2.1
theorem dX10_canBe_62 : decode cX10_canBe 62 = .ok (.iload 6, 2) := dkAb164.2.2.2.2.2.2.2.2.2.2.1
theorem dX10_canBe_64 : decode cX10_canBe 64 = .ok (.idiv, 1) := dkAb164.2.2.2.2.2.2.2.2.2.2.2
set_option maxRecDepth 100000 in
theorem dkAb165 : decode cX10_canBe 65 = .ok (.invokevirtual 238, 3) ∧ decode cX10_canBe 68 = .ok (.istore 10, 2) ∧ decode cX10_canBe 70 = .ok (.iload 4, 2) ∧ decode cX10_canBe 72 = .ok (.iconst (-1), 1) ∧ decode cX10_canBe 73 = .ok (.if_icmp .eq 10, 3) ∧ decode cX10_canBe 76 = .ok (.iload 9, 2) ∧ decode cX10_canBe 78 = .ok (.iload 4, 2) ∧ decode cX10_canBe 80 = .ok (.if_icmp .eq 20, 3) ∧ decode cX10_canBe 83 = .ok (.iload 5, 2) ∧ decode cX10_canBe 85 = .ok (.iconst (-1), 1) ∧ decode cX10_canBe 86 = .ok (.if_icmp .eq 10, 3) ∧ decode cX10_canBe 89 = .ok (.iload 10, 2) := by decide +kernel
theorem dX10_canBe_65 : decode cX10_canBe 65 = .ok (.invokevirtual 238, 3) := dkAb165.1
theorem dX10_canBe_68 : decode cX10_canBe 68 = .ok (.istore 10, 2) := dkAb165.2.1
theorem dX10_canBe_70 : decode cX10_canBe 70 = .ok (.iload 4, 2) := dkAb165.2.2.1
theorem dX10_canBe_72 : decode cX10_canBe 72 = .ok (.iconst (-1), 1) := dkAb165.2.2.2.1
theorem dX10_canBe_73 : decode cX10_canBe 73 = .ok (.if_icmp .eq 10, 3) := dkAb165.2.2.2.2.1
theorem dX10_canBe_76 : decode cX10_canBe 76 = .ok (.iload 9, 2) := dkAb165.2.2.2.2.2.1
theorem dX10_canBe_78 : decode cX10_canBe 78 = .ok (.iload 4, 2) := dkAb165.2.2.2.2.2.2.1
theorem dX10_canBe_80 : decode cX10_canBe 80 = .ok (.if_icmp .eq 20, 3) := dkAb165.2.2.2.2.2.2.2.1
theorem dX10_canBe_83 : decode cX10_canBe 83 = .ok (.iload 5, 2) := dkAb165.2.2.2.2.2.2.2.2.1
theorem dX10_canBe_85 : decode cX10_canBe 85 = .ok (.iconst (-1), 1) := dkAb165.2.2.2.2.2.2.2.2.2.1
theorem dX10_canBe_86 : decode cX10_canBe 86 = .ok (.if_icmp .eq 10, 3) := dkAb165.2.2.2.2.2.2.2.2.2.2.1
theorem dX10_canBe_89 : decode cX10_canBe 89 = .ok (.iload 10, 2) := dkAb165.2.2.2.2.2.2.2.2.2.2.2
set_option maxRecDepth 100000 in
theorem dkAb166 : decode cX10_canBe 91 = .ok (.iload 5, 2) ∧ decode cX10_canBe 93 = .ok (.if_icmp .eq 7, 3) ∧ decode cX10_canBe 96 = .ok (.iconst 1, 1) ∧ decode cX10_canBe 97 = .ok (.goto 4, 3) ∧ decode cX10_canBe 100 = .ok (.iconst 0, 1) ∧ decode cX10_canBe 101 = .ok (.istore 11, 2) ∧ decode cX10_canBe 103 = .ok (.iload 11, 2) ∧ decode cX10_canBe 105 = .ok (.ifCond .eq 86, 3) ∧ decode cX10_canBe 108 = .ok (.aload_n 0, 1) ∧ decode cX10_canBe 109 = .ok (.invokevirtual 231, 3) ∧ decode cX10_canBe 112 = .ok (.iload 4, 2) ∧ decode cX10_canBe 114 = .ok (.iconst (-1), 1) := by decide +kernel
theorem dX10_canBe_91 : decode cX10_canBe 91 = .ok (.iload 5, 2) := dkAb166.1
theorem dX10_canBe_93 : decode cX10_canBe 93 = .ok (.if_icmp .eq 7, 3) := dkAb166.2.1
theorem dX10_canBe_96 : decode cX10_canBe 96 = .ok (.iconst 1, 1) := dkAb166.2.2.1
theorem dX10_canBe_97 : decode cX10_canBe 97 = .ok (.goto 4, 3) := dkAb166.2.2.2.1
theorem dX10_canBe_100 : decode cX10_canBe 100 = .ok (.iconst 0, 1) := dkAb166.2.2.2.2.1
theorem dX10_canBe_101 : decode cX10_canBe 101 = .ok (.istore 11, 2) := dkAb166.2.2.2.2.2.1
theorem dX10_canBe_103 : decode cX10_canBe 103 = .ok (.iload 11, 2) := dkAb166.2.2.2.2.2.2.1
theorem dX10_canBe_105 : decode cX10_canBe 105 = .ok (.ifCond .eq 86, 3) := dkAb166.2.2.2.2.2.2.2.1
theorem dX10_canBe_108 : decode cX10_canBe 108 = .ok (.aload_n 0, 1) := dkAb166.2.2.2.2.2.2.2.2.1
theorem dX10_canBe_109 : decode cX10_canBe 109 = .ok (.invokevirtual 231, 3) := dkAb166.2.2.2.2.2.2.2.2.2.1
theorem dX10_canBe_112 : decode cX10_canBe 112 = .ok (.iload 4, 2) := dkAb166.2.2.2.2.2.2.2.2.2.2.1
theorem dX10_canBe_114 : decode cX10_canBe 114 = .ok (.iconst (-1), 1) := dkAb166.2.2.2.2.2.2.2.2.2.2.2
set_option maxRecDepth 100000 in
theorem dkAb167 : decode cX10_canBe 115 = .ok (.if_icmp .eq 27, 3) ∧ decode cX10_canBe 118 = .ok (.aload_n 0, 1) ∧ decode cX10_canBe 119 = .ok (.getfield 19, 3) ∧ decode cX10_canBe 122 = .ok (.bipush 14, 2) ∧ decode cX10_canBe 124 = .ok (.iload 4, 2) ∧ decode cX10_canBe 126 = .ok (.iadd, 1) ∧ decode cX10_canBe 127 = .ok (.iload 9, 2) ∧ decode cX10_canBe 129 = .ok (.iastore, 1) ∧ decode cX10_canBe 130 = .ok (.aload_n 0, 1) ∧ decode cX10_canBe 131 = .ok (.getfield 19, 3) ∧ decode cX10_canBe 134 = .ok (.bipush 21, 2) ∧ decode cX10_canBe 136 = .ok (.iload 4, 2) := by decide +kernel
theorem dX10_canBe_115 : decode cX10_canBe 115 = .ok (.if_icmp .eq 27, 3) := dkAb167.1
theorem dX10_canBe_118 : decode cX10_canBe 118 = .ok (.aload_n 0, 1) := dkAb167.2.1
theorem dX10_canBe_119 : decode cX10_canBe 119 = .ok (.getfield 19, 3) := dkAb167.2.2.1
theorem dX10_canBe_122 : decode cX10_canBe 122 = .ok (.bipush 14, 2) := dkAb167.2.2.2.1
theorem dX10_canBe_124 : decode cX10_canBe 124 = .ok (.iload 4, 2) := dkAb167.2.2.2.2.1
theorem dX10_canBe_126 : decode cX10_canBe 126 = .ok (.iadd, 1) := dkAb167.2.2.2.2.2.1
theorem dX10_canBe_127 : decode cX10_canBe 127 = .ok (.iload 9, 2) := dkAb167.2.2.2.2.2.2.1
theorem dX10_canBe_129 : decode cX10_canBe 129 = .ok (.iastore, 1) := dkAb167.2.2.2.2.2.2.2.1
theorem dX10_canBe_130 : decode cX10_canBe 130 = .ok (.aload_n 0, 1) := dkAb167.2.2.2.2.2.2.2.2.1
theorem dX10_canBe_131 : decode cX10_canBe 131 = .ok (.getfield 19, 3) := dkAb167.2.2.2.2.2.2.2.2.2.1
theorem dX10_canBe_134 : decode cX10_canBe 134 = .ok (.bipush 21, 2) := dkAb167.2.2.2.2.2.2.2.2.2.2.1
theorem dX10_canBe_136 : decode cX10_canBe 136 = .ok (.iload 4, 2) := dkAb167.2.2.2.2.2.2.2.2.2.2.2
set_option maxRecDepth 100000 in
theorem dkAb168 : decode cX10_canBe 138 = .ok (.iadd, 1) ∧ decode cX10_canBe 139 = .ok (.bipush 9, 2) ∧ decode cX10_canBe 141 = .ok (.iastore, 1) ∧ decode cX10_canBe 142 = .ok (.iload 5, 2) ∧ decode cX10_canBe 144 = .ok (.iconst (-1), 1) ∧ decode cX10_canBe 145 = .ok (.if_icmp .eq 27, 3) ∧ decode cX10_canBe 148 = .ok (.aload_n 0, 1) ∧ decode cX10_canBe 149 = .ok (.getfield 19, 3) ∧ decode cX10_canBe 152 = .ok (.bipush 14, 2) ∧ decode cX10_canBe 154 = .ok (.iload 5, 2) ∧ decode cX10_canBe 156 = .ok (.iadd, 1) ∧ decode cX10_canBe 157 = .ok (.iload 10, 2) := by decide +kernel
theorem dX10_canBe_138 : decode cX10_canBe 138 = .ok (.iadd, 1) := dkAb168.1
theorem dX10_canBe_139 : decode cX10_canBe 139 = .ok (.bipush 9, 2) := dkAb168.2.1
theorem dX10_canBe_141 : decode cX10_canBe 141 = .ok (.iastore, 1) := dkAb168.2.2.1
theorem dX10_canBe_142 : decode cX10_canBe 142 = .ok (.iload 5, 2) := dkAb168.2.2.2.1
theorem dX10_canBe_144 : decode cX10_canBe 144 = .ok (.iconst (-1), 1) := dkAb168.2.2.2.2.1
theorem dX10_canBe_145 : decode cX10_canBe 145 = .ok (.if_icmp .eq 27, 3) := dkAb168.2.2.2.2.2.1
theorem dX10_canBe_148 : decode cX10_canBe 148 = .ok (.aload_n 0, 1) := dkAb168.2.2.2.2.2.2.1
theorem dX10_canBe_149 : decode cX10_canBe 149 = .ok (.getfield 19, 3) := dkAb168.2.2.2.2.2.2.2.1
theorem dX10_canBe_152 : decode cX10_canBe 152 = .ok (.bipush 14, 2) := dkAb168.2.2.2.2.2.2.2.2.1
theorem dX10_canBe_154 : decode cX10_canBe 154 = .ok (.iload 5, 2) := dkAb168.2.2.2.2.2.2.2.2.2.1
theorem dX10_canBe_156 : decode cX10_canBe 156 = .ok (.iadd, 1) := dkAb168.2.2.2.2.2.2.2.2.2.2.1
theorem dX10_canBe_157 : decode cX10_canBe 157 = .ok (.iload 10, 2) := dkAb168.2.2.2.2.2.2.2.2.2.2.2
set_option maxRecDepth 100000 in
theorem dkAb169 : decode cX10_canBe 159 = .ok (.iastore, 1) ∧ decode cX10_canBe 160 = .ok (.aload_n 0, 1) ∧ decode cX10_canBe 161 = .ok (.getfield 19, 3) ∧ decode cX10_canBe 164 = .ok (.bipush 21, 2) ∧ decode cX10_canBe 166 = .ok (.iload 5, 2) ∧ decode cX10_canBe 168 = .ok (.iadd, 1) ∧ decode cX10_canBe 169 = .ok (.bipush 9, 2) ∧ decode cX10_canBe 171 = .ok (.iastore, 1) ∧ decode cX10_canBe 172 = .ok (.aload_n 0, 1) ∧ decode cX10_canBe 173 = .ok (.iload_n 1, 1) ∧ decode cX10_canBe 174 = .ok (.invokevirtual 234, 3) ∧ decode cX10_canBe 177 = .ok (.aload_n 0, 1) := by decide +kernel
theorem dX10_canBe_159 : decode cX10_canBe 159 = .ok (.iastore, 1) := dkAb169.1
theorem dX10_canBe_160 : decode cX10_canBe 160 = .ok (.aload_n 0, 1) := dkAb169.2.1
theorem dX10_canBe_161 : decode cX10_canBe 161 = .ok (.getfield 19, 3) := dkAb169.2.2.1
theorem dX10_canBe_164 : decode cX10_canBe 164 = .ok (.bipush 21, 2) := dkAb169.2.2.2.1
theorem dX10_canBe_166 : decode cX10_canBe 166 = .ok (.iload 5, 2) := dkAb169.2.2.2.2.1
theorem dX10_canBe_168 : decode cX10_canBe 168 = .ok (.iadd, 1) := dkAb169.2.2.2.2.2.1
theorem dX10_canBe_169 : decode cX10_canBe 169 = .ok (.bipush 9, 2) := dkAb169.2.2.2.2.2.2.1
theorem dX10_canBe_171 : decode cX10_canBe 171 = .ok (.iastore, 1) := dkAb169.2.2.2.2.2.2.2.1
theorem dX10_canBe_172 : decode cX10_canBe 172 = .ok (.aload_n 0, 1) := dkAb169.2.2.2.2.2.2.2.2.1
theorem dX10_canBe_173 : decode cX10_canBe 173 = .ok (.iload_n 1, 1) := dkAb169.2.2.2.2.2.2.2.2.2.1
theorem dX10_canBe_174 : decode cX10_canBe 174 = .ok (.invokevirtual 234, 3) := dkAb169.2.2.2.2.2.2.2.2.2.2.1
theorem dX10_canBe_177 : decode cX10_canBe 177 = .ok (.aload_n 0, 1) := dkAb169.2.2.2.2.2.2.2.2.2.2.2
set_option maxRecDepth 100000 in
theorem dkAb170 : decode cX10_canBe 178 = .ok (.getfield 19, 3) ∧ decode cX10_canBe 181 = .ok (.iconst 0, 1) ∧ decode cX10_canBe 182 = .ok (.iload_n 2, 1) ∧ decode cX10_canBe 183 = .ok (.iadd, 1) ∧ decode cX10_canBe 184 = .ok (.iaload, 1) ∧ decode cX10_canBe 185 = .ok (.iload_n 3, 1) ∧ decode cX10_canBe 186 = .ok (.if_icmp .ne 5, 3) ∧ decode cX10_canBe 189 = .ok (.iconst 1, 1) ∧ decode cX10_canBe 190 = .ok (.ireturn, 1) ∧ decode cX10_canBe 191 = .ok (.iinc 8 1, 3) ∧ decode cX10_canBe 194 = .ok (.goto (-153), 3) ∧ decode cX10_canBe 197 = .ok (.iconst 0, 1) := by decide +kernel
theorem dX10_canBe_178 : decode cX10_canBe 178 = .ok (.getfield 19, 3) := dkAb170.1
theorem dX10_canBe_181 : decode cX10_canBe 181 = .ok (.iconst 0, 1) := dkAb170.2.1
theorem dX10_canBe_182 : decode cX10_canBe 182 = .ok (.iload_n 2, 1) := dkAb170.2.2.1
theorem dX10_canBe_183 : decode cX10_canBe 183 = .ok (.iadd, 1) := dkAb170.2.2.2.1
theorem dX10_canBe_184 : decode cX10_canBe 184 = .ok (.iaload, 1) := dkAb170.2.2.2.2.1
theorem dX10_canBe_185 : decode cX10_canBe 185 = .ok (.iload_n 3, 1) := dkAb170.2.2.2.2.2.1
theorem dX10_canBe_186 : decode cX10_canBe 186 = .ok (.if_icmp .ne 5, 3) := dkAb170.2.2.2.2.2.2.1
theorem dX10_canBe_189 : decode cX10_canBe 189 = .ok (.iconst 1, 1) := dkAb170.2.2.2.2.2.2.2.1
theorem dX10_canBe_190 : decode cX10_canBe 190 = .ok (.ireturn, 1) := dkAb170.2.2.2.2.2.2.2.2.1
theorem dX10_canBe_191 : decode cX10_canBe 191 = .ok (.iinc 8 1, 3) := dkAb170.2.2.2.2.2.2.2.2.2.1
theorem dX10_canBe_194 : decode cX10_canBe 194 = .ok (.goto (-153), 3) := dkAb170.2.2.2.2.2.2.2.2.2.2.1
theorem dX10_canBe_197 : decode cX10_canBe 197 = .ok (.iconst 0, 1) := dkAb170.2.2.2.2.2.2.2.2.2.2.2
theorem dX10_canBe_198 : decode cX10_canBe 198 = .ok (.ireturn, 1) := by decide +kernel
set_option maxRecDepth 100000 in
theorem dkAb171 : decode cX10_wills 0 = .ok (.aload_n 0, 1) ∧ decode cX10_wills 1 = .ok (.iload_n 2, 1) ∧ decode cX10_wills 2 = .ok (.invokevirtual 179, 3) ∧ decode cX10_wills 5 = .ok (.ifCond .eq 10, 3) ∧ decode cX10_wills 8 = .ok (.iload_n 3, 1) ∧ decode cX10_wills 9 = .ok (.invokestatic 205, 3) ∧ decode cX10_wills 12 = .ok (.ifCond .ne 6, 3) ∧ decode cX10_wills 15 = .ok (.ldc 182, 2) ∧ decode cX10_wills 17 = .ok (.ireturn, 1) ∧ decode cX10_wills 18 = .ok (.aload_n 0, 1) ∧ decode cX10_wills 19 = .ok (.iload_n 1, 1) ∧ decode cX10_wills 20 = .ok (.invokevirtual 228, 3) := by decide +kernel
theorem dX10_wills_0 : decode cX10_wills 0 = .ok (.aload_n 0, 1) := dkAb171.1
theorem dX10_wills_1 : decode cX10_wills 1 = .ok (.iload_n 2, 1) := dkAb171.2.1
theorem dX10_wills_2 : decode cX10_wills 2 = .ok (.invokevirtual 179, 3) := dkAb171.2.2.1
theorem dX10_wills_5 : decode cX10_wills 5 = .ok (.ifCond .eq 10, 3) := dkAb171.2.2.2.1
theorem dX10_wills_8 : decode cX10_wills 8 = .ok (.iload_n 3, 1) := dkAb171.2.2.2.2.1
theorem dX10_wills_9 : decode cX10_wills 9 = .ok (.invokestatic 205, 3) := dkAb171.2.2.2.2.2.1
theorem dX10_wills_12 : decode cX10_wills 12 = .ok (.ifCond .ne 6, 3) := dkAb171.2.2.2.2.2.2.1
theorem dX10_wills_15 : decode cX10_wills 15 = .ok (.ldc 182, 2) := dkAb171.2.2.2.2.2.2.2.1
theorem dX10_wills_17 : decode cX10_wills 17 = .ok (.ireturn, 1) := dkAb171.2.2.2.2.2.2.2.2.1
theorem dX10_wills_18 : decode cX10_wills 18 = .ok (.aload_n 0, 1) := dkAb171.2.2.2.2.2.2.2.2.2.1
theorem dX10_wills_19 : decode cX10_wills 19 = .ok (.iload_n 1, 1) := dkAb171.2.2.2.2.2.2.2.2.2.2.1
theorem dX10_wills_20 : decode cX10_wills 20 = .ok (.invokevirtual 228, 3) := dkAb171.2.2.2.2.2.2.2.2.2.2.2
set_option maxRecDepth 100000 in
theorem dkAb172 : decode cX10_wills 23 = .ok (.ifCond .eq 14, 3) ∧ decode cX10_wills 26 = .ok (.iload 4, 2) ∧ decode cX10_wills 28 = .ok (.i2l, 1) ∧ decode cX10_wills 29 = .ok (.lconst 0, 1) ∧ decode cX10_wills 30 = .ok (.lconst 1, 1) ∧ decode cX10_wills 31 = .ok (.invokestatic 62, 3) ∧ decode cX10_wills 34 = .ok (.ifCond .ne 6, 3) ∧ decode cX10_wills 37 = .ok (.ldc 84, 2) ∧ decode cX10_wills 39 = .ok (.ireturn, 1) ∧ decode cX10_wills 40 = .ok (.iconst (-1), 1) ∧ decode cX10_wills 41 = .ok (.istore 5, 2) ∧ decode cX10_wills 43 = .ok (.iconst 0, 1) := by decide +kernel
theorem dX10_wills_23 : decode cX10_wills 23 = .ok (.ifCond .eq 14, 3) := dkAb172.1
theorem dX10_wills_26 : decode cX10_wills 26 = .ok (.iload 4, 2) := dkAb172.2.1
theorem dX10_wills_28 : decode cX10_wills 28 = .ok (.i2l, 1) := dkAb172.2.2.1
theorem dX10_wills_29 : decode cX10_wills 29 = .ok (.lconst 0, 1) := dkAb172.2.2.2.1
theorem dX10_wills_30 : decode cX10_wills 30 = .ok (.lconst 1, 1) := dkAb172.2.2.2.2.1
theorem dX10_wills_31 : decode cX10_wills 31 = .ok (.invokestatic 62, 3) := dkAb172.2.2.2.2.2.1
theorem dX10_wills_34 : decode cX10_wills 34 = .ok (.ifCond .ne 6, 3) := dkAb172.2.2.2.2.2.2.1
theorem dX10_wills_37 : decode cX10_wills 37 = .ok (.ldc 84, 2) := dkAb172.2.2.2.2.2.2.2.1
theorem dX10_wills_39 : decode cX10_wills 39 = .ok (.ireturn, 1) := dkAb172.2.2.2.2.2.2.2.2.1
theorem dX10_wills_40 : decode cX10_wills 40 = .ok (.iconst (-1), 1) := dkAb172.2.2.2.2.2.2.2.2.2.1
theorem dX10_wills_41 : decode cX10_wills 41 = .ok (.istore 5, 2) := dkAb172.2.2.2.2.2.2.2.2.2.2.1
theorem dX10_wills_43 : decode cX10_wills 43 = .ok (.iconst 0, 1) := dkAb172.2.2.2.2.2.2.2.2.2.2.2
set_option maxRecDepth 100000 in
theorem dkAb173 : decode cX10_wills 44 = .ok (.istore 6, 2) ∧ decode cX10_wills 46 = .ok (.iload 6, 2) ∧ decode cX10_wills 48 = .ok (.iconst 1, 1) ∧ decode cX10_wills 49 = .ok (.aload_n 0, 1) ∧ decode cX10_wills 50 = .ok (.getfield 7, 3) ∧ decode cX10_wills 53 = .ok (.iconst 0, 1) ∧ decode cX10_wills 54 = .ok (.iaload, 1) ∧ decode cX10_wills 55 = .ok (.ishl, 1) ∧ decode cX10_wills 56 = .ok (.if_icmp .ge 115, 3) ∧ decode cX10_wills 59 = .ok (.iload 6, 2) ∧ decode cX10_wills 61 = .ok (.invokestatic 241, 3) ∧ decode cX10_wills 64 = .ok (.iconst 3, 1) := by decide +kernel
theorem dX10_wills_44 : decode cX10_wills 44 = .ok (.istore 6, 2) := dkAb173.1
theorem dX10_wills_46 : decode cX10_wills 46 = .ok (.iload 6, 2) := dkAb173.2.1
theorem dX10_wills_48 : decode cX10_wills 48 = .ok (.iconst 1, 1) := dkAb173.2.2.1
theorem dX10_wills_49 : decode cX10_wills 49 = .ok (.aload_n 0, 1) := dkAb173.2.2.2.1
theorem dX10_wills_50 : decode cX10_wills 50 = .ok (.getfield 7, 3) := dkAb173.2.2.2.2.1
theorem dX10_wills_53 : decode cX10_wills 53 = .ok (.iconst 0, 1) := dkAb173.2.2.2.2.2.1
theorem dX10_wills_54 : decode cX10_wills 54 = .ok (.iaload, 1) := dkAb173.2.2.2.2.2.2.1
theorem dX10_wills_55 : decode cX10_wills 55 = .ok (.ishl, 1) := dkAb173.2.2.2.2.2.2.2.1
theorem dX10_wills_56 : decode cX10_wills 56 = .ok (.if_icmp .ge 115, 3) := dkAb173.2.2.2.2.2.2.2.2.1
theorem dX10_wills_59 : decode cX10_wills 59 = .ok (.iload 6, 2) := dkAb173.2.2.2.2.2.2.2.2.2.1
theorem dX10_wills_61 : decode cX10_wills 61 = .ok (.invokestatic 241, 3) := dkAb173.2.2.2.2.2.2.2.2.2.2.1
theorem dX10_wills_64 : decode cX10_wills 64 = .ok (.iconst 3, 1) := dkAb173.2.2.2.2.2.2.2.2.2.2.2
set_option maxRecDepth 100000 in
theorem dkAb174 : decode cX10_wills 65 = .ok (.if_icmp .ge 26, 3) ∧ decode cX10_wills 68 = .ok (.iload 5, 2) ∧ decode cX10_wills 70 = .ok (.iconst (-1), 1) ∧ decode cX10_wills 71 = .ok (.if_icmp .eq 16, 3) ∧ decode cX10_wills 74 = .ok (.iload 6, 2) ∧ decode cX10_wills 76 = .ok (.invokestatic 241, 3) ∧ decode cX10_wills 79 = .ok (.iload 5, 2) ∧ decode cX10_wills 81 = .ok (.invokestatic 241, 3) ∧ decode cX10_wills 84 = .ok (.if_icmp .ge 7, 3) ∧ decode cX10_wills 87 = .ok (.iconst 1, 1) ∧ decode cX10_wills 88 = .ok (.goto 4, 3) ∧ decode cX10_wills 91 = .ok (.iconst 0, 1) := by decide +kernel
theorem dX10_wills_65 : decode cX10_wills 65 = .ok (.if_icmp .ge 26, 3) := dkAb174.1
theorem dX10_wills_68 : decode cX10_wills 68 = .ok (.iload 5, 2) := dkAb174.2.1
theorem dX10_wills_70 : decode cX10_wills 70 = .ok (.iconst (-1), 1) := dkAb174.2.2.1
theorem dX10_wills_71 : decode cX10_wills 71 = .ok (.if_icmp .eq 16, 3) := dkAb174.2.2.2.1
theorem dX10_wills_74 : decode cX10_wills 74 = .ok (.iload 6, 2) := dkAb174.2.2.2.2.1
theorem dX10_wills_76 : decode cX10_wills 76 = .ok (.invokestatic 241, 3) := dkAb174.2.2.2.2.2.1
theorem dX10_wills_79 : decode cX10_wills 79 = .ok (.iload 5, 2) := dkAb174.2.2.2.2.2.2.1
theorem dX10_wills_81 : decode cX10_wills 81 = .ok (.invokestatic 241, 3) := dkAb174.2.2.2.2.2.2.2.1
theorem dX10_wills_84 : decode cX10_wills 84 = .ok (.if_icmp .ge 7, 3) := dkAb174.2.2.2.2.2.2.2.2.1
theorem dX10_wills_87 : decode cX10_wills 87 = .ok (.iconst 1, 1) := dkAb174.2.2.2.2.2.2.2.2.2.1
theorem dX10_wills_88 : decode cX10_wills 88 = .ok (.goto 4, 3) := dkAb174.2.2.2.2.2.2.2.2.2.2.1
theorem dX10_wills_91 : decode cX10_wills 91 = .ok (.iconst 0, 1) := dkAb174.2.2.2.2.2.2.2.2.2.2.2
set_option maxRecDepth 100000 in
theorem dkAb175 : decode cX10_wills 92 = .ok (.istore 7, 2) ∧ decode cX10_wills 94 = .ok (.iload 7, 2) ∧ decode cX10_wills 96 = .ok (.ifCond .eq 69, 3) ∧ decode cX10_wills 99 = .ok (.iload 6, 2) ∧ decode cX10_wills 101 = .ok (.ifCond .ne 7, 3) ∧ decode cX10_wills 104 = .ok (.iconst (-1), 1) ∧ decode cX10_wills 105 = .ok (.goto 8, 3) ∧ decode cX10_wills 108 = .ok (.iload 6, 2) ∧ decode cX10_wills 110 = .ok (.invokestatic 195, 3) ∧ decode cX10_wills 113 = .ok (.istore 8, 2) ∧ decode cX10_wills 115 = .ok (.iload 6, 2) ∧ decode cX10_wills 117 = .ok (.invokestatic 241, 3) := by decide +kernel
theorem dX10_wills_92 : decode cX10_wills 92 = .ok (.istore 7, 2) := dkAb175.1
theorem dX10_wills_94 : decode cX10_wills 94 = .ok (.iload 7, 2) := dkAb175.2.1
theorem dX10_wills_96 : decode cX10_wills 96 = .ok (.ifCond .eq 69, 3) := dkAb175.2.2.1
theorem dX10_wills_99 : decode cX10_wills 99 = .ok (.iload 6, 2) := dkAb175.2.2.2.1
theorem dX10_wills_101 : decode cX10_wills 101 = .ok (.ifCond .ne 7, 3) := dkAb175.2.2.2.2.1
theorem dX10_wills_104 : decode cX10_wills 104 = .ok (.iconst (-1), 1) := dkAb175.2.2.2.2.2.1
theorem dX10_wills_105 : decode cX10_wills 105 = .ok (.goto 8, 3) := dkAb175.2.2.2.2.2.2.1
theorem dX10_wills_108 : decode cX10_wills 108 = .ok (.iload 6, 2) := dkAb175.2.2.2.2.2.2.2.1
theorem dX10_wills_110 : decode cX10_wills 110 = .ok (.invokestatic 195, 3) := dkAb175.2.2.2.2.2.2.2.2.1
theorem dX10_wills_113 : decode cX10_wills 113 = .ok (.istore 8, 2) := dkAb175.2.2.2.2.2.2.2.2.2.1
theorem dX10_wills_115 : decode cX10_wills 115 = .ok (.iload 6, 2) := dkAb175.2.2.2.2.2.2.2.2.2.2.1
theorem dX10_wills_117 : decode cX10_wills 117 = .ok (.invokestatic 241, 3) := dkAb175.2.2.2.2.2.2.2.2.2.2.2
set_option maxRecDepth 100000 in
theorem dkAb176 : decode cX10_wills 120 = .ok (.iconst 2, 1) ∧ decode cX10_wills 121 = .ok (.if_icmp .ge 7, 3) ∧ decode cX10_wills 124 = .ok (.iconst (-1), 1) ∧ decode cX10_wills 125 = .ok (.goto 15, 3) ∧ decode cX10_wills 128 = .ok (.iload 6, 2) ∧ decode cX10_wills 130 = .ok (.iconst 1, 1) ∧ decode cX10_wills 131 = .ok (.iload 8, 2) ∧ decode cX10_wills 133 = .ok (.ishl, 1) ∧ decode cX10_wills 134 = .ok (.iconst (-1), 1) ∧ decode cX10_wills 135 = .ok (.ixor, 1) ∧ decode cX10_wills 136 = .ok (.iand, 1) ∧ decode cX10_wills 137 = .ok (.invokestatic 195, 3) := by decide +kernel
theorem dX10_wills_120 : decode cX10_wills 120 = .ok (.iconst 2, 1) := dkAb176.1
theorem dX10_wills_121 : decode cX10_wills 121 = .ok (.if_icmp .ge 7, 3) := dkAb176.2.1
theorem dX10_wills_124 : decode cX10_wills 124 = .ok (.iconst (-1), 1) := dkAb176.2.2.1
theorem dX10_wills_125 : decode cX10_wills 125 = .ok (.goto 15, 3) := dkAb176.2.2.2.1
theorem dX10_wills_128 : decode cX10_wills 128 = .ok (.iload 6, 2) := dkAb176.2.2.2.2.1
theorem dX10_wills_130 : decode cX10_wills 130 = .ok (.iconst 1, 1) := dkAb176.2.2.2.2.2.1
theorem dX10_wills_131 : decode cX10_wills 131 = .ok (.iload 8, 2) := dkAb176.2.2.2.2.2.2.1
theorem dX10_wills_133 : decode cX10_wills 133 = .ok (.ishl, 1) := dkAb176.2.2.2.2.2.2.2.1
theorem dX10_wills_134 : decode cX10_wills 134 = .ok (.iconst (-1), 1) := dkAb176.2.2.2.2.2.2.2.2.1
theorem dX10_wills_135 : decode cX10_wills 135 = .ok (.ixor, 1) := dkAb176.2.2.2.2.2.2.2.2.2.1
theorem dX10_wills_136 : decode cX10_wills 136 = .ok (.iand, 1) := dkAb176.2.2.2.2.2.2.2.2.2.2.1
theorem dX10_wills_137 : decode cX10_wills 137 = .ok (.invokestatic 195, 3) := dkAb176.2.2.2.2.2.2.2.2.2.2.2
set_option maxRecDepth 100000 in
theorem dkAb177 : decode cX10_wills 140 = .ok (.istore 9, 2) ∧ decode cX10_wills 142 = .ok (.aload_n 0, 1) ∧ decode cX10_wills 143 = .ok (.iload_n 1, 1) ∧ decode cX10_wills 144 = .ok (.iload_n 2, 1) ∧ decode cX10_wills 145 = .ok (.iload_n 3, 1) ∧ decode cX10_wills 146 = .ok (.iload 8, 2) ∧ decode cX10_wills 148 = .ok (.iload 9, 2) ∧ decode cX10_wills 150 = .ok (.invokevirtual 244, 3) ∧ decode cX10_wills 153 = .ok (.ifCond .eq 8, 3) ∧ decode cX10_wills 156 = .ok (.iload 6, 2) ∧ decode cX10_wills 158 = .ok (.goto 5, 3) ∧ decode cX10_wills 161 = .ok (.iload 5, 2) := by decide +kernel
theorem dX10_wills_140 : decode cX10_wills 140 = .ok (.istore 9, 2) := dkAb177.1
theorem dX10_wills_142 : decode cX10_wills 142 = .ok (.aload_n 0, 1) := dkAb177.2.1
theorem dX10_wills_143 : decode cX10_wills 143 = .ok (.iload_n 1, 1) := dkAb177.2.2.1
theorem dX10_wills_144 : decode cX10_wills 144 = .ok (.iload_n 2, 1) := dkAb177.2.2.2.1
theorem dX10_wills_145 : decode cX10_wills 145 = .ok (.iload_n 3, 1) := dkAb177.2.2.2.2.1
theorem dX10_wills_146 : decode cX10_wills 146 = .ok (.iload 8, 2) := dkAb177.2.2.2.2.2.1
theorem dX10_wills_148 : decode cX10_wills 148 = .ok (.iload 9, 2) := dkAb177.2.2.2.2.2.2.1
theorem dX10_wills_150 : decode cX10_wills 150 = .ok (.invokevirtual 244, 3) := dkAb177.2.2.2.2.2.2.2.1
theorem dX10_wills_153 : decode cX10_wills 153 = .ok (.ifCond .eq 8, 3) := dkAb177.2.2.2.2.2.2.2.2.1
theorem dX10_wills_156 : decode cX10_wills 156 = .ok (.iload 6, 2) := dkAb177.2.2.2.2.2.2.2.2.2.1
theorem dX10_wills_158 : decode cX10_wills 158 = .ok (.goto 5, 3) := dkAb177.2.2.2.2.2.2.2.2.2.2.1
theorem dX10_wills_161 : decode cX10_wills 161 = .ok (.iload 5, 2) := dkAb177.2.2.2.2.2.2.2.2.2.2.2
set_option maxRecDepth 100000 in
theorem dkAb178 : decode cX10_wills 163 = .ok (.istore 5, 2) ∧ decode cX10_wills 165 = .ok (.iinc 6 1, 3) ∧ decode cX10_wills 168 = .ok (.goto (-122), 3) ∧ decode cX10_wills 171 = .ok (.iload 5, 2) ∧ decode cX10_wills 173 = .ok (.iconst (-1), 1) ∧ decode cX10_wills 174 = .ok (.if_icmp .eq 9, 3) ∧ decode cX10_wills 177 = .ok (.iload 4, 2) ∧ decode cX10_wills 179 = .ok (.iconst 1, 1) ∧ decode cX10_wills 180 = .ok (.if_icmp .ne 8, 3) ∧ decode cX10_wills 183 = .ok (.iload 5, 2) ∧ decode cX10_wills 185 = .ok (.goto 8, 3) ∧ decode cX10_wills 188 = .ok (.iload 5, 2) := by decide +kernel
theorem dX10_wills_163 : decode cX10_wills 163 = .ok (.istore 5, 2) := dkAb178.1
theorem dX10_wills_165 : decode cX10_wills 165 = .ok (.iinc 6 1, 3) := dkAb178.2.1
theorem dX10_wills_168 : decode cX10_wills 168 = .ok (.goto (-122), 3) := dkAb178.2.2.1
theorem dX10_wills_171 : decode cX10_wills 171 = .ok (.iload 5, 2) := dkAb178.2.2.2.1
theorem dX10_wills_173 : decode cX10_wills 173 = .ok (.iconst (-1), 1) := dkAb178.2.2.2.2.1
theorem dX10_wills_174 : decode cX10_wills 174 = .ok (.if_icmp .eq 9, 3) := dkAb178.2.2.2.2.2.1
theorem dX10_wills_177 : decode cX10_wills 177 = .ok (.iload 4, 2) := dkAb178.2.2.2.2.2.2.1
theorem dX10_wills_179 : decode cX10_wills 179 = .ok (.iconst 1, 1) := dkAb178.2.2.2.2.2.2.2.1
theorem dX10_wills_180 : decode cX10_wills 180 = .ok (.if_icmp .ne 8, 3) := dkAb178.2.2.2.2.2.2.2.2.1
theorem dX10_wills_183 : decode cX10_wills 183 = .ok (.iload 5, 2) := dkAb178.2.2.2.2.2.2.2.2.2.1
theorem dX10_wills_185 : decode cX10_wills 185 = .ok (.goto 8, 3) := dkAb178.2.2.2.2.2.2.2.2.2.2.1
theorem dX10_wills_188 : decode cX10_wills 188 = .ok (.iload 5, 2) := dkAb178.2.2.2.2.2.2.2.2.2.2.2
theorem dX10_wills_190 : decode cX10_wills 190 = .ok (.invokestatic 241, 3) := by decide +kernel
theorem dX10_wills_193 : decode cX10_wills 193 = .ok (.ireturn, 1) := by decide +kernel
set_option maxRecDepth 100000 in
theorem dkAb179 : decode cX10_maySing 0 = .ok (.aload_n 0, 1) ∧ decode cX10_maySing 1 = .ok (.getfield 16, 3) ∧ decode cX10_maySing 4 = .ok (.iconst 0, 1) ∧ decode cX10_maySing 5 = .ok (.iload_n 1, 1) ∧ decode cX10_maySing 6 = .ok (.iadd, 1) ∧ decode cX10_maySing 7 = .ok (.iaload, 1) ∧ decode cX10_maySing 8 = .ok (.istore_n 3, 1) ∧ decode cX10_maySing 9 = .ok (.aload_n 0, 1) ∧ decode cX10_maySing 10 = .ok (.iload_n 1, 1) ∧ decode cX10_maySing 11 = .ok (.invokevirtual 167, 3) ∧ decode cX10_maySing 14 = .ok (.ifCond .eq 38, 3) ∧ decode cX10_maySing 17 = .ok (.iload_n 3, 1) := by decide +kernel
theorem dX10_maySing_0 : decode cX10_maySing 0 = .ok (.aload_n 0, 1) := dkAb179.1
theorem dX10_maySing_1 : decode cX10_maySing 1 = .ok (.getfield 16, 3) := dkAb179.2.1
theorem dX10_maySing_4 : decode cX10_maySing 4 = .ok (.iconst 0, 1) := dkAb179.2.2.1
theorem dX10_maySing_5 : decode cX10_maySing 5 = .ok (.iload_n 1, 1) := dkAb179.2.2.2.1
theorem dX10_maySing_6 : decode cX10_maySing 6 = .ok (.iadd, 1) := dkAb179.2.2.2.2.1
theorem dX10_maySing_7 : decode cX10_maySing 7 = .ok (.iaload, 1) := dkAb179.2.2.2.2.2.1
theorem dX10_maySing_8 : decode cX10_maySing 8 = .ok (.istore_n 3, 1) := dkAb179.2.2.2.2.2.2.1
theorem dX10_maySing_9 : decode cX10_maySing 9 = .ok (.aload_n 0, 1) := dkAb179.2.2.2.2.2.2.2.1
theorem dX10_maySing_10 : decode cX10_maySing 10 = .ok (.iload_n 1, 1) := dkAb179.2.2.2.2.2.2.2.2.1
theorem dX10_maySing_11 : decode cX10_maySing 11 = .ok (.invokevirtual 167, 3) := dkAb179.2.2.2.2.2.2.2.2.2.1
theorem dX10_maySing_14 : decode cX10_maySing 14 = .ok (.ifCond .eq 38, 3) := dkAb179.2.2.2.2.2.2.2.2.2.2.1
theorem dX10_maySing_17 : decode cX10_maySing 17 = .ok (.iload_n 3, 1) := dkAb179.2.2.2.2.2.2.2.2.2.2.2
set_option maxRecDepth 100000 in
theorem dkAb180 : decode cX10_maySing 18 = .ok (.bipush 9, 2) ∧ decode cX10_maySing 20 = .ok (.if_icmp .eq 32, 3) ∧ decode cX10_maySing 23 = .ok (.aload_n 0, 1) ∧ decode cX10_maySing 24 = .ok (.getfield 7, 3) ∧ decode cX10_maySing 27 = .ok (.iconst 3, 1) ∧ decode cX10_maySing 28 = .ok (.iload_n 3, 1) ∧ decode cX10_maySing 29 = .ok (.iadd, 1) ∧ decode cX10_maySing 30 = .ok (.iaload, 1) ∧ decode cX10_maySing 31 = .ok (.aload_n 0, 1) ∧ decode cX10_maySing 32 = .ok (.getfield 7, 3) ∧ decode cX10_maySing 35 = .ok (.bipush 31, 2) ∧ decode cX10_maySing 37 = .ok (.iload_n 2, 1) := by decide +kernel
theorem dX10_maySing_18 : decode cX10_maySing 18 = .ok (.bipush 9, 2) := dkAb180.1
theorem dX10_maySing_20 : decode cX10_maySing 20 = .ok (.if_icmp .eq 32, 3) := dkAb180.2.1
theorem dX10_maySing_23 : decode cX10_maySing 23 = .ok (.aload_n 0, 1) := dkAb180.2.2.1
theorem dX10_maySing_24 : decode cX10_maySing 24 = .ok (.getfield 7, 3) := dkAb180.2.2.2.1
theorem dX10_maySing_27 : decode cX10_maySing 27 = .ok (.iconst 3, 1) := dkAb180.2.2.2.2.1
theorem dX10_maySing_28 : decode cX10_maySing 28 = .ok (.iload_n 3, 1) := dkAb180.2.2.2.2.2.1
theorem dX10_maySing_29 : decode cX10_maySing 29 = .ok (.iadd, 1) := dkAb180.2.2.2.2.2.2.1
theorem dX10_maySing_30 : decode cX10_maySing 30 = .ok (.iaload, 1) := dkAb180.2.2.2.2.2.2.2.1
theorem dX10_maySing_31 : decode cX10_maySing 31 = .ok (.aload_n 0, 1) := dkAb180.2.2.2.2.2.2.2.2.1
theorem dX10_maySing_32 : decode cX10_maySing 32 = .ok (.getfield 7, 3) := dkAb180.2.2.2.2.2.2.2.2.2.1
theorem dX10_maySing_35 : decode cX10_maySing 35 = .ok (.bipush 31, 2) := dkAb180.2.2.2.2.2.2.2.2.2.2.1
theorem dX10_maySing_37 : decode cX10_maySing 37 = .ok (.iload_n 2, 1) := dkAb180.2.2.2.2.2.2.2.2.2.2.2
set_option maxRecDepth 100000 in
theorem dkAb181 : decode cX10_maySing 38 = .ok (.iadd, 1) ∧ decode cX10_maySing 39 = .ok (.iaload, 1) ∧ decode cX10_maySing 40 = .ok (.isub, 1) ∧ decode cX10_maySing 41 = .ok (.invokestatic 248, 3) ∧ decode cX10_maySing 44 = .ok (.iconst 2, 1) ∧ decode cX10_maySing 45 = .ok (.if_icmp .ge 7, 3) ∧ decode cX10_maySing 48 = .ok (.iconst 1, 1) ∧ decode cX10_maySing 49 = .ok (.goto 4, 3) ∧ decode cX10_maySing 52 = .ok (.iconst 0, 1) ∧ decode cX10_maySing 53 = .ok (.ireturn, 1) := by decide +kernel
theorem dX10_maySing_38 : decode cX10_maySing 38 = .ok (.iadd, 1) := dkAb181.1
theorem dX10_maySing_39 : decode cX10_maySing 39 = .ok (.iaload, 1) := dkAb181.2.1
theorem dX10_maySing_40 : decode cX10_maySing 40 = .ok (.isub, 1) := dkAb181.2.2.1
theorem dX10_maySing_41 : decode cX10_maySing 41 = .ok (.invokestatic 248, 3) := dkAb181.2.2.2.1
theorem dX10_maySing_44 : decode cX10_maySing 44 = .ok (.iconst 2, 1) := dkAb181.2.2.2.2.1
theorem dX10_maySing_45 : decode cX10_maySing 45 = .ok (.if_icmp .ge 7, 3) := dkAb181.2.2.2.2.2.1
theorem dX10_maySing_48 : decode cX10_maySing 48 = .ok (.iconst 1, 1) := dkAb181.2.2.2.2.2.2.1
theorem dX10_maySing_49 : decode cX10_maySing 49 = .ok (.goto 4, 3) := dkAb181.2.2.2.2.2.2.2.1
theorem dX10_maySing_52 : decode cX10_maySing 52 = .ok (.iconst 0, 1) := dkAb181.2.2.2.2.2.2.2.2.1
theorem dX10_maySing_53 : decode cX10_maySing 53 = .ok (.ireturn, 1) := dkAb181.2.2.2.2.2.2.2.2.2
set_option maxRecDepth 100000 in
theorem dkAb182 : decode cX10_sungBy 0 = .ok (.iload_n 3, 1) ∧ decode cX10_sungBy 1 = .ok (.aload_n 0, 1) ∧ decode cX10_sungBy 2 = .ok (.getfield 7, 3) ∧ decode cX10_sungBy 5 = .ok (.iconst 0, 1) ∧ decode cX10_sungBy 6 = .ok (.iaload, 1) ∧ decode cX10_sungBy 7 = .ok (.if_icmp .ne 18, 3) ∧ decode cX10_sungBy 10 = .ok (.aload_n 0, 1) ∧ decode cX10_sungBy 11 = .ok (.getfield 48, 3) ∧ decode cX10_sungBy 14 = .ok (.sipush 128, 3) ∧ decode cX10_sungBy 17 = .ok (.iload_n 1, 1) ∧ decode cX10_sungBy 18 = .ok (.iconst 1, 1) ∧ decode cX10_sungBy 19 = .ok (.iadd, 1) := by decide +kernel
theorem dX10_sungBy_0 : decode cX10_sungBy 0 = .ok (.iload_n 3, 1) := dkAb182.1
theorem dX10_sungBy_1 : decode cX10_sungBy 1 = .ok (.aload_n 0, 1) := dkAb182.2.1
theorem dX10_sungBy_2 : decode cX10_sungBy 2 = .ok (.getfield 7, 3) := dkAb182.2.2.1
theorem dX10_sungBy_5 : decode cX10_sungBy 5 = .ok (.iconst 0, 1) := dkAb182.2.2.2.1
theorem dX10_sungBy_6 : decode cX10_sungBy 6 = .ok (.iaload, 1) := dkAb182.2.2.2.2.1
theorem dX10_sungBy_7 : decode cX10_sungBy 7 = .ok (.if_icmp .ne 18, 3) := dkAb182.2.2.2.2.2.1
theorem dX10_sungBy_10 : decode cX10_sungBy 10 = .ok (.aload_n 0, 1) := dkAb182.2.2.2.2.2.2.1
theorem dX10_sungBy_11 : decode cX10_sungBy 11 = .ok (.getfield 48, 3) := dkAb182.2.2.2.2.2.2.2.1
theorem dX10_sungBy_14 : decode cX10_sungBy 14 = .ok (.sipush 128, 3) := dkAb182.2.2.2.2.2.2.2.2.1
theorem dX10_sungBy_17 : decode cX10_sungBy 17 = .ok (.iload_n 1, 1) := dkAb182.2.2.2.2.2.2.2.2.2.1
theorem dX10_sungBy_18 : decode cX10_sungBy 18 = .ok (.iconst 1, 1) := dkAb182.2.2.2.2.2.2.2.2.2.2.1
theorem dX10_sungBy_19 : decode cX10_sungBy 19 = .ok (.iadd, 1) := dkAb182.2.2.2.2.2.2.2.2.2.2.2
set_option maxRecDepth 100000 in
theorem dkAb183 : decode cX10_sungBy 20 = .ok (.imul, 1) ∧ decode cX10_sungBy 21 = .ok (.iload_n 2, 1) ∧ decode cX10_sungBy 22 = .ok (.iadd, 1) ∧ decode cX10_sungBy 23 = .ok (.iaload, 1) ∧ decode cX10_sungBy 24 = .ok (.ireturn, 1) ∧ decode cX10_sungBy 25 = .ok (.iload_n 2, 1) ∧ decode cX10_sungBy 26 = .ok (.iload_n 3, 1) ∧ decode cX10_sungBy 27 = .ok (.invokestatic 134, 3) ∧ decode cX10_sungBy 30 = .ok (.ifCond .ne 12, 3) ∧ decode cX10_sungBy 33 = .ok (.aload_n 0, 1) ∧ decode cX10_sungBy 34 = .ok (.iload_n 3, 1) ∧ decode cX10_sungBy 35 = .ok (.iload_n 1, 1) := by decide +kernel
theorem dX10_sungBy_20 : decode cX10_sungBy 20 = .ok (.imul, 1) := dkAb183.1
theorem dX10_sungBy_21 : decode cX10_sungBy 21 = .ok (.iload_n 2, 1) := dkAb183.2.1
theorem dX10_sungBy_22 : decode cX10_sungBy 22 = .ok (.iadd, 1) := dkAb183.2.2.1
theorem dX10_sungBy_23 : decode cX10_sungBy 23 = .ok (.iaload, 1) := dkAb183.2.2.2.1
theorem dX10_sungBy_24 : decode cX10_sungBy 24 = .ok (.ireturn, 1) := dkAb183.2.2.2.2.1
theorem dX10_sungBy_25 : decode cX10_sungBy 25 = .ok (.iload_n 2, 1) := dkAb183.2.2.2.2.2.1
theorem dX10_sungBy_26 : decode cX10_sungBy 26 = .ok (.iload_n 3, 1) := dkAb183.2.2.2.2.2.2.1
theorem dX10_sungBy_27 : decode cX10_sungBy 27 = .ok (.invokestatic 134, 3) := dkAb183.2.2.2.2.2.2.2.1
theorem dX10_sungBy_30 : decode cX10_sungBy 30 = .ok (.ifCond .ne 12, 3) := dkAb183.2.2.2.2.2.2.2.2.1
theorem dX10_sungBy_33 : decode cX10_sungBy 33 = .ok (.aload_n 0, 1) := dkAb183.2.2.2.2.2.2.2.2.2.1
theorem dX10_sungBy_34 : decode cX10_sungBy 34 = .ok (.iload_n 3, 1) := dkAb183.2.2.2.2.2.2.2.2.2.2.1
theorem dX10_sungBy_35 : decode cX10_sungBy 35 = .ok (.iload_n 1, 1) := dkAb183.2.2.2.2.2.2.2.2.2.2.2
set_option maxRecDepth 100000 in
theorem dkAb184 : decode cX10_sungBy 36 = .ok (.invokevirtual 251, 3) ∧ decode cX10_sungBy 39 = .ok (.ifCond .ne 8, 3) ∧ decode cX10_sungBy 42 = .ok (.ldc 254, 2) ∧ decode cX10_sungBy 44 = .ok (.goto 23, 3) ∧ decode cX10_sungBy 47 = .ok (.iconst 1, 1) ∧ decode cX10_sungBy 48 = .ok (.aload_n 0, 1) ∧ decode cX10_sungBy 49 = .ok (.getfield 48, 3) ∧ decode cX10_sungBy 52 = .ok (.sipush 128, 3) ∧ decode cX10_sungBy 55 = .ok (.iload_n 1, 1) ∧ decode cX10_sungBy 56 = .ok (.iconst 1, 1) ∧ decode cX10_sungBy 57 = .ok (.iadd, 1) ∧ decode cX10_sungBy 58 = .ok (.imul, 1) := by decide +kernel
theorem dX10_sungBy_36 : decode cX10_sungBy 36 = .ok (.invokevirtual 251, 3) := dkAb184.1
theorem dX10_sungBy_39 : decode cX10_sungBy 39 = .ok (.ifCond .ne 8, 3) := dkAb184.2.1
theorem dX10_sungBy_42 : decode cX10_sungBy 42 = .ok (.ldc 254, 2) := dkAb184.2.2.1
theorem dX10_sungBy_44 : decode cX10_sungBy 44 = .ok (.goto 23, 3) := dkAb184.2.2.2.1
theorem dX10_sungBy_47 : decode cX10_sungBy 47 = .ok (.iconst 1, 1) := dkAb184.2.2.2.2.1
theorem dX10_sungBy_48 : decode cX10_sungBy 48 = .ok (.aload_n 0, 1) := dkAb184.2.2.2.2.2.1
theorem dX10_sungBy_49 : decode cX10_sungBy 49 = .ok (.getfield 48, 3) := dkAb184.2.2.2.2.2.2.1
theorem dX10_sungBy_52 : decode cX10_sungBy 52 = .ok (.sipush 128, 3) := dkAb184.2.2.2.2.2.2.2.1
theorem dX10_sungBy_55 : decode cX10_sungBy 55 = .ok (.iload_n 1, 1) := dkAb184.2.2.2.2.2.2.2.2.1
theorem dX10_sungBy_56 : decode cX10_sungBy 56 = .ok (.iconst 1, 1) := dkAb184.2.2.2.2.2.2.2.2.2.1
theorem dX10_sungBy_57 : decode cX10_sungBy 57 = .ok (.iadd, 1) := dkAb184.2.2.2.2.2.2.2.2.2.2.1
theorem dX10_sungBy_58 : decode cX10_sungBy 58 = .ok (.imul, 1) := dkAb184.2.2.2.2.2.2.2.2.2.2.2
set_option maxRecDepth 100000 in
theorem dkAb185 : decode cX10_sungBy 59 = .ok (.iload_n 2, 1) ∧ decode cX10_sungBy 60 = .ok (.iconst 1, 1) ∧ decode cX10_sungBy 61 = .ok (.iload_n 3, 1) ∧ decode cX10_sungBy 62 = .ok (.ishl, 1) ∧ decode cX10_sungBy 63 = .ok (.ior, 1) ∧ decode cX10_sungBy 64 = .ok (.iadd, 1) ∧ decode cX10_sungBy 65 = .ok (.iaload, 1) ∧ decode cX10_sungBy 66 = .ok (.iadd, 1) ∧ decode cX10_sungBy 67 = .ok (.ireturn, 1) := by decide +kernel
theorem dX10_sungBy_59 : decode cX10_sungBy 59 = .ok (.iload_n 2, 1) := dkAb185.1
theorem dX10_sungBy_60 : decode cX10_sungBy 60 = .ok (.iconst 1, 1) := dkAb185.2.1
theorem dX10_sungBy_61 : decode cX10_sungBy 61 = .ok (.iload_n 3, 1) := dkAb185.2.2.1
theorem dX10_sungBy_62 : decode cX10_sungBy 62 = .ok (.ishl, 1) := dkAb185.2.2.2.1
theorem dX10_sungBy_63 : decode cX10_sungBy 63 = .ok (.ior, 1) := dkAb185.2.2.2.2.1
theorem dX10_sungBy_64 : decode cX10_sungBy 64 = .ok (.iadd, 1) := dkAb185.2.2.2.2.2.1
theorem dX10_sungBy_65 : decode cX10_sungBy 65 = .ok (.iaload, 1) := dkAb185.2.2.2.2.2.2.1
theorem dX10_sungBy_66 : decode cX10_sungBy 66 = .ok (.iadd, 1) := dkAb185.2.2.2.2.2.2.2.1
theorem dX10_sungBy_67 : decode cX10_sungBy 67 = .ok (.ireturn, 1) := dkAb185.2.2.2.2.2.2.2.2
set_option maxRecDepth 100000 in
theorem dkAb186 : decode cX10_layTable 0 = .ok (.iconst 0, 1) ∧ decode cX10_layTable 1 = .ok (.istore_n 1, 1) ∧ decode cX10_layTable 2 = .ok (.iload_n 1, 1) ∧ decode cX10_layTable 3 = .ok (.sipush 128, 3) ∧ decode cX10_layTable 6 = .ok (.if_icmp .ge 27, 3) ∧ decode cX10_layTable 9 = .ok (.aload_n 0, 1) ∧ decode cX10_layTable 10 = .ok (.getfield 48, 3) ∧ decode cX10_layTable 13 = .ok (.sipush 128, 3) ∧ decode cX10_layTable 16 = .ok (.aload_n 0, 1) ∧ decode cX10_layTable 17 = .ok (.getfield 7, 3) ∧ decode cX10_layTable 20 = .ok (.iconst 2, 1) ∧ decode cX10_layTable 21 = .ok (.iaload, 1) := by decide +kernel
theorem dX10_layTable_0 : decode cX10_layTable 0 = .ok (.iconst 0, 1) := dkAb186.1
theorem dX10_layTable_1 : decode cX10_layTable 1 = .ok (.istore_n 1, 1) := dkAb186.2.1
theorem dX10_layTable_2 : decode cX10_layTable 2 = .ok (.iload_n 1, 1) := dkAb186.2.2.1
theorem dX10_layTable_3 : decode cX10_layTable 3 = .ok (.sipush 128, 3) := dkAb186.2.2.2.1
theorem dX10_layTable_6 : decode cX10_layTable 6 = .ok (.if_icmp .ge 27, 3) := dkAb186.2.2.2.2.1
theorem dX10_layTable_9 : decode cX10_layTable 9 = .ok (.aload_n 0, 1) := dkAb186.2.2.2.2.2.1
theorem dX10_layTable_10 : decode cX10_layTable 10 = .ok (.getfield 48, 3) := dkAb186.2.2.2.2.2.2.1
theorem dX10_layTable_13 : decode cX10_layTable 13 = .ok (.sipush 128, 3) := dkAb186.2.2.2.2.2.2.2.1
theorem dX10_layTable_16 : decode cX10_layTable 16 = .ok (.aload_n 0, 1) := dkAb186.2.2.2.2.2.2.2.2.1
theorem dX10_layTable_17 : decode cX10_layTable 17 = .ok (.getfield 7, 3) := dkAb186.2.2.2.2.2.2.2.2.2.1
theorem dX10_layTable_20 : decode cX10_layTable 20 = .ok (.iconst 2, 1) := dkAb186.2.2.2.2.2.2.2.2.2.2.1
theorem dX10_layTable_21 : decode cX10_layTable 21 = .ok (.iaload, 1) := dkAb186.2.2.2.2.2.2.2.2.2.2.2
set_option maxRecDepth 100000 in
theorem dkAb187 : decode cX10_layTable 22 = .ok (.imul, 1) ∧ decode cX10_layTable 23 = .ok (.iload_n 1, 1) ∧ decode cX10_layTable 24 = .ok (.iadd, 1) ∧ decode cX10_layTable 25 = .ok (.iconst 0, 1) ∧ decode cX10_layTable 26 = .ok (.iastore, 1) ∧ decode cX10_layTable 27 = .ok (.iinc 1 1, 3) ∧ decode cX10_layTable 30 = .ok (.goto (-28), 3) ∧ decode cX10_layTable 33 = .ok (.aload_n 0, 1) ∧ decode cX10_layTable 34 = .ok (.getfield 7, 3) ∧ decode cX10_layTable 37 = .ok (.iconst 2, 1) ∧ decode cX10_layTable 38 = .ok (.iaload, 1) ∧ decode cX10_layTable 39 = .ok (.iconst 1, 1) := by decide +kernel
theorem dX10_layTable_22 : decode cX10_layTable 22 = .ok (.imul, 1) := dkAb187.1
theorem dX10_layTable_23 : decode cX10_layTable 23 = .ok (.iload_n 1, 1) := dkAb187.2.1
theorem dX10_layTable_24 : decode cX10_layTable 24 = .ok (.iadd, 1) := dkAb187.2.2.1
theorem dX10_layTable_25 : decode cX10_layTable 25 = .ok (.iconst 0, 1) := dkAb187.2.2.2.1
theorem dX10_layTable_26 : decode cX10_layTable 26 = .ok (.iastore, 1) := dkAb187.2.2.2.2.1
theorem dX10_layTable_27 : decode cX10_layTable 27 = .ok (.iinc 1 1, 3) := dkAb187.2.2.2.2.2.1
theorem dX10_layTable_30 : decode cX10_layTable 30 = .ok (.goto (-28), 3) := dkAb187.2.2.2.2.2.2.1
theorem dX10_layTable_33 : decode cX10_layTable 33 = .ok (.aload_n 0, 1) := dkAb187.2.2.2.2.2.2.2.1
theorem dX10_layTable_34 : decode cX10_layTable 34 = .ok (.getfield 7, 3) := dkAb187.2.2.2.2.2.2.2.2.1
theorem dX10_layTable_37 : decode cX10_layTable 37 = .ok (.iconst 2, 1) := dkAb187.2.2.2.2.2.2.2.2.2.1
theorem dX10_layTable_38 : decode cX10_layTable 38 = .ok (.iaload, 1) := dkAb187.2.2.2.2.2.2.2.2.2.2.1
theorem dX10_layTable_39 : decode cX10_layTable 39 = .ok (.iconst 1, 1) := dkAb187.2.2.2.2.2.2.2.2.2.2.2
set_option maxRecDepth 100000 in
theorem dkAb188 : decode cX10_layTable 40 = .ok (.isub, 1) ∧ decode cX10_layTable 41 = .ok (.istore_n 1, 1) ∧ decode cX10_layTable 42 = .ok (.iload_n 1, 1) ∧ decode cX10_layTable 43 = .ok (.ifCond .lt 87, 3) ∧ decode cX10_layTable 46 = .ok (.iconst 0, 1) ∧ decode cX10_layTable 47 = .ok (.istore_n 2, 1) ∧ decode cX10_layTable 48 = .ok (.iload_n 2, 1) ∧ decode cX10_layTable 49 = .ok (.iconst 1, 1) ∧ decode cX10_layTable 50 = .ok (.aload_n 0, 1) ∧ decode cX10_layTable 51 = .ok (.getfield 7, 3) ∧ decode cX10_layTable 54 = .ok (.iconst 0, 1) ∧ decode cX10_layTable 55 = .ok (.iaload, 1) := by decide +kernel
theorem dX10_layTable_40 : decode cX10_layTable 40 = .ok (.isub, 1) := dkAb188.1
theorem dX10_layTable_41 : decode cX10_layTable 41 = .ok (.istore_n 1, 1) := dkAb188.2.1
theorem dX10_layTable_42 : decode cX10_layTable 42 = .ok (.iload_n 1, 1) := dkAb188.2.2.1
theorem dX10_layTable_43 : decode cX10_layTable 43 = .ok (.ifCond .lt 87, 3) := dkAb188.2.2.2.1
theorem dX10_layTable_46 : decode cX10_layTable 46 = .ok (.iconst 0, 1) := dkAb188.2.2.2.2.1
theorem dX10_layTable_47 : decode cX10_layTable 47 = .ok (.istore_n 2, 1) := dkAb188.2.2.2.2.2.1
theorem dX10_layTable_48 : decode cX10_layTable 48 = .ok (.iload_n 2, 1) := dkAb188.2.2.2.2.2.2.1
theorem dX10_layTable_49 : decode cX10_layTable 49 = .ok (.iconst 1, 1) := dkAb188.2.2.2.2.2.2.2.1
theorem dX10_layTable_50 : decode cX10_layTable 50 = .ok (.aload_n 0, 1) := dkAb188.2.2.2.2.2.2.2.2.1
theorem dX10_layTable_51 : decode cX10_layTable 51 = .ok (.getfield 7, 3) := dkAb188.2.2.2.2.2.2.2.2.2.1
theorem dX10_layTable_54 : decode cX10_layTable 54 = .ok (.iconst 0, 1) := dkAb188.2.2.2.2.2.2.2.2.2.2.1
theorem dX10_layTable_55 : decode cX10_layTable 55 = .ok (.iaload, 1) := dkAb188.2.2.2.2.2.2.2.2.2.2.2
set_option maxRecDepth 100000 in
theorem dkAb189 : decode cX10_layTable 56 = .ok (.ishl, 1) ∧ decode cX10_layTable 57 = .ok (.if_icmp .ge 67, 3) ∧ decode cX10_layTable 60 = .ok (.iconst 0, 1) ∧ decode cX10_layTable 61 = .ok (.istore_n 3, 1) ∧ decode cX10_layTable 62 = .ok (.iconst 0, 1) ∧ decode cX10_layTable 63 = .ok (.istore 4, 2) ∧ decode cX10_layTable 65 = .ok (.iload 4, 2) ∧ decode cX10_layTable 67 = .ok (.aload_n 0, 1) ∧ decode cX10_layTable 68 = .ok (.getfield 7, 3) ∧ decode cX10_layTable 71 = .ok (.iconst 0, 1) ∧ decode cX10_layTable 72 = .ok (.iaload, 1) ∧ decode cX10_layTable 73 = .ok (.if_icmp .gt 32, 3) := by decide +kernel
theorem dX10_layTable_56 : decode cX10_layTable 56 = .ok (.ishl, 1) := dkAb189.1
theorem dX10_layTable_57 : decode cX10_layTable 57 = .ok (.if_icmp .ge 67, 3) := dkAb189.2.1
theorem dX10_layTable_60 : decode cX10_layTable 60 = .ok (.iconst 0, 1) := dkAb189.2.2.1
theorem dX10_layTable_61 : decode cX10_layTable 61 = .ok (.istore_n 3, 1) := dkAb189.2.2.2.1
theorem dX10_layTable_62 : decode cX10_layTable 62 = .ok (.iconst 0, 1) := dkAb189.2.2.2.2.1
theorem dX10_layTable_63 : decode cX10_layTable 63 = .ok (.istore 4, 2) := dkAb189.2.2.2.2.2.1
theorem dX10_layTable_65 : decode cX10_layTable 65 = .ok (.iload 4, 2) := dkAb189.2.2.2.2.2.2.1
theorem dX10_layTable_67 : decode cX10_layTable 67 = .ok (.aload_n 0, 1) := dkAb189.2.2.2.2.2.2.2.1
theorem dX10_layTable_68 : decode cX10_layTable 68 = .ok (.getfield 7, 3) := dkAb189.2.2.2.2.2.2.2.2.1
theorem dX10_layTable_71 : decode cX10_layTable 71 = .ok (.iconst 0, 1) := dkAb189.2.2.2.2.2.2.2.2.2.1
theorem dX10_layTable_72 : decode cX10_layTable 72 = .ok (.iaload, 1) := dkAb189.2.2.2.2.2.2.2.2.2.2.1
theorem dX10_layTable_73 : decode cX10_layTable 73 = .ok (.if_icmp .gt 32, 3) := dkAb189.2.2.2.2.2.2.2.2.2.2.2
set_option maxRecDepth 100000 in
theorem dkAb190 : decode cX10_layTable 76 = .ok (.aload_n 0, 1) ∧ decode cX10_layTable 77 = .ok (.iload_n 1, 1) ∧ decode cX10_layTable 78 = .ok (.iload_n 2, 1) ∧ decode cX10_layTable 79 = .ok (.iload 4, 2) ∧ decode cX10_layTable 81 = .ok (.invokevirtual 255, 3) ∧ decode cX10_layTable 84 = .ok (.istore 5, 2) ∧ decode cX10_layTable 86 = .ok (.iload 5, 2) ∧ decode cX10_layTable 88 = .ok (.iload_n 3, 1) ∧ decode cX10_layTable 89 = .ok (.if_icmp .le 8, 3) ∧ decode cX10_layTable 92 = .ok (.iload 5, 2) ∧ decode cX10_layTable 94 = .ok (.goto 4, 3) ∧ decode cX10_layTable 97 = .ok (.iload_n 3, 1) := by decide +kernel
theorem dX10_layTable_76 : decode cX10_layTable 76 = .ok (.aload_n 0, 1) := dkAb190.1
theorem dX10_layTable_77 : decode cX10_layTable 77 = .ok (.iload_n 1, 1) := dkAb190.2.1
theorem dX10_layTable_78 : decode cX10_layTable 78 = .ok (.iload_n 2, 1) := dkAb190.2.2.1
theorem dX10_layTable_79 : decode cX10_layTable 79 = .ok (.iload 4, 2) := dkAb190.2.2.2.1
theorem dX10_layTable_81 : decode cX10_layTable 81 = .ok (.invokevirtual 255, 3) := dkAb190.2.2.2.2.1
theorem dX10_layTable_84 : decode cX10_layTable 84 = .ok (.istore 5, 2) := dkAb190.2.2.2.2.2.1
theorem dX10_layTable_86 : decode cX10_layTable 86 = .ok (.iload 5, 2) := dkAb190.2.2.2.2.2.2.1
theorem dX10_layTable_88 : decode cX10_layTable 88 = .ok (.iload_n 3, 1) := dkAb190.2.2.2.2.2.2.2.1
theorem dX10_layTable_89 : decode cX10_layTable 89 = .ok (.if_icmp .le 8, 3) := dkAb190.2.2.2.2.2.2.2.2.1
theorem dX10_layTable_92 : decode cX10_layTable 92 = .ok (.iload 5, 2) := dkAb190.2.2.2.2.2.2.2.2.2.1
theorem dX10_layTable_94 : decode cX10_layTable 94 = .ok (.goto 4, 3) := dkAb190.2.2.2.2.2.2.2.2.2.2.1
theorem dX10_layTable_97 : decode cX10_layTable 97 = .ok (.iload_n 3, 1) := dkAb190.2.2.2.2.2.2.2.2.2.2.2
set_option maxRecDepth 100000 in
theorem dkAb191 : decode cX10_layTable 98 = .ok (.istore_n 3, 1) ∧ decode cX10_layTable 99 = .ok (.iinc 4 1, 3) ∧ decode cX10_layTable 102 = .ok (.goto (-37), 3) ∧ decode cX10_layTable 105 = .ok (.aload_n 0, 1) ∧ decode cX10_layTable 106 = .ok (.getfield 48, 3) ∧ decode cX10_layTable 109 = .ok (.sipush 128, 3) ∧ decode cX10_layTable 112 = .ok (.iload_n 1, 1) ∧ decode cX10_layTable 113 = .ok (.imul, 1) ∧ decode cX10_layTable 114 = .ok (.iload_n 2, 1) ∧ decode cX10_layTable 115 = .ok (.iadd, 1) ∧ decode cX10_layTable 116 = .ok (.iload_n 3, 1) ∧ decode cX10_layTable 117 = .ok (.iastore, 1) := by decide +kernel
theorem dX10_layTable_98 : decode cX10_layTable 98 = .ok (.istore_n 3, 1) := dkAb191.1
theorem dX10_layTable_99 : decode cX10_layTable 99 = .ok (.iinc 4 1, 3) := dkAb191.2.1
theorem dX10_layTable_102 : decode cX10_layTable 102 = .ok (.goto (-37), 3) := dkAb191.2.2.1
theorem dX10_layTable_105 : decode cX10_layTable 105 = .ok (.aload_n 0, 1) := dkAb191.2.2.2.1
theorem dX10_layTable_106 : decode cX10_layTable 106 = .ok (.getfield 48, 3) := dkAb191.2.2.2.2.1
theorem dX10_layTable_109 : decode cX10_layTable 109 = .ok (.sipush 128, 3) := dkAb191.2.2.2.2.2.1
theorem dX10_layTable_112 : decode cX10_layTable 112 = .ok (.iload_n 1, 1) := dkAb191.2.2.2.2.2.2.1
theorem dX10_layTable_113 : decode cX10_layTable 113 = .ok (.imul, 1) := dkAb191.2.2.2.2.2.2.2.1
theorem dX10_layTable_114 : decode cX10_layTable 114 = .ok (.iload_n 2, 1) := dkAb191.2.2.2.2.2.2.2.2.1
theorem dX10_layTable_115 : decode cX10_layTable 115 = .ok (.iadd, 1) := dkAb191.2.2.2.2.2.2.2.2.2.1
theorem dX10_layTable_116 : decode cX10_layTable 116 = .ok (.iload_n 3, 1) := dkAb191.2.2.2.2.2.2.2.2.2.2.1
theorem dX10_layTable_117 : decode cX10_layTable 117 = .ok (.iastore, 1) := dkAb191.2.2.2.2.2.2.2.2.2.2.2
set_option maxRecDepth 100000 in
theorem dkAb192 : decode cX10_layTable 118 = .ok (.iinc 2 1, 3) ∧ decode cX10_layTable 121 = .ok (.goto (-73), 3) ∧ decode cX10_layTable 124 = .ok (.iinc 1 (-1), 3) ∧ decode cX10_layTable 127 = .ok (.goto (-85), 3) ∧ decode cX10_layTable 130 = .ok (.return_, 1) := by decide +kernel
theorem dX10_layTable_118 : decode cX10_layTable 118 = .ok (.iinc 2 1, 3) := dkAb192.1
theorem dX10_layTable_121 : decode cX10_layTable 121 = .ok (.goto (-73), 3) := dkAb192.2.1
theorem dX10_layTable_124 : decode cX10_layTable 124 = .ok (.iinc 1 (-1), 3) := dkAb192.2.2.1
theorem dX10_layTable_127 : decode cX10_layTable 127 = .ok (.goto (-85), 3) := dkAb192.2.2.2.1
theorem dX10_layTable_130 : decode cX10_layTable 130 = .ok (.return_, 1) := dkAb192.2.2.2.2
set_option maxRecDepth 100000 in
theorem dkAb193 : decode cX10_sing 0 = .ok (.iload_n 1, 1) ∧ decode cX10_sing 1 = .ok (.iconst (-1), 1) ∧ decode cX10_sing 2 = .ok (.if_icmp .eq 24, 3) ∧ decode cX10_sing 5 = .ok (.iload_n 1, 1) ∧ decode cX10_sing 6 = .ok (.i2l, 1) ∧ decode cX10_sing 7 = .ok (.lconst 0, 1) ∧ decode cX10_sing 8 = .ok (.aload_n 0, 1) ∧ decode cX10_sing 9 = .ok (.getfield 7, 3) ∧ decode cX10_sing 12 = .ok (.iconst 2, 1) ∧ decode cX10_sing 13 = .ok (.iaload, 1) ∧ decode cX10_sing 14 = .ok (.iconst 1, 1) ∧ decode cX10_sing 15 = .ok (.isub, 1) := by decide +kernel
theorem dX10_sing_0 : decode cX10_sing 0 = .ok (.iload_n 1, 1) := dkAb193.1
theorem dX10_sing_1 : decode cX10_sing 1 = .ok (.iconst (-1), 1) := dkAb193.2.1
theorem dX10_sing_2 : decode cX10_sing 2 = .ok (.if_icmp .eq 24, 3) := dkAb193.2.2.1
theorem dX10_sing_5 : decode cX10_sing 5 = .ok (.iload_n 1, 1) := dkAb193.2.2.2.1
theorem dX10_sing_6 : decode cX10_sing 6 = .ok (.i2l, 1) := dkAb193.2.2.2.2.1
theorem dX10_sing_7 : decode cX10_sing 7 = .ok (.lconst 0, 1) := dkAb193.2.2.2.2.2.1
theorem dX10_sing_8 : decode cX10_sing 8 = .ok (.aload_n 0, 1) := dkAb193.2.2.2.2.2.2.1
theorem dX10_sing_9 : decode cX10_sing 9 = .ok (.getfield 7, 3) := dkAb193.2.2.2.2.2.2.2.1
theorem dX10_sing_12 : decode cX10_sing 12 = .ok (.iconst 2, 1) := dkAb193.2.2.2.2.2.2.2.2.1
theorem dX10_sing_13 : decode cX10_sing 13 = .ok (.iaload, 1) := dkAb193.2.2.2.2.2.2.2.2.2.1
theorem dX10_sing_14 : decode cX10_sing 14 = .ok (.iconst 1, 1) := dkAb193.2.2.2.2.2.2.2.2.2.2.1
theorem dX10_sing_15 : decode cX10_sing 15 = .ok (.isub, 1) := dkAb193.2.2.2.2.2.2.2.2.2.2.2
set_option maxRecDepth 100000 in
theorem dkAb194 : decode cX10_sing 16 = .ok (.i2l, 1) ∧ decode cX10_sing 17 = .ok (.invokestatic 62, 3) ∧ decode cX10_sing 20 = .ok (.ifCond .ne 6, 3) ∧ decode cX10_sing 23 = .ok (.ldc 182, 2) ∧ decode cX10_sing 25 = .ok (.ireturn, 1) ∧ decode cX10_sing 26 = .ok (.aload_n 0, 1) ∧ decode cX10_sing 27 = .ok (.invokevirtual 259, 3) ∧ decode cX10_sing 30 = .ok (.iload_n 1, 1) ∧ decode cX10_sing 31 = .ok (.iconst (-1), 1) ∧ decode cX10_sing 32 = .ok (.if_icmp .ne 10, 3) ∧ decode cX10_sing 35 = .ok (.aload_n 0, 1) ∧ decode cX10_sing 36 = .ok (.getfield 48, 3) := by decide +kernel
theorem dX10_sing_16 : decode cX10_sing 16 = .ok (.i2l, 1) := dkAb194.1
theorem dX10_sing_17 : decode cX10_sing 17 = .ok (.invokestatic 62, 3) := dkAb194.2.1
theorem dX10_sing_20 : decode cX10_sing 20 = .ok (.ifCond .ne 6, 3) := dkAb194.2.2.1
theorem dX10_sing_23 : decode cX10_sing 23 = .ok (.ldc 182, 2) := dkAb194.2.2.2.1
theorem dX10_sing_25 : decode cX10_sing 25 = .ok (.ireturn, 1) := dkAb194.2.2.2.2.1
theorem dX10_sing_26 : decode cX10_sing 26 = .ok (.aload_n 0, 1) := dkAb194.2.2.2.2.2.1
theorem dX10_sing_27 : decode cX10_sing 27 = .ok (.invokevirtual 259, 3) := dkAb194.2.2.2.2.2.2.1
theorem dX10_sing_30 : decode cX10_sing 30 = .ok (.iload_n 1, 1) := dkAb194.2.2.2.2.2.2.2.1
theorem dX10_sing_31 : decode cX10_sing 31 = .ok (.iconst (-1), 1) := dkAb194.2.2.2.2.2.2.2.2.1
theorem dX10_sing_32 : decode cX10_sing 32 = .ok (.if_icmp .ne 10, 3) := dkAb194.2.2.2.2.2.2.2.2.2.1
theorem dX10_sing_35 : decode cX10_sing 35 = .ok (.aload_n 0, 1) := dkAb194.2.2.2.2.2.2.2.2.2.2.1
theorem dX10_sing_36 : decode cX10_sing 36 = .ok (.getfield 48, 3) := dkAb194.2.2.2.2.2.2.2.2.2.2.2
set_option maxRecDepth 100000 in
theorem dkAb195 : decode cX10_sing 39 = .ok (.iconst 0, 1) ∧ decode cX10_sing 40 = .ok (.iaload, 1) ∧ decode cX10_sing 41 = .ok (.ireturn, 1) ∧ decode cX10_sing 42 = .ok (.iconst 0, 1) ∧ decode cX10_sing 43 = .ok (.istore_n 2, 1) ∧ decode cX10_sing 44 = .ok (.iconst 0, 1) ∧ decode cX10_sing 45 = .ok (.istore_n 3, 1) ∧ decode cX10_sing 46 = .ok (.iconst 0, 1) ∧ decode cX10_sing 47 = .ok (.istore 4, 2) ∧ decode cX10_sing 49 = .ok (.iload 4, 2) ∧ decode cX10_sing 51 = .ok (.iload_n 1, 1) ∧ decode cX10_sing 52 = .ok (.if_icmp .gt 61, 3) := by decide +kernel
theorem dX10_sing_39 : decode cX10_sing 39 = .ok (.iconst 0, 1) := dkAb195.1
theorem dX10_sing_40 : decode cX10_sing 40 = .ok (.iaload, 1) := dkAb195.2.1
theorem dX10_sing_41 : decode cX10_sing 41 = .ok (.ireturn, 1) := dkAb195.2.2.1
theorem dX10_sing_42 : decode cX10_sing 42 = .ok (.iconst 0, 1) := dkAb195.2.2.2.1
theorem dX10_sing_43 : decode cX10_sing 43 = .ok (.istore_n 2, 1) := dkAb195.2.2.2.2.1
theorem dX10_sing_44 : decode cX10_sing 44 = .ok (.iconst 0, 1) := dkAb195.2.2.2.2.2.1
theorem dX10_sing_45 : decode cX10_sing 45 = .ok (.istore_n 3, 1) := dkAb195.2.2.2.2.2.2.1
theorem dX10_sing_46 : decode cX10_sing 46 = .ok (.iconst 0, 1) := dkAb195.2.2.2.2.2.2.2.1
theorem dX10_sing_47 : decode cX10_sing 47 = .ok (.istore 4, 2) := dkAb195.2.2.2.2.2.2.2.2.1
theorem dX10_sing_49 : decode cX10_sing 49 = .ok (.iload 4, 2) := dkAb195.2.2.2.2.2.2.2.2.2.1
theorem dX10_sing_51 : decode cX10_sing 51 = .ok (.iload_n 1, 1) := dkAb195.2.2.2.2.2.2.2.2.2.2.1
theorem dX10_sing_52 : decode cX10_sing 52 = .ok (.if_icmp .gt 61, 3) := dkAb195.2.2.2.2.2.2.2.2.2.2.2
set_option maxRecDepth 100000 in
theorem dkAb196 : decode cX10_sing 55 = .ok (.iconst 0, 1) ∧ decode cX10_sing 56 = .ok (.istore_n 3, 1) ∧ decode cX10_sing 57 = .ok (.aload_n 0, 1) ∧ decode cX10_sing 58 = .ok (.iload 4, 2) ∧ decode cX10_sing 60 = .ok (.iload_n 2, 1) ∧ decode cX10_sing 61 = .ok (.iload_n 3, 1) ∧ decode cX10_sing 62 = .ok (.invokevirtual 255, 3) ∧ decode cX10_sing 65 = .ok (.aload_n 0, 1) ∧ decode cX10_sing 66 = .ok (.getfield 48, 3) ∧ decode cX10_sing 69 = .ok (.sipush 128, 3) ∧ decode cX10_sing 72 = .ok (.iload 4, 2) ∧ decode cX10_sing 74 = .ok (.imul, 1) := by decide +kernel
theorem dX10_sing_55 : decode cX10_sing 55 = .ok (.iconst 0, 1) := dkAb196.1
theorem dX10_sing_56 : decode cX10_sing 56 = .ok (.istore_n 3, 1) := dkAb196.2.1
theorem dX10_sing_57 : decode cX10_sing 57 = .ok (.aload_n 0, 1) := dkAb196.2.2.1
theorem dX10_sing_58 : decode cX10_sing 58 = .ok (.iload 4, 2) := dkAb196.2.2.2.1
theorem dX10_sing_60 : decode cX10_sing 60 = .ok (.iload_n 2, 1) := dkAb196.2.2.2.2.1
theorem dX10_sing_61 : decode cX10_sing 61 = .ok (.iload_n 3, 1) := dkAb196.2.2.2.2.2.1
theorem dX10_sing_62 : decode cX10_sing 62 = .ok (.invokevirtual 255, 3) := dkAb196.2.2.2.2.2.2.1
theorem dX10_sing_65 : decode cX10_sing 65 = .ok (.aload_n 0, 1) := dkAb196.2.2.2.2.2.2.2.1
theorem dX10_sing_66 : decode cX10_sing 66 = .ok (.getfield 48, 3) := dkAb196.2.2.2.2.2.2.2.2.1
theorem dX10_sing_69 : decode cX10_sing 69 = .ok (.sipush 128, 3) := dkAb196.2.2.2.2.2.2.2.2.2.1
theorem dX10_sing_72 : decode cX10_sing 72 = .ok (.iload 4, 2) := dkAb196.2.2.2.2.2.2.2.2.2.2.1
theorem dX10_sing_74 : decode cX10_sing 74 = .ok (.imul, 1) := dkAb196.2.2.2.2.2.2.2.2.2.2.2
set_option maxRecDepth 100000 in
theorem dkAb197 : decode cX10_sing 75 = .ok (.iload_n 2, 1) ∧ decode cX10_sing 76 = .ok (.iadd, 1) ∧ decode cX10_sing 77 = .ok (.iaload, 1) ∧ decode cX10_sing 78 = .ok (.if_icmp .eq 9, 3) ∧ decode cX10_sing 81 = .ok (.iinc 3 1, 3) ∧ decode cX10_sing 84 = .ok (.goto (-27), 3) ∧ decode cX10_sing 87 = .ok (.iload_n 2, 1) ∧ decode cX10_sing 88 = .ok (.iload_n 3, 1) ∧ decode cX10_sing 89 = .ok (.aload_n 0, 1) ∧ decode cX10_sing 90 = .ok (.getfield 7, 3) ∧ decode cX10_sing 93 = .ok (.iconst 0, 1) ∧ decode cX10_sing 94 = .ok (.iaload, 1) := by decide +kernel
theorem dX10_sing_75 : decode cX10_sing 75 = .ok (.iload_n 2, 1) := dkAb197.1
theorem dX10_sing_76 : decode cX10_sing 76 = .ok (.iadd, 1) := dkAb197.2.1
theorem dX10_sing_77 : decode cX10_sing 77 = .ok (.iaload, 1) := dkAb197.2.2.1
theorem dX10_sing_78 : decode cX10_sing 78 = .ok (.if_icmp .eq 9, 3) := dkAb197.2.2.2.1
theorem dX10_sing_81 : decode cX10_sing 81 = .ok (.iinc 3 1, 3) := dkAb197.2.2.2.2.1
theorem dX10_sing_84 : decode cX10_sing 84 = .ok (.goto (-27), 3) := dkAb197.2.2.2.2.2.1
theorem dX10_sing_87 : decode cX10_sing 87 = .ok (.iload_n 2, 1) := dkAb197.2.2.2.2.2.2.1
theorem dX10_sing_88 : decode cX10_sing 88 = .ok (.iload_n 3, 1) := dkAb197.2.2.2.2.2.2.2.1
theorem dX10_sing_89 : decode cX10_sing 89 = .ok (.aload_n 0, 1) := dkAb197.2.2.2.2.2.2.2.2.1
theorem dX10_sing_90 : decode cX10_sing 90 = .ok (.getfield 7, 3) := dkAb197.2.2.2.2.2.2.2.2.2.1
theorem dX10_sing_93 : decode cX10_sing 93 = .ok (.iconst 0, 1) := dkAb197.2.2.2.2.2.2.2.2.2.2.1
theorem dX10_sing_94 : decode cX10_sing 94 = .ok (.iaload, 1) := dkAb197.2.2.2.2.2.2.2.2.2.2.2
set_option maxRecDepth 100000 in
theorem dkAb198 : decode cX10_sing 95 = .ok (.if_icmp .ne 7, 3) ∧ decode cX10_sing 98 = .ok (.iconst 0, 1) ∧ decode cX10_sing 99 = .ok (.goto 6, 3) ∧ decode cX10_sing 102 = .ok (.iconst 1, 1) ∧ decode cX10_sing 103 = .ok (.iload_n 3, 1) ∧ decode cX10_sing 104 = .ok (.ishl, 1) ∧ decode cX10_sing 105 = .ok (.ior, 1) ∧ decode cX10_sing 106 = .ok (.istore_n 2, 1) ∧ decode cX10_sing 107 = .ok (.iinc 4 1, 3) ∧ decode cX10_sing 110 = .ok (.goto (-61), 3) ∧ decode cX10_sing 113 = .ok (.iload_n 3, 1) ∧ decode cX10_sing 114 = .ok (.aload_n 0, 1) := by decide +kernel
theorem dX10_sing_95 : decode cX10_sing 95 = .ok (.if_icmp .ne 7, 3) := dkAb198.1
theorem dX10_sing_98 : decode cX10_sing 98 = .ok (.iconst 0, 1) := dkAb198.2.1
theorem dX10_sing_99 : decode cX10_sing 99 = .ok (.goto 6, 3) := dkAb198.2.2.1
theorem dX10_sing_102 : decode cX10_sing 102 = .ok (.iconst 1, 1) := dkAb198.2.2.2.1
theorem dX10_sing_103 : decode cX10_sing 103 = .ok (.iload_n 3, 1) := dkAb198.2.2.2.2.1
theorem dX10_sing_104 : decode cX10_sing 104 = .ok (.ishl, 1) := dkAb198.2.2.2.2.2.1
theorem dX10_sing_105 : decode cX10_sing 105 = .ok (.ior, 1) := dkAb198.2.2.2.2.2.2.1
theorem dX10_sing_106 : decode cX10_sing 106 = .ok (.istore_n 2, 1) := dkAb198.2.2.2.2.2.2.2.1
theorem dX10_sing_107 : decode cX10_sing 107 = .ok (.iinc 4 1, 3) := dkAb198.2.2.2.2.2.2.2.2.1
theorem dX10_sing_110 : decode cX10_sing 110 = .ok (.goto (-61), 3) := dkAb198.2.2.2.2.2.2.2.2.2.1
theorem dX10_sing_113 : decode cX10_sing 113 = .ok (.iload_n 3, 1) := dkAb198.2.2.2.2.2.2.2.2.2.2.1
theorem dX10_sing_114 : decode cX10_sing 114 = .ok (.aload_n 0, 1) := dkAb198.2.2.2.2.2.2.2.2.2.2.2
set_option maxRecDepth 100000 in
theorem dkAb199 : decode cX10_sing 115 = .ok (.getfield 7, 3) ∧ decode cX10_sing 118 = .ok (.iconst 0, 1) ∧ decode cX10_sing 119 = .ok (.iaload, 1) ∧ decode cX10_sing 120 = .ok (.if_icmp .ne 7, 3) ∧ decode cX10_sing 123 = .ok (.iconst (-1), 1) ∧ decode cX10_sing 124 = .ok (.goto 4, 3) ∧ decode cX10_sing 127 = .ok (.iload_n 3, 1) ∧ decode cX10_sing 128 = .ok (.ireturn, 1) := by decide +kernel
theorem dX10_sing_115 : decode cX10_sing 115 = .ok (.getfield 7, 3) := dkAb199.1
theorem dX10_sing_118 : decode cX10_sing 118 = .ok (.iconst 0, 1) := dkAb199.2.1
theorem dX10_sing_119 : decode cX10_sing 119 = .ok (.iaload, 1) := dkAb199.2.2.1
theorem dX10_sing_120 : decode cX10_sing 120 = .ok (.if_icmp .ne 7, 3) := dkAb199.2.2.2.1
theorem dX10_sing_123 : decode cX10_sing 123 = .ok (.iconst (-1), 1) := dkAb199.2.2.2.2.1
theorem dX10_sing_124 : decode cX10_sing 124 = .ok (.goto 4, 3) := dkAb199.2.2.2.2.2.1
theorem dX10_sing_127 : decode cX10_sing 127 = .ok (.iload_n 3, 1) := dkAb199.2.2.2.2.2.2.1
theorem dX10_sing_128 : decode cX10_sing 128 = .ok (.ireturn, 1) := dkAb199.2.2.2.2.2.2.2
set_option maxRecDepth 100000 in
theorem dkAb200 : decode cX10_bid 0 = .ok (.aload_n 0, 1) ∧ decode cX10_bid 1 = .ok (.iload_n 1, 1) ∧ decode cX10_bid 2 = .ok (.invokevirtual 179, 3) ∧ decode cX10_bid 5 = .ok (.ifCond .ne 6, 3) ∧ decode cX10_bid 8 = .ok (.ldc 182, 2) ∧ decode cX10_bid 10 = .ok (.ireturn, 1) ∧ decode cX10_bid 11 = .ok (.iload_n 2, 1) ∧ decode cX10_bid 12 = .ok (.i2l, 1) ∧ decode cX10_bid 13 = .ok (.lconst 0, 1) ∧ decode cX10_bid 14 = .ok (.ldc2_w 262, 3) ∧ decode cX10_bid 17 = .ok (.invokestatic 62, 3) ∧ decode cX10_bid 20 = .ok (.ifCond .ne 6, 3) := by decide +kernel
theorem dX10_bid_0 : decode cX10_bid 0 = .ok (.aload_n 0, 1) := dkAb200.1
theorem dX10_bid_1 : decode cX10_bid 1 = .ok (.iload_n 1, 1) := dkAb200.2.1
theorem dX10_bid_2 : decode cX10_bid 2 = .ok (.invokevirtual 179, 3) := dkAb200.2.2.1
theorem dX10_bid_5 : decode cX10_bid 5 = .ok (.ifCond .ne 6, 3) := dkAb200.2.2.2.1
theorem dX10_bid_8 : decode cX10_bid 8 = .ok (.ldc 182, 2) := dkAb200.2.2.2.2.1
theorem dX10_bid_10 : decode cX10_bid 10 = .ok (.ireturn, 1) := dkAb200.2.2.2.2.2.1
theorem dX10_bid_11 : decode cX10_bid 11 = .ok (.iload_n 2, 1) := dkAb200.2.2.2.2.2.2.1
theorem dX10_bid_12 : decode cX10_bid 12 = .ok (.i2l, 1) := dkAb200.2.2.2.2.2.2.2.1
theorem dX10_bid_13 : decode cX10_bid 13 = .ok (.lconst 0, 1) := dkAb200.2.2.2.2.2.2.2.2.1
theorem dX10_bid_14 : decode cX10_bid 14 = .ok (.ldc2_w 262, 3) := dkAb200.2.2.2.2.2.2.2.2.2.1
theorem dX10_bid_17 : decode cX10_bid 17 = .ok (.invokestatic 62, 3) := dkAb200.2.2.2.2.2.2.2.2.2.2.1
theorem dX10_bid_20 : decode cX10_bid 20 = .ok (.ifCond .ne 6, 3) := dkAb200.2.2.2.2.2.2.2.2.2.2.2
set_option maxRecDepth 100000 in
theorem dkAb201 : decode cX10_bid 23 = .ok (.ldc 84, 2) ∧ decode cX10_bid 25 = .ok (.ireturn, 1) ∧ decode cX10_bid 26 = .ok (.aload_n 0, 1) ∧ decode cX10_bid 27 = .ok (.iload_n 1, 1) ∧ decode cX10_bid 28 = .ok (.invokevirtual 167, 3) ∧ decode cX10_bid 31 = .ok (.ifCond .ne 6, 3) ∧ decode cX10_bid 34 = .ok (.ldc 187, 2) ∧ decode cX10_bid 36 = .ok (.ireturn, 1) ∧ decode cX10_bid 37 = .ok (.aload_n 0, 1) ∧ decode cX10_bid 38 = .ok (.getfield 16, 3) ∧ decode cX10_bid 41 = .ok (.iconst 0, 1) ∧ decode cX10_bid 42 = .ok (.iload_n 1, 1) := by decide +kernel
theorem dX10_bid_23 : decode cX10_bid 23 = .ok (.ldc 84, 2) := dkAb201.1
theorem dX10_bid_25 : decode cX10_bid 25 = .ok (.ireturn, 1) := dkAb201.2.1
theorem dX10_bid_26 : decode cX10_bid 26 = .ok (.aload_n 0, 1) := dkAb201.2.2.1
theorem dX10_bid_27 : decode cX10_bid 27 = .ok (.iload_n 1, 1) := dkAb201.2.2.2.1
theorem dX10_bid_28 : decode cX10_bid 28 = .ok (.invokevirtual 167, 3) := dkAb201.2.2.2.2.1
theorem dX10_bid_31 : decode cX10_bid 31 = .ok (.ifCond .ne 6, 3) := dkAb201.2.2.2.2.2.1
theorem dX10_bid_34 : decode cX10_bid 34 = .ok (.ldc 187, 2) := dkAb201.2.2.2.2.2.2.1
theorem dX10_bid_36 : decode cX10_bid 36 = .ok (.ireturn, 1) := dkAb201.2.2.2.2.2.2.2.1
theorem dX10_bid_37 : decode cX10_bid 37 = .ok (.aload_n 0, 1) := dkAb201.2.2.2.2.2.2.2.2.1
theorem dX10_bid_38 : decode cX10_bid 38 = .ok (.getfield 16, 3) := dkAb201.2.2.2.2.2.2.2.2.2.1
theorem dX10_bid_41 : decode cX10_bid 41 = .ok (.iconst 0, 1) := dkAb201.2.2.2.2.2.2.2.2.2.2.1
theorem dX10_bid_42 : decode cX10_bid 42 = .ok (.iload_n 1, 1) := dkAb201.2.2.2.2.2.2.2.2.2.2.2
set_option maxRecDepth 100000 in
theorem dkAb202 : decode cX10_bid 43 = .ok (.iadd, 1) ∧ decode cX10_bid 44 = .ok (.iaload, 1) ∧ decode cX10_bid 45 = .ok (.istore_n 3, 1) ∧ decode cX10_bid 46 = .ok (.iload_n 3, 1) ∧ decode cX10_bid 47 = .ok (.bipush 9, 2) ∧ decode cX10_bid 49 = .ok (.if_icmp .ne 7, 3) ∧ decode cX10_bid 52 = .ok (.iconst 0, 1) ∧ decode cX10_bid 53 = .ok (.goto 24, 3) ∧ decode cX10_bid 56 = .ok (.aload_n 0, 1) ∧ decode cX10_bid 57 = .ok (.getfield 7, 3) ∧ decode cX10_bid 60 = .ok (.iconst 3, 1) ∧ decode cX10_bid 61 = .ok (.iload_n 3, 1) := by decide +kernel
theorem dX10_bid_43 : decode cX10_bid 43 = .ok (.iadd, 1) := dkAb202.1
theorem dX10_bid_44 : decode cX10_bid 44 = .ok (.iaload, 1) := dkAb202.2.1
theorem dX10_bid_45 : decode cX10_bid 45 = .ok (.istore_n 3, 1) := dkAb202.2.2.1
theorem dX10_bid_46 : decode cX10_bid 46 = .ok (.iload_n 3, 1) := dkAb202.2.2.2.1
theorem dX10_bid_47 : decode cX10_bid 47 = .ok (.bipush 9, 2) := dkAb202.2.2.2.2.1
theorem dX10_bid_49 : decode cX10_bid 49 = .ok (.if_icmp .ne 7, 3) := dkAb202.2.2.2.2.2.1
theorem dX10_bid_52 : decode cX10_bid 52 = .ok (.iconst 0, 1) := dkAb202.2.2.2.2.2.2.1
theorem dX10_bid_53 : decode cX10_bid 53 = .ok (.goto 24, 3) := dkAb202.2.2.2.2.2.2.2.1
theorem dX10_bid_56 : decode cX10_bid 56 = .ok (.aload_n 0, 1) := dkAb202.2.2.2.2.2.2.2.2.1
theorem dX10_bid_57 : decode cX10_bid 57 = .ok (.getfield 7, 3) := dkAb202.2.2.2.2.2.2.2.2.2.1
theorem dX10_bid_60 : decode cX10_bid 60 = .ok (.iconst 3, 1) := dkAb202.2.2.2.2.2.2.2.2.2.2.1
theorem dX10_bid_61 : decode cX10_bid 61 = .ok (.iload_n 3, 1) := dkAb202.2.2.2.2.2.2.2.2.2.2.2
set_option maxRecDepth 100000 in
theorem dkAb203 : decode cX10_bid 62 = .ok (.iadd, 1) ∧ decode cX10_bid 63 = .ok (.iaload, 1) ∧ decode cX10_bid 64 = .ok (.iconst 1, 1) ∧ decode cX10_bid 65 = .ok (.iadd, 1) ∧ decode cX10_bid 66 = .ok (.aload_n 0, 1) ∧ decode cX10_bid 67 = .ok (.iload_n 3, 1) ∧ decode cX10_bid 68 = .ok (.invokevirtual 183, 3) ∧ decode cX10_bid 71 = .ok (.invokestatic 241, 3) ∧ decode cX10_bid 74 = .ok (.imul, 1) ∧ decode cX10_bid 75 = .ok (.iload_n 2, 1) ∧ decode cX10_bid 76 = .ok (.imul, 1) ∧ decode cX10_bid 77 = .ok (.ireturn, 1) := by decide +kernel
theorem dX10_bid_62 : decode cX10_bid 62 = .ok (.iadd, 1) := dkAb203.1
theorem dX10_bid_63 : decode cX10_bid 63 = .ok (.iaload, 1) := dkAb203.2.1
theorem dX10_bid_64 : decode cX10_bid 64 = .ok (.iconst 1, 1) := dkAb203.2.2.1
theorem dX10_bid_65 : decode cX10_bid 65 = .ok (.iadd, 1) := dkAb203.2.2.2.1
theorem dX10_bid_66 : decode cX10_bid 66 = .ok (.aload_n 0, 1) := dkAb203.2.2.2.2.1
theorem dX10_bid_67 : decode cX10_bid 67 = .ok (.iload_n 3, 1) := dkAb203.2.2.2.2.2.1
theorem dX10_bid_68 : decode cX10_bid 68 = .ok (.invokevirtual 183, 3) := dkAb203.2.2.2.2.2.2.1
theorem dX10_bid_71 : decode cX10_bid 71 = .ok (.invokestatic 241, 3) := dkAb203.2.2.2.2.2.2.2.1
theorem dX10_bid_74 : decode cX10_bid 74 = .ok (.imul, 1) := dkAb203.2.2.2.2.2.2.2.2.1
theorem dX10_bid_75 : decode cX10_bid 75 = .ok (.iload_n 2, 1) := dkAb203.2.2.2.2.2.2.2.2.2.1
theorem dX10_bid_76 : decode cX10_bid 76 = .ok (.imul, 1) := dkAb203.2.2.2.2.2.2.2.2.2.2.1
theorem dX10_bid_77 : decode cX10_bid 77 = .ok (.ireturn, 1) := dkAb203.2.2.2.2.2.2.2.2.2.2.2
set_option maxRecDepth 100000 in
theorem dkAb204 : decode cX10_isSet 0 = .ok (.iload_n 1, 1) ∧ decode cX10_isSet 1 = .ok (.i2l, 1) ∧ decode cX10_isSet 2 = .ok (.lconst 0, 1) ∧ decode cX10_isSet 3 = .ok (.iconst 1, 1) ∧ decode cX10_isSet 4 = .ok (.aload_n 0, 1) ∧ decode cX10_isSet 5 = .ok (.getfield 7, 3) ∧ decode cX10_isSet 8 = .ok (.iconst 0, 1) ∧ decode cX10_isSet 9 = .ok (.iaload, 1) ∧ decode cX10_isSet 10 = .ok (.ishl, 1) ∧ decode cX10_isSet 11 = .ok (.iconst 1, 1) ∧ decode cX10_isSet 12 = .ok (.isub, 1) ∧ decode cX10_isSet 13 = .ok (.i2l, 1) := by decide +kernel
theorem dX10_isSet_0 : decode cX10_isSet 0 = .ok (.iload_n 1, 1) := dkAb204.1
theorem dX10_isSet_1 : decode cX10_isSet 1 = .ok (.i2l, 1) := dkAb204.2.1
theorem dX10_isSet_2 : decode cX10_isSet 2 = .ok (.lconst 0, 1) := dkAb204.2.2.1
theorem dX10_isSet_3 : decode cX10_isSet 3 = .ok (.iconst 1, 1) := dkAb204.2.2.2.1
theorem dX10_isSet_4 : decode cX10_isSet 4 = .ok (.aload_n 0, 1) := dkAb204.2.2.2.2.1
theorem dX10_isSet_5 : decode cX10_isSet 5 = .ok (.getfield 7, 3) := dkAb204.2.2.2.2.2.1
theorem dX10_isSet_8 : decode cX10_isSet 8 = .ok (.iconst 0, 1) := dkAb204.2.2.2.2.2.2.1
theorem dX10_isSet_9 : decode cX10_isSet 9 = .ok (.iaload, 1) := dkAb204.2.2.2.2.2.2.2.1
theorem dX10_isSet_10 : decode cX10_isSet 10 = .ok (.ishl, 1) := dkAb204.2.2.2.2.2.2.2.2.1
theorem dX10_isSet_11 : decode cX10_isSet 11 = .ok (.iconst 1, 1) := dkAb204.2.2.2.2.2.2.2.2.2.1
theorem dX10_isSet_12 : decode cX10_isSet 12 = .ok (.isub, 1) := dkAb204.2.2.2.2.2.2.2.2.2.2.1
theorem dX10_isSet_13 : decode cX10_isSet 13 = .ok (.i2l, 1) := dkAb204.2.2.2.2.2.2.2.2.2.2.2
theorem dX10_isSet_14 : decode cX10_isSet 14 = .ok (.invokestatic 62, 3) := by decide +kernel
theorem dX10_isSet_17 : decode cX10_isSet 17 = .ok (.ireturn, 1) := by decide +kernel
set_option maxRecDepth 100000 in
theorem dkAb205 : decode cX10_live 0 = .ok (.aload_n 0, 1) ∧ decode cX10_live 1 = .ok (.iload_n 1, 1) ∧ decode cX10_live 2 = .ok (.invokevirtual 264, 3) ∧ decode cX10_live 5 = .ok (.ifCond .ne 6, 3) ∧ decode cX10_live 8 = .ok (.ldc 182, 2) ∧ decode cX10_live 10 = .ok (.ireturn, 1) ∧ decode cX10_live 11 = .ok (.iload_n 2, 1) ∧ decode cX10_live 12 = .ok (.i2l, 1) ∧ decode cX10_live 13 = .ok (.lconst 0, 1) ∧ decode cX10_live 14 = .ok (.ldc2_w 223, 3) ∧ decode cX10_live 17 = .ok (.invokestatic 62, 3) ∧ decode cX10_live 20 = .ok (.ifCond .eq 15, 3) := by decide +kernel
theorem dX10_live_0 : decode cX10_live 0 = .ok (.aload_n 0, 1) := dkAb205.1
theorem dX10_live_1 : decode cX10_live 1 = .ok (.iload_n 1, 1) := dkAb205.2.1
theorem dX10_live_2 : decode cX10_live 2 = .ok (.invokevirtual 264, 3) := dkAb205.2.2.1
theorem dX10_live_5 : decode cX10_live 5 = .ok (.ifCond .ne 6, 3) := dkAb205.2.2.2.1
theorem dX10_live_8 : decode cX10_live 8 = .ok (.ldc 182, 2) := dkAb205.2.2.2.2.1
theorem dX10_live_10 : decode cX10_live 10 = .ok (.ireturn, 1) := dkAb205.2.2.2.2.2.1
theorem dX10_live_11 : decode cX10_live 11 = .ok (.iload_n 2, 1) := dkAb205.2.2.2.2.2.2.1
theorem dX10_live_12 : decode cX10_live 12 = .ok (.i2l, 1) := dkAb205.2.2.2.2.2.2.2.1
theorem dX10_live_13 : decode cX10_live 13 = .ok (.lconst 0, 1) := dkAb205.2.2.2.2.2.2.2.2.1
theorem dX10_live_14 : decode cX10_live 14 = .ok (.ldc2_w 223, 3) := dkAb205.2.2.2.2.2.2.2.2.2.1
theorem dX10_live_17 : decode cX10_live 17 = .ok (.invokestatic 62, 3) := dkAb205.2.2.2.2.2.2.2.2.2.2.1
theorem dX10_live_20 : decode cX10_live 20 = .ok (.ifCond .eq 15, 3) := dkAb205.2.2.2.2.2.2.2.2.2.2.2
set_option maxRecDepth 100000 in
theorem dkAb206 : decode cX10_live 23 = .ok (.iload_n 3, 1) ∧ decode cX10_live 24 = .ok (.i2l, 1) ∧ decode cX10_live 25 = .ok (.lconst 0, 1) ∧ decode cX10_live 26 = .ok (.ldc2_w 267, 3) ∧ decode cX10_live 29 = .ok (.invokestatic 62, 3) ∧ decode cX10_live 32 = .ok (.ifCond .ne 6, 3) ∧ decode cX10_live 35 = .ok (.ldc 84, 2) ∧ decode cX10_live 37 = .ok (.ireturn, 1) ∧ decode cX10_live 38 = .ok (.iload_n 1, 1) ∧ decode cX10_live 39 = .ok (.aload_n 0, 1) ∧ decode cX10_live 40 = .ok (.getfield 16, 3) ∧ decode cX10_live 43 = .ok (.bipush 28, 2) := by decide +kernel
theorem dX10_live_23 : decode cX10_live 23 = .ok (.iload_n 3, 1) := dkAb206.1
theorem dX10_live_24 : decode cX10_live 24 = .ok (.i2l, 1) := dkAb206.2.1
theorem dX10_live_25 : decode cX10_live 25 = .ok (.lconst 0, 1) := dkAb206.2.2.1
theorem dX10_live_26 : decode cX10_live 26 = .ok (.ldc2_w 267, 3) := dkAb206.2.2.2.1
theorem dX10_live_29 : decode cX10_live 29 = .ok (.invokestatic 62, 3) := dkAb206.2.2.2.2.1
theorem dX10_live_32 : decode cX10_live 32 = .ok (.ifCond .ne 6, 3) := dkAb206.2.2.2.2.2.1
theorem dX10_live_35 : decode cX10_live 35 = .ok (.ldc 84, 2) := dkAb206.2.2.2.2.2.2.1
theorem dX10_live_37 : decode cX10_live 37 = .ok (.ireturn, 1) := dkAb206.2.2.2.2.2.2.2.1
theorem dX10_live_38 : decode cX10_live 38 = .ok (.iload_n 1, 1) := dkAb206.2.2.2.2.2.2.2.2.1
theorem dX10_live_39 : decode cX10_live 39 = .ok (.aload_n 0, 1) := dkAb206.2.2.2.2.2.2.2.2.2.1
theorem dX10_live_40 : decode cX10_live 40 = .ok (.getfield 16, 3) := dkAb206.2.2.2.2.2.2.2.2.2.2.1
theorem dX10_live_43 : decode cX10_live 43 = .ok (.bipush 28, 2) := dkAb206.2.2.2.2.2.2.2.2.2.2.2
set_option maxRecDepth 100000 in
theorem dkAb207 : decode cX10_live 45 = .ok (.iaload, 1) ∧ decode cX10_live 46 = .ok (.iconst (-1), 1) ∧ decode cX10_live 47 = .ok (.ixor, 1) ∧ decode cX10_live 48 = .ok (.iand, 1) ∧ decode cX10_live 49 = .ok (.ifCond .eq 6, 3) ∧ decode cX10_live 52 = .ok (.ldc 187, 2) ∧ decode cX10_live 54 = .ok (.ireturn, 1) ∧ decode cX10_live 55 = .ok (.ldc2_w 269, 3) ∧ decode cX10_live 58 = .ok (.lstore 4, 2) ∧ decode cX10_live 60 = .ok (.iload_n 2, 1) ∧ decode cX10_live 61 = .ok (.iload_n 1, 1) ∧ decode cX10_live 62 = .ok (.invokestatic 241, 3) := by decide +kernel
theorem dX10_live_45 : decode cX10_live 45 = .ok (.iaload, 1) := dkAb207.1
theorem dX10_live_46 : decode cX10_live 46 = .ok (.iconst (-1), 1) := dkAb207.2.1
theorem dX10_live_47 : decode cX10_live 47 = .ok (.ixor, 1) := dkAb207.2.2.1
theorem dX10_live_48 : decode cX10_live 48 = .ok (.iand, 1) := dkAb207.2.2.2.1
theorem dX10_live_49 : decode cX10_live 49 = .ok (.ifCond .eq 6, 3) := dkAb207.2.2.2.2.1
theorem dX10_live_52 : decode cX10_live 52 = .ok (.ldc 187, 2) := dkAb207.2.2.2.2.2.1
theorem dX10_live_54 : decode cX10_live 54 = .ok (.ireturn, 1) := dkAb207.2.2.2.2.2.2.1
theorem dX10_live_55 : decode cX10_live 55 = .ok (.ldc2_w 269, 3) := dkAb207.2.2.2.2.2.2.2.1
theorem dX10_live_58 : decode cX10_live 58 = .ok (.lstore 4, 2) := dkAb207.2.2.2.2.2.2.2.2.1
theorem dX10_live_60 : decode cX10_live 60 = .ok (.iload_n 2, 1) := dkAb207.2.2.2.2.2.2.2.2.2.1
theorem dX10_live_61 : decode cX10_live 61 = .ok (.iload_n 1, 1) := dkAb207.2.2.2.2.2.2.2.2.2.2.1
theorem dX10_live_62 : decode cX10_live 62 = .ok (.invokestatic 241, 3) := dkAb207.2.2.2.2.2.2.2.2.2.2.2
set_option maxRecDepth 100000 in
theorem dkAb208 : decode cX10_live 65 = .ok (.imul, 1) ∧ decode cX10_live 66 = .ok (.istore 6, 2) ∧ decode cX10_live 68 = .ok (.iload 6, 2) ∧ decode cX10_live 70 = .ok (.ifCond .le 23, 3) ∧ decode cX10_live 73 = .ok (.lload 4, 2) ∧ decode cX10_live 75 = .ok (.bipush 100, 2) ∧ decode cX10_live 77 = .ok (.iload_n 3, 1) ∧ decode cX10_live 78 = .ok (.isub, 1) ∧ decode cX10_live 79 = .ok (.i2l, 1) ∧ decode cX10_live 80 = .ok (.lmul, 1) ∧ decode cX10_live 81 = .ok (.ldc2_w 267, 3) ∧ decode cX10_live 84 = .ok (.ldiv, 1) := by decide +kernel
theorem dX10_live_65 : decode cX10_live 65 = .ok (.imul, 1) := dkAb208.1
theorem dX10_live_66 : decode cX10_live 66 = .ok (.istore 6, 2) := dkAb208.2.1
theorem dX10_live_68 : decode cX10_live 68 = .ok (.iload 6, 2) := dkAb208.2.2.1
theorem dX10_live_70 : decode cX10_live 70 = .ok (.ifCond .le 23, 3) := dkAb208.2.2.2.1
theorem dX10_live_73 : decode cX10_live 73 = .ok (.lload 4, 2) := dkAb208.2.2.2.2.1
theorem dX10_live_75 : decode cX10_live 75 = .ok (.bipush 100, 2) := dkAb208.2.2.2.2.2.1
theorem dX10_live_77 : decode cX10_live 77 = .ok (.iload_n 3, 1) := dkAb208.2.2.2.2.2.2.1
theorem dX10_live_78 : decode cX10_live 78 = .ok (.isub, 1) := dkAb208.2.2.2.2.2.2.2.1
theorem dX10_live_79 : decode cX10_live 79 = .ok (.i2l, 1) := dkAb208.2.2.2.2.2.2.2.2.1
theorem dX10_live_80 : decode cX10_live 80 = .ok (.lmul, 1) := dkAb208.2.2.2.2.2.2.2.2.2.1
theorem dX10_live_81 : decode cX10_live 81 = .ok (.ldc2_w 267, 3) := dkAb208.2.2.2.2.2.2.2.2.2.2.1
theorem dX10_live_84 : decode cX10_live 84 = .ok (.ldiv, 1) := dkAb208.2.2.2.2.2.2.2.2.2.2.2
set_option maxRecDepth 100000 in
theorem dkAb209 : decode cX10_live 85 = .ok (.lstore 4, 2) ∧ decode cX10_live 87 = .ok (.iinc 6 (-1), 3) ∧ decode cX10_live 90 = .ok (.goto (-22), 3) ∧ decode cX10_live 93 = .ok (.lload 4, 2) ∧ decode cX10_live 95 = .ok (.l2i, 1) ∧ decode cX10_live 96 = .ok (.ireturn, 1) := by decide +kernel
theorem dX10_live_85 : decode cX10_live 85 = .ok (.lstore 4, 2) := dkAb209.1
theorem dX10_live_87 : decode cX10_live 87 = .ok (.iinc 6 (-1), 3) := dkAb209.2.1
theorem dX10_live_90 : decode cX10_live 90 = .ok (.goto (-22), 3) := dkAb209.2.2.1
theorem dX10_live_93 : decode cX10_live 93 = .ok (.lload 4, 2) := dkAb209.2.2.2.1
theorem dX10_live_95 : decode cX10_live 95 = .ok (.l2i, 1) := dkAb209.2.2.2.2.1
theorem dX10_live_96 : decode cX10_live 96 = .ok (.ireturn, 1) := dkAb209.2.2.2.2.2
set_option maxRecDepth 100000 in
theorem dkAb210 : decode cX10_see 0 = .ok (.iload_n 1, 1) ∧ decode cX10_see 1 = .ok (.i2l, 1) ∧ decode cX10_see 2 = .ok (.lconst 0, 1) ∧ decode cX10_see 3 = .ok (.aload_n 0, 1) ∧ decode cX10_see 4 = .ok (.getfield 7, 3) ∧ decode cX10_see 7 = .ok (.iconst 1, 1) ∧ decode cX10_see 8 = .ok (.iaload, 1) ∧ decode cX10_see 9 = .ok (.iconst 1, 1) ∧ decode cX10_see 10 = .ok (.isub, 1) ∧ decode cX10_see 11 = .ok (.i2l, 1) ∧ decode cX10_see 12 = .ok (.invokestatic 62, 3) ∧ decode cX10_see 15 = .ok (.ifCond .ne 6, 3) := by decide +kernel
theorem dX10_see_0 : decode cX10_see 0 = .ok (.iload_n 1, 1) := dkAb210.1
theorem dX10_see_1 : decode cX10_see 1 = .ok (.i2l, 1) := dkAb210.2.1
theorem dX10_see_2 : decode cX10_see 2 = .ok (.lconst 0, 1) := dkAb210.2.2.1
theorem dX10_see_3 : decode cX10_see 3 = .ok (.aload_n 0, 1) := dkAb210.2.2.2.1
theorem dX10_see_4 : decode cX10_see 4 = .ok (.getfield 7, 3) := dkAb210.2.2.2.2.1
theorem dX10_see_7 : decode cX10_see 7 = .ok (.iconst 1, 1) := dkAb210.2.2.2.2.2.1
theorem dX10_see_8 : decode cX10_see 8 = .ok (.iaload, 1) := dkAb210.2.2.2.2.2.2.1
theorem dX10_see_9 : decode cX10_see 9 = .ok (.iconst 1, 1) := dkAb210.2.2.2.2.2.2.2.1
theorem dX10_see_10 : decode cX10_see 10 = .ok (.isub, 1) := dkAb210.2.2.2.2.2.2.2.2.1
theorem dX10_see_11 : decode cX10_see 11 = .ok (.i2l, 1) := dkAb210.2.2.2.2.2.2.2.2.2.1
theorem dX10_see_12 : decode cX10_see 12 = .ok (.invokestatic 62, 3) := dkAb210.2.2.2.2.2.2.2.2.2.2.1
theorem dX10_see_15 : decode cX10_see 15 = .ok (.ifCond .ne 6, 3) := dkAb210.2.2.2.2.2.2.2.2.2.2.2
set_option maxRecDepth 100000 in
theorem dkAb211 : decode cX10_see 18 = .ok (.ldc 182, 2) ∧ decode cX10_see 20 = .ok (.ireturn, 1) ∧ decode cX10_see 21 = .ok (.aload_n 0, 1) ∧ decode cX10_see 22 = .ok (.getfield 73, 3) ∧ decode cX10_see 25 = .ok (.bipush 6, 2) ∧ decode cX10_see 27 = .ok (.if_icmp .ne 6, 3) ∧ decode cX10_see 30 = .ok (.ldc 88, 2) ∧ decode cX10_see 32 = .ok (.ireturn, 1) ∧ decode cX10_see 33 = .ok (.aload_n 0, 1) ∧ decode cX10_see 34 = .ok (.getfield 39, 3) ∧ decode cX10_see 37 = .ok (.iconst 2, 1) ∧ decode cX10_see 38 = .ok (.aload_n 0, 1) := by decide +kernel
theorem dX10_see_18 : decode cX10_see 18 = .ok (.ldc 182, 2) := dkAb211.1
theorem dX10_see_20 : decode cX10_see 20 = .ok (.ireturn, 1) := dkAb211.2.1
theorem dX10_see_21 : decode cX10_see 21 = .ok (.aload_n 0, 1) := dkAb211.2.2.1
theorem dX10_see_22 : decode cX10_see 22 = .ok (.getfield 73, 3) := dkAb211.2.2.2.1
theorem dX10_see_25 : decode cX10_see 25 = .ok (.bipush 6, 2) := dkAb211.2.2.2.2.1
theorem dX10_see_27 : decode cX10_see 27 = .ok (.if_icmp .ne 6, 3) := dkAb211.2.2.2.2.2.1
theorem dX10_see_30 : decode cX10_see 30 = .ok (.ldc 88, 2) := dkAb211.2.2.2.2.2.2.1
theorem dX10_see_32 : decode cX10_see 32 = .ok (.ireturn, 1) := dkAb211.2.2.2.2.2.2.2.1
theorem dX10_see_33 : decode cX10_see 33 = .ok (.aload_n 0, 1) := dkAb211.2.2.2.2.2.2.2.2.1
theorem dX10_see_34 : decode cX10_see 34 = .ok (.getfield 39, 3) := dkAb211.2.2.2.2.2.2.2.2.2.1
theorem dX10_see_37 : decode cX10_see 37 = .ok (.iconst 2, 1) := dkAb211.2.2.2.2.2.2.2.2.2.2.1
theorem dX10_see_38 : decode cX10_see 38 = .ok (.aload_n 0, 1) := dkAb211.2.2.2.2.2.2.2.2.2.2.2
set_option maxRecDepth 100000 in
theorem dkAb212 : decode cX10_see 39 = .ok (.getfield 73, 3) ∧ decode cX10_see 42 = .ok (.imul, 1) ∧ decode cX10_see 43 = .ok (.iload_n 1, 1) ∧ decode cX10_see 44 = .ok (.iastore, 1) ∧ decode cX10_see 45 = .ok (.aload_n 0, 1) ∧ decode cX10_see 46 = .ok (.getfield 39, 3) ∧ decode cX10_see 49 = .ok (.iconst 2, 1) ∧ decode cX10_see 50 = .ok (.aload_n 0, 1) ∧ decode cX10_see 51 = .ok (.getfield 73, 3) ∧ decode cX10_see 54 = .ok (.imul, 1) ∧ decode cX10_see 55 = .ok (.iconst 1, 1) ∧ decode cX10_see 56 = .ok (.iadd, 1) := by decide +kernel
theorem dX10_see_39 : decode cX10_see 39 = .ok (.getfield 73, 3) := dkAb212.1
theorem dX10_see_42 : decode cX10_see 42 = .ok (.imul, 1) := dkAb212.2.1
theorem dX10_see_43 : decode cX10_see 43 = .ok (.iload_n 1, 1) := dkAb212.2.2.1
theorem dX10_see_44 : decode cX10_see 44 = .ok (.iastore, 1) := dkAb212.2.2.2.1
theorem dX10_see_45 : decode cX10_see 45 = .ok (.aload_n 0, 1) := dkAb212.2.2.2.2.1
theorem dX10_see_46 : decode cX10_see 46 = .ok (.getfield 39, 3) := dkAb212.2.2.2.2.2.1
theorem dX10_see_49 : decode cX10_see 49 = .ok (.iconst 2, 1) := dkAb212.2.2.2.2.2.2.1
theorem dX10_see_50 : decode cX10_see 50 = .ok (.aload_n 0, 1) := dkAb212.2.2.2.2.2.2.2.1
theorem dX10_see_51 : decode cX10_see 51 = .ok (.getfield 73, 3) := dkAb212.2.2.2.2.2.2.2.2.1
theorem dX10_see_54 : decode cX10_see 54 = .ok (.imul, 1) := dkAb212.2.2.2.2.2.2.2.2.2.1
theorem dX10_see_55 : decode cX10_see 55 = .ok (.iconst 1, 1) := dkAb212.2.2.2.2.2.2.2.2.2.2.1
theorem dX10_see_56 : decode cX10_see 56 = .ok (.iadd, 1) := dkAb212.2.2.2.2.2.2.2.2.2.2.2
set_option maxRecDepth 100000 in
theorem dkAb213 : decode cX10_see 57 = .ok (.iload_n 2, 1) ∧ decode cX10_see 58 = .ok (.ifCond .eq 7, 3) ∧ decode cX10_see 61 = .ok (.iconst 1, 1) ∧ decode cX10_see 62 = .ok (.goto 4, 3) ∧ decode cX10_see 65 = .ok (.iconst 0, 1) ∧ decode cX10_see 66 = .ok (.iastore, 1) ∧ decode cX10_see 67 = .ok (.aload_n 0, 1) ∧ decode cX10_see 68 = .ok (.dup, 1) ∧ decode cX10_see 69 = .ok (.getfield 73, 3) ∧ decode cX10_see 72 = .ok (.iconst 1, 1) ∧ decode cX10_see 73 = .ok (.iadd, 1) ∧ decode cX10_see 74 = .ok (.putfield 73, 3) := by decide +kernel
theorem dX10_see_57 : decode cX10_see 57 = .ok (.iload_n 2, 1) := dkAb213.1
theorem dX10_see_58 : decode cX10_see 58 = .ok (.ifCond .eq 7, 3) := dkAb213.2.1
theorem dX10_see_61 : decode cX10_see 61 = .ok (.iconst 1, 1) := dkAb213.2.2.1
theorem dX10_see_62 : decode cX10_see 62 = .ok (.goto 4, 3) := dkAb213.2.2.2.1
theorem dX10_see_65 : decode cX10_see 65 = .ok (.iconst 0, 1) := dkAb213.2.2.2.2.1
theorem dX10_see_66 : decode cX10_see 66 = .ok (.iastore, 1) := dkAb213.2.2.2.2.2.1
theorem dX10_see_67 : decode cX10_see 67 = .ok (.aload_n 0, 1) := dkAb213.2.2.2.2.2.2.1
theorem dX10_see_68 : decode cX10_see 68 = .ok (.dup, 1) := dkAb213.2.2.2.2.2.2.2.1
theorem dX10_see_69 : decode cX10_see 69 = .ok (.getfield 73, 3) := dkAb213.2.2.2.2.2.2.2.2.1
theorem dX10_see_72 : decode cX10_see 72 = .ok (.iconst 1, 1) := dkAb213.2.2.2.2.2.2.2.2.2.1
theorem dX10_see_73 : decode cX10_see 73 = .ok (.iadd, 1) := dkAb213.2.2.2.2.2.2.2.2.2.2.1
theorem dX10_see_74 : decode cX10_see 74 = .ok (.putfield 73, 3) := dkAb213.2.2.2.2.2.2.2.2.2.2.2
set_option maxRecDepth 100000 in
theorem dkAb214 : decode cX10_see 77 = .ok (.aload_n 0, 1) ∧ decode cX10_see 78 = .ok (.getfield 73, 3) ∧ decode cX10_see 81 = .ok (.ireturn, 1) := by decide +kernel
theorem dX10_see_77 : decode cX10_see 77 = .ok (.aload_n 0, 1) := dkAb214.1
theorem dX10_see_78 : decode cX10_see 78 = .ok (.getfield 73, 3) := dkAb214.2.1
theorem dX10_see_81 : decode cX10_see 81 = .ok (.ireturn, 1) := dkAb214.2.2
set_option maxRecDepth 100000 in
theorem dkAb215 : decode cX10_voices 0 = .ok (.aload_n 0, 1) ∧ decode cX10_voices 1 = .ok (.invokevirtual 170, 3) ∧ decode cX10_voices 4 = .ok (.istore_n 1, 1) ∧ decode cX10_voices 5 = .ok (.iconst 0, 1) ∧ decode cX10_voices 6 = .ok (.istore_n 2, 1) ∧ decode cX10_voices 7 = .ok (.iload_n 2, 1) ∧ decode cX10_voices 8 = .ok (.aload_n 0, 1) ∧ decode cX10_voices 9 = .ok (.getfield 73, 3) ∧ decode cX10_voices 12 = .ok (.if_icmp .ge 50, 3) ∧ decode cX10_voices 15 = .ok (.aload_n 0, 1) ∧ decode cX10_voices 16 = .ok (.getfield 7, 3) ∧ decode cX10_voices 19 = .ok (.bipush 25, 2) := by decide +kernel
theorem dX10_voices_0 : decode cX10_voices 0 = .ok (.aload_n 0, 1) := dkAb215.1
theorem dX10_voices_1 : decode cX10_voices 1 = .ok (.invokevirtual 170, 3) := dkAb215.2.1
theorem dX10_voices_4 : decode cX10_voices 4 = .ok (.istore_n 1, 1) := dkAb215.2.2.1
theorem dX10_voices_5 : decode cX10_voices 5 = .ok (.iconst 0, 1) := dkAb215.2.2.2.1
theorem dX10_voices_6 : decode cX10_voices 6 = .ok (.istore_n 2, 1) := dkAb215.2.2.2.2.1
theorem dX10_voices_7 : decode cX10_voices 7 = .ok (.iload_n 2, 1) := dkAb215.2.2.2.2.2.1
theorem dX10_voices_8 : decode cX10_voices 8 = .ok (.aload_n 0, 1) := dkAb215.2.2.2.2.2.2.1
theorem dX10_voices_9 : decode cX10_voices 9 = .ok (.getfield 73, 3) := dkAb215.2.2.2.2.2.2.2.1
theorem dX10_voices_12 : decode cX10_voices 12 = .ok (.if_icmp .ge 50, 3) := dkAb215.2.2.2.2.2.2.2.2.1
theorem dX10_voices_15 : decode cX10_voices 15 = .ok (.aload_n 0, 1) := dkAb215.2.2.2.2.2.2.2.2.2.1
theorem dX10_voices_16 : decode cX10_voices 16 = .ok (.getfield 7, 3) := dkAb215.2.2.2.2.2.2.2.2.2.2.1
theorem dX10_voices_19 : decode cX10_voices 19 = .ok (.bipush 25, 2) := dkAb215.2.2.2.2.2.2.2.2.2.2.2
set_option maxRecDepth 100000 in
theorem dkAb216 : decode cX10_voices 21 = .ok (.aload_n 0, 1) ∧ decode cX10_voices 22 = .ok (.getfield 39, 3) ∧ decode cX10_voices 25 = .ok (.iconst 2, 1) ∧ decode cX10_voices 26 = .ok (.iload_n 2, 1) ∧ decode cX10_voices 27 = .ok (.imul, 1) ∧ decode cX10_voices 28 = .ok (.iaload, 1) ∧ decode cX10_voices 29 = .ok (.iadd, 1) ∧ decode cX10_voices 30 = .ok (.iaload, 1) ∧ decode cX10_voices 31 = .ok (.istore_n 3, 1) ∧ decode cX10_voices 32 = .ok (.iload_n 1, 1) ∧ decode cX10_voices 33 = .ok (.aload_n 0, 1) ∧ decode cX10_voices 34 = .ok (.getfield 39, 3) := by decide +kernel
theorem dX10_voices_21 : decode cX10_voices 21 = .ok (.aload_n 0, 1) := dkAb216.1
theorem dX10_voices_22 : decode cX10_voices 22 = .ok (.getfield 39, 3) := dkAb216.2.1
theorem dX10_voices_25 : decode cX10_voices 25 = .ok (.iconst 2, 1) := dkAb216.2.2.1
theorem dX10_voices_26 : decode cX10_voices 26 = .ok (.iload_n 2, 1) := dkAb216.2.2.2.1
theorem dX10_voices_27 : decode cX10_voices 27 = .ok (.imul, 1) := dkAb216.2.2.2.2.1
theorem dX10_voices_28 : decode cX10_voices 28 = .ok (.iaload, 1) := dkAb216.2.2.2.2.2.1
theorem dX10_voices_29 : decode cX10_voices 29 = .ok (.iadd, 1) := dkAb216.2.2.2.2.2.2.1
theorem dX10_voices_30 : decode cX10_voices 30 = .ok (.iaload, 1) := dkAb216.2.2.2.2.2.2.2.1
theorem dX10_voices_31 : decode cX10_voices 31 = .ok (.istore_n 3, 1) := dkAb216.2.2.2.2.2.2.2.2.1
theorem dX10_voices_32 : decode cX10_voices 32 = .ok (.iload_n 1, 1) := dkAb216.2.2.2.2.2.2.2.2.2.1
theorem dX10_voices_33 : decode cX10_voices 33 = .ok (.aload_n 0, 1) := dkAb216.2.2.2.2.2.2.2.2.2.2.1
theorem dX10_voices_34 : decode cX10_voices 34 = .ok (.getfield 39, 3) := dkAb216.2.2.2.2.2.2.2.2.2.2.2
set_option maxRecDepth 100000 in
theorem dkAb217 : decode cX10_voices 37 = .ok (.iconst 2, 1) ∧ decode cX10_voices 38 = .ok (.iload_n 2, 1) ∧ decode cX10_voices 39 = .ok (.imul, 1) ∧ decode cX10_voices 40 = .ok (.iconst 1, 1) ∧ decode cX10_voices 41 = .ok (.iadd, 1) ∧ decode cX10_voices 42 = .ok (.iaload, 1) ∧ decode cX10_voices 43 = .ok (.iconst 1, 1) ∧ decode cX10_voices 44 = .ok (.if_icmp .ne 7, 3) ∧ decode cX10_voices 47 = .ok (.iload_n 3, 1) ∧ decode cX10_voices 48 = .ok (.goto 6, 3) ∧ decode cX10_voices 51 = .ok (.iload_n 3, 1) ∧ decode cX10_voices 52 = .ok (.iconst (-1), 1) := by decide +kernel
theorem dX10_voices_37 : decode cX10_voices 37 = .ok (.iconst 2, 1) := dkAb217.1
theorem dX10_voices_38 : decode cX10_voices 38 = .ok (.iload_n 2, 1) := dkAb217.2.1
theorem dX10_voices_39 : decode cX10_voices 39 = .ok (.imul, 1) := dkAb217.2.2.1
theorem dX10_voices_40 : decode cX10_voices 40 = .ok (.iconst 1, 1) := dkAb217.2.2.2.1
theorem dX10_voices_41 : decode cX10_voices 41 = .ok (.iadd, 1) := dkAb217.2.2.2.2.1
theorem dX10_voices_42 : decode cX10_voices 42 = .ok (.iaload, 1) := dkAb217.2.2.2.2.2.1
theorem dX10_voices_43 : decode cX10_voices 43 = .ok (.iconst 1, 1) := dkAb217.2.2.2.2.2.2.1
theorem dX10_voices_44 : decode cX10_voices 44 = .ok (.if_icmp .ne 7, 3) := dkAb217.2.2.2.2.2.2.2.1
theorem dX10_voices_47 : decode cX10_voices 47 = .ok (.iload_n 3, 1) := dkAb217.2.2.2.2.2.2.2.2.1
theorem dX10_voices_48 : decode cX10_voices 48 = .ok (.goto 6, 3) := dkAb217.2.2.2.2.2.2.2.2.2.1
theorem dX10_voices_51 : decode cX10_voices 51 = .ok (.iload_n 3, 1) := dkAb217.2.2.2.2.2.2.2.2.2.2.1
theorem dX10_voices_52 : decode cX10_voices 52 = .ok (.iconst (-1), 1) := dkAb217.2.2.2.2.2.2.2.2.2.2.2
set_option maxRecDepth 100000 in
theorem dkAb218 : decode cX10_voices 53 = .ok (.ixor, 1) ∧ decode cX10_voices 54 = .ok (.iand, 1) ∧ decode cX10_voices 55 = .ok (.istore_n 1, 1) ∧ decode cX10_voices 56 = .ok (.iinc 2 1, 3) ∧ decode cX10_voices 59 = .ok (.goto (-52), 3) ∧ decode cX10_voices 62 = .ok (.iload_n 1, 1) ∧ decode cX10_voices 63 = .ok (.ireturn, 1) := by decide +kernel
theorem dX10_voices_53 : decode cX10_voices 53 = .ok (.ixor, 1) := dkAb218.1
theorem dX10_voices_54 : decode cX10_voices 54 = .ok (.iand, 1) := dkAb218.2.1
theorem dX10_voices_55 : decode cX10_voices 55 = .ok (.istore_n 1, 1) := dkAb218.2.2.1
theorem dX10_voices_56 : decode cX10_voices 56 = .ok (.iinc 2 1, 3) := dkAb218.2.2.2.1
theorem dX10_voices_59 : decode cX10_voices 59 = .ok (.goto (-52), 3) := dkAb218.2.2.2.2.1
theorem dX10_voices_62 : decode cX10_voices 62 = .ok (.iload_n 1, 1) := dkAb218.2.2.2.2.2.1
theorem dX10_voices_63 : decode cX10_voices 63 = .ok (.ireturn, 1) := dkAb218.2.2.2.2.2.2
set_option maxRecDepth 100000 in
theorem dkAb219 : decode cX10_spoke 0 = .ok (.iload_n 1, 1) ∧ decode cX10_spoke 1 = .ok (.i2l, 1) ∧ decode cX10_spoke 2 = .ok (.lconst 0, 1) ∧ decode cX10_spoke 3 = .ok (.lconst 1, 1) ∧ decode cX10_spoke 4 = .ok (.invokestatic 62, 3) ∧ decode cX10_spoke 7 = .ok (.ifCond .ne 6, 3) ∧ decode cX10_spoke 10 = .ok (.ldc 84, 2) ∧ decode cX10_spoke 12 = .ok (.ireturn, 1) ∧ decode cX10_spoke 13 = .ok (.aload_n 0, 1) ∧ decode cX10_spoke 14 = .ok (.invokevirtual 271, 3) ∧ decode cX10_spoke 17 = .ok (.istore_n 2, 1) ∧ decode cX10_spoke 18 = .ok (.iload_n 1, 1) := by decide +kernel
theorem dX10_spoke_0 : decode cX10_spoke 0 = .ok (.iload_n 1, 1) := dkAb219.1
theorem dX10_spoke_1 : decode cX10_spoke 1 = .ok (.i2l, 1) := dkAb219.2.1
theorem dX10_spoke_2 : decode cX10_spoke 2 = .ok (.lconst 0, 1) := dkAb219.2.2.1
theorem dX10_spoke_3 : decode cX10_spoke 3 = .ok (.lconst 1, 1) := dkAb219.2.2.2.1
theorem dX10_spoke_4 : decode cX10_spoke 4 = .ok (.invokestatic 62, 3) := dkAb219.2.2.2.2.1
theorem dX10_spoke_7 : decode cX10_spoke 7 = .ok (.ifCond .ne 6, 3) := dkAb219.2.2.2.2.2.1
theorem dX10_spoke_10 : decode cX10_spoke 10 = .ok (.ldc 84, 2) := dkAb219.2.2.2.2.2.2.1
theorem dX10_spoke_12 : decode cX10_spoke 12 = .ok (.ireturn, 1) := dkAb219.2.2.2.2.2.2.2.1
theorem dX10_spoke_13 : decode cX10_spoke 13 = .ok (.aload_n 0, 1) := dkAb219.2.2.2.2.2.2.2.2.1
theorem dX10_spoke_14 : decode cX10_spoke 14 = .ok (.invokevirtual 271, 3) := dkAb219.2.2.2.2.2.2.2.2.2.1
theorem dX10_spoke_17 : decode cX10_spoke 17 = .ok (.istore_n 2, 1) := dkAb219.2.2.2.2.2.2.2.2.2.2.1
theorem dX10_spoke_18 : decode cX10_spoke 18 = .ok (.iload_n 1, 1) := dkAb219.2.2.2.2.2.2.2.2.2.2.2
set_option maxRecDepth 100000 in
theorem dkAb220 : decode cX10_spoke 19 = .ok (.ifCond .ne 5, 3) ∧ decode cX10_spoke 22 = .ok (.iload_n 2, 1) ∧ decode cX10_spoke 23 = .ok (.ireturn, 1) ∧ decode cX10_spoke 24 = .ok (.iconst 0, 1) ∧ decode cX10_spoke 25 = .ok (.istore_n 3, 1) ∧ decode cX10_spoke 26 = .ok (.iconst 0, 1) ∧ decode cX10_spoke 27 = .ok (.istore 4, 2) ∧ decode cX10_spoke 29 = .ok (.iload 4, 2) ∧ decode cX10_spoke 31 = .ok (.aload_n 0, 1) ∧ decode cX10_spoke 32 = .ok (.getfield 7, 3) ∧ decode cX10_spoke 35 = .ok (.iconst 0, 1) ∧ decode cX10_spoke 36 = .ok (.iaload, 1) := by decide +kernel
theorem dX10_spoke_19 : decode cX10_spoke 19 = .ok (.ifCond .ne 5, 3) := dkAb220.1
theorem dX10_spoke_22 : decode cX10_spoke 22 = .ok (.iload_n 2, 1) := dkAb220.2.1
theorem dX10_spoke_23 : decode cX10_spoke 23 = .ok (.ireturn, 1) := dkAb220.2.2.1
theorem dX10_spoke_24 : decode cX10_spoke 24 = .ok (.iconst 0, 1) := dkAb220.2.2.2.1
theorem dX10_spoke_25 : decode cX10_spoke 25 = .ok (.istore_n 3, 1) := dkAb220.2.2.2.2.1
theorem dX10_spoke_26 : decode cX10_spoke 26 = .ok (.iconst 0, 1) := dkAb220.2.2.2.2.2.1
theorem dX10_spoke_27 : decode cX10_spoke 27 = .ok (.istore 4, 2) := dkAb220.2.2.2.2.2.2.1
theorem dX10_spoke_29 : decode cX10_spoke 29 = .ok (.iload 4, 2) := dkAb220.2.2.2.2.2.2.2.1
theorem dX10_spoke_31 : decode cX10_spoke 31 = .ok (.aload_n 0, 1) := dkAb220.2.2.2.2.2.2.2.2.1
theorem dX10_spoke_32 : decode cX10_spoke 32 = .ok (.getfield 7, 3) := dkAb220.2.2.2.2.2.2.2.2.2.1
theorem dX10_spoke_35 : decode cX10_spoke 35 = .ok (.iconst 0, 1) := dkAb220.2.2.2.2.2.2.2.2.2.2.1
theorem dX10_spoke_36 : decode cX10_spoke 36 = .ok (.iaload, 1) := dkAb220.2.2.2.2.2.2.2.2.2.2.2
set_option maxRecDepth 100000 in
theorem dkAb221 : decode cX10_spoke 37 = .ok (.if_icmp .ge 59, 3) ∧ decode cX10_spoke 40 = .ok (.iload_n 3, 1) ∧ decode cX10_spoke 41 = .ok (.aload_n 0, 1) ∧ decode cX10_spoke 42 = .ok (.iload 4, 2) ∧ decode cX10_spoke 44 = .ok (.invokevirtual 167, 3) ∧ decode cX10_spoke 47 = .ok (.ifCond .eq 40, 3) ∧ decode cX10_spoke 50 = .ok (.aload_n 0, 1) ∧ decode cX10_spoke 51 = .ok (.getfield 16, 3) ∧ decode cX10_spoke 54 = .ok (.iconst 0, 1) ∧ decode cX10_spoke 55 = .ok (.iload 4, 2) ∧ decode cX10_spoke 57 = .ok (.iadd, 1) ∧ decode cX10_spoke 58 = .ok (.iaload, 1) := by decide +kernel
theorem dX10_spoke_37 : decode cX10_spoke 37 = .ok (.if_icmp .ge 59, 3) := dkAb221.1
theorem dX10_spoke_40 : decode cX10_spoke 40 = .ok (.iload_n 3, 1) := dkAb221.2.1
theorem dX10_spoke_41 : decode cX10_spoke 41 = .ok (.aload_n 0, 1) := dkAb221.2.2.1
theorem dX10_spoke_42 : decode cX10_spoke 42 = .ok (.iload 4, 2) := dkAb221.2.2.2.1
theorem dX10_spoke_44 : decode cX10_spoke 44 = .ok (.invokevirtual 167, 3) := dkAb221.2.2.2.2.1
theorem dX10_spoke_47 : decode cX10_spoke 47 = .ok (.ifCond .eq 40, 3) := dkAb221.2.2.2.2.2.1
theorem dX10_spoke_50 : decode cX10_spoke 50 = .ok (.aload_n 0, 1) := dkAb221.2.2.2.2.2.2.1
theorem dX10_spoke_51 : decode cX10_spoke 51 = .ok (.getfield 16, 3) := dkAb221.2.2.2.2.2.2.2.1
theorem dX10_spoke_54 : decode cX10_spoke 54 = .ok (.iconst 0, 1) := dkAb221.2.2.2.2.2.2.2.2.1
theorem dX10_spoke_55 : decode cX10_spoke 55 = .ok (.iload 4, 2) := dkAb221.2.2.2.2.2.2.2.2.2.1
theorem dX10_spoke_57 : decode cX10_spoke 57 = .ok (.iadd, 1) := dkAb221.2.2.2.2.2.2.2.2.2.2.1
theorem dX10_spoke_58 : decode cX10_spoke 58 = .ok (.iaload, 1) := dkAb221.2.2.2.2.2.2.2.2.2.2.2
set_option maxRecDepth 100000 in
theorem dkAb222 : decode cX10_spoke 59 = .ok (.bipush 9, 2) ∧ decode cX10_spoke 61 = .ok (.if_icmp .eq 26, 3) ∧ decode cX10_spoke 64 = .ok (.iload_n 2, 1) ∧ decode cX10_spoke 65 = .ok (.aload_n 0, 1) ∧ decode cX10_spoke 66 = .ok (.getfield 16, 3) ∧ decode cX10_spoke 69 = .ok (.iconst 0, 1) ∧ decode cX10_spoke 70 = .ok (.iload 4, 2) ∧ decode cX10_spoke 72 = .ok (.iadd, 1) ∧ decode cX10_spoke 73 = .ok (.iaload, 1) ∧ decode cX10_spoke 74 = .ok (.invokestatic 134, 3) ∧ decode cX10_spoke 77 = .ok (.ifCond .eq 10, 3) ∧ decode cX10_spoke 80 = .ok (.iconst 1, 1) := by decide +kernel
theorem dX10_spoke_59 : decode cX10_spoke 59 = .ok (.bipush 9, 2) := dkAb222.1
theorem dX10_spoke_61 : decode cX10_spoke 61 = .ok (.if_icmp .eq 26, 3) := dkAb222.2.1
theorem dX10_spoke_64 : decode cX10_spoke 64 = .ok (.iload_n 2, 1) := dkAb222.2.2.1
theorem dX10_spoke_65 : decode cX10_spoke 65 = .ok (.aload_n 0, 1) := dkAb222.2.2.2.1
theorem dX10_spoke_66 : decode cX10_spoke 66 = .ok (.getfield 16, 3) := dkAb222.2.2.2.2.1
theorem dX10_spoke_69 : decode cX10_spoke 69 = .ok (.iconst 0, 1) := dkAb222.2.2.2.2.2.1
theorem dX10_spoke_70 : decode cX10_spoke 70 = .ok (.iload 4, 2) := dkAb222.2.2.2.2.2.2.1
theorem dX10_spoke_72 : decode cX10_spoke 72 = .ok (.iadd, 1) := dkAb222.2.2.2.2.2.2.2.1
theorem dX10_spoke_73 : decode cX10_spoke 73 = .ok (.iaload, 1) := dkAb222.2.2.2.2.2.2.2.2.1
theorem dX10_spoke_74 : decode cX10_spoke 74 = .ok (.invokestatic 134, 3) := dkAb222.2.2.2.2.2.2.2.2.2.1
theorem dX10_spoke_77 : decode cX10_spoke 77 = .ok (.ifCond .eq 10, 3) := dkAb222.2.2.2.2.2.2.2.2.2.2.1
theorem dX10_spoke_80 : decode cX10_spoke 80 = .ok (.iconst 1, 1) := dkAb222.2.2.2.2.2.2.2.2.2.2.2
set_option maxRecDepth 100000 in
theorem dkAb223 : decode cX10_spoke 81 = .ok (.iload 4, 2) ∧ decode cX10_spoke 83 = .ok (.ishl, 1) ∧ decode cX10_spoke 84 = .ok (.goto 4, 3) ∧ decode cX10_spoke 87 = .ok (.iconst 0, 1) ∧ decode cX10_spoke 88 = .ok (.ior, 1) ∧ decode cX10_spoke 89 = .ok (.istore_n 3, 1) ∧ decode cX10_spoke 90 = .ok (.iinc 4 1, 3) ∧ decode cX10_spoke 93 = .ok (.goto (-64), 3) ∧ decode cX10_spoke 96 = .ok (.iload_n 3, 1) ∧ decode cX10_spoke 97 = .ok (.ireturn, 1) := by decide +kernel
theorem dX10_spoke_81 : decode cX10_spoke 81 = .ok (.iload 4, 2) := dkAb223.1
theorem dX10_spoke_83 : decode cX10_spoke 83 = .ok (.ishl, 1) := dkAb223.2.1
theorem dX10_spoke_84 : decode cX10_spoke 84 = .ok (.goto 4, 3) := dkAb223.2.2.1
theorem dX10_spoke_87 : decode cX10_spoke 87 = .ok (.iconst 0, 1) := dkAb223.2.2.2.1
theorem dX10_spoke_88 : decode cX10_spoke 88 = .ok (.ior, 1) := dkAb223.2.2.2.2.1
theorem dX10_spoke_89 : decode cX10_spoke 89 = .ok (.istore_n 3, 1) := dkAb223.2.2.2.2.2.1
theorem dX10_spoke_90 : decode cX10_spoke 90 = .ok (.iinc 4 1, 3) := dkAb223.2.2.2.2.2.2.1
theorem dX10_spoke_93 : decode cX10_spoke 93 = .ok (.goto (-64), 3) := dkAb223.2.2.2.2.2.2.2.1
theorem dX10_spoke_96 : decode cX10_spoke 96 = .ok (.iload_n 3, 1) := dkAb223.2.2.2.2.2.2.2.2.1
theorem dX10_spoke_97 : decode cX10_spoke 97 = .ok (.ireturn, 1) := dkAb223.2.2.2.2.2.2.2.2.2
set_option maxRecDepth 100000 in
theorem dkAb224 : decode cX10_knock 0 = .ok (.aload_n 0, 1) ∧ decode cX10_knock 1 = .ok (.invokevirtual 271, 3) ∧ decode cX10_knock 4 = .ok (.istore_n 1, 1) ∧ decode cX10_knock 5 = .ok (.iload_n 1, 1) ∧ decode cX10_knock 6 = .ok (.invokestatic 241, 3) ∧ decode cX10_knock 9 = .ok (.istore_n 2, 1) ∧ decode cX10_knock 10 = .ok (.iload_n 2, 1) ∧ decode cX10_knock 11 = .ok (.istore_n 3, 1) ∧ decode cX10_knock 12 = .ok (.iconst (-1), 1) ∧ decode cX10_knock 13 = .ok (.istore 4, 2) ∧ decode cX10_knock 15 = .ok (.iconst 0, 1) ∧ decode cX10_knock 16 = .ok (.istore 5, 2) := by decide +kernel
theorem dX10_knock_0 : decode cX10_knock 0 = .ok (.aload_n 0, 1) := dkAb224.1
theorem dX10_knock_1 : decode cX10_knock 1 = .ok (.invokevirtual 271, 3) := dkAb224.2.1
theorem dX10_knock_4 : decode cX10_knock 4 = .ok (.istore_n 1, 1) := dkAb224.2.2.1
theorem dX10_knock_5 : decode cX10_knock 5 = .ok (.iload_n 1, 1) := dkAb224.2.2.2.1
theorem dX10_knock_6 : decode cX10_knock 6 = .ok (.invokestatic 241, 3) := dkAb224.2.2.2.2.1
theorem dX10_knock_9 : decode cX10_knock 9 = .ok (.istore_n 2, 1) := dkAb224.2.2.2.2.2.1
theorem dX10_knock_10 : decode cX10_knock 10 = .ok (.iload_n 2, 1) := dkAb224.2.2.2.2.2.2.1
theorem dX10_knock_11 : decode cX10_knock 11 = .ok (.istore_n 3, 1) := dkAb224.2.2.2.2.2.2.2.1
theorem dX10_knock_12 : decode cX10_knock 12 = .ok (.iconst (-1), 1) := dkAb224.2.2.2.2.2.2.2.2.1
theorem dX10_knock_13 : decode cX10_knock 13 = .ok (.istore 4, 2) := dkAb224.2.2.2.2.2.2.2.2.2.1
theorem dX10_knock_15 : decode cX10_knock 15 = .ok (.iconst 0, 1) := dkAb224.2.2.2.2.2.2.2.2.2.2.1
theorem dX10_knock_16 : decode cX10_knock 16 = .ok (.istore 5, 2) := dkAb224.2.2.2.2.2.2.2.2.2.2.2
set_option maxRecDepth 100000 in
theorem dkAb225 : decode cX10_knock 18 = .ok (.iload 5, 2) ∧ decode cX10_knock 20 = .ok (.aload_n 0, 1) ∧ decode cX10_knock 21 = .ok (.getfield 7, 3) ∧ decode cX10_knock 24 = .ok (.iconst 1, 1) ∧ decode cX10_knock 25 = .ok (.iaload, 1) ∧ decode cX10_knock 26 = .ok (.if_icmp .ge 74, 3) ∧ decode cX10_knock 29 = .ok (.iload_n 1, 1) ∧ decode cX10_knock 30 = .ok (.aload_n 0, 1) ∧ decode cX10_knock 31 = .ok (.getfield 7, 3) ∧ decode cX10_knock 34 = .ok (.bipush 25, 2) ∧ decode cX10_knock 36 = .ok (.iload 5, 2) ∧ decode cX10_knock 38 = .ok (.iadd, 1) := by decide +kernel
theorem dX10_knock_18 : decode cX10_knock 18 = .ok (.iload 5, 2) := dkAb225.1
theorem dX10_knock_20 : decode cX10_knock 20 = .ok (.aload_n 0, 1) := dkAb225.2.1
theorem dX10_knock_21 : decode cX10_knock 21 = .ok (.getfield 7, 3) := dkAb225.2.2.1
theorem dX10_knock_24 : decode cX10_knock 24 = .ok (.iconst 1, 1) := dkAb225.2.2.2.1
theorem dX10_knock_25 : decode cX10_knock 25 = .ok (.iaload, 1) := dkAb225.2.2.2.2.1
theorem dX10_knock_26 : decode cX10_knock 26 = .ok (.if_icmp .ge 74, 3) := dkAb225.2.2.2.2.2.1
theorem dX10_knock_29 : decode cX10_knock 29 = .ok (.iload_n 1, 1) := dkAb225.2.2.2.2.2.2.1
theorem dX10_knock_30 : decode cX10_knock 30 = .ok (.aload_n 0, 1) := dkAb225.2.2.2.2.2.2.2.1
theorem dX10_knock_31 : decode cX10_knock 31 = .ok (.getfield 7, 3) := dkAb225.2.2.2.2.2.2.2.2.1
theorem dX10_knock_34 : decode cX10_knock 34 = .ok (.bipush 25, 2) := dkAb225.2.2.2.2.2.2.2.2.2.1
theorem dX10_knock_36 : decode cX10_knock 36 = .ok (.iload 5, 2) := dkAb225.2.2.2.2.2.2.2.2.2.2.1
theorem dX10_knock_38 : decode cX10_knock 38 = .ok (.iadd, 1) := dkAb225.2.2.2.2.2.2.2.2.2.2.2
set_option maxRecDepth 100000 in
theorem dkAb226 : decode cX10_knock 39 = .ok (.iaload, 1) ∧ decode cX10_knock 40 = .ok (.iand, 1) ∧ decode cX10_knock 41 = .ok (.invokestatic 241, 3) ∧ decode cX10_knock 44 = .ok (.istore 6, 2) ∧ decode cX10_knock 46 = .ok (.iload 6, 2) ∧ decode cX10_knock 48 = .ok (.iload_n 2, 1) ∧ decode cX10_knock 49 = .ok (.iload 6, 2) ∧ decode cX10_knock 51 = .ok (.isub, 1) ∧ decode cX10_knock 52 = .ok (.if_icmp .le 8, 3) ∧ decode cX10_knock 55 = .ok (.iload 6, 2) ∧ decode cX10_knock 57 = .ok (.goto 7, 3) ∧ decode cX10_knock 60 = .ok (.iload_n 2, 1) := by decide +kernel
theorem dX10_knock_39 : decode cX10_knock 39 = .ok (.iaload, 1) := dkAb226.1
theorem dX10_knock_40 : decode cX10_knock 40 = .ok (.iand, 1) := dkAb226.2.1
theorem dX10_knock_41 : decode cX10_knock 41 = .ok (.invokestatic 241, 3) := dkAb226.2.2.1
theorem dX10_knock_44 : decode cX10_knock 44 = .ok (.istore 6, 2) := dkAb226.2.2.2.1
theorem dX10_knock_46 : decode cX10_knock 46 = .ok (.iload 6, 2) := dkAb226.2.2.2.2.1
theorem dX10_knock_48 : decode cX10_knock 48 = .ok (.iload_n 2, 1) := dkAb226.2.2.2.2.2.1
theorem dX10_knock_49 : decode cX10_knock 49 = .ok (.iload 6, 2) := dkAb226.2.2.2.2.2.2.1
theorem dX10_knock_51 : decode cX10_knock 51 = .ok (.isub, 1) := dkAb226.2.2.2.2.2.2.2.1
theorem dX10_knock_52 : decode cX10_knock 52 = .ok (.if_icmp .le 8, 3) := dkAb226.2.2.2.2.2.2.2.2.1
theorem dX10_knock_55 : decode cX10_knock 55 = .ok (.iload 6, 2) := dkAb226.2.2.2.2.2.2.2.2.2.1
theorem dX10_knock_57 : decode cX10_knock 57 = .ok (.goto 7, 3) := dkAb226.2.2.2.2.2.2.2.2.2.2.1
theorem dX10_knock_60 : decode cX10_knock 60 = .ok (.iload_n 2, 1) := dkAb226.2.2.2.2.2.2.2.2.2.2.2
set_option maxRecDepth 100000 in
theorem dkAb227 : decode cX10_knock 61 = .ok (.iload 6, 2) ∧ decode cX10_knock 63 = .ok (.isub, 1) ∧ decode cX10_knock 64 = .ok (.istore 7, 2) ∧ decode cX10_knock 66 = .ok (.iload 7, 2) ∧ decode cX10_knock 68 = .ok (.iload_n 3, 1) ∧ decode cX10_knock 69 = .ok (.if_icmp .ge 8, 3) ∧ decode cX10_knock 72 = .ok (.iload 5, 2) ∧ decode cX10_knock 74 = .ok (.goto 5, 3) ∧ decode cX10_knock 77 = .ok (.iload 4, 2) ∧ decode cX10_knock 79 = .ok (.istore 4, 2) ∧ decode cX10_knock 81 = .ok (.iload 7, 2) ∧ decode cX10_knock 83 = .ok (.iload_n 3, 1) := by decide +kernel
theorem dX10_knock_61 : decode cX10_knock 61 = .ok (.iload 6, 2) := dkAb227.1
theorem dX10_knock_63 : decode cX10_knock 63 = .ok (.isub, 1) := dkAb227.2.1
theorem dX10_knock_64 : decode cX10_knock 64 = .ok (.istore 7, 2) := dkAb227.2.2.1
theorem dX10_knock_66 : decode cX10_knock 66 = .ok (.iload 7, 2) := dkAb227.2.2.2.1
theorem dX10_knock_68 : decode cX10_knock 68 = .ok (.iload_n 3, 1) := dkAb227.2.2.2.2.1
theorem dX10_knock_69 : decode cX10_knock 69 = .ok (.if_icmp .ge 8, 3) := dkAb227.2.2.2.2.2.1
theorem dX10_knock_72 : decode cX10_knock 72 = .ok (.iload 5, 2) := dkAb227.2.2.2.2.2.2.1
theorem dX10_knock_74 : decode cX10_knock 74 = .ok (.goto 5, 3) := dkAb227.2.2.2.2.2.2.2.1
theorem dX10_knock_77 : decode cX10_knock 77 = .ok (.iload 4, 2) := dkAb227.2.2.2.2.2.2.2.2.1
theorem dX10_knock_79 : decode cX10_knock 79 = .ok (.istore 4, 2) := dkAb227.2.2.2.2.2.2.2.2.2.1
theorem dX10_knock_81 : decode cX10_knock 81 = .ok (.iload 7, 2) := dkAb227.2.2.2.2.2.2.2.2.2.2.1
theorem dX10_knock_83 : decode cX10_knock 83 = .ok (.iload_n 3, 1) := dkAb227.2.2.2.2.2.2.2.2.2.2.2
set_option maxRecDepth 100000 in
theorem dkAb228 : decode cX10_knock 84 = .ok (.if_icmp .ge 8, 3) ∧ decode cX10_knock 87 = .ok (.iload 7, 2) ∧ decode cX10_knock 89 = .ok (.goto 4, 3) ∧ decode cX10_knock 92 = .ok (.iload_n 3, 1) ∧ decode cX10_knock 93 = .ok (.istore_n 3, 1) ∧ decode cX10_knock 94 = .ok (.iinc 5 1, 3) ∧ decode cX10_knock 97 = .ok (.goto (-79), 3) ∧ decode cX10_knock 100 = .ok (.iload 4, 2) ∧ decode cX10_knock 102 = .ok (.ireturn, 1) := by decide +kernel
theorem dX10_knock_84 : decode cX10_knock 84 = .ok (.if_icmp .ge 8, 3) := dkAb228.1
theorem dX10_knock_87 : decode cX10_knock 87 = .ok (.iload 7, 2) := dkAb228.2.1
theorem dX10_knock_89 : decode cX10_knock 89 = .ok (.goto 4, 3) := dkAb228.2.2.1
theorem dX10_knock_92 : decode cX10_knock 92 = .ok (.iload_n 3, 1) := dkAb228.2.2.2.1
theorem dX10_knock_93 : decode cX10_knock 93 = .ok (.istore_n 3, 1) := dkAb228.2.2.2.2.1
theorem dX10_knock_94 : decode cX10_knock 94 = .ok (.iinc 5 1, 3) := dkAb228.2.2.2.2.2.1
theorem dX10_knock_97 : decode cX10_knock 97 = .ok (.goto (-79), 3) := dkAb228.2.2.2.2.2.2.1
theorem dX10_knock_100 : decode cX10_knock 100 = .ok (.iload 4, 2) := dkAb228.2.2.2.2.2.2.2.1
theorem dX10_knock_102 : decode cX10_knock 102 = .ok (.ireturn, 1) := dkAb228.2.2.2.2.2.2.2.2
set_option maxRecDepth 100000 in
theorem dkAb229 : decode cX10_isUse 0 = .ok (.iload_n 0, 1) ∧ decode cX10_isUse 1 = .ok (.invokestatic 205, 3) ∧ decode cX10_isUse 4 = .ok (.ifCond .ne 9, 3) ∧ decode cX10_isUse 7 = .ok (.iload_n 0, 1) ∧ decode cX10_isUse 8 = .ok (.bipush 9, 2) ∧ decode cX10_isUse 10 = .ok (.if_icmp .ne 7, 3) ∧ decode cX10_isUse 13 = .ok (.iconst 1, 1) ∧ decode cX10_isUse 14 = .ok (.goto 4, 3) ∧ decode cX10_isUse 17 = .ok (.iconst 0, 1) ∧ decode cX10_isUse 18 = .ok (.ireturn, 1) := by decide +kernel
theorem dX10_isUse_0 : decode cX10_isUse 0 = .ok (.iload_n 0, 1) := dkAb229.1
theorem dX10_isUse_1 : decode cX10_isUse 1 = .ok (.invokestatic 205, 3) := dkAb229.2.1
theorem dX10_isUse_4 : decode cX10_isUse 4 = .ok (.ifCond .ne 9, 3) := dkAb229.2.2.1
theorem dX10_isUse_7 : decode cX10_isUse 7 = .ok (.iload_n 0, 1) := dkAb229.2.2.2.1
theorem dX10_isUse_8 : decode cX10_isUse 8 = .ok (.bipush 9, 2) := dkAb229.2.2.2.2.1
theorem dX10_isUse_10 : decode cX10_isUse 10 = .ok (.if_icmp .ne 7, 3) := dkAb229.2.2.2.2.2.1
theorem dX10_isUse_13 : decode cX10_isUse 13 = .ok (.iconst 1, 1) := dkAb229.2.2.2.2.2.2.1
theorem dX10_isUse_14 : decode cX10_isUse 14 = .ok (.goto 4, 3) := dkAb229.2.2.2.2.2.2.2.1
theorem dX10_isUse_17 : decode cX10_isUse 17 = .ok (.iconst 0, 1) := dkAb229.2.2.2.2.2.2.2.2.1
theorem dX10_isUse_18 : decode cX10_isUse 18 = .ok (.ireturn, 1) := dkAb229.2.2.2.2.2.2.2.2.2
set_option maxRecDepth 100000 in
theorem dkAb230 : decode cX10_has 0 = .ok (.aload_n 0, 1) ∧ decode cX10_has 1 = .ok (.iload_n 1, 1) ∧ decode cX10_has 2 = .ok (.invokevirtual 179, 3) ∧ decode cX10_has 5 = .ok (.ifCond .eq 10, 3) ∧ decode cX10_has 8 = .ok (.iload_n 2, 1) ∧ decode cX10_has 9 = .ok (.invokestatic 274, 3) ∧ decode cX10_has 12 = .ok (.ifCond .ne 6, 3) ∧ decode cX10_has 15 = .ok (.ldc 182, 2) ∧ decode cX10_has 17 = .ok (.ireturn, 1) ∧ decode cX10_has 18 = .ok (.aload_n 0, 1) ∧ decode cX10_has 19 = .ok (.getfield 76, 3) ∧ decode cX10_has 22 = .ok (.bipush 6, 2) := by decide +kernel
theorem dX10_has_0 : decode cX10_has 0 = .ok (.aload_n 0, 1) := dkAb230.1
theorem dX10_has_1 : decode cX10_has 1 = .ok (.iload_n 1, 1) := dkAb230.2.1
theorem dX10_has_2 : decode cX10_has 2 = .ok (.invokevirtual 179, 3) := dkAb230.2.2.1
theorem dX10_has_5 : decode cX10_has 5 = .ok (.ifCond .eq 10, 3) := dkAb230.2.2.2.1
theorem dX10_has_8 : decode cX10_has 8 = .ok (.iload_n 2, 1) := dkAb230.2.2.2.2.1
theorem dX10_has_9 : decode cX10_has 9 = .ok (.invokestatic 274, 3) := dkAb230.2.2.2.2.2.1
theorem dX10_has_12 : decode cX10_has 12 = .ok (.ifCond .ne 6, 3) := dkAb230.2.2.2.2.2.2.1
theorem dX10_has_15 : decode cX10_has 15 = .ok (.ldc 182, 2) := dkAb230.2.2.2.2.2.2.2.1
theorem dX10_has_17 : decode cX10_has 17 = .ok (.ireturn, 1) := dkAb230.2.2.2.2.2.2.2.2.1
theorem dX10_has_18 : decode cX10_has 18 = .ok (.aload_n 0, 1) := dkAb230.2.2.2.2.2.2.2.2.2.1
theorem dX10_has_19 : decode cX10_has 19 = .ok (.getfield 76, 3) := dkAb230.2.2.2.2.2.2.2.2.2.2.1
theorem dX10_has_22 : decode cX10_has 22 = .ok (.bipush 6, 2) := dkAb230.2.2.2.2.2.2.2.2.2.2.2
set_option maxRecDepth 100000 in
theorem dkAb231 : decode cX10_has 24 = .ok (.if_icmp .ne 6, 3) ∧ decode cX10_has 27 = .ok (.ldc 88, 2) ∧ decode cX10_has 29 = .ok (.ireturn, 1) ∧ decode cX10_has 30 = .ok (.aload_n 0, 1) ∧ decode cX10_has 31 = .ok (.getfield 42, 3) ∧ decode cX10_has 34 = .ok (.iconst 2, 1) ∧ decode cX10_has 35 = .ok (.aload_n 0, 1) ∧ decode cX10_has 36 = .ok (.getfield 76, 3) ∧ decode cX10_has 39 = .ok (.imul, 1) ∧ decode cX10_has 40 = .ok (.iload_n 1, 1) ∧ decode cX10_has 41 = .ok (.iastore, 1) ∧ decode cX10_has 42 = .ok (.aload_n 0, 1) := by decide +kernel
theorem dX10_has_24 : decode cX10_has 24 = .ok (.if_icmp .ne 6, 3) := dkAb231.1
theorem dX10_has_27 : decode cX10_has 27 = .ok (.ldc 88, 2) := dkAb231.2.1
theorem dX10_has_29 : decode cX10_has 29 = .ok (.ireturn, 1) := dkAb231.2.2.1
theorem dX10_has_30 : decode cX10_has 30 = .ok (.aload_n 0, 1) := dkAb231.2.2.2.1
theorem dX10_has_31 : decode cX10_has 31 = .ok (.getfield 42, 3) := dkAb231.2.2.2.2.1
theorem dX10_has_34 : decode cX10_has 34 = .ok (.iconst 2, 1) := dkAb231.2.2.2.2.2.1
theorem dX10_has_35 : decode cX10_has 35 = .ok (.aload_n 0, 1) := dkAb231.2.2.2.2.2.2.1
theorem dX10_has_36 : decode cX10_has 36 = .ok (.getfield 76, 3) := dkAb231.2.2.2.2.2.2.2.1
theorem dX10_has_39 : decode cX10_has 39 = .ok (.imul, 1) := dkAb231.2.2.2.2.2.2.2.2.1
theorem dX10_has_40 : decode cX10_has 40 = .ok (.iload_n 1, 1) := dkAb231.2.2.2.2.2.2.2.2.2.1
theorem dX10_has_41 : decode cX10_has 41 = .ok (.iastore, 1) := dkAb231.2.2.2.2.2.2.2.2.2.2.1
theorem dX10_has_42 : decode cX10_has 42 = .ok (.aload_n 0, 1) := dkAb231.2.2.2.2.2.2.2.2.2.2.2
set_option maxRecDepth 100000 in
theorem dkAb232 : decode cX10_has 43 = .ok (.getfield 42, 3) ∧ decode cX10_has 46 = .ok (.iconst 2, 1) ∧ decode cX10_has 47 = .ok (.aload_n 0, 1) ∧ decode cX10_has 48 = .ok (.getfield 76, 3) ∧ decode cX10_has 51 = .ok (.imul, 1) ∧ decode cX10_has 52 = .ok (.iconst 1, 1) ∧ decode cX10_has 53 = .ok (.iadd, 1) ∧ decode cX10_has 54 = .ok (.iload_n 2, 1) ∧ decode cX10_has 55 = .ok (.iastore, 1) ∧ decode cX10_has 56 = .ok (.aload_n 0, 1) ∧ decode cX10_has 57 = .ok (.dup, 1) ∧ decode cX10_has 58 = .ok (.getfield 76, 3) := by decide +kernel
theorem dX10_has_43 : decode cX10_has 43 = .ok (.getfield 42, 3) := dkAb232.1
theorem dX10_has_46 : decode cX10_has 46 = .ok (.iconst 2, 1) := dkAb232.2.1
theorem dX10_has_47 : decode cX10_has 47 = .ok (.aload_n 0, 1) := dkAb232.2.2.1
theorem dX10_has_48 : decode cX10_has 48 = .ok (.getfield 76, 3) := dkAb232.2.2.2.1
theorem dX10_has_51 : decode cX10_has 51 = .ok (.imul, 1) := dkAb232.2.2.2.2.1
theorem dX10_has_52 : decode cX10_has 52 = .ok (.iconst 1, 1) := dkAb232.2.2.2.2.2.1
theorem dX10_has_53 : decode cX10_has 53 = .ok (.iadd, 1) := dkAb232.2.2.2.2.2.2.1
theorem dX10_has_54 : decode cX10_has 54 = .ok (.iload_n 2, 1) := dkAb232.2.2.2.2.2.2.2.1
theorem dX10_has_55 : decode cX10_has 55 = .ok (.iastore, 1) := dkAb232.2.2.2.2.2.2.2.2.1
theorem dX10_has_56 : decode cX10_has 56 = .ok (.aload_n 0, 1) := dkAb232.2.2.2.2.2.2.2.2.2.1
theorem dX10_has_57 : decode cX10_has 57 = .ok (.dup, 1) := dkAb232.2.2.2.2.2.2.2.2.2.2.1
theorem dX10_has_58 : decode cX10_has 58 = .ok (.getfield 76, 3) := dkAb232.2.2.2.2.2.2.2.2.2.2.2
set_option maxRecDepth 100000 in
theorem dkAb233 : decode cX10_has 61 = .ok (.iconst 1, 1) ∧ decode cX10_has 62 = .ok (.iadd, 1) ∧ decode cX10_has 63 = .ok (.putfield 76, 3) ∧ decode cX10_has 66 = .ok (.aload_n 0, 1) ∧ decode cX10_has 67 = .ok (.getfield 76, 3) ∧ decode cX10_has 70 = .ok (.ireturn, 1) := by decide +kernel
theorem dX10_has_61 : decode cX10_has 61 = .ok (.iconst 1, 1) := dkAb233.1
theorem dX10_has_62 : decode cX10_has 62 = .ok (.iadd, 1) := dkAb233.2.1
theorem dX10_has_63 : decode cX10_has 63 = .ok (.putfield 76, 3) := dkAb233.2.2.1
theorem dX10_has_66 : decode cX10_has 66 = .ok (.aload_n 0, 1) := dkAb233.2.2.2.1
theorem dX10_has_67 : decode cX10_has 67 = .ok (.getfield 76, 3) := dkAb233.2.2.2.2.1
theorem dX10_has_70 : decode cX10_has 70 = .ok (.ireturn, 1) := dkAb233.2.2.2.2.2
set_option maxRecDepth 100000 in
theorem dkAb234 : decode cX10_isSo 0 = .ok (.iconst 0, 1) ∧ decode cX10_isSo 1 = .ok (.istore_n 3, 1) ∧ decode cX10_isSo 2 = .ok (.iload_n 1, 1) ∧ decode cX10_isSo 3 = .ok (.istore 4, 2) ∧ decode cX10_isSo 5 = .ok (.iload 4, 2) ∧ decode cX10_isSo 7 = .ok (.ifCond .le 54, 3) ∧ decode cX10_isSo 10 = .ok (.iload 4, 2) ∧ decode cX10_isSo 12 = .ok (.bipush 10, 2) ∧ decode cX10_isSo 14 = .ok (.irem, 1) ∧ decode cX10_isSo 15 = .ok (.iconst 1, 1) ∧ decode cX10_isSo 16 = .ok (.isub, 1) ∧ decode cX10_isSo 17 = .ok (.istore 5, 2) := by decide +kernel
theorem dX10_isSo_0 : decode cX10_isSo 0 = .ok (.iconst 0, 1) := dkAb234.1
theorem dX10_isSo_1 : decode cX10_isSo 1 = .ok (.istore_n 3, 1) := dkAb234.2.1
theorem dX10_isSo_2 : decode cX10_isSo 2 = .ok (.iload_n 1, 1) := dkAb234.2.2.1
theorem dX10_isSo_3 : decode cX10_isSo 3 = .ok (.istore 4, 2) := dkAb234.2.2.2.1
theorem dX10_isSo_5 : decode cX10_isSo 5 = .ok (.iload 4, 2) := dkAb234.2.2.2.2.1
theorem dX10_isSo_7 : decode cX10_isSo 7 = .ok (.ifCond .le 54, 3) := dkAb234.2.2.2.2.2.1
theorem dX10_isSo_10 : decode cX10_isSo 10 = .ok (.iload 4, 2) := dkAb234.2.2.2.2.2.2.1
theorem dX10_isSo_12 : decode cX10_isSo 12 = .ok (.bipush 10, 2) := dkAb234.2.2.2.2.2.2.2.1
theorem dX10_isSo_14 : decode cX10_isSo 14 = .ok (.irem, 1) := dkAb234.2.2.2.2.2.2.2.2.1
theorem dX10_isSo_15 : decode cX10_isSo 15 = .ok (.iconst 1, 1) := dkAb234.2.2.2.2.2.2.2.2.2.1
theorem dX10_isSo_16 : decode cX10_isSo 16 = .ok (.isub, 1) := dkAb234.2.2.2.2.2.2.2.2.2.2.1
theorem dX10_isSo_17 : decode cX10_isSo 17 = .ok (.istore 5, 2) := dkAb234.2.2.2.2.2.2.2.2.2.2.2
set_option maxRecDepth 100000 in
theorem dkAb235 : decode cX10_isSo 19 = .ok (.iload 5, 2) ∧ decode cX10_isSo 21 = .ok (.ifCond .lt 21, 3) ∧ decode cX10_isSo 24 = .ok (.iload_n 2, 1) ∧ decode cX10_isSo 25 = .ok (.iload 5, 2) ∧ decode cX10_isSo 27 = .ok (.invokestatic 134, 3) ∧ decode cX10_isSo 30 = .ok (.ifCond .eq 12, 3) ∧ decode cX10_isSo 33 = .ok (.iload_n 3, 1) ∧ decode cX10_isSo 34 = .ok (.iload 5, 2) ∧ decode cX10_isSo 36 = .ok (.invokestatic 134, 3) ∧ decode cX10_isSo 39 = .ok (.ifCond .eq 5, 3) ∧ decode cX10_isSo 42 = .ok (.iconst 0, 1) ∧ decode cX10_isSo 43 = .ok (.ireturn, 1) := by decide +kernel
theorem dX10_isSo_19 : decode cX10_isSo 19 = .ok (.iload 5, 2) := dkAb235.1
theorem dX10_isSo_21 : decode cX10_isSo 21 = .ok (.ifCond .lt 21, 3) := dkAb235.2.1
theorem dX10_isSo_24 : decode cX10_isSo 24 = .ok (.iload_n 2, 1) := dkAb235.2.2.1
theorem dX10_isSo_25 : decode cX10_isSo 25 = .ok (.iload 5, 2) := dkAb235.2.2.2.1
theorem dX10_isSo_27 : decode cX10_isSo 27 = .ok (.invokestatic 134, 3) := dkAb235.2.2.2.2.1
theorem dX10_isSo_30 : decode cX10_isSo 30 = .ok (.ifCond .eq 12, 3) := dkAb235.2.2.2.2.2.1
theorem dX10_isSo_33 : decode cX10_isSo 33 = .ok (.iload_n 3, 1) := dkAb235.2.2.2.2.2.2.1
theorem dX10_isSo_34 : decode cX10_isSo 34 = .ok (.iload 5, 2) := dkAb235.2.2.2.2.2.2.2.1
theorem dX10_isSo_36 : decode cX10_isSo 36 = .ok (.invokestatic 134, 3) := dkAb235.2.2.2.2.2.2.2.2.1
theorem dX10_isSo_39 : decode cX10_isSo 39 = .ok (.ifCond .eq 5, 3) := dkAb235.2.2.2.2.2.2.2.2.2.1
theorem dX10_isSo_42 : decode cX10_isSo 42 = .ok (.iconst 0, 1) := dkAb235.2.2.2.2.2.2.2.2.2.2.1
theorem dX10_isSo_43 : decode cX10_isSo 43 = .ok (.ireturn, 1) := dkAb235.2.2.2.2.2.2.2.2.2.2.2
set_option maxRecDepth 100000 in
theorem dkAb236 : decode cX10_isSo 44 = .ok (.iload_n 3, 1) ∧ decode cX10_isSo 45 = .ok (.iconst 1, 1) ∧ decode cX10_isSo 46 = .ok (.iload 5, 2) ∧ decode cX10_isSo 48 = .ok (.ishl, 1) ∧ decode cX10_isSo 49 = .ok (.ior, 1) ∧ decode cX10_isSo 50 = .ok (.istore_n 3, 1) ∧ decode cX10_isSo 51 = .ok (.iload 4, 2) ∧ decode cX10_isSo 53 = .ok (.bipush 10, 2) ∧ decode cX10_isSo 55 = .ok (.idiv, 1) ∧ decode cX10_isSo 56 = .ok (.istore 4, 2) ∧ decode cX10_isSo 58 = .ok (.goto (-53), 3) ∧ decode cX10_isSo 61 = .ok (.iload_n 3, 1) := by decide +kernel
theorem dX10_isSo_44 : decode cX10_isSo 44 = .ok (.iload_n 3, 1) := dkAb236.1
theorem dX10_isSo_45 : decode cX10_isSo 45 = .ok (.iconst 1, 1) := dkAb236.2.1
theorem dX10_isSo_46 : decode cX10_isSo 46 = .ok (.iload 5, 2) := dkAb236.2.2.1
theorem dX10_isSo_48 : decode cX10_isSo 48 = .ok (.ishl, 1) := dkAb236.2.2.2.1
theorem dX10_isSo_49 : decode cX10_isSo 49 = .ok (.ior, 1) := dkAb236.2.2.2.2.1
theorem dX10_isSo_50 : decode cX10_isSo 50 = .ok (.istore_n 3, 1) := dkAb236.2.2.2.2.2.1
theorem dX10_isSo_51 : decode cX10_isSo 51 = .ok (.iload 4, 2) := dkAb236.2.2.2.2.2.2.1
theorem dX10_isSo_53 : decode cX10_isSo 53 = .ok (.bipush 10, 2) := dkAb236.2.2.2.2.2.2.2.1
theorem dX10_isSo_55 : decode cX10_isSo 55 = .ok (.idiv, 1) := dkAb236.2.2.2.2.2.2.2.2.1
theorem dX10_isSo_56 : decode cX10_isSo 56 = .ok (.istore 4, 2) := dkAb236.2.2.2.2.2.2.2.2.2.1
theorem dX10_isSo_58 : decode cX10_isSo 58 = .ok (.goto (-53), 3) := dkAb236.2.2.2.2.2.2.2.2.2.2.1
theorem dX10_isSo_61 : decode cX10_isSo 61 = .ok (.iload_n 3, 1) := dkAb236.2.2.2.2.2.2.2.2.2.2.2
set_option maxRecDepth 100000 in
theorem dkAb237 : decode cX10_isSo 62 = .ok (.iload_n 2, 1) ∧ decode cX10_isSo 63 = .ok (.if_icmp .eq 5, 3) ∧ decode cX10_isSo 66 = .ok (.iconst 0, 1) ∧ decode cX10_isSo 67 = .ok (.ireturn, 1) ∧ decode cX10_isSo 68 = .ok (.aload_n 0, 1) ∧ decode cX10_isSo 69 = .ok (.invokevirtual 231, 3) ∧ decode cX10_isSo 72 = .ok (.aload_n 0, 1) ∧ decode cX10_isSo 73 = .ok (.iload_n 1, 1) ∧ decode cX10_isSo 74 = .ok (.invokevirtual 234, 3) ∧ decode cX10_isSo 77 = .ok (.iconst 1, 1) ∧ decode cX10_isSo 78 = .ok (.istore 4, 2) ∧ decode cX10_isSo 80 = .ok (.iconst 0, 1) := by decide +kernel
theorem dX10_isSo_62 : decode cX10_isSo 62 = .ok (.iload_n 2, 1) := dkAb237.1
theorem dX10_isSo_63 : decode cX10_isSo 63 = .ok (.if_icmp .eq 5, 3) := dkAb237.2.1
theorem dX10_isSo_66 : decode cX10_isSo 66 = .ok (.iconst 0, 1) := dkAb237.2.2.1
theorem dX10_isSo_67 : decode cX10_isSo 67 = .ok (.ireturn, 1) := dkAb237.2.2.2.1
theorem dX10_isSo_68 : decode cX10_isSo 68 = .ok (.aload_n 0, 1) := dkAb237.2.2.2.2.1
theorem dX10_isSo_69 : decode cX10_isSo 69 = .ok (.invokevirtual 231, 3) := dkAb237.2.2.2.2.2.1
theorem dX10_isSo_72 : decode cX10_isSo 72 = .ok (.aload_n 0, 1) := dkAb237.2.2.2.2.2.2.1
theorem dX10_isSo_73 : decode cX10_isSo 73 = .ok (.iload_n 1, 1) := dkAb237.2.2.2.2.2.2.2.1
theorem dX10_isSo_74 : decode cX10_isSo 74 = .ok (.invokevirtual 234, 3) := dkAb237.2.2.2.2.2.2.2.2.1
theorem dX10_isSo_77 : decode cX10_isSo 77 = .ok (.iconst 1, 1) := dkAb237.2.2.2.2.2.2.2.2.2.1
theorem dX10_isSo_78 : decode cX10_isSo 78 = .ok (.istore 4, 2) := dkAb237.2.2.2.2.2.2.2.2.2.2.1
theorem dX10_isSo_80 : decode cX10_isSo 80 = .ok (.iconst 0, 1) := dkAb237.2.2.2.2.2.2.2.2.2.2.2
set_option maxRecDepth 100000 in
theorem dkAb238 : decode cX10_isSo 81 = .ok (.istore 5, 2) ∧ decode cX10_isSo 83 = .ok (.iload 5, 2) ∧ decode cX10_isSo 85 = .ok (.aload_n 0, 1) ∧ decode cX10_isSo 86 = .ok (.getfield 76, 3) ∧ decode cX10_isSo 89 = .ok (.if_icmp .ge 51, 3) ∧ decode cX10_isSo 92 = .ok (.iload 4, 2) ∧ decode cX10_isSo 94 = .ok (.ifCond .eq 37, 3) ∧ decode cX10_isSo 97 = .ok (.aload_n 0, 1) ∧ decode cX10_isSo 98 = .ok (.getfield 19, 3) ∧ decode cX10_isSo 101 = .ok (.iconst 0, 1) ∧ decode cX10_isSo 102 = .ok (.aload_n 0, 1) ∧ decode cX10_isSo 103 = .ok (.getfield 42, 3) := by decide +kernel
theorem dX10_isSo_81 : decode cX10_isSo 81 = .ok (.istore 5, 2) := dkAb238.1
theorem dX10_isSo_83 : decode cX10_isSo 83 = .ok (.iload 5, 2) := dkAb238.2.1
theorem dX10_isSo_85 : decode cX10_isSo 85 = .ok (.aload_n 0, 1) := dkAb238.2.2.1
theorem dX10_isSo_86 : decode cX10_isSo 86 = .ok (.getfield 76, 3) := dkAb238.2.2.2.1
theorem dX10_isSo_89 : decode cX10_isSo 89 = .ok (.if_icmp .ge 51, 3) := dkAb238.2.2.2.2.1
theorem dX10_isSo_92 : decode cX10_isSo 92 = .ok (.iload 4, 2) := dkAb238.2.2.2.2.2.1
theorem dX10_isSo_94 : decode cX10_isSo 94 = .ok (.ifCond .eq 37, 3) := dkAb238.2.2.2.2.2.2.1
theorem dX10_isSo_97 : decode cX10_isSo 97 = .ok (.aload_n 0, 1) := dkAb238.2.2.2.2.2.2.2.1
theorem dX10_isSo_98 : decode cX10_isSo 98 = .ok (.getfield 19, 3) := dkAb238.2.2.2.2.2.2.2.2.1
theorem dX10_isSo_101 : decode cX10_isSo 101 = .ok (.iconst 0, 1) := dkAb238.2.2.2.2.2.2.2.2.2.1
theorem dX10_isSo_102 : decode cX10_isSo 102 = .ok (.aload_n 0, 1) := dkAb238.2.2.2.2.2.2.2.2.2.2.1
theorem dX10_isSo_103 : decode cX10_isSo 103 = .ok (.getfield 42, 3) := dkAb238.2.2.2.2.2.2.2.2.2.2.2
set_option maxRecDepth 100000 in
theorem dkAb239 : decode cX10_isSo 106 = .ok (.iconst 2, 1) ∧ decode cX10_isSo 107 = .ok (.iload 5, 2) ∧ decode cX10_isSo 109 = .ok (.imul, 1) ∧ decode cX10_isSo 110 = .ok (.iaload, 1) ∧ decode cX10_isSo 111 = .ok (.iadd, 1) ∧ decode cX10_isSo 112 = .ok (.iaload, 1) ∧ decode cX10_isSo 113 = .ok (.aload_n 0, 1) ∧ decode cX10_isSo 114 = .ok (.getfield 42, 3) ∧ decode cX10_isSo 117 = .ok (.iconst 2, 1) ∧ decode cX10_isSo 118 = .ok (.iload 5, 2) ∧ decode cX10_isSo 120 = .ok (.imul, 1) ∧ decode cX10_isSo 121 = .ok (.iconst 1, 1) := by decide +kernel
theorem dX10_isSo_106 : decode cX10_isSo 106 = .ok (.iconst 2, 1) := dkAb239.1
theorem dX10_isSo_107 : decode cX10_isSo 107 = .ok (.iload 5, 2) := dkAb239.2.1
theorem dX10_isSo_109 : decode cX10_isSo 109 = .ok (.imul, 1) := dkAb239.2.2.1
theorem dX10_isSo_110 : decode cX10_isSo 110 = .ok (.iaload, 1) := dkAb239.2.2.2.1
theorem dX10_isSo_111 : decode cX10_isSo 111 = .ok (.iadd, 1) := dkAb239.2.2.2.2.1
theorem dX10_isSo_112 : decode cX10_isSo 112 = .ok (.iaload, 1) := dkAb239.2.2.2.2.2.1
theorem dX10_isSo_113 : decode cX10_isSo 113 = .ok (.aload_n 0, 1) := dkAb239.2.2.2.2.2.2.1
theorem dX10_isSo_114 : decode cX10_isSo 114 = .ok (.getfield 42, 3) := dkAb239.2.2.2.2.2.2.2.1
theorem dX10_isSo_117 : decode cX10_isSo 117 = .ok (.iconst 2, 1) := dkAb239.2.2.2.2.2.2.2.2.1
theorem dX10_isSo_118 : decode cX10_isSo 118 = .ok (.iload 5, 2) := dkAb239.2.2.2.2.2.2.2.2.2.1
theorem dX10_isSo_120 : decode cX10_isSo 120 = .ok (.imul, 1) := dkAb239.2.2.2.2.2.2.2.2.2.2.1
theorem dX10_isSo_121 : decode cX10_isSo 121 = .ok (.iconst 1, 1) := dkAb239.2.2.2.2.2.2.2.2.2.2.2
set_option maxRecDepth 100000 in
theorem dkAb240 : decode cX10_isSo 122 = .ok (.iadd, 1) ∧ decode cX10_isSo 123 = .ok (.iaload, 1) ∧ decode cX10_isSo 124 = .ok (.if_icmp .ne 7, 3) ∧ decode cX10_isSo 127 = .ok (.iconst 1, 1) ∧ decode cX10_isSo 128 = .ok (.goto 4, 3) ∧ decode cX10_isSo 131 = .ok (.iconst 0, 1) ∧ decode cX10_isSo 132 = .ok (.istore 4, 2) ∧ decode cX10_isSo 134 = .ok (.iinc 5 1, 3) ∧ decode cX10_isSo 137 = .ok (.goto (-54), 3) ∧ decode cX10_isSo 140 = .ok (.iload 4, 2) ∧ decode cX10_isSo 142 = .ok (.ireturn, 1) := by decide +kernel
theorem dX10_isSo_122 : decode cX10_isSo 122 = .ok (.iadd, 1) := dkAb240.1
theorem dX10_isSo_123 : decode cX10_isSo 123 = .ok (.iaload, 1) := dkAb240.2.1
theorem dX10_isSo_124 : decode cX10_isSo 124 = .ok (.if_icmp .ne 7, 3) := dkAb240.2.2.1
theorem dX10_isSo_127 : decode cX10_isSo 127 = .ok (.iconst 1, 1) := dkAb240.2.2.2.1
theorem dX10_isSo_128 : decode cX10_isSo 128 = .ok (.goto 4, 3) := dkAb240.2.2.2.2.1
theorem dX10_isSo_131 : decode cX10_isSo 131 = .ok (.iconst 0, 1) := dkAb240.2.2.2.2.2.1
theorem dX10_isSo_132 : decode cX10_isSo 132 = .ok (.istore 4, 2) := dkAb240.2.2.2.2.2.2.1
theorem dX10_isSo_134 : decode cX10_isSo 134 = .ok (.iinc 5 1, 3) := dkAb240.2.2.2.2.2.2.2.1
theorem dX10_isSo_137 : decode cX10_isSo 137 = .ok (.goto (-54), 3) := dkAb240.2.2.2.2.2.2.2.2.1
theorem dX10_isSo_140 : decode cX10_isSo 140 = .ok (.iload 4, 2) := dkAb240.2.2.2.2.2.2.2.2.2.1
theorem dX10_isSo_142 : decode cX10_isSo 142 = .ok (.ireturn, 1) := dkAb240.2.2.2.2.2.2.2.2.2.2
set_option maxRecDepth 100000 in
theorem dkAb241 : decode cX10_orders 0 = .ok (.aload_n 0, 1) ∧ decode cX10_orders 1 = .ok (.iload_n 1, 1) ∧ decode cX10_orders 2 = .ok (.invokevirtual 264, 3) ∧ decode cX10_orders 5 = .ok (.ifCond .ne 6, 3) ∧ decode cX10_orders 8 = .ok (.ldc 182, 2) ∧ decode cX10_orders 10 = .ok (.ireturn, 1) ∧ decode cX10_orders 11 = .ok (.iload_n 1, 1) ∧ decode cX10_orders 12 = .ok (.invokestatic 241, 3) ∧ decode cX10_orders 15 = .ok (.iconst 4, 1) ∧ decode cX10_orders 16 = .ok (.if_icmp .le 6, 3) ∧ decode cX10_orders 19 = .ok (.ldc 84, 2) ∧ decode cX10_orders 21 = .ok (.ireturn, 1) := by decide +kernel
theorem dX10_orders_0 : decode cX10_orders 0 = .ok (.aload_n 0, 1) := dkAb241.1
theorem dX10_orders_1 : decode cX10_orders 1 = .ok (.iload_n 1, 1) := dkAb241.2.1
theorem dX10_orders_2 : decode cX10_orders 2 = .ok (.invokevirtual 264, 3) := dkAb241.2.2.1
theorem dX10_orders_5 : decode cX10_orders 5 = .ok (.ifCond .ne 6, 3) := dkAb241.2.2.2.1
theorem dX10_orders_8 : decode cX10_orders 8 = .ok (.ldc 182, 2) := dkAb241.2.2.2.2.1
theorem dX10_orders_10 : decode cX10_orders 10 = .ok (.ireturn, 1) := dkAb241.2.2.2.2.2.1
theorem dX10_orders_11 : decode cX10_orders 11 = .ok (.iload_n 1, 1) := dkAb241.2.2.2.2.2.2.1
theorem dX10_orders_12 : decode cX10_orders 12 = .ok (.invokestatic 241, 3) := dkAb241.2.2.2.2.2.2.2.1
theorem dX10_orders_15 : decode cX10_orders 15 = .ok (.iconst 4, 1) := dkAb241.2.2.2.2.2.2.2.2.1
theorem dX10_orders_16 : decode cX10_orders 16 = .ok (.if_icmp .le 6, 3) := dkAb241.2.2.2.2.2.2.2.2.2.1
theorem dX10_orders_19 : decode cX10_orders 19 = .ok (.ldc 84, 2) := dkAb241.2.2.2.2.2.2.2.2.2.2.1
theorem dX10_orders_21 : decode cX10_orders 21 = .ok (.ireturn, 1) := dkAb241.2.2.2.2.2.2.2.2.2.2.2
set_option maxRecDepth 100000 in
theorem dkAb242 : decode cX10_orders 22 = .ok (.iload_n 1, 1) ∧ decode cX10_orders 23 = .ok (.aload_n 0, 1) ∧ decode cX10_orders 24 = .ok (.getfield 16, 3) ∧ decode cX10_orders 27 = .ok (.bipush 28, 2) ∧ decode cX10_orders 29 = .ok (.iaload, 1) ∧ decode cX10_orders 30 = .ok (.iconst (-1), 1) ∧ decode cX10_orders 31 = .ok (.ixor, 1) ∧ decode cX10_orders 32 = .ok (.iand, 1) ∧ decode cX10_orders 33 = .ok (.ifCond .eq 6, 3) ∧ decode cX10_orders 36 = .ok (.ldc 187, 2) ∧ decode cX10_orders 38 = .ok (.ireturn, 1) ∧ decode cX10_orders 39 = .ok (.iconst 1, 1) := by decide +kernel
theorem dX10_orders_22 : decode cX10_orders 22 = .ok (.iload_n 1, 1) := dkAb242.1
theorem dX10_orders_23 : decode cX10_orders 23 = .ok (.aload_n 0, 1) := dkAb242.2.1
theorem dX10_orders_24 : decode cX10_orders 24 = .ok (.getfield 16, 3) := dkAb242.2.2.1
theorem dX10_orders_27 : decode cX10_orders 27 = .ok (.bipush 28, 2) := dkAb242.2.2.2.1
theorem dX10_orders_29 : decode cX10_orders 29 = .ok (.iaload, 1) := dkAb242.2.2.2.2.1
theorem dX10_orders_30 : decode cX10_orders 30 = .ok (.iconst (-1), 1) := dkAb242.2.2.2.2.2.1
theorem dX10_orders_31 : decode cX10_orders 31 = .ok (.ixor, 1) := dkAb242.2.2.2.2.2.2.1
theorem dX10_orders_32 : decode cX10_orders 32 = .ok (.iand, 1) := dkAb242.2.2.2.2.2.2.2.1
theorem dX10_orders_33 : decode cX10_orders 33 = .ok (.ifCond .eq 6, 3) := dkAb242.2.2.2.2.2.2.2.2.1
theorem dX10_orders_36 : decode cX10_orders 36 = .ok (.ldc 187, 2) := dkAb242.2.2.2.2.2.2.2.2.2.1
theorem dX10_orders_38 : decode cX10_orders 38 = .ok (.ireturn, 1) := dkAb242.2.2.2.2.2.2.2.2.2.2.1
theorem dX10_orders_39 : decode cX10_orders 39 = .ok (.iconst 1, 1) := dkAb242.2.2.2.2.2.2.2.2.2.2.2
set_option maxRecDepth 100000 in
theorem dkAb243 : decode cX10_orders 40 = .ok (.istore_n 3, 1) ∧ decode cX10_orders 41 = .ok (.iload_n 1, 1) ∧ decode cX10_orders 42 = .ok (.invokestatic 241, 3) ∧ decode cX10_orders 45 = .ok (.istore 4, 2) ∧ decode cX10_orders 47 = .ok (.iload 4, 2) ∧ decode cX10_orders 49 = .ok (.ifCond .le 14, 3) ∧ decode cX10_orders 52 = .ok (.iload_n 3, 1) ∧ decode cX10_orders 53 = .ok (.bipush 10, 2) ∧ decode cX10_orders 55 = .ok (.imul, 1) ∧ decode cX10_orders 56 = .ok (.istore_n 3, 1) ∧ decode cX10_orders 57 = .ok (.iinc 4 (-1), 3) ∧ decode cX10_orders 60 = .ok (.goto (-13), 3) := by decide +kernel
theorem dX10_orders_40 : decode cX10_orders 40 = .ok (.istore_n 3, 1) := dkAb243.1
theorem dX10_orders_41 : decode cX10_orders 41 = .ok (.iload_n 1, 1) := dkAb243.2.1
theorem dX10_orders_42 : decode cX10_orders 42 = .ok (.invokestatic 241, 3) := dkAb243.2.2.1
theorem dX10_orders_45 : decode cX10_orders 45 = .ok (.istore 4, 2) := dkAb243.2.2.2.1
theorem dX10_orders_47 : decode cX10_orders 47 = .ok (.iload 4, 2) := dkAb243.2.2.2.2.1
theorem dX10_orders_49 : decode cX10_orders 49 = .ok (.ifCond .le 14, 3) := dkAb243.2.2.2.2.2.1
theorem dX10_orders_52 : decode cX10_orders 52 = .ok (.iload_n 3, 1) := dkAb243.2.2.2.2.2.2.1
theorem dX10_orders_53 : decode cX10_orders 53 = .ok (.bipush 10, 2) := dkAb243.2.2.2.2.2.2.2.1
theorem dX10_orders_55 : decode cX10_orders 55 = .ok (.imul, 1) := dkAb243.2.2.2.2.2.2.2.2.1
theorem dX10_orders_56 : decode cX10_orders 56 = .ok (.istore_n 3, 1) := dkAb243.2.2.2.2.2.2.2.2.2.1
theorem dX10_orders_57 : decode cX10_orders 57 = .ok (.iinc 4 (-1), 3) := dkAb243.2.2.2.2.2.2.2.2.2.2.1
theorem dX10_orders_60 : decode cX10_orders 60 = .ok (.goto (-13), 3) := dkAb243.2.2.2.2.2.2.2.2.2.2.2
set_option maxRecDepth 100000 in
theorem dkAb244 : decode cX10_orders 63 = .ok (.iconst 0, 1) ∧ decode cX10_orders 64 = .ok (.istore 4, 2) ∧ decode cX10_orders 66 = .ok (.iconst 0, 1) ∧ decode cX10_orders 67 = .ok (.istore 5, 2) ∧ decode cX10_orders 69 = .ok (.iconst (-1), 1) ∧ decode cX10_orders 70 = .ok (.istore 6, 2) ∧ decode cX10_orders 72 = .ok (.iload_n 1, 1) ∧ decode cX10_orders 73 = .ok (.ifCond .ne 7, 3) ∧ decode cX10_orders 76 = .ok (.iconst 0, 1) ∧ decode cX10_orders 77 = .ok (.goto 7, 3) ∧ decode cX10_orders 80 = .ok (.iload_n 3, 1) ∧ decode cX10_orders 81 = .ok (.bipush 10, 2) := by decide +kernel
theorem dX10_orders_63 : decode cX10_orders 63 = .ok (.iconst 0, 1) := dkAb244.1
theorem dX10_orders_64 : decode cX10_orders 64 = .ok (.istore 4, 2) := dkAb244.2.1
theorem dX10_orders_66 : decode cX10_orders 66 = .ok (.iconst 0, 1) := dkAb244.2.2.1
theorem dX10_orders_67 : decode cX10_orders 67 = .ok (.istore 5, 2) := dkAb244.2.2.2.1
theorem dX10_orders_69 : decode cX10_orders 69 = .ok (.iconst (-1), 1) := dkAb244.2.2.2.2.1
theorem dX10_orders_70 : decode cX10_orders 70 = .ok (.istore 6, 2) := dkAb244.2.2.2.2.2.1
theorem dX10_orders_72 : decode cX10_orders 72 = .ok (.iload_n 1, 1) := dkAb244.2.2.2.2.2.2.1
theorem dX10_orders_73 : decode cX10_orders 73 = .ok (.ifCond .ne 7, 3) := dkAb244.2.2.2.2.2.2.2.1
theorem dX10_orders_76 : decode cX10_orders 76 = .ok (.iconst 0, 1) := dkAb244.2.2.2.2.2.2.2.2.1
theorem dX10_orders_77 : decode cX10_orders 77 = .ok (.goto 7, 3) := dkAb244.2.2.2.2.2.2.2.2.2.1
theorem dX10_orders_80 : decode cX10_orders 80 = .ok (.iload_n 3, 1) := dkAb244.2.2.2.2.2.2.2.2.2.2.1
theorem dX10_orders_81 : decode cX10_orders 81 = .ok (.bipush 10, 2) := dkAb244.2.2.2.2.2.2.2.2.2.2.2
set_option maxRecDepth 100000 in
theorem dkAb245 : decode cX10_orders 83 = .ok (.idiv, 1) ∧ decode cX10_orders 84 = .ok (.istore 7, 2) ∧ decode cX10_orders 86 = .ok (.iload 7, 2) ∧ decode cX10_orders 88 = .ok (.iload_n 3, 1) ∧ decode cX10_orders 89 = .ok (.if_icmp .ge 61, 3) ∧ decode cX10_orders 92 = .ok (.aload_n 0, 1) ∧ decode cX10_orders 93 = .ok (.iload 7, 2) ∧ decode cX10_orders 95 = .ok (.iload_n 1, 1) ∧ decode cX10_orders 96 = .ok (.invokevirtual 277, 3) ∧ decode cX10_orders 99 = .ok (.ifCond .eq 45, 3) ∧ decode cX10_orders 102 = .ok (.iload 4, 2) ∧ decode cX10_orders 104 = .ok (.iload_n 2, 1) := by decide +kernel
theorem dX10_orders_83 : decode cX10_orders 83 = .ok (.idiv, 1) := dkAb245.1
theorem dX10_orders_84 : decode cX10_orders 84 = .ok (.istore 7, 2) := dkAb245.2.1
theorem dX10_orders_86 : decode cX10_orders 86 = .ok (.iload 7, 2) := dkAb245.2.2.1
theorem dX10_orders_88 : decode cX10_orders 88 = .ok (.iload_n 3, 1) := dkAb245.2.2.2.1
theorem dX10_orders_89 : decode cX10_orders 89 = .ok (.if_icmp .ge 61, 3) := dkAb245.2.2.2.2.1
theorem dX10_orders_92 : decode cX10_orders 92 = .ok (.aload_n 0, 1) := dkAb245.2.2.2.2.2.1
theorem dX10_orders_93 : decode cX10_orders 93 = .ok (.iload 7, 2) := dkAb245.2.2.2.2.2.2.1
theorem dX10_orders_95 : decode cX10_orders 95 = .ok (.iload_n 1, 1) := dkAb245.2.2.2.2.2.2.2.1
theorem dX10_orders_96 : decode cX10_orders 96 = .ok (.invokevirtual 277, 3) := dkAb245.2.2.2.2.2.2.2.2.1
theorem dX10_orders_99 : decode cX10_orders 99 = .ok (.ifCond .eq 45, 3) := dkAb245.2.2.2.2.2.2.2.2.2.1
theorem dX10_orders_102 : decode cX10_orders 102 = .ok (.iload 4, 2) := dkAb245.2.2.2.2.2.2.2.2.2.2.1
theorem dX10_orders_104 : decode cX10_orders 104 = .ok (.iload_n 2, 1) := dkAb245.2.2.2.2.2.2.2.2.2.2.2
set_option maxRecDepth 100000 in
theorem dkAb246 : decode cX10_orders 105 = .ok (.if_icmp .ne 8, 3) ∧ decode cX10_orders 108 = .ok (.iload 7, 2) ∧ decode cX10_orders 110 = .ok (.goto 5, 3) ∧ decode cX10_orders 113 = .ok (.iload 6, 2) ∧ decode cX10_orders 115 = .ok (.istore 6, 2) ∧ decode cX10_orders 117 = .ok (.iload 5, 2) ∧ decode cX10_orders 119 = .ok (.iload_n 1, 1) ∧ decode cX10_orders 120 = .ok (.ifCond .ne 7, 3) ∧ decode cX10_orders 123 = .ok (.iconst 0, 1) ∧ decode cX10_orders 124 = .ok (.goto 14, 3) ∧ decode cX10_orders 127 = .ok (.iconst 1, 1) ∧ decode cX10_orders 128 = .ok (.iload 7, 2) := by decide +kernel
theorem dX10_orders_105 : decode cX10_orders 105 = .ok (.if_icmp .ne 8, 3) := dkAb246.1
theorem dX10_orders_108 : decode cX10_orders 108 = .ok (.iload 7, 2) := dkAb246.2.1
theorem dX10_orders_110 : decode cX10_orders 110 = .ok (.goto 5, 3) := dkAb246.2.2.1
theorem dX10_orders_113 : decode cX10_orders 113 = .ok (.iload 6, 2) := dkAb246.2.2.2.1
theorem dX10_orders_115 : decode cX10_orders 115 = .ok (.istore 6, 2) := dkAb246.2.2.2.2.1
theorem dX10_orders_117 : decode cX10_orders 117 = .ok (.iload 5, 2) := dkAb246.2.2.2.2.2.1
theorem dX10_orders_119 : decode cX10_orders 119 = .ok (.iload_n 1, 1) := dkAb246.2.2.2.2.2.2.1
theorem dX10_orders_120 : decode cX10_orders 120 = .ok (.ifCond .ne 7, 3) := dkAb246.2.2.2.2.2.2.2.1
theorem dX10_orders_123 : decode cX10_orders 123 = .ok (.iconst 0, 1) := dkAb246.2.2.2.2.2.2.2.2.1
theorem dX10_orders_124 : decode cX10_orders 124 = .ok (.goto 14, 3) := dkAb246.2.2.2.2.2.2.2.2.2.1
theorem dX10_orders_127 : decode cX10_orders 127 = .ok (.iconst 1, 1) := dkAb246.2.2.2.2.2.2.2.2.2.2.1
theorem dX10_orders_128 : decode cX10_orders 128 = .ok (.iload 7, 2) := dkAb246.2.2.2.2.2.2.2.2.2.2.2
set_option maxRecDepth 100000 in
theorem dkAb247 : decode cX10_orders 130 = .ok (.iload_n 3, 1) ∧ decode cX10_orders 131 = .ok (.bipush 10, 2) ∧ decode cX10_orders 133 = .ok (.idiv, 1) ∧ decode cX10_orders 134 = .ok (.idiv, 1) ∧ decode cX10_orders 135 = .ok (.iconst 1, 1) ∧ decode cX10_orders 136 = .ok (.isub, 1) ∧ decode cX10_orders 137 = .ok (.ishl, 1) ∧ decode cX10_orders 138 = .ok (.ior, 1) ∧ decode cX10_orders 139 = .ok (.istore 5, 2) ∧ decode cX10_orders 141 = .ok (.iinc 4 1, 3) ∧ decode cX10_orders 144 = .ok (.iinc 7 1, 3) ∧ decode cX10_orders 147 = .ok (.goto (-61), 3) := by decide +kernel
theorem dX10_orders_130 : decode cX10_orders 130 = .ok (.iload_n 3, 1) := dkAb247.1
theorem dX10_orders_131 : decode cX10_orders 131 = .ok (.bipush 10, 2) := dkAb247.2.1
theorem dX10_orders_133 : decode cX10_orders 133 = .ok (.idiv, 1) := dkAb247.2.2.1
theorem dX10_orders_134 : decode cX10_orders 134 = .ok (.idiv, 1) := dkAb247.2.2.2.1
theorem dX10_orders_135 : decode cX10_orders 135 = .ok (.iconst 1, 1) := dkAb247.2.2.2.2.1
theorem dX10_orders_136 : decode cX10_orders 136 = .ok (.isub, 1) := dkAb247.2.2.2.2.2.1
theorem dX10_orders_137 : decode cX10_orders 137 = .ok (.ishl, 1) := dkAb247.2.2.2.2.2.2.1
theorem dX10_orders_138 : decode cX10_orders 138 = .ok (.ior, 1) := dkAb247.2.2.2.2.2.2.2.1
theorem dX10_orders_139 : decode cX10_orders 139 = .ok (.istore 5, 2) := dkAb247.2.2.2.2.2.2.2.2.1
theorem dX10_orders_141 : decode cX10_orders 141 = .ok (.iinc 4 1, 3) := dkAb247.2.2.2.2.2.2.2.2.2.1
theorem dX10_orders_144 : decode cX10_orders 144 = .ok (.iinc 7 1, 3) := dkAb247.2.2.2.2.2.2.2.2.2.2.1
theorem dX10_orders_147 : decode cX10_orders 147 = .ok (.goto (-61), 3) := dkAb247.2.2.2.2.2.2.2.2.2.2.2
set_option maxRecDepth 100000 in
theorem dkAb248 : decode cX10_orders 150 = .ok (.iload_n 2, 1) ∧ decode cX10_orders 151 = .ok (.bipush (-2), 2) ∧ decode cX10_orders 153 = .ok (.if_icmp .ne 22, 3) ∧ decode cX10_orders 156 = .ok (.iload 5, 2) ∧ decode cX10_orders 158 = .ok (.invokestatic 241, 3) ∧ decode cX10_orders 161 = .ok (.iconst 1, 1) ∧ decode cX10_orders 162 = .ok (.if_icmp .ne 11, 3) ∧ decode cX10_orders 165 = .ok (.iload 5, 2) ∧ decode cX10_orders 167 = .ok (.invokestatic 195, 3) ∧ decode cX10_orders 170 = .ok (.goto 4, 3) ∧ decode cX10_orders 173 = .ok (.iconst (-1), 1) ∧ decode cX10_orders 174 = .ok (.ireturn, 1) := by decide +kernel
theorem dX10_orders_150 : decode cX10_orders 150 = .ok (.iload_n 2, 1) := dkAb248.1
theorem dX10_orders_151 : decode cX10_orders 151 = .ok (.bipush (-2), 2) := dkAb248.2.1
theorem dX10_orders_153 : decode cX10_orders 153 = .ok (.if_icmp .ne 22, 3) := dkAb248.2.2.1
theorem dX10_orders_156 : decode cX10_orders 156 = .ok (.iload 5, 2) := dkAb248.2.2.2.1
theorem dX10_orders_158 : decode cX10_orders 158 = .ok (.invokestatic 241, 3) := dkAb248.2.2.2.2.1
theorem dX10_orders_161 : decode cX10_orders 161 = .ok (.iconst 1, 1) := dkAb248.2.2.2.2.2.1
theorem dX10_orders_162 : decode cX10_orders 162 = .ok (.if_icmp .ne 11, 3) := dkAb248.2.2.2.2.2.2.1
theorem dX10_orders_165 : decode cX10_orders 165 = .ok (.iload 5, 2) := dkAb248.2.2.2.2.2.2.2.1
theorem dX10_orders_167 : decode cX10_orders 167 = .ok (.invokestatic 195, 3) := dkAb248.2.2.2.2.2.2.2.2.1
theorem dX10_orders_170 : decode cX10_orders 170 = .ok (.goto 4, 3) := dkAb248.2.2.2.2.2.2.2.2.2.1
theorem dX10_orders_173 : decode cX10_orders 173 = .ok (.iconst (-1), 1) := dkAb248.2.2.2.2.2.2.2.2.2.2.1
theorem dX10_orders_174 : decode cX10_orders 174 = .ok (.ireturn, 1) := dkAb248.2.2.2.2.2.2.2.2.2.2.2
set_option maxRecDepth 100000 in
theorem dkAb249 : decode cX10_orders 175 = .ok (.iload_n 2, 1) ∧ decode cX10_orders 176 = .ok (.iconst (-1), 1) ∧ decode cX10_orders 177 = .ok (.if_icmp .ne 8, 3) ∧ decode cX10_orders 180 = .ok (.iload 4, 2) ∧ decode cX10_orders 182 = .ok (.goto 5, 3) ∧ decode cX10_orders 185 = .ok (.iload 6, 2) ∧ decode cX10_orders 187 = .ok (.ireturn, 1) := by decide +kernel
theorem dX10_orders_175 : decode cX10_orders 175 = .ok (.iload_n 2, 1) := dkAb249.1
theorem dX10_orders_176 : decode cX10_orders 176 = .ok (.iconst (-1), 1) := dkAb249.2.1
theorem dX10_orders_177 : decode cX10_orders 177 = .ok (.if_icmp .ne 8, 3) := dkAb249.2.2.1
theorem dX10_orders_180 : decode cX10_orders 180 = .ok (.iload 4, 2) := dkAb249.2.2.2.1
theorem dX10_orders_182 : decode cX10_orders 182 = .ok (.goto 5, 3) := dkAb249.2.2.2.2.1
theorem dX10_orders_185 : decode cX10_orders 185 = .ok (.iload 6, 2) := dkAb249.2.2.2.2.2.1
theorem dX10_orders_187 : decode cX10_orders 187 = .ok (.ireturn, 1) := dkAb249.2.2.2.2.2.2
set_option maxRecDepth 100000 in
theorem dkAb250 : decode cX10_write 0 = .ok (.aload_n 0, 1) ∧ decode cX10_write 1 = .ok (.iload_n 1, 1) ∧ decode cX10_write 2 = .ok (.invokevirtual 179, 3) ∧ decode cX10_write 5 = .ok (.ifCond .eq 10, 3) ∧ decode cX10_write 8 = .ok (.iload_n 2, 1) ∧ decode cX10_write 9 = .ok (.invokestatic 274, 3) ∧ decode cX10_write 12 = .ok (.ifCond .ne 6, 3) ∧ decode cX10_write 15 = .ok (.ldc 182, 2) ∧ decode cX10_write 17 = .ok (.ireturn, 1) ∧ decode cX10_write 18 = .ok (.aload_n 0, 1) ∧ decode cX10_write 19 = .ok (.getfield 79, 3) ∧ decode cX10_write 22 = .ok (.bipush 15, 2) := by decide +kernel
theorem dX10_write_0 : decode cX10_write 0 = .ok (.aload_n 0, 1) := dkAb250.1
theorem dX10_write_1 : decode cX10_write 1 = .ok (.iload_n 1, 1) := dkAb250.2.1
theorem dX10_write_2 : decode cX10_write 2 = .ok (.invokevirtual 179, 3) := dkAb250.2.2.1
theorem dX10_write_5 : decode cX10_write 5 = .ok (.ifCond .eq 10, 3) := dkAb250.2.2.2.1
theorem dX10_write_8 : decode cX10_write 8 = .ok (.iload_n 2, 1) := dkAb250.2.2.2.2.1
theorem dX10_write_9 : decode cX10_write 9 = .ok (.invokestatic 274, 3) := dkAb250.2.2.2.2.2.1
theorem dX10_write_12 : decode cX10_write 12 = .ok (.ifCond .ne 6, 3) := dkAb250.2.2.2.2.2.2.1
theorem dX10_write_15 : decode cX10_write 15 = .ok (.ldc 182, 2) := dkAb250.2.2.2.2.2.2.2.1
theorem dX10_write_17 : decode cX10_write 17 = .ok (.ireturn, 1) := dkAb250.2.2.2.2.2.2.2.2.1
theorem dX10_write_18 : decode cX10_write 18 = .ok (.aload_n 0, 1) := dkAb250.2.2.2.2.2.2.2.2.2.1
theorem dX10_write_19 : decode cX10_write 19 = .ok (.getfield 79, 3) := dkAb250.2.2.2.2.2.2.2.2.2.2.1
theorem dX10_write_22 : decode cX10_write 22 = .ok (.bipush 15, 2) := dkAb250.2.2.2.2.2.2.2.2.2.2.2
set_option maxRecDepth 100000 in
theorem dkAb251 : decode cX10_write 24 = .ok (.if_icmp .ne 6, 3) ∧ decode cX10_write 27 = .ok (.ldc 88, 2) ∧ decode cX10_write 29 = .ok (.ireturn, 1) ∧ decode cX10_write 30 = .ok (.aload_n 0, 1) ∧ decode cX10_write 31 = .ok (.getfield 45, 3) ∧ decode cX10_write 34 = .ok (.iconst 2, 1) ∧ decode cX10_write 35 = .ok (.aload_n 0, 1) ∧ decode cX10_write 36 = .ok (.getfield 79, 3) ∧ decode cX10_write 39 = .ok (.imul, 1) ∧ decode cX10_write 40 = .ok (.iload_n 1, 1) ∧ decode cX10_write 41 = .ok (.iastore, 1) ∧ decode cX10_write 42 = .ok (.aload_n 0, 1) := by decide +kernel
theorem dX10_write_24 : decode cX10_write 24 = .ok (.if_icmp .ne 6, 3) := dkAb251.1
theorem dX10_write_27 : decode cX10_write 27 = .ok (.ldc 88, 2) := dkAb251.2.1
theorem dX10_write_29 : decode cX10_write 29 = .ok (.ireturn, 1) := dkAb251.2.2.1
theorem dX10_write_30 : decode cX10_write 30 = .ok (.aload_n 0, 1) := dkAb251.2.2.2.1
theorem dX10_write_31 : decode cX10_write 31 = .ok (.getfield 45, 3) := dkAb251.2.2.2.2.1
theorem dX10_write_34 : decode cX10_write 34 = .ok (.iconst 2, 1) := dkAb251.2.2.2.2.2.1
theorem dX10_write_35 : decode cX10_write 35 = .ok (.aload_n 0, 1) := dkAb251.2.2.2.2.2.2.1
theorem dX10_write_36 : decode cX10_write 36 = .ok (.getfield 79, 3) := dkAb251.2.2.2.2.2.2.2.1
theorem dX10_write_39 : decode cX10_write 39 = .ok (.imul, 1) := dkAb251.2.2.2.2.2.2.2.2.1
theorem dX10_write_40 : decode cX10_write 40 = .ok (.iload_n 1, 1) := dkAb251.2.2.2.2.2.2.2.2.2.1
theorem dX10_write_41 : decode cX10_write 41 = .ok (.iastore, 1) := dkAb251.2.2.2.2.2.2.2.2.2.2.1
theorem dX10_write_42 : decode cX10_write 42 = .ok (.aload_n 0, 1) := dkAb251.2.2.2.2.2.2.2.2.2.2.2
set_option maxRecDepth 100000 in
theorem dkAb252 : decode cX10_write 43 = .ok (.getfield 45, 3) ∧ decode cX10_write 46 = .ok (.iconst 2, 1) ∧ decode cX10_write 47 = .ok (.aload_n 0, 1) ∧ decode cX10_write 48 = .ok (.getfield 79, 3) ∧ decode cX10_write 51 = .ok (.imul, 1) ∧ decode cX10_write 52 = .ok (.iconst 1, 1) ∧ decode cX10_write 53 = .ok (.iadd, 1) ∧ decode cX10_write 54 = .ok (.iload_n 2, 1) ∧ decode cX10_write 55 = .ok (.iastore, 1) ∧ decode cX10_write 56 = .ok (.aload_n 0, 1) ∧ decode cX10_write 57 = .ok (.dup, 1) ∧ decode cX10_write 58 = .ok (.getfield 79, 3) := by decide +kernel
theorem dX10_write_43 : decode cX10_write 43 = .ok (.getfield 45, 3) := dkAb252.1
theorem dX10_write_46 : decode cX10_write 46 = .ok (.iconst 2, 1) := dkAb252.2.1
theorem dX10_write_47 : decode cX10_write 47 = .ok (.aload_n 0, 1) := dkAb252.2.2.1
theorem dX10_write_48 : decode cX10_write 48 = .ok (.getfield 79, 3) := dkAb252.2.2.2.1
theorem dX10_write_51 : decode cX10_write 51 = .ok (.imul, 1) := dkAb252.2.2.2.2.1
theorem dX10_write_52 : decode cX10_write 52 = .ok (.iconst 1, 1) := dkAb252.2.2.2.2.2.1
theorem dX10_write_53 : decode cX10_write 53 = .ok (.iadd, 1) := dkAb252.2.2.2.2.2.2.1
theorem dX10_write_54 : decode cX10_write 54 = .ok (.iload_n 2, 1) := dkAb252.2.2.2.2.2.2.2.1
theorem dX10_write_55 : decode cX10_write 55 = .ok (.iastore, 1) := dkAb252.2.2.2.2.2.2.2.2.1
theorem dX10_write_56 : decode cX10_write 56 = .ok (.aload_n 0, 1) := dkAb252.2.2.2.2.2.2.2.2.2.1
theorem dX10_write_57 : decode cX10_write 57 = .ok (.dup, 1) := dkAb252.2.2.2.2.2.2.2.2.2.2.1
theorem dX10_write_58 : decode cX10_write 58 = .ok (.getfield 79, 3) := dkAb252.2.2.2.2.2.2.2.2.2.2.2
set_option maxRecDepth 100000 in
theorem dkAb253 : decode cX10_write 61 = .ok (.iconst 1, 1) ∧ decode cX10_write 62 = .ok (.iadd, 1) ∧ decode cX10_write 63 = .ok (.putfield 79, 3) ∧ decode cX10_write 66 = .ok (.aload_n 0, 1) ∧ decode cX10_write 67 = .ok (.getfield 79, 3) ∧ decode cX10_write 70 = .ok (.ireturn, 1) := by decide +kernel
theorem dX10_write_61 : decode cX10_write 61 = .ok (.iconst 1, 1) := dkAb253.1
theorem dX10_write_62 : decode cX10_write 62 = .ok (.iadd, 1) := dkAb253.2.1
theorem dX10_write_63 : decode cX10_write 63 = .ok (.putfield 79, 3) := dkAb253.2.2.1
theorem dX10_write_66 : decode cX10_write 66 = .ok (.aload_n 0, 1) := dkAb253.2.2.2.1
theorem dX10_write_67 : decode cX10_write 67 = .ok (.getfield 79, 3) := dkAb253.2.2.2.2.1
theorem dX10_write_70 : decode cX10_write 70 = .ok (.ireturn, 1) := dkAb253.2.2.2.2.2
set_option maxRecDepth 100000 in
theorem dkAb254 : decode cX10_tear 0 = .ok (.aload_n 0, 1) ∧ decode cX10_tear 1 = .ok (.getfield 73, 3) ∧ decode cX10_tear 4 = .ok (.aload_n 0, 1) ∧ decode cX10_tear 5 = .ok (.getfield 76, 3) ∧ decode cX10_tear 8 = .ok (.iadd, 1) ∧ decode cX10_tear 9 = .ok (.aload_n 0, 1) ∧ decode cX10_tear 10 = .ok (.getfield 79, 3) ∧ decode cX10_tear 13 = .ok (.iadd, 1) ∧ decode cX10_tear 14 = .ok (.istore_n 1, 1) ∧ decode cX10_tear 15 = .ok (.aload_n 0, 1) ∧ decode cX10_tear 16 = .ok (.iconst 0, 1) ∧ decode cX10_tear 17 = .ok (.putfield 73, 3) := by decide +kernel
theorem dX10_tear_0 : decode cX10_tear 0 = .ok (.aload_n 0, 1) := dkAb254.1
theorem dX10_tear_1 : decode cX10_tear 1 = .ok (.getfield 73, 3) := dkAb254.2.1
theorem dX10_tear_4 : decode cX10_tear 4 = .ok (.aload_n 0, 1) := dkAb254.2.2.1
theorem dX10_tear_5 : decode cX10_tear 5 = .ok (.getfield 76, 3) := dkAb254.2.2.2.1
theorem dX10_tear_8 : decode cX10_tear 8 = .ok (.iadd, 1) := dkAb254.2.2.2.2.1
theorem dX10_tear_9 : decode cX10_tear 9 = .ok (.aload_n 0, 1) := dkAb254.2.2.2.2.2.1
theorem dX10_tear_10 : decode cX10_tear 10 = .ok (.getfield 79, 3) := dkAb254.2.2.2.2.2.2.1
theorem dX10_tear_13 : decode cX10_tear 13 = .ok (.iadd, 1) := dkAb254.2.2.2.2.2.2.2.1
theorem dX10_tear_14 : decode cX10_tear 14 = .ok (.istore_n 1, 1) := dkAb254.2.2.2.2.2.2.2.2.1
theorem dX10_tear_15 : decode cX10_tear 15 = .ok (.aload_n 0, 1) := dkAb254.2.2.2.2.2.2.2.2.2.1
theorem dX10_tear_16 : decode cX10_tear 16 = .ok (.iconst 0, 1) := dkAb254.2.2.2.2.2.2.2.2.2.2.1
theorem dX10_tear_17 : decode cX10_tear 17 = .ok (.putfield 73, 3) := dkAb254.2.2.2.2.2.2.2.2.2.2.2
set_option maxRecDepth 100000 in
theorem dkAb255 : decode cX10_tear 20 = .ok (.aload_n 0, 1) ∧ decode cX10_tear 21 = .ok (.iconst 0, 1) ∧ decode cX10_tear 22 = .ok (.putfield 76, 3) ∧ decode cX10_tear 25 = .ok (.aload_n 0, 1) ∧ decode cX10_tear 26 = .ok (.iconst 0, 1) ∧ decode cX10_tear 27 = .ok (.putfield 79, 3) ∧ decode cX10_tear 30 = .ok (.iload_n 1, 1) ∧ decode cX10_tear 31 = .ok (.ireturn, 1) := by decide +kernel
theorem dX10_tear_20 : decode cX10_tear 20 = .ok (.aload_n 0, 1) := dkAb255.1
theorem dX10_tear_21 : decode cX10_tear 21 = .ok (.iconst 0, 1) := dkAb255.2.1
theorem dX10_tear_22 : decode cX10_tear 22 = .ok (.putfield 76, 3) := dkAb255.2.2.1
theorem dX10_tear_25 : decode cX10_tear 25 = .ok (.aload_n 0, 1) := dkAb255.2.2.2.1
theorem dX10_tear_26 : decode cX10_tear 26 = .ok (.iconst 0, 1) := dkAb255.2.2.2.2.1
theorem dX10_tear_27 : decode cX10_tear 27 = .ok (.putfield 79, 3) := dkAb255.2.2.2.2.2.1
theorem dX10_tear_30 : decode cX10_tear 30 = .ok (.iload_n 1, 1) := dkAb255.2.2.2.2.2.2.1
theorem dX10_tear_31 : decode cX10_tear 31 = .ok (.ireturn, 1) := dkAb255.2.2.2.2.2.2.2
set_option maxRecDepth 100000 in
theorem dkAb256 : decode cX10_judge 0 = .ok (.iconst 0, 1) ∧ decode cX10_judge 1 = .ok (.istore_n 1, 1) ∧ decode cX10_judge 2 = .ok (.iload_n 1, 1) ∧ decode cX10_judge 3 = .ok (.aload_n 0, 1) ∧ decode cX10_judge 4 = .ok (.getfield 79, 3) ∧ decode cX10_judge 7 = .ok (.if_icmp .ge 39, 3) ∧ decode cX10_judge 10 = .ok (.aload_n 0, 1) ∧ decode cX10_judge 11 = .ok (.getfield 16, 3) ∧ decode cX10_judge 14 = .ok (.iconst 0, 1) ∧ decode cX10_judge 15 = .ok (.aload_n 0, 1) ∧ decode cX10_judge 16 = .ok (.getfield 45, 3) ∧ decode cX10_judge 19 = .ok (.iconst 2, 1) := by decide +kernel
theorem dX10_judge_0 : decode cX10_judge 0 = .ok (.iconst 0, 1) := dkAb256.1
theorem dX10_judge_1 : decode cX10_judge 1 = .ok (.istore_n 1, 1) := dkAb256.2.1
theorem dX10_judge_2 : decode cX10_judge 2 = .ok (.iload_n 1, 1) := dkAb256.2.2.1
theorem dX10_judge_3 : decode cX10_judge 3 = .ok (.aload_n 0, 1) := dkAb256.2.2.2.1
theorem dX10_judge_4 : decode cX10_judge 4 = .ok (.getfield 79, 3) := dkAb256.2.2.2.2.1
theorem dX10_judge_7 : decode cX10_judge 7 = .ok (.if_icmp .ge 39, 3) := dkAb256.2.2.2.2.2.1
theorem dX10_judge_10 : decode cX10_judge 10 = .ok (.aload_n 0, 1) := dkAb256.2.2.2.2.2.2.1
theorem dX10_judge_11 : decode cX10_judge 11 = .ok (.getfield 16, 3) := dkAb256.2.2.2.2.2.2.2.1
theorem dX10_judge_14 : decode cX10_judge 14 = .ok (.iconst 0, 1) := dkAb256.2.2.2.2.2.2.2.2.1
theorem dX10_judge_15 : decode cX10_judge 15 = .ok (.aload_n 0, 1) := dkAb256.2.2.2.2.2.2.2.2.2.1
theorem dX10_judge_16 : decode cX10_judge 16 = .ok (.getfield 45, 3) := dkAb256.2.2.2.2.2.2.2.2.2.2.1
theorem dX10_judge_19 : decode cX10_judge 19 = .ok (.iconst 2, 1) := dkAb256.2.2.2.2.2.2.2.2.2.2.2
set_option maxRecDepth 100000 in
theorem dkAb257 : decode cX10_judge 20 = .ok (.iload_n 1, 1) ∧ decode cX10_judge 21 = .ok (.imul, 1) ∧ decode cX10_judge 22 = .ok (.iaload, 1) ∧ decode cX10_judge 23 = .ok (.iadd, 1) ∧ decode cX10_judge 24 = .ok (.iaload, 1) ∧ decode cX10_judge 25 = .ok (.aload_n 0, 1) ∧ decode cX10_judge 26 = .ok (.getfield 45, 3) ∧ decode cX10_judge 29 = .ok (.iconst 2, 1) ∧ decode cX10_judge 30 = .ok (.iload_n 1, 1) ∧ decode cX10_judge 31 = .ok (.imul, 1) ∧ decode cX10_judge 32 = .ok (.iconst 1, 1) ∧ decode cX10_judge 33 = .ok (.iadd, 1) := by decide +kernel
theorem dX10_judge_20 : decode cX10_judge 20 = .ok (.iload_n 1, 1) := dkAb257.1
theorem dX10_judge_21 : decode cX10_judge 21 = .ok (.imul, 1) := dkAb257.2.1
theorem dX10_judge_22 : decode cX10_judge 22 = .ok (.iaload, 1) := dkAb257.2.2.1
theorem dX10_judge_23 : decode cX10_judge 23 = .ok (.iadd, 1) := dkAb257.2.2.2.1
theorem dX10_judge_24 : decode cX10_judge 24 = .ok (.iaload, 1) := dkAb257.2.2.2.2.1
theorem dX10_judge_25 : decode cX10_judge 25 = .ok (.aload_n 0, 1) := dkAb257.2.2.2.2.2.1
theorem dX10_judge_26 : decode cX10_judge 26 = .ok (.getfield 45, 3) := dkAb257.2.2.2.2.2.2.1
theorem dX10_judge_29 : decode cX10_judge 29 = .ok (.iconst 2, 1) := dkAb257.2.2.2.2.2.2.2.1
theorem dX10_judge_30 : decode cX10_judge 30 = .ok (.iload_n 1, 1) := dkAb257.2.2.2.2.2.2.2.2.1
theorem dX10_judge_31 : decode cX10_judge 31 = .ok (.imul, 1) := dkAb257.2.2.2.2.2.2.2.2.2.1
theorem dX10_judge_32 : decode cX10_judge 32 = .ok (.iconst 1, 1) := dkAb257.2.2.2.2.2.2.2.2.2.2.1
theorem dX10_judge_33 : decode cX10_judge 33 = .ok (.iadd, 1) := dkAb257.2.2.2.2.2.2.2.2.2.2.2
set_option maxRecDepth 100000 in
theorem dkAb258 : decode cX10_judge 34 = .ok (.iaload, 1) ∧ decode cX10_judge 35 = .ok (.if_icmp .eq 5, 3) ∧ decode cX10_judge 38 = .ok (.iload_n 1, 1) ∧ decode cX10_judge 39 = .ok (.ireturn, 1) ∧ decode cX10_judge 40 = .ok (.iinc 1 1, 3) ∧ decode cX10_judge 43 = .ok (.goto (-41), 3) ∧ decode cX10_judge 46 = .ok (.iconst (-1), 1) ∧ decode cX10_judge 47 = .ok (.ireturn, 1) := by decide +kernel
theorem dX10_judge_34 : decode cX10_judge 34 = .ok (.iaload, 1) := dkAb258.1
theorem dX10_judge_35 : decode cX10_judge 35 = .ok (.if_icmp .eq 5, 3) := dkAb258.2.1
theorem dX10_judge_38 : decode cX10_judge 38 = .ok (.iload_n 1, 1) := dkAb258.2.2.1
theorem dX10_judge_39 : decode cX10_judge 39 = .ok (.ireturn, 1) := dkAb258.2.2.2.1
theorem dX10_judge_40 : decode cX10_judge 40 = .ok (.iinc 1 1, 3) := dkAb258.2.2.2.2.1
theorem dX10_judge_43 : decode cX10_judge 43 = .ok (.goto (-41), 3) := dkAb258.2.2.2.2.2.1
theorem dX10_judge_46 : decode cX10_judge 46 = .ok (.iconst (-1), 1) := dkAb258.2.2.2.2.2.2.1
theorem dX10_judge_47 : decode cX10_judge 47 = .ok (.ireturn, 1) := dkAb258.2.2.2.2.2.2.2
set_option maxRecDepth 100000 in
theorem dkAb259 : decode cX10_seed 0 = .ok (.iload_n 1, 1) ∧ decode cX10_seed 1 = .ok (.ifCond .ge 6, 3) ∧ decode cX10_seed 4 = .ok (.ldc 84, 2) ∧ decode cX10_seed 6 = .ok (.ireturn, 1) ∧ decode cX10_seed 7 = .ok (.aload_n 0, 1) ∧ decode cX10_seed 8 = .ok (.getfield 211, 3) ∧ decode cX10_seed 11 = .ok (.l2i, 1) ∧ decode cX10_seed 12 = .ok (.istore_n 2, 1) ∧ decode cX10_seed 13 = .ok (.aload_n 0, 1) ∧ decode cX10_seed 14 = .ok (.iload_n 1, 1) ∧ decode cX10_seed 15 = .ok (.i2l, 1) ∧ decode cX10_seed 16 = .ok (.putfield 211, 3) := by decide +kernel
theorem dX10_seed_0 : decode cX10_seed 0 = .ok (.iload_n 1, 1) := dkAb259.1
theorem dX10_seed_1 : decode cX10_seed 1 = .ok (.ifCond .ge 6, 3) := dkAb259.2.1
theorem dX10_seed_4 : decode cX10_seed 4 = .ok (.ldc 84, 2) := dkAb259.2.2.1
theorem dX10_seed_6 : decode cX10_seed 6 = .ok (.ireturn, 1) := dkAb259.2.2.2.1
theorem dX10_seed_7 : decode cX10_seed 7 = .ok (.aload_n 0, 1) := dkAb259.2.2.2.2.1
theorem dX10_seed_8 : decode cX10_seed 8 = .ok (.getfield 211, 3) := dkAb259.2.2.2.2.2.1
theorem dX10_seed_11 : decode cX10_seed 11 = .ok (.l2i, 1) := dkAb259.2.2.2.2.2.2.1
theorem dX10_seed_12 : decode cX10_seed 12 = .ok (.istore_n 2, 1) := dkAb259.2.2.2.2.2.2.2.1
theorem dX10_seed_13 : decode cX10_seed 13 = .ok (.aload_n 0, 1) := dkAb259.2.2.2.2.2.2.2.2.1
theorem dX10_seed_14 : decode cX10_seed 14 = .ok (.iload_n 1, 1) := dkAb259.2.2.2.2.2.2.2.2.2.1
theorem dX10_seed_15 : decode cX10_seed 15 = .ok (.i2l, 1) := dkAb259.2.2.2.2.2.2.2.2.2.2.1
theorem dX10_seed_16 : decode cX10_seed 16 = .ok (.putfield 211, 3) := dkAb259.2.2.2.2.2.2.2.2.2.2.2
theorem dX10_seed_19 : decode cX10_seed 19 = .ok (.iload_n 2, 1) := by decide +kernel
theorem dX10_seed_20 : decode cX10_seed 20 = .ok (.ireturn, 1) := by decide +kernel
set_option maxRecDepth 100000 in
theorem dkAb260 : decode cX10_keep 0 = .ok (.iload_n 1, 1) ∧ decode cX10_keep 1 = .ok (.i2l, 1) ∧ decode cX10_keep 2 = .ok (.lconst 0, 1) ∧ decode cX10_keep 3 = .ok (.lconst 1, 1) ∧ decode cX10_keep 4 = .ok (.invokestatic 62, 3) ∧ decode cX10_keep 7 = .ok (.ifCond .ne 6, 3) ∧ decode cX10_keep 10 = .ok (.ldc 182, 2) ∧ decode cX10_keep 12 = .ok (.ireturn, 1) ∧ decode cX10_keep 13 = .ok (.aload_n 0, 1) ∧ decode cX10_keep 14 = .ok (.getfield 16, 3) ∧ decode cX10_keep 17 = .ok (.iconst 0, 1) ∧ decode cX10_keep 18 = .ok (.aload_n 0, 1) := by decide +kernel
theorem dX10_keep_0 : decode cX10_keep 0 = .ok (.iload_n 1, 1) := dkAb260.1
theorem dX10_keep_1 : decode cX10_keep 1 = .ok (.i2l, 1) := dkAb260.2.1
theorem dX10_keep_2 : decode cX10_keep 2 = .ok (.lconst 0, 1) := dkAb260.2.2.1
theorem dX10_keep_3 : decode cX10_keep 3 = .ok (.lconst 1, 1) := dkAb260.2.2.2.1
theorem dX10_keep_4 : decode cX10_keep 4 = .ok (.invokestatic 62, 3) := dkAb260.2.2.2.2.1
theorem dX10_keep_7 : decode cX10_keep 7 = .ok (.ifCond .ne 6, 3) := dkAb260.2.2.2.2.2.1
theorem dX10_keep_10 : decode cX10_keep 10 = .ok (.ldc 182, 2) := dkAb260.2.2.2.2.2.2.1
theorem dX10_keep_12 : decode cX10_keep 12 = .ok (.ireturn, 1) := dkAb260.2.2.2.2.2.2.2.1
theorem dX10_keep_13 : decode cX10_keep 13 = .ok (.aload_n 0, 1) := dkAb260.2.2.2.2.2.2.2.2.1
theorem dX10_keep_14 : decode cX10_keep 14 = .ok (.getfield 16, 3) := dkAb260.2.2.2.2.2.2.2.2.2.1
theorem dX10_keep_17 : decode cX10_keep 17 = .ok (.iconst 0, 1) := dkAb260.2.2.2.2.2.2.2.2.2.2.1
theorem dX10_keep_18 : decode cX10_keep 18 = .ok (.aload_n 0, 1) := dkAb260.2.2.2.2.2.2.2.2.2.2.2
set_option maxRecDepth 100000 in
theorem dkAb261 : decode cX10_keep 19 = .ok (.getfield 25, 3) ∧ decode cX10_keep 22 = .ok (.bipush 31, 2) ∧ decode cX10_keep 24 = .ok (.iload_n 1, 1) ∧ decode cX10_keep 25 = .ok (.imul, 1) ∧ decode cX10_keep 26 = .ok (.bipush 30, 2) ∧ decode cX10_keep 28 = .ok (.invokestatic 66, 3) ∧ decode cX10_keep 31 = .ok (.aload_n 0, 1) ∧ decode cX10_keep 32 = .ok (.getfield 25, 3) ∧ decode cX10_keep 35 = .ok (.bipush 31, 2) ∧ decode cX10_keep 37 = .ok (.iload_n 1, 1) ∧ decode cX10_keep 38 = .ok (.imul, 1) ∧ decode cX10_keep 39 = .ok (.bipush 30, 2) := by decide +kernel
theorem dX10_keep_19 : decode cX10_keep 19 = .ok (.getfield 25, 3) := dkAb261.1
theorem dX10_keep_22 : decode cX10_keep 22 = .ok (.bipush 31, 2) := dkAb261.2.1
theorem dX10_keep_24 : decode cX10_keep 24 = .ok (.iload_n 1, 1) := dkAb261.2.2.1
theorem dX10_keep_25 : decode cX10_keep 25 = .ok (.imul, 1) := dkAb261.2.2.2.1
theorem dX10_keep_26 : decode cX10_keep 26 = .ok (.bipush 30, 2) := dkAb261.2.2.2.2.1
theorem dX10_keep_28 : decode cX10_keep 28 = .ok (.invokestatic 66, 3) := dkAb261.2.2.2.2.2.1
theorem dX10_keep_31 : decode cX10_keep 31 = .ok (.aload_n 0, 1) := dkAb261.2.2.2.2.2.2.1
theorem dX10_keep_32 : decode cX10_keep 32 = .ok (.getfield 25, 3) := dkAb261.2.2.2.2.2.2.2.1
theorem dX10_keep_35 : decode cX10_keep 35 = .ok (.bipush 31, 2) := dkAb261.2.2.2.2.2.2.2.2.1
theorem dX10_keep_37 : decode cX10_keep 37 = .ok (.iload_n 1, 1) := dkAb261.2.2.2.2.2.2.2.2.2.1
theorem dX10_keep_38 : decode cX10_keep 38 = .ok (.imul, 1) := dkAb261.2.2.2.2.2.2.2.2.2.2.1
theorem dX10_keep_39 : decode cX10_keep 39 = .ok (.bipush 30, 2) := dkAb261.2.2.2.2.2.2.2.2.2.2.2
set_option maxRecDepth 100000 in
theorem dkAb262 : decode cX10_keep 41 = .ok (.iadd, 1) ∧ decode cX10_keep 42 = .ok (.aload_n 0, 1) ∧ decode cX10_keep 43 = .ok (.getfield 211, 3) ∧ decode cX10_keep 46 = .ok (.l2i, 1) ∧ decode cX10_keep 47 = .ok (.iastore, 1) ∧ decode cX10_keep 48 = .ok (.aload_n 0, 1) ∧ decode cX10_keep 49 = .ok (.getfield 28, 3) ∧ decode cX10_keep 52 = .ok (.iload_n 1, 1) ∧ decode cX10_keep 53 = .ok (.iconst 1, 1) ∧ decode cX10_keep 54 = .ok (.bastore, 1) ∧ decode cX10_keep 55 = .ok (.aload_n 0, 1) ∧ decode cX10_keep 56 = .ok (.iconst 0, 1) := by decide +kernel
theorem dX10_keep_41 : decode cX10_keep 41 = .ok (.iadd, 1) := dkAb262.1
theorem dX10_keep_42 : decode cX10_keep 42 = .ok (.aload_n 0, 1) := dkAb262.2.1
theorem dX10_keep_43 : decode cX10_keep 43 = .ok (.getfield 211, 3) := dkAb262.2.2.1
theorem dX10_keep_46 : decode cX10_keep 46 = .ok (.l2i, 1) := dkAb262.2.2.2.1
theorem dX10_keep_47 : decode cX10_keep 47 = .ok (.iastore, 1) := dkAb262.2.2.2.2.1
theorem dX10_keep_48 : decode cX10_keep 48 = .ok (.aload_n 0, 1) := dkAb262.2.2.2.2.2.1
theorem dX10_keep_49 : decode cX10_keep 49 = .ok (.getfield 28, 3) := dkAb262.2.2.2.2.2.2.1
theorem dX10_keep_52 : decode cX10_keep 52 = .ok (.iload_n 1, 1) := dkAb262.2.2.2.2.2.2.2.1
theorem dX10_keep_53 : decode cX10_keep 53 = .ok (.iconst 1, 1) := dkAb262.2.2.2.2.2.2.2.2.1
theorem dX10_keep_54 : decode cX10_keep 54 = .ok (.bastore, 1) := dkAb262.2.2.2.2.2.2.2.2.2.1
theorem dX10_keep_55 : decode cX10_keep 55 = .ok (.aload_n 0, 1) := dkAb262.2.2.2.2.2.2.2.2.2.2.1
theorem dX10_keep_56 : decode cX10_keep 56 = .ok (.iconst 0, 1) := dkAb262.2.2.2.2.2.2.2.2.2.2.2
set_option maxRecDepth 100000 in
theorem dkAb263 : decode cX10_keep 57 = .ok (.putfield 70, 3) ∧ decode cX10_keep 60 = .ok (.iconst 1, 1) ∧ decode cX10_keep 61 = .ok (.ireturn, 1) := by decide +kernel
theorem dX10_keep_57 : decode cX10_keep 57 = .ok (.putfield 70, 3) := dkAb263.1
theorem dX10_keep_60 : decode cX10_keep 60 = .ok (.iconst 1, 1) := dkAb263.2.1
theorem dX10_keep_61 : decode cX10_keep 61 = .ok (.ireturn, 1) := dkAb263.2.2
set_option maxRecDepth 100000 in
theorem dkAb264 : decode cX10_goBack 0 = .ok (.iload_n 1, 1) ∧ decode cX10_goBack 1 = .ok (.i2l, 1) ∧ decode cX10_goBack 2 = .ok (.lconst 0, 1) ∧ decode cX10_goBack 3 = .ok (.lconst 1, 1) ∧ decode cX10_goBack 4 = .ok (.invokestatic 62, 3) ∧ decode cX10_goBack 7 = .ok (.ifCond .ne 6, 3) ∧ decode cX10_goBack 10 = .ok (.ldc 182, 2) ∧ decode cX10_goBack 12 = .ok (.ireturn, 1) ∧ decode cX10_goBack 13 = .ok (.aload_n 0, 1) ∧ decode cX10_goBack 14 = .ok (.getfield 28, 3) ∧ decode cX10_goBack 17 = .ok (.iload_n 1, 1) ∧ decode cX10_goBack 18 = .ok (.baload, 1) := by decide +kernel
theorem dX10_goBack_0 : decode cX10_goBack 0 = .ok (.iload_n 1, 1) := dkAb264.1
theorem dX10_goBack_1 : decode cX10_goBack 1 = .ok (.i2l, 1) := dkAb264.2.1
theorem dX10_goBack_2 : decode cX10_goBack 2 = .ok (.lconst 0, 1) := dkAb264.2.2.1
theorem dX10_goBack_3 : decode cX10_goBack 3 = .ok (.lconst 1, 1) := dkAb264.2.2.2.1
theorem dX10_goBack_4 : decode cX10_goBack 4 = .ok (.invokestatic 62, 3) := dkAb264.2.2.2.2.1
theorem dX10_goBack_7 : decode cX10_goBack 7 = .ok (.ifCond .ne 6, 3) := dkAb264.2.2.2.2.2.1
theorem dX10_goBack_10 : decode cX10_goBack 10 = .ok (.ldc 182, 2) := dkAb264.2.2.2.2.2.2.1
theorem dX10_goBack_12 : decode cX10_goBack 12 = .ok (.ireturn, 1) := dkAb264.2.2.2.2.2.2.2.1
theorem dX10_goBack_13 : decode cX10_goBack 13 = .ok (.aload_n 0, 1) := dkAb264.2.2.2.2.2.2.2.2.1
theorem dX10_goBack_14 : decode cX10_goBack 14 = .ok (.getfield 28, 3) := dkAb264.2.2.2.2.2.2.2.2.2.1
theorem dX10_goBack_17 : decode cX10_goBack 17 = .ok (.iload_n 1, 1) := dkAb264.2.2.2.2.2.2.2.2.2.2.1
theorem dX10_goBack_18 : decode cX10_goBack 18 = .ok (.baload, 1) := dkAb264.2.2.2.2.2.2.2.2.2.2.2
set_option maxRecDepth 100000 in
theorem dkAb265 : decode cX10_goBack 19 = .ok (.ifCond .ne 6, 3) ∧ decode cX10_goBack 22 = .ok (.ldc 187, 2) ∧ decode cX10_goBack 24 = .ok (.ireturn, 1) ∧ decode cX10_goBack 25 = .ok (.aload_n 0, 1) ∧ decode cX10_goBack 26 = .ok (.getfield 25, 3) ∧ decode cX10_goBack 29 = .ok (.bipush 31, 2) ∧ decode cX10_goBack 31 = .ok (.iload_n 1, 1) ∧ decode cX10_goBack 32 = .ok (.imul, 1) ∧ decode cX10_goBack 33 = .ok (.aload_n 0, 1) ∧ decode cX10_goBack 34 = .ok (.getfield 16, 3) ∧ decode cX10_goBack 37 = .ok (.iconst 0, 1) ∧ decode cX10_goBack 38 = .ok (.bipush 30, 2) := by decide +kernel
theorem dX10_goBack_19 : decode cX10_goBack 19 = .ok (.ifCond .ne 6, 3) := dkAb265.1
theorem dX10_goBack_22 : decode cX10_goBack 22 = .ok (.ldc 187, 2) := dkAb265.2.1
theorem dX10_goBack_24 : decode cX10_goBack 24 = .ok (.ireturn, 1) := dkAb265.2.2.1
theorem dX10_goBack_25 : decode cX10_goBack 25 = .ok (.aload_n 0, 1) := dkAb265.2.2.2.1
theorem dX10_goBack_26 : decode cX10_goBack 26 = .ok (.getfield 25, 3) := dkAb265.2.2.2.2.1
theorem dX10_goBack_29 : decode cX10_goBack 29 = .ok (.bipush 31, 2) := dkAb265.2.2.2.2.2.1
theorem dX10_goBack_31 : decode cX10_goBack 31 = .ok (.iload_n 1, 1) := dkAb265.2.2.2.2.2.2.1
theorem dX10_goBack_32 : decode cX10_goBack 32 = .ok (.imul, 1) := dkAb265.2.2.2.2.2.2.2.1
theorem dX10_goBack_33 : decode cX10_goBack 33 = .ok (.aload_n 0, 1) := dkAb265.2.2.2.2.2.2.2.2.1
theorem dX10_goBack_34 : decode cX10_goBack 34 = .ok (.getfield 16, 3) := dkAb265.2.2.2.2.2.2.2.2.2.1
theorem dX10_goBack_37 : decode cX10_goBack 37 = .ok (.iconst 0, 1) := dkAb265.2.2.2.2.2.2.2.2.2.2.1
theorem dX10_goBack_38 : decode cX10_goBack 38 = .ok (.bipush 30, 2) := dkAb265.2.2.2.2.2.2.2.2.2.2.2
set_option maxRecDepth 100000 in
theorem dkAb266 : decode cX10_goBack 40 = .ok (.invokestatic 66, 3) ∧ decode cX10_goBack 43 = .ok (.aload_n 0, 1) ∧ decode cX10_goBack 44 = .ok (.aload_n 0, 1) ∧ decode cX10_goBack 45 = .ok (.getfield 25, 3) ∧ decode cX10_goBack 48 = .ok (.bipush 31, 2) ∧ decode cX10_goBack 50 = .ok (.iload_n 1, 1) ∧ decode cX10_goBack 51 = .ok (.imul, 1) ∧ decode cX10_goBack 52 = .ok (.bipush 30, 2) ∧ decode cX10_goBack 54 = .ok (.iadd, 1) ∧ decode cX10_goBack 55 = .ok (.iaload, 1) ∧ decode cX10_goBack 56 = .ok (.i2l, 1) ∧ decode cX10_goBack 57 = .ok (.putfield 211, 3) := by decide +kernel
theorem dX10_goBack_40 : decode cX10_goBack 40 = .ok (.invokestatic 66, 3) := dkAb266.1
theorem dX10_goBack_43 : decode cX10_goBack 43 = .ok (.aload_n 0, 1) := dkAb266.2.1
theorem dX10_goBack_44 : decode cX10_goBack 44 = .ok (.aload_n 0, 1) := dkAb266.2.2.1
theorem dX10_goBack_45 : decode cX10_goBack 45 = .ok (.getfield 25, 3) := dkAb266.2.2.2.1
theorem dX10_goBack_48 : decode cX10_goBack 48 = .ok (.bipush 31, 2) := dkAb266.2.2.2.2.1
theorem dX10_goBack_50 : decode cX10_goBack 50 = .ok (.iload_n 1, 1) := dkAb266.2.2.2.2.2.1
theorem dX10_goBack_51 : decode cX10_goBack 51 = .ok (.imul, 1) := dkAb266.2.2.2.2.2.2.1
theorem dX10_goBack_52 : decode cX10_goBack 52 = .ok (.bipush 30, 2) := dkAb266.2.2.2.2.2.2.2.1
theorem dX10_goBack_54 : decode cX10_goBack 54 = .ok (.iadd, 1) := dkAb266.2.2.2.2.2.2.2.2.1
theorem dX10_goBack_55 : decode cX10_goBack 55 = .ok (.iaload, 1) := dkAb266.2.2.2.2.2.2.2.2.2.1
theorem dX10_goBack_56 : decode cX10_goBack 56 = .ok (.i2l, 1) := dkAb266.2.2.2.2.2.2.2.2.2.2.1
theorem dX10_goBack_57 : decode cX10_goBack 57 = .ok (.putfield 211, 3) := dkAb266.2.2.2.2.2.2.2.2.2.2.2
set_option maxRecDepth 100000 in
theorem dkAb267 : decode cX10_goBack 60 = .ok (.aload_n 0, 1) ∧ decode cX10_goBack 61 = .ok (.iconst 0, 1) ∧ decode cX10_goBack 62 = .ok (.putfield 70, 3) ∧ decode cX10_goBack 65 = .ok (.iconst 1, 1) ∧ decode cX10_goBack 66 = .ok (.ireturn, 1) := by decide +kernel
theorem dX10_goBack_60 : decode cX10_goBack 60 = .ok (.aload_n 0, 1) := dkAb267.1
theorem dX10_goBack_61 : decode cX10_goBack 61 = .ok (.iconst 0, 1) := dkAb267.2.1
theorem dX10_goBack_62 : decode cX10_goBack 62 = .ok (.putfield 70, 3) := dkAb267.2.2.1
theorem dX10_goBack_65 : decode cX10_goBack 65 = .ok (.iconst 1, 1) := dkAb267.2.2.2.1
theorem dX10_goBack_66 : decode cX10_goBack 66 = .ok (.ireturn, 1) := dkAb267.2.2.2.2
