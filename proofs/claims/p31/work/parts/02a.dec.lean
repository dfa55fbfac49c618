set_option maxRecDepth 100000 in
theorem dkAa0 : decode cX0_init 0 = .ok (.aload_n 0, 1) ∧ decode cX0_init 1 = .ok (.invokespecial 3, 3) ∧ decode cX0_init 4 = .ok (.aload_n 0, 1) ∧ decode cX0_init 5 = .ok (.bipush 6, 2) ∧ decode cX0_init 7 = .ok (.newarray .int, 2) ∧ decode cX0_init 9 = .ok (.putfield 9, 3) ∧ decode cX0_init 12 = .ok (.aload_n 0, 1) ∧ decode cX0_init 13 = .ok (.bipush 6, 2) ∧ decode cX0_init 15 = .ok (.newarray .int, 2) ∧ decode cX0_init 17 = .ok (.putfield 15, 3) ∧ decode cX0_init 20 = .ok (.aload_n 0, 1) ∧ decode cX0_init 21 = .ok (.bipush 7, 2) := by decide +kernel
theorem dX0_init_0 : decode cX0_init 0 = .ok (.aload_n 0, 1) := dkAa0.1
theorem dX0_init_1 : decode cX0_init 1 = .ok (.invokespecial 3, 3) := dkAa0.2.1
theorem dX0_init_4 : decode cX0_init 4 = .ok (.aload_n 0, 1) := dkAa0.2.2.1
theorem dX0_init_5 : decode cX0_init 5 = .ok (.bipush 6, 2) := dkAa0.2.2.2.1
theorem dX0_init_7 : decode cX0_init 7 = .ok (.newarray .int, 2) := dkAa0.2.2.2.2.1
theorem dX0_init_9 : decode cX0_init 9 = .ok (.putfield 9, 3) := dkAa0.2.2.2.2.2.1
theorem dX0_init_12 : decode cX0_init 12 = .ok (.aload_n 0, 1) := dkAa0.2.2.2.2.2.2.1
theorem dX0_init_13 : decode cX0_init 13 = .ok (.bipush 6, 2) := dkAa0.2.2.2.2.2.2.2.1
theorem dX0_init_15 : decode cX0_init 15 = .ok (.newarray .int, 2) := dkAa0.2.2.2.2.2.2.2.2.1
theorem dX0_init_17 : decode cX0_init 17 = .ok (.putfield 15, 3) := dkAa0.2.2.2.2.2.2.2.2.2.1
theorem dX0_init_20 : decode cX0_init 20 = .ok (.aload_n 0, 1) := dkAa0.2.2.2.2.2.2.2.2.2.2.1
theorem dX0_init_21 : decode cX0_init 21 = .ok (.bipush 7, 2) := dkAa0.2.2.2.2.2.2.2.2.2.2.2
set_option maxRecDepth 100000 in
theorem dkAa1 : decode cX0_init 23 = .ok (.sipush 128, 3) ∧ decode cX0_init 26 = .ok (.multianewarray 18 2, 4) ∧ decode cX0_init 30 = .ok (.putfield 20, 3) ∧ decode cX0_init 33 = .ok (.return_, 1) := by decide +kernel
theorem dX0_init_23 : decode cX0_init 23 = .ok (.sipush 128, 3) := dkAa1.1
theorem dX0_init_26 : decode cX0_init 26 = .ok (.multianewarray 18 2, 4) := dkAa1.2.1
theorem dX0_init_30 : decode cX0_init 30 = .ok (.putfield 20, 3) := dkAa1.2.2.1
theorem dX0_init_33 : decode cX0_init 33 = .ok (.return_, 1) := dkAa1.2.2.2
set_option maxRecDepth 100000 in
theorem dkAa2 : decode cX0_give 0 = .ok (.iconst 5, 1) ∧ decode cX0_give 1 = .ok (.istore_n 3, 1) ∧ decode cX0_give 2 = .ok (.iload_n 3, 1) ∧ decode cX0_give 3 = .ok (.ifCond .lt 54, 3) ∧ decode cX0_give 6 = .ok (.aload_n 0, 1) ∧ decode cX0_give 7 = .ok (.getfield 15, 3) ∧ decode cX0_give 10 = .ok (.iload_n 3, 1) ∧ decode cX0_give 11 = .ok (.iload_n 3, 1) ∧ decode cX0_give 12 = .ok (.aload_n 1, 1) ∧ decode cX0_give 13 = .ok (.aload_n 2, 1) ∧ decode cX0_give 14 = .ok (.invokestatic 23, 3) ∧ decode cX0_give 17 = .ok (.iastore, 1) := by decide +kernel
theorem dX0_give_0 : decode cX0_give 0 = .ok (.iconst 5, 1) := dkAa2.1
theorem dX0_give_1 : decode cX0_give 1 = .ok (.istore_n 3, 1) := dkAa2.2.1
theorem dX0_give_2 : decode cX0_give 2 = .ok (.iload_n 3, 1) := dkAa2.2.2.1
theorem dX0_give_3 : decode cX0_give 3 = .ok (.ifCond .lt 54, 3) := dkAa2.2.2.2.1
theorem dX0_give_6 : decode cX0_give 6 = .ok (.aload_n 0, 1) := dkAa2.2.2.2.2.1
theorem dX0_give_7 : decode cX0_give 7 = .ok (.getfield 15, 3) := dkAa2.2.2.2.2.2.1
theorem dX0_give_10 : decode cX0_give 10 = .ok (.iload_n 3, 1) := dkAa2.2.2.2.2.2.2.1
theorem dX0_give_11 : decode cX0_give 11 = .ok (.iload_n 3, 1) := dkAa2.2.2.2.2.2.2.2.1
theorem dX0_give_12 : decode cX0_give 12 = .ok (.aload_n 1, 1) := dkAa2.2.2.2.2.2.2.2.2.1
theorem dX0_give_13 : decode cX0_give 13 = .ok (.aload_n 2, 1) := dkAa2.2.2.2.2.2.2.2.2.2.1
theorem dX0_give_14 : decode cX0_give 14 = .ok (.invokestatic 23, 3) := dkAa2.2.2.2.2.2.2.2.2.2.2.1
theorem dX0_give_17 : decode cX0_give 17 = .ok (.iastore, 1) := dkAa2.2.2.2.2.2.2.2.2.2.2.2
set_option maxRecDepth 100000 in
theorem dkAa3 : decode cX0_give 18 = .ok (.iconst 0, 1) ∧ decode cX0_give 19 = .ok (.istore 4, 2) ∧ decode cX0_give 21 = .ok (.iload 4, 2) ∧ decode cX0_give 23 = .ok (.sipush 128, 3) ∧ decode cX0_give 26 = .ok (.if_icmp .ge 25, 3) ∧ decode cX0_give 29 = .ok (.aload_n 0, 1) ∧ decode cX0_give 30 = .ok (.getfield 20, 3) ∧ decode cX0_give 33 = .ok (.iload_n 3, 1) ∧ decode cX0_give 34 = .ok (.aaload, 1) ∧ decode cX0_give 35 = .ok (.iload 4, 2) ∧ decode cX0_give 37 = .ok (.aload_n 0, 1) ∧ decode cX0_give 38 = .ok (.iload_n 3, 1) := by decide +kernel
theorem dX0_give_18 : decode cX0_give 18 = .ok (.iconst 0, 1) := dkAa3.1
theorem dX0_give_19 : decode cX0_give 19 = .ok (.istore 4, 2) := dkAa3.2.1
theorem dX0_give_21 : decode cX0_give 21 = .ok (.iload 4, 2) := dkAa3.2.2.1
theorem dX0_give_23 : decode cX0_give 23 = .ok (.sipush 128, 3) := dkAa3.2.2.2.1
theorem dX0_give_26 : decode cX0_give 26 = .ok (.if_icmp .ge 25, 3) := dkAa3.2.2.2.2.1
theorem dX0_give_29 : decode cX0_give 29 = .ok (.aload_n 0, 1) := dkAa3.2.2.2.2.2.1
theorem dX0_give_30 : decode cX0_give 30 = .ok (.getfield 20, 3) := dkAa3.2.2.2.2.2.2.1
theorem dX0_give_33 : decode cX0_give 33 = .ok (.iload_n 3, 1) := dkAa3.2.2.2.2.2.2.2.1
theorem dX0_give_34 : decode cX0_give 34 = .ok (.aaload, 1) := dkAa3.2.2.2.2.2.2.2.2.1
theorem dX0_give_35 : decode cX0_give 35 = .ok (.iload 4, 2) := dkAa3.2.2.2.2.2.2.2.2.2.1
theorem dX0_give_37 : decode cX0_give 37 = .ok (.aload_n 0, 1) := dkAa3.2.2.2.2.2.2.2.2.2.2.1
theorem dX0_give_38 : decode cX0_give 38 = .ok (.iload_n 3, 1) := dkAa3.2.2.2.2.2.2.2.2.2.2.2
set_option maxRecDepth 100000 in
theorem dkAa4 : decode cX0_give 39 = .ok (.iload 4, 2) ∧ decode cX0_give 41 = .ok (.invokevirtual 27, 3) ∧ decode cX0_give 44 = .ok (.iastore, 1) ∧ decode cX0_give 45 = .ok (.iinc 4 1, 3) ∧ decode cX0_give 48 = .ok (.goto (-27), 3) ∧ decode cX0_give 51 = .ok (.iinc 3 (-1), 3) ∧ decode cX0_give 54 = .ok (.goto (-52), 3) ∧ decode cX0_give 57 = .ok (.iconst 0, 1) ∧ decode cX0_give 58 = .ok (.istore_n 3, 1) ∧ decode cX0_give 59 = .ok (.iconst 0, 1) ∧ decode cX0_give 60 = .ok (.istore 4, 2) ∧ decode cX0_give 62 = .ok (.iload 4, 2) := by decide +kernel
theorem dX0_give_39 : decode cX0_give 39 = .ok (.iload 4, 2) := dkAa4.1
theorem dX0_give_41 : decode cX0_give 41 = .ok (.invokevirtual 27, 3) := dkAa4.2.1
theorem dX0_give_44 : decode cX0_give 44 = .ok (.iastore, 1) := dkAa4.2.2.1
theorem dX0_give_45 : decode cX0_give 45 = .ok (.iinc 4 1, 3) := dkAa4.2.2.2.1
theorem dX0_give_48 : decode cX0_give 48 = .ok (.goto (-27), 3) := dkAa4.2.2.2.2.1
theorem dX0_give_51 : decode cX0_give 51 = .ok (.iinc 3 (-1), 3) := dkAa4.2.2.2.2.2.1
theorem dX0_give_54 : decode cX0_give 54 = .ok (.goto (-52), 3) := dkAa4.2.2.2.2.2.2.1
theorem dX0_give_57 : decode cX0_give 57 = .ok (.iconst 0, 1) := dkAa4.2.2.2.2.2.2.2.1
theorem dX0_give_58 : decode cX0_give 58 = .ok (.istore_n 3, 1) := dkAa4.2.2.2.2.2.2.2.2.1
theorem dX0_give_59 : decode cX0_give 59 = .ok (.iconst 0, 1) := dkAa4.2.2.2.2.2.2.2.2.2.1
theorem dX0_give_60 : decode cX0_give 60 = .ok (.istore 4, 2) := dkAa4.2.2.2.2.2.2.2.2.2.2.1
theorem dX0_give_62 : decode cX0_give 62 = .ok (.iload 4, 2) := dkAa4.2.2.2.2.2.2.2.2.2.2.2
set_option maxRecDepth 100000 in
theorem dkAa5 : decode cX0_give 64 = .ok (.bipush 6, 2) ∧ decode cX0_give 66 = .ok (.if_icmp .ge 46, 3) ∧ decode cX0_give 69 = .ok (.aload_n 0, 1) ∧ decode cX0_give 70 = .ok (.getfield 9, 3) ∧ decode cX0_give 73 = .ok (.iload 4, 2) ∧ decode cX0_give 75 = .ok (.aload_n 0, 1) ∧ decode cX0_give 76 = .ok (.iload 4, 2) ∧ decode cX0_give 78 = .ok (.iload_n 3, 1) ∧ decode cX0_give 79 = .ok (.invokevirtual 31, 3) ∧ decode cX0_give 82 = .ok (.iastore, 1) ∧ decode cX0_give 83 = .ok (.aload_n 0, 1) ∧ decode cX0_give 84 = .ok (.getfield 9, 3) := by decide +kernel
theorem dX0_give_64 : decode cX0_give 64 = .ok (.bipush 6, 2) := dkAa5.1
theorem dX0_give_66 : decode cX0_give 66 = .ok (.if_icmp .ge 46, 3) := dkAa5.2.1
theorem dX0_give_69 : decode cX0_give 69 = .ok (.aload_n 0, 1) := dkAa5.2.2.1
theorem dX0_give_70 : decode cX0_give 70 = .ok (.getfield 9, 3) := dkAa5.2.2.2.1
theorem dX0_give_73 : decode cX0_give 73 = .ok (.iload 4, 2) := dkAa5.2.2.2.2.1
theorem dX0_give_75 : decode cX0_give 75 = .ok (.aload_n 0, 1) := dkAa5.2.2.2.2.2.1
theorem dX0_give_76 : decode cX0_give 76 = .ok (.iload 4, 2) := dkAa5.2.2.2.2.2.2.1
theorem dX0_give_78 : decode cX0_give 78 = .ok (.iload_n 3, 1) := dkAa5.2.2.2.2.2.2.2.1
theorem dX0_give_79 : decode cX0_give 79 = .ok (.invokevirtual 31, 3) := dkAa5.2.2.2.2.2.2.2.2.1
theorem dX0_give_82 : decode cX0_give 82 = .ok (.iastore, 1) := dkAa5.2.2.2.2.2.2.2.2.2.1
theorem dX0_give_83 : decode cX0_give 83 = .ok (.aload_n 0, 1) := dkAa5.2.2.2.2.2.2.2.2.2.2.1
theorem dX0_give_84 : decode cX0_give 84 = .ok (.getfield 9, 3) := dkAa5.2.2.2.2.2.2.2.2.2.2.2
set_option maxRecDepth 100000 in
theorem dkAa6 : decode cX0_give 87 = .ok (.iload 4, 2) ∧ decode cX0_give 89 = .ok (.iaload, 1) ∧ decode cX0_give 90 = .ok (.iconst (-1), 1) ∧ decode cX0_give 91 = .ok (.if_icmp .eq 15, 3) ∧ decode cX0_give 94 = .ok (.iload_n 3, 1) ∧ decode cX0_give 95 = .ok (.iconst 1, 1) ∧ decode cX0_give 96 = .ok (.aload_n 0, 1) ∧ decode cX0_give 97 = .ok (.getfield 9, 3) ∧ decode cX0_give 100 = .ok (.iload 4, 2) ∧ decode cX0_give 102 = .ok (.iaload, 1) ∧ decode cX0_give 103 = .ok (.ishl, 1) ∧ decode cX0_give 104 = .ok (.ior, 1) := by decide +kernel
theorem dX0_give_87 : decode cX0_give 87 = .ok (.iload 4, 2) := dkAa6.1
theorem dX0_give_89 : decode cX0_give 89 = .ok (.iaload, 1) := dkAa6.2.1
theorem dX0_give_90 : decode cX0_give 90 = .ok (.iconst (-1), 1) := dkAa6.2.2.1
theorem dX0_give_91 : decode cX0_give 91 = .ok (.if_icmp .eq 15, 3) := dkAa6.2.2.2.1
theorem dX0_give_94 : decode cX0_give 94 = .ok (.iload_n 3, 1) := dkAa6.2.2.2.2.1
theorem dX0_give_95 : decode cX0_give 95 = .ok (.iconst 1, 1) := dkAa6.2.2.2.2.2.1
theorem dX0_give_96 : decode cX0_give 96 = .ok (.aload_n 0, 1) := dkAa6.2.2.2.2.2.2.1
theorem dX0_give_97 : decode cX0_give 97 = .ok (.getfield 9, 3) := dkAa6.2.2.2.2.2.2.2.1
theorem dX0_give_100 : decode cX0_give 100 = .ok (.iload 4, 2) := dkAa6.2.2.2.2.2.2.2.2.1
theorem dX0_give_102 : decode cX0_give 102 = .ok (.iaload, 1) := dkAa6.2.2.2.2.2.2.2.2.2.1
theorem dX0_give_103 : decode cX0_give 103 = .ok (.ishl, 1) := dkAa6.2.2.2.2.2.2.2.2.2.2.1
theorem dX0_give_104 : decode cX0_give 104 = .ok (.ior, 1) := dkAa6.2.2.2.2.2.2.2.2.2.2.2
set_option maxRecDepth 100000 in
theorem dkAa7 : decode cX0_give 105 = .ok (.istore_n 3, 1) ∧ decode cX0_give 106 = .ok (.iinc 4 1, 3) ∧ decode cX0_give 109 = .ok (.goto (-47), 3) ∧ decode cX0_give 112 = .ok (.return_, 1) := by decide +kernel
theorem dX0_give_105 : decode cX0_give 105 = .ok (.istore_n 3, 1) := dkAa7.1
theorem dX0_give_106 : decode cX0_give 106 = .ok (.iinc 4 1, 3) := dkAa7.2.1
theorem dX0_give_109 : decode cX0_give 109 = .ok (.goto (-47), 3) := dkAa7.2.2.1
theorem dX0_give_112 : decode cX0_give 112 = .ok (.return_, 1) := dkAa7.2.2.2
set_option maxRecDepth 100000 in
theorem dkAa8 : decode cX0_suitedFor 0 = .ok (.iconst 0, 1) ∧ decode cX0_suitedFor 1 = .ok (.istore_n 3, 1) ∧ decode cX0_suitedFor 2 = .ok (.iconst 0, 1) ∧ decode cX0_suitedFor 3 = .ok (.istore 4, 2) ∧ decode cX0_suitedFor 5 = .ok (.iload 4, 2) ∧ decode cX0_suitedFor 7 = .ok (.bipush 7, 2) ∧ decode cX0_suitedFor 9 = .ok (.if_icmp .ge 39, 3) ∧ decode cX0_suitedFor 12 = .ok (.aload_n 2, 1) ∧ decode cX0_suitedFor 13 = .ok (.iload 4, 2) ∧ decode cX0_suitedFor 15 = .ok (.invokevirtual 34, 3) ∧ decode cX0_suitedFor 18 = .ok (.ifCond .eq 24, 3) ∧ decode cX0_suitedFor 21 = .ok (.aload_n 1, 1) := by decide +kernel
theorem dX0_suitedFor_0 : decode cX0_suitedFor 0 = .ok (.iconst 0, 1) := dkAa8.1
theorem dX0_suitedFor_1 : decode cX0_suitedFor 1 = .ok (.istore_n 3, 1) := dkAa8.2.1
theorem dX0_suitedFor_2 : decode cX0_suitedFor 2 = .ok (.iconst 0, 1) := dkAa8.2.2.1
theorem dX0_suitedFor_3 : decode cX0_suitedFor 3 = .ok (.istore 4, 2) := dkAa8.2.2.2.1
theorem dX0_suitedFor_5 : decode cX0_suitedFor 5 = .ok (.iload 4, 2) := dkAa8.2.2.2.2.1
theorem dX0_suitedFor_7 : decode cX0_suitedFor 7 = .ok (.bipush 7, 2) := dkAa8.2.2.2.2.2.1
theorem dX0_suitedFor_9 : decode cX0_suitedFor 9 = .ok (.if_icmp .ge 39, 3) := dkAa8.2.2.2.2.2.2.1
theorem dX0_suitedFor_12 : decode cX0_suitedFor 12 = .ok (.aload_n 2, 1) := dkAa8.2.2.2.2.2.2.2.1
theorem dX0_suitedFor_13 : decode cX0_suitedFor 13 = .ok (.iload 4, 2) := dkAa8.2.2.2.2.2.2.2.2.1
theorem dX0_suitedFor_15 : decode cX0_suitedFor 15 = .ok (.invokevirtual 34, 3) := dkAa8.2.2.2.2.2.2.2.2.2.1
theorem dX0_suitedFor_18 : decode cX0_suitedFor 18 = .ok (.ifCond .eq 24, 3) := dkAa8.2.2.2.2.2.2.2.2.2.2.1
theorem dX0_suitedFor_21 : decode cX0_suitedFor 21 = .ok (.aload_n 1, 1) := dkAa8.2.2.2.2.2.2.2.2.2.2.2
set_option maxRecDepth 100000 in
theorem dkAa9 : decode cX0_suitedFor 22 = .ok (.iload_n 0, 1) ∧ decode cX0_suitedFor 23 = .ok (.aload_n 2, 1) ∧ decode cX0_suitedFor 24 = .ok (.iload 4, 2) ∧ decode cX0_suitedFor 26 = .ok (.invokevirtual 40, 3) ∧ decode cX0_suitedFor 29 = .ok (.invokevirtual 44, 3) ∧ decode cX0_suitedFor 32 = .ok (.ifCond .eq 10, 3) ∧ decode cX0_suitedFor 35 = .ok (.iload_n 3, 1) ∧ decode cX0_suitedFor 36 = .ok (.iconst 1, 1) ∧ decode cX0_suitedFor 37 = .ok (.iload 4, 2) ∧ decode cX0_suitedFor 39 = .ok (.ishl, 1) ∧ decode cX0_suitedFor 40 = .ok (.ior, 1) ∧ decode cX0_suitedFor 41 = .ok (.istore_n 3, 1) := by decide +kernel
theorem dX0_suitedFor_22 : decode cX0_suitedFor 22 = .ok (.iload_n 0, 1) := dkAa9.1
theorem dX0_suitedFor_23 : decode cX0_suitedFor 23 = .ok (.aload_n 2, 1) := dkAa9.2.1
theorem dX0_suitedFor_24 : decode cX0_suitedFor 24 = .ok (.iload 4, 2) := dkAa9.2.2.1
theorem dX0_suitedFor_26 : decode cX0_suitedFor 26 = .ok (.invokevirtual 40, 3) := dkAa9.2.2.2.1
theorem dX0_suitedFor_29 : decode cX0_suitedFor 29 = .ok (.invokevirtual 44, 3) := dkAa9.2.2.2.2.1
theorem dX0_suitedFor_32 : decode cX0_suitedFor 32 = .ok (.ifCond .eq 10, 3) := dkAa9.2.2.2.2.2.1
theorem dX0_suitedFor_35 : decode cX0_suitedFor 35 = .ok (.iload_n 3, 1) := dkAa9.2.2.2.2.2.2.1
theorem dX0_suitedFor_36 : decode cX0_suitedFor 36 = .ok (.iconst 1, 1) := dkAa9.2.2.2.2.2.2.2.1
theorem dX0_suitedFor_37 : decode cX0_suitedFor 37 = .ok (.iload 4, 2) := dkAa9.2.2.2.2.2.2.2.2.1
theorem dX0_suitedFor_39 : decode cX0_suitedFor 39 = .ok (.ishl, 1) := dkAa9.2.2.2.2.2.2.2.2.2.1
theorem dX0_suitedFor_40 : decode cX0_suitedFor 40 = .ok (.ior, 1) := dkAa9.2.2.2.2.2.2.2.2.2.2.1
theorem dX0_suitedFor_41 : decode cX0_suitedFor 41 = .ok (.istore_n 3, 1) := dkAa9.2.2.2.2.2.2.2.2.2.2.2
set_option maxRecDepth 100000 in
theorem dkAa10 : decode cX0_suitedFor 42 = .ok (.iinc 4 1, 3) ∧ decode cX0_suitedFor 45 = .ok (.goto (-40), 3) ∧ decode cX0_suitedFor 48 = .ok (.iload_n 3, 1) ∧ decode cX0_suitedFor 49 = .ok (.ireturn, 1) := by decide +kernel
theorem dX0_suitedFor_42 : decode cX0_suitedFor 42 = .ok (.iinc 4 1, 3) := dkAa10.1
theorem dX0_suitedFor_45 : decode cX0_suitedFor 45 = .ok (.goto (-40), 3) := dkAa10.2.1
theorem dX0_suitedFor_48 : decode cX0_suitedFor 48 = .ok (.iload_n 3, 1) := dkAa10.2.2.1
theorem dX0_suitedFor_49 : decode cX0_suitedFor 49 = .ok (.ireturn, 1) := dkAa10.2.2.2
set_option maxRecDepth 100000 in
theorem dkAa11 : decode cX0_mostFrom 0 = .ok (.aload_n 0, 1) ∧ decode cX0_mostFrom 1 = .ok (.iload_n 1, 1) ∧ decode cX0_mostFrom 2 = .ok (.iconst 1, 1) ∧ decode cX0_mostFrom 3 = .ok (.iadd, 1) ∧ decode cX0_mostFrom 4 = .ok (.iload_n 2, 1) ∧ decode cX0_mostFrom 5 = .ok (.invokevirtual 50, 3) ∧ decode cX0_mostFrom 8 = .ok (.istore_n 3, 1) ∧ decode cX0_mostFrom 9 = .ok (.iconst 0, 1) ∧ decode cX0_mostFrom 10 = .ok (.istore 4, 2) ∧ decode cX0_mostFrom 12 = .ok (.iload 4, 2) ∧ decode cX0_mostFrom 14 = .ok (.bipush 7, 2) ∧ decode cX0_mostFrom 16 = .ok (.if_icmp .ge 40, 3) := by decide +kernel
theorem dX0_mostFrom_0 : decode cX0_mostFrom 0 = .ok (.aload_n 0, 1) := dkAa11.1
theorem dX0_mostFrom_1 : decode cX0_mostFrom 1 = .ok (.iload_n 1, 1) := dkAa11.2.1
theorem dX0_mostFrom_2 : decode cX0_mostFrom 2 = .ok (.iconst 1, 1) := dkAa11.2.2.1
theorem dX0_mostFrom_3 : decode cX0_mostFrom 3 = .ok (.iadd, 1) := dkAa11.2.2.2.1
theorem dX0_mostFrom_4 : decode cX0_mostFrom 4 = .ok (.iload_n 2, 1) := dkAa11.2.2.2.2.1
theorem dX0_mostFrom_5 : decode cX0_mostFrom 5 = .ok (.invokevirtual 50, 3) := dkAa11.2.2.2.2.2.1
theorem dX0_mostFrom_8 : decode cX0_mostFrom 8 = .ok (.istore_n 3, 1) := dkAa11.2.2.2.2.2.2.1
theorem dX0_mostFrom_9 : decode cX0_mostFrom 9 = .ok (.iconst 0, 1) := dkAa11.2.2.2.2.2.2.2.1
theorem dX0_mostFrom_10 : decode cX0_mostFrom 10 = .ok (.istore 4, 2) := dkAa11.2.2.2.2.2.2.2.2.1
theorem dX0_mostFrom_12 : decode cX0_mostFrom 12 = .ok (.iload 4, 2) := dkAa11.2.2.2.2.2.2.2.2.2.1
theorem dX0_mostFrom_14 : decode cX0_mostFrom 14 = .ok (.bipush 7, 2) := dkAa11.2.2.2.2.2.2.2.2.2.2.1
theorem dX0_mostFrom_16 : decode cX0_mostFrom 16 = .ok (.if_icmp .ge 40, 3) := dkAa11.2.2.2.2.2.2.2.2.2.2.2
set_option maxRecDepth 100000 in
theorem dkAa12 : decode cX0_mostFrom 19 = .ok (.aload_n 0, 1) ∧ decode cX0_mostFrom 20 = .ok (.iload_n 1, 1) ∧ decode cX0_mostFrom 21 = .ok (.iload 4, 2) ∧ decode cX0_mostFrom 23 = .ok (.iload_n 2, 1) ∧ decode cX0_mostFrom 24 = .ok (.invokevirtual 53, 3) ∧ decode cX0_mostFrom 27 = .ok (.ifCond .eq 23, 3) ∧ decode cX0_mostFrom 30 = .ok (.iload_n 3, 1) ∧ decode cX0_mostFrom 31 = .ok (.iconst 1, 1) ∧ decode cX0_mostFrom 32 = .ok (.aload_n 0, 1) ∧ decode cX0_mostFrom 33 = .ok (.iload_n 1, 1) ∧ decode cX0_mostFrom 34 = .ok (.iconst 1, 1) ∧ decode cX0_mostFrom 35 = .ok (.iadd, 1) := by decide +kernel
theorem dX0_mostFrom_19 : decode cX0_mostFrom 19 = .ok (.aload_n 0, 1) := dkAa12.1
theorem dX0_mostFrom_20 : decode cX0_mostFrom 20 = .ok (.iload_n 1, 1) := dkAa12.2.1
theorem dX0_mostFrom_21 : decode cX0_mostFrom 21 = .ok (.iload 4, 2) := dkAa12.2.2.1
theorem dX0_mostFrom_23 : decode cX0_mostFrom 23 = .ok (.iload_n 2, 1) := dkAa12.2.2.2.1
theorem dX0_mostFrom_24 : decode cX0_mostFrom 24 = .ok (.invokevirtual 53, 3) := dkAa12.2.2.2.2.1
theorem dX0_mostFrom_27 : decode cX0_mostFrom 27 = .ok (.ifCond .eq 23, 3) := dkAa12.2.2.2.2.2.1
theorem dX0_mostFrom_30 : decode cX0_mostFrom 30 = .ok (.iload_n 3, 1) := dkAa12.2.2.2.2.2.2.1
theorem dX0_mostFrom_31 : decode cX0_mostFrom 31 = .ok (.iconst 1, 1) := dkAa12.2.2.2.2.2.2.2.1
theorem dX0_mostFrom_32 : decode cX0_mostFrom 32 = .ok (.aload_n 0, 1) := dkAa12.2.2.2.2.2.2.2.2.1
theorem dX0_mostFrom_33 : decode cX0_mostFrom 33 = .ok (.iload_n 1, 1) := dkAa12.2.2.2.2.2.2.2.2.2.1
theorem dX0_mostFrom_34 : decode cX0_mostFrom 34 = .ok (.iconst 1, 1) := dkAa12.2.2.2.2.2.2.2.2.2.2.1
theorem dX0_mostFrom_35 : decode cX0_mostFrom 35 = .ok (.iadd, 1) := dkAa12.2.2.2.2.2.2.2.2.2.2.2
set_option maxRecDepth 100000 in
theorem dkAa13 : decode cX0_mostFrom 36 = .ok (.iload_n 2, 1) ∧ decode cX0_mostFrom 37 = .ok (.iconst 1, 1) ∧ decode cX0_mostFrom 38 = .ok (.iload 4, 2) ∧ decode cX0_mostFrom 40 = .ok (.ishl, 1) ∧ decode cX0_mostFrom 41 = .ok (.ior, 1) ∧ decode cX0_mostFrom 42 = .ok (.invokevirtual 50, 3) ∧ decode cX0_mostFrom 45 = .ok (.iadd, 1) ∧ decode cX0_mostFrom 46 = .ok (.invokestatic 57, 3) ∧ decode cX0_mostFrom 49 = .ok (.istore_n 3, 1) ∧ decode cX0_mostFrom 50 = .ok (.iinc 4 1, 3) ∧ decode cX0_mostFrom 53 = .ok (.goto (-41), 3) ∧ decode cX0_mostFrom 56 = .ok (.iload_n 3, 1) := by decide +kernel
theorem dX0_mostFrom_36 : decode cX0_mostFrom 36 = .ok (.iload_n 2, 1) := dkAa13.1
theorem dX0_mostFrom_37 : decode cX0_mostFrom 37 = .ok (.iconst 1, 1) := dkAa13.2.1
theorem dX0_mostFrom_38 : decode cX0_mostFrom 38 = .ok (.iload 4, 2) := dkAa13.2.2.1
theorem dX0_mostFrom_40 : decode cX0_mostFrom 40 = .ok (.ishl, 1) := dkAa13.2.2.2.1
theorem dX0_mostFrom_41 : decode cX0_mostFrom 41 = .ok (.ior, 1) := dkAa13.2.2.2.2.1
theorem dX0_mostFrom_42 : decode cX0_mostFrom 42 = .ok (.invokevirtual 50, 3) := dkAa13.2.2.2.2.2.1
theorem dX0_mostFrom_45 : decode cX0_mostFrom 45 = .ok (.iadd, 1) := dkAa13.2.2.2.2.2.2.1
theorem dX0_mostFrom_46 : decode cX0_mostFrom 46 = .ok (.invokestatic 57, 3) := dkAa13.2.2.2.2.2.2.2.1
theorem dX0_mostFrom_49 : decode cX0_mostFrom 49 = .ok (.istore_n 3, 1) := dkAa13.2.2.2.2.2.2.2.2.1
theorem dX0_mostFrom_50 : decode cX0_mostFrom 50 = .ok (.iinc 4 1, 3) := dkAa13.2.2.2.2.2.2.2.2.2.1
theorem dX0_mostFrom_53 : decode cX0_mostFrom 53 = .ok (.goto (-41), 3) := dkAa13.2.2.2.2.2.2.2.2.2.2.1
theorem dX0_mostFrom_56 : decode cX0_mostFrom 56 = .ok (.iload_n 3, 1) := dkAa13.2.2.2.2.2.2.2.2.2.2.2
theorem dX0_mostFrom_57 : decode cX0_mostFrom 57 = .ok (.ireturn, 1) := by decide +kernel
set_option maxRecDepth 100000 in
theorem dkAa14 : decode cX0_leastSinger 0 = .ok (.iconst 0, 1) ∧ decode cX0_leastSinger 1 = .ok (.istore_n 3, 1) ∧ decode cX0_leastSinger 2 = .ok (.iload_n 3, 1) ∧ decode cX0_leastSinger 3 = .ok (.bipush 7, 2) ∧ decode cX0_leastSinger 5 = .ok (.if_icmp .ge 44, 3) ∧ decode cX0_leastSinger 8 = .ok (.aload_n 0, 1) ∧ decode cX0_leastSinger 9 = .ok (.iload_n 1, 1) ∧ decode cX0_leastSinger 10 = .ok (.iload_n 3, 1) ∧ decode cX0_leastSinger 11 = .ok (.iload_n 2, 1) ∧ decode cX0_leastSinger 12 = .ok (.invokevirtual 53, 3) ∧ decode cX0_leastSinger 15 = .ok (.ifCond .eq 28, 3) ∧ decode cX0_leastSinger 18 = .ok (.iconst 1, 1) := by decide +kernel
theorem dX0_leastSinger_0 : decode cX0_leastSinger 0 = .ok (.iconst 0, 1) := dkAa14.1
theorem dX0_leastSinger_1 : decode cX0_leastSinger 1 = .ok (.istore_n 3, 1) := dkAa14.2.1
theorem dX0_leastSinger_2 : decode cX0_leastSinger 2 = .ok (.iload_n 3, 1) := dkAa14.2.2.1
theorem dX0_leastSinger_3 : decode cX0_leastSinger 3 = .ok (.bipush 7, 2) := dkAa14.2.2.2.1
theorem dX0_leastSinger_5 : decode cX0_leastSinger 5 = .ok (.if_icmp .ge 44, 3) := dkAa14.2.2.2.2.1
theorem dX0_leastSinger_8 : decode cX0_leastSinger 8 = .ok (.aload_n 0, 1) := dkAa14.2.2.2.2.2.1
theorem dX0_leastSinger_9 : decode cX0_leastSinger 9 = .ok (.iload_n 1, 1) := dkAa14.2.2.2.2.2.2.1
theorem dX0_leastSinger_10 : decode cX0_leastSinger 10 = .ok (.iload_n 3, 1) := dkAa14.2.2.2.2.2.2.2.1
theorem dX0_leastSinger_11 : decode cX0_leastSinger 11 = .ok (.iload_n 2, 1) := dkAa14.2.2.2.2.2.2.2.2.1
theorem dX0_leastSinger_12 : decode cX0_leastSinger 12 = .ok (.invokevirtual 53, 3) := dkAa14.2.2.2.2.2.2.2.2.2.1
theorem dX0_leastSinger_15 : decode cX0_leastSinger 15 = .ok (.ifCond .eq 28, 3) := dkAa14.2.2.2.2.2.2.2.2.2.2.1
theorem dX0_leastSinger_18 : decode cX0_leastSinger 18 = .ok (.iconst 1, 1) := dkAa14.2.2.2.2.2.2.2.2.2.2.2
set_option maxRecDepth 100000 in
theorem dkAa15 : decode cX0_leastSinger 19 = .ok (.aload_n 0, 1) ∧ decode cX0_leastSinger 20 = .ok (.iload_n 1, 1) ∧ decode cX0_leastSinger 21 = .ok (.iconst 1, 1) ∧ decode cX0_leastSinger 22 = .ok (.iadd, 1) ∧ decode cX0_leastSinger 23 = .ok (.iload_n 2, 1) ∧ decode cX0_leastSinger 24 = .ok (.iconst 1, 1) ∧ decode cX0_leastSinger 25 = .ok (.iload_n 3, 1) ∧ decode cX0_leastSinger 26 = .ok (.ishl, 1) ∧ decode cX0_leastSinger 27 = .ok (.ior, 1) ∧ decode cX0_leastSinger 28 = .ok (.invokevirtual 50, 3) ∧ decode cX0_leastSinger 31 = .ok (.iadd, 1) ∧ decode cX0_leastSinger 32 = .ok (.aload_n 0, 1) := by decide +kernel
theorem dX0_leastSinger_19 : decode cX0_leastSinger 19 = .ok (.aload_n 0, 1) := dkAa15.1
theorem dX0_leastSinger_20 : decode cX0_leastSinger 20 = .ok (.iload_n 1, 1) := dkAa15.2.1
theorem dX0_leastSinger_21 : decode cX0_leastSinger 21 = .ok (.iconst 1, 1) := dkAa15.2.2.1
theorem dX0_leastSinger_22 : decode cX0_leastSinger 22 = .ok (.iadd, 1) := dkAa15.2.2.2.1
theorem dX0_leastSinger_23 : decode cX0_leastSinger 23 = .ok (.iload_n 2, 1) := dkAa15.2.2.2.2.1
theorem dX0_leastSinger_24 : decode cX0_leastSinger 24 = .ok (.iconst 1, 1) := dkAa15.2.2.2.2.2.1
theorem dX0_leastSinger_25 : decode cX0_leastSinger 25 = .ok (.iload_n 3, 1) := dkAa15.2.2.2.2.2.2.1
theorem dX0_leastSinger_26 : decode cX0_leastSinger 26 = .ok (.ishl, 1) := dkAa15.2.2.2.2.2.2.2.1
theorem dX0_leastSinger_27 : decode cX0_leastSinger 27 = .ok (.ior, 1) := dkAa15.2.2.2.2.2.2.2.2.1
theorem dX0_leastSinger_28 : decode cX0_leastSinger 28 = .ok (.invokevirtual 50, 3) := dkAa15.2.2.2.2.2.2.2.2.2.1
theorem dX0_leastSinger_31 : decode cX0_leastSinger 31 = .ok (.iadd, 1) := dkAa15.2.2.2.2.2.2.2.2.2.2.1
theorem dX0_leastSinger_32 : decode cX0_leastSinger 32 = .ok (.aload_n 0, 1) := dkAa15.2.2.2.2.2.2.2.2.2.2.2
set_option maxRecDepth 100000 in
theorem dkAa16 : decode cX0_leastSinger 33 = .ok (.iload_n 1, 1) ∧ decode cX0_leastSinger 34 = .ok (.iload_n 2, 1) ∧ decode cX0_leastSinger 35 = .ok (.invokevirtual 50, 3) ∧ decode cX0_leastSinger 38 = .ok (.if_icmp .ne 5, 3) ∧ decode cX0_leastSinger 41 = .ok (.iload_n 3, 1) ∧ decode cX0_leastSinger 42 = .ok (.ireturn, 1) ∧ decode cX0_leastSinger 43 = .ok (.iinc 3 1, 3) ∧ decode cX0_leastSinger 46 = .ok (.goto (-44), 3) ∧ decode cX0_leastSinger 49 = .ok (.iconst (-1), 1) ∧ decode cX0_leastSinger 50 = .ok (.ireturn, 1) := by decide +kernel
theorem dX0_leastSinger_33 : decode cX0_leastSinger 33 = .ok (.iload_n 1, 1) := dkAa16.1
theorem dX0_leastSinger_34 : decode cX0_leastSinger 34 = .ok (.iload_n 2, 1) := dkAa16.2.1
theorem dX0_leastSinger_35 : decode cX0_leastSinger 35 = .ok (.invokevirtual 50, 3) := dkAa16.2.2.1
theorem dX0_leastSinger_38 : decode cX0_leastSinger 38 = .ok (.if_icmp .ne 5, 3) := dkAa16.2.2.2.1
theorem dX0_leastSinger_41 : decode cX0_leastSinger 41 = .ok (.iload_n 3, 1) := dkAa16.2.2.2.2.1
theorem dX0_leastSinger_42 : decode cX0_leastSinger 42 = .ok (.ireturn, 1) := dkAa16.2.2.2.2.2.1
theorem dX0_leastSinger_43 : decode cX0_leastSinger 43 = .ok (.iinc 3 1, 3) := dkAa16.2.2.2.2.2.2.1
theorem dX0_leastSinger_46 : decode cX0_leastSinger 46 = .ok (.goto (-44), 3) := dkAa16.2.2.2.2.2.2.2.1
theorem dX0_leastSinger_49 : decode cX0_leastSinger 49 = .ok (.iconst (-1), 1) := dkAa16.2.2.2.2.2.2.2.2.1
theorem dX0_leastSinger_50 : decode cX0_leastSinger 50 = .ok (.ireturn, 1) := dkAa16.2.2.2.2.2.2.2.2.2
set_option maxRecDepth 100000 in
theorem dkAa17 : decode cX0_isFree 0 = .ok (.iload_n 1, 1) ∧ decode cX0_isFree 1 = .ok (.ifCond .lt 37, 3) ∧ decode cX0_isFree 4 = .ok (.iload_n 1, 1) ∧ decode cX0_isFree 5 = .ok (.aload_n 0, 1) ∧ decode cX0_isFree 6 = .ok (.getfield 15, 3) ∧ decode cX0_isFree 9 = .ok (.arraylength, 1) ∧ decode cX0_isFree 10 = .ok (.if_icmp .ge 28, 3) ∧ decode cX0_isFree 13 = .ok (.aload_n 0, 1) ∧ decode cX0_isFree 14 = .ok (.getfield 15, 3) ∧ decode cX0_isFree 17 = .ok (.iload_n 1, 1) ∧ decode cX0_isFree 18 = .ok (.iaload, 1) ∧ decode cX0_isFree 19 = .ok (.iload_n 2, 1) := by decide +kernel
theorem dX0_isFree_0 : decode cX0_isFree 0 = .ok (.iload_n 1, 1) := dkAa17.1
theorem dX0_isFree_1 : decode cX0_isFree 1 = .ok (.ifCond .lt 37, 3) := dkAa17.2.1
theorem dX0_isFree_4 : decode cX0_isFree 4 = .ok (.iload_n 1, 1) := dkAa17.2.2.1
theorem dX0_isFree_5 : decode cX0_isFree 5 = .ok (.aload_n 0, 1) := dkAa17.2.2.2.1
theorem dX0_isFree_6 : decode cX0_isFree 6 = .ok (.getfield 15, 3) := dkAa17.2.2.2.2.1
theorem dX0_isFree_9 : decode cX0_isFree 9 = .ok (.arraylength, 1) := dkAa17.2.2.2.2.2.1
theorem dX0_isFree_10 : decode cX0_isFree 10 = .ok (.if_icmp .ge 28, 3) := dkAa17.2.2.2.2.2.2.1
theorem dX0_isFree_13 : decode cX0_isFree 13 = .ok (.aload_n 0, 1) := dkAa17.2.2.2.2.2.2.2.1
theorem dX0_isFree_14 : decode cX0_isFree 14 = .ok (.getfield 15, 3) := dkAa17.2.2.2.2.2.2.2.2.1
theorem dX0_isFree_17 : decode cX0_isFree 17 = .ok (.iload_n 1, 1) := dkAa17.2.2.2.2.2.2.2.2.2.1
theorem dX0_isFree_18 : decode cX0_isFree 18 = .ok (.iaload, 1) := dkAa17.2.2.2.2.2.2.2.2.2.2.1
theorem dX0_isFree_19 : decode cX0_isFree 19 = .ok (.iload_n 2, 1) := dkAa17.2.2.2.2.2.2.2.2.2.2.2
set_option maxRecDepth 100000 in
theorem dkAa18 : decode cX0_isFree 20 = .ok (.invokestatic 62, 3) ∧ decode cX0_isFree 23 = .ok (.ifCond .eq 15, 3) ∧ decode cX0_isFree 26 = .ok (.iload_n 3, 1) ∧ decode cX0_isFree 27 = .ok (.iload_n 2, 1) ∧ decode cX0_isFree 28 = .ok (.invokestatic 62, 3) ∧ decode cX0_isFree 31 = .ok (.ifCond .ne 7, 3) ∧ decode cX0_isFree 34 = .ok (.iconst 1, 1) ∧ decode cX0_isFree 35 = .ok (.goto 4, 3) ∧ decode cX0_isFree 38 = .ok (.iconst 0, 1) ∧ decode cX0_isFree 39 = .ok (.ireturn, 1) := by decide +kernel
theorem dX0_isFree_20 : decode cX0_isFree 20 = .ok (.invokestatic 62, 3) := dkAa18.1
theorem dX0_isFree_23 : decode cX0_isFree 23 = .ok (.ifCond .eq 15, 3) := dkAa18.2.1
theorem dX0_isFree_26 : decode cX0_isFree 26 = .ok (.iload_n 3, 1) := dkAa18.2.2.1
theorem dX0_isFree_27 : decode cX0_isFree 27 = .ok (.iload_n 2, 1) := dkAa18.2.2.2.1
theorem dX0_isFree_28 : decode cX0_isFree 28 = .ok (.invokestatic 62, 3) := dkAa18.2.2.2.2.1
theorem dX0_isFree_31 : decode cX0_isFree 31 = .ok (.ifCond .ne 7, 3) := dkAa18.2.2.2.2.2.1
theorem dX0_isFree_34 : decode cX0_isFree 34 = .ok (.iconst 1, 1) := dkAa18.2.2.2.2.2.2.1
theorem dX0_isFree_35 : decode cX0_isFree 35 = .ok (.goto 4, 3) := dkAa18.2.2.2.2.2.2.2.1
theorem dX0_isFree_38 : decode cX0_isFree 38 = .ok (.iconst 0, 1) := dkAa18.2.2.2.2.2.2.2.2.1
theorem dX0_isFree_39 : decode cX0_isFree 39 = .ok (.ireturn, 1) := dkAa18.2.2.2.2.2.2.2.2.2
set_option maxRecDepth 100000 in
theorem dkAa19 : decode cX0_sungFrom 0 = .ok (.iload_n 1, 1) ∧ decode cX0_sungFrom 1 = .ok (.ifCond .lt 31, 3) ∧ decode cX0_sungFrom 4 = .ok (.iload_n 1, 1) ∧ decode cX0_sungFrom 5 = .ok (.bipush 6, 2) ∧ decode cX0_sungFrom 7 = .ok (.if_icmp .gt 25, 3) ∧ decode cX0_sungFrom 10 = .ok (.iload_n 2, 1) ∧ decode cX0_sungFrom 11 = .ok (.ifCond .lt 21, 3) ∧ decode cX0_sungFrom 14 = .ok (.iload_n 2, 1) ∧ decode cX0_sungFrom 15 = .ok (.sipush 128, 3) ∧ decode cX0_sungFrom 18 = .ok (.if_icmp .ge 14, 3) ∧ decode cX0_sungFrom 21 = .ok (.aload_n 0, 1) ∧ decode cX0_sungFrom 22 = .ok (.getfield 20, 3) := by decide +kernel
theorem dX0_sungFrom_0 : decode cX0_sungFrom 0 = .ok (.iload_n 1, 1) := dkAa19.1
theorem dX0_sungFrom_1 : decode cX0_sungFrom 1 = .ok (.ifCond .lt 31, 3) := dkAa19.2.1
theorem dX0_sungFrom_4 : decode cX0_sungFrom 4 = .ok (.iload_n 1, 1) := dkAa19.2.2.1
theorem dX0_sungFrom_5 : decode cX0_sungFrom 5 = .ok (.bipush 6, 2) := dkAa19.2.2.2.1
theorem dX0_sungFrom_7 : decode cX0_sungFrom 7 = .ok (.if_icmp .gt 25, 3) := dkAa19.2.2.2.2.1
theorem dX0_sungFrom_10 : decode cX0_sungFrom 10 = .ok (.iload_n 2, 1) := dkAa19.2.2.2.2.2.1
theorem dX0_sungFrom_11 : decode cX0_sungFrom 11 = .ok (.ifCond .lt 21, 3) := dkAa19.2.2.2.2.2.2.1
theorem dX0_sungFrom_14 : decode cX0_sungFrom 14 = .ok (.iload_n 2, 1) := dkAa19.2.2.2.2.2.2.2.1
theorem dX0_sungFrom_15 : decode cX0_sungFrom 15 = .ok (.sipush 128, 3) := dkAa19.2.2.2.2.2.2.2.2.1
theorem dX0_sungFrom_18 : decode cX0_sungFrom 18 = .ok (.if_icmp .ge 14, 3) := dkAa19.2.2.2.2.2.2.2.2.2.1
theorem dX0_sungFrom_21 : decode cX0_sungFrom 21 = .ok (.aload_n 0, 1) := dkAa19.2.2.2.2.2.2.2.2.2.2.1
theorem dX0_sungFrom_22 : decode cX0_sungFrom 22 = .ok (.getfield 20, 3) := dkAa19.2.2.2.2.2.2.2.2.2.2.2
set_option maxRecDepth 100000 in
theorem dkAa20 : decode cX0_sungFrom 25 = .ok (.iload_n 1, 1) ∧ decode cX0_sungFrom 26 = .ok (.aaload, 1) ∧ decode cX0_sungFrom 27 = .ok (.iload_n 2, 1) ∧ decode cX0_sungFrom 28 = .ok (.iaload, 1) ∧ decode cX0_sungFrom 29 = .ok (.goto 4, 3) ∧ decode cX0_sungFrom 32 = .ok (.iconst 0, 1) ∧ decode cX0_sungFrom 33 = .ok (.ireturn, 1) := by decide +kernel
theorem dX0_sungFrom_25 : decode cX0_sungFrom 25 = .ok (.iload_n 1, 1) := dkAa20.1
theorem dX0_sungFrom_26 : decode cX0_sungFrom 26 = .ok (.aaload, 1) := dkAa20.2.1
theorem dX0_sungFrom_27 : decode cX0_sungFrom 27 = .ok (.iload_n 2, 1) := dkAa20.2.2.1
theorem dX0_sungFrom_28 : decode cX0_sungFrom 28 = .ok (.iaload, 1) := dkAa20.2.2.2.1
theorem dX0_sungFrom_29 : decode cX0_sungFrom 29 = .ok (.goto 4, 3) := dkAa20.2.2.2.2.1
theorem dX0_sungFrom_32 : decode cX0_sungFrom 32 = .ok (.iconst 0, 1) := dkAa20.2.2.2.2.2.1
theorem dX0_sungFrom_33 : decode cX0_sungFrom 33 = .ok (.ireturn, 1) := dkAa20.2.2.2.2.2.2
set_option maxRecDepth 100000 in
theorem dkAa21 : decode cX0_sung 0 = .ok (.aload_n 0, 1) ∧ decode cX0_sung 1 = .ok (.iconst 0, 1) ∧ decode cX0_sung 2 = .ok (.iconst 0, 1) ∧ decode cX0_sung 3 = .ok (.invokevirtual 50, 3) ∧ decode cX0_sung 6 = .ok (.ireturn, 1) := by decide +kernel
theorem dX0_sung_0 : decode cX0_sung 0 = .ok (.aload_n 0, 1) := dkAa21.1
theorem dX0_sung_1 : decode cX0_sung 1 = .ok (.iconst 0, 1) := dkAa21.2.1
theorem dX0_sung_2 : decode cX0_sung 2 = .ok (.iconst 0, 1) := dkAa21.2.2.1
theorem dX0_sung_3 : decode cX0_sung 3 = .ok (.invokevirtual 50, 3) := dkAa21.2.2.2.1
theorem dX0_sung_6 : decode cX0_sung 6 = .ok (.ireturn, 1) := dkAa21.2.2.2.2
set_option maxRecDepth 100000 in
theorem dkAa22 : decode cX0_singerOf 0 = .ok (.iload_n 1, 1) ∧ decode cX0_singerOf 1 = .ok (.ifCond .lt 21, 3) ∧ decode cX0_singerOf 4 = .ok (.iload_n 1, 1) ∧ decode cX0_singerOf 5 = .ok (.aload_n 0, 1) ∧ decode cX0_singerOf 6 = .ok (.getfield 9, 3) ∧ decode cX0_singerOf 9 = .ok (.arraylength, 1) ∧ decode cX0_singerOf 10 = .ok (.if_icmp .ge 12, 3) ∧ decode cX0_singerOf 13 = .ok (.aload_n 0, 1) ∧ decode cX0_singerOf 14 = .ok (.getfield 9, 3) ∧ decode cX0_singerOf 17 = .ok (.iload_n 1, 1) ∧ decode cX0_singerOf 18 = .ok (.iaload, 1) ∧ decode cX0_singerOf 19 = .ok (.goto 4, 3) := by decide +kernel
theorem dX0_singerOf_0 : decode cX0_singerOf 0 = .ok (.iload_n 1, 1) := dkAa22.1
theorem dX0_singerOf_1 : decode cX0_singerOf 1 = .ok (.ifCond .lt 21, 3) := dkAa22.2.1
theorem dX0_singerOf_4 : decode cX0_singerOf 4 = .ok (.iload_n 1, 1) := dkAa22.2.2.1
theorem dX0_singerOf_5 : decode cX0_singerOf 5 = .ok (.aload_n 0, 1) := dkAa22.2.2.2.1
theorem dX0_singerOf_6 : decode cX0_singerOf 6 = .ok (.getfield 9, 3) := dkAa22.2.2.2.2.1
theorem dX0_singerOf_9 : decode cX0_singerOf 9 = .ok (.arraylength, 1) := dkAa22.2.2.2.2.2.1
theorem dX0_singerOf_10 : decode cX0_singerOf 10 = .ok (.if_icmp .ge 12, 3) := dkAa22.2.2.2.2.2.2.1
theorem dX0_singerOf_13 : decode cX0_singerOf 13 = .ok (.aload_n 0, 1) := dkAa22.2.2.2.2.2.2.2.1
theorem dX0_singerOf_14 : decode cX0_singerOf 14 = .ok (.getfield 9, 3) := dkAa22.2.2.2.2.2.2.2.2.1
theorem dX0_singerOf_17 : decode cX0_singerOf 17 = .ok (.iload_n 1, 1) := dkAa22.2.2.2.2.2.2.2.2.2.1
theorem dX0_singerOf_18 : decode cX0_singerOf 18 = .ok (.iaload, 1) := dkAa22.2.2.2.2.2.2.2.2.2.2.1
theorem dX0_singerOf_19 : decode cX0_singerOf 19 = .ok (.goto 4, 3) := dkAa22.2.2.2.2.2.2.2.2.2.2.2
theorem dX0_singerOf_22 : decode cX0_singerOf 22 = .ok (.iconst (-1), 1) := by decide +kernel
theorem dX0_singerOf_23 : decode cX0_singerOf 23 = .ok (.ireturn, 1) := by decide +kernel
set_option maxRecDepth 100000 in
theorem dkAa23 : decode cX1_init 0 = .ok (.aload_n 0, 1) ∧ decode cX1_init 1 = .ok (.invokespecial 1, 3) ∧ decode cX1_init 4 = .ok (.return_, 1) := by decide +kernel
theorem dX1_init_0 : decode cX1_init 0 = .ok (.aload_n 0, 1) := dkAa23.1
theorem dX1_init_1 : decode cX1_init 1 = .ok (.invokespecial 1, 3) := dkAa23.2.1
theorem dX1_init_4 : decode cX1_init 4 = .ok (.return_, 1) := dkAa23.2.2
set_option maxRecDepth 100000 in
theorem dkAa24 : decode cX1_next 0 = .ok (.aload_n 0, 1) ∧ decode cX1_next 1 = .ok (.aload_n 0, 1) ∧ decode cX1_next 2 = .ok (.getfield 7, 3) ∧ decode cX1_next 5 = .ok (.i2l, 1) ∧ decode cX1_next 6 = .ok (.ldc2_w 13, 3) ∧ decode cX1_next 9 = .ok (.lmul, 1) ∧ decode cX1_next 10 = .ok (.ldc2_w 15, 3) ∧ decode cX1_next 13 = .ok (.ladd, 1) ∧ decode cX1_next 14 = .ok (.ldc2_w 17, 3) ∧ decode cX1_next 17 = .ok (.lrem, 1) ∧ decode cX1_next 18 = .ok (.l2i, 1) ∧ decode cX1_next 19 = .ok (.putfield 7, 3) := by decide +kernel
theorem dX1_next_0 : decode cX1_next 0 = .ok (.aload_n 0, 1) := dkAa24.1
theorem dX1_next_1 : decode cX1_next 1 = .ok (.aload_n 0, 1) := dkAa24.2.1
theorem dX1_next_2 : decode cX1_next 2 = .ok (.getfield 7, 3) := dkAa24.2.2.1
theorem dX1_next_5 : decode cX1_next 5 = .ok (.i2l, 1) := dkAa24.2.2.2.1
theorem dX1_next_6 : decode cX1_next 6 = .ok (.ldc2_w 13, 3) := dkAa24.2.2.2.2.1
theorem dX1_next_9 : decode cX1_next 9 = .ok (.lmul, 1) := dkAa24.2.2.2.2.2.1
theorem dX1_next_10 : decode cX1_next 10 = .ok (.ldc2_w 15, 3) := dkAa24.2.2.2.2.2.2.1
theorem dX1_next_13 : decode cX1_next 13 = .ok (.ladd, 1) := dkAa24.2.2.2.2.2.2.2.1
theorem dX1_next_14 : decode cX1_next 14 = .ok (.ldc2_w 17, 3) := dkAa24.2.2.2.2.2.2.2.2.1
theorem dX1_next_17 : decode cX1_next 17 = .ok (.lrem, 1) := dkAa24.2.2.2.2.2.2.2.2.2.1
theorem dX1_next_18 : decode cX1_next 18 = .ok (.l2i, 1) := dkAa24.2.2.2.2.2.2.2.2.2.2.1
theorem dX1_next_19 : decode cX1_next 19 = .ok (.putfield 7, 3) := dkAa24.2.2.2.2.2.2.2.2.2.2.2
set_option maxRecDepth 100000 in
theorem dkAa25 : decode cX1_next 22 = .ok (.iload_n 1, 1) ∧ decode cX1_next 23 = .ok (.ifCond .le 15, 3) ∧ decode cX1_next 26 = .ok (.aload_n 0, 1) ∧ decode cX1_next 27 = .ok (.getfield 7, 3) ∧ decode cX1_next 30 = .ok (.ldc 19, 2) ∧ decode cX1_next 32 = .ok (.idiv, 1) ∧ decode cX1_next 33 = .ok (.iload_n 1, 1) ∧ decode cX1_next 34 = .ok (.irem, 1) ∧ decode cX1_next 35 = .ok (.goto 4, 3) ∧ decode cX1_next 38 = .ok (.iconst 0, 1) ∧ decode cX1_next 39 = .ok (.ireturn, 1) := by decide +kernel
theorem dX1_next_22 : decode cX1_next 22 = .ok (.iload_n 1, 1) := dkAa25.1
theorem dX1_next_23 : decode cX1_next 23 = .ok (.ifCond .le 15, 3) := dkAa25.2.1
theorem dX1_next_26 : decode cX1_next 26 = .ok (.aload_n 0, 1) := dkAa25.2.2.1
theorem dX1_next_27 : decode cX1_next 27 = .ok (.getfield 7, 3) := dkAa25.2.2.2.1
theorem dX1_next_30 : decode cX1_next 30 = .ok (.ldc 19, 2) := dkAa25.2.2.2.2.1
theorem dX1_next_32 : decode cX1_next 32 = .ok (.idiv, 1) := dkAa25.2.2.2.2.2.1
theorem dX1_next_33 : decode cX1_next 33 = .ok (.iload_n 1, 1) := dkAa25.2.2.2.2.2.2.1
theorem dX1_next_34 : decode cX1_next 34 = .ok (.irem, 1) := dkAa25.2.2.2.2.2.2.2.1
theorem dX1_next_35 : decode cX1_next 35 = .ok (.goto 4, 3) := dkAa25.2.2.2.2.2.2.2.2.1
theorem dX1_next_38 : decode cX1_next 38 = .ok (.iconst 0, 1) := dkAa25.2.2.2.2.2.2.2.2.2.1
theorem dX1_next_39 : decode cX1_next 39 = .ok (.ireturn, 1) := dkAa25.2.2.2.2.2.2.2.2.2.2
set_option maxRecDepth 100000 in
theorem dkAa26 : decode cX2_init 0 = .ok (.aload_n 0, 1) ∧ decode cX2_init 1 = .ok (.invokespecial 3, 3) ∧ decode cX2_init 4 = .ok (.iconst 0, 1) ∧ decode cX2_init 5 = .ok (.iload_n 1, 1) ∧ decode cX2_init 6 = .ok (.invokestatic 9, 3) ∧ decode cX2_init 9 = .ok (.istore_n 2, 1) ∧ decode cX2_init 10 = .ok (.aload_n 0, 1) ∧ decode cX2_init 11 = .ok (.iload_n 2, 1) ∧ decode cX2_init 12 = .ok (.newarray .int, 2) ∧ decode cX2_init 14 = .ok (.putfield 15, 3) ∧ decode cX2_init 17 = .ok (.aload_n 0, 1) ∧ decode cX2_init 18 = .ok (.iload_n 2, 1) := by decide +kernel
theorem dX2_init_0 : decode cX2_init 0 = .ok (.aload_n 0, 1) := dkAa26.1
theorem dX2_init_1 : decode cX2_init 1 = .ok (.invokespecial 3, 3) := dkAa26.2.1
theorem dX2_init_4 : decode cX2_init 4 = .ok (.iconst 0, 1) := dkAa26.2.2.1
theorem dX2_init_5 : decode cX2_init 5 = .ok (.iload_n 1, 1) := dkAa26.2.2.2.1
theorem dX2_init_6 : decode cX2_init 6 = .ok (.invokestatic 9, 3) := dkAa26.2.2.2.2.1
theorem dX2_init_9 : decode cX2_init 9 = .ok (.istore_n 2, 1) := dkAa26.2.2.2.2.2.1
theorem dX2_init_10 : decode cX2_init 10 = .ok (.aload_n 0, 1) := dkAa26.2.2.2.2.2.2.1
theorem dX2_init_11 : decode cX2_init 11 = .ok (.iload_n 2, 1) := dkAa26.2.2.2.2.2.2.2.1
theorem dX2_init_12 : decode cX2_init 12 = .ok (.newarray .int, 2) := dkAa26.2.2.2.2.2.2.2.2.1
theorem dX2_init_14 : decode cX2_init 14 = .ok (.putfield 15, 3) := dkAa26.2.2.2.2.2.2.2.2.2.1
theorem dX2_init_17 : decode cX2_init 17 = .ok (.aload_n 0, 1) := dkAa26.2.2.2.2.2.2.2.2.2.2.1
theorem dX2_init_18 : decode cX2_init 18 = .ok (.iload_n 2, 1) := dkAa26.2.2.2.2.2.2.2.2.2.2.2
set_option maxRecDepth 100000 in
theorem dkAa27 : decode cX2_init 19 = .ok (.newarray .int, 2) ∧ decode cX2_init 21 = .ok (.putfield 21, 3) ∧ decode cX2_init 24 = .ok (.return_, 1) := by decide +kernel
theorem dX2_init_19 : decode cX2_init 19 = .ok (.newarray .int, 2) := dkAa27.1
theorem dX2_init_21 : decode cX2_init 21 = .ok (.putfield 21, 3) := dkAa27.2.1
theorem dX2_init_24 : decode cX2_init 24 = .ok (.return_, 1) := dkAa27.2.2
set_option maxRecDepth 100000 in
theorem dkAa28 : decode cX2_clear 0 = .ok (.aload_n 0, 1) ∧ decode cX2_clear 1 = .ok (.iconst 0, 1) ∧ decode cX2_clear 2 = .ok (.putfield 24, 3) ∧ decode cX2_clear 5 = .ok (.return_, 1) := by decide +kernel
theorem dX2_clear_0 : decode cX2_clear 0 = .ok (.aload_n 0, 1) := dkAa28.1
theorem dX2_clear_1 : decode cX2_clear 1 = .ok (.iconst 0, 1) := dkAa28.2.1
theorem dX2_clear_2 : decode cX2_clear 2 = .ok (.putfield 24, 3) := dkAa28.2.2.1
theorem dX2_clear_5 : decode cX2_clear 5 = .ok (.return_, 1) := dkAa28.2.2.2
set_option maxRecDepth 100000 in
theorem dkAa29 : decode cX2_add 0 = .ok (.aload_n 0, 1) ∧ decode cX2_add 1 = .ok (.getfield 24, 3) ∧ decode cX2_add 4 = .ok (.aload_n 0, 1) ∧ decode cX2_add 5 = .ok (.getfield 15, 3) ∧ decode cX2_add 8 = .ok (.arraylength, 1) ∧ decode cX2_add 9 = .ok (.if_icmp .ge 15, 3) ∧ decode cX2_add 12 = .ok (.aload_n 0, 1) ∧ decode cX2_add 13 = .ok (.getfield 24, 3) ∧ decode cX2_add 16 = .ok (.aload_n 0, 1) ∧ decode cX2_add 17 = .ok (.getfield 21, 3) ∧ decode cX2_add 20 = .ok (.arraylength, 1) ∧ decode cX2_add 21 = .ok (.if_icmp .lt 5, 3) := by decide +kernel
theorem dX2_add_0 : decode cX2_add 0 = .ok (.aload_n 0, 1) := dkAa29.1
theorem dX2_add_1 : decode cX2_add 1 = .ok (.getfield 24, 3) := dkAa29.2.1
theorem dX2_add_4 : decode cX2_add 4 = .ok (.aload_n 0, 1) := dkAa29.2.2.1
theorem dX2_add_5 : decode cX2_add 5 = .ok (.getfield 15, 3) := dkAa29.2.2.2.1
theorem dX2_add_8 : decode cX2_add 8 = .ok (.arraylength, 1) := dkAa29.2.2.2.2.1
theorem dX2_add_9 : decode cX2_add 9 = .ok (.if_icmp .ge 15, 3) := dkAa29.2.2.2.2.2.1
theorem dX2_add_12 : decode cX2_add 12 = .ok (.aload_n 0, 1) := dkAa29.2.2.2.2.2.2.1
theorem dX2_add_13 : decode cX2_add 13 = .ok (.getfield 24, 3) := dkAa29.2.2.2.2.2.2.2.1
theorem dX2_add_16 : decode cX2_add 16 = .ok (.aload_n 0, 1) := dkAa29.2.2.2.2.2.2.2.2.1
theorem dX2_add_17 : decode cX2_add 17 = .ok (.getfield 21, 3) := dkAa29.2.2.2.2.2.2.2.2.2.1
theorem dX2_add_20 : decode cX2_add 20 = .ok (.arraylength, 1) := dkAa29.2.2.2.2.2.2.2.2.2.2.1
theorem dX2_add_21 : decode cX2_add 21 = .ok (.if_icmp .lt 5, 3) := dkAa29.2.2.2.2.2.2.2.2.2.2.2
set_option maxRecDepth 100000 in
theorem dkAa30 : decode cX2_add 24 = .ok (.iconst 0, 1) ∧ decode cX2_add 25 = .ok (.ireturn, 1) ∧ decode cX2_add 26 = .ok (.aload_n 0, 1) ∧ decode cX2_add 27 = .ok (.getfield 15, 3) ∧ decode cX2_add 30 = .ok (.aload_n 0, 1) ∧ decode cX2_add 31 = .ok (.getfield 24, 3) ∧ decode cX2_add 34 = .ok (.iload_n 1, 1) ∧ decode cX2_add 35 = .ok (.iastore, 1) ∧ decode cX2_add 36 = .ok (.aload_n 0, 1) ∧ decode cX2_add 37 = .ok (.getfield 21, 3) ∧ decode cX2_add 40 = .ok (.aload_n 0, 1) ∧ decode cX2_add 41 = .ok (.getfield 24, 3) := by decide +kernel
theorem dX2_add_24 : decode cX2_add 24 = .ok (.iconst 0, 1) := dkAa30.1
theorem dX2_add_25 : decode cX2_add 25 = .ok (.ireturn, 1) := dkAa30.2.1
theorem dX2_add_26 : decode cX2_add 26 = .ok (.aload_n 0, 1) := dkAa30.2.2.1
theorem dX2_add_27 : decode cX2_add 27 = .ok (.getfield 15, 3) := dkAa30.2.2.2.1
theorem dX2_add_30 : decode cX2_add 30 = .ok (.aload_n 0, 1) := dkAa30.2.2.2.2.1
theorem dX2_add_31 : decode cX2_add 31 = .ok (.getfield 24, 3) := dkAa30.2.2.2.2.2.1
theorem dX2_add_34 : decode cX2_add 34 = .ok (.iload_n 1, 1) := dkAa30.2.2.2.2.2.2.1
theorem dX2_add_35 : decode cX2_add 35 = .ok (.iastore, 1) := dkAa30.2.2.2.2.2.2.2.1
theorem dX2_add_36 : decode cX2_add 36 = .ok (.aload_n 0, 1) := dkAa30.2.2.2.2.2.2.2.2.1
theorem dX2_add_37 : decode cX2_add 37 = .ok (.getfield 21, 3) := dkAa30.2.2.2.2.2.2.2.2.2.1
theorem dX2_add_40 : decode cX2_add 40 = .ok (.aload_n 0, 1) := dkAa30.2.2.2.2.2.2.2.2.2.2.1
theorem dX2_add_41 : decode cX2_add 41 = .ok (.getfield 24, 3) := dkAa30.2.2.2.2.2.2.2.2.2.2.2
set_option maxRecDepth 100000 in
theorem dkAa31 : decode cX2_add 44 = .ok (.iload_n 2, 1) ∧ decode cX2_add 45 = .ok (.iastore, 1) ∧ decode cX2_add 46 = .ok (.aload_n 0, 1) ∧ decode cX2_add 47 = .ok (.dup, 1) ∧ decode cX2_add 48 = .ok (.getfield 24, 3) ∧ decode cX2_add 51 = .ok (.iconst 1, 1) ∧ decode cX2_add 52 = .ok (.iadd, 1) ∧ decode cX2_add 53 = .ok (.putfield 24, 3) ∧ decode cX2_add 56 = .ok (.iconst 1, 1) ∧ decode cX2_add 57 = .ok (.ireturn, 1) := by decide +kernel
theorem dX2_add_44 : decode cX2_add 44 = .ok (.iload_n 2, 1) := dkAa31.1
theorem dX2_add_45 : decode cX2_add 45 = .ok (.iastore, 1) := dkAa31.2.1
theorem dX2_add_46 : decode cX2_add 46 = .ok (.aload_n 0, 1) := dkAa31.2.2.1
theorem dX2_add_47 : decode cX2_add 47 = .ok (.dup, 1) := dkAa31.2.2.2.1
theorem dX2_add_48 : decode cX2_add 48 = .ok (.getfield 24, 3) := dkAa31.2.2.2.2.1
theorem dX2_add_51 : decode cX2_add 51 = .ok (.iconst 1, 1) := dkAa31.2.2.2.2.2.1
theorem dX2_add_52 : decode cX2_add 52 = .ok (.iadd, 1) := dkAa31.2.2.2.2.2.2.1
theorem dX2_add_53 : decode cX2_add 53 = .ok (.putfield 24, 3) := dkAa31.2.2.2.2.2.2.2.1
theorem dX2_add_56 : decode cX2_add 56 = .ok (.iconst 1, 1) := dkAa31.2.2.2.2.2.2.2.2.1
theorem dX2_add_57 : decode cX2_add 57 = .ok (.ireturn, 1) := dkAa31.2.2.2.2.2.2.2.2.2
set_option maxRecDepth 100000 in
theorem dkAa32 : decode cX2_subjectAt 0 = .ok (.iload_n 1, 1) ∧ decode cX2_subjectAt 1 = .ok (.ifCond .lt 20, 3) ∧ decode cX2_subjectAt 4 = .ok (.iload_n 1, 1) ∧ decode cX2_subjectAt 5 = .ok (.aload_n 0, 1) ∧ decode cX2_subjectAt 6 = .ok (.getfield 24, 3) ∧ decode cX2_subjectAt 9 = .ok (.if_icmp .ge 12, 3) ∧ decode cX2_subjectAt 12 = .ok (.aload_n 0, 1) ∧ decode cX2_subjectAt 13 = .ok (.getfield 15, 3) ∧ decode cX2_subjectAt 16 = .ok (.iload_n 1, 1) ∧ decode cX2_subjectAt 17 = .ok (.iaload, 1) ∧ decode cX2_subjectAt 18 = .ok (.goto 4, 3) ∧ decode cX2_subjectAt 21 = .ok (.iconst (-1), 1) := by decide +kernel
theorem dX2_subjectAt_0 : decode cX2_subjectAt 0 = .ok (.iload_n 1, 1) := dkAa32.1
theorem dX2_subjectAt_1 : decode cX2_subjectAt 1 = .ok (.ifCond .lt 20, 3) := dkAa32.2.1
theorem dX2_subjectAt_4 : decode cX2_subjectAt 4 = .ok (.iload_n 1, 1) := dkAa32.2.2.1
theorem dX2_subjectAt_5 : decode cX2_subjectAt 5 = .ok (.aload_n 0, 1) := dkAa32.2.2.2.1
theorem dX2_subjectAt_6 : decode cX2_subjectAt 6 = .ok (.getfield 24, 3) := dkAa32.2.2.2.2.1
theorem dX2_subjectAt_9 : decode cX2_subjectAt 9 = .ok (.if_icmp .ge 12, 3) := dkAa32.2.2.2.2.2.1
theorem dX2_subjectAt_12 : decode cX2_subjectAt 12 = .ok (.aload_n 0, 1) := dkAa32.2.2.2.2.2.2.1
theorem dX2_subjectAt_13 : decode cX2_subjectAt 13 = .ok (.getfield 15, 3) := dkAa32.2.2.2.2.2.2.2.1
theorem dX2_subjectAt_16 : decode cX2_subjectAt 16 = .ok (.iload_n 1, 1) := dkAa32.2.2.2.2.2.2.2.2.1
theorem dX2_subjectAt_17 : decode cX2_subjectAt 17 = .ok (.iaload, 1) := dkAa32.2.2.2.2.2.2.2.2.2.1
theorem dX2_subjectAt_18 : decode cX2_subjectAt 18 = .ok (.goto 4, 3) := dkAa32.2.2.2.2.2.2.2.2.2.2.1
theorem dX2_subjectAt_21 : decode cX2_subjectAt 21 = .ok (.iconst (-1), 1) := dkAa32.2.2.2.2.2.2.2.2.2.2.2
theorem dX2_subjectAt_22 : decode cX2_subjectAt 22 = .ok (.ireturn, 1) := by decide +kernel
set_option maxRecDepth 100000 in
theorem dkAa33 : decode cX2_valueAt 0 = .ok (.iload_n 1, 1) ∧ decode cX2_valueAt 1 = .ok (.ifCond .lt 20, 3) ∧ decode cX2_valueAt 4 = .ok (.iload_n 1, 1) ∧ decode cX2_valueAt 5 = .ok (.aload_n 0, 1) ∧ decode cX2_valueAt 6 = .ok (.getfield 24, 3) ∧ decode cX2_valueAt 9 = .ok (.if_icmp .ge 12, 3) ∧ decode cX2_valueAt 12 = .ok (.aload_n 0, 1) ∧ decode cX2_valueAt 13 = .ok (.getfield 21, 3) ∧ decode cX2_valueAt 16 = .ok (.iload_n 1, 1) ∧ decode cX2_valueAt 17 = .ok (.iaload, 1) ∧ decode cX2_valueAt 18 = .ok (.goto 4, 3) ∧ decode cX2_valueAt 21 = .ok (.iconst (-1), 1) := by decide +kernel
theorem dX2_valueAt_0 : decode cX2_valueAt 0 = .ok (.iload_n 1, 1) := dkAa33.1
theorem dX2_valueAt_1 : decode cX2_valueAt 1 = .ok (.ifCond .lt 20, 3) := dkAa33.2.1
theorem dX2_valueAt_4 : decode cX2_valueAt 4 = .ok (.iload_n 1, 1) := dkAa33.2.2.1
theorem dX2_valueAt_5 : decode cX2_valueAt 5 = .ok (.aload_n 0, 1) := dkAa33.2.2.2.1
theorem dX2_valueAt_6 : decode cX2_valueAt 6 = .ok (.getfield 24, 3) := dkAa33.2.2.2.2.1
theorem dX2_valueAt_9 : decode cX2_valueAt 9 = .ok (.if_icmp .ge 12, 3) := dkAa33.2.2.2.2.2.1
theorem dX2_valueAt_12 : decode cX2_valueAt 12 = .ok (.aload_n 0, 1) := dkAa33.2.2.2.2.2.2.1
theorem dX2_valueAt_13 : decode cX2_valueAt 13 = .ok (.getfield 21, 3) := dkAa33.2.2.2.2.2.2.2.1
theorem dX2_valueAt_16 : decode cX2_valueAt 16 = .ok (.iload_n 1, 1) := dkAa33.2.2.2.2.2.2.2.2.1
theorem dX2_valueAt_17 : decode cX2_valueAt 17 = .ok (.iaload, 1) := dkAa33.2.2.2.2.2.2.2.2.2.1
theorem dX2_valueAt_18 : decode cX2_valueAt 18 = .ok (.goto 4, 3) := dkAa33.2.2.2.2.2.2.2.2.2.2.1
theorem dX2_valueAt_21 : decode cX2_valueAt 21 = .ok (.iconst (-1), 1) := dkAa33.2.2.2.2.2.2.2.2.2.2.2
theorem dX2_valueAt_22 : decode cX2_valueAt 22 = .ok (.ireturn, 1) := by decide +kernel
set_option maxRecDepth 100000 in
theorem dkAa34 : decode cX2_firstUnlike 0 = .ok (.iconst 0, 1) ∧ decode cX2_firstUnlike 1 = .ok (.istore_n 2, 1) ∧ decode cX2_firstUnlike 2 = .ok (.iload_n 2, 1) ∧ decode cX2_firstUnlike 3 = .ok (.aload_n 0, 1) ∧ decode cX2_firstUnlike 4 = .ok (.getfield 24, 3) ∧ decode cX2_firstUnlike 7 = .ok (.if_icmp .ge 30, 3) ∧ decode cX2_firstUnlike 10 = .ok (.aload_n 1, 1) ∧ decode cX2_firstUnlike 11 = .ok (.aload_n 0, 1) ∧ decode cX2_firstUnlike 12 = .ok (.getfield 15, 3) ∧ decode cX2_firstUnlike 15 = .ok (.iload_n 2, 1) ∧ decode cX2_firstUnlike 16 = .ok (.iaload, 1) ∧ decode cX2_firstUnlike 17 = .ok (.invokevirtual 28, 3) := by decide +kernel
theorem dX2_firstUnlike_0 : decode cX2_firstUnlike 0 = .ok (.iconst 0, 1) := dkAa34.1
theorem dX2_firstUnlike_1 : decode cX2_firstUnlike 1 = .ok (.istore_n 2, 1) := dkAa34.2.1
theorem dX2_firstUnlike_2 : decode cX2_firstUnlike 2 = .ok (.iload_n 2, 1) := dkAa34.2.2.1
theorem dX2_firstUnlike_3 : decode cX2_firstUnlike 3 = .ok (.aload_n 0, 1) := dkAa34.2.2.2.1
theorem dX2_firstUnlike_4 : decode cX2_firstUnlike 4 = .ok (.getfield 24, 3) := dkAa34.2.2.2.2.1
theorem dX2_firstUnlike_7 : decode cX2_firstUnlike 7 = .ok (.if_icmp .ge 30, 3) := dkAa34.2.2.2.2.2.1
theorem dX2_firstUnlike_10 : decode cX2_firstUnlike 10 = .ok (.aload_n 1, 1) := dkAa34.2.2.2.2.2.2.1
theorem dX2_firstUnlike_11 : decode cX2_firstUnlike 11 = .ok (.aload_n 0, 1) := dkAa34.2.2.2.2.2.2.2.1
theorem dX2_firstUnlike_12 : decode cX2_firstUnlike 12 = .ok (.getfield 15, 3) := dkAa34.2.2.2.2.2.2.2.2.1
theorem dX2_firstUnlike_15 : decode cX2_firstUnlike 15 = .ok (.iload_n 2, 1) := dkAa34.2.2.2.2.2.2.2.2.2.1
theorem dX2_firstUnlike_16 : decode cX2_firstUnlike 16 = .ok (.iaload, 1) := dkAa34.2.2.2.2.2.2.2.2.2.2.1
theorem dX2_firstUnlike_17 : decode cX2_firstUnlike 17 = .ok (.invokevirtual 28, 3) := dkAa34.2.2.2.2.2.2.2.2.2.2.2
set_option maxRecDepth 100000 in
theorem dkAa35 : decode cX2_firstUnlike 20 = .ok (.aload_n 0, 1) ∧ decode cX2_firstUnlike 21 = .ok (.getfield 21, 3) ∧ decode cX2_firstUnlike 24 = .ok (.iload_n 2, 1) ∧ decode cX2_firstUnlike 25 = .ok (.iaload, 1) ∧ decode cX2_firstUnlike 26 = .ok (.if_icmp .eq 5, 3) ∧ decode cX2_firstUnlike 29 = .ok (.iload_n 2, 1) ∧ decode cX2_firstUnlike 30 = .ok (.ireturn, 1) ∧ decode cX2_firstUnlike 31 = .ok (.iinc 2 1, 3) ∧ decode cX2_firstUnlike 34 = .ok (.goto (-32), 3) ∧ decode cX2_firstUnlike 37 = .ok (.iconst (-1), 1) ∧ decode cX2_firstUnlike 38 = .ok (.ireturn, 1) := by decide +kernel
theorem dX2_firstUnlike_20 : decode cX2_firstUnlike 20 = .ok (.aload_n 0, 1) := dkAa35.1
theorem dX2_firstUnlike_21 : decode cX2_firstUnlike 21 = .ok (.getfield 21, 3) := dkAa35.2.1
theorem dX2_firstUnlike_24 : decode cX2_firstUnlike 24 = .ok (.iload_n 2, 1) := dkAa35.2.2.1
theorem dX2_firstUnlike_25 : decode cX2_firstUnlike 25 = .ok (.iaload, 1) := dkAa35.2.2.2.1
theorem dX2_firstUnlike_26 : decode cX2_firstUnlike 26 = .ok (.if_icmp .eq 5, 3) := dkAa35.2.2.2.2.1
theorem dX2_firstUnlike_29 : decode cX2_firstUnlike 29 = .ok (.iload_n 2, 1) := dkAa35.2.2.2.2.2.1
theorem dX2_firstUnlike_30 : decode cX2_firstUnlike 30 = .ok (.ireturn, 1) := dkAa35.2.2.2.2.2.2.1
theorem dX2_firstUnlike_31 : decode cX2_firstUnlike 31 = .ok (.iinc 2 1, 3) := dkAa35.2.2.2.2.2.2.2.1
theorem dX2_firstUnlike_34 : decode cX2_firstUnlike 34 = .ok (.goto (-32), 3) := dkAa35.2.2.2.2.2.2.2.2.1
theorem dX2_firstUnlike_37 : decode cX2_firstUnlike 37 = .ok (.iconst (-1), 1) := dkAa35.2.2.2.2.2.2.2.2.2.1
theorem dX2_firstUnlike_38 : decode cX2_firstUnlike 38 = .ok (.ireturn, 1) := dkAa35.2.2.2.2.2.2.2.2.2.2
set_option maxRecDepth 100000 in
theorem dkAa36 : decode cX3_init 0 = .ok (.aload_n 0, 1) ∧ decode cX3_init 1 = .ok (.invokespecial 3, 3) ∧ decode cX3_init 4 = .ok (.aload_n 0, 1) ∧ decode cX3_init 5 = .ok (.bipush 7, 2) ∧ decode cX3_init 7 = .ok (.newarray .int, 2) ∧ decode cX3_init 9 = .ok (.putfield 9, 3) ∧ decode cX3_init 12 = .ok (.aload_n 0, 1) ∧ decode cX3_init 13 = .ok (.bipush 7, 2) ∧ decode cX3_init 15 = .ok (.newarray .int, 2) ∧ decode cX3_init 17 = .ok (.putfield 15, 3) ∧ decode cX3_init 20 = .ok (.aload_n 0, 1) ∧ decode cX3_init 21 = .ok (.bipush 7, 2) := by decide +kernel
theorem dX3_init_0 : decode cX3_init 0 = .ok (.aload_n 0, 1) := dkAa36.1
theorem dX3_init_1 : decode cX3_init 1 = .ok (.invokespecial 3, 3) := dkAa36.2.1
theorem dX3_init_4 : decode cX3_init 4 = .ok (.aload_n 0, 1) := dkAa36.2.2.1
theorem dX3_init_5 : decode cX3_init 5 = .ok (.bipush 7, 2) := dkAa36.2.2.2.1
theorem dX3_init_7 : decode cX3_init 7 = .ok (.newarray .int, 2) := dkAa36.2.2.2.2.1
theorem dX3_init_9 : decode cX3_init 9 = .ok (.putfield 9, 3) := dkAa36.2.2.2.2.2.1
theorem dX3_init_12 : decode cX3_init 12 = .ok (.aload_n 0, 1) := dkAa36.2.2.2.2.2.2.1
theorem dX3_init_13 : decode cX3_init 13 = .ok (.bipush 7, 2) := dkAa36.2.2.2.2.2.2.2.1
theorem dX3_init_15 : decode cX3_init 15 = .ok (.newarray .int, 2) := dkAa36.2.2.2.2.2.2.2.2.1
theorem dX3_init_17 : decode cX3_init 17 = .ok (.putfield 15, 3) := dkAa36.2.2.2.2.2.2.2.2.2.1
theorem dX3_init_20 : decode cX3_init 20 = .ok (.aload_n 0, 1) := dkAa36.2.2.2.2.2.2.2.2.2.2.1
theorem dX3_init_21 : decode cX3_init 21 = .ok (.bipush 7, 2) := dkAa36.2.2.2.2.2.2.2.2.2.2.2
set_option maxRecDepth 100000 in
theorem dkAa37 : decode cX3_init 23 = .ok (.newarray .int, 2) ∧ decode cX3_init 25 = .ok (.putfield 18, 3) ∧ decode cX3_init 28 = .ok (.aload_n 0, 1) ∧ decode cX3_init 29 = .ok (.bipush 7, 2) ∧ decode cX3_init 31 = .ok (.newarray .int, 2) ∧ decode cX3_init 33 = .ok (.putfield 21, 3) ∧ decode cX3_init 36 = .ok (.return_, 1) := by decide +kernel
theorem dX3_init_23 : decode cX3_init 23 = .ok (.newarray .int, 2) := dkAa37.1
theorem dX3_init_25 : decode cX3_init 25 = .ok (.putfield 18, 3) := dkAa37.2.1
theorem dX3_init_28 : decode cX3_init 28 = .ok (.aload_n 0, 1) := dkAa37.2.2.1
theorem dX3_init_29 : decode cX3_init 29 = .ok (.bipush 7, 2) := dkAa37.2.2.2.1
theorem dX3_init_31 : decode cX3_init 31 = .ok (.newarray .int, 2) := dkAa37.2.2.2.2.1
theorem dX3_init_33 : decode cX3_init 33 = .ok (.putfield 21, 3) := dkAa37.2.2.2.2.2.1
theorem dX3_init_36 : decode cX3_init 36 = .ok (.return_, 1) := dkAa37.2.2.2.2.2.2
set_option maxRecDepth 100000 in
theorem dkAa38 : decode cX3_begin 0 = .ok (.aload_n 0, 1) ∧ decode cX3_begin 1 = .ok (.aload_n 1, 1) ∧ decode cX3_begin 2 = .ok (.getfield 24, 3) ∧ decode cX3_begin 5 = .ok (.bipush 7, 2) ∧ decode cX3_begin 7 = .ok (.invokestatic 30, 3) ∧ decode cX3_begin 10 = .ok (.putfield 36, 3) ∧ decode cX3_begin 13 = .ok (.aload_n 0, 1) ∧ decode cX3_begin 14 = .ok (.iconst 1, 1) ∧ decode cX3_begin 15 = .ok (.aload_n 0, 1) ∧ decode cX3_begin 16 = .ok (.getfield 36, 3) ∧ decode cX3_begin 19 = .ok (.ishl, 1) ∧ decode cX3_begin 20 = .ok (.iconst 1, 1) := by decide +kernel
theorem dX3_begin_0 : decode cX3_begin 0 = .ok (.aload_n 0, 1) := dkAa38.1
theorem dX3_begin_1 : decode cX3_begin 1 = .ok (.aload_n 1, 1) := dkAa38.2.1
theorem dX3_begin_2 : decode cX3_begin 2 = .ok (.getfield 24, 3) := dkAa38.2.2.1
theorem dX3_begin_5 : decode cX3_begin 5 = .ok (.bipush 7, 2) := dkAa38.2.2.2.1
theorem dX3_begin_7 : decode cX3_begin 7 = .ok (.invokestatic 30, 3) := dkAa38.2.2.2.2.1
theorem dX3_begin_10 : decode cX3_begin 10 = .ok (.putfield 36, 3) := dkAa38.2.2.2.2.2.1
theorem dX3_begin_13 : decode cX3_begin 13 = .ok (.aload_n 0, 1) := dkAa38.2.2.2.2.2.2.1
theorem dX3_begin_14 : decode cX3_begin 14 = .ok (.iconst 1, 1) := dkAa38.2.2.2.2.2.2.2.1
theorem dX3_begin_15 : decode cX3_begin 15 = .ok (.aload_n 0, 1) := dkAa38.2.2.2.2.2.2.2.2.1
theorem dX3_begin_16 : decode cX3_begin 16 = .ok (.getfield 36, 3) := dkAa38.2.2.2.2.2.2.2.2.2.1
theorem dX3_begin_19 : decode cX3_begin 19 = .ok (.ishl, 1) := dkAa38.2.2.2.2.2.2.2.2.2.2.1
theorem dX3_begin_20 : decode cX3_begin 20 = .ok (.iconst 1, 1) := dkAa38.2.2.2.2.2.2.2.2.2.2.2
set_option maxRecDepth 100000 in
theorem dkAa39 : decode cX3_begin 21 = .ok (.isub, 1) ∧ decode cX3_begin 22 = .ok (.putfield 39, 3) ∧ decode cX3_begin 25 = .ok (.aload_n 0, 1) ∧ decode cX3_begin 26 = .ok (.iconst 0, 1) ∧ decode cX3_begin 27 = .ok (.putfield 42, 3) ∧ decode cX3_begin 30 = .ok (.iconst 0, 1) ∧ decode cX3_begin 31 = .ok (.istore_n 2, 1) ∧ decode cX3_begin 32 = .ok (.iload_n 2, 1) ∧ decode cX3_begin 33 = .ok (.bipush 7, 2) ∧ decode cX3_begin 35 = .ok (.if_icmp .ge 58, 3) ∧ decode cX3_begin 38 = .ok (.aload_n 0, 1) ∧ decode cX3_begin 39 = .ok (.getfield 9, 3) := by decide +kernel
theorem dX3_begin_21 : decode cX3_begin 21 = .ok (.isub, 1) := dkAa39.1
theorem dX3_begin_22 : decode cX3_begin 22 = .ok (.putfield 39, 3) := dkAa39.2.1
theorem dX3_begin_25 : decode cX3_begin 25 = .ok (.aload_n 0, 1) := dkAa39.2.2.1
theorem dX3_begin_26 : decode cX3_begin 26 = .ok (.iconst 0, 1) := dkAa39.2.2.2.1
theorem dX3_begin_27 : decode cX3_begin 27 = .ok (.putfield 42, 3) := dkAa39.2.2.2.2.1
theorem dX3_begin_30 : decode cX3_begin 30 = .ok (.iconst 0, 1) := dkAa39.2.2.2.2.2.1
theorem dX3_begin_31 : decode cX3_begin 31 = .ok (.istore_n 2, 1) := dkAa39.2.2.2.2.2.2.1
theorem dX3_begin_32 : decode cX3_begin 32 = .ok (.iload_n 2, 1) := dkAa39.2.2.2.2.2.2.2.1
theorem dX3_begin_33 : decode cX3_begin 33 = .ok (.bipush 7, 2) := dkAa39.2.2.2.2.2.2.2.2.1
theorem dX3_begin_35 : decode cX3_begin 35 = .ok (.if_icmp .ge 58, 3) := dkAa39.2.2.2.2.2.2.2.2.2.1
theorem dX3_begin_38 : decode cX3_begin 38 = .ok (.aload_n 0, 1) := dkAa39.2.2.2.2.2.2.2.2.2.2.1
theorem dX3_begin_39 : decode cX3_begin 39 = .ok (.getfield 9, 3) := dkAa39.2.2.2.2.2.2.2.2.2.2.2
set_option maxRecDepth 100000 in
theorem dkAa40 : decode cX3_begin 42 = .ok (.iload_n 2, 1) ∧ decode cX3_begin 43 = .ok (.aload_n 1, 1) ∧ decode cX3_begin 44 = .ok (.iload_n 2, 1) ∧ decode cX3_begin 45 = .ok (.invokevirtual 45, 3) ∧ decode cX3_begin 48 = .ok (.ifCond .eq 7, 3) ∧ decode cX3_begin 51 = .ok (.iload_n 2, 1) ∧ decode cX3_begin 52 = .ok (.goto 5, 3) ∧ decode cX3_begin 55 = .ok (.bipush 9, 2) ∧ decode cX3_begin 57 = .ok (.iastore, 1) ∧ decode cX3_begin 58 = .ok (.aload_n 0, 1) ∧ decode cX3_begin 59 = .ok (.getfield 15, 3) ∧ decode cX3_begin 62 = .ok (.iload_n 2, 1) := by decide +kernel
theorem dX3_begin_42 : decode cX3_begin 42 = .ok (.iload_n 2, 1) := dkAa40.1
theorem dX3_begin_43 : decode cX3_begin 43 = .ok (.aload_n 1, 1) := dkAa40.2.1
theorem dX3_begin_44 : decode cX3_begin 44 = .ok (.iload_n 2, 1) := dkAa40.2.2.1
theorem dX3_begin_45 : decode cX3_begin 45 = .ok (.invokevirtual 45, 3) := dkAa40.2.2.2.1
theorem dX3_begin_48 : decode cX3_begin 48 = .ok (.ifCond .eq 7, 3) := dkAa40.2.2.2.2.1
theorem dX3_begin_51 : decode cX3_begin 51 = .ok (.iload_n 2, 1) := dkAa40.2.2.2.2.2.1
theorem dX3_begin_52 : decode cX3_begin 52 = .ok (.goto 5, 3) := dkAa40.2.2.2.2.2.2.1
theorem dX3_begin_55 : decode cX3_begin 55 = .ok (.bipush 9, 2) := dkAa40.2.2.2.2.2.2.2.1
theorem dX3_begin_57 : decode cX3_begin 57 = .ok (.iastore, 1) := dkAa40.2.2.2.2.2.2.2.2.1
theorem dX3_begin_58 : decode cX3_begin 58 = .ok (.aload_n 0, 1) := dkAa40.2.2.2.2.2.2.2.2.2.1
theorem dX3_begin_59 : decode cX3_begin 59 = .ok (.getfield 15, 3) := dkAa40.2.2.2.2.2.2.2.2.2.2.1
theorem dX3_begin_62 : decode cX3_begin 62 = .ok (.iload_n 2, 1) := dkAa40.2.2.2.2.2.2.2.2.2.2.2
set_option maxRecDepth 100000 in
theorem dkAa41 : decode cX3_begin 63 = .ok (.iconst 0, 1) ∧ decode cX3_begin 64 = .ok (.iastore, 1) ∧ decode cX3_begin 65 = .ok (.aload_n 0, 1) ∧ decode cX3_begin 66 = .ok (.getfield 18, 3) ∧ decode cX3_begin 69 = .ok (.iload_n 2, 1) ∧ decode cX3_begin 70 = .ok (.aload_n 1, 1) ∧ decode cX3_begin 71 = .ok (.iload_n 2, 1) ∧ decode cX3_begin 72 = .ok (.invokevirtual 49, 3) ∧ decode cX3_begin 75 = .ok (.iastore, 1) ∧ decode cX3_begin 76 = .ok (.aload_n 0, 1) ∧ decode cX3_begin 77 = .ok (.getfield 21, 3) ∧ decode cX3_begin 80 = .ok (.iload_n 2, 1) := by decide +kernel
theorem dX3_begin_63 : decode cX3_begin 63 = .ok (.iconst 0, 1) := dkAa41.1
theorem dX3_begin_64 : decode cX3_begin 64 = .ok (.iastore, 1) := dkAa41.2.1
theorem dX3_begin_65 : decode cX3_begin 65 = .ok (.aload_n 0, 1) := dkAa41.2.2.1
theorem dX3_begin_66 : decode cX3_begin 66 = .ok (.getfield 18, 3) := dkAa41.2.2.2.1
theorem dX3_begin_69 : decode cX3_begin 69 = .ok (.iload_n 2, 1) := dkAa41.2.2.2.2.1
theorem dX3_begin_70 : decode cX3_begin 70 = .ok (.aload_n 1, 1) := dkAa41.2.2.2.2.2.1
theorem dX3_begin_71 : decode cX3_begin 71 = .ok (.iload_n 2, 1) := dkAa41.2.2.2.2.2.2.1
theorem dX3_begin_72 : decode cX3_begin 72 = .ok (.invokevirtual 49, 3) := dkAa41.2.2.2.2.2.2.2.1
theorem dX3_begin_75 : decode cX3_begin 75 = .ok (.iastore, 1) := dkAa41.2.2.2.2.2.2.2.2.1
theorem dX3_begin_76 : decode cX3_begin 76 = .ok (.aload_n 0, 1) := dkAa41.2.2.2.2.2.2.2.2.2.1
theorem dX3_begin_77 : decode cX3_begin 77 = .ok (.getfield 21, 3) := dkAa41.2.2.2.2.2.2.2.2.2.2.1
theorem dX3_begin_80 : decode cX3_begin 80 = .ok (.iload_n 2, 1) := dkAa41.2.2.2.2.2.2.2.2.2.2.2
set_option maxRecDepth 100000 in
theorem dkAa42 : decode cX3_begin 81 = .ok (.aload_n 1, 1) ∧ decode cX3_begin 82 = .ok (.iload_n 2, 1) ∧ decode cX3_begin 83 = .ok (.invokevirtual 53, 3) ∧ decode cX3_begin 86 = .ok (.iastore, 1) ∧ decode cX3_begin 87 = .ok (.iinc 2 1, 3) ∧ decode cX3_begin 90 = .ok (.goto (-58), 3) ∧ decode cX3_begin 93 = .ok (.return_, 1) := by decide +kernel
theorem dX3_begin_81 : decode cX3_begin 81 = .ok (.aload_n 1, 1) := dkAa42.1
theorem dX3_begin_82 : decode cX3_begin 82 = .ok (.iload_n 2, 1) := dkAa42.2.1
theorem dX3_begin_83 : decode cX3_begin 83 = .ok (.invokevirtual 53, 3) := dkAa42.2.2.1
theorem dX3_begin_86 : decode cX3_begin 86 = .ok (.iastore, 1) := dkAa42.2.2.2.1
theorem dX3_begin_87 : decode cX3_begin 87 = .ok (.iinc 2 1, 3) := dkAa42.2.2.2.2.1
theorem dX3_begin_90 : decode cX3_begin 90 = .ok (.goto (-58), 3) := dkAa42.2.2.2.2.2.1
theorem dX3_begin_93 : decode cX3_begin 93 = .ok (.return_, 1) := dkAa42.2.2.2.2.2.2
set_option maxRecDepth 100000 in
theorem dkAa43 : decode cX3_copy 0 = .ok (.aload_n 0, 1) ∧ decode cX3_copy 1 = .ok (.aload_n 1, 1) ∧ decode cX3_copy 2 = .ok (.getfield 36, 3) ∧ decode cX3_copy 5 = .ok (.putfield 36, 3) ∧ decode cX3_copy 8 = .ok (.aload_n 0, 1) ∧ decode cX3_copy 9 = .ok (.aload_n 1, 1) ∧ decode cX3_copy 10 = .ok (.getfield 39, 3) ∧ decode cX3_copy 13 = .ok (.putfield 39, 3) ∧ decode cX3_copy 16 = .ok (.aload_n 0, 1) ∧ decode cX3_copy 17 = .ok (.aload_n 1, 1) ∧ decode cX3_copy 18 = .ok (.getfield 42, 3) ∧ decode cX3_copy 21 = .ok (.putfield 42, 3) := by decide +kernel
theorem dX3_copy_0 : decode cX3_copy 0 = .ok (.aload_n 0, 1) := dkAa43.1
theorem dX3_copy_1 : decode cX3_copy 1 = .ok (.aload_n 1, 1) := dkAa43.2.1
theorem dX3_copy_2 : decode cX3_copy 2 = .ok (.getfield 36, 3) := dkAa43.2.2.1
theorem dX3_copy_5 : decode cX3_copy 5 = .ok (.putfield 36, 3) := dkAa43.2.2.2.1
theorem dX3_copy_8 : decode cX3_copy 8 = .ok (.aload_n 0, 1) := dkAa43.2.2.2.2.1
theorem dX3_copy_9 : decode cX3_copy 9 = .ok (.aload_n 1, 1) := dkAa43.2.2.2.2.2.1
theorem dX3_copy_10 : decode cX3_copy 10 = .ok (.getfield 39, 3) := dkAa43.2.2.2.2.2.2.1
theorem dX3_copy_13 : decode cX3_copy 13 = .ok (.putfield 39, 3) := dkAa43.2.2.2.2.2.2.2.1
theorem dX3_copy_16 : decode cX3_copy 16 = .ok (.aload_n 0, 1) := dkAa43.2.2.2.2.2.2.2.2.1
theorem dX3_copy_17 : decode cX3_copy 17 = .ok (.aload_n 1, 1) := dkAa43.2.2.2.2.2.2.2.2.2.1
theorem dX3_copy_18 : decode cX3_copy 18 = .ok (.getfield 42, 3) := dkAa43.2.2.2.2.2.2.2.2.2.2.1
theorem dX3_copy_21 : decode cX3_copy 21 = .ok (.putfield 42, 3) := dkAa43.2.2.2.2.2.2.2.2.2.2.2
set_option maxRecDepth 100000 in
theorem dkAa44 : decode cX3_copy 24 = .ok (.iconst 0, 1) ∧ decode cX3_copy 25 = .ok (.istore_n 2, 1) ∧ decode cX3_copy 26 = .ok (.iload_n 2, 1) ∧ decode cX3_copy 27 = .ok (.bipush 7, 2) ∧ decode cX3_copy 29 = .ok (.if_icmp .ge 57, 3) ∧ decode cX3_copy 32 = .ok (.aload_n 0, 1) ∧ decode cX3_copy 33 = .ok (.getfield 9, 3) ∧ decode cX3_copy 36 = .ok (.iload_n 2, 1) ∧ decode cX3_copy 37 = .ok (.aload_n 1, 1) ∧ decode cX3_copy 38 = .ok (.getfield 9, 3) ∧ decode cX3_copy 41 = .ok (.iload_n 2, 1) ∧ decode cX3_copy 42 = .ok (.iaload, 1) := by decide +kernel
theorem dX3_copy_24 : decode cX3_copy 24 = .ok (.iconst 0, 1) := dkAa44.1
theorem dX3_copy_25 : decode cX3_copy 25 = .ok (.istore_n 2, 1) := dkAa44.2.1
theorem dX3_copy_26 : decode cX3_copy 26 = .ok (.iload_n 2, 1) := dkAa44.2.2.1
theorem dX3_copy_27 : decode cX3_copy 27 = .ok (.bipush 7, 2) := dkAa44.2.2.2.1
theorem dX3_copy_29 : decode cX3_copy 29 = .ok (.if_icmp .ge 57, 3) := dkAa44.2.2.2.2.1
theorem dX3_copy_32 : decode cX3_copy 32 = .ok (.aload_n 0, 1) := dkAa44.2.2.2.2.2.1
theorem dX3_copy_33 : decode cX3_copy 33 = .ok (.getfield 9, 3) := dkAa44.2.2.2.2.2.2.1
theorem dX3_copy_36 : decode cX3_copy 36 = .ok (.iload_n 2, 1) := dkAa44.2.2.2.2.2.2.2.1
theorem dX3_copy_37 : decode cX3_copy 37 = .ok (.aload_n 1, 1) := dkAa44.2.2.2.2.2.2.2.2.1
theorem dX3_copy_38 : decode cX3_copy 38 = .ok (.getfield 9, 3) := dkAa44.2.2.2.2.2.2.2.2.2.1
theorem dX3_copy_41 : decode cX3_copy 41 = .ok (.iload_n 2, 1) := dkAa44.2.2.2.2.2.2.2.2.2.2.1
theorem dX3_copy_42 : decode cX3_copy 42 = .ok (.iaload, 1) := dkAa44.2.2.2.2.2.2.2.2.2.2.2
set_option maxRecDepth 100000 in
theorem dkAa45 : decode cX3_copy 43 = .ok (.iastore, 1) ∧ decode cX3_copy 44 = .ok (.aload_n 0, 1) ∧ decode cX3_copy 45 = .ok (.getfield 15, 3) ∧ decode cX3_copy 48 = .ok (.iload_n 2, 1) ∧ decode cX3_copy 49 = .ok (.aload_n 1, 1) ∧ decode cX3_copy 50 = .ok (.getfield 15, 3) ∧ decode cX3_copy 53 = .ok (.iload_n 2, 1) ∧ decode cX3_copy 54 = .ok (.iaload, 1) ∧ decode cX3_copy 55 = .ok (.iastore, 1) ∧ decode cX3_copy 56 = .ok (.aload_n 0, 1) ∧ decode cX3_copy 57 = .ok (.getfield 18, 3) ∧ decode cX3_copy 60 = .ok (.iload_n 2, 1) := by decide +kernel
theorem dX3_copy_43 : decode cX3_copy 43 = .ok (.iastore, 1) := dkAa45.1
theorem dX3_copy_44 : decode cX3_copy 44 = .ok (.aload_n 0, 1) := dkAa45.2.1
theorem dX3_copy_45 : decode cX3_copy 45 = .ok (.getfield 15, 3) := dkAa45.2.2.1
theorem dX3_copy_48 : decode cX3_copy 48 = .ok (.iload_n 2, 1) := dkAa45.2.2.2.1
theorem dX3_copy_49 : decode cX3_copy 49 = .ok (.aload_n 1, 1) := dkAa45.2.2.2.2.1
theorem dX3_copy_50 : decode cX3_copy 50 = .ok (.getfield 15, 3) := dkAa45.2.2.2.2.2.1
theorem dX3_copy_53 : decode cX3_copy 53 = .ok (.iload_n 2, 1) := dkAa45.2.2.2.2.2.2.1
theorem dX3_copy_54 : decode cX3_copy 54 = .ok (.iaload, 1) := dkAa45.2.2.2.2.2.2.2.1
theorem dX3_copy_55 : decode cX3_copy 55 = .ok (.iastore, 1) := dkAa45.2.2.2.2.2.2.2.2.1
theorem dX3_copy_56 : decode cX3_copy 56 = .ok (.aload_n 0, 1) := dkAa45.2.2.2.2.2.2.2.2.2.1
theorem dX3_copy_57 : decode cX3_copy 57 = .ok (.getfield 18, 3) := dkAa45.2.2.2.2.2.2.2.2.2.2.1
theorem dX3_copy_60 : decode cX3_copy 60 = .ok (.iload_n 2, 1) := dkAa45.2.2.2.2.2.2.2.2.2.2.2
set_option maxRecDepth 100000 in
theorem dkAa46 : decode cX3_copy 61 = .ok (.aload_n 1, 1) ∧ decode cX3_copy 62 = .ok (.getfield 18, 3) ∧ decode cX3_copy 65 = .ok (.iload_n 2, 1) ∧ decode cX3_copy 66 = .ok (.iaload, 1) ∧ decode cX3_copy 67 = .ok (.iastore, 1) ∧ decode cX3_copy 68 = .ok (.aload_n 0, 1) ∧ decode cX3_copy 69 = .ok (.getfield 21, 3) ∧ decode cX3_copy 72 = .ok (.iload_n 2, 1) ∧ decode cX3_copy 73 = .ok (.aload_n 1, 1) ∧ decode cX3_copy 74 = .ok (.getfield 21, 3) ∧ decode cX3_copy 77 = .ok (.iload_n 2, 1) ∧ decode cX3_copy 78 = .ok (.iaload, 1) := by decide +kernel
theorem dX3_copy_61 : decode cX3_copy 61 = .ok (.aload_n 1, 1) := dkAa46.1
theorem dX3_copy_62 : decode cX3_copy 62 = .ok (.getfield 18, 3) := dkAa46.2.1
theorem dX3_copy_65 : decode cX3_copy 65 = .ok (.iload_n 2, 1) := dkAa46.2.2.1
theorem dX3_copy_66 : decode cX3_copy 66 = .ok (.iaload, 1) := dkAa46.2.2.2.1
theorem dX3_copy_67 : decode cX3_copy 67 = .ok (.iastore, 1) := dkAa46.2.2.2.2.1
theorem dX3_copy_68 : decode cX3_copy 68 = .ok (.aload_n 0, 1) := dkAa46.2.2.2.2.2.1
theorem dX3_copy_69 : decode cX3_copy 69 = .ok (.getfield 21, 3) := dkAa46.2.2.2.2.2.2.1
theorem dX3_copy_72 : decode cX3_copy 72 = .ok (.iload_n 2, 1) := dkAa46.2.2.2.2.2.2.2.1
theorem dX3_copy_73 : decode cX3_copy 73 = .ok (.aload_n 1, 1) := dkAa46.2.2.2.2.2.2.2.2.1
theorem dX3_copy_74 : decode cX3_copy 74 = .ok (.getfield 21, 3) := dkAa46.2.2.2.2.2.2.2.2.2.1
theorem dX3_copy_77 : decode cX3_copy 77 = .ok (.iload_n 2, 1) := dkAa46.2.2.2.2.2.2.2.2.2.2.1
theorem dX3_copy_78 : decode cX3_copy 78 = .ok (.iaload, 1) := dkAa46.2.2.2.2.2.2.2.2.2.2.2
set_option maxRecDepth 100000 in
theorem dkAa47 : decode cX3_copy 79 = .ok (.iastore, 1) ∧ decode cX3_copy 80 = .ok (.iinc 2 1, 3) ∧ decode cX3_copy 83 = .ok (.goto (-57), 3) ∧ decode cX3_copy 86 = .ok (.return_, 1) := by decide +kernel
theorem dX3_copy_79 : decode cX3_copy 79 = .ok (.iastore, 1) := dkAa47.1
theorem dX3_copy_80 : decode cX3_copy 80 = .ok (.iinc 2 1, 3) := dkAa47.2.1
theorem dX3_copy_83 : decode cX3_copy 83 = .ok (.goto (-57), 3) := dkAa47.2.2.1
theorem dX3_copy_86 : decode cX3_copy 86 = .ok (.return_, 1) := dkAa47.2.2.2
set_option maxRecDepth 100000 in
theorem dkAa48 : decode cX3_isOne 0 = .ok (.iload_n 1, 1) ∧ decode cX3_isOne 1 = .ok (.ifCond .lt 15, 3) ∧ decode cX3_isOne 4 = .ok (.iload_n 1, 1) ∧ decode cX3_isOne 5 = .ok (.aload_n 0, 1) ∧ decode cX3_isOne 6 = .ok (.getfield 36, 3) ∧ decode cX3_isOne 9 = .ok (.if_icmp .ge 7, 3) ∧ decode cX3_isOne 12 = .ok (.iconst 1, 1) ∧ decode cX3_isOne 13 = .ok (.goto 4, 3) ∧ decode cX3_isOne 16 = .ok (.iconst 0, 1) ∧ decode cX3_isOne 17 = .ok (.ireturn, 1) := by decide +kernel
theorem dX3_isOne_0 : decode cX3_isOne 0 = .ok (.iload_n 1, 1) := dkAa48.1
theorem dX3_isOne_1 : decode cX3_isOne 1 = .ok (.ifCond .lt 15, 3) := dkAa48.2.1
theorem dX3_isOne_4 : decode cX3_isOne 4 = .ok (.iload_n 1, 1) := dkAa48.2.2.1
theorem dX3_isOne_5 : decode cX3_isOne 5 = .ok (.aload_n 0, 1) := dkAa48.2.2.2.1
theorem dX3_isOne_6 : decode cX3_isOne 6 = .ok (.getfield 36, 3) := dkAa48.2.2.2.2.1
theorem dX3_isOne_9 : decode cX3_isOne 9 = .ok (.if_icmp .ge 7, 3) := dkAa48.2.2.2.2.2.1
theorem dX3_isOne_12 : decode cX3_isOne 12 = .ok (.iconst 1, 1) := dkAa48.2.2.2.2.2.2.1
theorem dX3_isOne_13 : decode cX3_isOne 13 = .ok (.goto 4, 3) := dkAa48.2.2.2.2.2.2.2.1
theorem dX3_isOne_16 : decode cX3_isOne 16 = .ok (.iconst 0, 1) := dkAa48.2.2.2.2.2.2.2.2.1
theorem dX3_isOne_17 : decode cX3_isOne 17 = .ok (.ireturn, 1) := dkAa48.2.2.2.2.2.2.2.2.2
set_option maxRecDepth 100000 in
theorem dkAa49 : decode cX3_lives 0 = .ok (.iload_n 1, 1) ∧ decode cX3_lives 1 = .ok (.ifCond .lt 26, 3) ∧ decode cX3_lives 4 = .ok (.iload_n 1, 1) ∧ decode cX3_lives 5 = .ok (.aload_n 0, 1) ∧ decode cX3_lives 6 = .ok (.getfield 36, 3) ∧ decode cX3_lives 9 = .ok (.if_icmp .ge 18, 3) ∧ decode cX3_lives 12 = .ok (.aload_n 0, 1) ∧ decode cX3_lives 13 = .ok (.getfield 39, 3) ∧ decode cX3_lives 16 = .ok (.iload_n 1, 1) ∧ decode cX3_lives 17 = .ok (.ishr, 1) ∧ decode cX3_lives 18 = .ok (.iconst 1, 1) ∧ decode cX3_lives 19 = .ok (.iand, 1) := by decide +kernel
theorem dX3_lives_0 : decode cX3_lives 0 = .ok (.iload_n 1, 1) := dkAa49.1
theorem dX3_lives_1 : decode cX3_lives 1 = .ok (.ifCond .lt 26, 3) := dkAa49.2.1
theorem dX3_lives_4 : decode cX3_lives 4 = .ok (.iload_n 1, 1) := dkAa49.2.2.1
theorem dX3_lives_5 : decode cX3_lives 5 = .ok (.aload_n 0, 1) := dkAa49.2.2.2.1
theorem dX3_lives_6 : decode cX3_lives 6 = .ok (.getfield 36, 3) := dkAa49.2.2.2.2.1
theorem dX3_lives_9 : decode cX3_lives 9 = .ok (.if_icmp .ge 18, 3) := dkAa49.2.2.2.2.2.1
theorem dX3_lives_12 : decode cX3_lives 12 = .ok (.aload_n 0, 1) := dkAa49.2.2.2.2.2.2.1
theorem dX3_lives_13 : decode cX3_lives 13 = .ok (.getfield 39, 3) := dkAa49.2.2.2.2.2.2.2.1
theorem dX3_lives_16 : decode cX3_lives 16 = .ok (.iload_n 1, 1) := dkAa49.2.2.2.2.2.2.2.2.1
theorem dX3_lives_17 : decode cX3_lives 17 = .ok (.ishr, 1) := dkAa49.2.2.2.2.2.2.2.2.2.1
theorem dX3_lives_18 : decode cX3_lives 18 = .ok (.iconst 1, 1) := dkAa49.2.2.2.2.2.2.2.2.2.2.1
theorem dX3_lives_19 : decode cX3_lives 19 = .ok (.iand, 1) := dkAa49.2.2.2.2.2.2.2.2.2.2.2
set_option maxRecDepth 100000 in
theorem dkAa50 : decode cX3_lives 20 = .ok (.ifCond .eq 7, 3) ∧ decode cX3_lives 23 = .ok (.iconst 1, 1) ∧ decode cX3_lives 24 = .ok (.goto 4, 3) ∧ decode cX3_lives 27 = .ok (.iconst 0, 1) ∧ decode cX3_lives 28 = .ok (.ireturn, 1) := by decide +kernel
theorem dX3_lives_20 : decode cX3_lives 20 = .ok (.ifCond .eq 7, 3) := dkAa50.1
theorem dX3_lives_23 : decode cX3_lives 23 = .ok (.iconst 1, 1) := dkAa50.2.1
theorem dX3_lives_24 : decode cX3_lives 24 = .ok (.goto 4, 3) := dkAa50.2.2.1
theorem dX3_lives_27 : decode cX3_lives 27 = .ok (.iconst 0, 1) := dkAa50.2.2.2.1
theorem dX3_lives_28 : decode cX3_lives 28 = .ok (.ireturn, 1) := dkAa50.2.2.2.2
set_option maxRecDepth 100000 in
theorem dkAa51 : decode cX3_allLive 0 = .ok (.iload_n 1, 1) ∧ decode cX3_allLive 1 = .ok (.aload_n 0, 1) ∧ decode cX3_allLive 2 = .ok (.getfield 39, 3) ∧ decode cX3_allLive 5 = .ok (.iconst (-1), 1) ∧ decode cX3_allLive 6 = .ok (.ixor, 1) ∧ decode cX3_allLive 7 = .ok (.iand, 1) ∧ decode cX3_allLive 8 = .ok (.ifCond .ne 7, 3) ∧ decode cX3_allLive 11 = .ok (.iconst 1, 1) ∧ decode cX3_allLive 12 = .ok (.goto 4, 3) ∧ decode cX3_allLive 15 = .ok (.iconst 0, 1) ∧ decode cX3_allLive 16 = .ok (.ireturn, 1) := by decide +kernel
theorem dX3_allLive_0 : decode cX3_allLive 0 = .ok (.iload_n 1, 1) := dkAa51.1
theorem dX3_allLive_1 : decode cX3_allLive 1 = .ok (.aload_n 0, 1) := dkAa51.2.1
theorem dX3_allLive_2 : decode cX3_allLive 2 = .ok (.getfield 39, 3) := dkAa51.2.2.1
theorem dX3_allLive_5 : decode cX3_allLive 5 = .ok (.iconst (-1), 1) := dkAa51.2.2.2.1
theorem dX3_allLive_6 : decode cX3_allLive 6 = .ok (.ixor, 1) := dkAa51.2.2.2.2.1
theorem dX3_allLive_7 : decode cX3_allLive 7 = .ok (.iand, 1) := dkAa51.2.2.2.2.2.1
theorem dX3_allLive_8 : decode cX3_allLive 8 = .ok (.ifCond .ne 7, 3) := dkAa51.2.2.2.2.2.2.1
theorem dX3_allLive_11 : decode cX3_allLive 11 = .ok (.iconst 1, 1) := dkAa51.2.2.2.2.2.2.2.1
theorem dX3_allLive_12 : decode cX3_allLive 12 = .ok (.goto 4, 3) := dkAa51.2.2.2.2.2.2.2.2.1
theorem dX3_allLive_15 : decode cX3_allLive 15 = .ok (.iconst 0, 1) := dkAa51.2.2.2.2.2.2.2.2.2.1
theorem dX3_allLive_16 : decode cX3_allLive 16 = .ok (.ireturn, 1) := dkAa51.2.2.2.2.2.2.2.2.2.2
set_option maxRecDepth 100000 in
theorem dkAa52 : decode cX3_voiceOf 0 = .ok (.aload_n 0, 1) ∧ decode cX3_voiceOf 1 = .ok (.iload_n 1, 1) ∧ decode cX3_voiceOf 2 = .ok (.invokevirtual 56, 3) ∧ decode cX3_voiceOf 5 = .ok (.ifCond .eq 12, 3) ∧ decode cX3_voiceOf 8 = .ok (.aload_n 0, 1) ∧ decode cX3_voiceOf 9 = .ok (.getfield 9, 3) ∧ decode cX3_voiceOf 12 = .ok (.iload_n 1, 1) ∧ decode cX3_voiceOf 13 = .ok (.iaload, 1) ∧ decode cX3_voiceOf 14 = .ok (.goto 5, 3) ∧ decode cX3_voiceOf 17 = .ok (.bipush 9, 2) ∧ decode cX3_voiceOf 19 = .ok (.ireturn, 1) := by decide +kernel
theorem dX3_voiceOf_0 : decode cX3_voiceOf 0 = .ok (.aload_n 0, 1) := dkAa52.1
theorem dX3_voiceOf_1 : decode cX3_voiceOf 1 = .ok (.iload_n 1, 1) := dkAa52.2.1
theorem dX3_voiceOf_2 : decode cX3_voiceOf 2 = .ok (.invokevirtual 56, 3) := dkAa52.2.2.1
theorem dX3_voiceOf_5 : decode cX3_voiceOf 5 = .ok (.ifCond .eq 12, 3) := dkAa52.2.2.2.1
theorem dX3_voiceOf_8 : decode cX3_voiceOf 8 = .ok (.aload_n 0, 1) := dkAa52.2.2.2.2.1
theorem dX3_voiceOf_9 : decode cX3_voiceOf 9 = .ok (.getfield 9, 3) := dkAa52.2.2.2.2.2.1
theorem dX3_voiceOf_12 : decode cX3_voiceOf 12 = .ok (.iload_n 1, 1) := dkAa52.2.2.2.2.2.2.1
theorem dX3_voiceOf_13 : decode cX3_voiceOf 13 = .ok (.iaload, 1) := dkAa52.2.2.2.2.2.2.2.1
theorem dX3_voiceOf_14 : decode cX3_voiceOf 14 = .ok (.goto 5, 3) := dkAa52.2.2.2.2.2.2.2.2.1
theorem dX3_voiceOf_17 : decode cX3_voiceOf 17 = .ok (.bipush 9, 2) := dkAa52.2.2.2.2.2.2.2.2.2.1
theorem dX3_voiceOf_19 : decode cX3_voiceOf 19 = .ok (.ireturn, 1) := dkAa52.2.2.2.2.2.2.2.2.2.2
set_option maxRecDepth 100000 in
theorem dkAa53 : decode cX3_jarOf 0 = .ok (.aload_n 0, 1) ∧ decode cX3_jarOf 1 = .ok (.iload_n 1, 1) ∧ decode cX3_jarOf 2 = .ok (.invokevirtual 56, 3) ∧ decode cX3_jarOf 5 = .ok (.ifCond .eq 12, 3) ∧ decode cX3_jarOf 8 = .ok (.aload_n 0, 1) ∧ decode cX3_jarOf 9 = .ok (.getfield 15, 3) ∧ decode cX3_jarOf 12 = .ok (.iload_n 1, 1) ∧ decode cX3_jarOf 13 = .ok (.iaload, 1) ∧ decode cX3_jarOf 14 = .ok (.goto 4, 3) ∧ decode cX3_jarOf 17 = .ok (.iconst 0, 1) ∧ decode cX3_jarOf 18 = .ok (.ireturn, 1) := by decide +kernel
theorem dX3_jarOf_0 : decode cX3_jarOf 0 = .ok (.aload_n 0, 1) := dkAa53.1
theorem dX3_jarOf_1 : decode cX3_jarOf 1 = .ok (.iload_n 1, 1) := dkAa53.2.1
theorem dX3_jarOf_2 : decode cX3_jarOf 2 = .ok (.invokevirtual 56, 3) := dkAa53.2.2.1
theorem dX3_jarOf_5 : decode cX3_jarOf 5 = .ok (.ifCond .eq 12, 3) := dkAa53.2.2.2.1
theorem dX3_jarOf_8 : decode cX3_jarOf 8 = .ok (.aload_n 0, 1) := dkAa53.2.2.2.2.1
theorem dX3_jarOf_9 : decode cX3_jarOf 9 = .ok (.getfield 15, 3) := dkAa53.2.2.2.2.2.1
theorem dX3_jarOf_12 : decode cX3_jarOf 12 = .ok (.iload_n 1, 1) := dkAa53.2.2.2.2.2.2.1
theorem dX3_jarOf_13 : decode cX3_jarOf 13 = .ok (.iaload, 1) := dkAa53.2.2.2.2.2.2.2.1
theorem dX3_jarOf_14 : decode cX3_jarOf 14 = .ok (.goto 4, 3) := dkAa53.2.2.2.2.2.2.2.2.1
theorem dX3_jarOf_17 : decode cX3_jarOf 17 = .ok (.iconst 0, 1) := dkAa53.2.2.2.2.2.2.2.2.2.1
theorem dX3_jarOf_18 : decode cX3_jarOf 18 = .ok (.ireturn, 1) := dkAa53.2.2.2.2.2.2.2.2.2.2
set_option maxRecDepth 100000 in
theorem dkAa54 : decode cX3_firstHeir 0 = .ok (.aload_n 0, 1) ∧ decode cX3_firstHeir 1 = .ok (.iload_n 1, 1) ∧ decode cX3_firstHeir 2 = .ok (.invokevirtual 56, 3) ∧ decode cX3_firstHeir 5 = .ok (.ifCond .eq 12, 3) ∧ decode cX3_firstHeir 8 = .ok (.aload_n 0, 1) ∧ decode cX3_firstHeir 9 = .ok (.getfield 18, 3) ∧ decode cX3_firstHeir 12 = .ok (.iload_n 1, 1) ∧ decode cX3_firstHeir 13 = .ok (.iaload, 1) ∧ decode cX3_firstHeir 14 = .ok (.goto 5, 3) ∧ decode cX3_firstHeir 17 = .ok (.bipush 9, 2) ∧ decode cX3_firstHeir 19 = .ok (.ireturn, 1) := by decide +kernel
theorem dX3_firstHeir_0 : decode cX3_firstHeir 0 = .ok (.aload_n 0, 1) := dkAa54.1
theorem dX3_firstHeir_1 : decode cX3_firstHeir 1 = .ok (.iload_n 1, 1) := dkAa54.2.1
theorem dX3_firstHeir_2 : decode cX3_firstHeir 2 = .ok (.invokevirtual 56, 3) := dkAa54.2.2.1
theorem dX3_firstHeir_5 : decode cX3_firstHeir 5 = .ok (.ifCond .eq 12, 3) := dkAa54.2.2.2.1
theorem dX3_firstHeir_8 : decode cX3_firstHeir 8 = .ok (.aload_n 0, 1) := dkAa54.2.2.2.2.1
theorem dX3_firstHeir_9 : decode cX3_firstHeir 9 = .ok (.getfield 18, 3) := dkAa54.2.2.2.2.2.1
theorem dX3_firstHeir_12 : decode cX3_firstHeir 12 = .ok (.iload_n 1, 1) := dkAa54.2.2.2.2.2.2.1
theorem dX3_firstHeir_13 : decode cX3_firstHeir 13 = .ok (.iaload, 1) := dkAa54.2.2.2.2.2.2.2.1
theorem dX3_firstHeir_14 : decode cX3_firstHeir 14 = .ok (.goto 5, 3) := dkAa54.2.2.2.2.2.2.2.2.1
theorem dX3_firstHeir_17 : decode cX3_firstHeir 17 = .ok (.bipush 9, 2) := dkAa54.2.2.2.2.2.2.2.2.2.1
theorem dX3_firstHeir_19 : decode cX3_firstHeir 19 = .ok (.ireturn, 1) := dkAa54.2.2.2.2.2.2.2.2.2.2
set_option maxRecDepth 100000 in
theorem dkAa55 : decode cX3_secondHeir 0 = .ok (.aload_n 0, 1) ∧ decode cX3_secondHeir 1 = .ok (.iload_n 1, 1) ∧ decode cX3_secondHeir 2 = .ok (.invokevirtual 56, 3) ∧ decode cX3_secondHeir 5 = .ok (.ifCond .eq 12, 3) ∧ decode cX3_secondHeir 8 = .ok (.aload_n 0, 1) ∧ decode cX3_secondHeir 9 = .ok (.getfield 21, 3) ∧ decode cX3_secondHeir 12 = .ok (.iload_n 1, 1) ∧ decode cX3_secondHeir 13 = .ok (.iaload, 1) ∧ decode cX3_secondHeir 14 = .ok (.goto 5, 3) ∧ decode cX3_secondHeir 17 = .ok (.bipush 9, 2) ∧ decode cX3_secondHeir 19 = .ok (.ireturn, 1) := by decide +kernel
theorem dX3_secondHeir_0 : decode cX3_secondHeir 0 = .ok (.aload_n 0, 1) := dkAa55.1
theorem dX3_secondHeir_1 : decode cX3_secondHeir 1 = .ok (.iload_n 1, 1) := dkAa55.2.1
theorem dX3_secondHeir_2 : decode cX3_secondHeir 2 = .ok (.invokevirtual 56, 3) := dkAa55.2.2.1
theorem dX3_secondHeir_5 : decode cX3_secondHeir 5 = .ok (.ifCond .eq 12, 3) := dkAa55.2.2.2.1
theorem dX3_secondHeir_8 : decode cX3_secondHeir 8 = .ok (.aload_n 0, 1) := dkAa55.2.2.2.2.1
theorem dX3_secondHeir_9 : decode cX3_secondHeir 9 = .ok (.getfield 21, 3) := dkAa55.2.2.2.2.2.1
theorem dX3_secondHeir_12 : decode cX3_secondHeir 12 = .ok (.iload_n 1, 1) := dkAa55.2.2.2.2.2.2.1
theorem dX3_secondHeir_13 : decode cX3_secondHeir 13 = .ok (.iaload, 1) := dkAa55.2.2.2.2.2.2.2.1
theorem dX3_secondHeir_14 : decode cX3_secondHeir 14 = .ok (.goto 5, 3) := dkAa55.2.2.2.2.2.2.2.2.1
theorem dX3_secondHeir_17 : decode cX3_secondHeir 17 = .ok (.bipush 9, 2) := dkAa55.2.2.2.2.2.2.2.2.2.1
theorem dX3_secondHeir_19 : decode cX3_secondHeir 19 = .ok (.ireturn, 1) := dkAa55.2.2.2.2.2.2.2.2.2.2
set_option maxRecDepth 100000 in
theorem dkAa56 : decode cX3_silent 0 = .ok (.iconst 0, 1) ∧ decode cX3_silent 1 = .ok (.istore_n 1, 1) ∧ decode cX3_silent 2 = .ok (.iconst 0, 1) ∧ decode cX3_silent 3 = .ok (.istore_n 2, 1) ∧ decode cX3_silent 4 = .ok (.iload_n 2, 1) ∧ decode cX3_silent 5 = .ok (.aload_n 0, 1) ∧ decode cX3_silent 6 = .ok (.getfield 36, 3) ∧ decode cX3_silent 9 = .ok (.if_icmp .ge 37, 3) ∧ decode cX3_silent 12 = .ok (.aload_n 0, 1) ∧ decode cX3_silent 13 = .ok (.getfield 39, 3) ∧ decode cX3_silent 16 = .ok (.iload_n 2, 1) ∧ decode cX3_silent 17 = .ok (.ishr, 1) := by decide +kernel
theorem dX3_silent_0 : decode cX3_silent 0 = .ok (.iconst 0, 1) := dkAa56.1
theorem dX3_silent_1 : decode cX3_silent 1 = .ok (.istore_n 1, 1) := dkAa56.2.1
theorem dX3_silent_2 : decode cX3_silent 2 = .ok (.iconst 0, 1) := dkAa56.2.2.1
theorem dX3_silent_3 : decode cX3_silent 3 = .ok (.istore_n 2, 1) := dkAa56.2.2.2.1
theorem dX3_silent_4 : decode cX3_silent 4 = .ok (.iload_n 2, 1) := dkAa56.2.2.2.2.1
theorem dX3_silent_5 : decode cX3_silent 5 = .ok (.aload_n 0, 1) := dkAa56.2.2.2.2.2.1
theorem dX3_silent_6 : decode cX3_silent 6 = .ok (.getfield 36, 3) := dkAa56.2.2.2.2.2.2.1
theorem dX3_silent_9 : decode cX3_silent 9 = .ok (.if_icmp .ge 37, 3) := dkAa56.2.2.2.2.2.2.2.1
theorem dX3_silent_12 : decode cX3_silent 12 = .ok (.aload_n 0, 1) := dkAa56.2.2.2.2.2.2.2.2.1
theorem dX3_silent_13 : decode cX3_silent 13 = .ok (.getfield 39, 3) := dkAa56.2.2.2.2.2.2.2.2.2.1
theorem dX3_silent_16 : decode cX3_silent 16 = .ok (.iload_n 2, 1) := dkAa56.2.2.2.2.2.2.2.2.2.2.1
theorem dX3_silent_17 : decode cX3_silent 17 = .ok (.ishr, 1) := dkAa56.2.2.2.2.2.2.2.2.2.2.2
set_option maxRecDepth 100000 in
theorem dkAa57 : decode cX3_silent 18 = .ok (.iconst 1, 1) ∧ decode cX3_silent 19 = .ok (.iand, 1) ∧ decode cX3_silent 20 = .ok (.ifCond .eq 20, 3) ∧ decode cX3_silent 23 = .ok (.aload_n 0, 1) ∧ decode cX3_silent 24 = .ok (.getfield 9, 3) ∧ decode cX3_silent 27 = .ok (.iload_n 2, 1) ∧ decode cX3_silent 28 = .ok (.iaload, 1) ∧ decode cX3_silent 29 = .ok (.bipush 9, 2) ∧ decode cX3_silent 31 = .ok (.if_icmp .ne 9, 3) ∧ decode cX3_silent 34 = .ok (.iload_n 1, 1) ∧ decode cX3_silent 35 = .ok (.iconst 1, 1) ∧ decode cX3_silent 36 = .ok (.iload_n 2, 1) := by decide +kernel
theorem dX3_silent_18 : decode cX3_silent 18 = .ok (.iconst 1, 1) := dkAa57.1
theorem dX3_silent_19 : decode cX3_silent 19 = .ok (.iand, 1) := dkAa57.2.1
theorem dX3_silent_20 : decode cX3_silent 20 = .ok (.ifCond .eq 20, 3) := dkAa57.2.2.1
theorem dX3_silent_23 : decode cX3_silent 23 = .ok (.aload_n 0, 1) := dkAa57.2.2.2.1
theorem dX3_silent_24 : decode cX3_silent 24 = .ok (.getfield 9, 3) := dkAa57.2.2.2.2.1
theorem dX3_silent_27 : decode cX3_silent 27 = .ok (.iload_n 2, 1) := dkAa57.2.2.2.2.2.1
theorem dX3_silent_28 : decode cX3_silent 28 = .ok (.iaload, 1) := dkAa57.2.2.2.2.2.2.1
theorem dX3_silent_29 : decode cX3_silent 29 = .ok (.bipush 9, 2) := dkAa57.2.2.2.2.2.2.2.1
theorem dX3_silent_31 : decode cX3_silent 31 = .ok (.if_icmp .ne 9, 3) := dkAa57.2.2.2.2.2.2.2.2.1
theorem dX3_silent_34 : decode cX3_silent 34 = .ok (.iload_n 1, 1) := dkAa57.2.2.2.2.2.2.2.2.2.1
theorem dX3_silent_35 : decode cX3_silent 35 = .ok (.iconst 1, 1) := dkAa57.2.2.2.2.2.2.2.2.2.2.1
theorem dX3_silent_36 : decode cX3_silent 36 = .ok (.iload_n 2, 1) := dkAa57.2.2.2.2.2.2.2.2.2.2.2
set_option maxRecDepth 100000 in
theorem dkAa58 : decode cX3_silent 37 = .ok (.ishl, 1) ∧ decode cX3_silent 38 = .ok (.ior, 1) ∧ decode cX3_silent 39 = .ok (.istore_n 1, 1) ∧ decode cX3_silent 40 = .ok (.iinc 2 1, 3) ∧ decode cX3_silent 43 = .ok (.goto (-39), 3) ∧ decode cX3_silent 46 = .ok (.iload_n 1, 1) ∧ decode cX3_silent 47 = .ok (.ireturn, 1) := by decide +kernel
theorem dX3_silent_37 : decode cX3_silent 37 = .ok (.ishl, 1) := dkAa58.1
theorem dX3_silent_38 : decode cX3_silent 38 = .ok (.ior, 1) := dkAa58.2.1
theorem dX3_silent_39 : decode cX3_silent 39 = .ok (.istore_n 1, 1) := dkAa58.2.2.1
theorem dX3_silent_40 : decode cX3_silent 40 = .ok (.iinc 2 1, 3) := dkAa58.2.2.2.1
theorem dX3_silent_43 : decode cX3_silent 43 = .ok (.goto (-39), 3) := dkAa58.2.2.2.2.1
theorem dX3_silent_46 : decode cX3_silent 46 = .ok (.iload_n 1, 1) := dkAa58.2.2.2.2.2.1
theorem dX3_silent_47 : decode cX3_silent 47 = .ok (.ireturn, 1) := dkAa58.2.2.2.2.2.2
set_option maxRecDepth 100000 in
theorem dkAa59 : decode cX3_held 0 = .ok (.iconst 0, 1) ∧ decode cX3_held 1 = .ok (.istore_n 1, 1) ∧ decode cX3_held 2 = .ok (.iconst 0, 1) ∧ decode cX3_held 3 = .ok (.istore_n 2, 1) ∧ decode cX3_held 4 = .ok (.iload_n 2, 1) ∧ decode cX3_held 5 = .ok (.aload_n 0, 1) ∧ decode cX3_held 6 = .ok (.getfield 36, 3) ∧ decode cX3_held 9 = .ok (.if_icmp .ge 53, 3) ∧ decode cX3_held 12 = .ok (.aload_n 0, 1) ∧ decode cX3_held 13 = .ok (.iload_n 2, 1) ∧ decode cX3_held 14 = .ok (.invokevirtual 59, 3) ∧ decode cX3_held 17 = .ok (.ifCond .eq 39, 3) := by decide +kernel
theorem dX3_held_0 : decode cX3_held 0 = .ok (.iconst 0, 1) := dkAa59.1
theorem dX3_held_1 : decode cX3_held 1 = .ok (.istore_n 1, 1) := dkAa59.2.1
theorem dX3_held_2 : decode cX3_held 2 = .ok (.iconst 0, 1) := dkAa59.2.2.1
theorem dX3_held_3 : decode cX3_held 3 = .ok (.istore_n 2, 1) := dkAa59.2.2.2.1
theorem dX3_held_4 : decode cX3_held 4 = .ok (.iload_n 2, 1) := dkAa59.2.2.2.2.1
theorem dX3_held_5 : decode cX3_held 5 = .ok (.aload_n 0, 1) := dkAa59.2.2.2.2.2.1
theorem dX3_held_6 : decode cX3_held 6 = .ok (.getfield 36, 3) := dkAa59.2.2.2.2.2.2.1
theorem dX3_held_9 : decode cX3_held 9 = .ok (.if_icmp .ge 53, 3) := dkAa59.2.2.2.2.2.2.2.1
theorem dX3_held_12 : decode cX3_held 12 = .ok (.aload_n 0, 1) := dkAa59.2.2.2.2.2.2.2.2.1
theorem dX3_held_13 : decode cX3_held 13 = .ok (.iload_n 2, 1) := dkAa59.2.2.2.2.2.2.2.2.2.1
theorem dX3_held_14 : decode cX3_held 14 = .ok (.invokevirtual 59, 3) := dkAa59.2.2.2.2.2.2.2.2.2.2.1
theorem dX3_held_17 : decode cX3_held 17 = .ok (.ifCond .eq 39, 3) := dkAa59.2.2.2.2.2.2.2.2.2.2.2
set_option maxRecDepth 100000 in
theorem dkAa60 : decode cX3_held 20 = .ok (.iload_n 1, 1) ∧ decode cX3_held 21 = .ok (.aload_n 0, 1) ∧ decode cX3_held 22 = .ok (.getfield 15, 3) ∧ decode cX3_held 25 = .ok (.iload_n 2, 1) ∧ decode cX3_held 26 = .ok (.iaload, 1) ∧ decode cX3_held 27 = .ok (.ior, 1) ∧ decode cX3_held 28 = .ok (.istore_n 1, 1) ∧ decode cX3_held 29 = .ok (.iload_n 1, 1) ∧ decode cX3_held 30 = .ok (.aload_n 0, 1) ∧ decode cX3_held 31 = .ok (.getfield 9, 3) ∧ decode cX3_held 34 = .ok (.iload_n 2, 1) ∧ decode cX3_held 35 = .ok (.iaload, 1) := by decide +kernel
theorem dX3_held_20 : decode cX3_held 20 = .ok (.iload_n 1, 1) := dkAa60.1
theorem dX3_held_21 : decode cX3_held 21 = .ok (.aload_n 0, 1) := dkAa60.2.1
theorem dX3_held_22 : decode cX3_held 22 = .ok (.getfield 15, 3) := dkAa60.2.2.1
theorem dX3_held_25 : decode cX3_held 25 = .ok (.iload_n 2, 1) := dkAa60.2.2.2.1
theorem dX3_held_26 : decode cX3_held 26 = .ok (.iaload, 1) := dkAa60.2.2.2.2.1
theorem dX3_held_27 : decode cX3_held 27 = .ok (.ior, 1) := dkAa60.2.2.2.2.2.1
theorem dX3_held_28 : decode cX3_held 28 = .ok (.istore_n 1, 1) := dkAa60.2.2.2.2.2.2.1
theorem dX3_held_29 : decode cX3_held 29 = .ok (.iload_n 1, 1) := dkAa60.2.2.2.2.2.2.2.1
theorem dX3_held_30 : decode cX3_held 30 = .ok (.aload_n 0, 1) := dkAa60.2.2.2.2.2.2.2.2.1
theorem dX3_held_31 : decode cX3_held 31 = .ok (.getfield 9, 3) := dkAa60.2.2.2.2.2.2.2.2.2.1
theorem dX3_held_34 : decode cX3_held 34 = .ok (.iload_n 2, 1) := dkAa60.2.2.2.2.2.2.2.2.2.2.1
theorem dX3_held_35 : decode cX3_held 35 = .ok (.iaload, 1) := dkAa60.2.2.2.2.2.2.2.2.2.2.2
set_option maxRecDepth 100000 in
theorem dkAa61 : decode cX3_held 36 = .ok (.invokestatic 62, 3) ∧ decode cX3_held 39 = .ok (.ifCond .eq 14, 3) ∧ decode cX3_held 42 = .ok (.iconst 1, 1) ∧ decode cX3_held 43 = .ok (.aload_n 0, 1) ∧ decode cX3_held 44 = .ok (.getfield 9, 3) ∧ decode cX3_held 47 = .ok (.iload_n 2, 1) ∧ decode cX3_held 48 = .ok (.iaload, 1) ∧ decode cX3_held 49 = .ok (.ishl, 1) ∧ decode cX3_held 50 = .ok (.goto 4, 3) ∧ decode cX3_held 53 = .ok (.iconst 0, 1) ∧ decode cX3_held 54 = .ok (.ior, 1) ∧ decode cX3_held 55 = .ok (.istore_n 1, 1) := by decide +kernel
theorem dX3_held_36 : decode cX3_held 36 = .ok (.invokestatic 62, 3) := dkAa61.1
theorem dX3_held_39 : decode cX3_held 39 = .ok (.ifCond .eq 14, 3) := dkAa61.2.1
theorem dX3_held_42 : decode cX3_held 42 = .ok (.iconst 1, 1) := dkAa61.2.2.1
theorem dX3_held_43 : decode cX3_held 43 = .ok (.aload_n 0, 1) := dkAa61.2.2.2.1
theorem dX3_held_44 : decode cX3_held 44 = .ok (.getfield 9, 3) := dkAa61.2.2.2.2.1
theorem dX3_held_47 : decode cX3_held 47 = .ok (.iload_n 2, 1) := dkAa61.2.2.2.2.2.1
theorem dX3_held_48 : decode cX3_held 48 = .ok (.iaload, 1) := dkAa61.2.2.2.2.2.2.1
theorem dX3_held_49 : decode cX3_held 49 = .ok (.ishl, 1) := dkAa61.2.2.2.2.2.2.2.1
theorem dX3_held_50 : decode cX3_held 50 = .ok (.goto 4, 3) := dkAa61.2.2.2.2.2.2.2.2.1
theorem dX3_held_53 : decode cX3_held 53 = .ok (.iconst 0, 1) := dkAa61.2.2.2.2.2.2.2.2.2.1
theorem dX3_held_54 : decode cX3_held 54 = .ok (.ior, 1) := dkAa61.2.2.2.2.2.2.2.2.2.2.1
theorem dX3_held_55 : decode cX3_held 55 = .ok (.istore_n 1, 1) := dkAa61.2.2.2.2.2.2.2.2.2.2.2
set_option maxRecDepth 100000 in
theorem dkAa62 : decode cX3_held 56 = .ok (.iinc 2 1, 3) ∧ decode cX3_held 59 = .ok (.goto (-55), 3) ∧ decode cX3_held 62 = .ok (.iload_n 1, 1) ∧ decode cX3_held 63 = .ok (.ireturn, 1) := by decide +kernel
theorem dX3_held_56 : decode cX3_held 56 = .ok (.iinc 2 1, 3) := dkAa62.1
theorem dX3_held_59 : decode cX3_held 59 = .ok (.goto (-55), 3) := dkAa62.2.1
theorem dX3_held_62 : decode cX3_held 62 = .ok (.iload_n 1, 1) := dkAa62.2.2.1
theorem dX3_held_63 : decode cX3_held 63 = .ok (.ireturn, 1) := dkAa62.2.2.2
set_option maxRecDepth 100000 in
theorem dkAa63 : decode cX3_userOf 0 = .ok (.iconst 0, 1) ∧ decode cX3_userOf 1 = .ok (.istore_n 2, 1) ∧ decode cX3_userOf 2 = .ok (.iload_n 2, 1) ∧ decode cX3_userOf 3 = .ok (.aload_n 0, 1) ∧ decode cX3_userOf 4 = .ok (.getfield 36, 3) ∧ decode cX3_userOf 7 = .ok (.if_icmp .ge 29, 3) ∧ decode cX3_userOf 10 = .ok (.aload_n 0, 1) ∧ decode cX3_userOf 11 = .ok (.iload_n 2, 1) ∧ decode cX3_userOf 12 = .ok (.invokevirtual 59, 3) ∧ decode cX3_userOf 15 = .ok (.ifCond .eq 15, 3) ∧ decode cX3_userOf 18 = .ok (.aload_n 0, 1) ∧ decode cX3_userOf 19 = .ok (.getfield 9, 3) := by decide +kernel
theorem dX3_userOf_0 : decode cX3_userOf 0 = .ok (.iconst 0, 1) := dkAa63.1
theorem dX3_userOf_1 : decode cX3_userOf 1 = .ok (.istore_n 2, 1) := dkAa63.2.1
theorem dX3_userOf_2 : decode cX3_userOf 2 = .ok (.iload_n 2, 1) := dkAa63.2.2.1
theorem dX3_userOf_3 : decode cX3_userOf 3 = .ok (.aload_n 0, 1) := dkAa63.2.2.2.1
theorem dX3_userOf_4 : decode cX3_userOf 4 = .ok (.getfield 36, 3) := dkAa63.2.2.2.2.1
theorem dX3_userOf_7 : decode cX3_userOf 7 = .ok (.if_icmp .ge 29, 3) := dkAa63.2.2.2.2.2.1
theorem dX3_userOf_10 : decode cX3_userOf 10 = .ok (.aload_n 0, 1) := dkAa63.2.2.2.2.2.2.1
theorem dX3_userOf_11 : decode cX3_userOf 11 = .ok (.iload_n 2, 1) := dkAa63.2.2.2.2.2.2.2.1
theorem dX3_userOf_12 : decode cX3_userOf 12 = .ok (.invokevirtual 59, 3) := dkAa63.2.2.2.2.2.2.2.2.1
theorem dX3_userOf_15 : decode cX3_userOf 15 = .ok (.ifCond .eq 15, 3) := dkAa63.2.2.2.2.2.2.2.2.2.1
theorem dX3_userOf_18 : decode cX3_userOf 18 = .ok (.aload_n 0, 1) := dkAa63.2.2.2.2.2.2.2.2.2.2.1
theorem dX3_userOf_19 : decode cX3_userOf 19 = .ok (.getfield 9, 3) := dkAa63.2.2.2.2.2.2.2.2.2.2.2
set_option maxRecDepth 100000 in
theorem dkAa64 : decode cX3_userOf 22 = .ok (.iload_n 2, 1) ∧ decode cX3_userOf 23 = .ok (.iaload, 1) ∧ decode cX3_userOf 24 = .ok (.iload_n 1, 1) ∧ decode cX3_userOf 25 = .ok (.if_icmp .ne 5, 3) ∧ decode cX3_userOf 28 = .ok (.iload_n 2, 1) ∧ decode cX3_userOf 29 = .ok (.ireturn, 1) ∧ decode cX3_userOf 30 = .ok (.iinc 2 1, 3) ∧ decode cX3_userOf 33 = .ok (.goto (-31), 3) ∧ decode cX3_userOf 36 = .ok (.iconst (-1), 1) ∧ decode cX3_userOf 37 = .ok (.ireturn, 1) := by decide +kernel
theorem dX3_userOf_22 : decode cX3_userOf 22 = .ok (.iload_n 2, 1) := dkAa64.1
theorem dX3_userOf_23 : decode cX3_userOf 23 = .ok (.iaload, 1) := dkAa64.2.1
theorem dX3_userOf_24 : decode cX3_userOf 24 = .ok (.iload_n 1, 1) := dkAa64.2.2.1
theorem dX3_userOf_25 : decode cX3_userOf 25 = .ok (.if_icmp .ne 5, 3) := dkAa64.2.2.2.1
theorem dX3_userOf_28 : decode cX3_userOf 28 = .ok (.iload_n 2, 1) := dkAa64.2.2.2.2.1
theorem dX3_userOf_29 : decode cX3_userOf 29 = .ok (.ireturn, 1) := dkAa64.2.2.2.2.2.1
theorem dX3_userOf_30 : decode cX3_userOf 30 = .ok (.iinc 2 1, 3) := dkAa64.2.2.2.2.2.2.1
theorem dX3_userOf_33 : decode cX3_userOf 33 = .ok (.goto (-31), 3) := dkAa64.2.2.2.2.2.2.2.1
theorem dX3_userOf_36 : decode cX3_userOf 36 = .ok (.iconst (-1), 1) := dkAa64.2.2.2.2.2.2.2.2.1
theorem dX3_userOf_37 : decode cX3_userOf 37 = .ok (.ireturn, 1) := dkAa64.2.2.2.2.2.2.2.2.2
set_option maxRecDepth 100000 in
theorem dkAa65 : decode cX3_usersOf 0 = .ok (.iconst 0, 1) ∧ decode cX3_usersOf 1 = .ok (.istore_n 2, 1) ∧ decode cX3_usersOf 2 = .ok (.iconst 0, 1) ∧ decode cX3_usersOf 3 = .ok (.istore_n 3, 1) ∧ decode cX3_usersOf 4 = .ok (.iload_n 3, 1) ∧ decode cX3_usersOf 5 = .ok (.aload_n 0, 1) ∧ decode cX3_usersOf 6 = .ok (.getfield 36, 3) ∧ decode cX3_usersOf 9 = .ok (.if_icmp .ge 36, 3) ∧ decode cX3_usersOf 12 = .ok (.aload_n 0, 1) ∧ decode cX3_usersOf 13 = .ok (.iload_n 3, 1) ∧ decode cX3_usersOf 14 = .ok (.invokevirtual 59, 3) ∧ decode cX3_usersOf 17 = .ok (.ifCond .eq 22, 3) := by decide +kernel
theorem dX3_usersOf_0 : decode cX3_usersOf 0 = .ok (.iconst 0, 1) := dkAa65.1
theorem dX3_usersOf_1 : decode cX3_usersOf 1 = .ok (.istore_n 2, 1) := dkAa65.2.1
theorem dX3_usersOf_2 : decode cX3_usersOf 2 = .ok (.iconst 0, 1) := dkAa65.2.2.1
theorem dX3_usersOf_3 : decode cX3_usersOf 3 = .ok (.istore_n 3, 1) := dkAa65.2.2.2.1
theorem dX3_usersOf_4 : decode cX3_usersOf 4 = .ok (.iload_n 3, 1) := dkAa65.2.2.2.2.1
theorem dX3_usersOf_5 : decode cX3_usersOf 5 = .ok (.aload_n 0, 1) := dkAa65.2.2.2.2.2.1
theorem dX3_usersOf_6 : decode cX3_usersOf 6 = .ok (.getfield 36, 3) := dkAa65.2.2.2.2.2.2.1
theorem dX3_usersOf_9 : decode cX3_usersOf 9 = .ok (.if_icmp .ge 36, 3) := dkAa65.2.2.2.2.2.2.2.1
theorem dX3_usersOf_12 : decode cX3_usersOf 12 = .ok (.aload_n 0, 1) := dkAa65.2.2.2.2.2.2.2.2.1
theorem dX3_usersOf_13 : decode cX3_usersOf 13 = .ok (.iload_n 3, 1) := dkAa65.2.2.2.2.2.2.2.2.2.1
theorem dX3_usersOf_14 : decode cX3_usersOf 14 = .ok (.invokevirtual 59, 3) := dkAa65.2.2.2.2.2.2.2.2.2.2.1
theorem dX3_usersOf_17 : decode cX3_usersOf 17 = .ok (.ifCond .eq 22, 3) := dkAa65.2.2.2.2.2.2.2.2.2.2.2
set_option maxRecDepth 100000 in
theorem dkAa66 : decode cX3_usersOf 20 = .ok (.iload_n 1, 1) ∧ decode cX3_usersOf 21 = .ok (.aload_n 0, 1) ∧ decode cX3_usersOf 22 = .ok (.getfield 9, 3) ∧ decode cX3_usersOf 25 = .ok (.iload_n 3, 1) ∧ decode cX3_usersOf 26 = .ok (.iaload, 1) ∧ decode cX3_usersOf 27 = .ok (.invokestatic 65, 3) ∧ decode cX3_usersOf 30 = .ok (.ifCond .eq 9, 3) ∧ decode cX3_usersOf 33 = .ok (.iload_n 2, 1) ∧ decode cX3_usersOf 34 = .ok (.iconst 1, 1) ∧ decode cX3_usersOf 35 = .ok (.iload_n 3, 1) ∧ decode cX3_usersOf 36 = .ok (.ishl, 1) ∧ decode cX3_usersOf 37 = .ok (.ior, 1) := by decide +kernel
theorem dX3_usersOf_20 : decode cX3_usersOf 20 = .ok (.iload_n 1, 1) := dkAa66.1
theorem dX3_usersOf_21 : decode cX3_usersOf 21 = .ok (.aload_n 0, 1) := dkAa66.2.1
theorem dX3_usersOf_22 : decode cX3_usersOf 22 = .ok (.getfield 9, 3) := dkAa66.2.2.1
theorem dX3_usersOf_25 : decode cX3_usersOf 25 = .ok (.iload_n 3, 1) := dkAa66.2.2.2.1
theorem dX3_usersOf_26 : decode cX3_usersOf 26 = .ok (.iaload, 1) := dkAa66.2.2.2.2.1
theorem dX3_usersOf_27 : decode cX3_usersOf 27 = .ok (.invokestatic 65, 3) := dkAa66.2.2.2.2.2.1
theorem dX3_usersOf_30 : decode cX3_usersOf 30 = .ok (.ifCond .eq 9, 3) := dkAa66.2.2.2.2.2.2.1
theorem dX3_usersOf_33 : decode cX3_usersOf 33 = .ok (.iload_n 2, 1) := dkAa66.2.2.2.2.2.2.2.1
theorem dX3_usersOf_34 : decode cX3_usersOf 34 = .ok (.iconst 1, 1) := dkAa66.2.2.2.2.2.2.2.2.1
theorem dX3_usersOf_35 : decode cX3_usersOf 35 = .ok (.iload_n 3, 1) := dkAa66.2.2.2.2.2.2.2.2.2.1
theorem dX3_usersOf_36 : decode cX3_usersOf 36 = .ok (.ishl, 1) := dkAa66.2.2.2.2.2.2.2.2.2.2.1
theorem dX3_usersOf_37 : decode cX3_usersOf 37 = .ok (.ior, 1) := dkAa66.2.2.2.2.2.2.2.2.2.2.2
set_option maxRecDepth 100000 in
theorem dkAa67 : decode cX3_usersOf 38 = .ok (.istore_n 2, 1) ∧ decode cX3_usersOf 39 = .ok (.iinc 3 1, 3) ∧ decode cX3_usersOf 42 = .ok (.goto (-38), 3) ∧ decode cX3_usersOf 45 = .ok (.iload_n 2, 1) ∧ decode cX3_usersOf 46 = .ok (.ireturn, 1) := by decide +kernel
theorem dX3_usersOf_38 : decode cX3_usersOf 38 = .ok (.istore_n 2, 1) := dkAa67.1
theorem dX3_usersOf_39 : decode cX3_usersOf 39 = .ok (.iinc 3 1, 3) := dkAa67.2.1
theorem dX3_usersOf_42 : decode cX3_usersOf 42 = .ok (.goto (-38), 3) := dkAa67.2.2.1
theorem dX3_usersOf_45 : decode cX3_usersOf 45 = .ok (.iload_n 2, 1) := dkAa67.2.2.2.1
theorem dX3_usersOf_46 : decode cX3_usersOf 46 = .ok (.ireturn, 1) := dkAa67.2.2.2.2
set_option maxRecDepth 100000 in
theorem dkAa68 : decode cX3_bury 0 = .ok (.aload_n 0, 1) ∧ decode cX3_bury 1 = .ok (.iload_n 1, 1) ∧ decode cX3_bury 2 = .ok (.invokevirtual 59, 3) ∧ decode cX3_bury 5 = .ok (.ifCond .ne 5, 3) ∧ decode cX3_bury 8 = .ok (.iconst (-1), 1) ∧ decode cX3_bury 9 = .ok (.ireturn, 1) ∧ decode cX3_bury 10 = .ok (.aload_n 0, 1) ∧ decode cX3_bury 11 = .ok (.getfield 9, 3) ∧ decode cX3_bury 14 = .ok (.iload_n 1, 1) ∧ decode cX3_bury 15 = .ok (.iaload, 1) ∧ decode cX3_bury 16 = .ok (.istore_n 2, 1) ∧ decode cX3_bury 17 = .ok (.aload_n 0, 1) := by decide +kernel
theorem dX3_bury_0 : decode cX3_bury 0 = .ok (.aload_n 0, 1) := dkAa68.1
theorem dX3_bury_1 : decode cX3_bury 1 = .ok (.iload_n 1, 1) := dkAa68.2.1
theorem dX3_bury_2 : decode cX3_bury 2 = .ok (.invokevirtual 59, 3) := dkAa68.2.2.1
theorem dX3_bury_5 : decode cX3_bury 5 = .ok (.ifCond .ne 5, 3) := dkAa68.2.2.2.1
theorem dX3_bury_8 : decode cX3_bury 8 = .ok (.iconst (-1), 1) := dkAa68.2.2.2.2.1
theorem dX3_bury_9 : decode cX3_bury 9 = .ok (.ireturn, 1) := dkAa68.2.2.2.2.2.1
theorem dX3_bury_10 : decode cX3_bury 10 = .ok (.aload_n 0, 1) := dkAa68.2.2.2.2.2.2.1
theorem dX3_bury_11 : decode cX3_bury 11 = .ok (.getfield 9, 3) := dkAa68.2.2.2.2.2.2.2.1
theorem dX3_bury_14 : decode cX3_bury 14 = .ok (.iload_n 1, 1) := dkAa68.2.2.2.2.2.2.2.2.1
theorem dX3_bury_15 : decode cX3_bury 15 = .ok (.iaload, 1) := dkAa68.2.2.2.2.2.2.2.2.2.1
theorem dX3_bury_16 : decode cX3_bury 16 = .ok (.istore_n 2, 1) := dkAa68.2.2.2.2.2.2.2.2.2.2.1
theorem dX3_bury_17 : decode cX3_bury 17 = .ok (.aload_n 0, 1) := dkAa68.2.2.2.2.2.2.2.2.2.2.2
set_option maxRecDepth 100000 in
theorem dkAa69 : decode cX3_bury 18 = .ok (.getfield 15, 3) ∧ decode cX3_bury 21 = .ok (.iload_n 1, 1) ∧ decode cX3_bury 22 = .ok (.iaload, 1) ∧ decode cX3_bury 23 = .ok (.istore_n 3, 1) ∧ decode cX3_bury 24 = .ok (.aload_n 0, 1) ∧ decode cX3_bury 25 = .ok (.dup, 1) ∧ decode cX3_bury 26 = .ok (.getfield 39, 3) ∧ decode cX3_bury 29 = .ok (.iconst 1, 1) ∧ decode cX3_bury 30 = .ok (.iload_n 1, 1) ∧ decode cX3_bury 31 = .ok (.ishl, 1) ∧ decode cX3_bury 32 = .ok (.iconst (-1), 1) ∧ decode cX3_bury 33 = .ok (.ixor, 1) := by decide +kernel
theorem dX3_bury_18 : decode cX3_bury 18 = .ok (.getfield 15, 3) := dkAa69.1
theorem dX3_bury_21 : decode cX3_bury 21 = .ok (.iload_n 1, 1) := dkAa69.2.1
theorem dX3_bury_22 : decode cX3_bury 22 = .ok (.iaload, 1) := dkAa69.2.2.1
theorem dX3_bury_23 : decode cX3_bury 23 = .ok (.istore_n 3, 1) := dkAa69.2.2.2.1
theorem dX3_bury_24 : decode cX3_bury 24 = .ok (.aload_n 0, 1) := dkAa69.2.2.2.2.1
theorem dX3_bury_25 : decode cX3_bury 25 = .ok (.dup, 1) := dkAa69.2.2.2.2.2.1
theorem dX3_bury_26 : decode cX3_bury 26 = .ok (.getfield 39, 3) := dkAa69.2.2.2.2.2.2.1
theorem dX3_bury_29 : decode cX3_bury 29 = .ok (.iconst 1, 1) := dkAa69.2.2.2.2.2.2.2.1
theorem dX3_bury_30 : decode cX3_bury 30 = .ok (.iload_n 1, 1) := dkAa69.2.2.2.2.2.2.2.2.1
theorem dX3_bury_31 : decode cX3_bury 31 = .ok (.ishl, 1) := dkAa69.2.2.2.2.2.2.2.2.2.1
theorem dX3_bury_32 : decode cX3_bury 32 = .ok (.iconst (-1), 1) := dkAa69.2.2.2.2.2.2.2.2.2.2.1
theorem dX3_bury_33 : decode cX3_bury 33 = .ok (.ixor, 1) := dkAa69.2.2.2.2.2.2.2.2.2.2.2
set_option maxRecDepth 100000 in
theorem dkAa70 : decode cX3_bury 34 = .ok (.iand, 1) ∧ decode cX3_bury 35 = .ok (.putfield 39, 3) ∧ decode cX3_bury 38 = .ok (.aload_n 0, 1) ∧ decode cX3_bury 39 = .ok (.getfield 9, 3) ∧ decode cX3_bury 42 = .ok (.iload_n 1, 1) ∧ decode cX3_bury 43 = .ok (.bipush 9, 2) ∧ decode cX3_bury 45 = .ok (.iastore, 1) ∧ decode cX3_bury 46 = .ok (.aload_n 0, 1) ∧ decode cX3_bury 47 = .ok (.getfield 15, 3) ∧ decode cX3_bury 50 = .ok (.iload_n 1, 1) ∧ decode cX3_bury 51 = .ok (.iconst 0, 1) ∧ decode cX3_bury 52 = .ok (.iastore, 1) := by decide +kernel
theorem dX3_bury_34 : decode cX3_bury 34 = .ok (.iand, 1) := dkAa70.1
theorem dX3_bury_35 : decode cX3_bury 35 = .ok (.putfield 39, 3) := dkAa70.2.1
theorem dX3_bury_38 : decode cX3_bury 38 = .ok (.aload_n 0, 1) := dkAa70.2.2.1
theorem dX3_bury_39 : decode cX3_bury 39 = .ok (.getfield 9, 3) := dkAa70.2.2.2.1
theorem dX3_bury_42 : decode cX3_bury 42 = .ok (.iload_n 1, 1) := dkAa70.2.2.2.2.1
theorem dX3_bury_43 : decode cX3_bury 43 = .ok (.bipush 9, 2) := dkAa70.2.2.2.2.2.1
theorem dX3_bury_45 : decode cX3_bury 45 = .ok (.iastore, 1) := dkAa70.2.2.2.2.2.2.1
theorem dX3_bury_46 : decode cX3_bury 46 = .ok (.aload_n 0, 1) := dkAa70.2.2.2.2.2.2.2.1
theorem dX3_bury_47 : decode cX3_bury 47 = .ok (.getfield 15, 3) := dkAa70.2.2.2.2.2.2.2.2.1
theorem dX3_bury_50 : decode cX3_bury 50 = .ok (.iload_n 1, 1) := dkAa70.2.2.2.2.2.2.2.2.2.1
theorem dX3_bury_51 : decode cX3_bury 51 = .ok (.iconst 0, 1) := dkAa70.2.2.2.2.2.2.2.2.2.2.1
theorem dX3_bury_52 : decode cX3_bury 52 = .ok (.iastore, 1) := dkAa70.2.2.2.2.2.2.2.2.2.2.2
set_option maxRecDepth 100000 in
theorem dkAa71 : decode cX3_bury 53 = .ok (.aload_n 0, 1) ∧ decode cX3_bury 54 = .ok (.dup, 1) ∧ decode cX3_bury 55 = .ok (.getfield 42, 3) ∧ decode cX3_bury 58 = .ok (.iconst 1, 1) ∧ decode cX3_bury 59 = .ok (.iadd, 1) ∧ decode cX3_bury 60 = .ok (.putfield 42, 3) ∧ decode cX3_bury 63 = .ok (.iconst (-1), 1) ∧ decode cX3_bury 64 = .ok (.istore 4, 2) ∧ decode cX3_bury 66 = .ok (.iload_n 2, 1) ∧ decode cX3_bury 67 = .ok (.bipush 9, 2) ∧ decode cX3_bury 69 = .ok (.if_icmp .eq 28, 3) ∧ decode cX3_bury 72 = .ok (.aload_n 0, 1) := by decide +kernel
theorem dX3_bury_53 : decode cX3_bury 53 = .ok (.aload_n 0, 1) := dkAa71.1
theorem dX3_bury_54 : decode cX3_bury 54 = .ok (.dup, 1) := dkAa71.2.1
theorem dX3_bury_55 : decode cX3_bury 55 = .ok (.getfield 42, 3) := dkAa71.2.2.1
theorem dX3_bury_58 : decode cX3_bury 58 = .ok (.iconst 1, 1) := dkAa71.2.2.2.1
theorem dX3_bury_59 : decode cX3_bury 59 = .ok (.iadd, 1) := dkAa71.2.2.2.2.1
theorem dX3_bury_60 : decode cX3_bury 60 = .ok (.putfield 42, 3) := dkAa71.2.2.2.2.2.1
theorem dX3_bury_63 : decode cX3_bury 63 = .ok (.iconst (-1), 1) := dkAa71.2.2.2.2.2.2.1
theorem dX3_bury_64 : decode cX3_bury 64 = .ok (.istore 4, 2) := dkAa71.2.2.2.2.2.2.2.1
theorem dX3_bury_66 : decode cX3_bury 66 = .ok (.iload_n 2, 1) := dkAa71.2.2.2.2.2.2.2.2.1
theorem dX3_bury_67 : decode cX3_bury 67 = .ok (.bipush 9, 2) := dkAa71.2.2.2.2.2.2.2.2.2.1
theorem dX3_bury_69 : decode cX3_bury 69 = .ok (.if_icmp .eq 28, 3) := dkAa71.2.2.2.2.2.2.2.2.2.2.1
theorem dX3_bury_72 : decode cX3_bury 72 = .ok (.aload_n 0, 1) := dkAa71.2.2.2.2.2.2.2.2.2.2.2
set_option maxRecDepth 100000 in
theorem dkAa72 : decode cX3_bury 73 = .ok (.aload_n 0, 1) ∧ decode cX3_bury 74 = .ok (.getfield 18, 3) ∧ decode cX3_bury 77 = .ok (.iload_n 1, 1) ∧ decode cX3_bury 78 = .ok (.iaload, 1) ∧ decode cX3_bury 79 = .ok (.aload_n 0, 1) ∧ decode cX3_bury 80 = .ok (.getfield 21, 3) ∧ decode cX3_bury 83 = .ok (.iload_n 1, 1) ∧ decode cX3_bury 84 = .ok (.iaload, 1) ∧ decode cX3_bury 85 = .ok (.invokevirtual 69, 3) ∧ decode cX3_bury 88 = .ok (.istore 4, 2) ∧ decode cX3_bury 90 = .ok (.aload_n 0, 1) ∧ decode cX3_bury 91 = .ok (.iload 4, 2) := by decide +kernel
theorem dX3_bury_73 : decode cX3_bury 73 = .ok (.aload_n 0, 1) := dkAa72.1
theorem dX3_bury_74 : decode cX3_bury 74 = .ok (.getfield 18, 3) := dkAa72.2.1
theorem dX3_bury_77 : decode cX3_bury 77 = .ok (.iload_n 1, 1) := dkAa72.2.2.1
theorem dX3_bury_78 : decode cX3_bury 78 = .ok (.iaload, 1) := dkAa72.2.2.2.1
theorem dX3_bury_79 : decode cX3_bury 79 = .ok (.aload_n 0, 1) := dkAa72.2.2.2.2.1
theorem dX3_bury_80 : decode cX3_bury 80 = .ok (.getfield 21, 3) := dkAa72.2.2.2.2.2.1
theorem dX3_bury_83 : decode cX3_bury 83 = .ok (.iload_n 1, 1) := dkAa72.2.2.2.2.2.2.1
theorem dX3_bury_84 : decode cX3_bury 84 = .ok (.iaload, 1) := dkAa72.2.2.2.2.2.2.2.1
theorem dX3_bury_85 : decode cX3_bury 85 = .ok (.invokevirtual 69, 3) := dkAa72.2.2.2.2.2.2.2.2.1
theorem dX3_bury_88 : decode cX3_bury 88 = .ok (.istore 4, 2) := dkAa72.2.2.2.2.2.2.2.2.2.1
theorem dX3_bury_90 : decode cX3_bury 90 = .ok (.aload_n 0, 1) := dkAa72.2.2.2.2.2.2.2.2.2.2.1
theorem dX3_bury_91 : decode cX3_bury 91 = .ok (.iload 4, 2) := dkAa72.2.2.2.2.2.2.2.2.2.2.2
set_option maxRecDepth 100000 in
theorem dkAa73 : decode cX3_bury 93 = .ok (.iload_n 2, 1) ∧ decode cX3_bury 94 = .ok (.invokevirtual 72, 3) ∧ decode cX3_bury 97 = .ok (.iconst 0, 1) ∧ decode cX3_bury 98 = .ok (.istore 5, 2) ∧ decode cX3_bury 100 = .ok (.iload 5, 2) ∧ decode cX3_bury 102 = .ok (.bipush 7, 2) ∧ decode cX3_bury 104 = .ok (.if_icmp .ge 35, 3) ∧ decode cX3_bury 107 = .ok (.iload_n 3, 1) ∧ decode cX3_bury 108 = .ok (.ifCond .eq 31, 3) ∧ decode cX3_bury 111 = .ok (.iload_n 3, 1) ∧ decode cX3_bury 112 = .ok (.iload 5, 2) ∧ decode cX3_bury 114 = .ok (.invokestatic 65, 3) := by decide +kernel
theorem dX3_bury_93 : decode cX3_bury 93 = .ok (.iload_n 2, 1) := dkAa73.1
theorem dX3_bury_94 : decode cX3_bury 94 = .ok (.invokevirtual 72, 3) := dkAa73.2.1
theorem dX3_bury_97 : decode cX3_bury 97 = .ok (.iconst 0, 1) := dkAa73.2.2.1
theorem dX3_bury_98 : decode cX3_bury 98 = .ok (.istore 5, 2) := dkAa73.2.2.2.1
theorem dX3_bury_100 : decode cX3_bury 100 = .ok (.iload 5, 2) := dkAa73.2.2.2.2.1
theorem dX3_bury_102 : decode cX3_bury 102 = .ok (.bipush 7, 2) := dkAa73.2.2.2.2.2.1
theorem dX3_bury_104 : decode cX3_bury 104 = .ok (.if_icmp .ge 35, 3) := dkAa73.2.2.2.2.2.2.1
theorem dX3_bury_107 : decode cX3_bury 107 = .ok (.iload_n 3, 1) := dkAa73.2.2.2.2.2.2.2.1
theorem dX3_bury_108 : decode cX3_bury 108 = .ok (.ifCond .eq 31, 3) := dkAa73.2.2.2.2.2.2.2.2.1
theorem dX3_bury_111 : decode cX3_bury 111 = .ok (.iload_n 3, 1) := dkAa73.2.2.2.2.2.2.2.2.2.1
theorem dX3_bury_112 : decode cX3_bury 112 = .ok (.iload 5, 2) := dkAa73.2.2.2.2.2.2.2.2.2.2.1
theorem dX3_bury_114 : decode cX3_bury 114 = .ok (.invokestatic 65, 3) := dkAa73.2.2.2.2.2.2.2.2.2.2.2
set_option maxRecDepth 100000 in
theorem dkAa74 : decode cX3_bury 117 = .ok (.ifCond .eq 16, 3) ∧ decode cX3_bury 120 = .ok (.aload_n 0, 1) ∧ decode cX3_bury 121 = .ok (.aload_n 0, 1) ∧ decode cX3_bury 122 = .ok (.invokevirtual 76, 3) ∧ decode cX3_bury 125 = .ok (.invokestatic 80, 3) ∧ decode cX3_bury 128 = .ok (.iload 5, 2) ∧ decode cX3_bury 130 = .ok (.invokevirtual 72, 3) ∧ decode cX3_bury 133 = .ok (.iinc 5 1, 3) ∧ decode cX3_bury 136 = .ok (.goto (-36), 3) ∧ decode cX3_bury 139 = .ok (.iload 4, 2) ∧ decode cX3_bury 141 = .ok (.ireturn, 1) := by decide +kernel
theorem dX3_bury_117 : decode cX3_bury 117 = .ok (.ifCond .eq 16, 3) := dkAa74.1
theorem dX3_bury_120 : decode cX3_bury 120 = .ok (.aload_n 0, 1) := dkAa74.2.1
theorem dX3_bury_121 : decode cX3_bury 121 = .ok (.aload_n 0, 1) := dkAa74.2.2.1
theorem dX3_bury_122 : decode cX3_bury 122 = .ok (.invokevirtual 76, 3) := dkAa74.2.2.2.1
theorem dX3_bury_125 : decode cX3_bury 125 = .ok (.invokestatic 80, 3) := dkAa74.2.2.2.2.1
theorem dX3_bury_128 : decode cX3_bury 128 = .ok (.iload 5, 2) := dkAa74.2.2.2.2.2.1
theorem dX3_bury_130 : decode cX3_bury 130 = .ok (.invokevirtual 72, 3) := dkAa74.2.2.2.2.2.2.1
theorem dX3_bury_133 : decode cX3_bury 133 = .ok (.iinc 5 1, 3) := dkAa74.2.2.2.2.2.2.2.1
theorem dX3_bury_136 : decode cX3_bury 136 = .ok (.goto (-36), 3) := dkAa74.2.2.2.2.2.2.2.2.1
theorem dX3_bury_139 : decode cX3_bury 139 = .ok (.iload 4, 2) := dkAa74.2.2.2.2.2.2.2.2.2.1
theorem dX3_bury_141 : decode cX3_bury 141 = .ok (.ireturn, 1) := dkAa74.2.2.2.2.2.2.2.2.2.2
set_option maxRecDepth 100000 in
theorem dkAa75 : decode cX3_firstAlive 0 = .ok (.aload_n 0, 1) ∧ decode cX3_firstAlive 1 = .ok (.iload_n 1, 1) ∧ decode cX3_firstAlive 2 = .ok (.invokevirtual 59, 3) ∧ decode cX3_firstAlive 5 = .ok (.ifCond .eq 5, 3) ∧ decode cX3_firstAlive 8 = .ok (.iload_n 1, 1) ∧ decode cX3_firstAlive 9 = .ok (.ireturn, 1) ∧ decode cX3_firstAlive 10 = .ok (.aload_n 0, 1) ∧ decode cX3_firstAlive 11 = .ok (.iload_n 2, 1) ∧ decode cX3_firstAlive 12 = .ok (.invokevirtual 59, 3) ∧ decode cX3_firstAlive 15 = .ok (.ifCond .eq 7, 3) ∧ decode cX3_firstAlive 18 = .ok (.iload_n 2, 1) ∧ decode cX3_firstAlive 19 = .ok (.goto 10, 3) := by decide +kernel
theorem dX3_firstAlive_0 : decode cX3_firstAlive 0 = .ok (.aload_n 0, 1) := dkAa75.1
theorem dX3_firstAlive_1 : decode cX3_firstAlive 1 = .ok (.iload_n 1, 1) := dkAa75.2.1
theorem dX3_firstAlive_2 : decode cX3_firstAlive 2 = .ok (.invokevirtual 59, 3) := dkAa75.2.2.1
theorem dX3_firstAlive_5 : decode cX3_firstAlive 5 = .ok (.ifCond .eq 5, 3) := dkAa75.2.2.2.1
theorem dX3_firstAlive_8 : decode cX3_firstAlive 8 = .ok (.iload_n 1, 1) := dkAa75.2.2.2.2.1
theorem dX3_firstAlive_9 : decode cX3_firstAlive 9 = .ok (.ireturn, 1) := dkAa75.2.2.2.2.2.1
theorem dX3_firstAlive_10 : decode cX3_firstAlive 10 = .ok (.aload_n 0, 1) := dkAa75.2.2.2.2.2.2.1
theorem dX3_firstAlive_11 : decode cX3_firstAlive 11 = .ok (.iload_n 2, 1) := dkAa75.2.2.2.2.2.2.2.1
theorem dX3_firstAlive_12 : decode cX3_firstAlive 12 = .ok (.invokevirtual 59, 3) := dkAa75.2.2.2.2.2.2.2.2.1
theorem dX3_firstAlive_15 : decode cX3_firstAlive 15 = .ok (.ifCond .eq 7, 3) := dkAa75.2.2.2.2.2.2.2.2.2.1
theorem dX3_firstAlive_18 : decode cX3_firstAlive 18 = .ok (.iload_n 2, 1) := dkAa75.2.2.2.2.2.2.2.2.2.2.1
theorem dX3_firstAlive_19 : decode cX3_firstAlive 19 = .ok (.goto 10, 3) := dkAa75.2.2.2.2.2.2.2.2.2.2.2
set_option maxRecDepth 100000 in
theorem dkAa76 : decode cX3_firstAlive 22 = .ok (.aload_n 0, 1) ∧ decode cX3_firstAlive 23 = .ok (.invokevirtual 76, 3) ∧ decode cX3_firstAlive 26 = .ok (.invokestatic 80, 3) ∧ decode cX3_firstAlive 29 = .ok (.ireturn, 1) := by decide +kernel
theorem dX3_firstAlive_22 : decode cX3_firstAlive 22 = .ok (.aload_n 0, 1) := dkAa76.1
theorem dX3_firstAlive_23 : decode cX3_firstAlive 23 = .ok (.invokevirtual 76, 3) := dkAa76.2.1
theorem dX3_firstAlive_26 : decode cX3_firstAlive 26 = .ok (.invokestatic 80, 3) := dkAa76.2.2.1
theorem dX3_firstAlive_29 : decode cX3_firstAlive 29 = .ok (.ireturn, 1) := dkAa76.2.2.2
set_option maxRecDepth 100000 in
theorem dkAa77 : decode cX3_give 0 = .ok (.aload_n 0, 1) ∧ decode cX3_give 1 = .ok (.iload_n 1, 1) ∧ decode cX3_give 2 = .ok (.invokevirtual 59, 3) ∧ decode cX3_give 5 = .ok (.ifCond .eq 39, 3) ∧ decode cX3_give 8 = .ok (.aload_n 0, 1) ∧ decode cX3_give 9 = .ok (.getfield 9, 3) ∧ decode cX3_give 12 = .ok (.iload_n 1, 1) ∧ decode cX3_give 13 = .ok (.iaload, 1) ∧ decode cX3_give 14 = .ok (.invokestatic 62, 3) ∧ decode cX3_give 17 = .ok (.ifCond .eq 20, 3) ∧ decode cX3_give 20 = .ok (.aload_n 0, 1) ∧ decode cX3_give 21 = .ok (.getfield 15, 3) := by decide +kernel
theorem dX3_give_0 : decode cX3_give 0 = .ok (.aload_n 0, 1) := dkAa77.1
theorem dX3_give_1 : decode cX3_give 1 = .ok (.iload_n 1, 1) := dkAa77.2.1
theorem dX3_give_2 : decode cX3_give 2 = .ok (.invokevirtual 59, 3) := dkAa77.2.2.1
theorem dX3_give_5 : decode cX3_give 5 = .ok (.ifCond .eq 39, 3) := dkAa77.2.2.2.1
theorem dX3_give_8 : decode cX3_give 8 = .ok (.aload_n 0, 1) := dkAa77.2.2.2.2.1
theorem dX3_give_9 : decode cX3_give 9 = .ok (.getfield 9, 3) := dkAa77.2.2.2.2.2.1
theorem dX3_give_12 : decode cX3_give 12 = .ok (.iload_n 1, 1) := dkAa77.2.2.2.2.2.2.1
theorem dX3_give_13 : decode cX3_give 13 = .ok (.iaload, 1) := dkAa77.2.2.2.2.2.2.2.1
theorem dX3_give_14 : decode cX3_give 14 = .ok (.invokestatic 62, 3) := dkAa77.2.2.2.2.2.2.2.2.1
theorem dX3_give_17 : decode cX3_give 17 = .ok (.ifCond .eq 20, 3) := dkAa77.2.2.2.2.2.2.2.2.2.1
theorem dX3_give_20 : decode cX3_give 20 = .ok (.aload_n 0, 1) := dkAa77.2.2.2.2.2.2.2.2.2.2.1
theorem dX3_give_21 : decode cX3_give 21 = .ok (.getfield 15, 3) := dkAa77.2.2.2.2.2.2.2.2.2.2.2
set_option maxRecDepth 100000 in
theorem dkAa78 : decode cX3_give 24 = .ok (.iload_n 1, 1) ∧ decode cX3_give 25 = .ok (.dup2, 1) ∧ decode cX3_give 26 = .ok (.iaload, 1) ∧ decode cX3_give 27 = .ok (.iconst 1, 1) ∧ decode cX3_give 28 = .ok (.aload_n 0, 1) ∧ decode cX3_give 29 = .ok (.getfield 9, 3) ∧ decode cX3_give 32 = .ok (.iload_n 1, 1) ∧ decode cX3_give 33 = .ok (.iaload, 1) ∧ decode cX3_give 34 = .ok (.ishl, 1) ∧ decode cX3_give 35 = .ok (.ior, 1) ∧ decode cX3_give 36 = .ok (.iastore, 1) ∧ decode cX3_give 37 = .ok (.aload_n 0, 1) := by decide +kernel
theorem dX3_give_24 : decode cX3_give 24 = .ok (.iload_n 1, 1) := dkAa78.1
theorem dX3_give_25 : decode cX3_give 25 = .ok (.dup2, 1) := dkAa78.2.1
theorem dX3_give_26 : decode cX3_give 26 = .ok (.iaload, 1) := dkAa78.2.2.1
theorem dX3_give_27 : decode cX3_give 27 = .ok (.iconst 1, 1) := dkAa78.2.2.2.1
theorem dX3_give_28 : decode cX3_give 28 = .ok (.aload_n 0, 1) := dkAa78.2.2.2.2.1
theorem dX3_give_29 : decode cX3_give 29 = .ok (.getfield 9, 3) := dkAa78.2.2.2.2.2.1
theorem dX3_give_32 : decode cX3_give 32 = .ok (.iload_n 1, 1) := dkAa78.2.2.2.2.2.2.1
theorem dX3_give_33 : decode cX3_give 33 = .ok (.iaload, 1) := dkAa78.2.2.2.2.2.2.2.1
theorem dX3_give_34 : decode cX3_give 34 = .ok (.ishl, 1) := dkAa78.2.2.2.2.2.2.2.2.1
theorem dX3_give_35 : decode cX3_give 35 = .ok (.ior, 1) := dkAa78.2.2.2.2.2.2.2.2.2.1
theorem dX3_give_36 : decode cX3_give 36 = .ok (.iastore, 1) := dkAa78.2.2.2.2.2.2.2.2.2.2.1
theorem dX3_give_37 : decode cX3_give 37 = .ok (.aload_n 0, 1) := dkAa78.2.2.2.2.2.2.2.2.2.2.2
set_option maxRecDepth 100000 in
theorem dkAa79 : decode cX3_give 38 = .ok (.getfield 9, 3) ∧ decode cX3_give 41 = .ok (.iload_n 1, 1) ∧ decode cX3_give 42 = .ok (.iload_n 2, 1) ∧ decode cX3_give 43 = .ok (.iastore, 1) ∧ decode cX3_give 44 = .ok (.return_, 1) := by decide +kernel
theorem dX3_give_38 : decode cX3_give 38 = .ok (.getfield 9, 3) := dkAa79.1
theorem dX3_give_41 : decode cX3_give 41 = .ok (.iload_n 1, 1) := dkAa79.2.1
theorem dX3_give_42 : decode cX3_give 42 = .ok (.iload_n 2, 1) := dkAa79.2.2.1
theorem dX3_give_43 : decode cX3_give 43 = .ok (.iastore, 1) := dkAa79.2.2.2.1
theorem dX3_give_44 : decode cX3_give 44 = .ok (.return_, 1) := dkAa79.2.2.2.2
set_option maxRecDepth 100000 in
theorem dkAa80 : decode cX3_leastOf 0 = .ok (.iload_n 0, 1) ∧ decode cX3_leastOf 1 = .ok (.ifCond .ne 7, 3) ∧ decode cX3_leastOf 4 = .ok (.iconst (-1), 1) ∧ decode cX3_leastOf 5 = .ok (.goto 7, 3) ∧ decode cX3_leastOf 8 = .ok (.iload_n 0, 1) ∧ decode cX3_leastOf 9 = .ok (.invokestatic 83, 3) ∧ decode cX3_leastOf 12 = .ok (.ireturn, 1) := by decide +kernel
theorem dX3_leastOf_0 : decode cX3_leastOf 0 = .ok (.iload_n 0, 1) := dkAa80.1
theorem dX3_leastOf_1 : decode cX3_leastOf 1 = .ok (.ifCond .ne 7, 3) := dkAa80.2.1
theorem dX3_leastOf_4 : decode cX3_leastOf 4 = .ok (.iconst (-1), 1) := dkAa80.2.2.1
theorem dX3_leastOf_5 : decode cX3_leastOf 5 = .ok (.goto 7, 3) := dkAa80.2.2.2.1
theorem dX3_leastOf_8 : decode cX3_leastOf 8 = .ok (.iload_n 0, 1) := dkAa80.2.2.2.2.1
theorem dX3_leastOf_9 : decode cX3_leastOf 9 = .ok (.invokestatic 83, 3) := dkAa80.2.2.2.2.2.1
theorem dX3_leastOf_12 : decode cX3_leastOf 12 = .ok (.ireturn, 1) := dkAa80.2.2.2.2.2.2
set_option maxRecDepth 100000 in
theorem dkAa81 : decode cX3_canHandOver 0 = .ok (.iload_n 1, 1) ∧ decode cX3_canHandOver 1 = .ok (.iload_n 2, 1) ∧ decode cX3_canHandOver 2 = .ok (.if_icmp .eq 34, 3) ∧ decode cX3_canHandOver 5 = .ok (.aload_n 0, 1) ∧ decode cX3_canHandOver 6 = .ok (.iload_n 1, 1) ∧ decode cX3_canHandOver 7 = .ok (.invokevirtual 59, 3) ∧ decode cX3_canHandOver 10 = .ok (.ifCond .eq 26, 3) ∧ decode cX3_canHandOver 13 = .ok (.aload_n 0, 1) ∧ decode cX3_canHandOver 14 = .ok (.iload_n 2, 1) ∧ decode cX3_canHandOver 15 = .ok (.invokevirtual 59, 3) ∧ decode cX3_canHandOver 18 = .ok (.ifCond .eq 18, 3) ∧ decode cX3_canHandOver 21 = .ok (.aload_n 0, 1) := by decide +kernel
theorem dX3_canHandOver_0 : decode cX3_canHandOver 0 = .ok (.iload_n 1, 1) := dkAa81.1
theorem dX3_canHandOver_1 : decode cX3_canHandOver 1 = .ok (.iload_n 2, 1) := dkAa81.2.1
theorem dX3_canHandOver_2 : decode cX3_canHandOver 2 = .ok (.if_icmp .eq 34, 3) := dkAa81.2.2.1
theorem dX3_canHandOver_5 : decode cX3_canHandOver 5 = .ok (.aload_n 0, 1) := dkAa81.2.2.2.1
theorem dX3_canHandOver_6 : decode cX3_canHandOver 6 = .ok (.iload_n 1, 1) := dkAa81.2.2.2.2.1
theorem dX3_canHandOver_7 : decode cX3_canHandOver 7 = .ok (.invokevirtual 59, 3) := dkAa81.2.2.2.2.2.1
theorem dX3_canHandOver_10 : decode cX3_canHandOver 10 = .ok (.ifCond .eq 26, 3) := dkAa81.2.2.2.2.2.2.1
theorem dX3_canHandOver_13 : decode cX3_canHandOver 13 = .ok (.aload_n 0, 1) := dkAa81.2.2.2.2.2.2.2.1
theorem dX3_canHandOver_14 : decode cX3_canHandOver 14 = .ok (.iload_n 2, 1) := dkAa81.2.2.2.2.2.2.2.2.1
theorem dX3_canHandOver_15 : decode cX3_canHandOver 15 = .ok (.invokevirtual 59, 3) := dkAa81.2.2.2.2.2.2.2.2.2.1
theorem dX3_canHandOver_18 : decode cX3_canHandOver 18 = .ok (.ifCond .eq 18, 3) := dkAa81.2.2.2.2.2.2.2.2.2.2.1
theorem dX3_canHandOver_21 : decode cX3_canHandOver 21 = .ok (.aload_n 0, 1) := dkAa81.2.2.2.2.2.2.2.2.2.2.2
set_option maxRecDepth 100000 in
theorem dkAa82 : decode cX3_canHandOver 22 = .ok (.getfield 9, 3) ∧ decode cX3_canHandOver 25 = .ok (.iload_n 1, 1) ∧ decode cX3_canHandOver 26 = .ok (.iaload, 1) ∧ decode cX3_canHandOver 27 = .ok (.bipush 9, 2) ∧ decode cX3_canHandOver 29 = .ok (.if_icmp .eq 7, 3) ∧ decode cX3_canHandOver 32 = .ok (.iconst 1, 1) ∧ decode cX3_canHandOver 33 = .ok (.goto 4, 3) ∧ decode cX3_canHandOver 36 = .ok (.iconst 0, 1) ∧ decode cX3_canHandOver 37 = .ok (.ireturn, 1) := by decide +kernel
theorem dX3_canHandOver_22 : decode cX3_canHandOver 22 = .ok (.getfield 9, 3) := dkAa82.1
theorem dX3_canHandOver_25 : decode cX3_canHandOver 25 = .ok (.iload_n 1, 1) := dkAa82.2.1
theorem dX3_canHandOver_26 : decode cX3_canHandOver 26 = .ok (.iaload, 1) := dkAa82.2.2.1
theorem dX3_canHandOver_27 : decode cX3_canHandOver 27 = .ok (.bipush 9, 2) := dkAa82.2.2.2.1
theorem dX3_canHandOver_29 : decode cX3_canHandOver 29 = .ok (.if_icmp .eq 7, 3) := dkAa82.2.2.2.2.1
theorem dX3_canHandOver_32 : decode cX3_canHandOver 32 = .ok (.iconst 1, 1) := dkAa82.2.2.2.2.2.1
theorem dX3_canHandOver_33 : decode cX3_canHandOver 33 = .ok (.goto 4, 3) := dkAa82.2.2.2.2.2.2.1
theorem dX3_canHandOver_36 : decode cX3_canHandOver 36 = .ok (.iconst 0, 1) := dkAa82.2.2.2.2.2.2.2.1
theorem dX3_canHandOver_37 : decode cX3_canHandOver 37 = .ok (.ireturn, 1) := dkAa82.2.2.2.2.2.2.2.2
set_option maxRecDepth 100000 in
theorem dkAa83 : decode cX3_handOver 0 = .ok (.aload_n 0, 1) ∧ decode cX3_handOver 1 = .ok (.iload_n 1, 1) ∧ decode cX3_handOver 2 = .ok (.iload_n 2, 1) ∧ decode cX3_handOver 3 = .ok (.invokevirtual 88, 3) ∧ decode cX3_handOver 6 = .ok (.ifCond .ne 4, 3) ∧ decode cX3_handOver 9 = .ok (.return_, 1) ∧ decode cX3_handOver 10 = .ok (.aload_n 0, 1) ∧ decode cX3_handOver 11 = .ok (.iload_n 2, 1) ∧ decode cX3_handOver 12 = .ok (.aload_n 0, 1) ∧ decode cX3_handOver 13 = .ok (.getfield 9, 3) ∧ decode cX3_handOver 16 = .ok (.iload_n 1, 1) ∧ decode cX3_handOver 17 = .ok (.iaload, 1) := by decide +kernel
theorem dX3_handOver_0 : decode cX3_handOver 0 = .ok (.aload_n 0, 1) := dkAa83.1
theorem dX3_handOver_1 : decode cX3_handOver 1 = .ok (.iload_n 1, 1) := dkAa83.2.1
theorem dX3_handOver_2 : decode cX3_handOver 2 = .ok (.iload_n 2, 1) := dkAa83.2.2.1
theorem dX3_handOver_3 : decode cX3_handOver 3 = .ok (.invokevirtual 88, 3) := dkAa83.2.2.2.1
theorem dX3_handOver_6 : decode cX3_handOver 6 = .ok (.ifCond .ne 4, 3) := dkAa83.2.2.2.2.1
theorem dX3_handOver_9 : decode cX3_handOver 9 = .ok (.return_, 1) := dkAa83.2.2.2.2.2.1
theorem dX3_handOver_10 : decode cX3_handOver 10 = .ok (.aload_n 0, 1) := dkAa83.2.2.2.2.2.2.1
theorem dX3_handOver_11 : decode cX3_handOver 11 = .ok (.iload_n 2, 1) := dkAa83.2.2.2.2.2.2.2.1
theorem dX3_handOver_12 : decode cX3_handOver 12 = .ok (.aload_n 0, 1) := dkAa83.2.2.2.2.2.2.2.2.1
theorem dX3_handOver_13 : decode cX3_handOver 13 = .ok (.getfield 9, 3) := dkAa83.2.2.2.2.2.2.2.2.2.1
theorem dX3_handOver_16 : decode cX3_handOver 16 = .ok (.iload_n 1, 1) := dkAa83.2.2.2.2.2.2.2.2.2.2.1
theorem dX3_handOver_17 : decode cX3_handOver 17 = .ok (.iaload, 1) := dkAa83.2.2.2.2.2.2.2.2.2.2.2
set_option maxRecDepth 100000 in
theorem dkAa84 : decode cX3_handOver 18 = .ok (.invokevirtual 72, 3) ∧ decode cX3_handOver 21 = .ok (.aload_n 0, 1) ∧ decode cX3_handOver 22 = .ok (.getfield 15, 3) ∧ decode cX3_handOver 25 = .ok (.iload_n 1, 1) ∧ decode cX3_handOver 26 = .ok (.iaload, 1) ∧ decode cX3_handOver 27 = .ok (.invokestatic 80, 3) ∧ decode cX3_handOver 30 = .ok (.istore_n 3, 1) ∧ decode cX3_handOver 31 = .ok (.iload_n 3, 1) ∧ decode cX3_handOver 32 = .ok (.iconst (-1), 1) ∧ decode cX3_handOver 33 = .ok (.if_icmp .ne 14, 3) ∧ decode cX3_handOver 36 = .ok (.aload_n 0, 1) ∧ decode cX3_handOver 37 = .ok (.getfield 9, 3) := by decide +kernel
theorem dX3_handOver_18 : decode cX3_handOver 18 = .ok (.invokevirtual 72, 3) := dkAa84.1
theorem dX3_handOver_21 : decode cX3_handOver 21 = .ok (.aload_n 0, 1) := dkAa84.2.1
theorem dX3_handOver_22 : decode cX3_handOver 22 = .ok (.getfield 15, 3) := dkAa84.2.2.1
theorem dX3_handOver_25 : decode cX3_handOver 25 = .ok (.iload_n 1, 1) := dkAa84.2.2.2.1
theorem dX3_handOver_26 : decode cX3_handOver 26 = .ok (.iaload, 1) := dkAa84.2.2.2.2.1
theorem dX3_handOver_27 : decode cX3_handOver 27 = .ok (.invokestatic 80, 3) := dkAa84.2.2.2.2.2.1
theorem dX3_handOver_30 : decode cX3_handOver 30 = .ok (.istore_n 3, 1) := dkAa84.2.2.2.2.2.2.1
theorem dX3_handOver_31 : decode cX3_handOver 31 = .ok (.iload_n 3, 1) := dkAa84.2.2.2.2.2.2.2.1
theorem dX3_handOver_32 : decode cX3_handOver 32 = .ok (.iconst (-1), 1) := dkAa84.2.2.2.2.2.2.2.2.1
theorem dX3_handOver_33 : decode cX3_handOver 33 = .ok (.if_icmp .ne 14, 3) := dkAa84.2.2.2.2.2.2.2.2.2.1
theorem dX3_handOver_36 : decode cX3_handOver 36 = .ok (.aload_n 0, 1) := dkAa84.2.2.2.2.2.2.2.2.2.2.1
theorem dX3_handOver_37 : decode cX3_handOver 37 = .ok (.getfield 9, 3) := dkAa84.2.2.2.2.2.2.2.2.2.2.2
set_option maxRecDepth 100000 in
theorem dkAa85 : decode cX3_handOver 40 = .ok (.iload_n 1, 1) ∧ decode cX3_handOver 41 = .ok (.bipush 9, 2) ∧ decode cX3_handOver 43 = .ok (.iastore, 1) ∧ decode cX3_handOver 44 = .ok (.goto 24, 3) ∧ decode cX3_handOver 47 = .ok (.aload_n 0, 1) ∧ decode cX3_handOver 48 = .ok (.getfield 9, 3) ∧ decode cX3_handOver 51 = .ok (.iload_n 1, 1) ∧ decode cX3_handOver 52 = .ok (.iload_n 3, 1) ∧ decode cX3_handOver 53 = .ok (.iastore, 1) ∧ decode cX3_handOver 54 = .ok (.aload_n 0, 1) ∧ decode cX3_handOver 55 = .ok (.getfield 15, 3) ∧ decode cX3_handOver 58 = .ok (.iload_n 1, 1) := by decide +kernel
theorem dX3_handOver_40 : decode cX3_handOver 40 = .ok (.iload_n 1, 1) := dkAa85.1
theorem dX3_handOver_41 : decode cX3_handOver 41 = .ok (.bipush 9, 2) := dkAa85.2.1
theorem dX3_handOver_43 : decode cX3_handOver 43 = .ok (.iastore, 1) := dkAa85.2.2.1
theorem dX3_handOver_44 : decode cX3_handOver 44 = .ok (.goto 24, 3) := dkAa85.2.2.2.1
theorem dX3_handOver_47 : decode cX3_handOver 47 = .ok (.aload_n 0, 1) := dkAa85.2.2.2.2.1
theorem dX3_handOver_48 : decode cX3_handOver 48 = .ok (.getfield 9, 3) := dkAa85.2.2.2.2.2.1
theorem dX3_handOver_51 : decode cX3_handOver 51 = .ok (.iload_n 1, 1) := dkAa85.2.2.2.2.2.2.1
theorem dX3_handOver_52 : decode cX3_handOver 52 = .ok (.iload_n 3, 1) := dkAa85.2.2.2.2.2.2.2.1
theorem dX3_handOver_53 : decode cX3_handOver 53 = .ok (.iastore, 1) := dkAa85.2.2.2.2.2.2.2.2.1
theorem dX3_handOver_54 : decode cX3_handOver 54 = .ok (.aload_n 0, 1) := dkAa85.2.2.2.2.2.2.2.2.2.1
theorem dX3_handOver_55 : decode cX3_handOver 55 = .ok (.getfield 15, 3) := dkAa85.2.2.2.2.2.2.2.2.2.2.1
theorem dX3_handOver_58 : decode cX3_handOver 58 = .ok (.iload_n 1, 1) := dkAa85.2.2.2.2.2.2.2.2.2.2.2
set_option maxRecDepth 100000 in
theorem dkAa86 : decode cX3_handOver 59 = .ok (.dup2, 1) ∧ decode cX3_handOver 60 = .ok (.iaload, 1) ∧ decode cX3_handOver 61 = .ok (.iconst 1, 1) ∧ decode cX3_handOver 62 = .ok (.iload_n 3, 1) ∧ decode cX3_handOver 63 = .ok (.ishl, 1) ∧ decode cX3_handOver 64 = .ok (.iconst (-1), 1) ∧ decode cX3_handOver 65 = .ok (.ixor, 1) ∧ decode cX3_handOver 66 = .ok (.iand, 1) ∧ decode cX3_handOver 67 = .ok (.iastore, 1) ∧ decode cX3_handOver 68 = .ok (.return_, 1) := by decide +kernel
theorem dX3_handOver_59 : decode cX3_handOver 59 = .ok (.dup2, 1) := dkAa86.1
theorem dX3_handOver_60 : decode cX3_handOver 60 = .ok (.iaload, 1) := dkAa86.2.1
theorem dX3_handOver_61 : decode cX3_handOver 61 = .ok (.iconst 1, 1) := dkAa86.2.2.1
theorem dX3_handOver_62 : decode cX3_handOver 62 = .ok (.iload_n 3, 1) := dkAa86.2.2.2.1
theorem dX3_handOver_63 : decode cX3_handOver 63 = .ok (.ishl, 1) := dkAa86.2.2.2.2.1
theorem dX3_handOver_64 : decode cX3_handOver 64 = .ok (.iconst (-1), 1) := dkAa86.2.2.2.2.2.1
theorem dX3_handOver_65 : decode cX3_handOver 65 = .ok (.ixor, 1) := dkAa86.2.2.2.2.2.2.1
theorem dX3_handOver_66 : decode cX3_handOver 66 = .ok (.iand, 1) := dkAa86.2.2.2.2.2.2.2.1
theorem dX3_handOver_67 : decode cX3_handOver 67 = .ok (.iastore, 1) := dkAa86.2.2.2.2.2.2.2.2.1
theorem dX3_handOver_68 : decode cX3_handOver 68 = .ok (.return_, 1) := dkAa86.2.2.2.2.2.2.2.2.2
set_option maxRecDepth 100000 in
theorem dkAa87 : decode cX3_takeOut 0 = .ok (.aload_n 0, 1) ∧ decode cX3_takeOut 1 = .ok (.iload_n 1, 1) ∧ decode cX3_takeOut 2 = .ok (.invokevirtual 59, 3) ∧ decode cX3_takeOut 5 = .ok (.ifCond .eq 16, 3) ∧ decode cX3_takeOut 8 = .ok (.aload_n 0, 1) ∧ decode cX3_takeOut 9 = .ok (.getfield 15, 3) ∧ decode cX3_takeOut 12 = .ok (.iload_n 1, 1) ∧ decode cX3_takeOut 13 = .ok (.iaload, 1) ∧ decode cX3_takeOut 14 = .ok (.iload_n 2, 1) ∧ decode cX3_takeOut 15 = .ok (.invokestatic 65, 3) ∧ decode cX3_takeOut 18 = .ok (.ifCond .ne 6, 3) ∧ decode cX3_takeOut 21 = .ok (.bipush 9, 2) := by decide +kernel
theorem dX3_takeOut_0 : decode cX3_takeOut 0 = .ok (.aload_n 0, 1) := dkAa87.1
theorem dX3_takeOut_1 : decode cX3_takeOut 1 = .ok (.iload_n 1, 1) := dkAa87.2.1
theorem dX3_takeOut_2 : decode cX3_takeOut 2 = .ok (.invokevirtual 59, 3) := dkAa87.2.2.1
theorem dX3_takeOut_5 : decode cX3_takeOut 5 = .ok (.ifCond .eq 16, 3) := dkAa87.2.2.2.1
theorem dX3_takeOut_8 : decode cX3_takeOut 8 = .ok (.aload_n 0, 1) := dkAa87.2.2.2.2.1
theorem dX3_takeOut_9 : decode cX3_takeOut 9 = .ok (.getfield 15, 3) := dkAa87.2.2.2.2.2.1
theorem dX3_takeOut_12 : decode cX3_takeOut 12 = .ok (.iload_n 1, 1) := dkAa87.2.2.2.2.2.2.1
theorem dX3_takeOut_13 : decode cX3_takeOut 13 = .ok (.iaload, 1) := dkAa87.2.2.2.2.2.2.2.1
theorem dX3_takeOut_14 : decode cX3_takeOut 14 = .ok (.iload_n 2, 1) := dkAa87.2.2.2.2.2.2.2.2.1
theorem dX3_takeOut_15 : decode cX3_takeOut 15 = .ok (.invokestatic 65, 3) := dkAa87.2.2.2.2.2.2.2.2.2.1
theorem dX3_takeOut_18 : decode cX3_takeOut 18 = .ok (.ifCond .ne 6, 3) := dkAa87.2.2.2.2.2.2.2.2.2.2.1
theorem dX3_takeOut_21 : decode cX3_takeOut 21 = .ok (.bipush 9, 2) := dkAa87.2.2.2.2.2.2.2.2.2.2.2
set_option maxRecDepth 100000 in
theorem dkAa88 : decode cX3_takeOut 23 = .ok (.ireturn, 1) ∧ decode cX3_takeOut 24 = .ok (.aload_n 0, 1) ∧ decode cX3_takeOut 25 = .ok (.getfield 9, 3) ∧ decode cX3_takeOut 28 = .ok (.iload_n 1, 1) ∧ decode cX3_takeOut 29 = .ok (.iaload, 1) ∧ decode cX3_takeOut 30 = .ok (.istore_n 3, 1) ∧ decode cX3_takeOut 31 = .ok (.aload_n 0, 1) ∧ decode cX3_takeOut 32 = .ok (.getfield 15, 3) ∧ decode cX3_takeOut 35 = .ok (.iload_n 1, 1) ∧ decode cX3_takeOut 36 = .ok (.dup2, 1) ∧ decode cX3_takeOut 37 = .ok (.iaload, 1) ∧ decode cX3_takeOut 38 = .ok (.iconst 1, 1) := by decide +kernel
theorem dX3_takeOut_23 : decode cX3_takeOut 23 = .ok (.ireturn, 1) := dkAa88.1
theorem dX3_takeOut_24 : decode cX3_takeOut 24 = .ok (.aload_n 0, 1) := dkAa88.2.1
theorem dX3_takeOut_25 : decode cX3_takeOut 25 = .ok (.getfield 9, 3) := dkAa88.2.2.1
theorem dX3_takeOut_28 : decode cX3_takeOut 28 = .ok (.iload_n 1, 1) := dkAa88.2.2.2.1
theorem dX3_takeOut_29 : decode cX3_takeOut 29 = .ok (.iaload, 1) := dkAa88.2.2.2.2.1
theorem dX3_takeOut_30 : decode cX3_takeOut 30 = .ok (.istore_n 3, 1) := dkAa88.2.2.2.2.2.1
theorem dX3_takeOut_31 : decode cX3_takeOut 31 = .ok (.aload_n 0, 1) := dkAa88.2.2.2.2.2.2.1
theorem dX3_takeOut_32 : decode cX3_takeOut 32 = .ok (.getfield 15, 3) := dkAa88.2.2.2.2.2.2.2.1
theorem dX3_takeOut_35 : decode cX3_takeOut 35 = .ok (.iload_n 1, 1) := dkAa88.2.2.2.2.2.2.2.2.1
theorem dX3_takeOut_36 : decode cX3_takeOut 36 = .ok (.dup2, 1) := dkAa88.2.2.2.2.2.2.2.2.2.1
theorem dX3_takeOut_37 : decode cX3_takeOut 37 = .ok (.iaload, 1) := dkAa88.2.2.2.2.2.2.2.2.2.2.1
theorem dX3_takeOut_38 : decode cX3_takeOut 38 = .ok (.iconst 1, 1) := dkAa88.2.2.2.2.2.2.2.2.2.2.2
set_option maxRecDepth 100000 in
theorem dkAa89 : decode cX3_takeOut 39 = .ok (.iload_n 2, 1) ∧ decode cX3_takeOut 40 = .ok (.ishl, 1) ∧ decode cX3_takeOut 41 = .ok (.iconst (-1), 1) ∧ decode cX3_takeOut 42 = .ok (.ixor, 1) ∧ decode cX3_takeOut 43 = .ok (.iand, 1) ∧ decode cX3_takeOut 44 = .ok (.iastore, 1) ∧ decode cX3_takeOut 45 = .ok (.aload_n 0, 1) ∧ decode cX3_takeOut 46 = .ok (.iload_n 1, 1) ∧ decode cX3_takeOut 47 = .ok (.iload_n 2, 1) ∧ decode cX3_takeOut 48 = .ok (.invokevirtual 72, 3) ∧ decode cX3_takeOut 51 = .ok (.iload_n 3, 1) ∧ decode cX3_takeOut 52 = .ok (.ireturn, 1) := by decide +kernel
theorem dX3_takeOut_39 : decode cX3_takeOut 39 = .ok (.iload_n 2, 1) := dkAa89.1
theorem dX3_takeOut_40 : decode cX3_takeOut 40 = .ok (.ishl, 1) := dkAa89.2.1
theorem dX3_takeOut_41 : decode cX3_takeOut 41 = .ok (.iconst (-1), 1) := dkAa89.2.2.1
theorem dX3_takeOut_42 : decode cX3_takeOut 42 = .ok (.ixor, 1) := dkAa89.2.2.2.1
theorem dX3_takeOut_43 : decode cX3_takeOut 43 = .ok (.iand, 1) := dkAa89.2.2.2.2.1
theorem dX3_takeOut_44 : decode cX3_takeOut 44 = .ok (.iastore, 1) := dkAa89.2.2.2.2.2.1
theorem dX3_takeOut_45 : decode cX3_takeOut 45 = .ok (.aload_n 0, 1) := dkAa89.2.2.2.2.2.2.1
theorem dX3_takeOut_46 : decode cX3_takeOut 46 = .ok (.iload_n 1, 1) := dkAa89.2.2.2.2.2.2.2.1
theorem dX3_takeOut_47 : decode cX3_takeOut 47 = .ok (.iload_n 2, 1) := dkAa89.2.2.2.2.2.2.2.2.1
theorem dX3_takeOut_48 : decode cX3_takeOut 48 = .ok (.invokevirtual 72, 3) := dkAa89.2.2.2.2.2.2.2.2.2.1
theorem dX3_takeOut_51 : decode cX3_takeOut 51 = .ok (.iload_n 3, 1) := dkAa89.2.2.2.2.2.2.2.2.2.2.1
theorem dX3_takeOut_52 : decode cX3_takeOut 52 = .ok (.ireturn, 1) := dkAa89.2.2.2.2.2.2.2.2.2.2.2
set_option maxRecDepth 100000 in
theorem dkAa90 : decode cX3_changeWill 0 = .ok (.aload_n 0, 1) ∧ decode cX3_changeWill 1 = .ok (.iload_n 1, 1) ∧ decode cX3_changeWill 2 = .ok (.invokevirtual 56, 3) ∧ decode cX3_changeWill 5 = .ok (.ifCond .eq 17, 3) ∧ decode cX3_changeWill 8 = .ok (.aload_n 0, 1) ∧ decode cX3_changeWill 9 = .ok (.getfield 18, 3) ∧ decode cX3_changeWill 12 = .ok (.iload_n 1, 1) ∧ decode cX3_changeWill 13 = .ok (.iload_n 2, 1) ∧ decode cX3_changeWill 14 = .ok (.iastore, 1) ∧ decode cX3_changeWill 15 = .ok (.aload_n 0, 1) ∧ decode cX3_changeWill 16 = .ok (.getfield 21, 3) ∧ decode cX3_changeWill 19 = .ok (.iload_n 1, 1) := by decide +kernel
theorem dX3_changeWill_0 : decode cX3_changeWill 0 = .ok (.aload_n 0, 1) := dkAa90.1
theorem dX3_changeWill_1 : decode cX3_changeWill 1 = .ok (.iload_n 1, 1) := dkAa90.2.1
theorem dX3_changeWill_2 : decode cX3_changeWill 2 = .ok (.invokevirtual 56, 3) := dkAa90.2.2.1
theorem dX3_changeWill_5 : decode cX3_changeWill 5 = .ok (.ifCond .eq 17, 3) := dkAa90.2.2.2.1
theorem dX3_changeWill_8 : decode cX3_changeWill 8 = .ok (.aload_n 0, 1) := dkAa90.2.2.2.2.1
theorem dX3_changeWill_9 : decode cX3_changeWill 9 = .ok (.getfield 18, 3) := dkAa90.2.2.2.2.2.1
theorem dX3_changeWill_12 : decode cX3_changeWill 12 = .ok (.iload_n 1, 1) := dkAa90.2.2.2.2.2.2.1
theorem dX3_changeWill_13 : decode cX3_changeWill 13 = .ok (.iload_n 2, 1) := dkAa90.2.2.2.2.2.2.2.1
theorem dX3_changeWill_14 : decode cX3_changeWill 14 = .ok (.iastore, 1) := dkAa90.2.2.2.2.2.2.2.2.1
theorem dX3_changeWill_15 : decode cX3_changeWill 15 = .ok (.aload_n 0, 1) := dkAa90.2.2.2.2.2.2.2.2.2.1
theorem dX3_changeWill_16 : decode cX3_changeWill 16 = .ok (.getfield 21, 3) := dkAa90.2.2.2.2.2.2.2.2.2.2.1
theorem dX3_changeWill_19 : decode cX3_changeWill 19 = .ok (.iload_n 1, 1) := dkAa90.2.2.2.2.2.2.2.2.2.2.2
set_option maxRecDepth 100000 in
theorem dkAa91 : decode cX3_changeWill 20 = .ok (.iload_n 3, 1) ∧ decode cX3_changeWill 21 = .ok (.iastore, 1) ∧ decode cX3_changeWill 22 = .ok (.return_, 1) := by decide +kernel
theorem dX3_changeWill_20 : decode cX3_changeWill 20 = .ok (.iload_n 3, 1) := dkAa91.1
theorem dX3_changeWill_21 : decode cX3_changeWill 21 = .ok (.iastore, 1) := dkAa91.2.1
theorem dX3_changeWill_22 : decode cX3_changeWill 22 = .ok (.return_, 1) := dkAa91.2.2
set_option maxRecDepth 100000 in
theorem dkAa92 : decode cX4_init 0 = .ok (.aload_n 0, 1) ∧ decode cX4_init 1 = .ok (.invokespecial 1, 3) ∧ decode cX4_init 4 = .ok (.aload_n 0, 1) ∧ decode cX4_init 5 = .ok (.new 7, 3) ∧ decode cX4_init 8 = .ok (.dup, 1) ∧ decode cX4_init 9 = .ok (.invokespecial 9, 3) ∧ decode cX4_init 12 = .ok (.putfield 10, 3) ∧ decode cX4_init 15 = .ok (.return_, 1) := by decide +kernel
theorem dX4_init_0 : decode cX4_init 0 = .ok (.aload_n 0, 1) := dkAa92.1
theorem dX4_init_1 : decode cX4_init 1 = .ok (.invokespecial 1, 3) := dkAa92.2.1
theorem dX4_init_4 : decode cX4_init 4 = .ok (.aload_n 0, 1) := dkAa92.2.2.1
theorem dX4_init_5 : decode cX4_init 5 = .ok (.new 7, 3) := dkAa92.2.2.2.1
theorem dX4_init_8 : decode cX4_init 8 = .ok (.dup, 1) := dkAa92.2.2.2.2.1
theorem dX4_init_9 : decode cX4_init 9 = .ok (.invokespecial 9, 3) := dkAa92.2.2.2.2.2.1
theorem dX4_init_12 : decode cX4_init 12 = .ok (.putfield 10, 3) := dkAa92.2.2.2.2.2.2.1
theorem dX4_init_15 : decode cX4_init 15 = .ok (.return_, 1) := dkAa92.2.2.2.2.2.2.2
set_option maxRecDepth 100000 in
theorem dkAa93 : decode cX5_init 0 = .ok (.aload_n 0, 1) ∧ decode cX5_init 1 = .ok (.invokespecial 3, 3) ∧ decode cX5_init 4 = .ok (.aload_n 0, 1) ∧ decode cX5_init 5 = .ok (.bipush 7, 2) ∧ decode cX5_init 7 = .ok (.newarray .int, 2) ∧ decode cX5_init 9 = .ok (.putfield 9, 3) ∧ decode cX5_init 12 = .ok (.return_, 1) := by decide +kernel
theorem dX5_init_0 : decode cX5_init 0 = .ok (.aload_n 0, 1) := dkAa93.1
theorem dX5_init_1 : decode cX5_init 1 = .ok (.invokespecial 3, 3) := dkAa93.2.1
theorem dX5_init_4 : decode cX5_init 4 = .ok (.aload_n 0, 1) := dkAa93.2.2.1
theorem dX5_init_5 : decode cX5_init 5 = .ok (.bipush 7, 2) := dkAa93.2.2.2.1
theorem dX5_init_7 : decode cX5_init 7 = .ok (.newarray .int, 2) := dkAa93.2.2.2.2.1
theorem dX5_init_9 : decode cX5_init 9 = .ok (.putfield 9, 3) := dkAa93.2.2.2.2.2.1
theorem dX5_init_12 : decode cX5_init 12 = .ok (.return_, 1) := dkAa93.2.2.2.2.2.2
set_option maxRecDepth 100000 in
theorem dkAa94 : decode cX5_empty 0 = .ok (.aload_n 0, 1) ∧ decode cX5_empty 1 = .ok (.iconst 0, 1) ∧ decode cX5_empty 2 = .ok (.putfield 15, 3) ∧ decode cX5_empty 5 = .ok (.aload_n 0, 1) ∧ decode cX5_empty 6 = .ok (.iconst 0, 1) ∧ decode cX5_empty 7 = .ok (.putfield 19, 3) ∧ decode cX5_empty 10 = .ok (.return_, 1) := by decide +kernel
theorem dX5_empty_0 : decode cX5_empty 0 = .ok (.aload_n 0, 1) := dkAa94.1
theorem dX5_empty_1 : decode cX5_empty 1 = .ok (.iconst 0, 1) := dkAa94.2.1
theorem dX5_empty_2 : decode cX5_empty 2 = .ok (.putfield 15, 3) := dkAa94.2.2.1
theorem dX5_empty_5 : decode cX5_empty 5 = .ok (.aload_n 0, 1) := dkAa94.2.2.2.1
theorem dX5_empty_6 : decode cX5_empty 6 = .ok (.iconst 0, 1) := dkAa94.2.2.2.2.1
theorem dX5_empty_7 : decode cX5_empty 7 = .ok (.putfield 19, 3) := dkAa94.2.2.2.2.2.1
theorem dX5_empty_10 : decode cX5_empty 10 = .ok (.return_, 1) := dkAa94.2.2.2.2.2.2
set_option maxRecDepth 100000 in
theorem dkAa95 : decode cX5_add 0 = .ok (.aload_n 0, 1) ∧ decode cX5_add 1 = .ok (.getfield 15, 3) ∧ decode cX5_add 4 = .ok (.aload_n 0, 1) ∧ decode cX5_add 5 = .ok (.getfield 9, 3) ∧ decode cX5_add 8 = .ok (.arraylength, 1) ∧ decode cX5_add 9 = .ok (.if_icmp .ge 35, 3) ∧ decode cX5_add 12 = .ok (.aload_n 0, 1) ∧ decode cX5_add 13 = .ok (.getfield 9, 3) ∧ decode cX5_add 16 = .ok (.aload_n 0, 1) ∧ decode cX5_add 17 = .ok (.getfield 15, 3) ∧ decode cX5_add 20 = .ok (.iload_n 1, 1) ∧ decode cX5_add 21 = .ok (.iastore, 1) := by decide +kernel
theorem dX5_add_0 : decode cX5_add 0 = .ok (.aload_n 0, 1) := dkAa95.1
theorem dX5_add_1 : decode cX5_add 1 = .ok (.getfield 15, 3) := dkAa95.2.1
theorem dX5_add_4 : decode cX5_add 4 = .ok (.aload_n 0, 1) := dkAa95.2.2.1
theorem dX5_add_5 : decode cX5_add 5 = .ok (.getfield 9, 3) := dkAa95.2.2.2.1
theorem dX5_add_8 : decode cX5_add 8 = .ok (.arraylength, 1) := dkAa95.2.2.2.2.1
theorem dX5_add_9 : decode cX5_add 9 = .ok (.if_icmp .ge 35, 3) := dkAa95.2.2.2.2.2.1
theorem dX5_add_12 : decode cX5_add 12 = .ok (.aload_n 0, 1) := dkAa95.2.2.2.2.2.2.1
theorem dX5_add_13 : decode cX5_add 13 = .ok (.getfield 9, 3) := dkAa95.2.2.2.2.2.2.2.1
theorem dX5_add_16 : decode cX5_add 16 = .ok (.aload_n 0, 1) := dkAa95.2.2.2.2.2.2.2.2.1
theorem dX5_add_17 : decode cX5_add 17 = .ok (.getfield 15, 3) := dkAa95.2.2.2.2.2.2.2.2.2.1
theorem dX5_add_20 : decode cX5_add 20 = .ok (.iload_n 1, 1) := dkAa95.2.2.2.2.2.2.2.2.2.2.1
theorem dX5_add_21 : decode cX5_add 21 = .ok (.iastore, 1) := dkAa95.2.2.2.2.2.2.2.2.2.2.2
set_option maxRecDepth 100000 in
theorem dkAa96 : decode cX5_add 22 = .ok (.aload_n 0, 1) ∧ decode cX5_add 23 = .ok (.dup, 1) ∧ decode cX5_add 24 = .ok (.getfield 15, 3) ∧ decode cX5_add 27 = .ok (.iconst 1, 1) ∧ decode cX5_add 28 = .ok (.iadd, 1) ∧ decode cX5_add 29 = .ok (.putfield 15, 3) ∧ decode cX5_add 32 = .ok (.aload_n 0, 1) ∧ decode cX5_add 33 = .ok (.dup, 1) ∧ decode cX5_add 34 = .ok (.getfield 19, 3) ∧ decode cX5_add 37 = .ok (.iconst 1, 1) ∧ decode cX5_add 38 = .ok (.iload_n 1, 1) ∧ decode cX5_add 39 = .ok (.ishl, 1) := by decide +kernel
theorem dX5_add_22 : decode cX5_add 22 = .ok (.aload_n 0, 1) := dkAa96.1
theorem dX5_add_23 : decode cX5_add 23 = .ok (.dup, 1) := dkAa96.2.1
theorem dX5_add_24 : decode cX5_add 24 = .ok (.getfield 15, 3) := dkAa96.2.2.1
theorem dX5_add_27 : decode cX5_add 27 = .ok (.iconst 1, 1) := dkAa96.2.2.2.1
theorem dX5_add_28 : decode cX5_add 28 = .ok (.iadd, 1) := dkAa96.2.2.2.2.1
theorem dX5_add_29 : decode cX5_add 29 = .ok (.putfield 15, 3) := dkAa96.2.2.2.2.2.1
theorem dX5_add_32 : decode cX5_add 32 = .ok (.aload_n 0, 1) := dkAa96.2.2.2.2.2.2.1
theorem dX5_add_33 : decode cX5_add 33 = .ok (.dup, 1) := dkAa96.2.2.2.2.2.2.2.1
theorem dX5_add_34 : decode cX5_add 34 = .ok (.getfield 19, 3) := dkAa96.2.2.2.2.2.2.2.2.1
theorem dX5_add_37 : decode cX5_add 37 = .ok (.iconst 1, 1) := dkAa96.2.2.2.2.2.2.2.2.2.1
theorem dX5_add_38 : decode cX5_add 38 = .ok (.iload_n 1, 1) := dkAa96.2.2.2.2.2.2.2.2.2.2.1
theorem dX5_add_39 : decode cX5_add 39 = .ok (.ishl, 1) := dkAa96.2.2.2.2.2.2.2.2.2.2.2
set_option maxRecDepth 100000 in
theorem dkAa97 : decode cX5_add 40 = .ok (.ior, 1) ∧ decode cX5_add 41 = .ok (.putfield 19, 3) ∧ decode cX5_add 44 = .ok (.return_, 1) := by decide +kernel
theorem dX5_add_40 : decode cX5_add 40 = .ok (.ior, 1) := dkAa97.1
theorem dX5_add_41 : decode cX5_add 41 = .ok (.putfield 19, 3) := dkAa97.2.1
theorem dX5_add_44 : decode cX5_add 44 = .ok (.return_, 1) := dkAa97.2.2
set_option maxRecDepth 100000 in
theorem dkAa98 : decode cX5_readOrder 0 = .ok (.aload_n 0, 1) ∧ decode cX5_readOrder 1 = .ok (.invokevirtual 22, 3) ∧ decode cX5_readOrder 4 = .ok (.iload_n 1, 1) ∧ decode cX5_readOrder 5 = .ok (.ifCond .gt 5, 3) ∧ decode cX5_readOrder 8 = .ok (.iconst 0, 1) ∧ decode cX5_readOrder 9 = .ok (.ireturn, 1) ∧ decode cX5_readOrder 10 = .ok (.iload_n 1, 1) ∧ decode cX5_readOrder 11 = .ok (.istore_n 3, 1) ∧ decode cX5_readOrder 12 = .ok (.ldc 25, 2) ∧ decode cX5_readOrder 14 = .ok (.istore 4, 2) ∧ decode cX5_readOrder 16 = .ok (.iload 4, 2) ∧ decode cX5_readOrder 18 = .ok (.iconst 1, 1) := by decide +kernel
theorem dX5_readOrder_0 : decode cX5_readOrder 0 = .ok (.aload_n 0, 1) := dkAa98.1
theorem dX5_readOrder_1 : decode cX5_readOrder 1 = .ok (.invokevirtual 22, 3) := dkAa98.2.1
theorem dX5_readOrder_4 : decode cX5_readOrder 4 = .ok (.iload_n 1, 1) := dkAa98.2.2.1
theorem dX5_readOrder_5 : decode cX5_readOrder 5 = .ok (.ifCond .gt 5, 3) := dkAa98.2.2.2.1
theorem dX5_readOrder_8 : decode cX5_readOrder 8 = .ok (.iconst 0, 1) := dkAa98.2.2.2.2.1
theorem dX5_readOrder_9 : decode cX5_readOrder 9 = .ok (.ireturn, 1) := dkAa98.2.2.2.2.2.1
theorem dX5_readOrder_10 : decode cX5_readOrder 10 = .ok (.iload_n 1, 1) := dkAa98.2.2.2.2.2.2.1
theorem dX5_readOrder_11 : decode cX5_readOrder 11 = .ok (.istore_n 3, 1) := dkAa98.2.2.2.2.2.2.2.1
theorem dX5_readOrder_12 : decode cX5_readOrder 12 = .ok (.ldc 25, 2) := dkAa98.2.2.2.2.2.2.2.2.1
theorem dX5_readOrder_14 : decode cX5_readOrder 14 = .ok (.istore 4, 2) := dkAa98.2.2.2.2.2.2.2.2.2.1
theorem dX5_readOrder_16 : decode cX5_readOrder 16 = .ok (.iload 4, 2) := dkAa98.2.2.2.2.2.2.2.2.2.2.1
theorem dX5_readOrder_18 : decode cX5_readOrder 18 = .ok (.iconst 1, 1) := dkAa98.2.2.2.2.2.2.2.2.2.2.2
set_option maxRecDepth 100000 in
theorem dkAa99 : decode cX5_readOrder 19 = .ok (.if_icmp .lt 68, 3) ∧ decode cX5_readOrder 22 = .ok (.iload_n 3, 1) ∧ decode cX5_readOrder 23 = .ok (.iload 4, 2) ∧ decode cX5_readOrder 25 = .ok (.idiv, 1) ∧ decode cX5_readOrder 26 = .ok (.istore 5, 2) ∧ decode cX5_readOrder 28 = .ok (.iload_n 3, 1) ∧ decode cX5_readOrder 29 = .ok (.iload 4, 2) ∧ decode cX5_readOrder 31 = .ok (.irem, 1) ∧ decode cX5_readOrder 32 = .ok (.istore_n 3, 1) ∧ decode cX5_readOrder 33 = .ok (.iload 5, 2) ∧ decode cX5_readOrder 35 = .ok (.ifCond .gt 10, 3) ∧ decode cX5_readOrder 38 = .ok (.aload_n 0, 1) := by decide +kernel
theorem dX5_readOrder_19 : decode cX5_readOrder 19 = .ok (.if_icmp .lt 68, 3) := dkAa99.1
theorem dX5_readOrder_22 : decode cX5_readOrder 22 = .ok (.iload_n 3, 1) := dkAa99.2.1
theorem dX5_readOrder_23 : decode cX5_readOrder 23 = .ok (.iload 4, 2) := dkAa99.2.2.1
theorem dX5_readOrder_25 : decode cX5_readOrder 25 = .ok (.idiv, 1) := dkAa99.2.2.2.1
theorem dX5_readOrder_26 : decode cX5_readOrder 26 = .ok (.istore 5, 2) := dkAa99.2.2.2.2.1
theorem dX5_readOrder_28 : decode cX5_readOrder 28 = .ok (.iload_n 3, 1) := dkAa99.2.2.2.2.2.1
theorem dX5_readOrder_29 : decode cX5_readOrder 29 = .ok (.iload 4, 2) := dkAa99.2.2.2.2.2.2.1
theorem dX5_readOrder_31 : decode cX5_readOrder 31 = .ok (.irem, 1) := dkAa99.2.2.2.2.2.2.2.1
theorem dX5_readOrder_32 : decode cX5_readOrder 32 = .ok (.istore_n 3, 1) := dkAa99.2.2.2.2.2.2.2.2.1
theorem dX5_readOrder_33 : decode cX5_readOrder 33 = .ok (.iload 5, 2) := dkAa99.2.2.2.2.2.2.2.2.2.1
theorem dX5_readOrder_35 : decode cX5_readOrder 35 = .ok (.ifCond .gt 10, 3) := dkAa99.2.2.2.2.2.2.2.2.2.2.1
theorem dX5_readOrder_38 : decode cX5_readOrder 38 = .ok (.aload_n 0, 1) := dkAa99.2.2.2.2.2.2.2.2.2.2.2
set_option maxRecDepth 100000 in
theorem dkAa100 : decode cX5_readOrder 39 = .ok (.getfield 15, 3) ∧ decode cX5_readOrder 42 = .ok (.ifCond .le 35, 3) ∧ decode cX5_readOrder 45 = .ok (.aload_n 2, 1) ∧ decode cX5_readOrder 46 = .ok (.iload 5, 2) ∧ decode cX5_readOrder 48 = .ok (.iconst 1, 1) ∧ decode cX5_readOrder 49 = .ok (.isub, 1) ∧ decode cX5_readOrder 50 = .ok (.invokevirtual 26, 3) ∧ decode cX5_readOrder 53 = .ok (.ifCond .eq 14, 3) ∧ decode cX5_readOrder 56 = .ok (.aload_n 0, 1) ∧ decode cX5_readOrder 57 = .ok (.iload 5, 2) ∧ decode cX5_readOrder 59 = .ok (.iconst 1, 1) ∧ decode cX5_readOrder 60 = .ok (.isub, 1) := by decide +kernel
theorem dX5_readOrder_39 : decode cX5_readOrder 39 = .ok (.getfield 15, 3) := dkAa100.1
theorem dX5_readOrder_42 : decode cX5_readOrder 42 = .ok (.ifCond .le 35, 3) := dkAa100.2.1
theorem dX5_readOrder_45 : decode cX5_readOrder 45 = .ok (.aload_n 2, 1) := dkAa100.2.2.1
theorem dX5_readOrder_46 : decode cX5_readOrder 46 = .ok (.iload 5, 2) := dkAa100.2.2.2.1
theorem dX5_readOrder_48 : decode cX5_readOrder 48 = .ok (.iconst 1, 1) := dkAa100.2.2.2.2.1
theorem dX5_readOrder_49 : decode cX5_readOrder 49 = .ok (.isub, 1) := dkAa100.2.2.2.2.2.1
theorem dX5_readOrder_50 : decode cX5_readOrder 50 = .ok (.invokevirtual 26, 3) := dkAa100.2.2.2.2.2.2.1
theorem dX5_readOrder_53 : decode cX5_readOrder 53 = .ok (.ifCond .eq 14, 3) := dkAa100.2.2.2.2.2.2.2.1
theorem dX5_readOrder_56 : decode cX5_readOrder 56 = .ok (.aload_n 0, 1) := dkAa100.2.2.2.2.2.2.2.2.1
theorem dX5_readOrder_57 : decode cX5_readOrder 57 = .ok (.iload 5, 2) := dkAa100.2.2.2.2.2.2.2.2.2.1
theorem dX5_readOrder_59 : decode cX5_readOrder 59 = .ok (.iconst 1, 1) := dkAa100.2.2.2.2.2.2.2.2.2.2.1
theorem dX5_readOrder_60 : decode cX5_readOrder 60 = .ok (.isub, 1) := dkAa100.2.2.2.2.2.2.2.2.2.2.2
set_option maxRecDepth 100000 in
theorem dkAa101 : decode cX5_readOrder 61 = .ok (.invokevirtual 32, 3) ∧ decode cX5_readOrder 64 = .ok (.ifCond .eq 5, 3) ∧ decode cX5_readOrder 67 = .ok (.iconst 0, 1) ∧ decode cX5_readOrder 68 = .ok (.ireturn, 1) ∧ decode cX5_readOrder 69 = .ok (.aload_n 0, 1) ∧ decode cX5_readOrder 70 = .ok (.iload 5, 2) ∧ decode cX5_readOrder 72 = .ok (.iconst 1, 1) ∧ decode cX5_readOrder 73 = .ok (.isub, 1) ∧ decode cX5_readOrder 74 = .ok (.invokevirtual 35, 3) ∧ decode cX5_readOrder 77 = .ok (.iload 4, 2) ∧ decode cX5_readOrder 79 = .ok (.bipush 10, 2) ∧ decode cX5_readOrder 81 = .ok (.idiv, 1) := by decide +kernel
theorem dX5_readOrder_61 : decode cX5_readOrder 61 = .ok (.invokevirtual 32, 3) := dkAa101.1
theorem dX5_readOrder_64 : decode cX5_readOrder 64 = .ok (.ifCond .eq 5, 3) := dkAa101.2.1
theorem dX5_readOrder_67 : decode cX5_readOrder 67 = .ok (.iconst 0, 1) := dkAa101.2.2.1
theorem dX5_readOrder_68 : decode cX5_readOrder 68 = .ok (.ireturn, 1) := dkAa101.2.2.2.1
theorem dX5_readOrder_69 : decode cX5_readOrder 69 = .ok (.aload_n 0, 1) := dkAa101.2.2.2.2.1
theorem dX5_readOrder_70 : decode cX5_readOrder 70 = .ok (.iload 5, 2) := dkAa101.2.2.2.2.2.1
theorem dX5_readOrder_72 : decode cX5_readOrder 72 = .ok (.iconst 1, 1) := dkAa101.2.2.2.2.2.2.1
theorem dX5_readOrder_73 : decode cX5_readOrder 73 = .ok (.isub, 1) := dkAa101.2.2.2.2.2.2.2.1
theorem dX5_readOrder_74 : decode cX5_readOrder 74 = .ok (.invokevirtual 35, 3) := dkAa101.2.2.2.2.2.2.2.2.1
theorem dX5_readOrder_77 : decode cX5_readOrder 77 = .ok (.iload 4, 2) := dkAa101.2.2.2.2.2.2.2.2.2.1
theorem dX5_readOrder_79 : decode cX5_readOrder 79 = .ok (.bipush 10, 2) := dkAa101.2.2.2.2.2.2.2.2.2.2.1
theorem dX5_readOrder_81 : decode cX5_readOrder 81 = .ok (.idiv, 1) := dkAa101.2.2.2.2.2.2.2.2.2.2.2
set_option maxRecDepth 100000 in
theorem dkAa102 : decode cX5_readOrder 82 = .ok (.istore 4, 2) ∧ decode cX5_readOrder 84 = .ok (.goto (-68), 3) ∧ decode cX5_readOrder 87 = .ok (.iconst 1, 1) ∧ decode cX5_readOrder 88 = .ok (.ireturn, 1) := by decide +kernel
theorem dX5_readOrder_82 : decode cX5_readOrder 82 = .ok (.istore 4, 2) := dkAa102.1
theorem dX5_readOrder_84 : decode cX5_readOrder 84 = .ok (.goto (-68), 3) := dkAa102.2.1
theorem dX5_readOrder_87 : decode cX5_readOrder 87 = .ok (.iconst 1, 1) := dkAa102.2.2.1
theorem dX5_readOrder_88 : decode cX5_readOrder 88 = .ok (.ireturn, 1) := dkAa102.2.2.2
set_option maxRecDepth 100000 in
theorem dkAa103 : decode cX5_setOrder 0 = .ok (.aload_n 0, 1) ∧ decode cX5_setOrder 1 = .ok (.invokevirtual 22, 3) ∧ decode cX5_setOrder 4 = .ok (.iload_n 1, 1) ∧ decode cX5_setOrder 5 = .ok (.istore_n 3, 1) ∧ decode cX5_setOrder 6 = .ok (.iload_n 2, 1) ∧ decode cX5_setOrder 7 = .ok (.istore 4, 2) ∧ decode cX5_setOrder 9 = .ok (.iload_n 1, 1) ∧ decode cX5_setOrder 10 = .ok (.invokestatic 39, 3) ∧ decode cX5_setOrder 13 = .ok (.iconst 1, 1) ∧ decode cX5_setOrder 14 = .ok (.isub, 1) ∧ decode cX5_setOrder 15 = .ok (.istore 5, 2) ∧ decode cX5_setOrder 17 = .ok (.iload 5, 2) := by decide +kernel
theorem dX5_setOrder_0 : decode cX5_setOrder 0 = .ok (.aload_n 0, 1) := dkAa103.1
theorem dX5_setOrder_1 : decode cX5_setOrder 1 = .ok (.invokevirtual 22, 3) := dkAa103.2.1
theorem dX5_setOrder_4 : decode cX5_setOrder 4 = .ok (.iload_n 1, 1) := dkAa103.2.2.1
theorem dX5_setOrder_5 : decode cX5_setOrder 5 = .ok (.istore_n 3, 1) := dkAa103.2.2.2.1
theorem dX5_setOrder_6 : decode cX5_setOrder 6 = .ok (.iload_n 2, 1) := dkAa103.2.2.2.2.1
theorem dX5_setOrder_7 : decode cX5_setOrder 7 = .ok (.istore 4, 2) := dkAa103.2.2.2.2.2.1
theorem dX5_setOrder_9 : decode cX5_setOrder 9 = .ok (.iload_n 1, 1) := dkAa103.2.2.2.2.2.2.1
theorem dX5_setOrder_10 : decode cX5_setOrder 10 = .ok (.invokestatic 39, 3) := dkAa103.2.2.2.2.2.2.2.1
theorem dX5_setOrder_13 : decode cX5_setOrder 13 = .ok (.iconst 1, 1) := dkAa103.2.2.2.2.2.2.2.2.1
theorem dX5_setOrder_14 : decode cX5_setOrder 14 = .ok (.isub, 1) := dkAa103.2.2.2.2.2.2.2.2.2.1
theorem dX5_setOrder_15 : decode cX5_setOrder 15 = .ok (.istore 5, 2) := dkAa103.2.2.2.2.2.2.2.2.2.2.1
theorem dX5_setOrder_17 : decode cX5_setOrder 17 = .ok (.iload 5, 2) := dkAa103.2.2.2.2.2.2.2.2.2.2.2
set_option maxRecDepth 100000 in
theorem dkAa104 : decode cX5_setOrder 19 = .ok (.ifCond .lt 63, 3) ∧ decode cX5_setOrder 22 = .ok (.iload 5, 2) ∧ decode cX5_setOrder 24 = .ok (.getstatic 45, 3) ∧ decode cX5_setOrder 27 = .ok (.arraylength, 1) ∧ decode cX5_setOrder 28 = .ok (.if_icmp .ge 54, 3) ∧ decode cX5_setOrder 31 = .ok (.iconst 1, 1) ∧ decode cX5_setOrder 32 = .ok (.getstatic 45, 3) ∧ decode cX5_setOrder 35 = .ok (.iload 5, 2) ∧ decode cX5_setOrder 37 = .ok (.iaload, 1) ∧ decode cX5_setOrder 38 = .ok (.invokestatic 48, 3) ∧ decode cX5_setOrder 41 = .ok (.istore 6, 2) ∧ decode cX5_setOrder 43 = .ok (.iload_n 3, 1) := by decide +kernel
theorem dX5_setOrder_19 : decode cX5_setOrder 19 = .ok (.ifCond .lt 63, 3) := dkAa104.1
theorem dX5_setOrder_22 : decode cX5_setOrder 22 = .ok (.iload 5, 2) := dkAa104.2.1
theorem dX5_setOrder_24 : decode cX5_setOrder 24 = .ok (.getstatic 45, 3) := dkAa104.2.2.1
theorem dX5_setOrder_27 : decode cX5_setOrder 27 = .ok (.arraylength, 1) := dkAa104.2.2.2.1
theorem dX5_setOrder_28 : decode cX5_setOrder 28 = .ok (.if_icmp .ge 54, 3) := dkAa104.2.2.2.2.1
theorem dX5_setOrder_31 : decode cX5_setOrder 31 = .ok (.iconst 1, 1) := dkAa104.2.2.2.2.2.1
theorem dX5_setOrder_32 : decode cX5_setOrder 32 = .ok (.getstatic 45, 3) := dkAa104.2.2.2.2.2.2.1
theorem dX5_setOrder_35 : decode cX5_setOrder 35 = .ok (.iload 5, 2) := dkAa104.2.2.2.2.2.2.2.1
theorem dX5_setOrder_37 : decode cX5_setOrder 37 = .ok (.iaload, 1) := dkAa104.2.2.2.2.2.2.2.2.1
theorem dX5_setOrder_38 : decode cX5_setOrder 38 = .ok (.invokestatic 48, 3) := dkAa104.2.2.2.2.2.2.2.2.2.1
theorem dX5_setOrder_41 : decode cX5_setOrder 41 = .ok (.istore 6, 2) := dkAa104.2.2.2.2.2.2.2.2.2.2.1
theorem dX5_setOrder_43 : decode cX5_setOrder 43 = .ok (.iload_n 3, 1) := dkAa104.2.2.2.2.2.2.2.2.2.2.2
set_option maxRecDepth 100000 in
theorem dkAa105 : decode cX5_setOrder 44 = .ok (.iload 4, 2) ∧ decode cX5_setOrder 46 = .ok (.iload 6, 2) ∧ decode cX5_setOrder 48 = .ok (.idiv, 1) ∧ decode cX5_setOrder 49 = .ok (.invokestatic 54, 3) ∧ decode cX5_setOrder 52 = .ok (.istore 7, 2) ∧ decode cX5_setOrder 54 = .ok (.iload 4, 2) ∧ decode cX5_setOrder 56 = .ok (.iload 6, 2) ∧ decode cX5_setOrder 58 = .ok (.irem, 1) ∧ decode cX5_setOrder 59 = .ok (.istore 4, 2) ∧ decode cX5_setOrder 61 = .ok (.iload_n 3, 1) ∧ decode cX5_setOrder 62 = .ok (.iconst 1, 1) ∧ decode cX5_setOrder 63 = .ok (.iload 7, 2) := by decide +kernel
theorem dX5_setOrder_44 : decode cX5_setOrder 44 = .ok (.iload 4, 2) := dkAa105.1
theorem dX5_setOrder_46 : decode cX5_setOrder 46 = .ok (.iload 6, 2) := dkAa105.2.1
theorem dX5_setOrder_48 : decode cX5_setOrder 48 = .ok (.idiv, 1) := dkAa105.2.2.1
theorem dX5_setOrder_49 : decode cX5_setOrder 49 = .ok (.invokestatic 54, 3) := dkAa105.2.2.2.1
theorem dX5_setOrder_52 : decode cX5_setOrder 52 = .ok (.istore 7, 2) := dkAa105.2.2.2.2.1
theorem dX5_setOrder_54 : decode cX5_setOrder 54 = .ok (.iload 4, 2) := dkAa105.2.2.2.2.2.1
theorem dX5_setOrder_56 : decode cX5_setOrder 56 = .ok (.iload 6, 2) := dkAa105.2.2.2.2.2.2.1
theorem dX5_setOrder_58 : decode cX5_setOrder 58 = .ok (.irem, 1) := dkAa105.2.2.2.2.2.2.2.1
theorem dX5_setOrder_59 : decode cX5_setOrder 59 = .ok (.istore 4, 2) := dkAa105.2.2.2.2.2.2.2.2.1
theorem dX5_setOrder_61 : decode cX5_setOrder 61 = .ok (.iload_n 3, 1) := dkAa105.2.2.2.2.2.2.2.2.2.1
theorem dX5_setOrder_62 : decode cX5_setOrder 62 = .ok (.iconst 1, 1) := dkAa105.2.2.2.2.2.2.2.2.2.2.1
theorem dX5_setOrder_63 : decode cX5_setOrder 63 = .ok (.iload 7, 2) := dkAa105.2.2.2.2.2.2.2.2.2.2.2
set_option maxRecDepth 100000 in
theorem dkAa106 : decode cX5_setOrder 65 = .ok (.ishl, 1) ∧ decode cX5_setOrder 66 = .ok (.iconst (-1), 1) ∧ decode cX5_setOrder 67 = .ok (.ixor, 1) ∧ decode cX5_setOrder 68 = .ok (.iand, 1) ∧ decode cX5_setOrder 69 = .ok (.istore_n 3, 1) ∧ decode cX5_setOrder 70 = .ok (.aload_n 0, 1) ∧ decode cX5_setOrder 71 = .ok (.iload 7, 2) ∧ decode cX5_setOrder 73 = .ok (.invokevirtual 35, 3) ∧ decode cX5_setOrder 76 = .ok (.iinc 5 (-1), 3) ∧ decode cX5_setOrder 79 = .ok (.goto (-62), 3) ∧ decode cX5_setOrder 82 = .ok (.return_, 1) := by decide +kernel
theorem dX5_setOrder_65 : decode cX5_setOrder 65 = .ok (.ishl, 1) := dkAa106.1
theorem dX5_setOrder_66 : decode cX5_setOrder 66 = .ok (.iconst (-1), 1) := dkAa106.2.1
theorem dX5_setOrder_67 : decode cX5_setOrder 67 = .ok (.ixor, 1) := dkAa106.2.2.1
theorem dX5_setOrder_68 : decode cX5_setOrder 68 = .ok (.iand, 1) := dkAa106.2.2.2.1
theorem dX5_setOrder_69 : decode cX5_setOrder 69 = .ok (.istore_n 3, 1) := dkAa106.2.2.2.2.1
theorem dX5_setOrder_70 : decode cX5_setOrder 70 = .ok (.aload_n 0, 1) := dkAa106.2.2.2.2.2.1
theorem dX5_setOrder_71 : decode cX5_setOrder 71 = .ok (.iload 7, 2) := dkAa106.2.2.2.2.2.2.1
theorem dX5_setOrder_73 : decode cX5_setOrder 73 = .ok (.invokevirtual 35, 3) := dkAa106.2.2.2.2.2.2.2.1
theorem dX5_setOrder_76 : decode cX5_setOrder 76 = .ok (.iinc 5 (-1), 3) := dkAa106.2.2.2.2.2.2.2.2.1
theorem dX5_setOrder_79 : decode cX5_setOrder 79 = .ok (.goto (-62), 3) := dkAa106.2.2.2.2.2.2.2.2.2.1
theorem dX5_setOrder_82 : decode cX5_setOrder 82 = .ok (.return_, 1) := dkAa106.2.2.2.2.2.2.2.2.2.2
set_option maxRecDepth 100000 in
theorem dkAa107 : decode cX5_memberAt 0 = .ok (.iconst 0, 1) ∧ decode cX5_memberAt 1 = .ok (.istore_n 2, 1) ∧ decode cX5_memberAt 2 = .ok (.iconst 0, 1) ∧ decode cX5_memberAt 3 = .ok (.istore_n 3, 1) ∧ decode cX5_memberAt 4 = .ok (.iload_n 3, 1) ∧ decode cX5_memberAt 5 = .ok (.bipush 7, 2) ∧ decode cX5_memberAt 7 = .ok (.if_icmp .ge 27, 3) ∧ decode cX5_memberAt 10 = .ok (.iload_n 0, 1) ∧ decode cX5_memberAt 11 = .ok (.iload_n 3, 1) ∧ decode cX5_memberAt 12 = .ok (.invokestatic 57, 3) ∧ decode cX5_memberAt 15 = .ok (.ifCond .eq 13, 3) ∧ decode cX5_memberAt 18 = .ok (.iload_n 2, 1) := by decide +kernel
theorem dX5_memberAt_0 : decode cX5_memberAt 0 = .ok (.iconst 0, 1) := dkAa107.1
theorem dX5_memberAt_1 : decode cX5_memberAt 1 = .ok (.istore_n 2, 1) := dkAa107.2.1
theorem dX5_memberAt_2 : decode cX5_memberAt 2 = .ok (.iconst 0, 1) := dkAa107.2.2.1
theorem dX5_memberAt_3 : decode cX5_memberAt 3 = .ok (.istore_n 3, 1) := dkAa107.2.2.2.1
theorem dX5_memberAt_4 : decode cX5_memberAt 4 = .ok (.iload_n 3, 1) := dkAa107.2.2.2.2.1
theorem dX5_memberAt_5 : decode cX5_memberAt 5 = .ok (.bipush 7, 2) := dkAa107.2.2.2.2.2.1
theorem dX5_memberAt_7 : decode cX5_memberAt 7 = .ok (.if_icmp .ge 27, 3) := dkAa107.2.2.2.2.2.2.1
theorem dX5_memberAt_10 : decode cX5_memberAt 10 = .ok (.iload_n 0, 1) := dkAa107.2.2.2.2.2.2.2.1
theorem dX5_memberAt_11 : decode cX5_memberAt 11 = .ok (.iload_n 3, 1) := dkAa107.2.2.2.2.2.2.2.2.1
theorem dX5_memberAt_12 : decode cX5_memberAt 12 = .ok (.invokestatic 57, 3) := dkAa107.2.2.2.2.2.2.2.2.2.1
theorem dX5_memberAt_15 : decode cX5_memberAt 15 = .ok (.ifCond .eq 13, 3) := dkAa107.2.2.2.2.2.2.2.2.2.2.1
theorem dX5_memberAt_18 : decode cX5_memberAt 18 = .ok (.iload_n 2, 1) := dkAa107.2.2.2.2.2.2.2.2.2.2.2
set_option maxRecDepth 100000 in
theorem dkAa108 : decode cX5_memberAt 19 = .ok (.iload_n 1, 1) ∧ decode cX5_memberAt 20 = .ok (.if_icmp .ne 5, 3) ∧ decode cX5_memberAt 23 = .ok (.iload_n 3, 1) ∧ decode cX5_memberAt 24 = .ok (.ireturn, 1) ∧ decode cX5_memberAt 25 = .ok (.iinc 2 1, 3) ∧ decode cX5_memberAt 28 = .ok (.iinc 3 1, 3) ∧ decode cX5_memberAt 31 = .ok (.goto (-27), 3) ∧ decode cX5_memberAt 34 = .ok (.iconst 0, 1) ∧ decode cX5_memberAt 35 = .ok (.ireturn, 1) := by decide +kernel
theorem dX5_memberAt_19 : decode cX5_memberAt 19 = .ok (.iload_n 1, 1) := dkAa108.1
theorem dX5_memberAt_20 : decode cX5_memberAt 20 = .ok (.if_icmp .ne 5, 3) := dkAa108.2.1
theorem dX5_memberAt_23 : decode cX5_memberAt 23 = .ok (.iload_n 3, 1) := dkAa108.2.2.1
theorem dX5_memberAt_24 : decode cX5_memberAt 24 = .ok (.ireturn, 1) := dkAa108.2.2.2.1
theorem dX5_memberAt_25 : decode cX5_memberAt 25 = .ok (.iinc 2 1, 3) := dkAa108.2.2.2.2.1
theorem dX5_memberAt_28 : decode cX5_memberAt 28 = .ok (.iinc 3 1, 3) := dkAa108.2.2.2.2.2.1
theorem dX5_memberAt_31 : decode cX5_memberAt 31 = .ok (.goto (-27), 3) := dkAa108.2.2.2.2.2.2.1
theorem dX5_memberAt_34 : decode cX5_memberAt 34 = .ok (.iconst 0, 1) := dkAa108.2.2.2.2.2.2.2.1
theorem dX5_memberAt_35 : decode cX5_memberAt 35 = .ok (.ireturn, 1) := dkAa108.2.2.2.2.2.2.2.2
set_option maxRecDepth 100000 in
theorem dkAa109 : decode cX5_holds 0 = .ok (.aload_n 0, 1) ∧ decode cX5_holds 1 = .ok (.getfield 19, 3) ∧ decode cX5_holds 4 = .ok (.iload_n 1, 1) ∧ decode cX5_holds 5 = .ok (.invokestatic 57, 3) ∧ decode cX5_holds 8 = .ok (.ireturn, 1) := by decide +kernel
theorem dX5_holds_0 : decode cX5_holds 0 = .ok (.aload_n 0, 1) := dkAa109.1
theorem dX5_holds_1 : decode cX5_holds 1 = .ok (.getfield 19, 3) := dkAa109.2.1
theorem dX5_holds_4 : decode cX5_holds 4 = .ok (.iload_n 1, 1) := dkAa109.2.2.1
theorem dX5_holds_5 : decode cX5_holds 5 = .ok (.invokestatic 57, 3) := dkAa109.2.2.2.1
theorem dX5_holds_8 : decode cX5_holds 8 = .ok (.ireturn, 1) := dkAa109.2.2.2.2
set_option maxRecDepth 100000 in
theorem dkAa110 : decode cX5_firstOne 0 = .ok (.aload_n 0, 1) ∧ decode cX5_firstOne 1 = .ok (.getfield 15, 3) ∧ decode cX5_firstOne 4 = .ok (.ifCond .le 12, 3) ∧ decode cX5_firstOne 7 = .ok (.aload_n 0, 1) ∧ decode cX5_firstOne 8 = .ok (.getfield 9, 3) ∧ decode cX5_firstOne 11 = .ok (.iconst 0, 1) ∧ decode cX5_firstOne 12 = .ok (.iaload, 1) ∧ decode cX5_firstOne 13 = .ok (.goto 4, 3) ∧ decode cX5_firstOne 16 = .ok (.iconst (-1), 1) ∧ decode cX5_firstOne 17 = .ok (.ireturn, 1) := by decide +kernel
theorem dX5_firstOne_0 : decode cX5_firstOne 0 = .ok (.aload_n 0, 1) := dkAa110.1
theorem dX5_firstOne_1 : decode cX5_firstOne 1 = .ok (.getfield 15, 3) := dkAa110.2.1
theorem dX5_firstOne_4 : decode cX5_firstOne 4 = .ok (.ifCond .le 12, 3) := dkAa110.2.2.1
theorem dX5_firstOne_7 : decode cX5_firstOne 7 = .ok (.aload_n 0, 1) := dkAa110.2.2.2.1
theorem dX5_firstOne_8 : decode cX5_firstOne 8 = .ok (.getfield 9, 3) := dkAa110.2.2.2.2.1
theorem dX5_firstOne_11 : decode cX5_firstOne 11 = .ok (.iconst 0, 1) := dkAa110.2.2.2.2.2.1
theorem dX5_firstOne_12 : decode cX5_firstOne 12 = .ok (.iaload, 1) := dkAa110.2.2.2.2.2.2.1
theorem dX5_firstOne_13 : decode cX5_firstOne 13 = .ok (.goto 4, 3) := dkAa110.2.2.2.2.2.2.2.1
theorem dX5_firstOne_16 : decode cX5_firstOne 16 = .ok (.iconst (-1), 1) := dkAa110.2.2.2.2.2.2.2.2.1
theorem dX5_firstOne_17 : decode cX5_firstOne 17 = .ok (.ireturn, 1) := dkAa110.2.2.2.2.2.2.2.2.2
set_option maxRecDepth 100000 in
theorem dkAa111 : decode cX5_asNumber 0 = .ok (.iconst 0, 1) ∧ decode cX5_asNumber 1 = .ok (.istore_n 1, 1) ∧ decode cX5_asNumber 2 = .ok (.iconst 0, 1) ∧ decode cX5_asNumber 3 = .ok (.istore_n 2, 1) ∧ decode cX5_asNumber 4 = .ok (.iload_n 2, 1) ∧ decode cX5_asNumber 5 = .ok (.aload_n 0, 1) ∧ decode cX5_asNumber 6 = .ok (.getfield 15, 3) ∧ decode cX5_asNumber 9 = .ok (.if_icmp .ge 23, 3) ∧ decode cX5_asNumber 12 = .ok (.bipush 10, 2) ∧ decode cX5_asNumber 14 = .ok (.iload_n 1, 1) ∧ decode cX5_asNumber 15 = .ok (.imul, 1) ∧ decode cX5_asNumber 16 = .ok (.aload_n 0, 1) := by decide +kernel
theorem dX5_asNumber_0 : decode cX5_asNumber 0 = .ok (.iconst 0, 1) := dkAa111.1
theorem dX5_asNumber_1 : decode cX5_asNumber 1 = .ok (.istore_n 1, 1) := dkAa111.2.1
theorem dX5_asNumber_2 : decode cX5_asNumber 2 = .ok (.iconst 0, 1) := dkAa111.2.2.1
theorem dX5_asNumber_3 : decode cX5_asNumber 3 = .ok (.istore_n 2, 1) := dkAa111.2.2.2.1
theorem dX5_asNumber_4 : decode cX5_asNumber 4 = .ok (.iload_n 2, 1) := dkAa111.2.2.2.2.1
theorem dX5_asNumber_5 : decode cX5_asNumber 5 = .ok (.aload_n 0, 1) := dkAa111.2.2.2.2.2.1
theorem dX5_asNumber_6 : decode cX5_asNumber 6 = .ok (.getfield 15, 3) := dkAa111.2.2.2.2.2.2.1
theorem dX5_asNumber_9 : decode cX5_asNumber 9 = .ok (.if_icmp .ge 23, 3) := dkAa111.2.2.2.2.2.2.2.1
theorem dX5_asNumber_12 : decode cX5_asNumber 12 = .ok (.bipush 10, 2) := dkAa111.2.2.2.2.2.2.2.2.1
theorem dX5_asNumber_14 : decode cX5_asNumber 14 = .ok (.iload_n 1, 1) := dkAa111.2.2.2.2.2.2.2.2.2.1
theorem dX5_asNumber_15 : decode cX5_asNumber 15 = .ok (.imul, 1) := dkAa111.2.2.2.2.2.2.2.2.2.2.1
theorem dX5_asNumber_16 : decode cX5_asNumber 16 = .ok (.aload_n 0, 1) := dkAa111.2.2.2.2.2.2.2.2.2.2.2
set_option maxRecDepth 100000 in
theorem dkAa112 : decode cX5_asNumber 17 = .ok (.getfield 9, 3) ∧ decode cX5_asNumber 20 = .ok (.iload_n 2, 1) ∧ decode cX5_asNumber 21 = .ok (.iaload, 1) ∧ decode cX5_asNumber 22 = .ok (.iadd, 1) ∧ decode cX5_asNumber 23 = .ok (.iconst 1, 1) ∧ decode cX5_asNumber 24 = .ok (.iadd, 1) ∧ decode cX5_asNumber 25 = .ok (.istore_n 1, 1) ∧ decode cX5_asNumber 26 = .ok (.iinc 2 1, 3) ∧ decode cX5_asNumber 29 = .ok (.goto (-25), 3) ∧ decode cX5_asNumber 32 = .ok (.iload_n 1, 1) ∧ decode cX5_asNumber 33 = .ok (.ireturn, 1) := by decide +kernel
theorem dX5_asNumber_17 : decode cX5_asNumber 17 = .ok (.getfield 9, 3) := dkAa112.1
theorem dX5_asNumber_20 : decode cX5_asNumber 20 = .ok (.iload_n 2, 1) := dkAa112.2.1
theorem dX5_asNumber_21 : decode cX5_asNumber 21 = .ok (.iaload, 1) := dkAa112.2.2.1
theorem dX5_asNumber_22 : decode cX5_asNumber 22 = .ok (.iadd, 1) := dkAa112.2.2.2.1
theorem dX5_asNumber_23 : decode cX5_asNumber 23 = .ok (.iconst 1, 1) := dkAa112.2.2.2.2.1
theorem dX5_asNumber_24 : decode cX5_asNumber 24 = .ok (.iadd, 1) := dkAa112.2.2.2.2.2.1
theorem dX5_asNumber_25 : decode cX5_asNumber 25 = .ok (.istore_n 1, 1) := dkAa112.2.2.2.2.2.2.1
theorem dX5_asNumber_26 : decode cX5_asNumber 26 = .ok (.iinc 2 1, 3) := dkAa112.2.2.2.2.2.2.2.1
theorem dX5_asNumber_29 : decode cX5_asNumber 29 = .ok (.goto (-25), 3) := dkAa112.2.2.2.2.2.2.2.2.1
theorem dX5_asNumber_32 : decode cX5_asNumber 32 = .ok (.iload_n 1, 1) := dkAa112.2.2.2.2.2.2.2.2.2.1
theorem dX5_asNumber_33 : decode cX5_asNumber 33 = .ok (.ireturn, 1) := dkAa112.2.2.2.2.2.2.2.2.2.2
set_option maxRecDepth 100000 in
theorem dkAa113 : decode cX5_buryIn 0 = .ok (.iconst 0, 1) ∧ decode cX5_buryIn 1 = .ok (.istore_n 2, 1) ∧ decode cX5_buryIn 2 = .ok (.iload_n 2, 1) ∧ decode cX5_buryIn 3 = .ok (.aload_n 0, 1) ∧ decode cX5_buryIn 4 = .ok (.getfield 15, 3) ∧ decode cX5_buryIn 7 = .ok (.if_icmp .ge 20, 3) ∧ decode cX5_buryIn 10 = .ok (.aload_n 1, 1) ∧ decode cX5_buryIn 11 = .ok (.aload_n 0, 1) ∧ decode cX5_buryIn 12 = .ok (.getfield 9, 3) ∧ decode cX5_buryIn 15 = .ok (.iload_n 2, 1) ∧ decode cX5_buryIn 16 = .ok (.iaload, 1) ∧ decode cX5_buryIn 17 = .ok (.invokevirtual 61, 3) := by decide +kernel
theorem dX5_buryIn_0 : decode cX5_buryIn 0 = .ok (.iconst 0, 1) := dkAa113.1
theorem dX5_buryIn_1 : decode cX5_buryIn 1 = .ok (.istore_n 2, 1) := dkAa113.2.1
theorem dX5_buryIn_2 : decode cX5_buryIn 2 = .ok (.iload_n 2, 1) := dkAa113.2.2.1
theorem dX5_buryIn_3 : decode cX5_buryIn 3 = .ok (.aload_n 0, 1) := dkAa113.2.2.2.1
theorem dX5_buryIn_4 : decode cX5_buryIn 4 = .ok (.getfield 15, 3) := dkAa113.2.2.2.2.1
theorem dX5_buryIn_7 : decode cX5_buryIn 7 = .ok (.if_icmp .ge 20, 3) := dkAa113.2.2.2.2.2.1
theorem dX5_buryIn_10 : decode cX5_buryIn 10 = .ok (.aload_n 1, 1) := dkAa113.2.2.2.2.2.2.1
theorem dX5_buryIn_11 : decode cX5_buryIn 11 = .ok (.aload_n 0, 1) := dkAa113.2.2.2.2.2.2.2.1
theorem dX5_buryIn_12 : decode cX5_buryIn 12 = .ok (.getfield 9, 3) := dkAa113.2.2.2.2.2.2.2.2.1
theorem dX5_buryIn_15 : decode cX5_buryIn 15 = .ok (.iload_n 2, 1) := dkAa113.2.2.2.2.2.2.2.2.2.1
theorem dX5_buryIn_16 : decode cX5_buryIn 16 = .ok (.iaload, 1) := dkAa113.2.2.2.2.2.2.2.2.2.2.1
theorem dX5_buryIn_17 : decode cX5_buryIn 17 = .ok (.invokevirtual 61, 3) := dkAa113.2.2.2.2.2.2.2.2.2.2.2
set_option maxRecDepth 100000 in
theorem dkAa114 : decode cX5_buryIn 20 = .ok (.pop, 1) ∧ decode cX5_buryIn 21 = .ok (.iinc 2 1, 3) ∧ decode cX5_buryIn 24 = .ok (.goto (-22), 3) ∧ decode cX5_buryIn 27 = .ok (.return_, 1) := by decide +kernel
theorem dX5_buryIn_20 : decode cX5_buryIn 20 = .ok (.pop, 1) := dkAa114.1
theorem dX5_buryIn_21 : decode cX5_buryIn 21 = .ok (.iinc 2 1, 3) := dkAa114.2.1
theorem dX5_buryIn_24 : decode cX5_buryIn 24 = .ok (.goto (-22), 3) := dkAa114.2.2.1
theorem dX5_buryIn_27 : decode cX5_buryIn 27 = .ok (.return_, 1) := dkAa114.2.2.2
set_option maxRecDepth 100000 in
theorem dkAa115 : decode cX6_init 0 = .ok (.aload_n 0, 1) ∧ decode cX6_init 1 = .ok (.invokespecial 3, 3) ∧ decode cX6_init 4 = .ok (.aload_n 0, 1) ∧ decode cX6_init 5 = .ok (.bipush 7, 2) ∧ decode cX6_init 7 = .ok (.newarray .int, 2) ∧ decode cX6_init 9 = .ok (.putfield 9, 3) ∧ decode cX6_init 12 = .ok (.aload_n 0, 1) ∧ decode cX6_init 13 = .ok (.bipush 7, 2) ∧ decode cX6_init 15 = .ok (.newarray .int, 2) ∧ decode cX6_init 17 = .ok (.putfield 15, 3) ∧ decode cX6_init 20 = .ok (.aload_n 0, 1) ∧ decode cX6_init 21 = .ok (.bipush 7, 2) := by decide +kernel
theorem dX6_init_0 : decode cX6_init 0 = .ok (.aload_n 0, 1) := dkAa115.1
theorem dX6_init_1 : decode cX6_init 1 = .ok (.invokespecial 3, 3) := dkAa115.2.1
theorem dX6_init_4 : decode cX6_init 4 = .ok (.aload_n 0, 1) := dkAa115.2.2.1
theorem dX6_init_5 : decode cX6_init 5 = .ok (.bipush 7, 2) := dkAa115.2.2.2.1
theorem dX6_init_7 : decode cX6_init 7 = .ok (.newarray .int, 2) := dkAa115.2.2.2.2.1
theorem dX6_init_9 : decode cX6_init 9 = .ok (.putfield 9, 3) := dkAa115.2.2.2.2.2.1
theorem dX6_init_12 : decode cX6_init 12 = .ok (.aload_n 0, 1) := dkAa115.2.2.2.2.2.2.1
theorem dX6_init_13 : decode cX6_init 13 = .ok (.bipush 7, 2) := dkAa115.2.2.2.2.2.2.2.1
theorem dX6_init_15 : decode cX6_init 15 = .ok (.newarray .int, 2) := dkAa115.2.2.2.2.2.2.2.2.1
theorem dX6_init_17 : decode cX6_init 17 = .ok (.putfield 15, 3) := dkAa115.2.2.2.2.2.2.2.2.2.1
theorem dX6_init_20 : decode cX6_init 20 = .ok (.aload_n 0, 1) := dkAa115.2.2.2.2.2.2.2.2.2.2.1
theorem dX6_init_21 : decode cX6_init 21 = .ok (.bipush 7, 2) := dkAa115.2.2.2.2.2.2.2.2.2.2.2
set_option maxRecDepth 100000 in
theorem dkAa116 : decode cX6_init 23 = .ok (.newarray .int, 2) ∧ decode cX6_init 25 = .ok (.putfield 18, 3) ∧ decode cX6_init 28 = .ok (.aload_n 0, 1) ∧ decode cX6_init 29 = .ok (.bipush 6, 2) ∧ decode cX6_init 31 = .ok (.newarray .int, 2) ∧ decode cX6_init 33 = .ok (.putfield 21, 3) ∧ decode cX6_init 36 = .ok (.aload_n 0, 1) ∧ decode cX6_init 37 = .ok (.bipush 6, 2) ∧ decode cX6_init 39 = .ok (.newarray .int, 2) ∧ decode cX6_init 41 = .ok (.putfield 24, 3) ∧ decode cX6_init 44 = .ok (.return_, 1) := by decide +kernel
theorem dX6_init_23 : decode cX6_init 23 = .ok (.newarray .int, 2) := dkAa116.1
theorem dX6_init_25 : decode cX6_init 25 = .ok (.putfield 18, 3) := dkAa116.2.1
theorem dX6_init_28 : decode cX6_init 28 = .ok (.aload_n 0, 1) := dkAa116.2.2.1
theorem dX6_init_29 : decode cX6_init 29 = .ok (.bipush 6, 2) := dkAa116.2.2.2.1
theorem dX6_init_31 : decode cX6_init 31 = .ok (.newarray .int, 2) := dkAa116.2.2.2.2.1
theorem dX6_init_33 : decode cX6_init 33 = .ok (.putfield 21, 3) := dkAa116.2.2.2.2.2.1
theorem dX6_init_36 : decode cX6_init 36 = .ok (.aload_n 0, 1) := dkAa116.2.2.2.2.2.2.1
theorem dX6_init_37 : decode cX6_init 37 = .ok (.bipush 6, 2) := dkAa116.2.2.2.2.2.2.2.1
theorem dX6_init_39 : decode cX6_init 39 = .ok (.newarray .int, 2) := dkAa116.2.2.2.2.2.2.2.2.1
theorem dX6_init_41 : decode cX6_init 41 = .ok (.putfield 24, 3) := dkAa116.2.2.2.2.2.2.2.2.2.1
theorem dX6_init_44 : decode cX6_init 44 = .ok (.return_, 1) := dkAa116.2.2.2.2.2.2.2.2.2.2
set_option maxRecDepth 100000 in
theorem dkAa117 : decode cX6_empty 0 = .ok (.aload_n 0, 1) ∧ decode cX6_empty 1 = .ok (.iconst 0, 1) ∧ decode cX6_empty 2 = .ok (.putfield 27, 3) ∧ decode cX6_empty 5 = .ok (.aload_n 0, 1) ∧ decode cX6_empty 6 = .ok (.iconst 0, 1) ∧ decode cX6_empty 7 = .ok (.putfield 31, 3) ∧ decode cX6_empty 10 = .ok (.aload_n 0, 1) ∧ decode cX6_empty 11 = .ok (.iconst 0, 1) ∧ decode cX6_empty 12 = .ok (.putfield 34, 3) ∧ decode cX6_empty 15 = .ok (.aload_n 0, 1) ∧ decode cX6_empty 16 = .ok (.iconst 0, 1) ∧ decode cX6_empty 17 = .ok (.putfield 37, 3) := by decide +kernel
theorem dX6_empty_0 : decode cX6_empty 0 = .ok (.aload_n 0, 1) := dkAa117.1
theorem dX6_empty_1 : decode cX6_empty 1 = .ok (.iconst 0, 1) := dkAa117.2.1
theorem dX6_empty_2 : decode cX6_empty 2 = .ok (.putfield 27, 3) := dkAa117.2.2.1
theorem dX6_empty_5 : decode cX6_empty 5 = .ok (.aload_n 0, 1) := dkAa117.2.2.2.1
theorem dX6_empty_6 : decode cX6_empty 6 = .ok (.iconst 0, 1) := dkAa117.2.2.2.2.1
theorem dX6_empty_7 : decode cX6_empty 7 = .ok (.putfield 31, 3) := dkAa117.2.2.2.2.2.1
theorem dX6_empty_10 : decode cX6_empty 10 = .ok (.aload_n 0, 1) := dkAa117.2.2.2.2.2.2.1
theorem dX6_empty_11 : decode cX6_empty 11 = .ok (.iconst 0, 1) := dkAa117.2.2.2.2.2.2.2.1
theorem dX6_empty_12 : decode cX6_empty 12 = .ok (.putfield 34, 3) := dkAa117.2.2.2.2.2.2.2.2.1
theorem dX6_empty_15 : decode cX6_empty 15 = .ok (.aload_n 0, 1) := dkAa117.2.2.2.2.2.2.2.2.2.1
theorem dX6_empty_16 : decode cX6_empty 16 = .ok (.iconst 0, 1) := dkAa117.2.2.2.2.2.2.2.2.2.2.1
theorem dX6_empty_17 : decode cX6_empty 17 = .ok (.putfield 37, 3) := dkAa117.2.2.2.2.2.2.2.2.2.2.2
theorem dX6_empty_20 : decode cX6_empty 20 = .ok (.return_, 1) := by decide +kernel
set_option maxRecDepth 100000 in
theorem dkAa118 : decode cX6_addPerson 0 = .ok (.aload_n 0, 1) ∧ decode cX6_addPerson 1 = .ok (.getfield 27, 3) ∧ decode cX6_addPerson 4 = .ok (.aload_n 0, 1) ∧ decode cX6_addPerson 5 = .ok (.getfield 9, 3) ∧ decode cX6_addPerson 8 = .ok (.arraylength, 1) ∧ decode cX6_addPerson 9 = .ok (.if_icmp .ge 45, 3) ∧ decode cX6_addPerson 12 = .ok (.aload_n 0, 1) ∧ decode cX6_addPerson 13 = .ok (.getfield 9, 3) ∧ decode cX6_addPerson 16 = .ok (.aload_n 0, 1) ∧ decode cX6_addPerson 17 = .ok (.getfield 27, 3) ∧ decode cX6_addPerson 20 = .ok (.iload_n 1, 1) ∧ decode cX6_addPerson 21 = .ok (.iastore, 1) := by decide +kernel
theorem dX6_addPerson_0 : decode cX6_addPerson 0 = .ok (.aload_n 0, 1) := dkAa118.1
theorem dX6_addPerson_1 : decode cX6_addPerson 1 = .ok (.getfield 27, 3) := dkAa118.2.1
theorem dX6_addPerson_4 : decode cX6_addPerson 4 = .ok (.aload_n 0, 1) := dkAa118.2.2.1
theorem dX6_addPerson_5 : decode cX6_addPerson 5 = .ok (.getfield 9, 3) := dkAa118.2.2.2.1
theorem dX6_addPerson_8 : decode cX6_addPerson 8 = .ok (.arraylength, 1) := dkAa118.2.2.2.2.1
theorem dX6_addPerson_9 : decode cX6_addPerson 9 = .ok (.if_icmp .ge 45, 3) := dkAa118.2.2.2.2.2.1
theorem dX6_addPerson_12 : decode cX6_addPerson 12 = .ok (.aload_n 0, 1) := dkAa118.2.2.2.2.2.2.1
theorem dX6_addPerson_13 : decode cX6_addPerson 13 = .ok (.getfield 9, 3) := dkAa118.2.2.2.2.2.2.2.1
theorem dX6_addPerson_16 : decode cX6_addPerson 16 = .ok (.aload_n 0, 1) := dkAa118.2.2.2.2.2.2.2.2.1
theorem dX6_addPerson_17 : decode cX6_addPerson 17 = .ok (.getfield 27, 3) := dkAa118.2.2.2.2.2.2.2.2.2.1
theorem dX6_addPerson_20 : decode cX6_addPerson 20 = .ok (.iload_n 1, 1) := dkAa118.2.2.2.2.2.2.2.2.2.2.1
theorem dX6_addPerson_21 : decode cX6_addPerson 21 = .ok (.iastore, 1) := dkAa118.2.2.2.2.2.2.2.2.2.2.2
set_option maxRecDepth 100000 in
theorem dkAa119 : decode cX6_addPerson 22 = .ok (.aload_n 0, 1) ∧ decode cX6_addPerson 23 = .ok (.getfield 15, 3) ∧ decode cX6_addPerson 26 = .ok (.aload_n 0, 1) ∧ decode cX6_addPerson 27 = .ok (.getfield 27, 3) ∧ decode cX6_addPerson 30 = .ok (.bipush 9, 2) ∧ decode cX6_addPerson 32 = .ok (.iastore, 1) ∧ decode cX6_addPerson 33 = .ok (.aload_n 0, 1) ∧ decode cX6_addPerson 34 = .ok (.getfield 18, 3) ∧ decode cX6_addPerson 37 = .ok (.aload_n 0, 1) ∧ decode cX6_addPerson 38 = .ok (.getfield 27, 3) ∧ decode cX6_addPerson 41 = .ok (.bipush 9, 2) ∧ decode cX6_addPerson 43 = .ok (.iastore, 1) := by decide +kernel
theorem dX6_addPerson_22 : decode cX6_addPerson 22 = .ok (.aload_n 0, 1) := dkAa119.1
theorem dX6_addPerson_23 : decode cX6_addPerson 23 = .ok (.getfield 15, 3) := dkAa119.2.1
theorem dX6_addPerson_26 : decode cX6_addPerson 26 = .ok (.aload_n 0, 1) := dkAa119.2.2.1
theorem dX6_addPerson_27 : decode cX6_addPerson 27 = .ok (.getfield 27, 3) := dkAa119.2.2.2.1
theorem dX6_addPerson_30 : decode cX6_addPerson 30 = .ok (.bipush 9, 2) := dkAa119.2.2.2.2.1
theorem dX6_addPerson_32 : decode cX6_addPerson 32 = .ok (.iastore, 1) := dkAa119.2.2.2.2.2.1
theorem dX6_addPerson_33 : decode cX6_addPerson 33 = .ok (.aload_n 0, 1) := dkAa119.2.2.2.2.2.2.1
theorem dX6_addPerson_34 : decode cX6_addPerson 34 = .ok (.getfield 18, 3) := dkAa119.2.2.2.2.2.2.2.1
theorem dX6_addPerson_37 : decode cX6_addPerson 37 = .ok (.aload_n 0, 1) := dkAa119.2.2.2.2.2.2.2.2.1
theorem dX6_addPerson_38 : decode cX6_addPerson 38 = .ok (.getfield 27, 3) := dkAa119.2.2.2.2.2.2.2.2.2.1
theorem dX6_addPerson_41 : decode cX6_addPerson 41 = .ok (.bipush 9, 2) := dkAa119.2.2.2.2.2.2.2.2.2.2.1
theorem dX6_addPerson_43 : decode cX6_addPerson 43 = .ok (.iastore, 1) := dkAa119.2.2.2.2.2.2.2.2.2.2.2
set_option maxRecDepth 100000 in
theorem dkAa120 : decode cX6_addPerson 44 = .ok (.aload_n 0, 1) ∧ decode cX6_addPerson 45 = .ok (.dup, 1) ∧ decode cX6_addPerson 46 = .ok (.getfield 27, 3) ∧ decode cX6_addPerson 49 = .ok (.iconst 1, 1) ∧ decode cX6_addPerson 50 = .ok (.iadd, 1) ∧ decode cX6_addPerson 51 = .ok (.putfield 27, 3) ∧ decode cX6_addPerson 54 = .ok (.return_, 1) := by decide +kernel
theorem dX6_addPerson_44 : decode cX6_addPerson 44 = .ok (.aload_n 0, 1) := dkAa120.1
theorem dX6_addPerson_45 : decode cX6_addPerson 45 = .ok (.dup, 1) := dkAa120.2.1
theorem dX6_addPerson_46 : decode cX6_addPerson 46 = .ok (.getfield 27, 3) := dkAa120.2.2.1
theorem dX6_addPerson_49 : decode cX6_addPerson 49 = .ok (.iconst 1, 1) := dkAa120.2.2.2.1
theorem dX6_addPerson_50 : decode cX6_addPerson 50 = .ok (.iadd, 1) := dkAa120.2.2.2.2.1
theorem dX6_addPerson_51 : decode cX6_addPerson 51 = .ok (.putfield 27, 3) := dkAa120.2.2.2.2.2.1
theorem dX6_addPerson_54 : decode cX6_addPerson 54 = .ok (.return_, 1) := dkAa120.2.2.2.2.2.2
set_option maxRecDepth 100000 in
theorem dkAa121 : decode cX6_addWill 0 = .ok (.aload_n 0, 1) ∧ decode cX6_addWill 1 = .ok (.iload_n 1, 1) ∧ decode cX6_addWill 2 = .ok (.invokevirtual 40, 3) ∧ decode cX6_addWill 5 = .ok (.ifCond .eq 29, 3) ∧ decode cX6_addWill 8 = .ok (.aload_n 0, 1) ∧ decode cX6_addWill 9 = .ok (.getfield 15, 3) ∧ decode cX6_addWill 12 = .ok (.iload_n 1, 1) ∧ decode cX6_addWill 13 = .ok (.iload_n 2, 1) ∧ decode cX6_addWill 14 = .ok (.iastore, 1) ∧ decode cX6_addWill 15 = .ok (.aload_n 0, 1) ∧ decode cX6_addWill 16 = .ok (.getfield 18, 3) ∧ decode cX6_addWill 19 = .ok (.iload_n 1, 1) := by decide +kernel
theorem dX6_addWill_0 : decode cX6_addWill 0 = .ok (.aload_n 0, 1) := dkAa121.1
theorem dX6_addWill_1 : decode cX6_addWill 1 = .ok (.iload_n 1, 1) := dkAa121.2.1
theorem dX6_addWill_2 : decode cX6_addWill 2 = .ok (.invokevirtual 40, 3) := dkAa121.2.2.1
theorem dX6_addWill_5 : decode cX6_addWill 5 = .ok (.ifCond .eq 29, 3) := dkAa121.2.2.2.1
theorem dX6_addWill_8 : decode cX6_addWill 8 = .ok (.aload_n 0, 1) := dkAa121.2.2.2.2.1
theorem dX6_addWill_9 : decode cX6_addWill 9 = .ok (.getfield 15, 3) := dkAa121.2.2.2.2.2.1
theorem dX6_addWill_12 : decode cX6_addWill 12 = .ok (.iload_n 1, 1) := dkAa121.2.2.2.2.2.2.1
theorem dX6_addWill_13 : decode cX6_addWill 13 = .ok (.iload_n 2, 1) := dkAa121.2.2.2.2.2.2.2.1
theorem dX6_addWill_14 : decode cX6_addWill 14 = .ok (.iastore, 1) := dkAa121.2.2.2.2.2.2.2.2.1
theorem dX6_addWill_15 : decode cX6_addWill 15 = .ok (.aload_n 0, 1) := dkAa121.2.2.2.2.2.2.2.2.2.1
theorem dX6_addWill_16 : decode cX6_addWill 16 = .ok (.getfield 18, 3) := dkAa121.2.2.2.2.2.2.2.2.2.2.1
theorem dX6_addWill_19 : decode cX6_addWill 19 = .ok (.iload_n 1, 1) := dkAa121.2.2.2.2.2.2.2.2.2.2.2
set_option maxRecDepth 100000 in
theorem dkAa122 : decode cX6_addWill 20 = .ok (.iload_n 3, 1) ∧ decode cX6_addWill 21 = .ok (.iastore, 1) ∧ decode cX6_addWill 22 = .ok (.aload_n 0, 1) ∧ decode cX6_addWill 23 = .ok (.dup, 1) ∧ decode cX6_addWill 24 = .ok (.getfield 37, 3) ∧ decode cX6_addWill 27 = .ok (.iconst 1, 1) ∧ decode cX6_addWill 28 = .ok (.iload_n 1, 1) ∧ decode cX6_addWill 29 = .ok (.ishl, 1) ∧ decode cX6_addWill 30 = .ok (.ior, 1) ∧ decode cX6_addWill 31 = .ok (.putfield 37, 3) ∧ decode cX6_addWill 34 = .ok (.return_, 1) := by decide +kernel
theorem dX6_addWill_20 : decode cX6_addWill 20 = .ok (.iload_n 3, 1) := dkAa122.1
theorem dX6_addWill_21 : decode cX6_addWill 21 = .ok (.iastore, 1) := dkAa122.2.1
theorem dX6_addWill_22 : decode cX6_addWill 22 = .ok (.aload_n 0, 1) := dkAa122.2.2.1
theorem dX6_addWill_23 : decode cX6_addWill 23 = .ok (.dup, 1) := dkAa122.2.2.2.1
theorem dX6_addWill_24 : decode cX6_addWill 24 = .ok (.getfield 37, 3) := dkAa122.2.2.2.2.1
theorem dX6_addWill_27 : decode cX6_addWill 27 = .ok (.iconst 1, 1) := dkAa122.2.2.2.2.2.1
theorem dX6_addWill_28 : decode cX6_addWill 28 = .ok (.iload_n 1, 1) := dkAa122.2.2.2.2.2.2.1
theorem dX6_addWill_29 : decode cX6_addWill 29 = .ok (.ishl, 1) := dkAa122.2.2.2.2.2.2.2.1
theorem dX6_addWill_30 : decode cX6_addWill 30 = .ok (.ior, 1) := dkAa122.2.2.2.2.2.2.2.2.1
theorem dX6_addWill_31 : decode cX6_addWill 31 = .ok (.putfield 37, 3) := dkAa122.2.2.2.2.2.2.2.2.2.1
theorem dX6_addWill_34 : decode cX6_addWill 34 = .ok (.return_, 1) := dkAa122.2.2.2.2.2.2.2.2.2.2
set_option maxRecDepth 100000 in
theorem dkAa123 : decode cX6_addDoor 0 = .ok (.aload_n 0, 1) ∧ decode cX6_addDoor 1 = .ok (.getfield 31, 3) ∧ decode cX6_addDoor 4 = .ok (.aload_n 0, 1) ∧ decode cX6_addDoor 5 = .ok (.getfield 21, 3) ∧ decode cX6_addDoor 8 = .ok (.arraylength, 1) ∧ decode cX6_addDoor 9 = .ok (.if_icmp .ge 23, 3) ∧ decode cX6_addDoor 12 = .ok (.aload_n 0, 1) ∧ decode cX6_addDoor 13 = .ok (.getfield 21, 3) ∧ decode cX6_addDoor 16 = .ok (.aload_n 0, 1) ∧ decode cX6_addDoor 17 = .ok (.getfield 31, 3) ∧ decode cX6_addDoor 20 = .ok (.iload_n 1, 1) ∧ decode cX6_addDoor 21 = .ok (.iastore, 1) := by decide +kernel
theorem dX6_addDoor_0 : decode cX6_addDoor 0 = .ok (.aload_n 0, 1) := dkAa123.1
theorem dX6_addDoor_1 : decode cX6_addDoor 1 = .ok (.getfield 31, 3) := dkAa123.2.1
theorem dX6_addDoor_4 : decode cX6_addDoor 4 = .ok (.aload_n 0, 1) := dkAa123.2.2.1
theorem dX6_addDoor_5 : decode cX6_addDoor 5 = .ok (.getfield 21, 3) := dkAa123.2.2.2.1
theorem dX6_addDoor_8 : decode cX6_addDoor 8 = .ok (.arraylength, 1) := dkAa123.2.2.2.2.1
theorem dX6_addDoor_9 : decode cX6_addDoor 9 = .ok (.if_icmp .ge 23, 3) := dkAa123.2.2.2.2.2.1
theorem dX6_addDoor_12 : decode cX6_addDoor 12 = .ok (.aload_n 0, 1) := dkAa123.2.2.2.2.2.2.1
theorem dX6_addDoor_13 : decode cX6_addDoor 13 = .ok (.getfield 21, 3) := dkAa123.2.2.2.2.2.2.2.1
theorem dX6_addDoor_16 : decode cX6_addDoor 16 = .ok (.aload_n 0, 1) := dkAa123.2.2.2.2.2.2.2.2.1
theorem dX6_addDoor_17 : decode cX6_addDoor 17 = .ok (.getfield 31, 3) := dkAa123.2.2.2.2.2.2.2.2.2.1
theorem dX6_addDoor_20 : decode cX6_addDoor 20 = .ok (.iload_n 1, 1) := dkAa123.2.2.2.2.2.2.2.2.2.2.1
theorem dX6_addDoor_21 : decode cX6_addDoor 21 = .ok (.iastore, 1) := dkAa123.2.2.2.2.2.2.2.2.2.2.2
set_option maxRecDepth 100000 in
theorem dkAa124 : decode cX6_addDoor 22 = .ok (.aload_n 0, 1) ∧ decode cX6_addDoor 23 = .ok (.dup, 1) ∧ decode cX6_addDoor 24 = .ok (.getfield 31, 3) ∧ decode cX6_addDoor 27 = .ok (.iconst 1, 1) ∧ decode cX6_addDoor 28 = .ok (.iadd, 1) ∧ decode cX6_addDoor 29 = .ok (.putfield 31, 3) ∧ decode cX6_addDoor 32 = .ok (.return_, 1) := by decide +kernel
theorem dX6_addDoor_22 : decode cX6_addDoor 22 = .ok (.aload_n 0, 1) := dkAa124.1
theorem dX6_addDoor_23 : decode cX6_addDoor 23 = .ok (.dup, 1) := dkAa124.2.1
theorem dX6_addDoor_24 : decode cX6_addDoor 24 = .ok (.getfield 31, 3) := dkAa124.2.2.1
theorem dX6_addDoor_27 : decode cX6_addDoor 27 = .ok (.iconst 1, 1) := dkAa124.2.2.2.1
theorem dX6_addDoor_28 : decode cX6_addDoor 28 = .ok (.iadd, 1) := dkAa124.2.2.2.2.1
theorem dX6_addDoor_29 : decode cX6_addDoor 29 = .ok (.putfield 31, 3) := dkAa124.2.2.2.2.2.1
theorem dX6_addDoor_32 : decode cX6_addDoor 32 = .ok (.return_, 1) := dkAa124.2.2.2.2.2.2
set_option maxRecDepth 100000 in
theorem dkAa125 : decode cX6_addPart 0 = .ok (.aload_n 0, 1) ∧ decode cX6_addPart 1 = .ok (.getfield 34, 3) ∧ decode cX6_addPart 4 = .ok (.aload_n 0, 1) ∧ decode cX6_addPart 5 = .ok (.getfield 24, 3) ∧ decode cX6_addPart 8 = .ok (.arraylength, 1) ∧ decode cX6_addPart 9 = .ok (.if_icmp .ge 23, 3) ∧ decode cX6_addPart 12 = .ok (.aload_n 0, 1) ∧ decode cX6_addPart 13 = .ok (.getfield 24, 3) ∧ decode cX6_addPart 16 = .ok (.aload_n 0, 1) ∧ decode cX6_addPart 17 = .ok (.getfield 34, 3) ∧ decode cX6_addPart 20 = .ok (.iload_n 1, 1) ∧ decode cX6_addPart 21 = .ok (.iastore, 1) := by decide +kernel
theorem dX6_addPart_0 : decode cX6_addPart 0 = .ok (.aload_n 0, 1) := dkAa125.1
theorem dX6_addPart_1 : decode cX6_addPart 1 = .ok (.getfield 34, 3) := dkAa125.2.1
theorem dX6_addPart_4 : decode cX6_addPart 4 = .ok (.aload_n 0, 1) := dkAa125.2.2.1
theorem dX6_addPart_5 : decode cX6_addPart 5 = .ok (.getfield 24, 3) := dkAa125.2.2.2.1
theorem dX6_addPart_8 : decode cX6_addPart 8 = .ok (.arraylength, 1) := dkAa125.2.2.2.2.1
theorem dX6_addPart_9 : decode cX6_addPart 9 = .ok (.if_icmp .ge 23, 3) := dkAa125.2.2.2.2.2.1
theorem dX6_addPart_12 : decode cX6_addPart 12 = .ok (.aload_n 0, 1) := dkAa125.2.2.2.2.2.2.1
theorem dX6_addPart_13 : decode cX6_addPart 13 = .ok (.getfield 24, 3) := dkAa125.2.2.2.2.2.2.2.1
theorem dX6_addPart_16 : decode cX6_addPart 16 = .ok (.aload_n 0, 1) := dkAa125.2.2.2.2.2.2.2.2.1
theorem dX6_addPart_17 : decode cX6_addPart 17 = .ok (.getfield 34, 3) := dkAa125.2.2.2.2.2.2.2.2.2.1
theorem dX6_addPart_20 : decode cX6_addPart 20 = .ok (.iload_n 1, 1) := dkAa125.2.2.2.2.2.2.2.2.2.2.1
theorem dX6_addPart_21 : decode cX6_addPart 21 = .ok (.iastore, 1) := dkAa125.2.2.2.2.2.2.2.2.2.2.2
set_option maxRecDepth 100000 in
theorem dkAa126 : decode cX6_addPart 22 = .ok (.aload_n 0, 1) ∧ decode cX6_addPart 23 = .ok (.dup, 1) ∧ decode cX6_addPart 24 = .ok (.getfield 34, 3) ∧ decode cX6_addPart 27 = .ok (.iconst 1, 1) ∧ decode cX6_addPart 28 = .ok (.iadd, 1) ∧ decode cX6_addPart 29 = .ok (.putfield 34, 3) ∧ decode cX6_addPart 32 = .ok (.return_, 1) := by decide +kernel
theorem dX6_addPart_22 : decode cX6_addPart 22 = .ok (.aload_n 0, 1) := dkAa126.1
theorem dX6_addPart_23 : decode cX6_addPart 23 = .ok (.dup, 1) := dkAa126.2.1
theorem dX6_addPart_24 : decode cX6_addPart 24 = .ok (.getfield 34, 3) := dkAa126.2.2.1
theorem dX6_addPart_27 : decode cX6_addPart 27 = .ok (.iconst 1, 1) := dkAa126.2.2.2.1
theorem dX6_addPart_28 : decode cX6_addPart 28 = .ok (.iadd, 1) := dkAa126.2.2.2.2.1
theorem dX6_addPart_29 : decode cX6_addPart 29 = .ok (.putfield 34, 3) := dkAa126.2.2.2.2.2.1
theorem dX6_addPart_32 : decode cX6_addPart 32 = .ok (.return_, 1) := dkAa126.2.2.2.2.2.2
set_option maxRecDepth 100000 in
theorem dkAa127 : decode cX6_hasPerson 0 = .ok (.iload_n 1, 1) ∧ decode cX6_hasPerson 1 = .ok (.ifCond .lt 15, 3) ∧ decode cX6_hasPerson 4 = .ok (.iload_n 1, 1) ∧ decode cX6_hasPerson 5 = .ok (.aload_n 0, 1) ∧ decode cX6_hasPerson 6 = .ok (.getfield 27, 3) ∧ decode cX6_hasPerson 9 = .ok (.if_icmp .ge 7, 3) ∧ decode cX6_hasPerson 12 = .ok (.iconst 1, 1) ∧ decode cX6_hasPerson 13 = .ok (.goto 4, 3) ∧ decode cX6_hasPerson 16 = .ok (.iconst 0, 1) ∧ decode cX6_hasPerson 17 = .ok (.ireturn, 1) := by decide +kernel
theorem dX6_hasPerson_0 : decode cX6_hasPerson 0 = .ok (.iload_n 1, 1) := dkAa127.1
theorem dX6_hasPerson_1 : decode cX6_hasPerson 1 = .ok (.ifCond .lt 15, 3) := dkAa127.2.1
theorem dX6_hasPerson_4 : decode cX6_hasPerson 4 = .ok (.iload_n 1, 1) := dkAa127.2.2.1
theorem dX6_hasPerson_5 : decode cX6_hasPerson 5 = .ok (.aload_n 0, 1) := dkAa127.2.2.2.1
theorem dX6_hasPerson_6 : decode cX6_hasPerson 6 = .ok (.getfield 27, 3) := dkAa127.2.2.2.2.1
theorem dX6_hasPerson_9 : decode cX6_hasPerson 9 = .ok (.if_icmp .ge 7, 3) := dkAa127.2.2.2.2.2.1
theorem dX6_hasPerson_12 : decode cX6_hasPerson 12 = .ok (.iconst 1, 1) := dkAa127.2.2.2.2.2.2.1
theorem dX6_hasPerson_13 : decode cX6_hasPerson 13 = .ok (.goto 4, 3) := dkAa127.2.2.2.2.2.2.2.1
theorem dX6_hasPerson_16 : decode cX6_hasPerson 16 = .ok (.iconst 0, 1) := dkAa127.2.2.2.2.2.2.2.2.1
theorem dX6_hasPerson_17 : decode cX6_hasPerson 17 = .ok (.ireturn, 1) := dkAa127.2.2.2.2.2.2.2.2.2
set_option maxRecDepth 100000 in
theorem dkAa128 : decode cX6_hasPersons 0 = .ok (.iload_n 1, 1) ∧ decode cX6_hasPersons 1 = .ok (.ifCond .lt 17, 3) ∧ decode cX6_hasPersons 4 = .ok (.iload_n 1, 1) ∧ decode cX6_hasPersons 5 = .ok (.iconst 1, 1) ∧ decode cX6_hasPersons 6 = .ok (.aload_n 0, 1) ∧ decode cX6_hasPersons 7 = .ok (.getfield 27, 3) ∧ decode cX6_hasPersons 10 = .ok (.ishl, 1) ∧ decode cX6_hasPersons 11 = .ok (.if_icmp .ge 7, 3) ∧ decode cX6_hasPersons 14 = .ok (.iconst 1, 1) ∧ decode cX6_hasPersons 15 = .ok (.goto 4, 3) ∧ decode cX6_hasPersons 18 = .ok (.iconst 0, 1) ∧ decode cX6_hasPersons 19 = .ok (.ireturn, 1) := by decide +kernel
theorem dX6_hasPersons_0 : decode cX6_hasPersons 0 = .ok (.iload_n 1, 1) := dkAa128.1
theorem dX6_hasPersons_1 : decode cX6_hasPersons 1 = .ok (.ifCond .lt 17, 3) := dkAa128.2.1
theorem dX6_hasPersons_4 : decode cX6_hasPersons 4 = .ok (.iload_n 1, 1) := dkAa128.2.2.1
theorem dX6_hasPersons_5 : decode cX6_hasPersons 5 = .ok (.iconst 1, 1) := dkAa128.2.2.2.1
theorem dX6_hasPersons_6 : decode cX6_hasPersons 6 = .ok (.aload_n 0, 1) := dkAa128.2.2.2.2.1
theorem dX6_hasPersons_7 : decode cX6_hasPersons 7 = .ok (.getfield 27, 3) := dkAa128.2.2.2.2.2.1
theorem dX6_hasPersons_10 : decode cX6_hasPersons 10 = .ok (.ishl, 1) := dkAa128.2.2.2.2.2.2.1
theorem dX6_hasPersons_11 : decode cX6_hasPersons 11 = .ok (.if_icmp .ge 7, 3) := dkAa128.2.2.2.2.2.2.2.1
theorem dX6_hasPersons_14 : decode cX6_hasPersons 14 = .ok (.iconst 1, 1) := dkAa128.2.2.2.2.2.2.2.2.1
theorem dX6_hasPersons_15 : decode cX6_hasPersons 15 = .ok (.goto 4, 3) := dkAa128.2.2.2.2.2.2.2.2.2.1
theorem dX6_hasPersons_18 : decode cX6_hasPersons 18 = .ok (.iconst 0, 1) := dkAa128.2.2.2.2.2.2.2.2.2.2.1
theorem dX6_hasPersons_19 : decode cX6_hasPersons 19 = .ok (.ireturn, 1) := dkAa128.2.2.2.2.2.2.2.2.2.2.2
set_option maxRecDepth 100000 in
theorem dkAa129 : decode cX6_hasVoice 0 = .ok (.aload_n 0, 1) ∧ decode cX6_hasVoice 1 = .ok (.iload_n 1, 1) ∧ decode cX6_hasVoice 2 = .ok (.invokevirtual 44, 3) ∧ decode cX6_hasVoice 5 = .ok (.bipush 9, 2) ∧ decode cX6_hasVoice 7 = .ok (.if_icmp .eq 7, 3) ∧ decode cX6_hasVoice 10 = .ok (.iconst 1, 1) ∧ decode cX6_hasVoice 11 = .ok (.goto 4, 3) ∧ decode cX6_hasVoice 14 = .ok (.iconst 0, 1) ∧ decode cX6_hasVoice 15 = .ok (.ireturn, 1) := by decide +kernel
theorem dX6_hasVoice_0 : decode cX6_hasVoice 0 = .ok (.aload_n 0, 1) := dkAa129.1
theorem dX6_hasVoice_1 : decode cX6_hasVoice 1 = .ok (.iload_n 1, 1) := dkAa129.2.1
theorem dX6_hasVoice_2 : decode cX6_hasVoice 2 = .ok (.invokevirtual 44, 3) := dkAa129.2.2.1
theorem dX6_hasVoice_5 : decode cX6_hasVoice 5 = .ok (.bipush 9, 2) := dkAa129.2.2.2.1
theorem dX6_hasVoice_7 : decode cX6_hasVoice 7 = .ok (.if_icmp .eq 7, 3) := dkAa129.2.2.2.2.1
theorem dX6_hasVoice_10 : decode cX6_hasVoice 10 = .ok (.iconst 1, 1) := dkAa129.2.2.2.2.2.1
theorem dX6_hasVoice_11 : decode cX6_hasVoice 11 = .ok (.goto 4, 3) := dkAa129.2.2.2.2.2.2.1
theorem dX6_hasVoice_14 : decode cX6_hasVoice 14 = .ok (.iconst 0, 1) := dkAa129.2.2.2.2.2.2.2.1
theorem dX6_hasVoice_15 : decode cX6_hasVoice 15 = .ok (.ireturn, 1) := dkAa129.2.2.2.2.2.2.2.2
set_option maxRecDepth 100000 in
theorem dkAa130 : decode cX6_hasDoor 0 = .ok (.iload_n 1, 1) ∧ decode cX6_hasDoor 1 = .ok (.ifCond .lt 15, 3) ∧ decode cX6_hasDoor 4 = .ok (.iload_n 1, 1) ∧ decode cX6_hasDoor 5 = .ok (.aload_n 0, 1) ∧ decode cX6_hasDoor 6 = .ok (.getfield 31, 3) ∧ decode cX6_hasDoor 9 = .ok (.if_icmp .ge 7, 3) ∧ decode cX6_hasDoor 12 = .ok (.iconst 1, 1) ∧ decode cX6_hasDoor 13 = .ok (.goto 4, 3) ∧ decode cX6_hasDoor 16 = .ok (.iconst 0, 1) ∧ decode cX6_hasDoor 17 = .ok (.ireturn, 1) := by decide +kernel
theorem dX6_hasDoor_0 : decode cX6_hasDoor 0 = .ok (.iload_n 1, 1) := dkAa130.1
theorem dX6_hasDoor_1 : decode cX6_hasDoor 1 = .ok (.ifCond .lt 15, 3) := dkAa130.2.1
theorem dX6_hasDoor_4 : decode cX6_hasDoor 4 = .ok (.iload_n 1, 1) := dkAa130.2.2.1
theorem dX6_hasDoor_5 : decode cX6_hasDoor 5 = .ok (.aload_n 0, 1) := dkAa130.2.2.2.1
theorem dX6_hasDoor_6 : decode cX6_hasDoor 6 = .ok (.getfield 31, 3) := dkAa130.2.2.2.2.1
theorem dX6_hasDoor_9 : decode cX6_hasDoor 9 = .ok (.if_icmp .ge 7, 3) := dkAa130.2.2.2.2.2.1
theorem dX6_hasDoor_12 : decode cX6_hasDoor 12 = .ok (.iconst 1, 1) := dkAa130.2.2.2.2.2.2.1
theorem dX6_hasDoor_13 : decode cX6_hasDoor 13 = .ok (.goto 4, 3) := dkAa130.2.2.2.2.2.2.2.1
theorem dX6_hasDoor_16 : decode cX6_hasDoor 16 = .ok (.iconst 0, 1) := dkAa130.2.2.2.2.2.2.2.2.1
theorem dX6_hasDoor_17 : decode cX6_hasDoor 17 = .ok (.ireturn, 1) := dkAa130.2.2.2.2.2.2.2.2.2
set_option maxRecDepth 100000 in
theorem dkAa131 : decode cX6_hasPart 0 = .ok (.iload_n 1, 1) ∧ decode cX6_hasPart 1 = .ok (.ifCond .lt 15, 3) ∧ decode cX6_hasPart 4 = .ok (.iload_n 1, 1) ∧ decode cX6_hasPart 5 = .ok (.aload_n 0, 1) ∧ decode cX6_hasPart 6 = .ok (.getfield 34, 3) ∧ decode cX6_hasPart 9 = .ok (.if_icmp .ge 7, 3) ∧ decode cX6_hasPart 12 = .ok (.iconst 1, 1) ∧ decode cX6_hasPart 13 = .ok (.goto 4, 3) ∧ decode cX6_hasPart 16 = .ok (.iconst 0, 1) ∧ decode cX6_hasPart 17 = .ok (.ireturn, 1) := by decide +kernel
theorem dX6_hasPart_0 : decode cX6_hasPart 0 = .ok (.iload_n 1, 1) := dkAa131.1
theorem dX6_hasPart_1 : decode cX6_hasPart 1 = .ok (.ifCond .lt 15, 3) := dkAa131.2.1
theorem dX6_hasPart_4 : decode cX6_hasPart 4 = .ok (.iload_n 1, 1) := dkAa131.2.2.1
theorem dX6_hasPart_5 : decode cX6_hasPart 5 = .ok (.aload_n 0, 1) := dkAa131.2.2.2.1
theorem dX6_hasPart_6 : decode cX6_hasPart 6 = .ok (.getfield 34, 3) := dkAa131.2.2.2.2.1
theorem dX6_hasPart_9 : decode cX6_hasPart 9 = .ok (.if_icmp .ge 7, 3) := dkAa131.2.2.2.2.2.1
theorem dX6_hasPart_12 : decode cX6_hasPart 12 = .ok (.iconst 1, 1) := dkAa131.2.2.2.2.2.2.1
theorem dX6_hasPart_13 : decode cX6_hasPart 13 = .ok (.goto 4, 3) := dkAa131.2.2.2.2.2.2.2.1
theorem dX6_hasPart_16 : decode cX6_hasPart 16 = .ok (.iconst 0, 1) := dkAa131.2.2.2.2.2.2.2.2.1
theorem dX6_hasPart_17 : decode cX6_hasPart 17 = .ok (.ireturn, 1) := dkAa131.2.2.2.2.2.2.2.2.2
set_option maxRecDepth 100000 in
theorem dkAa132 : decode cX6_hasWill 0 = .ok (.aload_n 0, 1) ∧ decode cX6_hasWill 1 = .ok (.getfield 37, 3) ∧ decode cX6_hasWill 4 = .ok (.iload_n 1, 1) ∧ decode cX6_hasWill 5 = .ok (.invokestatic 48, 3) ∧ decode cX6_hasWill 8 = .ok (.ireturn, 1) := by decide +kernel
theorem dX6_hasWill_0 : decode cX6_hasWill 0 = .ok (.aload_n 0, 1) := dkAa132.1
theorem dX6_hasWill_1 : decode cX6_hasWill 1 = .ok (.getfield 37, 3) := dkAa132.2.1
theorem dX6_hasWill_4 : decode cX6_hasWill 4 = .ok (.iload_n 1, 1) := dkAa132.2.2.1
theorem dX6_hasWill_5 : decode cX6_hasWill 5 = .ok (.invokestatic 48, 3) := dkAa132.2.2.2.1
theorem dX6_hasWill_8 : decode cX6_hasWill 8 = .ok (.ireturn, 1) := dkAa132.2.2.2.2
set_option maxRecDepth 100000 in
theorem dkAa133 : decode cX6_rangeOf 0 = .ok (.aload_n 0, 1) ∧ decode cX6_rangeOf 1 = .ok (.iload_n 1, 1) ∧ decode cX6_rangeOf 2 = .ok (.invokevirtual 40, 3) ∧ decode cX6_rangeOf 5 = .ok (.ifCond .eq 12, 3) ∧ decode cX6_rangeOf 8 = .ok (.aload_n 0, 1) ∧ decode cX6_rangeOf 9 = .ok (.getfield 9, 3) ∧ decode cX6_rangeOf 12 = .ok (.iload_n 1, 1) ∧ decode cX6_rangeOf 13 = .ok (.iaload, 1) ∧ decode cX6_rangeOf 14 = .ok (.goto 5, 3) ∧ decode cX6_rangeOf 17 = .ok (.bipush 9, 2) ∧ decode cX6_rangeOf 19 = .ok (.ireturn, 1) := by decide +kernel
theorem dX6_rangeOf_0 : decode cX6_rangeOf 0 = .ok (.aload_n 0, 1) := dkAa133.1
theorem dX6_rangeOf_1 : decode cX6_rangeOf 1 = .ok (.iload_n 1, 1) := dkAa133.2.1
theorem dX6_rangeOf_2 : decode cX6_rangeOf 2 = .ok (.invokevirtual 40, 3) := dkAa133.2.2.1
theorem dX6_rangeOf_5 : decode cX6_rangeOf 5 = .ok (.ifCond .eq 12, 3) := dkAa133.2.2.2.1
theorem dX6_rangeOf_8 : decode cX6_rangeOf 8 = .ok (.aload_n 0, 1) := dkAa133.2.2.2.2.1
theorem dX6_rangeOf_9 : decode cX6_rangeOf 9 = .ok (.getfield 9, 3) := dkAa133.2.2.2.2.2.1
theorem dX6_rangeOf_12 : decode cX6_rangeOf 12 = .ok (.iload_n 1, 1) := dkAa133.2.2.2.2.2.2.1
theorem dX6_rangeOf_13 : decode cX6_rangeOf 13 = .ok (.iaload, 1) := dkAa133.2.2.2.2.2.2.2.1
theorem dX6_rangeOf_14 : decode cX6_rangeOf 14 = .ok (.goto 5, 3) := dkAa133.2.2.2.2.2.2.2.2.1
theorem dX6_rangeOf_17 : decode cX6_rangeOf 17 = .ok (.bipush 9, 2) := dkAa133.2.2.2.2.2.2.2.2.2.1
theorem dX6_rangeOf_19 : decode cX6_rangeOf 19 = .ok (.ireturn, 1) := dkAa133.2.2.2.2.2.2.2.2.2.2
set_option maxRecDepth 100000 in
theorem dkAa134 : decode cX6_firstToldHeir 0 = .ok (.aload_n 0, 1) ∧ decode cX6_firstToldHeir 1 = .ok (.iload_n 1, 1) ∧ decode cX6_firstToldHeir 2 = .ok (.invokevirtual 40, 3) ∧ decode cX6_firstToldHeir 5 = .ok (.ifCond .eq 12, 3) ∧ decode cX6_firstToldHeir 8 = .ok (.aload_n 0, 1) ∧ decode cX6_firstToldHeir 9 = .ok (.getfield 15, 3) ∧ decode cX6_firstToldHeir 12 = .ok (.iload_n 1, 1) ∧ decode cX6_firstToldHeir 13 = .ok (.iaload, 1) ∧ decode cX6_firstToldHeir 14 = .ok (.goto 5, 3) ∧ decode cX6_firstToldHeir 17 = .ok (.bipush 9, 2) ∧ decode cX6_firstToldHeir 19 = .ok (.ireturn, 1) := by decide +kernel
theorem dX6_firstToldHeir_0 : decode cX6_firstToldHeir 0 = .ok (.aload_n 0, 1) := dkAa134.1
theorem dX6_firstToldHeir_1 : decode cX6_firstToldHeir 1 = .ok (.iload_n 1, 1) := dkAa134.2.1
theorem dX6_firstToldHeir_2 : decode cX6_firstToldHeir 2 = .ok (.invokevirtual 40, 3) := dkAa134.2.2.1
theorem dX6_firstToldHeir_5 : decode cX6_firstToldHeir 5 = .ok (.ifCond .eq 12, 3) := dkAa134.2.2.2.1
theorem dX6_firstToldHeir_8 : decode cX6_firstToldHeir 8 = .ok (.aload_n 0, 1) := dkAa134.2.2.2.2.1
theorem dX6_firstToldHeir_9 : decode cX6_firstToldHeir 9 = .ok (.getfield 15, 3) := dkAa134.2.2.2.2.2.1
theorem dX6_firstToldHeir_12 : decode cX6_firstToldHeir 12 = .ok (.iload_n 1, 1) := dkAa134.2.2.2.2.2.2.1
theorem dX6_firstToldHeir_13 : decode cX6_firstToldHeir 13 = .ok (.iaload, 1) := dkAa134.2.2.2.2.2.2.2.1
theorem dX6_firstToldHeir_14 : decode cX6_firstToldHeir 14 = .ok (.goto 5, 3) := dkAa134.2.2.2.2.2.2.2.2.1
theorem dX6_firstToldHeir_17 : decode cX6_firstToldHeir 17 = .ok (.bipush 9, 2) := dkAa134.2.2.2.2.2.2.2.2.2.1
theorem dX6_firstToldHeir_19 : decode cX6_firstToldHeir 19 = .ok (.ireturn, 1) := dkAa134.2.2.2.2.2.2.2.2.2.2
set_option maxRecDepth 100000 in
theorem dkAa135 : decode cX6_secondToldHeir 0 = .ok (.aload_n 0, 1) ∧ decode cX6_secondToldHeir 1 = .ok (.iload_n 1, 1) ∧ decode cX6_secondToldHeir 2 = .ok (.invokevirtual 40, 3) ∧ decode cX6_secondToldHeir 5 = .ok (.ifCond .eq 12, 3) ∧ decode cX6_secondToldHeir 8 = .ok (.aload_n 0, 1) ∧ decode cX6_secondToldHeir 9 = .ok (.getfield 18, 3) ∧ decode cX6_secondToldHeir 12 = .ok (.iload_n 1, 1) ∧ decode cX6_secondToldHeir 13 = .ok (.iaload, 1) ∧ decode cX6_secondToldHeir 14 = .ok (.goto 5, 3) ∧ decode cX6_secondToldHeir 17 = .ok (.bipush 9, 2) ∧ decode cX6_secondToldHeir 19 = .ok (.ireturn, 1) := by decide +kernel
theorem dX6_secondToldHeir_0 : decode cX6_secondToldHeir 0 = .ok (.aload_n 0, 1) := dkAa135.1
theorem dX6_secondToldHeir_1 : decode cX6_secondToldHeir 1 = .ok (.iload_n 1, 1) := dkAa135.2.1
theorem dX6_secondToldHeir_2 : decode cX6_secondToldHeir 2 = .ok (.invokevirtual 40, 3) := dkAa135.2.2.1
theorem dX6_secondToldHeir_5 : decode cX6_secondToldHeir 5 = .ok (.ifCond .eq 12, 3) := dkAa135.2.2.2.1
theorem dX6_secondToldHeir_8 : decode cX6_secondToldHeir 8 = .ok (.aload_n 0, 1) := dkAa135.2.2.2.2.1
theorem dX6_secondToldHeir_9 : decode cX6_secondToldHeir 9 = .ok (.getfield 18, 3) := dkAa135.2.2.2.2.2.1
theorem dX6_secondToldHeir_12 : decode cX6_secondToldHeir 12 = .ok (.iload_n 1, 1) := dkAa135.2.2.2.2.2.2.1
theorem dX6_secondToldHeir_13 : decode cX6_secondToldHeir 13 = .ok (.iaload, 1) := dkAa135.2.2.2.2.2.2.2.1
theorem dX6_secondToldHeir_14 : decode cX6_secondToldHeir 14 = .ok (.goto 5, 3) := dkAa135.2.2.2.2.2.2.2.2.1
theorem dX6_secondToldHeir_17 : decode cX6_secondToldHeir 17 = .ok (.bipush 9, 2) := dkAa135.2.2.2.2.2.2.2.2.2.1
theorem dX6_secondToldHeir_19 : decode cX6_secondToldHeir 19 = .ok (.ireturn, 1) := dkAa135.2.2.2.2.2.2.2.2.2.2
set_option maxRecDepth 100000 in
theorem dkAa136 : decode cX6_knownBy 0 = .ok (.aload_n 0, 1) ∧ decode cX6_knownBy 1 = .ok (.iload_n 1, 1) ∧ decode cX6_knownBy 2 = .ok (.invokevirtual 52, 3) ∧ decode cX6_knownBy 5 = .ok (.ifCond .eq 12, 3) ∧ decode cX6_knownBy 8 = .ok (.aload_n 0, 1) ∧ decode cX6_knownBy 9 = .ok (.getfield 21, 3) ∧ decode cX6_knownBy 12 = .ok (.iload_n 1, 1) ∧ decode cX6_knownBy 13 = .ok (.iaload, 1) ∧ decode cX6_knownBy 14 = .ok (.goto 4, 3) ∧ decode cX6_knownBy 17 = .ok (.iconst 0, 1) ∧ decode cX6_knownBy 18 = .ok (.ireturn, 1) := by decide +kernel
theorem dX6_knownBy_0 : decode cX6_knownBy 0 = .ok (.aload_n 0, 1) := dkAa136.1
theorem dX6_knownBy_1 : decode cX6_knownBy 1 = .ok (.iload_n 1, 1) := dkAa136.2.1
theorem dX6_knownBy_2 : decode cX6_knownBy 2 = .ok (.invokevirtual 52, 3) := dkAa136.2.2.1
theorem dX6_knownBy_5 : decode cX6_knownBy 5 = .ok (.ifCond .eq 12, 3) := dkAa136.2.2.2.1
theorem dX6_knownBy_8 : decode cX6_knownBy 8 = .ok (.aload_n 0, 1) := dkAa136.2.2.2.2.1
theorem dX6_knownBy_9 : decode cX6_knownBy 9 = .ok (.getfield 21, 3) := dkAa136.2.2.2.2.2.1
theorem dX6_knownBy_12 : decode cX6_knownBy 12 = .ok (.iload_n 1, 1) := dkAa136.2.2.2.2.2.2.1
theorem dX6_knownBy_13 : decode cX6_knownBy 13 = .ok (.iaload, 1) := dkAa136.2.2.2.2.2.2.2.1
theorem dX6_knownBy_14 : decode cX6_knownBy 14 = .ok (.goto 4, 3) := dkAa136.2.2.2.2.2.2.2.2.1
theorem dX6_knownBy_17 : decode cX6_knownBy 17 = .ok (.iconst 0, 1) := dkAa136.2.2.2.2.2.2.2.2.2.1
theorem dX6_knownBy_18 : decode cX6_knownBy 18 = .ok (.ireturn, 1) := dkAa136.2.2.2.2.2.2.2.2.2.2
set_option maxRecDepth 100000 in
theorem dkAa137 : decode cX6_voices 0 = .ok (.iconst 0, 1) ∧ decode cX6_voices 1 = .ok (.istore_n 1, 1) ∧ decode cX6_voices 2 = .ok (.iconst 0, 1) ∧ decode cX6_voices 3 = .ok (.istore_n 2, 1) ∧ decode cX6_voices 4 = .ok (.iload_n 2, 1) ∧ decode cX6_voices 5 = .ok (.aload_n 0, 1) ∧ decode cX6_voices 6 = .ok (.getfield 27, 3) ∧ decode cX6_voices 9 = .ok (.if_icmp .ge 23, 3) ∧ decode cX6_voices 12 = .ok (.aload_n 0, 1) ∧ decode cX6_voices 13 = .ok (.iload_n 2, 1) ∧ decode cX6_voices 14 = .ok (.invokevirtual 55, 3) ∧ decode cX6_voices 17 = .ok (.ifCond .eq 9, 3) := by decide +kernel
theorem dX6_voices_0 : decode cX6_voices 0 = .ok (.iconst 0, 1) := dkAa137.1
theorem dX6_voices_1 : decode cX6_voices 1 = .ok (.istore_n 1, 1) := dkAa137.2.1
theorem dX6_voices_2 : decode cX6_voices 2 = .ok (.iconst 0, 1) := dkAa137.2.2.1
theorem dX6_voices_3 : decode cX6_voices 3 = .ok (.istore_n 2, 1) := dkAa137.2.2.2.1
theorem dX6_voices_4 : decode cX6_voices 4 = .ok (.iload_n 2, 1) := dkAa137.2.2.2.2.1
theorem dX6_voices_5 : decode cX6_voices 5 = .ok (.aload_n 0, 1) := dkAa137.2.2.2.2.2.1
theorem dX6_voices_6 : decode cX6_voices 6 = .ok (.getfield 27, 3) := dkAa137.2.2.2.2.2.2.1
theorem dX6_voices_9 : decode cX6_voices 9 = .ok (.if_icmp .ge 23, 3) := dkAa137.2.2.2.2.2.2.2.1
theorem dX6_voices_12 : decode cX6_voices 12 = .ok (.aload_n 0, 1) := dkAa137.2.2.2.2.2.2.2.2.1
theorem dX6_voices_13 : decode cX6_voices 13 = .ok (.iload_n 2, 1) := dkAa137.2.2.2.2.2.2.2.2.2.1
theorem dX6_voices_14 : decode cX6_voices 14 = .ok (.invokevirtual 55, 3) := dkAa137.2.2.2.2.2.2.2.2.2.2.1
theorem dX6_voices_17 : decode cX6_voices 17 = .ok (.ifCond .eq 9, 3) := dkAa137.2.2.2.2.2.2.2.2.2.2.2
set_option maxRecDepth 100000 in
theorem dkAa138 : decode cX6_voices 20 = .ok (.iload_n 1, 1) ∧ decode cX6_voices 21 = .ok (.iconst 1, 1) ∧ decode cX6_voices 22 = .ok (.iload_n 2, 1) ∧ decode cX6_voices 23 = .ok (.ishl, 1) ∧ decode cX6_voices 24 = .ok (.ior, 1) ∧ decode cX6_voices 25 = .ok (.istore_n 1, 1) ∧ decode cX6_voices 26 = .ok (.iinc 2 1, 3) ∧ decode cX6_voices 29 = .ok (.goto (-25), 3) ∧ decode cX6_voices 32 = .ok (.iload_n 1, 1) ∧ decode cX6_voices 33 = .ok (.ireturn, 1) := by decide +kernel
theorem dX6_voices_20 : decode cX6_voices 20 = .ok (.iload_n 1, 1) := dkAa138.1
theorem dX6_voices_21 : decode cX6_voices 21 = .ok (.iconst 1, 1) := dkAa138.2.1
theorem dX6_voices_22 : decode cX6_voices 22 = .ok (.iload_n 2, 1) := dkAa138.2.2.1
theorem dX6_voices_23 : decode cX6_voices 23 = .ok (.ishl, 1) := dkAa138.2.2.2.1
theorem dX6_voices_24 : decode cX6_voices 24 = .ok (.ior, 1) := dkAa138.2.2.2.2.1
theorem dX6_voices_25 : decode cX6_voices 25 = .ok (.istore_n 1, 1) := dkAa138.2.2.2.2.2.1
theorem dX6_voices_26 : decode cX6_voices 26 = .ok (.iinc 2 1, 3) := dkAa138.2.2.2.2.2.2.1
theorem dX6_voices_29 : decode cX6_voices 29 = .ok (.goto (-25), 3) := dkAa138.2.2.2.2.2.2.2.1
theorem dX6_voices_32 : decode cX6_voices 32 = .ok (.iload_n 1, 1) := dkAa138.2.2.2.2.2.2.2.2.1
theorem dX6_voices_33 : decode cX6_voices 33 = .ok (.ireturn, 1) := dkAa138.2.2.2.2.2.2.2.2.2
set_option maxRecDepth 100000 in
theorem dkAa139 : decode cX6_openTo 0 = .ok (.iconst 0, 1) ∧ decode cX6_openTo 1 = .ok (.istore_n 2, 1) ∧ decode cX6_openTo 2 = .ok (.iconst 0, 1) ∧ decode cX6_openTo 3 = .ok (.istore_n 3, 1) ∧ decode cX6_openTo 4 = .ok (.iload_n 3, 1) ∧ decode cX6_openTo 5 = .ok (.aload_n 0, 1) ∧ decode cX6_openTo 6 = .ok (.getfield 31, 3) ∧ decode cX6_openTo 9 = .ok (.if_icmp .ge 28, 3) ∧ decode cX6_openTo 12 = .ok (.aload_n 0, 1) ∧ decode cX6_openTo 13 = .ok (.getfield 21, 3) ∧ decode cX6_openTo 16 = .ok (.iload_n 3, 1) ∧ decode cX6_openTo 17 = .ok (.iaload, 1) := by decide +kernel
theorem dX6_openTo_0 : decode cX6_openTo 0 = .ok (.iconst 0, 1) := dkAa139.1
theorem dX6_openTo_1 : decode cX6_openTo 1 = .ok (.istore_n 2, 1) := dkAa139.2.1
theorem dX6_openTo_2 : decode cX6_openTo 2 = .ok (.iconst 0, 1) := dkAa139.2.2.1
theorem dX6_openTo_3 : decode cX6_openTo 3 = .ok (.istore_n 3, 1) := dkAa139.2.2.2.1
theorem dX6_openTo_4 : decode cX6_openTo 4 = .ok (.iload_n 3, 1) := dkAa139.2.2.2.2.1
theorem dX6_openTo_5 : decode cX6_openTo 5 = .ok (.aload_n 0, 1) := dkAa139.2.2.2.2.2.1
theorem dX6_openTo_6 : decode cX6_openTo 6 = .ok (.getfield 31, 3) := dkAa139.2.2.2.2.2.2.1
theorem dX6_openTo_9 : decode cX6_openTo 9 = .ok (.if_icmp .ge 28, 3) := dkAa139.2.2.2.2.2.2.2.1
theorem dX6_openTo_12 : decode cX6_openTo 12 = .ok (.aload_n 0, 1) := dkAa139.2.2.2.2.2.2.2.2.1
theorem dX6_openTo_13 : decode cX6_openTo 13 = .ok (.getfield 21, 3) := dkAa139.2.2.2.2.2.2.2.2.2.1
theorem dX6_openTo_16 : decode cX6_openTo 16 = .ok (.iload_n 3, 1) := dkAa139.2.2.2.2.2.2.2.2.2.2.1
theorem dX6_openTo_17 : decode cX6_openTo 17 = .ok (.iaload, 1) := dkAa139.2.2.2.2.2.2.2.2.2.2.2
set_option maxRecDepth 100000 in
theorem dkAa140 : decode cX6_openTo 18 = .ok (.iload_n 1, 1) ∧ decode cX6_openTo 19 = .ok (.invokestatic 48, 3) ∧ decode cX6_openTo 22 = .ok (.ifCond .eq 9, 3) ∧ decode cX6_openTo 25 = .ok (.iload_n 2, 1) ∧ decode cX6_openTo 26 = .ok (.iconst 1, 1) ∧ decode cX6_openTo 27 = .ok (.iload_n 3, 1) ∧ decode cX6_openTo 28 = .ok (.ishl, 1) ∧ decode cX6_openTo 29 = .ok (.ior, 1) ∧ decode cX6_openTo 30 = .ok (.istore_n 2, 1) ∧ decode cX6_openTo 31 = .ok (.iinc 3 1, 3) ∧ decode cX6_openTo 34 = .ok (.goto (-30), 3) ∧ decode cX6_openTo 37 = .ok (.iload_n 2, 1) := by decide +kernel
theorem dX6_openTo_18 : decode cX6_openTo 18 = .ok (.iload_n 1, 1) := dkAa140.1
theorem dX6_openTo_19 : decode cX6_openTo 19 = .ok (.invokestatic 48, 3) := dkAa140.2.1
theorem dX6_openTo_22 : decode cX6_openTo 22 = .ok (.ifCond .eq 9, 3) := dkAa140.2.2.1
theorem dX6_openTo_25 : decode cX6_openTo 25 = .ok (.iload_n 2, 1) := dkAa140.2.2.2.1
theorem dX6_openTo_26 : decode cX6_openTo 26 = .ok (.iconst 1, 1) := dkAa140.2.2.2.2.1
theorem dX6_openTo_27 : decode cX6_openTo 27 = .ok (.iload_n 3, 1) := dkAa140.2.2.2.2.2.1
theorem dX6_openTo_28 : decode cX6_openTo 28 = .ok (.ishl, 1) := dkAa140.2.2.2.2.2.2.1
theorem dX6_openTo_29 : decode cX6_openTo 29 = .ok (.ior, 1) := dkAa140.2.2.2.2.2.2.2.1
theorem dX6_openTo_30 : decode cX6_openTo 30 = .ok (.istore_n 2, 1) := dkAa140.2.2.2.2.2.2.2.2.1
theorem dX6_openTo_31 : decode cX6_openTo 31 = .ok (.iinc 3 1, 3) := dkAa140.2.2.2.2.2.2.2.2.2.1
theorem dX6_openTo_34 : decode cX6_openTo 34 = .ok (.goto (-30), 3) := dkAa140.2.2.2.2.2.2.2.2.2.2.1
theorem dX6_openTo_37 : decode cX6_openTo 37 = .ok (.iload_n 2, 1) := dkAa140.2.2.2.2.2.2.2.2.2.2.2
theorem dX6_openTo_38 : decode cX6_openTo 38 = .ok (.ireturn, 1) := by decide +kernel
set_option maxRecDepth 100000 in
theorem dkAa141 : decode cX6_suits 0 = .ok (.aload_n 0, 1) ∧ decode cX6_suits 1 = .ok (.iload_n 1, 1) ∧ decode cX6_suits 2 = .ok (.invokevirtual 58, 3) ∧ decode cX6_suits 5 = .ok (.ifCond .eq 34, 3) ∧ decode cX6_suits 8 = .ok (.aload_n 0, 1) ∧ decode cX6_suits 9 = .ok (.iload_n 2, 1) ∧ decode cX6_suits 10 = .ok (.invokevirtual 55, 3) ∧ decode cX6_suits 13 = .ok (.ifCond .eq 26, 3) ∧ decode cX6_suits 16 = .ok (.aload_n 0, 1) ∧ decode cX6_suits 17 = .ok (.iload_n 2, 1) ∧ decode cX6_suits 18 = .ok (.invokevirtual 44, 3) ∧ decode cX6_suits 21 = .ok (.aload_n 0, 1) := by decide +kernel
theorem dX6_suits_0 : decode cX6_suits 0 = .ok (.aload_n 0, 1) := dkAa141.1
theorem dX6_suits_1 : decode cX6_suits 1 = .ok (.iload_n 1, 1) := dkAa141.2.1
theorem dX6_suits_2 : decode cX6_suits 2 = .ok (.invokevirtual 58, 3) := dkAa141.2.2.1
theorem dX6_suits_5 : decode cX6_suits 5 = .ok (.ifCond .eq 34, 3) := dkAa141.2.2.2.1
theorem dX6_suits_8 : decode cX6_suits 8 = .ok (.aload_n 0, 1) := dkAa141.2.2.2.2.1
theorem dX6_suits_9 : decode cX6_suits 9 = .ok (.iload_n 2, 1) := dkAa141.2.2.2.2.2.1
theorem dX6_suits_10 : decode cX6_suits 10 = .ok (.invokevirtual 55, 3) := dkAa141.2.2.2.2.2.2.1
theorem dX6_suits_13 : decode cX6_suits 13 = .ok (.ifCond .eq 26, 3) := dkAa141.2.2.2.2.2.2.2.1
theorem dX6_suits_16 : decode cX6_suits 16 = .ok (.aload_n 0, 1) := dkAa141.2.2.2.2.2.2.2.2.1
theorem dX6_suits_17 : decode cX6_suits 17 = .ok (.iload_n 2, 1) := dkAa141.2.2.2.2.2.2.2.2.2.1
theorem dX6_suits_18 : decode cX6_suits 18 = .ok (.invokevirtual 44, 3) := dkAa141.2.2.2.2.2.2.2.2.2.2.1
theorem dX6_suits_21 : decode cX6_suits 21 = .ok (.aload_n 0, 1) := dkAa141.2.2.2.2.2.2.2.2.2.2.2
set_option maxRecDepth 100000 in
theorem dkAa142 : decode cX6_suits 22 = .ok (.getfield 24, 3) ∧ decode cX6_suits 25 = .ok (.iload_n 1, 1) ∧ decode cX6_suits 26 = .ok (.iaload, 1) ∧ decode cX6_suits 27 = .ok (.isub, 1) ∧ decode cX6_suits 28 = .ok (.invokestatic 61, 3) ∧ decode cX6_suits 31 = .ok (.iconst 1, 1) ∧ decode cX6_suits 32 = .ok (.if_icmp .gt 7, 3) ∧ decode cX6_suits 35 = .ok (.iconst 1, 1) ∧ decode cX6_suits 36 = .ok (.goto 4, 3) ∧ decode cX6_suits 39 = .ok (.iconst 0, 1) ∧ decode cX6_suits 40 = .ok (.ireturn, 1) := by decide +kernel
theorem dX6_suits_22 : decode cX6_suits 22 = .ok (.getfield 24, 3) := dkAa142.1
theorem dX6_suits_25 : decode cX6_suits 25 = .ok (.iload_n 1, 1) := dkAa142.2.1
theorem dX6_suits_26 : decode cX6_suits 26 = .ok (.iaload, 1) := dkAa142.2.2.1
theorem dX6_suits_27 : decode cX6_suits 27 = .ok (.isub, 1) := dkAa142.2.2.2.1
theorem dX6_suits_28 : decode cX6_suits 28 = .ok (.invokestatic 61, 3) := dkAa142.2.2.2.2.1
theorem dX6_suits_31 : decode cX6_suits 31 = .ok (.iconst 1, 1) := dkAa142.2.2.2.2.2.1
theorem dX6_suits_32 : decode cX6_suits 32 = .ok (.if_icmp .gt 7, 3) := dkAa142.2.2.2.2.2.2.1
theorem dX6_suits_35 : decode cX6_suits 35 = .ok (.iconst 1, 1) := dkAa142.2.2.2.2.2.2.2.1
theorem dX6_suits_36 : decode cX6_suits 36 = .ok (.goto 4, 3) := dkAa142.2.2.2.2.2.2.2.2.1
theorem dX6_suits_39 : decode cX6_suits 39 = .ok (.iconst 0, 1) := dkAa142.2.2.2.2.2.2.2.2.2.1
theorem dX6_suits_40 : decode cX6_suits 40 = .ok (.ireturn, 1) := dkAa142.2.2.2.2.2.2.2.2.2.2
set_option maxRecDepth 100000 in
theorem dkAa143 : decode cX7_init 0 = .ok (.aload_n 0, 1) ∧ decode cX7_init 1 = .ok (.invokespecial 3, 3) ∧ decode cX7_init 4 = .ok (.aload_n 0, 1) ∧ decode cX7_init 5 = .ok (.bipush 20, 2) ∧ decode cX7_init 7 = .ok (.anewarray 9, 3) ∧ decode cX7_init 10 = .ok (.putfield 11, 3) ∧ decode cX7_init 13 = .ok (.iconst 0, 1) ∧ decode cX7_init 14 = .ok (.istore_n 1, 1) ∧ decode cX7_init 15 = .ok (.iload_n 1, 1) ∧ decode cX7_init 16 = .ok (.aload_n 0, 1) ∧ decode cX7_init 17 = .ok (.getfield 11, 3) ∧ decode cX7_init 20 = .ok (.arraylength, 1) := by decide +kernel
theorem dX7_init_0 : decode cX7_init 0 = .ok (.aload_n 0, 1) := dkAa143.1
theorem dX7_init_1 : decode cX7_init 1 = .ok (.invokespecial 3, 3) := dkAa143.2.1
theorem dX7_init_4 : decode cX7_init 4 = .ok (.aload_n 0, 1) := dkAa143.2.2.1
theorem dX7_init_5 : decode cX7_init 5 = .ok (.bipush 20, 2) := dkAa143.2.2.2.1
theorem dX7_init_7 : decode cX7_init 7 = .ok (.anewarray 9, 3) := dkAa143.2.2.2.2.1
theorem dX7_init_10 : decode cX7_init 10 = .ok (.putfield 11, 3) := dkAa143.2.2.2.2.2.1
theorem dX7_init_13 : decode cX7_init 13 = .ok (.iconst 0, 1) := dkAa143.2.2.2.2.2.2.1
theorem dX7_init_14 : decode cX7_init 14 = .ok (.istore_n 1, 1) := dkAa143.2.2.2.2.2.2.2.1
theorem dX7_init_15 : decode cX7_init 15 = .ok (.iload_n 1, 1) := dkAa143.2.2.2.2.2.2.2.2.1
theorem dX7_init_16 : decode cX7_init 16 = .ok (.aload_n 0, 1) := dkAa143.2.2.2.2.2.2.2.2.2.1
theorem dX7_init_17 : decode cX7_init 17 = .ok (.getfield 11, 3) := dkAa143.2.2.2.2.2.2.2.2.2.2.1
theorem dX7_init_20 : decode cX7_init 20 = .ok (.arraylength, 1) := dkAa143.2.2.2.2.2.2.2.2.2.2.2
set_option maxRecDepth 100000 in
theorem dkAa144 : decode cX7_init 21 = .ok (.if_icmp .ge 22, 3) ∧ decode cX7_init 24 = .ok (.aload_n 0, 1) ∧ decode cX7_init 25 = .ok (.getfield 11, 3) ∧ decode cX7_init 28 = .ok (.iload_n 1, 1) ∧ decode cX7_init 29 = .ok (.new 9, 3) ∧ decode cX7_init 32 = .ok (.dup, 1) ∧ decode cX7_init 33 = .ok (.invokespecial 17, 3) ∧ decode cX7_init 36 = .ok (.aastore, 1) ∧ decode cX7_init 37 = .ok (.iinc 1 1, 3) ∧ decode cX7_init 40 = .ok (.goto (-25), 3) ∧ decode cX7_init 43 = .ok (.return_, 1) := by decide +kernel
theorem dX7_init_21 : decode cX7_init 21 = .ok (.if_icmp .ge 22, 3) := dkAa144.1
theorem dX7_init_24 : decode cX7_init 24 = .ok (.aload_n 0, 1) := dkAa144.2.1
theorem dX7_init_25 : decode cX7_init 25 = .ok (.getfield 11, 3) := dkAa144.2.2.1
theorem dX7_init_28 : decode cX7_init 28 = .ok (.iload_n 1, 1) := dkAa144.2.2.2.1
theorem dX7_init_29 : decode cX7_init 29 = .ok (.new 9, 3) := dkAa144.2.2.2.2.1
theorem dX7_init_32 : decode cX7_init 32 = .ok (.dup, 1) := dkAa144.2.2.2.2.2.1
theorem dX7_init_33 : decode cX7_init 33 = .ok (.invokespecial 17, 3) := dkAa144.2.2.2.2.2.2.1
theorem dX7_init_36 : decode cX7_init 36 = .ok (.aastore, 1) := dkAa144.2.2.2.2.2.2.2.1
theorem dX7_init_37 : decode cX7_init 37 = .ok (.iinc 1 1, 3) := dkAa144.2.2.2.2.2.2.2.2.1
theorem dX7_init_40 : decode cX7_init 40 = .ok (.goto (-25), 3) := dkAa144.2.2.2.2.2.2.2.2.2.1
theorem dX7_init_43 : decode cX7_init 43 = .ok (.return_, 1) := dkAa144.2.2.2.2.2.2.2.2.2.2
set_option maxRecDepth 100000 in
theorem dkAa145 : decode cX7_forget 0 = .ok (.aload_n 0, 1) ∧ decode cX7_forget 1 = .ok (.iconst 0, 1) ∧ decode cX7_forget 2 = .ok (.putfield 18, 3) ∧ decode cX7_forget 5 = .ok (.aload_n 0, 1) ∧ decode cX7_forget 6 = .ok (.iconst 0, 1) ∧ decode cX7_forget 7 = .ok (.putfield 22, 3) ∧ decode cX7_forget 10 = .ok (.return_, 1) := by decide +kernel
theorem dX7_forget_0 : decode cX7_forget 0 = .ok (.aload_n 0, 1) := dkAa145.1
theorem dX7_forget_1 : decode cX7_forget 1 = .ok (.iconst 0, 1) := dkAa145.2.1
theorem dX7_forget_2 : decode cX7_forget 2 = .ok (.putfield 18, 3) := dkAa145.2.2.1
theorem dX7_forget_5 : decode cX7_forget 5 = .ok (.aload_n 0, 1) := dkAa145.2.2.2.1
theorem dX7_forget_6 : decode cX7_forget 6 = .ok (.iconst 0, 1) := dkAa145.2.2.2.2.1
theorem dX7_forget_7 : decode cX7_forget 7 = .ok (.putfield 22, 3) := dkAa145.2.2.2.2.2.1
theorem dX7_forget_10 : decode cX7_forget 10 = .ok (.return_, 1) := dkAa145.2.2.2.2.2.2
set_option maxRecDepth 100000 in
theorem dkAa146 : decode cX7_remember 0 = .ok (.aload_n 0, 1) ∧ decode cX7_remember 1 = .ok (.getfield 22, 3) ∧ decode cX7_remember 4 = .ok (.ifCond .lt 15, 3) ∧ decode cX7_remember 7 = .ok (.aload_n 0, 1) ∧ decode cX7_remember 8 = .ok (.getfield 22, 3) ∧ decode cX7_remember 11 = .ok (.aload_n 0, 1) ∧ decode cX7_remember 12 = .ok (.getfield 11, 3) ∧ decode cX7_remember 15 = .ok (.arraylength, 1) ∧ decode cX7_remember 16 = .ok (.if_icmp .lt 8, 3) ∧ decode cX7_remember 19 = .ok (.aload_n 0, 1) ∧ decode cX7_remember 20 = .ok (.iconst 0, 1) ∧ decode cX7_remember 21 = .ok (.putfield 22, 3) := by decide +kernel
theorem dX7_remember_0 : decode cX7_remember 0 = .ok (.aload_n 0, 1) := dkAa146.1
theorem dX7_remember_1 : decode cX7_remember 1 = .ok (.getfield 22, 3) := dkAa146.2.1
theorem dX7_remember_4 : decode cX7_remember 4 = .ok (.ifCond .lt 15, 3) := dkAa146.2.2.1
theorem dX7_remember_7 : decode cX7_remember 7 = .ok (.aload_n 0, 1) := dkAa146.2.2.2.1
theorem dX7_remember_8 : decode cX7_remember 8 = .ok (.getfield 22, 3) := dkAa146.2.2.2.2.1
theorem dX7_remember_11 : decode cX7_remember 11 = .ok (.aload_n 0, 1) := dkAa146.2.2.2.2.2.1
theorem dX7_remember_12 : decode cX7_remember 12 = .ok (.getfield 11, 3) := dkAa146.2.2.2.2.2.2.1
theorem dX7_remember_15 : decode cX7_remember 15 = .ok (.arraylength, 1) := dkAa146.2.2.2.2.2.2.2.1
theorem dX7_remember_16 : decode cX7_remember 16 = .ok (.if_icmp .lt 8, 3) := dkAa146.2.2.2.2.2.2.2.2.1
theorem dX7_remember_19 : decode cX7_remember 19 = .ok (.aload_n 0, 1) := dkAa146.2.2.2.2.2.2.2.2.2.1
theorem dX7_remember_20 : decode cX7_remember 20 = .ok (.iconst 0, 1) := dkAa146.2.2.2.2.2.2.2.2.2.2.1
theorem dX7_remember_21 : decode cX7_remember 21 = .ok (.putfield 22, 3) := dkAa146.2.2.2.2.2.2.2.2.2.2.2
set_option maxRecDepth 100000 in
theorem dkAa147 : decode cX7_remember 24 = .ok (.aload_n 0, 1) ∧ decode cX7_remember 25 = .ok (.getfield 11, 3) ∧ decode cX7_remember 28 = .ok (.aload_n 0, 1) ∧ decode cX7_remember 29 = .ok (.getfield 22, 3) ∧ decode cX7_remember 32 = .ok (.aaload, 1) ∧ decode cX7_remember 33 = .ok (.aload_n 1, 1) ∧ decode cX7_remember 34 = .ok (.invokevirtual 25, 3) ∧ decode cX7_remember 37 = .ok (.aload_n 0, 1) ∧ decode cX7_remember 38 = .ok (.dup, 1) ∧ decode cX7_remember 39 = .ok (.getfield 22, 3) ∧ decode cX7_remember 42 = .ok (.iconst 1, 1) ∧ decode cX7_remember 43 = .ok (.iadd, 1) := by decide +kernel
theorem dX7_remember_24 : decode cX7_remember 24 = .ok (.aload_n 0, 1) := dkAa147.1
theorem dX7_remember_25 : decode cX7_remember 25 = .ok (.getfield 11, 3) := dkAa147.2.1
theorem dX7_remember_28 : decode cX7_remember 28 = .ok (.aload_n 0, 1) := dkAa147.2.2.1
theorem dX7_remember_29 : decode cX7_remember 29 = .ok (.getfield 22, 3) := dkAa147.2.2.2.1
theorem dX7_remember_32 : decode cX7_remember 32 = .ok (.aaload, 1) := dkAa147.2.2.2.2.1
theorem dX7_remember_33 : decode cX7_remember 33 = .ok (.aload_n 1, 1) := dkAa147.2.2.2.2.2.1
theorem dX7_remember_34 : decode cX7_remember 34 = .ok (.invokevirtual 25, 3) := dkAa147.2.2.2.2.2.2.1
theorem dX7_remember_37 : decode cX7_remember 37 = .ok (.aload_n 0, 1) := dkAa147.2.2.2.2.2.2.2.1
theorem dX7_remember_38 : decode cX7_remember 38 = .ok (.dup, 1) := dkAa147.2.2.2.2.2.2.2.2.1
theorem dX7_remember_39 : decode cX7_remember 39 = .ok (.getfield 22, 3) := dkAa147.2.2.2.2.2.2.2.2.2.1
theorem dX7_remember_42 : decode cX7_remember 42 = .ok (.iconst 1, 1) := dkAa147.2.2.2.2.2.2.2.2.2.2.1
theorem dX7_remember_43 : decode cX7_remember 43 = .ok (.iadd, 1) := dkAa147.2.2.2.2.2.2.2.2.2.2.2
set_option maxRecDepth 100000 in
theorem dkAa148 : decode cX7_remember 44 = .ok (.putfield 22, 3) ∧ decode cX7_remember 47 = .ok (.aload_n 0, 1) ∧ decode cX7_remember 48 = .ok (.aload_n 0, 1) ∧ decode cX7_remember 49 = .ok (.getfield 18, 3) ∧ decode cX7_remember 52 = .ok (.iconst 1, 1) ∧ decode cX7_remember 53 = .ok (.iadd, 1) ∧ decode cX7_remember 54 = .ok (.aload_n 0, 1) ∧ decode cX7_remember 55 = .ok (.getfield 11, 3) ∧ decode cX7_remember 58 = .ok (.arraylength, 1) ∧ decode cX7_remember 59 = .ok (.invokestatic 29, 3) ∧ decode cX7_remember 62 = .ok (.putfield 18, 3) ∧ decode cX7_remember 65 = .ok (.return_, 1) := by decide +kernel
theorem dX7_remember_44 : decode cX7_remember 44 = .ok (.putfield 22, 3) := dkAa148.1
theorem dX7_remember_47 : decode cX7_remember 47 = .ok (.aload_n 0, 1) := dkAa148.2.1
theorem dX7_remember_48 : decode cX7_remember 48 = .ok (.aload_n 0, 1) := dkAa148.2.2.1
theorem dX7_remember_49 : decode cX7_remember 49 = .ok (.getfield 18, 3) := dkAa148.2.2.2.1
theorem dX7_remember_52 : decode cX7_remember 52 = .ok (.iconst 1, 1) := dkAa148.2.2.2.2.1
theorem dX7_remember_53 : decode cX7_remember 53 = .ok (.iadd, 1) := dkAa148.2.2.2.2.2.1
theorem dX7_remember_54 : decode cX7_remember 54 = .ok (.aload_n 0, 1) := dkAa148.2.2.2.2.2.2.1
theorem dX7_remember_55 : decode cX7_remember 55 = .ok (.getfield 11, 3) := dkAa148.2.2.2.2.2.2.2.1
theorem dX7_remember_58 : decode cX7_remember 58 = .ok (.arraylength, 1) := dkAa148.2.2.2.2.2.2.2.2.1
theorem dX7_remember_59 : decode cX7_remember 59 = .ok (.invokestatic 29, 3) := dkAa148.2.2.2.2.2.2.2.2.2.1
theorem dX7_remember_62 : decode cX7_remember 62 = .ok (.putfield 18, 3) := dkAa148.2.2.2.2.2.2.2.2.2.2.1
theorem dX7_remember_65 : decode cX7_remember 65 = .ok (.return_, 1) := dkAa148.2.2.2.2.2.2.2.2.2.2.2
set_option maxRecDepth 100000 in
theorem dkAa149 : decode cX7_bringBack 0 = .ok (.aload_n 0, 1) ∧ decode cX7_bringBack 1 = .ok (.getfield 18, 3) ∧ decode cX7_bringBack 4 = .ok (.ifCond .ne 5, 3) ∧ decode cX7_bringBack 7 = .ok (.iconst 0, 1) ∧ decode cX7_bringBack 8 = .ok (.ireturn, 1) ∧ decode cX7_bringBack 9 = .ok (.aload_n 0, 1) ∧ decode cX7_bringBack 10 = .ok (.aload_n 0, 1) ∧ decode cX7_bringBack 11 = .ok (.getfield 22, 3) ∧ decode cX7_bringBack 14 = .ok (.ifCond .le 15, 3) ∧ decode cX7_bringBack 17 = .ok (.aload_n 0, 1) ∧ decode cX7_bringBack 18 = .ok (.getfield 22, 3) ∧ decode cX7_bringBack 21 = .ok (.aload_n 0, 1) := by decide +kernel
theorem dX7_bringBack_0 : decode cX7_bringBack 0 = .ok (.aload_n 0, 1) := dkAa149.1
theorem dX7_bringBack_1 : decode cX7_bringBack 1 = .ok (.getfield 18, 3) := dkAa149.2.1
theorem dX7_bringBack_4 : decode cX7_bringBack 4 = .ok (.ifCond .ne 5, 3) := dkAa149.2.2.1
theorem dX7_bringBack_7 : decode cX7_bringBack 7 = .ok (.iconst 0, 1) := dkAa149.2.2.2.1
theorem dX7_bringBack_8 : decode cX7_bringBack 8 = .ok (.ireturn, 1) := dkAa149.2.2.2.2.1
theorem dX7_bringBack_9 : decode cX7_bringBack 9 = .ok (.aload_n 0, 1) := dkAa149.2.2.2.2.2.1
theorem dX7_bringBack_10 : decode cX7_bringBack 10 = .ok (.aload_n 0, 1) := dkAa149.2.2.2.2.2.2.1
theorem dX7_bringBack_11 : decode cX7_bringBack 11 = .ok (.getfield 22, 3) := dkAa149.2.2.2.2.2.2.2.1
theorem dX7_bringBack_14 : decode cX7_bringBack 14 = .ok (.ifCond .le 15, 3) := dkAa149.2.2.2.2.2.2.2.2.1
theorem dX7_bringBack_17 : decode cX7_bringBack 17 = .ok (.aload_n 0, 1) := dkAa149.2.2.2.2.2.2.2.2.2.1
theorem dX7_bringBack_18 : decode cX7_bringBack 18 = .ok (.getfield 22, 3) := dkAa149.2.2.2.2.2.2.2.2.2.2.1
theorem dX7_bringBack_21 : decode cX7_bringBack 21 = .ok (.aload_n 0, 1) := dkAa149.2.2.2.2.2.2.2.2.2.2.2
set_option maxRecDepth 100000 in
theorem dkAa150 : decode cX7_bringBack 22 = .ok (.getfield 11, 3) ∧ decode cX7_bringBack 25 = .ok (.arraylength, 1) ∧ decode cX7_bringBack 26 = .ok (.if_icmp .le 13, 3) ∧ decode cX7_bringBack 29 = .ok (.aload_n 0, 1) ∧ decode cX7_bringBack 30 = .ok (.getfield 11, 3) ∧ decode cX7_bringBack 33 = .ok (.arraylength, 1) ∧ decode cX7_bringBack 34 = .ok (.iconst 1, 1) ∧ decode cX7_bringBack 35 = .ok (.isub, 1) ∧ decode cX7_bringBack 36 = .ok (.goto 9, 3) ∧ decode cX7_bringBack 39 = .ok (.aload_n 0, 1) ∧ decode cX7_bringBack 40 = .ok (.getfield 22, 3) ∧ decode cX7_bringBack 43 = .ok (.iconst 1, 1) := by decide +kernel
theorem dX7_bringBack_22 : decode cX7_bringBack 22 = .ok (.getfield 11, 3) := dkAa150.1
theorem dX7_bringBack_25 : decode cX7_bringBack 25 = .ok (.arraylength, 1) := dkAa150.2.1
theorem dX7_bringBack_26 : decode cX7_bringBack 26 = .ok (.if_icmp .le 13, 3) := dkAa150.2.2.1
theorem dX7_bringBack_29 : decode cX7_bringBack 29 = .ok (.aload_n 0, 1) := dkAa150.2.2.2.1
theorem dX7_bringBack_30 : decode cX7_bringBack 30 = .ok (.getfield 11, 3) := dkAa150.2.2.2.2.1
theorem dX7_bringBack_33 : decode cX7_bringBack 33 = .ok (.arraylength, 1) := dkAa150.2.2.2.2.2.1
theorem dX7_bringBack_34 : decode cX7_bringBack 34 = .ok (.iconst 1, 1) := dkAa150.2.2.2.2.2.2.1
theorem dX7_bringBack_35 : decode cX7_bringBack 35 = .ok (.isub, 1) := dkAa150.2.2.2.2.2.2.2.1
theorem dX7_bringBack_36 : decode cX7_bringBack 36 = .ok (.goto 9, 3) := dkAa150.2.2.2.2.2.2.2.2.1
theorem dX7_bringBack_39 : decode cX7_bringBack 39 = .ok (.aload_n 0, 1) := dkAa150.2.2.2.2.2.2.2.2.2.1
theorem dX7_bringBack_40 : decode cX7_bringBack 40 = .ok (.getfield 22, 3) := dkAa150.2.2.2.2.2.2.2.2.2.2.1
theorem dX7_bringBack_43 : decode cX7_bringBack 43 = .ok (.iconst 1, 1) := dkAa150.2.2.2.2.2.2.2.2.2.2.2
set_option maxRecDepth 100000 in
theorem dkAa151 : decode cX7_bringBack 44 = .ok (.isub, 1) ∧ decode cX7_bringBack 45 = .ok (.putfield 22, 3) ∧ decode cX7_bringBack 48 = .ok (.aload_n 1, 1) ∧ decode cX7_bringBack 49 = .ok (.aload_n 0, 1) ∧ decode cX7_bringBack 50 = .ok (.getfield 11, 3) ∧ decode cX7_bringBack 53 = .ok (.aload_n 0, 1) ∧ decode cX7_bringBack 54 = .ok (.getfield 22, 3) ∧ decode cX7_bringBack 57 = .ok (.aaload, 1) ∧ decode cX7_bringBack 58 = .ok (.invokevirtual 25, 3) ∧ decode cX7_bringBack 61 = .ok (.aload_n 0, 1) ∧ decode cX7_bringBack 62 = .ok (.dup, 1) ∧ decode cX7_bringBack 63 = .ok (.getfield 18, 3) := by decide +kernel
theorem dX7_bringBack_44 : decode cX7_bringBack 44 = .ok (.isub, 1) := dkAa151.1
theorem dX7_bringBack_45 : decode cX7_bringBack 45 = .ok (.putfield 22, 3) := dkAa151.2.1
theorem dX7_bringBack_48 : decode cX7_bringBack 48 = .ok (.aload_n 1, 1) := dkAa151.2.2.1
theorem dX7_bringBack_49 : decode cX7_bringBack 49 = .ok (.aload_n 0, 1) := dkAa151.2.2.2.1
theorem dX7_bringBack_50 : decode cX7_bringBack 50 = .ok (.getfield 11, 3) := dkAa151.2.2.2.2.1
theorem dX7_bringBack_53 : decode cX7_bringBack 53 = .ok (.aload_n 0, 1) := dkAa151.2.2.2.2.2.1
theorem dX7_bringBack_54 : decode cX7_bringBack 54 = .ok (.getfield 22, 3) := dkAa151.2.2.2.2.2.2.1
theorem dX7_bringBack_57 : decode cX7_bringBack 57 = .ok (.aaload, 1) := dkAa151.2.2.2.2.2.2.2.1
theorem dX7_bringBack_58 : decode cX7_bringBack 58 = .ok (.invokevirtual 25, 3) := dkAa151.2.2.2.2.2.2.2.2.1
theorem dX7_bringBack_61 : decode cX7_bringBack 61 = .ok (.aload_n 0, 1) := dkAa151.2.2.2.2.2.2.2.2.2.1
theorem dX7_bringBack_62 : decode cX7_bringBack 62 = .ok (.dup, 1) := dkAa151.2.2.2.2.2.2.2.2.2.2.1
theorem dX7_bringBack_63 : decode cX7_bringBack 63 = .ok (.getfield 18, 3) := dkAa151.2.2.2.2.2.2.2.2.2.2.2
set_option maxRecDepth 100000 in
theorem dkAa152 : decode cX7_bringBack 66 = .ok (.iconst 1, 1) ∧ decode cX7_bringBack 67 = .ok (.isub, 1) ∧ decode cX7_bringBack 68 = .ok (.putfield 18, 3) ∧ decode cX7_bringBack 71 = .ok (.iconst 1, 1) ∧ decode cX7_bringBack 72 = .ok (.ireturn, 1) := by decide +kernel
theorem dX7_bringBack_66 : decode cX7_bringBack 66 = .ok (.iconst 1, 1) := dkAa152.1
theorem dX7_bringBack_67 : decode cX7_bringBack 67 = .ok (.isub, 1) := dkAa152.2.1
theorem dX7_bringBack_68 : decode cX7_bringBack 68 = .ok (.putfield 18, 3) := dkAa152.2.2.1
theorem dX7_bringBack_71 : decode cX7_bringBack 71 = .ok (.iconst 1, 1) := dkAa152.2.2.2.1
theorem dX7_bringBack_72 : decode cX7_bringBack 72 = .ok (.ireturn, 1) := dkAa152.2.2.2.2
set_option maxRecDepth 100000 in
theorem dkAa153 : decode cX8_init 0 = .ok (.aload_n 0, 1) ∧ decode cX8_init 1 = .ok (.invokespecial 3, 3) ∧ decode cX8_init 4 = .ok (.aload_n 0, 1) ∧ decode cX8_init 5 = .ok (.iconst (-1), 1) ∧ decode cX8_init 6 = .ok (.putfield 9, 3) ∧ decode cX8_init 9 = .ok (.aload_n 0, 1) ∧ decode cX8_init 10 = .ok (.sipush 240, 3) ∧ decode cX8_init 13 = .ok (.newarray .int, 2) ∧ decode cX8_init 15 = .ok (.putfield 15, 3) ∧ decode cX8_init 18 = .ok (.return_, 1) := by decide +kernel
theorem dX8_init_0 : decode cX8_init 0 = .ok (.aload_n 0, 1) := dkAa153.1
theorem dX8_init_1 : decode cX8_init 1 = .ok (.invokespecial 3, 3) := dkAa153.2.1
theorem dX8_init_4 : decode cX8_init 4 = .ok (.aload_n 0, 1) := dkAa153.2.2.1
theorem dX8_init_5 : decode cX8_init 5 = .ok (.iconst (-1), 1) := dkAa153.2.2.2.1
theorem dX8_init_6 : decode cX8_init 6 = .ok (.putfield 9, 3) := dkAa153.2.2.2.2.1
theorem dX8_init_9 : decode cX8_init 9 = .ok (.aload_n 0, 1) := dkAa153.2.2.2.2.2.1
theorem dX8_init_10 : decode cX8_init 10 = .ok (.sipush 240, 3) := dkAa153.2.2.2.2.2.2.1
theorem dX8_init_13 : decode cX8_init 13 = .ok (.newarray .int, 2) := dkAa153.2.2.2.2.2.2.2.1
theorem dX8_init_15 : decode cX8_init 15 = .ok (.putfield 15, 3) := dkAa153.2.2.2.2.2.2.2.2.1
theorem dX8_init_18 : decode cX8_init 18 = .ok (.return_, 1) := dkAa153.2.2.2.2.2.2.2.2.2
set_option maxRecDepth 100000 in
theorem dkAa154 : decode cX8_add 0 = .ok (.aload_n 0, 1) ∧ decode cX8_add 1 = .ok (.getfield 19, 3) ∧ decode cX8_add 4 = .ok (.aload_n 0, 1) ∧ decode cX8_add 5 = .ok (.getfield 15, 3) ∧ decode cX8_add 8 = .ok (.arraylength, 1) ∧ decode cX8_add 9 = .ok (.if_icmp .lt 5, 3) ∧ decode cX8_add 12 = .ok (.iconst 0, 1) ∧ decode cX8_add 13 = .ok (.ireturn, 1) ∧ decode cX8_add 14 = .ok (.aload_n 0, 1) ∧ decode cX8_add 15 = .ok (.getfield 15, 3) ∧ decode cX8_add 18 = .ok (.aload_n 0, 1) ∧ decode cX8_add 19 = .ok (.getfield 19, 3) := by decide +kernel
theorem dX8_add_0 : decode cX8_add 0 = .ok (.aload_n 0, 1) := dkAa154.1
theorem dX8_add_1 : decode cX8_add 1 = .ok (.getfield 19, 3) := dkAa154.2.1
theorem dX8_add_4 : decode cX8_add 4 = .ok (.aload_n 0, 1) := dkAa154.2.2.1
theorem dX8_add_5 : decode cX8_add 5 = .ok (.getfield 15, 3) := dkAa154.2.2.2.1
theorem dX8_add_8 : decode cX8_add 8 = .ok (.arraylength, 1) := dkAa154.2.2.2.2.1
theorem dX8_add_9 : decode cX8_add 9 = .ok (.if_icmp .lt 5, 3) := dkAa154.2.2.2.2.2.1
theorem dX8_add_12 : decode cX8_add 12 = .ok (.iconst 0, 1) := dkAa154.2.2.2.2.2.2.1
theorem dX8_add_13 : decode cX8_add 13 = .ok (.ireturn, 1) := dkAa154.2.2.2.2.2.2.2.1
theorem dX8_add_14 : decode cX8_add 14 = .ok (.aload_n 0, 1) := dkAa154.2.2.2.2.2.2.2.2.1
theorem dX8_add_15 : decode cX8_add 15 = .ok (.getfield 15, 3) := dkAa154.2.2.2.2.2.2.2.2.2.1
theorem dX8_add_18 : decode cX8_add 18 = .ok (.aload_n 0, 1) := dkAa154.2.2.2.2.2.2.2.2.2.2.1
theorem dX8_add_19 : decode cX8_add 19 = .ok (.getfield 19, 3) := dkAa154.2.2.2.2.2.2.2.2.2.2.2
set_option maxRecDepth 100000 in
theorem dkAa155 : decode cX8_add 22 = .ok (.iload_n 1, 1) ∧ decode cX8_add 23 = .ok (.iastore, 1) ∧ decode cX8_add 24 = .ok (.aload_n 0, 1) ∧ decode cX8_add 25 = .ok (.dup, 1) ∧ decode cX8_add 26 = .ok (.getfield 19, 3) ∧ decode cX8_add 29 = .ok (.iconst 1, 1) ∧ decode cX8_add 30 = .ok (.iadd, 1) ∧ decode cX8_add 31 = .ok (.putfield 19, 3) ∧ decode cX8_add 34 = .ok (.iconst 1, 1) ∧ decode cX8_add 35 = .ok (.ireturn, 1) := by decide +kernel
theorem dX8_add_22 : decode cX8_add 22 = .ok (.iload_n 1, 1) := dkAa155.1
theorem dX8_add_23 : decode cX8_add 23 = .ok (.iastore, 1) := dkAa155.2.1
theorem dX8_add_24 : decode cX8_add 24 = .ok (.aload_n 0, 1) := dkAa155.2.2.1
theorem dX8_add_25 : decode cX8_add 25 = .ok (.dup, 1) := dkAa155.2.2.2.1
theorem dX8_add_26 : decode cX8_add 26 = .ok (.getfield 19, 3) := dkAa155.2.2.2.2.1
theorem dX8_add_29 : decode cX8_add 29 = .ok (.iconst 1, 1) := dkAa155.2.2.2.2.2.1
theorem dX8_add_30 : decode cX8_add 30 = .ok (.iadd, 1) := dkAa155.2.2.2.2.2.2.1
theorem dX8_add_31 : decode cX8_add 31 = .ok (.putfield 19, 3) := dkAa155.2.2.2.2.2.2.2.1
theorem dX8_add_34 : decode cX8_add 34 = .ok (.iconst 1, 1) := dkAa155.2.2.2.2.2.2.2.2.1
theorem dX8_add_35 : decode cX8_add 35 = .ok (.ireturn, 1) := dkAa155.2.2.2.2.2.2.2.2.2
set_option maxRecDepth 100000 in
theorem dkAa156 : decode cX8_readInto 0 = .ok (.aload_n 1, 1) ∧ decode cX8_readInto 1 = .ok (.invokevirtual 22, 3) ∧ decode cX8_readInto 4 = .ok (.aload_n 0, 1) ∧ decode cX8_readInto 5 = .ok (.iconst 0, 1) ∧ decode cX8_readInto 6 = .ok (.putfield 27, 3) ∧ decode cX8_readInto 9 = .ok (.aload_n 0, 1) ∧ decode cX8_readInto 10 = .ok (.iconst 0, 1) ∧ decode cX8_readInto 11 = .ok (.putfield 30, 3) ∧ decode cX8_readInto 14 = .ok (.aload_n 0, 1) ∧ decode cX8_readInto 15 = .ok (.iconst (-1), 1) ∧ decode cX8_readInto 16 = .ok (.putfield 9, 3) ∧ decode cX8_readInto 19 = .ok (.aload_n 0, 1) := by decide +kernel
theorem dX8_readInto_0 : decode cX8_readInto 0 = .ok (.aload_n 1, 1) := dkAa156.1
theorem dX8_readInto_1 : decode cX8_readInto 1 = .ok (.invokevirtual 22, 3) := dkAa156.2.1
theorem dX8_readInto_4 : decode cX8_readInto 4 = .ok (.aload_n 0, 1) := dkAa156.2.2.1
theorem dX8_readInto_5 : decode cX8_readInto 5 = .ok (.iconst 0, 1) := dkAa156.2.2.2.1
theorem dX8_readInto_6 : decode cX8_readInto 6 = .ok (.putfield 27, 3) := dkAa156.2.2.2.2.1
theorem dX8_readInto_9 : decode cX8_readInto 9 = .ok (.aload_n 0, 1) := dkAa156.2.2.2.2.2.1
theorem dX8_readInto_10 : decode cX8_readInto 10 = .ok (.iconst 0, 1) := dkAa156.2.2.2.2.2.2.1
theorem dX8_readInto_11 : decode cX8_readInto 11 = .ok (.putfield 30, 3) := dkAa156.2.2.2.2.2.2.2.1
theorem dX8_readInto_14 : decode cX8_readInto 14 = .ok (.aload_n 0, 1) := dkAa156.2.2.2.2.2.2.2.2.1
theorem dX8_readInto_15 : decode cX8_readInto 15 = .ok (.iconst (-1), 1) := dkAa156.2.2.2.2.2.2.2.2.2.1
theorem dX8_readInto_16 : decode cX8_readInto 16 = .ok (.putfield 9, 3) := dkAa156.2.2.2.2.2.2.2.2.2.2.1
theorem dX8_readInto_19 : decode cX8_readInto 19 = .ok (.aload_n 0, 1) := dkAa156.2.2.2.2.2.2.2.2.2.2.2
set_option maxRecDepth 100000 in
theorem dkAa157 : decode cX8_readInto 20 = .ok (.invokevirtual 33, 3) ∧ decode cX8_readInto 23 = .ok (.iconst 0, 1) ∧ decode cX8_readInto 24 = .ok (.istore_n 2, 1) ∧ decode cX8_readInto 25 = .ok (.iload_n 2, 1) ∧ decode cX8_readInto 26 = .ok (.sipush 240, 3) ∧ decode cX8_readInto 29 = .ok (.if_icmp .ge 36, 3) ∧ decode cX8_readInto 32 = .ok (.aload_n 0, 1) ∧ decode cX8_readInto 33 = .ok (.getfield 27, 3) ∧ decode cX8_readInto 36 = .ok (.aload_n 0, 1) ∧ decode cX8_readInto 37 = .ok (.getfield 19, 3) ∧ decode cX8_readInto 40 = .ok (.if_icmp .ge 25, 3) ∧ decode cX8_readInto 43 = .ok (.aload_n 0, 1) := by decide +kernel
theorem dX8_readInto_20 : decode cX8_readInto 20 = .ok (.invokevirtual 33, 3) := dkAa157.1
theorem dX8_readInto_23 : decode cX8_readInto 23 = .ok (.iconst 0, 1) := dkAa157.2.1
theorem dX8_readInto_24 : decode cX8_readInto 24 = .ok (.istore_n 2, 1) := dkAa157.2.2.1
theorem dX8_readInto_25 : decode cX8_readInto 25 = .ok (.iload_n 2, 1) := dkAa157.2.2.2.1
theorem dX8_readInto_26 : decode cX8_readInto 26 = .ok (.sipush 240, 3) := dkAa157.2.2.2.2.1
theorem dX8_readInto_29 : decode cX8_readInto 29 = .ok (.if_icmp .ge 36, 3) := dkAa157.2.2.2.2.2.1
theorem dX8_readInto_32 : decode cX8_readInto 32 = .ok (.aload_n 0, 1) := dkAa157.2.2.2.2.2.2.1
theorem dX8_readInto_33 : decode cX8_readInto 33 = .ok (.getfield 27, 3) := dkAa157.2.2.2.2.2.2.2.1
theorem dX8_readInto_36 : decode cX8_readInto 36 = .ok (.aload_n 0, 1) := dkAa157.2.2.2.2.2.2.2.2.1
theorem dX8_readInto_37 : decode cX8_readInto 37 = .ok (.getfield 19, 3) := dkAa157.2.2.2.2.2.2.2.2.2.1
theorem dX8_readInto_40 : decode cX8_readInto 40 = .ok (.if_icmp .ge 25, 3) := dkAa157.2.2.2.2.2.2.2.2.2.2.1
theorem dX8_readInto_43 : decode cX8_readInto 43 = .ok (.aload_n 0, 1) := dkAa157.2.2.2.2.2.2.2.2.2.2.2
set_option maxRecDepth 100000 in
theorem dkAa158 : decode cX8_readInto 44 = .ok (.invokevirtual 36, 3) ∧ decode cX8_readInto 47 = .ok (.ifCond .eq 18, 3) ∧ decode cX8_readInto 50 = .ok (.aload_n 0, 1) ∧ decode cX8_readInto 51 = .ok (.aload_n 1, 1) ∧ decode cX8_readInto 52 = .ok (.invokevirtual 40, 3) ∧ decode cX8_readInto 55 = .ok (.aload_n 0, 1) ∧ decode cX8_readInto 56 = .ok (.invokevirtual 33, 3) ∧ decode cX8_readInto 59 = .ok (.iinc 2 1, 3) ∧ decode cX8_readInto 62 = .ok (.goto (-37), 3) ∧ decode cX8_readInto 65 = .ok (.aload_n 0, 1) ∧ decode cX8_readInto 66 = .ok (.iconst 0, 1) ∧ decode cX8_readInto 67 = .ok (.putfield 19, 3) := by decide +kernel
theorem dX8_readInto_44 : decode cX8_readInto 44 = .ok (.invokevirtual 36, 3) := dkAa158.1
theorem dX8_readInto_47 : decode cX8_readInto 47 = .ok (.ifCond .eq 18, 3) := dkAa158.2.1
theorem dX8_readInto_50 : decode cX8_readInto 50 = .ok (.aload_n 0, 1) := dkAa158.2.2.1
theorem dX8_readInto_51 : decode cX8_readInto 51 = .ok (.aload_n 1, 1) := dkAa158.2.2.2.1
theorem dX8_readInto_52 : decode cX8_readInto 52 = .ok (.invokevirtual 40, 3) := dkAa158.2.2.2.2.1
theorem dX8_readInto_55 : decode cX8_readInto 55 = .ok (.aload_n 0, 1) := dkAa158.2.2.2.2.2.1
theorem dX8_readInto_56 : decode cX8_readInto 56 = .ok (.invokevirtual 33, 3) := dkAa158.2.2.2.2.2.2.1
theorem dX8_readInto_59 : decode cX8_readInto 59 = .ok (.iinc 2 1, 3) := dkAa158.2.2.2.2.2.2.2.1
theorem dX8_readInto_62 : decode cX8_readInto 62 = .ok (.goto (-37), 3) := dkAa158.2.2.2.2.2.2.2.2.1
theorem dX8_readInto_65 : decode cX8_readInto 65 = .ok (.aload_n 0, 1) := dkAa158.2.2.2.2.2.2.2.2.2.1
theorem dX8_readInto_66 : decode cX8_readInto 66 = .ok (.iconst 0, 1) := dkAa158.2.2.2.2.2.2.2.2.2.2.1
theorem dX8_readInto_67 : decode cX8_readInto 67 = .ok (.putfield 19, 3) := dkAa158.2.2.2.2.2.2.2.2.2.2.2
set_option maxRecDepth 100000 in
theorem dkAa159 : decode cX8_readInto 70 = .ok (.aload_n 0, 1) ∧ decode cX8_readInto 71 = .ok (.invokevirtual 36, 3) ∧ decode cX8_readInto 74 = .ok (.ireturn, 1) := by decide +kernel
theorem dX8_readInto_70 : decode cX8_readInto 70 = .ok (.aload_n 0, 1) := dkAa159.1
theorem dX8_readInto_71 : decode cX8_readInto 71 = .ok (.invokevirtual 36, 3) := dkAa159.2.1
theorem dX8_readInto_74 : decode cX8_readInto 74 = .ok (.ireturn, 1) := dkAa159.2.2
set_option maxRecDepth 100000 in
theorem dkAa160 : decode cX8_readClause 0 = .ok (.aload_n 0, 1) ∧ decode cX8_readClause 1 = .ok (.invokevirtual 44, 3) ∧ decode cX8_readClause 4 = .ok (.lookupswitch 76 #[(99, 68), (100, 60), (112, 44), (119, 52)], 44) ∧ decode cX8_readClause 48 = .ok (.aload_n 0, 1) ∧ decode cX8_readClause 49 = .ok (.aload_n 1, 1) ∧ decode cX8_readClause 50 = .ok (.invokevirtual 48, 3) ∧ decode cX8_readClause 53 = .ok (.goto 36, 3) ∧ decode cX8_readClause 56 = .ok (.aload_n 0, 1) ∧ decode cX8_readClause 57 = .ok (.aload_n 1, 1) ∧ decode cX8_readClause 58 = .ok (.invokevirtual 51, 3) ∧ decode cX8_readClause 61 = .ok (.goto 28, 3) ∧ decode cX8_readClause 64 = .ok (.aload_n 0, 1) := by decide +kernel
theorem dX8_readClause_0 : decode cX8_readClause 0 = .ok (.aload_n 0, 1) := dkAa160.1
theorem dX8_readClause_1 : decode cX8_readClause 1 = .ok (.invokevirtual 44, 3) := dkAa160.2.1
theorem dX8_readClause_4 : decode cX8_readClause 4 = .ok (.lookupswitch 76 #[(99, 68), (100, 60), (112, 44), (119, 52)], 44) := dkAa160.2.2.1
theorem dX8_readClause_48 : decode cX8_readClause 48 = .ok (.aload_n 0, 1) := dkAa160.2.2.2.1
theorem dX8_readClause_49 : decode cX8_readClause 49 = .ok (.aload_n 1, 1) := dkAa160.2.2.2.2.1
theorem dX8_readClause_50 : decode cX8_readClause 50 = .ok (.invokevirtual 48, 3) := dkAa160.2.2.2.2.2.1
theorem dX8_readClause_53 : decode cX8_readClause 53 = .ok (.goto 36, 3) := dkAa160.2.2.2.2.2.2.1
theorem dX8_readClause_56 : decode cX8_readClause 56 = .ok (.aload_n 0, 1) := dkAa160.2.2.2.2.2.2.2.1
theorem dX8_readClause_57 : decode cX8_readClause 57 = .ok (.aload_n 1, 1) := dkAa160.2.2.2.2.2.2.2.2.1
theorem dX8_readClause_58 : decode cX8_readClause 58 = .ok (.invokevirtual 51, 3) := dkAa160.2.2.2.2.2.2.2.2.2.1
theorem dX8_readClause_61 : decode cX8_readClause 61 = .ok (.goto 28, 3) := dkAa160.2.2.2.2.2.2.2.2.2.2.1
theorem dX8_readClause_64 : decode cX8_readClause 64 = .ok (.aload_n 0, 1) := dkAa160.2.2.2.2.2.2.2.2.2.2.2
set_option maxRecDepth 100000 in
theorem dkAa161 : decode cX8_readClause 65 = .ok (.aload_n 1, 1) ∧ decode cX8_readClause 66 = .ok (.invokevirtual 54, 3) ∧ decode cX8_readClause 69 = .ok (.goto 20, 3) ∧ decode cX8_readClause 72 = .ok (.aload_n 0, 1) ∧ decode cX8_readClause 73 = .ok (.aload_n 1, 1) ∧ decode cX8_readClause 74 = .ok (.invokevirtual 57, 3) ∧ decode cX8_readClause 77 = .ok (.goto 12, 3) ∧ decode cX8_readClause 80 = .ok (.aload_n 0, 1) ∧ decode cX8_readClause 81 = .ok (.iconst 1, 1) ∧ decode cX8_readClause 82 = .ok (.aload_n 0, 1) ∧ decode cX8_readClause 83 = .ok (.getfield 27, 3) ∧ decode cX8_readClause 86 = .ok (.invokevirtual 60, 3) := by decide +kernel
theorem dX8_readClause_65 : decode cX8_readClause 65 = .ok (.aload_n 1, 1) := dkAa161.1
theorem dX8_readClause_66 : decode cX8_readClause 66 = .ok (.invokevirtual 54, 3) := dkAa161.2.1
theorem dX8_readClause_69 : decode cX8_readClause 69 = .ok (.goto 20, 3) := dkAa161.2.2.1
theorem dX8_readClause_72 : decode cX8_readClause 72 = .ok (.aload_n 0, 1) := dkAa161.2.2.2.1
theorem dX8_readClause_73 : decode cX8_readClause 73 = .ok (.aload_n 1, 1) := dkAa161.2.2.2.2.1
theorem dX8_readClause_74 : decode cX8_readClause 74 = .ok (.invokevirtual 57, 3) := dkAa161.2.2.2.2.2.1
theorem dX8_readClause_77 : decode cX8_readClause 77 = .ok (.goto 12, 3) := dkAa161.2.2.2.2.2.2.1
theorem dX8_readClause_80 : decode cX8_readClause 80 = .ok (.aload_n 0, 1) := dkAa161.2.2.2.2.2.2.2.1
theorem dX8_readClause_81 : decode cX8_readClause 81 = .ok (.iconst 1, 1) := dkAa161.2.2.2.2.2.2.2.2.1
theorem dX8_readClause_82 : decode cX8_readClause 82 = .ok (.aload_n 0, 1) := dkAa161.2.2.2.2.2.2.2.2.2.1
theorem dX8_readClause_83 : decode cX8_readClause 83 = .ok (.getfield 27, 3) := dkAa161.2.2.2.2.2.2.2.2.2.2.1
theorem dX8_readClause_86 : decode cX8_readClause 86 = .ok (.invokevirtual 60, 3) := dkAa161.2.2.2.2.2.2.2.2.2.2.2
theorem dX8_readClause_89 : decode cX8_readClause 89 = .ok (.return_, 1) := by decide +kernel
set_option maxRecDepth 100000 in
theorem dkAa162 : decode cX8_readPerson 0 = .ok (.aload_n 1, 1) ∧ decode cX8_readPerson 1 = .ok (.getfield 64, 3) ∧ decode cX8_readPerson 4 = .ok (.bipush 7, 2) ∧ decode cX8_readPerson 6 = .ok (.if_icmp .lt 13, 3) ∧ decode cX8_readPerson 9 = .ok (.aload_n 0, 1) ∧ decode cX8_readPerson 10 = .ok (.iconst 3, 1) ∧ decode cX8_readPerson 11 = .ok (.aload_n 0, 1) ∧ decode cX8_readPerson 12 = .ok (.getfield 27, 3) ∧ decode cX8_readPerson 15 = .ok (.invokevirtual 60, 3) ∧ decode cX8_readPerson 18 = .ok (.return_, 1) ∧ decode cX8_readPerson 19 = .ok (.aload_n 0, 1) ∧ decode cX8_readPerson 20 = .ok (.dup, 1) := by decide +kernel
theorem dX8_readPerson_0 : decode cX8_readPerson 0 = .ok (.aload_n 1, 1) := dkAa162.1
theorem dX8_readPerson_1 : decode cX8_readPerson 1 = .ok (.getfield 64, 3) := dkAa162.2.1
theorem dX8_readPerson_4 : decode cX8_readPerson 4 = .ok (.bipush 7, 2) := dkAa162.2.2.1
theorem dX8_readPerson_6 : decode cX8_readPerson 6 = .ok (.if_icmp .lt 13, 3) := dkAa162.2.2.2.1
theorem dX8_readPerson_9 : decode cX8_readPerson 9 = .ok (.aload_n 0, 1) := dkAa162.2.2.2.2.1
theorem dX8_readPerson_10 : decode cX8_readPerson 10 = .ok (.iconst 3, 1) := dkAa162.2.2.2.2.2.1
theorem dX8_readPerson_11 : decode cX8_readPerson 11 = .ok (.aload_n 0, 1) := dkAa162.2.2.2.2.2.2.1
theorem dX8_readPerson_12 : decode cX8_readPerson 12 = .ok (.getfield 27, 3) := dkAa162.2.2.2.2.2.2.2.1
theorem dX8_readPerson_15 : decode cX8_readPerson 15 = .ok (.invokevirtual 60, 3) := dkAa162.2.2.2.2.2.2.2.2.1
theorem dX8_readPerson_18 : decode cX8_readPerson 18 = .ok (.return_, 1) := dkAa162.2.2.2.2.2.2.2.2.2.1
theorem dX8_readPerson_19 : decode cX8_readPerson 19 = .ok (.aload_n 0, 1) := dkAa162.2.2.2.2.2.2.2.2.2.2.1
theorem dX8_readPerson_20 : decode cX8_readPerson 20 = .ok (.dup, 1) := dkAa162.2.2.2.2.2.2.2.2.2.2.2
set_option maxRecDepth 100000 in
theorem dkAa163 : decode cX8_readPerson 21 = .ok (.getfield 27, 3) ∧ decode cX8_readPerson 24 = .ok (.iconst 1, 1) ∧ decode cX8_readPerson 25 = .ok (.iadd, 1) ∧ decode cX8_readPerson 26 = .ok (.putfield 27, 3) ∧ decode cX8_readPerson 29 = .ok (.aload_n 0, 1) ∧ decode cX8_readPerson 30 = .ok (.bipush 9, 2) ∧ decode cX8_readPerson 32 = .ok (.invokevirtual 67, 3) ∧ decode cX8_readPerson 35 = .ok (.istore_n 2, 1) ∧ decode cX8_readPerson 36 = .ok (.aload_n 0, 1) ∧ decode cX8_readPerson 37 = .ok (.bipush 59, 2) ∧ decode cX8_readPerson 39 = .ok (.invokevirtual 71, 3) ∧ decode cX8_readPerson 42 = .ok (.ifCond .eq 8, 3) := by decide +kernel
theorem dX8_readPerson_21 : decode cX8_readPerson 21 = .ok (.getfield 27, 3) := dkAa163.1
theorem dX8_readPerson_24 : decode cX8_readPerson 24 = .ok (.iconst 1, 1) := dkAa163.2.1
theorem dX8_readPerson_25 : decode cX8_readPerson 25 = .ok (.iadd, 1) := dkAa163.2.2.1
theorem dX8_readPerson_26 : decode cX8_readPerson 26 = .ok (.putfield 27, 3) := dkAa163.2.2.2.1
theorem dX8_readPerson_29 : decode cX8_readPerson 29 = .ok (.aload_n 0, 1) := dkAa163.2.2.2.2.1
theorem dX8_readPerson_30 : decode cX8_readPerson 30 = .ok (.bipush 9, 2) := dkAa163.2.2.2.2.2.1
theorem dX8_readPerson_32 : decode cX8_readPerson 32 = .ok (.invokevirtual 67, 3) := dkAa163.2.2.2.2.2.2.1
theorem dX8_readPerson_35 : decode cX8_readPerson 35 = .ok (.istore_n 2, 1) := dkAa163.2.2.2.2.2.2.2.1
theorem dX8_readPerson_36 : decode cX8_readPerson 36 = .ok (.aload_n 0, 1) := dkAa163.2.2.2.2.2.2.2.2.1
theorem dX8_readPerson_37 : decode cX8_readPerson 37 = .ok (.bipush 59, 2) := dkAa163.2.2.2.2.2.2.2.2.2.1
theorem dX8_readPerson_39 : decode cX8_readPerson 39 = .ok (.invokevirtual 71, 3) := dkAa163.2.2.2.2.2.2.2.2.2.2.1
theorem dX8_readPerson_42 : decode cX8_readPerson 42 = .ok (.ifCond .eq 8, 3) := dkAa163.2.2.2.2.2.2.2.2.2.2.2
set_option maxRecDepth 100000 in
theorem dkAa164 : decode cX8_readPerson 45 = .ok (.aload_n 1, 1) ∧ decode cX8_readPerson 46 = .ok (.iload_n 2, 1) ∧ decode cX8_readPerson 47 = .ok (.invokevirtual 75, 3) ∧ decode cX8_readPerson 50 = .ok (.return_, 1) := by decide +kernel
theorem dX8_readPerson_45 : decode cX8_readPerson 45 = .ok (.aload_n 1, 1) := dkAa164.1
theorem dX8_readPerson_46 : decode cX8_readPerson 46 = .ok (.iload_n 2, 1) := dkAa164.2.1
theorem dX8_readPerson_47 : decode cX8_readPerson 47 = .ok (.invokevirtual 75, 3) := dkAa164.2.2.1
theorem dX8_readPerson_50 : decode cX8_readPerson 50 = .ok (.return_, 1) := dkAa164.2.2.2
set_option maxRecDepth 100000 in
theorem dkAa165 : decode cX8_readWill 0 = .ok (.aload_n 0, 1) ∧ decode cX8_readWill 1 = .ok (.dup, 1) ∧ decode cX8_readWill 2 = .ok (.getfield 27, 3) ∧ decode cX8_readWill 5 = .ok (.iconst 1, 1) ∧ decode cX8_readWill 6 = .ok (.iadd, 1) ∧ decode cX8_readWill 7 = .ok (.putfield 27, 3) ∧ decode cX8_readWill 10 = .ok (.aload_n 0, 1) ∧ decode cX8_readWill 11 = .ok (.aload_n 1, 1) ∧ decode cX8_readWill 12 = .ok (.getfield 64, 3) ∧ decode cX8_readWill 15 = .ok (.iconst 1, 1) ∧ decode cX8_readWill 16 = .ok (.isub, 1) ∧ decode cX8_readWill 17 = .ok (.invokevirtual 67, 3) := by decide +kernel
theorem dX8_readWill_0 : decode cX8_readWill 0 = .ok (.aload_n 0, 1) := dkAa165.1
theorem dX8_readWill_1 : decode cX8_readWill 1 = .ok (.dup, 1) := dkAa165.2.1
theorem dX8_readWill_2 : decode cX8_readWill 2 = .ok (.getfield 27, 3) := dkAa165.2.2.1
theorem dX8_readWill_5 : decode cX8_readWill 5 = .ok (.iconst 1, 1) := dkAa165.2.2.2.1
theorem dX8_readWill_6 : decode cX8_readWill 6 = .ok (.iadd, 1) := dkAa165.2.2.2.2.1
theorem dX8_readWill_7 : decode cX8_readWill 7 = .ok (.putfield 27, 3) := dkAa165.2.2.2.2.2.1
theorem dX8_readWill_10 : decode cX8_readWill 10 = .ok (.aload_n 0, 1) := dkAa165.2.2.2.2.2.2.1
theorem dX8_readWill_11 : decode cX8_readWill 11 = .ok (.aload_n 1, 1) := dkAa165.2.2.2.2.2.2.2.1
theorem dX8_readWill_12 : decode cX8_readWill 12 = .ok (.getfield 64, 3) := dkAa165.2.2.2.2.2.2.2.2.1
theorem dX8_readWill_15 : decode cX8_readWill 15 = .ok (.iconst 1, 1) := dkAa165.2.2.2.2.2.2.2.2.2.1
theorem dX8_readWill_16 : decode cX8_readWill 16 = .ok (.isub, 1) := dkAa165.2.2.2.2.2.2.2.2.2.2.1
theorem dX8_readWill_17 : decode cX8_readWill 17 = .ok (.invokevirtual 67, 3) := dkAa165.2.2.2.2.2.2.2.2.2.2.2
set_option maxRecDepth 100000 in
theorem dkAa166 : decode cX8_readWill 20 = .ok (.istore_n 2, 1) ∧ decode cX8_readWill 21 = .ok (.aload_n 0, 1) ∧ decode cX8_readWill 22 = .ok (.invokevirtual 36, 3) ∧ decode cX8_readWill 25 = .ok (.ifCond .eq 20, 3) ∧ decode cX8_readWill 28 = .ok (.aload_n 1, 1) ∧ decode cX8_readWill 29 = .ok (.iload_n 2, 1) ∧ decode cX8_readWill 30 = .ok (.invokevirtual 79, 3) ∧ decode cX8_readWill 33 = .ok (.ifCond .eq 12, 3) ∧ decode cX8_readWill 36 = .ok (.aload_n 0, 1) ∧ decode cX8_readWill 37 = .ok (.iconst 4, 1) ∧ decode cX8_readWill 38 = .ok (.aload_n 0, 1) ∧ decode cX8_readWill 39 = .ok (.getfield 82, 3) := by decide +kernel
theorem dX8_readWill_20 : decode cX8_readWill 20 = .ok (.istore_n 2, 1) := dkAa166.1
theorem dX8_readWill_21 : decode cX8_readWill 21 = .ok (.aload_n 0, 1) := dkAa166.2.1
theorem dX8_readWill_22 : decode cX8_readWill 22 = .ok (.invokevirtual 36, 3) := dkAa166.2.2.1
theorem dX8_readWill_25 : decode cX8_readWill 25 = .ok (.ifCond .eq 20, 3) := dkAa166.2.2.2.1
theorem dX8_readWill_28 : decode cX8_readWill 28 = .ok (.aload_n 1, 1) := dkAa166.2.2.2.2.1
theorem dX8_readWill_29 : decode cX8_readWill 29 = .ok (.iload_n 2, 1) := dkAa166.2.2.2.2.2.1
theorem dX8_readWill_30 : decode cX8_readWill 30 = .ok (.invokevirtual 79, 3) := dkAa166.2.2.2.2.2.2.1
theorem dX8_readWill_33 : decode cX8_readWill 33 = .ok (.ifCond .eq 12, 3) := dkAa166.2.2.2.2.2.2.2.1
theorem dX8_readWill_36 : decode cX8_readWill 36 = .ok (.aload_n 0, 1) := dkAa166.2.2.2.2.2.2.2.2.1
theorem dX8_readWill_37 : decode cX8_readWill 37 = .ok (.iconst 4, 1) := dkAa166.2.2.2.2.2.2.2.2.2.1
theorem dX8_readWill_38 : decode cX8_readWill 38 = .ok (.aload_n 0, 1) := dkAa166.2.2.2.2.2.2.2.2.2.2.1
theorem dX8_readWill_39 : decode cX8_readWill 39 = .ok (.getfield 82, 3) := dkAa166.2.2.2.2.2.2.2.2.2.2.2
set_option maxRecDepth 100000 in
theorem dkAa167 : decode cX8_readWill 42 = .ok (.invokevirtual 60, 3) ∧ decode cX8_readWill 45 = .ok (.aload_n 0, 1) ∧ decode cX8_readWill 46 = .ok (.aload_n 1, 1) ∧ decode cX8_readWill 47 = .ok (.iload_n 2, 1) ∧ decode cX8_readWill 48 = .ok (.invokevirtual 85, 3) ∧ decode cX8_readWill 51 = .ok (.istore_n 3, 1) ∧ decode cX8_readWill 52 = .ok (.aload_n 0, 1) ∧ decode cX8_readWill 53 = .ok (.aload_n 1, 1) ∧ decode cX8_readWill 54 = .ok (.iload_n 2, 1) ∧ decode cX8_readWill 55 = .ok (.invokevirtual 85, 3) ∧ decode cX8_readWill 58 = .ok (.istore 4, 2) ∧ decode cX8_readWill 60 = .ok (.aload_n 0, 1) := by decide +kernel
theorem dX8_readWill_42 : decode cX8_readWill 42 = .ok (.invokevirtual 60, 3) := dkAa167.1
theorem dX8_readWill_45 : decode cX8_readWill 45 = .ok (.aload_n 0, 1) := dkAa167.2.1
theorem dX8_readWill_46 : decode cX8_readWill 46 = .ok (.aload_n 1, 1) := dkAa167.2.2.1
theorem dX8_readWill_47 : decode cX8_readWill 47 = .ok (.iload_n 2, 1) := dkAa167.2.2.2.1
theorem dX8_readWill_48 : decode cX8_readWill 48 = .ok (.invokevirtual 85, 3) := dkAa167.2.2.2.2.1
theorem dX8_readWill_51 : decode cX8_readWill 51 = .ok (.istore_n 3, 1) := dkAa167.2.2.2.2.2.1
theorem dX8_readWill_52 : decode cX8_readWill 52 = .ok (.aload_n 0, 1) := dkAa167.2.2.2.2.2.2.1
theorem dX8_readWill_53 : decode cX8_readWill 53 = .ok (.aload_n 1, 1) := dkAa167.2.2.2.2.2.2.2.1
theorem dX8_readWill_54 : decode cX8_readWill 54 = .ok (.iload_n 2, 1) := dkAa167.2.2.2.2.2.2.2.2.1
theorem dX8_readWill_55 : decode cX8_readWill 55 = .ok (.invokevirtual 85, 3) := dkAa167.2.2.2.2.2.2.2.2.2.1
theorem dX8_readWill_58 : decode cX8_readWill 58 = .ok (.istore 4, 2) := dkAa167.2.2.2.2.2.2.2.2.2.2.1
theorem dX8_readWill_60 : decode cX8_readWill 60 = .ok (.aload_n 0, 1) := dkAa167.2.2.2.2.2.2.2.2.2.2.2
set_option maxRecDepth 100000 in
theorem dkAa168 : decode cX8_readWill 61 = .ok (.bipush 59, 2) ∧ decode cX8_readWill 63 = .ok (.invokevirtual 71, 3) ∧ decode cX8_readWill 66 = .ok (.ifCond .eq 11, 3) ∧ decode cX8_readWill 69 = .ok (.aload_n 1, 1) ∧ decode cX8_readWill 70 = .ok (.iload_n 2, 1) ∧ decode cX8_readWill 71 = .ok (.iload_n 3, 1) ∧ decode cX8_readWill 72 = .ok (.iload 4, 2) ∧ decode cX8_readWill 74 = .ok (.invokevirtual 89, 3) ∧ decode cX8_readWill 77 = .ok (.return_, 1) := by decide +kernel
theorem dX8_readWill_61 : decode cX8_readWill 61 = .ok (.bipush 59, 2) := dkAa168.1
theorem dX8_readWill_63 : decode cX8_readWill 63 = .ok (.invokevirtual 71, 3) := dkAa168.2.1
theorem dX8_readWill_66 : decode cX8_readWill 66 = .ok (.ifCond .eq 11, 3) := dkAa168.2.2.1
theorem dX8_readWill_69 : decode cX8_readWill 69 = .ok (.aload_n 1, 1) := dkAa168.2.2.2.1
theorem dX8_readWill_70 : decode cX8_readWill 70 = .ok (.iload_n 2, 1) := dkAa168.2.2.2.2.1
theorem dX8_readWill_71 : decode cX8_readWill 71 = .ok (.iload_n 3, 1) := dkAa168.2.2.2.2.2.1
theorem dX8_readWill_72 : decode cX8_readWill 72 = .ok (.iload 4, 2) := dkAa168.2.2.2.2.2.2.1
theorem dX8_readWill_74 : decode cX8_readWill 74 = .ok (.invokevirtual 89, 3) := dkAa168.2.2.2.2.2.2.2.1
theorem dX8_readWill_77 : decode cX8_readWill 77 = .ok (.return_, 1) := dkAa168.2.2.2.2.2.2.2.2
set_option maxRecDepth 100000 in
theorem dkAa169 : decode cX8_readHeir 0 = .ok (.aload_n 0, 1) ∧ decode cX8_readHeir 1 = .ok (.bipush 9, 2) ∧ decode cX8_readHeir 3 = .ok (.invokevirtual 67, 3) ∧ decode cX8_readHeir 6 = .ok (.istore_n 3, 1) ∧ decode cX8_readHeir 7 = .ok (.aload_n 0, 1) ∧ decode cX8_readHeir 8 = .ok (.invokevirtual 36, 3) ∧ decode cX8_readHeir 11 = .ok (.ifCond .eq 43, 3) ∧ decode cX8_readHeir 14 = .ok (.iload_n 3, 1) ∧ decode cX8_readHeir 15 = .ok (.bipush 9, 2) ∧ decode cX8_readHeir 17 = .ok (.if_icmp .eq 37, 3) ∧ decode cX8_readHeir 20 = .ok (.aload_n 1, 1) ∧ decode cX8_readHeir 21 = .ok (.iload_n 3, 1) := by decide +kernel
theorem dX8_readHeir_0 : decode cX8_readHeir 0 = .ok (.aload_n 0, 1) := dkAa169.1
theorem dX8_readHeir_1 : decode cX8_readHeir 1 = .ok (.bipush 9, 2) := dkAa169.2.1
theorem dX8_readHeir_3 : decode cX8_readHeir 3 = .ok (.invokevirtual 67, 3) := dkAa169.2.2.1
theorem dX8_readHeir_6 : decode cX8_readHeir 6 = .ok (.istore_n 3, 1) := dkAa169.2.2.2.1
theorem dX8_readHeir_7 : decode cX8_readHeir 7 = .ok (.aload_n 0, 1) := dkAa169.2.2.2.2.1
theorem dX8_readHeir_8 : decode cX8_readHeir 8 = .ok (.invokevirtual 36, 3) := dkAa169.2.2.2.2.2.1
theorem dX8_readHeir_11 : decode cX8_readHeir 11 = .ok (.ifCond .eq 43, 3) := dkAa169.2.2.2.2.2.2.1
theorem dX8_readHeir_14 : decode cX8_readHeir 14 = .ok (.iload_n 3, 1) := dkAa169.2.2.2.2.2.2.2.1
theorem dX8_readHeir_15 : decode cX8_readHeir 15 = .ok (.bipush 9, 2) := dkAa169.2.2.2.2.2.2.2.2.1
theorem dX8_readHeir_17 : decode cX8_readHeir 17 = .ok (.if_icmp .eq 37, 3) := dkAa169.2.2.2.2.2.2.2.2.2.1
theorem dX8_readHeir_20 : decode cX8_readHeir 20 = .ok (.aload_n 1, 1) := dkAa169.2.2.2.2.2.2.2.2.2.2.1
theorem dX8_readHeir_21 : decode cX8_readHeir 21 = .ok (.iload_n 3, 1) := dkAa169.2.2.2.2.2.2.2.2.2.2.2
set_option maxRecDepth 100000 in
theorem dkAa170 : decode cX8_readHeir 22 = .ok (.invokevirtual 93, 3) ∧ decode cX8_readHeir 25 = .ok (.ifCond .ne 15, 3) ∧ decode cX8_readHeir 28 = .ok (.aload_n 0, 1) ∧ decode cX8_readHeir 29 = .ok (.iconst 2, 1) ∧ decode cX8_readHeir 30 = .ok (.aload_n 0, 1) ∧ decode cX8_readHeir 31 = .ok (.getfield 82, 3) ∧ decode cX8_readHeir 34 = .ok (.invokevirtual 60, 3) ∧ decode cX8_readHeir 37 = .ok (.goto 17, 3) ∧ decode cX8_readHeir 40 = .ok (.iload_n 3, 1) ∧ decode cX8_readHeir 41 = .ok (.iload_n 2, 1) ∧ decode cX8_readHeir 42 = .ok (.if_icmp .ne 12, 3) ∧ decode cX8_readHeir 45 = .ok (.aload_n 0, 1) := by decide +kernel
theorem dX8_readHeir_22 : decode cX8_readHeir 22 = .ok (.invokevirtual 93, 3) := dkAa170.1
theorem dX8_readHeir_25 : decode cX8_readHeir 25 = .ok (.ifCond .ne 15, 3) := dkAa170.2.1
theorem dX8_readHeir_28 : decode cX8_readHeir 28 = .ok (.aload_n 0, 1) := dkAa170.2.2.1
theorem dX8_readHeir_29 : decode cX8_readHeir 29 = .ok (.iconst 2, 1) := dkAa170.2.2.2.1
theorem dX8_readHeir_30 : decode cX8_readHeir 30 = .ok (.aload_n 0, 1) := dkAa170.2.2.2.2.1
theorem dX8_readHeir_31 : decode cX8_readHeir 31 = .ok (.getfield 82, 3) := dkAa170.2.2.2.2.2.1
theorem dX8_readHeir_34 : decode cX8_readHeir 34 = .ok (.invokevirtual 60, 3) := dkAa170.2.2.2.2.2.2.1
theorem dX8_readHeir_37 : decode cX8_readHeir 37 = .ok (.goto 17, 3) := dkAa170.2.2.2.2.2.2.2.1
theorem dX8_readHeir_40 : decode cX8_readHeir 40 = .ok (.iload_n 3, 1) := dkAa170.2.2.2.2.2.2.2.2.1
theorem dX8_readHeir_41 : decode cX8_readHeir 41 = .ok (.iload_n 2, 1) := dkAa170.2.2.2.2.2.2.2.2.2.1
theorem dX8_readHeir_42 : decode cX8_readHeir 42 = .ok (.if_icmp .ne 12, 3) := dkAa170.2.2.2.2.2.2.2.2.2.2.1
theorem dX8_readHeir_45 : decode cX8_readHeir 45 = .ok (.aload_n 0, 1) := dkAa170.2.2.2.2.2.2.2.2.2.2.2
set_option maxRecDepth 100000 in
theorem dkAa171 : decode cX8_readHeir 46 = .ok (.iconst 4, 1) ∧ decode cX8_readHeir 47 = .ok (.aload_n 0, 1) ∧ decode cX8_readHeir 48 = .ok (.getfield 82, 3) ∧ decode cX8_readHeir 51 = .ok (.invokevirtual 60, 3) ∧ decode cX8_readHeir 54 = .ok (.iload_n 3, 1) ∧ decode cX8_readHeir 55 = .ok (.ireturn, 1) := by decide +kernel
theorem dX8_readHeir_46 : decode cX8_readHeir 46 = .ok (.iconst 4, 1) := dkAa171.1
theorem dX8_readHeir_47 : decode cX8_readHeir 47 = .ok (.aload_n 0, 1) := dkAa171.2.1
theorem dX8_readHeir_48 : decode cX8_readHeir 48 = .ok (.getfield 82, 3) := dkAa171.2.2.1
theorem dX8_readHeir_51 : decode cX8_readHeir 51 = .ok (.invokevirtual 60, 3) := dkAa171.2.2.2.1
theorem dX8_readHeir_54 : decode cX8_readHeir 54 = .ok (.iload_n 3, 1) := dkAa171.2.2.2.2.1
theorem dX8_readHeir_55 : decode cX8_readHeir 55 = .ok (.ireturn, 1) := dkAa171.2.2.2.2.2
set_option maxRecDepth 100000 in
theorem dkAa172 : decode cX8_readDoor 0 = .ok (.aload_n 1, 1) ∧ decode cX8_readDoor 1 = .ok (.getfield 96, 3) ∧ decode cX8_readDoor 4 = .ok (.bipush 6, 2) ∧ decode cX8_readDoor 6 = .ok (.if_icmp .lt 13, 3) ∧ decode cX8_readDoor 9 = .ok (.aload_n 0, 1) ∧ decode cX8_readDoor 10 = .ok (.iconst 3, 1) ∧ decode cX8_readDoor 11 = .ok (.aload_n 0, 1) ∧ decode cX8_readDoor 12 = .ok (.getfield 27, 3) ∧ decode cX8_readDoor 15 = .ok (.invokevirtual 60, 3) ∧ decode cX8_readDoor 18 = .ok (.return_, 1) ∧ decode cX8_readDoor 19 = .ok (.aload_n 0, 1) ∧ decode cX8_readDoor 20 = .ok (.dup, 1) := by decide +kernel
theorem dX8_readDoor_0 : decode cX8_readDoor 0 = .ok (.aload_n 1, 1) := dkAa172.1
theorem dX8_readDoor_1 : decode cX8_readDoor 1 = .ok (.getfield 96, 3) := dkAa172.2.1
theorem dX8_readDoor_4 : decode cX8_readDoor 4 = .ok (.bipush 6, 2) := dkAa172.2.2.1
theorem dX8_readDoor_6 : decode cX8_readDoor 6 = .ok (.if_icmp .lt 13, 3) := dkAa172.2.2.2.1
theorem dX8_readDoor_9 : decode cX8_readDoor 9 = .ok (.aload_n 0, 1) := dkAa172.2.2.2.2.1
theorem dX8_readDoor_10 : decode cX8_readDoor 10 = .ok (.iconst 3, 1) := dkAa172.2.2.2.2.2.1
theorem dX8_readDoor_11 : decode cX8_readDoor 11 = .ok (.aload_n 0, 1) := dkAa172.2.2.2.2.2.2.1
theorem dX8_readDoor_12 : decode cX8_readDoor 12 = .ok (.getfield 27, 3) := dkAa172.2.2.2.2.2.2.2.1
theorem dX8_readDoor_15 : decode cX8_readDoor 15 = .ok (.invokevirtual 60, 3) := dkAa172.2.2.2.2.2.2.2.2.1
theorem dX8_readDoor_18 : decode cX8_readDoor 18 = .ok (.return_, 1) := dkAa172.2.2.2.2.2.2.2.2.2.1
theorem dX8_readDoor_19 : decode cX8_readDoor 19 = .ok (.aload_n 0, 1) := dkAa172.2.2.2.2.2.2.2.2.2.2.1
theorem dX8_readDoor_20 : decode cX8_readDoor 20 = .ok (.dup, 1) := dkAa172.2.2.2.2.2.2.2.2.2.2.2
set_option maxRecDepth 100000 in
theorem dkAa173 : decode cX8_readDoor 21 = .ok (.getfield 27, 3) ∧ decode cX8_readDoor 24 = .ok (.iconst 1, 1) ∧ decode cX8_readDoor 25 = .ok (.iadd, 1) ∧ decode cX8_readDoor 26 = .ok (.putfield 27, 3) ∧ decode cX8_readDoor 29 = .ok (.aload_n 0, 1) ∧ decode cX8_readDoor 30 = .ok (.bipush 127, 2) ∧ decode cX8_readDoor 32 = .ok (.invokevirtual 67, 3) ∧ decode cX8_readDoor 35 = .ok (.istore_n 2, 1) ∧ decode cX8_readDoor 36 = .ok (.aload_n 0, 1) ∧ decode cX8_readDoor 37 = .ok (.bipush 59, 2) ∧ decode cX8_readDoor 39 = .ok (.invokevirtual 71, 3) ∧ decode cX8_readDoor 42 = .ok (.ifCond .eq 8, 3) := by decide +kernel
theorem dX8_readDoor_21 : decode cX8_readDoor 21 = .ok (.getfield 27, 3) := dkAa173.1
theorem dX8_readDoor_24 : decode cX8_readDoor 24 = .ok (.iconst 1, 1) := dkAa173.2.1
theorem dX8_readDoor_25 : decode cX8_readDoor 25 = .ok (.iadd, 1) := dkAa173.2.2.1
theorem dX8_readDoor_26 : decode cX8_readDoor 26 = .ok (.putfield 27, 3) := dkAa173.2.2.2.1
theorem dX8_readDoor_29 : decode cX8_readDoor 29 = .ok (.aload_n 0, 1) := dkAa173.2.2.2.2.1
theorem dX8_readDoor_30 : decode cX8_readDoor 30 = .ok (.bipush 127, 2) := dkAa173.2.2.2.2.2.1
theorem dX8_readDoor_32 : decode cX8_readDoor 32 = .ok (.invokevirtual 67, 3) := dkAa173.2.2.2.2.2.2.1
theorem dX8_readDoor_35 : decode cX8_readDoor 35 = .ok (.istore_n 2, 1) := dkAa173.2.2.2.2.2.2.2.1
theorem dX8_readDoor_36 : decode cX8_readDoor 36 = .ok (.aload_n 0, 1) := dkAa173.2.2.2.2.2.2.2.2.1
theorem dX8_readDoor_37 : decode cX8_readDoor 37 = .ok (.bipush 59, 2) := dkAa173.2.2.2.2.2.2.2.2.2.1
theorem dX8_readDoor_39 : decode cX8_readDoor 39 = .ok (.invokevirtual 71, 3) := dkAa173.2.2.2.2.2.2.2.2.2.2.1
theorem dX8_readDoor_42 : decode cX8_readDoor 42 = .ok (.ifCond .eq 8, 3) := dkAa173.2.2.2.2.2.2.2.2.2.2.2
set_option maxRecDepth 100000 in
theorem dkAa174 : decode cX8_readDoor 45 = .ok (.aload_n 1, 1) ∧ decode cX8_readDoor 46 = .ok (.iload_n 2, 1) ∧ decode cX8_readDoor 47 = .ok (.invokevirtual 99, 3) ∧ decode cX8_readDoor 50 = .ok (.return_, 1) := by decide +kernel
theorem dX8_readDoor_45 : decode cX8_readDoor 45 = .ok (.aload_n 1, 1) := dkAa174.1
theorem dX8_readDoor_46 : decode cX8_readDoor 46 = .ok (.iload_n 2, 1) := dkAa174.2.1
theorem dX8_readDoor_47 : decode cX8_readDoor 47 = .ok (.invokevirtual 99, 3) := dkAa174.2.2.1
theorem dX8_readDoor_50 : decode cX8_readDoor 50 = .ok (.return_, 1) := dkAa174.2.2.2
set_option maxRecDepth 100000 in
theorem dkAa175 : decode cX8_readChoir 0 = .ok (.aload_n 1, 1) ∧ decode cX8_readChoir 1 = .ok (.getfield 102, 3) ∧ decode cX8_readChoir 4 = .ok (.ifCond .le 13, 3) ∧ decode cX8_readChoir 7 = .ok (.aload_n 0, 1) ∧ decode cX8_readChoir 8 = .ok (.iconst 3, 1) ∧ decode cX8_readChoir 9 = .ok (.aload_n 0, 1) ∧ decode cX8_readChoir 10 = .ok (.getfield 27, 3) ∧ decode cX8_readChoir 13 = .ok (.invokevirtual 60, 3) ∧ decode cX8_readChoir 16 = .ok (.return_, 1) ∧ decode cX8_readChoir 17 = .ok (.aload_n 0, 1) ∧ decode cX8_readChoir 18 = .ok (.dup, 1) ∧ decode cX8_readChoir 19 = .ok (.getfield 27, 3) := by decide +kernel
theorem dX8_readChoir_0 : decode cX8_readChoir 0 = .ok (.aload_n 1, 1) := dkAa175.1
theorem dX8_readChoir_1 : decode cX8_readChoir 1 = .ok (.getfield 102, 3) := dkAa175.2.1
theorem dX8_readChoir_4 : decode cX8_readChoir 4 = .ok (.ifCond .le 13, 3) := dkAa175.2.2.1
theorem dX8_readChoir_7 : decode cX8_readChoir 7 = .ok (.aload_n 0, 1) := dkAa175.2.2.2.1
theorem dX8_readChoir_8 : decode cX8_readChoir 8 = .ok (.iconst 3, 1) := dkAa175.2.2.2.2.1
theorem dX8_readChoir_9 : decode cX8_readChoir 9 = .ok (.aload_n 0, 1) := dkAa175.2.2.2.2.2.1
theorem dX8_readChoir_10 : decode cX8_readChoir 10 = .ok (.getfield 27, 3) := dkAa175.2.2.2.2.2.2.1
theorem dX8_readChoir_13 : decode cX8_readChoir 13 = .ok (.invokevirtual 60, 3) := dkAa175.2.2.2.2.2.2.2.1
theorem dX8_readChoir_16 : decode cX8_readChoir 16 = .ok (.return_, 1) := dkAa175.2.2.2.2.2.2.2.2.1
theorem dX8_readChoir_17 : decode cX8_readChoir 17 = .ok (.aload_n 0, 1) := dkAa175.2.2.2.2.2.2.2.2.2.1
theorem dX8_readChoir_18 : decode cX8_readChoir 18 = .ok (.dup, 1) := dkAa175.2.2.2.2.2.2.2.2.2.2.1
theorem dX8_readChoir_19 : decode cX8_readChoir 19 = .ok (.getfield 27, 3) := dkAa175.2.2.2.2.2.2.2.2.2.2.2
set_option maxRecDepth 100000 in
theorem dkAa176 : decode cX8_readChoir 22 = .ok (.iconst 1, 1) ∧ decode cX8_readChoir 23 = .ok (.iadd, 1) ∧ decode cX8_readChoir 24 = .ok (.putfield 27, 3) ∧ decode cX8_readChoir 27 = .ok (.aload_n 1, 1) ∧ decode cX8_readChoir 28 = .ok (.aload_n 0, 1) ∧ decode cX8_readChoir 29 = .ok (.bipush 8, 2) ∧ decode cX8_readChoir 31 = .ok (.invokevirtual 67, 3) ∧ decode cX8_readChoir 34 = .ok (.invokevirtual 105, 3) ∧ decode cX8_readChoir 37 = .ok (.iconst 1, 1) ∧ decode cX8_readChoir 38 = .ok (.istore_n 2, 1) ∧ decode cX8_readChoir 39 = .ok (.iload_n 2, 1) ∧ decode cX8_readChoir 40 = .ok (.bipush 6, 2) := by decide +kernel
theorem dX8_readChoir_22 : decode cX8_readChoir 22 = .ok (.iconst 1, 1) := dkAa176.1
theorem dX8_readChoir_23 : decode cX8_readChoir 23 = .ok (.iadd, 1) := dkAa176.2.1
theorem dX8_readChoir_24 : decode cX8_readChoir 24 = .ok (.putfield 27, 3) := dkAa176.2.2.1
theorem dX8_readChoir_27 : decode cX8_readChoir 27 = .ok (.aload_n 1, 1) := dkAa176.2.2.2.1
theorem dX8_readChoir_28 : decode cX8_readChoir 28 = .ok (.aload_n 0, 1) := dkAa176.2.2.2.2.1
theorem dX8_readChoir_29 : decode cX8_readChoir 29 = .ok (.bipush 8, 2) := dkAa176.2.2.2.2.2.1
theorem dX8_readChoir_31 : decode cX8_readChoir 31 = .ok (.invokevirtual 67, 3) := dkAa176.2.2.2.2.2.2.1
theorem dX8_readChoir_34 : decode cX8_readChoir 34 = .ok (.invokevirtual 105, 3) := dkAa176.2.2.2.2.2.2.2.1
theorem dX8_readChoir_37 : decode cX8_readChoir 37 = .ok (.iconst 1, 1) := dkAa176.2.2.2.2.2.2.2.2.1
theorem dX8_readChoir_38 : decode cX8_readChoir 38 = .ok (.istore_n 2, 1) := dkAa176.2.2.2.2.2.2.2.2.2.1
theorem dX8_readChoir_39 : decode cX8_readChoir 39 = .ok (.iload_n 2, 1) := dkAa176.2.2.2.2.2.2.2.2.2.2.1
theorem dX8_readChoir_40 : decode cX8_readChoir 40 = .ok (.bipush 6, 2) := dkAa176.2.2.2.2.2.2.2.2.2.2.2
set_option maxRecDepth 100000 in
theorem dkAa177 : decode cX8_readChoir 42 = .ok (.if_icmp .ge 38, 3) ∧ decode cX8_readChoir 45 = .ok (.aload_n 0, 1) ∧ decode cX8_readChoir 46 = .ok (.bipush 44, 2) ∧ decode cX8_readChoir 48 = .ok (.invokevirtual 108, 3) ∧ decode cX8_readChoir 51 = .ok (.ifCond .eq 29, 3) ∧ decode cX8_readChoir 54 = .ok (.aload_n 0, 1) ∧ decode cX8_readChoir 55 = .ok (.dup, 1) ∧ decode cX8_readChoir 56 = .ok (.getfield 27, 3) ∧ decode cX8_readChoir 59 = .ok (.iconst 1, 1) ∧ decode cX8_readChoir 60 = .ok (.iadd, 1) ∧ decode cX8_readChoir 61 = .ok (.putfield 27, 3) ∧ decode cX8_readChoir 64 = .ok (.aload_n 1, 1) := by decide +kernel
theorem dX8_readChoir_42 : decode cX8_readChoir 42 = .ok (.if_icmp .ge 38, 3) := dkAa177.1
theorem dX8_readChoir_45 : decode cX8_readChoir 45 = .ok (.aload_n 0, 1) := dkAa177.2.1
theorem dX8_readChoir_46 : decode cX8_readChoir 46 = .ok (.bipush 44, 2) := dkAa177.2.2.1
theorem dX8_readChoir_48 : decode cX8_readChoir 48 = .ok (.invokevirtual 108, 3) := dkAa177.2.2.2.1
theorem dX8_readChoir_51 : decode cX8_readChoir 51 = .ok (.ifCond .eq 29, 3) := dkAa177.2.2.2.2.1
theorem dX8_readChoir_54 : decode cX8_readChoir 54 = .ok (.aload_n 0, 1) := dkAa177.2.2.2.2.2.1
theorem dX8_readChoir_55 : decode cX8_readChoir 55 = .ok (.dup, 1) := dkAa177.2.2.2.2.2.2.1
theorem dX8_readChoir_56 : decode cX8_readChoir 56 = .ok (.getfield 27, 3) := dkAa177.2.2.2.2.2.2.2.1
theorem dX8_readChoir_59 : decode cX8_readChoir 59 = .ok (.iconst 1, 1) := dkAa177.2.2.2.2.2.2.2.2.1
theorem dX8_readChoir_60 : decode cX8_readChoir 60 = .ok (.iadd, 1) := dkAa177.2.2.2.2.2.2.2.2.2.1
theorem dX8_readChoir_61 : decode cX8_readChoir 61 = .ok (.putfield 27, 3) := dkAa177.2.2.2.2.2.2.2.2.2.2.1
theorem dX8_readChoir_64 : decode cX8_readChoir 64 = .ok (.aload_n 1, 1) := dkAa177.2.2.2.2.2.2.2.2.2.2.2
set_option maxRecDepth 100000 in
theorem dkAa178 : decode cX8_readChoir 65 = .ok (.aload_n 0, 1) ∧ decode cX8_readChoir 66 = .ok (.bipush 8, 2) ∧ decode cX8_readChoir 68 = .ok (.invokevirtual 67, 3) ∧ decode cX8_readChoir 71 = .ok (.invokevirtual 105, 3) ∧ decode cX8_readChoir 74 = .ok (.iinc 2 1, 3) ∧ decode cX8_readChoir 77 = .ok (.goto (-38), 3) ∧ decode cX8_readChoir 80 = .ok (.aload_n 0, 1) ∧ decode cX8_readChoir 81 = .ok (.bipush 59, 2) ∧ decode cX8_readChoir 83 = .ok (.invokevirtual 71, 3) ∧ decode cX8_readChoir 86 = .ok (.pop, 1) ∧ decode cX8_readChoir 87 = .ok (.return_, 1) := by decide +kernel
theorem dX8_readChoir_65 : decode cX8_readChoir 65 = .ok (.aload_n 0, 1) := dkAa178.1
theorem dX8_readChoir_66 : decode cX8_readChoir 66 = .ok (.bipush 8, 2) := dkAa178.2.1
theorem dX8_readChoir_68 : decode cX8_readChoir 68 = .ok (.invokevirtual 67, 3) := dkAa178.2.2.1
theorem dX8_readChoir_71 : decode cX8_readChoir 71 = .ok (.invokevirtual 105, 3) := dkAa178.2.2.2.1
theorem dX8_readChoir_74 : decode cX8_readChoir 74 = .ok (.iinc 2 1, 3) := dkAa178.2.2.2.2.1
theorem dX8_readChoir_77 : decode cX8_readChoir 77 = .ok (.goto (-38), 3) := dkAa178.2.2.2.2.2.1
theorem dX8_readChoir_80 : decode cX8_readChoir 80 = .ok (.aload_n 0, 1) := dkAa178.2.2.2.2.2.2.1
theorem dX8_readChoir_81 : decode cX8_readChoir 81 = .ok (.bipush 59, 2) := dkAa178.2.2.2.2.2.2.2.1
theorem dX8_readChoir_83 : decode cX8_readChoir 83 = .ok (.invokevirtual 71, 3) := dkAa178.2.2.2.2.2.2.2.2.1
theorem dX8_readChoir_86 : decode cX8_readChoir 86 = .ok (.pop, 1) := dkAa178.2.2.2.2.2.2.2.2.2.1
theorem dX8_readChoir_87 : decode cX8_readChoir 87 = .ok (.return_, 1) := dkAa178.2.2.2.2.2.2.2.2.2.2
set_option maxRecDepth 100000 in
theorem dkAa179 : decode cX8_readNumber 0 = .ok (.aload_n 0, 1) ∧ decode cX8_readNumber 1 = .ok (.invokevirtual 36, 3) ∧ decode cX8_readNumber 4 = .ok (.ifCond .ne 5, 3) ∧ decode cX8_readNumber 7 = .ok (.iconst (-1), 1) ∧ decode cX8_readNumber 8 = .ok (.ireturn, 1) ∧ decode cX8_readNumber 9 = .ok (.aload_n 0, 1) ∧ decode cX8_readNumber 10 = .ok (.invokevirtual 33, 3) ∧ decode cX8_readNumber 13 = .ok (.aload_n 0, 1) ∧ decode cX8_readNumber 14 = .ok (.aload_n 0, 1) ∧ decode cX8_readNumber 15 = .ok (.getfield 27, 3) ∧ decode cX8_readNumber 18 = .ok (.putfield 82, 3) ∧ decode cX8_readNumber 21 = .ok (.iconst 0, 1) := by decide +kernel
theorem dX8_readNumber_0 : decode cX8_readNumber 0 = .ok (.aload_n 0, 1) := dkAa179.1
theorem dX8_readNumber_1 : decode cX8_readNumber 1 = .ok (.invokevirtual 36, 3) := dkAa179.2.1
theorem dX8_readNumber_4 : decode cX8_readNumber 4 = .ok (.ifCond .ne 5, 3) := dkAa179.2.2.1
theorem dX8_readNumber_7 : decode cX8_readNumber 7 = .ok (.iconst (-1), 1) := dkAa179.2.2.2.1
theorem dX8_readNumber_8 : decode cX8_readNumber 8 = .ok (.ireturn, 1) := dkAa179.2.2.2.2.1
theorem dX8_readNumber_9 : decode cX8_readNumber 9 = .ok (.aload_n 0, 1) := dkAa179.2.2.2.2.2.1
theorem dX8_readNumber_10 : decode cX8_readNumber 10 = .ok (.invokevirtual 33, 3) := dkAa179.2.2.2.2.2.2.1
theorem dX8_readNumber_13 : decode cX8_readNumber 13 = .ok (.aload_n 0, 1) := dkAa179.2.2.2.2.2.2.2.1
theorem dX8_readNumber_14 : decode cX8_readNumber 14 = .ok (.aload_n 0, 1) := dkAa179.2.2.2.2.2.2.2.2.1
theorem dX8_readNumber_15 : decode cX8_readNumber 15 = .ok (.getfield 27, 3) := dkAa179.2.2.2.2.2.2.2.2.2.1
theorem dX8_readNumber_18 : decode cX8_readNumber 18 = .ok (.putfield 82, 3) := dkAa179.2.2.2.2.2.2.2.2.2.2.1
theorem dX8_readNumber_21 : decode cX8_readNumber 21 = .ok (.iconst 0, 1) := dkAa179.2.2.2.2.2.2.2.2.2.2.2
set_option maxRecDepth 100000 in
theorem dkAa180 : decode cX8_readNumber 22 = .ok (.istore_n 2, 1) ∧ decode cX8_readNumber 23 = .ok (.iconst 0, 1) ∧ decode cX8_readNumber 24 = .ok (.istore_n 3, 1) ∧ decode cX8_readNumber 25 = .ok (.aload_n 0, 1) ∧ decode cX8_readNumber 26 = .ok (.getfield 27, 3) ∧ decode cX8_readNumber 29 = .ok (.aload_n 0, 1) ∧ decode cX8_readNumber 30 = .ok (.getfield 19, 3) ∧ decode cX8_readNumber 33 = .ok (.if_icmp .ge 51, 3) ∧ decode cX8_readNumber 36 = .ok (.aload_n 0, 1) ∧ decode cX8_readNumber 37 = .ok (.invokevirtual 44, 3) ∧ decode cX8_readNumber 40 = .ok (.invokestatic 111, 3) ∧ decode cX8_readNumber 43 = .ok (.ifCond .eq 41, 3) := by decide +kernel
theorem dX8_readNumber_22 : decode cX8_readNumber 22 = .ok (.istore_n 2, 1) := dkAa180.1
theorem dX8_readNumber_23 : decode cX8_readNumber 23 = .ok (.iconst 0, 1) := dkAa180.2.1
theorem dX8_readNumber_24 : decode cX8_readNumber 24 = .ok (.istore_n 3, 1) := dkAa180.2.2.1
theorem dX8_readNumber_25 : decode cX8_readNumber 25 = .ok (.aload_n 0, 1) := dkAa180.2.2.2.1
theorem dX8_readNumber_26 : decode cX8_readNumber 26 = .ok (.getfield 27, 3) := dkAa180.2.2.2.2.1
theorem dX8_readNumber_29 : decode cX8_readNumber 29 = .ok (.aload_n 0, 1) := dkAa180.2.2.2.2.2.1
theorem dX8_readNumber_30 : decode cX8_readNumber 30 = .ok (.getfield 19, 3) := dkAa180.2.2.2.2.2.2.1
theorem dX8_readNumber_33 : decode cX8_readNumber 33 = .ok (.if_icmp .ge 51, 3) := dkAa180.2.2.2.2.2.2.2.1
theorem dX8_readNumber_36 : decode cX8_readNumber 36 = .ok (.aload_n 0, 1) := dkAa180.2.2.2.2.2.2.2.2.1
theorem dX8_readNumber_37 : decode cX8_readNumber 37 = .ok (.invokevirtual 44, 3) := dkAa180.2.2.2.2.2.2.2.2.2.1
theorem dX8_readNumber_40 : decode cX8_readNumber 40 = .ok (.invokestatic 111, 3) := dkAa180.2.2.2.2.2.2.2.2.2.2.1
theorem dX8_readNumber_43 : decode cX8_readNumber 43 = .ok (.ifCond .eq 41, 3) := dkAa180.2.2.2.2.2.2.2.2.2.2.2
set_option maxRecDepth 100000 in
theorem dkAa181 : decode cX8_readNumber 46 = .ok (.iinc 2 1, 3) ∧ decode cX8_readNumber 49 = .ok (.iload_n 2, 1) ∧ decode cX8_readNumber 50 = .ok (.iconst 3, 1) ∧ decode cX8_readNumber 51 = .ok (.if_icmp .le 7, 3) ∧ decode cX8_readNumber 54 = .ok (.iload_n 3, 1) ∧ decode cX8_readNumber 55 = .ok (.goto 15, 3) ∧ decode cX8_readNumber 58 = .ok (.bipush 10, 2) ∧ decode cX8_readNumber 60 = .ok (.iload_n 3, 1) ∧ decode cX8_readNumber 61 = .ok (.imul, 1) ∧ decode cX8_readNumber 62 = .ok (.aload_n 0, 1) ∧ decode cX8_readNumber 63 = .ok (.invokevirtual 44, 3) ∧ decode cX8_readNumber 66 = .ok (.iadd, 1) := by decide +kernel
theorem dX8_readNumber_46 : decode cX8_readNumber 46 = .ok (.iinc 2 1, 3) := dkAa181.1
theorem dX8_readNumber_49 : decode cX8_readNumber 49 = .ok (.iload_n 2, 1) := dkAa181.2.1
theorem dX8_readNumber_50 : decode cX8_readNumber 50 = .ok (.iconst 3, 1) := dkAa181.2.2.1
theorem dX8_readNumber_51 : decode cX8_readNumber 51 = .ok (.if_icmp .le 7, 3) := dkAa181.2.2.2.1
theorem dX8_readNumber_54 : decode cX8_readNumber 54 = .ok (.iload_n 3, 1) := dkAa181.2.2.2.2.1
theorem dX8_readNumber_55 : decode cX8_readNumber 55 = .ok (.goto 15, 3) := dkAa181.2.2.2.2.2.1
theorem dX8_readNumber_58 : decode cX8_readNumber 58 = .ok (.bipush 10, 2) := dkAa181.2.2.2.2.2.2.1
theorem dX8_readNumber_60 : decode cX8_readNumber 60 = .ok (.iload_n 3, 1) := dkAa181.2.2.2.2.2.2.2.1
theorem dX8_readNumber_61 : decode cX8_readNumber 61 = .ok (.imul, 1) := dkAa181.2.2.2.2.2.2.2.2.1
theorem dX8_readNumber_62 : decode cX8_readNumber 62 = .ok (.aload_n 0, 1) := dkAa181.2.2.2.2.2.2.2.2.2.1
theorem dX8_readNumber_63 : decode cX8_readNumber 63 = .ok (.invokevirtual 44, 3) := dkAa181.2.2.2.2.2.2.2.2.2.2.1
theorem dX8_readNumber_66 : decode cX8_readNumber 66 = .ok (.iadd, 1) := dkAa181.2.2.2.2.2.2.2.2.2.2.2
set_option maxRecDepth 100000 in
theorem dkAa182 : decode cX8_readNumber 67 = .ok (.bipush 48, 2) ∧ decode cX8_readNumber 69 = .ok (.isub, 1) ∧ decode cX8_readNumber 70 = .ok (.istore_n 3, 1) ∧ decode cX8_readNumber 71 = .ok (.aload_n 0, 1) ∧ decode cX8_readNumber 72 = .ok (.dup, 1) ∧ decode cX8_readNumber 73 = .ok (.getfield 27, 3) ∧ decode cX8_readNumber 76 = .ok (.iconst 1, 1) ∧ decode cX8_readNumber 77 = .ok (.iadd, 1) ∧ decode cX8_readNumber 78 = .ok (.putfield 27, 3) ∧ decode cX8_readNumber 81 = .ok (.goto (-56), 3) ∧ decode cX8_readNumber 84 = .ok (.iload_n 2, 1) ∧ decode cX8_readNumber 85 = .ok (.ifCond .ne 15, 3) := by decide +kernel
theorem dX8_readNumber_67 : decode cX8_readNumber 67 = .ok (.bipush 48, 2) := dkAa182.1
theorem dX8_readNumber_69 : decode cX8_readNumber 69 = .ok (.isub, 1) := dkAa182.2.1
theorem dX8_readNumber_70 : decode cX8_readNumber 70 = .ok (.istore_n 3, 1) := dkAa182.2.2.1
theorem dX8_readNumber_71 : decode cX8_readNumber 71 = .ok (.aload_n 0, 1) := dkAa182.2.2.2.1
theorem dX8_readNumber_72 : decode cX8_readNumber 72 = .ok (.dup, 1) := dkAa182.2.2.2.2.1
theorem dX8_readNumber_73 : decode cX8_readNumber 73 = .ok (.getfield 27, 3) := dkAa182.2.2.2.2.2.1
theorem dX8_readNumber_76 : decode cX8_readNumber 76 = .ok (.iconst 1, 1) := dkAa182.2.2.2.2.2.2.1
theorem dX8_readNumber_77 : decode cX8_readNumber 77 = .ok (.iadd, 1) := dkAa182.2.2.2.2.2.2.2.1
theorem dX8_readNumber_78 : decode cX8_readNumber 78 = .ok (.putfield 27, 3) := dkAa182.2.2.2.2.2.2.2.2.1
theorem dX8_readNumber_81 : decode cX8_readNumber 81 = .ok (.goto (-56), 3) := dkAa182.2.2.2.2.2.2.2.2.2.1
theorem dX8_readNumber_84 : decode cX8_readNumber 84 = .ok (.iload_n 2, 1) := dkAa182.2.2.2.2.2.2.2.2.2.2.1
theorem dX8_readNumber_85 : decode cX8_readNumber 85 = .ok (.ifCond .ne 15, 3) := dkAa182.2.2.2.2.2.2.2.2.2.2.2
set_option maxRecDepth 100000 in
theorem dkAa183 : decode cX8_readNumber 88 = .ok (.aload_n 0, 1) ∧ decode cX8_readNumber 89 = .ok (.iconst 1, 1) ∧ decode cX8_readNumber 90 = .ok (.aload_n 0, 1) ∧ decode cX8_readNumber 91 = .ok (.getfield 27, 3) ∧ decode cX8_readNumber 94 = .ok (.invokevirtual 60, 3) ∧ decode cX8_readNumber 97 = .ok (.goto 22, 3) ∧ decode cX8_readNumber 100 = .ok (.iload_n 2, 1) ∧ decode cX8_readNumber 101 = .ok (.iconst 3, 1) ∧ decode cX8_readNumber 102 = .ok (.if_icmp .gt 8, 3) ∧ decode cX8_readNumber 105 = .ok (.iload_n 3, 1) ∧ decode cX8_readNumber 106 = .ok (.iload_n 1, 1) ∧ decode cX8_readNumber 107 = .ok (.if_icmp .le 12, 3) := by decide +kernel
theorem dX8_readNumber_88 : decode cX8_readNumber 88 = .ok (.aload_n 0, 1) := dkAa183.1
theorem dX8_readNumber_89 : decode cX8_readNumber 89 = .ok (.iconst 1, 1) := dkAa183.2.1
theorem dX8_readNumber_90 : decode cX8_readNumber 90 = .ok (.aload_n 0, 1) := dkAa183.2.2.1
theorem dX8_readNumber_91 : decode cX8_readNumber 91 = .ok (.getfield 27, 3) := dkAa183.2.2.2.1
theorem dX8_readNumber_94 : decode cX8_readNumber 94 = .ok (.invokevirtual 60, 3) := dkAa183.2.2.2.2.1
theorem dX8_readNumber_97 : decode cX8_readNumber 97 = .ok (.goto 22, 3) := dkAa183.2.2.2.2.2.1
theorem dX8_readNumber_100 : decode cX8_readNumber 100 = .ok (.iload_n 2, 1) := dkAa183.2.2.2.2.2.2.1
theorem dX8_readNumber_101 : decode cX8_readNumber 101 = .ok (.iconst 3, 1) := dkAa183.2.2.2.2.2.2.2.1
theorem dX8_readNumber_102 : decode cX8_readNumber 102 = .ok (.if_icmp .gt 8, 3) := dkAa183.2.2.2.2.2.2.2.2.1
theorem dX8_readNumber_105 : decode cX8_readNumber 105 = .ok (.iload_n 3, 1) := dkAa183.2.2.2.2.2.2.2.2.2.1
theorem dX8_readNumber_106 : decode cX8_readNumber 106 = .ok (.iload_n 1, 1) := dkAa183.2.2.2.2.2.2.2.2.2.2.1
theorem dX8_readNumber_107 : decode cX8_readNumber 107 = .ok (.if_icmp .le 12, 3) := dkAa183.2.2.2.2.2.2.2.2.2.2.2
set_option maxRecDepth 100000 in
theorem dkAa184 : decode cX8_readNumber 110 = .ok (.aload_n 0, 1) ∧ decode cX8_readNumber 111 = .ok (.iconst 2, 1) ∧ decode cX8_readNumber 112 = .ok (.aload_n 0, 1) ∧ decode cX8_readNumber 113 = .ok (.getfield 82, 3) ∧ decode cX8_readNumber 116 = .ok (.invokevirtual 60, 3) ∧ decode cX8_readNumber 119 = .ok (.aload_n 0, 1) ∧ decode cX8_readNumber 120 = .ok (.invokevirtual 36, 3) ∧ decode cX8_readNumber 123 = .ok (.ifCond .eq 7, 3) ∧ decode cX8_readNumber 126 = .ok (.iload_n 3, 1) ∧ decode cX8_readNumber 127 = .ok (.goto 4, 3) ∧ decode cX8_readNumber 130 = .ok (.iconst (-1), 1) ∧ decode cX8_readNumber 131 = .ok (.ireturn, 1) := by decide +kernel
theorem dX8_readNumber_110 : decode cX8_readNumber 110 = .ok (.aload_n 0, 1) := dkAa184.1
theorem dX8_readNumber_111 : decode cX8_readNumber 111 = .ok (.iconst 2, 1) := dkAa184.2.1
theorem dX8_readNumber_112 : decode cX8_readNumber 112 = .ok (.aload_n 0, 1) := dkAa184.2.2.1
theorem dX8_readNumber_113 : decode cX8_readNumber 113 = .ok (.getfield 82, 3) := dkAa184.2.2.2.1
theorem dX8_readNumber_116 : decode cX8_readNumber 116 = .ok (.invokevirtual 60, 3) := dkAa184.2.2.2.2.1
theorem dX8_readNumber_119 : decode cX8_readNumber 119 = .ok (.aload_n 0, 1) := dkAa184.2.2.2.2.2.1
theorem dX8_readNumber_120 : decode cX8_readNumber 120 = .ok (.invokevirtual 36, 3) := dkAa184.2.2.2.2.2.2.1
theorem dX8_readNumber_123 : decode cX8_readNumber 123 = .ok (.ifCond .eq 7, 3) := dkAa184.2.2.2.2.2.2.2.1
theorem dX8_readNumber_126 : decode cX8_readNumber 126 = .ok (.iload_n 3, 1) := dkAa184.2.2.2.2.2.2.2.2.1
theorem dX8_readNumber_127 : decode cX8_readNumber 127 = .ok (.goto 4, 3) := dkAa184.2.2.2.2.2.2.2.2.2.1
theorem dX8_readNumber_130 : decode cX8_readNumber 130 = .ok (.iconst (-1), 1) := dkAa184.2.2.2.2.2.2.2.2.2.2.1
theorem dX8_readNumber_131 : decode cX8_readNumber 131 = .ok (.ireturn, 1) := dkAa184.2.2.2.2.2.2.2.2.2.2.2
set_option maxRecDepth 100000 in
theorem dkAa185 : decode cX8_readSign 0 = .ok (.aload_n 0, 1) ∧ decode cX8_readSign 1 = .ok (.iload_n 1, 1) ∧ decode cX8_readSign 2 = .ok (.invokevirtual 108, 3) ∧ decode cX8_readSign 5 = .ok (.ifCond .eq 15, 3) ∧ decode cX8_readSign 8 = .ok (.aload_n 0, 1) ∧ decode cX8_readSign 9 = .ok (.dup, 1) ∧ decode cX8_readSign 10 = .ok (.getfield 27, 3) ∧ decode cX8_readSign 13 = .ok (.iconst 1, 1) ∧ decode cX8_readSign 14 = .ok (.iadd, 1) ∧ decode cX8_readSign 15 = .ok (.putfield 27, 3) ∧ decode cX8_readSign 18 = .ok (.iconst 1, 1) ∧ decode cX8_readSign 19 = .ok (.ireturn, 1) := by decide +kernel
theorem dX8_readSign_0 : decode cX8_readSign 0 = .ok (.aload_n 0, 1) := dkAa185.1
theorem dX8_readSign_1 : decode cX8_readSign 1 = .ok (.iload_n 1, 1) := dkAa185.2.1
theorem dX8_readSign_2 : decode cX8_readSign 2 = .ok (.invokevirtual 108, 3) := dkAa185.2.2.1
theorem dX8_readSign_5 : decode cX8_readSign 5 = .ok (.ifCond .eq 15, 3) := dkAa185.2.2.2.1
theorem dX8_readSign_8 : decode cX8_readSign 8 = .ok (.aload_n 0, 1) := dkAa185.2.2.2.2.1
theorem dX8_readSign_9 : decode cX8_readSign 9 = .ok (.dup, 1) := dkAa185.2.2.2.2.2.1
theorem dX8_readSign_10 : decode cX8_readSign 10 = .ok (.getfield 27, 3) := dkAa185.2.2.2.2.2.2.1
theorem dX8_readSign_13 : decode cX8_readSign 13 = .ok (.iconst 1, 1) := dkAa185.2.2.2.2.2.2.2.1
theorem dX8_readSign_14 : decode cX8_readSign 14 = .ok (.iadd, 1) := dkAa185.2.2.2.2.2.2.2.2.1
theorem dX8_readSign_15 : decode cX8_readSign 15 = .ok (.putfield 27, 3) := dkAa185.2.2.2.2.2.2.2.2.2.1
theorem dX8_readSign_18 : decode cX8_readSign 18 = .ok (.iconst 1, 1) := dkAa185.2.2.2.2.2.2.2.2.2.2.1
theorem dX8_readSign_19 : decode cX8_readSign 19 = .ok (.ireturn, 1) := dkAa185.2.2.2.2.2.2.2.2.2.2.2
set_option maxRecDepth 100000 in
theorem dkAa186 : decode cX8_readSign 20 = .ok (.aload_n 0, 1) ∧ decode cX8_readSign 21 = .ok (.iconst 1, 1) ∧ decode cX8_readSign 22 = .ok (.aload_n 0, 1) ∧ decode cX8_readSign 23 = .ok (.getfield 27, 3) ∧ decode cX8_readSign 26 = .ok (.invokevirtual 60, 3) ∧ decode cX8_readSign 29 = .ok (.iconst 0, 1) ∧ decode cX8_readSign 30 = .ok (.ireturn, 1) := by decide +kernel
theorem dX8_readSign_20 : decode cX8_readSign 20 = .ok (.aload_n 0, 1) := dkAa186.1
theorem dX8_readSign_21 : decode cX8_readSign 21 = .ok (.iconst 1, 1) := dkAa186.2.1
theorem dX8_readSign_22 : decode cX8_readSign 22 = .ok (.aload_n 0, 1) := dkAa186.2.2.1
theorem dX8_readSign_23 : decode cX8_readSign 23 = .ok (.getfield 27, 3) := dkAa186.2.2.2.1
theorem dX8_readSign_26 : decode cX8_readSign 26 = .ok (.invokevirtual 60, 3) := dkAa186.2.2.2.2.1
theorem dX8_readSign_29 : decode cX8_readSign 29 = .ok (.iconst 0, 1) := dkAa186.2.2.2.2.2.1
theorem dX8_readSign_30 : decode cX8_readSign 30 = .ok (.ireturn, 1) := dkAa186.2.2.2.2.2.2
set_option maxRecDepth 100000 in
theorem dkAa187 : decode cX8_isNext 0 = .ok (.aload_n 0, 1) ∧ decode cX8_isNext 1 = .ok (.invokevirtual 36, 3) ∧ decode cX8_isNext 4 = .ok (.ifCond .ne 5, 3) ∧ decode cX8_isNext 7 = .ok (.iconst 0, 1) ∧ decode cX8_isNext 8 = .ok (.ireturn, 1) ∧ decode cX8_isNext 9 = .ok (.aload_n 0, 1) ∧ decode cX8_isNext 10 = .ok (.invokevirtual 33, 3) ∧ decode cX8_isNext 13 = .ok (.aload_n 0, 1) ∧ decode cX8_isNext 14 = .ok (.invokevirtual 44, 3) ∧ decode cX8_isNext 17 = .ok (.iload_n 1, 1) ∧ decode cX8_isNext 18 = .ok (.if_icmp .ne 7, 3) ∧ decode cX8_isNext 21 = .ok (.iconst 1, 1) := by decide +kernel
theorem dX8_isNext_0 : decode cX8_isNext 0 = .ok (.aload_n 0, 1) := dkAa187.1
theorem dX8_isNext_1 : decode cX8_isNext 1 = .ok (.invokevirtual 36, 3) := dkAa187.2.1
theorem dX8_isNext_4 : decode cX8_isNext 4 = .ok (.ifCond .ne 5, 3) := dkAa187.2.2.1
theorem dX8_isNext_7 : decode cX8_isNext 7 = .ok (.iconst 0, 1) := dkAa187.2.2.2.1
theorem dX8_isNext_8 : decode cX8_isNext 8 = .ok (.ireturn, 1) := dkAa187.2.2.2.2.1
theorem dX8_isNext_9 : decode cX8_isNext 9 = .ok (.aload_n 0, 1) := dkAa187.2.2.2.2.2.1
theorem dX8_isNext_10 : decode cX8_isNext 10 = .ok (.invokevirtual 33, 3) := dkAa187.2.2.2.2.2.2.1
theorem dX8_isNext_13 : decode cX8_isNext 13 = .ok (.aload_n 0, 1) := dkAa187.2.2.2.2.2.2.2.1
theorem dX8_isNext_14 : decode cX8_isNext 14 = .ok (.invokevirtual 44, 3) := dkAa187.2.2.2.2.2.2.2.2.1
theorem dX8_isNext_17 : decode cX8_isNext 17 = .ok (.iload_n 1, 1) := dkAa187.2.2.2.2.2.2.2.2.2.1
theorem dX8_isNext_18 : decode cX8_isNext 18 = .ok (.if_icmp .ne 7, 3) := dkAa187.2.2.2.2.2.2.2.2.2.2.1
theorem dX8_isNext_21 : decode cX8_isNext 21 = .ok (.iconst 1, 1) := dkAa187.2.2.2.2.2.2.2.2.2.2.2
set_option maxRecDepth 100000 in
theorem dkAa188 : decode cX8_isNext 22 = .ok (.goto 4, 3) ∧ decode cX8_isNext 25 = .ok (.iconst 0, 1) ∧ decode cX8_isNext 26 = .ok (.ireturn, 1) := by decide +kernel
theorem dX8_isNext_22 : decode cX8_isNext 22 = .ok (.goto 4, 3) := dkAa188.1
theorem dX8_isNext_25 : decode cX8_isNext 25 = .ok (.iconst 0, 1) := dkAa188.2.1
theorem dX8_isNext_26 : decode cX8_isNext 26 = .ok (.ireturn, 1) := dkAa188.2.2
set_option maxRecDepth 100000 in
theorem dkAa189 : decode cX8_skipBlanks 0 = .ok (.aload_n 0, 1) ∧ decode cX8_skipBlanks 1 = .ok (.getfield 27, 3) ∧ decode cX8_skipBlanks 4 = .ok (.aload_n 0, 1) ∧ decode cX8_skipBlanks 5 = .ok (.getfield 19, 3) ∧ decode cX8_skipBlanks 8 = .ok (.if_icmp .ge 42, 3) ∧ decode cX8_skipBlanks 11 = .ok (.aload_n 0, 1) ∧ decode cX8_skipBlanks 12 = .ok (.getfield 27, 3) ∧ decode cX8_skipBlanks 15 = .ok (.aload_n 0, 1) ∧ decode cX8_skipBlanks 16 = .ok (.getfield 15, 3) ∧ decode cX8_skipBlanks 19 = .ok (.arraylength, 1) ∧ decode cX8_skipBlanks 20 = .ok (.if_icmp .ge 30, 3) ∧ decode cX8_skipBlanks 23 = .ok (.aload_n 0, 1) := by decide +kernel
theorem dX8_skipBlanks_0 : decode cX8_skipBlanks 0 = .ok (.aload_n 0, 1) := dkAa189.1
theorem dX8_skipBlanks_1 : decode cX8_skipBlanks 1 = .ok (.getfield 27, 3) := dkAa189.2.1
theorem dX8_skipBlanks_4 : decode cX8_skipBlanks 4 = .ok (.aload_n 0, 1) := dkAa189.2.2.1
theorem dX8_skipBlanks_5 : decode cX8_skipBlanks 5 = .ok (.getfield 19, 3) := dkAa189.2.2.2.1
theorem dX8_skipBlanks_8 : decode cX8_skipBlanks 8 = .ok (.if_icmp .ge 42, 3) := dkAa189.2.2.2.2.1
theorem dX8_skipBlanks_11 : decode cX8_skipBlanks 11 = .ok (.aload_n 0, 1) := dkAa189.2.2.2.2.2.1
theorem dX8_skipBlanks_12 : decode cX8_skipBlanks 12 = .ok (.getfield 27, 3) := dkAa189.2.2.2.2.2.2.1
theorem dX8_skipBlanks_15 : decode cX8_skipBlanks 15 = .ok (.aload_n 0, 1) := dkAa189.2.2.2.2.2.2.2.1
theorem dX8_skipBlanks_16 : decode cX8_skipBlanks 16 = .ok (.getfield 15, 3) := dkAa189.2.2.2.2.2.2.2.2.1
theorem dX8_skipBlanks_19 : decode cX8_skipBlanks 19 = .ok (.arraylength, 1) := dkAa189.2.2.2.2.2.2.2.2.2.1
theorem dX8_skipBlanks_20 : decode cX8_skipBlanks 20 = .ok (.if_icmp .ge 30, 3) := dkAa189.2.2.2.2.2.2.2.2.2.2.1
theorem dX8_skipBlanks_23 : decode cX8_skipBlanks 23 = .ok (.aload_n 0, 1) := dkAa189.2.2.2.2.2.2.2.2.2.2.2
set_option maxRecDepth 100000 in
theorem dkAa190 : decode cX8_skipBlanks 24 = .ok (.getfield 15, 3) ∧ decode cX8_skipBlanks 27 = .ok (.aload_n 0, 1) ∧ decode cX8_skipBlanks 28 = .ok (.getfield 27, 3) ∧ decode cX8_skipBlanks 31 = .ok (.iaload, 1) ∧ decode cX8_skipBlanks 32 = .ok (.bipush 32, 2) ∧ decode cX8_skipBlanks 34 = .ok (.if_icmp .ne 16, 3) ∧ decode cX8_skipBlanks 37 = .ok (.aload_n 0, 1) ∧ decode cX8_skipBlanks 38 = .ok (.dup, 1) ∧ decode cX8_skipBlanks 39 = .ok (.getfield 27, 3) ∧ decode cX8_skipBlanks 42 = .ok (.iconst 1, 1) ∧ decode cX8_skipBlanks 43 = .ok (.iadd, 1) ∧ decode cX8_skipBlanks 44 = .ok (.putfield 27, 3) := by decide +kernel
theorem dX8_skipBlanks_24 : decode cX8_skipBlanks 24 = .ok (.getfield 15, 3) := dkAa190.1
theorem dX8_skipBlanks_27 : decode cX8_skipBlanks 27 = .ok (.aload_n 0, 1) := dkAa190.2.1
theorem dX8_skipBlanks_28 : decode cX8_skipBlanks 28 = .ok (.getfield 27, 3) := dkAa190.2.2.1
theorem dX8_skipBlanks_31 : decode cX8_skipBlanks 31 = .ok (.iaload, 1) := dkAa190.2.2.2.1
theorem dX8_skipBlanks_32 : decode cX8_skipBlanks 32 = .ok (.bipush 32, 2) := dkAa190.2.2.2.2.1
theorem dX8_skipBlanks_34 : decode cX8_skipBlanks 34 = .ok (.if_icmp .ne 16, 3) := dkAa190.2.2.2.2.2.1
theorem dX8_skipBlanks_37 : decode cX8_skipBlanks 37 = .ok (.aload_n 0, 1) := dkAa190.2.2.2.2.2.2.1
theorem dX8_skipBlanks_38 : decode cX8_skipBlanks 38 = .ok (.dup, 1) := dkAa190.2.2.2.2.2.2.2.1
theorem dX8_skipBlanks_39 : decode cX8_skipBlanks 39 = .ok (.getfield 27, 3) := dkAa190.2.2.2.2.2.2.2.2.1
theorem dX8_skipBlanks_42 : decode cX8_skipBlanks 42 = .ok (.iconst 1, 1) := dkAa190.2.2.2.2.2.2.2.2.2.1
theorem dX8_skipBlanks_43 : decode cX8_skipBlanks 43 = .ok (.iadd, 1) := dkAa190.2.2.2.2.2.2.2.2.2.2.1
theorem dX8_skipBlanks_44 : decode cX8_skipBlanks 44 = .ok (.putfield 27, 3) := dkAa190.2.2.2.2.2.2.2.2.2.2.2
theorem dX8_skipBlanks_47 : decode cX8_skipBlanks 47 = .ok (.goto (-47), 3) := by decide +kernel
theorem dX8_skipBlanks_50 : decode cX8_skipBlanks 50 = .ok (.return_, 1) := by decide +kernel
set_option maxRecDepth 100000 in
theorem dkAa191 : decode cX8_letterHere 0 = .ok (.aload_n 0, 1) ∧ decode cX8_letterHere 1 = .ok (.getfield 27, 3) ∧ decode cX8_letterHere 4 = .ok (.aload_n 0, 1) ∧ decode cX8_letterHere 5 = .ok (.getfield 19, 3) ∧ decode cX8_letterHere 8 = .ok (.if_icmp .ge 27, 3) ∧ decode cX8_letterHere 11 = .ok (.aload_n 0, 1) ∧ decode cX8_letterHere 12 = .ok (.getfield 27, 3) ∧ decode cX8_letterHere 15 = .ok (.aload_n 0, 1) ∧ decode cX8_letterHere 16 = .ok (.getfield 15, 3) ∧ decode cX8_letterHere 19 = .ok (.arraylength, 1) ∧ decode cX8_letterHere 20 = .ok (.if_icmp .ge 15, 3) ∧ decode cX8_letterHere 23 = .ok (.aload_n 0, 1) := by decide +kernel
theorem dX8_letterHere_0 : decode cX8_letterHere 0 = .ok (.aload_n 0, 1) := dkAa191.1
theorem dX8_letterHere_1 : decode cX8_letterHere 1 = .ok (.getfield 27, 3) := dkAa191.2.1
theorem dX8_letterHere_4 : decode cX8_letterHere 4 = .ok (.aload_n 0, 1) := dkAa191.2.2.1
theorem dX8_letterHere_5 : decode cX8_letterHere 5 = .ok (.getfield 19, 3) := dkAa191.2.2.2.1
theorem dX8_letterHere_8 : decode cX8_letterHere 8 = .ok (.if_icmp .ge 27, 3) := dkAa191.2.2.2.2.1
theorem dX8_letterHere_11 : decode cX8_letterHere 11 = .ok (.aload_n 0, 1) := dkAa191.2.2.2.2.2.1
theorem dX8_letterHere_12 : decode cX8_letterHere 12 = .ok (.getfield 27, 3) := dkAa191.2.2.2.2.2.2.1
theorem dX8_letterHere_15 : decode cX8_letterHere 15 = .ok (.aload_n 0, 1) := dkAa191.2.2.2.2.2.2.2.1
theorem dX8_letterHere_16 : decode cX8_letterHere 16 = .ok (.getfield 15, 3) := dkAa191.2.2.2.2.2.2.2.2.1
theorem dX8_letterHere_19 : decode cX8_letterHere 19 = .ok (.arraylength, 1) := dkAa191.2.2.2.2.2.2.2.2.2.1
theorem dX8_letterHere_20 : decode cX8_letterHere 20 = .ok (.if_icmp .ge 15, 3) := dkAa191.2.2.2.2.2.2.2.2.2.2.1
theorem dX8_letterHere_23 : decode cX8_letterHere 23 = .ok (.aload_n 0, 1) := dkAa191.2.2.2.2.2.2.2.2.2.2.2
set_option maxRecDepth 100000 in
theorem dkAa192 : decode cX8_letterHere 24 = .ok (.getfield 15, 3) ∧ decode cX8_letterHere 27 = .ok (.aload_n 0, 1) ∧ decode cX8_letterHere 28 = .ok (.getfield 27, 3) ∧ decode cX8_letterHere 31 = .ok (.iaload, 1) ∧ decode cX8_letterHere 32 = .ok (.goto 4, 3) ∧ decode cX8_letterHere 35 = .ok (.iconst (-1), 1) ∧ decode cX8_letterHere 36 = .ok (.ireturn, 1) := by decide +kernel
theorem dX8_letterHere_24 : decode cX8_letterHere 24 = .ok (.getfield 15, 3) := dkAa192.1
theorem dX8_letterHere_27 : decode cX8_letterHere 27 = .ok (.aload_n 0, 1) := dkAa192.2.1
theorem dX8_letterHere_28 : decode cX8_letterHere 28 = .ok (.getfield 27, 3) := dkAa192.2.2.1
theorem dX8_letterHere_31 : decode cX8_letterHere 31 = .ok (.iaload, 1) := dkAa192.2.2.2.1
theorem dX8_letterHere_32 : decode cX8_letterHere 32 = .ok (.goto 4, 3) := dkAa192.2.2.2.2.1
theorem dX8_letterHere_35 : decode cX8_letterHere 35 = .ok (.iconst (-1), 1) := dkAa192.2.2.2.2.2.1
theorem dX8_letterHere_36 : decode cX8_letterHere 36 = .ok (.ireturn, 1) := dkAa192.2.2.2.2.2.2
set_option maxRecDepth 100000 in
theorem dkAa193 : decode cX8_isFigure 0 = .ok (.iload_n 0, 1) ∧ decode cX8_isFigure 1 = .ok (.bipush 48, 2) ∧ decode cX8_isFigure 3 = .ok (.if_icmp .lt 13, 3) ∧ decode cX8_isFigure 6 = .ok (.iload_n 0, 1) ∧ decode cX8_isFigure 7 = .ok (.bipush 57, 2) ∧ decode cX8_isFigure 9 = .ok (.if_icmp .gt 7, 3) ∧ decode cX8_isFigure 12 = .ok (.iconst 1, 1) ∧ decode cX8_isFigure 13 = .ok (.goto 4, 3) ∧ decode cX8_isFigure 16 = .ok (.iconst 0, 1) ∧ decode cX8_isFigure 17 = .ok (.ireturn, 1) := by decide +kernel
theorem dX8_isFigure_0 : decode cX8_isFigure 0 = .ok (.iload_n 0, 1) := dkAa193.1
theorem dX8_isFigure_1 : decode cX8_isFigure 1 = .ok (.bipush 48, 2) := dkAa193.2.1
theorem dX8_isFigure_3 : decode cX8_isFigure 3 = .ok (.if_icmp .lt 13, 3) := dkAa193.2.2.1
theorem dX8_isFigure_6 : decode cX8_isFigure 6 = .ok (.iload_n 0, 1) := dkAa193.2.2.2.1
theorem dX8_isFigure_7 : decode cX8_isFigure 7 = .ok (.bipush 57, 2) := dkAa193.2.2.2.2.1
theorem dX8_isFigure_9 : decode cX8_isFigure 9 = .ok (.if_icmp .gt 7, 3) := dkAa193.2.2.2.2.2.1
theorem dX8_isFigure_12 : decode cX8_isFigure 12 = .ok (.iconst 1, 1) := dkAa193.2.2.2.2.2.2.1
theorem dX8_isFigure_13 : decode cX8_isFigure 13 = .ok (.goto 4, 3) := dkAa193.2.2.2.2.2.2.2.1
theorem dX8_isFigure_16 : decode cX8_isFigure 16 = .ok (.iconst 0, 1) := dkAa193.2.2.2.2.2.2.2.2.1
theorem dX8_isFigure_17 : decode cX8_isFigure 17 = .ok (.ireturn, 1) := dkAa193.2.2.2.2.2.2.2.2.2
set_option maxRecDepth 100000 in
theorem dkAa194 : decode cX8_isSound 0 = .ok (.aload_n 0, 1) ∧ decode cX8_isSound 1 = .ok (.getfield 30, 3) ∧ decode cX8_isSound 4 = .ok (.ifCond .ne 7, 3) ∧ decode cX8_isSound 7 = .ok (.iconst 1, 1) ∧ decode cX8_isSound 8 = .ok (.goto 4, 3) ∧ decode cX8_isSound 11 = .ok (.iconst 0, 1) ∧ decode cX8_isSound 12 = .ok (.ireturn, 1) := by decide +kernel
theorem dX8_isSound_0 : decode cX8_isSound 0 = .ok (.aload_n 0, 1) := dkAa194.1
theorem dX8_isSound_1 : decode cX8_isSound 1 = .ok (.getfield 30, 3) := dkAa194.2.1
theorem dX8_isSound_4 : decode cX8_isSound 4 = .ok (.ifCond .ne 7, 3) := dkAa194.2.2.1
theorem dX8_isSound_7 : decode cX8_isSound 7 = .ok (.iconst 1, 1) := dkAa194.2.2.2.1
theorem dX8_isSound_8 : decode cX8_isSound 8 = .ok (.goto 4, 3) := dkAa194.2.2.2.2.1
theorem dX8_isSound_11 : decode cX8_isSound 11 = .ok (.iconst 0, 1) := dkAa194.2.2.2.2.2.1
theorem dX8_isSound_12 : decode cX8_isSound 12 = .ok (.ireturn, 1) := dkAa194.2.2.2.2.2.2
set_option maxRecDepth 100000 in
theorem dkAa195 : decode cX8_blame 0 = .ok (.aload_n 0, 1) ∧ decode cX8_blame 1 = .ok (.getfield 30, 3) ∧ decode cX8_blame 4 = .ok (.ifCond .ne 13, 3) ∧ decode cX8_blame 7 = .ok (.aload_n 0, 1) ∧ decode cX8_blame 8 = .ok (.iload_n 1, 1) ∧ decode cX8_blame 9 = .ok (.putfield 30, 3) ∧ decode cX8_blame 12 = .ok (.aload_n 0, 1) ∧ decode cX8_blame 13 = .ok (.iload_n 2, 1) ∧ decode cX8_blame 14 = .ok (.putfield 9, 3) ∧ decode cX8_blame 17 = .ok (.return_, 1) := by decide +kernel
theorem dX8_blame_0 : decode cX8_blame 0 = .ok (.aload_n 0, 1) := dkAa195.1
theorem dX8_blame_1 : decode cX8_blame 1 = .ok (.getfield 30, 3) := dkAa195.2.1
theorem dX8_blame_4 : decode cX8_blame 4 = .ok (.ifCond .ne 13, 3) := dkAa195.2.2.1
theorem dX8_blame_7 : decode cX8_blame 7 = .ok (.aload_n 0, 1) := dkAa195.2.2.2.1
theorem dX8_blame_8 : decode cX8_blame 8 = .ok (.iload_n 1, 1) := dkAa195.2.2.2.2.1
theorem dX8_blame_9 : decode cX8_blame 9 = .ok (.putfield 30, 3) := dkAa195.2.2.2.2.2.1
theorem dX8_blame_12 : decode cX8_blame 12 = .ok (.aload_n 0, 1) := dkAa195.2.2.2.2.2.2.1
theorem dX8_blame_13 : decode cX8_blame 13 = .ok (.iload_n 2, 1) := dkAa195.2.2.2.2.2.2.2.1
theorem dX8_blame_14 : decode cX8_blame 14 = .ok (.putfield 9, 3) := dkAa195.2.2.2.2.2.2.2.2.1
theorem dX8_blame_17 : decode cX8_blame 17 = .ok (.return_, 1) := dkAa195.2.2.2.2.2.2.2.2.2
set_option maxRecDepth 100000 in
theorem dkAa196 : decode cX9_init 0 = .ok (.aload_n 0, 1) ∧ decode cX9_init 1 = .ok (.invokespecial 1, 3) ∧ decode cX9_init 4 = .ok (.aload_n 0, 1) ∧ decode cX9_init 5 = .ok (.new 7, 3) ∧ decode cX9_init 8 = .ok (.dup, 1) ∧ decode cX9_init 9 = .ok (.invokespecial 9, 3) ∧ decode cX9_init 12 = .ok (.putfield 10, 3) ∧ decode cX9_init 15 = .ok (.aload_n 0, 1) ∧ decode cX9_init 16 = .ok (.new 16, 3) ∧ decode cX9_init 19 = .ok (.dup, 1) ∧ decode cX9_init 20 = .ok (.invokespecial 18, 3) ∧ decode cX9_init 23 = .ok (.putfield 19, 3) := by decide +kernel
theorem dX9_init_0 : decode cX9_init 0 = .ok (.aload_n 0, 1) := dkAa196.1
theorem dX9_init_1 : decode cX9_init 1 = .ok (.invokespecial 1, 3) := dkAa196.2.1
theorem dX9_init_4 : decode cX9_init 4 = .ok (.aload_n 0, 1) := dkAa196.2.2.1
theorem dX9_init_5 : decode cX9_init 5 = .ok (.new 7, 3) := dkAa196.2.2.2.1
theorem dX9_init_8 : decode cX9_init 8 = .ok (.dup, 1) := dkAa196.2.2.2.2.1
theorem dX9_init_9 : decode cX9_init 9 = .ok (.invokespecial 9, 3) := dkAa196.2.2.2.2.2.1
theorem dX9_init_12 : decode cX9_init 12 = .ok (.putfield 10, 3) := dkAa196.2.2.2.2.2.2.1
theorem dX9_init_15 : decode cX9_init 15 = .ok (.aload_n 0, 1) := dkAa196.2.2.2.2.2.2.2.1
theorem dX9_init_16 : decode cX9_init 16 = .ok (.new 16, 3) := dkAa196.2.2.2.2.2.2.2.2.1
theorem dX9_init_19 : decode cX9_init 19 = .ok (.dup, 1) := dkAa196.2.2.2.2.2.2.2.2.2.1
theorem dX9_init_20 : decode cX9_init 20 = .ok (.invokespecial 18, 3) := dkAa196.2.2.2.2.2.2.2.2.2.2.1
theorem dX9_init_23 : decode cX9_init 23 = .ok (.putfield 19, 3) := dkAa196.2.2.2.2.2.2.2.2.2.2.2
set_option maxRecDepth 100000 in
theorem dkAa197 : decode cX9_init 26 = .ok (.aload_n 0, 1) ∧ decode cX9_init 27 = .ok (.new 16, 3) ∧ decode cX9_init 30 = .ok (.dup, 1) ∧ decode cX9_init 31 = .ok (.invokespecial 18, 3) ∧ decode cX9_init 34 = .ok (.putfield 23, 3) ∧ decode cX9_init 37 = .ok (.aload_n 0, 1) ∧ decode cX9_init 38 = .ok (.new 26, 3) ∧ decode cX9_init 41 = .ok (.dup, 1) ∧ decode cX9_init 42 = .ok (.invokespecial 28, 3) ∧ decode cX9_init 45 = .ok (.putfield 29, 3) ∧ decode cX9_init 48 = .ok (.aload_n 0, 1) ∧ decode cX9_init 49 = .ok (.new 26, 3) := by decide +kernel
theorem dX9_init_26 : decode cX9_init 26 = .ok (.aload_n 0, 1) := dkAa197.1
theorem dX9_init_27 : decode cX9_init 27 = .ok (.new 16, 3) := dkAa197.2.1
theorem dX9_init_30 : decode cX9_init 30 = .ok (.dup, 1) := dkAa197.2.2.1
theorem dX9_init_31 : decode cX9_init 31 = .ok (.invokespecial 18, 3) := dkAa197.2.2.2.1
theorem dX9_init_34 : decode cX9_init 34 = .ok (.putfield 23, 3) := dkAa197.2.2.2.2.1
theorem dX9_init_37 : decode cX9_init 37 = .ok (.aload_n 0, 1) := dkAa197.2.2.2.2.2.1
theorem dX9_init_38 : decode cX9_init 38 = .ok (.new 26, 3) := dkAa197.2.2.2.2.2.2.1
theorem dX9_init_41 : decode cX9_init 41 = .ok (.dup, 1) := dkAa197.2.2.2.2.2.2.2.1
theorem dX9_init_42 : decode cX9_init 42 = .ok (.invokespecial 28, 3) := dkAa197.2.2.2.2.2.2.2.2.1
theorem dX9_init_45 : decode cX9_init 45 = .ok (.putfield 29, 3) := dkAa197.2.2.2.2.2.2.2.2.2.1
theorem dX9_init_48 : decode cX9_init 48 = .ok (.aload_n 0, 1) := dkAa197.2.2.2.2.2.2.2.2.2.2.1
theorem dX9_init_49 : decode cX9_init 49 = .ok (.new 26, 3) := dkAa197.2.2.2.2.2.2.2.2.2.2.2
set_option maxRecDepth 100000 in
theorem dkAa198 : decode cX9_init 52 = .ok (.dup, 1) ∧ decode cX9_init 53 = .ok (.invokespecial 28, 3) ∧ decode cX9_init 56 = .ok (.putfield 33, 3) ∧ decode cX9_init 59 = .ok (.aload_n 0, 1) ∧ decode cX9_init 60 = .ok (.new 36, 3) ∧ decode cX9_init 63 = .ok (.dup, 1) ∧ decode cX9_init 64 = .ok (.invokespecial 38, 3) ∧ decode cX9_init 67 = .ok (.putfield 39, 3) ∧ decode cX9_init 70 = .ok (.aload_n 0, 1) ∧ decode cX9_init 71 = .ok (.iconst 2, 1) ∧ decode cX9_init 72 = .ok (.anewarray 43, 3) ∧ decode cX9_init 75 = .ok (.putfield 45, 3) := by decide +kernel
theorem dX9_init_52 : decode cX9_init 52 = .ok (.dup, 1) := dkAa198.1
theorem dX9_init_53 : decode cX9_init 53 = .ok (.invokespecial 28, 3) := dkAa198.2.1
theorem dX9_init_56 : decode cX9_init 56 = .ok (.putfield 33, 3) := dkAa198.2.2.1
theorem dX9_init_59 : decode cX9_init 59 = .ok (.aload_n 0, 1) := dkAa198.2.2.2.1
theorem dX9_init_60 : decode cX9_init 60 = .ok (.new 36, 3) := dkAa198.2.2.2.2.1
theorem dX9_init_63 : decode cX9_init 63 = .ok (.dup, 1) := dkAa198.2.2.2.2.2.1
theorem dX9_init_64 : decode cX9_init 64 = .ok (.invokespecial 38, 3) := dkAa198.2.2.2.2.2.2.1
theorem dX9_init_67 : decode cX9_init 67 = .ok (.putfield 39, 3) := dkAa198.2.2.2.2.2.2.2.1
theorem dX9_init_70 : decode cX9_init 70 = .ok (.aload_n 0, 1) := dkAa198.2.2.2.2.2.2.2.2.1
theorem dX9_init_71 : decode cX9_init 71 = .ok (.iconst 2, 1) := dkAa198.2.2.2.2.2.2.2.2.2.1
theorem dX9_init_72 : decode cX9_init 72 = .ok (.anewarray 43, 3) := dkAa198.2.2.2.2.2.2.2.2.2.2.1
theorem dX9_init_75 : decode cX9_init 75 = .ok (.putfield 45, 3) := dkAa198.2.2.2.2.2.2.2.2.2.2.2
set_option maxRecDepth 100000 in
theorem dkAa199 : decode cX9_init 78 = .ok (.aload_n 0, 1) ∧ decode cX9_init 79 = .ok (.new 49, 3) ∧ decode cX9_init 82 = .ok (.dup, 1) ∧ decode cX9_init 83 = .ok (.invokespecial 51, 3) ∧ decode cX9_init 86 = .ok (.putfield 52, 3) ∧ decode cX9_init 89 = .ok (.aload_n 0, 1) ∧ decode cX9_init 90 = .ok (.new 56, 3) ∧ decode cX9_init 93 = .ok (.dup, 1) ∧ decode cX9_init 94 = .ok (.bipush 6, 2) ∧ decode cX9_init 96 = .ok (.invokespecial 58, 3) ∧ decode cX9_init 99 = .ok (.putfield 61, 3) ∧ decode cX9_init 102 = .ok (.aload_n 0, 1) := by decide +kernel
theorem dX9_init_78 : decode cX9_init 78 = .ok (.aload_n 0, 1) := dkAa199.1
theorem dX9_init_79 : decode cX9_init 79 = .ok (.new 49, 3) := dkAa199.2.1
theorem dX9_init_82 : decode cX9_init 82 = .ok (.dup, 1) := dkAa199.2.2.1
theorem dX9_init_83 : decode cX9_init 83 = .ok (.invokespecial 51, 3) := dkAa199.2.2.2.1
theorem dX9_init_86 : decode cX9_init 86 = .ok (.putfield 52, 3) := dkAa199.2.2.2.2.1
theorem dX9_init_89 : decode cX9_init 89 = .ok (.aload_n 0, 1) := dkAa199.2.2.2.2.2.1
theorem dX9_init_90 : decode cX9_init 90 = .ok (.new 56, 3) := dkAa199.2.2.2.2.2.2.1
theorem dX9_init_93 : decode cX9_init 93 = .ok (.dup, 1) := dkAa199.2.2.2.2.2.2.2.1
theorem dX9_init_94 : decode cX9_init 94 = .ok (.bipush 6, 2) := dkAa199.2.2.2.2.2.2.2.2.1
theorem dX9_init_96 : decode cX9_init 96 = .ok (.invokespecial 58, 3) := dkAa199.2.2.2.2.2.2.2.2.2.1
theorem dX9_init_99 : decode cX9_init 99 = .ok (.putfield 61, 3) := dkAa199.2.2.2.2.2.2.2.2.2.2.1
theorem dX9_init_102 : decode cX9_init 102 = .ok (.aload_n 0, 1) := dkAa199.2.2.2.2.2.2.2.2.2.2.2
set_option maxRecDepth 100000 in
theorem dkAa200 : decode cX9_init 103 = .ok (.new 56, 3) ∧ decode cX9_init 106 = .ok (.dup, 1) ∧ decode cX9_init 107 = .ok (.bipush 6, 2) ∧ decode cX9_init 109 = .ok (.invokespecial 58, 3) ∧ decode cX9_init 112 = .ok (.putfield 65, 3) ∧ decode cX9_init 115 = .ok (.aload_n 0, 1) ∧ decode cX9_init 116 = .ok (.new 56, 3) ∧ decode cX9_init 119 = .ok (.dup, 1) ∧ decode cX9_init 120 = .ok (.bipush 15, 2) ∧ decode cX9_init 122 = .ok (.invokespecial 58, 3) ∧ decode cX9_init 125 = .ok (.putfield 68, 3) ∧ decode cX9_init 128 = .ok (.aload_n 0, 1) := by decide +kernel
theorem dX9_init_103 : decode cX9_init 103 = .ok (.new 56, 3) := dkAa200.1
theorem dX9_init_106 : decode cX9_init 106 = .ok (.dup, 1) := dkAa200.2.1
theorem dX9_init_107 : decode cX9_init 107 = .ok (.bipush 6, 2) := dkAa200.2.2.1
theorem dX9_init_109 : decode cX9_init 109 = .ok (.invokespecial 58, 3) := dkAa200.2.2.2.1
theorem dX9_init_112 : decode cX9_init 112 = .ok (.putfield 65, 3) := dkAa200.2.2.2.2.1
theorem dX9_init_115 : decode cX9_init 115 = .ok (.aload_n 0, 1) := dkAa200.2.2.2.2.2.1
theorem dX9_init_116 : decode cX9_init 116 = .ok (.new 56, 3) := dkAa200.2.2.2.2.2.2.1
theorem dX9_init_119 : decode cX9_init 119 = .ok (.dup, 1) := dkAa200.2.2.2.2.2.2.2.1
theorem dX9_init_120 : decode cX9_init 120 = .ok (.bipush 15, 2) := dkAa200.2.2.2.2.2.2.2.2.1
theorem dX9_init_122 : decode cX9_init 122 = .ok (.invokespecial 58, 3) := dkAa200.2.2.2.2.2.2.2.2.2.1
theorem dX9_init_125 : decode cX9_init 125 = .ok (.putfield 68, 3) := dkAa200.2.2.2.2.2.2.2.2.2.2.1
theorem dX9_init_128 : decode cX9_init 128 = .ok (.aload_n 0, 1) := dkAa200.2.2.2.2.2.2.2.2.2.2.2
set_option maxRecDepth 100000 in
theorem dkAa201 : decode cX9_init 129 = .ok (.new 71, 3) ∧ decode cX9_init 132 = .ok (.dup, 1) ∧ decode cX9_init 133 = .ok (.invokespecial 73, 3) ∧ decode cX9_init 136 = .ok (.putfield 74, 3) ∧ decode cX9_init 139 = .ok (.aload_n 0, 1) ∧ decode cX9_init 140 = .ok (.new 78, 3) ∧ decode cX9_init 143 = .ok (.dup, 1) ∧ decode cX9_init 144 = .ok (.invokespecial 80, 3) ∧ decode cX9_init 147 = .ok (.putfield 81, 3) ∧ decode cX9_init 150 = .ok (.iconst 0, 1) ∧ decode cX9_init 151 = .ok (.istore_n 1, 1) ∧ decode cX9_init 152 = .ok (.iload_n 1, 1) := by decide +kernel
theorem dX9_init_129 : decode cX9_init 129 = .ok (.new 71, 3) := dkAa201.1
theorem dX9_init_132 : decode cX9_init 132 = .ok (.dup, 1) := dkAa201.2.1
theorem dX9_init_133 : decode cX9_init 133 = .ok (.invokespecial 73, 3) := dkAa201.2.2.1
theorem dX9_init_136 : decode cX9_init 136 = .ok (.putfield 74, 3) := dkAa201.2.2.2.1
theorem dX9_init_139 : decode cX9_init 139 = .ok (.aload_n 0, 1) := dkAa201.2.2.2.2.1
theorem dX9_init_140 : decode cX9_init 140 = .ok (.new 78, 3) := dkAa201.2.2.2.2.2.1
theorem dX9_init_143 : decode cX9_init 143 = .ok (.dup, 1) := dkAa201.2.2.2.2.2.2.1
theorem dX9_init_144 : decode cX9_init 144 = .ok (.invokespecial 80, 3) := dkAa201.2.2.2.2.2.2.2.1
theorem dX9_init_147 : decode cX9_init 147 = .ok (.putfield 81, 3) := dkAa201.2.2.2.2.2.2.2.2.1
theorem dX9_init_150 : decode cX9_init 150 = .ok (.iconst 0, 1) := dkAa201.2.2.2.2.2.2.2.2.2.1
theorem dX9_init_151 : decode cX9_init 151 = .ok (.istore_n 1, 1) := dkAa201.2.2.2.2.2.2.2.2.2.2.1
theorem dX9_init_152 : decode cX9_init 152 = .ok (.iload_n 1, 1) := dkAa201.2.2.2.2.2.2.2.2.2.2.2
set_option maxRecDepth 100000 in
theorem dkAa202 : decode cX9_init 153 = .ok (.aload_n 0, 1) ∧ decode cX9_init 154 = .ok (.getfield 45, 3) ∧ decode cX9_init 157 = .ok (.arraylength, 1) ∧ decode cX9_init 158 = .ok (.if_icmp .ge 22, 3) ∧ decode cX9_init 161 = .ok (.aload_n 0, 1) ∧ decode cX9_init 162 = .ok (.getfield 45, 3) ∧ decode cX9_init 165 = .ok (.iload_n 1, 1) ∧ decode cX9_init 166 = .ok (.new 43, 3) ∧ decode cX9_init 169 = .ok (.dup, 1) ∧ decode cX9_init 170 = .ok (.invokespecial 85, 3) ∧ decode cX9_init 173 = .ok (.aastore, 1) ∧ decode cX9_init 174 = .ok (.iinc 1 1, 3) := by decide +kernel
theorem dX9_init_153 : decode cX9_init 153 = .ok (.aload_n 0, 1) := dkAa202.1
theorem dX9_init_154 : decode cX9_init 154 = .ok (.getfield 45, 3) := dkAa202.2.1
theorem dX9_init_157 : decode cX9_init 157 = .ok (.arraylength, 1) := dkAa202.2.2.1
theorem dX9_init_158 : decode cX9_init 158 = .ok (.if_icmp .ge 22, 3) := dkAa202.2.2.2.1
theorem dX9_init_161 : decode cX9_init 161 = .ok (.aload_n 0, 1) := dkAa202.2.2.2.2.1
theorem dX9_init_162 : decode cX9_init 162 = .ok (.getfield 45, 3) := dkAa202.2.2.2.2.2.1
theorem dX9_init_165 : decode cX9_init 165 = .ok (.iload_n 1, 1) := dkAa202.2.2.2.2.2.2.1
theorem dX9_init_166 : decode cX9_init 166 = .ok (.new 43, 3) := dkAa202.2.2.2.2.2.2.2.1
theorem dX9_init_169 : decode cX9_init 169 = .ok (.dup, 1) := dkAa202.2.2.2.2.2.2.2.2.1
theorem dX9_init_170 : decode cX9_init 170 = .ok (.invokespecial 85, 3) := dkAa202.2.2.2.2.2.2.2.2.2.1
theorem dX9_init_173 : decode cX9_init 173 = .ok (.aastore, 1) := dkAa202.2.2.2.2.2.2.2.2.2.2.1
theorem dX9_init_174 : decode cX9_init 174 = .ok (.iinc 1 1, 3) := dkAa202.2.2.2.2.2.2.2.2.2.2.2
theorem dX9_init_177 : decode cX9_init 177 = .ok (.goto (-25), 3) := by decide +kernel
theorem dX9_init_180 : decode cX9_init 180 = .ok (.return_, 1) := by decide +kernel
set_option maxRecDepth 100000 in
theorem dkAa203 : decode cX9_feed 0 = .ok (.iload_n 1, 1) ∧ decode cX9_feed 1 = .ok (.ifCond .lt 10, 3) ∧ decode cX9_feed 4 = .ok (.iload_n 1, 1) ∧ decode cX9_feed 5 = .ok (.sipush 255, 3) ∧ decode cX9_feed 8 = .ok (.if_icmp .le 6, 3) ∧ decode cX9_feed 11 = .ok (.ldc 86, 2) ∧ decode cX9_feed 13 = .ok (.ireturn, 1) ∧ decode cX9_feed 14 = .ok (.aload_n 0, 1) ∧ decode cX9_feed 15 = .ok (.getfield 10, 3) ∧ decode cX9_feed 18 = .ok (.iload_n 1, 1) ∧ decode cX9_feed 19 = .ok (.invokevirtual 87, 3) ∧ decode cX9_feed 22 = .ok (.ifCond .eq 13, 3) := by decide +kernel
theorem dX9_feed_0 : decode cX9_feed 0 = .ok (.iload_n 1, 1) := dkAa203.1
theorem dX9_feed_1 : decode cX9_feed 1 = .ok (.ifCond .lt 10, 3) := dkAa203.2.1
theorem dX9_feed_4 : decode cX9_feed 4 = .ok (.iload_n 1, 1) := dkAa203.2.2.1
theorem dX9_feed_5 : decode cX9_feed 5 = .ok (.sipush 255, 3) := dkAa203.2.2.2.1
theorem dX9_feed_8 : decode cX9_feed 8 = .ok (.if_icmp .le 6, 3) := dkAa203.2.2.2.2.1
theorem dX9_feed_11 : decode cX9_feed 11 = .ok (.ldc 86, 2) := dkAa203.2.2.2.2.2.1
theorem dX9_feed_13 : decode cX9_feed 13 = .ok (.ireturn, 1) := dkAa203.2.2.2.2.2.2.1
theorem dX9_feed_14 : decode cX9_feed 14 = .ok (.aload_n 0, 1) := dkAa203.2.2.2.2.2.2.2.1
theorem dX9_feed_15 : decode cX9_feed 15 = .ok (.getfield 10, 3) := dkAa203.2.2.2.2.2.2.2.2.1
theorem dX9_feed_18 : decode cX9_feed 18 = .ok (.iload_n 1, 1) := dkAa203.2.2.2.2.2.2.2.2.2.1
theorem dX9_feed_19 : decode cX9_feed 19 = .ok (.invokevirtual 87, 3) := dkAa203.2.2.2.2.2.2.2.2.2.2.1
theorem dX9_feed_22 : decode cX9_feed 22 = .ok (.ifCond .eq 13, 3) := dkAa203.2.2.2.2.2.2.2.2.2.2.2
set_option maxRecDepth 100000 in
theorem dkAa204 : decode cX9_feed 25 = .ok (.aload_n 0, 1) ∧ decode cX9_feed 26 = .ok (.getfield 10, 3) ∧ decode cX9_feed 29 = .ok (.getfield 91, 3) ∧ decode cX9_feed 32 = .ok (.goto 5, 3) ∧ decode cX9_feed 35 = .ok (.ldc 95, 2) ∧ decode cX9_feed 37 = .ok (.ireturn, 1) := by decide +kernel
theorem dX9_feed_25 : decode cX9_feed 25 = .ok (.aload_n 0, 1) := dkAa204.1
theorem dX9_feed_26 : decode cX9_feed 26 = .ok (.getfield 10, 3) := dkAa204.2.1
theorem dX9_feed_29 : decode cX9_feed 29 = .ok (.getfield 91, 3) := dkAa204.2.2.1
theorem dX9_feed_32 : decode cX9_feed 32 = .ok (.goto 5, 3) := dkAa204.2.2.2.1
theorem dX9_feed_35 : decode cX9_feed 35 = .ok (.ldc 95, 2) := dkAa204.2.2.2.2.1
theorem dX9_feed_37 : decode cX9_feed 37 = .ok (.ireturn, 1) := dkAa204.2.2.2.2.2
set_option maxRecDepth 100000 in
theorem dkAa205 : decode cX9_parish 0 = .ok (.aload_n 0, 1) ∧ decode cX9_parish 1 = .ok (.getfield 10, 3) ∧ decode cX9_parish 4 = .ok (.aload_n 0, 1) ∧ decode cX9_parish 5 = .ok (.getfield 23, 3) ∧ decode cX9_parish 8 = .ok (.invokevirtual 96, 3) ∧ decode cX9_parish 11 = .ok (.ifCond .ne 14, 3) ∧ decode cX9_parish 14 = .ok (.bipush (-10), 2) ∧ decode cX9_parish 16 = .ok (.aload_n 0, 1) ∧ decode cX9_parish 17 = .ok (.getfield 10, 3) ∧ decode cX9_parish 20 = .ok (.getfield 100, 3) ∧ decode cX9_parish 23 = .ok (.isub, 1) ∧ decode cX9_parish 24 = .ok (.ireturn, 1) := by decide +kernel
theorem dX9_parish_0 : decode cX9_parish 0 = .ok (.aload_n 0, 1) := dkAa205.1
theorem dX9_parish_1 : decode cX9_parish 1 = .ok (.getfield 10, 3) := dkAa205.2.1
theorem dX9_parish_4 : decode cX9_parish 4 = .ok (.aload_n 0, 1) := dkAa205.2.2.1
theorem dX9_parish_5 : decode cX9_parish 5 = .ok (.getfield 23, 3) := dkAa205.2.2.2.1
theorem dX9_parish_8 : decode cX9_parish 8 = .ok (.invokevirtual 96, 3) := dkAa205.2.2.2.2.1
theorem dX9_parish_11 : decode cX9_parish 11 = .ok (.ifCond .ne 14, 3) := dkAa205.2.2.2.2.2.1
theorem dX9_parish_14 : decode cX9_parish 14 = .ok (.bipush (-10), 2) := dkAa205.2.2.2.2.2.2.1
theorem dX9_parish_16 : decode cX9_parish 16 = .ok (.aload_n 0, 1) := dkAa205.2.2.2.2.2.2.2.1
theorem dX9_parish_17 : decode cX9_parish 17 = .ok (.getfield 10, 3) := dkAa205.2.2.2.2.2.2.2.2.1
theorem dX9_parish_20 : decode cX9_parish 20 = .ok (.getfield 100, 3) := dkAa205.2.2.2.2.2.2.2.2.2.1
theorem dX9_parish_23 : decode cX9_parish 23 = .ok (.isub, 1) := dkAa205.2.2.2.2.2.2.2.2.2.2.1
theorem dX9_parish_24 : decode cX9_parish 24 = .ok (.ireturn, 1) := dkAa205.2.2.2.2.2.2.2.2.2.2.2
set_option maxRecDepth 100000 in
theorem dkAa206 : decode cX9_parish 25 = .ok (.aload_n 0, 1) ∧ decode cX9_parish 26 = .ok (.getfield 19, 3) ∧ decode cX9_parish 29 = .ok (.astore_n 1, 1) ∧ decode cX9_parish 30 = .ok (.aload_n 0, 1) ∧ decode cX9_parish 31 = .ok (.aload_n 0, 1) ∧ decode cX9_parish 32 = .ok (.getfield 23, 3) ∧ decode cX9_parish 35 = .ok (.putfield 19, 3) ∧ decode cX9_parish 38 = .ok (.aload_n 0, 1) ∧ decode cX9_parish 39 = .ok (.aload_n 1, 1) ∧ decode cX9_parish 40 = .ok (.putfield 23, 3) ∧ decode cX9_parish 43 = .ok (.aload_n 0, 1) ∧ decode cX9_parish 44 = .ok (.getfield 29, 3) := by decide +kernel
theorem dX9_parish_25 : decode cX9_parish 25 = .ok (.aload_n 0, 1) := dkAa206.1
theorem dX9_parish_26 : decode cX9_parish 26 = .ok (.getfield 19, 3) := dkAa206.2.1
theorem dX9_parish_29 : decode cX9_parish 29 = .ok (.astore_n 1, 1) := dkAa206.2.2.1
theorem dX9_parish_30 : decode cX9_parish 30 = .ok (.aload_n 0, 1) := dkAa206.2.2.2.1
theorem dX9_parish_31 : decode cX9_parish 31 = .ok (.aload_n 0, 1) := dkAa206.2.2.2.2.1
theorem dX9_parish_32 : decode cX9_parish 32 = .ok (.getfield 23, 3) := dkAa206.2.2.2.2.2.1
theorem dX9_parish_35 : decode cX9_parish 35 = .ok (.putfield 19, 3) := dkAa206.2.2.2.2.2.2.1
theorem dX9_parish_38 : decode cX9_parish 38 = .ok (.aload_n 0, 1) := dkAa206.2.2.2.2.2.2.2.1
theorem dX9_parish_39 : decode cX9_parish 39 = .ok (.aload_n 1, 1) := dkAa206.2.2.2.2.2.2.2.2.1
theorem dX9_parish_40 : decode cX9_parish 40 = .ok (.putfield 23, 3) := dkAa206.2.2.2.2.2.2.2.2.2.1
theorem dX9_parish_43 : decode cX9_parish 43 = .ok (.aload_n 0, 1) := dkAa206.2.2.2.2.2.2.2.2.2.2.1
theorem dX9_parish_44 : decode cX9_parish 44 = .ok (.getfield 29, 3) := dkAa206.2.2.2.2.2.2.2.2.2.2.2
set_option maxRecDepth 100000 in
theorem dkAa207 : decode cX9_parish 47 = .ok (.aload_n 0, 1) ∧ decode cX9_parish 48 = .ok (.getfield 19, 3) ∧ decode cX9_parish 51 = .ok (.invokevirtual 103, 3) ∧ decode cX9_parish 54 = .ok (.aload_n 0, 1) ∧ decode cX9_parish 55 = .ok (.getfield 61, 3) ∧ decode cX9_parish 58 = .ok (.invokevirtual 107, 3) ∧ decode cX9_parish 61 = .ok (.aload_n 0, 1) ∧ decode cX9_parish 62 = .ok (.getfield 65, 3) ∧ decode cX9_parish 65 = .ok (.invokevirtual 107, 3) ∧ decode cX9_parish 68 = .ok (.aload_n 0, 1) ∧ decode cX9_parish 69 = .ok (.getfield 68, 3) ∧ decode cX9_parish 72 = .ok (.invokevirtual 107, 3) := by decide +kernel
theorem dX9_parish_47 : decode cX9_parish 47 = .ok (.aload_n 0, 1) := dkAa207.1
theorem dX9_parish_48 : decode cX9_parish 48 = .ok (.getfield 19, 3) := dkAa207.2.1
theorem dX9_parish_51 : decode cX9_parish 51 = .ok (.invokevirtual 103, 3) := dkAa207.2.2.1
theorem dX9_parish_54 : decode cX9_parish 54 = .ok (.aload_n 0, 1) := dkAa207.2.2.2.1
theorem dX9_parish_55 : decode cX9_parish 55 = .ok (.getfield 61, 3) := dkAa207.2.2.2.2.1
theorem dX9_parish_58 : decode cX9_parish 58 = .ok (.invokevirtual 107, 3) := dkAa207.2.2.2.2.2.1
theorem dX9_parish_61 : decode cX9_parish 61 = .ok (.aload_n 0, 1) := dkAa207.2.2.2.2.2.2.1
theorem dX9_parish_62 : decode cX9_parish 62 = .ok (.getfield 65, 3) := dkAa207.2.2.2.2.2.2.2.1
theorem dX9_parish_65 : decode cX9_parish 65 = .ok (.invokevirtual 107, 3) := dkAa207.2.2.2.2.2.2.2.2.1
theorem dX9_parish_68 : decode cX9_parish 68 = .ok (.aload_n 0, 1) := dkAa207.2.2.2.2.2.2.2.2.2.1
theorem dX9_parish_69 : decode cX9_parish 69 = .ok (.getfield 68, 3) := dkAa207.2.2.2.2.2.2.2.2.2.2.1
theorem dX9_parish_72 : decode cX9_parish 72 = .ok (.invokevirtual 107, 3) := dkAa207.2.2.2.2.2.2.2.2.2.2.2
set_option maxRecDepth 100000 in
theorem dkAa208 : decode cX9_parish 75 = .ok (.aload_n 0, 1) ∧ decode cX9_parish 76 = .ok (.getfield 39, 3) ∧ decode cX9_parish 79 = .ok (.invokevirtual 110, 3) ∧ decode cX9_parish 82 = .ok (.iconst 0, 1) ∧ decode cX9_parish 83 = .ok (.istore_n 2, 1) ∧ decode cX9_parish 84 = .ok (.iload_n 2, 1) ∧ decode cX9_parish 85 = .ok (.aload_n 0, 1) ∧ decode cX9_parish 86 = .ok (.getfield 45, 3) ∧ decode cX9_parish 89 = .ok (.arraylength, 1) ∧ decode cX9_parish 90 = .ok (.if_icmp .ge 19, 3) ∧ decode cX9_parish 93 = .ok (.aload_n 0, 1) ∧ decode cX9_parish 94 = .ok (.getfield 45, 3) := by decide +kernel
theorem dX9_parish_75 : decode cX9_parish 75 = .ok (.aload_n 0, 1) := dkAa208.1
theorem dX9_parish_76 : decode cX9_parish 76 = .ok (.getfield 39, 3) := dkAa208.2.1
theorem dX9_parish_79 : decode cX9_parish 79 = .ok (.invokevirtual 110, 3) := dkAa208.2.2.1
theorem dX9_parish_82 : decode cX9_parish 82 = .ok (.iconst 0, 1) := dkAa208.2.2.2.1
theorem dX9_parish_83 : decode cX9_parish 83 = .ok (.istore_n 2, 1) := dkAa208.2.2.2.2.1
theorem dX9_parish_84 : decode cX9_parish 84 = .ok (.iload_n 2, 1) := dkAa208.2.2.2.2.2.1
theorem dX9_parish_85 : decode cX9_parish 85 = .ok (.aload_n 0, 1) := dkAa208.2.2.2.2.2.2.1
theorem dX9_parish_86 : decode cX9_parish 86 = .ok (.getfield 45, 3) := dkAa208.2.2.2.2.2.2.2.1
theorem dX9_parish_89 : decode cX9_parish 89 = .ok (.arraylength, 1) := dkAa208.2.2.2.2.2.2.2.2.1
theorem dX9_parish_90 : decode cX9_parish 90 = .ok (.if_icmp .ge 19, 3) := dkAa208.2.2.2.2.2.2.2.2.2.1
theorem dX9_parish_93 : decode cX9_parish 93 = .ok (.aload_n 0, 1) := dkAa208.2.2.2.2.2.2.2.2.2.2.1
theorem dX9_parish_94 : decode cX9_parish 94 = .ok (.getfield 45, 3) := dkAa208.2.2.2.2.2.2.2.2.2.2.2
set_option maxRecDepth 100000 in
theorem dkAa209 : decode cX9_parish 97 = .ok (.iload_n 2, 1) ∧ decode cX9_parish 98 = .ok (.aaload, 1) ∧ decode cX9_parish 99 = .ok (.iconst 0, 1) ∧ decode cX9_parish 100 = .ok (.putfield 113, 3) ∧ decode cX9_parish 103 = .ok (.iinc 2 1, 3) ∧ decode cX9_parish 106 = .ok (.goto (-22), 3) ∧ decode cX9_parish 109 = .ok (.aload_n 0, 1) ∧ decode cX9_parish 110 = .ok (.getfield 19, 3) ∧ decode cX9_parish 113 = .ok (.getfield 117, 3) ∧ decode cX9_parish 116 = .ok (.ireturn, 1) := by decide +kernel
theorem dX9_parish_97 : decode cX9_parish 97 = .ok (.iload_n 2, 1) := dkAa209.1
theorem dX9_parish_98 : decode cX9_parish 98 = .ok (.aaload, 1) := dkAa209.2.1
theorem dX9_parish_99 : decode cX9_parish 99 = .ok (.iconst 0, 1) := dkAa209.2.2.1
theorem dX9_parish_100 : decode cX9_parish 100 = .ok (.putfield 113, 3) := dkAa209.2.2.2.1
theorem dX9_parish_103 : decode cX9_parish 103 = .ok (.iinc 2 1, 3) := dkAa209.2.2.2.2.1
theorem dX9_parish_106 : decode cX9_parish 106 = .ok (.goto (-22), 3) := dkAa209.2.2.2.2.2.1
theorem dX9_parish_109 : decode cX9_parish 109 = .ok (.aload_n 0, 1) := dkAa209.2.2.2.2.2.2.1
theorem dX9_parish_110 : decode cX9_parish 110 = .ok (.getfield 19, 3) := dkAa209.2.2.2.2.2.2.2.1
theorem dX9_parish_113 : decode cX9_parish 113 = .ok (.getfield 117, 3) := dkAa209.2.2.2.2.2.2.2.2.1
theorem dX9_parish_116 : decode cX9_parish 116 = .ok (.ireturn, 1) := dkAa209.2.2.2.2.2.2.2.2.2
set_option maxRecDepth 100000 in
theorem dkAa210 : decode cX9_fault 0 = .ok (.aload_n 0, 1) ∧ decode cX9_fault 1 = .ok (.getfield 10, 3) ∧ decode cX9_fault 4 = .ok (.getfield 120, 3) ∧ decode cX9_fault 7 = .ok (.ireturn, 1) := by decide +kernel
theorem dX9_fault_0 : decode cX9_fault 0 = .ok (.aload_n 0, 1) := dkAa210.1
theorem dX9_fault_1 : decode cX9_fault 1 = .ok (.getfield 10, 3) := dkAa210.2.1
theorem dX9_fault_4 : decode cX9_fault 4 = .ok (.getfield 120, 3) := dkAa210.2.2.1
theorem dX9_fault_7 : decode cX9_fault 7 = .ok (.ireturn, 1) := dkAa210.2.2.2
set_option maxRecDepth 100000 in
theorem dkAa211 : decode cX9_told 0 = .ok (.iload_n 1, 1) ∧ decode cX9_told 1 = .ok (.tableswitch 169 0 11 #[63, 71, 79, 87, 95, 103, 111, 119, 137, 145, 153, 161], 63) ∧ decode cX9_told 64 = .ok (.aload_n 0, 1) ∧ decode cX9_told 65 = .ok (.getfield 19, 3) ∧ decode cX9_told 68 = .ok (.getfield 117, 3) ∧ decode cX9_told 71 = .ok (.ireturn, 1) ∧ decode cX9_told 72 = .ok (.aload_n 0, 1) ∧ decode cX9_told 73 = .ok (.getfield 19, 3) ∧ decode cX9_told 76 = .ok (.getfield 123, 3) ∧ decode cX9_told 79 = .ok (.ireturn, 1) ∧ decode cX9_told 80 = .ok (.aload_n 0, 1) ∧ decode cX9_told 81 = .ok (.getfield 19, 3) := by decide +kernel
theorem dX9_told_0 : decode cX9_told 0 = .ok (.iload_n 1, 1) := dkAa211.1
theorem dX9_told_1 : decode cX9_told 1 = .ok (.tableswitch 169 0 11 #[63, 71, 79, 87, 95, 103, 111, 119, 137, 145, 153, 161], 63) := dkAa211.2.1
theorem dX9_told_64 : decode cX9_told 64 = .ok (.aload_n 0, 1) := dkAa211.2.2.1
theorem dX9_told_65 : decode cX9_told 65 = .ok (.getfield 19, 3) := dkAa211.2.2.2.1
theorem dX9_told_68 : decode cX9_told 68 = .ok (.getfield 117, 3) := dkAa211.2.2.2.2.1
theorem dX9_told_71 : decode cX9_told 71 = .ok (.ireturn, 1) := dkAa211.2.2.2.2.2.1
theorem dX9_told_72 : decode cX9_told 72 = .ok (.aload_n 0, 1) := dkAa211.2.2.2.2.2.2.1
theorem dX9_told_73 : decode cX9_told 73 = .ok (.getfield 19, 3) := dkAa211.2.2.2.2.2.2.2.1
theorem dX9_told_76 : decode cX9_told 76 = .ok (.getfield 123, 3) := dkAa211.2.2.2.2.2.2.2.2.1
theorem dX9_told_79 : decode cX9_told 79 = .ok (.ireturn, 1) := dkAa211.2.2.2.2.2.2.2.2.2.1
theorem dX9_told_80 : decode cX9_told 80 = .ok (.aload_n 0, 1) := dkAa211.2.2.2.2.2.2.2.2.2.2.1
theorem dX9_told_81 : decode cX9_told 81 = .ok (.getfield 19, 3) := dkAa211.2.2.2.2.2.2.2.2.2.2.2
set_option maxRecDepth 100000 in
theorem dkAa212 : decode cX9_told 84 = .ok (.getfield 126, 3) ∧ decode cX9_told 87 = .ok (.ireturn, 1) ∧ decode cX9_told 88 = .ok (.aload_n 0, 1) ∧ decode cX9_told 89 = .ok (.getfield 10, 3) ∧ decode cX9_told 92 = .ok (.getfield 91, 3) ∧ decode cX9_told 95 = .ok (.ireturn, 1) ∧ decode cX9_told 96 = .ok (.aload_n 0, 1) ∧ decode cX9_told 97 = .ok (.getfield 29, 3) ∧ decode cX9_told 100 = .ok (.getfield 129, 3) ∧ decode cX9_told 103 = .ok (.ireturn, 1) ∧ decode cX9_told 104 = .ok (.aload_n 0, 1) ∧ decode cX9_told 105 = .ok (.getfield 29, 3) := by decide +kernel
theorem dX9_told_84 : decode cX9_told 84 = .ok (.getfield 126, 3) := dkAa212.1
theorem dX9_told_87 : decode cX9_told 87 = .ok (.ireturn, 1) := dkAa212.2.1
theorem dX9_told_88 : decode cX9_told 88 = .ok (.aload_n 0, 1) := dkAa212.2.2.1
theorem dX9_told_89 : decode cX9_told 89 = .ok (.getfield 10, 3) := dkAa212.2.2.2.1
theorem dX9_told_92 : decode cX9_told 92 = .ok (.getfield 91, 3) := dkAa212.2.2.2.2.1
theorem dX9_told_95 : decode cX9_told 95 = .ok (.ireturn, 1) := dkAa212.2.2.2.2.2.1
theorem dX9_told_96 : decode cX9_told 96 = .ok (.aload_n 0, 1) := dkAa212.2.2.2.2.2.2.1
theorem dX9_told_97 : decode cX9_told 97 = .ok (.getfield 29, 3) := dkAa212.2.2.2.2.2.2.2.1
theorem dX9_told_100 : decode cX9_told 100 = .ok (.getfield 129, 3) := dkAa212.2.2.2.2.2.2.2.2.1
theorem dX9_told_103 : decode cX9_told 103 = .ok (.ireturn, 1) := dkAa212.2.2.2.2.2.2.2.2.2.1
theorem dX9_told_104 : decode cX9_told 104 = .ok (.aload_n 0, 1) := dkAa212.2.2.2.2.2.2.2.2.2.2.1
theorem dX9_told_105 : decode cX9_told 105 = .ok (.getfield 29, 3) := dkAa212.2.2.2.2.2.2.2.2.2.2.2
set_option maxRecDepth 100000 in
theorem dkAa213 : decode cX9_told 108 = .ok (.getfield 132, 3) ∧ decode cX9_told 111 = .ok (.ireturn, 1) ∧ decode cX9_told 112 = .ok (.aload_n 0, 1) ∧ decode cX9_told 113 = .ok (.getfield 29, 3) ∧ decode cX9_told 116 = .ok (.invokevirtual 135, 3) ∧ decode cX9_told 119 = .ok (.ireturn, 1) ∧ decode cX9_told 120 = .ok (.aload_n 0, 1) ∧ decode cX9_told 121 = .ok (.getfield 19, 3) ∧ decode cX9_told 124 = .ok (.invokevirtual 139, 3) ∧ decode cX9_told 127 = .ok (.aload_n 0, 1) ∧ decode cX9_told 128 = .ok (.getfield 29, 3) ∧ decode cX9_told 131 = .ok (.invokevirtual 142, 3) := by decide +kernel
theorem dX9_told_108 : decode cX9_told 108 = .ok (.getfield 132, 3) := dkAa213.1
theorem dX9_told_111 : decode cX9_told 111 = .ok (.ireturn, 1) := dkAa213.2.1
theorem dX9_told_112 : decode cX9_told 112 = .ok (.aload_n 0, 1) := dkAa213.2.2.1
theorem dX9_told_113 : decode cX9_told 113 = .ok (.getfield 29, 3) := dkAa213.2.2.2.1
theorem dX9_told_116 : decode cX9_told 116 = .ok (.invokevirtual 135, 3) := dkAa213.2.2.2.2.1
theorem dX9_told_119 : decode cX9_told 119 = .ok (.ireturn, 1) := dkAa213.2.2.2.2.2.1
theorem dX9_told_120 : decode cX9_told 120 = .ok (.aload_n 0, 1) := dkAa213.2.2.2.2.2.2.1
theorem dX9_told_121 : decode cX9_told 121 = .ok (.getfield 19, 3) := dkAa213.2.2.2.2.2.2.2.1
theorem dX9_told_124 : decode cX9_told 124 = .ok (.invokevirtual 139, 3) := dkAa213.2.2.2.2.2.2.2.2.1
theorem dX9_told_127 : decode cX9_told 127 = .ok (.aload_n 0, 1) := dkAa213.2.2.2.2.2.2.2.2.2.1
theorem dX9_told_128 : decode cX9_told 128 = .ok (.getfield 29, 3) := dkAa213.2.2.2.2.2.2.2.2.2.2.1
theorem dX9_told_131 : decode cX9_told 131 = .ok (.invokevirtual 142, 3) := dkAa213.2.2.2.2.2.2.2.2.2.2.2
set_option maxRecDepth 100000 in
theorem dkAa214 : decode cX9_told 134 = .ok (.iconst (-1), 1) ∧ decode cX9_told 135 = .ok (.ixor, 1) ∧ decode cX9_told 136 = .ok (.iand, 1) ∧ decode cX9_told 137 = .ok (.ireturn, 1) ∧ decode cX9_told 138 = .ok (.aload_n 0, 1) ∧ decode cX9_told 139 = .ok (.getfield 61, 3) ∧ decode cX9_told 142 = .ok (.getfield 145, 3) ∧ decode cX9_told 145 = .ok (.ireturn, 1) ∧ decode cX9_told 146 = .ok (.aload_n 0, 1) ∧ decode cX9_told 147 = .ok (.getfield 65, 3) ∧ decode cX9_told 150 = .ok (.getfield 145, 3) ∧ decode cX9_told 153 = .ok (.ireturn, 1) := by decide +kernel
theorem dX9_told_134 : decode cX9_told 134 = .ok (.iconst (-1), 1) := dkAa214.1
theorem dX9_told_135 : decode cX9_told 135 = .ok (.ixor, 1) := dkAa214.2.1
theorem dX9_told_136 : decode cX9_told 136 = .ok (.iand, 1) := dkAa214.2.2.1
theorem dX9_told_137 : decode cX9_told 137 = .ok (.ireturn, 1) := dkAa214.2.2.2.1
theorem dX9_told_138 : decode cX9_told 138 = .ok (.aload_n 0, 1) := dkAa214.2.2.2.2.1
theorem dX9_told_139 : decode cX9_told 139 = .ok (.getfield 61, 3) := dkAa214.2.2.2.2.2.1
theorem dX9_told_142 : decode cX9_told 142 = .ok (.getfield 145, 3) := dkAa214.2.2.2.2.2.2.1
theorem dX9_told_145 : decode cX9_told 145 = .ok (.ireturn, 1) := dkAa214.2.2.2.2.2.2.2.1
theorem dX9_told_146 : decode cX9_told 146 = .ok (.aload_n 0, 1) := dkAa214.2.2.2.2.2.2.2.2.1
theorem dX9_told_147 : decode cX9_told 147 = .ok (.getfield 65, 3) := dkAa214.2.2.2.2.2.2.2.2.2.1
theorem dX9_told_150 : decode cX9_told 150 = .ok (.getfield 145, 3) := dkAa214.2.2.2.2.2.2.2.2.2.2.1
theorem dX9_told_153 : decode cX9_told 153 = .ok (.ireturn, 1) := dkAa214.2.2.2.2.2.2.2.2.2.2.2
set_option maxRecDepth 100000 in
theorem dkAa215 : decode cX9_told 154 = .ok (.aload_n 0, 1) ∧ decode cX9_told 155 = .ok (.getfield 68, 3) ∧ decode cX9_told 158 = .ok (.getfield 145, 3) ∧ decode cX9_told 161 = .ok (.ireturn, 1) ∧ decode cX9_told 162 = .ok (.aload_n 0, 1) ∧ decode cX9_told 163 = .ok (.getfield 39, 3) ∧ decode cX9_told 166 = .ok (.getfield 146, 3) ∧ decode cX9_told 169 = .ok (.ireturn, 1) ∧ decode cX9_told 170 = .ok (.ldc 86, 2) ∧ decode cX9_told 172 = .ok (.ireturn, 1) := by decide +kernel
theorem dX9_told_154 : decode cX9_told 154 = .ok (.aload_n 0, 1) := dkAa215.1
theorem dX9_told_155 : decode cX9_told 155 = .ok (.getfield 68, 3) := dkAa215.2.1
theorem dX9_told_158 : decode cX9_told 158 = .ok (.getfield 145, 3) := dkAa215.2.2.1
theorem dX9_told_161 : decode cX9_told 161 = .ok (.ireturn, 1) := dkAa215.2.2.2.1
theorem dX9_told_162 : decode cX9_told 162 = .ok (.aload_n 0, 1) := dkAa215.2.2.2.2.1
theorem dX9_told_163 : decode cX9_told 163 = .ok (.getfield 39, 3) := dkAa215.2.2.2.2.2.1
theorem dX9_told_166 : decode cX9_told 166 = .ok (.getfield 146, 3) := dkAa215.2.2.2.2.2.2.1
theorem dX9_told_169 : decode cX9_told 169 = .ok (.ireturn, 1) := dkAa215.2.2.2.2.2.2.2.1
theorem dX9_told_170 : decode cX9_told 170 = .ok (.ldc 86, 2) := dkAa215.2.2.2.2.2.2.2.2.1
theorem dX9_told_172 : decode cX9_told 172 = .ok (.ireturn, 1) := dkAa215.2.2.2.2.2.2.2.2.2
set_option maxRecDepth 100000 in
theorem dkAa216 : decode cX9_person 0 = .ok (.aload_n 0, 1) ∧ decode cX9_person 1 = .ok (.getfield 19, 3) ∧ decode cX9_person 4 = .ok (.iload_n 1, 1) ∧ decode cX9_person 5 = .ok (.invokevirtual 147, 3) ∧ decode cX9_person 8 = .ok (.ifCond .ne 6, 3) ∧ decode cX9_person 11 = .ok (.ldc 150, 2) ∧ decode cX9_person 13 = .ok (.ireturn, 1) ∧ decode cX9_person 14 = .ok (.iload_n 2, 1) ∧ decode cX9_person 15 = .ok (.tableswitch 106 0 5 #[37, 46, 55, 64, 73, 89], 37) ∧ decode cX9_person 52 = .ok (.aload_n 0, 1) ∧ decode cX9_person 53 = .ok (.getfield 29, 3) ∧ decode cX9_person 56 = .ok (.iload_n 1, 1) := by decide +kernel
theorem dX9_person_0 : decode cX9_person 0 = .ok (.aload_n 0, 1) := dkAa216.1
theorem dX9_person_1 : decode cX9_person 1 = .ok (.getfield 19, 3) := dkAa216.2.1
theorem dX9_person_4 : decode cX9_person 4 = .ok (.iload_n 1, 1) := dkAa216.2.2.1
theorem dX9_person_5 : decode cX9_person 5 = .ok (.invokevirtual 147, 3) := dkAa216.2.2.2.1
theorem dX9_person_8 : decode cX9_person 8 = .ok (.ifCond .ne 6, 3) := dkAa216.2.2.2.2.1
theorem dX9_person_11 : decode cX9_person 11 = .ok (.ldc 150, 2) := dkAa216.2.2.2.2.2.1
theorem dX9_person_13 : decode cX9_person 13 = .ok (.ireturn, 1) := dkAa216.2.2.2.2.2.2.1
theorem dX9_person_14 : decode cX9_person 14 = .ok (.iload_n 2, 1) := dkAa216.2.2.2.2.2.2.2.1
theorem dX9_person_15 : decode cX9_person 15 = .ok (.tableswitch 106 0 5 #[37, 46, 55, 64, 73, 89], 37) := dkAa216.2.2.2.2.2.2.2.2.1
theorem dX9_person_52 : decode cX9_person 52 = .ok (.aload_n 0, 1) := dkAa216.2.2.2.2.2.2.2.2.2.1
theorem dX9_person_53 : decode cX9_person 53 = .ok (.getfield 29, 3) := dkAa216.2.2.2.2.2.2.2.2.2.2.1
theorem dX9_person_56 : decode cX9_person 56 = .ok (.iload_n 1, 1) := dkAa216.2.2.2.2.2.2.2.2.2.2.2
set_option maxRecDepth 100000 in
theorem dkAa217 : decode cX9_person 57 = .ok (.invokevirtual 151, 3) ∧ decode cX9_person 60 = .ok (.ireturn, 1) ∧ decode cX9_person 61 = .ok (.aload_n 0, 1) ∧ decode cX9_person 62 = .ok (.getfield 29, 3) ∧ decode cX9_person 65 = .ok (.iload_n 1, 1) ∧ decode cX9_person 66 = .ok (.invokevirtual 155, 3) ∧ decode cX9_person 69 = .ok (.ireturn, 1) ∧ decode cX9_person 70 = .ok (.aload_n 0, 1) ∧ decode cX9_person 71 = .ok (.getfield 29, 3) ∧ decode cX9_person 74 = .ok (.iload_n 1, 1) ∧ decode cX9_person 75 = .ok (.invokevirtual 158, 3) ∧ decode cX9_person 78 = .ok (.ireturn, 1) := by decide +kernel
theorem dX9_person_57 : decode cX9_person 57 = .ok (.invokevirtual 151, 3) := dkAa217.1
theorem dX9_person_60 : decode cX9_person 60 = .ok (.ireturn, 1) := dkAa217.2.1
theorem dX9_person_61 : decode cX9_person 61 = .ok (.aload_n 0, 1) := dkAa217.2.2.1
theorem dX9_person_62 : decode cX9_person 62 = .ok (.getfield 29, 3) := dkAa217.2.2.2.1
theorem dX9_person_65 : decode cX9_person 65 = .ok (.iload_n 1, 1) := dkAa217.2.2.2.2.1
theorem dX9_person_66 : decode cX9_person 66 = .ok (.invokevirtual 155, 3) := dkAa217.2.2.2.2.2.1
theorem dX9_person_69 : decode cX9_person 69 = .ok (.ireturn, 1) := dkAa217.2.2.2.2.2.2.1
theorem dX9_person_70 : decode cX9_person 70 = .ok (.aload_n 0, 1) := dkAa217.2.2.2.2.2.2.2.1
theorem dX9_person_71 : decode cX9_person 71 = .ok (.getfield 29, 3) := dkAa217.2.2.2.2.2.2.2.2.1
theorem dX9_person_74 : decode cX9_person 74 = .ok (.iload_n 1, 1) := dkAa217.2.2.2.2.2.2.2.2.2.1
theorem dX9_person_75 : decode cX9_person 75 = .ok (.invokevirtual 158, 3) := dkAa217.2.2.2.2.2.2.2.2.2.2.1
theorem dX9_person_78 : decode cX9_person 78 = .ok (.ireturn, 1) := dkAa217.2.2.2.2.2.2.2.2.2.2.2
set_option maxRecDepth 100000 in
theorem dkAa218 : decode cX9_person 79 = .ok (.aload_n 0, 1) ∧ decode cX9_person 80 = .ok (.getfield 29, 3) ∧ decode cX9_person 83 = .ok (.iload_n 1, 1) ∧ decode cX9_person 84 = .ok (.invokevirtual 161, 3) ∧ decode cX9_person 87 = .ok (.ireturn, 1) ∧ decode cX9_person 88 = .ok (.aload_n 0, 1) ∧ decode cX9_person 89 = .ok (.getfield 19, 3) ∧ decode cX9_person 92 = .ok (.aload_n 0, 1) ∧ decode cX9_person 93 = .ok (.getfield 29, 3) ∧ decode cX9_person 96 = .ok (.iload_n 1, 1) ∧ decode cX9_person 97 = .ok (.invokevirtual 151, 3) ∧ decode cX9_person 100 = .ok (.invokevirtual 164, 3) := by decide +kernel
theorem dX9_person_79 : decode cX9_person 79 = .ok (.aload_n 0, 1) := dkAa218.1
theorem dX9_person_80 : decode cX9_person 80 = .ok (.getfield 29, 3) := dkAa218.2.1
theorem dX9_person_83 : decode cX9_person 83 = .ok (.iload_n 1, 1) := dkAa218.2.2.1
theorem dX9_person_84 : decode cX9_person 84 = .ok (.invokevirtual 161, 3) := dkAa218.2.2.2.1
theorem dX9_person_87 : decode cX9_person 87 = .ok (.ireturn, 1) := dkAa218.2.2.2.2.1
theorem dX9_person_88 : decode cX9_person 88 = .ok (.aload_n 0, 1) := dkAa218.2.2.2.2.2.1
theorem dX9_person_89 : decode cX9_person 89 = .ok (.getfield 19, 3) := dkAa218.2.2.2.2.2.2.1
theorem dX9_person_92 : decode cX9_person 92 = .ok (.aload_n 0, 1) := dkAa218.2.2.2.2.2.2.2.1
theorem dX9_person_93 : decode cX9_person 93 = .ok (.getfield 29, 3) := dkAa218.2.2.2.2.2.2.2.2.1
theorem dX9_person_96 : decode cX9_person 96 = .ok (.iload_n 1, 1) := dkAa218.2.2.2.2.2.2.2.2.2.1
theorem dX9_person_97 : decode cX9_person 97 = .ok (.invokevirtual 151, 3) := dkAa218.2.2.2.2.2.2.2.2.2.2.1
theorem dX9_person_100 : decode cX9_person 100 = .ok (.invokevirtual 164, 3) := dkAa218.2.2.2.2.2.2.2.2.2.2.2
set_option maxRecDepth 100000 in
theorem dkAa219 : decode cX9_person 103 = .ok (.ireturn, 1) ∧ decode cX9_person 104 = .ok (.aload_n 0, 1) ∧ decode cX9_person 105 = .ok (.getfield 29, 3) ∧ decode cX9_person 108 = .ok (.iload_n 1, 1) ∧ decode cX9_person 109 = .ok (.invokevirtual 167, 3) ∧ decode cX9_person 112 = .ok (.ifCond .eq 7, 3) ∧ decode cX9_person 115 = .ok (.iconst 1, 1) ∧ decode cX9_person 116 = .ok (.goto 4, 3) ∧ decode cX9_person 119 = .ok (.iconst 0, 1) ∧ decode cX9_person 120 = .ok (.ireturn, 1) ∧ decode cX9_person 121 = .ok (.ldc 86, 2) ∧ decode cX9_person 123 = .ok (.ireturn, 1) := by decide +kernel
theorem dX9_person_103 : decode cX9_person 103 = .ok (.ireturn, 1) := dkAa219.1
theorem dX9_person_104 : decode cX9_person 104 = .ok (.aload_n 0, 1) := dkAa219.2.1
theorem dX9_person_105 : decode cX9_person 105 = .ok (.getfield 29, 3) := dkAa219.2.2.1
theorem dX9_person_108 : decode cX9_person 108 = .ok (.iload_n 1, 1) := dkAa219.2.2.2.1
theorem dX9_person_109 : decode cX9_person 109 = .ok (.invokevirtual 167, 3) := dkAa219.2.2.2.2.1
theorem dX9_person_112 : decode cX9_person 112 = .ok (.ifCond .eq 7, 3) := dkAa219.2.2.2.2.2.1
theorem dX9_person_115 : decode cX9_person 115 = .ok (.iconst 1, 1) := dkAa219.2.2.2.2.2.2.1
theorem dX9_person_116 : decode cX9_person 116 = .ok (.goto 4, 3) := dkAa219.2.2.2.2.2.2.2.1
theorem dX9_person_119 : decode cX9_person 119 = .ok (.iconst 0, 1) := dkAa219.2.2.2.2.2.2.2.2.1
theorem dX9_person_120 : decode cX9_person 120 = .ok (.ireturn, 1) := dkAa219.2.2.2.2.2.2.2.2.2.1
theorem dX9_person_121 : decode cX9_person 121 = .ok (.ldc 86, 2) := dkAa219.2.2.2.2.2.2.2.2.2.2.1
theorem dX9_person_123 : decode cX9_person 123 = .ok (.ireturn, 1) := dkAa219.2.2.2.2.2.2.2.2.2.2.2
set_option maxRecDepth 100000 in
theorem dkAa220 : decode cX9_range 0 = .ok (.aload_n 0, 1) ∧ decode cX9_range 1 = .ok (.getfield 19, 3) ∧ decode cX9_range 4 = .ok (.iload_n 1, 1) ∧ decode cX9_range 5 = .ok (.invokevirtual 147, 3) ∧ decode cX9_range 8 = .ok (.ifCond .eq 14, 3) ∧ decode cX9_range 11 = .ok (.aload_n 0, 1) ∧ decode cX9_range 12 = .ok (.getfield 19, 3) ∧ decode cX9_range 15 = .ok (.iload_n 1, 1) ∧ decode cX9_range 16 = .ok (.invokevirtual 170, 3) ∧ decode cX9_range 19 = .ok (.goto 5, 3) ∧ decode cX9_range 22 = .ok (.ldc 150, 2) ∧ decode cX9_range 24 = .ok (.ireturn, 1) := by decide +kernel
theorem dX9_range_0 : decode cX9_range 0 = .ok (.aload_n 0, 1) := dkAa220.1
theorem dX9_range_1 : decode cX9_range 1 = .ok (.getfield 19, 3) := dkAa220.2.1
theorem dX9_range_4 : decode cX9_range 4 = .ok (.iload_n 1, 1) := dkAa220.2.2.1
theorem dX9_range_5 : decode cX9_range 5 = .ok (.invokevirtual 147, 3) := dkAa220.2.2.2.1
theorem dX9_range_8 : decode cX9_range 8 = .ok (.ifCond .eq 14, 3) := dkAa220.2.2.2.2.1
theorem dX9_range_11 : decode cX9_range 11 = .ok (.aload_n 0, 1) := dkAa220.2.2.2.2.2.1
theorem dX9_range_12 : decode cX9_range 12 = .ok (.getfield 19, 3) := dkAa220.2.2.2.2.2.2.1
theorem dX9_range_15 : decode cX9_range 15 = .ok (.iload_n 1, 1) := dkAa220.2.2.2.2.2.2.2.1
theorem dX9_range_16 : decode cX9_range 16 = .ok (.invokevirtual 170, 3) := dkAa220.2.2.2.2.2.2.2.2.1
theorem dX9_range_19 : decode cX9_range 19 = .ok (.goto 5, 3) := dkAa220.2.2.2.2.2.2.2.2.2.1
theorem dX9_range_22 : decode cX9_range 22 = .ok (.ldc 150, 2) := dkAa220.2.2.2.2.2.2.2.2.2.2.1
theorem dX9_range_24 : decode cX9_range 24 = .ok (.ireturn, 1) := dkAa220.2.2.2.2.2.2.2.2.2.2.2
set_option maxRecDepth 100000 in
theorem dkAa221 : decode cX9_door 0 = .ok (.aload_n 0, 1) ∧ decode cX9_door 1 = .ok (.getfield 19, 3) ∧ decode cX9_door 4 = .ok (.iload_n 1, 1) ∧ decode cX9_door 5 = .ok (.invokevirtual 173, 3) ∧ decode cX9_door 8 = .ok (.ifCond .eq 14, 3) ∧ decode cX9_door 11 = .ok (.aload_n 0, 1) ∧ decode cX9_door 12 = .ok (.getfield 19, 3) ∧ decode cX9_door 15 = .ok (.iload_n 1, 1) ∧ decode cX9_door 16 = .ok (.invokevirtual 176, 3) ∧ decode cX9_door 19 = .ok (.goto 5, 3) ∧ decode cX9_door 22 = .ok (.ldc 150, 2) ∧ decode cX9_door 24 = .ok (.ireturn, 1) := by decide +kernel
theorem dX9_door_0 : decode cX9_door 0 = .ok (.aload_n 0, 1) := dkAa221.1
theorem dX9_door_1 : decode cX9_door 1 = .ok (.getfield 19, 3) := dkAa221.2.1
theorem dX9_door_4 : decode cX9_door 4 = .ok (.iload_n 1, 1) := dkAa221.2.2.1
theorem dX9_door_5 : decode cX9_door 5 = .ok (.invokevirtual 173, 3) := dkAa221.2.2.2.1
theorem dX9_door_8 : decode cX9_door 8 = .ok (.ifCond .eq 14, 3) := dkAa221.2.2.2.2.1
theorem dX9_door_11 : decode cX9_door 11 = .ok (.aload_n 0, 1) := dkAa221.2.2.2.2.2.1
theorem dX9_door_12 : decode cX9_door 12 = .ok (.getfield 19, 3) := dkAa221.2.2.2.2.2.2.1
theorem dX9_door_15 : decode cX9_door 15 = .ok (.iload_n 1, 1) := dkAa221.2.2.2.2.2.2.2.1
theorem dX9_door_16 : decode cX9_door 16 = .ok (.invokevirtual 176, 3) := dkAa221.2.2.2.2.2.2.2.2.1
theorem dX9_door_19 : decode cX9_door 19 = .ok (.goto 5, 3) := dkAa221.2.2.2.2.2.2.2.2.2.1
theorem dX9_door_22 : decode cX9_door 22 = .ok (.ldc 150, 2) := dkAa221.2.2.2.2.2.2.2.2.2.2.1
theorem dX9_door_24 : decode cX9_door 24 = .ok (.ireturn, 1) := dkAa221.2.2.2.2.2.2.2.2.2.2.2
set_option maxRecDepth 100000 in
theorem dkAa222 : decode cX9_die 0 = .ok (.aload_n 0, 1) ∧ decode cX9_die 1 = .ok (.getfield 19, 3) ∧ decode cX9_die 4 = .ok (.iload_n 1, 1) ∧ decode cX9_die 5 = .ok (.invokevirtual 147, 3) ∧ decode cX9_die 8 = .ok (.ifCond .ne 6, 3) ∧ decode cX9_die 11 = .ok (.ldc 150, 2) ∧ decode cX9_die 13 = .ok (.ireturn, 1) ∧ decode cX9_die 14 = .ok (.aload_n 0, 1) ∧ decode cX9_die 15 = .ok (.getfield 29, 3) ∧ decode cX9_die 18 = .ok (.iload_n 1, 1) ∧ decode cX9_die 19 = .ok (.invokevirtual 167, 3) ∧ decode cX9_die 22 = .ok (.ifCond .ne 6, 3) := by decide +kernel
theorem dX9_die_0 : decode cX9_die 0 = .ok (.aload_n 0, 1) := dkAa222.1
theorem dX9_die_1 : decode cX9_die 1 = .ok (.getfield 19, 3) := dkAa222.2.1
theorem dX9_die_4 : decode cX9_die 4 = .ok (.iload_n 1, 1) := dkAa222.2.2.1
theorem dX9_die_5 : decode cX9_die 5 = .ok (.invokevirtual 147, 3) := dkAa222.2.2.2.1
theorem dX9_die_8 : decode cX9_die 8 = .ok (.ifCond .ne 6, 3) := dkAa222.2.2.2.2.1
theorem dX9_die_11 : decode cX9_die 11 = .ok (.ldc 150, 2) := dkAa222.2.2.2.2.2.1
theorem dX9_die_13 : decode cX9_die 13 = .ok (.ireturn, 1) := dkAa222.2.2.2.2.2.2.1
theorem dX9_die_14 : decode cX9_die 14 = .ok (.aload_n 0, 1) := dkAa222.2.2.2.2.2.2.2.1
theorem dX9_die_15 : decode cX9_die 15 = .ok (.getfield 29, 3) := dkAa222.2.2.2.2.2.2.2.2.1
theorem dX9_die_18 : decode cX9_die 18 = .ok (.iload_n 1, 1) := dkAa222.2.2.2.2.2.2.2.2.2.1
theorem dX9_die_19 : decode cX9_die 19 = .ok (.invokevirtual 167, 3) := dkAa222.2.2.2.2.2.2.2.2.2.2.1
theorem dX9_die_22 : decode cX9_die 22 = .ok (.ifCond .ne 6, 3) := dkAa222.2.2.2.2.2.2.2.2.2.2.2
set_option maxRecDepth 100000 in
theorem dkAa223 : decode cX9_die 25 = .ok (.ldc 179, 2) ∧ decode cX9_die 27 = .ok (.ireturn, 1) ∧ decode cX9_die 28 = .ok (.aload_n 0, 1) ∧ decode cX9_die 29 = .ok (.getfield 39, 3) ∧ decode cX9_die 32 = .ok (.aload_n 0, 1) ∧ decode cX9_die 33 = .ok (.getfield 29, 3) ∧ decode cX9_die 36 = .ok (.invokevirtual 180, 3) ∧ decode cX9_die 39 = .ok (.aload_n 0, 1) ∧ decode cX9_die 40 = .ok (.getfield 29, 3) ∧ decode cX9_die 43 = .ok (.iload_n 1, 1) ∧ decode cX9_die 44 = .ok (.invokevirtual 184, 3) ∧ decode cX9_die 47 = .ok (.ireturn, 1) := by decide +kernel
theorem dX9_die_25 : decode cX9_die 25 = .ok (.ldc 179, 2) := dkAa223.1
theorem dX9_die_27 : decode cX9_die 27 = .ok (.ireturn, 1) := dkAa223.2.1
theorem dX9_die_28 : decode cX9_die 28 = .ok (.aload_n 0, 1) := dkAa223.2.2.1
theorem dX9_die_29 : decode cX9_die 29 = .ok (.getfield 39, 3) := dkAa223.2.2.2.1
theorem dX9_die_32 : decode cX9_die 32 = .ok (.aload_n 0, 1) := dkAa223.2.2.2.2.1
theorem dX9_die_33 : decode cX9_die 33 = .ok (.getfield 29, 3) := dkAa223.2.2.2.2.2.1
theorem dX9_die_36 : decode cX9_die 36 = .ok (.invokevirtual 180, 3) := dkAa223.2.2.2.2.2.2.1
theorem dX9_die_39 : decode cX9_die 39 = .ok (.aload_n 0, 1) := dkAa223.2.2.2.2.2.2.2.1
theorem dX9_die_40 : decode cX9_die 40 = .ok (.getfield 29, 3) := dkAa223.2.2.2.2.2.2.2.2.1
theorem dX9_die_43 : decode cX9_die 43 = .ok (.iload_n 1, 1) := dkAa223.2.2.2.2.2.2.2.2.2.1
theorem dX9_die_44 : decode cX9_die 44 = .ok (.invokevirtual 184, 3) := dkAa223.2.2.2.2.2.2.2.2.2.2.1
theorem dX9_die_47 : decode cX9_die 47 = .ok (.ireturn, 1) := dkAa223.2.2.2.2.2.2.2.2.2.2.2
set_option maxRecDepth 100000 in
theorem dkAa224 : decode cX9_sell 0 = .ok (.aload_n 0, 1) ∧ decode cX9_sell 1 = .ok (.getfield 19, 3) ∧ decode cX9_sell 4 = .ok (.iload_n 1, 1) ∧ decode cX9_sell 5 = .ok (.invokevirtual 147, 3) ∧ decode cX9_sell 8 = .ok (.ifCond .eq 19, 3) ∧ decode cX9_sell 11 = .ok (.aload_n 0, 1) ∧ decode cX9_sell 12 = .ok (.getfield 19, 3) ∧ decode cX9_sell 15 = .ok (.iload_n 2, 1) ∧ decode cX9_sell 16 = .ok (.invokevirtual 147, 3) ∧ decode cX9_sell 19 = .ok (.ifCond .eq 8, 3) ∧ decode cX9_sell 22 = .ok (.iload_n 1, 1) ∧ decode cX9_sell 23 = .ok (.iload_n 2, 1) := by decide +kernel
theorem dX9_sell_0 : decode cX9_sell 0 = .ok (.aload_n 0, 1) := dkAa224.1
theorem dX9_sell_1 : decode cX9_sell 1 = .ok (.getfield 19, 3) := dkAa224.2.1
theorem dX9_sell_4 : decode cX9_sell 4 = .ok (.iload_n 1, 1) := dkAa224.2.2.1
theorem dX9_sell_5 : decode cX9_sell 5 = .ok (.invokevirtual 147, 3) := dkAa224.2.2.2.1
theorem dX9_sell_8 : decode cX9_sell 8 = .ok (.ifCond .eq 19, 3) := dkAa224.2.2.2.2.1
theorem dX9_sell_11 : decode cX9_sell 11 = .ok (.aload_n 0, 1) := dkAa224.2.2.2.2.2.1
theorem dX9_sell_12 : decode cX9_sell 12 = .ok (.getfield 19, 3) := dkAa224.2.2.2.2.2.2.1
theorem dX9_sell_15 : decode cX9_sell 15 = .ok (.iload_n 2, 1) := dkAa224.2.2.2.2.2.2.2.1
theorem dX9_sell_16 : decode cX9_sell 16 = .ok (.invokevirtual 147, 3) := dkAa224.2.2.2.2.2.2.2.2.1
theorem dX9_sell_19 : decode cX9_sell 19 = .ok (.ifCond .eq 8, 3) := dkAa224.2.2.2.2.2.2.2.2.2.1
theorem dX9_sell_22 : decode cX9_sell 22 = .ok (.iload_n 1, 1) := dkAa224.2.2.2.2.2.2.2.2.2.2.1
theorem dX9_sell_23 : decode cX9_sell 23 = .ok (.iload_n 2, 1) := dkAa224.2.2.2.2.2.2.2.2.2.2.2
set_option maxRecDepth 100000 in
theorem dkAa225 : decode cX9_sell 24 = .ok (.if_icmp .ne 6, 3) ∧ decode cX9_sell 27 = .ok (.ldc 150, 2) ∧ decode cX9_sell 29 = .ok (.ireturn, 1) ∧ decode cX9_sell 30 = .ok (.aload_n 0, 1) ∧ decode cX9_sell 31 = .ok (.getfield 29, 3) ∧ decode cX9_sell 34 = .ok (.iload_n 1, 1) ∧ decode cX9_sell 35 = .ok (.iload_n 2, 1) ∧ decode cX9_sell 36 = .ok (.invokevirtual 187, 3) ∧ decode cX9_sell 39 = .ok (.ifCond .ne 6, 3) ∧ decode cX9_sell 42 = .ok (.ldc 179, 2) ∧ decode cX9_sell 44 = .ok (.ireturn, 1) ∧ decode cX9_sell 45 = .ok (.aload_n 0, 1) := by decide +kernel
theorem dX9_sell_24 : decode cX9_sell 24 = .ok (.if_icmp .ne 6, 3) := dkAa225.1
theorem dX9_sell_27 : decode cX9_sell 27 = .ok (.ldc 150, 2) := dkAa225.2.1
theorem dX9_sell_29 : decode cX9_sell 29 = .ok (.ireturn, 1) := dkAa225.2.2.1
theorem dX9_sell_30 : decode cX9_sell 30 = .ok (.aload_n 0, 1) := dkAa225.2.2.2.1
theorem dX9_sell_31 : decode cX9_sell 31 = .ok (.getfield 29, 3) := dkAa225.2.2.2.2.1
theorem dX9_sell_34 : decode cX9_sell 34 = .ok (.iload_n 1, 1) := dkAa225.2.2.2.2.2.1
theorem dX9_sell_35 : decode cX9_sell 35 = .ok (.iload_n 2, 1) := dkAa225.2.2.2.2.2.2.1
theorem dX9_sell_36 : decode cX9_sell 36 = .ok (.invokevirtual 187, 3) := dkAa225.2.2.2.2.2.2.2.1
theorem dX9_sell_39 : decode cX9_sell 39 = .ok (.ifCond .ne 6, 3) := dkAa225.2.2.2.2.2.2.2.2.1
theorem dX9_sell_42 : decode cX9_sell 42 = .ok (.ldc 179, 2) := dkAa225.2.2.2.2.2.2.2.2.2.1
theorem dX9_sell_44 : decode cX9_sell 44 = .ok (.ireturn, 1) := dkAa225.2.2.2.2.2.2.2.2.2.2.1
theorem dX9_sell_45 : decode cX9_sell 45 = .ok (.aload_n 0, 1) := dkAa225.2.2.2.2.2.2.2.2.2.2.2
set_option maxRecDepth 100000 in
theorem dkAa226 : decode cX9_sell 46 = .ok (.getfield 39, 3) ∧ decode cX9_sell 49 = .ok (.aload_n 0, 1) ∧ decode cX9_sell 50 = .ok (.getfield 29, 3) ∧ decode cX9_sell 53 = .ok (.invokevirtual 180, 3) ∧ decode cX9_sell 56 = .ok (.aload_n 0, 1) ∧ decode cX9_sell 57 = .ok (.getfield 29, 3) ∧ decode cX9_sell 60 = .ok (.iload_n 1, 1) ∧ decode cX9_sell 61 = .ok (.iload_n 2, 1) ∧ decode cX9_sell 62 = .ok (.invokevirtual 191, 3) ∧ decode cX9_sell 65 = .ok (.aload_n 0, 1) ∧ decode cX9_sell 66 = .ok (.getfield 29, 3) ∧ decode cX9_sell 69 = .ok (.iload_n 1, 1) := by decide +kernel
theorem dX9_sell_46 : decode cX9_sell 46 = .ok (.getfield 39, 3) := dkAa226.1
theorem dX9_sell_49 : decode cX9_sell 49 = .ok (.aload_n 0, 1) := dkAa226.2.1
theorem dX9_sell_50 : decode cX9_sell 50 = .ok (.getfield 29, 3) := dkAa226.2.2.1
theorem dX9_sell_53 : decode cX9_sell 53 = .ok (.invokevirtual 180, 3) := dkAa226.2.2.2.1
theorem dX9_sell_56 : decode cX9_sell 56 = .ok (.aload_n 0, 1) := dkAa226.2.2.2.2.1
theorem dX9_sell_57 : decode cX9_sell 57 = .ok (.getfield 29, 3) := dkAa226.2.2.2.2.2.1
theorem dX9_sell_60 : decode cX9_sell 60 = .ok (.iload_n 1, 1) := dkAa226.2.2.2.2.2.2.1
theorem dX9_sell_61 : decode cX9_sell 61 = .ok (.iload_n 2, 1) := dkAa226.2.2.2.2.2.2.2.1
theorem dX9_sell_62 : decode cX9_sell 62 = .ok (.invokevirtual 191, 3) := dkAa226.2.2.2.2.2.2.2.2.1
theorem dX9_sell_65 : decode cX9_sell 65 = .ok (.aload_n 0, 1) := dkAa226.2.2.2.2.2.2.2.2.2.1
theorem dX9_sell_66 : decode cX9_sell 66 = .ok (.getfield 29, 3) := dkAa226.2.2.2.2.2.2.2.2.2.2.1
theorem dX9_sell_69 : decode cX9_sell 69 = .ok (.iload_n 1, 1) := dkAa226.2.2.2.2.2.2.2.2.2.2.2
theorem dX9_sell_70 : decode cX9_sell 70 = .ok (.invokevirtual 151, 3) := by decide +kernel
theorem dX9_sell_73 : decode cX9_sell 73 = .ok (.ireturn, 1) := by decide +kernel
set_option maxRecDepth 100000 in
theorem dkAa227 : decode cX9_putBy 0 = .ok (.aload_n 0, 1) ∧ decode cX9_putBy 1 = .ok (.getfield 19, 3) ∧ decode cX9_putBy 4 = .ok (.iload_n 1, 1) ∧ decode cX9_putBy 5 = .ok (.invokevirtual 147, 3) ∧ decode cX9_putBy 8 = .ok (.ifCond .eq 10, 3) ∧ decode cX9_putBy 11 = .ok (.iload_n 2, 1) ∧ decode cX9_putBy 12 = .ok (.invokestatic 195, 3) ∧ decode cX9_putBy 15 = .ok (.ifCond .ne 6, 3) ∧ decode cX9_putBy 18 = .ok (.ldc 150, 2) ∧ decode cX9_putBy 20 = .ok (.ireturn, 1) ∧ decode cX9_putBy 21 = .ok (.aload_n 0, 1) ∧ decode cX9_putBy 22 = .ok (.getfield 29, 3) := by decide +kernel
theorem dX9_putBy_0 : decode cX9_putBy 0 = .ok (.aload_n 0, 1) := dkAa227.1
theorem dX9_putBy_1 : decode cX9_putBy 1 = .ok (.getfield 19, 3) := dkAa227.2.1
theorem dX9_putBy_4 : decode cX9_putBy 4 = .ok (.iload_n 1, 1) := dkAa227.2.2.1
theorem dX9_putBy_5 : decode cX9_putBy 5 = .ok (.invokevirtual 147, 3) := dkAa227.2.2.2.1
theorem dX9_putBy_8 : decode cX9_putBy 8 = .ok (.ifCond .eq 10, 3) := dkAa227.2.2.2.2.1
theorem dX9_putBy_11 : decode cX9_putBy 11 = .ok (.iload_n 2, 1) := dkAa227.2.2.2.2.2.1
theorem dX9_putBy_12 : decode cX9_putBy 12 = .ok (.invokestatic 195, 3) := dkAa227.2.2.2.2.2.2.1
theorem dX9_putBy_15 : decode cX9_putBy 15 = .ok (.ifCond .ne 6, 3) := dkAa227.2.2.2.2.2.2.2.1
theorem dX9_putBy_18 : decode cX9_putBy 18 = .ok (.ldc 150, 2) := dkAa227.2.2.2.2.2.2.2.2.1
theorem dX9_putBy_20 : decode cX9_putBy 20 = .ok (.ireturn, 1) := dkAa227.2.2.2.2.2.2.2.2.2.1
theorem dX9_putBy_21 : decode cX9_putBy 21 = .ok (.aload_n 0, 1) := dkAa227.2.2.2.2.2.2.2.2.2.2.1
theorem dX9_putBy_22 : decode cX9_putBy 22 = .ok (.getfield 29, 3) := dkAa227.2.2.2.2.2.2.2.2.2.2.2
set_option maxRecDepth 100000 in
theorem dkAa228 : decode cX9_putBy 25 = .ok (.iload_n 1, 1) ∧ decode cX9_putBy 26 = .ok (.invokevirtual 167, 3) ∧ decode cX9_putBy 29 = .ok (.ifCond .eq 18, 3) ∧ decode cX9_putBy 32 = .ok (.aload_n 0, 1) ∧ decode cX9_putBy 33 = .ok (.getfield 29, 3) ∧ decode cX9_putBy 36 = .ok (.iload_n 1, 1) ∧ decode cX9_putBy 37 = .ok (.invokevirtual 155, 3) ∧ decode cX9_putBy 40 = .ok (.iload_n 2, 1) ∧ decode cX9_putBy 41 = .ok (.invokestatic 198, 3) ∧ decode cX9_putBy 44 = .ok (.ifCond .ne 6, 3) ∧ decode cX9_putBy 47 = .ok (.ldc 179, 2) ∧ decode cX9_putBy 49 = .ok (.ireturn, 1) := by decide +kernel
theorem dX9_putBy_25 : decode cX9_putBy 25 = .ok (.iload_n 1, 1) := dkAa228.1
theorem dX9_putBy_26 : decode cX9_putBy 26 = .ok (.invokevirtual 167, 3) := dkAa228.2.1
theorem dX9_putBy_29 : decode cX9_putBy 29 = .ok (.ifCond .eq 18, 3) := dkAa228.2.2.1
theorem dX9_putBy_32 : decode cX9_putBy 32 = .ok (.aload_n 0, 1) := dkAa228.2.2.2.1
theorem dX9_putBy_33 : decode cX9_putBy 33 = .ok (.getfield 29, 3) := dkAa228.2.2.2.2.1
theorem dX9_putBy_36 : decode cX9_putBy 36 = .ok (.iload_n 1, 1) := dkAa228.2.2.2.2.2.1
theorem dX9_putBy_37 : decode cX9_putBy 37 = .ok (.invokevirtual 155, 3) := dkAa228.2.2.2.2.2.2.1
theorem dX9_putBy_40 : decode cX9_putBy 40 = .ok (.iload_n 2, 1) := dkAa228.2.2.2.2.2.2.2.1
theorem dX9_putBy_41 : decode cX9_putBy 41 = .ok (.invokestatic 198, 3) := dkAa228.2.2.2.2.2.2.2.2.1
theorem dX9_putBy_44 : decode cX9_putBy 44 = .ok (.ifCond .ne 6, 3) := dkAa228.2.2.2.2.2.2.2.2.2.1
theorem dX9_putBy_47 : decode cX9_putBy 47 = .ok (.ldc 179, 2) := dkAa228.2.2.2.2.2.2.2.2.2.2.1
theorem dX9_putBy_49 : decode cX9_putBy 49 = .ok (.ireturn, 1) := dkAa228.2.2.2.2.2.2.2.2.2.2.2
set_option maxRecDepth 100000 in
theorem dkAa229 : decode cX9_putBy 50 = .ok (.aload_n 0, 1) ∧ decode cX9_putBy 51 = .ok (.getfield 39, 3) ∧ decode cX9_putBy 54 = .ok (.aload_n 0, 1) ∧ decode cX9_putBy 55 = .ok (.getfield 29, 3) ∧ decode cX9_putBy 58 = .ok (.invokevirtual 180, 3) ∧ decode cX9_putBy 61 = .ok (.aload_n 0, 1) ∧ decode cX9_putBy 62 = .ok (.getfield 29, 3) ∧ decode cX9_putBy 65 = .ok (.iload_n 1, 1) ∧ decode cX9_putBy 66 = .ok (.iload_n 2, 1) ∧ decode cX9_putBy 67 = .ok (.invokevirtual 201, 3) ∧ decode cX9_putBy 70 = .ok (.ireturn, 1) := by decide +kernel
theorem dX9_putBy_50 : decode cX9_putBy 50 = .ok (.aload_n 0, 1) := dkAa229.1
theorem dX9_putBy_51 : decode cX9_putBy 51 = .ok (.getfield 39, 3) := dkAa229.2.1
theorem dX9_putBy_54 : decode cX9_putBy 54 = .ok (.aload_n 0, 1) := dkAa229.2.2.1
theorem dX9_putBy_55 : decode cX9_putBy 55 = .ok (.getfield 29, 3) := dkAa229.2.2.2.1
theorem dX9_putBy_58 : decode cX9_putBy 58 = .ok (.invokevirtual 180, 3) := dkAa229.2.2.2.2.1
theorem dX9_putBy_61 : decode cX9_putBy 61 = .ok (.aload_n 0, 1) := dkAa229.2.2.2.2.2.1
theorem dX9_putBy_62 : decode cX9_putBy 62 = .ok (.getfield 29, 3) := dkAa229.2.2.2.2.2.2.1
theorem dX9_putBy_65 : decode cX9_putBy 65 = .ok (.iload_n 1, 1) := dkAa229.2.2.2.2.2.2.2.1
theorem dX9_putBy_66 : decode cX9_putBy 66 = .ok (.iload_n 2, 1) := dkAa229.2.2.2.2.2.2.2.2.1
theorem dX9_putBy_67 : decode cX9_putBy 67 = .ok (.invokevirtual 201, 3) := dkAa229.2.2.2.2.2.2.2.2.2.1
theorem dX9_putBy_70 : decode cX9_putBy 70 = .ok (.ireturn, 1) := dkAa229.2.2.2.2.2.2.2.2.2.2
set_option maxRecDepth 100000 in
theorem dkAa230 : decode cX9_will 0 = .ok (.aload_n 0, 1) ∧ decode cX9_will 1 = .ok (.getfield 19, 3) ∧ decode cX9_will 4 = .ok (.iload_n 1, 1) ∧ decode cX9_will 5 = .ok (.invokevirtual 147, 3) ∧ decode cX9_will 8 = .ok (.ifCond .eq 21, 3) ∧ decode cX9_will 11 = .ok (.aload_n 0, 1) ∧ decode cX9_will 12 = .ok (.iload_n 1, 1) ∧ decode cX9_will 13 = .ok (.iload_n 2, 1) ∧ decode cX9_will 14 = .ok (.invokevirtual 205, 3) ∧ decode cX9_will 17 = .ok (.ifCond .eq 12, 3) ∧ decode cX9_will 20 = .ok (.aload_n 0, 1) ∧ decode cX9_will 21 = .ok (.iload_n 1, 1) := by decide +kernel
theorem dX9_will_0 : decode cX9_will 0 = .ok (.aload_n 0, 1) := dkAa230.1
theorem dX9_will_1 : decode cX9_will 1 = .ok (.getfield 19, 3) := dkAa230.2.1
theorem dX9_will_4 : decode cX9_will 4 = .ok (.iload_n 1, 1) := dkAa230.2.2.1
theorem dX9_will_5 : decode cX9_will 5 = .ok (.invokevirtual 147, 3) := dkAa230.2.2.2.1
theorem dX9_will_8 : decode cX9_will 8 = .ok (.ifCond .eq 21, 3) := dkAa230.2.2.2.2.1
theorem dX9_will_11 : decode cX9_will 11 = .ok (.aload_n 0, 1) := dkAa230.2.2.2.2.2.1
theorem dX9_will_12 : decode cX9_will 12 = .ok (.iload_n 1, 1) := dkAa230.2.2.2.2.2.2.1
theorem dX9_will_13 : decode cX9_will 13 = .ok (.iload_n 2, 1) := dkAa230.2.2.2.2.2.2.2.1
theorem dX9_will_14 : decode cX9_will 14 = .ok (.invokevirtual 205, 3) := dkAa230.2.2.2.2.2.2.2.2.1
theorem dX9_will_17 : decode cX9_will 17 = .ok (.ifCond .eq 12, 3) := dkAa230.2.2.2.2.2.2.2.2.2.1
theorem dX9_will_20 : decode cX9_will 20 = .ok (.aload_n 0, 1) := dkAa230.2.2.2.2.2.2.2.2.2.2.1
theorem dX9_will_21 : decode cX9_will 21 = .ok (.iload_n 1, 1) := dkAa230.2.2.2.2.2.2.2.2.2.2.2
set_option maxRecDepth 100000 in
theorem dkAa231 : decode cX9_will 22 = .ok (.iload_n 3, 1) ∧ decode cX9_will 23 = .ok (.invokevirtual 205, 3) ∧ decode cX9_will 26 = .ok (.ifCond .ne 6, 3) ∧ decode cX9_will 29 = .ok (.ldc 150, 2) ∧ decode cX9_will 31 = .ok (.ireturn, 1) ∧ decode cX9_will 32 = .ok (.aload_n 0, 1) ∧ decode cX9_will 33 = .ok (.getfield 29, 3) ∧ decode cX9_will 36 = .ok (.iload_n 1, 1) ∧ decode cX9_will 37 = .ok (.invokevirtual 167, 3) ∧ decode cX9_will 40 = .ok (.ifCond .ne 6, 3) ∧ decode cX9_will 43 = .ok (.ldc 179, 2) ∧ decode cX9_will 45 = .ok (.ireturn, 1) := by decide +kernel
theorem dX9_will_22 : decode cX9_will 22 = .ok (.iload_n 3, 1) := dkAa231.1
theorem dX9_will_23 : decode cX9_will 23 = .ok (.invokevirtual 205, 3) := dkAa231.2.1
theorem dX9_will_26 : decode cX9_will 26 = .ok (.ifCond .ne 6, 3) := dkAa231.2.2.1
theorem dX9_will_29 : decode cX9_will 29 = .ok (.ldc 150, 2) := dkAa231.2.2.2.1
theorem dX9_will_31 : decode cX9_will 31 = .ok (.ireturn, 1) := dkAa231.2.2.2.2.1
theorem dX9_will_32 : decode cX9_will 32 = .ok (.aload_n 0, 1) := dkAa231.2.2.2.2.2.1
theorem dX9_will_33 : decode cX9_will 33 = .ok (.getfield 29, 3) := dkAa231.2.2.2.2.2.2.1
theorem dX9_will_36 : decode cX9_will 36 = .ok (.iload_n 1, 1) := dkAa231.2.2.2.2.2.2.2.1
theorem dX9_will_37 : decode cX9_will 37 = .ok (.invokevirtual 167, 3) := dkAa231.2.2.2.2.2.2.2.2.1
theorem dX9_will_40 : decode cX9_will 40 = .ok (.ifCond .ne 6, 3) := dkAa231.2.2.2.2.2.2.2.2.2.1
theorem dX9_will_43 : decode cX9_will 43 = .ok (.ldc 179, 2) := dkAa231.2.2.2.2.2.2.2.2.2.2.1
theorem dX9_will_45 : decode cX9_will 45 = .ok (.ireturn, 1) := dkAa231.2.2.2.2.2.2.2.2.2.2.2
set_option maxRecDepth 100000 in
theorem dkAa232 : decode cX9_will 46 = .ok (.aload_n 0, 1) ∧ decode cX9_will 47 = .ok (.getfield 39, 3) ∧ decode cX9_will 50 = .ok (.aload_n 0, 1) ∧ decode cX9_will 51 = .ok (.getfield 29, 3) ∧ decode cX9_will 54 = .ok (.invokevirtual 180, 3) ∧ decode cX9_will 57 = .ok (.bipush 10, 2) ∧ decode cX9_will 59 = .ok (.aload_n 0, 1) ∧ decode cX9_will 60 = .ok (.getfield 29, 3) ∧ decode cX9_will 63 = .ok (.iload_n 1, 1) ∧ decode cX9_will 64 = .ok (.invokevirtual 158, 3) ∧ decode cX9_will 67 = .ok (.imul, 1) ∧ decode cX9_will 68 = .ok (.aload_n 0, 1) := by decide +kernel
theorem dX9_will_46 : decode cX9_will 46 = .ok (.aload_n 0, 1) := dkAa232.1
theorem dX9_will_47 : decode cX9_will 47 = .ok (.getfield 39, 3) := dkAa232.2.1
theorem dX9_will_50 : decode cX9_will 50 = .ok (.aload_n 0, 1) := dkAa232.2.2.1
theorem dX9_will_51 : decode cX9_will 51 = .ok (.getfield 29, 3) := dkAa232.2.2.2.1
theorem dX9_will_54 : decode cX9_will 54 = .ok (.invokevirtual 180, 3) := dkAa232.2.2.2.2.1
theorem dX9_will_57 : decode cX9_will 57 = .ok (.bipush 10, 2) := dkAa232.2.2.2.2.2.1
theorem dX9_will_59 : decode cX9_will 59 = .ok (.aload_n 0, 1) := dkAa232.2.2.2.2.2.2.1
theorem dX9_will_60 : decode cX9_will 60 = .ok (.getfield 29, 3) := dkAa232.2.2.2.2.2.2.2.1
theorem dX9_will_63 : decode cX9_will 63 = .ok (.iload_n 1, 1) := dkAa232.2.2.2.2.2.2.2.2.1
theorem dX9_will_64 : decode cX9_will 64 = .ok (.invokevirtual 158, 3) := dkAa232.2.2.2.2.2.2.2.2.2.1
theorem dX9_will_67 : decode cX9_will 67 = .ok (.imul, 1) := dkAa232.2.2.2.2.2.2.2.2.2.2.1
theorem dX9_will_68 : decode cX9_will 68 = .ok (.aload_n 0, 1) := dkAa232.2.2.2.2.2.2.2.2.2.2.2
set_option maxRecDepth 100000 in
theorem dkAa233 : decode cX9_will 69 = .ok (.getfield 29, 3) ∧ decode cX9_will 72 = .ok (.iload_n 1, 1) ∧ decode cX9_will 73 = .ok (.invokevirtual 161, 3) ∧ decode cX9_will 76 = .ok (.iadd, 1) ∧ decode cX9_will 77 = .ok (.istore 4, 2) ∧ decode cX9_will 79 = .ok (.aload_n 0, 1) ∧ decode cX9_will 80 = .ok (.getfield 29, 3) ∧ decode cX9_will 83 = .ok (.iload_n 1, 1) ∧ decode cX9_will 84 = .ok (.iload_n 2, 1) ∧ decode cX9_will 85 = .ok (.iload_n 3, 1) ∧ decode cX9_will 86 = .ok (.invokevirtual 208, 3) ∧ decode cX9_will 89 = .ok (.iload 4, 2) := by decide +kernel
theorem dX9_will_69 : decode cX9_will 69 = .ok (.getfield 29, 3) := dkAa233.1
theorem dX9_will_72 : decode cX9_will 72 = .ok (.iload_n 1, 1) := dkAa233.2.1
theorem dX9_will_73 : decode cX9_will 73 = .ok (.invokevirtual 161, 3) := dkAa233.2.2.1
theorem dX9_will_76 : decode cX9_will 76 = .ok (.iadd, 1) := dkAa233.2.2.2.1
theorem dX9_will_77 : decode cX9_will 77 = .ok (.istore 4, 2) := dkAa233.2.2.2.2.1
theorem dX9_will_79 : decode cX9_will 79 = .ok (.aload_n 0, 1) := dkAa233.2.2.2.2.2.1
theorem dX9_will_80 : decode cX9_will 80 = .ok (.getfield 29, 3) := dkAa233.2.2.2.2.2.2.1
theorem dX9_will_83 : decode cX9_will 83 = .ok (.iload_n 1, 1) := dkAa233.2.2.2.2.2.2.2.1
theorem dX9_will_84 : decode cX9_will 84 = .ok (.iload_n 2, 1) := dkAa233.2.2.2.2.2.2.2.2.1
theorem dX9_will_85 : decode cX9_will 85 = .ok (.iload_n 3, 1) := dkAa233.2.2.2.2.2.2.2.2.2.1
theorem dX9_will_86 : decode cX9_will 86 = .ok (.invokevirtual 208, 3) := dkAa233.2.2.2.2.2.2.2.2.2.2.1
theorem dX9_will_89 : decode cX9_will 89 = .ok (.iload 4, 2) := dkAa233.2.2.2.2.2.2.2.2.2.2.2
theorem dX9_will_91 : decode cX9_will 91 = .ok (.ireturn, 1) := by decide +kernel
set_option maxRecDepth 100000 in
theorem dkAa234 : decode cX9_drift 0 = .ok (.iload_n 1, 1) ∧ decode cX9_drift 1 = .ok (.iconst 1, 1) ∧ decode cX9_drift 2 = .ok (.if_icmp .lt 9, 3) ∧ decode cX9_drift 5 = .ok (.iload_n 1, 1) ∧ decode cX9_drift 6 = .ok (.bipush 60, 2) ∧ decode cX9_drift 8 = .ok (.if_icmp .le 6, 3) ∧ decode cX9_drift 11 = .ok (.ldc 86, 2) ∧ decode cX9_drift 13 = .ok (.ireturn, 1) ∧ decode cX9_drift 14 = .ok (.aload_n 0, 1) ∧ decode cX9_drift 15 = .ok (.getfield 19, 3) ∧ decode cX9_drift 18 = .ok (.getfield 117, 3) ∧ decode cX9_drift 21 = .ok (.ifCond .ne 6, 3) := by decide +kernel
theorem dX9_drift_0 : decode cX9_drift 0 = .ok (.iload_n 1, 1) := dkAa234.1
theorem dX9_drift_1 : decode cX9_drift 1 = .ok (.iconst 1, 1) := dkAa234.2.1
theorem dX9_drift_2 : decode cX9_drift 2 = .ok (.if_icmp .lt 9, 3) := dkAa234.2.2.1
theorem dX9_drift_5 : decode cX9_drift 5 = .ok (.iload_n 1, 1) := dkAa234.2.2.2.1
theorem dX9_drift_6 : decode cX9_drift 6 = .ok (.bipush 60, 2) := dkAa234.2.2.2.2.1
theorem dX9_drift_8 : decode cX9_drift 8 = .ok (.if_icmp .le 6, 3) := dkAa234.2.2.2.2.2.1
theorem dX9_drift_11 : decode cX9_drift 11 = .ok (.ldc 86, 2) := dkAa234.2.2.2.2.2.2.1
theorem dX9_drift_13 : decode cX9_drift 13 = .ok (.ireturn, 1) := dkAa234.2.2.2.2.2.2.2.1
theorem dX9_drift_14 : decode cX9_drift 14 = .ok (.aload_n 0, 1) := dkAa234.2.2.2.2.2.2.2.2.1
theorem dX9_drift_15 : decode cX9_drift 15 = .ok (.getfield 19, 3) := dkAa234.2.2.2.2.2.2.2.2.2.1
theorem dX9_drift_18 : decode cX9_drift 18 = .ok (.getfield 117, 3) := dkAa234.2.2.2.2.2.2.2.2.2.2.1
theorem dX9_drift_21 : decode cX9_drift 21 = .ok (.ifCond .ne 6, 3) := dkAa234.2.2.2.2.2.2.2.2.2.2.2
set_option maxRecDepth 100000 in
theorem dkAa235 : decode cX9_drift 24 = .ok (.ldc 179, 2) ∧ decode cX9_drift 26 = .ok (.ireturn, 1) ∧ decode cX9_drift 27 = .ok (.aload_n 0, 1) ∧ decode cX9_drift 28 = .ok (.getfield 39, 3) ∧ decode cX9_drift 31 = .ok (.aload_n 0, 1) ∧ decode cX9_drift 32 = .ok (.getfield 29, 3) ∧ decode cX9_drift 35 = .ok (.invokevirtual 180, 3) ∧ decode cX9_drift 38 = .ok (.iconst 0, 1) ∧ decode cX9_drift 39 = .ok (.istore_n 2, 1) ∧ decode cX9_drift 40 = .ok (.iload_n 2, 1) ∧ decode cX9_drift 41 = .ok (.iload_n 1, 1) ∧ decode cX9_drift 42 = .ok (.if_icmp .ge 13, 3) := by decide +kernel
theorem dX9_drift_24 : decode cX9_drift 24 = .ok (.ldc 179, 2) := dkAa235.1
theorem dX9_drift_26 : decode cX9_drift 26 = .ok (.ireturn, 1) := dkAa235.2.1
theorem dX9_drift_27 : decode cX9_drift 27 = .ok (.aload_n 0, 1) := dkAa235.2.2.1
theorem dX9_drift_28 : decode cX9_drift 28 = .ok (.getfield 39, 3) := dkAa235.2.2.2.1
theorem dX9_drift_31 : decode cX9_drift 31 = .ok (.aload_n 0, 1) := dkAa235.2.2.2.2.1
theorem dX9_drift_32 : decode cX9_drift 32 = .ok (.getfield 29, 3) := dkAa235.2.2.2.2.2.1
theorem dX9_drift_35 : decode cX9_drift 35 = .ok (.invokevirtual 180, 3) := dkAa235.2.2.2.2.2.2.1
theorem dX9_drift_38 : decode cX9_drift 38 = .ok (.iconst 0, 1) := dkAa235.2.2.2.2.2.2.2.1
theorem dX9_drift_39 : decode cX9_drift 39 = .ok (.istore_n 2, 1) := dkAa235.2.2.2.2.2.2.2.2.1
theorem dX9_drift_40 : decode cX9_drift 40 = .ok (.iload_n 2, 1) := dkAa235.2.2.2.2.2.2.2.2.2.1
theorem dX9_drift_41 : decode cX9_drift 41 = .ok (.iload_n 1, 1) := dkAa235.2.2.2.2.2.2.2.2.2.2.1
theorem dX9_drift_42 : decode cX9_drift 42 = .ok (.if_icmp .ge 13, 3) := dkAa235.2.2.2.2.2.2.2.2.2.2.2
set_option maxRecDepth 100000 in
theorem dkAa236 : decode cX9_drift 45 = .ok (.aload_n 0, 1) ∧ decode cX9_drift 46 = .ok (.invokevirtual 212, 3) ∧ decode cX9_drift 49 = .ok (.iinc 2 1, 3) ∧ decode cX9_drift 52 = .ok (.goto (-12), 3) ∧ decode cX9_drift 55 = .ok (.aload_n 0, 1) ∧ decode cX9_drift 56 = .ok (.getfield 29, 3) ∧ decode cX9_drift 59 = .ok (.getfield 132, 3) ∧ decode cX9_drift 62 = .ok (.ireturn, 1) := by decide +kernel
theorem dX9_drift_45 : decode cX9_drift 45 = .ok (.aload_n 0, 1) := dkAa236.1
theorem dX9_drift_46 : decode cX9_drift 46 = .ok (.invokevirtual 212, 3) := dkAa236.2.1
theorem dX9_drift_49 : decode cX9_drift 49 = .ok (.iinc 2 1, 3) := dkAa236.2.2.1
theorem dX9_drift_52 : decode cX9_drift 52 = .ok (.goto (-12), 3) := dkAa236.2.2.2.1
theorem dX9_drift_55 : decode cX9_drift 55 = .ok (.aload_n 0, 1) := dkAa236.2.2.2.2.1
theorem dX9_drift_56 : decode cX9_drift 56 = .ok (.getfield 29, 3) := dkAa236.2.2.2.2.2.1
theorem dX9_drift_59 : decode cX9_drift 59 = .ok (.getfield 132, 3) := dkAa236.2.2.2.2.2.2.1
theorem dX9_drift_62 : decode cX9_drift 62 = .ok (.ireturn, 1) := dkAa236.2.2.2.2.2.2.2
set_option maxRecDepth 100000 in
theorem dkAa237 : decode cX9_undo 0 = .ok (.aload_n 0, 1) ∧ decode cX9_undo 1 = .ok (.getfield 39, 3) ∧ decode cX9_undo 4 = .ok (.aload_n 0, 1) ∧ decode cX9_undo 5 = .ok (.getfield 29, 3) ∧ decode cX9_undo 8 = .ok (.invokevirtual 215, 3) ∧ decode cX9_undo 11 = .ok (.ifCond .eq 13, 3) ∧ decode cX9_undo 14 = .ok (.aload_n 0, 1) ∧ decode cX9_undo 15 = .ok (.getfield 39, 3) ∧ decode cX9_undo 18 = .ok (.getfield 146, 3) ∧ decode cX9_undo 21 = .ok (.goto 5, 3) ∧ decode cX9_undo 24 = .ok (.ldc 179, 2) ∧ decode cX9_undo 26 = .ok (.ireturn, 1) := by decide +kernel
theorem dX9_undo_0 : decode cX9_undo 0 = .ok (.aload_n 0, 1) := dkAa237.1
theorem dX9_undo_1 : decode cX9_undo 1 = .ok (.getfield 39, 3) := dkAa237.2.1
theorem dX9_undo_4 : decode cX9_undo 4 = .ok (.aload_n 0, 1) := dkAa237.2.2.1
theorem dX9_undo_5 : decode cX9_undo 5 = .ok (.getfield 29, 3) := dkAa237.2.2.2.1
theorem dX9_undo_8 : decode cX9_undo 8 = .ok (.invokevirtual 215, 3) := dkAa237.2.2.2.2.1
theorem dX9_undo_11 : decode cX9_undo 11 = .ok (.ifCond .eq 13, 3) := dkAa237.2.2.2.2.2.1
theorem dX9_undo_14 : decode cX9_undo 14 = .ok (.aload_n 0, 1) := dkAa237.2.2.2.2.2.2.1
theorem dX9_undo_15 : decode cX9_undo 15 = .ok (.getfield 39, 3) := dkAa237.2.2.2.2.2.2.2.1
theorem dX9_undo_18 : decode cX9_undo 18 = .ok (.getfield 146, 3) := dkAa237.2.2.2.2.2.2.2.2.1
theorem dX9_undo_21 : decode cX9_undo 21 = .ok (.goto 5, 3) := dkAa237.2.2.2.2.2.2.2.2.2.1
theorem dX9_undo_24 : decode cX9_undo 24 = .ok (.ldc 179, 2) := dkAa237.2.2.2.2.2.2.2.2.2.2.1
theorem dX9_undo_26 : decode cX9_undo 26 = .ok (.ireturn, 1) := dkAa237.2.2.2.2.2.2.2.2.2.2.2
set_option maxRecDepth 100000 in
theorem dkAa238 : decode cX9_after 0 = .ok (.aload_n 0, 1) ∧ decode cX9_after 1 = .ok (.getfield 19, 3) ∧ decode cX9_after 4 = .ok (.iload_n 2, 1) ∧ decode cX9_after 5 = .ok (.invokevirtual 147, 3) ∧ decode cX9_after 8 = .ok (.ifCond .ne 6, 3) ∧ decode cX9_after 11 = .ok (.ldc 150, 2) ∧ decode cX9_after 13 = .ok (.ireturn, 1) ∧ decode cX9_after 14 = .ok (.aload_n 0, 1) ∧ decode cX9_after 15 = .ok (.getfield 74, 3) ∧ decode cX9_after 18 = .ok (.iload_n 1, 1) ∧ decode cX9_after 19 = .ok (.aload_n 0, 1) ∧ decode cX9_after 20 = .ok (.getfield 29, 3) := by decide +kernel
theorem dX9_after_0 : decode cX9_after 0 = .ok (.aload_n 0, 1) := dkAa238.1
theorem dX9_after_1 : decode cX9_after 1 = .ok (.getfield 19, 3) := dkAa238.2.1
theorem dX9_after_4 : decode cX9_after 4 = .ok (.iload_n 2, 1) := dkAa238.2.2.1
theorem dX9_after_5 : decode cX9_after 5 = .ok (.invokevirtual 147, 3) := dkAa238.2.2.2.1
theorem dX9_after_8 : decode cX9_after 8 = .ok (.ifCond .ne 6, 3) := dkAa238.2.2.2.2.1
theorem dX9_after_11 : decode cX9_after 11 = .ok (.ldc 150, 2) := dkAa238.2.2.2.2.2.1
theorem dX9_after_13 : decode cX9_after 13 = .ok (.ireturn, 1) := dkAa238.2.2.2.2.2.2.1
theorem dX9_after_14 : decode cX9_after 14 = .ok (.aload_n 0, 1) := dkAa238.2.2.2.2.2.2.2.1
theorem dX9_after_15 : decode cX9_after 15 = .ok (.getfield 74, 3) := dkAa238.2.2.2.2.2.2.2.2.1
theorem dX9_after_18 : decode cX9_after 18 = .ok (.iload_n 1, 1) := dkAa238.2.2.2.2.2.2.2.2.2.1
theorem dX9_after_19 : decode cX9_after 19 = .ok (.aload_n 0, 1) := dkAa238.2.2.2.2.2.2.2.2.2.2.1
theorem dX9_after_20 : decode cX9_after 20 = .ok (.getfield 29, 3) := dkAa238.2.2.2.2.2.2.2.2.2.2.2
set_option maxRecDepth 100000 in
theorem dkAa239 : decode cX9_after 23 = .ok (.invokevirtual 219, 3) ∧ decode cX9_after 26 = .ok (.ifCond .ne 6, 3) ∧ decode cX9_after 29 = .ok (.ldc 86, 2) ∧ decode cX9_after 31 = .ok (.ireturn, 1) ∧ decode cX9_after 32 = .ok (.aload_n 0, 1) ∧ decode cX9_after 33 = .ok (.invokevirtual 223, 3) ∧ decode cX9_after 36 = .ok (.aload_n 0, 1) ∧ decode cX9_after 37 = .ok (.getfield 33, 3) ∧ decode cX9_after 40 = .ok (.iload_n 2, 1) ∧ decode cX9_after 41 = .ok (.invokevirtual 151, 3) ∧ decode cX9_after 44 = .ok (.ireturn, 1) := by decide +kernel
theorem dX9_after_23 : decode cX9_after 23 = .ok (.invokevirtual 219, 3) := dkAa239.1
theorem dX9_after_26 : decode cX9_after 26 = .ok (.ifCond .ne 6, 3) := dkAa239.2.1
theorem dX9_after_29 : decode cX9_after 29 = .ok (.ldc 86, 2) := dkAa239.2.2.1
theorem dX9_after_31 : decode cX9_after 31 = .ok (.ireturn, 1) := dkAa239.2.2.2.1
theorem dX9_after_32 : decode cX9_after 32 = .ok (.aload_n 0, 1) := dkAa239.2.2.2.2.1
theorem dX9_after_33 : decode cX9_after 33 = .ok (.invokevirtual 223, 3) := dkAa239.2.2.2.2.2.1
theorem dX9_after_36 : decode cX9_after 36 = .ok (.aload_n 0, 1) := dkAa239.2.2.2.2.2.2.1
theorem dX9_after_37 : decode cX9_after 37 = .ok (.getfield 33, 3) := dkAa239.2.2.2.2.2.2.2.1
theorem dX9_after_40 : decode cX9_after 40 = .ok (.iload_n 2, 1) := dkAa239.2.2.2.2.2.2.2.2.1
theorem dX9_after_41 : decode cX9_after 41 = .ok (.invokevirtual 151, 3) := dkAa239.2.2.2.2.2.2.2.2.2.1
theorem dX9_after_44 : decode cX9_after 44 = .ok (.ireturn, 1) := dkAa239.2.2.2.2.2.2.2.2.2.2
set_option maxRecDepth 100000 in
theorem dkAa240 : decode cX9_whose 0 = .ok (.iload_n 2, 1) ∧ decode cX9_whose 1 = .ok (.invokestatic 195, 3) ∧ decode cX9_whose 4 = .ok (.ifCond .ne 6, 3) ∧ decode cX9_whose 7 = .ok (.ldc 150, 2) ∧ decode cX9_whose 9 = .ok (.ireturn, 1) ∧ decode cX9_whose 10 = .ok (.aload_n 0, 1) ∧ decode cX9_whose 11 = .ok (.getfield 74, 3) ∧ decode cX9_whose 14 = .ok (.iload_n 1, 1) ∧ decode cX9_whose 15 = .ok (.aload_n 0, 1) ∧ decode cX9_whose 16 = .ok (.getfield 29, 3) ∧ decode cX9_whose 19 = .ok (.invokevirtual 219, 3) ∧ decode cX9_whose 22 = .ok (.ifCond .ne 6, 3) := by decide +kernel
theorem dX9_whose_0 : decode cX9_whose 0 = .ok (.iload_n 2, 1) := dkAa240.1
theorem dX9_whose_1 : decode cX9_whose 1 = .ok (.invokestatic 195, 3) := dkAa240.2.1
theorem dX9_whose_4 : decode cX9_whose 4 = .ok (.ifCond .ne 6, 3) := dkAa240.2.2.1
theorem dX9_whose_7 : decode cX9_whose 7 = .ok (.ldc 150, 2) := dkAa240.2.2.2.1
theorem dX9_whose_9 : decode cX9_whose 9 = .ok (.ireturn, 1) := dkAa240.2.2.2.2.1
theorem dX9_whose_10 : decode cX9_whose 10 = .ok (.aload_n 0, 1) := dkAa240.2.2.2.2.2.1
theorem dX9_whose_11 : decode cX9_whose 11 = .ok (.getfield 74, 3) := dkAa240.2.2.2.2.2.2.1
theorem dX9_whose_14 : decode cX9_whose 14 = .ok (.iload_n 1, 1) := dkAa240.2.2.2.2.2.2.2.1
theorem dX9_whose_15 : decode cX9_whose 15 = .ok (.aload_n 0, 1) := dkAa240.2.2.2.2.2.2.2.2.1
theorem dX9_whose_16 : decode cX9_whose 16 = .ok (.getfield 29, 3) := dkAa240.2.2.2.2.2.2.2.2.2.1
theorem dX9_whose_19 : decode cX9_whose 19 = .ok (.invokevirtual 219, 3) := dkAa240.2.2.2.2.2.2.2.2.2.2.1
theorem dX9_whose_22 : decode cX9_whose 22 = .ok (.ifCond .ne 6, 3) := dkAa240.2.2.2.2.2.2.2.2.2.2.2
set_option maxRecDepth 100000 in
theorem dkAa241 : decode cX9_whose 25 = .ok (.ldc 86, 2) ∧ decode cX9_whose 27 = .ok (.ireturn, 1) ∧ decode cX9_whose 28 = .ok (.aload_n 0, 1) ∧ decode cX9_whose 29 = .ok (.invokevirtual 223, 3) ∧ decode cX9_whose 32 = .ok (.aload_n 0, 1) ∧ decode cX9_whose 33 = .ok (.getfield 33, 3) ∧ decode cX9_whose 36 = .ok (.iload_n 2, 1) ∧ decode cX9_whose 37 = .ok (.invokevirtual 226, 3) ∧ decode cX9_whose 40 = .ok (.ireturn, 1) := by decide +kernel
theorem dX9_whose_25 : decode cX9_whose 25 = .ok (.ldc 86, 2) := dkAa241.1
theorem dX9_whose_27 : decode cX9_whose 27 = .ok (.ireturn, 1) := dkAa241.2.1
theorem dX9_whose_28 : decode cX9_whose 28 = .ok (.aload_n 0, 1) := dkAa241.2.2.1
theorem dX9_whose_29 : decode cX9_whose 29 = .ok (.invokevirtual 223, 3) := dkAa241.2.2.2.1
theorem dX9_whose_32 : decode cX9_whose 32 = .ok (.aload_n 0, 1) := dkAa241.2.2.2.2.1
theorem dX9_whose_33 : decode cX9_whose 33 = .ok (.getfield 33, 3) := dkAa241.2.2.2.2.2.1
theorem dX9_whose_36 : decode cX9_whose 36 = .ok (.iload_n 2, 1) := dkAa241.2.2.2.2.2.2.1
theorem dX9_whose_37 : decode cX9_whose 37 = .ok (.invokevirtual 226, 3) := dkAa241.2.2.2.2.2.2.2.1
theorem dX9_whose_40 : decode cX9_whose 40 = .ok (.ireturn, 1) := dkAa241.2.2.2.2.2.2.2.2
set_option maxRecDepth 100000 in
theorem dkAa242 : decode cX9_wills 0 = .ok (.aload_n 0, 1) ∧ decode cX9_wills 1 = .ok (.getfield 19, 3) ∧ decode cX9_wills 4 = .ok (.iload_n 2, 1) ∧ decode cX9_wills 5 = .ok (.invokevirtual 147, 3) ∧ decode cX9_wills 8 = .ok (.ifCond .eq 14, 3) ∧ decode cX9_wills 11 = .ok (.aload_n 0, 1) ∧ decode cX9_wills 12 = .ok (.getfield 19, 3) ∧ decode cX9_wills 15 = .ok (.iload_n 3, 1) ∧ decode cX9_wills 16 = .ok (.invokevirtual 229, 3) ∧ decode cX9_wills 19 = .ok (.ifCond .ne 6, 3) ∧ decode cX9_wills 22 = .ok (.ldc 150, 2) ∧ decode cX9_wills 24 = .ok (.ireturn, 1) := by decide +kernel
theorem dX9_wills_0 : decode cX9_wills 0 = .ok (.aload_n 0, 1) := dkAa242.1
theorem dX9_wills_1 : decode cX9_wills 1 = .ok (.getfield 19, 3) := dkAa242.2.1
theorem dX9_wills_4 : decode cX9_wills 4 = .ok (.iload_n 2, 1) := dkAa242.2.2.1
theorem dX9_wills_5 : decode cX9_wills 5 = .ok (.invokevirtual 147, 3) := dkAa242.2.2.2.1
theorem dX9_wills_8 : decode cX9_wills 8 = .ok (.ifCond .eq 14, 3) := dkAa242.2.2.2.2.1
theorem dX9_wills_11 : decode cX9_wills 11 = .ok (.aload_n 0, 1) := dkAa242.2.2.2.2.2.1
theorem dX9_wills_12 : decode cX9_wills 12 = .ok (.getfield 19, 3) := dkAa242.2.2.2.2.2.2.1
theorem dX9_wills_15 : decode cX9_wills 15 = .ok (.iload_n 3, 1) := dkAa242.2.2.2.2.2.2.2.1
theorem dX9_wills_16 : decode cX9_wills 16 = .ok (.invokevirtual 229, 3) := dkAa242.2.2.2.2.2.2.2.2.1
theorem dX9_wills_19 : decode cX9_wills 19 = .ok (.ifCond .ne 6, 3) := dkAa242.2.2.2.2.2.2.2.2.2.1
theorem dX9_wills_22 : decode cX9_wills 22 = .ok (.ldc 150, 2) := dkAa242.2.2.2.2.2.2.2.2.2.2.1
theorem dX9_wills_24 : decode cX9_wills 24 = .ok (.ireturn, 1) := dkAa242.2.2.2.2.2.2.2.2.2.2.2
set_option maxRecDepth 100000 in
theorem dkAa243 : decode cX9_wills 25 = .ok (.iload 4, 2) ∧ decode cX9_wills 27 = .ok (.ifCond .lt 24, 3) ∧ decode cX9_wills 30 = .ok (.iload 4, 2) ∧ decode cX9_wills 32 = .ok (.iconst 1, 1) ∧ decode cX9_wills 33 = .ok (.if_icmp .gt 18, 3) ∧ decode cX9_wills 36 = .ok (.aload_n 0, 1) ∧ decode cX9_wills 37 = .ok (.getfield 74, 3) ∧ decode cX9_wills 40 = .ok (.iload_n 1, 1) ∧ decode cX9_wills 41 = .ok (.aload_n 0, 1) ∧ decode cX9_wills 42 = .ok (.getfield 29, 3) ∧ decode cX9_wills 45 = .ok (.invokevirtual 219, 3) ∧ decode cX9_wills 48 = .ok (.ifCond .ne 6, 3) := by decide +kernel
theorem dX9_wills_25 : decode cX9_wills 25 = .ok (.iload 4, 2) := dkAa243.1
theorem dX9_wills_27 : decode cX9_wills 27 = .ok (.ifCond .lt 24, 3) := dkAa243.2.1
theorem dX9_wills_30 : decode cX9_wills 30 = .ok (.iload 4, 2) := dkAa243.2.2.1
theorem dX9_wills_32 : decode cX9_wills 32 = .ok (.iconst 1, 1) := dkAa243.2.2.2.1
theorem dX9_wills_33 : decode cX9_wills 33 = .ok (.if_icmp .gt 18, 3) := dkAa243.2.2.2.2.1
theorem dX9_wills_36 : decode cX9_wills 36 = .ok (.aload_n 0, 1) := dkAa243.2.2.2.2.2.1
theorem dX9_wills_37 : decode cX9_wills 37 = .ok (.getfield 74, 3) := dkAa243.2.2.2.2.2.2.1
theorem dX9_wills_40 : decode cX9_wills 40 = .ok (.iload_n 1, 1) := dkAa243.2.2.2.2.2.2.2.1
theorem dX9_wills_41 : decode cX9_wills 41 = .ok (.aload_n 0, 1) := dkAa243.2.2.2.2.2.2.2.2.1
theorem dX9_wills_42 : decode cX9_wills 42 = .ok (.getfield 29, 3) := dkAa243.2.2.2.2.2.2.2.2.2.1
theorem dX9_wills_45 : decode cX9_wills 45 = .ok (.invokevirtual 219, 3) := dkAa243.2.2.2.2.2.2.2.2.2.2.1
theorem dX9_wills_48 : decode cX9_wills 48 = .ok (.ifCond .ne 6, 3) := dkAa243.2.2.2.2.2.2.2.2.2.2.2
set_option maxRecDepth 100000 in
theorem dkAa244 : decode cX9_wills 51 = .ok (.ldc 86, 2) ∧ decode cX9_wills 53 = .ok (.ireturn, 1) ∧ decode cX9_wills 54 = .ok (.aload_n 0, 1) ∧ decode cX9_wills 55 = .ok (.iload_n 2, 1) ∧ decode cX9_wills 56 = .ok (.iload_n 3, 1) ∧ decode cX9_wills 57 = .ok (.invokevirtual 232, 3) ∧ decode cX9_wills 60 = .ok (.istore 5, 2) ∧ decode cX9_wills 62 = .ok (.iload 5, 2) ∧ decode cX9_wills 64 = .ok (.iconst (-1), 1) ∧ decode cX9_wills 65 = .ok (.if_icmp .ne 5, 3) ∧ decode cX9_wills 68 = .ok (.iconst (-1), 1) ∧ decode cX9_wills 69 = .ok (.ireturn, 1) := by decide +kernel
theorem dX9_wills_51 : decode cX9_wills 51 = .ok (.ldc 86, 2) := dkAa244.1
theorem dX9_wills_53 : decode cX9_wills 53 = .ok (.ireturn, 1) := dkAa244.2.1
theorem dX9_wills_54 : decode cX9_wills 54 = .ok (.aload_n 0, 1) := dkAa244.2.2.1
theorem dX9_wills_55 : decode cX9_wills 55 = .ok (.iload_n 2, 1) := dkAa244.2.2.2.1
theorem dX9_wills_56 : decode cX9_wills 56 = .ok (.iload_n 3, 1) := dkAa244.2.2.2.2.1
theorem dX9_wills_57 : decode cX9_wills 57 = .ok (.invokevirtual 232, 3) := dkAa244.2.2.2.2.2.1
theorem dX9_wills_60 : decode cX9_wills 60 = .ok (.istore 5, 2) := dkAa244.2.2.2.2.2.2.1
theorem dX9_wills_62 : decode cX9_wills 62 = .ok (.iload 5, 2) := dkAa244.2.2.2.2.2.2.2.1
theorem dX9_wills_64 : decode cX9_wills 64 = .ok (.iconst (-1), 1) := dkAa244.2.2.2.2.2.2.2.2.1
theorem dX9_wills_65 : decode cX9_wills 65 = .ok (.if_icmp .ne 5, 3) := dkAa244.2.2.2.2.2.2.2.2.2.1
theorem dX9_wills_68 : decode cX9_wills 68 = .ok (.iconst (-1), 1) := dkAa244.2.2.2.2.2.2.2.2.2.2.1
theorem dX9_wills_69 : decode cX9_wills 69 = .ok (.ireturn, 1) := dkAa244.2.2.2.2.2.2.2.2.2.2.2
set_option maxRecDepth 100000 in
theorem dkAa245 : decode cX9_wills 70 = .ok (.iload 4, 2) ∧ decode cX9_wills 72 = .ok (.ifCond .ne 11, 3) ∧ decode cX9_wills 75 = .ok (.iload 5, 2) ∧ decode cX9_wills 77 = .ok (.invokestatic 235, 3) ∧ decode cX9_wills 80 = .ok (.goto 5, 3) ∧ decode cX9_wills 83 = .ok (.iload 5, 2) ∧ decode cX9_wills 85 = .ok (.ireturn, 1) := by decide +kernel
theorem dX9_wills_70 : decode cX9_wills 70 = .ok (.iload 4, 2) := dkAa245.1
theorem dX9_wills_72 : decode cX9_wills 72 = .ok (.ifCond .ne 11, 3) := dkAa245.2.1
theorem dX9_wills_75 : decode cX9_wills 75 = .ok (.iload 5, 2) := dkAa245.2.2.1
theorem dX9_wills_77 : decode cX9_wills 77 = .ok (.invokestatic 235, 3) := dkAa245.2.2.2.1
theorem dX9_wills_80 : decode cX9_wills 80 = .ok (.goto 5, 3) := dkAa245.2.2.2.2.1
theorem dX9_wills_83 : decode cX9_wills 83 = .ok (.iload 5, 2) := dkAa245.2.2.2.2.2.1
theorem dX9_wills_85 : decode cX9_wills 85 = .ok (.ireturn, 1) := dkAa245.2.2.2.2.2.2
set_option maxRecDepth 100000 in
theorem dkAa246 : decode cX9_sing 0 = .ok (.iload_n 1, 1) ∧ decode cX9_sing 1 = .ok (.iconst (-1), 1) ∧ decode cX9_sing 2 = .ok (.if_icmp .eq 17, 3) ∧ decode cX9_sing 5 = .ok (.aload_n 0, 1) ∧ decode cX9_sing 6 = .ok (.getfield 19, 3) ∧ decode cX9_sing 9 = .ok (.iload_n 1, 1) ∧ decode cX9_sing 10 = .ok (.invokevirtual 240, 3) ∧ decode cX9_sing 13 = .ok (.ifCond .ne 6, 3) ∧ decode cX9_sing 16 = .ok (.ldc 150, 2) ∧ decode cX9_sing 18 = .ok (.ireturn, 1) ∧ decode cX9_sing 19 = .ok (.aload_n 0, 1) ∧ decode cX9_sing 20 = .ok (.getfield 81, 3) := by decide +kernel
theorem dX9_sing_0 : decode cX9_sing 0 = .ok (.iload_n 1, 1) := dkAa246.1
theorem dX9_sing_1 : decode cX9_sing 1 = .ok (.iconst (-1), 1) := dkAa246.2.1
theorem dX9_sing_2 : decode cX9_sing 2 = .ok (.if_icmp .eq 17, 3) := dkAa246.2.2.1
theorem dX9_sing_5 : decode cX9_sing 5 = .ok (.aload_n 0, 1) := dkAa246.2.2.2.1
theorem dX9_sing_6 : decode cX9_sing 6 = .ok (.getfield 19, 3) := dkAa246.2.2.2.2.1
theorem dX9_sing_9 : decode cX9_sing 9 = .ok (.iload_n 1, 1) := dkAa246.2.2.2.2.2.1
theorem dX9_sing_10 : decode cX9_sing 10 = .ok (.invokevirtual 240, 3) := dkAa246.2.2.2.2.2.2.1
theorem dX9_sing_13 : decode cX9_sing 13 = .ok (.ifCond .ne 6, 3) := dkAa246.2.2.2.2.2.2.2.1
theorem dX9_sing_16 : decode cX9_sing 16 = .ok (.ldc 150, 2) := dkAa246.2.2.2.2.2.2.2.2.1
theorem dX9_sing_18 : decode cX9_sing 18 = .ok (.ireturn, 1) := dkAa246.2.2.2.2.2.2.2.2.2.1
theorem dX9_sing_19 : decode cX9_sing 19 = .ok (.aload_n 0, 1) := dkAa246.2.2.2.2.2.2.2.2.2.2.1
theorem dX9_sing_20 : decode cX9_sing 20 = .ok (.getfield 81, 3) := dkAa246.2.2.2.2.2.2.2.2.2.2.2
set_option maxRecDepth 100000 in
theorem dkAa247 : decode cX9_sing 23 = .ok (.aload_n 0, 1) ∧ decode cX9_sing 24 = .ok (.getfield 19, 3) ∧ decode cX9_sing 27 = .ok (.aload_n 0, 1) ∧ decode cX9_sing 28 = .ok (.getfield 29, 3) ∧ decode cX9_sing 31 = .ok (.invokevirtual 243, 3) ∧ decode cX9_sing 34 = .ok (.iload_n 1, 1) ∧ decode cX9_sing 35 = .ok (.iconst (-1), 1) ∧ decode cX9_sing 36 = .ok (.if_icmp .ne 13, 3) ∧ decode cX9_sing 39 = .ok (.aload_n 0, 1) ∧ decode cX9_sing 40 = .ok (.getfield 81, 3) ∧ decode cX9_sing 43 = .ok (.invokevirtual 247, 3) ∧ decode cX9_sing 46 = .ok (.goto 11, 3) := by decide +kernel
theorem dX9_sing_23 : decode cX9_sing 23 = .ok (.aload_n 0, 1) := dkAa247.1
theorem dX9_sing_24 : decode cX9_sing 24 = .ok (.getfield 19, 3) := dkAa247.2.1
theorem dX9_sing_27 : decode cX9_sing 27 = .ok (.aload_n 0, 1) := dkAa247.2.2.1
theorem dX9_sing_28 : decode cX9_sing 28 = .ok (.getfield 29, 3) := dkAa247.2.2.2.1
theorem dX9_sing_31 : decode cX9_sing 31 = .ok (.invokevirtual 243, 3) := dkAa247.2.2.2.2.1
theorem dX9_sing_34 : decode cX9_sing 34 = .ok (.iload_n 1, 1) := dkAa247.2.2.2.2.2.1
theorem dX9_sing_35 : decode cX9_sing 35 = .ok (.iconst (-1), 1) := dkAa247.2.2.2.2.2.2.1
theorem dX9_sing_36 : decode cX9_sing 36 = .ok (.if_icmp .ne 13, 3) := dkAa247.2.2.2.2.2.2.2.1
theorem dX9_sing_39 : decode cX9_sing 39 = .ok (.aload_n 0, 1) := dkAa247.2.2.2.2.2.2.2.2.1
theorem dX9_sing_40 : decode cX9_sing 40 = .ok (.getfield 81, 3) := dkAa247.2.2.2.2.2.2.2.2.2.1
theorem dX9_sing_43 : decode cX9_sing 43 = .ok (.invokevirtual 247, 3) := dkAa247.2.2.2.2.2.2.2.2.2.2.1
theorem dX9_sing_46 : decode cX9_sing 46 = .ok (.goto 11, 3) := dkAa247.2.2.2.2.2.2.2.2.2.2.2
set_option maxRecDepth 100000 in
theorem dkAa248 : decode cX9_sing 49 = .ok (.aload_n 0, 1) ∧ decode cX9_sing 50 = .ok (.getfield 81, 3) ∧ decode cX9_sing 53 = .ok (.iload_n 1, 1) ∧ decode cX9_sing 54 = .ok (.invokevirtual 250, 3) ∧ decode cX9_sing 57 = .ok (.ireturn, 1) := by decide +kernel
theorem dX9_sing_49 : decode cX9_sing 49 = .ok (.aload_n 0, 1) := dkAa248.1
theorem dX9_sing_50 : decode cX9_sing 50 = .ok (.getfield 81, 3) := dkAa248.2.1
theorem dX9_sing_53 : decode cX9_sing 53 = .ok (.iload_n 1, 1) := dkAa248.2.2.1
theorem dX9_sing_54 : decode cX9_sing 54 = .ok (.invokevirtual 250, 3) := dkAa248.2.2.2.1
theorem dX9_sing_57 : decode cX9_sing 57 = .ok (.ireturn, 1) := dkAa248.2.2.2.2
set_option maxRecDepth 100000 in
theorem dkAa249 : decode cX9_bid 0 = .ok (.aload_n 0, 1) ∧ decode cX9_bid 1 = .ok (.getfield 19, 3) ∧ decode cX9_bid 4 = .ok (.iload_n 1, 1) ∧ decode cX9_bid 5 = .ok (.invokevirtual 147, 3) ∧ decode cX9_bid 8 = .ok (.ifCond .ne 6, 3) ∧ decode cX9_bid 11 = .ok (.ldc 150, 2) ∧ decode cX9_bid 13 = .ok (.ireturn, 1) ∧ decode cX9_bid 14 = .ok (.iload_n 2, 1) ∧ decode cX9_bid 15 = .ok (.ifCond .lt 9, 3) ∧ decode cX9_bid 18 = .ok (.iload_n 2, 1) ∧ decode cX9_bid 19 = .ok (.bipush 99, 2) ∧ decode cX9_bid 21 = .ok (.if_icmp .le 6, 3) := by decide +kernel
theorem dX9_bid_0 : decode cX9_bid 0 = .ok (.aload_n 0, 1) := dkAa249.1
theorem dX9_bid_1 : decode cX9_bid 1 = .ok (.getfield 19, 3) := dkAa249.2.1
theorem dX9_bid_4 : decode cX9_bid 4 = .ok (.iload_n 1, 1) := dkAa249.2.2.1
theorem dX9_bid_5 : decode cX9_bid 5 = .ok (.invokevirtual 147, 3) := dkAa249.2.2.2.1
theorem dX9_bid_8 : decode cX9_bid 8 = .ok (.ifCond .ne 6, 3) := dkAa249.2.2.2.2.1
theorem dX9_bid_11 : decode cX9_bid 11 = .ok (.ldc 150, 2) := dkAa249.2.2.2.2.2.1
theorem dX9_bid_13 : decode cX9_bid 13 = .ok (.ireturn, 1) := dkAa249.2.2.2.2.2.2.1
theorem dX9_bid_14 : decode cX9_bid 14 = .ok (.iload_n 2, 1) := dkAa249.2.2.2.2.2.2.2.1
theorem dX9_bid_15 : decode cX9_bid 15 = .ok (.ifCond .lt 9, 3) := dkAa249.2.2.2.2.2.2.2.2.1
theorem dX9_bid_18 : decode cX9_bid 18 = .ok (.iload_n 2, 1) := dkAa249.2.2.2.2.2.2.2.2.2.1
theorem dX9_bid_19 : decode cX9_bid 19 = .ok (.bipush 99, 2) := dkAa249.2.2.2.2.2.2.2.2.2.2.1
theorem dX9_bid_21 : decode cX9_bid 21 = .ok (.if_icmp .le 6, 3) := dkAa249.2.2.2.2.2.2.2.2.2.2.2
set_option maxRecDepth 100000 in
theorem dkAa250 : decode cX9_bid 24 = .ok (.ldc 86, 2) ∧ decode cX9_bid 26 = .ok (.ireturn, 1) ∧ decode cX9_bid 27 = .ok (.aload_n 0, 1) ∧ decode cX9_bid 28 = .ok (.getfield 29, 3) ∧ decode cX9_bid 31 = .ok (.iload_n 1, 1) ∧ decode cX9_bid 32 = .ok (.invokevirtual 167, 3) ∧ decode cX9_bid 35 = .ok (.ifCond .ne 6, 3) ∧ decode cX9_bid 38 = .ok (.ldc 179, 2) ∧ decode cX9_bid 40 = .ok (.ireturn, 1) ∧ decode cX9_bid 41 = .ok (.aload_n 0, 1) ∧ decode cX9_bid 42 = .ok (.getfield 29, 3) ∧ decode cX9_bid 45 = .ok (.iload_n 1, 1) := by decide +kernel
theorem dX9_bid_24 : decode cX9_bid 24 = .ok (.ldc 86, 2) := dkAa250.1
theorem dX9_bid_26 : decode cX9_bid 26 = .ok (.ireturn, 1) := dkAa250.2.1
theorem dX9_bid_27 : decode cX9_bid 27 = .ok (.aload_n 0, 1) := dkAa250.2.2.1
theorem dX9_bid_28 : decode cX9_bid 28 = .ok (.getfield 29, 3) := dkAa250.2.2.2.1
theorem dX9_bid_31 : decode cX9_bid 31 = .ok (.iload_n 1, 1) := dkAa250.2.2.2.2.1
theorem dX9_bid_32 : decode cX9_bid 32 = .ok (.invokevirtual 167, 3) := dkAa250.2.2.2.2.2.1
theorem dX9_bid_35 : decode cX9_bid 35 = .ok (.ifCond .ne 6, 3) := dkAa250.2.2.2.2.2.2.1
theorem dX9_bid_38 : decode cX9_bid 38 = .ok (.ldc 179, 2) := dkAa250.2.2.2.2.2.2.2.1
theorem dX9_bid_40 : decode cX9_bid 40 = .ok (.ireturn, 1) := dkAa250.2.2.2.2.2.2.2.2.1
theorem dX9_bid_41 : decode cX9_bid 41 = .ok (.aload_n 0, 1) := dkAa250.2.2.2.2.2.2.2.2.2.1
theorem dX9_bid_42 : decode cX9_bid 42 = .ok (.getfield 29, 3) := dkAa250.2.2.2.2.2.2.2.2.2.2.1
theorem dX9_bid_45 : decode cX9_bid 45 = .ok (.iload_n 1, 1) := dkAa250.2.2.2.2.2.2.2.2.2.2.2
set_option maxRecDepth 100000 in
theorem dkAa251 : decode cX9_bid 46 = .ok (.invokevirtual 151, 3) ∧ decode cX9_bid 49 = .ok (.istore_n 3, 1) ∧ decode cX9_bid 50 = .ok (.iload_n 3, 1) ∧ decode cX9_bid 51 = .ok (.bipush 9, 2) ∧ decode cX9_bid 53 = .ok (.if_icmp .ne 5, 3) ∧ decode cX9_bid 56 = .ok (.iconst 0, 1) ∧ decode cX9_bid 57 = .ok (.ireturn, 1) ∧ decode cX9_bid 58 = .ok (.aload_n 0, 1) ∧ decode cX9_bid 59 = .ok (.getfield 19, 3) ∧ decode cX9_bid 62 = .ok (.iload_n 3, 1) ∧ decode cX9_bid 63 = .ok (.invokevirtual 170, 3) ∧ decode cX9_bid 66 = .ok (.iconst 1, 1) := by decide +kernel
theorem dX9_bid_46 : decode cX9_bid 46 = .ok (.invokevirtual 151, 3) := dkAa251.1
theorem dX9_bid_49 : decode cX9_bid 49 = .ok (.istore_n 3, 1) := dkAa251.2.1
theorem dX9_bid_50 : decode cX9_bid 50 = .ok (.iload_n 3, 1) := dkAa251.2.2.1
theorem dX9_bid_51 : decode cX9_bid 51 = .ok (.bipush 9, 2) := dkAa251.2.2.2.1
theorem dX9_bid_53 : decode cX9_bid 53 = .ok (.if_icmp .ne 5, 3) := dkAa251.2.2.2.2.1
theorem dX9_bid_56 : decode cX9_bid 56 = .ok (.iconst 0, 1) := dkAa251.2.2.2.2.2.1
theorem dX9_bid_57 : decode cX9_bid 57 = .ok (.ireturn, 1) := dkAa251.2.2.2.2.2.2.1
theorem dX9_bid_58 : decode cX9_bid 58 = .ok (.aload_n 0, 1) := dkAa251.2.2.2.2.2.2.2.1
theorem dX9_bid_59 : decode cX9_bid 59 = .ok (.getfield 19, 3) := dkAa251.2.2.2.2.2.2.2.2.1
theorem dX9_bid_62 : decode cX9_bid 62 = .ok (.iload_n 3, 1) := dkAa251.2.2.2.2.2.2.2.2.2.1
theorem dX9_bid_63 : decode cX9_bid 63 = .ok (.invokevirtual 170, 3) := dkAa251.2.2.2.2.2.2.2.2.2.2.1
theorem dX9_bid_66 : decode cX9_bid 66 = .ok (.iconst 1, 1) := dkAa251.2.2.2.2.2.2.2.2.2.2.2
set_option maxRecDepth 100000 in
theorem dkAa252 : decode cX9_bid 67 = .ok (.iadd, 1) ∧ decode cX9_bid 68 = .ok (.aload_n 0, 1) ∧ decode cX9_bid 69 = .ok (.getfield 19, 3) ∧ decode cX9_bid 72 = .ok (.iload_n 3, 1) ∧ decode cX9_bid 73 = .ok (.invokevirtual 164, 3) ∧ decode cX9_bid 76 = .ok (.invokestatic 235, 3) ∧ decode cX9_bid 79 = .ok (.imul, 1) ∧ decode cX9_bid 80 = .ok (.iload_n 2, 1) ∧ decode cX9_bid 81 = .ok (.imul, 1) ∧ decode cX9_bid 82 = .ok (.ireturn, 1) := by decide +kernel
theorem dX9_bid_67 : decode cX9_bid 67 = .ok (.iadd, 1) := dkAa252.1
theorem dX9_bid_68 : decode cX9_bid 68 = .ok (.aload_n 0, 1) := dkAa252.2.1
theorem dX9_bid_69 : decode cX9_bid 69 = .ok (.getfield 19, 3) := dkAa252.2.2.1
theorem dX9_bid_72 : decode cX9_bid 72 = .ok (.iload_n 3, 1) := dkAa252.2.2.2.1
theorem dX9_bid_73 : decode cX9_bid 73 = .ok (.invokevirtual 164, 3) := dkAa252.2.2.2.2.1
theorem dX9_bid_76 : decode cX9_bid 76 = .ok (.invokestatic 235, 3) := dkAa252.2.2.2.2.2.1
theorem dX9_bid_79 : decode cX9_bid 79 = .ok (.imul, 1) := dkAa252.2.2.2.2.2.2.1
theorem dX9_bid_80 : decode cX9_bid 80 = .ok (.iload_n 2, 1) := dkAa252.2.2.2.2.2.2.2.1
theorem dX9_bid_81 : decode cX9_bid 81 = .ok (.imul, 1) := dkAa252.2.2.2.2.2.2.2.2.1
theorem dX9_bid_82 : decode cX9_bid 82 = .ok (.ireturn, 1) := dkAa252.2.2.2.2.2.2.2.2.2
set_option maxRecDepth 100000 in
theorem dkAa253 : decode cX9_live 0 = .ok (.aload_n 0, 1) ∧ decode cX9_live 1 = .ok (.getfield 19, 3) ∧ decode cX9_live 4 = .ok (.iload_n 1, 1) ∧ decode cX9_live 5 = .ok (.invokevirtual 253, 3) ∧ decode cX9_live 8 = .ok (.ifCond .ne 6, 3) ∧ decode cX9_live 11 = .ok (.ldc 150, 2) ∧ decode cX9_live 13 = .ok (.ireturn, 1) ∧ decode cX9_live 14 = .ok (.iload_n 2, 1) ∧ decode cX9_live 15 = .ok (.ifCond .lt 19, 3) ∧ decode cX9_live 18 = .ok (.iload_n 2, 1) ∧ decode cX9_live 19 = .ok (.bipush 60, 2) ∧ decode cX9_live 21 = .ok (.if_icmp .gt 13, 3) := by decide +kernel
theorem dX9_live_0 : decode cX9_live 0 = .ok (.aload_n 0, 1) := dkAa253.1
theorem dX9_live_1 : decode cX9_live 1 = .ok (.getfield 19, 3) := dkAa253.2.1
theorem dX9_live_4 : decode cX9_live 4 = .ok (.iload_n 1, 1) := dkAa253.2.2.1
theorem dX9_live_5 : decode cX9_live 5 = .ok (.invokevirtual 253, 3) := dkAa253.2.2.2.1
theorem dX9_live_8 : decode cX9_live 8 = .ok (.ifCond .ne 6, 3) := dkAa253.2.2.2.2.1
theorem dX9_live_11 : decode cX9_live 11 = .ok (.ldc 150, 2) := dkAa253.2.2.2.2.2.1
theorem dX9_live_13 : decode cX9_live 13 = .ok (.ireturn, 1) := dkAa253.2.2.2.2.2.2.1
theorem dX9_live_14 : decode cX9_live 14 = .ok (.iload_n 2, 1) := dkAa253.2.2.2.2.2.2.2.1
theorem dX9_live_15 : decode cX9_live 15 = .ok (.ifCond .lt 19, 3) := dkAa253.2.2.2.2.2.2.2.2.1
theorem dX9_live_18 : decode cX9_live 18 = .ok (.iload_n 2, 1) := dkAa253.2.2.2.2.2.2.2.2.2.1
theorem dX9_live_19 : decode cX9_live 19 = .ok (.bipush 60, 2) := dkAa253.2.2.2.2.2.2.2.2.2.2.1
theorem dX9_live_21 : decode cX9_live 21 = .ok (.if_icmp .gt 13, 3) := dkAa253.2.2.2.2.2.2.2.2.2.2.2
set_option maxRecDepth 100000 in
theorem dkAa254 : decode cX9_live 24 = .ok (.iload_n 3, 1) ∧ decode cX9_live 25 = .ok (.ifCond .lt 9, 3) ∧ decode cX9_live 28 = .ok (.iload_n 3, 1) ∧ decode cX9_live 29 = .ok (.bipush 100, 2) ∧ decode cX9_live 31 = .ok (.if_icmp .le 6, 3) ∧ decode cX9_live 34 = .ok (.ldc 86, 2) ∧ decode cX9_live 36 = .ok (.ireturn, 1) ∧ decode cX9_live 37 = .ok (.aload_n 0, 1) ∧ decode cX9_live 38 = .ok (.getfield 29, 3) ∧ decode cX9_live 41 = .ok (.iload_n 1, 1) ∧ decode cX9_live 42 = .ok (.invokevirtual 256, 3) ∧ decode cX9_live 45 = .ok (.ifCond .ne 6, 3) := by decide +kernel
theorem dX9_live_24 : decode cX9_live 24 = .ok (.iload_n 3, 1) := dkAa254.1
theorem dX9_live_25 : decode cX9_live 25 = .ok (.ifCond .lt 9, 3) := dkAa254.2.1
theorem dX9_live_28 : decode cX9_live 28 = .ok (.iload_n 3, 1) := dkAa254.2.2.1
theorem dX9_live_29 : decode cX9_live 29 = .ok (.bipush 100, 2) := dkAa254.2.2.2.1
theorem dX9_live_31 : decode cX9_live 31 = .ok (.if_icmp .le 6, 3) := dkAa254.2.2.2.2.1
theorem dX9_live_34 : decode cX9_live 34 = .ok (.ldc 86, 2) := dkAa254.2.2.2.2.2.1
theorem dX9_live_36 : decode cX9_live 36 = .ok (.ireturn, 1) := dkAa254.2.2.2.2.2.2.1
theorem dX9_live_37 : decode cX9_live 37 = .ok (.aload_n 0, 1) := dkAa254.2.2.2.2.2.2.2.1
theorem dX9_live_38 : decode cX9_live 38 = .ok (.getfield 29, 3) := dkAa254.2.2.2.2.2.2.2.2.1
theorem dX9_live_41 : decode cX9_live 41 = .ok (.iload_n 1, 1) := dkAa254.2.2.2.2.2.2.2.2.2.1
theorem dX9_live_42 : decode cX9_live 42 = .ok (.invokevirtual 256, 3) := dkAa254.2.2.2.2.2.2.2.2.2.2.1
theorem dX9_live_45 : decode cX9_live 45 = .ok (.ifCond .ne 6, 3) := dkAa254.2.2.2.2.2.2.2.2.2.2.2
set_option maxRecDepth 100000 in
theorem dkAa255 : decode cX9_live 48 = .ok (.ldc 179, 2) ∧ decode cX9_live 50 = .ok (.ireturn, 1) ∧ decode cX9_live 51 = .ok (.iload_n 1, 1) ∧ decode cX9_live 52 = .ok (.invokestatic 235, 3) ∧ decode cX9_live 55 = .ok (.iload_n 2, 1) ∧ decode cX9_live 56 = .ok (.imul, 1) ∧ decode cX9_live 57 = .ok (.istore 4, 2) ∧ decode cX9_live 59 = .ok (.ldc2_w 259, 3) ∧ decode cX9_live 62 = .ok (.lstore 5, 2) ∧ decode cX9_live 64 = .ok (.iconst 0, 1) ∧ decode cX9_live 65 = .ok (.istore 7, 2) ∧ decode cX9_live 67 = .ok (.iload 7, 2) := by decide +kernel
theorem dX9_live_48 : decode cX9_live 48 = .ok (.ldc 179, 2) := dkAa255.1
theorem dX9_live_50 : decode cX9_live 50 = .ok (.ireturn, 1) := dkAa255.2.1
theorem dX9_live_51 : decode cX9_live 51 = .ok (.iload_n 1, 1) := dkAa255.2.2.1
theorem dX9_live_52 : decode cX9_live 52 = .ok (.invokestatic 235, 3) := dkAa255.2.2.2.1
theorem dX9_live_55 : decode cX9_live 55 = .ok (.iload_n 2, 1) := dkAa255.2.2.2.2.1
theorem dX9_live_56 : decode cX9_live 56 = .ok (.imul, 1) := dkAa255.2.2.2.2.2.1
theorem dX9_live_57 : decode cX9_live 57 = .ok (.istore 4, 2) := dkAa255.2.2.2.2.2.2.1
theorem dX9_live_59 : decode cX9_live 59 = .ok (.ldc2_w 259, 3) := dkAa255.2.2.2.2.2.2.2.1
theorem dX9_live_62 : decode cX9_live 62 = .ok (.lstore 5, 2) := dkAa255.2.2.2.2.2.2.2.2.1
theorem dX9_live_64 : decode cX9_live 64 = .ok (.iconst 0, 1) := dkAa255.2.2.2.2.2.2.2.2.2.1
theorem dX9_live_65 : decode cX9_live 65 = .ok (.istore 7, 2) := dkAa255.2.2.2.2.2.2.2.2.2.2.1
theorem dX9_live_67 : decode cX9_live 67 = .ok (.iload 7, 2) := dkAa255.2.2.2.2.2.2.2.2.2.2.2
set_option maxRecDepth 100000 in
theorem dkAa256 : decode cX9_live 69 = .ok (.iload 4, 2) ∧ decode cX9_live 71 = .ok (.if_icmp .ge 23, 3) ∧ decode cX9_live 74 = .ok (.lload 5, 2) ∧ decode cX9_live 76 = .ok (.bipush 100, 2) ∧ decode cX9_live 78 = .ok (.iload_n 3, 1) ∧ decode cX9_live 79 = .ok (.isub, 1) ∧ decode cX9_live 80 = .ok (.i2l, 1) ∧ decode cX9_live 81 = .ok (.lmul, 1) ∧ decode cX9_live 82 = .ok (.ldc2_w 261, 3) ∧ decode cX9_live 85 = .ok (.ldiv, 1) ∧ decode cX9_live 86 = .ok (.lstore 5, 2) ∧ decode cX9_live 88 = .ok (.iinc 7 1, 3) := by decide +kernel
theorem dX9_live_69 : decode cX9_live 69 = .ok (.iload 4, 2) := dkAa256.1
theorem dX9_live_71 : decode cX9_live 71 = .ok (.if_icmp .ge 23, 3) := dkAa256.2.1
theorem dX9_live_74 : decode cX9_live 74 = .ok (.lload 5, 2) := dkAa256.2.2.1
theorem dX9_live_76 : decode cX9_live 76 = .ok (.bipush 100, 2) := dkAa256.2.2.2.1
theorem dX9_live_78 : decode cX9_live 78 = .ok (.iload_n 3, 1) := dkAa256.2.2.2.2.1
theorem dX9_live_79 : decode cX9_live 79 = .ok (.isub, 1) := dkAa256.2.2.2.2.2.1
theorem dX9_live_80 : decode cX9_live 80 = .ok (.i2l, 1) := dkAa256.2.2.2.2.2.2.1
theorem dX9_live_81 : decode cX9_live 81 = .ok (.lmul, 1) := dkAa256.2.2.2.2.2.2.2.1
theorem dX9_live_82 : decode cX9_live 82 = .ok (.ldc2_w 261, 3) := dkAa256.2.2.2.2.2.2.2.2.1
theorem dX9_live_85 : decode cX9_live 85 = .ok (.ldiv, 1) := dkAa256.2.2.2.2.2.2.2.2.2.1
theorem dX9_live_86 : decode cX9_live 86 = .ok (.lstore 5, 2) := dkAa256.2.2.2.2.2.2.2.2.2.2.1
theorem dX9_live_88 : decode cX9_live 88 = .ok (.iinc 7 1, 3) := dkAa256.2.2.2.2.2.2.2.2.2.2.2
set_option maxRecDepth 100000 in
theorem dkAa257 : decode cX9_live 91 = .ok (.goto (-24), 3) ∧ decode cX9_live 94 = .ok (.lload 5, 2) ∧ decode cX9_live 96 = .ok (.l2i, 1) ∧ decode cX9_live 97 = .ok (.ireturn, 1) := by decide +kernel
theorem dX9_live_91 : decode cX9_live 91 = .ok (.goto (-24), 3) := dkAa257.1
theorem dX9_live_94 : decode cX9_live 94 = .ok (.lload 5, 2) := dkAa257.2.1
theorem dX9_live_96 : decode cX9_live 96 = .ok (.l2i, 1) := dkAa257.2.2.1
theorem dX9_live_97 : decode cX9_live 97 = .ok (.ireturn, 1) := dkAa257.2.2.2
set_option maxRecDepth 100000 in
theorem dkAa258 : decode cX9_see 0 = .ok (.aload_n 0, 1) ∧ decode cX9_see 1 = .ok (.getfield 19, 3) ∧ decode cX9_see 4 = .ok (.iload_n 1, 1) ∧ decode cX9_see 5 = .ok (.invokevirtual 173, 3) ∧ decode cX9_see 8 = .ok (.ifCond .ne 6, 3) ∧ decode cX9_see 11 = .ok (.ldc 150, 2) ∧ decode cX9_see 13 = .ok (.ireturn, 1) ∧ decode cX9_see 14 = .ok (.aload_n 0, 1) ∧ decode cX9_see 15 = .ok (.getfield 61, 3) ∧ decode cX9_see 18 = .ok (.iload_n 1, 1) ∧ decode cX9_see 19 = .ok (.iload_n 2, 1) ∧ decode cX9_see 20 = .ok (.ifCond .eq 7, 3) := by decide +kernel
theorem dX9_see_0 : decode cX9_see 0 = .ok (.aload_n 0, 1) := dkAa258.1
theorem dX9_see_1 : decode cX9_see 1 = .ok (.getfield 19, 3) := dkAa258.2.1
theorem dX9_see_4 : decode cX9_see 4 = .ok (.iload_n 1, 1) := dkAa258.2.2.1
theorem dX9_see_5 : decode cX9_see 5 = .ok (.invokevirtual 173, 3) := dkAa258.2.2.2.1
theorem dX9_see_8 : decode cX9_see 8 = .ok (.ifCond .ne 6, 3) := dkAa258.2.2.2.2.1
theorem dX9_see_11 : decode cX9_see 11 = .ok (.ldc 150, 2) := dkAa258.2.2.2.2.2.1
theorem dX9_see_13 : decode cX9_see 13 = .ok (.ireturn, 1) := dkAa258.2.2.2.2.2.2.1
theorem dX9_see_14 : decode cX9_see 14 = .ok (.aload_n 0, 1) := dkAa258.2.2.2.2.2.2.2.1
theorem dX9_see_15 : decode cX9_see 15 = .ok (.getfield 61, 3) := dkAa258.2.2.2.2.2.2.2.2.1
theorem dX9_see_18 : decode cX9_see 18 = .ok (.iload_n 1, 1) := dkAa258.2.2.2.2.2.2.2.2.2.1
theorem dX9_see_19 : decode cX9_see 19 = .ok (.iload_n 2, 1) := dkAa258.2.2.2.2.2.2.2.2.2.2.1
theorem dX9_see_20 : decode cX9_see 20 = .ok (.ifCond .eq 7, 3) := dkAa258.2.2.2.2.2.2.2.2.2.2.2
set_option maxRecDepth 100000 in
theorem dkAa259 : decode cX9_see 23 = .ok (.iconst 1, 1) ∧ decode cX9_see 24 = .ok (.goto 4, 3) ∧ decode cX9_see 27 = .ok (.iconst 0, 1) ∧ decode cX9_see 28 = .ok (.invokevirtual 263, 3) ∧ decode cX9_see 31 = .ok (.ifCond .eq 13, 3) ∧ decode cX9_see 34 = .ok (.aload_n 0, 1) ∧ decode cX9_see 35 = .ok (.getfield 61, 3) ∧ decode cX9_see 38 = .ok (.getfield 145, 3) ∧ decode cX9_see 41 = .ok (.goto 5, 3) ∧ decode cX9_see 44 = .ok (.ldc 95, 2) ∧ decode cX9_see 46 = .ok (.ireturn, 1) := by decide +kernel
theorem dX9_see_23 : decode cX9_see 23 = .ok (.iconst 1, 1) := dkAa259.1
theorem dX9_see_24 : decode cX9_see 24 = .ok (.goto 4, 3) := dkAa259.2.1
theorem dX9_see_27 : decode cX9_see 27 = .ok (.iconst 0, 1) := dkAa259.2.2.1
theorem dX9_see_28 : decode cX9_see 28 = .ok (.invokevirtual 263, 3) := dkAa259.2.2.2.1
theorem dX9_see_31 : decode cX9_see 31 = .ok (.ifCond .eq 13, 3) := dkAa259.2.2.2.2.1
theorem dX9_see_34 : decode cX9_see 34 = .ok (.aload_n 0, 1) := dkAa259.2.2.2.2.2.1
theorem dX9_see_35 : decode cX9_see 35 = .ok (.getfield 61, 3) := dkAa259.2.2.2.2.2.2.1
theorem dX9_see_38 : decode cX9_see 38 = .ok (.getfield 145, 3) := dkAa259.2.2.2.2.2.2.2.1
theorem dX9_see_41 : decode cX9_see 41 = .ok (.goto 5, 3) := dkAa259.2.2.2.2.2.2.2.2.1
theorem dX9_see_44 : decode cX9_see 44 = .ok (.ldc 95, 2) := dkAa259.2.2.2.2.2.2.2.2.2.1
theorem dX9_see_46 : decode cX9_see 46 = .ok (.ireturn, 1) := dkAa259.2.2.2.2.2.2.2.2.2.2
set_option maxRecDepth 100000 in
theorem dkAa260 : decode cX9_spoke 0 = .ok (.iload_n 1, 1) ∧ decode cX9_spoke 1 = .ok (.lookupswitch 44 #[(0, 27), (1, 32)], 27) ∧ decode cX9_spoke 28 = .ok (.aload_n 0, 1) ∧ decode cX9_spoke 29 = .ok (.invokevirtual 265, 3) ∧ decode cX9_spoke 32 = .ok (.ireturn, 1) ∧ decode cX9_spoke 33 = .ok (.aload_n 0, 1) ∧ decode cX9_spoke 34 = .ok (.getfield 29, 3) ∧ decode cX9_spoke 37 = .ok (.aload_n 0, 1) ∧ decode cX9_spoke 38 = .ok (.invokevirtual 265, 3) ∧ decode cX9_spoke 41 = .ok (.invokevirtual 268, 3) ∧ decode cX9_spoke 44 = .ok (.ireturn, 1) ∧ decode cX9_spoke 45 = .ok (.ldc 86, 2) := by decide +kernel
theorem dX9_spoke_0 : decode cX9_spoke 0 = .ok (.iload_n 1, 1) := dkAa260.1
theorem dX9_spoke_1 : decode cX9_spoke 1 = .ok (.lookupswitch 44 #[(0, 27), (1, 32)], 27) := dkAa260.2.1
theorem dX9_spoke_28 : decode cX9_spoke 28 = .ok (.aload_n 0, 1) := dkAa260.2.2.1
theorem dX9_spoke_29 : decode cX9_spoke 29 = .ok (.invokevirtual 265, 3) := dkAa260.2.2.2.1
theorem dX9_spoke_32 : decode cX9_spoke 32 = .ok (.ireturn, 1) := dkAa260.2.2.2.2.1
theorem dX9_spoke_33 : decode cX9_spoke 33 = .ok (.aload_n 0, 1) := dkAa260.2.2.2.2.2.1
theorem dX9_spoke_34 : decode cX9_spoke 34 = .ok (.getfield 29, 3) := dkAa260.2.2.2.2.2.2.1
theorem dX9_spoke_37 : decode cX9_spoke 37 = .ok (.aload_n 0, 1) := dkAa260.2.2.2.2.2.2.2.1
theorem dX9_spoke_38 : decode cX9_spoke 38 = .ok (.invokevirtual 265, 3) := dkAa260.2.2.2.2.2.2.2.2.1
theorem dX9_spoke_41 : decode cX9_spoke 41 = .ok (.invokevirtual 268, 3) := dkAa260.2.2.2.2.2.2.2.2.2.1
theorem dX9_spoke_44 : decode cX9_spoke 44 = .ok (.ireturn, 1) := dkAa260.2.2.2.2.2.2.2.2.2.2.1
theorem dX9_spoke_45 : decode cX9_spoke 45 = .ok (.ldc 86, 2) := dkAa260.2.2.2.2.2.2.2.2.2.2.2
theorem dX9_spoke_47 : decode cX9_spoke 47 = .ok (.ireturn, 1) := by decide +kernel
set_option maxRecDepth 100000 in
theorem dkAa261 : decode cX9_knock 0 = .ok (.aload_n 0, 1) ∧ decode cX9_knock 1 = .ok (.invokevirtual 265, 3) ∧ decode cX9_knock 4 = .ok (.istore_n 1, 1) ∧ decode cX9_knock 5 = .ok (.iconst (-1), 1) ∧ decode cX9_knock 6 = .ok (.istore_n 2, 1) ∧ decode cX9_knock 7 = .ok (.iload_n 1, 1) ∧ decode cX9_knock 8 = .ok (.invokestatic 235, 3) ∧ decode cX9_knock 11 = .ok (.istore_n 3, 1) ∧ decode cX9_knock 12 = .ok (.iconst 0, 1) ∧ decode cX9_knock 13 = .ok (.istore 4, 2) ∧ decode cX9_knock 15 = .ok (.iload 4, 2) ∧ decode cX9_knock 17 = .ok (.aload_n 0, 1) := by decide +kernel
theorem dX9_knock_0 : decode cX9_knock 0 = .ok (.aload_n 0, 1) := dkAa261.1
theorem dX9_knock_1 : decode cX9_knock 1 = .ok (.invokevirtual 265, 3) := dkAa261.2.1
theorem dX9_knock_4 : decode cX9_knock 4 = .ok (.istore_n 1, 1) := dkAa261.2.2.1
theorem dX9_knock_5 : decode cX9_knock 5 = .ok (.iconst (-1), 1) := dkAa261.2.2.2.1
theorem dX9_knock_6 : decode cX9_knock 6 = .ok (.istore_n 2, 1) := dkAa261.2.2.2.2.1
theorem dX9_knock_7 : decode cX9_knock 7 = .ok (.iload_n 1, 1) := dkAa261.2.2.2.2.2.1
theorem dX9_knock_8 : decode cX9_knock 8 = .ok (.invokestatic 235, 3) := dkAa261.2.2.2.2.2.2.1
theorem dX9_knock_11 : decode cX9_knock 11 = .ok (.istore_n 3, 1) := dkAa261.2.2.2.2.2.2.2.1
theorem dX9_knock_12 : decode cX9_knock 12 = .ok (.iconst 0, 1) := dkAa261.2.2.2.2.2.2.2.2.1
theorem dX9_knock_13 : decode cX9_knock 13 = .ok (.istore 4, 2) := dkAa261.2.2.2.2.2.2.2.2.2.1
theorem dX9_knock_15 : decode cX9_knock 15 = .ok (.iload 4, 2) := dkAa261.2.2.2.2.2.2.2.2.2.2.1
theorem dX9_knock_17 : decode cX9_knock 17 = .ok (.aload_n 0, 1) := dkAa261.2.2.2.2.2.2.2.2.2.2.2
set_option maxRecDepth 100000 in
theorem dkAa262 : decode cX9_knock 18 = .ok (.getfield 19, 3) ∧ decode cX9_knock 21 = .ok (.getfield 123, 3) ∧ decode cX9_knock 24 = .ok (.if_icmp .ge 51, 3) ∧ decode cX9_knock 27 = .ok (.iload_n 1, 1) ∧ decode cX9_knock 28 = .ok (.aload_n 0, 1) ∧ decode cX9_knock 29 = .ok (.getfield 19, 3) ∧ decode cX9_knock 32 = .ok (.iload 4, 2) ∧ decode cX9_knock 34 = .ok (.invokevirtual 176, 3) ∧ decode cX9_knock 37 = .ok (.iand, 1) ∧ decode cX9_knock 38 = .ok (.invokestatic 235, 3) ∧ decode cX9_knock 41 = .ok (.istore 5, 2) ∧ decode cX9_knock 43 = .ok (.iload 5, 2) := by decide +kernel
theorem dX9_knock_18 : decode cX9_knock 18 = .ok (.getfield 19, 3) := dkAa262.1
theorem dX9_knock_21 : decode cX9_knock 21 = .ok (.getfield 123, 3) := dkAa262.2.1
theorem dX9_knock_24 : decode cX9_knock 24 = .ok (.if_icmp .ge 51, 3) := dkAa262.2.2.1
theorem dX9_knock_27 : decode cX9_knock 27 = .ok (.iload_n 1, 1) := dkAa262.2.2.2.1
theorem dX9_knock_28 : decode cX9_knock 28 = .ok (.aload_n 0, 1) := dkAa262.2.2.2.2.1
theorem dX9_knock_29 : decode cX9_knock 29 = .ok (.getfield 19, 3) := dkAa262.2.2.2.2.2.1
theorem dX9_knock_32 : decode cX9_knock 32 = .ok (.iload 4, 2) := dkAa262.2.2.2.2.2.2.1
theorem dX9_knock_34 : decode cX9_knock 34 = .ok (.invokevirtual 176, 3) := dkAa262.2.2.2.2.2.2.2.1
theorem dX9_knock_37 : decode cX9_knock 37 = .ok (.iand, 1) := dkAa262.2.2.2.2.2.2.2.2.1
theorem dX9_knock_38 : decode cX9_knock 38 = .ok (.invokestatic 235, 3) := dkAa262.2.2.2.2.2.2.2.2.2.1
theorem dX9_knock_41 : decode cX9_knock 41 = .ok (.istore 5, 2) := dkAa262.2.2.2.2.2.2.2.2.2.2.1
theorem dX9_knock_43 : decode cX9_knock 43 = .ok (.iload 5, 2) := dkAa262.2.2.2.2.2.2.2.2.2.2.2
set_option maxRecDepth 100000 in
theorem dkAa263 : decode cX9_knock 45 = .ok (.iload_n 1, 1) ∧ decode cX9_knock 46 = .ok (.invokestatic 235, 3) ∧ decode cX9_knock 49 = .ok (.iload 5, 2) ∧ decode cX9_knock 51 = .ok (.isub, 1) ∧ decode cX9_knock 52 = .ok (.invokestatic 271, 3) ∧ decode cX9_knock 55 = .ok (.istore 6, 2) ∧ decode cX9_knock 57 = .ok (.iload 6, 2) ∧ decode cX9_knock 59 = .ok (.iload_n 3, 1) ∧ decode cX9_knock 60 = .ok (.if_icmp .ge 9, 3) ∧ decode cX9_knock 63 = .ok (.iload 4, 2) ∧ decode cX9_knock 65 = .ok (.istore_n 2, 1) ∧ decode cX9_knock 66 = .ok (.iload 6, 2) := by decide +kernel
theorem dX9_knock_45 : decode cX9_knock 45 = .ok (.iload_n 1, 1) := dkAa263.1
theorem dX9_knock_46 : decode cX9_knock 46 = .ok (.invokestatic 235, 3) := dkAa263.2.1
theorem dX9_knock_49 : decode cX9_knock 49 = .ok (.iload 5, 2) := dkAa263.2.2.1
theorem dX9_knock_51 : decode cX9_knock 51 = .ok (.isub, 1) := dkAa263.2.2.2.1
theorem dX9_knock_52 : decode cX9_knock 52 = .ok (.invokestatic 271, 3) := dkAa263.2.2.2.2.1
theorem dX9_knock_55 : decode cX9_knock 55 = .ok (.istore 6, 2) := dkAa263.2.2.2.2.2.1
theorem dX9_knock_57 : decode cX9_knock 57 = .ok (.iload 6, 2) := dkAa263.2.2.2.2.2.2.1
theorem dX9_knock_59 : decode cX9_knock 59 = .ok (.iload_n 3, 1) := dkAa263.2.2.2.2.2.2.2.1
theorem dX9_knock_60 : decode cX9_knock 60 = .ok (.if_icmp .ge 9, 3) := dkAa263.2.2.2.2.2.2.2.2.1
theorem dX9_knock_63 : decode cX9_knock 63 = .ok (.iload 4, 2) := dkAa263.2.2.2.2.2.2.2.2.2.1
theorem dX9_knock_65 : decode cX9_knock 65 = .ok (.istore_n 2, 1) := dkAa263.2.2.2.2.2.2.2.2.2.2.1
theorem dX9_knock_66 : decode cX9_knock 66 = .ok (.iload 6, 2) := dkAa263.2.2.2.2.2.2.2.2.2.2.2
set_option maxRecDepth 100000 in
theorem dkAa264 : decode cX9_knock 68 = .ok (.istore_n 3, 1) ∧ decode cX9_knock 69 = .ok (.iinc 4 1, 3) ∧ decode cX9_knock 72 = .ok (.goto (-57), 3) ∧ decode cX9_knock 75 = .ok (.iload_n 2, 1) ∧ decode cX9_knock 76 = .ok (.ireturn, 1) := by decide +kernel
theorem dX9_knock_68 : decode cX9_knock 68 = .ok (.istore_n 3, 1) := dkAa264.1
theorem dX9_knock_69 : decode cX9_knock 69 = .ok (.iinc 4 1, 3) := dkAa264.2.1
theorem dX9_knock_72 : decode cX9_knock 72 = .ok (.goto (-57), 3) := dkAa264.2.2.1
theorem dX9_knock_75 : decode cX9_knock 75 = .ok (.iload_n 2, 1) := dkAa264.2.2.2.1
theorem dX9_knock_76 : decode cX9_knock 76 = .ok (.ireturn, 1) := dkAa264.2.2.2.2
set_option maxRecDepth 100000 in
theorem dkAa265 : decode cX9_has 0 = .ok (.aload_n 0, 1) ∧ decode cX9_has 1 = .ok (.getfield 19, 3) ∧ decode cX9_has 4 = .ok (.iload_n 1, 1) ∧ decode cX9_has 5 = .ok (.invokevirtual 147, 3) ∧ decode cX9_has 8 = .ok (.ifCond .eq 10, 3) ∧ decode cX9_has 11 = .ok (.iload_n 2, 1) ∧ decode cX9_has 12 = .ok (.invokestatic 276, 3) ∧ decode cX9_has 15 = .ok (.ifCond .ne 6, 3) ∧ decode cX9_has 18 = .ok (.ldc 150, 2) ∧ decode cX9_has 20 = .ok (.ireturn, 1) ∧ decode cX9_has 21 = .ok (.aload_n 0, 1) ∧ decode cX9_has 22 = .ok (.getfield 65, 3) := by decide +kernel
theorem dX9_has_0 : decode cX9_has 0 = .ok (.aload_n 0, 1) := dkAa265.1
theorem dX9_has_1 : decode cX9_has 1 = .ok (.getfield 19, 3) := dkAa265.2.1
theorem dX9_has_4 : decode cX9_has 4 = .ok (.iload_n 1, 1) := dkAa265.2.2.1
theorem dX9_has_5 : decode cX9_has 5 = .ok (.invokevirtual 147, 3) := dkAa265.2.2.2.1
theorem dX9_has_8 : decode cX9_has 8 = .ok (.ifCond .eq 10, 3) := dkAa265.2.2.2.2.1
theorem dX9_has_11 : decode cX9_has 11 = .ok (.iload_n 2, 1) := dkAa265.2.2.2.2.2.1
theorem dX9_has_12 : decode cX9_has 12 = .ok (.invokestatic 276, 3) := dkAa265.2.2.2.2.2.2.1
theorem dX9_has_15 : decode cX9_has 15 = .ok (.ifCond .ne 6, 3) := dkAa265.2.2.2.2.2.2.2.1
theorem dX9_has_18 : decode cX9_has 18 = .ok (.ldc 150, 2) := dkAa265.2.2.2.2.2.2.2.2.1
theorem dX9_has_20 : decode cX9_has 20 = .ok (.ireturn, 1) := dkAa265.2.2.2.2.2.2.2.2.2.1
theorem dX9_has_21 : decode cX9_has 21 = .ok (.aload_n 0, 1) := dkAa265.2.2.2.2.2.2.2.2.2.2.1
theorem dX9_has_22 : decode cX9_has 22 = .ok (.getfield 65, 3) := dkAa265.2.2.2.2.2.2.2.2.2.2.2
set_option maxRecDepth 100000 in
theorem dkAa266 : decode cX9_has 25 = .ok (.iload_n 1, 1) ∧ decode cX9_has 26 = .ok (.iload_n 2, 1) ∧ decode cX9_has 27 = .ok (.invokevirtual 263, 3) ∧ decode cX9_has 30 = .ok (.ifCond .eq 13, 3) ∧ decode cX9_has 33 = .ok (.aload_n 0, 1) ∧ decode cX9_has 34 = .ok (.getfield 65, 3) ∧ decode cX9_has 37 = .ok (.getfield 145, 3) ∧ decode cX9_has 40 = .ok (.goto 5, 3) ∧ decode cX9_has 43 = .ok (.ldc 95, 2) ∧ decode cX9_has 45 = .ok (.ireturn, 1) := by decide +kernel
theorem dX9_has_25 : decode cX9_has 25 = .ok (.iload_n 1, 1) := dkAa266.1
theorem dX9_has_26 : decode cX9_has 26 = .ok (.iload_n 2, 1) := dkAa266.2.1
theorem dX9_has_27 : decode cX9_has 27 = .ok (.invokevirtual 263, 3) := dkAa266.2.2.1
theorem dX9_has_30 : decode cX9_has 30 = .ok (.ifCond .eq 13, 3) := dkAa266.2.2.2.1
theorem dX9_has_33 : decode cX9_has 33 = .ok (.aload_n 0, 1) := dkAa266.2.2.2.2.1
theorem dX9_has_34 : decode cX9_has 34 = .ok (.getfield 65, 3) := dkAa266.2.2.2.2.2.1
theorem dX9_has_37 : decode cX9_has 37 = .ok (.getfield 145, 3) := dkAa266.2.2.2.2.2.2.1
theorem dX9_has_40 : decode cX9_has 40 = .ok (.goto 5, 3) := dkAa266.2.2.2.2.2.2.2.1
theorem dX9_has_43 : decode cX9_has 43 = .ok (.ldc 95, 2) := dkAa266.2.2.2.2.2.2.2.2.1
theorem dX9_has_45 : decode cX9_has 45 = .ok (.ireturn, 1) := dkAa266.2.2.2.2.2.2.2.2.2
set_option maxRecDepth 100000 in
theorem dkAa267 : decode cX9_orders 0 = .ok (.aload_n 0, 1) ∧ decode cX9_orders 1 = .ok (.getfield 19, 3) ∧ decode cX9_orders 4 = .ok (.iload_n 1, 1) ∧ decode cX9_orders 5 = .ok (.invokevirtual 253, 3) ∧ decode cX9_orders 8 = .ok (.ifCond .ne 6, 3) ∧ decode cX9_orders 11 = .ok (.ldc 150, 2) ∧ decode cX9_orders 13 = .ok (.ireturn, 1) ∧ decode cX9_orders 14 = .ok (.iload_n 1, 1) ∧ decode cX9_orders 15 = .ok (.invokestatic 235, 3) ∧ decode cX9_orders 18 = .ok (.iconst 4, 1) ∧ decode cX9_orders 19 = .ok (.if_icmp .le 6, 3) ∧ decode cX9_orders 22 = .ok (.ldc 86, 2) := by decide +kernel
theorem dX9_orders_0 : decode cX9_orders 0 = .ok (.aload_n 0, 1) := dkAa267.1
theorem dX9_orders_1 : decode cX9_orders 1 = .ok (.getfield 19, 3) := dkAa267.2.1
theorem dX9_orders_4 : decode cX9_orders 4 = .ok (.iload_n 1, 1) := dkAa267.2.2.1
theorem dX9_orders_5 : decode cX9_orders 5 = .ok (.invokevirtual 253, 3) := dkAa267.2.2.2.1
theorem dX9_orders_8 : decode cX9_orders 8 = .ok (.ifCond .ne 6, 3) := dkAa267.2.2.2.2.1
theorem dX9_orders_11 : decode cX9_orders 11 = .ok (.ldc 150, 2) := dkAa267.2.2.2.2.2.1
theorem dX9_orders_13 : decode cX9_orders 13 = .ok (.ireturn, 1) := dkAa267.2.2.2.2.2.2.1
theorem dX9_orders_14 : decode cX9_orders 14 = .ok (.iload_n 1, 1) := dkAa267.2.2.2.2.2.2.2.1
theorem dX9_orders_15 : decode cX9_orders 15 = .ok (.invokestatic 235, 3) := dkAa267.2.2.2.2.2.2.2.2.1
theorem dX9_orders_18 : decode cX9_orders 18 = .ok (.iconst 4, 1) := dkAa267.2.2.2.2.2.2.2.2.2.1
theorem dX9_orders_19 : decode cX9_orders 19 = .ok (.if_icmp .le 6, 3) := dkAa267.2.2.2.2.2.2.2.2.2.2.1
theorem dX9_orders_22 : decode cX9_orders 22 = .ok (.ldc 86, 2) := dkAa267.2.2.2.2.2.2.2.2.2.2.2
set_option maxRecDepth 100000 in
theorem dkAa268 : decode cX9_orders 24 = .ok (.ireturn, 1) ∧ decode cX9_orders 25 = .ok (.aload_n 0, 1) ∧ decode cX9_orders 26 = .ok (.getfield 29, 3) ∧ decode cX9_orders 29 = .ok (.iload_n 1, 1) ∧ decode cX9_orders 30 = .ok (.invokevirtual 256, 3) ∧ decode cX9_orders 33 = .ok (.ifCond .ne 6, 3) ∧ decode cX9_orders 36 = .ok (.ldc 179, 2) ∧ decode cX9_orders 38 = .ok (.ireturn, 1) ∧ decode cX9_orders 39 = .ok (.iload_n 2, 1) ∧ decode cX9_orders 40 = .ok (.bipush (-2), 2) ∧ decode cX9_orders 42 = .ok (.if_icmp .ne 9, 3) ∧ decode cX9_orders 45 = .ok (.aload_n 0, 1) := by decide +kernel
theorem dX9_orders_24 : decode cX9_orders 24 = .ok (.ireturn, 1) := dkAa268.1
theorem dX9_orders_25 : decode cX9_orders 25 = .ok (.aload_n 0, 1) := dkAa268.2.1
theorem dX9_orders_26 : decode cX9_orders 26 = .ok (.getfield 29, 3) := dkAa268.2.2.1
theorem dX9_orders_29 : decode cX9_orders 29 = .ok (.iload_n 1, 1) := dkAa268.2.2.2.1
theorem dX9_orders_30 : decode cX9_orders 30 = .ok (.invokevirtual 256, 3) := dkAa268.2.2.2.2.1
theorem dX9_orders_33 : decode cX9_orders 33 = .ok (.ifCond .ne 6, 3) := dkAa268.2.2.2.2.2.1
theorem dX9_orders_36 : decode cX9_orders 36 = .ok (.ldc 179, 2) := dkAa268.2.2.2.2.2.2.1
theorem dX9_orders_38 : decode cX9_orders 38 = .ok (.ireturn, 1) := dkAa268.2.2.2.2.2.2.2.1
theorem dX9_orders_39 : decode cX9_orders 39 = .ok (.iload_n 2, 1) := dkAa268.2.2.2.2.2.2.2.2.1
theorem dX9_orders_40 : decode cX9_orders 40 = .ok (.bipush (-2), 2) := dkAa268.2.2.2.2.2.2.2.2.2.1
theorem dX9_orders_42 : decode cX9_orders 42 = .ok (.if_icmp .ne 9, 3) := dkAa268.2.2.2.2.2.2.2.2.2.2.1
theorem dX9_orders_45 : decode cX9_orders 45 = .ok (.aload_n 0, 1) := dkAa268.2.2.2.2.2.2.2.2.2.2.2
set_option maxRecDepth 100000 in
theorem dkAa269 : decode cX9_orders 46 = .ok (.iload_n 1, 1) ∧ decode cX9_orders 47 = .ok (.invokevirtual 279, 3) ∧ decode cX9_orders 50 = .ok (.ireturn, 1) ∧ decode cX9_orders 51 = .ok (.iload_n 2, 1) ∧ decode cX9_orders 52 = .ok (.iconst (-1), 1) ∧ decode cX9_orders 53 = .ok (.if_icmp .ne 11, 3) ∧ decode cX9_orders 56 = .ok (.aload_n 0, 1) ∧ decode cX9_orders 57 = .ok (.iload_n 1, 1) ∧ decode cX9_orders 58 = .ok (.invokevirtual 282, 3) ∧ decode cX9_orders 61 = .ok (.goto 9, 3) ∧ decode cX9_orders 64 = .ok (.aload_n 0, 1) ∧ decode cX9_orders 65 = .ok (.iload_n 1, 1) := by decide +kernel
theorem dX9_orders_46 : decode cX9_orders 46 = .ok (.iload_n 1, 1) := dkAa269.1
theorem dX9_orders_47 : decode cX9_orders 47 = .ok (.invokevirtual 279, 3) := dkAa269.2.1
theorem dX9_orders_50 : decode cX9_orders 50 = .ok (.ireturn, 1) := dkAa269.2.2.1
theorem dX9_orders_51 : decode cX9_orders 51 = .ok (.iload_n 2, 1) := dkAa269.2.2.2.1
theorem dX9_orders_52 : decode cX9_orders 52 = .ok (.iconst (-1), 1) := dkAa269.2.2.2.2.1
theorem dX9_orders_53 : decode cX9_orders 53 = .ok (.if_icmp .ne 11, 3) := dkAa269.2.2.2.2.2.1
theorem dX9_orders_56 : decode cX9_orders 56 = .ok (.aload_n 0, 1) := dkAa269.2.2.2.2.2.2.1
theorem dX9_orders_57 : decode cX9_orders 57 = .ok (.iload_n 1, 1) := dkAa269.2.2.2.2.2.2.2.1
theorem dX9_orders_58 : decode cX9_orders 58 = .ok (.invokevirtual 282, 3) := dkAa269.2.2.2.2.2.2.2.2.1
theorem dX9_orders_61 : decode cX9_orders 61 = .ok (.goto 9, 3) := dkAa269.2.2.2.2.2.2.2.2.2.1
theorem dX9_orders_64 : decode cX9_orders 64 = .ok (.aload_n 0, 1) := dkAa269.2.2.2.2.2.2.2.2.2.2.1
theorem dX9_orders_65 : decode cX9_orders 65 = .ok (.iload_n 1, 1) := dkAa269.2.2.2.2.2.2.2.2.2.2.2
set_option maxRecDepth 100000 in
theorem dkAa270 : decode cX9_orders 66 = .ok (.iload_n 2, 1) ∧ decode cX9_orders 67 = .ok (.invokevirtual 285, 3) ∧ decode cX9_orders 70 = .ok (.ireturn, 1) := by decide +kernel
theorem dX9_orders_66 : decode cX9_orders 66 = .ok (.iload_n 2, 1) := dkAa270.1
theorem dX9_orders_67 : decode cX9_orders 67 = .ok (.invokevirtual 285, 3) := dkAa270.2.1
theorem dX9_orders_70 : decode cX9_orders 70 = .ok (.ireturn, 1) := dkAa270.2.2
set_option maxRecDepth 100000 in
theorem dkAa271 : decode cX9_write 0 = .ok (.aload_n 0, 1) ∧ decode cX9_write 1 = .ok (.getfield 19, 3) ∧ decode cX9_write 4 = .ok (.iload_n 1, 1) ∧ decode cX9_write 5 = .ok (.invokevirtual 147, 3) ∧ decode cX9_write 8 = .ok (.ifCond .eq 10, 3) ∧ decode cX9_write 11 = .ok (.iload_n 2, 1) ∧ decode cX9_write 12 = .ok (.invokestatic 276, 3) ∧ decode cX9_write 15 = .ok (.ifCond .ne 6, 3) ∧ decode cX9_write 18 = .ok (.ldc 150, 2) ∧ decode cX9_write 20 = .ok (.ireturn, 1) ∧ decode cX9_write 21 = .ok (.aload_n 0, 1) ∧ decode cX9_write 22 = .ok (.getfield 68, 3) := by decide +kernel
theorem dX9_write_0 : decode cX9_write 0 = .ok (.aload_n 0, 1) := dkAa271.1
theorem dX9_write_1 : decode cX9_write 1 = .ok (.getfield 19, 3) := dkAa271.2.1
theorem dX9_write_4 : decode cX9_write 4 = .ok (.iload_n 1, 1) := dkAa271.2.2.1
theorem dX9_write_5 : decode cX9_write 5 = .ok (.invokevirtual 147, 3) := dkAa271.2.2.2.1
theorem dX9_write_8 : decode cX9_write 8 = .ok (.ifCond .eq 10, 3) := dkAa271.2.2.2.2.1
theorem dX9_write_11 : decode cX9_write 11 = .ok (.iload_n 2, 1) := dkAa271.2.2.2.2.2.1
theorem dX9_write_12 : decode cX9_write 12 = .ok (.invokestatic 276, 3) := dkAa271.2.2.2.2.2.2.1
theorem dX9_write_15 : decode cX9_write 15 = .ok (.ifCond .ne 6, 3) := dkAa271.2.2.2.2.2.2.2.1
theorem dX9_write_18 : decode cX9_write 18 = .ok (.ldc 150, 2) := dkAa271.2.2.2.2.2.2.2.2.1
theorem dX9_write_20 : decode cX9_write 20 = .ok (.ireturn, 1) := dkAa271.2.2.2.2.2.2.2.2.2.1
theorem dX9_write_21 : decode cX9_write 21 = .ok (.aload_n 0, 1) := dkAa271.2.2.2.2.2.2.2.2.2.2.1
theorem dX9_write_22 : decode cX9_write 22 = .ok (.getfield 68, 3) := dkAa271.2.2.2.2.2.2.2.2.2.2.2
set_option maxRecDepth 100000 in
theorem dkAa272 : decode cX9_write 25 = .ok (.iload_n 1, 1) ∧ decode cX9_write 26 = .ok (.iload_n 2, 1) ∧ decode cX9_write 27 = .ok (.invokevirtual 263, 3) ∧ decode cX9_write 30 = .ok (.ifCond .eq 13, 3) ∧ decode cX9_write 33 = .ok (.aload_n 0, 1) ∧ decode cX9_write 34 = .ok (.getfield 68, 3) ∧ decode cX9_write 37 = .ok (.getfield 145, 3) ∧ decode cX9_write 40 = .ok (.goto 5, 3) ∧ decode cX9_write 43 = .ok (.ldc 95, 2) ∧ decode cX9_write 45 = .ok (.ireturn, 1) := by decide +kernel
theorem dX9_write_25 : decode cX9_write 25 = .ok (.iload_n 1, 1) := dkAa272.1
theorem dX9_write_26 : decode cX9_write 26 = .ok (.iload_n 2, 1) := dkAa272.2.1
theorem dX9_write_27 : decode cX9_write 27 = .ok (.invokevirtual 263, 3) := dkAa272.2.2.1
theorem dX9_write_30 : decode cX9_write 30 = .ok (.ifCond .eq 13, 3) := dkAa272.2.2.2.1
theorem dX9_write_33 : decode cX9_write 33 = .ok (.aload_n 0, 1) := dkAa272.2.2.2.2.1
theorem dX9_write_34 : decode cX9_write 34 = .ok (.getfield 68, 3) := dkAa272.2.2.2.2.2.1
theorem dX9_write_37 : decode cX9_write 37 = .ok (.getfield 145, 3) := dkAa272.2.2.2.2.2.2.1
theorem dX9_write_40 : decode cX9_write 40 = .ok (.goto 5, 3) := dkAa272.2.2.2.2.2.2.2.1
theorem dX9_write_43 : decode cX9_write 43 = .ok (.ldc 95, 2) := dkAa272.2.2.2.2.2.2.2.2.1
theorem dX9_write_45 : decode cX9_write 45 = .ok (.ireturn, 1) := dkAa272.2.2.2.2.2.2.2.2.2
set_option maxRecDepth 100000 in
theorem dkAa273 : decode cX9_tear 0 = .ok (.aload_n 0, 1) ∧ decode cX9_tear 1 = .ok (.getfield 61, 3) ∧ decode cX9_tear 4 = .ok (.getfield 145, 3) ∧ decode cX9_tear 7 = .ok (.aload_n 0, 1) ∧ decode cX9_tear 8 = .ok (.getfield 65, 3) ∧ decode cX9_tear 11 = .ok (.getfield 145, 3) ∧ decode cX9_tear 14 = .ok (.iadd, 1) ∧ decode cX9_tear 15 = .ok (.aload_n 0, 1) ∧ decode cX9_tear 16 = .ok (.getfield 68, 3) ∧ decode cX9_tear 19 = .ok (.getfield 145, 3) ∧ decode cX9_tear 22 = .ok (.iadd, 1) ∧ decode cX9_tear 23 = .ok (.istore_n 1, 1) := by decide +kernel
theorem dX9_tear_0 : decode cX9_tear 0 = .ok (.aload_n 0, 1) := dkAa273.1
theorem dX9_tear_1 : decode cX9_tear 1 = .ok (.getfield 61, 3) := dkAa273.2.1
theorem dX9_tear_4 : decode cX9_tear 4 = .ok (.getfield 145, 3) := dkAa273.2.2.1
theorem dX9_tear_7 : decode cX9_tear 7 = .ok (.aload_n 0, 1) := dkAa273.2.2.2.1
theorem dX9_tear_8 : decode cX9_tear 8 = .ok (.getfield 65, 3) := dkAa273.2.2.2.2.1
theorem dX9_tear_11 : decode cX9_tear 11 = .ok (.getfield 145, 3) := dkAa273.2.2.2.2.2.1
theorem dX9_tear_14 : decode cX9_tear 14 = .ok (.iadd, 1) := dkAa273.2.2.2.2.2.2.1
theorem dX9_tear_15 : decode cX9_tear 15 = .ok (.aload_n 0, 1) := dkAa273.2.2.2.2.2.2.2.1
theorem dX9_tear_16 : decode cX9_tear 16 = .ok (.getfield 68, 3) := dkAa273.2.2.2.2.2.2.2.2.1
theorem dX9_tear_19 : decode cX9_tear 19 = .ok (.getfield 145, 3) := dkAa273.2.2.2.2.2.2.2.2.2.1
theorem dX9_tear_22 : decode cX9_tear 22 = .ok (.iadd, 1) := dkAa273.2.2.2.2.2.2.2.2.2.2.1
theorem dX9_tear_23 : decode cX9_tear 23 = .ok (.istore_n 1, 1) := dkAa273.2.2.2.2.2.2.2.2.2.2.2
set_option maxRecDepth 100000 in
theorem dkAa274 : decode cX9_tear 24 = .ok (.aload_n 0, 1) ∧ decode cX9_tear 25 = .ok (.getfield 61, 3) ∧ decode cX9_tear 28 = .ok (.invokevirtual 107, 3) ∧ decode cX9_tear 31 = .ok (.aload_n 0, 1) ∧ decode cX9_tear 32 = .ok (.getfield 65, 3) ∧ decode cX9_tear 35 = .ok (.invokevirtual 107, 3) ∧ decode cX9_tear 38 = .ok (.aload_n 0, 1) ∧ decode cX9_tear 39 = .ok (.getfield 68, 3) ∧ decode cX9_tear 42 = .ok (.invokevirtual 107, 3) ∧ decode cX9_tear 45 = .ok (.iload_n 1, 1) ∧ decode cX9_tear 46 = .ok (.ireturn, 1) := by decide +kernel
theorem dX9_tear_24 : decode cX9_tear 24 = .ok (.aload_n 0, 1) := dkAa274.1
theorem dX9_tear_25 : decode cX9_tear 25 = .ok (.getfield 61, 3) := dkAa274.2.1
theorem dX9_tear_28 : decode cX9_tear 28 = .ok (.invokevirtual 107, 3) := dkAa274.2.2.1
theorem dX9_tear_31 : decode cX9_tear 31 = .ok (.aload_n 0, 1) := dkAa274.2.2.2.1
theorem dX9_tear_32 : decode cX9_tear 32 = .ok (.getfield 65, 3) := dkAa274.2.2.2.2.1
theorem dX9_tear_35 : decode cX9_tear 35 = .ok (.invokevirtual 107, 3) := dkAa274.2.2.2.2.2.1
theorem dX9_tear_38 : decode cX9_tear 38 = .ok (.aload_n 0, 1) := dkAa274.2.2.2.2.2.2.1
theorem dX9_tear_39 : decode cX9_tear 39 = .ok (.getfield 68, 3) := dkAa274.2.2.2.2.2.2.2.1
theorem dX9_tear_42 : decode cX9_tear 42 = .ok (.invokevirtual 107, 3) := dkAa274.2.2.2.2.2.2.2.2.1
theorem dX9_tear_45 : decode cX9_tear 45 = .ok (.iload_n 1, 1) := dkAa274.2.2.2.2.2.2.2.2.2.1
theorem dX9_tear_46 : decode cX9_tear 46 = .ok (.ireturn, 1) := dkAa274.2.2.2.2.2.2.2.2.2.2
set_option maxRecDepth 100000 in
theorem dkAa275 : decode cX9_judge 0 = .ok (.aload_n 0, 1) ∧ decode cX9_judge 1 = .ok (.getfield 68, 3) ∧ decode cX9_judge 4 = .ok (.aload_n 0, 1) ∧ decode cX9_judge 5 = .ok (.getfield 29, 3) ∧ decode cX9_judge 8 = .ok (.invokevirtual 288, 3) ∧ decode cX9_judge 11 = .ok (.ireturn, 1) := by decide +kernel
theorem dX9_judge_0 : decode cX9_judge 0 = .ok (.aload_n 0, 1) := dkAa275.1
theorem dX9_judge_1 : decode cX9_judge 1 = .ok (.getfield 68, 3) := dkAa275.2.1
theorem dX9_judge_4 : decode cX9_judge 4 = .ok (.aload_n 0, 1) := dkAa275.2.2.1
theorem dX9_judge_5 : decode cX9_judge 5 = .ok (.getfield 29, 3) := dkAa275.2.2.2.1
theorem dX9_judge_8 : decode cX9_judge 8 = .ok (.invokevirtual 288, 3) := dkAa275.2.2.2.2.1
theorem dX9_judge_11 : decode cX9_judge 11 = .ok (.ireturn, 1) := dkAa275.2.2.2.2.2
set_option maxRecDepth 100000 in
theorem dkAa276 : decode cX9_seed 0 = .ok (.iload_n 1, 1) ∧ decode cX9_seed 1 = .ok (.ifCond .ge 6, 3) ∧ decode cX9_seed 4 = .ok (.ldc 86, 2) ∧ decode cX9_seed 6 = .ok (.ireturn, 1) ∧ decode cX9_seed 7 = .ok (.aload_n 0, 1) ∧ decode cX9_seed 8 = .ok (.getfield 52, 3) ∧ decode cX9_seed 11 = .ok (.getfield 292, 3) ∧ decode cX9_seed 14 = .ok (.istore_n 2, 1) ∧ decode cX9_seed 15 = .ok (.aload_n 0, 1) ∧ decode cX9_seed 16 = .ok (.getfield 52, 3) ∧ decode cX9_seed 19 = .ok (.iload_n 1, 1) ∧ decode cX9_seed 20 = .ok (.putfield 292, 3) := by decide +kernel
theorem dX9_seed_0 : decode cX9_seed 0 = .ok (.iload_n 1, 1) := dkAa276.1
theorem dX9_seed_1 : decode cX9_seed 1 = .ok (.ifCond .ge 6, 3) := dkAa276.2.1
theorem dX9_seed_4 : decode cX9_seed 4 = .ok (.ldc 86, 2) := dkAa276.2.2.1
theorem dX9_seed_6 : decode cX9_seed 6 = .ok (.ireturn, 1) := dkAa276.2.2.2.1
theorem dX9_seed_7 : decode cX9_seed 7 = .ok (.aload_n 0, 1) := dkAa276.2.2.2.2.1
theorem dX9_seed_8 : decode cX9_seed 8 = .ok (.getfield 52, 3) := dkAa276.2.2.2.2.2.1
theorem dX9_seed_11 : decode cX9_seed 11 = .ok (.getfield 292, 3) := dkAa276.2.2.2.2.2.2.1
theorem dX9_seed_14 : decode cX9_seed 14 = .ok (.istore_n 2, 1) := dkAa276.2.2.2.2.2.2.2.1
theorem dX9_seed_15 : decode cX9_seed 15 = .ok (.aload_n 0, 1) := dkAa276.2.2.2.2.2.2.2.2.1
theorem dX9_seed_16 : decode cX9_seed 16 = .ok (.getfield 52, 3) := dkAa276.2.2.2.2.2.2.2.2.2.1
theorem dX9_seed_19 : decode cX9_seed 19 = .ok (.iload_n 1, 1) := dkAa276.2.2.2.2.2.2.2.2.2.2.1
theorem dX9_seed_20 : decode cX9_seed 20 = .ok (.putfield 292, 3) := dkAa276.2.2.2.2.2.2.2.2.2.2.2
theorem dX9_seed_23 : decode cX9_seed 23 = .ok (.iload_n 2, 1) := by decide +kernel
theorem dX9_seed_24 : decode cX9_seed 24 = .ok (.ireturn, 1) := by decide +kernel
set_option maxRecDepth 100000 in
theorem dkAa277 : decode cX9_keep 0 = .ok (.aload_n 0, 1) ∧ decode cX9_keep 1 = .ok (.iload_n 1, 1) ∧ decode cX9_keep 2 = .ok (.invokevirtual 295, 3) ∧ decode cX9_keep 5 = .ok (.astore_n 2, 1) ∧ decode cX9_keep 6 = .ok (.aload_n 2, 1) ∧ decode cX9_keep 7 = .ok (.ifnonnull 6, 3) ∧ decode cX9_keep 10 = .ok (.ldc 150, 2) ∧ decode cX9_keep 12 = .ok (.ireturn, 1) ∧ decode cX9_keep 13 = .ok (.aload_n 2, 1) ∧ decode cX9_keep 14 = .ok (.getfield 299, 3) ∧ decode cX9_keep 17 = .ok (.aload_n 0, 1) ∧ decode cX9_keep 18 = .ok (.getfield 29, 3) := by decide +kernel
theorem dX9_keep_0 : decode cX9_keep 0 = .ok (.aload_n 0, 1) := dkAa277.1
theorem dX9_keep_1 : decode cX9_keep 1 = .ok (.iload_n 1, 1) := dkAa277.2.1
theorem dX9_keep_2 : decode cX9_keep 2 = .ok (.invokevirtual 295, 3) := dkAa277.2.2.1
theorem dX9_keep_5 : decode cX9_keep 5 = .ok (.astore_n 2, 1) := dkAa277.2.2.2.1
theorem dX9_keep_6 : decode cX9_keep 6 = .ok (.aload_n 2, 1) := dkAa277.2.2.2.2.1
theorem dX9_keep_7 : decode cX9_keep 7 = .ok (.ifnonnull 6, 3) := dkAa277.2.2.2.2.2.1
theorem dX9_keep_10 : decode cX9_keep 10 = .ok (.ldc 150, 2) := dkAa277.2.2.2.2.2.2.1
theorem dX9_keep_12 : decode cX9_keep 12 = .ok (.ireturn, 1) := dkAa277.2.2.2.2.2.2.2.1
theorem dX9_keep_13 : decode cX9_keep 13 = .ok (.aload_n 2, 1) := dkAa277.2.2.2.2.2.2.2.2.1
theorem dX9_keep_14 : decode cX9_keep 14 = .ok (.getfield 299, 3) := dkAa277.2.2.2.2.2.2.2.2.2.1
theorem dX9_keep_17 : decode cX9_keep 17 = .ok (.aload_n 0, 1) := dkAa277.2.2.2.2.2.2.2.2.2.2.1
theorem dX9_keep_18 : decode cX9_keep 18 = .ok (.getfield 29, 3) := dkAa277.2.2.2.2.2.2.2.2.2.2.2
set_option maxRecDepth 100000 in
theorem dkAa278 : decode cX9_keep 21 = .ok (.invokevirtual 302, 3) ∧ decode cX9_keep 24 = .ok (.aload_n 2, 1) ∧ decode cX9_keep 25 = .ok (.aload_n 0, 1) ∧ decode cX9_keep 26 = .ok (.getfield 52, 3) ∧ decode cX9_keep 29 = .ok (.getfield 292, 3) ∧ decode cX9_keep 32 = .ok (.putfield 305, 3) ∧ decode cX9_keep 35 = .ok (.aload_n 2, 1) ∧ decode cX9_keep 36 = .ok (.iconst 1, 1) ∧ decode cX9_keep 37 = .ok (.putfield 113, 3) ∧ decode cX9_keep 40 = .ok (.aload_n 0, 1) ∧ decode cX9_keep 41 = .ok (.getfield 39, 3) ∧ decode cX9_keep 44 = .ok (.invokevirtual 110, 3) := by decide +kernel
theorem dX9_keep_21 : decode cX9_keep 21 = .ok (.invokevirtual 302, 3) := dkAa278.1
theorem dX9_keep_24 : decode cX9_keep 24 = .ok (.aload_n 2, 1) := dkAa278.2.1
theorem dX9_keep_25 : decode cX9_keep 25 = .ok (.aload_n 0, 1) := dkAa278.2.2.1
theorem dX9_keep_26 : decode cX9_keep 26 = .ok (.getfield 52, 3) := dkAa278.2.2.2.1
theorem dX9_keep_29 : decode cX9_keep 29 = .ok (.getfield 292, 3) := dkAa278.2.2.2.2.1
theorem dX9_keep_32 : decode cX9_keep 32 = .ok (.putfield 305, 3) := dkAa278.2.2.2.2.2.1
theorem dX9_keep_35 : decode cX9_keep 35 = .ok (.aload_n 2, 1) := dkAa278.2.2.2.2.2.2.1
theorem dX9_keep_36 : decode cX9_keep 36 = .ok (.iconst 1, 1) := dkAa278.2.2.2.2.2.2.2.1
theorem dX9_keep_37 : decode cX9_keep 37 = .ok (.putfield 113, 3) := dkAa278.2.2.2.2.2.2.2.2.1
theorem dX9_keep_40 : decode cX9_keep 40 = .ok (.aload_n 0, 1) := dkAa278.2.2.2.2.2.2.2.2.2.1
theorem dX9_keep_41 : decode cX9_keep 41 = .ok (.getfield 39, 3) := dkAa278.2.2.2.2.2.2.2.2.2.2.1
theorem dX9_keep_44 : decode cX9_keep 44 = .ok (.invokevirtual 110, 3) := dkAa278.2.2.2.2.2.2.2.2.2.2.2
theorem dX9_keep_47 : decode cX9_keep 47 = .ok (.iconst 1, 1) := by decide +kernel
theorem dX9_keep_48 : decode cX9_keep 48 = .ok (.ireturn, 1) := by decide +kernel
set_option maxRecDepth 100000 in
theorem dkAa279 : decode cX9_goBack 0 = .ok (.aload_n 0, 1) ∧ decode cX9_goBack 1 = .ok (.iload_n 1, 1) ∧ decode cX9_goBack 2 = .ok (.invokevirtual 295, 3) ∧ decode cX9_goBack 5 = .ok (.astore_n 2, 1) ∧ decode cX9_goBack 6 = .ok (.aload_n 2, 1) ∧ decode cX9_goBack 7 = .ok (.ifnonnull 6, 3) ∧ decode cX9_goBack 10 = .ok (.ldc 150, 2) ∧ decode cX9_goBack 12 = .ok (.ireturn, 1) ∧ decode cX9_goBack 13 = .ok (.aload_n 2, 1) ∧ decode cX9_goBack 14 = .ok (.getfield 113, 3) ∧ decode cX9_goBack 17 = .ok (.ifCond .ne 6, 3) ∧ decode cX9_goBack 20 = .ok (.ldc 179, 2) := by decide +kernel
theorem dX9_goBack_0 : decode cX9_goBack 0 = .ok (.aload_n 0, 1) := dkAa279.1
theorem dX9_goBack_1 : decode cX9_goBack 1 = .ok (.iload_n 1, 1) := dkAa279.2.1
theorem dX9_goBack_2 : decode cX9_goBack 2 = .ok (.invokevirtual 295, 3) := dkAa279.2.2.1
theorem dX9_goBack_5 : decode cX9_goBack 5 = .ok (.astore_n 2, 1) := dkAa279.2.2.2.1
theorem dX9_goBack_6 : decode cX9_goBack 6 = .ok (.aload_n 2, 1) := dkAa279.2.2.2.2.1
theorem dX9_goBack_7 : decode cX9_goBack 7 = .ok (.ifnonnull 6, 3) := dkAa279.2.2.2.2.2.1
theorem dX9_goBack_10 : decode cX9_goBack 10 = .ok (.ldc 150, 2) := dkAa279.2.2.2.2.2.2.1
theorem dX9_goBack_12 : decode cX9_goBack 12 = .ok (.ireturn, 1) := dkAa279.2.2.2.2.2.2.2.1
theorem dX9_goBack_13 : decode cX9_goBack 13 = .ok (.aload_n 2, 1) := dkAa279.2.2.2.2.2.2.2.2.1
theorem dX9_goBack_14 : decode cX9_goBack 14 = .ok (.getfield 113, 3) := dkAa279.2.2.2.2.2.2.2.2.2.1
theorem dX9_goBack_17 : decode cX9_goBack 17 = .ok (.ifCond .ne 6, 3) := dkAa279.2.2.2.2.2.2.2.2.2.2.1
theorem dX9_goBack_20 : decode cX9_goBack 20 = .ok (.ldc 179, 2) := dkAa279.2.2.2.2.2.2.2.2.2.2.2
set_option maxRecDepth 100000 in
theorem dkAa280 : decode cX9_goBack 22 = .ok (.ireturn, 1) ∧ decode cX9_goBack 23 = .ok (.aload_n 0, 1) ∧ decode cX9_goBack 24 = .ok (.getfield 29, 3) ∧ decode cX9_goBack 27 = .ok (.aload_n 2, 1) ∧ decode cX9_goBack 28 = .ok (.getfield 299, 3) ∧ decode cX9_goBack 31 = .ok (.invokevirtual 302, 3) ∧ decode cX9_goBack 34 = .ok (.aload_n 0, 1) ∧ decode cX9_goBack 35 = .ok (.getfield 52, 3) ∧ decode cX9_goBack 38 = .ok (.aload_n 2, 1) ∧ decode cX9_goBack 39 = .ok (.getfield 305, 3) ∧ decode cX9_goBack 42 = .ok (.putfield 292, 3) ∧ decode cX9_goBack 45 = .ok (.aload_n 0, 1) := by decide +kernel
theorem dX9_goBack_22 : decode cX9_goBack 22 = .ok (.ireturn, 1) := dkAa280.1
theorem dX9_goBack_23 : decode cX9_goBack 23 = .ok (.aload_n 0, 1) := dkAa280.2.1
theorem dX9_goBack_24 : decode cX9_goBack 24 = .ok (.getfield 29, 3) := dkAa280.2.2.1
theorem dX9_goBack_27 : decode cX9_goBack 27 = .ok (.aload_n 2, 1) := dkAa280.2.2.2.1
theorem dX9_goBack_28 : decode cX9_goBack 28 = .ok (.getfield 299, 3) := dkAa280.2.2.2.2.1
theorem dX9_goBack_31 : decode cX9_goBack 31 = .ok (.invokevirtual 302, 3) := dkAa280.2.2.2.2.2.1
theorem dX9_goBack_34 : decode cX9_goBack 34 = .ok (.aload_n 0, 1) := dkAa280.2.2.2.2.2.2.1
theorem dX9_goBack_35 : decode cX9_goBack 35 = .ok (.getfield 52, 3) := dkAa280.2.2.2.2.2.2.2.1
theorem dX9_goBack_38 : decode cX9_goBack 38 = .ok (.aload_n 2, 1) := dkAa280.2.2.2.2.2.2.2.2.1
theorem dX9_goBack_39 : decode cX9_goBack 39 = .ok (.getfield 305, 3) := dkAa280.2.2.2.2.2.2.2.2.2.1
theorem dX9_goBack_42 : decode cX9_goBack 42 = .ok (.putfield 292, 3) := dkAa280.2.2.2.2.2.2.2.2.2.2.1
theorem dX9_goBack_45 : decode cX9_goBack 45 = .ok (.aload_n 0, 1) := dkAa280.2.2.2.2.2.2.2.2.2.2.2
set_option maxRecDepth 100000 in
theorem dkAa281 : decode cX9_goBack 46 = .ok (.getfield 39, 3) ∧ decode cX9_goBack 49 = .ok (.invokevirtual 110, 3) ∧ decode cX9_goBack 52 = .ok (.iconst 1, 1) ∧ decode cX9_goBack 53 = .ok (.ireturn, 1) := by decide +kernel
theorem dX9_goBack_46 : decode cX9_goBack 46 = .ok (.getfield 39, 3) := dkAa281.1
theorem dX9_goBack_49 : decode cX9_goBack 49 = .ok (.invokevirtual 110, 3) := dkAa281.2.1
theorem dX9_goBack_52 : decode cX9_goBack 52 = .ok (.iconst 1, 1) := dkAa281.2.2.1
theorem dX9_goBack_53 : decode cX9_goBack 53 = .ok (.ireturn, 1) := dkAa281.2.2.2
set_option maxRecDepth 100000 in
theorem dkAa282 : decode cX9_isIn 0 = .ok (.iload_n 1, 1) ∧ decode cX9_isIn 1 = .ok (.ifCond .lt 21, 3) ∧ decode cX9_isIn 4 = .ok (.iload_n 1, 1) ∧ decode cX9_isIn 5 = .ok (.bipush 7, 2) ∧ decode cX9_isIn 7 = .ok (.if_icmp .ge 15, 3) ∧ decode cX9_isIn 10 = .ok (.iload_n 0, 1) ∧ decode cX9_isIn 11 = .ok (.iload_n 1, 1) ∧ decode cX9_isIn 12 = .ok (.ishr, 1) ∧ decode cX9_isIn 13 = .ok (.iconst 1, 1) ∧ decode cX9_isIn 14 = .ok (.iand, 1) ∧ decode cX9_isIn 15 = .ok (.ifCond .eq 7, 3) ∧ decode cX9_isIn 18 = .ok (.iconst 1, 1) := by decide +kernel
theorem dX9_isIn_0 : decode cX9_isIn 0 = .ok (.iload_n 1, 1) := dkAa282.1
theorem dX9_isIn_1 : decode cX9_isIn 1 = .ok (.ifCond .lt 21, 3) := dkAa282.2.1
theorem dX9_isIn_4 : decode cX9_isIn 4 = .ok (.iload_n 1, 1) := dkAa282.2.2.1
theorem dX9_isIn_5 : decode cX9_isIn 5 = .ok (.bipush 7, 2) := dkAa282.2.2.2.1
theorem dX9_isIn_7 : decode cX9_isIn 7 = .ok (.if_icmp .ge 15, 3) := dkAa282.2.2.2.2.1
theorem dX9_isIn_10 : decode cX9_isIn 10 = .ok (.iload_n 0, 1) := dkAa282.2.2.2.2.2.1
theorem dX9_isIn_11 : decode cX9_isIn 11 = .ok (.iload_n 1, 1) := dkAa282.2.2.2.2.2.2.1
theorem dX9_isIn_12 : decode cX9_isIn 12 = .ok (.ishr, 1) := dkAa282.2.2.2.2.2.2.2.1
theorem dX9_isIn_13 : decode cX9_isIn 13 = .ok (.iconst 1, 1) := dkAa282.2.2.2.2.2.2.2.2.1
theorem dX9_isIn_14 : decode cX9_isIn 14 = .ok (.iand, 1) := dkAa282.2.2.2.2.2.2.2.2.2.1
theorem dX9_isIn_15 : decode cX9_isIn 15 = .ok (.ifCond .eq 7, 3) := dkAa282.2.2.2.2.2.2.2.2.2.2.1
theorem dX9_isIn_18 : decode cX9_isIn 18 = .ok (.iconst 1, 1) := dkAa282.2.2.2.2.2.2.2.2.2.2.2
set_option maxRecDepth 100000 in
theorem dkAa283 : decode cX9_isIn 19 = .ok (.goto 4, 3) ∧ decode cX9_isIn 22 = .ok (.iconst 0, 1) ∧ decode cX9_isIn 23 = .ok (.ireturn, 1) := by decide +kernel
theorem dX9_isIn_19 : decode cX9_isIn 19 = .ok (.goto 4, 3) := dkAa283.1
theorem dX9_isIn_22 : decode cX9_isIn 22 = .ok (.iconst 0, 1) := dkAa283.2.1
theorem dX9_isIn_23 : decode cX9_isIn 23 = .ok (.ireturn, 1) := dkAa283.2.2
set_option maxRecDepth 100000 in
theorem dkAa284 : decode cX9_isVoiceNumber 0 = .ok (.iload_n 0, 1) ∧ decode cX9_isVoiceNumber 1 = .ok (.ifCond .lt 13, 3) ∧ decode cX9_isVoiceNumber 4 = .ok (.iload_n 0, 1) ∧ decode cX9_isVoiceNumber 5 = .ok (.bipush 7, 2) ∧ decode cX9_isVoiceNumber 7 = .ok (.if_icmp .ge 7, 3) ∧ decode cX9_isVoiceNumber 10 = .ok (.iconst 1, 1) ∧ decode cX9_isVoiceNumber 11 = .ok (.goto 4, 3) ∧ decode cX9_isVoiceNumber 14 = .ok (.iconst 0, 1) ∧ decode cX9_isVoiceNumber 15 = .ok (.ireturn, 1) := by decide +kernel
theorem dX9_isVoiceNumber_0 : decode cX9_isVoiceNumber 0 = .ok (.iload_n 0, 1) := dkAa284.1
theorem dX9_isVoiceNumber_1 : decode cX9_isVoiceNumber 1 = .ok (.ifCond .lt 13, 3) := dkAa284.2.1
theorem dX9_isVoiceNumber_4 : decode cX9_isVoiceNumber 4 = .ok (.iload_n 0, 1) := dkAa284.2.2.1
theorem dX9_isVoiceNumber_5 : decode cX9_isVoiceNumber 5 = .ok (.bipush 7, 2) := dkAa284.2.2.2.1
theorem dX9_isVoiceNumber_7 : decode cX9_isVoiceNumber 7 = .ok (.if_icmp .ge 7, 3) := dkAa284.2.2.2.2.1
theorem dX9_isVoiceNumber_10 : decode cX9_isVoiceNumber 10 = .ok (.iconst 1, 1) := dkAa284.2.2.2.2.2.1
theorem dX9_isVoiceNumber_11 : decode cX9_isVoiceNumber 11 = .ok (.goto 4, 3) := dkAa284.2.2.2.2.2.2.1
theorem dX9_isVoiceNumber_14 : decode cX9_isVoiceNumber 14 = .ok (.iconst 0, 1) := dkAa284.2.2.2.2.2.2.2.1
theorem dX9_isVoiceNumber_15 : decode cX9_isVoiceNumber 15 = .ok (.ireturn, 1) := dkAa284.2.2.2.2.2.2.2.2
set_option maxRecDepth 100000 in
theorem dkAa285 : decode cX9_isVoiceOrNone 0 = .ok (.iload_n 0, 1) ∧ decode cX9_isVoiceOrNone 1 = .ok (.bipush 9, 2) ∧ decode cX9_isVoiceOrNone 3 = .ok (.if_icmp .eq 10, 3) ∧ decode cX9_isVoiceOrNone 6 = .ok (.iload_n 0, 1) ∧ decode cX9_isVoiceOrNone 7 = .ok (.invokestatic 195, 3) ∧ decode cX9_isVoiceOrNone 10 = .ok (.ifCond .eq 7, 3) ∧ decode cX9_isVoiceOrNone 13 = .ok (.iconst 1, 1) ∧ decode cX9_isVoiceOrNone 14 = .ok (.goto 4, 3) ∧ decode cX9_isVoiceOrNone 17 = .ok (.iconst 0, 1) ∧ decode cX9_isVoiceOrNone 18 = .ok (.ireturn, 1) := by decide +kernel
theorem dX9_isVoiceOrNone_0 : decode cX9_isVoiceOrNone 0 = .ok (.iload_n 0, 1) := dkAa285.1
theorem dX9_isVoiceOrNone_1 : decode cX9_isVoiceOrNone 1 = .ok (.bipush 9, 2) := dkAa285.2.1
theorem dX9_isVoiceOrNone_3 : decode cX9_isVoiceOrNone 3 = .ok (.if_icmp .eq 10, 3) := dkAa285.2.2.1
theorem dX9_isVoiceOrNone_6 : decode cX9_isVoiceOrNone 6 = .ok (.iload_n 0, 1) := dkAa285.2.2.2.1
theorem dX9_isVoiceOrNone_7 : decode cX9_isVoiceOrNone 7 = .ok (.invokestatic 195, 3) := dkAa285.2.2.2.2.1
theorem dX9_isVoiceOrNone_10 : decode cX9_isVoiceOrNone 10 = .ok (.ifCond .eq 7, 3) := dkAa285.2.2.2.2.2.1
theorem dX9_isVoiceOrNone_13 : decode cX9_isVoiceOrNone 13 = .ok (.iconst 1, 1) := dkAa285.2.2.2.2.2.2.1
theorem dX9_isVoiceOrNone_14 : decode cX9_isVoiceOrNone 14 = .ok (.goto 4, 3) := dkAa285.2.2.2.2.2.2.2.1
theorem dX9_isVoiceOrNone_17 : decode cX9_isVoiceOrNone 17 = .ok (.iconst 0, 1) := dkAa285.2.2.2.2.2.2.2.2.1
theorem dX9_isVoiceOrNone_18 : decode cX9_isVoiceOrNone 18 = .ok (.ireturn, 1) := dkAa285.2.2.2.2.2.2.2.2.2
set_option maxRecDepth 100000 in
theorem dkAa286 : decode cX9_imageOf 0 = .ok (.iload_n 1, 1) ∧ decode cX9_imageOf 1 = .ok (.ifCond .lt 21, 3) ∧ decode cX9_imageOf 4 = .ok (.iload_n 1, 1) ∧ decode cX9_imageOf 5 = .ok (.aload_n 0, 1) ∧ decode cX9_imageOf 6 = .ok (.getfield 45, 3) ∧ decode cX9_imageOf 9 = .ok (.arraylength, 1) ∧ decode cX9_imageOf 10 = .ok (.if_icmp .ge 12, 3) ∧ decode cX9_imageOf 13 = .ok (.aload_n 0, 1) ∧ decode cX9_imageOf 14 = .ok (.getfield 45, 3) ∧ decode cX9_imageOf 17 = .ok (.iload_n 1, 1) ∧ decode cX9_imageOf 18 = .ok (.aaload, 1) ∧ decode cX9_imageOf 19 = .ok (.goto 4, 3) := by decide +kernel
theorem dX9_imageOf_0 : decode cX9_imageOf 0 = .ok (.iload_n 1, 1) := dkAa286.1
theorem dX9_imageOf_1 : decode cX9_imageOf 1 = .ok (.ifCond .lt 21, 3) := dkAa286.2.1
theorem dX9_imageOf_4 : decode cX9_imageOf 4 = .ok (.iload_n 1, 1) := dkAa286.2.2.1
theorem dX9_imageOf_5 : decode cX9_imageOf 5 = .ok (.aload_n 0, 1) := dkAa286.2.2.2.1
theorem dX9_imageOf_6 : decode cX9_imageOf 6 = .ok (.getfield 45, 3) := dkAa286.2.2.2.2.1
theorem dX9_imageOf_9 : decode cX9_imageOf 9 = .ok (.arraylength, 1) := dkAa286.2.2.2.2.2.1
theorem dX9_imageOf_10 : decode cX9_imageOf 10 = .ok (.if_icmp .ge 12, 3) := dkAa286.2.2.2.2.2.2.1
theorem dX9_imageOf_13 : decode cX9_imageOf 13 = .ok (.aload_n 0, 1) := dkAa286.2.2.2.2.2.2.2.1
theorem dX9_imageOf_14 : decode cX9_imageOf 14 = .ok (.getfield 45, 3) := dkAa286.2.2.2.2.2.2.2.2.1
theorem dX9_imageOf_17 : decode cX9_imageOf 17 = .ok (.iload_n 1, 1) := dkAa286.2.2.2.2.2.2.2.2.2.1
theorem dX9_imageOf_18 : decode cX9_imageOf 18 = .ok (.aaload, 1) := dkAa286.2.2.2.2.2.2.2.2.2.2.1
theorem dX9_imageOf_19 : decode cX9_imageOf 19 = .ok (.goto 4, 3) := dkAa286.2.2.2.2.2.2.2.2.2.2.2
theorem dX9_imageOf_22 : decode cX9_imageOf 22 = .ok (.aconst_null, 1) := by decide +kernel
theorem dX9_imageOf_23 : decode cX9_imageOf 23 = .ok (.areturn, 1) := by decide +kernel
set_option maxRecDepth 100000 in
theorem dkAa287 : decode cX9_canInherit 0 = .ok (.iload_n 2, 1) ∧ decode cX9_canInherit 1 = .ok (.bipush 9, 2) ∧ decode cX9_canInherit 3 = .ok (.if_icmp .eq 19, 3) ∧ decode cX9_canInherit 6 = .ok (.aload_n 0, 1) ∧ decode cX9_canInherit 7 = .ok (.getfield 19, 3) ∧ decode cX9_canInherit 10 = .ok (.iload_n 2, 1) ∧ decode cX9_canInherit 11 = .ok (.invokevirtual 147, 3) ∧ decode cX9_canInherit 14 = .ok (.ifCond .eq 12, 3) ∧ decode cX9_canInherit 17 = .ok (.iload_n 2, 1) ∧ decode cX9_canInherit 18 = .ok (.iload_n 1, 1) ∧ decode cX9_canInherit 19 = .ok (.if_icmp .eq 7, 3) ∧ decode cX9_canInherit 22 = .ok (.iconst 1, 1) := by decide +kernel
theorem dX9_canInherit_0 : decode cX9_canInherit 0 = .ok (.iload_n 2, 1) := dkAa287.1
theorem dX9_canInherit_1 : decode cX9_canInherit 1 = .ok (.bipush 9, 2) := dkAa287.2.1
theorem dX9_canInherit_3 : decode cX9_canInherit 3 = .ok (.if_icmp .eq 19, 3) := dkAa287.2.2.1
theorem dX9_canInherit_6 : decode cX9_canInherit 6 = .ok (.aload_n 0, 1) := dkAa287.2.2.2.1
theorem dX9_canInherit_7 : decode cX9_canInherit 7 = .ok (.getfield 19, 3) := dkAa287.2.2.2.2.1
theorem dX9_canInherit_10 : decode cX9_canInherit 10 = .ok (.iload_n 2, 1) := dkAa287.2.2.2.2.2.1
theorem dX9_canInherit_11 : decode cX9_canInherit 11 = .ok (.invokevirtual 147, 3) := dkAa287.2.2.2.2.2.2.1
theorem dX9_canInherit_14 : decode cX9_canInherit 14 = .ok (.ifCond .eq 12, 3) := dkAa287.2.2.2.2.2.2.2.1
theorem dX9_canInherit_17 : decode cX9_canInherit 17 = .ok (.iload_n 2, 1) := dkAa287.2.2.2.2.2.2.2.2.1
theorem dX9_canInherit_18 : decode cX9_canInherit 18 = .ok (.iload_n 1, 1) := dkAa287.2.2.2.2.2.2.2.2.2.1
theorem dX9_canInherit_19 : decode cX9_canInherit 19 = .ok (.if_icmp .eq 7, 3) := dkAa287.2.2.2.2.2.2.2.2.2.2.1
theorem dX9_canInherit_22 : decode cX9_canInherit 22 = .ok (.iconst 1, 1) := dkAa287.2.2.2.2.2.2.2.2.2.2.2
set_option maxRecDepth 100000 in
theorem dkAa288 : decode cX9_canInherit 23 = .ok (.goto 4, 3) ∧ decode cX9_canInherit 26 = .ok (.iconst 0, 1) ∧ decode cX9_canInherit 27 = .ok (.ireturn, 1) := by decide +kernel
theorem dX9_canInherit_23 : decode cX9_canInherit 23 = .ok (.goto 4, 3) := dkAa288.1
theorem dX9_canInherit_26 : decode cX9_canInherit 26 = .ok (.iconst 0, 1) := dkAa288.2.1
theorem dX9_canInherit_27 : decode cX9_canInherit 27 = .ok (.ireturn, 1) := dkAa288.2.2
set_option maxRecDepth 100000 in
theorem dkAa289 : decode cX9_passYear 0 = .ok (.aload_n 0, 1) ∧ decode cX9_passYear 1 = .ok (.getfield 52, 3) ∧ decode cX9_passYear 4 = .ok (.aload_n 0, 1) ∧ decode cX9_passYear 5 = .ok (.getfield 19, 3) ∧ decode cX9_passYear 8 = .ok (.getfield 117, 3) ∧ decode cX9_passYear 11 = .ok (.invokevirtual 308, 3) ∧ decode cX9_passYear 14 = .ok (.istore_n 1, 1) ∧ decode cX9_passYear 15 = .ok (.aload_n 0, 1) ∧ decode cX9_passYear 16 = .ok (.getfield 52, 3) ∧ decode cX9_passYear 19 = .ok (.iconst 3, 1) ∧ decode cX9_passYear 20 = .ok (.invokevirtual 308, 3) ∧ decode cX9_passYear 23 = .ok (.istore_n 2, 1) := by decide +kernel
theorem dX9_passYear_0 : decode cX9_passYear 0 = .ok (.aload_n 0, 1) := dkAa289.1
theorem dX9_passYear_1 : decode cX9_passYear 1 = .ok (.getfield 52, 3) := dkAa289.2.1
theorem dX9_passYear_4 : decode cX9_passYear 4 = .ok (.aload_n 0, 1) := dkAa289.2.2.1
theorem dX9_passYear_5 : decode cX9_passYear 5 = .ok (.getfield 19, 3) := dkAa289.2.2.2.1
theorem dX9_passYear_8 : decode cX9_passYear 8 = .ok (.getfield 117, 3) := dkAa289.2.2.2.2.1
theorem dX9_passYear_11 : decode cX9_passYear 11 = .ok (.invokevirtual 308, 3) := dkAa289.2.2.2.2.2.1
theorem dX9_passYear_14 : decode cX9_passYear 14 = .ok (.istore_n 1, 1) := dkAa289.2.2.2.2.2.2.1
theorem dX9_passYear_15 : decode cX9_passYear 15 = .ok (.aload_n 0, 1) := dkAa289.2.2.2.2.2.2.2.1
theorem dX9_passYear_16 : decode cX9_passYear 16 = .ok (.getfield 52, 3) := dkAa289.2.2.2.2.2.2.2.2.1
theorem dX9_passYear_19 : decode cX9_passYear 19 = .ok (.iconst 3, 1) := dkAa289.2.2.2.2.2.2.2.2.2.1
theorem dX9_passYear_20 : decode cX9_passYear 20 = .ok (.invokevirtual 308, 3) := dkAa289.2.2.2.2.2.2.2.2.2.2.1
theorem dX9_passYear_23 : decode cX9_passYear 23 = .ok (.istore_n 2, 1) := dkAa289.2.2.2.2.2.2.2.2.2.2.2
set_option maxRecDepth 100000 in
theorem dkAa290 : decode cX9_passYear 24 = .ok (.iload_n 2, 1) ∧ decode cX9_passYear 25 = .ok (.ifCond .ne 15, 3) ∧ decode cX9_passYear 28 = .ok (.aload_n 0, 1) ∧ decode cX9_passYear 29 = .ok (.getfield 29, 3) ∧ decode cX9_passYear 32 = .ok (.iload_n 1, 1) ∧ decode cX9_passYear 33 = .ok (.invokevirtual 184, 3) ∧ decode cX9_passYear 36 = .ok (.pop, 1) ∧ decode cX9_passYear 37 = .ok (.goto 36, 3) ∧ decode cX9_passYear 40 = .ok (.iload_n 2, 1) ∧ decode cX9_passYear 41 = .ok (.iconst 1, 1) ∧ decode cX9_passYear 42 = .ok (.if_icmp .ne 31, 3) ∧ decode cX9_passYear 45 = .ok (.aload_n 0, 1) := by decide +kernel
theorem dX9_passYear_24 : decode cX9_passYear 24 = .ok (.iload_n 2, 1) := dkAa290.1
theorem dX9_passYear_25 : decode cX9_passYear 25 = .ok (.ifCond .ne 15, 3) := dkAa290.2.1
theorem dX9_passYear_28 : decode cX9_passYear 28 = .ok (.aload_n 0, 1) := dkAa290.2.2.1
theorem dX9_passYear_29 : decode cX9_passYear 29 = .ok (.getfield 29, 3) := dkAa290.2.2.2.1
theorem dX9_passYear_32 : decode cX9_passYear 32 = .ok (.iload_n 1, 1) := dkAa290.2.2.2.2.1
theorem dX9_passYear_33 : decode cX9_passYear 33 = .ok (.invokevirtual 184, 3) := dkAa290.2.2.2.2.2.1
theorem dX9_passYear_36 : decode cX9_passYear 36 = .ok (.pop, 1) := dkAa290.2.2.2.2.2.2.1
theorem dX9_passYear_37 : decode cX9_passYear 37 = .ok (.goto 36, 3) := dkAa290.2.2.2.2.2.2.2.1
theorem dX9_passYear_40 : decode cX9_passYear 40 = .ok (.iload_n 2, 1) := dkAa290.2.2.2.2.2.2.2.2.1
theorem dX9_passYear_41 : decode cX9_passYear 41 = .ok (.iconst 1, 1) := dkAa290.2.2.2.2.2.2.2.2.2.1
theorem dX9_passYear_42 : decode cX9_passYear 42 = .ok (.if_icmp .ne 31, 3) := dkAa290.2.2.2.2.2.2.2.2.2.2.1
theorem dX9_passYear_45 : decode cX9_passYear 45 = .ok (.aload_n 0, 1) := dkAa290.2.2.2.2.2.2.2.2.2.2.2
set_option maxRecDepth 100000 in
theorem dkAa291 : decode cX9_passYear 46 = .ok (.getfield 29, 3) ∧ decode cX9_passYear 49 = .ok (.iload_n 1, 1) ∧ decode cX9_passYear 50 = .ok (.iload_n 1, 1) ∧ decode cX9_passYear 51 = .ok (.iconst 1, 1) ∧ decode cX9_passYear 52 = .ok (.iadd, 1) ∧ decode cX9_passYear 53 = .ok (.aload_n 0, 1) ∧ decode cX9_passYear 54 = .ok (.getfield 19, 3) ∧ decode cX9_passYear 57 = .ok (.getfield 117, 3) ∧ decode cX9_passYear 60 = .ok (.if_icmp .ge 9, 3) ∧ decode cX9_passYear 63 = .ok (.iload_n 1, 1) ∧ decode cX9_passYear 64 = .ok (.iconst 1, 1) ∧ decode cX9_passYear 65 = .ok (.iadd, 1) := by decide +kernel
theorem dX9_passYear_46 : decode cX9_passYear 46 = .ok (.getfield 29, 3) := dkAa291.1
theorem dX9_passYear_49 : decode cX9_passYear 49 = .ok (.iload_n 1, 1) := dkAa291.2.1
theorem dX9_passYear_50 : decode cX9_passYear 50 = .ok (.iload_n 1, 1) := dkAa291.2.2.1
theorem dX9_passYear_51 : decode cX9_passYear 51 = .ok (.iconst 1, 1) := dkAa291.2.2.2.1
theorem dX9_passYear_52 : decode cX9_passYear 52 = .ok (.iadd, 1) := dkAa291.2.2.2.2.1
theorem dX9_passYear_53 : decode cX9_passYear 53 = .ok (.aload_n 0, 1) := dkAa291.2.2.2.2.2.1
theorem dX9_passYear_54 : decode cX9_passYear 54 = .ok (.getfield 19, 3) := dkAa291.2.2.2.2.2.2.1
theorem dX9_passYear_57 : decode cX9_passYear 57 = .ok (.getfield 117, 3) := dkAa291.2.2.2.2.2.2.2.1
theorem dX9_passYear_60 : decode cX9_passYear 60 = .ok (.if_icmp .ge 9, 3) := dkAa291.2.2.2.2.2.2.2.2.1
theorem dX9_passYear_63 : decode cX9_passYear 63 = .ok (.iload_n 1, 1) := dkAa291.2.2.2.2.2.2.2.2.2.1
theorem dX9_passYear_64 : decode cX9_passYear 64 = .ok (.iconst 1, 1) := dkAa291.2.2.2.2.2.2.2.2.2.2.1
theorem dX9_passYear_65 : decode cX9_passYear 65 = .ok (.iadd, 1) := dkAa291.2.2.2.2.2.2.2.2.2.2.2
set_option maxRecDepth 100000 in
theorem dkAa292 : decode cX9_passYear 66 = .ok (.goto 4, 3) ∧ decode cX9_passYear 69 = .ok (.iconst 0, 1) ∧ decode cX9_passYear 70 = .ok (.invokevirtual 191, 3) ∧ decode cX9_passYear 73 = .ok (.return_, 1) := by decide +kernel
theorem dX9_passYear_66 : decode cX9_passYear 66 = .ok (.goto 4, 3) := dkAa292.1
theorem dX9_passYear_69 : decode cX9_passYear 69 = .ok (.iconst 0, 1) := dkAa292.2.1
theorem dX9_passYear_70 : decode cX9_passYear 70 = .ok (.invokevirtual 191, 3) := dkAa292.2.2.1
theorem dX9_passYear_73 : decode cX9_passYear 73 = .ok (.return_, 1) := dkAa292.2.2.2
set_option maxRecDepth 100000 in
theorem dkAa293 : decode cX9_tryLine 0 = .ok (.aload_n 0, 1) ∧ decode cX9_tryLine 1 = .ok (.getfield 33, 3) ∧ decode cX9_tryLine 4 = .ok (.aload_n 0, 1) ∧ decode cX9_tryLine 5 = .ok (.getfield 29, 3) ∧ decode cX9_tryLine 8 = .ok (.invokevirtual 302, 3) ∧ decode cX9_tryLine 11 = .ok (.aload_n 0, 1) ∧ decode cX9_tryLine 12 = .ok (.getfield 74, 3) ∧ decode cX9_tryLine 15 = .ok (.aload_n 0, 1) ∧ decode cX9_tryLine 16 = .ok (.getfield 33, 3) ∧ decode cX9_tryLine 19 = .ok (.invokevirtual 311, 3) ∧ decode cX9_tryLine 22 = .ok (.return_, 1) := by decide +kernel
theorem dX9_tryLine_0 : decode cX9_tryLine 0 = .ok (.aload_n 0, 1) := dkAa293.1
theorem dX9_tryLine_1 : decode cX9_tryLine 1 = .ok (.getfield 33, 3) := dkAa293.2.1
theorem dX9_tryLine_4 : decode cX9_tryLine 4 = .ok (.aload_n 0, 1) := dkAa293.2.2.1
theorem dX9_tryLine_5 : decode cX9_tryLine 5 = .ok (.getfield 29, 3) := dkAa293.2.2.2.1
theorem dX9_tryLine_8 : decode cX9_tryLine 8 = .ok (.invokevirtual 302, 3) := dkAa293.2.2.2.2.1
theorem dX9_tryLine_11 : decode cX9_tryLine 11 = .ok (.aload_n 0, 1) := dkAa293.2.2.2.2.2.1
theorem dX9_tryLine_12 : decode cX9_tryLine 12 = .ok (.getfield 74, 3) := dkAa293.2.2.2.2.2.2.1
theorem dX9_tryLine_15 : decode cX9_tryLine 15 = .ok (.aload_n 0, 1) := dkAa293.2.2.2.2.2.2.2.1
theorem dX9_tryLine_16 : decode cX9_tryLine 16 = .ok (.getfield 33, 3) := dkAa293.2.2.2.2.2.2.2.2.1
theorem dX9_tryLine_19 : decode cX9_tryLine 19 = .ok (.invokevirtual 311, 3) := dkAa293.2.2.2.2.2.2.2.2.2.1
theorem dX9_tryLine_22 : decode cX9_tryLine 22 = .ok (.return_, 1) := dkAa293.2.2.2.2.2.2.2.2.2.2
set_option maxRecDepth 100000 in
theorem dkAa294 : decode cX9_fewestWills 0 = .ok (.aload_n 0, 1) ∧ decode cX9_fewestWills 1 = .ok (.invokevirtual 223, 3) ∧ decode cX9_fewestWills 4 = .ok (.aload_n 0, 1) ∧ decode cX9_fewestWills 5 = .ok (.getfield 33, 3) ∧ decode cX9_fewestWills 8 = .ok (.iload_n 1, 1) ∧ decode cX9_fewestWills 9 = .ok (.invokevirtual 151, 3) ∧ decode cX9_fewestWills 12 = .ok (.iload_n 2, 1) ∧ decode cX9_fewestWills 13 = .ok (.if_icmp .ne 5, 3) ∧ decode cX9_fewestWills 16 = .ok (.iconst 0, 1) ∧ decode cX9_fewestWills 17 = .ok (.ireturn, 1) ∧ decode cX9_fewestWills 18 = .ok (.iconst 0, 1) ∧ decode cX9_fewestWills 19 = .ok (.istore_n 3, 1) := by decide +kernel
theorem dX9_fewestWills_0 : decode cX9_fewestWills 0 = .ok (.aload_n 0, 1) := dkAa294.1
theorem dX9_fewestWills_1 : decode cX9_fewestWills 1 = .ok (.invokevirtual 223, 3) := dkAa294.2.1
theorem dX9_fewestWills_4 : decode cX9_fewestWills 4 = .ok (.aload_n 0, 1) := dkAa294.2.2.1
theorem dX9_fewestWills_5 : decode cX9_fewestWills 5 = .ok (.getfield 33, 3) := dkAa294.2.2.2.1
theorem dX9_fewestWills_8 : decode cX9_fewestWills 8 = .ok (.iload_n 1, 1) := dkAa294.2.2.2.2.1
theorem dX9_fewestWills_9 : decode cX9_fewestWills 9 = .ok (.invokevirtual 151, 3) := dkAa294.2.2.2.2.2.1
theorem dX9_fewestWills_12 : decode cX9_fewestWills 12 = .ok (.iload_n 2, 1) := dkAa294.2.2.2.2.2.2.1
theorem dX9_fewestWills_13 : decode cX9_fewestWills 13 = .ok (.if_icmp .ne 5, 3) := dkAa294.2.2.2.2.2.2.2.1
theorem dX9_fewestWills_16 : decode cX9_fewestWills 16 = .ok (.iconst 0, 1) := dkAa294.2.2.2.2.2.2.2.2.1
theorem dX9_fewestWills_17 : decode cX9_fewestWills 17 = .ok (.ireturn, 1) := dkAa294.2.2.2.2.2.2.2.2.2.1
theorem dX9_fewestWills_18 : decode cX9_fewestWills 18 = .ok (.iconst 0, 1) := dkAa294.2.2.2.2.2.2.2.2.2.2.1
theorem dX9_fewestWills_19 : decode cX9_fewestWills 19 = .ok (.istore_n 3, 1) := dkAa294.2.2.2.2.2.2.2.2.2.2.2
set_option maxRecDepth 100000 in
theorem dkAa295 : decode cX9_fewestWills 20 = .ok (.iload_n 3, 1) ∧ decode cX9_fewestWills 21 = .ok (.aload_n 0, 1) ∧ decode cX9_fewestWills 22 = .ok (.getfield 19, 3) ∧ decode cX9_fewestWills 25 = .ok (.getfield 117, 3) ∧ decode cX9_fewestWills 28 = .ok (.if_icmp .ge 34, 3) ∧ decode cX9_fewestWills 31 = .ok (.aload_n 0, 1) ∧ decode cX9_fewestWills 32 = .ok (.getfield 74, 3) ∧ decode cX9_fewestWills 35 = .ok (.iload_n 3, 1) ∧ decode cX9_fewestWills 36 = .ok (.invokevirtual 314, 3) ∧ decode cX9_fewestWills 39 = .ok (.ifCond .eq 17, 3) ∧ decode cX9_fewestWills 42 = .ok (.aload_n 0, 1) ∧ decode cX9_fewestWills 43 = .ok (.iload_n 3, 1) := by decide +kernel
theorem dX9_fewestWills_20 : decode cX9_fewestWills 20 = .ok (.iload_n 3, 1) := dkAa295.1
theorem dX9_fewestWills_21 : decode cX9_fewestWills 21 = .ok (.aload_n 0, 1) := dkAa295.2.1
theorem dX9_fewestWills_22 : decode cX9_fewestWills 22 = .ok (.getfield 19, 3) := dkAa295.2.2.1
theorem dX9_fewestWills_25 : decode cX9_fewestWills 25 = .ok (.getfield 117, 3) := dkAa295.2.2.2.1
theorem dX9_fewestWills_28 : decode cX9_fewestWills 28 = .ok (.if_icmp .ge 34, 3) := dkAa295.2.2.2.2.1
theorem dX9_fewestWills_31 : decode cX9_fewestWills 31 = .ok (.aload_n 0, 1) := dkAa295.2.2.2.2.2.1
theorem dX9_fewestWills_32 : decode cX9_fewestWills 32 = .ok (.getfield 74, 3) := dkAa295.2.2.2.2.2.2.1
theorem dX9_fewestWills_35 : decode cX9_fewestWills 35 = .ok (.iload_n 3, 1) := dkAa295.2.2.2.2.2.2.2.1
theorem dX9_fewestWills_36 : decode cX9_fewestWills 36 = .ok (.invokevirtual 314, 3) := dkAa295.2.2.2.2.2.2.2.2.1
theorem dX9_fewestWills_39 : decode cX9_fewestWills 39 = .ok (.ifCond .eq 17, 3) := dkAa295.2.2.2.2.2.2.2.2.2.1
theorem dX9_fewestWills_42 : decode cX9_fewestWills 42 = .ok (.aload_n 0, 1) := dkAa295.2.2.2.2.2.2.2.2.2.2.1
theorem dX9_fewestWills_43 : decode cX9_fewestWills 43 = .ok (.iload_n 3, 1) := dkAa295.2.2.2.2.2.2.2.2.2.2.2
set_option maxRecDepth 100000 in
theorem dkAa296 : decode cX9_fewestWills 44 = .ok (.iload_n 1, 1) ∧ decode cX9_fewestWills 45 = .ok (.iload_n 2, 1) ∧ decode cX9_fewestWills 46 = .ok (.invokevirtual 317, 3) ∧ decode cX9_fewestWills 49 = .ok (.ifCond .eq 7, 3) ∧ decode cX9_fewestWills 52 = .ok (.iconst 1, 1) ∧ decode cX9_fewestWills 53 = .ok (.iload_n 3, 1) ∧ decode cX9_fewestWills 54 = .ok (.ishl, 1) ∧ decode cX9_fewestWills 55 = .ok (.ireturn, 1) ∧ decode cX9_fewestWills 56 = .ok (.iinc 3 1, 3) ∧ decode cX9_fewestWills 59 = .ok (.goto (-39), 3) ∧ decode cX9_fewestWills 62 = .ok (.iconst 1, 1) ∧ decode cX9_fewestWills 63 = .ok (.istore_n 3, 1) := by decide +kernel
theorem dX9_fewestWills_44 : decode cX9_fewestWills 44 = .ok (.iload_n 1, 1) := dkAa296.1
theorem dX9_fewestWills_45 : decode cX9_fewestWills 45 = .ok (.iload_n 2, 1) := dkAa296.2.1
theorem dX9_fewestWills_46 : decode cX9_fewestWills 46 = .ok (.invokevirtual 317, 3) := dkAa296.2.2.1
theorem dX9_fewestWills_49 : decode cX9_fewestWills 49 = .ok (.ifCond .eq 7, 3) := dkAa296.2.2.2.1
theorem dX9_fewestWills_52 : decode cX9_fewestWills 52 = .ok (.iconst 1, 1) := dkAa296.2.2.2.2.1
theorem dX9_fewestWills_53 : decode cX9_fewestWills 53 = .ok (.iload_n 3, 1) := dkAa296.2.2.2.2.2.1
theorem dX9_fewestWills_54 : decode cX9_fewestWills 54 = .ok (.ishl, 1) := dkAa296.2.2.2.2.2.2.1
theorem dX9_fewestWills_55 : decode cX9_fewestWills 55 = .ok (.ireturn, 1) := dkAa296.2.2.2.2.2.2.2.1
theorem dX9_fewestWills_56 : decode cX9_fewestWills 56 = .ok (.iinc 3 1, 3) := dkAa296.2.2.2.2.2.2.2.2.1
theorem dX9_fewestWills_59 : decode cX9_fewestWills 59 = .ok (.goto (-39), 3) := dkAa296.2.2.2.2.2.2.2.2.2.1
theorem dX9_fewestWills_62 : decode cX9_fewestWills 62 = .ok (.iconst 1, 1) := dkAa296.2.2.2.2.2.2.2.2.2.2.1
theorem dX9_fewestWills_63 : decode cX9_fewestWills 63 = .ok (.istore_n 3, 1) := dkAa296.2.2.2.2.2.2.2.2.2.2.2
set_option maxRecDepth 100000 in
theorem dkAa297 : decode cX9_fewestWills 64 = .ok (.iload_n 3, 1) ∧ decode cX9_fewestWills 65 = .ok (.aload_n 0, 1) ∧ decode cX9_fewestWills 66 = .ok (.getfield 19, 3) ∧ decode cX9_fewestWills 69 = .ok (.getfield 117, 3) ∧ decode cX9_fewestWills 72 = .ok (.if_icmp .ge 68, 3) ∧ decode cX9_fewestWills 75 = .ok (.iconst 0, 1) ∧ decode cX9_fewestWills 76 = .ok (.istore 4, 2) ∧ decode cX9_fewestWills 78 = .ok (.iload 4, 2) ∧ decode cX9_fewestWills 80 = .ok (.iload_n 3, 1) ∧ decode cX9_fewestWills 81 = .ok (.if_icmp .ge 53, 3) ∧ decode cX9_fewestWills 84 = .ok (.aload_n 0, 1) ∧ decode cX9_fewestWills 85 = .ok (.getfield 74, 3) := by decide +kernel
theorem dX9_fewestWills_64 : decode cX9_fewestWills 64 = .ok (.iload_n 3, 1) := dkAa297.1
theorem dX9_fewestWills_65 : decode cX9_fewestWills 65 = .ok (.aload_n 0, 1) := dkAa297.2.1
theorem dX9_fewestWills_66 : decode cX9_fewestWills 66 = .ok (.getfield 19, 3) := dkAa297.2.2.1
theorem dX9_fewestWills_69 : decode cX9_fewestWills 69 = .ok (.getfield 117, 3) := dkAa297.2.2.2.1
theorem dX9_fewestWills_72 : decode cX9_fewestWills 72 = .ok (.if_icmp .ge 68, 3) := dkAa297.2.2.2.2.1
theorem dX9_fewestWills_75 : decode cX9_fewestWills 75 = .ok (.iconst 0, 1) := dkAa297.2.2.2.2.2.1
theorem dX9_fewestWills_76 : decode cX9_fewestWills 76 = .ok (.istore 4, 2) := dkAa297.2.2.2.2.2.2.1
theorem dX9_fewestWills_78 : decode cX9_fewestWills 78 = .ok (.iload 4, 2) := dkAa297.2.2.2.2.2.2.2.1
theorem dX9_fewestWills_80 : decode cX9_fewestWills 80 = .ok (.iload_n 3, 1) := dkAa297.2.2.2.2.2.2.2.2.1
theorem dX9_fewestWills_81 : decode cX9_fewestWills 81 = .ok (.if_icmp .ge 53, 3) := dkAa297.2.2.2.2.2.2.2.2.2.1
theorem dX9_fewestWills_84 : decode cX9_fewestWills 84 = .ok (.aload_n 0, 1) := dkAa297.2.2.2.2.2.2.2.2.2.2.1
theorem dX9_fewestWills_85 : decode cX9_fewestWills 85 = .ok (.getfield 74, 3) := dkAa297.2.2.2.2.2.2.2.2.2.2.2
set_option maxRecDepth 100000 in
theorem dkAa298 : decode cX9_fewestWills 88 = .ok (.iload 4, 2) ∧ decode cX9_fewestWills 90 = .ok (.invokevirtual 314, 3) ∧ decode cX9_fewestWills 93 = .ok (.ifCond .eq 35, 3) ∧ decode cX9_fewestWills 96 = .ok (.aload_n 0, 1) ∧ decode cX9_fewestWills 97 = .ok (.getfield 74, 3) ∧ decode cX9_fewestWills 100 = .ok (.iload_n 3, 1) ∧ decode cX9_fewestWills 101 = .ok (.invokevirtual 314, 3) ∧ decode cX9_fewestWills 104 = .ok (.ifCond .eq 24, 3) ∧ decode cX9_fewestWills 107 = .ok (.aload_n 0, 1) ∧ decode cX9_fewestWills 108 = .ok (.iload 4, 2) ∧ decode cX9_fewestWills 110 = .ok (.iload_n 3, 1) ∧ decode cX9_fewestWills 111 = .ok (.iload_n 1, 1) := by decide +kernel
theorem dX9_fewestWills_88 : decode cX9_fewestWills 88 = .ok (.iload 4, 2) := dkAa298.1
theorem dX9_fewestWills_90 : decode cX9_fewestWills 90 = .ok (.invokevirtual 314, 3) := dkAa298.2.1
theorem dX9_fewestWills_93 : decode cX9_fewestWills 93 = .ok (.ifCond .eq 35, 3) := dkAa298.2.2.1
theorem dX9_fewestWills_96 : decode cX9_fewestWills 96 = .ok (.aload_n 0, 1) := dkAa298.2.2.2.1
theorem dX9_fewestWills_97 : decode cX9_fewestWills 97 = .ok (.getfield 74, 3) := dkAa298.2.2.2.2.1
theorem dX9_fewestWills_100 : decode cX9_fewestWills 100 = .ok (.iload_n 3, 1) := dkAa298.2.2.2.2.2.1
theorem dX9_fewestWills_101 : decode cX9_fewestWills 101 = .ok (.invokevirtual 314, 3) := dkAa298.2.2.2.2.2.2.1
theorem dX9_fewestWills_104 : decode cX9_fewestWills 104 = .ok (.ifCond .eq 24, 3) := dkAa298.2.2.2.2.2.2.2.1
theorem dX9_fewestWills_107 : decode cX9_fewestWills 107 = .ok (.aload_n 0, 1) := dkAa298.2.2.2.2.2.2.2.2.1
theorem dX9_fewestWills_108 : decode cX9_fewestWills 108 = .ok (.iload 4, 2) := dkAa298.2.2.2.2.2.2.2.2.2.1
theorem dX9_fewestWills_110 : decode cX9_fewestWills 110 = .ok (.iload_n 3, 1) := dkAa298.2.2.2.2.2.2.2.2.2.2.1
theorem dX9_fewestWills_111 : decode cX9_fewestWills 111 = .ok (.iload_n 1, 1) := dkAa298.2.2.2.2.2.2.2.2.2.2.2
set_option maxRecDepth 100000 in
theorem dkAa299 : decode cX9_fewestWills 112 = .ok (.iload_n 2, 1) ∧ decode cX9_fewestWills 113 = .ok (.invokevirtual 321, 3) ∧ decode cX9_fewestWills 116 = .ok (.ifCond .eq 12, 3) ∧ decode cX9_fewestWills 119 = .ok (.iconst 1, 1) ∧ decode cX9_fewestWills 120 = .ok (.iload 4, 2) ∧ decode cX9_fewestWills 122 = .ok (.ishl, 1) ∧ decode cX9_fewestWills 123 = .ok (.iconst 1, 1) ∧ decode cX9_fewestWills 124 = .ok (.iload_n 3, 1) ∧ decode cX9_fewestWills 125 = .ok (.ishl, 1) ∧ decode cX9_fewestWills 126 = .ok (.ior, 1) ∧ decode cX9_fewestWills 127 = .ok (.ireturn, 1) ∧ decode cX9_fewestWills 128 = .ok (.iinc 4 1, 3) := by decide +kernel
theorem dX9_fewestWills_112 : decode cX9_fewestWills 112 = .ok (.iload_n 2, 1) := dkAa299.1
theorem dX9_fewestWills_113 : decode cX9_fewestWills 113 = .ok (.invokevirtual 321, 3) := dkAa299.2.1
theorem dX9_fewestWills_116 : decode cX9_fewestWills 116 = .ok (.ifCond .eq 12, 3) := dkAa299.2.2.1
theorem dX9_fewestWills_119 : decode cX9_fewestWills 119 = .ok (.iconst 1, 1) := dkAa299.2.2.2.1
theorem dX9_fewestWills_120 : decode cX9_fewestWills 120 = .ok (.iload 4, 2) := dkAa299.2.2.2.2.1
theorem dX9_fewestWills_122 : decode cX9_fewestWills 122 = .ok (.ishl, 1) := dkAa299.2.2.2.2.2.1
theorem dX9_fewestWills_123 : decode cX9_fewestWills 123 = .ok (.iconst 1, 1) := dkAa299.2.2.2.2.2.2.1
theorem dX9_fewestWills_124 : decode cX9_fewestWills 124 = .ok (.iload_n 3, 1) := dkAa299.2.2.2.2.2.2.2.1
theorem dX9_fewestWills_125 : decode cX9_fewestWills 125 = .ok (.ishl, 1) := dkAa299.2.2.2.2.2.2.2.2.1
theorem dX9_fewestWills_126 : decode cX9_fewestWills 126 = .ok (.ior, 1) := dkAa299.2.2.2.2.2.2.2.2.2.1
theorem dX9_fewestWills_127 : decode cX9_fewestWills 127 = .ok (.ireturn, 1) := dkAa299.2.2.2.2.2.2.2.2.2.2.1
theorem dX9_fewestWills_128 : decode cX9_fewestWills 128 = .ok (.iinc 4 1, 3) := dkAa299.2.2.2.2.2.2.2.2.2.2.2
set_option maxRecDepth 100000 in
theorem dkAa300 : decode cX9_fewestWills 131 = .ok (.goto (-53), 3) ∧ decode cX9_fewestWills 134 = .ok (.iinc 3 1, 3) ∧ decode cX9_fewestWills 137 = .ok (.goto (-73), 3) ∧ decode cX9_fewestWills 140 = .ok (.iconst (-1), 1) ∧ decode cX9_fewestWills 141 = .ok (.ireturn, 1) := by decide +kernel
theorem dX9_fewestWills_131 : decode cX9_fewestWills 131 = .ok (.goto (-53), 3) := dkAa300.1
theorem dX9_fewestWills_134 : decode cX9_fewestWills 134 = .ok (.iinc 3 1, 3) := dkAa300.2.1
theorem dX9_fewestWills_137 : decode cX9_fewestWills 137 = .ok (.goto (-73), 3) := dkAa300.2.2.1
theorem dX9_fewestWills_140 : decode cX9_fewestWills 140 = .ok (.iconst (-1), 1) := dkAa300.2.2.2.1
theorem dX9_fewestWills_141 : decode cX9_fewestWills 141 = .ok (.ireturn, 1) := dkAa300.2.2.2.2
set_option maxRecDepth 100000 in
theorem dkAa301 : decode cX9_helpsAlone 0 = .ok (.iconst 0, 1) ∧ decode cX9_helpsAlone 1 = .ok (.istore 4, 2) ∧ decode cX9_helpsAlone 3 = .ok (.iload 4, 2) ∧ decode cX9_helpsAlone 5 = .ok (.bipush 9, 2) ∧ decode cX9_helpsAlone 7 = .ok (.if_icmp .gt 67, 3) ∧ decode cX9_helpsAlone 10 = .ok (.aload_n 0, 1) ∧ decode cX9_helpsAlone 11 = .ok (.iload_n 1, 1) ∧ decode cX9_helpsAlone 12 = .ok (.iload 4, 2) ∧ decode cX9_helpsAlone 14 = .ok (.invokevirtual 205, 3) ∧ decode cX9_helpsAlone 17 = .ok (.ifCond .eq 51, 3) ∧ decode cX9_helpsAlone 20 = .ok (.aload_n 0, 1) ∧ decode cX9_helpsAlone 21 = .ok (.getfield 33, 3) := by decide +kernel
theorem dX9_helpsAlone_0 : decode cX9_helpsAlone 0 = .ok (.iconst 0, 1) := dkAa301.1
theorem dX9_helpsAlone_1 : decode cX9_helpsAlone 1 = .ok (.istore 4, 2) := dkAa301.2.1
theorem dX9_helpsAlone_3 : decode cX9_helpsAlone 3 = .ok (.iload 4, 2) := dkAa301.2.2.1
theorem dX9_helpsAlone_5 : decode cX9_helpsAlone 5 = .ok (.bipush 9, 2) := dkAa301.2.2.2.1
theorem dX9_helpsAlone_7 : decode cX9_helpsAlone 7 = .ok (.if_icmp .gt 67, 3) := dkAa301.2.2.2.2.1
theorem dX9_helpsAlone_10 : decode cX9_helpsAlone 10 = .ok (.aload_n 0, 1) := dkAa301.2.2.2.2.2.1
theorem dX9_helpsAlone_11 : decode cX9_helpsAlone 11 = .ok (.iload_n 1, 1) := dkAa301.2.2.2.2.2.2.1
theorem dX9_helpsAlone_12 : decode cX9_helpsAlone 12 = .ok (.iload 4, 2) := dkAa301.2.2.2.2.2.2.2.1
theorem dX9_helpsAlone_14 : decode cX9_helpsAlone 14 = .ok (.invokevirtual 205, 3) := dkAa301.2.2.2.2.2.2.2.2.1
theorem dX9_helpsAlone_17 : decode cX9_helpsAlone 17 = .ok (.ifCond .eq 51, 3) := dkAa301.2.2.2.2.2.2.2.2.2.1
theorem dX9_helpsAlone_20 : decode cX9_helpsAlone 20 = .ok (.aload_n 0, 1) := dkAa301.2.2.2.2.2.2.2.2.2.2.1
theorem dX9_helpsAlone_21 : decode cX9_helpsAlone 21 = .ok (.getfield 33, 3) := dkAa301.2.2.2.2.2.2.2.2.2.2.2
set_option maxRecDepth 100000 in
theorem dkAa302 : decode cX9_helpsAlone 24 = .ok (.aload_n 0, 1) ∧ decode cX9_helpsAlone 25 = .ok (.getfield 29, 3) ∧ decode cX9_helpsAlone 28 = .ok (.invokevirtual 302, 3) ∧ decode cX9_helpsAlone 31 = .ok (.aload_n 0, 1) ∧ decode cX9_helpsAlone 32 = .ok (.getfield 33, 3) ∧ decode cX9_helpsAlone 35 = .ok (.iload_n 1, 1) ∧ decode cX9_helpsAlone 36 = .ok (.iload 4, 2) ∧ decode cX9_helpsAlone 38 = .ok (.bipush 9, 2) ∧ decode cX9_helpsAlone 40 = .ok (.invokevirtual 208, 3) ∧ decode cX9_helpsAlone 43 = .ok (.aload_n 0, 1) ∧ decode cX9_helpsAlone 44 = .ok (.getfield 74, 3) ∧ decode cX9_helpsAlone 47 = .ok (.aload_n 0, 1) := by decide +kernel
theorem dX9_helpsAlone_24 : decode cX9_helpsAlone 24 = .ok (.aload_n 0, 1) := dkAa302.1
theorem dX9_helpsAlone_25 : decode cX9_helpsAlone 25 = .ok (.getfield 29, 3) := dkAa302.2.1
theorem dX9_helpsAlone_28 : decode cX9_helpsAlone 28 = .ok (.invokevirtual 302, 3) := dkAa302.2.2.1
theorem dX9_helpsAlone_31 : decode cX9_helpsAlone 31 = .ok (.aload_n 0, 1) := dkAa302.2.2.2.1
theorem dX9_helpsAlone_32 : decode cX9_helpsAlone 32 = .ok (.getfield 33, 3) := dkAa302.2.2.2.2.1
theorem dX9_helpsAlone_35 : decode cX9_helpsAlone 35 = .ok (.iload_n 1, 1) := dkAa302.2.2.2.2.2.1
theorem dX9_helpsAlone_36 : decode cX9_helpsAlone 36 = .ok (.iload 4, 2) := dkAa302.2.2.2.2.2.2.1
theorem dX9_helpsAlone_38 : decode cX9_helpsAlone 38 = .ok (.bipush 9, 2) := dkAa302.2.2.2.2.2.2.2.1
theorem dX9_helpsAlone_40 : decode cX9_helpsAlone 40 = .ok (.invokevirtual 208, 3) := dkAa302.2.2.2.2.2.2.2.2.1
theorem dX9_helpsAlone_43 : decode cX9_helpsAlone 43 = .ok (.aload_n 0, 1) := dkAa302.2.2.2.2.2.2.2.2.2.1
theorem dX9_helpsAlone_44 : decode cX9_helpsAlone 44 = .ok (.getfield 74, 3) := dkAa302.2.2.2.2.2.2.2.2.2.2.1
theorem dX9_helpsAlone_47 : decode cX9_helpsAlone 47 = .ok (.aload_n 0, 1) := dkAa302.2.2.2.2.2.2.2.2.2.2.2
set_option maxRecDepth 100000 in
theorem dkAa303 : decode cX9_helpsAlone 48 = .ok (.getfield 33, 3) ∧ decode cX9_helpsAlone 51 = .ok (.invokevirtual 311, 3) ∧ decode cX9_helpsAlone 54 = .ok (.aload_n 0, 1) ∧ decode cX9_helpsAlone 55 = .ok (.getfield 33, 3) ∧ decode cX9_helpsAlone 58 = .ok (.iload_n 2, 1) ∧ decode cX9_helpsAlone 59 = .ok (.invokevirtual 151, 3) ∧ decode cX9_helpsAlone 62 = .ok (.iload_n 3, 1) ∧ decode cX9_helpsAlone 63 = .ok (.if_icmp .ne 5, 3) ∧ decode cX9_helpsAlone 66 = .ok (.iconst 1, 1) ∧ decode cX9_helpsAlone 67 = .ok (.ireturn, 1) ∧ decode cX9_helpsAlone 68 = .ok (.iinc 4 1, 3) ∧ decode cX9_helpsAlone 71 = .ok (.goto (-68), 3) := by decide +kernel
theorem dX9_helpsAlone_48 : decode cX9_helpsAlone 48 = .ok (.getfield 33, 3) := dkAa303.1
theorem dX9_helpsAlone_51 : decode cX9_helpsAlone 51 = .ok (.invokevirtual 311, 3) := dkAa303.2.1
theorem dX9_helpsAlone_54 : decode cX9_helpsAlone 54 = .ok (.aload_n 0, 1) := dkAa303.2.2.1
theorem dX9_helpsAlone_55 : decode cX9_helpsAlone 55 = .ok (.getfield 33, 3) := dkAa303.2.2.2.1
theorem dX9_helpsAlone_58 : decode cX9_helpsAlone 58 = .ok (.iload_n 2, 1) := dkAa303.2.2.2.2.1
theorem dX9_helpsAlone_59 : decode cX9_helpsAlone 59 = .ok (.invokevirtual 151, 3) := dkAa303.2.2.2.2.2.1
theorem dX9_helpsAlone_62 : decode cX9_helpsAlone 62 = .ok (.iload_n 3, 1) := dkAa303.2.2.2.2.2.2.1
theorem dX9_helpsAlone_63 : decode cX9_helpsAlone 63 = .ok (.if_icmp .ne 5, 3) := dkAa303.2.2.2.2.2.2.2.1
theorem dX9_helpsAlone_66 : decode cX9_helpsAlone 66 = .ok (.iconst 1, 1) := dkAa303.2.2.2.2.2.2.2.2.1
theorem dX9_helpsAlone_67 : decode cX9_helpsAlone 67 = .ok (.ireturn, 1) := dkAa303.2.2.2.2.2.2.2.2.2.1
theorem dX9_helpsAlone_68 : decode cX9_helpsAlone 68 = .ok (.iinc 4 1, 3) := dkAa303.2.2.2.2.2.2.2.2.2.2.1
theorem dX9_helpsAlone_71 : decode cX9_helpsAlone 71 = .ok (.goto (-68), 3) := dkAa303.2.2.2.2.2.2.2.2.2.2.2
theorem dX9_helpsAlone_74 : decode cX9_helpsAlone 74 = .ok (.iconst 0, 1) := by decide +kernel
theorem dX9_helpsAlone_75 : decode cX9_helpsAlone 75 = .ok (.ireturn, 1) := by decide +kernel
set_option maxRecDepth 100000 in
theorem dkAa304 : decode cX9_helpTogether 0 = .ok (.iconst 0, 1) ∧ decode cX9_helpTogether 1 = .ok (.istore 5, 2) ∧ decode cX9_helpTogether 3 = .ok (.iload 5, 2) ∧ decode cX9_helpTogether 5 = .ok (.bipush 9, 2) ∧ decode cX9_helpTogether 7 = .ok (.if_icmp .gt 106, 3) ∧ decode cX9_helpTogether 10 = .ok (.iconst 0, 1) ∧ decode cX9_helpTogether 11 = .ok (.istore 6, 2) ∧ decode cX9_helpTogether 13 = .ok (.iload 6, 2) ∧ decode cX9_helpTogether 15 = .ok (.bipush 9, 2) ∧ decode cX9_helpTogether 17 = .ok (.if_icmp .gt 90, 3) ∧ decode cX9_helpTogether 20 = .ok (.aload_n 0, 1) ∧ decode cX9_helpTogether 21 = .ok (.iload_n 1, 1) := by decide +kernel
theorem dX9_helpTogether_0 : decode cX9_helpTogether 0 = .ok (.iconst 0, 1) := dkAa304.1
theorem dX9_helpTogether_1 : decode cX9_helpTogether 1 = .ok (.istore 5, 2) := dkAa304.2.1
theorem dX9_helpTogether_3 : decode cX9_helpTogether 3 = .ok (.iload 5, 2) := dkAa304.2.2.1
theorem dX9_helpTogether_5 : decode cX9_helpTogether 5 = .ok (.bipush 9, 2) := dkAa304.2.2.2.1
theorem dX9_helpTogether_7 : decode cX9_helpTogether 7 = .ok (.if_icmp .gt 106, 3) := dkAa304.2.2.2.2.1
theorem dX9_helpTogether_10 : decode cX9_helpTogether 10 = .ok (.iconst 0, 1) := dkAa304.2.2.2.2.2.1
theorem dX9_helpTogether_11 : decode cX9_helpTogether 11 = .ok (.istore 6, 2) := dkAa304.2.2.2.2.2.2.1
theorem dX9_helpTogether_13 : decode cX9_helpTogether 13 = .ok (.iload 6, 2) := dkAa304.2.2.2.2.2.2.2.1
theorem dX9_helpTogether_15 : decode cX9_helpTogether 15 = .ok (.bipush 9, 2) := dkAa304.2.2.2.2.2.2.2.2.1
theorem dX9_helpTogether_17 : decode cX9_helpTogether 17 = .ok (.if_icmp .gt 90, 3) := dkAa304.2.2.2.2.2.2.2.2.2.1
theorem dX9_helpTogether_20 : decode cX9_helpTogether 20 = .ok (.aload_n 0, 1) := dkAa304.2.2.2.2.2.2.2.2.2.2.1
theorem dX9_helpTogether_21 : decode cX9_helpTogether 21 = .ok (.iload_n 1, 1) := dkAa304.2.2.2.2.2.2.2.2.2.2.2
set_option maxRecDepth 100000 in
theorem dkAa305 : decode cX9_helpTogether 22 = .ok (.iload 5, 2) ∧ decode cX9_helpTogether 24 = .ok (.invokevirtual 205, 3) ∧ decode cX9_helpTogether 27 = .ok (.ifCond .eq 80, 3) ∧ decode cX9_helpTogether 30 = .ok (.aload_n 0, 1) ∧ decode cX9_helpTogether 31 = .ok (.iload_n 2, 1) ∧ decode cX9_helpTogether 32 = .ok (.iload 6, 2) ∧ decode cX9_helpTogether 34 = .ok (.invokevirtual 205, 3) ∧ decode cX9_helpTogether 37 = .ok (.ifCond .eq 64, 3) ∧ decode cX9_helpTogether 40 = .ok (.aload_n 0, 1) ∧ decode cX9_helpTogether 41 = .ok (.getfield 33, 3) ∧ decode cX9_helpTogether 44 = .ok (.aload_n 0, 1) ∧ decode cX9_helpTogether 45 = .ok (.getfield 29, 3) := by decide +kernel
theorem dX9_helpTogether_22 : decode cX9_helpTogether 22 = .ok (.iload 5, 2) := dkAa305.1
theorem dX9_helpTogether_24 : decode cX9_helpTogether 24 = .ok (.invokevirtual 205, 3) := dkAa305.2.1
theorem dX9_helpTogether_27 : decode cX9_helpTogether 27 = .ok (.ifCond .eq 80, 3) := dkAa305.2.2.1
theorem dX9_helpTogether_30 : decode cX9_helpTogether 30 = .ok (.aload_n 0, 1) := dkAa305.2.2.2.1
theorem dX9_helpTogether_31 : decode cX9_helpTogether 31 = .ok (.iload_n 2, 1) := dkAa305.2.2.2.2.1
theorem dX9_helpTogether_32 : decode cX9_helpTogether 32 = .ok (.iload 6, 2) := dkAa305.2.2.2.2.2.1
theorem dX9_helpTogether_34 : decode cX9_helpTogether 34 = .ok (.invokevirtual 205, 3) := dkAa305.2.2.2.2.2.2.1
theorem dX9_helpTogether_37 : decode cX9_helpTogether 37 = .ok (.ifCond .eq 64, 3) := dkAa305.2.2.2.2.2.2.2.1
theorem dX9_helpTogether_40 : decode cX9_helpTogether 40 = .ok (.aload_n 0, 1) := dkAa305.2.2.2.2.2.2.2.2.1
theorem dX9_helpTogether_41 : decode cX9_helpTogether 41 = .ok (.getfield 33, 3) := dkAa305.2.2.2.2.2.2.2.2.2.1
theorem dX9_helpTogether_44 : decode cX9_helpTogether 44 = .ok (.aload_n 0, 1) := dkAa305.2.2.2.2.2.2.2.2.2.2.1
theorem dX9_helpTogether_45 : decode cX9_helpTogether 45 = .ok (.getfield 29, 3) := dkAa305.2.2.2.2.2.2.2.2.2.2.2
set_option maxRecDepth 100000 in
theorem dkAa306 : decode cX9_helpTogether 48 = .ok (.invokevirtual 302, 3) ∧ decode cX9_helpTogether 51 = .ok (.aload_n 0, 1) ∧ decode cX9_helpTogether 52 = .ok (.getfield 33, 3) ∧ decode cX9_helpTogether 55 = .ok (.iload_n 1, 1) ∧ decode cX9_helpTogether 56 = .ok (.iload 5, 2) ∧ decode cX9_helpTogether 58 = .ok (.bipush 9, 2) ∧ decode cX9_helpTogether 60 = .ok (.invokevirtual 208, 3) ∧ decode cX9_helpTogether 63 = .ok (.aload_n 0, 1) ∧ decode cX9_helpTogether 64 = .ok (.getfield 33, 3) ∧ decode cX9_helpTogether 67 = .ok (.iload_n 2, 1) ∧ decode cX9_helpTogether 68 = .ok (.iload 6, 2) ∧ decode cX9_helpTogether 70 = .ok (.bipush 9, 2) := by decide +kernel
theorem dX9_helpTogether_48 : decode cX9_helpTogether 48 = .ok (.invokevirtual 302, 3) := dkAa306.1
theorem dX9_helpTogether_51 : decode cX9_helpTogether 51 = .ok (.aload_n 0, 1) := dkAa306.2.1
theorem dX9_helpTogether_52 : decode cX9_helpTogether 52 = .ok (.getfield 33, 3) := dkAa306.2.2.1
theorem dX9_helpTogether_55 : decode cX9_helpTogether 55 = .ok (.iload_n 1, 1) := dkAa306.2.2.2.1
theorem dX9_helpTogether_56 : decode cX9_helpTogether 56 = .ok (.iload 5, 2) := dkAa306.2.2.2.2.1
theorem dX9_helpTogether_58 : decode cX9_helpTogether 58 = .ok (.bipush 9, 2) := dkAa306.2.2.2.2.2.1
theorem dX9_helpTogether_60 : decode cX9_helpTogether 60 = .ok (.invokevirtual 208, 3) := dkAa306.2.2.2.2.2.2.1
theorem dX9_helpTogether_63 : decode cX9_helpTogether 63 = .ok (.aload_n 0, 1) := dkAa306.2.2.2.2.2.2.2.1
theorem dX9_helpTogether_64 : decode cX9_helpTogether 64 = .ok (.getfield 33, 3) := dkAa306.2.2.2.2.2.2.2.2.1
theorem dX9_helpTogether_67 : decode cX9_helpTogether 67 = .ok (.iload_n 2, 1) := dkAa306.2.2.2.2.2.2.2.2.2.1
theorem dX9_helpTogether_68 : decode cX9_helpTogether 68 = .ok (.iload 6, 2) := dkAa306.2.2.2.2.2.2.2.2.2.2.1
theorem dX9_helpTogether_70 : decode cX9_helpTogether 70 = .ok (.bipush 9, 2) := dkAa306.2.2.2.2.2.2.2.2.2.2.2
set_option maxRecDepth 100000 in
theorem dkAa307 : decode cX9_helpTogether 72 = .ok (.invokevirtual 208, 3) ∧ decode cX9_helpTogether 75 = .ok (.aload_n 0, 1) ∧ decode cX9_helpTogether 76 = .ok (.getfield 74, 3) ∧ decode cX9_helpTogether 79 = .ok (.aload_n 0, 1) ∧ decode cX9_helpTogether 80 = .ok (.getfield 33, 3) ∧ decode cX9_helpTogether 83 = .ok (.invokevirtual 311, 3) ∧ decode cX9_helpTogether 86 = .ok (.aload_n 0, 1) ∧ decode cX9_helpTogether 87 = .ok (.getfield 33, 3) ∧ decode cX9_helpTogether 90 = .ok (.iload_n 3, 1) ∧ decode cX9_helpTogether 91 = .ok (.invokevirtual 151, 3) ∧ decode cX9_helpTogether 94 = .ok (.iload 4, 2) ∧ decode cX9_helpTogether 96 = .ok (.if_icmp .ne 5, 3) := by decide +kernel
theorem dX9_helpTogether_72 : decode cX9_helpTogether 72 = .ok (.invokevirtual 208, 3) := dkAa307.1
theorem dX9_helpTogether_75 : decode cX9_helpTogether 75 = .ok (.aload_n 0, 1) := dkAa307.2.1
theorem dX9_helpTogether_76 : decode cX9_helpTogether 76 = .ok (.getfield 74, 3) := dkAa307.2.2.1
theorem dX9_helpTogether_79 : decode cX9_helpTogether 79 = .ok (.aload_n 0, 1) := dkAa307.2.2.2.1
theorem dX9_helpTogether_80 : decode cX9_helpTogether 80 = .ok (.getfield 33, 3) := dkAa307.2.2.2.2.1
theorem dX9_helpTogether_83 : decode cX9_helpTogether 83 = .ok (.invokevirtual 311, 3) := dkAa307.2.2.2.2.2.1
theorem dX9_helpTogether_86 : decode cX9_helpTogether 86 = .ok (.aload_n 0, 1) := dkAa307.2.2.2.2.2.2.1
theorem dX9_helpTogether_87 : decode cX9_helpTogether 87 = .ok (.getfield 33, 3) := dkAa307.2.2.2.2.2.2.2.1
theorem dX9_helpTogether_90 : decode cX9_helpTogether 90 = .ok (.iload_n 3, 1) := dkAa307.2.2.2.2.2.2.2.2.1
theorem dX9_helpTogether_91 : decode cX9_helpTogether 91 = .ok (.invokevirtual 151, 3) := dkAa307.2.2.2.2.2.2.2.2.2.1
theorem dX9_helpTogether_94 : decode cX9_helpTogether 94 = .ok (.iload 4, 2) := dkAa307.2.2.2.2.2.2.2.2.2.2.1
theorem dX9_helpTogether_96 : decode cX9_helpTogether 96 = .ok (.if_icmp .ne 5, 3) := dkAa307.2.2.2.2.2.2.2.2.2.2.2
set_option maxRecDepth 100000 in
theorem dkAa308 : decode cX9_helpTogether 99 = .ok (.iconst 1, 1) ∧ decode cX9_helpTogether 100 = .ok (.ireturn, 1) ∧ decode cX9_helpTogether 101 = .ok (.iinc 6 1, 3) ∧ decode cX9_helpTogether 104 = .ok (.goto (-91), 3) ∧ decode cX9_helpTogether 107 = .ok (.iinc 5 1, 3) ∧ decode cX9_helpTogether 110 = .ok (.goto (-107), 3) ∧ decode cX9_helpTogether 113 = .ok (.iconst 0, 1) ∧ decode cX9_helpTogether 114 = .ok (.ireturn, 1) := by decide +kernel
theorem dX9_helpTogether_99 : decode cX9_helpTogether 99 = .ok (.iconst 1, 1) := dkAa308.1
theorem dX9_helpTogether_100 : decode cX9_helpTogether 100 = .ok (.ireturn, 1) := dkAa308.2.1
theorem dX9_helpTogether_101 : decode cX9_helpTogether 101 = .ok (.iinc 6 1, 3) := dkAa308.2.2.1
theorem dX9_helpTogether_104 : decode cX9_helpTogether 104 = .ok (.goto (-91), 3) := dkAa308.2.2.2.1
theorem dX9_helpTogether_107 : decode cX9_helpTogether 107 = .ok (.iinc 5 1, 3) := dkAa308.2.2.2.2.1
theorem dX9_helpTogether_110 : decode cX9_helpTogether 110 = .ok (.goto (-107), 3) := dkAa308.2.2.2.2.2.1
theorem dX9_helpTogether_113 : decode cX9_helpTogether 113 = .ok (.iconst 0, 1) := dkAa308.2.2.2.2.2.2.1
theorem dX9_helpTogether_114 : decode cX9_helpTogether 114 = .ok (.ireturn, 1) := dkAa308.2.2.2.2.2.2.2
set_option maxRecDepth 100000 in
theorem dkAa309 : decode cX9_voicesThatSpoke 0 = .ok (.aload_n 0, 1) ∧ decode cX9_voicesThatSpoke 1 = .ok (.getfield 19, 3) ∧ decode cX9_voicesThatSpoke 4 = .ok (.invokevirtual 139, 3) ∧ decode cX9_voicesThatSpoke 7 = .ok (.istore_n 1, 1) ∧ decode cX9_voicesThatSpoke 8 = .ok (.iconst 0, 1) ∧ decode cX9_voicesThatSpoke 9 = .ok (.istore_n 2, 1) ∧ decode cX9_voicesThatSpoke 10 = .ok (.iload_n 2, 1) ∧ decode cX9_voicesThatSpoke 11 = .ok (.aload_n 0, 1) ∧ decode cX9_voicesThatSpoke 12 = .ok (.getfield 61, 3) ∧ decode cX9_voicesThatSpoke 15 = .ok (.getfield 145, 3) ∧ decode cX9_voicesThatSpoke 18 = .ok (.if_icmp .ge 47, 3) ∧ decode cX9_voicesThatSpoke 21 = .ok (.aload_n 0, 1) := by decide +kernel
theorem dX9_voicesThatSpoke_0 : decode cX9_voicesThatSpoke 0 = .ok (.aload_n 0, 1) := dkAa309.1
theorem dX9_voicesThatSpoke_1 : decode cX9_voicesThatSpoke 1 = .ok (.getfield 19, 3) := dkAa309.2.1
theorem dX9_voicesThatSpoke_4 : decode cX9_voicesThatSpoke 4 = .ok (.invokevirtual 139, 3) := dkAa309.2.2.1
theorem dX9_voicesThatSpoke_7 : decode cX9_voicesThatSpoke 7 = .ok (.istore_n 1, 1) := dkAa309.2.2.2.1
theorem dX9_voicesThatSpoke_8 : decode cX9_voicesThatSpoke 8 = .ok (.iconst 0, 1) := dkAa309.2.2.2.2.1
theorem dX9_voicesThatSpoke_9 : decode cX9_voicesThatSpoke 9 = .ok (.istore_n 2, 1) := dkAa309.2.2.2.2.2.1
theorem dX9_voicesThatSpoke_10 : decode cX9_voicesThatSpoke 10 = .ok (.iload_n 2, 1) := dkAa309.2.2.2.2.2.2.1
theorem dX9_voicesThatSpoke_11 : decode cX9_voicesThatSpoke 11 = .ok (.aload_n 0, 1) := dkAa309.2.2.2.2.2.2.2.1
theorem dX9_voicesThatSpoke_12 : decode cX9_voicesThatSpoke 12 = .ok (.getfield 61, 3) := dkAa309.2.2.2.2.2.2.2.2.1
theorem dX9_voicesThatSpoke_15 : decode cX9_voicesThatSpoke 15 = .ok (.getfield 145, 3) := dkAa309.2.2.2.2.2.2.2.2.2.1
theorem dX9_voicesThatSpoke_18 : decode cX9_voicesThatSpoke 18 = .ok (.if_icmp .ge 47, 3) := dkAa309.2.2.2.2.2.2.2.2.2.2.1
theorem dX9_voicesThatSpoke_21 : decode cX9_voicesThatSpoke 21 = .ok (.aload_n 0, 1) := dkAa309.2.2.2.2.2.2.2.2.2.2.2
set_option maxRecDepth 100000 in
theorem dkAa310 : decode cX9_voicesThatSpoke 22 = .ok (.getfield 19, 3) ∧ decode cX9_voicesThatSpoke 25 = .ok (.aload_n 0, 1) ∧ decode cX9_voicesThatSpoke 26 = .ok (.getfield 61, 3) ∧ decode cX9_voicesThatSpoke 29 = .ok (.iload_n 2, 1) ∧ decode cX9_voicesThatSpoke 30 = .ok (.invokevirtual 325, 3) ∧ decode cX9_voicesThatSpoke 33 = .ok (.invokevirtual 176, 3) ∧ decode cX9_voicesThatSpoke 36 = .ok (.istore_n 3, 1) ∧ decode cX9_voicesThatSpoke 37 = .ok (.iload_n 1, 1) ∧ decode cX9_voicesThatSpoke 38 = .ok (.aload_n 0, 1) ∧ decode cX9_voicesThatSpoke 39 = .ok (.getfield 61, 3) ∧ decode cX9_voicesThatSpoke 42 = .ok (.iload_n 2, 1) ∧ decode cX9_voicesThatSpoke 43 = .ok (.invokevirtual 328, 3) := by decide +kernel
theorem dX9_voicesThatSpoke_22 : decode cX9_voicesThatSpoke 22 = .ok (.getfield 19, 3) := dkAa310.1
theorem dX9_voicesThatSpoke_25 : decode cX9_voicesThatSpoke 25 = .ok (.aload_n 0, 1) := dkAa310.2.1
theorem dX9_voicesThatSpoke_26 : decode cX9_voicesThatSpoke 26 = .ok (.getfield 61, 3) := dkAa310.2.2.1
theorem dX9_voicesThatSpoke_29 : decode cX9_voicesThatSpoke 29 = .ok (.iload_n 2, 1) := dkAa310.2.2.2.1
theorem dX9_voicesThatSpoke_30 : decode cX9_voicesThatSpoke 30 = .ok (.invokevirtual 325, 3) := dkAa310.2.2.2.2.1
theorem dX9_voicesThatSpoke_33 : decode cX9_voicesThatSpoke 33 = .ok (.invokevirtual 176, 3) := dkAa310.2.2.2.2.2.1
theorem dX9_voicesThatSpoke_36 : decode cX9_voicesThatSpoke 36 = .ok (.istore_n 3, 1) := dkAa310.2.2.2.2.2.2.1
theorem dX9_voicesThatSpoke_37 : decode cX9_voicesThatSpoke 37 = .ok (.iload_n 1, 1) := dkAa310.2.2.2.2.2.2.2.1
theorem dX9_voicesThatSpoke_38 : decode cX9_voicesThatSpoke 38 = .ok (.aload_n 0, 1) := dkAa310.2.2.2.2.2.2.2.2.1
theorem dX9_voicesThatSpoke_39 : decode cX9_voicesThatSpoke 39 = .ok (.getfield 61, 3) := dkAa310.2.2.2.2.2.2.2.2.2.1
theorem dX9_voicesThatSpoke_42 : decode cX9_voicesThatSpoke 42 = .ok (.iload_n 2, 1) := dkAa310.2.2.2.2.2.2.2.2.2.2.1
theorem dX9_voicesThatSpoke_43 : decode cX9_voicesThatSpoke 43 = .ok (.invokevirtual 328, 3) := dkAa310.2.2.2.2.2.2.2.2.2.2.2
set_option maxRecDepth 100000 in
theorem dkAa311 : decode cX9_voicesThatSpoke 46 = .ok (.iconst 1, 1) ∧ decode cX9_voicesThatSpoke 47 = .ok (.if_icmp .ne 7, 3) ∧ decode cX9_voicesThatSpoke 50 = .ok (.iload_n 3, 1) ∧ decode cX9_voicesThatSpoke 51 = .ok (.goto 6, 3) ∧ decode cX9_voicesThatSpoke 54 = .ok (.iload_n 3, 1) ∧ decode cX9_voicesThatSpoke 55 = .ok (.iconst (-1), 1) ∧ decode cX9_voicesThatSpoke 56 = .ok (.ixor, 1) ∧ decode cX9_voicesThatSpoke 57 = .ok (.iand, 1) ∧ decode cX9_voicesThatSpoke 58 = .ok (.istore_n 1, 1) ∧ decode cX9_voicesThatSpoke 59 = .ok (.iinc 2 1, 3) ∧ decode cX9_voicesThatSpoke 62 = .ok (.goto (-52), 3) ∧ decode cX9_voicesThatSpoke 65 = .ok (.iload_n 1, 1) := by decide +kernel
theorem dX9_voicesThatSpoke_46 : decode cX9_voicesThatSpoke 46 = .ok (.iconst 1, 1) := dkAa311.1
theorem dX9_voicesThatSpoke_47 : decode cX9_voicesThatSpoke 47 = .ok (.if_icmp .ne 7, 3) := dkAa311.2.1
theorem dX9_voicesThatSpoke_50 : decode cX9_voicesThatSpoke 50 = .ok (.iload_n 3, 1) := dkAa311.2.2.1
theorem dX9_voicesThatSpoke_51 : decode cX9_voicesThatSpoke 51 = .ok (.goto 6, 3) := dkAa311.2.2.2.1
theorem dX9_voicesThatSpoke_54 : decode cX9_voicesThatSpoke 54 = .ok (.iload_n 3, 1) := dkAa311.2.2.2.2.1
theorem dX9_voicesThatSpoke_55 : decode cX9_voicesThatSpoke 55 = .ok (.iconst (-1), 1) := dkAa311.2.2.2.2.2.1
theorem dX9_voicesThatSpoke_56 : decode cX9_voicesThatSpoke 56 = .ok (.ixor, 1) := dkAa311.2.2.2.2.2.2.1
theorem dX9_voicesThatSpoke_57 : decode cX9_voicesThatSpoke 57 = .ok (.iand, 1) := dkAa311.2.2.2.2.2.2.2.1
theorem dX9_voicesThatSpoke_58 : decode cX9_voicesThatSpoke 58 = .ok (.istore_n 1, 1) := dkAa311.2.2.2.2.2.2.2.2.1
theorem dX9_voicesThatSpoke_59 : decode cX9_voicesThatSpoke 59 = .ok (.iinc 2 1, 3) := dkAa311.2.2.2.2.2.2.2.2.2.1
theorem dX9_voicesThatSpoke_62 : decode cX9_voicesThatSpoke 62 = .ok (.goto (-52), 3) := dkAa311.2.2.2.2.2.2.2.2.2.2.1
theorem dX9_voicesThatSpoke_65 : decode cX9_voicesThatSpoke 65 = .ok (.iload_n 1, 1) := dkAa311.2.2.2.2.2.2.2.2.2.2.2
theorem dX9_voicesThatSpoke_66 : decode cX9_voicesThatSpoke 66 = .ok (.ireturn, 1) := by decide +kernel
set_option maxRecDepth 100000 in
theorem dkAa312 : decode cX9_fitsOrder 0 = .ok (.aload_n 0, 1) ∧ decode cX9_fitsOrder 1 = .ok (.getfield 74, 3) ∧ decode cX9_fitsOrder 4 = .ok (.iload_n 1, 1) ∧ decode cX9_fitsOrder 5 = .ok (.iload_n 2, 1) ∧ decode cX9_fitsOrder 6 = .ok (.invokevirtual 331, 3) ∧ decode cX9_fitsOrder 9 = .ok (.aload_n 0, 1) ∧ decode cX9_fitsOrder 10 = .ok (.getfield 33, 3) ∧ decode cX9_fitsOrder 13 = .ok (.aload_n 0, 1) ∧ decode cX9_fitsOrder 14 = .ok (.getfield 29, 3) ∧ decode cX9_fitsOrder 17 = .ok (.invokevirtual 302, 3) ∧ decode cX9_fitsOrder 20 = .ok (.aload_n 0, 1) ∧ decode cX9_fitsOrder 21 = .ok (.getfield 74, 3) := by decide +kernel
theorem dX9_fitsOrder_0 : decode cX9_fitsOrder 0 = .ok (.aload_n 0, 1) := dkAa312.1
theorem dX9_fitsOrder_1 : decode cX9_fitsOrder 1 = .ok (.getfield 74, 3) := dkAa312.2.1
theorem dX9_fitsOrder_4 : decode cX9_fitsOrder 4 = .ok (.iload_n 1, 1) := dkAa312.2.2.1
theorem dX9_fitsOrder_5 : decode cX9_fitsOrder 5 = .ok (.iload_n 2, 1) := dkAa312.2.2.2.1
theorem dX9_fitsOrder_6 : decode cX9_fitsOrder 6 = .ok (.invokevirtual 331, 3) := dkAa312.2.2.2.2.1
theorem dX9_fitsOrder_9 : decode cX9_fitsOrder 9 = .ok (.aload_n 0, 1) := dkAa312.2.2.2.2.2.1
theorem dX9_fitsOrder_10 : decode cX9_fitsOrder 10 = .ok (.getfield 33, 3) := dkAa312.2.2.2.2.2.2.1
theorem dX9_fitsOrder_13 : decode cX9_fitsOrder 13 = .ok (.aload_n 0, 1) := dkAa312.2.2.2.2.2.2.2.1
theorem dX9_fitsOrder_14 : decode cX9_fitsOrder 14 = .ok (.getfield 29, 3) := dkAa312.2.2.2.2.2.2.2.2.1
theorem dX9_fitsOrder_17 : decode cX9_fitsOrder 17 = .ok (.invokevirtual 302, 3) := dkAa312.2.2.2.2.2.2.2.2.2.1
theorem dX9_fitsOrder_20 : decode cX9_fitsOrder 20 = .ok (.aload_n 0, 1) := dkAa312.2.2.2.2.2.2.2.2.2.2.1
theorem dX9_fitsOrder_21 : decode cX9_fitsOrder 21 = .ok (.getfield 74, 3) := dkAa312.2.2.2.2.2.2.2.2.2.2.2
set_option maxRecDepth 100000 in
theorem dkAa313 : decode cX9_fitsOrder 24 = .ok (.aload_n 0, 1) ∧ decode cX9_fitsOrder 25 = .ok (.getfield 33, 3) ∧ decode cX9_fitsOrder 28 = .ok (.invokevirtual 311, 3) ∧ decode cX9_fitsOrder 31 = .ok (.aload_n 0, 1) ∧ decode cX9_fitsOrder 32 = .ok (.getfield 65, 3) ∧ decode cX9_fitsOrder 35 = .ok (.aload_n 0, 1) ∧ decode cX9_fitsOrder 36 = .ok (.getfield 33, 3) ∧ decode cX9_fitsOrder 39 = .ok (.invokevirtual 288, 3) ∧ decode cX9_fitsOrder 42 = .ok (.iconst (-1), 1) ∧ decode cX9_fitsOrder 43 = .ok (.if_icmp .ne 7, 3) ∧ decode cX9_fitsOrder 46 = .ok (.iconst 1, 1) ∧ decode cX9_fitsOrder 47 = .ok (.goto 4, 3) := by decide +kernel
theorem dX9_fitsOrder_24 : decode cX9_fitsOrder 24 = .ok (.aload_n 0, 1) := dkAa313.1
theorem dX9_fitsOrder_25 : decode cX9_fitsOrder 25 = .ok (.getfield 33, 3) := dkAa313.2.1
theorem dX9_fitsOrder_28 : decode cX9_fitsOrder 28 = .ok (.invokevirtual 311, 3) := dkAa313.2.2.1
theorem dX9_fitsOrder_31 : decode cX9_fitsOrder 31 = .ok (.aload_n 0, 1) := dkAa313.2.2.2.1
theorem dX9_fitsOrder_32 : decode cX9_fitsOrder 32 = .ok (.getfield 65, 3) := dkAa313.2.2.2.2.1
theorem dX9_fitsOrder_35 : decode cX9_fitsOrder 35 = .ok (.aload_n 0, 1) := dkAa313.2.2.2.2.2.1
theorem dX9_fitsOrder_36 : decode cX9_fitsOrder 36 = .ok (.getfield 33, 3) := dkAa313.2.2.2.2.2.2.1
theorem dX9_fitsOrder_39 : decode cX9_fitsOrder 39 = .ok (.invokevirtual 288, 3) := dkAa313.2.2.2.2.2.2.2.1
theorem dX9_fitsOrder_42 : decode cX9_fitsOrder 42 = .ok (.iconst (-1), 1) := dkAa313.2.2.2.2.2.2.2.2.1
theorem dX9_fitsOrder_43 : decode cX9_fitsOrder 43 = .ok (.if_icmp .ne 7, 3) := dkAa313.2.2.2.2.2.2.2.2.2.1
theorem dX9_fitsOrder_46 : decode cX9_fitsOrder 46 = .ok (.iconst 1, 1) := dkAa313.2.2.2.2.2.2.2.2.2.2.1
theorem dX9_fitsOrder_47 : decode cX9_fitsOrder 47 = .ok (.goto 4, 3) := dkAa313.2.2.2.2.2.2.2.2.2.2.2
theorem dX9_fitsOrder_50 : decode cX9_fitsOrder 50 = .ok (.iconst 0, 1) := by decide +kernel
theorem dX9_fitsOrder_51 : decode cX9_fitsOrder 51 = .ok (.ireturn, 1) := by decide +kernel
set_option maxRecDepth 100000 in
theorem dkAa314 : decode cX9_countOrders 0 = .ok (.iconst 0, 1) ∧ decode cX9_countOrders 1 = .ok (.istore_n 2, 1) ∧ decode cX9_countOrders 2 = .ok (.iconst 0, 1) ∧ decode cX9_countOrders 3 = .ok (.istore_n 3, 1) ∧ decode cX9_countOrders 4 = .ok (.iload_n 3, 1) ∧ decode cX9_countOrders 5 = .ok (.iload_n 1, 1) ∧ decode cX9_countOrders 6 = .ok (.invokestatic 334, 3) ∧ decode cX9_countOrders 9 = .ok (.if_icmp .ge 21, 3) ∧ decode cX9_countOrders 12 = .ok (.aload_n 0, 1) ∧ decode cX9_countOrders 13 = .ok (.iload_n 1, 1) ∧ decode cX9_countOrders 14 = .ok (.iload_n 3, 1) ∧ decode cX9_countOrders 15 = .ok (.invokevirtual 337, 3) := by decide +kernel
theorem dX9_countOrders_0 : decode cX9_countOrders 0 = .ok (.iconst 0, 1) := dkAa314.1
theorem dX9_countOrders_1 : decode cX9_countOrders 1 = .ok (.istore_n 2, 1) := dkAa314.2.1
theorem dX9_countOrders_2 : decode cX9_countOrders 2 = .ok (.iconst 0, 1) := dkAa314.2.2.1
theorem dX9_countOrders_3 : decode cX9_countOrders 3 = .ok (.istore_n 3, 1) := dkAa314.2.2.2.1
theorem dX9_countOrders_4 : decode cX9_countOrders 4 = .ok (.iload_n 3, 1) := dkAa314.2.2.2.2.1
theorem dX9_countOrders_5 : decode cX9_countOrders 5 = .ok (.iload_n 1, 1) := dkAa314.2.2.2.2.2.1
theorem dX9_countOrders_6 : decode cX9_countOrders 6 = .ok (.invokestatic 334, 3) := dkAa314.2.2.2.2.2.2.1
theorem dX9_countOrders_9 : decode cX9_countOrders 9 = .ok (.if_icmp .ge 21, 3) := dkAa314.2.2.2.2.2.2.2.1
theorem dX9_countOrders_12 : decode cX9_countOrders 12 = .ok (.aload_n 0, 1) := dkAa314.2.2.2.2.2.2.2.2.1
theorem dX9_countOrders_13 : decode cX9_countOrders 13 = .ok (.iload_n 1, 1) := dkAa314.2.2.2.2.2.2.2.2.2.1
theorem dX9_countOrders_14 : decode cX9_countOrders 14 = .ok (.iload_n 3, 1) := dkAa314.2.2.2.2.2.2.2.2.2.2.1
theorem dX9_countOrders_15 : decode cX9_countOrders 15 = .ok (.invokevirtual 337, 3) := dkAa314.2.2.2.2.2.2.2.2.2.2.2
set_option maxRecDepth 100000 in
theorem dkAa315 : decode cX9_countOrders 18 = .ok (.ifCond .eq 6, 3) ∧ decode cX9_countOrders 21 = .ok (.iinc 2 1, 3) ∧ decode cX9_countOrders 24 = .ok (.iinc 3 1, 3) ∧ decode cX9_countOrders 27 = .ok (.goto (-23), 3) ∧ decode cX9_countOrders 30 = .ok (.iload_n 2, 1) ∧ decode cX9_countOrders 31 = .ok (.ireturn, 1) := by decide +kernel
theorem dX9_countOrders_18 : decode cX9_countOrders 18 = .ok (.ifCond .eq 6, 3) := dkAa315.1
theorem dX9_countOrders_21 : decode cX9_countOrders 21 = .ok (.iinc 2 1, 3) := dkAa315.2.1
theorem dX9_countOrders_24 : decode cX9_countOrders 24 = .ok (.iinc 3 1, 3) := dkAa315.2.2.1
theorem dX9_countOrders_27 : decode cX9_countOrders 27 = .ok (.goto (-23), 3) := dkAa315.2.2.2.1
theorem dX9_countOrders_30 : decode cX9_countOrders 30 = .ok (.iload_n 2, 1) := dkAa315.2.2.2.2.1
theorem dX9_countOrders_31 : decode cX9_countOrders 31 = .ok (.ireturn, 1) := dkAa315.2.2.2.2.2
set_option maxRecDepth 100000 in
theorem dkAa316 : decode cX9_orderNumber 0 = .ok (.iconst 0, 1) ∧ decode cX9_orderNumber 1 = .ok (.istore_n 3, 1) ∧ decode cX9_orderNumber 2 = .ok (.iconst 0, 1) ∧ decode cX9_orderNumber 3 = .ok (.istore 4, 2) ∧ decode cX9_orderNumber 5 = .ok (.iload 4, 2) ∧ decode cX9_orderNumber 7 = .ok (.iload_n 1, 1) ∧ decode cX9_orderNumber 8 = .ok (.invokestatic 334, 3) ∧ decode cX9_orderNumber 11 = .ok (.if_icmp .ge 35, 3) ∧ decode cX9_orderNumber 14 = .ok (.aload_n 0, 1) ∧ decode cX9_orderNumber 15 = .ok (.iload_n 1, 1) ∧ decode cX9_orderNumber 16 = .ok (.iload 4, 2) ∧ decode cX9_orderNumber 18 = .ok (.invokevirtual 337, 3) := by decide +kernel
theorem dX9_orderNumber_0 : decode cX9_orderNumber 0 = .ok (.iconst 0, 1) := dkAa316.1
theorem dX9_orderNumber_1 : decode cX9_orderNumber 1 = .ok (.istore_n 3, 1) := dkAa316.2.1
theorem dX9_orderNumber_2 : decode cX9_orderNumber 2 = .ok (.iconst 0, 1) := dkAa316.2.2.1
theorem dX9_orderNumber_3 : decode cX9_orderNumber 3 = .ok (.istore 4, 2) := dkAa316.2.2.2.1
theorem dX9_orderNumber_5 : decode cX9_orderNumber 5 = .ok (.iload 4, 2) := dkAa316.2.2.2.2.1
theorem dX9_orderNumber_7 : decode cX9_orderNumber 7 = .ok (.iload_n 1, 1) := dkAa316.2.2.2.2.2.1
theorem dX9_orderNumber_8 : decode cX9_orderNumber 8 = .ok (.invokestatic 334, 3) := dkAa316.2.2.2.2.2.2.1
theorem dX9_orderNumber_11 : decode cX9_orderNumber 11 = .ok (.if_icmp .ge 35, 3) := dkAa316.2.2.2.2.2.2.2.1
theorem dX9_orderNumber_14 : decode cX9_orderNumber 14 = .ok (.aload_n 0, 1) := dkAa316.2.2.2.2.2.2.2.2.1
theorem dX9_orderNumber_15 : decode cX9_orderNumber 15 = .ok (.iload_n 1, 1) := dkAa316.2.2.2.2.2.2.2.2.2.1
theorem dX9_orderNumber_16 : decode cX9_orderNumber 16 = .ok (.iload 4, 2) := dkAa316.2.2.2.2.2.2.2.2.2.2.1
theorem dX9_orderNumber_18 : decode cX9_orderNumber 18 = .ok (.invokevirtual 337, 3) := dkAa316.2.2.2.2.2.2.2.2.2.2.2
set_option maxRecDepth 100000 in
theorem dkAa317 : decode cX9_orderNumber 21 = .ok (.ifCond .eq 19, 3) ∧ decode cX9_orderNumber 24 = .ok (.iload_n 3, 1) ∧ decode cX9_orderNumber 25 = .ok (.iload_n 2, 1) ∧ decode cX9_orderNumber 26 = .ok (.if_icmp .ne 11, 3) ∧ decode cX9_orderNumber 29 = .ok (.aload_n 0, 1) ∧ decode cX9_orderNumber 30 = .ok (.getfield 74, 3) ∧ decode cX9_orderNumber 33 = .ok (.invokevirtual 340, 3) ∧ decode cX9_orderNumber 36 = .ok (.ireturn, 1) ∧ decode cX9_orderNumber 37 = .ok (.iinc 3 1, 3) ∧ decode cX9_orderNumber 40 = .ok (.iinc 4 1, 3) ∧ decode cX9_orderNumber 43 = .ok (.goto (-38), 3) ∧ decode cX9_orderNumber 46 = .ok (.iconst (-1), 1) := by decide +kernel
theorem dX9_orderNumber_21 : decode cX9_orderNumber 21 = .ok (.ifCond .eq 19, 3) := dkAa317.1
theorem dX9_orderNumber_24 : decode cX9_orderNumber 24 = .ok (.iload_n 3, 1) := dkAa317.2.1
theorem dX9_orderNumber_25 : decode cX9_orderNumber 25 = .ok (.iload_n 2, 1) := dkAa317.2.2.1
theorem dX9_orderNumber_26 : decode cX9_orderNumber 26 = .ok (.if_icmp .ne 11, 3) := dkAa317.2.2.2.1
theorem dX9_orderNumber_29 : decode cX9_orderNumber 29 = .ok (.aload_n 0, 1) := dkAa317.2.2.2.2.1
theorem dX9_orderNumber_30 : decode cX9_orderNumber 30 = .ok (.getfield 74, 3) := dkAa317.2.2.2.2.2.1
theorem dX9_orderNumber_33 : decode cX9_orderNumber 33 = .ok (.invokevirtual 340, 3) := dkAa317.2.2.2.2.2.2.1
theorem dX9_orderNumber_36 : decode cX9_orderNumber 36 = .ok (.ireturn, 1) := dkAa317.2.2.2.2.2.2.2.1
theorem dX9_orderNumber_37 : decode cX9_orderNumber 37 = .ok (.iinc 3 1, 3) := dkAa317.2.2.2.2.2.2.2.2.1
theorem dX9_orderNumber_40 : decode cX9_orderNumber 40 = .ok (.iinc 4 1, 3) := dkAa317.2.2.2.2.2.2.2.2.2.1
theorem dX9_orderNumber_43 : decode cX9_orderNumber 43 = .ok (.goto (-38), 3) := dkAa317.2.2.2.2.2.2.2.2.2.2.1
theorem dX9_orderNumber_46 : decode cX9_orderNumber 46 = .ok (.iconst (-1), 1) := dkAa317.2.2.2.2.2.2.2.2.2.2.2
theorem dX9_orderNumber_47 : decode cX9_orderNumber 47 = .ok (.ireturn, 1) := by decide +kernel
set_option maxRecDepth 100000 in
theorem dkAa318 : decode cX9_firstInAllOrders 0 = .ok (.iconst (-1), 1) ∧ decode cX9_firstInAllOrders 1 = .ok (.istore_n 2, 1) ∧ decode cX9_firstInAllOrders 2 = .ok (.iconst 0, 1) ∧ decode cX9_firstInAllOrders 3 = .ok (.istore_n 3, 1) ∧ decode cX9_firstInAllOrders 4 = .ok (.iload_n 3, 1) ∧ decode cX9_firstInAllOrders 5 = .ok (.iload_n 1, 1) ∧ decode cX9_firstInAllOrders 6 = .ok (.invokestatic 334, 3) ∧ decode cX9_firstInAllOrders 9 = .ok (.if_icmp .ge 44, 3) ∧ decode cX9_firstInAllOrders 12 = .ok (.aload_n 0, 1) ∧ decode cX9_firstInAllOrders 13 = .ok (.iload_n 1, 1) ∧ decode cX9_firstInAllOrders 14 = .ok (.iload_n 3, 1) ∧ decode cX9_firstInAllOrders 15 = .ok (.invokevirtual 337, 3) := by decide +kernel
theorem dX9_firstInAllOrders_0 : decode cX9_firstInAllOrders 0 = .ok (.iconst (-1), 1) := dkAa318.1
theorem dX9_firstInAllOrders_1 : decode cX9_firstInAllOrders 1 = .ok (.istore_n 2, 1) := dkAa318.2.1
theorem dX9_firstInAllOrders_2 : decode cX9_firstInAllOrders 2 = .ok (.iconst 0, 1) := dkAa318.2.2.1
theorem dX9_firstInAllOrders_3 : decode cX9_firstInAllOrders 3 = .ok (.istore_n 3, 1) := dkAa318.2.2.2.1
theorem dX9_firstInAllOrders_4 : decode cX9_firstInAllOrders 4 = .ok (.iload_n 3, 1) := dkAa318.2.2.2.2.1
theorem dX9_firstInAllOrders_5 : decode cX9_firstInAllOrders 5 = .ok (.iload_n 1, 1) := dkAa318.2.2.2.2.2.1
theorem dX9_firstInAllOrders_6 : decode cX9_firstInAllOrders 6 = .ok (.invokestatic 334, 3) := dkAa318.2.2.2.2.2.2.1
theorem dX9_firstInAllOrders_9 : decode cX9_firstInAllOrders 9 = .ok (.if_icmp .ge 44, 3) := dkAa318.2.2.2.2.2.2.2.1
theorem dX9_firstInAllOrders_12 : decode cX9_firstInAllOrders 12 = .ok (.aload_n 0, 1) := dkAa318.2.2.2.2.2.2.2.2.1
theorem dX9_firstInAllOrders_13 : decode cX9_firstInAllOrders 13 = .ok (.iload_n 1, 1) := dkAa318.2.2.2.2.2.2.2.2.2.1
theorem dX9_firstInAllOrders_14 : decode cX9_firstInAllOrders 14 = .ok (.iload_n 3, 1) := dkAa318.2.2.2.2.2.2.2.2.2.2.1
theorem dX9_firstInAllOrders_15 : decode cX9_firstInAllOrders 15 = .ok (.invokevirtual 337, 3) := dkAa318.2.2.2.2.2.2.2.2.2.2.2
set_option maxRecDepth 100000 in
theorem dkAa319 : decode cX9_firstInAllOrders 18 = .ok (.ifCond .eq 29, 3) ∧ decode cX9_firstInAllOrders 21 = .ok (.iload_n 2, 1) ∧ decode cX9_firstInAllOrders 22 = .ok (.iconst (-1), 1) ∧ decode cX9_firstInAllOrders 23 = .ok (.if_icmp .eq 16, 3) ∧ decode cX9_firstInAllOrders 26 = .ok (.iload_n 2, 1) ∧ decode cX9_firstInAllOrders 27 = .ok (.aload_n 0, 1) ∧ decode cX9_firstInAllOrders 28 = .ok (.getfield 74, 3) ∧ decode cX9_firstInAllOrders 31 = .ok (.invokevirtual 343, 3) ∧ decode cX9_firstInAllOrders 34 = .ok (.if_icmp .eq 5, 3) ∧ decode cX9_firstInAllOrders 37 = .ok (.iconst (-1), 1) ∧ decode cX9_firstInAllOrders 38 = .ok (.ireturn, 1) ∧ decode cX9_firstInAllOrders 39 = .ok (.aload_n 0, 1) := by decide +kernel
theorem dX9_firstInAllOrders_18 : decode cX9_firstInAllOrders 18 = .ok (.ifCond .eq 29, 3) := dkAa319.1
theorem dX9_firstInAllOrders_21 : decode cX9_firstInAllOrders 21 = .ok (.iload_n 2, 1) := dkAa319.2.1
theorem dX9_firstInAllOrders_22 : decode cX9_firstInAllOrders 22 = .ok (.iconst (-1), 1) := dkAa319.2.2.1
theorem dX9_firstInAllOrders_23 : decode cX9_firstInAllOrders 23 = .ok (.if_icmp .eq 16, 3) := dkAa319.2.2.2.1
theorem dX9_firstInAllOrders_26 : decode cX9_firstInAllOrders 26 = .ok (.iload_n 2, 1) := dkAa319.2.2.2.2.1
theorem dX9_firstInAllOrders_27 : decode cX9_firstInAllOrders 27 = .ok (.aload_n 0, 1) := dkAa319.2.2.2.2.2.1
theorem dX9_firstInAllOrders_28 : decode cX9_firstInAllOrders 28 = .ok (.getfield 74, 3) := dkAa319.2.2.2.2.2.2.1
theorem dX9_firstInAllOrders_31 : decode cX9_firstInAllOrders 31 = .ok (.invokevirtual 343, 3) := dkAa319.2.2.2.2.2.2.2.1
theorem dX9_firstInAllOrders_34 : decode cX9_firstInAllOrders 34 = .ok (.if_icmp .eq 5, 3) := dkAa319.2.2.2.2.2.2.2.2.1
theorem dX9_firstInAllOrders_37 : decode cX9_firstInAllOrders 37 = .ok (.iconst (-1), 1) := dkAa319.2.2.2.2.2.2.2.2.2.1
theorem dX9_firstInAllOrders_38 : decode cX9_firstInAllOrders 38 = .ok (.ireturn, 1) := dkAa319.2.2.2.2.2.2.2.2.2.2.1
theorem dX9_firstInAllOrders_39 : decode cX9_firstInAllOrders 39 = .ok (.aload_n 0, 1) := dkAa319.2.2.2.2.2.2.2.2.2.2.2
set_option maxRecDepth 100000 in
theorem dkAa320 : decode cX9_firstInAllOrders 40 = .ok (.getfield 74, 3) ∧ decode cX9_firstInAllOrders 43 = .ok (.invokevirtual 343, 3) ∧ decode cX9_firstInAllOrders 46 = .ok (.istore_n 2, 1) ∧ decode cX9_firstInAllOrders 47 = .ok (.iinc 3 1, 3) ∧ decode cX9_firstInAllOrders 50 = .ok (.goto (-46), 3) ∧ decode cX9_firstInAllOrders 53 = .ok (.iload_n 2, 1) ∧ decode cX9_firstInAllOrders 54 = .ok (.ireturn, 1) := by decide +kernel
theorem dX9_firstInAllOrders_40 : decode cX9_firstInAllOrders 40 = .ok (.getfield 74, 3) := dkAa320.1
theorem dX9_firstInAllOrders_43 : decode cX9_firstInAllOrders 43 = .ok (.invokevirtual 343, 3) := dkAa320.2.1
theorem dX9_firstInAllOrders_46 : decode cX9_firstInAllOrders 46 = .ok (.istore_n 2, 1) := dkAa320.2.2.1
theorem dX9_firstInAllOrders_47 : decode cX9_firstInAllOrders 47 = .ok (.iinc 3 1, 3) := dkAa320.2.2.2.1
theorem dX9_firstInAllOrders_50 : decode cX9_firstInAllOrders 50 = .ok (.goto (-46), 3) := dkAa320.2.2.2.2.1
theorem dX9_firstInAllOrders_53 : decode cX9_firstInAllOrders 53 = .ok (.iload_n 2, 1) := dkAa320.2.2.2.2.2.1
theorem dX9_firstInAllOrders_54 : decode cX9_firstInAllOrders 54 = .ok (.ireturn, 1) := dkAa320.2.2.2.2.2.2
set_option maxRecDepth 100000 in
theorem dkAa321 : decode cX9_ordersOf 0 = .ok (.iload_n 0, 1) ∧ decode cX9_ordersOf 1 = .ok (.invokestatic 235, 3) ∧ decode cX9_ordersOf 4 = .ok (.istore_n 1, 1) ∧ decode cX9_ordersOf 5 = .ok (.iload_n 1, 1) ∧ decode cX9_ordersOf 6 = .ok (.getstatic 346, 3) ∧ decode cX9_ordersOf 9 = .ok (.arraylength, 1) ∧ decode cX9_ordersOf 10 = .ok (.if_icmp .ge 11, 3) ∧ decode cX9_ordersOf 13 = .ok (.getstatic 346, 3) ∧ decode cX9_ordersOf 16 = .ok (.iload_n 1, 1) ∧ decode cX9_ordersOf 17 = .ok (.iaload, 1) ∧ decode cX9_ordersOf 18 = .ok (.goto 4, 3) ∧ decode cX9_ordersOf 21 = .ok (.iconst 0, 1) := by decide +kernel
theorem dX9_ordersOf_0 : decode cX9_ordersOf 0 = .ok (.iload_n 0, 1) := dkAa321.1
theorem dX9_ordersOf_1 : decode cX9_ordersOf 1 = .ok (.invokestatic 235, 3) := dkAa321.2.1
theorem dX9_ordersOf_4 : decode cX9_ordersOf 4 = .ok (.istore_n 1, 1) := dkAa321.2.2.1
theorem dX9_ordersOf_5 : decode cX9_ordersOf 5 = .ok (.iload_n 1, 1) := dkAa321.2.2.2.1
theorem dX9_ordersOf_6 : decode cX9_ordersOf 6 = .ok (.getstatic 346, 3) := dkAa321.2.2.2.2.1
theorem dX9_ordersOf_9 : decode cX9_ordersOf 9 = .ok (.arraylength, 1) := dkAa321.2.2.2.2.2.1
theorem dX9_ordersOf_10 : decode cX9_ordersOf 10 = .ok (.if_icmp .ge 11, 3) := dkAa321.2.2.2.2.2.2.1
theorem dX9_ordersOf_13 : decode cX9_ordersOf 13 = .ok (.getstatic 346, 3) := dkAa321.2.2.2.2.2.2.2.1
theorem dX9_ordersOf_16 : decode cX9_ordersOf 16 = .ok (.iload_n 1, 1) := dkAa321.2.2.2.2.2.2.2.2.1
theorem dX9_ordersOf_17 : decode cX9_ordersOf 17 = .ok (.iaload, 1) := dkAa321.2.2.2.2.2.2.2.2.2.1
theorem dX9_ordersOf_18 : decode cX9_ordersOf 18 = .ok (.goto 4, 3) := dkAa321.2.2.2.2.2.2.2.2.2.2.1
theorem dX9_ordersOf_21 : decode cX9_ordersOf 21 = .ok (.iconst 0, 1) := dkAa321.2.2.2.2.2.2.2.2.2.2.2
theorem dX9_ordersOf_22 : decode cX9_ordersOf 22 = .ok (.ireturn, 1) := by decide +kernel
