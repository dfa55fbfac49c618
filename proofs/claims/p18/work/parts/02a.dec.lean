theorem dk_of {c : ByteArray} {L : List (Nat × Instr × Nat)} (hA : ∀ q ∈ L, decode c q.1 = .ok q.2) {i n : Nat} {w : Instr × Nat} (h : L[i]? = some (n, w)) : decode c n = .ok w := hA (n, w) (List.mem_of_getElem? h)
def dkLa0 : List (Nat × Instr × Nat) := [(0, .aload_n 0, 1), (1, .invokespecial 3, 3), (4, .aload_n 0, 1), (5, .bipush 6, 2), (7, .newarray .int, 2), (9, .putfield 9, 3), (12, .aload_n 0, 1), (13, .bipush 6, 2), (15, .newarray .int, 2), (17, .putfield 15, 3), (20, .aload_n 0, 1), (21, .bipush 7, 2), (23, .sipush 128, 3), (26, .multianewarray 18 2, 4), (30, .putfield 20, 3), (33, .return_, 1)]
set_option maxRecDepth 100000 in
theorem dkAa0 : ∀ q ∈ dkLa0, decode cX0_init q.1 = .ok q.2 := by decide +kernel
theorem dX0_init_0 : decode cX0_init 0 = .ok (.aload_n 0, 1) := dk_of dkAa0 (i := 0) rfl
theorem dX0_init_1 : decode cX0_init 1 = .ok (.invokespecial 3, 3) := dk_of dkAa0 (i := 1) rfl
theorem dX0_init_4 : decode cX0_init 4 = .ok (.aload_n 0, 1) := dk_of dkAa0 (i := 2) rfl
theorem dX0_init_5 : decode cX0_init 5 = .ok (.bipush 6, 2) := dk_of dkAa0 (i := 3) rfl
theorem dX0_init_7 : decode cX0_init 7 = .ok (.newarray .int, 2) := dk_of dkAa0 (i := 4) rfl
theorem dX0_init_9 : decode cX0_init 9 = .ok (.putfield 9, 3) := dk_of dkAa0 (i := 5) rfl
theorem dX0_init_12 : decode cX0_init 12 = .ok (.aload_n 0, 1) := dk_of dkAa0 (i := 6) rfl
theorem dX0_init_13 : decode cX0_init 13 = .ok (.bipush 6, 2) := dk_of dkAa0 (i := 7) rfl
theorem dX0_init_15 : decode cX0_init 15 = .ok (.newarray .int, 2) := dk_of dkAa0 (i := 8) rfl
theorem dX0_init_17 : decode cX0_init 17 = .ok (.putfield 15, 3) := dk_of dkAa0 (i := 9) rfl
theorem dX0_init_20 : decode cX0_init 20 = .ok (.aload_n 0, 1) := dk_of dkAa0 (i := 10) rfl
theorem dX0_init_21 : decode cX0_init 21 = .ok (.bipush 7, 2) := dk_of dkAa0 (i := 11) rfl
theorem dX0_init_23 : decode cX0_init 23 = .ok (.sipush 128, 3) := dk_of dkAa0 (i := 12) rfl
theorem dX0_init_26 : decode cX0_init 26 = .ok (.multianewarray 18 2, 4) := dk_of dkAa0 (i := 13) rfl
theorem dX0_init_30 : decode cX0_init 30 = .ok (.putfield 20, 3) := dk_of dkAa0 (i := 14) rfl
theorem dX0_init_33 : decode cX0_init 33 = .ok (.return_, 1) := dk_of dkAa0 (i := 15) rfl
def dkLa1 : List (Nat × Instr × Nat) := [(0, .iconst 5, 1), (1, .istore_n 3, 1), (2, .iload_n 3, 1), (3, .ifCond .lt 54, 3), (6, .aload_n 0, 1), (7, .getfield 15, 3), (10, .iload_n 3, 1), (11, .iload_n 3, 1), (12, .aload_n 1, 1), (13, .aload_n 2, 1), (14, .invokestatic 23, 3), (17, .iastore, 1), (18, .iconst 0, 1), (19, .istore 4, 2), (21, .iload 4, 2), (23, .sipush 128, 3), (26, .if_icmp .ge 25, 3), (29, .aload_n 0, 1), (30, .getfield 20, 3), (33, .iload_n 3, 1), (34, .aaload, 1), (35, .iload 4, 2), (37, .aload_n 0, 1), (38, .iload_n 3, 1), (39, .iload 4, 2), (41, .invokevirtual 27, 3), (44, .iastore, 1), (45, .iinc 4 1, 3), (48, .goto (-27), 3), (51, .iinc 3 (-1), 3), (54, .goto (-52), 3), (57, .iconst 0, 1)]
set_option maxRecDepth 100000 in
theorem dkAa1 : ∀ q ∈ dkLa1, decode cX0_give q.1 = .ok q.2 := by decide +kernel
theorem dX0_give_0 : decode cX0_give 0 = .ok (.iconst 5, 1) := dk_of dkAa1 (i := 0) rfl
theorem dX0_give_1 : decode cX0_give 1 = .ok (.istore_n 3, 1) := dk_of dkAa1 (i := 1) rfl
theorem dX0_give_2 : decode cX0_give 2 = .ok (.iload_n 3, 1) := dk_of dkAa1 (i := 2) rfl
theorem dX0_give_3 : decode cX0_give 3 = .ok (.ifCond .lt 54, 3) := dk_of dkAa1 (i := 3) rfl
theorem dX0_give_6 : decode cX0_give 6 = .ok (.aload_n 0, 1) := dk_of dkAa1 (i := 4) rfl
theorem dX0_give_7 : decode cX0_give 7 = .ok (.getfield 15, 3) := dk_of dkAa1 (i := 5) rfl
theorem dX0_give_10 : decode cX0_give 10 = .ok (.iload_n 3, 1) := dk_of dkAa1 (i := 6) rfl
theorem dX0_give_11 : decode cX0_give 11 = .ok (.iload_n 3, 1) := dk_of dkAa1 (i := 7) rfl
theorem dX0_give_12 : decode cX0_give 12 = .ok (.aload_n 1, 1) := dk_of dkAa1 (i := 8) rfl
theorem dX0_give_13 : decode cX0_give 13 = .ok (.aload_n 2, 1) := dk_of dkAa1 (i := 9) rfl
theorem dX0_give_14 : decode cX0_give 14 = .ok (.invokestatic 23, 3) := dk_of dkAa1 (i := 10) rfl
theorem dX0_give_17 : decode cX0_give 17 = .ok (.iastore, 1) := dk_of dkAa1 (i := 11) rfl
theorem dX0_give_18 : decode cX0_give 18 = .ok (.iconst 0, 1) := dk_of dkAa1 (i := 12) rfl
theorem dX0_give_19 : decode cX0_give 19 = .ok (.istore 4, 2) := dk_of dkAa1 (i := 13) rfl
theorem dX0_give_21 : decode cX0_give 21 = .ok (.iload 4, 2) := dk_of dkAa1 (i := 14) rfl
theorem dX0_give_23 : decode cX0_give 23 = .ok (.sipush 128, 3) := dk_of dkAa1 (i := 15) rfl
theorem dX0_give_26 : decode cX0_give 26 = .ok (.if_icmp .ge 25, 3) := dk_of dkAa1 (i := 16) rfl
theorem dX0_give_29 : decode cX0_give 29 = .ok (.aload_n 0, 1) := dk_of dkAa1 (i := 17) rfl
theorem dX0_give_30 : decode cX0_give 30 = .ok (.getfield 20, 3) := dk_of dkAa1 (i := 18) rfl
theorem dX0_give_33 : decode cX0_give 33 = .ok (.iload_n 3, 1) := dk_of dkAa1 (i := 19) rfl
theorem dX0_give_34 : decode cX0_give 34 = .ok (.aaload, 1) := dk_of dkAa1 (i := 20) rfl
theorem dX0_give_35 : decode cX0_give 35 = .ok (.iload 4, 2) := dk_of dkAa1 (i := 21) rfl
theorem dX0_give_37 : decode cX0_give 37 = .ok (.aload_n 0, 1) := dk_of dkAa1 (i := 22) rfl
theorem dX0_give_38 : decode cX0_give 38 = .ok (.iload_n 3, 1) := dk_of dkAa1 (i := 23) rfl
theorem dX0_give_39 : decode cX0_give 39 = .ok (.iload 4, 2) := dk_of dkAa1 (i := 24) rfl
theorem dX0_give_41 : decode cX0_give 41 = .ok (.invokevirtual 27, 3) := dk_of dkAa1 (i := 25) rfl
theorem dX0_give_44 : decode cX0_give 44 = .ok (.iastore, 1) := dk_of dkAa1 (i := 26) rfl
theorem dX0_give_45 : decode cX0_give 45 = .ok (.iinc 4 1, 3) := dk_of dkAa1 (i := 27) rfl
theorem dX0_give_48 : decode cX0_give 48 = .ok (.goto (-27), 3) := dk_of dkAa1 (i := 28) rfl
theorem dX0_give_51 : decode cX0_give 51 = .ok (.iinc 3 (-1), 3) := dk_of dkAa1 (i := 29) rfl
theorem dX0_give_54 : decode cX0_give 54 = .ok (.goto (-52), 3) := dk_of dkAa1 (i := 30) rfl
theorem dX0_give_57 : decode cX0_give 57 = .ok (.iconst 0, 1) := dk_of dkAa1 (i := 31) rfl
def dkLa2 : List (Nat × Instr × Nat) := [(58, .istore_n 3, 1), (59, .iconst 0, 1), (60, .istore 4, 2), (62, .iload 4, 2), (64, .bipush 6, 2), (66, .if_icmp .ge 46, 3), (69, .aload_n 0, 1), (70, .getfield 9, 3), (73, .iload 4, 2), (75, .aload_n 0, 1), (76, .iload 4, 2), (78, .iload_n 3, 1), (79, .invokevirtual 31, 3), (82, .iastore, 1), (83, .aload_n 0, 1), (84, .getfield 9, 3), (87, .iload 4, 2), (89, .iaload, 1), (90, .iconst (-1), 1), (91, .if_icmp .eq 15, 3), (94, .iload_n 3, 1), (95, .iconst 1, 1), (96, .aload_n 0, 1), (97, .getfield 9, 3), (100, .iload 4, 2), (102, .iaload, 1), (103, .ishl, 1), (104, .ior, 1), (105, .istore_n 3, 1), (106, .iinc 4 1, 3), (109, .goto (-47), 3), (112, .return_, 1)]
set_option maxRecDepth 100000 in
theorem dkAa2 : ∀ q ∈ dkLa2, decode cX0_give q.1 = .ok q.2 := by decide +kernel
theorem dX0_give_58 : decode cX0_give 58 = .ok (.istore_n 3, 1) := dk_of dkAa2 (i := 0) rfl
theorem dX0_give_59 : decode cX0_give 59 = .ok (.iconst 0, 1) := dk_of dkAa2 (i := 1) rfl
theorem dX0_give_60 : decode cX0_give 60 = .ok (.istore 4, 2) := dk_of dkAa2 (i := 2) rfl
theorem dX0_give_62 : decode cX0_give 62 = .ok (.iload 4, 2) := dk_of dkAa2 (i := 3) rfl
theorem dX0_give_64 : decode cX0_give 64 = .ok (.bipush 6, 2) := dk_of dkAa2 (i := 4) rfl
theorem dX0_give_66 : decode cX0_give 66 = .ok (.if_icmp .ge 46, 3) := dk_of dkAa2 (i := 5) rfl
theorem dX0_give_69 : decode cX0_give 69 = .ok (.aload_n 0, 1) := dk_of dkAa2 (i := 6) rfl
theorem dX0_give_70 : decode cX0_give 70 = .ok (.getfield 9, 3) := dk_of dkAa2 (i := 7) rfl
theorem dX0_give_73 : decode cX0_give 73 = .ok (.iload 4, 2) := dk_of dkAa2 (i := 8) rfl
theorem dX0_give_75 : decode cX0_give 75 = .ok (.aload_n 0, 1) := dk_of dkAa2 (i := 9) rfl
theorem dX0_give_76 : decode cX0_give 76 = .ok (.iload 4, 2) := dk_of dkAa2 (i := 10) rfl
theorem dX0_give_78 : decode cX0_give 78 = .ok (.iload_n 3, 1) := dk_of dkAa2 (i := 11) rfl
theorem dX0_give_79 : decode cX0_give 79 = .ok (.invokevirtual 31, 3) := dk_of dkAa2 (i := 12) rfl
theorem dX0_give_82 : decode cX0_give 82 = .ok (.iastore, 1) := dk_of dkAa2 (i := 13) rfl
theorem dX0_give_83 : decode cX0_give 83 = .ok (.aload_n 0, 1) := dk_of dkAa2 (i := 14) rfl
theorem dX0_give_84 : decode cX0_give 84 = .ok (.getfield 9, 3) := dk_of dkAa2 (i := 15) rfl
theorem dX0_give_87 : decode cX0_give 87 = .ok (.iload 4, 2) := dk_of dkAa2 (i := 16) rfl
theorem dX0_give_89 : decode cX0_give 89 = .ok (.iaload, 1) := dk_of dkAa2 (i := 17) rfl
theorem dX0_give_90 : decode cX0_give 90 = .ok (.iconst (-1), 1) := dk_of dkAa2 (i := 18) rfl
theorem dX0_give_91 : decode cX0_give 91 = .ok (.if_icmp .eq 15, 3) := dk_of dkAa2 (i := 19) rfl
theorem dX0_give_94 : decode cX0_give 94 = .ok (.iload_n 3, 1) := dk_of dkAa2 (i := 20) rfl
theorem dX0_give_95 : decode cX0_give 95 = .ok (.iconst 1, 1) := dk_of dkAa2 (i := 21) rfl
theorem dX0_give_96 : decode cX0_give 96 = .ok (.aload_n 0, 1) := dk_of dkAa2 (i := 22) rfl
theorem dX0_give_97 : decode cX0_give 97 = .ok (.getfield 9, 3) := dk_of dkAa2 (i := 23) rfl
theorem dX0_give_100 : decode cX0_give 100 = .ok (.iload 4, 2) := dk_of dkAa2 (i := 24) rfl
theorem dX0_give_102 : decode cX0_give 102 = .ok (.iaload, 1) := dk_of dkAa2 (i := 25) rfl
theorem dX0_give_103 : decode cX0_give 103 = .ok (.ishl, 1) := dk_of dkAa2 (i := 26) rfl
theorem dX0_give_104 : decode cX0_give 104 = .ok (.ior, 1) := dk_of dkAa2 (i := 27) rfl
theorem dX0_give_105 : decode cX0_give 105 = .ok (.istore_n 3, 1) := dk_of dkAa2 (i := 28) rfl
theorem dX0_give_106 : decode cX0_give 106 = .ok (.iinc 4 1, 3) := dk_of dkAa2 (i := 29) rfl
theorem dX0_give_109 : decode cX0_give 109 = .ok (.goto (-47), 3) := dk_of dkAa2 (i := 30) rfl
theorem dX0_give_112 : decode cX0_give 112 = .ok (.return_, 1) := dk_of dkAa2 (i := 31) rfl
def dkLa3 : List (Nat × Instr × Nat) := [(0, .iconst 0, 1), (1, .istore_n 3, 1), (2, .iconst 0, 1), (3, .istore 4, 2), (5, .iload 4, 2), (7, .bipush 7, 2), (9, .if_icmp .ge 39, 3), (12, .aload_n 2, 1), (13, .iload 4, 2), (15, .invokevirtual 34, 3), (18, .ifCond .eq 24, 3), (21, .aload_n 1, 1), (22, .iload_n 0, 1), (23, .aload_n 2, 1), (24, .iload 4, 2), (26, .invokevirtual 40, 3), (29, .invokevirtual 44, 3), (32, .ifCond .eq 10, 3), (35, .iload_n 3, 1), (36, .iconst 1, 1), (37, .iload 4, 2), (39, .ishl, 1), (40, .ior, 1), (41, .istore_n 3, 1), (42, .iinc 4 1, 3), (45, .goto (-40), 3), (48, .iload_n 3, 1), (49, .ireturn, 1)]
set_option maxRecDepth 100000 in
theorem dkAa3 : ∀ q ∈ dkLa3, decode cX0_suitedFor q.1 = .ok q.2 := by decide +kernel
theorem dX0_suitedFor_0 : decode cX0_suitedFor 0 = .ok (.iconst 0, 1) := dk_of dkAa3 (i := 0) rfl
theorem dX0_suitedFor_1 : decode cX0_suitedFor 1 = .ok (.istore_n 3, 1) := dk_of dkAa3 (i := 1) rfl
theorem dX0_suitedFor_2 : decode cX0_suitedFor 2 = .ok (.iconst 0, 1) := dk_of dkAa3 (i := 2) rfl
theorem dX0_suitedFor_3 : decode cX0_suitedFor 3 = .ok (.istore 4, 2) := dk_of dkAa3 (i := 3) rfl
theorem dX0_suitedFor_5 : decode cX0_suitedFor 5 = .ok (.iload 4, 2) := dk_of dkAa3 (i := 4) rfl
theorem dX0_suitedFor_7 : decode cX0_suitedFor 7 = .ok (.bipush 7, 2) := dk_of dkAa3 (i := 5) rfl
theorem dX0_suitedFor_9 : decode cX0_suitedFor 9 = .ok (.if_icmp .ge 39, 3) := dk_of dkAa3 (i := 6) rfl
theorem dX0_suitedFor_12 : decode cX0_suitedFor 12 = .ok (.aload_n 2, 1) := dk_of dkAa3 (i := 7) rfl
theorem dX0_suitedFor_13 : decode cX0_suitedFor 13 = .ok (.iload 4, 2) := dk_of dkAa3 (i := 8) rfl
theorem dX0_suitedFor_15 : decode cX0_suitedFor 15 = .ok (.invokevirtual 34, 3) := dk_of dkAa3 (i := 9) rfl
theorem dX0_suitedFor_18 : decode cX0_suitedFor 18 = .ok (.ifCond .eq 24, 3) := dk_of dkAa3 (i := 10) rfl
theorem dX0_suitedFor_21 : decode cX0_suitedFor 21 = .ok (.aload_n 1, 1) := dk_of dkAa3 (i := 11) rfl
theorem dX0_suitedFor_22 : decode cX0_suitedFor 22 = .ok (.iload_n 0, 1) := dk_of dkAa3 (i := 12) rfl
theorem dX0_suitedFor_23 : decode cX0_suitedFor 23 = .ok (.aload_n 2, 1) := dk_of dkAa3 (i := 13) rfl
theorem dX0_suitedFor_24 : decode cX0_suitedFor 24 = .ok (.iload 4, 2) := dk_of dkAa3 (i := 14) rfl
theorem dX0_suitedFor_26 : decode cX0_suitedFor 26 = .ok (.invokevirtual 40, 3) := dk_of dkAa3 (i := 15) rfl
theorem dX0_suitedFor_29 : decode cX0_suitedFor 29 = .ok (.invokevirtual 44, 3) := dk_of dkAa3 (i := 16) rfl
theorem dX0_suitedFor_32 : decode cX0_suitedFor 32 = .ok (.ifCond .eq 10, 3) := dk_of dkAa3 (i := 17) rfl
theorem dX0_suitedFor_35 : decode cX0_suitedFor 35 = .ok (.iload_n 3, 1) := dk_of dkAa3 (i := 18) rfl
theorem dX0_suitedFor_36 : decode cX0_suitedFor 36 = .ok (.iconst 1, 1) := dk_of dkAa3 (i := 19) rfl
theorem dX0_suitedFor_37 : decode cX0_suitedFor 37 = .ok (.iload 4, 2) := dk_of dkAa3 (i := 20) rfl
theorem dX0_suitedFor_39 : decode cX0_suitedFor 39 = .ok (.ishl, 1) := dk_of dkAa3 (i := 21) rfl
theorem dX0_suitedFor_40 : decode cX0_suitedFor 40 = .ok (.ior, 1) := dk_of dkAa3 (i := 22) rfl
theorem dX0_suitedFor_41 : decode cX0_suitedFor 41 = .ok (.istore_n 3, 1) := dk_of dkAa3 (i := 23) rfl
theorem dX0_suitedFor_42 : decode cX0_suitedFor 42 = .ok (.iinc 4 1, 3) := dk_of dkAa3 (i := 24) rfl
theorem dX0_suitedFor_45 : decode cX0_suitedFor 45 = .ok (.goto (-40), 3) := dk_of dkAa3 (i := 25) rfl
theorem dX0_suitedFor_48 : decode cX0_suitedFor 48 = .ok (.iload_n 3, 1) := dk_of dkAa3 (i := 26) rfl
theorem dX0_suitedFor_49 : decode cX0_suitedFor 49 = .ok (.ireturn, 1) := dk_of dkAa3 (i := 27) rfl
def dkLa4 : List (Nat × Instr × Nat) := [(0, .aload_n 0, 1), (1, .iload_n 1, 1), (2, .iconst 1, 1), (3, .iadd, 1), (4, .iload_n 2, 1), (5, .invokevirtual 50, 3), (8, .istore_n 3, 1), (9, .iconst 0, 1), (10, .istore 4, 2), (12, .iload 4, 2), (14, .bipush 7, 2), (16, .if_icmp .ge 40, 3), (19, .aload_n 0, 1), (20, .iload_n 1, 1), (21, .iload 4, 2), (23, .iload_n 2, 1), (24, .invokevirtual 53, 3), (27, .ifCond .eq 23, 3), (30, .iload_n 3, 1), (31, .iconst 1, 1), (32, .aload_n 0, 1), (33, .iload_n 1, 1), (34, .iconst 1, 1), (35, .iadd, 1), (36, .iload_n 2, 1), (37, .iconst 1, 1), (38, .iload 4, 2), (40, .ishl, 1), (41, .ior, 1), (42, .invokevirtual 50, 3), (45, .iadd, 1), (46, .invokestatic 57, 3)]
set_option maxRecDepth 100000 in
theorem dkAa4 : ∀ q ∈ dkLa4, decode cX0_mostFrom q.1 = .ok q.2 := by decide +kernel
theorem dX0_mostFrom_0 : decode cX0_mostFrom 0 = .ok (.aload_n 0, 1) := dk_of dkAa4 (i := 0) rfl
theorem dX0_mostFrom_1 : decode cX0_mostFrom 1 = .ok (.iload_n 1, 1) := dk_of dkAa4 (i := 1) rfl
theorem dX0_mostFrom_2 : decode cX0_mostFrom 2 = .ok (.iconst 1, 1) := dk_of dkAa4 (i := 2) rfl
theorem dX0_mostFrom_3 : decode cX0_mostFrom 3 = .ok (.iadd, 1) := dk_of dkAa4 (i := 3) rfl
theorem dX0_mostFrom_4 : decode cX0_mostFrom 4 = .ok (.iload_n 2, 1) := dk_of dkAa4 (i := 4) rfl
theorem dX0_mostFrom_5 : decode cX0_mostFrom 5 = .ok (.invokevirtual 50, 3) := dk_of dkAa4 (i := 5) rfl
theorem dX0_mostFrom_8 : decode cX0_mostFrom 8 = .ok (.istore_n 3, 1) := dk_of dkAa4 (i := 6) rfl
theorem dX0_mostFrom_9 : decode cX0_mostFrom 9 = .ok (.iconst 0, 1) := dk_of dkAa4 (i := 7) rfl
theorem dX0_mostFrom_10 : decode cX0_mostFrom 10 = .ok (.istore 4, 2) := dk_of dkAa4 (i := 8) rfl
theorem dX0_mostFrom_12 : decode cX0_mostFrom 12 = .ok (.iload 4, 2) := dk_of dkAa4 (i := 9) rfl
theorem dX0_mostFrom_14 : decode cX0_mostFrom 14 = .ok (.bipush 7, 2) := dk_of dkAa4 (i := 10) rfl
theorem dX0_mostFrom_16 : decode cX0_mostFrom 16 = .ok (.if_icmp .ge 40, 3) := dk_of dkAa4 (i := 11) rfl
theorem dX0_mostFrom_19 : decode cX0_mostFrom 19 = .ok (.aload_n 0, 1) := dk_of dkAa4 (i := 12) rfl
theorem dX0_mostFrom_20 : decode cX0_mostFrom 20 = .ok (.iload_n 1, 1) := dk_of dkAa4 (i := 13) rfl
theorem dX0_mostFrom_21 : decode cX0_mostFrom 21 = .ok (.iload 4, 2) := dk_of dkAa4 (i := 14) rfl
theorem dX0_mostFrom_23 : decode cX0_mostFrom 23 = .ok (.iload_n 2, 1) := dk_of dkAa4 (i := 15) rfl
theorem dX0_mostFrom_24 : decode cX0_mostFrom 24 = .ok (.invokevirtual 53, 3) := dk_of dkAa4 (i := 16) rfl
theorem dX0_mostFrom_27 : decode cX0_mostFrom 27 = .ok (.ifCond .eq 23, 3) := dk_of dkAa4 (i := 17) rfl
theorem dX0_mostFrom_30 : decode cX0_mostFrom 30 = .ok (.iload_n 3, 1) := dk_of dkAa4 (i := 18) rfl
theorem dX0_mostFrom_31 : decode cX0_mostFrom 31 = .ok (.iconst 1, 1) := dk_of dkAa4 (i := 19) rfl
theorem dX0_mostFrom_32 : decode cX0_mostFrom 32 = .ok (.aload_n 0, 1) := dk_of dkAa4 (i := 20) rfl
theorem dX0_mostFrom_33 : decode cX0_mostFrom 33 = .ok (.iload_n 1, 1) := dk_of dkAa4 (i := 21) rfl
theorem dX0_mostFrom_34 : decode cX0_mostFrom 34 = .ok (.iconst 1, 1) := dk_of dkAa4 (i := 22) rfl
theorem dX0_mostFrom_35 : decode cX0_mostFrom 35 = .ok (.iadd, 1) := dk_of dkAa4 (i := 23) rfl
theorem dX0_mostFrom_36 : decode cX0_mostFrom 36 = .ok (.iload_n 2, 1) := dk_of dkAa4 (i := 24) rfl
theorem dX0_mostFrom_37 : decode cX0_mostFrom 37 = .ok (.iconst 1, 1) := dk_of dkAa4 (i := 25) rfl
theorem dX0_mostFrom_38 : decode cX0_mostFrom 38 = .ok (.iload 4, 2) := dk_of dkAa4 (i := 26) rfl
theorem dX0_mostFrom_40 : decode cX0_mostFrom 40 = .ok (.ishl, 1) := dk_of dkAa4 (i := 27) rfl
theorem dX0_mostFrom_41 : decode cX0_mostFrom 41 = .ok (.ior, 1) := dk_of dkAa4 (i := 28) rfl
theorem dX0_mostFrom_42 : decode cX0_mostFrom 42 = .ok (.invokevirtual 50, 3) := dk_of dkAa4 (i := 29) rfl
theorem dX0_mostFrom_45 : decode cX0_mostFrom 45 = .ok (.iadd, 1) := dk_of dkAa4 (i := 30) rfl
theorem dX0_mostFrom_46 : decode cX0_mostFrom 46 = .ok (.invokestatic 57, 3) := dk_of dkAa4 (i := 31) rfl
def dkLa5 : List (Nat × Instr × Nat) := [(49, .istore_n 3, 1), (50, .iinc 4 1, 3), (53, .goto (-41), 3), (56, .iload_n 3, 1), (57, .ireturn, 1)]
set_option maxRecDepth 100000 in
theorem dkAa5 : ∀ q ∈ dkLa5, decode cX0_mostFrom q.1 = .ok q.2 := by decide +kernel
theorem dX0_mostFrom_49 : decode cX0_mostFrom 49 = .ok (.istore_n 3, 1) := dk_of dkAa5 (i := 0) rfl
theorem dX0_mostFrom_50 : decode cX0_mostFrom 50 = .ok (.iinc 4 1, 3) := dk_of dkAa5 (i := 1) rfl
theorem dX0_mostFrom_53 : decode cX0_mostFrom 53 = .ok (.goto (-41), 3) := dk_of dkAa5 (i := 2) rfl
theorem dX0_mostFrom_56 : decode cX0_mostFrom 56 = .ok (.iload_n 3, 1) := dk_of dkAa5 (i := 3) rfl
theorem dX0_mostFrom_57 : decode cX0_mostFrom 57 = .ok (.ireturn, 1) := dk_of dkAa5 (i := 4) rfl
def dkLa6 : List (Nat × Instr × Nat) := [(0, .iconst 0, 1), (1, .istore_n 3, 1), (2, .iload_n 3, 1), (3, .bipush 7, 2), (5, .if_icmp .ge 44, 3), (8, .aload_n 0, 1), (9, .iload_n 1, 1), (10, .iload_n 3, 1), (11, .iload_n 2, 1), (12, .invokevirtual 53, 3), (15, .ifCond .eq 28, 3), (18, .iconst 1, 1), (19, .aload_n 0, 1), (20, .iload_n 1, 1), (21, .iconst 1, 1), (22, .iadd, 1), (23, .iload_n 2, 1), (24, .iconst 1, 1), (25, .iload_n 3, 1), (26, .ishl, 1), (27, .ior, 1), (28, .invokevirtual 50, 3), (31, .iadd, 1), (32, .aload_n 0, 1), (33, .iload_n 1, 1), (34, .iload_n 2, 1), (35, .invokevirtual 50, 3), (38, .if_icmp .ne 5, 3), (41, .iload_n 3, 1), (42, .ireturn, 1), (43, .iinc 3 1, 3), (46, .goto (-44), 3)]
set_option maxRecDepth 100000 in
theorem dkAa6 : ∀ q ∈ dkLa6, decode cX0_leastSinger q.1 = .ok q.2 := by decide +kernel
theorem dX0_leastSinger_0 : decode cX0_leastSinger 0 = .ok (.iconst 0, 1) := dk_of dkAa6 (i := 0) rfl
theorem dX0_leastSinger_1 : decode cX0_leastSinger 1 = .ok (.istore_n 3, 1) := dk_of dkAa6 (i := 1) rfl
theorem dX0_leastSinger_2 : decode cX0_leastSinger 2 = .ok (.iload_n 3, 1) := dk_of dkAa6 (i := 2) rfl
theorem dX0_leastSinger_3 : decode cX0_leastSinger 3 = .ok (.bipush 7, 2) := dk_of dkAa6 (i := 3) rfl
theorem dX0_leastSinger_5 : decode cX0_leastSinger 5 = .ok (.if_icmp .ge 44, 3) := dk_of dkAa6 (i := 4) rfl
theorem dX0_leastSinger_8 : decode cX0_leastSinger 8 = .ok (.aload_n 0, 1) := dk_of dkAa6 (i := 5) rfl
theorem dX0_leastSinger_9 : decode cX0_leastSinger 9 = .ok (.iload_n 1, 1) := dk_of dkAa6 (i := 6) rfl
theorem dX0_leastSinger_10 : decode cX0_leastSinger 10 = .ok (.iload_n 3, 1) := dk_of dkAa6 (i := 7) rfl
theorem dX0_leastSinger_11 : decode cX0_leastSinger 11 = .ok (.iload_n 2, 1) := dk_of dkAa6 (i := 8) rfl
theorem dX0_leastSinger_12 : decode cX0_leastSinger 12 = .ok (.invokevirtual 53, 3) := dk_of dkAa6 (i := 9) rfl
theorem dX0_leastSinger_15 : decode cX0_leastSinger 15 = .ok (.ifCond .eq 28, 3) := dk_of dkAa6 (i := 10) rfl
theorem dX0_leastSinger_18 : decode cX0_leastSinger 18 = .ok (.iconst 1, 1) := dk_of dkAa6 (i := 11) rfl
theorem dX0_leastSinger_19 : decode cX0_leastSinger 19 = .ok (.aload_n 0, 1) := dk_of dkAa6 (i := 12) rfl
theorem dX0_leastSinger_20 : decode cX0_leastSinger 20 = .ok (.iload_n 1, 1) := dk_of dkAa6 (i := 13) rfl
theorem dX0_leastSinger_21 : decode cX0_leastSinger 21 = .ok (.iconst 1, 1) := dk_of dkAa6 (i := 14) rfl
theorem dX0_leastSinger_22 : decode cX0_leastSinger 22 = .ok (.iadd, 1) := dk_of dkAa6 (i := 15) rfl
theorem dX0_leastSinger_23 : decode cX0_leastSinger 23 = .ok (.iload_n 2, 1) := dk_of dkAa6 (i := 16) rfl
theorem dX0_leastSinger_24 : decode cX0_leastSinger 24 = .ok (.iconst 1, 1) := dk_of dkAa6 (i := 17) rfl
theorem dX0_leastSinger_25 : decode cX0_leastSinger 25 = .ok (.iload_n 3, 1) := dk_of dkAa6 (i := 18) rfl
theorem dX0_leastSinger_26 : decode cX0_leastSinger 26 = .ok (.ishl, 1) := dk_of dkAa6 (i := 19) rfl
theorem dX0_leastSinger_27 : decode cX0_leastSinger 27 = .ok (.ior, 1) := dk_of dkAa6 (i := 20) rfl
theorem dX0_leastSinger_28 : decode cX0_leastSinger 28 = .ok (.invokevirtual 50, 3) := dk_of dkAa6 (i := 21) rfl
theorem dX0_leastSinger_31 : decode cX0_leastSinger 31 = .ok (.iadd, 1) := dk_of dkAa6 (i := 22) rfl
theorem dX0_leastSinger_32 : decode cX0_leastSinger 32 = .ok (.aload_n 0, 1) := dk_of dkAa6 (i := 23) rfl
theorem dX0_leastSinger_33 : decode cX0_leastSinger 33 = .ok (.iload_n 1, 1) := dk_of dkAa6 (i := 24) rfl
theorem dX0_leastSinger_34 : decode cX0_leastSinger 34 = .ok (.iload_n 2, 1) := dk_of dkAa6 (i := 25) rfl
theorem dX0_leastSinger_35 : decode cX0_leastSinger 35 = .ok (.invokevirtual 50, 3) := dk_of dkAa6 (i := 26) rfl
theorem dX0_leastSinger_38 : decode cX0_leastSinger 38 = .ok (.if_icmp .ne 5, 3) := dk_of dkAa6 (i := 27) rfl
theorem dX0_leastSinger_41 : decode cX0_leastSinger 41 = .ok (.iload_n 3, 1) := dk_of dkAa6 (i := 28) rfl
theorem dX0_leastSinger_42 : decode cX0_leastSinger 42 = .ok (.ireturn, 1) := dk_of dkAa6 (i := 29) rfl
theorem dX0_leastSinger_43 : decode cX0_leastSinger 43 = .ok (.iinc 3 1, 3) := dk_of dkAa6 (i := 30) rfl
theorem dX0_leastSinger_46 : decode cX0_leastSinger 46 = .ok (.goto (-44), 3) := dk_of dkAa6 (i := 31) rfl
theorem dX0_leastSinger_49 : decode cX0_leastSinger 49 = .ok (.iconst (-1), 1) := by decide +kernel
theorem dX0_leastSinger_50 : decode cX0_leastSinger 50 = .ok (.ireturn, 1) := by decide +kernel
def dkLa7 : List (Nat × Instr × Nat) := [(0, .iload_n 1, 1), (1, .ifCond .lt 37, 3), (4, .iload_n 1, 1), (5, .aload_n 0, 1), (6, .getfield 15, 3), (9, .arraylength, 1), (10, .if_icmp .ge 28, 3), (13, .aload_n 0, 1), (14, .getfield 15, 3), (17, .iload_n 1, 1), (18, .iaload, 1), (19, .iload_n 2, 1), (20, .invokestatic 62, 3), (23, .ifCond .eq 15, 3), (26, .iload_n 3, 1), (27, .iload_n 2, 1), (28, .invokestatic 62, 3), (31, .ifCond .ne 7, 3), (34, .iconst 1, 1), (35, .goto 4, 3), (38, .iconst 0, 1), (39, .ireturn, 1)]
set_option maxRecDepth 100000 in
theorem dkAa7 : ∀ q ∈ dkLa7, decode cX0_isFree q.1 = .ok q.2 := by decide +kernel
theorem dX0_isFree_0 : decode cX0_isFree 0 = .ok (.iload_n 1, 1) := dk_of dkAa7 (i := 0) rfl
theorem dX0_isFree_1 : decode cX0_isFree 1 = .ok (.ifCond .lt 37, 3) := dk_of dkAa7 (i := 1) rfl
theorem dX0_isFree_4 : decode cX0_isFree 4 = .ok (.iload_n 1, 1) := dk_of dkAa7 (i := 2) rfl
theorem dX0_isFree_5 : decode cX0_isFree 5 = .ok (.aload_n 0, 1) := dk_of dkAa7 (i := 3) rfl
theorem dX0_isFree_6 : decode cX0_isFree 6 = .ok (.getfield 15, 3) := dk_of dkAa7 (i := 4) rfl
theorem dX0_isFree_9 : decode cX0_isFree 9 = .ok (.arraylength, 1) := dk_of dkAa7 (i := 5) rfl
theorem dX0_isFree_10 : decode cX0_isFree 10 = .ok (.if_icmp .ge 28, 3) := dk_of dkAa7 (i := 6) rfl
theorem dX0_isFree_13 : decode cX0_isFree 13 = .ok (.aload_n 0, 1) := dk_of dkAa7 (i := 7) rfl
theorem dX0_isFree_14 : decode cX0_isFree 14 = .ok (.getfield 15, 3) := dk_of dkAa7 (i := 8) rfl
theorem dX0_isFree_17 : decode cX0_isFree 17 = .ok (.iload_n 1, 1) := dk_of dkAa7 (i := 9) rfl
theorem dX0_isFree_18 : decode cX0_isFree 18 = .ok (.iaload, 1) := dk_of dkAa7 (i := 10) rfl
theorem dX0_isFree_19 : decode cX0_isFree 19 = .ok (.iload_n 2, 1) := dk_of dkAa7 (i := 11) rfl
theorem dX0_isFree_20 : decode cX0_isFree 20 = .ok (.invokestatic 62, 3) := dk_of dkAa7 (i := 12) rfl
theorem dX0_isFree_23 : decode cX0_isFree 23 = .ok (.ifCond .eq 15, 3) := dk_of dkAa7 (i := 13) rfl
theorem dX0_isFree_26 : decode cX0_isFree 26 = .ok (.iload_n 3, 1) := dk_of dkAa7 (i := 14) rfl
theorem dX0_isFree_27 : decode cX0_isFree 27 = .ok (.iload_n 2, 1) := dk_of dkAa7 (i := 15) rfl
theorem dX0_isFree_28 : decode cX0_isFree 28 = .ok (.invokestatic 62, 3) := dk_of dkAa7 (i := 16) rfl
theorem dX0_isFree_31 : decode cX0_isFree 31 = .ok (.ifCond .ne 7, 3) := dk_of dkAa7 (i := 17) rfl
theorem dX0_isFree_34 : decode cX0_isFree 34 = .ok (.iconst 1, 1) := dk_of dkAa7 (i := 18) rfl
theorem dX0_isFree_35 : decode cX0_isFree 35 = .ok (.goto 4, 3) := dk_of dkAa7 (i := 19) rfl
theorem dX0_isFree_38 : decode cX0_isFree 38 = .ok (.iconst 0, 1) := dk_of dkAa7 (i := 20) rfl
theorem dX0_isFree_39 : decode cX0_isFree 39 = .ok (.ireturn, 1) := dk_of dkAa7 (i := 21) rfl
def dkLa8 : List (Nat × Instr × Nat) := [(0, .iload_n 1, 1), (1, .ifCond .lt 31, 3), (4, .iload_n 1, 1), (5, .bipush 6, 2), (7, .if_icmp .gt 25, 3), (10, .iload_n 2, 1), (11, .ifCond .lt 21, 3), (14, .iload_n 2, 1), (15, .sipush 128, 3), (18, .if_icmp .ge 14, 3), (21, .aload_n 0, 1), (22, .getfield 20, 3), (25, .iload_n 1, 1), (26, .aaload, 1), (27, .iload_n 2, 1), (28, .iaload, 1), (29, .goto 4, 3), (32, .iconst 0, 1), (33, .ireturn, 1)]
set_option maxRecDepth 100000 in
theorem dkAa8 : ∀ q ∈ dkLa8, decode cX0_sungFrom q.1 = .ok q.2 := by decide +kernel
theorem dX0_sungFrom_0 : decode cX0_sungFrom 0 = .ok (.iload_n 1, 1) := dk_of dkAa8 (i := 0) rfl
theorem dX0_sungFrom_1 : decode cX0_sungFrom 1 = .ok (.ifCond .lt 31, 3) := dk_of dkAa8 (i := 1) rfl
theorem dX0_sungFrom_4 : decode cX0_sungFrom 4 = .ok (.iload_n 1, 1) := dk_of dkAa8 (i := 2) rfl
theorem dX0_sungFrom_5 : decode cX0_sungFrom 5 = .ok (.bipush 6, 2) := dk_of dkAa8 (i := 3) rfl
theorem dX0_sungFrom_7 : decode cX0_sungFrom 7 = .ok (.if_icmp .gt 25, 3) := dk_of dkAa8 (i := 4) rfl
theorem dX0_sungFrom_10 : decode cX0_sungFrom 10 = .ok (.iload_n 2, 1) := dk_of dkAa8 (i := 5) rfl
theorem dX0_sungFrom_11 : decode cX0_sungFrom 11 = .ok (.ifCond .lt 21, 3) := dk_of dkAa8 (i := 6) rfl
theorem dX0_sungFrom_14 : decode cX0_sungFrom 14 = .ok (.iload_n 2, 1) := dk_of dkAa8 (i := 7) rfl
theorem dX0_sungFrom_15 : decode cX0_sungFrom 15 = .ok (.sipush 128, 3) := dk_of dkAa8 (i := 8) rfl
theorem dX0_sungFrom_18 : decode cX0_sungFrom 18 = .ok (.if_icmp .ge 14, 3) := dk_of dkAa8 (i := 9) rfl
theorem dX0_sungFrom_21 : decode cX0_sungFrom 21 = .ok (.aload_n 0, 1) := dk_of dkAa8 (i := 10) rfl
theorem dX0_sungFrom_22 : decode cX0_sungFrom 22 = .ok (.getfield 20, 3) := dk_of dkAa8 (i := 11) rfl
theorem dX0_sungFrom_25 : decode cX0_sungFrom 25 = .ok (.iload_n 1, 1) := dk_of dkAa8 (i := 12) rfl
theorem dX0_sungFrom_26 : decode cX0_sungFrom 26 = .ok (.aaload, 1) := dk_of dkAa8 (i := 13) rfl
theorem dX0_sungFrom_27 : decode cX0_sungFrom 27 = .ok (.iload_n 2, 1) := dk_of dkAa8 (i := 14) rfl
theorem dX0_sungFrom_28 : decode cX0_sungFrom 28 = .ok (.iaload, 1) := dk_of dkAa8 (i := 15) rfl
theorem dX0_sungFrom_29 : decode cX0_sungFrom 29 = .ok (.goto 4, 3) := dk_of dkAa8 (i := 16) rfl
theorem dX0_sungFrom_32 : decode cX0_sungFrom 32 = .ok (.iconst 0, 1) := dk_of dkAa8 (i := 17) rfl
theorem dX0_sungFrom_33 : decode cX0_sungFrom 33 = .ok (.ireturn, 1) := dk_of dkAa8 (i := 18) rfl
def dkLa9 : List (Nat × Instr × Nat) := [(0, .aload_n 0, 1), (1, .iconst 0, 1), (2, .iconst 0, 1), (3, .invokevirtual 50, 3), (6, .ireturn, 1)]
set_option maxRecDepth 100000 in
theorem dkAa9 : ∀ q ∈ dkLa9, decode cX0_sung q.1 = .ok q.2 := by decide +kernel
theorem dX0_sung_0 : decode cX0_sung 0 = .ok (.aload_n 0, 1) := dk_of dkAa9 (i := 0) rfl
theorem dX0_sung_1 : decode cX0_sung 1 = .ok (.iconst 0, 1) := dk_of dkAa9 (i := 1) rfl
theorem dX0_sung_2 : decode cX0_sung 2 = .ok (.iconst 0, 1) := dk_of dkAa9 (i := 2) rfl
theorem dX0_sung_3 : decode cX0_sung 3 = .ok (.invokevirtual 50, 3) := dk_of dkAa9 (i := 3) rfl
theorem dX0_sung_6 : decode cX0_sung 6 = .ok (.ireturn, 1) := dk_of dkAa9 (i := 4) rfl
def dkLa10 : List (Nat × Instr × Nat) := [(0, .iload_n 1, 1), (1, .ifCond .lt 21, 3), (4, .iload_n 1, 1), (5, .aload_n 0, 1), (6, .getfield 9, 3), (9, .arraylength, 1), (10, .if_icmp .ge 12, 3), (13, .aload_n 0, 1), (14, .getfield 9, 3), (17, .iload_n 1, 1), (18, .iaload, 1), (19, .goto 4, 3), (22, .iconst (-1), 1), (23, .ireturn, 1)]
set_option maxRecDepth 100000 in
theorem dkAa10 : ∀ q ∈ dkLa10, decode cX0_singerOf q.1 = .ok q.2 := by decide +kernel
theorem dX0_singerOf_0 : decode cX0_singerOf 0 = .ok (.iload_n 1, 1) := dk_of dkAa10 (i := 0) rfl
theorem dX0_singerOf_1 : decode cX0_singerOf 1 = .ok (.ifCond .lt 21, 3) := dk_of dkAa10 (i := 1) rfl
theorem dX0_singerOf_4 : decode cX0_singerOf 4 = .ok (.iload_n 1, 1) := dk_of dkAa10 (i := 2) rfl
theorem dX0_singerOf_5 : decode cX0_singerOf 5 = .ok (.aload_n 0, 1) := dk_of dkAa10 (i := 3) rfl
theorem dX0_singerOf_6 : decode cX0_singerOf 6 = .ok (.getfield 9, 3) := dk_of dkAa10 (i := 4) rfl
theorem dX0_singerOf_9 : decode cX0_singerOf 9 = .ok (.arraylength, 1) := dk_of dkAa10 (i := 5) rfl
theorem dX0_singerOf_10 : decode cX0_singerOf 10 = .ok (.if_icmp .ge 12, 3) := dk_of dkAa10 (i := 6) rfl
theorem dX0_singerOf_13 : decode cX0_singerOf 13 = .ok (.aload_n 0, 1) := dk_of dkAa10 (i := 7) rfl
theorem dX0_singerOf_14 : decode cX0_singerOf 14 = .ok (.getfield 9, 3) := dk_of dkAa10 (i := 8) rfl
theorem dX0_singerOf_17 : decode cX0_singerOf 17 = .ok (.iload_n 1, 1) := dk_of dkAa10 (i := 9) rfl
theorem dX0_singerOf_18 : decode cX0_singerOf 18 = .ok (.iaload, 1) := dk_of dkAa10 (i := 10) rfl
theorem dX0_singerOf_19 : decode cX0_singerOf 19 = .ok (.goto 4, 3) := dk_of dkAa10 (i := 11) rfl
theorem dX0_singerOf_22 : decode cX0_singerOf 22 = .ok (.iconst (-1), 1) := dk_of dkAa10 (i := 12) rfl
theorem dX0_singerOf_23 : decode cX0_singerOf 23 = .ok (.ireturn, 1) := dk_of dkAa10 (i := 13) rfl
def dkLa11 : List (Nat × Instr × Nat) := [(0, .aload_n 0, 1), (1, .invokespecial 1, 3), (4, .return_, 1)]
set_option maxRecDepth 100000 in
theorem dkAa11 : ∀ q ∈ dkLa11, decode cX1_init q.1 = .ok q.2 := by decide +kernel
theorem dX1_init_0 : decode cX1_init 0 = .ok (.aload_n 0, 1) := dk_of dkAa11 (i := 0) rfl
theorem dX1_init_1 : decode cX1_init 1 = .ok (.invokespecial 1, 3) := dk_of dkAa11 (i := 1) rfl
theorem dX1_init_4 : decode cX1_init 4 = .ok (.return_, 1) := dk_of dkAa11 (i := 2) rfl
def dkLa12 : List (Nat × Instr × Nat) := [(0, .aload_n 0, 1), (1, .aload_n 0, 1), (2, .getfield 7, 3), (5, .i2l, 1), (6, .ldc2_w 13, 3), (9, .lmul, 1), (10, .ldc2_w 15, 3), (13, .ladd, 1), (14, .ldc2_w 17, 3), (17, .lrem, 1), (18, .l2i, 1), (19, .putfield 7, 3), (22, .iload_n 1, 1), (23, .ifCond .le 15, 3), (26, .aload_n 0, 1), (27, .getfield 7, 3), (30, .ldc 19, 2), (32, .idiv, 1), (33, .iload_n 1, 1), (34, .irem, 1), (35, .goto 4, 3), (38, .iconst 0, 1), (39, .ireturn, 1)]
set_option maxRecDepth 100000 in
theorem dkAa12 : ∀ q ∈ dkLa12, decode cX1_next q.1 = .ok q.2 := by decide +kernel
theorem dX1_next_0 : decode cX1_next 0 = .ok (.aload_n 0, 1) := dk_of dkAa12 (i := 0) rfl
theorem dX1_next_1 : decode cX1_next 1 = .ok (.aload_n 0, 1) := dk_of dkAa12 (i := 1) rfl
theorem dX1_next_2 : decode cX1_next 2 = .ok (.getfield 7, 3) := dk_of dkAa12 (i := 2) rfl
theorem dX1_next_5 : decode cX1_next 5 = .ok (.i2l, 1) := dk_of dkAa12 (i := 3) rfl
theorem dX1_next_6 : decode cX1_next 6 = .ok (.ldc2_w 13, 3) := dk_of dkAa12 (i := 4) rfl
theorem dX1_next_9 : decode cX1_next 9 = .ok (.lmul, 1) := dk_of dkAa12 (i := 5) rfl
theorem dX1_next_10 : decode cX1_next 10 = .ok (.ldc2_w 15, 3) := dk_of dkAa12 (i := 6) rfl
theorem dX1_next_13 : decode cX1_next 13 = .ok (.ladd, 1) := dk_of dkAa12 (i := 7) rfl
theorem dX1_next_14 : decode cX1_next 14 = .ok (.ldc2_w 17, 3) := dk_of dkAa12 (i := 8) rfl
theorem dX1_next_17 : decode cX1_next 17 = .ok (.lrem, 1) := dk_of dkAa12 (i := 9) rfl
theorem dX1_next_18 : decode cX1_next 18 = .ok (.l2i, 1) := dk_of dkAa12 (i := 10) rfl
theorem dX1_next_19 : decode cX1_next 19 = .ok (.putfield 7, 3) := dk_of dkAa12 (i := 11) rfl
theorem dX1_next_22 : decode cX1_next 22 = .ok (.iload_n 1, 1) := dk_of dkAa12 (i := 12) rfl
theorem dX1_next_23 : decode cX1_next 23 = .ok (.ifCond .le 15, 3) := dk_of dkAa12 (i := 13) rfl
theorem dX1_next_26 : decode cX1_next 26 = .ok (.aload_n 0, 1) := dk_of dkAa12 (i := 14) rfl
theorem dX1_next_27 : decode cX1_next 27 = .ok (.getfield 7, 3) := dk_of dkAa12 (i := 15) rfl
theorem dX1_next_30 : decode cX1_next 30 = .ok (.ldc 19, 2) := dk_of dkAa12 (i := 16) rfl
theorem dX1_next_32 : decode cX1_next 32 = .ok (.idiv, 1) := dk_of dkAa12 (i := 17) rfl
theorem dX1_next_33 : decode cX1_next 33 = .ok (.iload_n 1, 1) := dk_of dkAa12 (i := 18) rfl
theorem dX1_next_34 : decode cX1_next 34 = .ok (.irem, 1) := dk_of dkAa12 (i := 19) rfl
theorem dX1_next_35 : decode cX1_next 35 = .ok (.goto 4, 3) := dk_of dkAa12 (i := 20) rfl
theorem dX1_next_38 : decode cX1_next 38 = .ok (.iconst 0, 1) := dk_of dkAa12 (i := 21) rfl
theorem dX1_next_39 : decode cX1_next 39 = .ok (.ireturn, 1) := dk_of dkAa12 (i := 22) rfl
def dkLa13 : List (Nat × Instr × Nat) := [(0, .aload_n 0, 1), (1, .invokespecial 3, 3), (4, .iconst 0, 1), (5, .iload_n 1, 1), (6, .invokestatic 9, 3), (9, .istore_n 2, 1), (10, .aload_n 0, 1), (11, .iload_n 2, 1), (12, .newarray .int, 2), (14, .putfield 15, 3), (17, .aload_n 0, 1), (18, .iload_n 2, 1), (19, .newarray .int, 2), (21, .putfield 21, 3), (24, .return_, 1)]
set_option maxRecDepth 100000 in
theorem dkAa13 : ∀ q ∈ dkLa13, decode cX2_init q.1 = .ok q.2 := by decide +kernel
theorem dX2_init_0 : decode cX2_init 0 = .ok (.aload_n 0, 1) := dk_of dkAa13 (i := 0) rfl
theorem dX2_init_1 : decode cX2_init 1 = .ok (.invokespecial 3, 3) := dk_of dkAa13 (i := 1) rfl
theorem dX2_init_4 : decode cX2_init 4 = .ok (.iconst 0, 1) := dk_of dkAa13 (i := 2) rfl
theorem dX2_init_5 : decode cX2_init 5 = .ok (.iload_n 1, 1) := dk_of dkAa13 (i := 3) rfl
theorem dX2_init_6 : decode cX2_init 6 = .ok (.invokestatic 9, 3) := dk_of dkAa13 (i := 4) rfl
theorem dX2_init_9 : decode cX2_init 9 = .ok (.istore_n 2, 1) := dk_of dkAa13 (i := 5) rfl
theorem dX2_init_10 : decode cX2_init 10 = .ok (.aload_n 0, 1) := dk_of dkAa13 (i := 6) rfl
theorem dX2_init_11 : decode cX2_init 11 = .ok (.iload_n 2, 1) := dk_of dkAa13 (i := 7) rfl
theorem dX2_init_12 : decode cX2_init 12 = .ok (.newarray .int, 2) := dk_of dkAa13 (i := 8) rfl
theorem dX2_init_14 : decode cX2_init 14 = .ok (.putfield 15, 3) := dk_of dkAa13 (i := 9) rfl
theorem dX2_init_17 : decode cX2_init 17 = .ok (.aload_n 0, 1) := dk_of dkAa13 (i := 10) rfl
theorem dX2_init_18 : decode cX2_init 18 = .ok (.iload_n 2, 1) := dk_of dkAa13 (i := 11) rfl
theorem dX2_init_19 : decode cX2_init 19 = .ok (.newarray .int, 2) := dk_of dkAa13 (i := 12) rfl
theorem dX2_init_21 : decode cX2_init 21 = .ok (.putfield 21, 3) := dk_of dkAa13 (i := 13) rfl
theorem dX2_init_24 : decode cX2_init 24 = .ok (.return_, 1) := dk_of dkAa13 (i := 14) rfl
def dkLa14 : List (Nat × Instr × Nat) := [(0, .aload_n 0, 1), (1, .iconst 0, 1), (2, .putfield 24, 3), (5, .return_, 1)]
set_option maxRecDepth 100000 in
theorem dkAa14 : ∀ q ∈ dkLa14, decode cX2_clear q.1 = .ok q.2 := by decide +kernel
theorem dX2_clear_0 : decode cX2_clear 0 = .ok (.aload_n 0, 1) := dk_of dkAa14 (i := 0) rfl
theorem dX2_clear_1 : decode cX2_clear 1 = .ok (.iconst 0, 1) := dk_of dkAa14 (i := 1) rfl
theorem dX2_clear_2 : decode cX2_clear 2 = .ok (.putfield 24, 3) := dk_of dkAa14 (i := 2) rfl
theorem dX2_clear_5 : decode cX2_clear 5 = .ok (.return_, 1) := dk_of dkAa14 (i := 3) rfl
def dkLa15 : List (Nat × Instr × Nat) := [(0, .aload_n 0, 1), (1, .getfield 24, 3), (4, .aload_n 0, 1), (5, .getfield 15, 3), (8, .arraylength, 1), (9, .if_icmp .ge 15, 3), (12, .aload_n 0, 1), (13, .getfield 24, 3), (16, .aload_n 0, 1), (17, .getfield 21, 3), (20, .arraylength, 1), (21, .if_icmp .lt 5, 3), (24, .iconst 0, 1), (25, .ireturn, 1), (26, .aload_n 0, 1), (27, .getfield 15, 3), (30, .aload_n 0, 1), (31, .getfield 24, 3), (34, .iload_n 1, 1), (35, .iastore, 1), (36, .aload_n 0, 1), (37, .getfield 21, 3), (40, .aload_n 0, 1), (41, .getfield 24, 3), (44, .iload_n 2, 1), (45, .iastore, 1), (46, .aload_n 0, 1), (47, .dup, 1), (48, .getfield 24, 3), (51, .iconst 1, 1), (52, .iadd, 1), (53, .putfield 24, 3)]
set_option maxRecDepth 100000 in
theorem dkAa15 : ∀ q ∈ dkLa15, decode cX2_add q.1 = .ok q.2 := by decide +kernel
theorem dX2_add_0 : decode cX2_add 0 = .ok (.aload_n 0, 1) := dk_of dkAa15 (i := 0) rfl
theorem dX2_add_1 : decode cX2_add 1 = .ok (.getfield 24, 3) := dk_of dkAa15 (i := 1) rfl
theorem dX2_add_4 : decode cX2_add 4 = .ok (.aload_n 0, 1) := dk_of dkAa15 (i := 2) rfl
theorem dX2_add_5 : decode cX2_add 5 = .ok (.getfield 15, 3) := dk_of dkAa15 (i := 3) rfl
theorem dX2_add_8 : decode cX2_add 8 = .ok (.arraylength, 1) := dk_of dkAa15 (i := 4) rfl
theorem dX2_add_9 : decode cX2_add 9 = .ok (.if_icmp .ge 15, 3) := dk_of dkAa15 (i := 5) rfl
theorem dX2_add_12 : decode cX2_add 12 = .ok (.aload_n 0, 1) := dk_of dkAa15 (i := 6) rfl
theorem dX2_add_13 : decode cX2_add 13 = .ok (.getfield 24, 3) := dk_of dkAa15 (i := 7) rfl
theorem dX2_add_16 : decode cX2_add 16 = .ok (.aload_n 0, 1) := dk_of dkAa15 (i := 8) rfl
theorem dX2_add_17 : decode cX2_add 17 = .ok (.getfield 21, 3) := dk_of dkAa15 (i := 9) rfl
theorem dX2_add_20 : decode cX2_add 20 = .ok (.arraylength, 1) := dk_of dkAa15 (i := 10) rfl
theorem dX2_add_21 : decode cX2_add 21 = .ok (.if_icmp .lt 5, 3) := dk_of dkAa15 (i := 11) rfl
theorem dX2_add_24 : decode cX2_add 24 = .ok (.iconst 0, 1) := dk_of dkAa15 (i := 12) rfl
theorem dX2_add_25 : decode cX2_add 25 = .ok (.ireturn, 1) := dk_of dkAa15 (i := 13) rfl
theorem dX2_add_26 : decode cX2_add 26 = .ok (.aload_n 0, 1) := dk_of dkAa15 (i := 14) rfl
theorem dX2_add_27 : decode cX2_add 27 = .ok (.getfield 15, 3) := dk_of dkAa15 (i := 15) rfl
theorem dX2_add_30 : decode cX2_add 30 = .ok (.aload_n 0, 1) := dk_of dkAa15 (i := 16) rfl
theorem dX2_add_31 : decode cX2_add 31 = .ok (.getfield 24, 3) := dk_of dkAa15 (i := 17) rfl
theorem dX2_add_34 : decode cX2_add 34 = .ok (.iload_n 1, 1) := dk_of dkAa15 (i := 18) rfl
theorem dX2_add_35 : decode cX2_add 35 = .ok (.iastore, 1) := dk_of dkAa15 (i := 19) rfl
theorem dX2_add_36 : decode cX2_add 36 = .ok (.aload_n 0, 1) := dk_of dkAa15 (i := 20) rfl
theorem dX2_add_37 : decode cX2_add 37 = .ok (.getfield 21, 3) := dk_of dkAa15 (i := 21) rfl
theorem dX2_add_40 : decode cX2_add 40 = .ok (.aload_n 0, 1) := dk_of dkAa15 (i := 22) rfl
theorem dX2_add_41 : decode cX2_add 41 = .ok (.getfield 24, 3) := dk_of dkAa15 (i := 23) rfl
theorem dX2_add_44 : decode cX2_add 44 = .ok (.iload_n 2, 1) := dk_of dkAa15 (i := 24) rfl
theorem dX2_add_45 : decode cX2_add 45 = .ok (.iastore, 1) := dk_of dkAa15 (i := 25) rfl
theorem dX2_add_46 : decode cX2_add 46 = .ok (.aload_n 0, 1) := dk_of dkAa15 (i := 26) rfl
theorem dX2_add_47 : decode cX2_add 47 = .ok (.dup, 1) := dk_of dkAa15 (i := 27) rfl
theorem dX2_add_48 : decode cX2_add 48 = .ok (.getfield 24, 3) := dk_of dkAa15 (i := 28) rfl
theorem dX2_add_51 : decode cX2_add 51 = .ok (.iconst 1, 1) := dk_of dkAa15 (i := 29) rfl
theorem dX2_add_52 : decode cX2_add 52 = .ok (.iadd, 1) := dk_of dkAa15 (i := 30) rfl
theorem dX2_add_53 : decode cX2_add 53 = .ok (.putfield 24, 3) := dk_of dkAa15 (i := 31) rfl
theorem dX2_add_56 : decode cX2_add 56 = .ok (.iconst 1, 1) := by decide +kernel
theorem dX2_add_57 : decode cX2_add 57 = .ok (.ireturn, 1) := by decide +kernel
def dkLa16 : List (Nat × Instr × Nat) := [(0, .iload_n 1, 1), (1, .ifCond .lt 20, 3), (4, .iload_n 1, 1), (5, .aload_n 0, 1), (6, .getfield 24, 3), (9, .if_icmp .ge 12, 3), (12, .aload_n 0, 1), (13, .getfield 15, 3), (16, .iload_n 1, 1), (17, .iaload, 1), (18, .goto 4, 3), (21, .iconst (-1), 1), (22, .ireturn, 1)]
set_option maxRecDepth 100000 in
theorem dkAa16 : ∀ q ∈ dkLa16, decode cX2_subjectAt q.1 = .ok q.2 := by decide +kernel
theorem dX2_subjectAt_0 : decode cX2_subjectAt 0 = .ok (.iload_n 1, 1) := dk_of dkAa16 (i := 0) rfl
theorem dX2_subjectAt_1 : decode cX2_subjectAt 1 = .ok (.ifCond .lt 20, 3) := dk_of dkAa16 (i := 1) rfl
theorem dX2_subjectAt_4 : decode cX2_subjectAt 4 = .ok (.iload_n 1, 1) := dk_of dkAa16 (i := 2) rfl
theorem dX2_subjectAt_5 : decode cX2_subjectAt 5 = .ok (.aload_n 0, 1) := dk_of dkAa16 (i := 3) rfl
theorem dX2_subjectAt_6 : decode cX2_subjectAt 6 = .ok (.getfield 24, 3) := dk_of dkAa16 (i := 4) rfl
theorem dX2_subjectAt_9 : decode cX2_subjectAt 9 = .ok (.if_icmp .ge 12, 3) := dk_of dkAa16 (i := 5) rfl
theorem dX2_subjectAt_12 : decode cX2_subjectAt 12 = .ok (.aload_n 0, 1) := dk_of dkAa16 (i := 6) rfl
theorem dX2_subjectAt_13 : decode cX2_subjectAt 13 = .ok (.getfield 15, 3) := dk_of dkAa16 (i := 7) rfl
theorem dX2_subjectAt_16 : decode cX2_subjectAt 16 = .ok (.iload_n 1, 1) := dk_of dkAa16 (i := 8) rfl
theorem dX2_subjectAt_17 : decode cX2_subjectAt 17 = .ok (.iaload, 1) := dk_of dkAa16 (i := 9) rfl
theorem dX2_subjectAt_18 : decode cX2_subjectAt 18 = .ok (.goto 4, 3) := dk_of dkAa16 (i := 10) rfl
theorem dX2_subjectAt_21 : decode cX2_subjectAt 21 = .ok (.iconst (-1), 1) := dk_of dkAa16 (i := 11) rfl
theorem dX2_subjectAt_22 : decode cX2_subjectAt 22 = .ok (.ireturn, 1) := dk_of dkAa16 (i := 12) rfl
def dkLa17 : List (Nat × Instr × Nat) := [(0, .iload_n 1, 1), (1, .ifCond .lt 20, 3), (4, .iload_n 1, 1), (5, .aload_n 0, 1), (6, .getfield 24, 3), (9, .if_icmp .ge 12, 3), (12, .aload_n 0, 1), (13, .getfield 21, 3), (16, .iload_n 1, 1), (17, .iaload, 1), (18, .goto 4, 3), (21, .iconst (-1), 1), (22, .ireturn, 1)]
set_option maxRecDepth 100000 in
theorem dkAa17 : ∀ q ∈ dkLa17, decode cX2_valueAt q.1 = .ok q.2 := by decide +kernel
theorem dX2_valueAt_0 : decode cX2_valueAt 0 = .ok (.iload_n 1, 1) := dk_of dkAa17 (i := 0) rfl
theorem dX2_valueAt_1 : decode cX2_valueAt 1 = .ok (.ifCond .lt 20, 3) := dk_of dkAa17 (i := 1) rfl
theorem dX2_valueAt_4 : decode cX2_valueAt 4 = .ok (.iload_n 1, 1) := dk_of dkAa17 (i := 2) rfl
theorem dX2_valueAt_5 : decode cX2_valueAt 5 = .ok (.aload_n 0, 1) := dk_of dkAa17 (i := 3) rfl
theorem dX2_valueAt_6 : decode cX2_valueAt 6 = .ok (.getfield 24, 3) := dk_of dkAa17 (i := 4) rfl
theorem dX2_valueAt_9 : decode cX2_valueAt 9 = .ok (.if_icmp .ge 12, 3) := dk_of dkAa17 (i := 5) rfl
theorem dX2_valueAt_12 : decode cX2_valueAt 12 = .ok (.aload_n 0, 1) := dk_of dkAa17 (i := 6) rfl
theorem dX2_valueAt_13 : decode cX2_valueAt 13 = .ok (.getfield 21, 3) := dk_of dkAa17 (i := 7) rfl
theorem dX2_valueAt_16 : decode cX2_valueAt 16 = .ok (.iload_n 1, 1) := dk_of dkAa17 (i := 8) rfl
theorem dX2_valueAt_17 : decode cX2_valueAt 17 = .ok (.iaload, 1) := dk_of dkAa17 (i := 9) rfl
theorem dX2_valueAt_18 : decode cX2_valueAt 18 = .ok (.goto 4, 3) := dk_of dkAa17 (i := 10) rfl
theorem dX2_valueAt_21 : decode cX2_valueAt 21 = .ok (.iconst (-1), 1) := dk_of dkAa17 (i := 11) rfl
theorem dX2_valueAt_22 : decode cX2_valueAt 22 = .ok (.ireturn, 1) := dk_of dkAa17 (i := 12) rfl
def dkLa18 : List (Nat × Instr × Nat) := [(0, .iconst 0, 1), (1, .istore_n 2, 1), (2, .iload_n 2, 1), (3, .aload_n 0, 1), (4, .getfield 24, 3), (7, .if_icmp .ge 30, 3), (10, .aload_n 1, 1), (11, .aload_n 0, 1), (12, .getfield 15, 3), (15, .iload_n 2, 1), (16, .iaload, 1), (17, .invokevirtual 28, 3), (20, .aload_n 0, 1), (21, .getfield 21, 3), (24, .iload_n 2, 1), (25, .iaload, 1), (26, .if_icmp .eq 5, 3), (29, .iload_n 2, 1), (30, .ireturn, 1), (31, .iinc 2 1, 3), (34, .goto (-32), 3), (37, .iconst (-1), 1), (38, .ireturn, 1)]
set_option maxRecDepth 100000 in
theorem dkAa18 : ∀ q ∈ dkLa18, decode cX2_firstUnlike q.1 = .ok q.2 := by decide +kernel
theorem dX2_firstUnlike_0 : decode cX2_firstUnlike 0 = .ok (.iconst 0, 1) := dk_of dkAa18 (i := 0) rfl
theorem dX2_firstUnlike_1 : decode cX2_firstUnlike 1 = .ok (.istore_n 2, 1) := dk_of dkAa18 (i := 1) rfl
theorem dX2_firstUnlike_2 : decode cX2_firstUnlike 2 = .ok (.iload_n 2, 1) := dk_of dkAa18 (i := 2) rfl
theorem dX2_firstUnlike_3 : decode cX2_firstUnlike 3 = .ok (.aload_n 0, 1) := dk_of dkAa18 (i := 3) rfl
theorem dX2_firstUnlike_4 : decode cX2_firstUnlike 4 = .ok (.getfield 24, 3) := dk_of dkAa18 (i := 4) rfl
theorem dX2_firstUnlike_7 : decode cX2_firstUnlike 7 = .ok (.if_icmp .ge 30, 3) := dk_of dkAa18 (i := 5) rfl
theorem dX2_firstUnlike_10 : decode cX2_firstUnlike 10 = .ok (.aload_n 1, 1) := dk_of dkAa18 (i := 6) rfl
theorem dX2_firstUnlike_11 : decode cX2_firstUnlike 11 = .ok (.aload_n 0, 1) := dk_of dkAa18 (i := 7) rfl
theorem dX2_firstUnlike_12 : decode cX2_firstUnlike 12 = .ok (.getfield 15, 3) := dk_of dkAa18 (i := 8) rfl
theorem dX2_firstUnlike_15 : decode cX2_firstUnlike 15 = .ok (.iload_n 2, 1) := dk_of dkAa18 (i := 9) rfl
theorem dX2_firstUnlike_16 : decode cX2_firstUnlike 16 = .ok (.iaload, 1) := dk_of dkAa18 (i := 10) rfl
theorem dX2_firstUnlike_17 : decode cX2_firstUnlike 17 = .ok (.invokevirtual 28, 3) := dk_of dkAa18 (i := 11) rfl
theorem dX2_firstUnlike_20 : decode cX2_firstUnlike 20 = .ok (.aload_n 0, 1) := dk_of dkAa18 (i := 12) rfl
theorem dX2_firstUnlike_21 : decode cX2_firstUnlike 21 = .ok (.getfield 21, 3) := dk_of dkAa18 (i := 13) rfl
theorem dX2_firstUnlike_24 : decode cX2_firstUnlike 24 = .ok (.iload_n 2, 1) := dk_of dkAa18 (i := 14) rfl
theorem dX2_firstUnlike_25 : decode cX2_firstUnlike 25 = .ok (.iaload, 1) := dk_of dkAa18 (i := 15) rfl
theorem dX2_firstUnlike_26 : decode cX2_firstUnlike 26 = .ok (.if_icmp .eq 5, 3) := dk_of dkAa18 (i := 16) rfl
theorem dX2_firstUnlike_29 : decode cX2_firstUnlike 29 = .ok (.iload_n 2, 1) := dk_of dkAa18 (i := 17) rfl
theorem dX2_firstUnlike_30 : decode cX2_firstUnlike 30 = .ok (.ireturn, 1) := dk_of dkAa18 (i := 18) rfl
theorem dX2_firstUnlike_31 : decode cX2_firstUnlike 31 = .ok (.iinc 2 1, 3) := dk_of dkAa18 (i := 19) rfl
theorem dX2_firstUnlike_34 : decode cX2_firstUnlike 34 = .ok (.goto (-32), 3) := dk_of dkAa18 (i := 20) rfl
theorem dX2_firstUnlike_37 : decode cX2_firstUnlike 37 = .ok (.iconst (-1), 1) := dk_of dkAa18 (i := 21) rfl
theorem dX2_firstUnlike_38 : decode cX2_firstUnlike 38 = .ok (.ireturn, 1) := dk_of dkAa18 (i := 22) rfl
def dkLa19 : List (Nat × Instr × Nat) := [(0, .aload_n 0, 1), (1, .invokespecial 3, 3), (4, .aload_n 0, 1), (5, .bipush 7, 2), (7, .newarray .int, 2), (9, .putfield 9, 3), (12, .aload_n 0, 1), (13, .bipush 7, 2), (15, .newarray .int, 2), (17, .putfield 15, 3), (20, .aload_n 0, 1), (21, .bipush 7, 2), (23, .newarray .int, 2), (25, .putfield 18, 3), (28, .aload_n 0, 1), (29, .bipush 7, 2), (31, .newarray .int, 2), (33, .putfield 21, 3), (36, .return_, 1)]
set_option maxRecDepth 100000 in
theorem dkAa19 : ∀ q ∈ dkLa19, decode cX3_init q.1 = .ok q.2 := by decide +kernel
theorem dX3_init_0 : decode cX3_init 0 = .ok (.aload_n 0, 1) := dk_of dkAa19 (i := 0) rfl
theorem dX3_init_1 : decode cX3_init 1 = .ok (.invokespecial 3, 3) := dk_of dkAa19 (i := 1) rfl
theorem dX3_init_4 : decode cX3_init 4 = .ok (.aload_n 0, 1) := dk_of dkAa19 (i := 2) rfl
theorem dX3_init_5 : decode cX3_init 5 = .ok (.bipush 7, 2) := dk_of dkAa19 (i := 3) rfl
theorem dX3_init_7 : decode cX3_init 7 = .ok (.newarray .int, 2) := dk_of dkAa19 (i := 4) rfl
theorem dX3_init_9 : decode cX3_init 9 = .ok (.putfield 9, 3) := dk_of dkAa19 (i := 5) rfl
theorem dX3_init_12 : decode cX3_init 12 = .ok (.aload_n 0, 1) := dk_of dkAa19 (i := 6) rfl
theorem dX3_init_13 : decode cX3_init 13 = .ok (.bipush 7, 2) := dk_of dkAa19 (i := 7) rfl
theorem dX3_init_15 : decode cX3_init 15 = .ok (.newarray .int, 2) := dk_of dkAa19 (i := 8) rfl
theorem dX3_init_17 : decode cX3_init 17 = .ok (.putfield 15, 3) := dk_of dkAa19 (i := 9) rfl
theorem dX3_init_20 : decode cX3_init 20 = .ok (.aload_n 0, 1) := dk_of dkAa19 (i := 10) rfl
theorem dX3_init_21 : decode cX3_init 21 = .ok (.bipush 7, 2) := dk_of dkAa19 (i := 11) rfl
theorem dX3_init_23 : decode cX3_init 23 = .ok (.newarray .int, 2) := dk_of dkAa19 (i := 12) rfl
theorem dX3_init_25 : decode cX3_init 25 = .ok (.putfield 18, 3) := dk_of dkAa19 (i := 13) rfl
theorem dX3_init_28 : decode cX3_init 28 = .ok (.aload_n 0, 1) := dk_of dkAa19 (i := 14) rfl
theorem dX3_init_29 : decode cX3_init 29 = .ok (.bipush 7, 2) := dk_of dkAa19 (i := 15) rfl
theorem dX3_init_31 : decode cX3_init 31 = .ok (.newarray .int, 2) := dk_of dkAa19 (i := 16) rfl
theorem dX3_init_33 : decode cX3_init 33 = .ok (.putfield 21, 3) := dk_of dkAa19 (i := 17) rfl
theorem dX3_init_36 : decode cX3_init 36 = .ok (.return_, 1) := dk_of dkAa19 (i := 18) rfl
def dkLa20 : List (Nat × Instr × Nat) := [(0, .aload_n 0, 1), (1, .aload_n 1, 1), (2, .getfield 24, 3), (5, .bipush 7, 2), (7, .invokestatic 30, 3), (10, .putfield 36, 3), (13, .aload_n 0, 1), (14, .iconst 1, 1), (15, .aload_n 0, 1), (16, .getfield 36, 3), (19, .ishl, 1), (20, .iconst 1, 1), (21, .isub, 1), (22, .putfield 39, 3), (25, .aload_n 0, 1), (26, .iconst 0, 1), (27, .putfield 42, 3), (30, .iconst 0, 1), (31, .istore_n 2, 1), (32, .iload_n 2, 1), (33, .bipush 7, 2), (35, .if_icmp .ge 58, 3), (38, .aload_n 0, 1), (39, .getfield 9, 3), (42, .iload_n 2, 1), (43, .aload_n 1, 1), (44, .iload_n 2, 1), (45, .invokevirtual 45, 3), (48, .ifCond .eq 7, 3), (51, .iload_n 2, 1), (52, .goto 5, 3), (55, .bipush 9, 2)]
set_option maxRecDepth 100000 in
theorem dkAa20 : ∀ q ∈ dkLa20, decode cX3_begin q.1 = .ok q.2 := by decide +kernel
theorem dX3_begin_0 : decode cX3_begin 0 = .ok (.aload_n 0, 1) := dk_of dkAa20 (i := 0) rfl
theorem dX3_begin_1 : decode cX3_begin 1 = .ok (.aload_n 1, 1) := dk_of dkAa20 (i := 1) rfl
theorem dX3_begin_2 : decode cX3_begin 2 = .ok (.getfield 24, 3) := dk_of dkAa20 (i := 2) rfl
theorem dX3_begin_5 : decode cX3_begin 5 = .ok (.bipush 7, 2) := dk_of dkAa20 (i := 3) rfl
theorem dX3_begin_7 : decode cX3_begin 7 = .ok (.invokestatic 30, 3) := dk_of dkAa20 (i := 4) rfl
theorem dX3_begin_10 : decode cX3_begin 10 = .ok (.putfield 36, 3) := dk_of dkAa20 (i := 5) rfl
theorem dX3_begin_13 : decode cX3_begin 13 = .ok (.aload_n 0, 1) := dk_of dkAa20 (i := 6) rfl
theorem dX3_begin_14 : decode cX3_begin 14 = .ok (.iconst 1, 1) := dk_of dkAa20 (i := 7) rfl
theorem dX3_begin_15 : decode cX3_begin 15 = .ok (.aload_n 0, 1) := dk_of dkAa20 (i := 8) rfl
theorem dX3_begin_16 : decode cX3_begin 16 = .ok (.getfield 36, 3) := dk_of dkAa20 (i := 9) rfl
theorem dX3_begin_19 : decode cX3_begin 19 = .ok (.ishl, 1) := dk_of dkAa20 (i := 10) rfl
theorem dX3_begin_20 : decode cX3_begin 20 = .ok (.iconst 1, 1) := dk_of dkAa20 (i := 11) rfl
theorem dX3_begin_21 : decode cX3_begin 21 = .ok (.isub, 1) := dk_of dkAa20 (i := 12) rfl
theorem dX3_begin_22 : decode cX3_begin 22 = .ok (.putfield 39, 3) := dk_of dkAa20 (i := 13) rfl
theorem dX3_begin_25 : decode cX3_begin 25 = .ok (.aload_n 0, 1) := dk_of dkAa20 (i := 14) rfl
theorem dX3_begin_26 : decode cX3_begin 26 = .ok (.iconst 0, 1) := dk_of dkAa20 (i := 15) rfl
theorem dX3_begin_27 : decode cX3_begin 27 = .ok (.putfield 42, 3) := dk_of dkAa20 (i := 16) rfl
theorem dX3_begin_30 : decode cX3_begin 30 = .ok (.iconst 0, 1) := dk_of dkAa20 (i := 17) rfl
theorem dX3_begin_31 : decode cX3_begin 31 = .ok (.istore_n 2, 1) := dk_of dkAa20 (i := 18) rfl
theorem dX3_begin_32 : decode cX3_begin 32 = .ok (.iload_n 2, 1) := dk_of dkAa20 (i := 19) rfl
theorem dX3_begin_33 : decode cX3_begin 33 = .ok (.bipush 7, 2) := dk_of dkAa20 (i := 20) rfl
theorem dX3_begin_35 : decode cX3_begin 35 = .ok (.if_icmp .ge 58, 3) := dk_of dkAa20 (i := 21) rfl
theorem dX3_begin_38 : decode cX3_begin 38 = .ok (.aload_n 0, 1) := dk_of dkAa20 (i := 22) rfl
theorem dX3_begin_39 : decode cX3_begin 39 = .ok (.getfield 9, 3) := dk_of dkAa20 (i := 23) rfl
theorem dX3_begin_42 : decode cX3_begin 42 = .ok (.iload_n 2, 1) := dk_of dkAa20 (i := 24) rfl
theorem dX3_begin_43 : decode cX3_begin 43 = .ok (.aload_n 1, 1) := dk_of dkAa20 (i := 25) rfl
theorem dX3_begin_44 : decode cX3_begin 44 = .ok (.iload_n 2, 1) := dk_of dkAa20 (i := 26) rfl
theorem dX3_begin_45 : decode cX3_begin 45 = .ok (.invokevirtual 45, 3) := dk_of dkAa20 (i := 27) rfl
theorem dX3_begin_48 : decode cX3_begin 48 = .ok (.ifCond .eq 7, 3) := dk_of dkAa20 (i := 28) rfl
theorem dX3_begin_51 : decode cX3_begin 51 = .ok (.iload_n 2, 1) := dk_of dkAa20 (i := 29) rfl
theorem dX3_begin_52 : decode cX3_begin 52 = .ok (.goto 5, 3) := dk_of dkAa20 (i := 30) rfl
theorem dX3_begin_55 : decode cX3_begin 55 = .ok (.bipush 9, 2) := dk_of dkAa20 (i := 31) rfl
def dkLa21 : List (Nat × Instr × Nat) := [(57, .iastore, 1), (58, .aload_n 0, 1), (59, .getfield 15, 3), (62, .iload_n 2, 1), (63, .iconst 0, 1), (64, .iastore, 1), (65, .aload_n 0, 1), (66, .getfield 18, 3), (69, .iload_n 2, 1), (70, .aload_n 1, 1), (71, .iload_n 2, 1), (72, .invokevirtual 49, 3), (75, .iastore, 1), (76, .aload_n 0, 1), (77, .getfield 21, 3), (80, .iload_n 2, 1), (81, .aload_n 1, 1), (82, .iload_n 2, 1), (83, .invokevirtual 53, 3), (86, .iastore, 1), (87, .iinc 2 1, 3), (90, .goto (-58), 3), (93, .return_, 1)]
set_option maxRecDepth 100000 in
theorem dkAa21 : ∀ q ∈ dkLa21, decode cX3_begin q.1 = .ok q.2 := by decide +kernel
theorem dX3_begin_57 : decode cX3_begin 57 = .ok (.iastore, 1) := dk_of dkAa21 (i := 0) rfl
theorem dX3_begin_58 : decode cX3_begin 58 = .ok (.aload_n 0, 1) := dk_of dkAa21 (i := 1) rfl
theorem dX3_begin_59 : decode cX3_begin 59 = .ok (.getfield 15, 3) := dk_of dkAa21 (i := 2) rfl
theorem dX3_begin_62 : decode cX3_begin 62 = .ok (.iload_n 2, 1) := dk_of dkAa21 (i := 3) rfl
theorem dX3_begin_63 : decode cX3_begin 63 = .ok (.iconst 0, 1) := dk_of dkAa21 (i := 4) rfl
theorem dX3_begin_64 : decode cX3_begin 64 = .ok (.iastore, 1) := dk_of dkAa21 (i := 5) rfl
theorem dX3_begin_65 : decode cX3_begin 65 = .ok (.aload_n 0, 1) := dk_of dkAa21 (i := 6) rfl
theorem dX3_begin_66 : decode cX3_begin 66 = .ok (.getfield 18, 3) := dk_of dkAa21 (i := 7) rfl
theorem dX3_begin_69 : decode cX3_begin 69 = .ok (.iload_n 2, 1) := dk_of dkAa21 (i := 8) rfl
theorem dX3_begin_70 : decode cX3_begin 70 = .ok (.aload_n 1, 1) := dk_of dkAa21 (i := 9) rfl
theorem dX3_begin_71 : decode cX3_begin 71 = .ok (.iload_n 2, 1) := dk_of dkAa21 (i := 10) rfl
theorem dX3_begin_72 : decode cX3_begin 72 = .ok (.invokevirtual 49, 3) := dk_of dkAa21 (i := 11) rfl
theorem dX3_begin_75 : decode cX3_begin 75 = .ok (.iastore, 1) := dk_of dkAa21 (i := 12) rfl
theorem dX3_begin_76 : decode cX3_begin 76 = .ok (.aload_n 0, 1) := dk_of dkAa21 (i := 13) rfl
theorem dX3_begin_77 : decode cX3_begin 77 = .ok (.getfield 21, 3) := dk_of dkAa21 (i := 14) rfl
theorem dX3_begin_80 : decode cX3_begin 80 = .ok (.iload_n 2, 1) := dk_of dkAa21 (i := 15) rfl
theorem dX3_begin_81 : decode cX3_begin 81 = .ok (.aload_n 1, 1) := dk_of dkAa21 (i := 16) rfl
theorem dX3_begin_82 : decode cX3_begin 82 = .ok (.iload_n 2, 1) := dk_of dkAa21 (i := 17) rfl
theorem dX3_begin_83 : decode cX3_begin 83 = .ok (.invokevirtual 53, 3) := dk_of dkAa21 (i := 18) rfl
theorem dX3_begin_86 : decode cX3_begin 86 = .ok (.iastore, 1) := dk_of dkAa21 (i := 19) rfl
theorem dX3_begin_87 : decode cX3_begin 87 = .ok (.iinc 2 1, 3) := dk_of dkAa21 (i := 20) rfl
theorem dX3_begin_90 : decode cX3_begin 90 = .ok (.goto (-58), 3) := dk_of dkAa21 (i := 21) rfl
theorem dX3_begin_93 : decode cX3_begin 93 = .ok (.return_, 1) := dk_of dkAa21 (i := 22) rfl
def dkLa22 : List (Nat × Instr × Nat) := [(0, .aload_n 0, 1), (1, .aload_n 1, 1), (2, .getfield 36, 3), (5, .putfield 36, 3), (8, .aload_n 0, 1), (9, .aload_n 1, 1), (10, .getfield 39, 3), (13, .putfield 39, 3), (16, .aload_n 0, 1), (17, .aload_n 1, 1), (18, .getfield 42, 3), (21, .putfield 42, 3), (24, .iconst 0, 1), (25, .istore_n 2, 1), (26, .iload_n 2, 1), (27, .bipush 7, 2), (29, .if_icmp .ge 57, 3), (32, .aload_n 0, 1), (33, .getfield 9, 3), (36, .iload_n 2, 1), (37, .aload_n 1, 1), (38, .getfield 9, 3), (41, .iload_n 2, 1), (42, .iaload, 1), (43, .iastore, 1), (44, .aload_n 0, 1), (45, .getfield 15, 3), (48, .iload_n 2, 1), (49, .aload_n 1, 1), (50, .getfield 15, 3), (53, .iload_n 2, 1), (54, .iaload, 1)]
set_option maxRecDepth 100000 in
theorem dkAa22 : ∀ q ∈ dkLa22, decode cX3_copy q.1 = .ok q.2 := by decide +kernel
theorem dX3_copy_0 : decode cX3_copy 0 = .ok (.aload_n 0, 1) := dk_of dkAa22 (i := 0) rfl
theorem dX3_copy_1 : decode cX3_copy 1 = .ok (.aload_n 1, 1) := dk_of dkAa22 (i := 1) rfl
theorem dX3_copy_2 : decode cX3_copy 2 = .ok (.getfield 36, 3) := dk_of dkAa22 (i := 2) rfl
theorem dX3_copy_5 : decode cX3_copy 5 = .ok (.putfield 36, 3) := dk_of dkAa22 (i := 3) rfl
theorem dX3_copy_8 : decode cX3_copy 8 = .ok (.aload_n 0, 1) := dk_of dkAa22 (i := 4) rfl
theorem dX3_copy_9 : decode cX3_copy 9 = .ok (.aload_n 1, 1) := dk_of dkAa22 (i := 5) rfl
theorem dX3_copy_10 : decode cX3_copy 10 = .ok (.getfield 39, 3) := dk_of dkAa22 (i := 6) rfl
theorem dX3_copy_13 : decode cX3_copy 13 = .ok (.putfield 39, 3) := dk_of dkAa22 (i := 7) rfl
theorem dX3_copy_16 : decode cX3_copy 16 = .ok (.aload_n 0, 1) := dk_of dkAa22 (i := 8) rfl
theorem dX3_copy_17 : decode cX3_copy 17 = .ok (.aload_n 1, 1) := dk_of dkAa22 (i := 9) rfl
theorem dX3_copy_18 : decode cX3_copy 18 = .ok (.getfield 42, 3) := dk_of dkAa22 (i := 10) rfl
theorem dX3_copy_21 : decode cX3_copy 21 = .ok (.putfield 42, 3) := dk_of dkAa22 (i := 11) rfl
theorem dX3_copy_24 : decode cX3_copy 24 = .ok (.iconst 0, 1) := dk_of dkAa22 (i := 12) rfl
theorem dX3_copy_25 : decode cX3_copy 25 = .ok (.istore_n 2, 1) := dk_of dkAa22 (i := 13) rfl
theorem dX3_copy_26 : decode cX3_copy 26 = .ok (.iload_n 2, 1) := dk_of dkAa22 (i := 14) rfl
theorem dX3_copy_27 : decode cX3_copy 27 = .ok (.bipush 7, 2) := dk_of dkAa22 (i := 15) rfl
theorem dX3_copy_29 : decode cX3_copy 29 = .ok (.if_icmp .ge 57, 3) := dk_of dkAa22 (i := 16) rfl
theorem dX3_copy_32 : decode cX3_copy 32 = .ok (.aload_n 0, 1) := dk_of dkAa22 (i := 17) rfl
theorem dX3_copy_33 : decode cX3_copy 33 = .ok (.getfield 9, 3) := dk_of dkAa22 (i := 18) rfl
theorem dX3_copy_36 : decode cX3_copy 36 = .ok (.iload_n 2, 1) := dk_of dkAa22 (i := 19) rfl
theorem dX3_copy_37 : decode cX3_copy 37 = .ok (.aload_n 1, 1) := dk_of dkAa22 (i := 20) rfl
theorem dX3_copy_38 : decode cX3_copy 38 = .ok (.getfield 9, 3) := dk_of dkAa22 (i := 21) rfl
theorem dX3_copy_41 : decode cX3_copy 41 = .ok (.iload_n 2, 1) := dk_of dkAa22 (i := 22) rfl
theorem dX3_copy_42 : decode cX3_copy 42 = .ok (.iaload, 1) := dk_of dkAa22 (i := 23) rfl
theorem dX3_copy_43 : decode cX3_copy 43 = .ok (.iastore, 1) := dk_of dkAa22 (i := 24) rfl
theorem dX3_copy_44 : decode cX3_copy 44 = .ok (.aload_n 0, 1) := dk_of dkAa22 (i := 25) rfl
theorem dX3_copy_45 : decode cX3_copy 45 = .ok (.getfield 15, 3) := dk_of dkAa22 (i := 26) rfl
theorem dX3_copy_48 : decode cX3_copy 48 = .ok (.iload_n 2, 1) := dk_of dkAa22 (i := 27) rfl
theorem dX3_copy_49 : decode cX3_copy 49 = .ok (.aload_n 1, 1) := dk_of dkAa22 (i := 28) rfl
theorem dX3_copy_50 : decode cX3_copy 50 = .ok (.getfield 15, 3) := dk_of dkAa22 (i := 29) rfl
theorem dX3_copy_53 : decode cX3_copy 53 = .ok (.iload_n 2, 1) := dk_of dkAa22 (i := 30) rfl
theorem dX3_copy_54 : decode cX3_copy 54 = .ok (.iaload, 1) := dk_of dkAa22 (i := 31) rfl
def dkLa23 : List (Nat × Instr × Nat) := [(55, .iastore, 1), (56, .aload_n 0, 1), (57, .getfield 18, 3), (60, .iload_n 2, 1), (61, .aload_n 1, 1), (62, .getfield 18, 3), (65, .iload_n 2, 1), (66, .iaload, 1), (67, .iastore, 1), (68, .aload_n 0, 1), (69, .getfield 21, 3), (72, .iload_n 2, 1), (73, .aload_n 1, 1), (74, .getfield 21, 3), (77, .iload_n 2, 1), (78, .iaload, 1), (79, .iastore, 1), (80, .iinc 2 1, 3), (83, .goto (-57), 3), (86, .return_, 1)]
set_option maxRecDepth 100000 in
theorem dkAa23 : ∀ q ∈ dkLa23, decode cX3_copy q.1 = .ok q.2 := by decide +kernel
theorem dX3_copy_55 : decode cX3_copy 55 = .ok (.iastore, 1) := dk_of dkAa23 (i := 0) rfl
theorem dX3_copy_56 : decode cX3_copy 56 = .ok (.aload_n 0, 1) := dk_of dkAa23 (i := 1) rfl
theorem dX3_copy_57 : decode cX3_copy 57 = .ok (.getfield 18, 3) := dk_of dkAa23 (i := 2) rfl
theorem dX3_copy_60 : decode cX3_copy 60 = .ok (.iload_n 2, 1) := dk_of dkAa23 (i := 3) rfl
theorem dX3_copy_61 : decode cX3_copy 61 = .ok (.aload_n 1, 1) := dk_of dkAa23 (i := 4) rfl
theorem dX3_copy_62 : decode cX3_copy 62 = .ok (.getfield 18, 3) := dk_of dkAa23 (i := 5) rfl
theorem dX3_copy_65 : decode cX3_copy 65 = .ok (.iload_n 2, 1) := dk_of dkAa23 (i := 6) rfl
theorem dX3_copy_66 : decode cX3_copy 66 = .ok (.iaload, 1) := dk_of dkAa23 (i := 7) rfl
theorem dX3_copy_67 : decode cX3_copy 67 = .ok (.iastore, 1) := dk_of dkAa23 (i := 8) rfl
theorem dX3_copy_68 : decode cX3_copy 68 = .ok (.aload_n 0, 1) := dk_of dkAa23 (i := 9) rfl
theorem dX3_copy_69 : decode cX3_copy 69 = .ok (.getfield 21, 3) := dk_of dkAa23 (i := 10) rfl
theorem dX3_copy_72 : decode cX3_copy 72 = .ok (.iload_n 2, 1) := dk_of dkAa23 (i := 11) rfl
theorem dX3_copy_73 : decode cX3_copy 73 = .ok (.aload_n 1, 1) := dk_of dkAa23 (i := 12) rfl
theorem dX3_copy_74 : decode cX3_copy 74 = .ok (.getfield 21, 3) := dk_of dkAa23 (i := 13) rfl
theorem dX3_copy_77 : decode cX3_copy 77 = .ok (.iload_n 2, 1) := dk_of dkAa23 (i := 14) rfl
theorem dX3_copy_78 : decode cX3_copy 78 = .ok (.iaload, 1) := dk_of dkAa23 (i := 15) rfl
theorem dX3_copy_79 : decode cX3_copy 79 = .ok (.iastore, 1) := dk_of dkAa23 (i := 16) rfl
theorem dX3_copy_80 : decode cX3_copy 80 = .ok (.iinc 2 1, 3) := dk_of dkAa23 (i := 17) rfl
theorem dX3_copy_83 : decode cX3_copy 83 = .ok (.goto (-57), 3) := dk_of dkAa23 (i := 18) rfl
theorem dX3_copy_86 : decode cX3_copy 86 = .ok (.return_, 1) := dk_of dkAa23 (i := 19) rfl
def dkLa24 : List (Nat × Instr × Nat) := [(0, .iload_n 1, 1), (1, .ifCond .lt 15, 3), (4, .iload_n 1, 1), (5, .aload_n 0, 1), (6, .getfield 36, 3), (9, .if_icmp .ge 7, 3), (12, .iconst 1, 1), (13, .goto 4, 3), (16, .iconst 0, 1), (17, .ireturn, 1)]
set_option maxRecDepth 100000 in
theorem dkAa24 : ∀ q ∈ dkLa24, decode cX3_isOne q.1 = .ok q.2 := by decide +kernel
theorem dX3_isOne_0 : decode cX3_isOne 0 = .ok (.iload_n 1, 1) := dk_of dkAa24 (i := 0) rfl
theorem dX3_isOne_1 : decode cX3_isOne 1 = .ok (.ifCond .lt 15, 3) := dk_of dkAa24 (i := 1) rfl
theorem dX3_isOne_4 : decode cX3_isOne 4 = .ok (.iload_n 1, 1) := dk_of dkAa24 (i := 2) rfl
theorem dX3_isOne_5 : decode cX3_isOne 5 = .ok (.aload_n 0, 1) := dk_of dkAa24 (i := 3) rfl
theorem dX3_isOne_6 : decode cX3_isOne 6 = .ok (.getfield 36, 3) := dk_of dkAa24 (i := 4) rfl
theorem dX3_isOne_9 : decode cX3_isOne 9 = .ok (.if_icmp .ge 7, 3) := dk_of dkAa24 (i := 5) rfl
theorem dX3_isOne_12 : decode cX3_isOne 12 = .ok (.iconst 1, 1) := dk_of dkAa24 (i := 6) rfl
theorem dX3_isOne_13 : decode cX3_isOne 13 = .ok (.goto 4, 3) := dk_of dkAa24 (i := 7) rfl
theorem dX3_isOne_16 : decode cX3_isOne 16 = .ok (.iconst 0, 1) := dk_of dkAa24 (i := 8) rfl
theorem dX3_isOne_17 : decode cX3_isOne 17 = .ok (.ireturn, 1) := dk_of dkAa24 (i := 9) rfl
def dkLa25 : List (Nat × Instr × Nat) := [(0, .iload_n 1, 1), (1, .ifCond .lt 26, 3), (4, .iload_n 1, 1), (5, .aload_n 0, 1), (6, .getfield 36, 3), (9, .if_icmp .ge 18, 3), (12, .aload_n 0, 1), (13, .getfield 39, 3), (16, .iload_n 1, 1), (17, .ishr, 1), (18, .iconst 1, 1), (19, .iand, 1), (20, .ifCond .eq 7, 3), (23, .iconst 1, 1), (24, .goto 4, 3), (27, .iconst 0, 1), (28, .ireturn, 1)]
set_option maxRecDepth 100000 in
theorem dkAa25 : ∀ q ∈ dkLa25, decode cX3_lives q.1 = .ok q.2 := by decide +kernel
theorem dX3_lives_0 : decode cX3_lives 0 = .ok (.iload_n 1, 1) := dk_of dkAa25 (i := 0) rfl
theorem dX3_lives_1 : decode cX3_lives 1 = .ok (.ifCond .lt 26, 3) := dk_of dkAa25 (i := 1) rfl
theorem dX3_lives_4 : decode cX3_lives 4 = .ok (.iload_n 1, 1) := dk_of dkAa25 (i := 2) rfl
theorem dX3_lives_5 : decode cX3_lives 5 = .ok (.aload_n 0, 1) := dk_of dkAa25 (i := 3) rfl
theorem dX3_lives_6 : decode cX3_lives 6 = .ok (.getfield 36, 3) := dk_of dkAa25 (i := 4) rfl
theorem dX3_lives_9 : decode cX3_lives 9 = .ok (.if_icmp .ge 18, 3) := dk_of dkAa25 (i := 5) rfl
theorem dX3_lives_12 : decode cX3_lives 12 = .ok (.aload_n 0, 1) := dk_of dkAa25 (i := 6) rfl
theorem dX3_lives_13 : decode cX3_lives 13 = .ok (.getfield 39, 3) := dk_of dkAa25 (i := 7) rfl
theorem dX3_lives_16 : decode cX3_lives 16 = .ok (.iload_n 1, 1) := dk_of dkAa25 (i := 8) rfl
theorem dX3_lives_17 : decode cX3_lives 17 = .ok (.ishr, 1) := dk_of dkAa25 (i := 9) rfl
theorem dX3_lives_18 : decode cX3_lives 18 = .ok (.iconst 1, 1) := dk_of dkAa25 (i := 10) rfl
theorem dX3_lives_19 : decode cX3_lives 19 = .ok (.iand, 1) := dk_of dkAa25 (i := 11) rfl
theorem dX3_lives_20 : decode cX3_lives 20 = .ok (.ifCond .eq 7, 3) := dk_of dkAa25 (i := 12) rfl
theorem dX3_lives_23 : decode cX3_lives 23 = .ok (.iconst 1, 1) := dk_of dkAa25 (i := 13) rfl
theorem dX3_lives_24 : decode cX3_lives 24 = .ok (.goto 4, 3) := dk_of dkAa25 (i := 14) rfl
theorem dX3_lives_27 : decode cX3_lives 27 = .ok (.iconst 0, 1) := dk_of dkAa25 (i := 15) rfl
theorem dX3_lives_28 : decode cX3_lives 28 = .ok (.ireturn, 1) := dk_of dkAa25 (i := 16) rfl
def dkLa26 : List (Nat × Instr × Nat) := [(0, .iload_n 1, 1), (1, .aload_n 0, 1), (2, .getfield 39, 3), (5, .iconst (-1), 1), (6, .ixor, 1), (7, .iand, 1), (8, .ifCond .ne 7, 3), (11, .iconst 1, 1), (12, .goto 4, 3), (15, .iconst 0, 1), (16, .ireturn, 1)]
set_option maxRecDepth 100000 in
theorem dkAa26 : ∀ q ∈ dkLa26, decode cX3_allLive q.1 = .ok q.2 := by decide +kernel
theorem dX3_allLive_0 : decode cX3_allLive 0 = .ok (.iload_n 1, 1) := dk_of dkAa26 (i := 0) rfl
theorem dX3_allLive_1 : decode cX3_allLive 1 = .ok (.aload_n 0, 1) := dk_of dkAa26 (i := 1) rfl
theorem dX3_allLive_2 : decode cX3_allLive 2 = .ok (.getfield 39, 3) := dk_of dkAa26 (i := 2) rfl
theorem dX3_allLive_5 : decode cX3_allLive 5 = .ok (.iconst (-1), 1) := dk_of dkAa26 (i := 3) rfl
theorem dX3_allLive_6 : decode cX3_allLive 6 = .ok (.ixor, 1) := dk_of dkAa26 (i := 4) rfl
theorem dX3_allLive_7 : decode cX3_allLive 7 = .ok (.iand, 1) := dk_of dkAa26 (i := 5) rfl
theorem dX3_allLive_8 : decode cX3_allLive 8 = .ok (.ifCond .ne 7, 3) := dk_of dkAa26 (i := 6) rfl
theorem dX3_allLive_11 : decode cX3_allLive 11 = .ok (.iconst 1, 1) := dk_of dkAa26 (i := 7) rfl
theorem dX3_allLive_12 : decode cX3_allLive 12 = .ok (.goto 4, 3) := dk_of dkAa26 (i := 8) rfl
theorem dX3_allLive_15 : decode cX3_allLive 15 = .ok (.iconst 0, 1) := dk_of dkAa26 (i := 9) rfl
theorem dX3_allLive_16 : decode cX3_allLive 16 = .ok (.ireturn, 1) := dk_of dkAa26 (i := 10) rfl
def dkLa27 : List (Nat × Instr × Nat) := [(0, .aload_n 0, 1), (1, .iload_n 1, 1), (2, .invokevirtual 56, 3), (5, .ifCond .eq 12, 3), (8, .aload_n 0, 1), (9, .getfield 9, 3), (12, .iload_n 1, 1), (13, .iaload, 1), (14, .goto 5, 3), (17, .bipush 9, 2), (19, .ireturn, 1)]
set_option maxRecDepth 100000 in
theorem dkAa27 : ∀ q ∈ dkLa27, decode cX3_voiceOf q.1 = .ok q.2 := by decide +kernel
theorem dX3_voiceOf_0 : decode cX3_voiceOf 0 = .ok (.aload_n 0, 1) := dk_of dkAa27 (i := 0) rfl
theorem dX3_voiceOf_1 : decode cX3_voiceOf 1 = .ok (.iload_n 1, 1) := dk_of dkAa27 (i := 1) rfl
theorem dX3_voiceOf_2 : decode cX3_voiceOf 2 = .ok (.invokevirtual 56, 3) := dk_of dkAa27 (i := 2) rfl
theorem dX3_voiceOf_5 : decode cX3_voiceOf 5 = .ok (.ifCond .eq 12, 3) := dk_of dkAa27 (i := 3) rfl
theorem dX3_voiceOf_8 : decode cX3_voiceOf 8 = .ok (.aload_n 0, 1) := dk_of dkAa27 (i := 4) rfl
theorem dX3_voiceOf_9 : decode cX3_voiceOf 9 = .ok (.getfield 9, 3) := dk_of dkAa27 (i := 5) rfl
theorem dX3_voiceOf_12 : decode cX3_voiceOf 12 = .ok (.iload_n 1, 1) := dk_of dkAa27 (i := 6) rfl
theorem dX3_voiceOf_13 : decode cX3_voiceOf 13 = .ok (.iaload, 1) := dk_of dkAa27 (i := 7) rfl
theorem dX3_voiceOf_14 : decode cX3_voiceOf 14 = .ok (.goto 5, 3) := dk_of dkAa27 (i := 8) rfl
theorem dX3_voiceOf_17 : decode cX3_voiceOf 17 = .ok (.bipush 9, 2) := dk_of dkAa27 (i := 9) rfl
theorem dX3_voiceOf_19 : decode cX3_voiceOf 19 = .ok (.ireturn, 1) := dk_of dkAa27 (i := 10) rfl
def dkLa28 : List (Nat × Instr × Nat) := [(0, .aload_n 0, 1), (1, .iload_n 1, 1), (2, .invokevirtual 56, 3), (5, .ifCond .eq 12, 3), (8, .aload_n 0, 1), (9, .getfield 15, 3), (12, .iload_n 1, 1), (13, .iaload, 1), (14, .goto 4, 3), (17, .iconst 0, 1), (18, .ireturn, 1)]
set_option maxRecDepth 100000 in
theorem dkAa28 : ∀ q ∈ dkLa28, decode cX3_jarOf q.1 = .ok q.2 := by decide +kernel
theorem dX3_jarOf_0 : decode cX3_jarOf 0 = .ok (.aload_n 0, 1) := dk_of dkAa28 (i := 0) rfl
theorem dX3_jarOf_1 : decode cX3_jarOf 1 = .ok (.iload_n 1, 1) := dk_of dkAa28 (i := 1) rfl
theorem dX3_jarOf_2 : decode cX3_jarOf 2 = .ok (.invokevirtual 56, 3) := dk_of dkAa28 (i := 2) rfl
theorem dX3_jarOf_5 : decode cX3_jarOf 5 = .ok (.ifCond .eq 12, 3) := dk_of dkAa28 (i := 3) rfl
theorem dX3_jarOf_8 : decode cX3_jarOf 8 = .ok (.aload_n 0, 1) := dk_of dkAa28 (i := 4) rfl
theorem dX3_jarOf_9 : decode cX3_jarOf 9 = .ok (.getfield 15, 3) := dk_of dkAa28 (i := 5) rfl
theorem dX3_jarOf_12 : decode cX3_jarOf 12 = .ok (.iload_n 1, 1) := dk_of dkAa28 (i := 6) rfl
theorem dX3_jarOf_13 : decode cX3_jarOf 13 = .ok (.iaload, 1) := dk_of dkAa28 (i := 7) rfl
theorem dX3_jarOf_14 : decode cX3_jarOf 14 = .ok (.goto 4, 3) := dk_of dkAa28 (i := 8) rfl
theorem dX3_jarOf_17 : decode cX3_jarOf 17 = .ok (.iconst 0, 1) := dk_of dkAa28 (i := 9) rfl
theorem dX3_jarOf_18 : decode cX3_jarOf 18 = .ok (.ireturn, 1) := dk_of dkAa28 (i := 10) rfl
def dkLa29 : List (Nat × Instr × Nat) := [(0, .aload_n 0, 1), (1, .iload_n 1, 1), (2, .invokevirtual 56, 3), (5, .ifCond .eq 12, 3), (8, .aload_n 0, 1), (9, .getfield 18, 3), (12, .iload_n 1, 1), (13, .iaload, 1), (14, .goto 5, 3), (17, .bipush 9, 2), (19, .ireturn, 1)]
set_option maxRecDepth 100000 in
theorem dkAa29 : ∀ q ∈ dkLa29, decode cX3_firstHeir q.1 = .ok q.2 := by decide +kernel
theorem dX3_firstHeir_0 : decode cX3_firstHeir 0 = .ok (.aload_n 0, 1) := dk_of dkAa29 (i := 0) rfl
theorem dX3_firstHeir_1 : decode cX3_firstHeir 1 = .ok (.iload_n 1, 1) := dk_of dkAa29 (i := 1) rfl
theorem dX3_firstHeir_2 : decode cX3_firstHeir 2 = .ok (.invokevirtual 56, 3) := dk_of dkAa29 (i := 2) rfl
theorem dX3_firstHeir_5 : decode cX3_firstHeir 5 = .ok (.ifCond .eq 12, 3) := dk_of dkAa29 (i := 3) rfl
theorem dX3_firstHeir_8 : decode cX3_firstHeir 8 = .ok (.aload_n 0, 1) := dk_of dkAa29 (i := 4) rfl
theorem dX3_firstHeir_9 : decode cX3_firstHeir 9 = .ok (.getfield 18, 3) := dk_of dkAa29 (i := 5) rfl
theorem dX3_firstHeir_12 : decode cX3_firstHeir 12 = .ok (.iload_n 1, 1) := dk_of dkAa29 (i := 6) rfl
theorem dX3_firstHeir_13 : decode cX3_firstHeir 13 = .ok (.iaload, 1) := dk_of dkAa29 (i := 7) rfl
theorem dX3_firstHeir_14 : decode cX3_firstHeir 14 = .ok (.goto 5, 3) := dk_of dkAa29 (i := 8) rfl
theorem dX3_firstHeir_17 : decode cX3_firstHeir 17 = .ok (.bipush 9, 2) := dk_of dkAa29 (i := 9) rfl
theorem dX3_firstHeir_19 : decode cX3_firstHeir 19 = .ok (.ireturn, 1) := dk_of dkAa29 (i := 10) rfl
def dkLa30 : List (Nat × Instr × Nat) := [(0, .aload_n 0, 1), (1, .iload_n 1, 1), (2, .invokevirtual 56, 3), (5, .ifCond .eq 12, 3), (8, .aload_n 0, 1), (9, .getfield 21, 3), (12, .iload_n 1, 1), (13, .iaload, 1), (14, .goto 5, 3), (17, .bipush 9, 2), (19, .ireturn, 1)]
set_option maxRecDepth 100000 in
theorem dkAa30 : ∀ q ∈ dkLa30, decode cX3_secondHeir q.1 = .ok q.2 := by decide +kernel
theorem dX3_secondHeir_0 : decode cX3_secondHeir 0 = .ok (.aload_n 0, 1) := dk_of dkAa30 (i := 0) rfl
theorem dX3_secondHeir_1 : decode cX3_secondHeir 1 = .ok (.iload_n 1, 1) := dk_of dkAa30 (i := 1) rfl
theorem dX3_secondHeir_2 : decode cX3_secondHeir 2 = .ok (.invokevirtual 56, 3) := dk_of dkAa30 (i := 2) rfl
theorem dX3_secondHeir_5 : decode cX3_secondHeir 5 = .ok (.ifCond .eq 12, 3) := dk_of dkAa30 (i := 3) rfl
theorem dX3_secondHeir_8 : decode cX3_secondHeir 8 = .ok (.aload_n 0, 1) := dk_of dkAa30 (i := 4) rfl
theorem dX3_secondHeir_9 : decode cX3_secondHeir 9 = .ok (.getfield 21, 3) := dk_of dkAa30 (i := 5) rfl
theorem dX3_secondHeir_12 : decode cX3_secondHeir 12 = .ok (.iload_n 1, 1) := dk_of dkAa30 (i := 6) rfl
theorem dX3_secondHeir_13 : decode cX3_secondHeir 13 = .ok (.iaload, 1) := dk_of dkAa30 (i := 7) rfl
theorem dX3_secondHeir_14 : decode cX3_secondHeir 14 = .ok (.goto 5, 3) := dk_of dkAa30 (i := 8) rfl
theorem dX3_secondHeir_17 : decode cX3_secondHeir 17 = .ok (.bipush 9, 2) := dk_of dkAa30 (i := 9) rfl
theorem dX3_secondHeir_19 : decode cX3_secondHeir 19 = .ok (.ireturn, 1) := dk_of dkAa30 (i := 10) rfl
def dkLa31 : List (Nat × Instr × Nat) := [(0, .iconst 0, 1), (1, .istore_n 1, 1), (2, .iconst 0, 1), (3, .istore_n 2, 1), (4, .iload_n 2, 1), (5, .aload_n 0, 1), (6, .getfield 36, 3), (9, .if_icmp .ge 37, 3), (12, .aload_n 0, 1), (13, .getfield 39, 3), (16, .iload_n 2, 1), (17, .ishr, 1), (18, .iconst 1, 1), (19, .iand, 1), (20, .ifCond .eq 20, 3), (23, .aload_n 0, 1), (24, .getfield 9, 3), (27, .iload_n 2, 1), (28, .iaload, 1), (29, .bipush 9, 2), (31, .if_icmp .ne 9, 3), (34, .iload_n 1, 1), (35, .iconst 1, 1), (36, .iload_n 2, 1), (37, .ishl, 1), (38, .ior, 1), (39, .istore_n 1, 1), (40, .iinc 2 1, 3), (43, .goto (-39), 3), (46, .iload_n 1, 1), (47, .ireturn, 1)]
set_option maxRecDepth 100000 in
theorem dkAa31 : ∀ q ∈ dkLa31, decode cX3_silent q.1 = .ok q.2 := by decide +kernel
theorem dX3_silent_0 : decode cX3_silent 0 = .ok (.iconst 0, 1) := dk_of dkAa31 (i := 0) rfl
theorem dX3_silent_1 : decode cX3_silent 1 = .ok (.istore_n 1, 1) := dk_of dkAa31 (i := 1) rfl
theorem dX3_silent_2 : decode cX3_silent 2 = .ok (.iconst 0, 1) := dk_of dkAa31 (i := 2) rfl
theorem dX3_silent_3 : decode cX3_silent 3 = .ok (.istore_n 2, 1) := dk_of dkAa31 (i := 3) rfl
theorem dX3_silent_4 : decode cX3_silent 4 = .ok (.iload_n 2, 1) := dk_of dkAa31 (i := 4) rfl
theorem dX3_silent_5 : decode cX3_silent 5 = .ok (.aload_n 0, 1) := dk_of dkAa31 (i := 5) rfl
theorem dX3_silent_6 : decode cX3_silent 6 = .ok (.getfield 36, 3) := dk_of dkAa31 (i := 6) rfl
theorem dX3_silent_9 : decode cX3_silent 9 = .ok (.if_icmp .ge 37, 3) := dk_of dkAa31 (i := 7) rfl
theorem dX3_silent_12 : decode cX3_silent 12 = .ok (.aload_n 0, 1) := dk_of dkAa31 (i := 8) rfl
theorem dX3_silent_13 : decode cX3_silent 13 = .ok (.getfield 39, 3) := dk_of dkAa31 (i := 9) rfl
theorem dX3_silent_16 : decode cX3_silent 16 = .ok (.iload_n 2, 1) := dk_of dkAa31 (i := 10) rfl
theorem dX3_silent_17 : decode cX3_silent 17 = .ok (.ishr, 1) := dk_of dkAa31 (i := 11) rfl
theorem dX3_silent_18 : decode cX3_silent 18 = .ok (.iconst 1, 1) := dk_of dkAa31 (i := 12) rfl
theorem dX3_silent_19 : decode cX3_silent 19 = .ok (.iand, 1) := dk_of dkAa31 (i := 13) rfl
theorem dX3_silent_20 : decode cX3_silent 20 = .ok (.ifCond .eq 20, 3) := dk_of dkAa31 (i := 14) rfl
theorem dX3_silent_23 : decode cX3_silent 23 = .ok (.aload_n 0, 1) := dk_of dkAa31 (i := 15) rfl
theorem dX3_silent_24 : decode cX3_silent 24 = .ok (.getfield 9, 3) := dk_of dkAa31 (i := 16) rfl
theorem dX3_silent_27 : decode cX3_silent 27 = .ok (.iload_n 2, 1) := dk_of dkAa31 (i := 17) rfl
theorem dX3_silent_28 : decode cX3_silent 28 = .ok (.iaload, 1) := dk_of dkAa31 (i := 18) rfl
theorem dX3_silent_29 : decode cX3_silent 29 = .ok (.bipush 9, 2) := dk_of dkAa31 (i := 19) rfl
theorem dX3_silent_31 : decode cX3_silent 31 = .ok (.if_icmp .ne 9, 3) := dk_of dkAa31 (i := 20) rfl
theorem dX3_silent_34 : decode cX3_silent 34 = .ok (.iload_n 1, 1) := dk_of dkAa31 (i := 21) rfl
theorem dX3_silent_35 : decode cX3_silent 35 = .ok (.iconst 1, 1) := dk_of dkAa31 (i := 22) rfl
theorem dX3_silent_36 : decode cX3_silent 36 = .ok (.iload_n 2, 1) := dk_of dkAa31 (i := 23) rfl
theorem dX3_silent_37 : decode cX3_silent 37 = .ok (.ishl, 1) := dk_of dkAa31 (i := 24) rfl
theorem dX3_silent_38 : decode cX3_silent 38 = .ok (.ior, 1) := dk_of dkAa31 (i := 25) rfl
theorem dX3_silent_39 : decode cX3_silent 39 = .ok (.istore_n 1, 1) := dk_of dkAa31 (i := 26) rfl
theorem dX3_silent_40 : decode cX3_silent 40 = .ok (.iinc 2 1, 3) := dk_of dkAa31 (i := 27) rfl
theorem dX3_silent_43 : decode cX3_silent 43 = .ok (.goto (-39), 3) := dk_of dkAa31 (i := 28) rfl
theorem dX3_silent_46 : decode cX3_silent 46 = .ok (.iload_n 1, 1) := dk_of dkAa31 (i := 29) rfl
theorem dX3_silent_47 : decode cX3_silent 47 = .ok (.ireturn, 1) := dk_of dkAa31 (i := 30) rfl
def dkLa32 : List (Nat × Instr × Nat) := [(0, .iconst 0, 1), (1, .istore_n 1, 1), (2, .iconst 0, 1), (3, .istore_n 2, 1), (4, .iload_n 2, 1), (5, .aload_n 0, 1), (6, .getfield 36, 3), (9, .if_icmp .ge 53, 3), (12, .aload_n 0, 1), (13, .iload_n 2, 1), (14, .invokevirtual 59, 3), (17, .ifCond .eq 39, 3), (20, .iload_n 1, 1), (21, .aload_n 0, 1), (22, .getfield 15, 3), (25, .iload_n 2, 1), (26, .iaload, 1), (27, .ior, 1), (28, .istore_n 1, 1), (29, .iload_n 1, 1), (30, .aload_n 0, 1), (31, .getfield 9, 3), (34, .iload_n 2, 1), (35, .iaload, 1), (36, .invokestatic 62, 3), (39, .ifCond .eq 14, 3), (42, .iconst 1, 1), (43, .aload_n 0, 1), (44, .getfield 9, 3), (47, .iload_n 2, 1), (48, .iaload, 1), (49, .ishl, 1)]
set_option maxRecDepth 100000 in
theorem dkAa32 : ∀ q ∈ dkLa32, decode cX3_held q.1 = .ok q.2 := by decide +kernel
theorem dX3_held_0 : decode cX3_held 0 = .ok (.iconst 0, 1) := dk_of dkAa32 (i := 0) rfl
theorem dX3_held_1 : decode cX3_held 1 = .ok (.istore_n 1, 1) := dk_of dkAa32 (i := 1) rfl
theorem dX3_held_2 : decode cX3_held 2 = .ok (.iconst 0, 1) := dk_of dkAa32 (i := 2) rfl
theorem dX3_held_3 : decode cX3_held 3 = .ok (.istore_n 2, 1) := dk_of dkAa32 (i := 3) rfl
theorem dX3_held_4 : decode cX3_held 4 = .ok (.iload_n 2, 1) := dk_of dkAa32 (i := 4) rfl
theorem dX3_held_5 : decode cX3_held 5 = .ok (.aload_n 0, 1) := dk_of dkAa32 (i := 5) rfl
theorem dX3_held_6 : decode cX3_held 6 = .ok (.getfield 36, 3) := dk_of dkAa32 (i := 6) rfl
theorem dX3_held_9 : decode cX3_held 9 = .ok (.if_icmp .ge 53, 3) := dk_of dkAa32 (i := 7) rfl
theorem dX3_held_12 : decode cX3_held 12 = .ok (.aload_n 0, 1) := dk_of dkAa32 (i := 8) rfl
theorem dX3_held_13 : decode cX3_held 13 = .ok (.iload_n 2, 1) := dk_of dkAa32 (i := 9) rfl
theorem dX3_held_14 : decode cX3_held 14 = .ok (.invokevirtual 59, 3) := dk_of dkAa32 (i := 10) rfl
theorem dX3_held_17 : decode cX3_held 17 = .ok (.ifCond .eq 39, 3) := dk_of dkAa32 (i := 11) rfl
theorem dX3_held_20 : decode cX3_held 20 = .ok (.iload_n 1, 1) := dk_of dkAa32 (i := 12) rfl
theorem dX3_held_21 : decode cX3_held 21 = .ok (.aload_n 0, 1) := dk_of dkAa32 (i := 13) rfl
theorem dX3_held_22 : decode cX3_held 22 = .ok (.getfield 15, 3) := dk_of dkAa32 (i := 14) rfl
theorem dX3_held_25 : decode cX3_held 25 = .ok (.iload_n 2, 1) := dk_of dkAa32 (i := 15) rfl
theorem dX3_held_26 : decode cX3_held 26 = .ok (.iaload, 1) := dk_of dkAa32 (i := 16) rfl
theorem dX3_held_27 : decode cX3_held 27 = .ok (.ior, 1) := dk_of dkAa32 (i := 17) rfl
theorem dX3_held_28 : decode cX3_held 28 = .ok (.istore_n 1, 1) := dk_of dkAa32 (i := 18) rfl
theorem dX3_held_29 : decode cX3_held 29 = .ok (.iload_n 1, 1) := dk_of dkAa32 (i := 19) rfl
theorem dX3_held_30 : decode cX3_held 30 = .ok (.aload_n 0, 1) := dk_of dkAa32 (i := 20) rfl
theorem dX3_held_31 : decode cX3_held 31 = .ok (.getfield 9, 3) := dk_of dkAa32 (i := 21) rfl
theorem dX3_held_34 : decode cX3_held 34 = .ok (.iload_n 2, 1) := dk_of dkAa32 (i := 22) rfl
theorem dX3_held_35 : decode cX3_held 35 = .ok (.iaload, 1) := dk_of dkAa32 (i := 23) rfl
theorem dX3_held_36 : decode cX3_held 36 = .ok (.invokestatic 62, 3) := dk_of dkAa32 (i := 24) rfl
theorem dX3_held_39 : decode cX3_held 39 = .ok (.ifCond .eq 14, 3) := dk_of dkAa32 (i := 25) rfl
theorem dX3_held_42 : decode cX3_held 42 = .ok (.iconst 1, 1) := dk_of dkAa32 (i := 26) rfl
theorem dX3_held_43 : decode cX3_held 43 = .ok (.aload_n 0, 1) := dk_of dkAa32 (i := 27) rfl
theorem dX3_held_44 : decode cX3_held 44 = .ok (.getfield 9, 3) := dk_of dkAa32 (i := 28) rfl
theorem dX3_held_47 : decode cX3_held 47 = .ok (.iload_n 2, 1) := dk_of dkAa32 (i := 29) rfl
theorem dX3_held_48 : decode cX3_held 48 = .ok (.iaload, 1) := dk_of dkAa32 (i := 30) rfl
theorem dX3_held_49 : decode cX3_held 49 = .ok (.ishl, 1) := dk_of dkAa32 (i := 31) rfl
def dkLa33 : List (Nat × Instr × Nat) := [(50, .goto 4, 3), (53, .iconst 0, 1), (54, .ior, 1), (55, .istore_n 1, 1), (56, .iinc 2 1, 3), (59, .goto (-55), 3), (62, .iload_n 1, 1), (63, .ireturn, 1)]
set_option maxRecDepth 100000 in
theorem dkAa33 : ∀ q ∈ dkLa33, decode cX3_held q.1 = .ok q.2 := by decide +kernel
theorem dX3_held_50 : decode cX3_held 50 = .ok (.goto 4, 3) := dk_of dkAa33 (i := 0) rfl
theorem dX3_held_53 : decode cX3_held 53 = .ok (.iconst 0, 1) := dk_of dkAa33 (i := 1) rfl
theorem dX3_held_54 : decode cX3_held 54 = .ok (.ior, 1) := dk_of dkAa33 (i := 2) rfl
theorem dX3_held_55 : decode cX3_held 55 = .ok (.istore_n 1, 1) := dk_of dkAa33 (i := 3) rfl
theorem dX3_held_56 : decode cX3_held 56 = .ok (.iinc 2 1, 3) := dk_of dkAa33 (i := 4) rfl
theorem dX3_held_59 : decode cX3_held 59 = .ok (.goto (-55), 3) := dk_of dkAa33 (i := 5) rfl
theorem dX3_held_62 : decode cX3_held 62 = .ok (.iload_n 1, 1) := dk_of dkAa33 (i := 6) rfl
theorem dX3_held_63 : decode cX3_held 63 = .ok (.ireturn, 1) := dk_of dkAa33 (i := 7) rfl
def dkLa34 : List (Nat × Instr × Nat) := [(0, .iconst 0, 1), (1, .istore_n 2, 1), (2, .iload_n 2, 1), (3, .aload_n 0, 1), (4, .getfield 36, 3), (7, .if_icmp .ge 29, 3), (10, .aload_n 0, 1), (11, .iload_n 2, 1), (12, .invokevirtual 59, 3), (15, .ifCond .eq 15, 3), (18, .aload_n 0, 1), (19, .getfield 9, 3), (22, .iload_n 2, 1), (23, .iaload, 1), (24, .iload_n 1, 1), (25, .if_icmp .ne 5, 3), (28, .iload_n 2, 1), (29, .ireturn, 1), (30, .iinc 2 1, 3), (33, .goto (-31), 3), (36, .iconst (-1), 1), (37, .ireturn, 1)]
set_option maxRecDepth 100000 in
theorem dkAa34 : ∀ q ∈ dkLa34, decode cX3_userOf q.1 = .ok q.2 := by decide +kernel
theorem dX3_userOf_0 : decode cX3_userOf 0 = .ok (.iconst 0, 1) := dk_of dkAa34 (i := 0) rfl
theorem dX3_userOf_1 : decode cX3_userOf 1 = .ok (.istore_n 2, 1) := dk_of dkAa34 (i := 1) rfl
theorem dX3_userOf_2 : decode cX3_userOf 2 = .ok (.iload_n 2, 1) := dk_of dkAa34 (i := 2) rfl
theorem dX3_userOf_3 : decode cX3_userOf 3 = .ok (.aload_n 0, 1) := dk_of dkAa34 (i := 3) rfl
theorem dX3_userOf_4 : decode cX3_userOf 4 = .ok (.getfield 36, 3) := dk_of dkAa34 (i := 4) rfl
theorem dX3_userOf_7 : decode cX3_userOf 7 = .ok (.if_icmp .ge 29, 3) := dk_of dkAa34 (i := 5) rfl
theorem dX3_userOf_10 : decode cX3_userOf 10 = .ok (.aload_n 0, 1) := dk_of dkAa34 (i := 6) rfl
theorem dX3_userOf_11 : decode cX3_userOf 11 = .ok (.iload_n 2, 1) := dk_of dkAa34 (i := 7) rfl
theorem dX3_userOf_12 : decode cX3_userOf 12 = .ok (.invokevirtual 59, 3) := dk_of dkAa34 (i := 8) rfl
theorem dX3_userOf_15 : decode cX3_userOf 15 = .ok (.ifCond .eq 15, 3) := dk_of dkAa34 (i := 9) rfl
theorem dX3_userOf_18 : decode cX3_userOf 18 = .ok (.aload_n 0, 1) := dk_of dkAa34 (i := 10) rfl
theorem dX3_userOf_19 : decode cX3_userOf 19 = .ok (.getfield 9, 3) := dk_of dkAa34 (i := 11) rfl
theorem dX3_userOf_22 : decode cX3_userOf 22 = .ok (.iload_n 2, 1) := dk_of dkAa34 (i := 12) rfl
theorem dX3_userOf_23 : decode cX3_userOf 23 = .ok (.iaload, 1) := dk_of dkAa34 (i := 13) rfl
theorem dX3_userOf_24 : decode cX3_userOf 24 = .ok (.iload_n 1, 1) := dk_of dkAa34 (i := 14) rfl
theorem dX3_userOf_25 : decode cX3_userOf 25 = .ok (.if_icmp .ne 5, 3) := dk_of dkAa34 (i := 15) rfl
theorem dX3_userOf_28 : decode cX3_userOf 28 = .ok (.iload_n 2, 1) := dk_of dkAa34 (i := 16) rfl
theorem dX3_userOf_29 : decode cX3_userOf 29 = .ok (.ireturn, 1) := dk_of dkAa34 (i := 17) rfl
theorem dX3_userOf_30 : decode cX3_userOf 30 = .ok (.iinc 2 1, 3) := dk_of dkAa34 (i := 18) rfl
theorem dX3_userOf_33 : decode cX3_userOf 33 = .ok (.goto (-31), 3) := dk_of dkAa34 (i := 19) rfl
theorem dX3_userOf_36 : decode cX3_userOf 36 = .ok (.iconst (-1), 1) := dk_of dkAa34 (i := 20) rfl
theorem dX3_userOf_37 : decode cX3_userOf 37 = .ok (.ireturn, 1) := dk_of dkAa34 (i := 21) rfl
def dkLa35 : List (Nat × Instr × Nat) := [(0, .iconst 0, 1), (1, .istore_n 2, 1), (2, .iconst 0, 1), (3, .istore_n 3, 1), (4, .iload_n 3, 1), (5, .aload_n 0, 1), (6, .getfield 36, 3), (9, .if_icmp .ge 36, 3), (12, .aload_n 0, 1), (13, .iload_n 3, 1), (14, .invokevirtual 59, 3), (17, .ifCond .eq 22, 3), (20, .iload_n 1, 1), (21, .aload_n 0, 1), (22, .getfield 9, 3), (25, .iload_n 3, 1), (26, .iaload, 1), (27, .invokestatic 65, 3), (30, .ifCond .eq 9, 3), (33, .iload_n 2, 1), (34, .iconst 1, 1), (35, .iload_n 3, 1), (36, .ishl, 1), (37, .ior, 1), (38, .istore_n 2, 1), (39, .iinc 3 1, 3), (42, .goto (-38), 3), (45, .iload_n 2, 1), (46, .ireturn, 1)]
set_option maxRecDepth 100000 in
theorem dkAa35 : ∀ q ∈ dkLa35, decode cX3_usersOf q.1 = .ok q.2 := by decide +kernel
theorem dX3_usersOf_0 : decode cX3_usersOf 0 = .ok (.iconst 0, 1) := dk_of dkAa35 (i := 0) rfl
theorem dX3_usersOf_1 : decode cX3_usersOf 1 = .ok (.istore_n 2, 1) := dk_of dkAa35 (i := 1) rfl
theorem dX3_usersOf_2 : decode cX3_usersOf 2 = .ok (.iconst 0, 1) := dk_of dkAa35 (i := 2) rfl
theorem dX3_usersOf_3 : decode cX3_usersOf 3 = .ok (.istore_n 3, 1) := dk_of dkAa35 (i := 3) rfl
theorem dX3_usersOf_4 : decode cX3_usersOf 4 = .ok (.iload_n 3, 1) := dk_of dkAa35 (i := 4) rfl
theorem dX3_usersOf_5 : decode cX3_usersOf 5 = .ok (.aload_n 0, 1) := dk_of dkAa35 (i := 5) rfl
theorem dX3_usersOf_6 : decode cX3_usersOf 6 = .ok (.getfield 36, 3) := dk_of dkAa35 (i := 6) rfl
theorem dX3_usersOf_9 : decode cX3_usersOf 9 = .ok (.if_icmp .ge 36, 3) := dk_of dkAa35 (i := 7) rfl
theorem dX3_usersOf_12 : decode cX3_usersOf 12 = .ok (.aload_n 0, 1) := dk_of dkAa35 (i := 8) rfl
theorem dX3_usersOf_13 : decode cX3_usersOf 13 = .ok (.iload_n 3, 1) := dk_of dkAa35 (i := 9) rfl
theorem dX3_usersOf_14 : decode cX3_usersOf 14 = .ok (.invokevirtual 59, 3) := dk_of dkAa35 (i := 10) rfl
theorem dX3_usersOf_17 : decode cX3_usersOf 17 = .ok (.ifCond .eq 22, 3) := dk_of dkAa35 (i := 11) rfl
theorem dX3_usersOf_20 : decode cX3_usersOf 20 = .ok (.iload_n 1, 1) := dk_of dkAa35 (i := 12) rfl
theorem dX3_usersOf_21 : decode cX3_usersOf 21 = .ok (.aload_n 0, 1) := dk_of dkAa35 (i := 13) rfl
theorem dX3_usersOf_22 : decode cX3_usersOf 22 = .ok (.getfield 9, 3) := dk_of dkAa35 (i := 14) rfl
theorem dX3_usersOf_25 : decode cX3_usersOf 25 = .ok (.iload_n 3, 1) := dk_of dkAa35 (i := 15) rfl
theorem dX3_usersOf_26 : decode cX3_usersOf 26 = .ok (.iaload, 1) := dk_of dkAa35 (i := 16) rfl
theorem dX3_usersOf_27 : decode cX3_usersOf 27 = .ok (.invokestatic 65, 3) := dk_of dkAa35 (i := 17) rfl
theorem dX3_usersOf_30 : decode cX3_usersOf 30 = .ok (.ifCond .eq 9, 3) := dk_of dkAa35 (i := 18) rfl
theorem dX3_usersOf_33 : decode cX3_usersOf 33 = .ok (.iload_n 2, 1) := dk_of dkAa35 (i := 19) rfl
theorem dX3_usersOf_34 : decode cX3_usersOf 34 = .ok (.iconst 1, 1) := dk_of dkAa35 (i := 20) rfl
theorem dX3_usersOf_35 : decode cX3_usersOf 35 = .ok (.iload_n 3, 1) := dk_of dkAa35 (i := 21) rfl
theorem dX3_usersOf_36 : decode cX3_usersOf 36 = .ok (.ishl, 1) := dk_of dkAa35 (i := 22) rfl
theorem dX3_usersOf_37 : decode cX3_usersOf 37 = .ok (.ior, 1) := dk_of dkAa35 (i := 23) rfl
theorem dX3_usersOf_38 : decode cX3_usersOf 38 = .ok (.istore_n 2, 1) := dk_of dkAa35 (i := 24) rfl
theorem dX3_usersOf_39 : decode cX3_usersOf 39 = .ok (.iinc 3 1, 3) := dk_of dkAa35 (i := 25) rfl
theorem dX3_usersOf_42 : decode cX3_usersOf 42 = .ok (.goto (-38), 3) := dk_of dkAa35 (i := 26) rfl
theorem dX3_usersOf_45 : decode cX3_usersOf 45 = .ok (.iload_n 2, 1) := dk_of dkAa35 (i := 27) rfl
theorem dX3_usersOf_46 : decode cX3_usersOf 46 = .ok (.ireturn, 1) := dk_of dkAa35 (i := 28) rfl
def dkLa36 : List (Nat × Instr × Nat) := [(0, .aload_n 0, 1), (1, .iload_n 1, 1), (2, .invokevirtual 59, 3), (5, .ifCond .ne 5, 3), (8, .iconst (-1), 1), (9, .ireturn, 1), (10, .aload_n 0, 1), (11, .getfield 9, 3), (14, .iload_n 1, 1), (15, .iaload, 1), (16, .istore_n 2, 1), (17, .aload_n 0, 1), (18, .getfield 15, 3), (21, .iload_n 1, 1), (22, .iaload, 1), (23, .istore_n 3, 1), (24, .aload_n 0, 1), (25, .dup, 1), (26, .getfield 39, 3), (29, .iconst 1, 1), (30, .iload_n 1, 1), (31, .ishl, 1), (32, .iconst (-1), 1), (33, .ixor, 1), (34, .iand, 1), (35, .putfield 39, 3), (38, .aload_n 0, 1), (39, .getfield 9, 3), (42, .iload_n 1, 1), (43, .bipush 9, 2), (45, .iastore, 1), (46, .aload_n 0, 1)]
set_option maxRecDepth 100000 in
theorem dkAa36 : ∀ q ∈ dkLa36, decode cX3_bury q.1 = .ok q.2 := by decide +kernel
theorem dX3_bury_0 : decode cX3_bury 0 = .ok (.aload_n 0, 1) := dk_of dkAa36 (i := 0) rfl
theorem dX3_bury_1 : decode cX3_bury 1 = .ok (.iload_n 1, 1) := dk_of dkAa36 (i := 1) rfl
theorem dX3_bury_2 : decode cX3_bury 2 = .ok (.invokevirtual 59, 3) := dk_of dkAa36 (i := 2) rfl
theorem dX3_bury_5 : decode cX3_bury 5 = .ok (.ifCond .ne 5, 3) := dk_of dkAa36 (i := 3) rfl
theorem dX3_bury_8 : decode cX3_bury 8 = .ok (.iconst (-1), 1) := dk_of dkAa36 (i := 4) rfl
theorem dX3_bury_9 : decode cX3_bury 9 = .ok (.ireturn, 1) := dk_of dkAa36 (i := 5) rfl
theorem dX3_bury_10 : decode cX3_bury 10 = .ok (.aload_n 0, 1) := dk_of dkAa36 (i := 6) rfl
theorem dX3_bury_11 : decode cX3_bury 11 = .ok (.getfield 9, 3) := dk_of dkAa36 (i := 7) rfl
theorem dX3_bury_14 : decode cX3_bury 14 = .ok (.iload_n 1, 1) := dk_of dkAa36 (i := 8) rfl
theorem dX3_bury_15 : decode cX3_bury 15 = .ok (.iaload, 1) := dk_of dkAa36 (i := 9) rfl
theorem dX3_bury_16 : decode cX3_bury 16 = .ok (.istore_n 2, 1) := dk_of dkAa36 (i := 10) rfl
theorem dX3_bury_17 : decode cX3_bury 17 = .ok (.aload_n 0, 1) := dk_of dkAa36 (i := 11) rfl
theorem dX3_bury_18 : decode cX3_bury 18 = .ok (.getfield 15, 3) := dk_of dkAa36 (i := 12) rfl
theorem dX3_bury_21 : decode cX3_bury 21 = .ok (.iload_n 1, 1) := dk_of dkAa36 (i := 13) rfl
theorem dX3_bury_22 : decode cX3_bury 22 = .ok (.iaload, 1) := dk_of dkAa36 (i := 14) rfl
theorem dX3_bury_23 : decode cX3_bury 23 = .ok (.istore_n 3, 1) := dk_of dkAa36 (i := 15) rfl
theorem dX3_bury_24 : decode cX3_bury 24 = .ok (.aload_n 0, 1) := dk_of dkAa36 (i := 16) rfl
theorem dX3_bury_25 : decode cX3_bury 25 = .ok (.dup, 1) := dk_of dkAa36 (i := 17) rfl
theorem dX3_bury_26 : decode cX3_bury 26 = .ok (.getfield 39, 3) := dk_of dkAa36 (i := 18) rfl
theorem dX3_bury_29 : decode cX3_bury 29 = .ok (.iconst 1, 1) := dk_of dkAa36 (i := 19) rfl
theorem dX3_bury_30 : decode cX3_bury 30 = .ok (.iload_n 1, 1) := dk_of dkAa36 (i := 20) rfl
theorem dX3_bury_31 : decode cX3_bury 31 = .ok (.ishl, 1) := dk_of dkAa36 (i := 21) rfl
theorem dX3_bury_32 : decode cX3_bury 32 = .ok (.iconst (-1), 1) := dk_of dkAa36 (i := 22) rfl
theorem dX3_bury_33 : decode cX3_bury 33 = .ok (.ixor, 1) := dk_of dkAa36 (i := 23) rfl
theorem dX3_bury_34 : decode cX3_bury 34 = .ok (.iand, 1) := dk_of dkAa36 (i := 24) rfl
theorem dX3_bury_35 : decode cX3_bury 35 = .ok (.putfield 39, 3) := dk_of dkAa36 (i := 25) rfl
theorem dX3_bury_38 : decode cX3_bury 38 = .ok (.aload_n 0, 1) := dk_of dkAa36 (i := 26) rfl
theorem dX3_bury_39 : decode cX3_bury 39 = .ok (.getfield 9, 3) := dk_of dkAa36 (i := 27) rfl
theorem dX3_bury_42 : decode cX3_bury 42 = .ok (.iload_n 1, 1) := dk_of dkAa36 (i := 28) rfl
theorem dX3_bury_43 : decode cX3_bury 43 = .ok (.bipush 9, 2) := dk_of dkAa36 (i := 29) rfl
theorem dX3_bury_45 : decode cX3_bury 45 = .ok (.iastore, 1) := dk_of dkAa36 (i := 30) rfl
theorem dX3_bury_46 : decode cX3_bury 46 = .ok (.aload_n 0, 1) := dk_of dkAa36 (i := 31) rfl
def dkLa37 : List (Nat × Instr × Nat) := [(47, .getfield 15, 3), (50, .iload_n 1, 1), (51, .iconst 0, 1), (52, .iastore, 1), (53, .aload_n 0, 1), (54, .dup, 1), (55, .getfield 42, 3), (58, .iconst 1, 1), (59, .iadd, 1), (60, .putfield 42, 3), (63, .iconst (-1), 1), (64, .istore 4, 2), (66, .iload_n 2, 1), (67, .bipush 9, 2), (69, .if_icmp .eq 28, 3), (72, .aload_n 0, 1), (73, .aload_n 0, 1), (74, .getfield 18, 3), (77, .iload_n 1, 1), (78, .iaload, 1), (79, .aload_n 0, 1), (80, .getfield 21, 3), (83, .iload_n 1, 1), (84, .iaload, 1), (85, .invokevirtual 69, 3), (88, .istore 4, 2), (90, .aload_n 0, 1), (91, .iload 4, 2), (93, .iload_n 2, 1), (94, .invokevirtual 72, 3), (97, .iconst 0, 1), (98, .istore 5, 2)]
set_option maxRecDepth 100000 in
theorem dkAa37 : ∀ q ∈ dkLa37, decode cX3_bury q.1 = .ok q.2 := by decide +kernel
theorem dX3_bury_47 : decode cX3_bury 47 = .ok (.getfield 15, 3) := dk_of dkAa37 (i := 0) rfl
theorem dX3_bury_50 : decode cX3_bury 50 = .ok (.iload_n 1, 1) := dk_of dkAa37 (i := 1) rfl
theorem dX3_bury_51 : decode cX3_bury 51 = .ok (.iconst 0, 1) := dk_of dkAa37 (i := 2) rfl
theorem dX3_bury_52 : decode cX3_bury 52 = .ok (.iastore, 1) := dk_of dkAa37 (i := 3) rfl
theorem dX3_bury_53 : decode cX3_bury 53 = .ok (.aload_n 0, 1) := dk_of dkAa37 (i := 4) rfl
theorem dX3_bury_54 : decode cX3_bury 54 = .ok (.dup, 1) := dk_of dkAa37 (i := 5) rfl
theorem dX3_bury_55 : decode cX3_bury 55 = .ok (.getfield 42, 3) := dk_of dkAa37 (i := 6) rfl
theorem dX3_bury_58 : decode cX3_bury 58 = .ok (.iconst 1, 1) := dk_of dkAa37 (i := 7) rfl
theorem dX3_bury_59 : decode cX3_bury 59 = .ok (.iadd, 1) := dk_of dkAa37 (i := 8) rfl
theorem dX3_bury_60 : decode cX3_bury 60 = .ok (.putfield 42, 3) := dk_of dkAa37 (i := 9) rfl
theorem dX3_bury_63 : decode cX3_bury 63 = .ok (.iconst (-1), 1) := dk_of dkAa37 (i := 10) rfl
theorem dX3_bury_64 : decode cX3_bury 64 = .ok (.istore 4, 2) := dk_of dkAa37 (i := 11) rfl
theorem dX3_bury_66 : decode cX3_bury 66 = .ok (.iload_n 2, 1) := dk_of dkAa37 (i := 12) rfl
theorem dX3_bury_67 : decode cX3_bury 67 = .ok (.bipush 9, 2) := dk_of dkAa37 (i := 13) rfl
theorem dX3_bury_69 : decode cX3_bury 69 = .ok (.if_icmp .eq 28, 3) := dk_of dkAa37 (i := 14) rfl
theorem dX3_bury_72 : decode cX3_bury 72 = .ok (.aload_n 0, 1) := dk_of dkAa37 (i := 15) rfl
theorem dX3_bury_73 : decode cX3_bury 73 = .ok (.aload_n 0, 1) := dk_of dkAa37 (i := 16) rfl
theorem dX3_bury_74 : decode cX3_bury 74 = .ok (.getfield 18, 3) := dk_of dkAa37 (i := 17) rfl
theorem dX3_bury_77 : decode cX3_bury 77 = .ok (.iload_n 1, 1) := dk_of dkAa37 (i := 18) rfl
theorem dX3_bury_78 : decode cX3_bury 78 = .ok (.iaload, 1) := dk_of dkAa37 (i := 19) rfl
theorem dX3_bury_79 : decode cX3_bury 79 = .ok (.aload_n 0, 1) := dk_of dkAa37 (i := 20) rfl
theorem dX3_bury_80 : decode cX3_bury 80 = .ok (.getfield 21, 3) := dk_of dkAa37 (i := 21) rfl
theorem dX3_bury_83 : decode cX3_bury 83 = .ok (.iload_n 1, 1) := dk_of dkAa37 (i := 22) rfl
theorem dX3_bury_84 : decode cX3_bury 84 = .ok (.iaload, 1) := dk_of dkAa37 (i := 23) rfl
theorem dX3_bury_85 : decode cX3_bury 85 = .ok (.invokevirtual 69, 3) := dk_of dkAa37 (i := 24) rfl
theorem dX3_bury_88 : decode cX3_bury 88 = .ok (.istore 4, 2) := dk_of dkAa37 (i := 25) rfl
theorem dX3_bury_90 : decode cX3_bury 90 = .ok (.aload_n 0, 1) := dk_of dkAa37 (i := 26) rfl
theorem dX3_bury_91 : decode cX3_bury 91 = .ok (.iload 4, 2) := dk_of dkAa37 (i := 27) rfl
theorem dX3_bury_93 : decode cX3_bury 93 = .ok (.iload_n 2, 1) := dk_of dkAa37 (i := 28) rfl
theorem dX3_bury_94 : decode cX3_bury 94 = .ok (.invokevirtual 72, 3) := dk_of dkAa37 (i := 29) rfl
theorem dX3_bury_97 : decode cX3_bury 97 = .ok (.iconst 0, 1) := dk_of dkAa37 (i := 30) rfl
theorem dX3_bury_98 : decode cX3_bury 98 = .ok (.istore 5, 2) := dk_of dkAa37 (i := 31) rfl
def dkLa38 : List (Nat × Instr × Nat) := [(100, .iload 5, 2), (102, .bipush 7, 2), (104, .if_icmp .ge 35, 3), (107, .iload_n 3, 1), (108, .ifCond .eq 31, 3), (111, .iload_n 3, 1), (112, .iload 5, 2), (114, .invokestatic 65, 3), (117, .ifCond .eq 16, 3), (120, .aload_n 0, 1), (121, .aload_n 0, 1), (122, .invokevirtual 76, 3), (125, .invokestatic 80, 3), (128, .iload 5, 2), (130, .invokevirtual 72, 3), (133, .iinc 5 1, 3), (136, .goto (-36), 3), (139, .iload 4, 2), (141, .ireturn, 1)]
set_option maxRecDepth 100000 in
theorem dkAa38 : ∀ q ∈ dkLa38, decode cX3_bury q.1 = .ok q.2 := by decide +kernel
theorem dX3_bury_100 : decode cX3_bury 100 = .ok (.iload 5, 2) := dk_of dkAa38 (i := 0) rfl
theorem dX3_bury_102 : decode cX3_bury 102 = .ok (.bipush 7, 2) := dk_of dkAa38 (i := 1) rfl
theorem dX3_bury_104 : decode cX3_bury 104 = .ok (.if_icmp .ge 35, 3) := dk_of dkAa38 (i := 2) rfl
theorem dX3_bury_107 : decode cX3_bury 107 = .ok (.iload_n 3, 1) := dk_of dkAa38 (i := 3) rfl
theorem dX3_bury_108 : decode cX3_bury 108 = .ok (.ifCond .eq 31, 3) := dk_of dkAa38 (i := 4) rfl
theorem dX3_bury_111 : decode cX3_bury 111 = .ok (.iload_n 3, 1) := dk_of dkAa38 (i := 5) rfl
theorem dX3_bury_112 : decode cX3_bury 112 = .ok (.iload 5, 2) := dk_of dkAa38 (i := 6) rfl
theorem dX3_bury_114 : decode cX3_bury 114 = .ok (.invokestatic 65, 3) := dk_of dkAa38 (i := 7) rfl
theorem dX3_bury_117 : decode cX3_bury 117 = .ok (.ifCond .eq 16, 3) := dk_of dkAa38 (i := 8) rfl
theorem dX3_bury_120 : decode cX3_bury 120 = .ok (.aload_n 0, 1) := dk_of dkAa38 (i := 9) rfl
theorem dX3_bury_121 : decode cX3_bury 121 = .ok (.aload_n 0, 1) := dk_of dkAa38 (i := 10) rfl
theorem dX3_bury_122 : decode cX3_bury 122 = .ok (.invokevirtual 76, 3) := dk_of dkAa38 (i := 11) rfl
theorem dX3_bury_125 : decode cX3_bury 125 = .ok (.invokestatic 80, 3) := dk_of dkAa38 (i := 12) rfl
theorem dX3_bury_128 : decode cX3_bury 128 = .ok (.iload 5, 2) := dk_of dkAa38 (i := 13) rfl
theorem dX3_bury_130 : decode cX3_bury 130 = .ok (.invokevirtual 72, 3) := dk_of dkAa38 (i := 14) rfl
theorem dX3_bury_133 : decode cX3_bury 133 = .ok (.iinc 5 1, 3) := dk_of dkAa38 (i := 15) rfl
theorem dX3_bury_136 : decode cX3_bury 136 = .ok (.goto (-36), 3) := dk_of dkAa38 (i := 16) rfl
theorem dX3_bury_139 : decode cX3_bury 139 = .ok (.iload 4, 2) := dk_of dkAa38 (i := 17) rfl
theorem dX3_bury_141 : decode cX3_bury 141 = .ok (.ireturn, 1) := dk_of dkAa38 (i := 18) rfl
def dkLa39 : List (Nat × Instr × Nat) := [(0, .aload_n 0, 1), (1, .iload_n 1, 1), (2, .invokevirtual 59, 3), (5, .ifCond .eq 5, 3), (8, .iload_n 1, 1), (9, .ireturn, 1), (10, .aload_n 0, 1), (11, .iload_n 2, 1), (12, .invokevirtual 59, 3), (15, .ifCond .eq 7, 3), (18, .iload_n 2, 1), (19, .goto 10, 3), (22, .aload_n 0, 1), (23, .invokevirtual 76, 3), (26, .invokestatic 80, 3), (29, .ireturn, 1)]
set_option maxRecDepth 100000 in
theorem dkAa39 : ∀ q ∈ dkLa39, decode cX3_firstAlive q.1 = .ok q.2 := by decide +kernel
theorem dX3_firstAlive_0 : decode cX3_firstAlive 0 = .ok (.aload_n 0, 1) := dk_of dkAa39 (i := 0) rfl
theorem dX3_firstAlive_1 : decode cX3_firstAlive 1 = .ok (.iload_n 1, 1) := dk_of dkAa39 (i := 1) rfl
theorem dX3_firstAlive_2 : decode cX3_firstAlive 2 = .ok (.invokevirtual 59, 3) := dk_of dkAa39 (i := 2) rfl
theorem dX3_firstAlive_5 : decode cX3_firstAlive 5 = .ok (.ifCond .eq 5, 3) := dk_of dkAa39 (i := 3) rfl
theorem dX3_firstAlive_8 : decode cX3_firstAlive 8 = .ok (.iload_n 1, 1) := dk_of dkAa39 (i := 4) rfl
theorem dX3_firstAlive_9 : decode cX3_firstAlive 9 = .ok (.ireturn, 1) := dk_of dkAa39 (i := 5) rfl
theorem dX3_firstAlive_10 : decode cX3_firstAlive 10 = .ok (.aload_n 0, 1) := dk_of dkAa39 (i := 6) rfl
theorem dX3_firstAlive_11 : decode cX3_firstAlive 11 = .ok (.iload_n 2, 1) := dk_of dkAa39 (i := 7) rfl
theorem dX3_firstAlive_12 : decode cX3_firstAlive 12 = .ok (.invokevirtual 59, 3) := dk_of dkAa39 (i := 8) rfl
theorem dX3_firstAlive_15 : decode cX3_firstAlive 15 = .ok (.ifCond .eq 7, 3) := dk_of dkAa39 (i := 9) rfl
theorem dX3_firstAlive_18 : decode cX3_firstAlive 18 = .ok (.iload_n 2, 1) := dk_of dkAa39 (i := 10) rfl
theorem dX3_firstAlive_19 : decode cX3_firstAlive 19 = .ok (.goto 10, 3) := dk_of dkAa39 (i := 11) rfl
theorem dX3_firstAlive_22 : decode cX3_firstAlive 22 = .ok (.aload_n 0, 1) := dk_of dkAa39 (i := 12) rfl
theorem dX3_firstAlive_23 : decode cX3_firstAlive 23 = .ok (.invokevirtual 76, 3) := dk_of dkAa39 (i := 13) rfl
theorem dX3_firstAlive_26 : decode cX3_firstAlive 26 = .ok (.invokestatic 80, 3) := dk_of dkAa39 (i := 14) rfl
theorem dX3_firstAlive_29 : decode cX3_firstAlive 29 = .ok (.ireturn, 1) := dk_of dkAa39 (i := 15) rfl
def dkLa40 : List (Nat × Instr × Nat) := [(0, .aload_n 0, 1), (1, .iload_n 1, 1), (2, .invokevirtual 59, 3), (5, .ifCond .eq 39, 3), (8, .aload_n 0, 1), (9, .getfield 9, 3), (12, .iload_n 1, 1), (13, .iaload, 1), (14, .invokestatic 62, 3), (17, .ifCond .eq 20, 3), (20, .aload_n 0, 1), (21, .getfield 15, 3), (24, .iload_n 1, 1), (25, .dup2, 1), (26, .iaload, 1), (27, .iconst 1, 1), (28, .aload_n 0, 1), (29, .getfield 9, 3), (32, .iload_n 1, 1), (33, .iaload, 1), (34, .ishl, 1), (35, .ior, 1), (36, .iastore, 1), (37, .aload_n 0, 1), (38, .getfield 9, 3), (41, .iload_n 1, 1), (42, .iload_n 2, 1), (43, .iastore, 1), (44, .return_, 1)]
set_option maxRecDepth 100000 in
theorem dkAa40 : ∀ q ∈ dkLa40, decode cX3_give q.1 = .ok q.2 := by decide +kernel
theorem dX3_give_0 : decode cX3_give 0 = .ok (.aload_n 0, 1) := dk_of dkAa40 (i := 0) rfl
theorem dX3_give_1 : decode cX3_give 1 = .ok (.iload_n 1, 1) := dk_of dkAa40 (i := 1) rfl
theorem dX3_give_2 : decode cX3_give 2 = .ok (.invokevirtual 59, 3) := dk_of dkAa40 (i := 2) rfl
theorem dX3_give_5 : decode cX3_give 5 = .ok (.ifCond .eq 39, 3) := dk_of dkAa40 (i := 3) rfl
theorem dX3_give_8 : decode cX3_give 8 = .ok (.aload_n 0, 1) := dk_of dkAa40 (i := 4) rfl
theorem dX3_give_9 : decode cX3_give 9 = .ok (.getfield 9, 3) := dk_of dkAa40 (i := 5) rfl
theorem dX3_give_12 : decode cX3_give 12 = .ok (.iload_n 1, 1) := dk_of dkAa40 (i := 6) rfl
theorem dX3_give_13 : decode cX3_give 13 = .ok (.iaload, 1) := dk_of dkAa40 (i := 7) rfl
theorem dX3_give_14 : decode cX3_give 14 = .ok (.invokestatic 62, 3) := dk_of dkAa40 (i := 8) rfl
theorem dX3_give_17 : decode cX3_give 17 = .ok (.ifCond .eq 20, 3) := dk_of dkAa40 (i := 9) rfl
theorem dX3_give_20 : decode cX3_give 20 = .ok (.aload_n 0, 1) := dk_of dkAa40 (i := 10) rfl
theorem dX3_give_21 : decode cX3_give 21 = .ok (.getfield 15, 3) := dk_of dkAa40 (i := 11) rfl
theorem dX3_give_24 : decode cX3_give 24 = .ok (.iload_n 1, 1) := dk_of dkAa40 (i := 12) rfl
theorem dX3_give_25 : decode cX3_give 25 = .ok (.dup2, 1) := dk_of dkAa40 (i := 13) rfl
theorem dX3_give_26 : decode cX3_give 26 = .ok (.iaload, 1) := dk_of dkAa40 (i := 14) rfl
theorem dX3_give_27 : decode cX3_give 27 = .ok (.iconst 1, 1) := dk_of dkAa40 (i := 15) rfl
theorem dX3_give_28 : decode cX3_give 28 = .ok (.aload_n 0, 1) := dk_of dkAa40 (i := 16) rfl
theorem dX3_give_29 : decode cX3_give 29 = .ok (.getfield 9, 3) := dk_of dkAa40 (i := 17) rfl
theorem dX3_give_32 : decode cX3_give 32 = .ok (.iload_n 1, 1) := dk_of dkAa40 (i := 18) rfl
theorem dX3_give_33 : decode cX3_give 33 = .ok (.iaload, 1) := dk_of dkAa40 (i := 19) rfl
theorem dX3_give_34 : decode cX3_give 34 = .ok (.ishl, 1) := dk_of dkAa40 (i := 20) rfl
theorem dX3_give_35 : decode cX3_give 35 = .ok (.ior, 1) := dk_of dkAa40 (i := 21) rfl
theorem dX3_give_36 : decode cX3_give 36 = .ok (.iastore, 1) := dk_of dkAa40 (i := 22) rfl
theorem dX3_give_37 : decode cX3_give 37 = .ok (.aload_n 0, 1) := dk_of dkAa40 (i := 23) rfl
theorem dX3_give_38 : decode cX3_give 38 = .ok (.getfield 9, 3) := dk_of dkAa40 (i := 24) rfl
theorem dX3_give_41 : decode cX3_give 41 = .ok (.iload_n 1, 1) := dk_of dkAa40 (i := 25) rfl
theorem dX3_give_42 : decode cX3_give 42 = .ok (.iload_n 2, 1) := dk_of dkAa40 (i := 26) rfl
theorem dX3_give_43 : decode cX3_give 43 = .ok (.iastore, 1) := dk_of dkAa40 (i := 27) rfl
theorem dX3_give_44 : decode cX3_give 44 = .ok (.return_, 1) := dk_of dkAa40 (i := 28) rfl
def dkLa41 : List (Nat × Instr × Nat) := [(0, .iload_n 0, 1), (1, .ifCond .ne 7, 3), (4, .iconst (-1), 1), (5, .goto 7, 3), (8, .iload_n 0, 1), (9, .invokestatic 83, 3), (12, .ireturn, 1)]
set_option maxRecDepth 100000 in
theorem dkAa41 : ∀ q ∈ dkLa41, decode cX3_leastOf q.1 = .ok q.2 := by decide +kernel
theorem dX3_leastOf_0 : decode cX3_leastOf 0 = .ok (.iload_n 0, 1) := dk_of dkAa41 (i := 0) rfl
theorem dX3_leastOf_1 : decode cX3_leastOf 1 = .ok (.ifCond .ne 7, 3) := dk_of dkAa41 (i := 1) rfl
theorem dX3_leastOf_4 : decode cX3_leastOf 4 = .ok (.iconst (-1), 1) := dk_of dkAa41 (i := 2) rfl
theorem dX3_leastOf_5 : decode cX3_leastOf 5 = .ok (.goto 7, 3) := dk_of dkAa41 (i := 3) rfl
theorem dX3_leastOf_8 : decode cX3_leastOf 8 = .ok (.iload_n 0, 1) := dk_of dkAa41 (i := 4) rfl
theorem dX3_leastOf_9 : decode cX3_leastOf 9 = .ok (.invokestatic 83, 3) := dk_of dkAa41 (i := 5) rfl
theorem dX3_leastOf_12 : decode cX3_leastOf 12 = .ok (.ireturn, 1) := dk_of dkAa41 (i := 6) rfl
def dkLa42 : List (Nat × Instr × Nat) := [(0, .iload_n 1, 1), (1, .iload_n 2, 1), (2, .if_icmp .eq 34, 3), (5, .aload_n 0, 1), (6, .iload_n 1, 1), (7, .invokevirtual 59, 3), (10, .ifCond .eq 26, 3), (13, .aload_n 0, 1), (14, .iload_n 2, 1), (15, .invokevirtual 59, 3), (18, .ifCond .eq 18, 3), (21, .aload_n 0, 1), (22, .getfield 9, 3), (25, .iload_n 1, 1), (26, .iaload, 1), (27, .bipush 9, 2), (29, .if_icmp .eq 7, 3), (32, .iconst 1, 1), (33, .goto 4, 3), (36, .iconst 0, 1), (37, .ireturn, 1)]
set_option maxRecDepth 100000 in
theorem dkAa42 : ∀ q ∈ dkLa42, decode cX3_canHandOver q.1 = .ok q.2 := by decide +kernel
theorem dX3_canHandOver_0 : decode cX3_canHandOver 0 = .ok (.iload_n 1, 1) := dk_of dkAa42 (i := 0) rfl
theorem dX3_canHandOver_1 : decode cX3_canHandOver 1 = .ok (.iload_n 2, 1) := dk_of dkAa42 (i := 1) rfl
theorem dX3_canHandOver_2 : decode cX3_canHandOver 2 = .ok (.if_icmp .eq 34, 3) := dk_of dkAa42 (i := 2) rfl
theorem dX3_canHandOver_5 : decode cX3_canHandOver 5 = .ok (.aload_n 0, 1) := dk_of dkAa42 (i := 3) rfl
theorem dX3_canHandOver_6 : decode cX3_canHandOver 6 = .ok (.iload_n 1, 1) := dk_of dkAa42 (i := 4) rfl
theorem dX3_canHandOver_7 : decode cX3_canHandOver 7 = .ok (.invokevirtual 59, 3) := dk_of dkAa42 (i := 5) rfl
theorem dX3_canHandOver_10 : decode cX3_canHandOver 10 = .ok (.ifCond .eq 26, 3) := dk_of dkAa42 (i := 6) rfl
theorem dX3_canHandOver_13 : decode cX3_canHandOver 13 = .ok (.aload_n 0, 1) := dk_of dkAa42 (i := 7) rfl
theorem dX3_canHandOver_14 : decode cX3_canHandOver 14 = .ok (.iload_n 2, 1) := dk_of dkAa42 (i := 8) rfl
theorem dX3_canHandOver_15 : decode cX3_canHandOver 15 = .ok (.invokevirtual 59, 3) := dk_of dkAa42 (i := 9) rfl
theorem dX3_canHandOver_18 : decode cX3_canHandOver 18 = .ok (.ifCond .eq 18, 3) := dk_of dkAa42 (i := 10) rfl
theorem dX3_canHandOver_21 : decode cX3_canHandOver 21 = .ok (.aload_n 0, 1) := dk_of dkAa42 (i := 11) rfl
theorem dX3_canHandOver_22 : decode cX3_canHandOver 22 = .ok (.getfield 9, 3) := dk_of dkAa42 (i := 12) rfl
theorem dX3_canHandOver_25 : decode cX3_canHandOver 25 = .ok (.iload_n 1, 1) := dk_of dkAa42 (i := 13) rfl
theorem dX3_canHandOver_26 : decode cX3_canHandOver 26 = .ok (.iaload, 1) := dk_of dkAa42 (i := 14) rfl
theorem dX3_canHandOver_27 : decode cX3_canHandOver 27 = .ok (.bipush 9, 2) := dk_of dkAa42 (i := 15) rfl
theorem dX3_canHandOver_29 : decode cX3_canHandOver 29 = .ok (.if_icmp .eq 7, 3) := dk_of dkAa42 (i := 16) rfl
theorem dX3_canHandOver_32 : decode cX3_canHandOver 32 = .ok (.iconst 1, 1) := dk_of dkAa42 (i := 17) rfl
theorem dX3_canHandOver_33 : decode cX3_canHandOver 33 = .ok (.goto 4, 3) := dk_of dkAa42 (i := 18) rfl
theorem dX3_canHandOver_36 : decode cX3_canHandOver 36 = .ok (.iconst 0, 1) := dk_of dkAa42 (i := 19) rfl
theorem dX3_canHandOver_37 : decode cX3_canHandOver 37 = .ok (.ireturn, 1) := dk_of dkAa42 (i := 20) rfl
def dkLa43 : List (Nat × Instr × Nat) := [(0, .aload_n 0, 1), (1, .iload_n 1, 1), (2, .iload_n 2, 1), (3, .invokevirtual 88, 3), (6, .ifCond .ne 4, 3), (9, .return_, 1), (10, .aload_n 0, 1), (11, .iload_n 2, 1), (12, .aload_n 0, 1), (13, .getfield 9, 3), (16, .iload_n 1, 1), (17, .iaload, 1), (18, .invokevirtual 72, 3), (21, .aload_n 0, 1), (22, .getfield 15, 3), (25, .iload_n 1, 1), (26, .iaload, 1), (27, .invokestatic 80, 3), (30, .istore_n 3, 1), (31, .iload_n 3, 1), (32, .iconst (-1), 1), (33, .if_icmp .ne 14, 3), (36, .aload_n 0, 1), (37, .getfield 9, 3), (40, .iload_n 1, 1), (41, .bipush 9, 2), (43, .iastore, 1), (44, .goto 24, 3), (47, .aload_n 0, 1), (48, .getfield 9, 3), (51, .iload_n 1, 1), (52, .iload_n 3, 1)]
set_option maxRecDepth 100000 in
theorem dkAa43 : ∀ q ∈ dkLa43, decode cX3_handOver q.1 = .ok q.2 := by decide +kernel
theorem dX3_handOver_0 : decode cX3_handOver 0 = .ok (.aload_n 0, 1) := dk_of dkAa43 (i := 0) rfl
theorem dX3_handOver_1 : decode cX3_handOver 1 = .ok (.iload_n 1, 1) := dk_of dkAa43 (i := 1) rfl
theorem dX3_handOver_2 : decode cX3_handOver 2 = .ok (.iload_n 2, 1) := dk_of dkAa43 (i := 2) rfl
theorem dX3_handOver_3 : decode cX3_handOver 3 = .ok (.invokevirtual 88, 3) := dk_of dkAa43 (i := 3) rfl
theorem dX3_handOver_6 : decode cX3_handOver 6 = .ok (.ifCond .ne 4, 3) := dk_of dkAa43 (i := 4) rfl
theorem dX3_handOver_9 : decode cX3_handOver 9 = .ok (.return_, 1) := dk_of dkAa43 (i := 5) rfl
theorem dX3_handOver_10 : decode cX3_handOver 10 = .ok (.aload_n 0, 1) := dk_of dkAa43 (i := 6) rfl
theorem dX3_handOver_11 : decode cX3_handOver 11 = .ok (.iload_n 2, 1) := dk_of dkAa43 (i := 7) rfl
theorem dX3_handOver_12 : decode cX3_handOver 12 = .ok (.aload_n 0, 1) := dk_of dkAa43 (i := 8) rfl
theorem dX3_handOver_13 : decode cX3_handOver 13 = .ok (.getfield 9, 3) := dk_of dkAa43 (i := 9) rfl
theorem dX3_handOver_16 : decode cX3_handOver 16 = .ok (.iload_n 1, 1) := dk_of dkAa43 (i := 10) rfl
theorem dX3_handOver_17 : decode cX3_handOver 17 = .ok (.iaload, 1) := dk_of dkAa43 (i := 11) rfl
theorem dX3_handOver_18 : decode cX3_handOver 18 = .ok (.invokevirtual 72, 3) := dk_of dkAa43 (i := 12) rfl
theorem dX3_handOver_21 : decode cX3_handOver 21 = .ok (.aload_n 0, 1) := dk_of dkAa43 (i := 13) rfl
theorem dX3_handOver_22 : decode cX3_handOver 22 = .ok (.getfield 15, 3) := dk_of dkAa43 (i := 14) rfl
theorem dX3_handOver_25 : decode cX3_handOver 25 = .ok (.iload_n 1, 1) := dk_of dkAa43 (i := 15) rfl
theorem dX3_handOver_26 : decode cX3_handOver 26 = .ok (.iaload, 1) := dk_of dkAa43 (i := 16) rfl
theorem dX3_handOver_27 : decode cX3_handOver 27 = .ok (.invokestatic 80, 3) := dk_of dkAa43 (i := 17) rfl
theorem dX3_handOver_30 : decode cX3_handOver 30 = .ok (.istore_n 3, 1) := dk_of dkAa43 (i := 18) rfl
theorem dX3_handOver_31 : decode cX3_handOver 31 = .ok (.iload_n 3, 1) := dk_of dkAa43 (i := 19) rfl
theorem dX3_handOver_32 : decode cX3_handOver 32 = .ok (.iconst (-1), 1) := dk_of dkAa43 (i := 20) rfl
theorem dX3_handOver_33 : decode cX3_handOver 33 = .ok (.if_icmp .ne 14, 3) := dk_of dkAa43 (i := 21) rfl
theorem dX3_handOver_36 : decode cX3_handOver 36 = .ok (.aload_n 0, 1) := dk_of dkAa43 (i := 22) rfl
theorem dX3_handOver_37 : decode cX3_handOver 37 = .ok (.getfield 9, 3) := dk_of dkAa43 (i := 23) rfl
theorem dX3_handOver_40 : decode cX3_handOver 40 = .ok (.iload_n 1, 1) := dk_of dkAa43 (i := 24) rfl
theorem dX3_handOver_41 : decode cX3_handOver 41 = .ok (.bipush 9, 2) := dk_of dkAa43 (i := 25) rfl
theorem dX3_handOver_43 : decode cX3_handOver 43 = .ok (.iastore, 1) := dk_of dkAa43 (i := 26) rfl
theorem dX3_handOver_44 : decode cX3_handOver 44 = .ok (.goto 24, 3) := dk_of dkAa43 (i := 27) rfl
theorem dX3_handOver_47 : decode cX3_handOver 47 = .ok (.aload_n 0, 1) := dk_of dkAa43 (i := 28) rfl
theorem dX3_handOver_48 : decode cX3_handOver 48 = .ok (.getfield 9, 3) := dk_of dkAa43 (i := 29) rfl
theorem dX3_handOver_51 : decode cX3_handOver 51 = .ok (.iload_n 1, 1) := dk_of dkAa43 (i := 30) rfl
theorem dX3_handOver_52 : decode cX3_handOver 52 = .ok (.iload_n 3, 1) := dk_of dkAa43 (i := 31) rfl
def dkLa44 : List (Nat × Instr × Nat) := [(53, .iastore, 1), (54, .aload_n 0, 1), (55, .getfield 15, 3), (58, .iload_n 1, 1), (59, .dup2, 1), (60, .iaload, 1), (61, .iconst 1, 1), (62, .iload_n 3, 1), (63, .ishl, 1), (64, .iconst (-1), 1), (65, .ixor, 1), (66, .iand, 1), (67, .iastore, 1), (68, .return_, 1)]
set_option maxRecDepth 100000 in
theorem dkAa44 : ∀ q ∈ dkLa44, decode cX3_handOver q.1 = .ok q.2 := by decide +kernel
theorem dX3_handOver_53 : decode cX3_handOver 53 = .ok (.iastore, 1) := dk_of dkAa44 (i := 0) rfl
theorem dX3_handOver_54 : decode cX3_handOver 54 = .ok (.aload_n 0, 1) := dk_of dkAa44 (i := 1) rfl
theorem dX3_handOver_55 : decode cX3_handOver 55 = .ok (.getfield 15, 3) := dk_of dkAa44 (i := 2) rfl
theorem dX3_handOver_58 : decode cX3_handOver 58 = .ok (.iload_n 1, 1) := dk_of dkAa44 (i := 3) rfl
theorem dX3_handOver_59 : decode cX3_handOver 59 = .ok (.dup2, 1) := dk_of dkAa44 (i := 4) rfl
theorem dX3_handOver_60 : decode cX3_handOver 60 = .ok (.iaload, 1) := dk_of dkAa44 (i := 5) rfl
theorem dX3_handOver_61 : decode cX3_handOver 61 = .ok (.iconst 1, 1) := dk_of dkAa44 (i := 6) rfl
theorem dX3_handOver_62 : decode cX3_handOver 62 = .ok (.iload_n 3, 1) := dk_of dkAa44 (i := 7) rfl
theorem dX3_handOver_63 : decode cX3_handOver 63 = .ok (.ishl, 1) := dk_of dkAa44 (i := 8) rfl
theorem dX3_handOver_64 : decode cX3_handOver 64 = .ok (.iconst (-1), 1) := dk_of dkAa44 (i := 9) rfl
theorem dX3_handOver_65 : decode cX3_handOver 65 = .ok (.ixor, 1) := dk_of dkAa44 (i := 10) rfl
theorem dX3_handOver_66 : decode cX3_handOver 66 = .ok (.iand, 1) := dk_of dkAa44 (i := 11) rfl
theorem dX3_handOver_67 : decode cX3_handOver 67 = .ok (.iastore, 1) := dk_of dkAa44 (i := 12) rfl
theorem dX3_handOver_68 : decode cX3_handOver 68 = .ok (.return_, 1) := dk_of dkAa44 (i := 13) rfl
def dkLa45 : List (Nat × Instr × Nat) := [(0, .aload_n 0, 1), (1, .iload_n 1, 1), (2, .invokevirtual 59, 3), (5, .ifCond .eq 16, 3), (8, .aload_n 0, 1), (9, .getfield 15, 3), (12, .iload_n 1, 1), (13, .iaload, 1), (14, .iload_n 2, 1), (15, .invokestatic 65, 3), (18, .ifCond .ne 6, 3), (21, .bipush 9, 2), (23, .ireturn, 1), (24, .aload_n 0, 1), (25, .getfield 9, 3), (28, .iload_n 1, 1), (29, .iaload, 1), (30, .istore_n 3, 1), (31, .aload_n 0, 1), (32, .getfield 15, 3), (35, .iload_n 1, 1), (36, .dup2, 1), (37, .iaload, 1), (38, .iconst 1, 1), (39, .iload_n 2, 1), (40, .ishl, 1), (41, .iconst (-1), 1), (42, .ixor, 1), (43, .iand, 1), (44, .iastore, 1), (45, .aload_n 0, 1), (46, .iload_n 1, 1)]
set_option maxRecDepth 100000 in
theorem dkAa45 : ∀ q ∈ dkLa45, decode cX3_takeOut q.1 = .ok q.2 := by decide +kernel
theorem dX3_takeOut_0 : decode cX3_takeOut 0 = .ok (.aload_n 0, 1) := dk_of dkAa45 (i := 0) rfl
theorem dX3_takeOut_1 : decode cX3_takeOut 1 = .ok (.iload_n 1, 1) := dk_of dkAa45 (i := 1) rfl
theorem dX3_takeOut_2 : decode cX3_takeOut 2 = .ok (.invokevirtual 59, 3) := dk_of dkAa45 (i := 2) rfl
theorem dX3_takeOut_5 : decode cX3_takeOut 5 = .ok (.ifCond .eq 16, 3) := dk_of dkAa45 (i := 3) rfl
theorem dX3_takeOut_8 : decode cX3_takeOut 8 = .ok (.aload_n 0, 1) := dk_of dkAa45 (i := 4) rfl
theorem dX3_takeOut_9 : decode cX3_takeOut 9 = .ok (.getfield 15, 3) := dk_of dkAa45 (i := 5) rfl
theorem dX3_takeOut_12 : decode cX3_takeOut 12 = .ok (.iload_n 1, 1) := dk_of dkAa45 (i := 6) rfl
theorem dX3_takeOut_13 : decode cX3_takeOut 13 = .ok (.iaload, 1) := dk_of dkAa45 (i := 7) rfl
theorem dX3_takeOut_14 : decode cX3_takeOut 14 = .ok (.iload_n 2, 1) := dk_of dkAa45 (i := 8) rfl
theorem dX3_takeOut_15 : decode cX3_takeOut 15 = .ok (.invokestatic 65, 3) := dk_of dkAa45 (i := 9) rfl
theorem dX3_takeOut_18 : decode cX3_takeOut 18 = .ok (.ifCond .ne 6, 3) := dk_of dkAa45 (i := 10) rfl
theorem dX3_takeOut_21 : decode cX3_takeOut 21 = .ok (.bipush 9, 2) := dk_of dkAa45 (i := 11) rfl
theorem dX3_takeOut_23 : decode cX3_takeOut 23 = .ok (.ireturn, 1) := dk_of dkAa45 (i := 12) rfl
theorem dX3_takeOut_24 : decode cX3_takeOut 24 = .ok (.aload_n 0, 1) := dk_of dkAa45 (i := 13) rfl
theorem dX3_takeOut_25 : decode cX3_takeOut 25 = .ok (.getfield 9, 3) := dk_of dkAa45 (i := 14) rfl
theorem dX3_takeOut_28 : decode cX3_takeOut 28 = .ok (.iload_n 1, 1) := dk_of dkAa45 (i := 15) rfl
theorem dX3_takeOut_29 : decode cX3_takeOut 29 = .ok (.iaload, 1) := dk_of dkAa45 (i := 16) rfl
theorem dX3_takeOut_30 : decode cX3_takeOut 30 = .ok (.istore_n 3, 1) := dk_of dkAa45 (i := 17) rfl
theorem dX3_takeOut_31 : decode cX3_takeOut 31 = .ok (.aload_n 0, 1) := dk_of dkAa45 (i := 18) rfl
theorem dX3_takeOut_32 : decode cX3_takeOut 32 = .ok (.getfield 15, 3) := dk_of dkAa45 (i := 19) rfl
theorem dX3_takeOut_35 : decode cX3_takeOut 35 = .ok (.iload_n 1, 1) := dk_of dkAa45 (i := 20) rfl
theorem dX3_takeOut_36 : decode cX3_takeOut 36 = .ok (.dup2, 1) := dk_of dkAa45 (i := 21) rfl
theorem dX3_takeOut_37 : decode cX3_takeOut 37 = .ok (.iaload, 1) := dk_of dkAa45 (i := 22) rfl
theorem dX3_takeOut_38 : decode cX3_takeOut 38 = .ok (.iconst 1, 1) := dk_of dkAa45 (i := 23) rfl
theorem dX3_takeOut_39 : decode cX3_takeOut 39 = .ok (.iload_n 2, 1) := dk_of dkAa45 (i := 24) rfl
theorem dX3_takeOut_40 : decode cX3_takeOut 40 = .ok (.ishl, 1) := dk_of dkAa45 (i := 25) rfl
theorem dX3_takeOut_41 : decode cX3_takeOut 41 = .ok (.iconst (-1), 1) := dk_of dkAa45 (i := 26) rfl
theorem dX3_takeOut_42 : decode cX3_takeOut 42 = .ok (.ixor, 1) := dk_of dkAa45 (i := 27) rfl
theorem dX3_takeOut_43 : decode cX3_takeOut 43 = .ok (.iand, 1) := dk_of dkAa45 (i := 28) rfl
theorem dX3_takeOut_44 : decode cX3_takeOut 44 = .ok (.iastore, 1) := dk_of dkAa45 (i := 29) rfl
theorem dX3_takeOut_45 : decode cX3_takeOut 45 = .ok (.aload_n 0, 1) := dk_of dkAa45 (i := 30) rfl
theorem dX3_takeOut_46 : decode cX3_takeOut 46 = .ok (.iload_n 1, 1) := dk_of dkAa45 (i := 31) rfl
def dkLa46 : List (Nat × Instr × Nat) := [(47, .iload_n 2, 1), (48, .invokevirtual 72, 3), (51, .iload_n 3, 1), (52, .ireturn, 1)]
set_option maxRecDepth 100000 in
theorem dkAa46 : ∀ q ∈ dkLa46, decode cX3_takeOut q.1 = .ok q.2 := by decide +kernel
theorem dX3_takeOut_47 : decode cX3_takeOut 47 = .ok (.iload_n 2, 1) := dk_of dkAa46 (i := 0) rfl
theorem dX3_takeOut_48 : decode cX3_takeOut 48 = .ok (.invokevirtual 72, 3) := dk_of dkAa46 (i := 1) rfl
theorem dX3_takeOut_51 : decode cX3_takeOut 51 = .ok (.iload_n 3, 1) := dk_of dkAa46 (i := 2) rfl
theorem dX3_takeOut_52 : decode cX3_takeOut 52 = .ok (.ireturn, 1) := dk_of dkAa46 (i := 3) rfl
def dkLa47 : List (Nat × Instr × Nat) := [(0, .aload_n 0, 1), (1, .iload_n 1, 1), (2, .invokevirtual 56, 3), (5, .ifCond .eq 17, 3), (8, .aload_n 0, 1), (9, .getfield 18, 3), (12, .iload_n 1, 1), (13, .iload_n 2, 1), (14, .iastore, 1), (15, .aload_n 0, 1), (16, .getfield 21, 3), (19, .iload_n 1, 1), (20, .iload_n 3, 1), (21, .iastore, 1), (22, .return_, 1)]
set_option maxRecDepth 100000 in
theorem dkAa47 : ∀ q ∈ dkLa47, decode cX3_changeWill q.1 = .ok q.2 := by decide +kernel
theorem dX3_changeWill_0 : decode cX3_changeWill 0 = .ok (.aload_n 0, 1) := dk_of dkAa47 (i := 0) rfl
theorem dX3_changeWill_1 : decode cX3_changeWill 1 = .ok (.iload_n 1, 1) := dk_of dkAa47 (i := 1) rfl
theorem dX3_changeWill_2 : decode cX3_changeWill 2 = .ok (.invokevirtual 56, 3) := dk_of dkAa47 (i := 2) rfl
theorem dX3_changeWill_5 : decode cX3_changeWill 5 = .ok (.ifCond .eq 17, 3) := dk_of dkAa47 (i := 3) rfl
theorem dX3_changeWill_8 : decode cX3_changeWill 8 = .ok (.aload_n 0, 1) := dk_of dkAa47 (i := 4) rfl
theorem dX3_changeWill_9 : decode cX3_changeWill 9 = .ok (.getfield 18, 3) := dk_of dkAa47 (i := 5) rfl
theorem dX3_changeWill_12 : decode cX3_changeWill 12 = .ok (.iload_n 1, 1) := dk_of dkAa47 (i := 6) rfl
theorem dX3_changeWill_13 : decode cX3_changeWill 13 = .ok (.iload_n 2, 1) := dk_of dkAa47 (i := 7) rfl
theorem dX3_changeWill_14 : decode cX3_changeWill 14 = .ok (.iastore, 1) := dk_of dkAa47 (i := 8) rfl
theorem dX3_changeWill_15 : decode cX3_changeWill 15 = .ok (.aload_n 0, 1) := dk_of dkAa47 (i := 9) rfl
theorem dX3_changeWill_16 : decode cX3_changeWill 16 = .ok (.getfield 21, 3) := dk_of dkAa47 (i := 10) rfl
theorem dX3_changeWill_19 : decode cX3_changeWill 19 = .ok (.iload_n 1, 1) := dk_of dkAa47 (i := 11) rfl
theorem dX3_changeWill_20 : decode cX3_changeWill 20 = .ok (.iload_n 3, 1) := dk_of dkAa47 (i := 12) rfl
theorem dX3_changeWill_21 : decode cX3_changeWill 21 = .ok (.iastore, 1) := dk_of dkAa47 (i := 13) rfl
theorem dX3_changeWill_22 : decode cX3_changeWill 22 = .ok (.return_, 1) := dk_of dkAa47 (i := 14) rfl
def dkLa48 : List (Nat × Instr × Nat) := [(0, .aload_n 0, 1), (1, .invokespecial 1, 3), (4, .aload_n 0, 1), (5, .new 7, 3), (8, .dup, 1), (9, .invokespecial 9, 3), (12, .putfield 10, 3), (15, .return_, 1)]
set_option maxRecDepth 100000 in
theorem dkAa48 : ∀ q ∈ dkLa48, decode cX4_init q.1 = .ok q.2 := by decide +kernel
theorem dX4_init_0 : decode cX4_init 0 = .ok (.aload_n 0, 1) := dk_of dkAa48 (i := 0) rfl
theorem dX4_init_1 : decode cX4_init 1 = .ok (.invokespecial 1, 3) := dk_of dkAa48 (i := 1) rfl
theorem dX4_init_4 : decode cX4_init 4 = .ok (.aload_n 0, 1) := dk_of dkAa48 (i := 2) rfl
theorem dX4_init_5 : decode cX4_init 5 = .ok (.new 7, 3) := dk_of dkAa48 (i := 3) rfl
theorem dX4_init_8 : decode cX4_init 8 = .ok (.dup, 1) := dk_of dkAa48 (i := 4) rfl
theorem dX4_init_9 : decode cX4_init 9 = .ok (.invokespecial 9, 3) := dk_of dkAa48 (i := 5) rfl
theorem dX4_init_12 : decode cX4_init 12 = .ok (.putfield 10, 3) := dk_of dkAa48 (i := 6) rfl
theorem dX4_init_15 : decode cX4_init 15 = .ok (.return_, 1) := dk_of dkAa48 (i := 7) rfl
def dkLa49 : List (Nat × Instr × Nat) := [(0, .aload_n 0, 1), (1, .invokespecial 3, 3), (4, .aload_n 0, 1), (5, .bipush 7, 2), (7, .newarray .int, 2), (9, .putfield 9, 3), (12, .return_, 1)]
set_option maxRecDepth 100000 in
theorem dkAa49 : ∀ q ∈ dkLa49, decode cX5_init q.1 = .ok q.2 := by decide +kernel
theorem dX5_init_0 : decode cX5_init 0 = .ok (.aload_n 0, 1) := dk_of dkAa49 (i := 0) rfl
theorem dX5_init_1 : decode cX5_init 1 = .ok (.invokespecial 3, 3) := dk_of dkAa49 (i := 1) rfl
theorem dX5_init_4 : decode cX5_init 4 = .ok (.aload_n 0, 1) := dk_of dkAa49 (i := 2) rfl
theorem dX5_init_5 : decode cX5_init 5 = .ok (.bipush 7, 2) := dk_of dkAa49 (i := 3) rfl
theorem dX5_init_7 : decode cX5_init 7 = .ok (.newarray .int, 2) := dk_of dkAa49 (i := 4) rfl
theorem dX5_init_9 : decode cX5_init 9 = .ok (.putfield 9, 3) := dk_of dkAa49 (i := 5) rfl
theorem dX5_init_12 : decode cX5_init 12 = .ok (.return_, 1) := dk_of dkAa49 (i := 6) rfl
def dkLa50 : List (Nat × Instr × Nat) := [(0, .aload_n 0, 1), (1, .iconst 0, 1), (2, .putfield 15, 3), (5, .aload_n 0, 1), (6, .iconst 0, 1), (7, .putfield 19, 3), (10, .return_, 1)]
set_option maxRecDepth 100000 in
theorem dkAa50 : ∀ q ∈ dkLa50, decode cX5_empty q.1 = .ok q.2 := by decide +kernel
theorem dX5_empty_0 : decode cX5_empty 0 = .ok (.aload_n 0, 1) := dk_of dkAa50 (i := 0) rfl
theorem dX5_empty_1 : decode cX5_empty 1 = .ok (.iconst 0, 1) := dk_of dkAa50 (i := 1) rfl
theorem dX5_empty_2 : decode cX5_empty 2 = .ok (.putfield 15, 3) := dk_of dkAa50 (i := 2) rfl
theorem dX5_empty_5 : decode cX5_empty 5 = .ok (.aload_n 0, 1) := dk_of dkAa50 (i := 3) rfl
theorem dX5_empty_6 : decode cX5_empty 6 = .ok (.iconst 0, 1) := dk_of dkAa50 (i := 4) rfl
theorem dX5_empty_7 : decode cX5_empty 7 = .ok (.putfield 19, 3) := dk_of dkAa50 (i := 5) rfl
theorem dX5_empty_10 : decode cX5_empty 10 = .ok (.return_, 1) := dk_of dkAa50 (i := 6) rfl
def dkLa51 : List (Nat × Instr × Nat) := [(0, .aload_n 0, 1), (1, .getfield 15, 3), (4, .aload_n 0, 1), (5, .getfield 9, 3), (8, .arraylength, 1), (9, .if_icmp .ge 35, 3), (12, .aload_n 0, 1), (13, .getfield 9, 3), (16, .aload_n 0, 1), (17, .getfield 15, 3), (20, .iload_n 1, 1), (21, .iastore, 1), (22, .aload_n 0, 1), (23, .dup, 1), (24, .getfield 15, 3), (27, .iconst 1, 1), (28, .iadd, 1), (29, .putfield 15, 3), (32, .aload_n 0, 1), (33, .dup, 1), (34, .getfield 19, 3), (37, .iconst 1, 1), (38, .iload_n 1, 1), (39, .ishl, 1), (40, .ior, 1), (41, .putfield 19, 3), (44, .return_, 1)]
set_option maxRecDepth 100000 in
theorem dkAa51 : ∀ q ∈ dkLa51, decode cX5_add q.1 = .ok q.2 := by decide +kernel
theorem dX5_add_0 : decode cX5_add 0 = .ok (.aload_n 0, 1) := dk_of dkAa51 (i := 0) rfl
theorem dX5_add_1 : decode cX5_add 1 = .ok (.getfield 15, 3) := dk_of dkAa51 (i := 1) rfl
theorem dX5_add_4 : decode cX5_add 4 = .ok (.aload_n 0, 1) := dk_of dkAa51 (i := 2) rfl
theorem dX5_add_5 : decode cX5_add 5 = .ok (.getfield 9, 3) := dk_of dkAa51 (i := 3) rfl
theorem dX5_add_8 : decode cX5_add 8 = .ok (.arraylength, 1) := dk_of dkAa51 (i := 4) rfl
theorem dX5_add_9 : decode cX5_add 9 = .ok (.if_icmp .ge 35, 3) := dk_of dkAa51 (i := 5) rfl
theorem dX5_add_12 : decode cX5_add 12 = .ok (.aload_n 0, 1) := dk_of dkAa51 (i := 6) rfl
theorem dX5_add_13 : decode cX5_add 13 = .ok (.getfield 9, 3) := dk_of dkAa51 (i := 7) rfl
theorem dX5_add_16 : decode cX5_add 16 = .ok (.aload_n 0, 1) := dk_of dkAa51 (i := 8) rfl
theorem dX5_add_17 : decode cX5_add 17 = .ok (.getfield 15, 3) := dk_of dkAa51 (i := 9) rfl
theorem dX5_add_20 : decode cX5_add 20 = .ok (.iload_n 1, 1) := dk_of dkAa51 (i := 10) rfl
theorem dX5_add_21 : decode cX5_add 21 = .ok (.iastore, 1) := dk_of dkAa51 (i := 11) rfl
theorem dX5_add_22 : decode cX5_add 22 = .ok (.aload_n 0, 1) := dk_of dkAa51 (i := 12) rfl
theorem dX5_add_23 : decode cX5_add 23 = .ok (.dup, 1) := dk_of dkAa51 (i := 13) rfl
theorem dX5_add_24 : decode cX5_add 24 = .ok (.getfield 15, 3) := dk_of dkAa51 (i := 14) rfl
theorem dX5_add_27 : decode cX5_add 27 = .ok (.iconst 1, 1) := dk_of dkAa51 (i := 15) rfl
theorem dX5_add_28 : decode cX5_add 28 = .ok (.iadd, 1) := dk_of dkAa51 (i := 16) rfl
theorem dX5_add_29 : decode cX5_add 29 = .ok (.putfield 15, 3) := dk_of dkAa51 (i := 17) rfl
theorem dX5_add_32 : decode cX5_add 32 = .ok (.aload_n 0, 1) := dk_of dkAa51 (i := 18) rfl
theorem dX5_add_33 : decode cX5_add 33 = .ok (.dup, 1) := dk_of dkAa51 (i := 19) rfl
theorem dX5_add_34 : decode cX5_add 34 = .ok (.getfield 19, 3) := dk_of dkAa51 (i := 20) rfl
theorem dX5_add_37 : decode cX5_add 37 = .ok (.iconst 1, 1) := dk_of dkAa51 (i := 21) rfl
theorem dX5_add_38 : decode cX5_add 38 = .ok (.iload_n 1, 1) := dk_of dkAa51 (i := 22) rfl
theorem dX5_add_39 : decode cX5_add 39 = .ok (.ishl, 1) := dk_of dkAa51 (i := 23) rfl
theorem dX5_add_40 : decode cX5_add 40 = .ok (.ior, 1) := dk_of dkAa51 (i := 24) rfl
theorem dX5_add_41 : decode cX5_add 41 = .ok (.putfield 19, 3) := dk_of dkAa51 (i := 25) rfl
theorem dX5_add_44 : decode cX5_add 44 = .ok (.return_, 1) := dk_of dkAa51 (i := 26) rfl
def dkLa52 : List (Nat × Instr × Nat) := [(0, .aload_n 0, 1), (1, .invokevirtual 22, 3), (4, .iload_n 1, 1), (5, .ifCond .gt 5, 3), (8, .iconst 0, 1), (9, .ireturn, 1), (10, .iload_n 1, 1), (11, .istore_n 3, 1), (12, .ldc 25, 2), (14, .istore 4, 2), (16, .iload 4, 2), (18, .iconst 1, 1), (19, .if_icmp .lt 68, 3), (22, .iload_n 3, 1), (23, .iload 4, 2), (25, .idiv, 1), (26, .istore 5, 2), (28, .iload_n 3, 1), (29, .iload 4, 2), (31, .irem, 1), (32, .istore_n 3, 1), (33, .iload 5, 2), (35, .ifCond .gt 10, 3), (38, .aload_n 0, 1), (39, .getfield 15, 3), (42, .ifCond .le 35, 3), (45, .aload_n 2, 1), (46, .iload 5, 2), (48, .iconst 1, 1), (49, .isub, 1), (50, .invokevirtual 26, 3), (53, .ifCond .eq 14, 3)]
set_option maxRecDepth 100000 in
theorem dkAa52 : ∀ q ∈ dkLa52, decode cX5_readOrder q.1 = .ok q.2 := by decide +kernel
theorem dX5_readOrder_0 : decode cX5_readOrder 0 = .ok (.aload_n 0, 1) := dk_of dkAa52 (i := 0) rfl
theorem dX5_readOrder_1 : decode cX5_readOrder 1 = .ok (.invokevirtual 22, 3) := dk_of dkAa52 (i := 1) rfl
theorem dX5_readOrder_4 : decode cX5_readOrder 4 = .ok (.iload_n 1, 1) := dk_of dkAa52 (i := 2) rfl
theorem dX5_readOrder_5 : decode cX5_readOrder 5 = .ok (.ifCond .gt 5, 3) := dk_of dkAa52 (i := 3) rfl
theorem dX5_readOrder_8 : decode cX5_readOrder 8 = .ok (.iconst 0, 1) := dk_of dkAa52 (i := 4) rfl
theorem dX5_readOrder_9 : decode cX5_readOrder 9 = .ok (.ireturn, 1) := dk_of dkAa52 (i := 5) rfl
theorem dX5_readOrder_10 : decode cX5_readOrder 10 = .ok (.iload_n 1, 1) := dk_of dkAa52 (i := 6) rfl
theorem dX5_readOrder_11 : decode cX5_readOrder 11 = .ok (.istore_n 3, 1) := dk_of dkAa52 (i := 7) rfl
theorem dX5_readOrder_12 : decode cX5_readOrder 12 = .ok (.ldc 25, 2) := dk_of dkAa52 (i := 8) rfl
theorem dX5_readOrder_14 : decode cX5_readOrder 14 = .ok (.istore 4, 2) := dk_of dkAa52 (i := 9) rfl
theorem dX5_readOrder_16 : decode cX5_readOrder 16 = .ok (.iload 4, 2) := dk_of dkAa52 (i := 10) rfl
theorem dX5_readOrder_18 : decode cX5_readOrder 18 = .ok (.iconst 1, 1) := dk_of dkAa52 (i := 11) rfl
theorem dX5_readOrder_19 : decode cX5_readOrder 19 = .ok (.if_icmp .lt 68, 3) := dk_of dkAa52 (i := 12) rfl
theorem dX5_readOrder_22 : decode cX5_readOrder 22 = .ok (.iload_n 3, 1) := dk_of dkAa52 (i := 13) rfl
theorem dX5_readOrder_23 : decode cX5_readOrder 23 = .ok (.iload 4, 2) := dk_of dkAa52 (i := 14) rfl
theorem dX5_readOrder_25 : decode cX5_readOrder 25 = .ok (.idiv, 1) := dk_of dkAa52 (i := 15) rfl
theorem dX5_readOrder_26 : decode cX5_readOrder 26 = .ok (.istore 5, 2) := dk_of dkAa52 (i := 16) rfl
theorem dX5_readOrder_28 : decode cX5_readOrder 28 = .ok (.iload_n 3, 1) := dk_of dkAa52 (i := 17) rfl
theorem dX5_readOrder_29 : decode cX5_readOrder 29 = .ok (.iload 4, 2) := dk_of dkAa52 (i := 18) rfl
theorem dX5_readOrder_31 : decode cX5_readOrder 31 = .ok (.irem, 1) := dk_of dkAa52 (i := 19) rfl
theorem dX5_readOrder_32 : decode cX5_readOrder 32 = .ok (.istore_n 3, 1) := dk_of dkAa52 (i := 20) rfl
theorem dX5_readOrder_33 : decode cX5_readOrder 33 = .ok (.iload 5, 2) := dk_of dkAa52 (i := 21) rfl
theorem dX5_readOrder_35 : decode cX5_readOrder 35 = .ok (.ifCond .gt 10, 3) := dk_of dkAa52 (i := 22) rfl
theorem dX5_readOrder_38 : decode cX5_readOrder 38 = .ok (.aload_n 0, 1) := dk_of dkAa52 (i := 23) rfl
theorem dX5_readOrder_39 : decode cX5_readOrder 39 = .ok (.getfield 15, 3) := dk_of dkAa52 (i := 24) rfl
theorem dX5_readOrder_42 : decode cX5_readOrder 42 = .ok (.ifCond .le 35, 3) := dk_of dkAa52 (i := 25) rfl
theorem dX5_readOrder_45 : decode cX5_readOrder 45 = .ok (.aload_n 2, 1) := dk_of dkAa52 (i := 26) rfl
theorem dX5_readOrder_46 : decode cX5_readOrder 46 = .ok (.iload 5, 2) := dk_of dkAa52 (i := 27) rfl
theorem dX5_readOrder_48 : decode cX5_readOrder 48 = .ok (.iconst 1, 1) := dk_of dkAa52 (i := 28) rfl
theorem dX5_readOrder_49 : decode cX5_readOrder 49 = .ok (.isub, 1) := dk_of dkAa52 (i := 29) rfl
theorem dX5_readOrder_50 : decode cX5_readOrder 50 = .ok (.invokevirtual 26, 3) := dk_of dkAa52 (i := 30) rfl
theorem dX5_readOrder_53 : decode cX5_readOrder 53 = .ok (.ifCond .eq 14, 3) := dk_of dkAa52 (i := 31) rfl
def dkLa53 : List (Nat × Instr × Nat) := [(56, .aload_n 0, 1), (57, .iload 5, 2), (59, .iconst 1, 1), (60, .isub, 1), (61, .invokevirtual 32, 3), (64, .ifCond .eq 5, 3), (67, .iconst 0, 1), (68, .ireturn, 1), (69, .aload_n 0, 1), (70, .iload 5, 2), (72, .iconst 1, 1), (73, .isub, 1), (74, .invokevirtual 35, 3), (77, .iload 4, 2), (79, .bipush 10, 2), (81, .idiv, 1), (82, .istore 4, 2), (84, .goto (-68), 3), (87, .iconst 1, 1), (88, .ireturn, 1)]
set_option maxRecDepth 100000 in
theorem dkAa53 : ∀ q ∈ dkLa53, decode cX5_readOrder q.1 = .ok q.2 := by decide +kernel
theorem dX5_readOrder_56 : decode cX5_readOrder 56 = .ok (.aload_n 0, 1) := dk_of dkAa53 (i := 0) rfl
theorem dX5_readOrder_57 : decode cX5_readOrder 57 = .ok (.iload 5, 2) := dk_of dkAa53 (i := 1) rfl
theorem dX5_readOrder_59 : decode cX5_readOrder 59 = .ok (.iconst 1, 1) := dk_of dkAa53 (i := 2) rfl
theorem dX5_readOrder_60 : decode cX5_readOrder 60 = .ok (.isub, 1) := dk_of dkAa53 (i := 3) rfl
theorem dX5_readOrder_61 : decode cX5_readOrder 61 = .ok (.invokevirtual 32, 3) := dk_of dkAa53 (i := 4) rfl
theorem dX5_readOrder_64 : decode cX5_readOrder 64 = .ok (.ifCond .eq 5, 3) := dk_of dkAa53 (i := 5) rfl
theorem dX5_readOrder_67 : decode cX5_readOrder 67 = .ok (.iconst 0, 1) := dk_of dkAa53 (i := 6) rfl
theorem dX5_readOrder_68 : decode cX5_readOrder 68 = .ok (.ireturn, 1) := dk_of dkAa53 (i := 7) rfl
theorem dX5_readOrder_69 : decode cX5_readOrder 69 = .ok (.aload_n 0, 1) := dk_of dkAa53 (i := 8) rfl
theorem dX5_readOrder_70 : decode cX5_readOrder 70 = .ok (.iload 5, 2) := dk_of dkAa53 (i := 9) rfl
theorem dX5_readOrder_72 : decode cX5_readOrder 72 = .ok (.iconst 1, 1) := dk_of dkAa53 (i := 10) rfl
theorem dX5_readOrder_73 : decode cX5_readOrder 73 = .ok (.isub, 1) := dk_of dkAa53 (i := 11) rfl
theorem dX5_readOrder_74 : decode cX5_readOrder 74 = .ok (.invokevirtual 35, 3) := dk_of dkAa53 (i := 12) rfl
theorem dX5_readOrder_77 : decode cX5_readOrder 77 = .ok (.iload 4, 2) := dk_of dkAa53 (i := 13) rfl
theorem dX5_readOrder_79 : decode cX5_readOrder 79 = .ok (.bipush 10, 2) := dk_of dkAa53 (i := 14) rfl
theorem dX5_readOrder_81 : decode cX5_readOrder 81 = .ok (.idiv, 1) := dk_of dkAa53 (i := 15) rfl
theorem dX5_readOrder_82 : decode cX5_readOrder 82 = .ok (.istore 4, 2) := dk_of dkAa53 (i := 16) rfl
theorem dX5_readOrder_84 : decode cX5_readOrder 84 = .ok (.goto (-68), 3) := dk_of dkAa53 (i := 17) rfl
theorem dX5_readOrder_87 : decode cX5_readOrder 87 = .ok (.iconst 1, 1) := dk_of dkAa53 (i := 18) rfl
theorem dX5_readOrder_88 : decode cX5_readOrder 88 = .ok (.ireturn, 1) := dk_of dkAa53 (i := 19) rfl
def dkLa54 : List (Nat × Instr × Nat) := [(0, .aload_n 0, 1), (1, .invokevirtual 22, 3), (4, .iload_n 1, 1), (5, .istore_n 3, 1), (6, .iload_n 2, 1), (7, .istore 4, 2), (9, .iload_n 1, 1), (10, .invokestatic 39, 3), (13, .iconst 1, 1), (14, .isub, 1), (15, .istore 5, 2), (17, .iload 5, 2), (19, .ifCond .lt 63, 3), (22, .iload 5, 2), (24, .getstatic 45, 3), (27, .arraylength, 1), (28, .if_icmp .ge 54, 3), (31, .iconst 1, 1), (32, .getstatic 45, 3), (35, .iload 5, 2), (37, .iaload, 1), (38, .invokestatic 48, 3), (41, .istore 6, 2), (43, .iload_n 3, 1), (44, .iload 4, 2), (46, .iload 6, 2), (48, .idiv, 1), (49, .invokestatic 54, 3), (52, .istore 7, 2), (54, .iload 4, 2), (56, .iload 6, 2), (58, .irem, 1)]
set_option maxRecDepth 100000 in
theorem dkAa54 : ∀ q ∈ dkLa54, decode cX5_setOrder q.1 = .ok q.2 := by decide +kernel
theorem dX5_setOrder_0 : decode cX5_setOrder 0 = .ok (.aload_n 0, 1) := dk_of dkAa54 (i := 0) rfl
theorem dX5_setOrder_1 : decode cX5_setOrder 1 = .ok (.invokevirtual 22, 3) := dk_of dkAa54 (i := 1) rfl
theorem dX5_setOrder_4 : decode cX5_setOrder 4 = .ok (.iload_n 1, 1) := dk_of dkAa54 (i := 2) rfl
theorem dX5_setOrder_5 : decode cX5_setOrder 5 = .ok (.istore_n 3, 1) := dk_of dkAa54 (i := 3) rfl
theorem dX5_setOrder_6 : decode cX5_setOrder 6 = .ok (.iload_n 2, 1) := dk_of dkAa54 (i := 4) rfl
theorem dX5_setOrder_7 : decode cX5_setOrder 7 = .ok (.istore 4, 2) := dk_of dkAa54 (i := 5) rfl
theorem dX5_setOrder_9 : decode cX5_setOrder 9 = .ok (.iload_n 1, 1) := dk_of dkAa54 (i := 6) rfl
theorem dX5_setOrder_10 : decode cX5_setOrder 10 = .ok (.invokestatic 39, 3) := dk_of dkAa54 (i := 7) rfl
theorem dX5_setOrder_13 : decode cX5_setOrder 13 = .ok (.iconst 1, 1) := dk_of dkAa54 (i := 8) rfl
theorem dX5_setOrder_14 : decode cX5_setOrder 14 = .ok (.isub, 1) := dk_of dkAa54 (i := 9) rfl
theorem dX5_setOrder_15 : decode cX5_setOrder 15 = .ok (.istore 5, 2) := dk_of dkAa54 (i := 10) rfl
theorem dX5_setOrder_17 : decode cX5_setOrder 17 = .ok (.iload 5, 2) := dk_of dkAa54 (i := 11) rfl
theorem dX5_setOrder_19 : decode cX5_setOrder 19 = .ok (.ifCond .lt 63, 3) := dk_of dkAa54 (i := 12) rfl
theorem dX5_setOrder_22 : decode cX5_setOrder 22 = .ok (.iload 5, 2) := dk_of dkAa54 (i := 13) rfl
theorem dX5_setOrder_24 : decode cX5_setOrder 24 = .ok (.getstatic 45, 3) := dk_of dkAa54 (i := 14) rfl
theorem dX5_setOrder_27 : decode cX5_setOrder 27 = .ok (.arraylength, 1) := dk_of dkAa54 (i := 15) rfl
theorem dX5_setOrder_28 : decode cX5_setOrder 28 = .ok (.if_icmp .ge 54, 3) := dk_of dkAa54 (i := 16) rfl
theorem dX5_setOrder_31 : decode cX5_setOrder 31 = .ok (.iconst 1, 1) := dk_of dkAa54 (i := 17) rfl
theorem dX5_setOrder_32 : decode cX5_setOrder 32 = .ok (.getstatic 45, 3) := dk_of dkAa54 (i := 18) rfl
theorem dX5_setOrder_35 : decode cX5_setOrder 35 = .ok (.iload 5, 2) := dk_of dkAa54 (i := 19) rfl
theorem dX5_setOrder_37 : decode cX5_setOrder 37 = .ok (.iaload, 1) := dk_of dkAa54 (i := 20) rfl
theorem dX5_setOrder_38 : decode cX5_setOrder 38 = .ok (.invokestatic 48, 3) := dk_of dkAa54 (i := 21) rfl
theorem dX5_setOrder_41 : decode cX5_setOrder 41 = .ok (.istore 6, 2) := dk_of dkAa54 (i := 22) rfl
theorem dX5_setOrder_43 : decode cX5_setOrder 43 = .ok (.iload_n 3, 1) := dk_of dkAa54 (i := 23) rfl
theorem dX5_setOrder_44 : decode cX5_setOrder 44 = .ok (.iload 4, 2) := dk_of dkAa54 (i := 24) rfl
theorem dX5_setOrder_46 : decode cX5_setOrder 46 = .ok (.iload 6, 2) := dk_of dkAa54 (i := 25) rfl
theorem dX5_setOrder_48 : decode cX5_setOrder 48 = .ok (.idiv, 1) := dk_of dkAa54 (i := 26) rfl
theorem dX5_setOrder_49 : decode cX5_setOrder 49 = .ok (.invokestatic 54, 3) := dk_of dkAa54 (i := 27) rfl
theorem dX5_setOrder_52 : decode cX5_setOrder 52 = .ok (.istore 7, 2) := dk_of dkAa54 (i := 28) rfl
theorem dX5_setOrder_54 : decode cX5_setOrder 54 = .ok (.iload 4, 2) := dk_of dkAa54 (i := 29) rfl
theorem dX5_setOrder_56 : decode cX5_setOrder 56 = .ok (.iload 6, 2) := dk_of dkAa54 (i := 30) rfl
theorem dX5_setOrder_58 : decode cX5_setOrder 58 = .ok (.irem, 1) := dk_of dkAa54 (i := 31) rfl
def dkLa55 : List (Nat × Instr × Nat) := [(59, .istore 4, 2), (61, .iload_n 3, 1), (62, .iconst 1, 1), (63, .iload 7, 2), (65, .ishl, 1), (66, .iconst (-1), 1), (67, .ixor, 1), (68, .iand, 1), (69, .istore_n 3, 1), (70, .aload_n 0, 1), (71, .iload 7, 2), (73, .invokevirtual 35, 3), (76, .iinc 5 (-1), 3), (79, .goto (-62), 3), (82, .return_, 1)]
set_option maxRecDepth 100000 in
theorem dkAa55 : ∀ q ∈ dkLa55, decode cX5_setOrder q.1 = .ok q.2 := by decide +kernel
theorem dX5_setOrder_59 : decode cX5_setOrder 59 = .ok (.istore 4, 2) := dk_of dkAa55 (i := 0) rfl
theorem dX5_setOrder_61 : decode cX5_setOrder 61 = .ok (.iload_n 3, 1) := dk_of dkAa55 (i := 1) rfl
theorem dX5_setOrder_62 : decode cX5_setOrder 62 = .ok (.iconst 1, 1) := dk_of dkAa55 (i := 2) rfl
theorem dX5_setOrder_63 : decode cX5_setOrder 63 = .ok (.iload 7, 2) := dk_of dkAa55 (i := 3) rfl
theorem dX5_setOrder_65 : decode cX5_setOrder 65 = .ok (.ishl, 1) := dk_of dkAa55 (i := 4) rfl
theorem dX5_setOrder_66 : decode cX5_setOrder 66 = .ok (.iconst (-1), 1) := dk_of dkAa55 (i := 5) rfl
theorem dX5_setOrder_67 : decode cX5_setOrder 67 = .ok (.ixor, 1) := dk_of dkAa55 (i := 6) rfl
theorem dX5_setOrder_68 : decode cX5_setOrder 68 = .ok (.iand, 1) := dk_of dkAa55 (i := 7) rfl
theorem dX5_setOrder_69 : decode cX5_setOrder 69 = .ok (.istore_n 3, 1) := dk_of dkAa55 (i := 8) rfl
theorem dX5_setOrder_70 : decode cX5_setOrder 70 = .ok (.aload_n 0, 1) := dk_of dkAa55 (i := 9) rfl
theorem dX5_setOrder_71 : decode cX5_setOrder 71 = .ok (.iload 7, 2) := dk_of dkAa55 (i := 10) rfl
theorem dX5_setOrder_73 : decode cX5_setOrder 73 = .ok (.invokevirtual 35, 3) := dk_of dkAa55 (i := 11) rfl
theorem dX5_setOrder_76 : decode cX5_setOrder 76 = .ok (.iinc 5 (-1), 3) := dk_of dkAa55 (i := 12) rfl
theorem dX5_setOrder_79 : decode cX5_setOrder 79 = .ok (.goto (-62), 3) := dk_of dkAa55 (i := 13) rfl
theorem dX5_setOrder_82 : decode cX5_setOrder 82 = .ok (.return_, 1) := dk_of dkAa55 (i := 14) rfl
def dkLa56 : List (Nat × Instr × Nat) := [(0, .iconst 0, 1), (1, .istore_n 2, 1), (2, .iconst 0, 1), (3, .istore_n 3, 1), (4, .iload_n 3, 1), (5, .bipush 7, 2), (7, .if_icmp .ge 27, 3), (10, .iload_n 0, 1), (11, .iload_n 3, 1), (12, .invokestatic 57, 3), (15, .ifCond .eq 13, 3), (18, .iload_n 2, 1), (19, .iload_n 1, 1), (20, .if_icmp .ne 5, 3), (23, .iload_n 3, 1), (24, .ireturn, 1), (25, .iinc 2 1, 3), (28, .iinc 3 1, 3), (31, .goto (-27), 3), (34, .iconst 0, 1), (35, .ireturn, 1)]
set_option maxRecDepth 100000 in
theorem dkAa56 : ∀ q ∈ dkLa56, decode cX5_memberAt q.1 = .ok q.2 := by decide +kernel
theorem dX5_memberAt_0 : decode cX5_memberAt 0 = .ok (.iconst 0, 1) := dk_of dkAa56 (i := 0) rfl
theorem dX5_memberAt_1 : decode cX5_memberAt 1 = .ok (.istore_n 2, 1) := dk_of dkAa56 (i := 1) rfl
theorem dX5_memberAt_2 : decode cX5_memberAt 2 = .ok (.iconst 0, 1) := dk_of dkAa56 (i := 2) rfl
theorem dX5_memberAt_3 : decode cX5_memberAt 3 = .ok (.istore_n 3, 1) := dk_of dkAa56 (i := 3) rfl
theorem dX5_memberAt_4 : decode cX5_memberAt 4 = .ok (.iload_n 3, 1) := dk_of dkAa56 (i := 4) rfl
theorem dX5_memberAt_5 : decode cX5_memberAt 5 = .ok (.bipush 7, 2) := dk_of dkAa56 (i := 5) rfl
theorem dX5_memberAt_7 : decode cX5_memberAt 7 = .ok (.if_icmp .ge 27, 3) := dk_of dkAa56 (i := 6) rfl
theorem dX5_memberAt_10 : decode cX5_memberAt 10 = .ok (.iload_n 0, 1) := dk_of dkAa56 (i := 7) rfl
theorem dX5_memberAt_11 : decode cX5_memberAt 11 = .ok (.iload_n 3, 1) := dk_of dkAa56 (i := 8) rfl
theorem dX5_memberAt_12 : decode cX5_memberAt 12 = .ok (.invokestatic 57, 3) := dk_of dkAa56 (i := 9) rfl
theorem dX5_memberAt_15 : decode cX5_memberAt 15 = .ok (.ifCond .eq 13, 3) := dk_of dkAa56 (i := 10) rfl
theorem dX5_memberAt_18 : decode cX5_memberAt 18 = .ok (.iload_n 2, 1) := dk_of dkAa56 (i := 11) rfl
theorem dX5_memberAt_19 : decode cX5_memberAt 19 = .ok (.iload_n 1, 1) := dk_of dkAa56 (i := 12) rfl
theorem dX5_memberAt_20 : decode cX5_memberAt 20 = .ok (.if_icmp .ne 5, 3) := dk_of dkAa56 (i := 13) rfl
theorem dX5_memberAt_23 : decode cX5_memberAt 23 = .ok (.iload_n 3, 1) := dk_of dkAa56 (i := 14) rfl
theorem dX5_memberAt_24 : decode cX5_memberAt 24 = .ok (.ireturn, 1) := dk_of dkAa56 (i := 15) rfl
theorem dX5_memberAt_25 : decode cX5_memberAt 25 = .ok (.iinc 2 1, 3) := dk_of dkAa56 (i := 16) rfl
theorem dX5_memberAt_28 : decode cX5_memberAt 28 = .ok (.iinc 3 1, 3) := dk_of dkAa56 (i := 17) rfl
theorem dX5_memberAt_31 : decode cX5_memberAt 31 = .ok (.goto (-27), 3) := dk_of dkAa56 (i := 18) rfl
theorem dX5_memberAt_34 : decode cX5_memberAt 34 = .ok (.iconst 0, 1) := dk_of dkAa56 (i := 19) rfl
theorem dX5_memberAt_35 : decode cX5_memberAt 35 = .ok (.ireturn, 1) := dk_of dkAa56 (i := 20) rfl
def dkLa57 : List (Nat × Instr × Nat) := [(0, .aload_n 0, 1), (1, .getfield 19, 3), (4, .iload_n 1, 1), (5, .invokestatic 57, 3), (8, .ireturn, 1)]
set_option maxRecDepth 100000 in
theorem dkAa57 : ∀ q ∈ dkLa57, decode cX5_holds q.1 = .ok q.2 := by decide +kernel
theorem dX5_holds_0 : decode cX5_holds 0 = .ok (.aload_n 0, 1) := dk_of dkAa57 (i := 0) rfl
theorem dX5_holds_1 : decode cX5_holds 1 = .ok (.getfield 19, 3) := dk_of dkAa57 (i := 1) rfl
theorem dX5_holds_4 : decode cX5_holds 4 = .ok (.iload_n 1, 1) := dk_of dkAa57 (i := 2) rfl
theorem dX5_holds_5 : decode cX5_holds 5 = .ok (.invokestatic 57, 3) := dk_of dkAa57 (i := 3) rfl
theorem dX5_holds_8 : decode cX5_holds 8 = .ok (.ireturn, 1) := dk_of dkAa57 (i := 4) rfl
def dkLa58 : List (Nat × Instr × Nat) := [(0, .aload_n 0, 1), (1, .getfield 15, 3), (4, .ifCond .le 12, 3), (7, .aload_n 0, 1), (8, .getfield 9, 3), (11, .iconst 0, 1), (12, .iaload, 1), (13, .goto 4, 3), (16, .iconst (-1), 1), (17, .ireturn, 1)]
set_option maxRecDepth 100000 in
theorem dkAa58 : ∀ q ∈ dkLa58, decode cX5_firstOne q.1 = .ok q.2 := by decide +kernel
theorem dX5_firstOne_0 : decode cX5_firstOne 0 = .ok (.aload_n 0, 1) := dk_of dkAa58 (i := 0) rfl
theorem dX5_firstOne_1 : decode cX5_firstOne 1 = .ok (.getfield 15, 3) := dk_of dkAa58 (i := 1) rfl
theorem dX5_firstOne_4 : decode cX5_firstOne 4 = .ok (.ifCond .le 12, 3) := dk_of dkAa58 (i := 2) rfl
theorem dX5_firstOne_7 : decode cX5_firstOne 7 = .ok (.aload_n 0, 1) := dk_of dkAa58 (i := 3) rfl
theorem dX5_firstOne_8 : decode cX5_firstOne 8 = .ok (.getfield 9, 3) := dk_of dkAa58 (i := 4) rfl
theorem dX5_firstOne_11 : decode cX5_firstOne 11 = .ok (.iconst 0, 1) := dk_of dkAa58 (i := 5) rfl
theorem dX5_firstOne_12 : decode cX5_firstOne 12 = .ok (.iaload, 1) := dk_of dkAa58 (i := 6) rfl
theorem dX5_firstOne_13 : decode cX5_firstOne 13 = .ok (.goto 4, 3) := dk_of dkAa58 (i := 7) rfl
theorem dX5_firstOne_16 : decode cX5_firstOne 16 = .ok (.iconst (-1), 1) := dk_of dkAa58 (i := 8) rfl
theorem dX5_firstOne_17 : decode cX5_firstOne 17 = .ok (.ireturn, 1) := dk_of dkAa58 (i := 9) rfl
def dkLa59 : List (Nat × Instr × Nat) := [(0, .iconst 0, 1), (1, .istore_n 1, 1), (2, .iconst 0, 1), (3, .istore_n 2, 1), (4, .iload_n 2, 1), (5, .aload_n 0, 1), (6, .getfield 15, 3), (9, .if_icmp .ge 23, 3), (12, .bipush 10, 2), (14, .iload_n 1, 1), (15, .imul, 1), (16, .aload_n 0, 1), (17, .getfield 9, 3), (20, .iload_n 2, 1), (21, .iaload, 1), (22, .iadd, 1), (23, .iconst 1, 1), (24, .iadd, 1), (25, .istore_n 1, 1), (26, .iinc 2 1, 3), (29, .goto (-25), 3), (32, .iload_n 1, 1), (33, .ireturn, 1)]
set_option maxRecDepth 100000 in
theorem dkAa59 : ∀ q ∈ dkLa59, decode cX5_asNumber q.1 = .ok q.2 := by decide +kernel
theorem dX5_asNumber_0 : decode cX5_asNumber 0 = .ok (.iconst 0, 1) := dk_of dkAa59 (i := 0) rfl
theorem dX5_asNumber_1 : decode cX5_asNumber 1 = .ok (.istore_n 1, 1) := dk_of dkAa59 (i := 1) rfl
theorem dX5_asNumber_2 : decode cX5_asNumber 2 = .ok (.iconst 0, 1) := dk_of dkAa59 (i := 2) rfl
theorem dX5_asNumber_3 : decode cX5_asNumber 3 = .ok (.istore_n 2, 1) := dk_of dkAa59 (i := 3) rfl
theorem dX5_asNumber_4 : decode cX5_asNumber 4 = .ok (.iload_n 2, 1) := dk_of dkAa59 (i := 4) rfl
theorem dX5_asNumber_5 : decode cX5_asNumber 5 = .ok (.aload_n 0, 1) := dk_of dkAa59 (i := 5) rfl
theorem dX5_asNumber_6 : decode cX5_asNumber 6 = .ok (.getfield 15, 3) := dk_of dkAa59 (i := 6) rfl
theorem dX5_asNumber_9 : decode cX5_asNumber 9 = .ok (.if_icmp .ge 23, 3) := dk_of dkAa59 (i := 7) rfl
theorem dX5_asNumber_12 : decode cX5_asNumber 12 = .ok (.bipush 10, 2) := dk_of dkAa59 (i := 8) rfl
theorem dX5_asNumber_14 : decode cX5_asNumber 14 = .ok (.iload_n 1, 1) := dk_of dkAa59 (i := 9) rfl
theorem dX5_asNumber_15 : decode cX5_asNumber 15 = .ok (.imul, 1) := dk_of dkAa59 (i := 10) rfl
theorem dX5_asNumber_16 : decode cX5_asNumber 16 = .ok (.aload_n 0, 1) := dk_of dkAa59 (i := 11) rfl
theorem dX5_asNumber_17 : decode cX5_asNumber 17 = .ok (.getfield 9, 3) := dk_of dkAa59 (i := 12) rfl
theorem dX5_asNumber_20 : decode cX5_asNumber 20 = .ok (.iload_n 2, 1) := dk_of dkAa59 (i := 13) rfl
theorem dX5_asNumber_21 : decode cX5_asNumber 21 = .ok (.iaload, 1) := dk_of dkAa59 (i := 14) rfl
theorem dX5_asNumber_22 : decode cX5_asNumber 22 = .ok (.iadd, 1) := dk_of dkAa59 (i := 15) rfl
theorem dX5_asNumber_23 : decode cX5_asNumber 23 = .ok (.iconst 1, 1) := dk_of dkAa59 (i := 16) rfl
theorem dX5_asNumber_24 : decode cX5_asNumber 24 = .ok (.iadd, 1) := dk_of dkAa59 (i := 17) rfl
theorem dX5_asNumber_25 : decode cX5_asNumber 25 = .ok (.istore_n 1, 1) := dk_of dkAa59 (i := 18) rfl
theorem dX5_asNumber_26 : decode cX5_asNumber 26 = .ok (.iinc 2 1, 3) := dk_of dkAa59 (i := 19) rfl
theorem dX5_asNumber_29 : decode cX5_asNumber 29 = .ok (.goto (-25), 3) := dk_of dkAa59 (i := 20) rfl
theorem dX5_asNumber_32 : decode cX5_asNumber 32 = .ok (.iload_n 1, 1) := dk_of dkAa59 (i := 21) rfl
theorem dX5_asNumber_33 : decode cX5_asNumber 33 = .ok (.ireturn, 1) := dk_of dkAa59 (i := 22) rfl
def dkLa60 : List (Nat × Instr × Nat) := [(0, .iconst 0, 1), (1, .istore_n 2, 1), (2, .iload_n 2, 1), (3, .aload_n 0, 1), (4, .getfield 15, 3), (7, .if_icmp .ge 20, 3), (10, .aload_n 1, 1), (11, .aload_n 0, 1), (12, .getfield 9, 3), (15, .iload_n 2, 1), (16, .iaload, 1), (17, .invokevirtual 61, 3), (20, .pop, 1), (21, .iinc 2 1, 3), (24, .goto (-22), 3), (27, .return_, 1)]
set_option maxRecDepth 100000 in
theorem dkAa60 : ∀ q ∈ dkLa60, decode cX5_buryIn q.1 = .ok q.2 := by decide +kernel
theorem dX5_buryIn_0 : decode cX5_buryIn 0 = .ok (.iconst 0, 1) := dk_of dkAa60 (i := 0) rfl
theorem dX5_buryIn_1 : decode cX5_buryIn 1 = .ok (.istore_n 2, 1) := dk_of dkAa60 (i := 1) rfl
theorem dX5_buryIn_2 : decode cX5_buryIn 2 = .ok (.iload_n 2, 1) := dk_of dkAa60 (i := 2) rfl
theorem dX5_buryIn_3 : decode cX5_buryIn 3 = .ok (.aload_n 0, 1) := dk_of dkAa60 (i := 3) rfl
theorem dX5_buryIn_4 : decode cX5_buryIn 4 = .ok (.getfield 15, 3) := dk_of dkAa60 (i := 4) rfl
theorem dX5_buryIn_7 : decode cX5_buryIn 7 = .ok (.if_icmp .ge 20, 3) := dk_of dkAa60 (i := 5) rfl
theorem dX5_buryIn_10 : decode cX5_buryIn 10 = .ok (.aload_n 1, 1) := dk_of dkAa60 (i := 6) rfl
theorem dX5_buryIn_11 : decode cX5_buryIn 11 = .ok (.aload_n 0, 1) := dk_of dkAa60 (i := 7) rfl
theorem dX5_buryIn_12 : decode cX5_buryIn 12 = .ok (.getfield 9, 3) := dk_of dkAa60 (i := 8) rfl
theorem dX5_buryIn_15 : decode cX5_buryIn 15 = .ok (.iload_n 2, 1) := dk_of dkAa60 (i := 9) rfl
theorem dX5_buryIn_16 : decode cX5_buryIn 16 = .ok (.iaload, 1) := dk_of dkAa60 (i := 10) rfl
theorem dX5_buryIn_17 : decode cX5_buryIn 17 = .ok (.invokevirtual 61, 3) := dk_of dkAa60 (i := 11) rfl
theorem dX5_buryIn_20 : decode cX5_buryIn 20 = .ok (.pop, 1) := dk_of dkAa60 (i := 12) rfl
theorem dX5_buryIn_21 : decode cX5_buryIn 21 = .ok (.iinc 2 1, 3) := dk_of dkAa60 (i := 13) rfl
theorem dX5_buryIn_24 : decode cX5_buryIn 24 = .ok (.goto (-22), 3) := dk_of dkAa60 (i := 14) rfl
theorem dX5_buryIn_27 : decode cX5_buryIn 27 = .ok (.return_, 1) := dk_of dkAa60 (i := 15) rfl
def dkLa61 : List (Nat × Instr × Nat) := [(0, .aload_n 0, 1), (1, .invokespecial 3, 3), (4, .aload_n 0, 1), (5, .bipush 7, 2), (7, .newarray .int, 2), (9, .putfield 9, 3), (12, .aload_n 0, 1), (13, .bipush 7, 2), (15, .newarray .int, 2), (17, .putfield 15, 3), (20, .aload_n 0, 1), (21, .bipush 7, 2), (23, .newarray .int, 2), (25, .putfield 18, 3), (28, .aload_n 0, 1), (29, .bipush 6, 2), (31, .newarray .int, 2), (33, .putfield 21, 3), (36, .aload_n 0, 1), (37, .bipush 6, 2), (39, .newarray .int, 2), (41, .putfield 24, 3), (44, .return_, 1)]
set_option maxRecDepth 100000 in
theorem dkAa61 : ∀ q ∈ dkLa61, decode cX6_init q.1 = .ok q.2 := by decide +kernel
theorem dX6_init_0 : decode cX6_init 0 = .ok (.aload_n 0, 1) := dk_of dkAa61 (i := 0) rfl
theorem dX6_init_1 : decode cX6_init 1 = .ok (.invokespecial 3, 3) := dk_of dkAa61 (i := 1) rfl
theorem dX6_init_4 : decode cX6_init 4 = .ok (.aload_n 0, 1) := dk_of dkAa61 (i := 2) rfl
theorem dX6_init_5 : decode cX6_init 5 = .ok (.bipush 7, 2) := dk_of dkAa61 (i := 3) rfl
theorem dX6_init_7 : decode cX6_init 7 = .ok (.newarray .int, 2) := dk_of dkAa61 (i := 4) rfl
theorem dX6_init_9 : decode cX6_init 9 = .ok (.putfield 9, 3) := dk_of dkAa61 (i := 5) rfl
theorem dX6_init_12 : decode cX6_init 12 = .ok (.aload_n 0, 1) := dk_of dkAa61 (i := 6) rfl
theorem dX6_init_13 : decode cX6_init 13 = .ok (.bipush 7, 2) := dk_of dkAa61 (i := 7) rfl
theorem dX6_init_15 : decode cX6_init 15 = .ok (.newarray .int, 2) := dk_of dkAa61 (i := 8) rfl
theorem dX6_init_17 : decode cX6_init 17 = .ok (.putfield 15, 3) := dk_of dkAa61 (i := 9) rfl
theorem dX6_init_20 : decode cX6_init 20 = .ok (.aload_n 0, 1) := dk_of dkAa61 (i := 10) rfl
theorem dX6_init_21 : decode cX6_init 21 = .ok (.bipush 7, 2) := dk_of dkAa61 (i := 11) rfl
theorem dX6_init_23 : decode cX6_init 23 = .ok (.newarray .int, 2) := dk_of dkAa61 (i := 12) rfl
theorem dX6_init_25 : decode cX6_init 25 = .ok (.putfield 18, 3) := dk_of dkAa61 (i := 13) rfl
theorem dX6_init_28 : decode cX6_init 28 = .ok (.aload_n 0, 1) := dk_of dkAa61 (i := 14) rfl
theorem dX6_init_29 : decode cX6_init 29 = .ok (.bipush 6, 2) := dk_of dkAa61 (i := 15) rfl
theorem dX6_init_31 : decode cX6_init 31 = .ok (.newarray .int, 2) := dk_of dkAa61 (i := 16) rfl
theorem dX6_init_33 : decode cX6_init 33 = .ok (.putfield 21, 3) := dk_of dkAa61 (i := 17) rfl
theorem dX6_init_36 : decode cX6_init 36 = .ok (.aload_n 0, 1) := dk_of dkAa61 (i := 18) rfl
theorem dX6_init_37 : decode cX6_init 37 = .ok (.bipush 6, 2) := dk_of dkAa61 (i := 19) rfl
theorem dX6_init_39 : decode cX6_init 39 = .ok (.newarray .int, 2) := dk_of dkAa61 (i := 20) rfl
theorem dX6_init_41 : decode cX6_init 41 = .ok (.putfield 24, 3) := dk_of dkAa61 (i := 21) rfl
theorem dX6_init_44 : decode cX6_init 44 = .ok (.return_, 1) := dk_of dkAa61 (i := 22) rfl
def dkLa62 : List (Nat × Instr × Nat) := [(0, .aload_n 0, 1), (1, .iconst 0, 1), (2, .putfield 27, 3), (5, .aload_n 0, 1), (6, .iconst 0, 1), (7, .putfield 31, 3), (10, .aload_n 0, 1), (11, .iconst 0, 1), (12, .putfield 34, 3), (15, .aload_n 0, 1), (16, .iconst 0, 1), (17, .putfield 37, 3), (20, .return_, 1)]
set_option maxRecDepth 100000 in
theorem dkAa62 : ∀ q ∈ dkLa62, decode cX6_empty q.1 = .ok q.2 := by decide +kernel
theorem dX6_empty_0 : decode cX6_empty 0 = .ok (.aload_n 0, 1) := dk_of dkAa62 (i := 0) rfl
theorem dX6_empty_1 : decode cX6_empty 1 = .ok (.iconst 0, 1) := dk_of dkAa62 (i := 1) rfl
theorem dX6_empty_2 : decode cX6_empty 2 = .ok (.putfield 27, 3) := dk_of dkAa62 (i := 2) rfl
theorem dX6_empty_5 : decode cX6_empty 5 = .ok (.aload_n 0, 1) := dk_of dkAa62 (i := 3) rfl
theorem dX6_empty_6 : decode cX6_empty 6 = .ok (.iconst 0, 1) := dk_of dkAa62 (i := 4) rfl
theorem dX6_empty_7 : decode cX6_empty 7 = .ok (.putfield 31, 3) := dk_of dkAa62 (i := 5) rfl
theorem dX6_empty_10 : decode cX6_empty 10 = .ok (.aload_n 0, 1) := dk_of dkAa62 (i := 6) rfl
theorem dX6_empty_11 : decode cX6_empty 11 = .ok (.iconst 0, 1) := dk_of dkAa62 (i := 7) rfl
theorem dX6_empty_12 : decode cX6_empty 12 = .ok (.putfield 34, 3) := dk_of dkAa62 (i := 8) rfl
theorem dX6_empty_15 : decode cX6_empty 15 = .ok (.aload_n 0, 1) := dk_of dkAa62 (i := 9) rfl
theorem dX6_empty_16 : decode cX6_empty 16 = .ok (.iconst 0, 1) := dk_of dkAa62 (i := 10) rfl
theorem dX6_empty_17 : decode cX6_empty 17 = .ok (.putfield 37, 3) := dk_of dkAa62 (i := 11) rfl
theorem dX6_empty_20 : decode cX6_empty 20 = .ok (.return_, 1) := dk_of dkAa62 (i := 12) rfl
def dkLa63 : List (Nat × Instr × Nat) := [(0, .aload_n 0, 1), (1, .getfield 27, 3), (4, .aload_n 0, 1), (5, .getfield 9, 3), (8, .arraylength, 1), (9, .if_icmp .ge 45, 3), (12, .aload_n 0, 1), (13, .getfield 9, 3), (16, .aload_n 0, 1), (17, .getfield 27, 3), (20, .iload_n 1, 1), (21, .iastore, 1), (22, .aload_n 0, 1), (23, .getfield 15, 3), (26, .aload_n 0, 1), (27, .getfield 27, 3), (30, .bipush 9, 2), (32, .iastore, 1), (33, .aload_n 0, 1), (34, .getfield 18, 3), (37, .aload_n 0, 1), (38, .getfield 27, 3), (41, .bipush 9, 2), (43, .iastore, 1), (44, .aload_n 0, 1), (45, .dup, 1), (46, .getfield 27, 3), (49, .iconst 1, 1), (50, .iadd, 1), (51, .putfield 27, 3), (54, .return_, 1)]
set_option maxRecDepth 100000 in
theorem dkAa63 : ∀ q ∈ dkLa63, decode cX6_addPerson q.1 = .ok q.2 := by decide +kernel
theorem dX6_addPerson_0 : decode cX6_addPerson 0 = .ok (.aload_n 0, 1) := dk_of dkAa63 (i := 0) rfl
theorem dX6_addPerson_1 : decode cX6_addPerson 1 = .ok (.getfield 27, 3) := dk_of dkAa63 (i := 1) rfl
theorem dX6_addPerson_4 : decode cX6_addPerson 4 = .ok (.aload_n 0, 1) := dk_of dkAa63 (i := 2) rfl
theorem dX6_addPerson_5 : decode cX6_addPerson 5 = .ok (.getfield 9, 3) := dk_of dkAa63 (i := 3) rfl
theorem dX6_addPerson_8 : decode cX6_addPerson 8 = .ok (.arraylength, 1) := dk_of dkAa63 (i := 4) rfl
theorem dX6_addPerson_9 : decode cX6_addPerson 9 = .ok (.if_icmp .ge 45, 3) := dk_of dkAa63 (i := 5) rfl
theorem dX6_addPerson_12 : decode cX6_addPerson 12 = .ok (.aload_n 0, 1) := dk_of dkAa63 (i := 6) rfl
theorem dX6_addPerson_13 : decode cX6_addPerson 13 = .ok (.getfield 9, 3) := dk_of dkAa63 (i := 7) rfl
theorem dX6_addPerson_16 : decode cX6_addPerson 16 = .ok (.aload_n 0, 1) := dk_of dkAa63 (i := 8) rfl
theorem dX6_addPerson_17 : decode cX6_addPerson 17 = .ok (.getfield 27, 3) := dk_of dkAa63 (i := 9) rfl
theorem dX6_addPerson_20 : decode cX6_addPerson 20 = .ok (.iload_n 1, 1) := dk_of dkAa63 (i := 10) rfl
theorem dX6_addPerson_21 : decode cX6_addPerson 21 = .ok (.iastore, 1) := dk_of dkAa63 (i := 11) rfl
theorem dX6_addPerson_22 : decode cX6_addPerson 22 = .ok (.aload_n 0, 1) := dk_of dkAa63 (i := 12) rfl
theorem dX6_addPerson_23 : decode cX6_addPerson 23 = .ok (.getfield 15, 3) := dk_of dkAa63 (i := 13) rfl
theorem dX6_addPerson_26 : decode cX6_addPerson 26 = .ok (.aload_n 0, 1) := dk_of dkAa63 (i := 14) rfl
theorem dX6_addPerson_27 : decode cX6_addPerson 27 = .ok (.getfield 27, 3) := dk_of dkAa63 (i := 15) rfl
theorem dX6_addPerson_30 : decode cX6_addPerson 30 = .ok (.bipush 9, 2) := dk_of dkAa63 (i := 16) rfl
theorem dX6_addPerson_32 : decode cX6_addPerson 32 = .ok (.iastore, 1) := dk_of dkAa63 (i := 17) rfl
theorem dX6_addPerson_33 : decode cX6_addPerson 33 = .ok (.aload_n 0, 1) := dk_of dkAa63 (i := 18) rfl
theorem dX6_addPerson_34 : decode cX6_addPerson 34 = .ok (.getfield 18, 3) := dk_of dkAa63 (i := 19) rfl
theorem dX6_addPerson_37 : decode cX6_addPerson 37 = .ok (.aload_n 0, 1) := dk_of dkAa63 (i := 20) rfl
theorem dX6_addPerson_38 : decode cX6_addPerson 38 = .ok (.getfield 27, 3) := dk_of dkAa63 (i := 21) rfl
theorem dX6_addPerson_41 : decode cX6_addPerson 41 = .ok (.bipush 9, 2) := dk_of dkAa63 (i := 22) rfl
theorem dX6_addPerson_43 : decode cX6_addPerson 43 = .ok (.iastore, 1) := dk_of dkAa63 (i := 23) rfl
theorem dX6_addPerson_44 : decode cX6_addPerson 44 = .ok (.aload_n 0, 1) := dk_of dkAa63 (i := 24) rfl
theorem dX6_addPerson_45 : decode cX6_addPerson 45 = .ok (.dup, 1) := dk_of dkAa63 (i := 25) rfl
theorem dX6_addPerson_46 : decode cX6_addPerson 46 = .ok (.getfield 27, 3) := dk_of dkAa63 (i := 26) rfl
theorem dX6_addPerson_49 : decode cX6_addPerson 49 = .ok (.iconst 1, 1) := dk_of dkAa63 (i := 27) rfl
theorem dX6_addPerson_50 : decode cX6_addPerson 50 = .ok (.iadd, 1) := dk_of dkAa63 (i := 28) rfl
theorem dX6_addPerson_51 : decode cX6_addPerson 51 = .ok (.putfield 27, 3) := dk_of dkAa63 (i := 29) rfl
theorem dX6_addPerson_54 : decode cX6_addPerson 54 = .ok (.return_, 1) := dk_of dkAa63 (i := 30) rfl
def dkLa64 : List (Nat × Instr × Nat) := [(0, .aload_n 0, 1), (1, .iload_n 1, 1), (2, .invokevirtual 40, 3), (5, .ifCond .eq 29, 3), (8, .aload_n 0, 1), (9, .getfield 15, 3), (12, .iload_n 1, 1), (13, .iload_n 2, 1), (14, .iastore, 1), (15, .aload_n 0, 1), (16, .getfield 18, 3), (19, .iload_n 1, 1), (20, .iload_n 3, 1), (21, .iastore, 1), (22, .aload_n 0, 1), (23, .dup, 1), (24, .getfield 37, 3), (27, .iconst 1, 1), (28, .iload_n 1, 1), (29, .ishl, 1), (30, .ior, 1), (31, .putfield 37, 3), (34, .return_, 1)]
set_option maxRecDepth 100000 in
theorem dkAa64 : ∀ q ∈ dkLa64, decode cX6_addWill q.1 = .ok q.2 := by decide +kernel
theorem dX6_addWill_0 : decode cX6_addWill 0 = .ok (.aload_n 0, 1) := dk_of dkAa64 (i := 0) rfl
theorem dX6_addWill_1 : decode cX6_addWill 1 = .ok (.iload_n 1, 1) := dk_of dkAa64 (i := 1) rfl
theorem dX6_addWill_2 : decode cX6_addWill 2 = .ok (.invokevirtual 40, 3) := dk_of dkAa64 (i := 2) rfl
theorem dX6_addWill_5 : decode cX6_addWill 5 = .ok (.ifCond .eq 29, 3) := dk_of dkAa64 (i := 3) rfl
theorem dX6_addWill_8 : decode cX6_addWill 8 = .ok (.aload_n 0, 1) := dk_of dkAa64 (i := 4) rfl
theorem dX6_addWill_9 : decode cX6_addWill 9 = .ok (.getfield 15, 3) := dk_of dkAa64 (i := 5) rfl
theorem dX6_addWill_12 : decode cX6_addWill 12 = .ok (.iload_n 1, 1) := dk_of dkAa64 (i := 6) rfl
theorem dX6_addWill_13 : decode cX6_addWill 13 = .ok (.iload_n 2, 1) := dk_of dkAa64 (i := 7) rfl
theorem dX6_addWill_14 : decode cX6_addWill 14 = .ok (.iastore, 1) := dk_of dkAa64 (i := 8) rfl
theorem dX6_addWill_15 : decode cX6_addWill 15 = .ok (.aload_n 0, 1) := dk_of dkAa64 (i := 9) rfl
theorem dX6_addWill_16 : decode cX6_addWill 16 = .ok (.getfield 18, 3) := dk_of dkAa64 (i := 10) rfl
theorem dX6_addWill_19 : decode cX6_addWill 19 = .ok (.iload_n 1, 1) := dk_of dkAa64 (i := 11) rfl
theorem dX6_addWill_20 : decode cX6_addWill 20 = .ok (.iload_n 3, 1) := dk_of dkAa64 (i := 12) rfl
theorem dX6_addWill_21 : decode cX6_addWill 21 = .ok (.iastore, 1) := dk_of dkAa64 (i := 13) rfl
theorem dX6_addWill_22 : decode cX6_addWill 22 = .ok (.aload_n 0, 1) := dk_of dkAa64 (i := 14) rfl
theorem dX6_addWill_23 : decode cX6_addWill 23 = .ok (.dup, 1) := dk_of dkAa64 (i := 15) rfl
theorem dX6_addWill_24 : decode cX6_addWill 24 = .ok (.getfield 37, 3) := dk_of dkAa64 (i := 16) rfl
theorem dX6_addWill_27 : decode cX6_addWill 27 = .ok (.iconst 1, 1) := dk_of dkAa64 (i := 17) rfl
theorem dX6_addWill_28 : decode cX6_addWill 28 = .ok (.iload_n 1, 1) := dk_of dkAa64 (i := 18) rfl
theorem dX6_addWill_29 : decode cX6_addWill 29 = .ok (.ishl, 1) := dk_of dkAa64 (i := 19) rfl
theorem dX6_addWill_30 : decode cX6_addWill 30 = .ok (.ior, 1) := dk_of dkAa64 (i := 20) rfl
theorem dX6_addWill_31 : decode cX6_addWill 31 = .ok (.putfield 37, 3) := dk_of dkAa64 (i := 21) rfl
theorem dX6_addWill_34 : decode cX6_addWill 34 = .ok (.return_, 1) := dk_of dkAa64 (i := 22) rfl
def dkLa65 : List (Nat × Instr × Nat) := [(0, .aload_n 0, 1), (1, .getfield 31, 3), (4, .aload_n 0, 1), (5, .getfield 21, 3), (8, .arraylength, 1), (9, .if_icmp .ge 23, 3), (12, .aload_n 0, 1), (13, .getfield 21, 3), (16, .aload_n 0, 1), (17, .getfield 31, 3), (20, .iload_n 1, 1), (21, .iastore, 1), (22, .aload_n 0, 1), (23, .dup, 1), (24, .getfield 31, 3), (27, .iconst 1, 1), (28, .iadd, 1), (29, .putfield 31, 3), (32, .return_, 1)]
set_option maxRecDepth 100000 in
theorem dkAa65 : ∀ q ∈ dkLa65, decode cX6_addDoor q.1 = .ok q.2 := by decide +kernel
theorem dX6_addDoor_0 : decode cX6_addDoor 0 = .ok (.aload_n 0, 1) := dk_of dkAa65 (i := 0) rfl
theorem dX6_addDoor_1 : decode cX6_addDoor 1 = .ok (.getfield 31, 3) := dk_of dkAa65 (i := 1) rfl
theorem dX6_addDoor_4 : decode cX6_addDoor 4 = .ok (.aload_n 0, 1) := dk_of dkAa65 (i := 2) rfl
theorem dX6_addDoor_5 : decode cX6_addDoor 5 = .ok (.getfield 21, 3) := dk_of dkAa65 (i := 3) rfl
theorem dX6_addDoor_8 : decode cX6_addDoor 8 = .ok (.arraylength, 1) := dk_of dkAa65 (i := 4) rfl
theorem dX6_addDoor_9 : decode cX6_addDoor 9 = .ok (.if_icmp .ge 23, 3) := dk_of dkAa65 (i := 5) rfl
theorem dX6_addDoor_12 : decode cX6_addDoor 12 = .ok (.aload_n 0, 1) := dk_of dkAa65 (i := 6) rfl
theorem dX6_addDoor_13 : decode cX6_addDoor 13 = .ok (.getfield 21, 3) := dk_of dkAa65 (i := 7) rfl
theorem dX6_addDoor_16 : decode cX6_addDoor 16 = .ok (.aload_n 0, 1) := dk_of dkAa65 (i := 8) rfl
theorem dX6_addDoor_17 : decode cX6_addDoor 17 = .ok (.getfield 31, 3) := dk_of dkAa65 (i := 9) rfl
theorem dX6_addDoor_20 : decode cX6_addDoor 20 = .ok (.iload_n 1, 1) := dk_of dkAa65 (i := 10) rfl
theorem dX6_addDoor_21 : decode cX6_addDoor 21 = .ok (.iastore, 1) := dk_of dkAa65 (i := 11) rfl
theorem dX6_addDoor_22 : decode cX6_addDoor 22 = .ok (.aload_n 0, 1) := dk_of dkAa65 (i := 12) rfl
theorem dX6_addDoor_23 : decode cX6_addDoor 23 = .ok (.dup, 1) := dk_of dkAa65 (i := 13) rfl
theorem dX6_addDoor_24 : decode cX6_addDoor 24 = .ok (.getfield 31, 3) := dk_of dkAa65 (i := 14) rfl
theorem dX6_addDoor_27 : decode cX6_addDoor 27 = .ok (.iconst 1, 1) := dk_of dkAa65 (i := 15) rfl
theorem dX6_addDoor_28 : decode cX6_addDoor 28 = .ok (.iadd, 1) := dk_of dkAa65 (i := 16) rfl
theorem dX6_addDoor_29 : decode cX6_addDoor 29 = .ok (.putfield 31, 3) := dk_of dkAa65 (i := 17) rfl
theorem dX6_addDoor_32 : decode cX6_addDoor 32 = .ok (.return_, 1) := dk_of dkAa65 (i := 18) rfl
def dkLa66 : List (Nat × Instr × Nat) := [(0, .aload_n 0, 1), (1, .getfield 34, 3), (4, .aload_n 0, 1), (5, .getfield 24, 3), (8, .arraylength, 1), (9, .if_icmp .ge 23, 3), (12, .aload_n 0, 1), (13, .getfield 24, 3), (16, .aload_n 0, 1), (17, .getfield 34, 3), (20, .iload_n 1, 1), (21, .iastore, 1), (22, .aload_n 0, 1), (23, .dup, 1), (24, .getfield 34, 3), (27, .iconst 1, 1), (28, .iadd, 1), (29, .putfield 34, 3), (32, .return_, 1)]
set_option maxRecDepth 100000 in
theorem dkAa66 : ∀ q ∈ dkLa66, decode cX6_addPart q.1 = .ok q.2 := by decide +kernel
theorem dX6_addPart_0 : decode cX6_addPart 0 = .ok (.aload_n 0, 1) := dk_of dkAa66 (i := 0) rfl
theorem dX6_addPart_1 : decode cX6_addPart 1 = .ok (.getfield 34, 3) := dk_of dkAa66 (i := 1) rfl
theorem dX6_addPart_4 : decode cX6_addPart 4 = .ok (.aload_n 0, 1) := dk_of dkAa66 (i := 2) rfl
theorem dX6_addPart_5 : decode cX6_addPart 5 = .ok (.getfield 24, 3) := dk_of dkAa66 (i := 3) rfl
theorem dX6_addPart_8 : decode cX6_addPart 8 = .ok (.arraylength, 1) := dk_of dkAa66 (i := 4) rfl
theorem dX6_addPart_9 : decode cX6_addPart 9 = .ok (.if_icmp .ge 23, 3) := dk_of dkAa66 (i := 5) rfl
theorem dX6_addPart_12 : decode cX6_addPart 12 = .ok (.aload_n 0, 1) := dk_of dkAa66 (i := 6) rfl
theorem dX6_addPart_13 : decode cX6_addPart 13 = .ok (.getfield 24, 3) := dk_of dkAa66 (i := 7) rfl
theorem dX6_addPart_16 : decode cX6_addPart 16 = .ok (.aload_n 0, 1) := dk_of dkAa66 (i := 8) rfl
theorem dX6_addPart_17 : decode cX6_addPart 17 = .ok (.getfield 34, 3) := dk_of dkAa66 (i := 9) rfl
theorem dX6_addPart_20 : decode cX6_addPart 20 = .ok (.iload_n 1, 1) := dk_of dkAa66 (i := 10) rfl
theorem dX6_addPart_21 : decode cX6_addPart 21 = .ok (.iastore, 1) := dk_of dkAa66 (i := 11) rfl
theorem dX6_addPart_22 : decode cX6_addPart 22 = .ok (.aload_n 0, 1) := dk_of dkAa66 (i := 12) rfl
theorem dX6_addPart_23 : decode cX6_addPart 23 = .ok (.dup, 1) := dk_of dkAa66 (i := 13) rfl
theorem dX6_addPart_24 : decode cX6_addPart 24 = .ok (.getfield 34, 3) := dk_of dkAa66 (i := 14) rfl
theorem dX6_addPart_27 : decode cX6_addPart 27 = .ok (.iconst 1, 1) := dk_of dkAa66 (i := 15) rfl
theorem dX6_addPart_28 : decode cX6_addPart 28 = .ok (.iadd, 1) := dk_of dkAa66 (i := 16) rfl
theorem dX6_addPart_29 : decode cX6_addPart 29 = .ok (.putfield 34, 3) := dk_of dkAa66 (i := 17) rfl
theorem dX6_addPart_32 : decode cX6_addPart 32 = .ok (.return_, 1) := dk_of dkAa66 (i := 18) rfl
def dkLa67 : List (Nat × Instr × Nat) := [(0, .iload_n 1, 1), (1, .ifCond .lt 15, 3), (4, .iload_n 1, 1), (5, .aload_n 0, 1), (6, .getfield 27, 3), (9, .if_icmp .ge 7, 3), (12, .iconst 1, 1), (13, .goto 4, 3), (16, .iconst 0, 1), (17, .ireturn, 1)]
set_option maxRecDepth 100000 in
theorem dkAa67 : ∀ q ∈ dkLa67, decode cX6_hasPerson q.1 = .ok q.2 := by decide +kernel
theorem dX6_hasPerson_0 : decode cX6_hasPerson 0 = .ok (.iload_n 1, 1) := dk_of dkAa67 (i := 0) rfl
theorem dX6_hasPerson_1 : decode cX6_hasPerson 1 = .ok (.ifCond .lt 15, 3) := dk_of dkAa67 (i := 1) rfl
theorem dX6_hasPerson_4 : decode cX6_hasPerson 4 = .ok (.iload_n 1, 1) := dk_of dkAa67 (i := 2) rfl
theorem dX6_hasPerson_5 : decode cX6_hasPerson 5 = .ok (.aload_n 0, 1) := dk_of dkAa67 (i := 3) rfl
theorem dX6_hasPerson_6 : decode cX6_hasPerson 6 = .ok (.getfield 27, 3) := dk_of dkAa67 (i := 4) rfl
theorem dX6_hasPerson_9 : decode cX6_hasPerson 9 = .ok (.if_icmp .ge 7, 3) := dk_of dkAa67 (i := 5) rfl
theorem dX6_hasPerson_12 : decode cX6_hasPerson 12 = .ok (.iconst 1, 1) := dk_of dkAa67 (i := 6) rfl
theorem dX6_hasPerson_13 : decode cX6_hasPerson 13 = .ok (.goto 4, 3) := dk_of dkAa67 (i := 7) rfl
theorem dX6_hasPerson_16 : decode cX6_hasPerson 16 = .ok (.iconst 0, 1) := dk_of dkAa67 (i := 8) rfl
theorem dX6_hasPerson_17 : decode cX6_hasPerson 17 = .ok (.ireturn, 1) := dk_of dkAa67 (i := 9) rfl
def dkLa68 : List (Nat × Instr × Nat) := [(0, .iload_n 1, 1), (1, .ifCond .lt 17, 3), (4, .iload_n 1, 1), (5, .iconst 1, 1), (6, .aload_n 0, 1), (7, .getfield 27, 3), (10, .ishl, 1), (11, .if_icmp .ge 7, 3), (14, .iconst 1, 1), (15, .goto 4, 3), (18, .iconst 0, 1), (19, .ireturn, 1)]
set_option maxRecDepth 100000 in
theorem dkAa68 : ∀ q ∈ dkLa68, decode cX6_hasPersons q.1 = .ok q.2 := by decide +kernel
theorem dX6_hasPersons_0 : decode cX6_hasPersons 0 = .ok (.iload_n 1, 1) := dk_of dkAa68 (i := 0) rfl
theorem dX6_hasPersons_1 : decode cX6_hasPersons 1 = .ok (.ifCond .lt 17, 3) := dk_of dkAa68 (i := 1) rfl
theorem dX6_hasPersons_4 : decode cX6_hasPersons 4 = .ok (.iload_n 1, 1) := dk_of dkAa68 (i := 2) rfl
theorem dX6_hasPersons_5 : decode cX6_hasPersons 5 = .ok (.iconst 1, 1) := dk_of dkAa68 (i := 3) rfl
theorem dX6_hasPersons_6 : decode cX6_hasPersons 6 = .ok (.aload_n 0, 1) := dk_of dkAa68 (i := 4) rfl
theorem dX6_hasPersons_7 : decode cX6_hasPersons 7 = .ok (.getfield 27, 3) := dk_of dkAa68 (i := 5) rfl
theorem dX6_hasPersons_10 : decode cX6_hasPersons 10 = .ok (.ishl, 1) := dk_of dkAa68 (i := 6) rfl
theorem dX6_hasPersons_11 : decode cX6_hasPersons 11 = .ok (.if_icmp .ge 7, 3) := dk_of dkAa68 (i := 7) rfl
theorem dX6_hasPersons_14 : decode cX6_hasPersons 14 = .ok (.iconst 1, 1) := dk_of dkAa68 (i := 8) rfl
theorem dX6_hasPersons_15 : decode cX6_hasPersons 15 = .ok (.goto 4, 3) := dk_of dkAa68 (i := 9) rfl
theorem dX6_hasPersons_18 : decode cX6_hasPersons 18 = .ok (.iconst 0, 1) := dk_of dkAa68 (i := 10) rfl
theorem dX6_hasPersons_19 : decode cX6_hasPersons 19 = .ok (.ireturn, 1) := dk_of dkAa68 (i := 11) rfl
def dkLa69 : List (Nat × Instr × Nat) := [(0, .aload_n 0, 1), (1, .iload_n 1, 1), (2, .invokevirtual 44, 3), (5, .bipush 9, 2), (7, .if_icmp .eq 7, 3), (10, .iconst 1, 1), (11, .goto 4, 3), (14, .iconst 0, 1), (15, .ireturn, 1)]
set_option maxRecDepth 100000 in
theorem dkAa69 : ∀ q ∈ dkLa69, decode cX6_hasVoice q.1 = .ok q.2 := by decide +kernel
theorem dX6_hasVoice_0 : decode cX6_hasVoice 0 = .ok (.aload_n 0, 1) := dk_of dkAa69 (i := 0) rfl
theorem dX6_hasVoice_1 : decode cX6_hasVoice 1 = .ok (.iload_n 1, 1) := dk_of dkAa69 (i := 1) rfl
theorem dX6_hasVoice_2 : decode cX6_hasVoice 2 = .ok (.invokevirtual 44, 3) := dk_of dkAa69 (i := 2) rfl
theorem dX6_hasVoice_5 : decode cX6_hasVoice 5 = .ok (.bipush 9, 2) := dk_of dkAa69 (i := 3) rfl
theorem dX6_hasVoice_7 : decode cX6_hasVoice 7 = .ok (.if_icmp .eq 7, 3) := dk_of dkAa69 (i := 4) rfl
theorem dX6_hasVoice_10 : decode cX6_hasVoice 10 = .ok (.iconst 1, 1) := dk_of dkAa69 (i := 5) rfl
theorem dX6_hasVoice_11 : decode cX6_hasVoice 11 = .ok (.goto 4, 3) := dk_of dkAa69 (i := 6) rfl
theorem dX6_hasVoice_14 : decode cX6_hasVoice 14 = .ok (.iconst 0, 1) := dk_of dkAa69 (i := 7) rfl
theorem dX6_hasVoice_15 : decode cX6_hasVoice 15 = .ok (.ireturn, 1) := dk_of dkAa69 (i := 8) rfl
def dkLa70 : List (Nat × Instr × Nat) := [(0, .iload_n 1, 1), (1, .ifCond .lt 15, 3), (4, .iload_n 1, 1), (5, .aload_n 0, 1), (6, .getfield 31, 3), (9, .if_icmp .ge 7, 3), (12, .iconst 1, 1), (13, .goto 4, 3), (16, .iconst 0, 1), (17, .ireturn, 1)]
set_option maxRecDepth 100000 in
theorem dkAa70 : ∀ q ∈ dkLa70, decode cX6_hasDoor q.1 = .ok q.2 := by decide +kernel
theorem dX6_hasDoor_0 : decode cX6_hasDoor 0 = .ok (.iload_n 1, 1) := dk_of dkAa70 (i := 0) rfl
theorem dX6_hasDoor_1 : decode cX6_hasDoor 1 = .ok (.ifCond .lt 15, 3) := dk_of dkAa70 (i := 1) rfl
theorem dX6_hasDoor_4 : decode cX6_hasDoor 4 = .ok (.iload_n 1, 1) := dk_of dkAa70 (i := 2) rfl
theorem dX6_hasDoor_5 : decode cX6_hasDoor 5 = .ok (.aload_n 0, 1) := dk_of dkAa70 (i := 3) rfl
theorem dX6_hasDoor_6 : decode cX6_hasDoor 6 = .ok (.getfield 31, 3) := dk_of dkAa70 (i := 4) rfl
theorem dX6_hasDoor_9 : decode cX6_hasDoor 9 = .ok (.if_icmp .ge 7, 3) := dk_of dkAa70 (i := 5) rfl
theorem dX6_hasDoor_12 : decode cX6_hasDoor 12 = .ok (.iconst 1, 1) := dk_of dkAa70 (i := 6) rfl
theorem dX6_hasDoor_13 : decode cX6_hasDoor 13 = .ok (.goto 4, 3) := dk_of dkAa70 (i := 7) rfl
theorem dX6_hasDoor_16 : decode cX6_hasDoor 16 = .ok (.iconst 0, 1) := dk_of dkAa70 (i := 8) rfl
theorem dX6_hasDoor_17 : decode cX6_hasDoor 17 = .ok (.ireturn, 1) := dk_of dkAa70 (i := 9) rfl
def dkLa71 : List (Nat × Instr × Nat) := [(0, .iload_n 1, 1), (1, .ifCond .lt 15, 3), (4, .iload_n 1, 1), (5, .aload_n 0, 1), (6, .getfield 34, 3), (9, .if_icmp .ge 7, 3), (12, .iconst 1, 1), (13, .goto 4, 3), (16, .iconst 0, 1), (17, .ireturn, 1)]
set_option maxRecDepth 100000 in
theorem dkAa71 : ∀ q ∈ dkLa71, decode cX6_hasPart q.1 = .ok q.2 := by decide +kernel
theorem dX6_hasPart_0 : decode cX6_hasPart 0 = .ok (.iload_n 1, 1) := dk_of dkAa71 (i := 0) rfl
theorem dX6_hasPart_1 : decode cX6_hasPart 1 = .ok (.ifCond .lt 15, 3) := dk_of dkAa71 (i := 1) rfl
theorem dX6_hasPart_4 : decode cX6_hasPart 4 = .ok (.iload_n 1, 1) := dk_of dkAa71 (i := 2) rfl
theorem dX6_hasPart_5 : decode cX6_hasPart 5 = .ok (.aload_n 0, 1) := dk_of dkAa71 (i := 3) rfl
theorem dX6_hasPart_6 : decode cX6_hasPart 6 = .ok (.getfield 34, 3) := dk_of dkAa71 (i := 4) rfl
theorem dX6_hasPart_9 : decode cX6_hasPart 9 = .ok (.if_icmp .ge 7, 3) := dk_of dkAa71 (i := 5) rfl
theorem dX6_hasPart_12 : decode cX6_hasPart 12 = .ok (.iconst 1, 1) := dk_of dkAa71 (i := 6) rfl
theorem dX6_hasPart_13 : decode cX6_hasPart 13 = .ok (.goto 4, 3) := dk_of dkAa71 (i := 7) rfl
theorem dX6_hasPart_16 : decode cX6_hasPart 16 = .ok (.iconst 0, 1) := dk_of dkAa71 (i := 8) rfl
theorem dX6_hasPart_17 : decode cX6_hasPart 17 = .ok (.ireturn, 1) := dk_of dkAa71 (i := 9) rfl
def dkLa72 : List (Nat × Instr × Nat) := [(0, .aload_n 0, 1), (1, .getfield 37, 3), (4, .iload_n 1, 1), (5, .invokestatic 48, 3), (8, .ireturn, 1)]
set_option maxRecDepth 100000 in
theorem dkAa72 : ∀ q ∈ dkLa72, decode cX6_hasWill q.1 = .ok q.2 := by decide +kernel
theorem dX6_hasWill_0 : decode cX6_hasWill 0 = .ok (.aload_n 0, 1) := dk_of dkAa72 (i := 0) rfl
theorem dX6_hasWill_1 : decode cX6_hasWill 1 = .ok (.getfield 37, 3) := dk_of dkAa72 (i := 1) rfl
theorem dX6_hasWill_4 : decode cX6_hasWill 4 = .ok (.iload_n 1, 1) := dk_of dkAa72 (i := 2) rfl
theorem dX6_hasWill_5 : decode cX6_hasWill 5 = .ok (.invokestatic 48, 3) := dk_of dkAa72 (i := 3) rfl
theorem dX6_hasWill_8 : decode cX6_hasWill 8 = .ok (.ireturn, 1) := dk_of dkAa72 (i := 4) rfl
def dkLa73 : List (Nat × Instr × Nat) := [(0, .aload_n 0, 1), (1, .iload_n 1, 1), (2, .invokevirtual 40, 3), (5, .ifCond .eq 12, 3), (8, .aload_n 0, 1), (9, .getfield 9, 3), (12, .iload_n 1, 1), (13, .iaload, 1), (14, .goto 5, 3), (17, .bipush 9, 2), (19, .ireturn, 1)]
set_option maxRecDepth 100000 in
theorem dkAa73 : ∀ q ∈ dkLa73, decode cX6_rangeOf q.1 = .ok q.2 := by decide +kernel
theorem dX6_rangeOf_0 : decode cX6_rangeOf 0 = .ok (.aload_n 0, 1) := dk_of dkAa73 (i := 0) rfl
theorem dX6_rangeOf_1 : decode cX6_rangeOf 1 = .ok (.iload_n 1, 1) := dk_of dkAa73 (i := 1) rfl
theorem dX6_rangeOf_2 : decode cX6_rangeOf 2 = .ok (.invokevirtual 40, 3) := dk_of dkAa73 (i := 2) rfl
theorem dX6_rangeOf_5 : decode cX6_rangeOf 5 = .ok (.ifCond .eq 12, 3) := dk_of dkAa73 (i := 3) rfl
theorem dX6_rangeOf_8 : decode cX6_rangeOf 8 = .ok (.aload_n 0, 1) := dk_of dkAa73 (i := 4) rfl
theorem dX6_rangeOf_9 : decode cX6_rangeOf 9 = .ok (.getfield 9, 3) := dk_of dkAa73 (i := 5) rfl
theorem dX6_rangeOf_12 : decode cX6_rangeOf 12 = .ok (.iload_n 1, 1) := dk_of dkAa73 (i := 6) rfl
theorem dX6_rangeOf_13 : decode cX6_rangeOf 13 = .ok (.iaload, 1) := dk_of dkAa73 (i := 7) rfl
theorem dX6_rangeOf_14 : decode cX6_rangeOf 14 = .ok (.goto 5, 3) := dk_of dkAa73 (i := 8) rfl
theorem dX6_rangeOf_17 : decode cX6_rangeOf 17 = .ok (.bipush 9, 2) := dk_of dkAa73 (i := 9) rfl
theorem dX6_rangeOf_19 : decode cX6_rangeOf 19 = .ok (.ireturn, 1) := dk_of dkAa73 (i := 10) rfl
def dkLa74 : List (Nat × Instr × Nat) := [(0, .aload_n 0, 1), (1, .iload_n 1, 1), (2, .invokevirtual 40, 3), (5, .ifCond .eq 12, 3), (8, .aload_n 0, 1), (9, .getfield 15, 3), (12, .iload_n 1, 1), (13, .iaload, 1), (14, .goto 5, 3), (17, .bipush 9, 2), (19, .ireturn, 1)]
set_option maxRecDepth 100000 in
theorem dkAa74 : ∀ q ∈ dkLa74, decode cX6_firstToldHeir q.1 = .ok q.2 := by decide +kernel
theorem dX6_firstToldHeir_0 : decode cX6_firstToldHeir 0 = .ok (.aload_n 0, 1) := dk_of dkAa74 (i := 0) rfl
theorem dX6_firstToldHeir_1 : decode cX6_firstToldHeir 1 = .ok (.iload_n 1, 1) := dk_of dkAa74 (i := 1) rfl
theorem dX6_firstToldHeir_2 : decode cX6_firstToldHeir 2 = .ok (.invokevirtual 40, 3) := dk_of dkAa74 (i := 2) rfl
theorem dX6_firstToldHeir_5 : decode cX6_firstToldHeir 5 = .ok (.ifCond .eq 12, 3) := dk_of dkAa74 (i := 3) rfl
theorem dX6_firstToldHeir_8 : decode cX6_firstToldHeir 8 = .ok (.aload_n 0, 1) := dk_of dkAa74 (i := 4) rfl
theorem dX6_firstToldHeir_9 : decode cX6_firstToldHeir 9 = .ok (.getfield 15, 3) := dk_of dkAa74 (i := 5) rfl
theorem dX6_firstToldHeir_12 : decode cX6_firstToldHeir 12 = .ok (.iload_n 1, 1) := dk_of dkAa74 (i := 6) rfl
theorem dX6_firstToldHeir_13 : decode cX6_firstToldHeir 13 = .ok (.iaload, 1) := dk_of dkAa74 (i := 7) rfl
theorem dX6_firstToldHeir_14 : decode cX6_firstToldHeir 14 = .ok (.goto 5, 3) := dk_of dkAa74 (i := 8) rfl
theorem dX6_firstToldHeir_17 : decode cX6_firstToldHeir 17 = .ok (.bipush 9, 2) := dk_of dkAa74 (i := 9) rfl
theorem dX6_firstToldHeir_19 : decode cX6_firstToldHeir 19 = .ok (.ireturn, 1) := dk_of dkAa74 (i := 10) rfl
def dkLa75 : List (Nat × Instr × Nat) := [(0, .aload_n 0, 1), (1, .iload_n 1, 1), (2, .invokevirtual 40, 3), (5, .ifCond .eq 12, 3), (8, .aload_n 0, 1), (9, .getfield 18, 3), (12, .iload_n 1, 1), (13, .iaload, 1), (14, .goto 5, 3), (17, .bipush 9, 2), (19, .ireturn, 1)]
set_option maxRecDepth 100000 in
theorem dkAa75 : ∀ q ∈ dkLa75, decode cX6_secondToldHeir q.1 = .ok q.2 := by decide +kernel
theorem dX6_secondToldHeir_0 : decode cX6_secondToldHeir 0 = .ok (.aload_n 0, 1) := dk_of dkAa75 (i := 0) rfl
theorem dX6_secondToldHeir_1 : decode cX6_secondToldHeir 1 = .ok (.iload_n 1, 1) := dk_of dkAa75 (i := 1) rfl
theorem dX6_secondToldHeir_2 : decode cX6_secondToldHeir 2 = .ok (.invokevirtual 40, 3) := dk_of dkAa75 (i := 2) rfl
theorem dX6_secondToldHeir_5 : decode cX6_secondToldHeir 5 = .ok (.ifCond .eq 12, 3) := dk_of dkAa75 (i := 3) rfl
theorem dX6_secondToldHeir_8 : decode cX6_secondToldHeir 8 = .ok (.aload_n 0, 1) := dk_of dkAa75 (i := 4) rfl
theorem dX6_secondToldHeir_9 : decode cX6_secondToldHeir 9 = .ok (.getfield 18, 3) := dk_of dkAa75 (i := 5) rfl
theorem dX6_secondToldHeir_12 : decode cX6_secondToldHeir 12 = .ok (.iload_n 1, 1) := dk_of dkAa75 (i := 6) rfl
theorem dX6_secondToldHeir_13 : decode cX6_secondToldHeir 13 = .ok (.iaload, 1) := dk_of dkAa75 (i := 7) rfl
theorem dX6_secondToldHeir_14 : decode cX6_secondToldHeir 14 = .ok (.goto 5, 3) := dk_of dkAa75 (i := 8) rfl
theorem dX6_secondToldHeir_17 : decode cX6_secondToldHeir 17 = .ok (.bipush 9, 2) := dk_of dkAa75 (i := 9) rfl
theorem dX6_secondToldHeir_19 : decode cX6_secondToldHeir 19 = .ok (.ireturn, 1) := dk_of dkAa75 (i := 10) rfl
def dkLa76 : List (Nat × Instr × Nat) := [(0, .aload_n 0, 1), (1, .iload_n 1, 1), (2, .invokevirtual 52, 3), (5, .ifCond .eq 12, 3), (8, .aload_n 0, 1), (9, .getfield 21, 3), (12, .iload_n 1, 1), (13, .iaload, 1), (14, .goto 4, 3), (17, .iconst 0, 1), (18, .ireturn, 1)]
set_option maxRecDepth 100000 in
theorem dkAa76 : ∀ q ∈ dkLa76, decode cX6_knownBy q.1 = .ok q.2 := by decide +kernel
theorem dX6_knownBy_0 : decode cX6_knownBy 0 = .ok (.aload_n 0, 1) := dk_of dkAa76 (i := 0) rfl
theorem dX6_knownBy_1 : decode cX6_knownBy 1 = .ok (.iload_n 1, 1) := dk_of dkAa76 (i := 1) rfl
theorem dX6_knownBy_2 : decode cX6_knownBy 2 = .ok (.invokevirtual 52, 3) := dk_of dkAa76 (i := 2) rfl
theorem dX6_knownBy_5 : decode cX6_knownBy 5 = .ok (.ifCond .eq 12, 3) := dk_of dkAa76 (i := 3) rfl
theorem dX6_knownBy_8 : decode cX6_knownBy 8 = .ok (.aload_n 0, 1) := dk_of dkAa76 (i := 4) rfl
theorem dX6_knownBy_9 : decode cX6_knownBy 9 = .ok (.getfield 21, 3) := dk_of dkAa76 (i := 5) rfl
theorem dX6_knownBy_12 : decode cX6_knownBy 12 = .ok (.iload_n 1, 1) := dk_of dkAa76 (i := 6) rfl
theorem dX6_knownBy_13 : decode cX6_knownBy 13 = .ok (.iaload, 1) := dk_of dkAa76 (i := 7) rfl
theorem dX6_knownBy_14 : decode cX6_knownBy 14 = .ok (.goto 4, 3) := dk_of dkAa76 (i := 8) rfl
theorem dX6_knownBy_17 : decode cX6_knownBy 17 = .ok (.iconst 0, 1) := dk_of dkAa76 (i := 9) rfl
theorem dX6_knownBy_18 : decode cX6_knownBy 18 = .ok (.ireturn, 1) := dk_of dkAa76 (i := 10) rfl
def dkLa77 : List (Nat × Instr × Nat) := [(0, .iconst 0, 1), (1, .istore_n 1, 1), (2, .iconst 0, 1), (3, .istore_n 2, 1), (4, .iload_n 2, 1), (5, .aload_n 0, 1), (6, .getfield 27, 3), (9, .if_icmp .ge 23, 3), (12, .aload_n 0, 1), (13, .iload_n 2, 1), (14, .invokevirtual 55, 3), (17, .ifCond .eq 9, 3), (20, .iload_n 1, 1), (21, .iconst 1, 1), (22, .iload_n 2, 1), (23, .ishl, 1), (24, .ior, 1), (25, .istore_n 1, 1), (26, .iinc 2 1, 3), (29, .goto (-25), 3), (32, .iload_n 1, 1), (33, .ireturn, 1)]
set_option maxRecDepth 100000 in
theorem dkAa77 : ∀ q ∈ dkLa77, decode cX6_voices q.1 = .ok q.2 := by decide +kernel
theorem dX6_voices_0 : decode cX6_voices 0 = .ok (.iconst 0, 1) := dk_of dkAa77 (i := 0) rfl
theorem dX6_voices_1 : decode cX6_voices 1 = .ok (.istore_n 1, 1) := dk_of dkAa77 (i := 1) rfl
theorem dX6_voices_2 : decode cX6_voices 2 = .ok (.iconst 0, 1) := dk_of dkAa77 (i := 2) rfl
theorem dX6_voices_3 : decode cX6_voices 3 = .ok (.istore_n 2, 1) := dk_of dkAa77 (i := 3) rfl
theorem dX6_voices_4 : decode cX6_voices 4 = .ok (.iload_n 2, 1) := dk_of dkAa77 (i := 4) rfl
theorem dX6_voices_5 : decode cX6_voices 5 = .ok (.aload_n 0, 1) := dk_of dkAa77 (i := 5) rfl
theorem dX6_voices_6 : decode cX6_voices 6 = .ok (.getfield 27, 3) := dk_of dkAa77 (i := 6) rfl
theorem dX6_voices_9 : decode cX6_voices 9 = .ok (.if_icmp .ge 23, 3) := dk_of dkAa77 (i := 7) rfl
theorem dX6_voices_12 : decode cX6_voices 12 = .ok (.aload_n 0, 1) := dk_of dkAa77 (i := 8) rfl
theorem dX6_voices_13 : decode cX6_voices 13 = .ok (.iload_n 2, 1) := dk_of dkAa77 (i := 9) rfl
theorem dX6_voices_14 : decode cX6_voices 14 = .ok (.invokevirtual 55, 3) := dk_of dkAa77 (i := 10) rfl
theorem dX6_voices_17 : decode cX6_voices 17 = .ok (.ifCond .eq 9, 3) := dk_of dkAa77 (i := 11) rfl
theorem dX6_voices_20 : decode cX6_voices 20 = .ok (.iload_n 1, 1) := dk_of dkAa77 (i := 12) rfl
theorem dX6_voices_21 : decode cX6_voices 21 = .ok (.iconst 1, 1) := dk_of dkAa77 (i := 13) rfl
theorem dX6_voices_22 : decode cX6_voices 22 = .ok (.iload_n 2, 1) := dk_of dkAa77 (i := 14) rfl
theorem dX6_voices_23 : decode cX6_voices 23 = .ok (.ishl, 1) := dk_of dkAa77 (i := 15) rfl
theorem dX6_voices_24 : decode cX6_voices 24 = .ok (.ior, 1) := dk_of dkAa77 (i := 16) rfl
theorem dX6_voices_25 : decode cX6_voices 25 = .ok (.istore_n 1, 1) := dk_of dkAa77 (i := 17) rfl
theorem dX6_voices_26 : decode cX6_voices 26 = .ok (.iinc 2 1, 3) := dk_of dkAa77 (i := 18) rfl
theorem dX6_voices_29 : decode cX6_voices 29 = .ok (.goto (-25), 3) := dk_of dkAa77 (i := 19) rfl
theorem dX6_voices_32 : decode cX6_voices 32 = .ok (.iload_n 1, 1) := dk_of dkAa77 (i := 20) rfl
theorem dX6_voices_33 : decode cX6_voices 33 = .ok (.ireturn, 1) := dk_of dkAa77 (i := 21) rfl
def dkLa78 : List (Nat × Instr × Nat) := [(0, .iconst 0, 1), (1, .istore_n 2, 1), (2, .iconst 0, 1), (3, .istore_n 3, 1), (4, .iload_n 3, 1), (5, .aload_n 0, 1), (6, .getfield 31, 3), (9, .if_icmp .ge 28, 3), (12, .aload_n 0, 1), (13, .getfield 21, 3), (16, .iload_n 3, 1), (17, .iaload, 1), (18, .iload_n 1, 1), (19, .invokestatic 48, 3), (22, .ifCond .eq 9, 3), (25, .iload_n 2, 1), (26, .iconst 1, 1), (27, .iload_n 3, 1), (28, .ishl, 1), (29, .ior, 1), (30, .istore_n 2, 1), (31, .iinc 3 1, 3), (34, .goto (-30), 3), (37, .iload_n 2, 1), (38, .ireturn, 1)]
set_option maxRecDepth 100000 in
theorem dkAa78 : ∀ q ∈ dkLa78, decode cX6_openTo q.1 = .ok q.2 := by decide +kernel
theorem dX6_openTo_0 : decode cX6_openTo 0 = .ok (.iconst 0, 1) := dk_of dkAa78 (i := 0) rfl
theorem dX6_openTo_1 : decode cX6_openTo 1 = .ok (.istore_n 2, 1) := dk_of dkAa78 (i := 1) rfl
theorem dX6_openTo_2 : decode cX6_openTo 2 = .ok (.iconst 0, 1) := dk_of dkAa78 (i := 2) rfl
theorem dX6_openTo_3 : decode cX6_openTo 3 = .ok (.istore_n 3, 1) := dk_of dkAa78 (i := 3) rfl
theorem dX6_openTo_4 : decode cX6_openTo 4 = .ok (.iload_n 3, 1) := dk_of dkAa78 (i := 4) rfl
theorem dX6_openTo_5 : decode cX6_openTo 5 = .ok (.aload_n 0, 1) := dk_of dkAa78 (i := 5) rfl
theorem dX6_openTo_6 : decode cX6_openTo 6 = .ok (.getfield 31, 3) := dk_of dkAa78 (i := 6) rfl
theorem dX6_openTo_9 : decode cX6_openTo 9 = .ok (.if_icmp .ge 28, 3) := dk_of dkAa78 (i := 7) rfl
theorem dX6_openTo_12 : decode cX6_openTo 12 = .ok (.aload_n 0, 1) := dk_of dkAa78 (i := 8) rfl
theorem dX6_openTo_13 : decode cX6_openTo 13 = .ok (.getfield 21, 3) := dk_of dkAa78 (i := 9) rfl
theorem dX6_openTo_16 : decode cX6_openTo 16 = .ok (.iload_n 3, 1) := dk_of dkAa78 (i := 10) rfl
theorem dX6_openTo_17 : decode cX6_openTo 17 = .ok (.iaload, 1) := dk_of dkAa78 (i := 11) rfl
theorem dX6_openTo_18 : decode cX6_openTo 18 = .ok (.iload_n 1, 1) := dk_of dkAa78 (i := 12) rfl
theorem dX6_openTo_19 : decode cX6_openTo 19 = .ok (.invokestatic 48, 3) := dk_of dkAa78 (i := 13) rfl
theorem dX6_openTo_22 : decode cX6_openTo 22 = .ok (.ifCond .eq 9, 3) := dk_of dkAa78 (i := 14) rfl
theorem dX6_openTo_25 : decode cX6_openTo 25 = .ok (.iload_n 2, 1) := dk_of dkAa78 (i := 15) rfl
theorem dX6_openTo_26 : decode cX6_openTo 26 = .ok (.iconst 1, 1) := dk_of dkAa78 (i := 16) rfl
theorem dX6_openTo_27 : decode cX6_openTo 27 = .ok (.iload_n 3, 1) := dk_of dkAa78 (i := 17) rfl
theorem dX6_openTo_28 : decode cX6_openTo 28 = .ok (.ishl, 1) := dk_of dkAa78 (i := 18) rfl
theorem dX6_openTo_29 : decode cX6_openTo 29 = .ok (.ior, 1) := dk_of dkAa78 (i := 19) rfl
theorem dX6_openTo_30 : decode cX6_openTo 30 = .ok (.istore_n 2, 1) := dk_of dkAa78 (i := 20) rfl
theorem dX6_openTo_31 : decode cX6_openTo 31 = .ok (.iinc 3 1, 3) := dk_of dkAa78 (i := 21) rfl
theorem dX6_openTo_34 : decode cX6_openTo 34 = .ok (.goto (-30), 3) := dk_of dkAa78 (i := 22) rfl
theorem dX6_openTo_37 : decode cX6_openTo 37 = .ok (.iload_n 2, 1) := dk_of dkAa78 (i := 23) rfl
theorem dX6_openTo_38 : decode cX6_openTo 38 = .ok (.ireturn, 1) := dk_of dkAa78 (i := 24) rfl
def dkLa79 : List (Nat × Instr × Nat) := [(0, .aload_n 0, 1), (1, .iload_n 1, 1), (2, .invokevirtual 58, 3), (5, .ifCond .eq 34, 3), (8, .aload_n 0, 1), (9, .iload_n 2, 1), (10, .invokevirtual 55, 3), (13, .ifCond .eq 26, 3), (16, .aload_n 0, 1), (17, .iload_n 2, 1), (18, .invokevirtual 44, 3), (21, .aload_n 0, 1), (22, .getfield 24, 3), (25, .iload_n 1, 1), (26, .iaload, 1), (27, .isub, 1), (28, .invokestatic 61, 3), (31, .iconst 1, 1), (32, .if_icmp .gt 7, 3), (35, .iconst 1, 1), (36, .goto 4, 3), (39, .iconst 0, 1), (40, .ireturn, 1)]
set_option maxRecDepth 100000 in
theorem dkAa79 : ∀ q ∈ dkLa79, decode cX6_suits q.1 = .ok q.2 := by decide +kernel
theorem dX6_suits_0 : decode cX6_suits 0 = .ok (.aload_n 0, 1) := dk_of dkAa79 (i := 0) rfl
theorem dX6_suits_1 : decode cX6_suits 1 = .ok (.iload_n 1, 1) := dk_of dkAa79 (i := 1) rfl
theorem dX6_suits_2 : decode cX6_suits 2 = .ok (.invokevirtual 58, 3) := dk_of dkAa79 (i := 2) rfl
theorem dX6_suits_5 : decode cX6_suits 5 = .ok (.ifCond .eq 34, 3) := dk_of dkAa79 (i := 3) rfl
theorem dX6_suits_8 : decode cX6_suits 8 = .ok (.aload_n 0, 1) := dk_of dkAa79 (i := 4) rfl
theorem dX6_suits_9 : decode cX6_suits 9 = .ok (.iload_n 2, 1) := dk_of dkAa79 (i := 5) rfl
theorem dX6_suits_10 : decode cX6_suits 10 = .ok (.invokevirtual 55, 3) := dk_of dkAa79 (i := 6) rfl
theorem dX6_suits_13 : decode cX6_suits 13 = .ok (.ifCond .eq 26, 3) := dk_of dkAa79 (i := 7) rfl
theorem dX6_suits_16 : decode cX6_suits 16 = .ok (.aload_n 0, 1) := dk_of dkAa79 (i := 8) rfl
theorem dX6_suits_17 : decode cX6_suits 17 = .ok (.iload_n 2, 1) := dk_of dkAa79 (i := 9) rfl
theorem dX6_suits_18 : decode cX6_suits 18 = .ok (.invokevirtual 44, 3) := dk_of dkAa79 (i := 10) rfl
theorem dX6_suits_21 : decode cX6_suits 21 = .ok (.aload_n 0, 1) := dk_of dkAa79 (i := 11) rfl
theorem dX6_suits_22 : decode cX6_suits 22 = .ok (.getfield 24, 3) := dk_of dkAa79 (i := 12) rfl
theorem dX6_suits_25 : decode cX6_suits 25 = .ok (.iload_n 1, 1) := dk_of dkAa79 (i := 13) rfl
theorem dX6_suits_26 : decode cX6_suits 26 = .ok (.iaload, 1) := dk_of dkAa79 (i := 14) rfl
theorem dX6_suits_27 : decode cX6_suits 27 = .ok (.isub, 1) := dk_of dkAa79 (i := 15) rfl
theorem dX6_suits_28 : decode cX6_suits 28 = .ok (.invokestatic 61, 3) := dk_of dkAa79 (i := 16) rfl
theorem dX6_suits_31 : decode cX6_suits 31 = .ok (.iconst 1, 1) := dk_of dkAa79 (i := 17) rfl
theorem dX6_suits_32 : decode cX6_suits 32 = .ok (.if_icmp .gt 7, 3) := dk_of dkAa79 (i := 18) rfl
theorem dX6_suits_35 : decode cX6_suits 35 = .ok (.iconst 1, 1) := dk_of dkAa79 (i := 19) rfl
theorem dX6_suits_36 : decode cX6_suits 36 = .ok (.goto 4, 3) := dk_of dkAa79 (i := 20) rfl
theorem dX6_suits_39 : decode cX6_suits 39 = .ok (.iconst 0, 1) := dk_of dkAa79 (i := 21) rfl
theorem dX6_suits_40 : decode cX6_suits 40 = .ok (.ireturn, 1) := dk_of dkAa79 (i := 22) rfl
def dkLa80 : List (Nat × Instr × Nat) := [(0, .aload_n 0, 1), (1, .invokespecial 3, 3), (4, .aload_n 0, 1), (5, .bipush 20, 2), (7, .anewarray 9, 3), (10, .putfield 11, 3), (13, .iconst 0, 1), (14, .istore_n 1, 1), (15, .iload_n 1, 1), (16, .aload_n 0, 1), (17, .getfield 11, 3), (20, .arraylength, 1), (21, .if_icmp .ge 22, 3), (24, .aload_n 0, 1), (25, .getfield 11, 3), (28, .iload_n 1, 1), (29, .new 9, 3), (32, .dup, 1), (33, .invokespecial 17, 3), (36, .aastore, 1), (37, .iinc 1 1, 3), (40, .goto (-25), 3), (43, .return_, 1)]
set_option maxRecDepth 100000 in
theorem dkAa80 : ∀ q ∈ dkLa80, decode cX7_init q.1 = .ok q.2 := by decide +kernel
theorem dX7_init_0 : decode cX7_init 0 = .ok (.aload_n 0, 1) := dk_of dkAa80 (i := 0) rfl
theorem dX7_init_1 : decode cX7_init 1 = .ok (.invokespecial 3, 3) := dk_of dkAa80 (i := 1) rfl
theorem dX7_init_4 : decode cX7_init 4 = .ok (.aload_n 0, 1) := dk_of dkAa80 (i := 2) rfl
theorem dX7_init_5 : decode cX7_init 5 = .ok (.bipush 20, 2) := dk_of dkAa80 (i := 3) rfl
theorem dX7_init_7 : decode cX7_init 7 = .ok (.anewarray 9, 3) := dk_of dkAa80 (i := 4) rfl
theorem dX7_init_10 : decode cX7_init 10 = .ok (.putfield 11, 3) := dk_of dkAa80 (i := 5) rfl
theorem dX7_init_13 : decode cX7_init 13 = .ok (.iconst 0, 1) := dk_of dkAa80 (i := 6) rfl
theorem dX7_init_14 : decode cX7_init 14 = .ok (.istore_n 1, 1) := dk_of dkAa80 (i := 7) rfl
theorem dX7_init_15 : decode cX7_init 15 = .ok (.iload_n 1, 1) := dk_of dkAa80 (i := 8) rfl
theorem dX7_init_16 : decode cX7_init 16 = .ok (.aload_n 0, 1) := dk_of dkAa80 (i := 9) rfl
theorem dX7_init_17 : decode cX7_init 17 = .ok (.getfield 11, 3) := dk_of dkAa80 (i := 10) rfl
theorem dX7_init_20 : decode cX7_init 20 = .ok (.arraylength, 1) := dk_of dkAa80 (i := 11) rfl
theorem dX7_init_21 : decode cX7_init 21 = .ok (.if_icmp .ge 22, 3) := dk_of dkAa80 (i := 12) rfl
theorem dX7_init_24 : decode cX7_init 24 = .ok (.aload_n 0, 1) := dk_of dkAa80 (i := 13) rfl
theorem dX7_init_25 : decode cX7_init 25 = .ok (.getfield 11, 3) := dk_of dkAa80 (i := 14) rfl
theorem dX7_init_28 : decode cX7_init 28 = .ok (.iload_n 1, 1) := dk_of dkAa80 (i := 15) rfl
theorem dX7_init_29 : decode cX7_init 29 = .ok (.new 9, 3) := dk_of dkAa80 (i := 16) rfl
theorem dX7_init_32 : decode cX7_init 32 = .ok (.dup, 1) := dk_of dkAa80 (i := 17) rfl
theorem dX7_init_33 : decode cX7_init 33 = .ok (.invokespecial 17, 3) := dk_of dkAa80 (i := 18) rfl
theorem dX7_init_36 : decode cX7_init 36 = .ok (.aastore, 1) := dk_of dkAa80 (i := 19) rfl
theorem dX7_init_37 : decode cX7_init 37 = .ok (.iinc 1 1, 3) := dk_of dkAa80 (i := 20) rfl
theorem dX7_init_40 : decode cX7_init 40 = .ok (.goto (-25), 3) := dk_of dkAa80 (i := 21) rfl
theorem dX7_init_43 : decode cX7_init 43 = .ok (.return_, 1) := dk_of dkAa80 (i := 22) rfl
def dkLa81 : List (Nat × Instr × Nat) := [(0, .aload_n 0, 1), (1, .iconst 0, 1), (2, .putfield 18, 3), (5, .aload_n 0, 1), (6, .iconst 0, 1), (7, .putfield 22, 3), (10, .return_, 1)]
set_option maxRecDepth 100000 in
theorem dkAa81 : ∀ q ∈ dkLa81, decode cX7_forget q.1 = .ok q.2 := by decide +kernel
theorem dX7_forget_0 : decode cX7_forget 0 = .ok (.aload_n 0, 1) := dk_of dkAa81 (i := 0) rfl
theorem dX7_forget_1 : decode cX7_forget 1 = .ok (.iconst 0, 1) := dk_of dkAa81 (i := 1) rfl
theorem dX7_forget_2 : decode cX7_forget 2 = .ok (.putfield 18, 3) := dk_of dkAa81 (i := 2) rfl
theorem dX7_forget_5 : decode cX7_forget 5 = .ok (.aload_n 0, 1) := dk_of dkAa81 (i := 3) rfl
theorem dX7_forget_6 : decode cX7_forget 6 = .ok (.iconst 0, 1) := dk_of dkAa81 (i := 4) rfl
theorem dX7_forget_7 : decode cX7_forget 7 = .ok (.putfield 22, 3) := dk_of dkAa81 (i := 5) rfl
theorem dX7_forget_10 : decode cX7_forget 10 = .ok (.return_, 1) := dk_of dkAa81 (i := 6) rfl
def dkLa82 : List (Nat × Instr × Nat) := [(0, .aload_n 0, 1), (1, .getfield 22, 3), (4, .ifCond .lt 15, 3), (7, .aload_n 0, 1), (8, .getfield 22, 3), (11, .aload_n 0, 1), (12, .getfield 11, 3), (15, .arraylength, 1), (16, .if_icmp .lt 8, 3), (19, .aload_n 0, 1), (20, .iconst 0, 1), (21, .putfield 22, 3), (24, .aload_n 0, 1), (25, .getfield 11, 3), (28, .aload_n 0, 1), (29, .getfield 22, 3), (32, .aaload, 1), (33, .aload_n 1, 1), (34, .invokevirtual 25, 3), (37, .aload_n 0, 1), (38, .dup, 1), (39, .getfield 22, 3), (42, .iconst 1, 1), (43, .iadd, 1), (44, .putfield 22, 3), (47, .aload_n 0, 1), (48, .aload_n 0, 1), (49, .getfield 18, 3), (52, .iconst 1, 1), (53, .iadd, 1), (54, .aload_n 0, 1), (55, .getfield 11, 3)]
set_option maxRecDepth 100000 in
theorem dkAa82 : ∀ q ∈ dkLa82, decode cX7_remember q.1 = .ok q.2 := by decide +kernel
theorem dX7_remember_0 : decode cX7_remember 0 = .ok (.aload_n 0, 1) := dk_of dkAa82 (i := 0) rfl
theorem dX7_remember_1 : decode cX7_remember 1 = .ok (.getfield 22, 3) := dk_of dkAa82 (i := 1) rfl
theorem dX7_remember_4 : decode cX7_remember 4 = .ok (.ifCond .lt 15, 3) := dk_of dkAa82 (i := 2) rfl
theorem dX7_remember_7 : decode cX7_remember 7 = .ok (.aload_n 0, 1) := dk_of dkAa82 (i := 3) rfl
theorem dX7_remember_8 : decode cX7_remember 8 = .ok (.getfield 22, 3) := dk_of dkAa82 (i := 4) rfl
theorem dX7_remember_11 : decode cX7_remember 11 = .ok (.aload_n 0, 1) := dk_of dkAa82 (i := 5) rfl
theorem dX7_remember_12 : decode cX7_remember 12 = .ok (.getfield 11, 3) := dk_of dkAa82 (i := 6) rfl
theorem dX7_remember_15 : decode cX7_remember 15 = .ok (.arraylength, 1) := dk_of dkAa82 (i := 7) rfl
theorem dX7_remember_16 : decode cX7_remember 16 = .ok (.if_icmp .lt 8, 3) := dk_of dkAa82 (i := 8) rfl
theorem dX7_remember_19 : decode cX7_remember 19 = .ok (.aload_n 0, 1) := dk_of dkAa82 (i := 9) rfl
theorem dX7_remember_20 : decode cX7_remember 20 = .ok (.iconst 0, 1) := dk_of dkAa82 (i := 10) rfl
theorem dX7_remember_21 : decode cX7_remember 21 = .ok (.putfield 22, 3) := dk_of dkAa82 (i := 11) rfl
theorem dX7_remember_24 : decode cX7_remember 24 = .ok (.aload_n 0, 1) := dk_of dkAa82 (i := 12) rfl
theorem dX7_remember_25 : decode cX7_remember 25 = .ok (.getfield 11, 3) := dk_of dkAa82 (i := 13) rfl
theorem dX7_remember_28 : decode cX7_remember 28 = .ok (.aload_n 0, 1) := dk_of dkAa82 (i := 14) rfl
theorem dX7_remember_29 : decode cX7_remember 29 = .ok (.getfield 22, 3) := dk_of dkAa82 (i := 15) rfl
theorem dX7_remember_32 : decode cX7_remember 32 = .ok (.aaload, 1) := dk_of dkAa82 (i := 16) rfl
theorem dX7_remember_33 : decode cX7_remember 33 = .ok (.aload_n 1, 1) := dk_of dkAa82 (i := 17) rfl
theorem dX7_remember_34 : decode cX7_remember 34 = .ok (.invokevirtual 25, 3) := dk_of dkAa82 (i := 18) rfl
theorem dX7_remember_37 : decode cX7_remember 37 = .ok (.aload_n 0, 1) := dk_of dkAa82 (i := 19) rfl
theorem dX7_remember_38 : decode cX7_remember 38 = .ok (.dup, 1) := dk_of dkAa82 (i := 20) rfl
theorem dX7_remember_39 : decode cX7_remember 39 = .ok (.getfield 22, 3) := dk_of dkAa82 (i := 21) rfl
theorem dX7_remember_42 : decode cX7_remember 42 = .ok (.iconst 1, 1) := dk_of dkAa82 (i := 22) rfl
theorem dX7_remember_43 : decode cX7_remember 43 = .ok (.iadd, 1) := dk_of dkAa82 (i := 23) rfl
theorem dX7_remember_44 : decode cX7_remember 44 = .ok (.putfield 22, 3) := dk_of dkAa82 (i := 24) rfl
theorem dX7_remember_47 : decode cX7_remember 47 = .ok (.aload_n 0, 1) := dk_of dkAa82 (i := 25) rfl
theorem dX7_remember_48 : decode cX7_remember 48 = .ok (.aload_n 0, 1) := dk_of dkAa82 (i := 26) rfl
theorem dX7_remember_49 : decode cX7_remember 49 = .ok (.getfield 18, 3) := dk_of dkAa82 (i := 27) rfl
theorem dX7_remember_52 : decode cX7_remember 52 = .ok (.iconst 1, 1) := dk_of dkAa82 (i := 28) rfl
theorem dX7_remember_53 : decode cX7_remember 53 = .ok (.iadd, 1) := dk_of dkAa82 (i := 29) rfl
theorem dX7_remember_54 : decode cX7_remember 54 = .ok (.aload_n 0, 1) := dk_of dkAa82 (i := 30) rfl
theorem dX7_remember_55 : decode cX7_remember 55 = .ok (.getfield 11, 3) := dk_of dkAa82 (i := 31) rfl
def dkLa83 : List (Nat × Instr × Nat) := [(58, .arraylength, 1), (59, .invokestatic 29, 3), (62, .putfield 18, 3), (65, .return_, 1)]
set_option maxRecDepth 100000 in
theorem dkAa83 : ∀ q ∈ dkLa83, decode cX7_remember q.1 = .ok q.2 := by decide +kernel
theorem dX7_remember_58 : decode cX7_remember 58 = .ok (.arraylength, 1) := dk_of dkAa83 (i := 0) rfl
theorem dX7_remember_59 : decode cX7_remember 59 = .ok (.invokestatic 29, 3) := dk_of dkAa83 (i := 1) rfl
theorem dX7_remember_62 : decode cX7_remember 62 = .ok (.putfield 18, 3) := dk_of dkAa83 (i := 2) rfl
theorem dX7_remember_65 : decode cX7_remember 65 = .ok (.return_, 1) := dk_of dkAa83 (i := 3) rfl
def dkLa84 : List (Nat × Instr × Nat) := [(0, .aload_n 0, 1), (1, .getfield 18, 3), (4, .ifCond .ne 5, 3), (7, .iconst 0, 1), (8, .ireturn, 1), (9, .aload_n 0, 1), (10, .aload_n 0, 1), (11, .getfield 22, 3), (14, .ifCond .le 15, 3), (17, .aload_n 0, 1), (18, .getfield 22, 3), (21, .aload_n 0, 1), (22, .getfield 11, 3), (25, .arraylength, 1), (26, .if_icmp .le 13, 3), (29, .aload_n 0, 1), (30, .getfield 11, 3), (33, .arraylength, 1), (34, .iconst 1, 1), (35, .isub, 1), (36, .goto 9, 3), (39, .aload_n 0, 1), (40, .getfield 22, 3), (43, .iconst 1, 1), (44, .isub, 1), (45, .putfield 22, 3), (48, .aload_n 1, 1), (49, .aload_n 0, 1), (50, .getfield 11, 3), (53, .aload_n 0, 1), (54, .getfield 22, 3), (57, .aaload, 1)]
set_option maxRecDepth 100000 in
theorem dkAa84 : ∀ q ∈ dkLa84, decode cX7_bringBack q.1 = .ok q.2 := by decide +kernel
theorem dX7_bringBack_0 : decode cX7_bringBack 0 = .ok (.aload_n 0, 1) := dk_of dkAa84 (i := 0) rfl
theorem dX7_bringBack_1 : decode cX7_bringBack 1 = .ok (.getfield 18, 3) := dk_of dkAa84 (i := 1) rfl
theorem dX7_bringBack_4 : decode cX7_bringBack 4 = .ok (.ifCond .ne 5, 3) := dk_of dkAa84 (i := 2) rfl
theorem dX7_bringBack_7 : decode cX7_bringBack 7 = .ok (.iconst 0, 1) := dk_of dkAa84 (i := 3) rfl
theorem dX7_bringBack_8 : decode cX7_bringBack 8 = .ok (.ireturn, 1) := dk_of dkAa84 (i := 4) rfl
theorem dX7_bringBack_9 : decode cX7_bringBack 9 = .ok (.aload_n 0, 1) := dk_of dkAa84 (i := 5) rfl
theorem dX7_bringBack_10 : decode cX7_bringBack 10 = .ok (.aload_n 0, 1) := dk_of dkAa84 (i := 6) rfl
theorem dX7_bringBack_11 : decode cX7_bringBack 11 = .ok (.getfield 22, 3) := dk_of dkAa84 (i := 7) rfl
theorem dX7_bringBack_14 : decode cX7_bringBack 14 = .ok (.ifCond .le 15, 3) := dk_of dkAa84 (i := 8) rfl
theorem dX7_bringBack_17 : decode cX7_bringBack 17 = .ok (.aload_n 0, 1) := dk_of dkAa84 (i := 9) rfl
theorem dX7_bringBack_18 : decode cX7_bringBack 18 = .ok (.getfield 22, 3) := dk_of dkAa84 (i := 10) rfl
theorem dX7_bringBack_21 : decode cX7_bringBack 21 = .ok (.aload_n 0, 1) := dk_of dkAa84 (i := 11) rfl
theorem dX7_bringBack_22 : decode cX7_bringBack 22 = .ok (.getfield 11, 3) := dk_of dkAa84 (i := 12) rfl
theorem dX7_bringBack_25 : decode cX7_bringBack 25 = .ok (.arraylength, 1) := dk_of dkAa84 (i := 13) rfl
theorem dX7_bringBack_26 : decode cX7_bringBack 26 = .ok (.if_icmp .le 13, 3) := dk_of dkAa84 (i := 14) rfl
theorem dX7_bringBack_29 : decode cX7_bringBack 29 = .ok (.aload_n 0, 1) := dk_of dkAa84 (i := 15) rfl
theorem dX7_bringBack_30 : decode cX7_bringBack 30 = .ok (.getfield 11, 3) := dk_of dkAa84 (i := 16) rfl
theorem dX7_bringBack_33 : decode cX7_bringBack 33 = .ok (.arraylength, 1) := dk_of dkAa84 (i := 17) rfl
theorem dX7_bringBack_34 : decode cX7_bringBack 34 = .ok (.iconst 1, 1) := dk_of dkAa84 (i := 18) rfl
theorem dX7_bringBack_35 : decode cX7_bringBack 35 = .ok (.isub, 1) := dk_of dkAa84 (i := 19) rfl
theorem dX7_bringBack_36 : decode cX7_bringBack 36 = .ok (.goto 9, 3) := dk_of dkAa84 (i := 20) rfl
theorem dX7_bringBack_39 : decode cX7_bringBack 39 = .ok (.aload_n 0, 1) := dk_of dkAa84 (i := 21) rfl
theorem dX7_bringBack_40 : decode cX7_bringBack 40 = .ok (.getfield 22, 3) := dk_of dkAa84 (i := 22) rfl
theorem dX7_bringBack_43 : decode cX7_bringBack 43 = .ok (.iconst 1, 1) := dk_of dkAa84 (i := 23) rfl
theorem dX7_bringBack_44 : decode cX7_bringBack 44 = .ok (.isub, 1) := dk_of dkAa84 (i := 24) rfl
theorem dX7_bringBack_45 : decode cX7_bringBack 45 = .ok (.putfield 22, 3) := dk_of dkAa84 (i := 25) rfl
theorem dX7_bringBack_48 : decode cX7_bringBack 48 = .ok (.aload_n 1, 1) := dk_of dkAa84 (i := 26) rfl
theorem dX7_bringBack_49 : decode cX7_bringBack 49 = .ok (.aload_n 0, 1) := dk_of dkAa84 (i := 27) rfl
theorem dX7_bringBack_50 : decode cX7_bringBack 50 = .ok (.getfield 11, 3) := dk_of dkAa84 (i := 28) rfl
theorem dX7_bringBack_53 : decode cX7_bringBack 53 = .ok (.aload_n 0, 1) := dk_of dkAa84 (i := 29) rfl
theorem dX7_bringBack_54 : decode cX7_bringBack 54 = .ok (.getfield 22, 3) := dk_of dkAa84 (i := 30) rfl
theorem dX7_bringBack_57 : decode cX7_bringBack 57 = .ok (.aaload, 1) := dk_of dkAa84 (i := 31) rfl
def dkLa85 : List (Nat × Instr × Nat) := [(58, .invokevirtual 25, 3), (61, .aload_n 0, 1), (62, .dup, 1), (63, .getfield 18, 3), (66, .iconst 1, 1), (67, .isub, 1), (68, .putfield 18, 3), (71, .iconst 1, 1), (72, .ireturn, 1)]
set_option maxRecDepth 100000 in
theorem dkAa85 : ∀ q ∈ dkLa85, decode cX7_bringBack q.1 = .ok q.2 := by decide +kernel
theorem dX7_bringBack_58 : decode cX7_bringBack 58 = .ok (.invokevirtual 25, 3) := dk_of dkAa85 (i := 0) rfl
theorem dX7_bringBack_61 : decode cX7_bringBack 61 = .ok (.aload_n 0, 1) := dk_of dkAa85 (i := 1) rfl
theorem dX7_bringBack_62 : decode cX7_bringBack 62 = .ok (.dup, 1) := dk_of dkAa85 (i := 2) rfl
theorem dX7_bringBack_63 : decode cX7_bringBack 63 = .ok (.getfield 18, 3) := dk_of dkAa85 (i := 3) rfl
theorem dX7_bringBack_66 : decode cX7_bringBack 66 = .ok (.iconst 1, 1) := dk_of dkAa85 (i := 4) rfl
theorem dX7_bringBack_67 : decode cX7_bringBack 67 = .ok (.isub, 1) := dk_of dkAa85 (i := 5) rfl
theorem dX7_bringBack_68 : decode cX7_bringBack 68 = .ok (.putfield 18, 3) := dk_of dkAa85 (i := 6) rfl
theorem dX7_bringBack_71 : decode cX7_bringBack 71 = .ok (.iconst 1, 1) := dk_of dkAa85 (i := 7) rfl
theorem dX7_bringBack_72 : decode cX7_bringBack 72 = .ok (.ireturn, 1) := dk_of dkAa85 (i := 8) rfl
def dkLa86 : List (Nat × Instr × Nat) := [(0, .aload_n 0, 1), (1, .invokespecial 3, 3), (4, .aload_n 0, 1), (5, .iconst (-1), 1), (6, .putfield 9, 3), (9, .aload_n 0, 1), (10, .sipush 240, 3), (13, .newarray .int, 2), (15, .putfield 15, 3), (18, .return_, 1)]
set_option maxRecDepth 100000 in
theorem dkAa86 : ∀ q ∈ dkLa86, decode cX8_init q.1 = .ok q.2 := by decide +kernel
theorem dX8_init_0 : decode cX8_init 0 = .ok (.aload_n 0, 1) := dk_of dkAa86 (i := 0) rfl
theorem dX8_init_1 : decode cX8_init 1 = .ok (.invokespecial 3, 3) := dk_of dkAa86 (i := 1) rfl
theorem dX8_init_4 : decode cX8_init 4 = .ok (.aload_n 0, 1) := dk_of dkAa86 (i := 2) rfl
theorem dX8_init_5 : decode cX8_init 5 = .ok (.iconst (-1), 1) := dk_of dkAa86 (i := 3) rfl
theorem dX8_init_6 : decode cX8_init 6 = .ok (.putfield 9, 3) := dk_of dkAa86 (i := 4) rfl
theorem dX8_init_9 : decode cX8_init 9 = .ok (.aload_n 0, 1) := dk_of dkAa86 (i := 5) rfl
theorem dX8_init_10 : decode cX8_init 10 = .ok (.sipush 240, 3) := dk_of dkAa86 (i := 6) rfl
theorem dX8_init_13 : decode cX8_init 13 = .ok (.newarray .int, 2) := dk_of dkAa86 (i := 7) rfl
theorem dX8_init_15 : decode cX8_init 15 = .ok (.putfield 15, 3) := dk_of dkAa86 (i := 8) rfl
theorem dX8_init_18 : decode cX8_init 18 = .ok (.return_, 1) := dk_of dkAa86 (i := 9) rfl
def dkLa87 : List (Nat × Instr × Nat) := [(0, .aload_n 0, 1), (1, .getfield 19, 3), (4, .aload_n 0, 1), (5, .getfield 15, 3), (8, .arraylength, 1), (9, .if_icmp .lt 5, 3), (12, .iconst 0, 1), (13, .ireturn, 1), (14, .aload_n 0, 1), (15, .getfield 15, 3), (18, .aload_n 0, 1), (19, .getfield 19, 3), (22, .iload_n 1, 1), (23, .iastore, 1), (24, .aload_n 0, 1), (25, .dup, 1), (26, .getfield 19, 3), (29, .iconst 1, 1), (30, .iadd, 1), (31, .putfield 19, 3), (34, .iconst 1, 1), (35, .ireturn, 1)]
set_option maxRecDepth 100000 in
theorem dkAa87 : ∀ q ∈ dkLa87, decode cX8_add q.1 = .ok q.2 := by decide +kernel
theorem dX8_add_0 : decode cX8_add 0 = .ok (.aload_n 0, 1) := dk_of dkAa87 (i := 0) rfl
theorem dX8_add_1 : decode cX8_add 1 = .ok (.getfield 19, 3) := dk_of dkAa87 (i := 1) rfl
theorem dX8_add_4 : decode cX8_add 4 = .ok (.aload_n 0, 1) := dk_of dkAa87 (i := 2) rfl
theorem dX8_add_5 : decode cX8_add 5 = .ok (.getfield 15, 3) := dk_of dkAa87 (i := 3) rfl
theorem dX8_add_8 : decode cX8_add 8 = .ok (.arraylength, 1) := dk_of dkAa87 (i := 4) rfl
theorem dX8_add_9 : decode cX8_add 9 = .ok (.if_icmp .lt 5, 3) := dk_of dkAa87 (i := 5) rfl
theorem dX8_add_12 : decode cX8_add 12 = .ok (.iconst 0, 1) := dk_of dkAa87 (i := 6) rfl
theorem dX8_add_13 : decode cX8_add 13 = .ok (.ireturn, 1) := dk_of dkAa87 (i := 7) rfl
theorem dX8_add_14 : decode cX8_add 14 = .ok (.aload_n 0, 1) := dk_of dkAa87 (i := 8) rfl
theorem dX8_add_15 : decode cX8_add 15 = .ok (.getfield 15, 3) := dk_of dkAa87 (i := 9) rfl
theorem dX8_add_18 : decode cX8_add 18 = .ok (.aload_n 0, 1) := dk_of dkAa87 (i := 10) rfl
theorem dX8_add_19 : decode cX8_add 19 = .ok (.getfield 19, 3) := dk_of dkAa87 (i := 11) rfl
theorem dX8_add_22 : decode cX8_add 22 = .ok (.iload_n 1, 1) := dk_of dkAa87 (i := 12) rfl
theorem dX8_add_23 : decode cX8_add 23 = .ok (.iastore, 1) := dk_of dkAa87 (i := 13) rfl
theorem dX8_add_24 : decode cX8_add 24 = .ok (.aload_n 0, 1) := dk_of dkAa87 (i := 14) rfl
theorem dX8_add_25 : decode cX8_add 25 = .ok (.dup, 1) := dk_of dkAa87 (i := 15) rfl
theorem dX8_add_26 : decode cX8_add 26 = .ok (.getfield 19, 3) := dk_of dkAa87 (i := 16) rfl
theorem dX8_add_29 : decode cX8_add 29 = .ok (.iconst 1, 1) := dk_of dkAa87 (i := 17) rfl
theorem dX8_add_30 : decode cX8_add 30 = .ok (.iadd, 1) := dk_of dkAa87 (i := 18) rfl
theorem dX8_add_31 : decode cX8_add 31 = .ok (.putfield 19, 3) := dk_of dkAa87 (i := 19) rfl
theorem dX8_add_34 : decode cX8_add 34 = .ok (.iconst 1, 1) := dk_of dkAa87 (i := 20) rfl
theorem dX8_add_35 : decode cX8_add 35 = .ok (.ireturn, 1) := dk_of dkAa87 (i := 21) rfl
def dkLa88 : List (Nat × Instr × Nat) := [(0, .aload_n 1, 1), (1, .invokevirtual 22, 3), (4, .aload_n 0, 1), (5, .iconst 0, 1), (6, .putfield 27, 3), (9, .aload_n 0, 1), (10, .iconst 0, 1), (11, .putfield 30, 3), (14, .aload_n 0, 1), (15, .iconst (-1), 1), (16, .putfield 9, 3), (19, .aload_n 0, 1), (20, .invokevirtual 33, 3), (23, .iconst 0, 1), (24, .istore_n 2, 1), (25, .iload_n 2, 1), (26, .sipush 240, 3), (29, .if_icmp .ge 36, 3), (32, .aload_n 0, 1), (33, .getfield 27, 3), (36, .aload_n 0, 1), (37, .getfield 19, 3), (40, .if_icmp .ge 25, 3), (43, .aload_n 0, 1), (44, .invokevirtual 36, 3), (47, .ifCond .eq 18, 3), (50, .aload_n 0, 1), (51, .aload_n 1, 1), (52, .invokevirtual 40, 3), (55, .aload_n 0, 1), (56, .invokevirtual 33, 3), (59, .iinc 2 1, 3)]
set_option maxRecDepth 100000 in
theorem dkAa88 : ∀ q ∈ dkLa88, decode cX8_readInto q.1 = .ok q.2 := by decide +kernel
theorem dX8_readInto_0 : decode cX8_readInto 0 = .ok (.aload_n 1, 1) := dk_of dkAa88 (i := 0) rfl
theorem dX8_readInto_1 : decode cX8_readInto 1 = .ok (.invokevirtual 22, 3) := dk_of dkAa88 (i := 1) rfl
theorem dX8_readInto_4 : decode cX8_readInto 4 = .ok (.aload_n 0, 1) := dk_of dkAa88 (i := 2) rfl
theorem dX8_readInto_5 : decode cX8_readInto 5 = .ok (.iconst 0, 1) := dk_of dkAa88 (i := 3) rfl
theorem dX8_readInto_6 : decode cX8_readInto 6 = .ok (.putfield 27, 3) := dk_of dkAa88 (i := 4) rfl
theorem dX8_readInto_9 : decode cX8_readInto 9 = .ok (.aload_n 0, 1) := dk_of dkAa88 (i := 5) rfl
theorem dX8_readInto_10 : decode cX8_readInto 10 = .ok (.iconst 0, 1) := dk_of dkAa88 (i := 6) rfl
theorem dX8_readInto_11 : decode cX8_readInto 11 = .ok (.putfield 30, 3) := dk_of dkAa88 (i := 7) rfl
theorem dX8_readInto_14 : decode cX8_readInto 14 = .ok (.aload_n 0, 1) := dk_of dkAa88 (i := 8) rfl
theorem dX8_readInto_15 : decode cX8_readInto 15 = .ok (.iconst (-1), 1) := dk_of dkAa88 (i := 9) rfl
theorem dX8_readInto_16 : decode cX8_readInto 16 = .ok (.putfield 9, 3) := dk_of dkAa88 (i := 10) rfl
theorem dX8_readInto_19 : decode cX8_readInto 19 = .ok (.aload_n 0, 1) := dk_of dkAa88 (i := 11) rfl
theorem dX8_readInto_20 : decode cX8_readInto 20 = .ok (.invokevirtual 33, 3) := dk_of dkAa88 (i := 12) rfl
theorem dX8_readInto_23 : decode cX8_readInto 23 = .ok (.iconst 0, 1) := dk_of dkAa88 (i := 13) rfl
theorem dX8_readInto_24 : decode cX8_readInto 24 = .ok (.istore_n 2, 1) := dk_of dkAa88 (i := 14) rfl
theorem dX8_readInto_25 : decode cX8_readInto 25 = .ok (.iload_n 2, 1) := dk_of dkAa88 (i := 15) rfl
theorem dX8_readInto_26 : decode cX8_readInto 26 = .ok (.sipush 240, 3) := dk_of dkAa88 (i := 16) rfl
theorem dX8_readInto_29 : decode cX8_readInto 29 = .ok (.if_icmp .ge 36, 3) := dk_of dkAa88 (i := 17) rfl
theorem dX8_readInto_32 : decode cX8_readInto 32 = .ok (.aload_n 0, 1) := dk_of dkAa88 (i := 18) rfl
theorem dX8_readInto_33 : decode cX8_readInto 33 = .ok (.getfield 27, 3) := dk_of dkAa88 (i := 19) rfl
theorem dX8_readInto_36 : decode cX8_readInto 36 = .ok (.aload_n 0, 1) := dk_of dkAa88 (i := 20) rfl
theorem dX8_readInto_37 : decode cX8_readInto 37 = .ok (.getfield 19, 3) := dk_of dkAa88 (i := 21) rfl
theorem dX8_readInto_40 : decode cX8_readInto 40 = .ok (.if_icmp .ge 25, 3) := dk_of dkAa88 (i := 22) rfl
theorem dX8_readInto_43 : decode cX8_readInto 43 = .ok (.aload_n 0, 1) := dk_of dkAa88 (i := 23) rfl
theorem dX8_readInto_44 : decode cX8_readInto 44 = .ok (.invokevirtual 36, 3) := dk_of dkAa88 (i := 24) rfl
theorem dX8_readInto_47 : decode cX8_readInto 47 = .ok (.ifCond .eq 18, 3) := dk_of dkAa88 (i := 25) rfl
theorem dX8_readInto_50 : decode cX8_readInto 50 = .ok (.aload_n 0, 1) := dk_of dkAa88 (i := 26) rfl
theorem dX8_readInto_51 : decode cX8_readInto 51 = .ok (.aload_n 1, 1) := dk_of dkAa88 (i := 27) rfl
theorem dX8_readInto_52 : decode cX8_readInto 52 = .ok (.invokevirtual 40, 3) := dk_of dkAa88 (i := 28) rfl
theorem dX8_readInto_55 : decode cX8_readInto 55 = .ok (.aload_n 0, 1) := dk_of dkAa88 (i := 29) rfl
theorem dX8_readInto_56 : decode cX8_readInto 56 = .ok (.invokevirtual 33, 3) := dk_of dkAa88 (i := 30) rfl
theorem dX8_readInto_59 : decode cX8_readInto 59 = .ok (.iinc 2 1, 3) := dk_of dkAa88 (i := 31) rfl
def dkLa89 : List (Nat × Instr × Nat) := [(62, .goto (-37), 3), (65, .aload_n 0, 1), (66, .iconst 0, 1), (67, .putfield 19, 3), (70, .aload_n 0, 1), (71, .invokevirtual 36, 3), (74, .ireturn, 1)]
set_option maxRecDepth 100000 in
theorem dkAa89 : ∀ q ∈ dkLa89, decode cX8_readInto q.1 = .ok q.2 := by decide +kernel
theorem dX8_readInto_62 : decode cX8_readInto 62 = .ok (.goto (-37), 3) := dk_of dkAa89 (i := 0) rfl
theorem dX8_readInto_65 : decode cX8_readInto 65 = .ok (.aload_n 0, 1) := dk_of dkAa89 (i := 1) rfl
theorem dX8_readInto_66 : decode cX8_readInto 66 = .ok (.iconst 0, 1) := dk_of dkAa89 (i := 2) rfl
theorem dX8_readInto_67 : decode cX8_readInto 67 = .ok (.putfield 19, 3) := dk_of dkAa89 (i := 3) rfl
theorem dX8_readInto_70 : decode cX8_readInto 70 = .ok (.aload_n 0, 1) := dk_of dkAa89 (i := 4) rfl
theorem dX8_readInto_71 : decode cX8_readInto 71 = .ok (.invokevirtual 36, 3) := dk_of dkAa89 (i := 5) rfl
theorem dX8_readInto_74 : decode cX8_readInto 74 = .ok (.ireturn, 1) := dk_of dkAa89 (i := 6) rfl
def dkLa90 : List (Nat × Instr × Nat) := [(0, .aload_n 0, 1), (1, .invokevirtual 44, 3), (4, .lookupswitch 76 #[(99, 68), (100, 60), (112, 44), (119, 52)], 44), (48, .aload_n 0, 1), (49, .aload_n 1, 1), (50, .invokevirtual 48, 3), (53, .goto 36, 3), (56, .aload_n 0, 1), (57, .aload_n 1, 1), (58, .invokevirtual 51, 3), (61, .goto 28, 3), (64, .aload_n 0, 1), (65, .aload_n 1, 1), (66, .invokevirtual 54, 3), (69, .goto 20, 3), (72, .aload_n 0, 1), (73, .aload_n 1, 1), (74, .invokevirtual 57, 3), (77, .goto 12, 3), (80, .aload_n 0, 1), (81, .iconst 1, 1), (82, .aload_n 0, 1), (83, .getfield 27, 3), (86, .invokevirtual 60, 3), (89, .return_, 1)]
set_option maxRecDepth 100000 in
theorem dkAa90 : ∀ q ∈ dkLa90, decode cX8_readClause q.1 = .ok q.2 := by decide +kernel
theorem dX8_readClause_0 : decode cX8_readClause 0 = .ok (.aload_n 0, 1) := dk_of dkAa90 (i := 0) rfl
theorem dX8_readClause_1 : decode cX8_readClause 1 = .ok (.invokevirtual 44, 3) := dk_of dkAa90 (i := 1) rfl
theorem dX8_readClause_4 : decode cX8_readClause 4 = .ok (.lookupswitch 76 #[(99, 68), (100, 60), (112, 44), (119, 52)], 44) := dk_of dkAa90 (i := 2) rfl
theorem dX8_readClause_48 : decode cX8_readClause 48 = .ok (.aload_n 0, 1) := dk_of dkAa90 (i := 3) rfl
theorem dX8_readClause_49 : decode cX8_readClause 49 = .ok (.aload_n 1, 1) := dk_of dkAa90 (i := 4) rfl
theorem dX8_readClause_50 : decode cX8_readClause 50 = .ok (.invokevirtual 48, 3) := dk_of dkAa90 (i := 5) rfl
theorem dX8_readClause_53 : decode cX8_readClause 53 = .ok (.goto 36, 3) := dk_of dkAa90 (i := 6) rfl
theorem dX8_readClause_56 : decode cX8_readClause 56 = .ok (.aload_n 0, 1) := dk_of dkAa90 (i := 7) rfl
theorem dX8_readClause_57 : decode cX8_readClause 57 = .ok (.aload_n 1, 1) := dk_of dkAa90 (i := 8) rfl
theorem dX8_readClause_58 : decode cX8_readClause 58 = .ok (.invokevirtual 51, 3) := dk_of dkAa90 (i := 9) rfl
theorem dX8_readClause_61 : decode cX8_readClause 61 = .ok (.goto 28, 3) := dk_of dkAa90 (i := 10) rfl
theorem dX8_readClause_64 : decode cX8_readClause 64 = .ok (.aload_n 0, 1) := dk_of dkAa90 (i := 11) rfl
theorem dX8_readClause_65 : decode cX8_readClause 65 = .ok (.aload_n 1, 1) := dk_of dkAa90 (i := 12) rfl
theorem dX8_readClause_66 : decode cX8_readClause 66 = .ok (.invokevirtual 54, 3) := dk_of dkAa90 (i := 13) rfl
theorem dX8_readClause_69 : decode cX8_readClause 69 = .ok (.goto 20, 3) := dk_of dkAa90 (i := 14) rfl
theorem dX8_readClause_72 : decode cX8_readClause 72 = .ok (.aload_n 0, 1) := dk_of dkAa90 (i := 15) rfl
theorem dX8_readClause_73 : decode cX8_readClause 73 = .ok (.aload_n 1, 1) := dk_of dkAa90 (i := 16) rfl
theorem dX8_readClause_74 : decode cX8_readClause 74 = .ok (.invokevirtual 57, 3) := dk_of dkAa90 (i := 17) rfl
theorem dX8_readClause_77 : decode cX8_readClause 77 = .ok (.goto 12, 3) := dk_of dkAa90 (i := 18) rfl
theorem dX8_readClause_80 : decode cX8_readClause 80 = .ok (.aload_n 0, 1) := dk_of dkAa90 (i := 19) rfl
theorem dX8_readClause_81 : decode cX8_readClause 81 = .ok (.iconst 1, 1) := dk_of dkAa90 (i := 20) rfl
theorem dX8_readClause_82 : decode cX8_readClause 82 = .ok (.aload_n 0, 1) := dk_of dkAa90 (i := 21) rfl
theorem dX8_readClause_83 : decode cX8_readClause 83 = .ok (.getfield 27, 3) := dk_of dkAa90 (i := 22) rfl
theorem dX8_readClause_86 : decode cX8_readClause 86 = .ok (.invokevirtual 60, 3) := dk_of dkAa90 (i := 23) rfl
theorem dX8_readClause_89 : decode cX8_readClause 89 = .ok (.return_, 1) := dk_of dkAa90 (i := 24) rfl
def dkLa91 : List (Nat × Instr × Nat) := [(0, .aload_n 1, 1), (1, .getfield 64, 3), (4, .bipush 7, 2), (6, .if_icmp .lt 13, 3), (9, .aload_n 0, 1), (10, .iconst 3, 1), (11, .aload_n 0, 1), (12, .getfield 27, 3), (15, .invokevirtual 60, 3), (18, .return_, 1), (19, .aload_n 0, 1), (20, .dup, 1), (21, .getfield 27, 3), (24, .iconst 1, 1), (25, .iadd, 1), (26, .putfield 27, 3), (29, .aload_n 0, 1), (30, .bipush 9, 2), (32, .invokevirtual 67, 3), (35, .istore_n 2, 1), (36, .aload_n 0, 1), (37, .bipush 59, 2), (39, .invokevirtual 71, 3), (42, .ifCond .eq 8, 3), (45, .aload_n 1, 1), (46, .iload_n 2, 1), (47, .invokevirtual 75, 3), (50, .return_, 1)]
set_option maxRecDepth 100000 in
theorem dkAa91 : ∀ q ∈ dkLa91, decode cX8_readPerson q.1 = .ok q.2 := by decide +kernel
theorem dX8_readPerson_0 : decode cX8_readPerson 0 = .ok (.aload_n 1, 1) := dk_of dkAa91 (i := 0) rfl
theorem dX8_readPerson_1 : decode cX8_readPerson 1 = .ok (.getfield 64, 3) := dk_of dkAa91 (i := 1) rfl
theorem dX8_readPerson_4 : decode cX8_readPerson 4 = .ok (.bipush 7, 2) := dk_of dkAa91 (i := 2) rfl
theorem dX8_readPerson_6 : decode cX8_readPerson 6 = .ok (.if_icmp .lt 13, 3) := dk_of dkAa91 (i := 3) rfl
theorem dX8_readPerson_9 : decode cX8_readPerson 9 = .ok (.aload_n 0, 1) := dk_of dkAa91 (i := 4) rfl
theorem dX8_readPerson_10 : decode cX8_readPerson 10 = .ok (.iconst 3, 1) := dk_of dkAa91 (i := 5) rfl
theorem dX8_readPerson_11 : decode cX8_readPerson 11 = .ok (.aload_n 0, 1) := dk_of dkAa91 (i := 6) rfl
theorem dX8_readPerson_12 : decode cX8_readPerson 12 = .ok (.getfield 27, 3) := dk_of dkAa91 (i := 7) rfl
theorem dX8_readPerson_15 : decode cX8_readPerson 15 = .ok (.invokevirtual 60, 3) := dk_of dkAa91 (i := 8) rfl
theorem dX8_readPerson_18 : decode cX8_readPerson 18 = .ok (.return_, 1) := dk_of dkAa91 (i := 9) rfl
theorem dX8_readPerson_19 : decode cX8_readPerson 19 = .ok (.aload_n 0, 1) := dk_of dkAa91 (i := 10) rfl
theorem dX8_readPerson_20 : decode cX8_readPerson 20 = .ok (.dup, 1) := dk_of dkAa91 (i := 11) rfl
theorem dX8_readPerson_21 : decode cX8_readPerson 21 = .ok (.getfield 27, 3) := dk_of dkAa91 (i := 12) rfl
theorem dX8_readPerson_24 : decode cX8_readPerson 24 = .ok (.iconst 1, 1) := dk_of dkAa91 (i := 13) rfl
theorem dX8_readPerson_25 : decode cX8_readPerson 25 = .ok (.iadd, 1) := dk_of dkAa91 (i := 14) rfl
theorem dX8_readPerson_26 : decode cX8_readPerson 26 = .ok (.putfield 27, 3) := dk_of dkAa91 (i := 15) rfl
theorem dX8_readPerson_29 : decode cX8_readPerson 29 = .ok (.aload_n 0, 1) := dk_of dkAa91 (i := 16) rfl
theorem dX8_readPerson_30 : decode cX8_readPerson 30 = .ok (.bipush 9, 2) := dk_of dkAa91 (i := 17) rfl
theorem dX8_readPerson_32 : decode cX8_readPerson 32 = .ok (.invokevirtual 67, 3) := dk_of dkAa91 (i := 18) rfl
theorem dX8_readPerson_35 : decode cX8_readPerson 35 = .ok (.istore_n 2, 1) := dk_of dkAa91 (i := 19) rfl
theorem dX8_readPerson_36 : decode cX8_readPerson 36 = .ok (.aload_n 0, 1) := dk_of dkAa91 (i := 20) rfl
theorem dX8_readPerson_37 : decode cX8_readPerson 37 = .ok (.bipush 59, 2) := dk_of dkAa91 (i := 21) rfl
theorem dX8_readPerson_39 : decode cX8_readPerson 39 = .ok (.invokevirtual 71, 3) := dk_of dkAa91 (i := 22) rfl
theorem dX8_readPerson_42 : decode cX8_readPerson 42 = .ok (.ifCond .eq 8, 3) := dk_of dkAa91 (i := 23) rfl
theorem dX8_readPerson_45 : decode cX8_readPerson 45 = .ok (.aload_n 1, 1) := dk_of dkAa91 (i := 24) rfl
theorem dX8_readPerson_46 : decode cX8_readPerson 46 = .ok (.iload_n 2, 1) := dk_of dkAa91 (i := 25) rfl
theorem dX8_readPerson_47 : decode cX8_readPerson 47 = .ok (.invokevirtual 75, 3) := dk_of dkAa91 (i := 26) rfl
theorem dX8_readPerson_50 : decode cX8_readPerson 50 = .ok (.return_, 1) := dk_of dkAa91 (i := 27) rfl
def dkLa92 : List (Nat × Instr × Nat) := [(0, .aload_n 0, 1), (1, .dup, 1), (2, .getfield 27, 3), (5, .iconst 1, 1), (6, .iadd, 1), (7, .putfield 27, 3), (10, .aload_n 0, 1), (11, .aload_n 1, 1), (12, .getfield 64, 3), (15, .iconst 1, 1), (16, .isub, 1), (17, .invokevirtual 67, 3), (20, .istore_n 2, 1), (21, .aload_n 0, 1), (22, .invokevirtual 36, 3), (25, .ifCond .eq 20, 3), (28, .aload_n 1, 1), (29, .iload_n 2, 1), (30, .invokevirtual 79, 3), (33, .ifCond .eq 12, 3), (36, .aload_n 0, 1), (37, .iconst 4, 1), (38, .aload_n 0, 1), (39, .getfield 82, 3), (42, .invokevirtual 60, 3), (45, .aload_n 0, 1), (46, .aload_n 1, 1), (47, .iload_n 2, 1), (48, .invokevirtual 85, 3), (51, .istore_n 3, 1), (52, .aload_n 0, 1), (53, .aload_n 1, 1)]
set_option maxRecDepth 100000 in
theorem dkAa92 : ∀ q ∈ dkLa92, decode cX8_readWill q.1 = .ok q.2 := by decide +kernel
theorem dX8_readWill_0 : decode cX8_readWill 0 = .ok (.aload_n 0, 1) := dk_of dkAa92 (i := 0) rfl
theorem dX8_readWill_1 : decode cX8_readWill 1 = .ok (.dup, 1) := dk_of dkAa92 (i := 1) rfl
theorem dX8_readWill_2 : decode cX8_readWill 2 = .ok (.getfield 27, 3) := dk_of dkAa92 (i := 2) rfl
theorem dX8_readWill_5 : decode cX8_readWill 5 = .ok (.iconst 1, 1) := dk_of dkAa92 (i := 3) rfl
theorem dX8_readWill_6 : decode cX8_readWill 6 = .ok (.iadd, 1) := dk_of dkAa92 (i := 4) rfl
theorem dX8_readWill_7 : decode cX8_readWill 7 = .ok (.putfield 27, 3) := dk_of dkAa92 (i := 5) rfl
theorem dX8_readWill_10 : decode cX8_readWill 10 = .ok (.aload_n 0, 1) := dk_of dkAa92 (i := 6) rfl
theorem dX8_readWill_11 : decode cX8_readWill 11 = .ok (.aload_n 1, 1) := dk_of dkAa92 (i := 7) rfl
theorem dX8_readWill_12 : decode cX8_readWill 12 = .ok (.getfield 64, 3) := dk_of dkAa92 (i := 8) rfl
theorem dX8_readWill_15 : decode cX8_readWill 15 = .ok (.iconst 1, 1) := dk_of dkAa92 (i := 9) rfl
theorem dX8_readWill_16 : decode cX8_readWill 16 = .ok (.isub, 1) := dk_of dkAa92 (i := 10) rfl
theorem dX8_readWill_17 : decode cX8_readWill 17 = .ok (.invokevirtual 67, 3) := dk_of dkAa92 (i := 11) rfl
theorem dX8_readWill_20 : decode cX8_readWill 20 = .ok (.istore_n 2, 1) := dk_of dkAa92 (i := 12) rfl
theorem dX8_readWill_21 : decode cX8_readWill 21 = .ok (.aload_n 0, 1) := dk_of dkAa92 (i := 13) rfl
theorem dX8_readWill_22 : decode cX8_readWill 22 = .ok (.invokevirtual 36, 3) := dk_of dkAa92 (i := 14) rfl
theorem dX8_readWill_25 : decode cX8_readWill 25 = .ok (.ifCond .eq 20, 3) := dk_of dkAa92 (i := 15) rfl
theorem dX8_readWill_28 : decode cX8_readWill 28 = .ok (.aload_n 1, 1) := dk_of dkAa92 (i := 16) rfl
theorem dX8_readWill_29 : decode cX8_readWill 29 = .ok (.iload_n 2, 1) := dk_of dkAa92 (i := 17) rfl
theorem dX8_readWill_30 : decode cX8_readWill 30 = .ok (.invokevirtual 79, 3) := dk_of dkAa92 (i := 18) rfl
theorem dX8_readWill_33 : decode cX8_readWill 33 = .ok (.ifCond .eq 12, 3) := dk_of dkAa92 (i := 19) rfl
theorem dX8_readWill_36 : decode cX8_readWill 36 = .ok (.aload_n 0, 1) := dk_of dkAa92 (i := 20) rfl
theorem dX8_readWill_37 : decode cX8_readWill 37 = .ok (.iconst 4, 1) := dk_of dkAa92 (i := 21) rfl
theorem dX8_readWill_38 : decode cX8_readWill 38 = .ok (.aload_n 0, 1) := dk_of dkAa92 (i := 22) rfl
theorem dX8_readWill_39 : decode cX8_readWill 39 = .ok (.getfield 82, 3) := dk_of dkAa92 (i := 23) rfl
theorem dX8_readWill_42 : decode cX8_readWill 42 = .ok (.invokevirtual 60, 3) := dk_of dkAa92 (i := 24) rfl
theorem dX8_readWill_45 : decode cX8_readWill 45 = .ok (.aload_n 0, 1) := dk_of dkAa92 (i := 25) rfl
theorem dX8_readWill_46 : decode cX8_readWill 46 = .ok (.aload_n 1, 1) := dk_of dkAa92 (i := 26) rfl
theorem dX8_readWill_47 : decode cX8_readWill 47 = .ok (.iload_n 2, 1) := dk_of dkAa92 (i := 27) rfl
theorem dX8_readWill_48 : decode cX8_readWill 48 = .ok (.invokevirtual 85, 3) := dk_of dkAa92 (i := 28) rfl
theorem dX8_readWill_51 : decode cX8_readWill 51 = .ok (.istore_n 3, 1) := dk_of dkAa92 (i := 29) rfl
theorem dX8_readWill_52 : decode cX8_readWill 52 = .ok (.aload_n 0, 1) := dk_of dkAa92 (i := 30) rfl
theorem dX8_readWill_53 : decode cX8_readWill 53 = .ok (.aload_n 1, 1) := dk_of dkAa92 (i := 31) rfl
def dkLa93 : List (Nat × Instr × Nat) := [(54, .iload_n 2, 1), (55, .invokevirtual 85, 3), (58, .istore 4, 2), (60, .aload_n 0, 1), (61, .bipush 59, 2), (63, .invokevirtual 71, 3), (66, .ifCond .eq 11, 3), (69, .aload_n 1, 1), (70, .iload_n 2, 1), (71, .iload_n 3, 1), (72, .iload 4, 2), (74, .invokevirtual 89, 3), (77, .return_, 1)]
set_option maxRecDepth 100000 in
theorem dkAa93 : ∀ q ∈ dkLa93, decode cX8_readWill q.1 = .ok q.2 := by decide +kernel
theorem dX8_readWill_54 : decode cX8_readWill 54 = .ok (.iload_n 2, 1) := dk_of dkAa93 (i := 0) rfl
theorem dX8_readWill_55 : decode cX8_readWill 55 = .ok (.invokevirtual 85, 3) := dk_of dkAa93 (i := 1) rfl
theorem dX8_readWill_58 : decode cX8_readWill 58 = .ok (.istore 4, 2) := dk_of dkAa93 (i := 2) rfl
theorem dX8_readWill_60 : decode cX8_readWill 60 = .ok (.aload_n 0, 1) := dk_of dkAa93 (i := 3) rfl
theorem dX8_readWill_61 : decode cX8_readWill 61 = .ok (.bipush 59, 2) := dk_of dkAa93 (i := 4) rfl
theorem dX8_readWill_63 : decode cX8_readWill 63 = .ok (.invokevirtual 71, 3) := dk_of dkAa93 (i := 5) rfl
theorem dX8_readWill_66 : decode cX8_readWill 66 = .ok (.ifCond .eq 11, 3) := dk_of dkAa93 (i := 6) rfl
theorem dX8_readWill_69 : decode cX8_readWill 69 = .ok (.aload_n 1, 1) := dk_of dkAa93 (i := 7) rfl
theorem dX8_readWill_70 : decode cX8_readWill 70 = .ok (.iload_n 2, 1) := dk_of dkAa93 (i := 8) rfl
theorem dX8_readWill_71 : decode cX8_readWill 71 = .ok (.iload_n 3, 1) := dk_of dkAa93 (i := 9) rfl
theorem dX8_readWill_72 : decode cX8_readWill 72 = .ok (.iload 4, 2) := dk_of dkAa93 (i := 10) rfl
theorem dX8_readWill_74 : decode cX8_readWill 74 = .ok (.invokevirtual 89, 3) := dk_of dkAa93 (i := 11) rfl
theorem dX8_readWill_77 : decode cX8_readWill 77 = .ok (.return_, 1) := dk_of dkAa93 (i := 12) rfl
def dkLa94 : List (Nat × Instr × Nat) := [(0, .aload_n 0, 1), (1, .bipush 9, 2), (3, .invokevirtual 67, 3), (6, .istore_n 3, 1), (7, .aload_n 0, 1), (8, .invokevirtual 36, 3), (11, .ifCond .eq 43, 3), (14, .iload_n 3, 1), (15, .bipush 9, 2), (17, .if_icmp .eq 37, 3), (20, .aload_n 1, 1), (21, .iload_n 3, 1), (22, .invokevirtual 93, 3), (25, .ifCond .ne 15, 3), (28, .aload_n 0, 1), (29, .iconst 2, 1), (30, .aload_n 0, 1), (31, .getfield 82, 3), (34, .invokevirtual 60, 3), (37, .goto 17, 3), (40, .iload_n 3, 1), (41, .iload_n 2, 1), (42, .if_icmp .ne 12, 3), (45, .aload_n 0, 1), (46, .iconst 4, 1), (47, .aload_n 0, 1), (48, .getfield 82, 3), (51, .invokevirtual 60, 3), (54, .iload_n 3, 1), (55, .ireturn, 1)]
set_option maxRecDepth 100000 in
theorem dkAa94 : ∀ q ∈ dkLa94, decode cX8_readHeir q.1 = .ok q.2 := by decide +kernel
theorem dX8_readHeir_0 : decode cX8_readHeir 0 = .ok (.aload_n 0, 1) := dk_of dkAa94 (i := 0) rfl
theorem dX8_readHeir_1 : decode cX8_readHeir 1 = .ok (.bipush 9, 2) := dk_of dkAa94 (i := 1) rfl
theorem dX8_readHeir_3 : decode cX8_readHeir 3 = .ok (.invokevirtual 67, 3) := dk_of dkAa94 (i := 2) rfl
theorem dX8_readHeir_6 : decode cX8_readHeir 6 = .ok (.istore_n 3, 1) := dk_of dkAa94 (i := 3) rfl
theorem dX8_readHeir_7 : decode cX8_readHeir 7 = .ok (.aload_n 0, 1) := dk_of dkAa94 (i := 4) rfl
theorem dX8_readHeir_8 : decode cX8_readHeir 8 = .ok (.invokevirtual 36, 3) := dk_of dkAa94 (i := 5) rfl
theorem dX8_readHeir_11 : decode cX8_readHeir 11 = .ok (.ifCond .eq 43, 3) := dk_of dkAa94 (i := 6) rfl
theorem dX8_readHeir_14 : decode cX8_readHeir 14 = .ok (.iload_n 3, 1) := dk_of dkAa94 (i := 7) rfl
theorem dX8_readHeir_15 : decode cX8_readHeir 15 = .ok (.bipush 9, 2) := dk_of dkAa94 (i := 8) rfl
theorem dX8_readHeir_17 : decode cX8_readHeir 17 = .ok (.if_icmp .eq 37, 3) := dk_of dkAa94 (i := 9) rfl
theorem dX8_readHeir_20 : decode cX8_readHeir 20 = .ok (.aload_n 1, 1) := dk_of dkAa94 (i := 10) rfl
theorem dX8_readHeir_21 : decode cX8_readHeir 21 = .ok (.iload_n 3, 1) := dk_of dkAa94 (i := 11) rfl
theorem dX8_readHeir_22 : decode cX8_readHeir 22 = .ok (.invokevirtual 93, 3) := dk_of dkAa94 (i := 12) rfl
theorem dX8_readHeir_25 : decode cX8_readHeir 25 = .ok (.ifCond .ne 15, 3) := dk_of dkAa94 (i := 13) rfl
theorem dX8_readHeir_28 : decode cX8_readHeir 28 = .ok (.aload_n 0, 1) := dk_of dkAa94 (i := 14) rfl
theorem dX8_readHeir_29 : decode cX8_readHeir 29 = .ok (.iconst 2, 1) := dk_of dkAa94 (i := 15) rfl
theorem dX8_readHeir_30 : decode cX8_readHeir 30 = .ok (.aload_n 0, 1) := dk_of dkAa94 (i := 16) rfl
theorem dX8_readHeir_31 : decode cX8_readHeir 31 = .ok (.getfield 82, 3) := dk_of dkAa94 (i := 17) rfl
theorem dX8_readHeir_34 : decode cX8_readHeir 34 = .ok (.invokevirtual 60, 3) := dk_of dkAa94 (i := 18) rfl
theorem dX8_readHeir_37 : decode cX8_readHeir 37 = .ok (.goto 17, 3) := dk_of dkAa94 (i := 19) rfl
theorem dX8_readHeir_40 : decode cX8_readHeir 40 = .ok (.iload_n 3, 1) := dk_of dkAa94 (i := 20) rfl
theorem dX8_readHeir_41 : decode cX8_readHeir 41 = .ok (.iload_n 2, 1) := dk_of dkAa94 (i := 21) rfl
theorem dX8_readHeir_42 : decode cX8_readHeir 42 = .ok (.if_icmp .ne 12, 3) := dk_of dkAa94 (i := 22) rfl
theorem dX8_readHeir_45 : decode cX8_readHeir 45 = .ok (.aload_n 0, 1) := dk_of dkAa94 (i := 23) rfl
theorem dX8_readHeir_46 : decode cX8_readHeir 46 = .ok (.iconst 4, 1) := dk_of dkAa94 (i := 24) rfl
theorem dX8_readHeir_47 : decode cX8_readHeir 47 = .ok (.aload_n 0, 1) := dk_of dkAa94 (i := 25) rfl
theorem dX8_readHeir_48 : decode cX8_readHeir 48 = .ok (.getfield 82, 3) := dk_of dkAa94 (i := 26) rfl
theorem dX8_readHeir_51 : decode cX8_readHeir 51 = .ok (.invokevirtual 60, 3) := dk_of dkAa94 (i := 27) rfl
theorem dX8_readHeir_54 : decode cX8_readHeir 54 = .ok (.iload_n 3, 1) := dk_of dkAa94 (i := 28) rfl
theorem dX8_readHeir_55 : decode cX8_readHeir 55 = .ok (.ireturn, 1) := dk_of dkAa94 (i := 29) rfl
def dkLa95 : List (Nat × Instr × Nat) := [(0, .aload_n 1, 1), (1, .getfield 96, 3), (4, .bipush 6, 2), (6, .if_icmp .lt 13, 3), (9, .aload_n 0, 1), (10, .iconst 3, 1), (11, .aload_n 0, 1), (12, .getfield 27, 3), (15, .invokevirtual 60, 3), (18, .return_, 1), (19, .aload_n 0, 1), (20, .dup, 1), (21, .getfield 27, 3), (24, .iconst 1, 1), (25, .iadd, 1), (26, .putfield 27, 3), (29, .aload_n 0, 1), (30, .bipush 127, 2), (32, .invokevirtual 67, 3), (35, .istore_n 2, 1), (36, .aload_n 0, 1), (37, .bipush 59, 2), (39, .invokevirtual 71, 3), (42, .ifCond .eq 8, 3), (45, .aload_n 1, 1), (46, .iload_n 2, 1), (47, .invokevirtual 99, 3), (50, .return_, 1)]
set_option maxRecDepth 100000 in
theorem dkAa95 : ∀ q ∈ dkLa95, decode cX8_readDoor q.1 = .ok q.2 := by decide +kernel
theorem dX8_readDoor_0 : decode cX8_readDoor 0 = .ok (.aload_n 1, 1) := dk_of dkAa95 (i := 0) rfl
theorem dX8_readDoor_1 : decode cX8_readDoor 1 = .ok (.getfield 96, 3) := dk_of dkAa95 (i := 1) rfl
theorem dX8_readDoor_4 : decode cX8_readDoor 4 = .ok (.bipush 6, 2) := dk_of dkAa95 (i := 2) rfl
theorem dX8_readDoor_6 : decode cX8_readDoor 6 = .ok (.if_icmp .lt 13, 3) := dk_of dkAa95 (i := 3) rfl
theorem dX8_readDoor_9 : decode cX8_readDoor 9 = .ok (.aload_n 0, 1) := dk_of dkAa95 (i := 4) rfl
theorem dX8_readDoor_10 : decode cX8_readDoor 10 = .ok (.iconst 3, 1) := dk_of dkAa95 (i := 5) rfl
theorem dX8_readDoor_11 : decode cX8_readDoor 11 = .ok (.aload_n 0, 1) := dk_of dkAa95 (i := 6) rfl
theorem dX8_readDoor_12 : decode cX8_readDoor 12 = .ok (.getfield 27, 3) := dk_of dkAa95 (i := 7) rfl
theorem dX8_readDoor_15 : decode cX8_readDoor 15 = .ok (.invokevirtual 60, 3) := dk_of dkAa95 (i := 8) rfl
theorem dX8_readDoor_18 : decode cX8_readDoor 18 = .ok (.return_, 1) := dk_of dkAa95 (i := 9) rfl
theorem dX8_readDoor_19 : decode cX8_readDoor 19 = .ok (.aload_n 0, 1) := dk_of dkAa95 (i := 10) rfl
theorem dX8_readDoor_20 : decode cX8_readDoor 20 = .ok (.dup, 1) := dk_of dkAa95 (i := 11) rfl
theorem dX8_readDoor_21 : decode cX8_readDoor 21 = .ok (.getfield 27, 3) := dk_of dkAa95 (i := 12) rfl
theorem dX8_readDoor_24 : decode cX8_readDoor 24 = .ok (.iconst 1, 1) := dk_of dkAa95 (i := 13) rfl
theorem dX8_readDoor_25 : decode cX8_readDoor 25 = .ok (.iadd, 1) := dk_of dkAa95 (i := 14) rfl
theorem dX8_readDoor_26 : decode cX8_readDoor 26 = .ok (.putfield 27, 3) := dk_of dkAa95 (i := 15) rfl
theorem dX8_readDoor_29 : decode cX8_readDoor 29 = .ok (.aload_n 0, 1) := dk_of dkAa95 (i := 16) rfl
theorem dX8_readDoor_30 : decode cX8_readDoor 30 = .ok (.bipush 127, 2) := dk_of dkAa95 (i := 17) rfl
theorem dX8_readDoor_32 : decode cX8_readDoor 32 = .ok (.invokevirtual 67, 3) := dk_of dkAa95 (i := 18) rfl
theorem dX8_readDoor_35 : decode cX8_readDoor 35 = .ok (.istore_n 2, 1) := dk_of dkAa95 (i := 19) rfl
theorem dX8_readDoor_36 : decode cX8_readDoor 36 = .ok (.aload_n 0, 1) := dk_of dkAa95 (i := 20) rfl
theorem dX8_readDoor_37 : decode cX8_readDoor 37 = .ok (.bipush 59, 2) := dk_of dkAa95 (i := 21) rfl
theorem dX8_readDoor_39 : decode cX8_readDoor 39 = .ok (.invokevirtual 71, 3) := dk_of dkAa95 (i := 22) rfl
theorem dX8_readDoor_42 : decode cX8_readDoor 42 = .ok (.ifCond .eq 8, 3) := dk_of dkAa95 (i := 23) rfl
theorem dX8_readDoor_45 : decode cX8_readDoor 45 = .ok (.aload_n 1, 1) := dk_of dkAa95 (i := 24) rfl
theorem dX8_readDoor_46 : decode cX8_readDoor 46 = .ok (.iload_n 2, 1) := dk_of dkAa95 (i := 25) rfl
theorem dX8_readDoor_47 : decode cX8_readDoor 47 = .ok (.invokevirtual 99, 3) := dk_of dkAa95 (i := 26) rfl
theorem dX8_readDoor_50 : decode cX8_readDoor 50 = .ok (.return_, 1) := dk_of dkAa95 (i := 27) rfl
def dkLa96 : List (Nat × Instr × Nat) := [(0, .aload_n 1, 1), (1, .getfield 102, 3), (4, .ifCond .le 13, 3), (7, .aload_n 0, 1), (8, .iconst 3, 1), (9, .aload_n 0, 1), (10, .getfield 27, 3), (13, .invokevirtual 60, 3), (16, .return_, 1), (17, .aload_n 0, 1), (18, .dup, 1), (19, .getfield 27, 3), (22, .iconst 1, 1), (23, .iadd, 1), (24, .putfield 27, 3), (27, .aload_n 1, 1), (28, .aload_n 0, 1), (29, .bipush 8, 2), (31, .invokevirtual 67, 3), (34, .invokevirtual 105, 3), (37, .iconst 1, 1), (38, .istore_n 2, 1), (39, .iload_n 2, 1), (40, .bipush 6, 2), (42, .if_icmp .ge 38, 3), (45, .aload_n 0, 1), (46, .bipush 44, 2), (48, .invokevirtual 108, 3), (51, .ifCond .eq 29, 3), (54, .aload_n 0, 1), (55, .dup, 1), (56, .getfield 27, 3)]
set_option maxRecDepth 100000 in
theorem dkAa96 : ∀ q ∈ dkLa96, decode cX8_readChoir q.1 = .ok q.2 := by decide +kernel
theorem dX8_readChoir_0 : decode cX8_readChoir 0 = .ok (.aload_n 1, 1) := dk_of dkAa96 (i := 0) rfl
theorem dX8_readChoir_1 : decode cX8_readChoir 1 = .ok (.getfield 102, 3) := dk_of dkAa96 (i := 1) rfl
theorem dX8_readChoir_4 : decode cX8_readChoir 4 = .ok (.ifCond .le 13, 3) := dk_of dkAa96 (i := 2) rfl
theorem dX8_readChoir_7 : decode cX8_readChoir 7 = .ok (.aload_n 0, 1) := dk_of dkAa96 (i := 3) rfl
theorem dX8_readChoir_8 : decode cX8_readChoir 8 = .ok (.iconst 3, 1) := dk_of dkAa96 (i := 4) rfl
theorem dX8_readChoir_9 : decode cX8_readChoir 9 = .ok (.aload_n 0, 1) := dk_of dkAa96 (i := 5) rfl
theorem dX8_readChoir_10 : decode cX8_readChoir 10 = .ok (.getfield 27, 3) := dk_of dkAa96 (i := 6) rfl
theorem dX8_readChoir_13 : decode cX8_readChoir 13 = .ok (.invokevirtual 60, 3) := dk_of dkAa96 (i := 7) rfl
theorem dX8_readChoir_16 : decode cX8_readChoir 16 = .ok (.return_, 1) := dk_of dkAa96 (i := 8) rfl
theorem dX8_readChoir_17 : decode cX8_readChoir 17 = .ok (.aload_n 0, 1) := dk_of dkAa96 (i := 9) rfl
theorem dX8_readChoir_18 : decode cX8_readChoir 18 = .ok (.dup, 1) := dk_of dkAa96 (i := 10) rfl
theorem dX8_readChoir_19 : decode cX8_readChoir 19 = .ok (.getfield 27, 3) := dk_of dkAa96 (i := 11) rfl
theorem dX8_readChoir_22 : decode cX8_readChoir 22 = .ok (.iconst 1, 1) := dk_of dkAa96 (i := 12) rfl
theorem dX8_readChoir_23 : decode cX8_readChoir 23 = .ok (.iadd, 1) := dk_of dkAa96 (i := 13) rfl
theorem dX8_readChoir_24 : decode cX8_readChoir 24 = .ok (.putfield 27, 3) := dk_of dkAa96 (i := 14) rfl
theorem dX8_readChoir_27 : decode cX8_readChoir 27 = .ok (.aload_n 1, 1) := dk_of dkAa96 (i := 15) rfl
theorem dX8_readChoir_28 : decode cX8_readChoir 28 = .ok (.aload_n 0, 1) := dk_of dkAa96 (i := 16) rfl
theorem dX8_readChoir_29 : decode cX8_readChoir 29 = .ok (.bipush 8, 2) := dk_of dkAa96 (i := 17) rfl
theorem dX8_readChoir_31 : decode cX8_readChoir 31 = .ok (.invokevirtual 67, 3) := dk_of dkAa96 (i := 18) rfl
theorem dX8_readChoir_34 : decode cX8_readChoir 34 = .ok (.invokevirtual 105, 3) := dk_of dkAa96 (i := 19) rfl
theorem dX8_readChoir_37 : decode cX8_readChoir 37 = .ok (.iconst 1, 1) := dk_of dkAa96 (i := 20) rfl
theorem dX8_readChoir_38 : decode cX8_readChoir 38 = .ok (.istore_n 2, 1) := dk_of dkAa96 (i := 21) rfl
theorem dX8_readChoir_39 : decode cX8_readChoir 39 = .ok (.iload_n 2, 1) := dk_of dkAa96 (i := 22) rfl
theorem dX8_readChoir_40 : decode cX8_readChoir 40 = .ok (.bipush 6, 2) := dk_of dkAa96 (i := 23) rfl
theorem dX8_readChoir_42 : decode cX8_readChoir 42 = .ok (.if_icmp .ge 38, 3) := dk_of dkAa96 (i := 24) rfl
theorem dX8_readChoir_45 : decode cX8_readChoir 45 = .ok (.aload_n 0, 1) := dk_of dkAa96 (i := 25) rfl
theorem dX8_readChoir_46 : decode cX8_readChoir 46 = .ok (.bipush 44, 2) := dk_of dkAa96 (i := 26) rfl
theorem dX8_readChoir_48 : decode cX8_readChoir 48 = .ok (.invokevirtual 108, 3) := dk_of dkAa96 (i := 27) rfl
theorem dX8_readChoir_51 : decode cX8_readChoir 51 = .ok (.ifCond .eq 29, 3) := dk_of dkAa96 (i := 28) rfl
theorem dX8_readChoir_54 : decode cX8_readChoir 54 = .ok (.aload_n 0, 1) := dk_of dkAa96 (i := 29) rfl
theorem dX8_readChoir_55 : decode cX8_readChoir 55 = .ok (.dup, 1) := dk_of dkAa96 (i := 30) rfl
theorem dX8_readChoir_56 : decode cX8_readChoir 56 = .ok (.getfield 27, 3) := dk_of dkAa96 (i := 31) rfl
def dkLa97 : List (Nat × Instr × Nat) := [(59, .iconst 1, 1), (60, .iadd, 1), (61, .putfield 27, 3), (64, .aload_n 1, 1), (65, .aload_n 0, 1), (66, .bipush 8, 2), (68, .invokevirtual 67, 3), (71, .invokevirtual 105, 3), (74, .iinc 2 1, 3), (77, .goto (-38), 3), (80, .aload_n 0, 1), (81, .bipush 59, 2), (83, .invokevirtual 71, 3), (86, .pop, 1), (87, .return_, 1)]
set_option maxRecDepth 100000 in
theorem dkAa97 : ∀ q ∈ dkLa97, decode cX8_readChoir q.1 = .ok q.2 := by decide +kernel
theorem dX8_readChoir_59 : decode cX8_readChoir 59 = .ok (.iconst 1, 1) := dk_of dkAa97 (i := 0) rfl
theorem dX8_readChoir_60 : decode cX8_readChoir 60 = .ok (.iadd, 1) := dk_of dkAa97 (i := 1) rfl
theorem dX8_readChoir_61 : decode cX8_readChoir 61 = .ok (.putfield 27, 3) := dk_of dkAa97 (i := 2) rfl
theorem dX8_readChoir_64 : decode cX8_readChoir 64 = .ok (.aload_n 1, 1) := dk_of dkAa97 (i := 3) rfl
theorem dX8_readChoir_65 : decode cX8_readChoir 65 = .ok (.aload_n 0, 1) := dk_of dkAa97 (i := 4) rfl
theorem dX8_readChoir_66 : decode cX8_readChoir 66 = .ok (.bipush 8, 2) := dk_of dkAa97 (i := 5) rfl
theorem dX8_readChoir_68 : decode cX8_readChoir 68 = .ok (.invokevirtual 67, 3) := dk_of dkAa97 (i := 6) rfl
theorem dX8_readChoir_71 : decode cX8_readChoir 71 = .ok (.invokevirtual 105, 3) := dk_of dkAa97 (i := 7) rfl
theorem dX8_readChoir_74 : decode cX8_readChoir 74 = .ok (.iinc 2 1, 3) := dk_of dkAa97 (i := 8) rfl
theorem dX8_readChoir_77 : decode cX8_readChoir 77 = .ok (.goto (-38), 3) := dk_of dkAa97 (i := 9) rfl
theorem dX8_readChoir_80 : decode cX8_readChoir 80 = .ok (.aload_n 0, 1) := dk_of dkAa97 (i := 10) rfl
theorem dX8_readChoir_81 : decode cX8_readChoir 81 = .ok (.bipush 59, 2) := dk_of dkAa97 (i := 11) rfl
theorem dX8_readChoir_83 : decode cX8_readChoir 83 = .ok (.invokevirtual 71, 3) := dk_of dkAa97 (i := 12) rfl
theorem dX8_readChoir_86 : decode cX8_readChoir 86 = .ok (.pop, 1) := dk_of dkAa97 (i := 13) rfl
theorem dX8_readChoir_87 : decode cX8_readChoir 87 = .ok (.return_, 1) := dk_of dkAa97 (i := 14) rfl
def dkLa98 : List (Nat × Instr × Nat) := [(0, .aload_n 0, 1), (1, .invokevirtual 36, 3), (4, .ifCond .ne 5, 3), (7, .iconst (-1), 1), (8, .ireturn, 1), (9, .aload_n 0, 1), (10, .invokevirtual 33, 3), (13, .aload_n 0, 1), (14, .aload_n 0, 1), (15, .getfield 27, 3), (18, .putfield 82, 3), (21, .iconst 0, 1), (22, .istore_n 2, 1), (23, .iconst 0, 1), (24, .istore_n 3, 1), (25, .aload_n 0, 1), (26, .getfield 27, 3), (29, .aload_n 0, 1), (30, .getfield 19, 3), (33, .if_icmp .ge 51, 3), (36, .aload_n 0, 1), (37, .invokevirtual 44, 3), (40, .invokestatic 111, 3), (43, .ifCond .eq 41, 3), (46, .iinc 2 1, 3), (49, .iload_n 2, 1), (50, .iconst 3, 1), (51, .if_icmp .le 7, 3), (54, .iload_n 3, 1), (55, .goto 15, 3), (58, .bipush 10, 2), (60, .iload_n 3, 1)]
set_option maxRecDepth 100000 in
theorem dkAa98 : ∀ q ∈ dkLa98, decode cX8_readNumber q.1 = .ok q.2 := by decide +kernel
theorem dX8_readNumber_0 : decode cX8_readNumber 0 = .ok (.aload_n 0, 1) := dk_of dkAa98 (i := 0) rfl
theorem dX8_readNumber_1 : decode cX8_readNumber 1 = .ok (.invokevirtual 36, 3) := dk_of dkAa98 (i := 1) rfl
theorem dX8_readNumber_4 : decode cX8_readNumber 4 = .ok (.ifCond .ne 5, 3) := dk_of dkAa98 (i := 2) rfl
theorem dX8_readNumber_7 : decode cX8_readNumber 7 = .ok (.iconst (-1), 1) := dk_of dkAa98 (i := 3) rfl
theorem dX8_readNumber_8 : decode cX8_readNumber 8 = .ok (.ireturn, 1) := dk_of dkAa98 (i := 4) rfl
theorem dX8_readNumber_9 : decode cX8_readNumber 9 = .ok (.aload_n 0, 1) := dk_of dkAa98 (i := 5) rfl
theorem dX8_readNumber_10 : decode cX8_readNumber 10 = .ok (.invokevirtual 33, 3) := dk_of dkAa98 (i := 6) rfl
theorem dX8_readNumber_13 : decode cX8_readNumber 13 = .ok (.aload_n 0, 1) := dk_of dkAa98 (i := 7) rfl
theorem dX8_readNumber_14 : decode cX8_readNumber 14 = .ok (.aload_n 0, 1) := dk_of dkAa98 (i := 8) rfl
theorem dX8_readNumber_15 : decode cX8_readNumber 15 = .ok (.getfield 27, 3) := dk_of dkAa98 (i := 9) rfl
theorem dX8_readNumber_18 : decode cX8_readNumber 18 = .ok (.putfield 82, 3) := dk_of dkAa98 (i := 10) rfl
theorem dX8_readNumber_21 : decode cX8_readNumber 21 = .ok (.iconst 0, 1) := dk_of dkAa98 (i := 11) rfl
theorem dX8_readNumber_22 : decode cX8_readNumber 22 = .ok (.istore_n 2, 1) := dk_of dkAa98 (i := 12) rfl
theorem dX8_readNumber_23 : decode cX8_readNumber 23 = .ok (.iconst 0, 1) := dk_of dkAa98 (i := 13) rfl
theorem dX8_readNumber_24 : decode cX8_readNumber 24 = .ok (.istore_n 3, 1) := dk_of dkAa98 (i := 14) rfl
theorem dX8_readNumber_25 : decode cX8_readNumber 25 = .ok (.aload_n 0, 1) := dk_of dkAa98 (i := 15) rfl
theorem dX8_readNumber_26 : decode cX8_readNumber 26 = .ok (.getfield 27, 3) := dk_of dkAa98 (i := 16) rfl
theorem dX8_readNumber_29 : decode cX8_readNumber 29 = .ok (.aload_n 0, 1) := dk_of dkAa98 (i := 17) rfl
theorem dX8_readNumber_30 : decode cX8_readNumber 30 = .ok (.getfield 19, 3) := dk_of dkAa98 (i := 18) rfl
theorem dX8_readNumber_33 : decode cX8_readNumber 33 = .ok (.if_icmp .ge 51, 3) := dk_of dkAa98 (i := 19) rfl
theorem dX8_readNumber_36 : decode cX8_readNumber 36 = .ok (.aload_n 0, 1) := dk_of dkAa98 (i := 20) rfl
theorem dX8_readNumber_37 : decode cX8_readNumber 37 = .ok (.invokevirtual 44, 3) := dk_of dkAa98 (i := 21) rfl
theorem dX8_readNumber_40 : decode cX8_readNumber 40 = .ok (.invokestatic 111, 3) := dk_of dkAa98 (i := 22) rfl
theorem dX8_readNumber_43 : decode cX8_readNumber 43 = .ok (.ifCond .eq 41, 3) := dk_of dkAa98 (i := 23) rfl
theorem dX8_readNumber_46 : decode cX8_readNumber 46 = .ok (.iinc 2 1, 3) := dk_of dkAa98 (i := 24) rfl
theorem dX8_readNumber_49 : decode cX8_readNumber 49 = .ok (.iload_n 2, 1) := dk_of dkAa98 (i := 25) rfl
theorem dX8_readNumber_50 : decode cX8_readNumber 50 = .ok (.iconst 3, 1) := dk_of dkAa98 (i := 26) rfl
theorem dX8_readNumber_51 : decode cX8_readNumber 51 = .ok (.if_icmp .le 7, 3) := dk_of dkAa98 (i := 27) rfl
theorem dX8_readNumber_54 : decode cX8_readNumber 54 = .ok (.iload_n 3, 1) := dk_of dkAa98 (i := 28) rfl
theorem dX8_readNumber_55 : decode cX8_readNumber 55 = .ok (.goto 15, 3) := dk_of dkAa98 (i := 29) rfl
theorem dX8_readNumber_58 : decode cX8_readNumber 58 = .ok (.bipush 10, 2) := dk_of dkAa98 (i := 30) rfl
theorem dX8_readNumber_60 : decode cX8_readNumber 60 = .ok (.iload_n 3, 1) := dk_of dkAa98 (i := 31) rfl
def dkLa99 : List (Nat × Instr × Nat) := [(61, .imul, 1), (62, .aload_n 0, 1), (63, .invokevirtual 44, 3), (66, .iadd, 1), (67, .bipush 48, 2), (69, .isub, 1), (70, .istore_n 3, 1), (71, .aload_n 0, 1), (72, .dup, 1), (73, .getfield 27, 3), (76, .iconst 1, 1), (77, .iadd, 1), (78, .putfield 27, 3), (81, .goto (-56), 3), (84, .iload_n 2, 1), (85, .ifCond .ne 15, 3), (88, .aload_n 0, 1), (89, .iconst 1, 1), (90, .aload_n 0, 1), (91, .getfield 27, 3), (94, .invokevirtual 60, 3), (97, .goto 22, 3), (100, .iload_n 2, 1), (101, .iconst 3, 1), (102, .if_icmp .gt 8, 3), (105, .iload_n 3, 1), (106, .iload_n 1, 1), (107, .if_icmp .le 12, 3), (110, .aload_n 0, 1), (111, .iconst 2, 1), (112, .aload_n 0, 1), (113, .getfield 82, 3)]
set_option maxRecDepth 100000 in
theorem dkAa99 : ∀ q ∈ dkLa99, decode cX8_readNumber q.1 = .ok q.2 := by decide +kernel
theorem dX8_readNumber_61 : decode cX8_readNumber 61 = .ok (.imul, 1) := dk_of dkAa99 (i := 0) rfl
theorem dX8_readNumber_62 : decode cX8_readNumber 62 = .ok (.aload_n 0, 1) := dk_of dkAa99 (i := 1) rfl
theorem dX8_readNumber_63 : decode cX8_readNumber 63 = .ok (.invokevirtual 44, 3) := dk_of dkAa99 (i := 2) rfl
theorem dX8_readNumber_66 : decode cX8_readNumber 66 = .ok (.iadd, 1) := dk_of dkAa99 (i := 3) rfl
theorem dX8_readNumber_67 : decode cX8_readNumber 67 = .ok (.bipush 48, 2) := dk_of dkAa99 (i := 4) rfl
theorem dX8_readNumber_69 : decode cX8_readNumber 69 = .ok (.isub, 1) := dk_of dkAa99 (i := 5) rfl
theorem dX8_readNumber_70 : decode cX8_readNumber 70 = .ok (.istore_n 3, 1) := dk_of dkAa99 (i := 6) rfl
theorem dX8_readNumber_71 : decode cX8_readNumber 71 = .ok (.aload_n 0, 1) := dk_of dkAa99 (i := 7) rfl
theorem dX8_readNumber_72 : decode cX8_readNumber 72 = .ok (.dup, 1) := dk_of dkAa99 (i := 8) rfl
theorem dX8_readNumber_73 : decode cX8_readNumber 73 = .ok (.getfield 27, 3) := dk_of dkAa99 (i := 9) rfl
theorem dX8_readNumber_76 : decode cX8_readNumber 76 = .ok (.iconst 1, 1) := dk_of dkAa99 (i := 10) rfl
theorem dX8_readNumber_77 : decode cX8_readNumber 77 = .ok (.iadd, 1) := dk_of dkAa99 (i := 11) rfl
theorem dX8_readNumber_78 : decode cX8_readNumber 78 = .ok (.putfield 27, 3) := dk_of dkAa99 (i := 12) rfl
theorem dX8_readNumber_81 : decode cX8_readNumber 81 = .ok (.goto (-56), 3) := dk_of dkAa99 (i := 13) rfl
theorem dX8_readNumber_84 : decode cX8_readNumber 84 = .ok (.iload_n 2, 1) := dk_of dkAa99 (i := 14) rfl
theorem dX8_readNumber_85 : decode cX8_readNumber 85 = .ok (.ifCond .ne 15, 3) := dk_of dkAa99 (i := 15) rfl
theorem dX8_readNumber_88 : decode cX8_readNumber 88 = .ok (.aload_n 0, 1) := dk_of dkAa99 (i := 16) rfl
theorem dX8_readNumber_89 : decode cX8_readNumber 89 = .ok (.iconst 1, 1) := dk_of dkAa99 (i := 17) rfl
theorem dX8_readNumber_90 : decode cX8_readNumber 90 = .ok (.aload_n 0, 1) := dk_of dkAa99 (i := 18) rfl
theorem dX8_readNumber_91 : decode cX8_readNumber 91 = .ok (.getfield 27, 3) := dk_of dkAa99 (i := 19) rfl
theorem dX8_readNumber_94 : decode cX8_readNumber 94 = .ok (.invokevirtual 60, 3) := dk_of dkAa99 (i := 20) rfl
theorem dX8_readNumber_97 : decode cX8_readNumber 97 = .ok (.goto 22, 3) := dk_of dkAa99 (i := 21) rfl
theorem dX8_readNumber_100 : decode cX8_readNumber 100 = .ok (.iload_n 2, 1) := dk_of dkAa99 (i := 22) rfl
theorem dX8_readNumber_101 : decode cX8_readNumber 101 = .ok (.iconst 3, 1) := dk_of dkAa99 (i := 23) rfl
theorem dX8_readNumber_102 : decode cX8_readNumber 102 = .ok (.if_icmp .gt 8, 3) := dk_of dkAa99 (i := 24) rfl
theorem dX8_readNumber_105 : decode cX8_readNumber 105 = .ok (.iload_n 3, 1) := dk_of dkAa99 (i := 25) rfl
theorem dX8_readNumber_106 : decode cX8_readNumber 106 = .ok (.iload_n 1, 1) := dk_of dkAa99 (i := 26) rfl
theorem dX8_readNumber_107 : decode cX8_readNumber 107 = .ok (.if_icmp .le 12, 3) := dk_of dkAa99 (i := 27) rfl
theorem dX8_readNumber_110 : decode cX8_readNumber 110 = .ok (.aload_n 0, 1) := dk_of dkAa99 (i := 28) rfl
theorem dX8_readNumber_111 : decode cX8_readNumber 111 = .ok (.iconst 2, 1) := dk_of dkAa99 (i := 29) rfl
theorem dX8_readNumber_112 : decode cX8_readNumber 112 = .ok (.aload_n 0, 1) := dk_of dkAa99 (i := 30) rfl
theorem dX8_readNumber_113 : decode cX8_readNumber 113 = .ok (.getfield 82, 3) := dk_of dkAa99 (i := 31) rfl
def dkLa100 : List (Nat × Instr × Nat) := [(116, .invokevirtual 60, 3), (119, .aload_n 0, 1), (120, .invokevirtual 36, 3), (123, .ifCond .eq 7, 3), (126, .iload_n 3, 1), (127, .goto 4, 3), (130, .iconst (-1), 1), (131, .ireturn, 1)]
set_option maxRecDepth 100000 in
theorem dkAa100 : ∀ q ∈ dkLa100, decode cX8_readNumber q.1 = .ok q.2 := by decide +kernel
theorem dX8_readNumber_116 : decode cX8_readNumber 116 = .ok (.invokevirtual 60, 3) := dk_of dkAa100 (i := 0) rfl
theorem dX8_readNumber_119 : decode cX8_readNumber 119 = .ok (.aload_n 0, 1) := dk_of dkAa100 (i := 1) rfl
theorem dX8_readNumber_120 : decode cX8_readNumber 120 = .ok (.invokevirtual 36, 3) := dk_of dkAa100 (i := 2) rfl
theorem dX8_readNumber_123 : decode cX8_readNumber 123 = .ok (.ifCond .eq 7, 3) := dk_of dkAa100 (i := 3) rfl
theorem dX8_readNumber_126 : decode cX8_readNumber 126 = .ok (.iload_n 3, 1) := dk_of dkAa100 (i := 4) rfl
theorem dX8_readNumber_127 : decode cX8_readNumber 127 = .ok (.goto 4, 3) := dk_of dkAa100 (i := 5) rfl
theorem dX8_readNumber_130 : decode cX8_readNumber 130 = .ok (.iconst (-1), 1) := dk_of dkAa100 (i := 6) rfl
theorem dX8_readNumber_131 : decode cX8_readNumber 131 = .ok (.ireturn, 1) := dk_of dkAa100 (i := 7) rfl
def dkLa101 : List (Nat × Instr × Nat) := [(0, .aload_n 0, 1), (1, .iload_n 1, 1), (2, .invokevirtual 108, 3), (5, .ifCond .eq 15, 3), (8, .aload_n 0, 1), (9, .dup, 1), (10, .getfield 27, 3), (13, .iconst 1, 1), (14, .iadd, 1), (15, .putfield 27, 3), (18, .iconst 1, 1), (19, .ireturn, 1), (20, .aload_n 0, 1), (21, .iconst 1, 1), (22, .aload_n 0, 1), (23, .getfield 27, 3), (26, .invokevirtual 60, 3), (29, .iconst 0, 1), (30, .ireturn, 1)]
set_option maxRecDepth 100000 in
theorem dkAa101 : ∀ q ∈ dkLa101, decode cX8_readSign q.1 = .ok q.2 := by decide +kernel
theorem dX8_readSign_0 : decode cX8_readSign 0 = .ok (.aload_n 0, 1) := dk_of dkAa101 (i := 0) rfl
theorem dX8_readSign_1 : decode cX8_readSign 1 = .ok (.iload_n 1, 1) := dk_of dkAa101 (i := 1) rfl
theorem dX8_readSign_2 : decode cX8_readSign 2 = .ok (.invokevirtual 108, 3) := dk_of dkAa101 (i := 2) rfl
theorem dX8_readSign_5 : decode cX8_readSign 5 = .ok (.ifCond .eq 15, 3) := dk_of dkAa101 (i := 3) rfl
theorem dX8_readSign_8 : decode cX8_readSign 8 = .ok (.aload_n 0, 1) := dk_of dkAa101 (i := 4) rfl
theorem dX8_readSign_9 : decode cX8_readSign 9 = .ok (.dup, 1) := dk_of dkAa101 (i := 5) rfl
theorem dX8_readSign_10 : decode cX8_readSign 10 = .ok (.getfield 27, 3) := dk_of dkAa101 (i := 6) rfl
theorem dX8_readSign_13 : decode cX8_readSign 13 = .ok (.iconst 1, 1) := dk_of dkAa101 (i := 7) rfl
theorem dX8_readSign_14 : decode cX8_readSign 14 = .ok (.iadd, 1) := dk_of dkAa101 (i := 8) rfl
theorem dX8_readSign_15 : decode cX8_readSign 15 = .ok (.putfield 27, 3) := dk_of dkAa101 (i := 9) rfl
theorem dX8_readSign_18 : decode cX8_readSign 18 = .ok (.iconst 1, 1) := dk_of dkAa101 (i := 10) rfl
theorem dX8_readSign_19 : decode cX8_readSign 19 = .ok (.ireturn, 1) := dk_of dkAa101 (i := 11) rfl
theorem dX8_readSign_20 : decode cX8_readSign 20 = .ok (.aload_n 0, 1) := dk_of dkAa101 (i := 12) rfl
theorem dX8_readSign_21 : decode cX8_readSign 21 = .ok (.iconst 1, 1) := dk_of dkAa101 (i := 13) rfl
theorem dX8_readSign_22 : decode cX8_readSign 22 = .ok (.aload_n 0, 1) := dk_of dkAa101 (i := 14) rfl
theorem dX8_readSign_23 : decode cX8_readSign 23 = .ok (.getfield 27, 3) := dk_of dkAa101 (i := 15) rfl
theorem dX8_readSign_26 : decode cX8_readSign 26 = .ok (.invokevirtual 60, 3) := dk_of dkAa101 (i := 16) rfl
theorem dX8_readSign_29 : decode cX8_readSign 29 = .ok (.iconst 0, 1) := dk_of dkAa101 (i := 17) rfl
theorem dX8_readSign_30 : decode cX8_readSign 30 = .ok (.ireturn, 1) := dk_of dkAa101 (i := 18) rfl
def dkLa102 : List (Nat × Instr × Nat) := [(0, .aload_n 0, 1), (1, .invokevirtual 36, 3), (4, .ifCond .ne 5, 3), (7, .iconst 0, 1), (8, .ireturn, 1), (9, .aload_n 0, 1), (10, .invokevirtual 33, 3), (13, .aload_n 0, 1), (14, .invokevirtual 44, 3), (17, .iload_n 1, 1), (18, .if_icmp .ne 7, 3), (21, .iconst 1, 1), (22, .goto 4, 3), (25, .iconst 0, 1), (26, .ireturn, 1)]
set_option maxRecDepth 100000 in
theorem dkAa102 : ∀ q ∈ dkLa102, decode cX8_isNext q.1 = .ok q.2 := by decide +kernel
theorem dX8_isNext_0 : decode cX8_isNext 0 = .ok (.aload_n 0, 1) := dk_of dkAa102 (i := 0) rfl
theorem dX8_isNext_1 : decode cX8_isNext 1 = .ok (.invokevirtual 36, 3) := dk_of dkAa102 (i := 1) rfl
theorem dX8_isNext_4 : decode cX8_isNext 4 = .ok (.ifCond .ne 5, 3) := dk_of dkAa102 (i := 2) rfl
theorem dX8_isNext_7 : decode cX8_isNext 7 = .ok (.iconst 0, 1) := dk_of dkAa102 (i := 3) rfl
theorem dX8_isNext_8 : decode cX8_isNext 8 = .ok (.ireturn, 1) := dk_of dkAa102 (i := 4) rfl
theorem dX8_isNext_9 : decode cX8_isNext 9 = .ok (.aload_n 0, 1) := dk_of dkAa102 (i := 5) rfl
theorem dX8_isNext_10 : decode cX8_isNext 10 = .ok (.invokevirtual 33, 3) := dk_of dkAa102 (i := 6) rfl
theorem dX8_isNext_13 : decode cX8_isNext 13 = .ok (.aload_n 0, 1) := dk_of dkAa102 (i := 7) rfl
theorem dX8_isNext_14 : decode cX8_isNext 14 = .ok (.invokevirtual 44, 3) := dk_of dkAa102 (i := 8) rfl
theorem dX8_isNext_17 : decode cX8_isNext 17 = .ok (.iload_n 1, 1) := dk_of dkAa102 (i := 9) rfl
theorem dX8_isNext_18 : decode cX8_isNext 18 = .ok (.if_icmp .ne 7, 3) := dk_of dkAa102 (i := 10) rfl
theorem dX8_isNext_21 : decode cX8_isNext 21 = .ok (.iconst 1, 1) := dk_of dkAa102 (i := 11) rfl
theorem dX8_isNext_22 : decode cX8_isNext 22 = .ok (.goto 4, 3) := dk_of dkAa102 (i := 12) rfl
theorem dX8_isNext_25 : decode cX8_isNext 25 = .ok (.iconst 0, 1) := dk_of dkAa102 (i := 13) rfl
theorem dX8_isNext_26 : decode cX8_isNext 26 = .ok (.ireturn, 1) := dk_of dkAa102 (i := 14) rfl
def dkLa103 : List (Nat × Instr × Nat) := [(0, .aload_n 0, 1), (1, .getfield 27, 3), (4, .aload_n 0, 1), (5, .getfield 19, 3), (8, .if_icmp .ge 42, 3), (11, .aload_n 0, 1), (12, .getfield 27, 3), (15, .aload_n 0, 1), (16, .getfield 15, 3), (19, .arraylength, 1), (20, .if_icmp .ge 30, 3), (23, .aload_n 0, 1), (24, .getfield 15, 3), (27, .aload_n 0, 1), (28, .getfield 27, 3), (31, .iaload, 1), (32, .bipush 32, 2), (34, .if_icmp .ne 16, 3), (37, .aload_n 0, 1), (38, .dup, 1), (39, .getfield 27, 3), (42, .iconst 1, 1), (43, .iadd, 1), (44, .putfield 27, 3), (47, .goto (-47), 3), (50, .return_, 1)]
set_option maxRecDepth 100000 in
theorem dkAa103 : ∀ q ∈ dkLa103, decode cX8_skipBlanks q.1 = .ok q.2 := by decide +kernel
theorem dX8_skipBlanks_0 : decode cX8_skipBlanks 0 = .ok (.aload_n 0, 1) := dk_of dkAa103 (i := 0) rfl
theorem dX8_skipBlanks_1 : decode cX8_skipBlanks 1 = .ok (.getfield 27, 3) := dk_of dkAa103 (i := 1) rfl
theorem dX8_skipBlanks_4 : decode cX8_skipBlanks 4 = .ok (.aload_n 0, 1) := dk_of dkAa103 (i := 2) rfl
theorem dX8_skipBlanks_5 : decode cX8_skipBlanks 5 = .ok (.getfield 19, 3) := dk_of dkAa103 (i := 3) rfl
theorem dX8_skipBlanks_8 : decode cX8_skipBlanks 8 = .ok (.if_icmp .ge 42, 3) := dk_of dkAa103 (i := 4) rfl
theorem dX8_skipBlanks_11 : decode cX8_skipBlanks 11 = .ok (.aload_n 0, 1) := dk_of dkAa103 (i := 5) rfl
theorem dX8_skipBlanks_12 : decode cX8_skipBlanks 12 = .ok (.getfield 27, 3) := dk_of dkAa103 (i := 6) rfl
theorem dX8_skipBlanks_15 : decode cX8_skipBlanks 15 = .ok (.aload_n 0, 1) := dk_of dkAa103 (i := 7) rfl
theorem dX8_skipBlanks_16 : decode cX8_skipBlanks 16 = .ok (.getfield 15, 3) := dk_of dkAa103 (i := 8) rfl
theorem dX8_skipBlanks_19 : decode cX8_skipBlanks 19 = .ok (.arraylength, 1) := dk_of dkAa103 (i := 9) rfl
theorem dX8_skipBlanks_20 : decode cX8_skipBlanks 20 = .ok (.if_icmp .ge 30, 3) := dk_of dkAa103 (i := 10) rfl
theorem dX8_skipBlanks_23 : decode cX8_skipBlanks 23 = .ok (.aload_n 0, 1) := dk_of dkAa103 (i := 11) rfl
theorem dX8_skipBlanks_24 : decode cX8_skipBlanks 24 = .ok (.getfield 15, 3) := dk_of dkAa103 (i := 12) rfl
theorem dX8_skipBlanks_27 : decode cX8_skipBlanks 27 = .ok (.aload_n 0, 1) := dk_of dkAa103 (i := 13) rfl
theorem dX8_skipBlanks_28 : decode cX8_skipBlanks 28 = .ok (.getfield 27, 3) := dk_of dkAa103 (i := 14) rfl
theorem dX8_skipBlanks_31 : decode cX8_skipBlanks 31 = .ok (.iaload, 1) := dk_of dkAa103 (i := 15) rfl
theorem dX8_skipBlanks_32 : decode cX8_skipBlanks 32 = .ok (.bipush 32, 2) := dk_of dkAa103 (i := 16) rfl
theorem dX8_skipBlanks_34 : decode cX8_skipBlanks 34 = .ok (.if_icmp .ne 16, 3) := dk_of dkAa103 (i := 17) rfl
theorem dX8_skipBlanks_37 : decode cX8_skipBlanks 37 = .ok (.aload_n 0, 1) := dk_of dkAa103 (i := 18) rfl
theorem dX8_skipBlanks_38 : decode cX8_skipBlanks 38 = .ok (.dup, 1) := dk_of dkAa103 (i := 19) rfl
theorem dX8_skipBlanks_39 : decode cX8_skipBlanks 39 = .ok (.getfield 27, 3) := dk_of dkAa103 (i := 20) rfl
theorem dX8_skipBlanks_42 : decode cX8_skipBlanks 42 = .ok (.iconst 1, 1) := dk_of dkAa103 (i := 21) rfl
theorem dX8_skipBlanks_43 : decode cX8_skipBlanks 43 = .ok (.iadd, 1) := dk_of dkAa103 (i := 22) rfl
theorem dX8_skipBlanks_44 : decode cX8_skipBlanks 44 = .ok (.putfield 27, 3) := dk_of dkAa103 (i := 23) rfl
theorem dX8_skipBlanks_47 : decode cX8_skipBlanks 47 = .ok (.goto (-47), 3) := dk_of dkAa103 (i := 24) rfl
theorem dX8_skipBlanks_50 : decode cX8_skipBlanks 50 = .ok (.return_, 1) := dk_of dkAa103 (i := 25) rfl
def dkLa104 : List (Nat × Instr × Nat) := [(0, .aload_n 0, 1), (1, .getfield 27, 3), (4, .aload_n 0, 1), (5, .getfield 19, 3), (8, .if_icmp .ge 27, 3), (11, .aload_n 0, 1), (12, .getfield 27, 3), (15, .aload_n 0, 1), (16, .getfield 15, 3), (19, .arraylength, 1), (20, .if_icmp .ge 15, 3), (23, .aload_n 0, 1), (24, .getfield 15, 3), (27, .aload_n 0, 1), (28, .getfield 27, 3), (31, .iaload, 1), (32, .goto 4, 3), (35, .iconst (-1), 1), (36, .ireturn, 1)]
set_option maxRecDepth 100000 in
theorem dkAa104 : ∀ q ∈ dkLa104, decode cX8_letterHere q.1 = .ok q.2 := by decide +kernel
theorem dX8_letterHere_0 : decode cX8_letterHere 0 = .ok (.aload_n 0, 1) := dk_of dkAa104 (i := 0) rfl
theorem dX8_letterHere_1 : decode cX8_letterHere 1 = .ok (.getfield 27, 3) := dk_of dkAa104 (i := 1) rfl
theorem dX8_letterHere_4 : decode cX8_letterHere 4 = .ok (.aload_n 0, 1) := dk_of dkAa104 (i := 2) rfl
theorem dX8_letterHere_5 : decode cX8_letterHere 5 = .ok (.getfield 19, 3) := dk_of dkAa104 (i := 3) rfl
theorem dX8_letterHere_8 : decode cX8_letterHere 8 = .ok (.if_icmp .ge 27, 3) := dk_of dkAa104 (i := 4) rfl
theorem dX8_letterHere_11 : decode cX8_letterHere 11 = .ok (.aload_n 0, 1) := dk_of dkAa104 (i := 5) rfl
theorem dX8_letterHere_12 : decode cX8_letterHere 12 = .ok (.getfield 27, 3) := dk_of dkAa104 (i := 6) rfl
theorem dX8_letterHere_15 : decode cX8_letterHere 15 = .ok (.aload_n 0, 1) := dk_of dkAa104 (i := 7) rfl
theorem dX8_letterHere_16 : decode cX8_letterHere 16 = .ok (.getfield 15, 3) := dk_of dkAa104 (i := 8) rfl
theorem dX8_letterHere_19 : decode cX8_letterHere 19 = .ok (.arraylength, 1) := dk_of dkAa104 (i := 9) rfl
theorem dX8_letterHere_20 : decode cX8_letterHere 20 = .ok (.if_icmp .ge 15, 3) := dk_of dkAa104 (i := 10) rfl
theorem dX8_letterHere_23 : decode cX8_letterHere 23 = .ok (.aload_n 0, 1) := dk_of dkAa104 (i := 11) rfl
theorem dX8_letterHere_24 : decode cX8_letterHere 24 = .ok (.getfield 15, 3) := dk_of dkAa104 (i := 12) rfl
theorem dX8_letterHere_27 : decode cX8_letterHere 27 = .ok (.aload_n 0, 1) := dk_of dkAa104 (i := 13) rfl
theorem dX8_letterHere_28 : decode cX8_letterHere 28 = .ok (.getfield 27, 3) := dk_of dkAa104 (i := 14) rfl
theorem dX8_letterHere_31 : decode cX8_letterHere 31 = .ok (.iaload, 1) := dk_of dkAa104 (i := 15) rfl
theorem dX8_letterHere_32 : decode cX8_letterHere 32 = .ok (.goto 4, 3) := dk_of dkAa104 (i := 16) rfl
theorem dX8_letterHere_35 : decode cX8_letterHere 35 = .ok (.iconst (-1), 1) := dk_of dkAa104 (i := 17) rfl
theorem dX8_letterHere_36 : decode cX8_letterHere 36 = .ok (.ireturn, 1) := dk_of dkAa104 (i := 18) rfl
def dkLa105 : List (Nat × Instr × Nat) := [(0, .iload_n 0, 1), (1, .bipush 48, 2), (3, .if_icmp .lt 13, 3), (6, .iload_n 0, 1), (7, .bipush 57, 2), (9, .if_icmp .gt 7, 3), (12, .iconst 1, 1), (13, .goto 4, 3), (16, .iconst 0, 1), (17, .ireturn, 1)]
set_option maxRecDepth 100000 in
theorem dkAa105 : ∀ q ∈ dkLa105, decode cX8_isFigure q.1 = .ok q.2 := by decide +kernel
theorem dX8_isFigure_0 : decode cX8_isFigure 0 = .ok (.iload_n 0, 1) := dk_of dkAa105 (i := 0) rfl
theorem dX8_isFigure_1 : decode cX8_isFigure 1 = .ok (.bipush 48, 2) := dk_of dkAa105 (i := 1) rfl
theorem dX8_isFigure_3 : decode cX8_isFigure 3 = .ok (.if_icmp .lt 13, 3) := dk_of dkAa105 (i := 2) rfl
theorem dX8_isFigure_6 : decode cX8_isFigure 6 = .ok (.iload_n 0, 1) := dk_of dkAa105 (i := 3) rfl
theorem dX8_isFigure_7 : decode cX8_isFigure 7 = .ok (.bipush 57, 2) := dk_of dkAa105 (i := 4) rfl
theorem dX8_isFigure_9 : decode cX8_isFigure 9 = .ok (.if_icmp .gt 7, 3) := dk_of dkAa105 (i := 5) rfl
theorem dX8_isFigure_12 : decode cX8_isFigure 12 = .ok (.iconst 1, 1) := dk_of dkAa105 (i := 6) rfl
theorem dX8_isFigure_13 : decode cX8_isFigure 13 = .ok (.goto 4, 3) := dk_of dkAa105 (i := 7) rfl
theorem dX8_isFigure_16 : decode cX8_isFigure 16 = .ok (.iconst 0, 1) := dk_of dkAa105 (i := 8) rfl
theorem dX8_isFigure_17 : decode cX8_isFigure 17 = .ok (.ireturn, 1) := dk_of dkAa105 (i := 9) rfl
def dkLa106 : List (Nat × Instr × Nat) := [(0, .aload_n 0, 1), (1, .getfield 30, 3), (4, .ifCond .ne 7, 3), (7, .iconst 1, 1), (8, .goto 4, 3), (11, .iconst 0, 1), (12, .ireturn, 1)]
set_option maxRecDepth 100000 in
theorem dkAa106 : ∀ q ∈ dkLa106, decode cX8_isSound q.1 = .ok q.2 := by decide +kernel
theorem dX8_isSound_0 : decode cX8_isSound 0 = .ok (.aload_n 0, 1) := dk_of dkAa106 (i := 0) rfl
theorem dX8_isSound_1 : decode cX8_isSound 1 = .ok (.getfield 30, 3) := dk_of dkAa106 (i := 1) rfl
theorem dX8_isSound_4 : decode cX8_isSound 4 = .ok (.ifCond .ne 7, 3) := dk_of dkAa106 (i := 2) rfl
theorem dX8_isSound_7 : decode cX8_isSound 7 = .ok (.iconst 1, 1) := dk_of dkAa106 (i := 3) rfl
theorem dX8_isSound_8 : decode cX8_isSound 8 = .ok (.goto 4, 3) := dk_of dkAa106 (i := 4) rfl
theorem dX8_isSound_11 : decode cX8_isSound 11 = .ok (.iconst 0, 1) := dk_of dkAa106 (i := 5) rfl
theorem dX8_isSound_12 : decode cX8_isSound 12 = .ok (.ireturn, 1) := dk_of dkAa106 (i := 6) rfl
def dkLa107 : List (Nat × Instr × Nat) := [(0, .aload_n 0, 1), (1, .getfield 30, 3), (4, .ifCond .ne 13, 3), (7, .aload_n 0, 1), (8, .iload_n 1, 1), (9, .putfield 30, 3), (12, .aload_n 0, 1), (13, .iload_n 2, 1), (14, .putfield 9, 3), (17, .return_, 1)]
set_option maxRecDepth 100000 in
theorem dkAa107 : ∀ q ∈ dkLa107, decode cX8_blame q.1 = .ok q.2 := by decide +kernel
theorem dX8_blame_0 : decode cX8_blame 0 = .ok (.aload_n 0, 1) := dk_of dkAa107 (i := 0) rfl
theorem dX8_blame_1 : decode cX8_blame 1 = .ok (.getfield 30, 3) := dk_of dkAa107 (i := 1) rfl
theorem dX8_blame_4 : decode cX8_blame 4 = .ok (.ifCond .ne 13, 3) := dk_of dkAa107 (i := 2) rfl
theorem dX8_blame_7 : decode cX8_blame 7 = .ok (.aload_n 0, 1) := dk_of dkAa107 (i := 3) rfl
theorem dX8_blame_8 : decode cX8_blame 8 = .ok (.iload_n 1, 1) := dk_of dkAa107 (i := 4) rfl
theorem dX8_blame_9 : decode cX8_blame 9 = .ok (.putfield 30, 3) := dk_of dkAa107 (i := 5) rfl
theorem dX8_blame_12 : decode cX8_blame 12 = .ok (.aload_n 0, 1) := dk_of dkAa107 (i := 6) rfl
theorem dX8_blame_13 : decode cX8_blame 13 = .ok (.iload_n 2, 1) := dk_of dkAa107 (i := 7) rfl
theorem dX8_blame_14 : decode cX8_blame 14 = .ok (.putfield 9, 3) := dk_of dkAa107 (i := 8) rfl
theorem dX8_blame_17 : decode cX8_blame 17 = .ok (.return_, 1) := dk_of dkAa107 (i := 9) rfl
def dkLa108 : List (Nat × Instr × Nat) := [(0, .aload_n 0, 1), (1, .invokespecial 1, 3), (4, .aload_n 0, 1), (5, .new 7, 3), (8, .dup, 1), (9, .invokespecial 9, 3), (12, .putfield 10, 3), (15, .aload_n 0, 1), (16, .new 16, 3), (19, .dup, 1), (20, .invokespecial 18, 3), (23, .putfield 19, 3), (26, .aload_n 0, 1), (27, .new 16, 3), (30, .dup, 1), (31, .invokespecial 18, 3), (34, .putfield 23, 3), (37, .aload_n 0, 1), (38, .new 26, 3), (41, .dup, 1), (42, .invokespecial 28, 3), (45, .putfield 29, 3), (48, .aload_n 0, 1), (49, .new 26, 3), (52, .dup, 1), (53, .invokespecial 28, 3), (56, .putfield 33, 3), (59, .aload_n 0, 1), (60, .new 36, 3), (63, .dup, 1), (64, .invokespecial 38, 3), (67, .putfield 39, 3)]
set_option maxRecDepth 100000 in
theorem dkAa108 : ∀ q ∈ dkLa108, decode cX9_init q.1 = .ok q.2 := by decide +kernel
theorem dX9_init_0 : decode cX9_init 0 = .ok (.aload_n 0, 1) := dk_of dkAa108 (i := 0) rfl
theorem dX9_init_1 : decode cX9_init 1 = .ok (.invokespecial 1, 3) := dk_of dkAa108 (i := 1) rfl
theorem dX9_init_4 : decode cX9_init 4 = .ok (.aload_n 0, 1) := dk_of dkAa108 (i := 2) rfl
theorem dX9_init_5 : decode cX9_init 5 = .ok (.new 7, 3) := dk_of dkAa108 (i := 3) rfl
theorem dX9_init_8 : decode cX9_init 8 = .ok (.dup, 1) := dk_of dkAa108 (i := 4) rfl
theorem dX9_init_9 : decode cX9_init 9 = .ok (.invokespecial 9, 3) := dk_of dkAa108 (i := 5) rfl
theorem dX9_init_12 : decode cX9_init 12 = .ok (.putfield 10, 3) := dk_of dkAa108 (i := 6) rfl
theorem dX9_init_15 : decode cX9_init 15 = .ok (.aload_n 0, 1) := dk_of dkAa108 (i := 7) rfl
theorem dX9_init_16 : decode cX9_init 16 = .ok (.new 16, 3) := dk_of dkAa108 (i := 8) rfl
theorem dX9_init_19 : decode cX9_init 19 = .ok (.dup, 1) := dk_of dkAa108 (i := 9) rfl
theorem dX9_init_20 : decode cX9_init 20 = .ok (.invokespecial 18, 3) := dk_of dkAa108 (i := 10) rfl
theorem dX9_init_23 : decode cX9_init 23 = .ok (.putfield 19, 3) := dk_of dkAa108 (i := 11) rfl
theorem dX9_init_26 : decode cX9_init 26 = .ok (.aload_n 0, 1) := dk_of dkAa108 (i := 12) rfl
theorem dX9_init_27 : decode cX9_init 27 = .ok (.new 16, 3) := dk_of dkAa108 (i := 13) rfl
theorem dX9_init_30 : decode cX9_init 30 = .ok (.dup, 1) := dk_of dkAa108 (i := 14) rfl
theorem dX9_init_31 : decode cX9_init 31 = .ok (.invokespecial 18, 3) := dk_of dkAa108 (i := 15) rfl
theorem dX9_init_34 : decode cX9_init 34 = .ok (.putfield 23, 3) := dk_of dkAa108 (i := 16) rfl
theorem dX9_init_37 : decode cX9_init 37 = .ok (.aload_n 0, 1) := dk_of dkAa108 (i := 17) rfl
theorem dX9_init_38 : decode cX9_init 38 = .ok (.new 26, 3) := dk_of dkAa108 (i := 18) rfl
theorem dX9_init_41 : decode cX9_init 41 = .ok (.dup, 1) := dk_of dkAa108 (i := 19) rfl
theorem dX9_init_42 : decode cX9_init 42 = .ok (.invokespecial 28, 3) := dk_of dkAa108 (i := 20) rfl
theorem dX9_init_45 : decode cX9_init 45 = .ok (.putfield 29, 3) := dk_of dkAa108 (i := 21) rfl
theorem dX9_init_48 : decode cX9_init 48 = .ok (.aload_n 0, 1) := dk_of dkAa108 (i := 22) rfl
theorem dX9_init_49 : decode cX9_init 49 = .ok (.new 26, 3) := dk_of dkAa108 (i := 23) rfl
theorem dX9_init_52 : decode cX9_init 52 = .ok (.dup, 1) := dk_of dkAa108 (i := 24) rfl
theorem dX9_init_53 : decode cX9_init 53 = .ok (.invokespecial 28, 3) := dk_of dkAa108 (i := 25) rfl
theorem dX9_init_56 : decode cX9_init 56 = .ok (.putfield 33, 3) := dk_of dkAa108 (i := 26) rfl
theorem dX9_init_59 : decode cX9_init 59 = .ok (.aload_n 0, 1) := dk_of dkAa108 (i := 27) rfl
theorem dX9_init_60 : decode cX9_init 60 = .ok (.new 36, 3) := dk_of dkAa108 (i := 28) rfl
theorem dX9_init_63 : decode cX9_init 63 = .ok (.dup, 1) := dk_of dkAa108 (i := 29) rfl
theorem dX9_init_64 : decode cX9_init 64 = .ok (.invokespecial 38, 3) := dk_of dkAa108 (i := 30) rfl
theorem dX9_init_67 : decode cX9_init 67 = .ok (.putfield 39, 3) := dk_of dkAa108 (i := 31) rfl
def dkLa109 : List (Nat × Instr × Nat) := [(70, .aload_n 0, 1), (71, .iconst 2, 1), (72, .anewarray 43, 3), (75, .putfield 45, 3), (78, .aload_n 0, 1), (79, .new 49, 3), (82, .dup, 1), (83, .invokespecial 51, 3), (86, .putfield 52, 3), (89, .aload_n 0, 1), (90, .new 56, 3), (93, .dup, 1), (94, .bipush 6, 2), (96, .invokespecial 58, 3), (99, .putfield 61, 3), (102, .aload_n 0, 1), (103, .new 56, 3), (106, .dup, 1), (107, .bipush 6, 2), (109, .invokespecial 58, 3), (112, .putfield 65, 3), (115, .aload_n 0, 1), (116, .new 56, 3), (119, .dup, 1), (120, .bipush 15, 2), (122, .invokespecial 58, 3), (125, .putfield 68, 3), (128, .aload_n 0, 1), (129, .new 71, 3), (132, .dup, 1), (133, .invokespecial 73, 3), (136, .putfield 74, 3)]
set_option maxRecDepth 100000 in
theorem dkAa109 : ∀ q ∈ dkLa109, decode cX9_init q.1 = .ok q.2 := by decide +kernel
theorem dX9_init_70 : decode cX9_init 70 = .ok (.aload_n 0, 1) := dk_of dkAa109 (i := 0) rfl
theorem dX9_init_71 : decode cX9_init 71 = .ok (.iconst 2, 1) := dk_of dkAa109 (i := 1) rfl
theorem dX9_init_72 : decode cX9_init 72 = .ok (.anewarray 43, 3) := dk_of dkAa109 (i := 2) rfl
theorem dX9_init_75 : decode cX9_init 75 = .ok (.putfield 45, 3) := dk_of dkAa109 (i := 3) rfl
theorem dX9_init_78 : decode cX9_init 78 = .ok (.aload_n 0, 1) := dk_of dkAa109 (i := 4) rfl
theorem dX9_init_79 : decode cX9_init 79 = .ok (.new 49, 3) := dk_of dkAa109 (i := 5) rfl
theorem dX9_init_82 : decode cX9_init 82 = .ok (.dup, 1) := dk_of dkAa109 (i := 6) rfl
theorem dX9_init_83 : decode cX9_init 83 = .ok (.invokespecial 51, 3) := dk_of dkAa109 (i := 7) rfl
theorem dX9_init_86 : decode cX9_init 86 = .ok (.putfield 52, 3) := dk_of dkAa109 (i := 8) rfl
theorem dX9_init_89 : decode cX9_init 89 = .ok (.aload_n 0, 1) := dk_of dkAa109 (i := 9) rfl
theorem dX9_init_90 : decode cX9_init 90 = .ok (.new 56, 3) := dk_of dkAa109 (i := 10) rfl
theorem dX9_init_93 : decode cX9_init 93 = .ok (.dup, 1) := dk_of dkAa109 (i := 11) rfl
theorem dX9_init_94 : decode cX9_init 94 = .ok (.bipush 6, 2) := dk_of dkAa109 (i := 12) rfl
theorem dX9_init_96 : decode cX9_init 96 = .ok (.invokespecial 58, 3) := dk_of dkAa109 (i := 13) rfl
theorem dX9_init_99 : decode cX9_init 99 = .ok (.putfield 61, 3) := dk_of dkAa109 (i := 14) rfl
theorem dX9_init_102 : decode cX9_init 102 = .ok (.aload_n 0, 1) := dk_of dkAa109 (i := 15) rfl
theorem dX9_init_103 : decode cX9_init 103 = .ok (.new 56, 3) := dk_of dkAa109 (i := 16) rfl
theorem dX9_init_106 : decode cX9_init 106 = .ok (.dup, 1) := dk_of dkAa109 (i := 17) rfl
theorem dX9_init_107 : decode cX9_init 107 = .ok (.bipush 6, 2) := dk_of dkAa109 (i := 18) rfl
theorem dX9_init_109 : decode cX9_init 109 = .ok (.invokespecial 58, 3) := dk_of dkAa109 (i := 19) rfl
theorem dX9_init_112 : decode cX9_init 112 = .ok (.putfield 65, 3) := dk_of dkAa109 (i := 20) rfl
theorem dX9_init_115 : decode cX9_init 115 = .ok (.aload_n 0, 1) := dk_of dkAa109 (i := 21) rfl
theorem dX9_init_116 : decode cX9_init 116 = .ok (.new 56, 3) := dk_of dkAa109 (i := 22) rfl
theorem dX9_init_119 : decode cX9_init 119 = .ok (.dup, 1) := dk_of dkAa109 (i := 23) rfl
theorem dX9_init_120 : decode cX9_init 120 = .ok (.bipush 15, 2) := dk_of dkAa109 (i := 24) rfl
theorem dX9_init_122 : decode cX9_init 122 = .ok (.invokespecial 58, 3) := dk_of dkAa109 (i := 25) rfl
theorem dX9_init_125 : decode cX9_init 125 = .ok (.putfield 68, 3) := dk_of dkAa109 (i := 26) rfl
theorem dX9_init_128 : decode cX9_init 128 = .ok (.aload_n 0, 1) := dk_of dkAa109 (i := 27) rfl
theorem dX9_init_129 : decode cX9_init 129 = .ok (.new 71, 3) := dk_of dkAa109 (i := 28) rfl
theorem dX9_init_132 : decode cX9_init 132 = .ok (.dup, 1) := dk_of dkAa109 (i := 29) rfl
theorem dX9_init_133 : decode cX9_init 133 = .ok (.invokespecial 73, 3) := dk_of dkAa109 (i := 30) rfl
theorem dX9_init_136 : decode cX9_init 136 = .ok (.putfield 74, 3) := dk_of dkAa109 (i := 31) rfl
def dkLa110 : List (Nat × Instr × Nat) := [(139, .aload_n 0, 1), (140, .new 78, 3), (143, .dup, 1), (144, .invokespecial 80, 3), (147, .putfield 81, 3), (150, .iconst 0, 1), (151, .istore_n 1, 1), (152, .iload_n 1, 1), (153, .aload_n 0, 1), (154, .getfield 45, 3), (157, .arraylength, 1), (158, .if_icmp .ge 22, 3), (161, .aload_n 0, 1), (162, .getfield 45, 3), (165, .iload_n 1, 1), (166, .new 43, 3), (169, .dup, 1), (170, .invokespecial 85, 3), (173, .aastore, 1), (174, .iinc 1 1, 3), (177, .goto (-25), 3), (180, .return_, 1)]
set_option maxRecDepth 100000 in
theorem dkAa110 : ∀ q ∈ dkLa110, decode cX9_init q.1 = .ok q.2 := by decide +kernel
theorem dX9_init_139 : decode cX9_init 139 = .ok (.aload_n 0, 1) := dk_of dkAa110 (i := 0) rfl
theorem dX9_init_140 : decode cX9_init 140 = .ok (.new 78, 3) := dk_of dkAa110 (i := 1) rfl
theorem dX9_init_143 : decode cX9_init 143 = .ok (.dup, 1) := dk_of dkAa110 (i := 2) rfl
theorem dX9_init_144 : decode cX9_init 144 = .ok (.invokespecial 80, 3) := dk_of dkAa110 (i := 3) rfl
theorem dX9_init_147 : decode cX9_init 147 = .ok (.putfield 81, 3) := dk_of dkAa110 (i := 4) rfl
theorem dX9_init_150 : decode cX9_init 150 = .ok (.iconst 0, 1) := dk_of dkAa110 (i := 5) rfl
theorem dX9_init_151 : decode cX9_init 151 = .ok (.istore_n 1, 1) := dk_of dkAa110 (i := 6) rfl
theorem dX9_init_152 : decode cX9_init 152 = .ok (.iload_n 1, 1) := dk_of dkAa110 (i := 7) rfl
theorem dX9_init_153 : decode cX9_init 153 = .ok (.aload_n 0, 1) := dk_of dkAa110 (i := 8) rfl
theorem dX9_init_154 : decode cX9_init 154 = .ok (.getfield 45, 3) := dk_of dkAa110 (i := 9) rfl
theorem dX9_init_157 : decode cX9_init 157 = .ok (.arraylength, 1) := dk_of dkAa110 (i := 10) rfl
theorem dX9_init_158 : decode cX9_init 158 = .ok (.if_icmp .ge 22, 3) := dk_of dkAa110 (i := 11) rfl
theorem dX9_init_161 : decode cX9_init 161 = .ok (.aload_n 0, 1) := dk_of dkAa110 (i := 12) rfl
theorem dX9_init_162 : decode cX9_init 162 = .ok (.getfield 45, 3) := dk_of dkAa110 (i := 13) rfl
theorem dX9_init_165 : decode cX9_init 165 = .ok (.iload_n 1, 1) := dk_of dkAa110 (i := 14) rfl
theorem dX9_init_166 : decode cX9_init 166 = .ok (.new 43, 3) := dk_of dkAa110 (i := 15) rfl
theorem dX9_init_169 : decode cX9_init 169 = .ok (.dup, 1) := dk_of dkAa110 (i := 16) rfl
theorem dX9_init_170 : decode cX9_init 170 = .ok (.invokespecial 85, 3) := dk_of dkAa110 (i := 17) rfl
theorem dX9_init_173 : decode cX9_init 173 = .ok (.aastore, 1) := dk_of dkAa110 (i := 18) rfl
theorem dX9_init_174 : decode cX9_init 174 = .ok (.iinc 1 1, 3) := dk_of dkAa110 (i := 19) rfl
theorem dX9_init_177 : decode cX9_init 177 = .ok (.goto (-25), 3) := dk_of dkAa110 (i := 20) rfl
theorem dX9_init_180 : decode cX9_init 180 = .ok (.return_, 1) := dk_of dkAa110 (i := 21) rfl
def dkLa111 : List (Nat × Instr × Nat) := [(0, .iload_n 1, 1), (1, .ifCond .lt 10, 3), (4, .iload_n 1, 1), (5, .sipush 255, 3), (8, .if_icmp .le 6, 3), (11, .ldc 86, 2), (13, .ireturn, 1), (14, .aload_n 0, 1), (15, .getfield 10, 3), (18, .iload_n 1, 1), (19, .invokevirtual 87, 3), (22, .ifCond .eq 13, 3), (25, .aload_n 0, 1), (26, .getfield 10, 3), (29, .getfield 91, 3), (32, .goto 5, 3), (35, .ldc 95, 2), (37, .ireturn, 1)]
set_option maxRecDepth 100000 in
theorem dkAa111 : ∀ q ∈ dkLa111, decode cX9_feed q.1 = .ok q.2 := by decide +kernel
theorem dX9_feed_0 : decode cX9_feed 0 = .ok (.iload_n 1, 1) := dk_of dkAa111 (i := 0) rfl
theorem dX9_feed_1 : decode cX9_feed 1 = .ok (.ifCond .lt 10, 3) := dk_of dkAa111 (i := 1) rfl
theorem dX9_feed_4 : decode cX9_feed 4 = .ok (.iload_n 1, 1) := dk_of dkAa111 (i := 2) rfl
theorem dX9_feed_5 : decode cX9_feed 5 = .ok (.sipush 255, 3) := dk_of dkAa111 (i := 3) rfl
theorem dX9_feed_8 : decode cX9_feed 8 = .ok (.if_icmp .le 6, 3) := dk_of dkAa111 (i := 4) rfl
theorem dX9_feed_11 : decode cX9_feed 11 = .ok (.ldc 86, 2) := dk_of dkAa111 (i := 5) rfl
theorem dX9_feed_13 : decode cX9_feed 13 = .ok (.ireturn, 1) := dk_of dkAa111 (i := 6) rfl
theorem dX9_feed_14 : decode cX9_feed 14 = .ok (.aload_n 0, 1) := dk_of dkAa111 (i := 7) rfl
theorem dX9_feed_15 : decode cX9_feed 15 = .ok (.getfield 10, 3) := dk_of dkAa111 (i := 8) rfl
theorem dX9_feed_18 : decode cX9_feed 18 = .ok (.iload_n 1, 1) := dk_of dkAa111 (i := 9) rfl
theorem dX9_feed_19 : decode cX9_feed 19 = .ok (.invokevirtual 87, 3) := dk_of dkAa111 (i := 10) rfl
theorem dX9_feed_22 : decode cX9_feed 22 = .ok (.ifCond .eq 13, 3) := dk_of dkAa111 (i := 11) rfl
theorem dX9_feed_25 : decode cX9_feed 25 = .ok (.aload_n 0, 1) := dk_of dkAa111 (i := 12) rfl
theorem dX9_feed_26 : decode cX9_feed 26 = .ok (.getfield 10, 3) := dk_of dkAa111 (i := 13) rfl
theorem dX9_feed_29 : decode cX9_feed 29 = .ok (.getfield 91, 3) := dk_of dkAa111 (i := 14) rfl
theorem dX9_feed_32 : decode cX9_feed 32 = .ok (.goto 5, 3) := dk_of dkAa111 (i := 15) rfl
theorem dX9_feed_35 : decode cX9_feed 35 = .ok (.ldc 95, 2) := dk_of dkAa111 (i := 16) rfl
theorem dX9_feed_37 : decode cX9_feed 37 = .ok (.ireturn, 1) := dk_of dkAa111 (i := 17) rfl
def dkLa112 : List (Nat × Instr × Nat) := [(0, .aload_n 0, 1), (1, .getfield 10, 3), (4, .aload_n 0, 1), (5, .getfield 23, 3), (8, .invokevirtual 96, 3), (11, .ifCond .ne 14, 3), (14, .bipush (-10), 2), (16, .aload_n 0, 1), (17, .getfield 10, 3), (20, .getfield 100, 3), (23, .isub, 1), (24, .ireturn, 1), (25, .aload_n 0, 1), (26, .getfield 19, 3), (29, .astore_n 1, 1), (30, .aload_n 0, 1), (31, .aload_n 0, 1), (32, .getfield 23, 3), (35, .putfield 19, 3), (38, .aload_n 0, 1), (39, .aload_n 1, 1), (40, .putfield 23, 3), (43, .aload_n 0, 1), (44, .getfield 29, 3), (47, .aload_n 0, 1), (48, .getfield 19, 3), (51, .invokevirtual 103, 3), (54, .aload_n 0, 1), (55, .getfield 61, 3), (58, .invokevirtual 107, 3), (61, .aload_n 0, 1), (62, .getfield 65, 3)]
set_option maxRecDepth 100000 in
theorem dkAa112 : ∀ q ∈ dkLa112, decode cX9_parish q.1 = .ok q.2 := by decide +kernel
theorem dX9_parish_0 : decode cX9_parish 0 = .ok (.aload_n 0, 1) := dk_of dkAa112 (i := 0) rfl
theorem dX9_parish_1 : decode cX9_parish 1 = .ok (.getfield 10, 3) := dk_of dkAa112 (i := 1) rfl
theorem dX9_parish_4 : decode cX9_parish 4 = .ok (.aload_n 0, 1) := dk_of dkAa112 (i := 2) rfl
theorem dX9_parish_5 : decode cX9_parish 5 = .ok (.getfield 23, 3) := dk_of dkAa112 (i := 3) rfl
theorem dX9_parish_8 : decode cX9_parish 8 = .ok (.invokevirtual 96, 3) := dk_of dkAa112 (i := 4) rfl
theorem dX9_parish_11 : decode cX9_parish 11 = .ok (.ifCond .ne 14, 3) := dk_of dkAa112 (i := 5) rfl
theorem dX9_parish_14 : decode cX9_parish 14 = .ok (.bipush (-10), 2) := dk_of dkAa112 (i := 6) rfl
theorem dX9_parish_16 : decode cX9_parish 16 = .ok (.aload_n 0, 1) := dk_of dkAa112 (i := 7) rfl
theorem dX9_parish_17 : decode cX9_parish 17 = .ok (.getfield 10, 3) := dk_of dkAa112 (i := 8) rfl
theorem dX9_parish_20 : decode cX9_parish 20 = .ok (.getfield 100, 3) := dk_of dkAa112 (i := 9) rfl
theorem dX9_parish_23 : decode cX9_parish 23 = .ok (.isub, 1) := dk_of dkAa112 (i := 10) rfl
theorem dX9_parish_24 : decode cX9_parish 24 = .ok (.ireturn, 1) := dk_of dkAa112 (i := 11) rfl
theorem dX9_parish_25 : decode cX9_parish 25 = .ok (.aload_n 0, 1) := dk_of dkAa112 (i := 12) rfl
theorem dX9_parish_26 : decode cX9_parish 26 = .ok (.getfield 19, 3) := dk_of dkAa112 (i := 13) rfl
theorem dX9_parish_29 : decode cX9_parish 29 = .ok (.astore_n 1, 1) := dk_of dkAa112 (i := 14) rfl
theorem dX9_parish_30 : decode cX9_parish 30 = .ok (.aload_n 0, 1) := dk_of dkAa112 (i := 15) rfl
theorem dX9_parish_31 : decode cX9_parish 31 = .ok (.aload_n 0, 1) := dk_of dkAa112 (i := 16) rfl
theorem dX9_parish_32 : decode cX9_parish 32 = .ok (.getfield 23, 3) := dk_of dkAa112 (i := 17) rfl
theorem dX9_parish_35 : decode cX9_parish 35 = .ok (.putfield 19, 3) := dk_of dkAa112 (i := 18) rfl
theorem dX9_parish_38 : decode cX9_parish 38 = .ok (.aload_n 0, 1) := dk_of dkAa112 (i := 19) rfl
theorem dX9_parish_39 : decode cX9_parish 39 = .ok (.aload_n 1, 1) := dk_of dkAa112 (i := 20) rfl
theorem dX9_parish_40 : decode cX9_parish 40 = .ok (.putfield 23, 3) := dk_of dkAa112 (i := 21) rfl
theorem dX9_parish_43 : decode cX9_parish 43 = .ok (.aload_n 0, 1) := dk_of dkAa112 (i := 22) rfl
theorem dX9_parish_44 : decode cX9_parish 44 = .ok (.getfield 29, 3) := dk_of dkAa112 (i := 23) rfl
theorem dX9_parish_47 : decode cX9_parish 47 = .ok (.aload_n 0, 1) := dk_of dkAa112 (i := 24) rfl
theorem dX9_parish_48 : decode cX9_parish 48 = .ok (.getfield 19, 3) := dk_of dkAa112 (i := 25) rfl
theorem dX9_parish_51 : decode cX9_parish 51 = .ok (.invokevirtual 103, 3) := dk_of dkAa112 (i := 26) rfl
theorem dX9_parish_54 : decode cX9_parish 54 = .ok (.aload_n 0, 1) := dk_of dkAa112 (i := 27) rfl
theorem dX9_parish_55 : decode cX9_parish 55 = .ok (.getfield 61, 3) := dk_of dkAa112 (i := 28) rfl
theorem dX9_parish_58 : decode cX9_parish 58 = .ok (.invokevirtual 107, 3) := dk_of dkAa112 (i := 29) rfl
theorem dX9_parish_61 : decode cX9_parish 61 = .ok (.aload_n 0, 1) := dk_of dkAa112 (i := 30) rfl
theorem dX9_parish_62 : decode cX9_parish 62 = .ok (.getfield 65, 3) := dk_of dkAa112 (i := 31) rfl
def dkLa113 : List (Nat × Instr × Nat) := [(65, .invokevirtual 107, 3), (68, .aload_n 0, 1), (69, .getfield 68, 3), (72, .invokevirtual 107, 3), (75, .aload_n 0, 1), (76, .getfield 39, 3), (79, .invokevirtual 110, 3), (82, .iconst 0, 1), (83, .istore_n 2, 1), (84, .iload_n 2, 1), (85, .aload_n 0, 1), (86, .getfield 45, 3), (89, .arraylength, 1), (90, .if_icmp .ge 19, 3), (93, .aload_n 0, 1), (94, .getfield 45, 3), (97, .iload_n 2, 1), (98, .aaload, 1), (99, .iconst 0, 1), (100, .putfield 113, 3), (103, .iinc 2 1, 3), (106, .goto (-22), 3), (109, .aload_n 0, 1), (110, .getfield 19, 3), (113, .getfield 117, 3), (116, .ireturn, 1)]
set_option maxRecDepth 100000 in
theorem dkAa113 : ∀ q ∈ dkLa113, decode cX9_parish q.1 = .ok q.2 := by decide +kernel
theorem dX9_parish_65 : decode cX9_parish 65 = .ok (.invokevirtual 107, 3) := dk_of dkAa113 (i := 0) rfl
theorem dX9_parish_68 : decode cX9_parish 68 = .ok (.aload_n 0, 1) := dk_of dkAa113 (i := 1) rfl
theorem dX9_parish_69 : decode cX9_parish 69 = .ok (.getfield 68, 3) := dk_of dkAa113 (i := 2) rfl
theorem dX9_parish_72 : decode cX9_parish 72 = .ok (.invokevirtual 107, 3) := dk_of dkAa113 (i := 3) rfl
theorem dX9_parish_75 : decode cX9_parish 75 = .ok (.aload_n 0, 1) := dk_of dkAa113 (i := 4) rfl
theorem dX9_parish_76 : decode cX9_parish 76 = .ok (.getfield 39, 3) := dk_of dkAa113 (i := 5) rfl
theorem dX9_parish_79 : decode cX9_parish 79 = .ok (.invokevirtual 110, 3) := dk_of dkAa113 (i := 6) rfl
theorem dX9_parish_82 : decode cX9_parish 82 = .ok (.iconst 0, 1) := dk_of dkAa113 (i := 7) rfl
theorem dX9_parish_83 : decode cX9_parish 83 = .ok (.istore_n 2, 1) := dk_of dkAa113 (i := 8) rfl
theorem dX9_parish_84 : decode cX9_parish 84 = .ok (.iload_n 2, 1) := dk_of dkAa113 (i := 9) rfl
theorem dX9_parish_85 : decode cX9_parish 85 = .ok (.aload_n 0, 1) := dk_of dkAa113 (i := 10) rfl
theorem dX9_parish_86 : decode cX9_parish 86 = .ok (.getfield 45, 3) := dk_of dkAa113 (i := 11) rfl
theorem dX9_parish_89 : decode cX9_parish 89 = .ok (.arraylength, 1) := dk_of dkAa113 (i := 12) rfl
theorem dX9_parish_90 : decode cX9_parish 90 = .ok (.if_icmp .ge 19, 3) := dk_of dkAa113 (i := 13) rfl
theorem dX9_parish_93 : decode cX9_parish 93 = .ok (.aload_n 0, 1) := dk_of dkAa113 (i := 14) rfl
theorem dX9_parish_94 : decode cX9_parish 94 = .ok (.getfield 45, 3) := dk_of dkAa113 (i := 15) rfl
theorem dX9_parish_97 : decode cX9_parish 97 = .ok (.iload_n 2, 1) := dk_of dkAa113 (i := 16) rfl
theorem dX9_parish_98 : decode cX9_parish 98 = .ok (.aaload, 1) := dk_of dkAa113 (i := 17) rfl
theorem dX9_parish_99 : decode cX9_parish 99 = .ok (.iconst 0, 1) := dk_of dkAa113 (i := 18) rfl
theorem dX9_parish_100 : decode cX9_parish 100 = .ok (.putfield 113, 3) := dk_of dkAa113 (i := 19) rfl
theorem dX9_parish_103 : decode cX9_parish 103 = .ok (.iinc 2 1, 3) := dk_of dkAa113 (i := 20) rfl
theorem dX9_parish_106 : decode cX9_parish 106 = .ok (.goto (-22), 3) := dk_of dkAa113 (i := 21) rfl
theorem dX9_parish_109 : decode cX9_parish 109 = .ok (.aload_n 0, 1) := dk_of dkAa113 (i := 22) rfl
theorem dX9_parish_110 : decode cX9_parish 110 = .ok (.getfield 19, 3) := dk_of dkAa113 (i := 23) rfl
theorem dX9_parish_113 : decode cX9_parish 113 = .ok (.getfield 117, 3) := dk_of dkAa113 (i := 24) rfl
theorem dX9_parish_116 : decode cX9_parish 116 = .ok (.ireturn, 1) := dk_of dkAa113 (i := 25) rfl
def dkLa114 : List (Nat × Instr × Nat) := [(0, .aload_n 0, 1), (1, .getfield 10, 3), (4, .getfield 120, 3), (7, .ireturn, 1)]
set_option maxRecDepth 100000 in
theorem dkAa114 : ∀ q ∈ dkLa114, decode cX9_fault q.1 = .ok q.2 := by decide +kernel
theorem dX9_fault_0 : decode cX9_fault 0 = .ok (.aload_n 0, 1) := dk_of dkAa114 (i := 0) rfl
theorem dX9_fault_1 : decode cX9_fault 1 = .ok (.getfield 10, 3) := dk_of dkAa114 (i := 1) rfl
theorem dX9_fault_4 : decode cX9_fault 4 = .ok (.getfield 120, 3) := dk_of dkAa114 (i := 2) rfl
theorem dX9_fault_7 : decode cX9_fault 7 = .ok (.ireturn, 1) := dk_of dkAa114 (i := 3) rfl
def dkLa115 : List (Nat × Instr × Nat) := [(0, .iload_n 1, 1), (1, .tableswitch 169 0 11 #[63, 71, 79, 87, 95, 103, 111, 119, 137, 145, 153, 161], 63), (64, .aload_n 0, 1), (65, .getfield 19, 3), (68, .getfield 117, 3), (71, .ireturn, 1), (72, .aload_n 0, 1), (73, .getfield 19, 3), (76, .getfield 123, 3), (79, .ireturn, 1), (80, .aload_n 0, 1), (81, .getfield 19, 3), (84, .getfield 126, 3), (87, .ireturn, 1), (88, .aload_n 0, 1), (89, .getfield 10, 3), (92, .getfield 91, 3), (95, .ireturn, 1), (96, .aload_n 0, 1), (97, .getfield 29, 3), (100, .getfield 129, 3), (103, .ireturn, 1), (104, .aload_n 0, 1), (105, .getfield 29, 3), (108, .getfield 132, 3), (111, .ireturn, 1), (112, .aload_n 0, 1), (113, .getfield 29, 3), (116, .invokevirtual 135, 3), (119, .ireturn, 1), (120, .aload_n 0, 1), (121, .getfield 19, 3)]
set_option maxRecDepth 100000 in
theorem dkAa115 : ∀ q ∈ dkLa115, decode cX9_told q.1 = .ok q.2 := by decide +kernel
theorem dX9_told_0 : decode cX9_told 0 = .ok (.iload_n 1, 1) := dk_of dkAa115 (i := 0) rfl
theorem dX9_told_1 : decode cX9_told 1 = .ok (.tableswitch 169 0 11 #[63, 71, 79, 87, 95, 103, 111, 119, 137, 145, 153, 161], 63) := dk_of dkAa115 (i := 1) rfl
theorem dX9_told_64 : decode cX9_told 64 = .ok (.aload_n 0, 1) := dk_of dkAa115 (i := 2) rfl
theorem dX9_told_65 : decode cX9_told 65 = .ok (.getfield 19, 3) := dk_of dkAa115 (i := 3) rfl
theorem dX9_told_68 : decode cX9_told 68 = .ok (.getfield 117, 3) := dk_of dkAa115 (i := 4) rfl
theorem dX9_told_71 : decode cX9_told 71 = .ok (.ireturn, 1) := dk_of dkAa115 (i := 5) rfl
theorem dX9_told_72 : decode cX9_told 72 = .ok (.aload_n 0, 1) := dk_of dkAa115 (i := 6) rfl
theorem dX9_told_73 : decode cX9_told 73 = .ok (.getfield 19, 3) := dk_of dkAa115 (i := 7) rfl
theorem dX9_told_76 : decode cX9_told 76 = .ok (.getfield 123, 3) := dk_of dkAa115 (i := 8) rfl
theorem dX9_told_79 : decode cX9_told 79 = .ok (.ireturn, 1) := dk_of dkAa115 (i := 9) rfl
theorem dX9_told_80 : decode cX9_told 80 = .ok (.aload_n 0, 1) := dk_of dkAa115 (i := 10) rfl
theorem dX9_told_81 : decode cX9_told 81 = .ok (.getfield 19, 3) := dk_of dkAa115 (i := 11) rfl
theorem dX9_told_84 : decode cX9_told 84 = .ok (.getfield 126, 3) := dk_of dkAa115 (i := 12) rfl
theorem dX9_told_87 : decode cX9_told 87 = .ok (.ireturn, 1) := dk_of dkAa115 (i := 13) rfl
theorem dX9_told_88 : decode cX9_told 88 = .ok (.aload_n 0, 1) := dk_of dkAa115 (i := 14) rfl
theorem dX9_told_89 : decode cX9_told 89 = .ok (.getfield 10, 3) := dk_of dkAa115 (i := 15) rfl
theorem dX9_told_92 : decode cX9_told 92 = .ok (.getfield 91, 3) := dk_of dkAa115 (i := 16) rfl
theorem dX9_told_95 : decode cX9_told 95 = .ok (.ireturn, 1) := dk_of dkAa115 (i := 17) rfl
theorem dX9_told_96 : decode cX9_told 96 = .ok (.aload_n 0, 1) := dk_of dkAa115 (i := 18) rfl
theorem dX9_told_97 : decode cX9_told 97 = .ok (.getfield 29, 3) := dk_of dkAa115 (i := 19) rfl
theorem dX9_told_100 : decode cX9_told 100 = .ok (.getfield 129, 3) := dk_of dkAa115 (i := 20) rfl
theorem dX9_told_103 : decode cX9_told 103 = .ok (.ireturn, 1) := dk_of dkAa115 (i := 21) rfl
theorem dX9_told_104 : decode cX9_told 104 = .ok (.aload_n 0, 1) := dk_of dkAa115 (i := 22) rfl
theorem dX9_told_105 : decode cX9_told 105 = .ok (.getfield 29, 3) := dk_of dkAa115 (i := 23) rfl
theorem dX9_told_108 : decode cX9_told 108 = .ok (.getfield 132, 3) := dk_of dkAa115 (i := 24) rfl
theorem dX9_told_111 : decode cX9_told 111 = .ok (.ireturn, 1) := dk_of dkAa115 (i := 25) rfl
theorem dX9_told_112 : decode cX9_told 112 = .ok (.aload_n 0, 1) := dk_of dkAa115 (i := 26) rfl
theorem dX9_told_113 : decode cX9_told 113 = .ok (.getfield 29, 3) := dk_of dkAa115 (i := 27) rfl
theorem dX9_told_116 : decode cX9_told 116 = .ok (.invokevirtual 135, 3) := dk_of dkAa115 (i := 28) rfl
theorem dX9_told_119 : decode cX9_told 119 = .ok (.ireturn, 1) := dk_of dkAa115 (i := 29) rfl
theorem dX9_told_120 : decode cX9_told 120 = .ok (.aload_n 0, 1) := dk_of dkAa115 (i := 30) rfl
theorem dX9_told_121 : decode cX9_told 121 = .ok (.getfield 19, 3) := dk_of dkAa115 (i := 31) rfl
def dkLa116 : List (Nat × Instr × Nat) := [(124, .invokevirtual 139, 3), (127, .aload_n 0, 1), (128, .getfield 29, 3), (131, .invokevirtual 142, 3), (134, .iconst (-1), 1), (135, .ixor, 1), (136, .iand, 1), (137, .ireturn, 1), (138, .aload_n 0, 1), (139, .getfield 61, 3), (142, .getfield 145, 3), (145, .ireturn, 1), (146, .aload_n 0, 1), (147, .getfield 65, 3), (150, .getfield 145, 3), (153, .ireturn, 1), (154, .aload_n 0, 1), (155, .getfield 68, 3), (158, .getfield 145, 3), (161, .ireturn, 1), (162, .aload_n 0, 1), (163, .getfield 39, 3), (166, .getfield 146, 3), (169, .ireturn, 1), (170, .ldc 86, 2), (172, .ireturn, 1)]
set_option maxRecDepth 100000 in
theorem dkAa116 : ∀ q ∈ dkLa116, decode cX9_told q.1 = .ok q.2 := by decide +kernel
theorem dX9_told_124 : decode cX9_told 124 = .ok (.invokevirtual 139, 3) := dk_of dkAa116 (i := 0) rfl
theorem dX9_told_127 : decode cX9_told 127 = .ok (.aload_n 0, 1) := dk_of dkAa116 (i := 1) rfl
theorem dX9_told_128 : decode cX9_told 128 = .ok (.getfield 29, 3) := dk_of dkAa116 (i := 2) rfl
theorem dX9_told_131 : decode cX9_told 131 = .ok (.invokevirtual 142, 3) := dk_of dkAa116 (i := 3) rfl
theorem dX9_told_134 : decode cX9_told 134 = .ok (.iconst (-1), 1) := dk_of dkAa116 (i := 4) rfl
theorem dX9_told_135 : decode cX9_told 135 = .ok (.ixor, 1) := dk_of dkAa116 (i := 5) rfl
theorem dX9_told_136 : decode cX9_told 136 = .ok (.iand, 1) := dk_of dkAa116 (i := 6) rfl
theorem dX9_told_137 : decode cX9_told 137 = .ok (.ireturn, 1) := dk_of dkAa116 (i := 7) rfl
theorem dX9_told_138 : decode cX9_told 138 = .ok (.aload_n 0, 1) := dk_of dkAa116 (i := 8) rfl
theorem dX9_told_139 : decode cX9_told 139 = .ok (.getfield 61, 3) := dk_of dkAa116 (i := 9) rfl
theorem dX9_told_142 : decode cX9_told 142 = .ok (.getfield 145, 3) := dk_of dkAa116 (i := 10) rfl
theorem dX9_told_145 : decode cX9_told 145 = .ok (.ireturn, 1) := dk_of dkAa116 (i := 11) rfl
theorem dX9_told_146 : decode cX9_told 146 = .ok (.aload_n 0, 1) := dk_of dkAa116 (i := 12) rfl
theorem dX9_told_147 : decode cX9_told 147 = .ok (.getfield 65, 3) := dk_of dkAa116 (i := 13) rfl
theorem dX9_told_150 : decode cX9_told 150 = .ok (.getfield 145, 3) := dk_of dkAa116 (i := 14) rfl
theorem dX9_told_153 : decode cX9_told 153 = .ok (.ireturn, 1) := dk_of dkAa116 (i := 15) rfl
theorem dX9_told_154 : decode cX9_told 154 = .ok (.aload_n 0, 1) := dk_of dkAa116 (i := 16) rfl
theorem dX9_told_155 : decode cX9_told 155 = .ok (.getfield 68, 3) := dk_of dkAa116 (i := 17) rfl
theorem dX9_told_158 : decode cX9_told 158 = .ok (.getfield 145, 3) := dk_of dkAa116 (i := 18) rfl
theorem dX9_told_161 : decode cX9_told 161 = .ok (.ireturn, 1) := dk_of dkAa116 (i := 19) rfl
theorem dX9_told_162 : decode cX9_told 162 = .ok (.aload_n 0, 1) := dk_of dkAa116 (i := 20) rfl
theorem dX9_told_163 : decode cX9_told 163 = .ok (.getfield 39, 3) := dk_of dkAa116 (i := 21) rfl
theorem dX9_told_166 : decode cX9_told 166 = .ok (.getfield 146, 3) := dk_of dkAa116 (i := 22) rfl
theorem dX9_told_169 : decode cX9_told 169 = .ok (.ireturn, 1) := dk_of dkAa116 (i := 23) rfl
theorem dX9_told_170 : decode cX9_told 170 = .ok (.ldc 86, 2) := dk_of dkAa116 (i := 24) rfl
theorem dX9_told_172 : decode cX9_told 172 = .ok (.ireturn, 1) := dk_of dkAa116 (i := 25) rfl
def dkLa117 : List (Nat × Instr × Nat) := [(0, .aload_n 0, 1), (1, .getfield 19, 3), (4, .iload_n 1, 1), (5, .invokevirtual 147, 3), (8, .ifCond .ne 6, 3), (11, .ldc 150, 2), (13, .ireturn, 1), (14, .iload_n 2, 1), (15, .tableswitch 106 0 5 #[37, 46, 55, 64, 73, 89], 37), (52, .aload_n 0, 1), (53, .getfield 29, 3), (56, .iload_n 1, 1), (57, .invokevirtual 151, 3), (60, .ireturn, 1), (61, .aload_n 0, 1), (62, .getfield 29, 3), (65, .iload_n 1, 1), (66, .invokevirtual 155, 3), (69, .ireturn, 1), (70, .aload_n 0, 1), (71, .getfield 29, 3), (74, .iload_n 1, 1), (75, .invokevirtual 158, 3), (78, .ireturn, 1), (79, .aload_n 0, 1), (80, .getfield 29, 3), (83, .iload_n 1, 1), (84, .invokevirtual 161, 3), (87, .ireturn, 1), (88, .aload_n 0, 1), (89, .getfield 19, 3), (92, .aload_n 0, 1)]
set_option maxRecDepth 100000 in
theorem dkAa117 : ∀ q ∈ dkLa117, decode cX9_person q.1 = .ok q.2 := by decide +kernel
theorem dX9_person_0 : decode cX9_person 0 = .ok (.aload_n 0, 1) := dk_of dkAa117 (i := 0) rfl
theorem dX9_person_1 : decode cX9_person 1 = .ok (.getfield 19, 3) := dk_of dkAa117 (i := 1) rfl
theorem dX9_person_4 : decode cX9_person 4 = .ok (.iload_n 1, 1) := dk_of dkAa117 (i := 2) rfl
theorem dX9_person_5 : decode cX9_person 5 = .ok (.invokevirtual 147, 3) := dk_of dkAa117 (i := 3) rfl
theorem dX9_person_8 : decode cX9_person 8 = .ok (.ifCond .ne 6, 3) := dk_of dkAa117 (i := 4) rfl
theorem dX9_person_11 : decode cX9_person 11 = .ok (.ldc 150, 2) := dk_of dkAa117 (i := 5) rfl
theorem dX9_person_13 : decode cX9_person 13 = .ok (.ireturn, 1) := dk_of dkAa117 (i := 6) rfl
theorem dX9_person_14 : decode cX9_person 14 = .ok (.iload_n 2, 1) := dk_of dkAa117 (i := 7) rfl
theorem dX9_person_15 : decode cX9_person 15 = .ok (.tableswitch 106 0 5 #[37, 46, 55, 64, 73, 89], 37) := dk_of dkAa117 (i := 8) rfl
theorem dX9_person_52 : decode cX9_person 52 = .ok (.aload_n 0, 1) := dk_of dkAa117 (i := 9) rfl
theorem dX9_person_53 : decode cX9_person 53 = .ok (.getfield 29, 3) := dk_of dkAa117 (i := 10) rfl
theorem dX9_person_56 : decode cX9_person 56 = .ok (.iload_n 1, 1) := dk_of dkAa117 (i := 11) rfl
theorem dX9_person_57 : decode cX9_person 57 = .ok (.invokevirtual 151, 3) := dk_of dkAa117 (i := 12) rfl
theorem dX9_person_60 : decode cX9_person 60 = .ok (.ireturn, 1) := dk_of dkAa117 (i := 13) rfl
theorem dX9_person_61 : decode cX9_person 61 = .ok (.aload_n 0, 1) := dk_of dkAa117 (i := 14) rfl
theorem dX9_person_62 : decode cX9_person 62 = .ok (.getfield 29, 3) := dk_of dkAa117 (i := 15) rfl
theorem dX9_person_65 : decode cX9_person 65 = .ok (.iload_n 1, 1) := dk_of dkAa117 (i := 16) rfl
theorem dX9_person_66 : decode cX9_person 66 = .ok (.invokevirtual 155, 3) := dk_of dkAa117 (i := 17) rfl
theorem dX9_person_69 : decode cX9_person 69 = .ok (.ireturn, 1) := dk_of dkAa117 (i := 18) rfl
theorem dX9_person_70 : decode cX9_person 70 = .ok (.aload_n 0, 1) := dk_of dkAa117 (i := 19) rfl
theorem dX9_person_71 : decode cX9_person 71 = .ok (.getfield 29, 3) := dk_of dkAa117 (i := 20) rfl
theorem dX9_person_74 : decode cX9_person 74 = .ok (.iload_n 1, 1) := dk_of dkAa117 (i := 21) rfl
theorem dX9_person_75 : decode cX9_person 75 = .ok (.invokevirtual 158, 3) := dk_of dkAa117 (i := 22) rfl
theorem dX9_person_78 : decode cX9_person 78 = .ok (.ireturn, 1) := dk_of dkAa117 (i := 23) rfl
theorem dX9_person_79 : decode cX9_person 79 = .ok (.aload_n 0, 1) := dk_of dkAa117 (i := 24) rfl
theorem dX9_person_80 : decode cX9_person 80 = .ok (.getfield 29, 3) := dk_of dkAa117 (i := 25) rfl
theorem dX9_person_83 : decode cX9_person 83 = .ok (.iload_n 1, 1) := dk_of dkAa117 (i := 26) rfl
theorem dX9_person_84 : decode cX9_person 84 = .ok (.invokevirtual 161, 3) := dk_of dkAa117 (i := 27) rfl
theorem dX9_person_87 : decode cX9_person 87 = .ok (.ireturn, 1) := dk_of dkAa117 (i := 28) rfl
theorem dX9_person_88 : decode cX9_person 88 = .ok (.aload_n 0, 1) := dk_of dkAa117 (i := 29) rfl
theorem dX9_person_89 : decode cX9_person 89 = .ok (.getfield 19, 3) := dk_of dkAa117 (i := 30) rfl
theorem dX9_person_92 : decode cX9_person 92 = .ok (.aload_n 0, 1) := dk_of dkAa117 (i := 31) rfl
def dkLa118 : List (Nat × Instr × Nat) := [(93, .getfield 29, 3), (96, .iload_n 1, 1), (97, .invokevirtual 151, 3), (100, .invokevirtual 164, 3), (103, .ireturn, 1), (104, .aload_n 0, 1), (105, .getfield 29, 3), (108, .iload_n 1, 1), (109, .invokevirtual 167, 3), (112, .ifCond .eq 7, 3), (115, .iconst 1, 1), (116, .goto 4, 3), (119, .iconst 0, 1), (120, .ireturn, 1), (121, .ldc 86, 2), (123, .ireturn, 1)]
set_option maxRecDepth 100000 in
theorem dkAa118 : ∀ q ∈ dkLa118, decode cX9_person q.1 = .ok q.2 := by decide +kernel
theorem dX9_person_93 : decode cX9_person 93 = .ok (.getfield 29, 3) := dk_of dkAa118 (i := 0) rfl
theorem dX9_person_96 : decode cX9_person 96 = .ok (.iload_n 1, 1) := dk_of dkAa118 (i := 1) rfl
theorem dX9_person_97 : decode cX9_person 97 = .ok (.invokevirtual 151, 3) := dk_of dkAa118 (i := 2) rfl
theorem dX9_person_100 : decode cX9_person 100 = .ok (.invokevirtual 164, 3) := dk_of dkAa118 (i := 3) rfl
theorem dX9_person_103 : decode cX9_person 103 = .ok (.ireturn, 1) := dk_of dkAa118 (i := 4) rfl
theorem dX9_person_104 : decode cX9_person 104 = .ok (.aload_n 0, 1) := dk_of dkAa118 (i := 5) rfl
theorem dX9_person_105 : decode cX9_person 105 = .ok (.getfield 29, 3) := dk_of dkAa118 (i := 6) rfl
theorem dX9_person_108 : decode cX9_person 108 = .ok (.iload_n 1, 1) := dk_of dkAa118 (i := 7) rfl
theorem dX9_person_109 : decode cX9_person 109 = .ok (.invokevirtual 167, 3) := dk_of dkAa118 (i := 8) rfl
theorem dX9_person_112 : decode cX9_person 112 = .ok (.ifCond .eq 7, 3) := dk_of dkAa118 (i := 9) rfl
theorem dX9_person_115 : decode cX9_person 115 = .ok (.iconst 1, 1) := dk_of dkAa118 (i := 10) rfl
theorem dX9_person_116 : decode cX9_person 116 = .ok (.goto 4, 3) := dk_of dkAa118 (i := 11) rfl
theorem dX9_person_119 : decode cX9_person 119 = .ok (.iconst 0, 1) := dk_of dkAa118 (i := 12) rfl
theorem dX9_person_120 : decode cX9_person 120 = .ok (.ireturn, 1) := dk_of dkAa118 (i := 13) rfl
theorem dX9_person_121 : decode cX9_person 121 = .ok (.ldc 86, 2) := dk_of dkAa118 (i := 14) rfl
theorem dX9_person_123 : decode cX9_person 123 = .ok (.ireturn, 1) := dk_of dkAa118 (i := 15) rfl
def dkLa119 : List (Nat × Instr × Nat) := [(0, .aload_n 0, 1), (1, .getfield 19, 3), (4, .iload_n 1, 1), (5, .invokevirtual 147, 3), (8, .ifCond .eq 14, 3), (11, .aload_n 0, 1), (12, .getfield 19, 3), (15, .iload_n 1, 1), (16, .invokevirtual 170, 3), (19, .goto 5, 3), (22, .ldc 150, 2), (24, .ireturn, 1)]
set_option maxRecDepth 100000 in
theorem dkAa119 : ∀ q ∈ dkLa119, decode cX9_range q.1 = .ok q.2 := by decide +kernel
theorem dX9_range_0 : decode cX9_range 0 = .ok (.aload_n 0, 1) := dk_of dkAa119 (i := 0) rfl
theorem dX9_range_1 : decode cX9_range 1 = .ok (.getfield 19, 3) := dk_of dkAa119 (i := 1) rfl
theorem dX9_range_4 : decode cX9_range 4 = .ok (.iload_n 1, 1) := dk_of dkAa119 (i := 2) rfl
theorem dX9_range_5 : decode cX9_range 5 = .ok (.invokevirtual 147, 3) := dk_of dkAa119 (i := 3) rfl
theorem dX9_range_8 : decode cX9_range 8 = .ok (.ifCond .eq 14, 3) := dk_of dkAa119 (i := 4) rfl
theorem dX9_range_11 : decode cX9_range 11 = .ok (.aload_n 0, 1) := dk_of dkAa119 (i := 5) rfl
theorem dX9_range_12 : decode cX9_range 12 = .ok (.getfield 19, 3) := dk_of dkAa119 (i := 6) rfl
theorem dX9_range_15 : decode cX9_range 15 = .ok (.iload_n 1, 1) := dk_of dkAa119 (i := 7) rfl
theorem dX9_range_16 : decode cX9_range 16 = .ok (.invokevirtual 170, 3) := dk_of dkAa119 (i := 8) rfl
theorem dX9_range_19 : decode cX9_range 19 = .ok (.goto 5, 3) := dk_of dkAa119 (i := 9) rfl
theorem dX9_range_22 : decode cX9_range 22 = .ok (.ldc 150, 2) := dk_of dkAa119 (i := 10) rfl
theorem dX9_range_24 : decode cX9_range 24 = .ok (.ireturn, 1) := dk_of dkAa119 (i := 11) rfl
def dkLa120 : List (Nat × Instr × Nat) := [(0, .aload_n 0, 1), (1, .getfield 19, 3), (4, .iload_n 1, 1), (5, .invokevirtual 173, 3), (8, .ifCond .eq 14, 3), (11, .aload_n 0, 1), (12, .getfield 19, 3), (15, .iload_n 1, 1), (16, .invokevirtual 176, 3), (19, .goto 5, 3), (22, .ldc 150, 2), (24, .ireturn, 1)]
set_option maxRecDepth 100000 in
theorem dkAa120 : ∀ q ∈ dkLa120, decode cX9_door q.1 = .ok q.2 := by decide +kernel
theorem dX9_door_0 : decode cX9_door 0 = .ok (.aload_n 0, 1) := dk_of dkAa120 (i := 0) rfl
theorem dX9_door_1 : decode cX9_door 1 = .ok (.getfield 19, 3) := dk_of dkAa120 (i := 1) rfl
theorem dX9_door_4 : decode cX9_door 4 = .ok (.iload_n 1, 1) := dk_of dkAa120 (i := 2) rfl
theorem dX9_door_5 : decode cX9_door 5 = .ok (.invokevirtual 173, 3) := dk_of dkAa120 (i := 3) rfl
theorem dX9_door_8 : decode cX9_door 8 = .ok (.ifCond .eq 14, 3) := dk_of dkAa120 (i := 4) rfl
theorem dX9_door_11 : decode cX9_door 11 = .ok (.aload_n 0, 1) := dk_of dkAa120 (i := 5) rfl
theorem dX9_door_12 : decode cX9_door 12 = .ok (.getfield 19, 3) := dk_of dkAa120 (i := 6) rfl
theorem dX9_door_15 : decode cX9_door 15 = .ok (.iload_n 1, 1) := dk_of dkAa120 (i := 7) rfl
theorem dX9_door_16 : decode cX9_door 16 = .ok (.invokevirtual 176, 3) := dk_of dkAa120 (i := 8) rfl
theorem dX9_door_19 : decode cX9_door 19 = .ok (.goto 5, 3) := dk_of dkAa120 (i := 9) rfl
theorem dX9_door_22 : decode cX9_door 22 = .ok (.ldc 150, 2) := dk_of dkAa120 (i := 10) rfl
theorem dX9_door_24 : decode cX9_door 24 = .ok (.ireturn, 1) := dk_of dkAa120 (i := 11) rfl
def dkLa121 : List (Nat × Instr × Nat) := [(0, .aload_n 0, 1), (1, .getfield 19, 3), (4, .iload_n 1, 1), (5, .invokevirtual 147, 3), (8, .ifCond .ne 6, 3), (11, .ldc 150, 2), (13, .ireturn, 1), (14, .aload_n 0, 1), (15, .getfield 29, 3), (18, .iload_n 1, 1), (19, .invokevirtual 167, 3), (22, .ifCond .ne 6, 3), (25, .ldc 179, 2), (27, .ireturn, 1), (28, .aload_n 0, 1), (29, .getfield 39, 3), (32, .aload_n 0, 1), (33, .getfield 29, 3), (36, .invokevirtual 180, 3), (39, .aload_n 0, 1), (40, .getfield 29, 3), (43, .iload_n 1, 1), (44, .invokevirtual 184, 3), (47, .ireturn, 1)]
set_option maxRecDepth 100000 in
theorem dkAa121 : ∀ q ∈ dkLa121, decode cX9_die q.1 = .ok q.2 := by decide +kernel
theorem dX9_die_0 : decode cX9_die 0 = .ok (.aload_n 0, 1) := dk_of dkAa121 (i := 0) rfl
theorem dX9_die_1 : decode cX9_die 1 = .ok (.getfield 19, 3) := dk_of dkAa121 (i := 1) rfl
theorem dX9_die_4 : decode cX9_die 4 = .ok (.iload_n 1, 1) := dk_of dkAa121 (i := 2) rfl
theorem dX9_die_5 : decode cX9_die 5 = .ok (.invokevirtual 147, 3) := dk_of dkAa121 (i := 3) rfl
theorem dX9_die_8 : decode cX9_die 8 = .ok (.ifCond .ne 6, 3) := dk_of dkAa121 (i := 4) rfl
theorem dX9_die_11 : decode cX9_die 11 = .ok (.ldc 150, 2) := dk_of dkAa121 (i := 5) rfl
theorem dX9_die_13 : decode cX9_die 13 = .ok (.ireturn, 1) := dk_of dkAa121 (i := 6) rfl
theorem dX9_die_14 : decode cX9_die 14 = .ok (.aload_n 0, 1) := dk_of dkAa121 (i := 7) rfl
theorem dX9_die_15 : decode cX9_die 15 = .ok (.getfield 29, 3) := dk_of dkAa121 (i := 8) rfl
theorem dX9_die_18 : decode cX9_die 18 = .ok (.iload_n 1, 1) := dk_of dkAa121 (i := 9) rfl
theorem dX9_die_19 : decode cX9_die 19 = .ok (.invokevirtual 167, 3) := dk_of dkAa121 (i := 10) rfl
theorem dX9_die_22 : decode cX9_die 22 = .ok (.ifCond .ne 6, 3) := dk_of dkAa121 (i := 11) rfl
theorem dX9_die_25 : decode cX9_die 25 = .ok (.ldc 179, 2) := dk_of dkAa121 (i := 12) rfl
theorem dX9_die_27 : decode cX9_die 27 = .ok (.ireturn, 1) := dk_of dkAa121 (i := 13) rfl
theorem dX9_die_28 : decode cX9_die 28 = .ok (.aload_n 0, 1) := dk_of dkAa121 (i := 14) rfl
theorem dX9_die_29 : decode cX9_die 29 = .ok (.getfield 39, 3) := dk_of dkAa121 (i := 15) rfl
theorem dX9_die_32 : decode cX9_die 32 = .ok (.aload_n 0, 1) := dk_of dkAa121 (i := 16) rfl
theorem dX9_die_33 : decode cX9_die 33 = .ok (.getfield 29, 3) := dk_of dkAa121 (i := 17) rfl
theorem dX9_die_36 : decode cX9_die 36 = .ok (.invokevirtual 180, 3) := dk_of dkAa121 (i := 18) rfl
theorem dX9_die_39 : decode cX9_die 39 = .ok (.aload_n 0, 1) := dk_of dkAa121 (i := 19) rfl
theorem dX9_die_40 : decode cX9_die 40 = .ok (.getfield 29, 3) := dk_of dkAa121 (i := 20) rfl
theorem dX9_die_43 : decode cX9_die 43 = .ok (.iload_n 1, 1) := dk_of dkAa121 (i := 21) rfl
theorem dX9_die_44 : decode cX9_die 44 = .ok (.invokevirtual 184, 3) := dk_of dkAa121 (i := 22) rfl
theorem dX9_die_47 : decode cX9_die 47 = .ok (.ireturn, 1) := dk_of dkAa121 (i := 23) rfl
def dkLa122 : List (Nat × Instr × Nat) := [(0, .aload_n 0, 1), (1, .getfield 19, 3), (4, .iload_n 1, 1), (5, .invokevirtual 147, 3), (8, .ifCond .eq 19, 3), (11, .aload_n 0, 1), (12, .getfield 19, 3), (15, .iload_n 2, 1), (16, .invokevirtual 147, 3), (19, .ifCond .eq 8, 3), (22, .iload_n 1, 1), (23, .iload_n 2, 1), (24, .if_icmp .ne 6, 3), (27, .ldc 150, 2), (29, .ireturn, 1), (30, .aload_n 0, 1), (31, .getfield 29, 3), (34, .iload_n 1, 1), (35, .iload_n 2, 1), (36, .invokevirtual 187, 3), (39, .ifCond .ne 6, 3), (42, .ldc 179, 2), (44, .ireturn, 1), (45, .aload_n 0, 1), (46, .getfield 39, 3), (49, .aload_n 0, 1), (50, .getfield 29, 3), (53, .invokevirtual 180, 3), (56, .aload_n 0, 1), (57, .getfield 29, 3), (60, .iload_n 1, 1), (61, .iload_n 2, 1)]
set_option maxRecDepth 100000 in
theorem dkAa122 : ∀ q ∈ dkLa122, decode cX9_sell q.1 = .ok q.2 := by decide +kernel
theorem dX9_sell_0 : decode cX9_sell 0 = .ok (.aload_n 0, 1) := dk_of dkAa122 (i := 0) rfl
theorem dX9_sell_1 : decode cX9_sell 1 = .ok (.getfield 19, 3) := dk_of dkAa122 (i := 1) rfl
theorem dX9_sell_4 : decode cX9_sell 4 = .ok (.iload_n 1, 1) := dk_of dkAa122 (i := 2) rfl
theorem dX9_sell_5 : decode cX9_sell 5 = .ok (.invokevirtual 147, 3) := dk_of dkAa122 (i := 3) rfl
theorem dX9_sell_8 : decode cX9_sell 8 = .ok (.ifCond .eq 19, 3) := dk_of dkAa122 (i := 4) rfl
theorem dX9_sell_11 : decode cX9_sell 11 = .ok (.aload_n 0, 1) := dk_of dkAa122 (i := 5) rfl
theorem dX9_sell_12 : decode cX9_sell 12 = .ok (.getfield 19, 3) := dk_of dkAa122 (i := 6) rfl
theorem dX9_sell_15 : decode cX9_sell 15 = .ok (.iload_n 2, 1) := dk_of dkAa122 (i := 7) rfl
theorem dX9_sell_16 : decode cX9_sell 16 = .ok (.invokevirtual 147, 3) := dk_of dkAa122 (i := 8) rfl
theorem dX9_sell_19 : decode cX9_sell 19 = .ok (.ifCond .eq 8, 3) := dk_of dkAa122 (i := 9) rfl
theorem dX9_sell_22 : decode cX9_sell 22 = .ok (.iload_n 1, 1) := dk_of dkAa122 (i := 10) rfl
theorem dX9_sell_23 : decode cX9_sell 23 = .ok (.iload_n 2, 1) := dk_of dkAa122 (i := 11) rfl
theorem dX9_sell_24 : decode cX9_sell 24 = .ok (.if_icmp .ne 6, 3) := dk_of dkAa122 (i := 12) rfl
theorem dX9_sell_27 : decode cX9_sell 27 = .ok (.ldc 150, 2) := dk_of dkAa122 (i := 13) rfl
theorem dX9_sell_29 : decode cX9_sell 29 = .ok (.ireturn, 1) := dk_of dkAa122 (i := 14) rfl
theorem dX9_sell_30 : decode cX9_sell 30 = .ok (.aload_n 0, 1) := dk_of dkAa122 (i := 15) rfl
theorem dX9_sell_31 : decode cX9_sell 31 = .ok (.getfield 29, 3) := dk_of dkAa122 (i := 16) rfl
theorem dX9_sell_34 : decode cX9_sell 34 = .ok (.iload_n 1, 1) := dk_of dkAa122 (i := 17) rfl
theorem dX9_sell_35 : decode cX9_sell 35 = .ok (.iload_n 2, 1) := dk_of dkAa122 (i := 18) rfl
theorem dX9_sell_36 : decode cX9_sell 36 = .ok (.invokevirtual 187, 3) := dk_of dkAa122 (i := 19) rfl
theorem dX9_sell_39 : decode cX9_sell 39 = .ok (.ifCond .ne 6, 3) := dk_of dkAa122 (i := 20) rfl
theorem dX9_sell_42 : decode cX9_sell 42 = .ok (.ldc 179, 2) := dk_of dkAa122 (i := 21) rfl
theorem dX9_sell_44 : decode cX9_sell 44 = .ok (.ireturn, 1) := dk_of dkAa122 (i := 22) rfl
theorem dX9_sell_45 : decode cX9_sell 45 = .ok (.aload_n 0, 1) := dk_of dkAa122 (i := 23) rfl
theorem dX9_sell_46 : decode cX9_sell 46 = .ok (.getfield 39, 3) := dk_of dkAa122 (i := 24) rfl
theorem dX9_sell_49 : decode cX9_sell 49 = .ok (.aload_n 0, 1) := dk_of dkAa122 (i := 25) rfl
theorem dX9_sell_50 : decode cX9_sell 50 = .ok (.getfield 29, 3) := dk_of dkAa122 (i := 26) rfl
theorem dX9_sell_53 : decode cX9_sell 53 = .ok (.invokevirtual 180, 3) := dk_of dkAa122 (i := 27) rfl
theorem dX9_sell_56 : decode cX9_sell 56 = .ok (.aload_n 0, 1) := dk_of dkAa122 (i := 28) rfl
theorem dX9_sell_57 : decode cX9_sell 57 = .ok (.getfield 29, 3) := dk_of dkAa122 (i := 29) rfl
theorem dX9_sell_60 : decode cX9_sell 60 = .ok (.iload_n 1, 1) := dk_of dkAa122 (i := 30) rfl
theorem dX9_sell_61 : decode cX9_sell 61 = .ok (.iload_n 2, 1) := dk_of dkAa122 (i := 31) rfl
def dkLa123 : List (Nat × Instr × Nat) := [(62, .invokevirtual 191, 3), (65, .aload_n 0, 1), (66, .getfield 29, 3), (69, .iload_n 1, 1), (70, .invokevirtual 151, 3), (73, .ireturn, 1)]
set_option maxRecDepth 100000 in
theorem dkAa123 : ∀ q ∈ dkLa123, decode cX9_sell q.1 = .ok q.2 := by decide +kernel
theorem dX9_sell_62 : decode cX9_sell 62 = .ok (.invokevirtual 191, 3) := dk_of dkAa123 (i := 0) rfl
theorem dX9_sell_65 : decode cX9_sell 65 = .ok (.aload_n 0, 1) := dk_of dkAa123 (i := 1) rfl
theorem dX9_sell_66 : decode cX9_sell 66 = .ok (.getfield 29, 3) := dk_of dkAa123 (i := 2) rfl
theorem dX9_sell_69 : decode cX9_sell 69 = .ok (.iload_n 1, 1) := dk_of dkAa123 (i := 3) rfl
theorem dX9_sell_70 : decode cX9_sell 70 = .ok (.invokevirtual 151, 3) := dk_of dkAa123 (i := 4) rfl
theorem dX9_sell_73 : decode cX9_sell 73 = .ok (.ireturn, 1) := dk_of dkAa123 (i := 5) rfl
def dkLa124 : List (Nat × Instr × Nat) := [(0, .aload_n 0, 1), (1, .getfield 19, 3), (4, .iload_n 1, 1), (5, .invokevirtual 147, 3), (8, .ifCond .eq 10, 3), (11, .iload_n 2, 1), (12, .invokestatic 195, 3), (15, .ifCond .ne 6, 3), (18, .ldc 150, 2), (20, .ireturn, 1), (21, .aload_n 0, 1), (22, .getfield 29, 3), (25, .iload_n 1, 1), (26, .invokevirtual 167, 3), (29, .ifCond .eq 18, 3), (32, .aload_n 0, 1), (33, .getfield 29, 3), (36, .iload_n 1, 1), (37, .invokevirtual 155, 3), (40, .iload_n 2, 1), (41, .invokestatic 198, 3), (44, .ifCond .ne 6, 3), (47, .ldc 179, 2), (49, .ireturn, 1), (50, .aload_n 0, 1), (51, .getfield 39, 3), (54, .aload_n 0, 1), (55, .getfield 29, 3), (58, .invokevirtual 180, 3), (61, .aload_n 0, 1), (62, .getfield 29, 3), (65, .iload_n 1, 1)]
set_option maxRecDepth 100000 in
theorem dkAa124 : ∀ q ∈ dkLa124, decode cX9_putBy q.1 = .ok q.2 := by decide +kernel
theorem dX9_putBy_0 : decode cX9_putBy 0 = .ok (.aload_n 0, 1) := dk_of dkAa124 (i := 0) rfl
theorem dX9_putBy_1 : decode cX9_putBy 1 = .ok (.getfield 19, 3) := dk_of dkAa124 (i := 1) rfl
theorem dX9_putBy_4 : decode cX9_putBy 4 = .ok (.iload_n 1, 1) := dk_of dkAa124 (i := 2) rfl
theorem dX9_putBy_5 : decode cX9_putBy 5 = .ok (.invokevirtual 147, 3) := dk_of dkAa124 (i := 3) rfl
theorem dX9_putBy_8 : decode cX9_putBy 8 = .ok (.ifCond .eq 10, 3) := dk_of dkAa124 (i := 4) rfl
theorem dX9_putBy_11 : decode cX9_putBy 11 = .ok (.iload_n 2, 1) := dk_of dkAa124 (i := 5) rfl
theorem dX9_putBy_12 : decode cX9_putBy 12 = .ok (.invokestatic 195, 3) := dk_of dkAa124 (i := 6) rfl
theorem dX9_putBy_15 : decode cX9_putBy 15 = .ok (.ifCond .ne 6, 3) := dk_of dkAa124 (i := 7) rfl
theorem dX9_putBy_18 : decode cX9_putBy 18 = .ok (.ldc 150, 2) := dk_of dkAa124 (i := 8) rfl
theorem dX9_putBy_20 : decode cX9_putBy 20 = .ok (.ireturn, 1) := dk_of dkAa124 (i := 9) rfl
theorem dX9_putBy_21 : decode cX9_putBy 21 = .ok (.aload_n 0, 1) := dk_of dkAa124 (i := 10) rfl
theorem dX9_putBy_22 : decode cX9_putBy 22 = .ok (.getfield 29, 3) := dk_of dkAa124 (i := 11) rfl
theorem dX9_putBy_25 : decode cX9_putBy 25 = .ok (.iload_n 1, 1) := dk_of dkAa124 (i := 12) rfl
theorem dX9_putBy_26 : decode cX9_putBy 26 = .ok (.invokevirtual 167, 3) := dk_of dkAa124 (i := 13) rfl
theorem dX9_putBy_29 : decode cX9_putBy 29 = .ok (.ifCond .eq 18, 3) := dk_of dkAa124 (i := 14) rfl
theorem dX9_putBy_32 : decode cX9_putBy 32 = .ok (.aload_n 0, 1) := dk_of dkAa124 (i := 15) rfl
theorem dX9_putBy_33 : decode cX9_putBy 33 = .ok (.getfield 29, 3) := dk_of dkAa124 (i := 16) rfl
theorem dX9_putBy_36 : decode cX9_putBy 36 = .ok (.iload_n 1, 1) := dk_of dkAa124 (i := 17) rfl
theorem dX9_putBy_37 : decode cX9_putBy 37 = .ok (.invokevirtual 155, 3) := dk_of dkAa124 (i := 18) rfl
theorem dX9_putBy_40 : decode cX9_putBy 40 = .ok (.iload_n 2, 1) := dk_of dkAa124 (i := 19) rfl
theorem dX9_putBy_41 : decode cX9_putBy 41 = .ok (.invokestatic 198, 3) := dk_of dkAa124 (i := 20) rfl
theorem dX9_putBy_44 : decode cX9_putBy 44 = .ok (.ifCond .ne 6, 3) := dk_of dkAa124 (i := 21) rfl
theorem dX9_putBy_47 : decode cX9_putBy 47 = .ok (.ldc 179, 2) := dk_of dkAa124 (i := 22) rfl
theorem dX9_putBy_49 : decode cX9_putBy 49 = .ok (.ireturn, 1) := dk_of dkAa124 (i := 23) rfl
theorem dX9_putBy_50 : decode cX9_putBy 50 = .ok (.aload_n 0, 1) := dk_of dkAa124 (i := 24) rfl
theorem dX9_putBy_51 : decode cX9_putBy 51 = .ok (.getfield 39, 3) := dk_of dkAa124 (i := 25) rfl
theorem dX9_putBy_54 : decode cX9_putBy 54 = .ok (.aload_n 0, 1) := dk_of dkAa124 (i := 26) rfl
theorem dX9_putBy_55 : decode cX9_putBy 55 = .ok (.getfield 29, 3) := dk_of dkAa124 (i := 27) rfl
theorem dX9_putBy_58 : decode cX9_putBy 58 = .ok (.invokevirtual 180, 3) := dk_of dkAa124 (i := 28) rfl
theorem dX9_putBy_61 : decode cX9_putBy 61 = .ok (.aload_n 0, 1) := dk_of dkAa124 (i := 29) rfl
theorem dX9_putBy_62 : decode cX9_putBy 62 = .ok (.getfield 29, 3) := dk_of dkAa124 (i := 30) rfl
theorem dX9_putBy_65 : decode cX9_putBy 65 = .ok (.iload_n 1, 1) := dk_of dkAa124 (i := 31) rfl
def dkLa125 : List (Nat × Instr × Nat) := [(66, .iload_n 2, 1), (67, .invokevirtual 201, 3), (70, .ireturn, 1)]
set_option maxRecDepth 100000 in
theorem dkAa125 : ∀ q ∈ dkLa125, decode cX9_putBy q.1 = .ok q.2 := by decide +kernel
theorem dX9_putBy_66 : decode cX9_putBy 66 = .ok (.iload_n 2, 1) := dk_of dkAa125 (i := 0) rfl
theorem dX9_putBy_67 : decode cX9_putBy 67 = .ok (.invokevirtual 201, 3) := dk_of dkAa125 (i := 1) rfl
theorem dX9_putBy_70 : decode cX9_putBy 70 = .ok (.ireturn, 1) := dk_of dkAa125 (i := 2) rfl
def dkLa126 : List (Nat × Instr × Nat) := [(0, .aload_n 0, 1), (1, .getfield 19, 3), (4, .iload_n 1, 1), (5, .invokevirtual 147, 3), (8, .ifCond .eq 21, 3), (11, .aload_n 0, 1), (12, .iload_n 1, 1), (13, .iload_n 2, 1), (14, .invokevirtual 205, 3), (17, .ifCond .eq 12, 3), (20, .aload_n 0, 1), (21, .iload_n 1, 1), (22, .iload_n 3, 1), (23, .invokevirtual 205, 3), (26, .ifCond .ne 6, 3), (29, .ldc 150, 2), (31, .ireturn, 1), (32, .aload_n 0, 1), (33, .getfield 29, 3), (36, .iload_n 1, 1), (37, .invokevirtual 167, 3), (40, .ifCond .ne 6, 3), (43, .ldc 179, 2), (45, .ireturn, 1), (46, .aload_n 0, 1), (47, .getfield 39, 3), (50, .aload_n 0, 1), (51, .getfield 29, 3), (54, .invokevirtual 180, 3), (57, .bipush 10, 2), (59, .aload_n 0, 1), (60, .getfield 29, 3)]
set_option maxRecDepth 100000 in
theorem dkAa126 : ∀ q ∈ dkLa126, decode cX9_will q.1 = .ok q.2 := by decide +kernel
theorem dX9_will_0 : decode cX9_will 0 = .ok (.aload_n 0, 1) := dk_of dkAa126 (i := 0) rfl
theorem dX9_will_1 : decode cX9_will 1 = .ok (.getfield 19, 3) := dk_of dkAa126 (i := 1) rfl
theorem dX9_will_4 : decode cX9_will 4 = .ok (.iload_n 1, 1) := dk_of dkAa126 (i := 2) rfl
theorem dX9_will_5 : decode cX9_will 5 = .ok (.invokevirtual 147, 3) := dk_of dkAa126 (i := 3) rfl
theorem dX9_will_8 : decode cX9_will 8 = .ok (.ifCond .eq 21, 3) := dk_of dkAa126 (i := 4) rfl
theorem dX9_will_11 : decode cX9_will 11 = .ok (.aload_n 0, 1) := dk_of dkAa126 (i := 5) rfl
theorem dX9_will_12 : decode cX9_will 12 = .ok (.iload_n 1, 1) := dk_of dkAa126 (i := 6) rfl
theorem dX9_will_13 : decode cX9_will 13 = .ok (.iload_n 2, 1) := dk_of dkAa126 (i := 7) rfl
theorem dX9_will_14 : decode cX9_will 14 = .ok (.invokevirtual 205, 3) := dk_of dkAa126 (i := 8) rfl
theorem dX9_will_17 : decode cX9_will 17 = .ok (.ifCond .eq 12, 3) := dk_of dkAa126 (i := 9) rfl
theorem dX9_will_20 : decode cX9_will 20 = .ok (.aload_n 0, 1) := dk_of dkAa126 (i := 10) rfl
theorem dX9_will_21 : decode cX9_will 21 = .ok (.iload_n 1, 1) := dk_of dkAa126 (i := 11) rfl
theorem dX9_will_22 : decode cX9_will 22 = .ok (.iload_n 3, 1) := dk_of dkAa126 (i := 12) rfl
theorem dX9_will_23 : decode cX9_will 23 = .ok (.invokevirtual 205, 3) := dk_of dkAa126 (i := 13) rfl
theorem dX9_will_26 : decode cX9_will 26 = .ok (.ifCond .ne 6, 3) := dk_of dkAa126 (i := 14) rfl
theorem dX9_will_29 : decode cX9_will 29 = .ok (.ldc 150, 2) := dk_of dkAa126 (i := 15) rfl
theorem dX9_will_31 : decode cX9_will 31 = .ok (.ireturn, 1) := dk_of dkAa126 (i := 16) rfl
theorem dX9_will_32 : decode cX9_will 32 = .ok (.aload_n 0, 1) := dk_of dkAa126 (i := 17) rfl
theorem dX9_will_33 : decode cX9_will 33 = .ok (.getfield 29, 3) := dk_of dkAa126 (i := 18) rfl
theorem dX9_will_36 : decode cX9_will 36 = .ok (.iload_n 1, 1) := dk_of dkAa126 (i := 19) rfl
theorem dX9_will_37 : decode cX9_will 37 = .ok (.invokevirtual 167, 3) := dk_of dkAa126 (i := 20) rfl
theorem dX9_will_40 : decode cX9_will 40 = .ok (.ifCond .ne 6, 3) := dk_of dkAa126 (i := 21) rfl
theorem dX9_will_43 : decode cX9_will 43 = .ok (.ldc 179, 2) := dk_of dkAa126 (i := 22) rfl
theorem dX9_will_45 : decode cX9_will 45 = .ok (.ireturn, 1) := dk_of dkAa126 (i := 23) rfl
theorem dX9_will_46 : decode cX9_will 46 = .ok (.aload_n 0, 1) := dk_of dkAa126 (i := 24) rfl
theorem dX9_will_47 : decode cX9_will 47 = .ok (.getfield 39, 3) := dk_of dkAa126 (i := 25) rfl
theorem dX9_will_50 : decode cX9_will 50 = .ok (.aload_n 0, 1) := dk_of dkAa126 (i := 26) rfl
theorem dX9_will_51 : decode cX9_will 51 = .ok (.getfield 29, 3) := dk_of dkAa126 (i := 27) rfl
theorem dX9_will_54 : decode cX9_will 54 = .ok (.invokevirtual 180, 3) := dk_of dkAa126 (i := 28) rfl
theorem dX9_will_57 : decode cX9_will 57 = .ok (.bipush 10, 2) := dk_of dkAa126 (i := 29) rfl
theorem dX9_will_59 : decode cX9_will 59 = .ok (.aload_n 0, 1) := dk_of dkAa126 (i := 30) rfl
theorem dX9_will_60 : decode cX9_will 60 = .ok (.getfield 29, 3) := dk_of dkAa126 (i := 31) rfl
def dkLa127 : List (Nat × Instr × Nat) := [(63, .iload_n 1, 1), (64, .invokevirtual 158, 3), (67, .imul, 1), (68, .aload_n 0, 1), (69, .getfield 29, 3), (72, .iload_n 1, 1), (73, .invokevirtual 161, 3), (76, .iadd, 1), (77, .istore 4, 2), (79, .aload_n 0, 1), (80, .getfield 29, 3), (83, .iload_n 1, 1), (84, .iload_n 2, 1), (85, .iload_n 3, 1), (86, .invokevirtual 208, 3), (89, .iload 4, 2), (91, .ireturn, 1)]
set_option maxRecDepth 100000 in
theorem dkAa127 : ∀ q ∈ dkLa127, decode cX9_will q.1 = .ok q.2 := by decide +kernel
theorem dX9_will_63 : decode cX9_will 63 = .ok (.iload_n 1, 1) := dk_of dkAa127 (i := 0) rfl
theorem dX9_will_64 : decode cX9_will 64 = .ok (.invokevirtual 158, 3) := dk_of dkAa127 (i := 1) rfl
theorem dX9_will_67 : decode cX9_will 67 = .ok (.imul, 1) := dk_of dkAa127 (i := 2) rfl
theorem dX9_will_68 : decode cX9_will 68 = .ok (.aload_n 0, 1) := dk_of dkAa127 (i := 3) rfl
theorem dX9_will_69 : decode cX9_will 69 = .ok (.getfield 29, 3) := dk_of dkAa127 (i := 4) rfl
theorem dX9_will_72 : decode cX9_will 72 = .ok (.iload_n 1, 1) := dk_of dkAa127 (i := 5) rfl
theorem dX9_will_73 : decode cX9_will 73 = .ok (.invokevirtual 161, 3) := dk_of dkAa127 (i := 6) rfl
theorem dX9_will_76 : decode cX9_will 76 = .ok (.iadd, 1) := dk_of dkAa127 (i := 7) rfl
theorem dX9_will_77 : decode cX9_will 77 = .ok (.istore 4, 2) := dk_of dkAa127 (i := 8) rfl
theorem dX9_will_79 : decode cX9_will 79 = .ok (.aload_n 0, 1) := dk_of dkAa127 (i := 9) rfl
theorem dX9_will_80 : decode cX9_will 80 = .ok (.getfield 29, 3) := dk_of dkAa127 (i := 10) rfl
theorem dX9_will_83 : decode cX9_will 83 = .ok (.iload_n 1, 1) := dk_of dkAa127 (i := 11) rfl
theorem dX9_will_84 : decode cX9_will 84 = .ok (.iload_n 2, 1) := dk_of dkAa127 (i := 12) rfl
theorem dX9_will_85 : decode cX9_will 85 = .ok (.iload_n 3, 1) := dk_of dkAa127 (i := 13) rfl
theorem dX9_will_86 : decode cX9_will 86 = .ok (.invokevirtual 208, 3) := dk_of dkAa127 (i := 14) rfl
theorem dX9_will_89 : decode cX9_will 89 = .ok (.iload 4, 2) := dk_of dkAa127 (i := 15) rfl
theorem dX9_will_91 : decode cX9_will 91 = .ok (.ireturn, 1) := dk_of dkAa127 (i := 16) rfl
def dkLa128 : List (Nat × Instr × Nat) := [(0, .iload_n 1, 1), (1, .iconst 1, 1), (2, .if_icmp .lt 9, 3), (5, .iload_n 1, 1), (6, .bipush 60, 2), (8, .if_icmp .le 6, 3), (11, .ldc 86, 2), (13, .ireturn, 1), (14, .aload_n 0, 1), (15, .getfield 19, 3), (18, .getfield 117, 3), (21, .ifCond .ne 6, 3), (24, .ldc 179, 2), (26, .ireturn, 1), (27, .aload_n 0, 1), (28, .getfield 39, 3), (31, .aload_n 0, 1), (32, .getfield 29, 3), (35, .invokevirtual 180, 3), (38, .iconst 0, 1), (39, .istore_n 2, 1), (40, .iload_n 2, 1), (41, .iload_n 1, 1), (42, .if_icmp .ge 13, 3), (45, .aload_n 0, 1), (46, .invokevirtual 212, 3), (49, .iinc 2 1, 3), (52, .goto (-12), 3), (55, .aload_n 0, 1), (56, .getfield 29, 3), (59, .getfield 132, 3), (62, .ireturn, 1)]
set_option maxRecDepth 100000 in
theorem dkAa128 : ∀ q ∈ dkLa128, decode cX9_drift q.1 = .ok q.2 := by decide +kernel
theorem dX9_drift_0 : decode cX9_drift 0 = .ok (.iload_n 1, 1) := dk_of dkAa128 (i := 0) rfl
theorem dX9_drift_1 : decode cX9_drift 1 = .ok (.iconst 1, 1) := dk_of dkAa128 (i := 1) rfl
theorem dX9_drift_2 : decode cX9_drift 2 = .ok (.if_icmp .lt 9, 3) := dk_of dkAa128 (i := 2) rfl
theorem dX9_drift_5 : decode cX9_drift 5 = .ok (.iload_n 1, 1) := dk_of dkAa128 (i := 3) rfl
theorem dX9_drift_6 : decode cX9_drift 6 = .ok (.bipush 60, 2) := dk_of dkAa128 (i := 4) rfl
theorem dX9_drift_8 : decode cX9_drift 8 = .ok (.if_icmp .le 6, 3) := dk_of dkAa128 (i := 5) rfl
theorem dX9_drift_11 : decode cX9_drift 11 = .ok (.ldc 86, 2) := dk_of dkAa128 (i := 6) rfl
theorem dX9_drift_13 : decode cX9_drift 13 = .ok (.ireturn, 1) := dk_of dkAa128 (i := 7) rfl
theorem dX9_drift_14 : decode cX9_drift 14 = .ok (.aload_n 0, 1) := dk_of dkAa128 (i := 8) rfl
theorem dX9_drift_15 : decode cX9_drift 15 = .ok (.getfield 19, 3) := dk_of dkAa128 (i := 9) rfl
theorem dX9_drift_18 : decode cX9_drift 18 = .ok (.getfield 117, 3) := dk_of dkAa128 (i := 10) rfl
theorem dX9_drift_21 : decode cX9_drift 21 = .ok (.ifCond .ne 6, 3) := dk_of dkAa128 (i := 11) rfl
theorem dX9_drift_24 : decode cX9_drift 24 = .ok (.ldc 179, 2) := dk_of dkAa128 (i := 12) rfl
theorem dX9_drift_26 : decode cX9_drift 26 = .ok (.ireturn, 1) := dk_of dkAa128 (i := 13) rfl
theorem dX9_drift_27 : decode cX9_drift 27 = .ok (.aload_n 0, 1) := dk_of dkAa128 (i := 14) rfl
theorem dX9_drift_28 : decode cX9_drift 28 = .ok (.getfield 39, 3) := dk_of dkAa128 (i := 15) rfl
theorem dX9_drift_31 : decode cX9_drift 31 = .ok (.aload_n 0, 1) := dk_of dkAa128 (i := 16) rfl
theorem dX9_drift_32 : decode cX9_drift 32 = .ok (.getfield 29, 3) := dk_of dkAa128 (i := 17) rfl
theorem dX9_drift_35 : decode cX9_drift 35 = .ok (.invokevirtual 180, 3) := dk_of dkAa128 (i := 18) rfl
theorem dX9_drift_38 : decode cX9_drift 38 = .ok (.iconst 0, 1) := dk_of dkAa128 (i := 19) rfl
theorem dX9_drift_39 : decode cX9_drift 39 = .ok (.istore_n 2, 1) := dk_of dkAa128 (i := 20) rfl
theorem dX9_drift_40 : decode cX9_drift 40 = .ok (.iload_n 2, 1) := dk_of dkAa128 (i := 21) rfl
theorem dX9_drift_41 : decode cX9_drift 41 = .ok (.iload_n 1, 1) := dk_of dkAa128 (i := 22) rfl
theorem dX9_drift_42 : decode cX9_drift 42 = .ok (.if_icmp .ge 13, 3) := dk_of dkAa128 (i := 23) rfl
theorem dX9_drift_45 : decode cX9_drift 45 = .ok (.aload_n 0, 1) := dk_of dkAa128 (i := 24) rfl
theorem dX9_drift_46 : decode cX9_drift 46 = .ok (.invokevirtual 212, 3) := dk_of dkAa128 (i := 25) rfl
theorem dX9_drift_49 : decode cX9_drift 49 = .ok (.iinc 2 1, 3) := dk_of dkAa128 (i := 26) rfl
theorem dX9_drift_52 : decode cX9_drift 52 = .ok (.goto (-12), 3) := dk_of dkAa128 (i := 27) rfl
theorem dX9_drift_55 : decode cX9_drift 55 = .ok (.aload_n 0, 1) := dk_of dkAa128 (i := 28) rfl
theorem dX9_drift_56 : decode cX9_drift 56 = .ok (.getfield 29, 3) := dk_of dkAa128 (i := 29) rfl
theorem dX9_drift_59 : decode cX9_drift 59 = .ok (.getfield 132, 3) := dk_of dkAa128 (i := 30) rfl
theorem dX9_drift_62 : decode cX9_drift 62 = .ok (.ireturn, 1) := dk_of dkAa128 (i := 31) rfl
def dkLa129 : List (Nat × Instr × Nat) := [(0, .aload_n 0, 1), (1, .getfield 39, 3), (4, .aload_n 0, 1), (5, .getfield 29, 3), (8, .invokevirtual 215, 3), (11, .ifCond .eq 13, 3), (14, .aload_n 0, 1), (15, .getfield 39, 3), (18, .getfield 146, 3), (21, .goto 5, 3), (24, .ldc 179, 2), (26, .ireturn, 1)]
set_option maxRecDepth 100000 in
theorem dkAa129 : ∀ q ∈ dkLa129, decode cX9_undo q.1 = .ok q.2 := by decide +kernel
theorem dX9_undo_0 : decode cX9_undo 0 = .ok (.aload_n 0, 1) := dk_of dkAa129 (i := 0) rfl
theorem dX9_undo_1 : decode cX9_undo 1 = .ok (.getfield 39, 3) := dk_of dkAa129 (i := 1) rfl
theorem dX9_undo_4 : decode cX9_undo 4 = .ok (.aload_n 0, 1) := dk_of dkAa129 (i := 2) rfl
theorem dX9_undo_5 : decode cX9_undo 5 = .ok (.getfield 29, 3) := dk_of dkAa129 (i := 3) rfl
theorem dX9_undo_8 : decode cX9_undo 8 = .ok (.invokevirtual 215, 3) := dk_of dkAa129 (i := 4) rfl
theorem dX9_undo_11 : decode cX9_undo 11 = .ok (.ifCond .eq 13, 3) := dk_of dkAa129 (i := 5) rfl
theorem dX9_undo_14 : decode cX9_undo 14 = .ok (.aload_n 0, 1) := dk_of dkAa129 (i := 6) rfl
theorem dX9_undo_15 : decode cX9_undo 15 = .ok (.getfield 39, 3) := dk_of dkAa129 (i := 7) rfl
theorem dX9_undo_18 : decode cX9_undo 18 = .ok (.getfield 146, 3) := dk_of dkAa129 (i := 8) rfl
theorem dX9_undo_21 : decode cX9_undo 21 = .ok (.goto 5, 3) := dk_of dkAa129 (i := 9) rfl
theorem dX9_undo_24 : decode cX9_undo 24 = .ok (.ldc 179, 2) := dk_of dkAa129 (i := 10) rfl
theorem dX9_undo_26 : decode cX9_undo 26 = .ok (.ireturn, 1) := dk_of dkAa129 (i := 11) rfl
def dkLa130 : List (Nat × Instr × Nat) := [(0, .aload_n 0, 1), (1, .getfield 19, 3), (4, .iload_n 2, 1), (5, .invokevirtual 147, 3), (8, .ifCond .ne 6, 3), (11, .ldc 150, 2), (13, .ireturn, 1), (14, .aload_n 0, 1), (15, .getfield 74, 3), (18, .iload_n 1, 1), (19, .aload_n 0, 1), (20, .getfield 29, 3), (23, .invokevirtual 219, 3), (26, .ifCond .ne 6, 3), (29, .ldc 86, 2), (31, .ireturn, 1), (32, .aload_n 0, 1), (33, .invokevirtual 223, 3), (36, .aload_n 0, 1), (37, .getfield 33, 3), (40, .iload_n 2, 1), (41, .invokevirtual 151, 3), (44, .ireturn, 1)]
set_option maxRecDepth 100000 in
theorem dkAa130 : ∀ q ∈ dkLa130, decode cX9_after q.1 = .ok q.2 := by decide +kernel
theorem dX9_after_0 : decode cX9_after 0 = .ok (.aload_n 0, 1) := dk_of dkAa130 (i := 0) rfl
theorem dX9_after_1 : decode cX9_after 1 = .ok (.getfield 19, 3) := dk_of dkAa130 (i := 1) rfl
theorem dX9_after_4 : decode cX9_after 4 = .ok (.iload_n 2, 1) := dk_of dkAa130 (i := 2) rfl
theorem dX9_after_5 : decode cX9_after 5 = .ok (.invokevirtual 147, 3) := dk_of dkAa130 (i := 3) rfl
theorem dX9_after_8 : decode cX9_after 8 = .ok (.ifCond .ne 6, 3) := dk_of dkAa130 (i := 4) rfl
theorem dX9_after_11 : decode cX9_after 11 = .ok (.ldc 150, 2) := dk_of dkAa130 (i := 5) rfl
theorem dX9_after_13 : decode cX9_after 13 = .ok (.ireturn, 1) := dk_of dkAa130 (i := 6) rfl
theorem dX9_after_14 : decode cX9_after 14 = .ok (.aload_n 0, 1) := dk_of dkAa130 (i := 7) rfl
theorem dX9_after_15 : decode cX9_after 15 = .ok (.getfield 74, 3) := dk_of dkAa130 (i := 8) rfl
theorem dX9_after_18 : decode cX9_after 18 = .ok (.iload_n 1, 1) := dk_of dkAa130 (i := 9) rfl
theorem dX9_after_19 : decode cX9_after 19 = .ok (.aload_n 0, 1) := dk_of dkAa130 (i := 10) rfl
theorem dX9_after_20 : decode cX9_after 20 = .ok (.getfield 29, 3) := dk_of dkAa130 (i := 11) rfl
theorem dX9_after_23 : decode cX9_after 23 = .ok (.invokevirtual 219, 3) := dk_of dkAa130 (i := 12) rfl
theorem dX9_after_26 : decode cX9_after 26 = .ok (.ifCond .ne 6, 3) := dk_of dkAa130 (i := 13) rfl
theorem dX9_after_29 : decode cX9_after 29 = .ok (.ldc 86, 2) := dk_of dkAa130 (i := 14) rfl
theorem dX9_after_31 : decode cX9_after 31 = .ok (.ireturn, 1) := dk_of dkAa130 (i := 15) rfl
theorem dX9_after_32 : decode cX9_after 32 = .ok (.aload_n 0, 1) := dk_of dkAa130 (i := 16) rfl
theorem dX9_after_33 : decode cX9_after 33 = .ok (.invokevirtual 223, 3) := dk_of dkAa130 (i := 17) rfl
theorem dX9_after_36 : decode cX9_after 36 = .ok (.aload_n 0, 1) := dk_of dkAa130 (i := 18) rfl
theorem dX9_after_37 : decode cX9_after 37 = .ok (.getfield 33, 3) := dk_of dkAa130 (i := 19) rfl
theorem dX9_after_40 : decode cX9_after 40 = .ok (.iload_n 2, 1) := dk_of dkAa130 (i := 20) rfl
theorem dX9_after_41 : decode cX9_after 41 = .ok (.invokevirtual 151, 3) := dk_of dkAa130 (i := 21) rfl
theorem dX9_after_44 : decode cX9_after 44 = .ok (.ireturn, 1) := dk_of dkAa130 (i := 22) rfl
def dkLa131 : List (Nat × Instr × Nat) := [(0, .iload_n 2, 1), (1, .invokestatic 195, 3), (4, .ifCond .ne 6, 3), (7, .ldc 150, 2), (9, .ireturn, 1), (10, .aload_n 0, 1), (11, .getfield 74, 3), (14, .iload_n 1, 1), (15, .aload_n 0, 1), (16, .getfield 29, 3), (19, .invokevirtual 219, 3), (22, .ifCond .ne 6, 3), (25, .ldc 86, 2), (27, .ireturn, 1), (28, .aload_n 0, 1), (29, .invokevirtual 223, 3), (32, .aload_n 0, 1), (33, .getfield 33, 3), (36, .iload_n 2, 1), (37, .invokevirtual 226, 3), (40, .ireturn, 1)]
set_option maxRecDepth 100000 in
theorem dkAa131 : ∀ q ∈ dkLa131, decode cX9_whose q.1 = .ok q.2 := by decide +kernel
theorem dX9_whose_0 : decode cX9_whose 0 = .ok (.iload_n 2, 1) := dk_of dkAa131 (i := 0) rfl
theorem dX9_whose_1 : decode cX9_whose 1 = .ok (.invokestatic 195, 3) := dk_of dkAa131 (i := 1) rfl
theorem dX9_whose_4 : decode cX9_whose 4 = .ok (.ifCond .ne 6, 3) := dk_of dkAa131 (i := 2) rfl
theorem dX9_whose_7 : decode cX9_whose 7 = .ok (.ldc 150, 2) := dk_of dkAa131 (i := 3) rfl
theorem dX9_whose_9 : decode cX9_whose 9 = .ok (.ireturn, 1) := dk_of dkAa131 (i := 4) rfl
theorem dX9_whose_10 : decode cX9_whose 10 = .ok (.aload_n 0, 1) := dk_of dkAa131 (i := 5) rfl
theorem dX9_whose_11 : decode cX9_whose 11 = .ok (.getfield 74, 3) := dk_of dkAa131 (i := 6) rfl
theorem dX9_whose_14 : decode cX9_whose 14 = .ok (.iload_n 1, 1) := dk_of dkAa131 (i := 7) rfl
theorem dX9_whose_15 : decode cX9_whose 15 = .ok (.aload_n 0, 1) := dk_of dkAa131 (i := 8) rfl
theorem dX9_whose_16 : decode cX9_whose 16 = .ok (.getfield 29, 3) := dk_of dkAa131 (i := 9) rfl
theorem dX9_whose_19 : decode cX9_whose 19 = .ok (.invokevirtual 219, 3) := dk_of dkAa131 (i := 10) rfl
theorem dX9_whose_22 : decode cX9_whose 22 = .ok (.ifCond .ne 6, 3) := dk_of dkAa131 (i := 11) rfl
theorem dX9_whose_25 : decode cX9_whose 25 = .ok (.ldc 86, 2) := dk_of dkAa131 (i := 12) rfl
theorem dX9_whose_27 : decode cX9_whose 27 = .ok (.ireturn, 1) := dk_of dkAa131 (i := 13) rfl
theorem dX9_whose_28 : decode cX9_whose 28 = .ok (.aload_n 0, 1) := dk_of dkAa131 (i := 14) rfl
theorem dX9_whose_29 : decode cX9_whose 29 = .ok (.invokevirtual 223, 3) := dk_of dkAa131 (i := 15) rfl
theorem dX9_whose_32 : decode cX9_whose 32 = .ok (.aload_n 0, 1) := dk_of dkAa131 (i := 16) rfl
theorem dX9_whose_33 : decode cX9_whose 33 = .ok (.getfield 33, 3) := dk_of dkAa131 (i := 17) rfl
theorem dX9_whose_36 : decode cX9_whose 36 = .ok (.iload_n 2, 1) := dk_of dkAa131 (i := 18) rfl
theorem dX9_whose_37 : decode cX9_whose 37 = .ok (.invokevirtual 226, 3) := dk_of dkAa131 (i := 19) rfl
theorem dX9_whose_40 : decode cX9_whose 40 = .ok (.ireturn, 1) := dk_of dkAa131 (i := 20) rfl
def dkLa132 : List (Nat × Instr × Nat) := [(0, .aload_n 0, 1), (1, .getfield 19, 3), (4, .iload_n 2, 1), (5, .invokevirtual 147, 3), (8, .ifCond .eq 14, 3), (11, .aload_n 0, 1), (12, .getfield 19, 3), (15, .iload_n 3, 1), (16, .invokevirtual 229, 3), (19, .ifCond .ne 6, 3), (22, .ldc 150, 2), (24, .ireturn, 1), (25, .iload 4, 2), (27, .ifCond .lt 24, 3), (30, .iload 4, 2), (32, .iconst 1, 1), (33, .if_icmp .gt 18, 3), (36, .aload_n 0, 1), (37, .getfield 74, 3), (40, .iload_n 1, 1), (41, .aload_n 0, 1), (42, .getfield 29, 3), (45, .invokevirtual 219, 3), (48, .ifCond .ne 6, 3), (51, .ldc 86, 2), (53, .ireturn, 1), (54, .aload_n 0, 1), (55, .iload_n 2, 1), (56, .iload_n 3, 1), (57, .invokevirtual 232, 3), (60, .istore 5, 2), (62, .iload 5, 2)]
set_option maxRecDepth 100000 in
theorem dkAa132 : ∀ q ∈ dkLa132, decode cX9_wills q.1 = .ok q.2 := by decide +kernel
theorem dX9_wills_0 : decode cX9_wills 0 = .ok (.aload_n 0, 1) := dk_of dkAa132 (i := 0) rfl
theorem dX9_wills_1 : decode cX9_wills 1 = .ok (.getfield 19, 3) := dk_of dkAa132 (i := 1) rfl
theorem dX9_wills_4 : decode cX9_wills 4 = .ok (.iload_n 2, 1) := dk_of dkAa132 (i := 2) rfl
theorem dX9_wills_5 : decode cX9_wills 5 = .ok (.invokevirtual 147, 3) := dk_of dkAa132 (i := 3) rfl
theorem dX9_wills_8 : decode cX9_wills 8 = .ok (.ifCond .eq 14, 3) := dk_of dkAa132 (i := 4) rfl
theorem dX9_wills_11 : decode cX9_wills 11 = .ok (.aload_n 0, 1) := dk_of dkAa132 (i := 5) rfl
theorem dX9_wills_12 : decode cX9_wills 12 = .ok (.getfield 19, 3) := dk_of dkAa132 (i := 6) rfl
theorem dX9_wills_15 : decode cX9_wills 15 = .ok (.iload_n 3, 1) := dk_of dkAa132 (i := 7) rfl
theorem dX9_wills_16 : decode cX9_wills 16 = .ok (.invokevirtual 229, 3) := dk_of dkAa132 (i := 8) rfl
theorem dX9_wills_19 : decode cX9_wills 19 = .ok (.ifCond .ne 6, 3) := dk_of dkAa132 (i := 9) rfl
theorem dX9_wills_22 : decode cX9_wills 22 = .ok (.ldc 150, 2) := dk_of dkAa132 (i := 10) rfl
theorem dX9_wills_24 : decode cX9_wills 24 = .ok (.ireturn, 1) := dk_of dkAa132 (i := 11) rfl
theorem dX9_wills_25 : decode cX9_wills 25 = .ok (.iload 4, 2) := dk_of dkAa132 (i := 12) rfl
theorem dX9_wills_27 : decode cX9_wills 27 = .ok (.ifCond .lt 24, 3) := dk_of dkAa132 (i := 13) rfl
theorem dX9_wills_30 : decode cX9_wills 30 = .ok (.iload 4, 2) := dk_of dkAa132 (i := 14) rfl
theorem dX9_wills_32 : decode cX9_wills 32 = .ok (.iconst 1, 1) := dk_of dkAa132 (i := 15) rfl
theorem dX9_wills_33 : decode cX9_wills 33 = .ok (.if_icmp .gt 18, 3) := dk_of dkAa132 (i := 16) rfl
theorem dX9_wills_36 : decode cX9_wills 36 = .ok (.aload_n 0, 1) := dk_of dkAa132 (i := 17) rfl
theorem dX9_wills_37 : decode cX9_wills 37 = .ok (.getfield 74, 3) := dk_of dkAa132 (i := 18) rfl
theorem dX9_wills_40 : decode cX9_wills 40 = .ok (.iload_n 1, 1) := dk_of dkAa132 (i := 19) rfl
theorem dX9_wills_41 : decode cX9_wills 41 = .ok (.aload_n 0, 1) := dk_of dkAa132 (i := 20) rfl
theorem dX9_wills_42 : decode cX9_wills 42 = .ok (.getfield 29, 3) := dk_of dkAa132 (i := 21) rfl
theorem dX9_wills_45 : decode cX9_wills 45 = .ok (.invokevirtual 219, 3) := dk_of dkAa132 (i := 22) rfl
theorem dX9_wills_48 : decode cX9_wills 48 = .ok (.ifCond .ne 6, 3) := dk_of dkAa132 (i := 23) rfl
theorem dX9_wills_51 : decode cX9_wills 51 = .ok (.ldc 86, 2) := dk_of dkAa132 (i := 24) rfl
theorem dX9_wills_53 : decode cX9_wills 53 = .ok (.ireturn, 1) := dk_of dkAa132 (i := 25) rfl
theorem dX9_wills_54 : decode cX9_wills 54 = .ok (.aload_n 0, 1) := dk_of dkAa132 (i := 26) rfl
theorem dX9_wills_55 : decode cX9_wills 55 = .ok (.iload_n 2, 1) := dk_of dkAa132 (i := 27) rfl
theorem dX9_wills_56 : decode cX9_wills 56 = .ok (.iload_n 3, 1) := dk_of dkAa132 (i := 28) rfl
theorem dX9_wills_57 : decode cX9_wills 57 = .ok (.invokevirtual 232, 3) := dk_of dkAa132 (i := 29) rfl
theorem dX9_wills_60 : decode cX9_wills 60 = .ok (.istore 5, 2) := dk_of dkAa132 (i := 30) rfl
theorem dX9_wills_62 : decode cX9_wills 62 = .ok (.iload 5, 2) := dk_of dkAa132 (i := 31) rfl
def dkLa133 : List (Nat × Instr × Nat) := [(64, .iconst (-1), 1), (65, .if_icmp .ne 5, 3), (68, .iconst (-1), 1), (69, .ireturn, 1), (70, .iload 4, 2), (72, .ifCond .ne 11, 3), (75, .iload 5, 2), (77, .invokestatic 235, 3), (80, .goto 5, 3), (83, .iload 5, 2), (85, .ireturn, 1)]
set_option maxRecDepth 100000 in
theorem dkAa133 : ∀ q ∈ dkLa133, decode cX9_wills q.1 = .ok q.2 := by decide +kernel
theorem dX9_wills_64 : decode cX9_wills 64 = .ok (.iconst (-1), 1) := dk_of dkAa133 (i := 0) rfl
theorem dX9_wills_65 : decode cX9_wills 65 = .ok (.if_icmp .ne 5, 3) := dk_of dkAa133 (i := 1) rfl
theorem dX9_wills_68 : decode cX9_wills 68 = .ok (.iconst (-1), 1) := dk_of dkAa133 (i := 2) rfl
theorem dX9_wills_69 : decode cX9_wills 69 = .ok (.ireturn, 1) := dk_of dkAa133 (i := 3) rfl
theorem dX9_wills_70 : decode cX9_wills 70 = .ok (.iload 4, 2) := dk_of dkAa133 (i := 4) rfl
theorem dX9_wills_72 : decode cX9_wills 72 = .ok (.ifCond .ne 11, 3) := dk_of dkAa133 (i := 5) rfl
theorem dX9_wills_75 : decode cX9_wills 75 = .ok (.iload 5, 2) := dk_of dkAa133 (i := 6) rfl
theorem dX9_wills_77 : decode cX9_wills 77 = .ok (.invokestatic 235, 3) := dk_of dkAa133 (i := 7) rfl
theorem dX9_wills_80 : decode cX9_wills 80 = .ok (.goto 5, 3) := dk_of dkAa133 (i := 8) rfl
theorem dX9_wills_83 : decode cX9_wills 83 = .ok (.iload 5, 2) := dk_of dkAa133 (i := 9) rfl
theorem dX9_wills_85 : decode cX9_wills 85 = .ok (.ireturn, 1) := dk_of dkAa133 (i := 10) rfl
def dkLa134 : List (Nat × Instr × Nat) := [(0, .iload_n 1, 1), (1, .iconst (-1), 1), (2, .if_icmp .eq 17, 3), (5, .aload_n 0, 1), (6, .getfield 19, 3), (9, .iload_n 1, 1), (10, .invokevirtual 240, 3), (13, .ifCond .ne 6, 3), (16, .ldc 150, 2), (18, .ireturn, 1), (19, .aload_n 0, 1), (20, .getfield 81, 3), (23, .aload_n 0, 1), (24, .getfield 19, 3), (27, .aload_n 0, 1), (28, .getfield 29, 3), (31, .invokevirtual 243, 3), (34, .iload_n 1, 1), (35, .iconst (-1), 1), (36, .if_icmp .ne 13, 3), (39, .aload_n 0, 1), (40, .getfield 81, 3), (43, .invokevirtual 247, 3), (46, .goto 11, 3), (49, .aload_n 0, 1), (50, .getfield 81, 3), (53, .iload_n 1, 1), (54, .invokevirtual 250, 3), (57, .ireturn, 1)]
set_option maxRecDepth 100000 in
theorem dkAa134 : ∀ q ∈ dkLa134, decode cX9_sing q.1 = .ok q.2 := by decide +kernel
theorem dX9_sing_0 : decode cX9_sing 0 = .ok (.iload_n 1, 1) := dk_of dkAa134 (i := 0) rfl
theorem dX9_sing_1 : decode cX9_sing 1 = .ok (.iconst (-1), 1) := dk_of dkAa134 (i := 1) rfl
theorem dX9_sing_2 : decode cX9_sing 2 = .ok (.if_icmp .eq 17, 3) := dk_of dkAa134 (i := 2) rfl
theorem dX9_sing_5 : decode cX9_sing 5 = .ok (.aload_n 0, 1) := dk_of dkAa134 (i := 3) rfl
theorem dX9_sing_6 : decode cX9_sing 6 = .ok (.getfield 19, 3) := dk_of dkAa134 (i := 4) rfl
theorem dX9_sing_9 : decode cX9_sing 9 = .ok (.iload_n 1, 1) := dk_of dkAa134 (i := 5) rfl
theorem dX9_sing_10 : decode cX9_sing 10 = .ok (.invokevirtual 240, 3) := dk_of dkAa134 (i := 6) rfl
theorem dX9_sing_13 : decode cX9_sing 13 = .ok (.ifCond .ne 6, 3) := dk_of dkAa134 (i := 7) rfl
theorem dX9_sing_16 : decode cX9_sing 16 = .ok (.ldc 150, 2) := dk_of dkAa134 (i := 8) rfl
theorem dX9_sing_18 : decode cX9_sing 18 = .ok (.ireturn, 1) := dk_of dkAa134 (i := 9) rfl
theorem dX9_sing_19 : decode cX9_sing 19 = .ok (.aload_n 0, 1) := dk_of dkAa134 (i := 10) rfl
theorem dX9_sing_20 : decode cX9_sing 20 = .ok (.getfield 81, 3) := dk_of dkAa134 (i := 11) rfl
theorem dX9_sing_23 : decode cX9_sing 23 = .ok (.aload_n 0, 1) := dk_of dkAa134 (i := 12) rfl
theorem dX9_sing_24 : decode cX9_sing 24 = .ok (.getfield 19, 3) := dk_of dkAa134 (i := 13) rfl
theorem dX9_sing_27 : decode cX9_sing 27 = .ok (.aload_n 0, 1) := dk_of dkAa134 (i := 14) rfl
theorem dX9_sing_28 : decode cX9_sing 28 = .ok (.getfield 29, 3) := dk_of dkAa134 (i := 15) rfl
theorem dX9_sing_31 : decode cX9_sing 31 = .ok (.invokevirtual 243, 3) := dk_of dkAa134 (i := 16) rfl
theorem dX9_sing_34 : decode cX9_sing 34 = .ok (.iload_n 1, 1) := dk_of dkAa134 (i := 17) rfl
theorem dX9_sing_35 : decode cX9_sing 35 = .ok (.iconst (-1), 1) := dk_of dkAa134 (i := 18) rfl
theorem dX9_sing_36 : decode cX9_sing 36 = .ok (.if_icmp .ne 13, 3) := dk_of dkAa134 (i := 19) rfl
theorem dX9_sing_39 : decode cX9_sing 39 = .ok (.aload_n 0, 1) := dk_of dkAa134 (i := 20) rfl
theorem dX9_sing_40 : decode cX9_sing 40 = .ok (.getfield 81, 3) := dk_of dkAa134 (i := 21) rfl
theorem dX9_sing_43 : decode cX9_sing 43 = .ok (.invokevirtual 247, 3) := dk_of dkAa134 (i := 22) rfl
theorem dX9_sing_46 : decode cX9_sing 46 = .ok (.goto 11, 3) := dk_of dkAa134 (i := 23) rfl
theorem dX9_sing_49 : decode cX9_sing 49 = .ok (.aload_n 0, 1) := dk_of dkAa134 (i := 24) rfl
theorem dX9_sing_50 : decode cX9_sing 50 = .ok (.getfield 81, 3) := dk_of dkAa134 (i := 25) rfl
theorem dX9_sing_53 : decode cX9_sing 53 = .ok (.iload_n 1, 1) := dk_of dkAa134 (i := 26) rfl
theorem dX9_sing_54 : decode cX9_sing 54 = .ok (.invokevirtual 250, 3) := dk_of dkAa134 (i := 27) rfl
theorem dX9_sing_57 : decode cX9_sing 57 = .ok (.ireturn, 1) := dk_of dkAa134 (i := 28) rfl
def dkLa135 : List (Nat × Instr × Nat) := [(0, .aload_n 0, 1), (1, .getfield 19, 3), (4, .iload_n 1, 1), (5, .invokevirtual 147, 3), (8, .ifCond .ne 6, 3), (11, .ldc 150, 2), (13, .ireturn, 1), (14, .iload_n 2, 1), (15, .ifCond .lt 9, 3), (18, .iload_n 2, 1), (19, .bipush 99, 2), (21, .if_icmp .le 6, 3), (24, .ldc 86, 2), (26, .ireturn, 1), (27, .aload_n 0, 1), (28, .getfield 29, 3), (31, .iload_n 1, 1), (32, .invokevirtual 167, 3), (35, .ifCond .ne 6, 3), (38, .ldc 179, 2), (40, .ireturn, 1), (41, .aload_n 0, 1), (42, .getfield 29, 3), (45, .iload_n 1, 1), (46, .invokevirtual 151, 3), (49, .istore_n 3, 1), (50, .iload_n 3, 1), (51, .bipush 9, 2), (53, .if_icmp .ne 5, 3), (56, .iconst 0, 1), (57, .ireturn, 1), (58, .aload_n 0, 1)]
set_option maxRecDepth 100000 in
theorem dkAa135 : ∀ q ∈ dkLa135, decode cX9_bid q.1 = .ok q.2 := by decide +kernel
theorem dX9_bid_0 : decode cX9_bid 0 = .ok (.aload_n 0, 1) := dk_of dkAa135 (i := 0) rfl
theorem dX9_bid_1 : decode cX9_bid 1 = .ok (.getfield 19, 3) := dk_of dkAa135 (i := 1) rfl
theorem dX9_bid_4 : decode cX9_bid 4 = .ok (.iload_n 1, 1) := dk_of dkAa135 (i := 2) rfl
theorem dX9_bid_5 : decode cX9_bid 5 = .ok (.invokevirtual 147, 3) := dk_of dkAa135 (i := 3) rfl
theorem dX9_bid_8 : decode cX9_bid 8 = .ok (.ifCond .ne 6, 3) := dk_of dkAa135 (i := 4) rfl
theorem dX9_bid_11 : decode cX9_bid 11 = .ok (.ldc 150, 2) := dk_of dkAa135 (i := 5) rfl
theorem dX9_bid_13 : decode cX9_bid 13 = .ok (.ireturn, 1) := dk_of dkAa135 (i := 6) rfl
theorem dX9_bid_14 : decode cX9_bid 14 = .ok (.iload_n 2, 1) := dk_of dkAa135 (i := 7) rfl
theorem dX9_bid_15 : decode cX9_bid 15 = .ok (.ifCond .lt 9, 3) := dk_of dkAa135 (i := 8) rfl
theorem dX9_bid_18 : decode cX9_bid 18 = .ok (.iload_n 2, 1) := dk_of dkAa135 (i := 9) rfl
theorem dX9_bid_19 : decode cX9_bid 19 = .ok (.bipush 99, 2) := dk_of dkAa135 (i := 10) rfl
theorem dX9_bid_21 : decode cX9_bid 21 = .ok (.if_icmp .le 6, 3) := dk_of dkAa135 (i := 11) rfl
theorem dX9_bid_24 : decode cX9_bid 24 = .ok (.ldc 86, 2) := dk_of dkAa135 (i := 12) rfl
theorem dX9_bid_26 : decode cX9_bid 26 = .ok (.ireturn, 1) := dk_of dkAa135 (i := 13) rfl
theorem dX9_bid_27 : decode cX9_bid 27 = .ok (.aload_n 0, 1) := dk_of dkAa135 (i := 14) rfl
theorem dX9_bid_28 : decode cX9_bid 28 = .ok (.getfield 29, 3) := dk_of dkAa135 (i := 15) rfl
theorem dX9_bid_31 : decode cX9_bid 31 = .ok (.iload_n 1, 1) := dk_of dkAa135 (i := 16) rfl
theorem dX9_bid_32 : decode cX9_bid 32 = .ok (.invokevirtual 167, 3) := dk_of dkAa135 (i := 17) rfl
theorem dX9_bid_35 : decode cX9_bid 35 = .ok (.ifCond .ne 6, 3) := dk_of dkAa135 (i := 18) rfl
theorem dX9_bid_38 : decode cX9_bid 38 = .ok (.ldc 179, 2) := dk_of dkAa135 (i := 19) rfl
theorem dX9_bid_40 : decode cX9_bid 40 = .ok (.ireturn, 1) := dk_of dkAa135 (i := 20) rfl
theorem dX9_bid_41 : decode cX9_bid 41 = .ok (.aload_n 0, 1) := dk_of dkAa135 (i := 21) rfl
theorem dX9_bid_42 : decode cX9_bid 42 = .ok (.getfield 29, 3) := dk_of dkAa135 (i := 22) rfl
theorem dX9_bid_45 : decode cX9_bid 45 = .ok (.iload_n 1, 1) := dk_of dkAa135 (i := 23) rfl
theorem dX9_bid_46 : decode cX9_bid 46 = .ok (.invokevirtual 151, 3) := dk_of dkAa135 (i := 24) rfl
theorem dX9_bid_49 : decode cX9_bid 49 = .ok (.istore_n 3, 1) := dk_of dkAa135 (i := 25) rfl
theorem dX9_bid_50 : decode cX9_bid 50 = .ok (.iload_n 3, 1) := dk_of dkAa135 (i := 26) rfl
theorem dX9_bid_51 : decode cX9_bid 51 = .ok (.bipush 9, 2) := dk_of dkAa135 (i := 27) rfl
theorem dX9_bid_53 : decode cX9_bid 53 = .ok (.if_icmp .ne 5, 3) := dk_of dkAa135 (i := 28) rfl
theorem dX9_bid_56 : decode cX9_bid 56 = .ok (.iconst 0, 1) := dk_of dkAa135 (i := 29) rfl
theorem dX9_bid_57 : decode cX9_bid 57 = .ok (.ireturn, 1) := dk_of dkAa135 (i := 30) rfl
theorem dX9_bid_58 : decode cX9_bid 58 = .ok (.aload_n 0, 1) := dk_of dkAa135 (i := 31) rfl
def dkLa136 : List (Nat × Instr × Nat) := [(59, .getfield 19, 3), (62, .iload_n 3, 1), (63, .invokevirtual 170, 3), (66, .iconst 1, 1), (67, .iadd, 1), (68, .aload_n 0, 1), (69, .getfield 19, 3), (72, .iload_n 3, 1), (73, .invokevirtual 164, 3), (76, .invokestatic 235, 3), (79, .imul, 1), (80, .iload_n 2, 1), (81, .imul, 1), (82, .ireturn, 1)]
set_option maxRecDepth 100000 in
theorem dkAa136 : ∀ q ∈ dkLa136, decode cX9_bid q.1 = .ok q.2 := by decide +kernel
theorem dX9_bid_59 : decode cX9_bid 59 = .ok (.getfield 19, 3) := dk_of dkAa136 (i := 0) rfl
theorem dX9_bid_62 : decode cX9_bid 62 = .ok (.iload_n 3, 1) := dk_of dkAa136 (i := 1) rfl
theorem dX9_bid_63 : decode cX9_bid 63 = .ok (.invokevirtual 170, 3) := dk_of dkAa136 (i := 2) rfl
theorem dX9_bid_66 : decode cX9_bid 66 = .ok (.iconst 1, 1) := dk_of dkAa136 (i := 3) rfl
theorem dX9_bid_67 : decode cX9_bid 67 = .ok (.iadd, 1) := dk_of dkAa136 (i := 4) rfl
theorem dX9_bid_68 : decode cX9_bid 68 = .ok (.aload_n 0, 1) := dk_of dkAa136 (i := 5) rfl
theorem dX9_bid_69 : decode cX9_bid 69 = .ok (.getfield 19, 3) := dk_of dkAa136 (i := 6) rfl
theorem dX9_bid_72 : decode cX9_bid 72 = .ok (.iload_n 3, 1) := dk_of dkAa136 (i := 7) rfl
theorem dX9_bid_73 : decode cX9_bid 73 = .ok (.invokevirtual 164, 3) := dk_of dkAa136 (i := 8) rfl
theorem dX9_bid_76 : decode cX9_bid 76 = .ok (.invokestatic 235, 3) := dk_of dkAa136 (i := 9) rfl
theorem dX9_bid_79 : decode cX9_bid 79 = .ok (.imul, 1) := dk_of dkAa136 (i := 10) rfl
theorem dX9_bid_80 : decode cX9_bid 80 = .ok (.iload_n 2, 1) := dk_of dkAa136 (i := 11) rfl
theorem dX9_bid_81 : decode cX9_bid 81 = .ok (.imul, 1) := dk_of dkAa136 (i := 12) rfl
theorem dX9_bid_82 : decode cX9_bid 82 = .ok (.ireturn, 1) := dk_of dkAa136 (i := 13) rfl
def dkLa137 : List (Nat × Instr × Nat) := [(0, .aload_n 0, 1), (1, .getfield 19, 3), (4, .iload_n 1, 1), (5, .invokevirtual 253, 3), (8, .ifCond .ne 6, 3), (11, .ldc 150, 2), (13, .ireturn, 1), (14, .iload_n 2, 1), (15, .ifCond .lt 19, 3), (18, .iload_n 2, 1), (19, .bipush 60, 2), (21, .if_icmp .gt 13, 3), (24, .iload_n 3, 1), (25, .ifCond .lt 9, 3), (28, .iload_n 3, 1), (29, .bipush 100, 2), (31, .if_icmp .le 6, 3), (34, .ldc 86, 2), (36, .ireturn, 1), (37, .aload_n 0, 1), (38, .getfield 29, 3), (41, .iload_n 1, 1), (42, .invokevirtual 256, 3), (45, .ifCond .ne 6, 3), (48, .ldc 179, 2), (50, .ireturn, 1), (51, .iload_n 1, 1), (52, .invokestatic 235, 3), (55, .iload_n 2, 1), (56, .imul, 1), (57, .istore 4, 2), (59, .ldc2_w 259, 3)]
set_option maxRecDepth 100000 in
theorem dkAa137 : ∀ q ∈ dkLa137, decode cX9_live q.1 = .ok q.2 := by decide +kernel
theorem dX9_live_0 : decode cX9_live 0 = .ok (.aload_n 0, 1) := dk_of dkAa137 (i := 0) rfl
theorem dX9_live_1 : decode cX9_live 1 = .ok (.getfield 19, 3) := dk_of dkAa137 (i := 1) rfl
theorem dX9_live_4 : decode cX9_live 4 = .ok (.iload_n 1, 1) := dk_of dkAa137 (i := 2) rfl
theorem dX9_live_5 : decode cX9_live 5 = .ok (.invokevirtual 253, 3) := dk_of dkAa137 (i := 3) rfl
theorem dX9_live_8 : decode cX9_live 8 = .ok (.ifCond .ne 6, 3) := dk_of dkAa137 (i := 4) rfl
theorem dX9_live_11 : decode cX9_live 11 = .ok (.ldc 150, 2) := dk_of dkAa137 (i := 5) rfl
theorem dX9_live_13 : decode cX9_live 13 = .ok (.ireturn, 1) := dk_of dkAa137 (i := 6) rfl
theorem dX9_live_14 : decode cX9_live 14 = .ok (.iload_n 2, 1) := dk_of dkAa137 (i := 7) rfl
theorem dX9_live_15 : decode cX9_live 15 = .ok (.ifCond .lt 19, 3) := dk_of dkAa137 (i := 8) rfl
theorem dX9_live_18 : decode cX9_live 18 = .ok (.iload_n 2, 1) := dk_of dkAa137 (i := 9) rfl
theorem dX9_live_19 : decode cX9_live 19 = .ok (.bipush 60, 2) := dk_of dkAa137 (i := 10) rfl
theorem dX9_live_21 : decode cX9_live 21 = .ok (.if_icmp .gt 13, 3) := dk_of dkAa137 (i := 11) rfl
theorem dX9_live_24 : decode cX9_live 24 = .ok (.iload_n 3, 1) := dk_of dkAa137 (i := 12) rfl
theorem dX9_live_25 : decode cX9_live 25 = .ok (.ifCond .lt 9, 3) := dk_of dkAa137 (i := 13) rfl
theorem dX9_live_28 : decode cX9_live 28 = .ok (.iload_n 3, 1) := dk_of dkAa137 (i := 14) rfl
theorem dX9_live_29 : decode cX9_live 29 = .ok (.bipush 100, 2) := dk_of dkAa137 (i := 15) rfl
theorem dX9_live_31 : decode cX9_live 31 = .ok (.if_icmp .le 6, 3) := dk_of dkAa137 (i := 16) rfl
theorem dX9_live_34 : decode cX9_live 34 = .ok (.ldc 86, 2) := dk_of dkAa137 (i := 17) rfl
theorem dX9_live_36 : decode cX9_live 36 = .ok (.ireturn, 1) := dk_of dkAa137 (i := 18) rfl
theorem dX9_live_37 : decode cX9_live 37 = .ok (.aload_n 0, 1) := dk_of dkAa137 (i := 19) rfl
theorem dX9_live_38 : decode cX9_live 38 = .ok (.getfield 29, 3) := dk_of dkAa137 (i := 20) rfl
theorem dX9_live_41 : decode cX9_live 41 = .ok (.iload_n 1, 1) := dk_of dkAa137 (i := 21) rfl
theorem dX9_live_42 : decode cX9_live 42 = .ok (.invokevirtual 256, 3) := dk_of dkAa137 (i := 22) rfl
theorem dX9_live_45 : decode cX9_live 45 = .ok (.ifCond .ne 6, 3) := dk_of dkAa137 (i := 23) rfl
theorem dX9_live_48 : decode cX9_live 48 = .ok (.ldc 179, 2) := dk_of dkAa137 (i := 24) rfl
theorem dX9_live_50 : decode cX9_live 50 = .ok (.ireturn, 1) := dk_of dkAa137 (i := 25) rfl
theorem dX9_live_51 : decode cX9_live 51 = .ok (.iload_n 1, 1) := dk_of dkAa137 (i := 26) rfl
theorem dX9_live_52 : decode cX9_live 52 = .ok (.invokestatic 235, 3) := dk_of dkAa137 (i := 27) rfl
theorem dX9_live_55 : decode cX9_live 55 = .ok (.iload_n 2, 1) := dk_of dkAa137 (i := 28) rfl
theorem dX9_live_56 : decode cX9_live 56 = .ok (.imul, 1) := dk_of dkAa137 (i := 29) rfl
theorem dX9_live_57 : decode cX9_live 57 = .ok (.istore 4, 2) := dk_of dkAa137 (i := 30) rfl
theorem dX9_live_59 : decode cX9_live 59 = .ok (.ldc2_w 259, 3) := dk_of dkAa137 (i := 31) rfl
def dkLa138 : List (Nat × Instr × Nat) := [(62, .lstore 5, 2), (64, .iconst 0, 1), (65, .istore 7, 2), (67, .iload 7, 2), (69, .iload 4, 2), (71, .if_icmp .ge 23, 3), (74, .lload 5, 2), (76, .bipush 100, 2), (78, .iload_n 3, 1), (79, .isub, 1), (80, .i2l, 1), (81, .lmul, 1), (82, .ldc2_w 261, 3), (85, .ldiv, 1), (86, .lstore 5, 2), (88, .iinc 7 1, 3), (91, .goto (-24), 3), (94, .lload 5, 2), (96, .l2i, 1), (97, .ireturn, 1)]
set_option maxRecDepth 100000 in
theorem dkAa138 : ∀ q ∈ dkLa138, decode cX9_live q.1 = .ok q.2 := by decide +kernel
theorem dX9_live_62 : decode cX9_live 62 = .ok (.lstore 5, 2) := dk_of dkAa138 (i := 0) rfl
theorem dX9_live_64 : decode cX9_live 64 = .ok (.iconst 0, 1) := dk_of dkAa138 (i := 1) rfl
theorem dX9_live_65 : decode cX9_live 65 = .ok (.istore 7, 2) := dk_of dkAa138 (i := 2) rfl
theorem dX9_live_67 : decode cX9_live 67 = .ok (.iload 7, 2) := dk_of dkAa138 (i := 3) rfl
theorem dX9_live_69 : decode cX9_live 69 = .ok (.iload 4, 2) := dk_of dkAa138 (i := 4) rfl
theorem dX9_live_71 : decode cX9_live 71 = .ok (.if_icmp .ge 23, 3) := dk_of dkAa138 (i := 5) rfl
theorem dX9_live_74 : decode cX9_live 74 = .ok (.lload 5, 2) := dk_of dkAa138 (i := 6) rfl
theorem dX9_live_76 : decode cX9_live 76 = .ok (.bipush 100, 2) := dk_of dkAa138 (i := 7) rfl
theorem dX9_live_78 : decode cX9_live 78 = .ok (.iload_n 3, 1) := dk_of dkAa138 (i := 8) rfl
theorem dX9_live_79 : decode cX9_live 79 = .ok (.isub, 1) := dk_of dkAa138 (i := 9) rfl
theorem dX9_live_80 : decode cX9_live 80 = .ok (.i2l, 1) := dk_of dkAa138 (i := 10) rfl
theorem dX9_live_81 : decode cX9_live 81 = .ok (.lmul, 1) := dk_of dkAa138 (i := 11) rfl
theorem dX9_live_82 : decode cX9_live 82 = .ok (.ldc2_w 261, 3) := dk_of dkAa138 (i := 12) rfl
theorem dX9_live_85 : decode cX9_live 85 = .ok (.ldiv, 1) := dk_of dkAa138 (i := 13) rfl
theorem dX9_live_86 : decode cX9_live 86 = .ok (.lstore 5, 2) := dk_of dkAa138 (i := 14) rfl
theorem dX9_live_88 : decode cX9_live 88 = .ok (.iinc 7 1, 3) := dk_of dkAa138 (i := 15) rfl
theorem dX9_live_91 : decode cX9_live 91 = .ok (.goto (-24), 3) := dk_of dkAa138 (i := 16) rfl
theorem dX9_live_94 : decode cX9_live 94 = .ok (.lload 5, 2) := dk_of dkAa138 (i := 17) rfl
theorem dX9_live_96 : decode cX9_live 96 = .ok (.l2i, 1) := dk_of dkAa138 (i := 18) rfl
theorem dX9_live_97 : decode cX9_live 97 = .ok (.ireturn, 1) := dk_of dkAa138 (i := 19) rfl
def dkLa139 : List (Nat × Instr × Nat) := [(0, .aload_n 0, 1), (1, .getfield 19, 3), (4, .iload_n 1, 1), (5, .invokevirtual 173, 3), (8, .ifCond .ne 6, 3), (11, .ldc 150, 2), (13, .ireturn, 1), (14, .aload_n 0, 1), (15, .getfield 61, 3), (18, .iload_n 1, 1), (19, .iload_n 2, 1), (20, .ifCond .eq 7, 3), (23, .iconst 1, 1), (24, .goto 4, 3), (27, .iconst 0, 1), (28, .invokevirtual 263, 3), (31, .ifCond .eq 13, 3), (34, .aload_n 0, 1), (35, .getfield 61, 3), (38, .getfield 145, 3), (41, .goto 5, 3), (44, .ldc 95, 2), (46, .ireturn, 1)]
set_option maxRecDepth 100000 in
theorem dkAa139 : ∀ q ∈ dkLa139, decode cX9_see q.1 = .ok q.2 := by decide +kernel
theorem dX9_see_0 : decode cX9_see 0 = .ok (.aload_n 0, 1) := dk_of dkAa139 (i := 0) rfl
theorem dX9_see_1 : decode cX9_see 1 = .ok (.getfield 19, 3) := dk_of dkAa139 (i := 1) rfl
theorem dX9_see_4 : decode cX9_see 4 = .ok (.iload_n 1, 1) := dk_of dkAa139 (i := 2) rfl
theorem dX9_see_5 : decode cX9_see 5 = .ok (.invokevirtual 173, 3) := dk_of dkAa139 (i := 3) rfl
theorem dX9_see_8 : decode cX9_see 8 = .ok (.ifCond .ne 6, 3) := dk_of dkAa139 (i := 4) rfl
theorem dX9_see_11 : decode cX9_see 11 = .ok (.ldc 150, 2) := dk_of dkAa139 (i := 5) rfl
theorem dX9_see_13 : decode cX9_see 13 = .ok (.ireturn, 1) := dk_of dkAa139 (i := 6) rfl
theorem dX9_see_14 : decode cX9_see 14 = .ok (.aload_n 0, 1) := dk_of dkAa139 (i := 7) rfl
theorem dX9_see_15 : decode cX9_see 15 = .ok (.getfield 61, 3) := dk_of dkAa139 (i := 8) rfl
theorem dX9_see_18 : decode cX9_see 18 = .ok (.iload_n 1, 1) := dk_of dkAa139 (i := 9) rfl
theorem dX9_see_19 : decode cX9_see 19 = .ok (.iload_n 2, 1) := dk_of dkAa139 (i := 10) rfl
theorem dX9_see_20 : decode cX9_see 20 = .ok (.ifCond .eq 7, 3) := dk_of dkAa139 (i := 11) rfl
theorem dX9_see_23 : decode cX9_see 23 = .ok (.iconst 1, 1) := dk_of dkAa139 (i := 12) rfl
theorem dX9_see_24 : decode cX9_see 24 = .ok (.goto 4, 3) := dk_of dkAa139 (i := 13) rfl
theorem dX9_see_27 : decode cX9_see 27 = .ok (.iconst 0, 1) := dk_of dkAa139 (i := 14) rfl
theorem dX9_see_28 : decode cX9_see 28 = .ok (.invokevirtual 263, 3) := dk_of dkAa139 (i := 15) rfl
theorem dX9_see_31 : decode cX9_see 31 = .ok (.ifCond .eq 13, 3) := dk_of dkAa139 (i := 16) rfl
theorem dX9_see_34 : decode cX9_see 34 = .ok (.aload_n 0, 1) := dk_of dkAa139 (i := 17) rfl
theorem dX9_see_35 : decode cX9_see 35 = .ok (.getfield 61, 3) := dk_of dkAa139 (i := 18) rfl
theorem dX9_see_38 : decode cX9_see 38 = .ok (.getfield 145, 3) := dk_of dkAa139 (i := 19) rfl
theorem dX9_see_41 : decode cX9_see 41 = .ok (.goto 5, 3) := dk_of dkAa139 (i := 20) rfl
theorem dX9_see_44 : decode cX9_see 44 = .ok (.ldc 95, 2) := dk_of dkAa139 (i := 21) rfl
theorem dX9_see_46 : decode cX9_see 46 = .ok (.ireturn, 1) := dk_of dkAa139 (i := 22) rfl
def dkLa140 : List (Nat × Instr × Nat) := [(0, .iload_n 1, 1), (1, .lookupswitch 44 #[(0, 27), (1, 32)], 27), (28, .aload_n 0, 1), (29, .invokevirtual 265, 3), (32, .ireturn, 1), (33, .aload_n 0, 1), (34, .getfield 29, 3), (37, .aload_n 0, 1), (38, .invokevirtual 265, 3), (41, .invokevirtual 268, 3), (44, .ireturn, 1), (45, .ldc 86, 2), (47, .ireturn, 1)]
set_option maxRecDepth 100000 in
theorem dkAa140 : ∀ q ∈ dkLa140, decode cX9_spoke q.1 = .ok q.2 := by decide +kernel
theorem dX9_spoke_0 : decode cX9_spoke 0 = .ok (.iload_n 1, 1) := dk_of dkAa140 (i := 0) rfl
theorem dX9_spoke_1 : decode cX9_spoke 1 = .ok (.lookupswitch 44 #[(0, 27), (1, 32)], 27) := dk_of dkAa140 (i := 1) rfl
theorem dX9_spoke_28 : decode cX9_spoke 28 = .ok (.aload_n 0, 1) := dk_of dkAa140 (i := 2) rfl
theorem dX9_spoke_29 : decode cX9_spoke 29 = .ok (.invokevirtual 265, 3) := dk_of dkAa140 (i := 3) rfl
theorem dX9_spoke_32 : decode cX9_spoke 32 = .ok (.ireturn, 1) := dk_of dkAa140 (i := 4) rfl
theorem dX9_spoke_33 : decode cX9_spoke 33 = .ok (.aload_n 0, 1) := dk_of dkAa140 (i := 5) rfl
theorem dX9_spoke_34 : decode cX9_spoke 34 = .ok (.getfield 29, 3) := dk_of dkAa140 (i := 6) rfl
theorem dX9_spoke_37 : decode cX9_spoke 37 = .ok (.aload_n 0, 1) := dk_of dkAa140 (i := 7) rfl
theorem dX9_spoke_38 : decode cX9_spoke 38 = .ok (.invokevirtual 265, 3) := dk_of dkAa140 (i := 8) rfl
theorem dX9_spoke_41 : decode cX9_spoke 41 = .ok (.invokevirtual 268, 3) := dk_of dkAa140 (i := 9) rfl
theorem dX9_spoke_44 : decode cX9_spoke 44 = .ok (.ireturn, 1) := dk_of dkAa140 (i := 10) rfl
theorem dX9_spoke_45 : decode cX9_spoke 45 = .ok (.ldc 86, 2) := dk_of dkAa140 (i := 11) rfl
theorem dX9_spoke_47 : decode cX9_spoke 47 = .ok (.ireturn, 1) := dk_of dkAa140 (i := 12) rfl
def dkLa141 : List (Nat × Instr × Nat) := [(0, .aload_n 0, 1), (1, .invokevirtual 265, 3), (4, .istore_n 1, 1), (5, .iconst (-1), 1), (6, .istore_n 2, 1), (7, .iload_n 1, 1), (8, .invokestatic 235, 3), (11, .istore_n 3, 1), (12, .iconst 0, 1), (13, .istore 4, 2), (15, .iload 4, 2), (17, .aload_n 0, 1), (18, .getfield 19, 3), (21, .getfield 123, 3), (24, .if_icmp .ge 51, 3), (27, .iload_n 1, 1), (28, .aload_n 0, 1), (29, .getfield 19, 3), (32, .iload 4, 2), (34, .invokevirtual 176, 3), (37, .iand, 1), (38, .invokestatic 235, 3), (41, .istore 5, 2), (43, .iload 5, 2), (45, .iload_n 1, 1), (46, .invokestatic 235, 3), (49, .iload 5, 2), (51, .isub, 1), (52, .invokestatic 271, 3), (55, .istore 6, 2), (57, .iload 6, 2), (59, .iload_n 3, 1)]
set_option maxRecDepth 100000 in
theorem dkAa141 : ∀ q ∈ dkLa141, decode cX9_knock q.1 = .ok q.2 := by decide +kernel
theorem dX9_knock_0 : decode cX9_knock 0 = .ok (.aload_n 0, 1) := dk_of dkAa141 (i := 0) rfl
theorem dX9_knock_1 : decode cX9_knock 1 = .ok (.invokevirtual 265, 3) := dk_of dkAa141 (i := 1) rfl
theorem dX9_knock_4 : decode cX9_knock 4 = .ok (.istore_n 1, 1) := dk_of dkAa141 (i := 2) rfl
theorem dX9_knock_5 : decode cX9_knock 5 = .ok (.iconst (-1), 1) := dk_of dkAa141 (i := 3) rfl
theorem dX9_knock_6 : decode cX9_knock 6 = .ok (.istore_n 2, 1) := dk_of dkAa141 (i := 4) rfl
theorem dX9_knock_7 : decode cX9_knock 7 = .ok (.iload_n 1, 1) := dk_of dkAa141 (i := 5) rfl
theorem dX9_knock_8 : decode cX9_knock 8 = .ok (.invokestatic 235, 3) := dk_of dkAa141 (i := 6) rfl
theorem dX9_knock_11 : decode cX9_knock 11 = .ok (.istore_n 3, 1) := dk_of dkAa141 (i := 7) rfl
theorem dX9_knock_12 : decode cX9_knock 12 = .ok (.iconst 0, 1) := dk_of dkAa141 (i := 8) rfl
theorem dX9_knock_13 : decode cX9_knock 13 = .ok (.istore 4, 2) := dk_of dkAa141 (i := 9) rfl
theorem dX9_knock_15 : decode cX9_knock 15 = .ok (.iload 4, 2) := dk_of dkAa141 (i := 10) rfl
theorem dX9_knock_17 : decode cX9_knock 17 = .ok (.aload_n 0, 1) := dk_of dkAa141 (i := 11) rfl
theorem dX9_knock_18 : decode cX9_knock 18 = .ok (.getfield 19, 3) := dk_of dkAa141 (i := 12) rfl
theorem dX9_knock_21 : decode cX9_knock 21 = .ok (.getfield 123, 3) := dk_of dkAa141 (i := 13) rfl
theorem dX9_knock_24 : decode cX9_knock 24 = .ok (.if_icmp .ge 51, 3) := dk_of dkAa141 (i := 14) rfl
theorem dX9_knock_27 : decode cX9_knock 27 = .ok (.iload_n 1, 1) := dk_of dkAa141 (i := 15) rfl
theorem dX9_knock_28 : decode cX9_knock 28 = .ok (.aload_n 0, 1) := dk_of dkAa141 (i := 16) rfl
theorem dX9_knock_29 : decode cX9_knock 29 = .ok (.getfield 19, 3) := dk_of dkAa141 (i := 17) rfl
theorem dX9_knock_32 : decode cX9_knock 32 = .ok (.iload 4, 2) := dk_of dkAa141 (i := 18) rfl
theorem dX9_knock_34 : decode cX9_knock 34 = .ok (.invokevirtual 176, 3) := dk_of dkAa141 (i := 19) rfl
theorem dX9_knock_37 : decode cX9_knock 37 = .ok (.iand, 1) := dk_of dkAa141 (i := 20) rfl
theorem dX9_knock_38 : decode cX9_knock 38 = .ok (.invokestatic 235, 3) := dk_of dkAa141 (i := 21) rfl
theorem dX9_knock_41 : decode cX9_knock 41 = .ok (.istore 5, 2) := dk_of dkAa141 (i := 22) rfl
theorem dX9_knock_43 : decode cX9_knock 43 = .ok (.iload 5, 2) := dk_of dkAa141 (i := 23) rfl
theorem dX9_knock_45 : decode cX9_knock 45 = .ok (.iload_n 1, 1) := dk_of dkAa141 (i := 24) rfl
theorem dX9_knock_46 : decode cX9_knock 46 = .ok (.invokestatic 235, 3) := dk_of dkAa141 (i := 25) rfl
theorem dX9_knock_49 : decode cX9_knock 49 = .ok (.iload 5, 2) := dk_of dkAa141 (i := 26) rfl
theorem dX9_knock_51 : decode cX9_knock 51 = .ok (.isub, 1) := dk_of dkAa141 (i := 27) rfl
theorem dX9_knock_52 : decode cX9_knock 52 = .ok (.invokestatic 271, 3) := dk_of dkAa141 (i := 28) rfl
theorem dX9_knock_55 : decode cX9_knock 55 = .ok (.istore 6, 2) := dk_of dkAa141 (i := 29) rfl
theorem dX9_knock_57 : decode cX9_knock 57 = .ok (.iload 6, 2) := dk_of dkAa141 (i := 30) rfl
theorem dX9_knock_59 : decode cX9_knock 59 = .ok (.iload_n 3, 1) := dk_of dkAa141 (i := 31) rfl
def dkLa142 : List (Nat × Instr × Nat) := [(60, .if_icmp .ge 9, 3), (63, .iload 4, 2), (65, .istore_n 2, 1), (66, .iload 6, 2), (68, .istore_n 3, 1), (69, .iinc 4 1, 3), (72, .goto (-57), 3), (75, .iload_n 2, 1), (76, .ireturn, 1)]
set_option maxRecDepth 100000 in
theorem dkAa142 : ∀ q ∈ dkLa142, decode cX9_knock q.1 = .ok q.2 := by decide +kernel
theorem dX9_knock_60 : decode cX9_knock 60 = .ok (.if_icmp .ge 9, 3) := dk_of dkAa142 (i := 0) rfl
theorem dX9_knock_63 : decode cX9_knock 63 = .ok (.iload 4, 2) := dk_of dkAa142 (i := 1) rfl
theorem dX9_knock_65 : decode cX9_knock 65 = .ok (.istore_n 2, 1) := dk_of dkAa142 (i := 2) rfl
theorem dX9_knock_66 : decode cX9_knock 66 = .ok (.iload 6, 2) := dk_of dkAa142 (i := 3) rfl
theorem dX9_knock_68 : decode cX9_knock 68 = .ok (.istore_n 3, 1) := dk_of dkAa142 (i := 4) rfl
theorem dX9_knock_69 : decode cX9_knock 69 = .ok (.iinc 4 1, 3) := dk_of dkAa142 (i := 5) rfl
theorem dX9_knock_72 : decode cX9_knock 72 = .ok (.goto (-57), 3) := dk_of dkAa142 (i := 6) rfl
theorem dX9_knock_75 : decode cX9_knock 75 = .ok (.iload_n 2, 1) := dk_of dkAa142 (i := 7) rfl
theorem dX9_knock_76 : decode cX9_knock 76 = .ok (.ireturn, 1) := dk_of dkAa142 (i := 8) rfl
def dkLa143 : List (Nat × Instr × Nat) := [(0, .aload_n 0, 1), (1, .getfield 19, 3), (4, .iload_n 1, 1), (5, .invokevirtual 147, 3), (8, .ifCond .eq 10, 3), (11, .iload_n 2, 1), (12, .invokestatic 276, 3), (15, .ifCond .ne 6, 3), (18, .ldc 150, 2), (20, .ireturn, 1), (21, .aload_n 0, 1), (22, .getfield 65, 3), (25, .iload_n 1, 1), (26, .iload_n 2, 1), (27, .invokevirtual 263, 3), (30, .ifCond .eq 13, 3), (33, .aload_n 0, 1), (34, .getfield 65, 3), (37, .getfield 145, 3), (40, .goto 5, 3), (43, .ldc 95, 2), (45, .ireturn, 1)]
set_option maxRecDepth 100000 in
theorem dkAa143 : ∀ q ∈ dkLa143, decode cX9_has q.1 = .ok q.2 := by decide +kernel
theorem dX9_has_0 : decode cX9_has 0 = .ok (.aload_n 0, 1) := dk_of dkAa143 (i := 0) rfl
theorem dX9_has_1 : decode cX9_has 1 = .ok (.getfield 19, 3) := dk_of dkAa143 (i := 1) rfl
theorem dX9_has_4 : decode cX9_has 4 = .ok (.iload_n 1, 1) := dk_of dkAa143 (i := 2) rfl
theorem dX9_has_5 : decode cX9_has 5 = .ok (.invokevirtual 147, 3) := dk_of dkAa143 (i := 3) rfl
theorem dX9_has_8 : decode cX9_has 8 = .ok (.ifCond .eq 10, 3) := dk_of dkAa143 (i := 4) rfl
theorem dX9_has_11 : decode cX9_has 11 = .ok (.iload_n 2, 1) := dk_of dkAa143 (i := 5) rfl
theorem dX9_has_12 : decode cX9_has 12 = .ok (.invokestatic 276, 3) := dk_of dkAa143 (i := 6) rfl
theorem dX9_has_15 : decode cX9_has 15 = .ok (.ifCond .ne 6, 3) := dk_of dkAa143 (i := 7) rfl
theorem dX9_has_18 : decode cX9_has 18 = .ok (.ldc 150, 2) := dk_of dkAa143 (i := 8) rfl
theorem dX9_has_20 : decode cX9_has 20 = .ok (.ireturn, 1) := dk_of dkAa143 (i := 9) rfl
theorem dX9_has_21 : decode cX9_has 21 = .ok (.aload_n 0, 1) := dk_of dkAa143 (i := 10) rfl
theorem dX9_has_22 : decode cX9_has 22 = .ok (.getfield 65, 3) := dk_of dkAa143 (i := 11) rfl
theorem dX9_has_25 : decode cX9_has 25 = .ok (.iload_n 1, 1) := dk_of dkAa143 (i := 12) rfl
theorem dX9_has_26 : decode cX9_has 26 = .ok (.iload_n 2, 1) := dk_of dkAa143 (i := 13) rfl
theorem dX9_has_27 : decode cX9_has 27 = .ok (.invokevirtual 263, 3) := dk_of dkAa143 (i := 14) rfl
theorem dX9_has_30 : decode cX9_has 30 = .ok (.ifCond .eq 13, 3) := dk_of dkAa143 (i := 15) rfl
theorem dX9_has_33 : decode cX9_has 33 = .ok (.aload_n 0, 1) := dk_of dkAa143 (i := 16) rfl
theorem dX9_has_34 : decode cX9_has 34 = .ok (.getfield 65, 3) := dk_of dkAa143 (i := 17) rfl
theorem dX9_has_37 : decode cX9_has 37 = .ok (.getfield 145, 3) := dk_of dkAa143 (i := 18) rfl
theorem dX9_has_40 : decode cX9_has 40 = .ok (.goto 5, 3) := dk_of dkAa143 (i := 19) rfl
theorem dX9_has_43 : decode cX9_has 43 = .ok (.ldc 95, 2) := dk_of dkAa143 (i := 20) rfl
theorem dX9_has_45 : decode cX9_has 45 = .ok (.ireturn, 1) := dk_of dkAa143 (i := 21) rfl
def dkLa144 : List (Nat × Instr × Nat) := [(0, .aload_n 0, 1), (1, .getfield 19, 3), (4, .iload_n 1, 1), (5, .invokevirtual 253, 3), (8, .ifCond .ne 6, 3), (11, .ldc 150, 2), (13, .ireturn, 1), (14, .iload_n 1, 1), (15, .invokestatic 235, 3), (18, .iconst 4, 1), (19, .if_icmp .le 6, 3), (22, .ldc 86, 2), (24, .ireturn, 1), (25, .aload_n 0, 1), (26, .getfield 29, 3), (29, .iload_n 1, 1), (30, .invokevirtual 256, 3), (33, .ifCond .ne 6, 3), (36, .ldc 179, 2), (38, .ireturn, 1), (39, .iload_n 2, 1), (40, .bipush (-2), 2), (42, .if_icmp .ne 9, 3), (45, .aload_n 0, 1), (46, .iload_n 1, 1), (47, .invokevirtual 279, 3), (50, .ireturn, 1), (51, .iload_n 2, 1), (52, .iconst (-1), 1), (53, .if_icmp .ne 11, 3), (56, .aload_n 0, 1), (57, .iload_n 1, 1)]
set_option maxRecDepth 100000 in
theorem dkAa144 : ∀ q ∈ dkLa144, decode cX9_orders q.1 = .ok q.2 := by decide +kernel
theorem dX9_orders_0 : decode cX9_orders 0 = .ok (.aload_n 0, 1) := dk_of dkAa144 (i := 0) rfl
theorem dX9_orders_1 : decode cX9_orders 1 = .ok (.getfield 19, 3) := dk_of dkAa144 (i := 1) rfl
theorem dX9_orders_4 : decode cX9_orders 4 = .ok (.iload_n 1, 1) := dk_of dkAa144 (i := 2) rfl
theorem dX9_orders_5 : decode cX9_orders 5 = .ok (.invokevirtual 253, 3) := dk_of dkAa144 (i := 3) rfl
theorem dX9_orders_8 : decode cX9_orders 8 = .ok (.ifCond .ne 6, 3) := dk_of dkAa144 (i := 4) rfl
theorem dX9_orders_11 : decode cX9_orders 11 = .ok (.ldc 150, 2) := dk_of dkAa144 (i := 5) rfl
theorem dX9_orders_13 : decode cX9_orders 13 = .ok (.ireturn, 1) := dk_of dkAa144 (i := 6) rfl
theorem dX9_orders_14 : decode cX9_orders 14 = .ok (.iload_n 1, 1) := dk_of dkAa144 (i := 7) rfl
theorem dX9_orders_15 : decode cX9_orders 15 = .ok (.invokestatic 235, 3) := dk_of dkAa144 (i := 8) rfl
theorem dX9_orders_18 : decode cX9_orders 18 = .ok (.iconst 4, 1) := dk_of dkAa144 (i := 9) rfl
theorem dX9_orders_19 : decode cX9_orders 19 = .ok (.if_icmp .le 6, 3) := dk_of dkAa144 (i := 10) rfl
theorem dX9_orders_22 : decode cX9_orders 22 = .ok (.ldc 86, 2) := dk_of dkAa144 (i := 11) rfl
theorem dX9_orders_24 : decode cX9_orders 24 = .ok (.ireturn, 1) := dk_of dkAa144 (i := 12) rfl
theorem dX9_orders_25 : decode cX9_orders 25 = .ok (.aload_n 0, 1) := dk_of dkAa144 (i := 13) rfl
theorem dX9_orders_26 : decode cX9_orders 26 = .ok (.getfield 29, 3) := dk_of dkAa144 (i := 14) rfl
theorem dX9_orders_29 : decode cX9_orders 29 = .ok (.iload_n 1, 1) := dk_of dkAa144 (i := 15) rfl
theorem dX9_orders_30 : decode cX9_orders 30 = .ok (.invokevirtual 256, 3) := dk_of dkAa144 (i := 16) rfl
theorem dX9_orders_33 : decode cX9_orders 33 = .ok (.ifCond .ne 6, 3) := dk_of dkAa144 (i := 17) rfl
theorem dX9_orders_36 : decode cX9_orders 36 = .ok (.ldc 179, 2) := dk_of dkAa144 (i := 18) rfl
theorem dX9_orders_38 : decode cX9_orders 38 = .ok (.ireturn, 1) := dk_of dkAa144 (i := 19) rfl
theorem dX9_orders_39 : decode cX9_orders 39 = .ok (.iload_n 2, 1) := dk_of dkAa144 (i := 20) rfl
theorem dX9_orders_40 : decode cX9_orders 40 = .ok (.bipush (-2), 2) := dk_of dkAa144 (i := 21) rfl
theorem dX9_orders_42 : decode cX9_orders 42 = .ok (.if_icmp .ne 9, 3) := dk_of dkAa144 (i := 22) rfl
theorem dX9_orders_45 : decode cX9_orders 45 = .ok (.aload_n 0, 1) := dk_of dkAa144 (i := 23) rfl
theorem dX9_orders_46 : decode cX9_orders 46 = .ok (.iload_n 1, 1) := dk_of dkAa144 (i := 24) rfl
theorem dX9_orders_47 : decode cX9_orders 47 = .ok (.invokevirtual 279, 3) := dk_of dkAa144 (i := 25) rfl
theorem dX9_orders_50 : decode cX9_orders 50 = .ok (.ireturn, 1) := dk_of dkAa144 (i := 26) rfl
theorem dX9_orders_51 : decode cX9_orders 51 = .ok (.iload_n 2, 1) := dk_of dkAa144 (i := 27) rfl
theorem dX9_orders_52 : decode cX9_orders 52 = .ok (.iconst (-1), 1) := dk_of dkAa144 (i := 28) rfl
theorem dX9_orders_53 : decode cX9_orders 53 = .ok (.if_icmp .ne 11, 3) := dk_of dkAa144 (i := 29) rfl
theorem dX9_orders_56 : decode cX9_orders 56 = .ok (.aload_n 0, 1) := dk_of dkAa144 (i := 30) rfl
theorem dX9_orders_57 : decode cX9_orders 57 = .ok (.iload_n 1, 1) := dk_of dkAa144 (i := 31) rfl
def dkLa145 : List (Nat × Instr × Nat) := [(58, .invokevirtual 282, 3), (61, .goto 9, 3), (64, .aload_n 0, 1), (65, .iload_n 1, 1), (66, .iload_n 2, 1), (67, .invokevirtual 285, 3), (70, .ireturn, 1)]
set_option maxRecDepth 100000 in
theorem dkAa145 : ∀ q ∈ dkLa145, decode cX9_orders q.1 = .ok q.2 := by decide +kernel
theorem dX9_orders_58 : decode cX9_orders 58 = .ok (.invokevirtual 282, 3) := dk_of dkAa145 (i := 0) rfl
theorem dX9_orders_61 : decode cX9_orders 61 = .ok (.goto 9, 3) := dk_of dkAa145 (i := 1) rfl
theorem dX9_orders_64 : decode cX9_orders 64 = .ok (.aload_n 0, 1) := dk_of dkAa145 (i := 2) rfl
theorem dX9_orders_65 : decode cX9_orders 65 = .ok (.iload_n 1, 1) := dk_of dkAa145 (i := 3) rfl
theorem dX9_orders_66 : decode cX9_orders 66 = .ok (.iload_n 2, 1) := dk_of dkAa145 (i := 4) rfl
theorem dX9_orders_67 : decode cX9_orders 67 = .ok (.invokevirtual 285, 3) := dk_of dkAa145 (i := 5) rfl
theorem dX9_orders_70 : decode cX9_orders 70 = .ok (.ireturn, 1) := dk_of dkAa145 (i := 6) rfl
def dkLa146 : List (Nat × Instr × Nat) := [(0, .aload_n 0, 1), (1, .getfield 19, 3), (4, .iload_n 1, 1), (5, .invokevirtual 147, 3), (8, .ifCond .eq 10, 3), (11, .iload_n 2, 1), (12, .invokestatic 276, 3), (15, .ifCond .ne 6, 3), (18, .ldc 150, 2), (20, .ireturn, 1), (21, .aload_n 0, 1), (22, .getfield 68, 3), (25, .iload_n 1, 1), (26, .iload_n 2, 1), (27, .invokevirtual 263, 3), (30, .ifCond .eq 13, 3), (33, .aload_n 0, 1), (34, .getfield 68, 3), (37, .getfield 145, 3), (40, .goto 5, 3), (43, .ldc 95, 2), (45, .ireturn, 1)]
set_option maxRecDepth 100000 in
theorem dkAa146 : ∀ q ∈ dkLa146, decode cX9_write q.1 = .ok q.2 := by decide +kernel
theorem dX9_write_0 : decode cX9_write 0 = .ok (.aload_n 0, 1) := dk_of dkAa146 (i := 0) rfl
theorem dX9_write_1 : decode cX9_write 1 = .ok (.getfield 19, 3) := dk_of dkAa146 (i := 1) rfl
theorem dX9_write_4 : decode cX9_write 4 = .ok (.iload_n 1, 1) := dk_of dkAa146 (i := 2) rfl
theorem dX9_write_5 : decode cX9_write 5 = .ok (.invokevirtual 147, 3) := dk_of dkAa146 (i := 3) rfl
theorem dX9_write_8 : decode cX9_write 8 = .ok (.ifCond .eq 10, 3) := dk_of dkAa146 (i := 4) rfl
theorem dX9_write_11 : decode cX9_write 11 = .ok (.iload_n 2, 1) := dk_of dkAa146 (i := 5) rfl
theorem dX9_write_12 : decode cX9_write 12 = .ok (.invokestatic 276, 3) := dk_of dkAa146 (i := 6) rfl
theorem dX9_write_15 : decode cX9_write 15 = .ok (.ifCond .ne 6, 3) := dk_of dkAa146 (i := 7) rfl
theorem dX9_write_18 : decode cX9_write 18 = .ok (.ldc 150, 2) := dk_of dkAa146 (i := 8) rfl
theorem dX9_write_20 : decode cX9_write 20 = .ok (.ireturn, 1) := dk_of dkAa146 (i := 9) rfl
theorem dX9_write_21 : decode cX9_write 21 = .ok (.aload_n 0, 1) := dk_of dkAa146 (i := 10) rfl
theorem dX9_write_22 : decode cX9_write 22 = .ok (.getfield 68, 3) := dk_of dkAa146 (i := 11) rfl
theorem dX9_write_25 : decode cX9_write 25 = .ok (.iload_n 1, 1) := dk_of dkAa146 (i := 12) rfl
theorem dX9_write_26 : decode cX9_write 26 = .ok (.iload_n 2, 1) := dk_of dkAa146 (i := 13) rfl
theorem dX9_write_27 : decode cX9_write 27 = .ok (.invokevirtual 263, 3) := dk_of dkAa146 (i := 14) rfl
theorem dX9_write_30 : decode cX9_write 30 = .ok (.ifCond .eq 13, 3) := dk_of dkAa146 (i := 15) rfl
theorem dX9_write_33 : decode cX9_write 33 = .ok (.aload_n 0, 1) := dk_of dkAa146 (i := 16) rfl
theorem dX9_write_34 : decode cX9_write 34 = .ok (.getfield 68, 3) := dk_of dkAa146 (i := 17) rfl
theorem dX9_write_37 : decode cX9_write 37 = .ok (.getfield 145, 3) := dk_of dkAa146 (i := 18) rfl
theorem dX9_write_40 : decode cX9_write 40 = .ok (.goto 5, 3) := dk_of dkAa146 (i := 19) rfl
theorem dX9_write_43 : decode cX9_write 43 = .ok (.ldc 95, 2) := dk_of dkAa146 (i := 20) rfl
theorem dX9_write_45 : decode cX9_write 45 = .ok (.ireturn, 1) := dk_of dkAa146 (i := 21) rfl
def dkLa147 : List (Nat × Instr × Nat) := [(0, .aload_n 0, 1), (1, .getfield 61, 3), (4, .getfield 145, 3), (7, .aload_n 0, 1), (8, .getfield 65, 3), (11, .getfield 145, 3), (14, .iadd, 1), (15, .aload_n 0, 1), (16, .getfield 68, 3), (19, .getfield 145, 3), (22, .iadd, 1), (23, .istore_n 1, 1), (24, .aload_n 0, 1), (25, .getfield 61, 3), (28, .invokevirtual 107, 3), (31, .aload_n 0, 1), (32, .getfield 65, 3), (35, .invokevirtual 107, 3), (38, .aload_n 0, 1), (39, .getfield 68, 3), (42, .invokevirtual 107, 3), (45, .iload_n 1, 1), (46, .ireturn, 1)]
set_option maxRecDepth 100000 in
theorem dkAa147 : ∀ q ∈ dkLa147, decode cX9_tear q.1 = .ok q.2 := by decide +kernel
theorem dX9_tear_0 : decode cX9_tear 0 = .ok (.aload_n 0, 1) := dk_of dkAa147 (i := 0) rfl
theorem dX9_tear_1 : decode cX9_tear 1 = .ok (.getfield 61, 3) := dk_of dkAa147 (i := 1) rfl
theorem dX9_tear_4 : decode cX9_tear 4 = .ok (.getfield 145, 3) := dk_of dkAa147 (i := 2) rfl
theorem dX9_tear_7 : decode cX9_tear 7 = .ok (.aload_n 0, 1) := dk_of dkAa147 (i := 3) rfl
theorem dX9_tear_8 : decode cX9_tear 8 = .ok (.getfield 65, 3) := dk_of dkAa147 (i := 4) rfl
theorem dX9_tear_11 : decode cX9_tear 11 = .ok (.getfield 145, 3) := dk_of dkAa147 (i := 5) rfl
theorem dX9_tear_14 : decode cX9_tear 14 = .ok (.iadd, 1) := dk_of dkAa147 (i := 6) rfl
theorem dX9_tear_15 : decode cX9_tear 15 = .ok (.aload_n 0, 1) := dk_of dkAa147 (i := 7) rfl
theorem dX9_tear_16 : decode cX9_tear 16 = .ok (.getfield 68, 3) := dk_of dkAa147 (i := 8) rfl
theorem dX9_tear_19 : decode cX9_tear 19 = .ok (.getfield 145, 3) := dk_of dkAa147 (i := 9) rfl
theorem dX9_tear_22 : decode cX9_tear 22 = .ok (.iadd, 1) := dk_of dkAa147 (i := 10) rfl
theorem dX9_tear_23 : decode cX9_tear 23 = .ok (.istore_n 1, 1) := dk_of dkAa147 (i := 11) rfl
theorem dX9_tear_24 : decode cX9_tear 24 = .ok (.aload_n 0, 1) := dk_of dkAa147 (i := 12) rfl
theorem dX9_tear_25 : decode cX9_tear 25 = .ok (.getfield 61, 3) := dk_of dkAa147 (i := 13) rfl
theorem dX9_tear_28 : decode cX9_tear 28 = .ok (.invokevirtual 107, 3) := dk_of dkAa147 (i := 14) rfl
theorem dX9_tear_31 : decode cX9_tear 31 = .ok (.aload_n 0, 1) := dk_of dkAa147 (i := 15) rfl
theorem dX9_tear_32 : decode cX9_tear 32 = .ok (.getfield 65, 3) := dk_of dkAa147 (i := 16) rfl
theorem dX9_tear_35 : decode cX9_tear 35 = .ok (.invokevirtual 107, 3) := dk_of dkAa147 (i := 17) rfl
theorem dX9_tear_38 : decode cX9_tear 38 = .ok (.aload_n 0, 1) := dk_of dkAa147 (i := 18) rfl
theorem dX9_tear_39 : decode cX9_tear 39 = .ok (.getfield 68, 3) := dk_of dkAa147 (i := 19) rfl
theorem dX9_tear_42 : decode cX9_tear 42 = .ok (.invokevirtual 107, 3) := dk_of dkAa147 (i := 20) rfl
theorem dX9_tear_45 : decode cX9_tear 45 = .ok (.iload_n 1, 1) := dk_of dkAa147 (i := 21) rfl
theorem dX9_tear_46 : decode cX9_tear 46 = .ok (.ireturn, 1) := dk_of dkAa147 (i := 22) rfl
def dkLa148 : List (Nat × Instr × Nat) := [(0, .aload_n 0, 1), (1, .getfield 68, 3), (4, .aload_n 0, 1), (5, .getfield 29, 3), (8, .invokevirtual 288, 3), (11, .ireturn, 1)]
set_option maxRecDepth 100000 in
theorem dkAa148 : ∀ q ∈ dkLa148, decode cX9_judge q.1 = .ok q.2 := by decide +kernel
theorem dX9_judge_0 : decode cX9_judge 0 = .ok (.aload_n 0, 1) := dk_of dkAa148 (i := 0) rfl
theorem dX9_judge_1 : decode cX9_judge 1 = .ok (.getfield 68, 3) := dk_of dkAa148 (i := 1) rfl
theorem dX9_judge_4 : decode cX9_judge 4 = .ok (.aload_n 0, 1) := dk_of dkAa148 (i := 2) rfl
theorem dX9_judge_5 : decode cX9_judge 5 = .ok (.getfield 29, 3) := dk_of dkAa148 (i := 3) rfl
theorem dX9_judge_8 : decode cX9_judge 8 = .ok (.invokevirtual 288, 3) := dk_of dkAa148 (i := 4) rfl
theorem dX9_judge_11 : decode cX9_judge 11 = .ok (.ireturn, 1) := dk_of dkAa148 (i := 5) rfl
def dkLa149 : List (Nat × Instr × Nat) := [(0, .iload_n 1, 1), (1, .ifCond .ge 6, 3), (4, .ldc 86, 2), (6, .ireturn, 1), (7, .aload_n 0, 1), (8, .getfield 52, 3), (11, .getfield 292, 3), (14, .istore_n 2, 1), (15, .aload_n 0, 1), (16, .getfield 52, 3), (19, .iload_n 1, 1), (20, .putfield 292, 3), (23, .iload_n 2, 1), (24, .ireturn, 1)]
set_option maxRecDepth 100000 in
theorem dkAa149 : ∀ q ∈ dkLa149, decode cX9_seed q.1 = .ok q.2 := by decide +kernel
theorem dX9_seed_0 : decode cX9_seed 0 = .ok (.iload_n 1, 1) := dk_of dkAa149 (i := 0) rfl
theorem dX9_seed_1 : decode cX9_seed 1 = .ok (.ifCond .ge 6, 3) := dk_of dkAa149 (i := 1) rfl
theorem dX9_seed_4 : decode cX9_seed 4 = .ok (.ldc 86, 2) := dk_of dkAa149 (i := 2) rfl
theorem dX9_seed_6 : decode cX9_seed 6 = .ok (.ireturn, 1) := dk_of dkAa149 (i := 3) rfl
theorem dX9_seed_7 : decode cX9_seed 7 = .ok (.aload_n 0, 1) := dk_of dkAa149 (i := 4) rfl
theorem dX9_seed_8 : decode cX9_seed 8 = .ok (.getfield 52, 3) := dk_of dkAa149 (i := 5) rfl
theorem dX9_seed_11 : decode cX9_seed 11 = .ok (.getfield 292, 3) := dk_of dkAa149 (i := 6) rfl
theorem dX9_seed_14 : decode cX9_seed 14 = .ok (.istore_n 2, 1) := dk_of dkAa149 (i := 7) rfl
theorem dX9_seed_15 : decode cX9_seed 15 = .ok (.aload_n 0, 1) := dk_of dkAa149 (i := 8) rfl
theorem dX9_seed_16 : decode cX9_seed 16 = .ok (.getfield 52, 3) := dk_of dkAa149 (i := 9) rfl
theorem dX9_seed_19 : decode cX9_seed 19 = .ok (.iload_n 1, 1) := dk_of dkAa149 (i := 10) rfl
theorem dX9_seed_20 : decode cX9_seed 20 = .ok (.putfield 292, 3) := dk_of dkAa149 (i := 11) rfl
theorem dX9_seed_23 : decode cX9_seed 23 = .ok (.iload_n 2, 1) := dk_of dkAa149 (i := 12) rfl
theorem dX9_seed_24 : decode cX9_seed 24 = .ok (.ireturn, 1) := dk_of dkAa149 (i := 13) rfl
def dkLa150 : List (Nat × Instr × Nat) := [(0, .aload_n 0, 1), (1, .iload_n 1, 1), (2, .invokevirtual 295, 3), (5, .astore_n 2, 1), (6, .aload_n 2, 1), (7, .ifnonnull 6, 3), (10, .ldc 150, 2), (12, .ireturn, 1), (13, .aload_n 2, 1), (14, .getfield 299, 3), (17, .aload_n 0, 1), (18, .getfield 29, 3), (21, .invokevirtual 302, 3), (24, .aload_n 2, 1), (25, .aload_n 0, 1), (26, .getfield 52, 3), (29, .getfield 292, 3), (32, .putfield 305, 3), (35, .aload_n 2, 1), (36, .iconst 1, 1), (37, .putfield 113, 3), (40, .aload_n 0, 1), (41, .getfield 39, 3), (44, .invokevirtual 110, 3), (47, .iconst 1, 1), (48, .ireturn, 1)]
set_option maxRecDepth 100000 in
theorem dkAa150 : ∀ q ∈ dkLa150, decode cX9_keep q.1 = .ok q.2 := by decide +kernel
theorem dX9_keep_0 : decode cX9_keep 0 = .ok (.aload_n 0, 1) := dk_of dkAa150 (i := 0) rfl
theorem dX9_keep_1 : decode cX9_keep 1 = .ok (.iload_n 1, 1) := dk_of dkAa150 (i := 1) rfl
theorem dX9_keep_2 : decode cX9_keep 2 = .ok (.invokevirtual 295, 3) := dk_of dkAa150 (i := 2) rfl
theorem dX9_keep_5 : decode cX9_keep 5 = .ok (.astore_n 2, 1) := dk_of dkAa150 (i := 3) rfl
theorem dX9_keep_6 : decode cX9_keep 6 = .ok (.aload_n 2, 1) := dk_of dkAa150 (i := 4) rfl
theorem dX9_keep_7 : decode cX9_keep 7 = .ok (.ifnonnull 6, 3) := dk_of dkAa150 (i := 5) rfl
theorem dX9_keep_10 : decode cX9_keep 10 = .ok (.ldc 150, 2) := dk_of dkAa150 (i := 6) rfl
theorem dX9_keep_12 : decode cX9_keep 12 = .ok (.ireturn, 1) := dk_of dkAa150 (i := 7) rfl
theorem dX9_keep_13 : decode cX9_keep 13 = .ok (.aload_n 2, 1) := dk_of dkAa150 (i := 8) rfl
theorem dX9_keep_14 : decode cX9_keep 14 = .ok (.getfield 299, 3) := dk_of dkAa150 (i := 9) rfl
theorem dX9_keep_17 : decode cX9_keep 17 = .ok (.aload_n 0, 1) := dk_of dkAa150 (i := 10) rfl
theorem dX9_keep_18 : decode cX9_keep 18 = .ok (.getfield 29, 3) := dk_of dkAa150 (i := 11) rfl
theorem dX9_keep_21 : decode cX9_keep 21 = .ok (.invokevirtual 302, 3) := dk_of dkAa150 (i := 12) rfl
theorem dX9_keep_24 : decode cX9_keep 24 = .ok (.aload_n 2, 1) := dk_of dkAa150 (i := 13) rfl
theorem dX9_keep_25 : decode cX9_keep 25 = .ok (.aload_n 0, 1) := dk_of dkAa150 (i := 14) rfl
theorem dX9_keep_26 : decode cX9_keep 26 = .ok (.getfield 52, 3) := dk_of dkAa150 (i := 15) rfl
theorem dX9_keep_29 : decode cX9_keep 29 = .ok (.getfield 292, 3) := dk_of dkAa150 (i := 16) rfl
theorem dX9_keep_32 : decode cX9_keep 32 = .ok (.putfield 305, 3) := dk_of dkAa150 (i := 17) rfl
theorem dX9_keep_35 : decode cX9_keep 35 = .ok (.aload_n 2, 1) := dk_of dkAa150 (i := 18) rfl
theorem dX9_keep_36 : decode cX9_keep 36 = .ok (.iconst 1, 1) := dk_of dkAa150 (i := 19) rfl
theorem dX9_keep_37 : decode cX9_keep 37 = .ok (.putfield 113, 3) := dk_of dkAa150 (i := 20) rfl
theorem dX9_keep_40 : decode cX9_keep 40 = .ok (.aload_n 0, 1) := dk_of dkAa150 (i := 21) rfl
theorem dX9_keep_41 : decode cX9_keep 41 = .ok (.getfield 39, 3) := dk_of dkAa150 (i := 22) rfl
theorem dX9_keep_44 : decode cX9_keep 44 = .ok (.invokevirtual 110, 3) := dk_of dkAa150 (i := 23) rfl
theorem dX9_keep_47 : decode cX9_keep 47 = .ok (.iconst 1, 1) := dk_of dkAa150 (i := 24) rfl
theorem dX9_keep_48 : decode cX9_keep 48 = .ok (.ireturn, 1) := dk_of dkAa150 (i := 25) rfl
def dkLa151 : List (Nat × Instr × Nat) := [(0, .aload_n 0, 1), (1, .iload_n 1, 1), (2, .invokevirtual 295, 3), (5, .astore_n 2, 1), (6, .aload_n 2, 1), (7, .ifnonnull 6, 3), (10, .ldc 150, 2), (12, .ireturn, 1), (13, .aload_n 2, 1), (14, .getfield 113, 3), (17, .ifCond .ne 6, 3), (20, .ldc 179, 2), (22, .ireturn, 1), (23, .aload_n 0, 1), (24, .getfield 29, 3), (27, .aload_n 2, 1), (28, .getfield 299, 3), (31, .invokevirtual 302, 3), (34, .aload_n 0, 1), (35, .getfield 52, 3), (38, .aload_n 2, 1), (39, .getfield 305, 3), (42, .putfield 292, 3), (45, .aload_n 0, 1), (46, .getfield 39, 3), (49, .invokevirtual 110, 3), (52, .iconst 1, 1), (53, .ireturn, 1)]
set_option maxRecDepth 100000 in
theorem dkAa151 : ∀ q ∈ dkLa151, decode cX9_goBack q.1 = .ok q.2 := by decide +kernel
theorem dX9_goBack_0 : decode cX9_goBack 0 = .ok (.aload_n 0, 1) := dk_of dkAa151 (i := 0) rfl
theorem dX9_goBack_1 : decode cX9_goBack 1 = .ok (.iload_n 1, 1) := dk_of dkAa151 (i := 1) rfl
theorem dX9_goBack_2 : decode cX9_goBack 2 = .ok (.invokevirtual 295, 3) := dk_of dkAa151 (i := 2) rfl
theorem dX9_goBack_5 : decode cX9_goBack 5 = .ok (.astore_n 2, 1) := dk_of dkAa151 (i := 3) rfl
theorem dX9_goBack_6 : decode cX9_goBack 6 = .ok (.aload_n 2, 1) := dk_of dkAa151 (i := 4) rfl
theorem dX9_goBack_7 : decode cX9_goBack 7 = .ok (.ifnonnull 6, 3) := dk_of dkAa151 (i := 5) rfl
theorem dX9_goBack_10 : decode cX9_goBack 10 = .ok (.ldc 150, 2) := dk_of dkAa151 (i := 6) rfl
theorem dX9_goBack_12 : decode cX9_goBack 12 = .ok (.ireturn, 1) := dk_of dkAa151 (i := 7) rfl
theorem dX9_goBack_13 : decode cX9_goBack 13 = .ok (.aload_n 2, 1) := dk_of dkAa151 (i := 8) rfl
theorem dX9_goBack_14 : decode cX9_goBack 14 = .ok (.getfield 113, 3) := dk_of dkAa151 (i := 9) rfl
theorem dX9_goBack_17 : decode cX9_goBack 17 = .ok (.ifCond .ne 6, 3) := dk_of dkAa151 (i := 10) rfl
theorem dX9_goBack_20 : decode cX9_goBack 20 = .ok (.ldc 179, 2) := dk_of dkAa151 (i := 11) rfl
theorem dX9_goBack_22 : decode cX9_goBack 22 = .ok (.ireturn, 1) := dk_of dkAa151 (i := 12) rfl
theorem dX9_goBack_23 : decode cX9_goBack 23 = .ok (.aload_n 0, 1) := dk_of dkAa151 (i := 13) rfl
theorem dX9_goBack_24 : decode cX9_goBack 24 = .ok (.getfield 29, 3) := dk_of dkAa151 (i := 14) rfl
theorem dX9_goBack_27 : decode cX9_goBack 27 = .ok (.aload_n 2, 1) := dk_of dkAa151 (i := 15) rfl
theorem dX9_goBack_28 : decode cX9_goBack 28 = .ok (.getfield 299, 3) := dk_of dkAa151 (i := 16) rfl
theorem dX9_goBack_31 : decode cX9_goBack 31 = .ok (.invokevirtual 302, 3) := dk_of dkAa151 (i := 17) rfl
theorem dX9_goBack_34 : decode cX9_goBack 34 = .ok (.aload_n 0, 1) := dk_of dkAa151 (i := 18) rfl
theorem dX9_goBack_35 : decode cX9_goBack 35 = .ok (.getfield 52, 3) := dk_of dkAa151 (i := 19) rfl
theorem dX9_goBack_38 : decode cX9_goBack 38 = .ok (.aload_n 2, 1) := dk_of dkAa151 (i := 20) rfl
theorem dX9_goBack_39 : decode cX9_goBack 39 = .ok (.getfield 305, 3) := dk_of dkAa151 (i := 21) rfl
theorem dX9_goBack_42 : decode cX9_goBack 42 = .ok (.putfield 292, 3) := dk_of dkAa151 (i := 22) rfl
theorem dX9_goBack_45 : decode cX9_goBack 45 = .ok (.aload_n 0, 1) := dk_of dkAa151 (i := 23) rfl
theorem dX9_goBack_46 : decode cX9_goBack 46 = .ok (.getfield 39, 3) := dk_of dkAa151 (i := 24) rfl
theorem dX9_goBack_49 : decode cX9_goBack 49 = .ok (.invokevirtual 110, 3) := dk_of dkAa151 (i := 25) rfl
theorem dX9_goBack_52 : decode cX9_goBack 52 = .ok (.iconst 1, 1) := dk_of dkAa151 (i := 26) rfl
theorem dX9_goBack_53 : decode cX9_goBack 53 = .ok (.ireturn, 1) := dk_of dkAa151 (i := 27) rfl
def dkLa152 : List (Nat × Instr × Nat) := [(0, .iload_n 1, 1), (1, .ifCond .lt 21, 3), (4, .iload_n 1, 1), (5, .bipush 7, 2), (7, .if_icmp .ge 15, 3), (10, .iload_n 0, 1), (11, .iload_n 1, 1), (12, .ishr, 1), (13, .iconst 1, 1), (14, .iand, 1), (15, .ifCond .eq 7, 3), (18, .iconst 1, 1), (19, .goto 4, 3), (22, .iconst 0, 1), (23, .ireturn, 1)]
set_option maxRecDepth 100000 in
theorem dkAa152 : ∀ q ∈ dkLa152, decode cX9_isIn q.1 = .ok q.2 := by decide +kernel
theorem dX9_isIn_0 : decode cX9_isIn 0 = .ok (.iload_n 1, 1) := dk_of dkAa152 (i := 0) rfl
theorem dX9_isIn_1 : decode cX9_isIn 1 = .ok (.ifCond .lt 21, 3) := dk_of dkAa152 (i := 1) rfl
theorem dX9_isIn_4 : decode cX9_isIn 4 = .ok (.iload_n 1, 1) := dk_of dkAa152 (i := 2) rfl
theorem dX9_isIn_5 : decode cX9_isIn 5 = .ok (.bipush 7, 2) := dk_of dkAa152 (i := 3) rfl
theorem dX9_isIn_7 : decode cX9_isIn 7 = .ok (.if_icmp .ge 15, 3) := dk_of dkAa152 (i := 4) rfl
theorem dX9_isIn_10 : decode cX9_isIn 10 = .ok (.iload_n 0, 1) := dk_of dkAa152 (i := 5) rfl
theorem dX9_isIn_11 : decode cX9_isIn 11 = .ok (.iload_n 1, 1) := dk_of dkAa152 (i := 6) rfl
theorem dX9_isIn_12 : decode cX9_isIn 12 = .ok (.ishr, 1) := dk_of dkAa152 (i := 7) rfl
theorem dX9_isIn_13 : decode cX9_isIn 13 = .ok (.iconst 1, 1) := dk_of dkAa152 (i := 8) rfl
theorem dX9_isIn_14 : decode cX9_isIn 14 = .ok (.iand, 1) := dk_of dkAa152 (i := 9) rfl
theorem dX9_isIn_15 : decode cX9_isIn 15 = .ok (.ifCond .eq 7, 3) := dk_of dkAa152 (i := 10) rfl
theorem dX9_isIn_18 : decode cX9_isIn 18 = .ok (.iconst 1, 1) := dk_of dkAa152 (i := 11) rfl
theorem dX9_isIn_19 : decode cX9_isIn 19 = .ok (.goto 4, 3) := dk_of dkAa152 (i := 12) rfl
theorem dX9_isIn_22 : decode cX9_isIn 22 = .ok (.iconst 0, 1) := dk_of dkAa152 (i := 13) rfl
theorem dX9_isIn_23 : decode cX9_isIn 23 = .ok (.ireturn, 1) := dk_of dkAa152 (i := 14) rfl
def dkLa153 : List (Nat × Instr × Nat) := [(0, .iload_n 0, 1), (1, .ifCond .lt 13, 3), (4, .iload_n 0, 1), (5, .bipush 7, 2), (7, .if_icmp .ge 7, 3), (10, .iconst 1, 1), (11, .goto 4, 3), (14, .iconst 0, 1), (15, .ireturn, 1)]
set_option maxRecDepth 100000 in
theorem dkAa153 : ∀ q ∈ dkLa153, decode cX9_isVoiceNumber q.1 = .ok q.2 := by decide +kernel
theorem dX9_isVoiceNumber_0 : decode cX9_isVoiceNumber 0 = .ok (.iload_n 0, 1) := dk_of dkAa153 (i := 0) rfl
theorem dX9_isVoiceNumber_1 : decode cX9_isVoiceNumber 1 = .ok (.ifCond .lt 13, 3) := dk_of dkAa153 (i := 1) rfl
theorem dX9_isVoiceNumber_4 : decode cX9_isVoiceNumber 4 = .ok (.iload_n 0, 1) := dk_of dkAa153 (i := 2) rfl
theorem dX9_isVoiceNumber_5 : decode cX9_isVoiceNumber 5 = .ok (.bipush 7, 2) := dk_of dkAa153 (i := 3) rfl
theorem dX9_isVoiceNumber_7 : decode cX9_isVoiceNumber 7 = .ok (.if_icmp .ge 7, 3) := dk_of dkAa153 (i := 4) rfl
theorem dX9_isVoiceNumber_10 : decode cX9_isVoiceNumber 10 = .ok (.iconst 1, 1) := dk_of dkAa153 (i := 5) rfl
theorem dX9_isVoiceNumber_11 : decode cX9_isVoiceNumber 11 = .ok (.goto 4, 3) := dk_of dkAa153 (i := 6) rfl
theorem dX9_isVoiceNumber_14 : decode cX9_isVoiceNumber 14 = .ok (.iconst 0, 1) := dk_of dkAa153 (i := 7) rfl
theorem dX9_isVoiceNumber_15 : decode cX9_isVoiceNumber 15 = .ok (.ireturn, 1) := dk_of dkAa153 (i := 8) rfl
def dkLa154 : List (Nat × Instr × Nat) := [(0, .iload_n 0, 1), (1, .bipush 9, 2), (3, .if_icmp .eq 10, 3), (6, .iload_n 0, 1), (7, .invokestatic 195, 3), (10, .ifCond .eq 7, 3), (13, .iconst 1, 1), (14, .goto 4, 3), (17, .iconst 0, 1), (18, .ireturn, 1)]
set_option maxRecDepth 100000 in
theorem dkAa154 : ∀ q ∈ dkLa154, decode cX9_isVoiceOrNone q.1 = .ok q.2 := by decide +kernel
theorem dX9_isVoiceOrNone_0 : decode cX9_isVoiceOrNone 0 = .ok (.iload_n 0, 1) := dk_of dkAa154 (i := 0) rfl
theorem dX9_isVoiceOrNone_1 : decode cX9_isVoiceOrNone 1 = .ok (.bipush 9, 2) := dk_of dkAa154 (i := 1) rfl
theorem dX9_isVoiceOrNone_3 : decode cX9_isVoiceOrNone 3 = .ok (.if_icmp .eq 10, 3) := dk_of dkAa154 (i := 2) rfl
theorem dX9_isVoiceOrNone_6 : decode cX9_isVoiceOrNone 6 = .ok (.iload_n 0, 1) := dk_of dkAa154 (i := 3) rfl
theorem dX9_isVoiceOrNone_7 : decode cX9_isVoiceOrNone 7 = .ok (.invokestatic 195, 3) := dk_of dkAa154 (i := 4) rfl
theorem dX9_isVoiceOrNone_10 : decode cX9_isVoiceOrNone 10 = .ok (.ifCond .eq 7, 3) := dk_of dkAa154 (i := 5) rfl
theorem dX9_isVoiceOrNone_13 : decode cX9_isVoiceOrNone 13 = .ok (.iconst 1, 1) := dk_of dkAa154 (i := 6) rfl
theorem dX9_isVoiceOrNone_14 : decode cX9_isVoiceOrNone 14 = .ok (.goto 4, 3) := dk_of dkAa154 (i := 7) rfl
theorem dX9_isVoiceOrNone_17 : decode cX9_isVoiceOrNone 17 = .ok (.iconst 0, 1) := dk_of dkAa154 (i := 8) rfl
theorem dX9_isVoiceOrNone_18 : decode cX9_isVoiceOrNone 18 = .ok (.ireturn, 1) := dk_of dkAa154 (i := 9) rfl
def dkLa155 : List (Nat × Instr × Nat) := [(0, .iload_n 1, 1), (1, .ifCond .lt 21, 3), (4, .iload_n 1, 1), (5, .aload_n 0, 1), (6, .getfield 45, 3), (9, .arraylength, 1), (10, .if_icmp .ge 12, 3), (13, .aload_n 0, 1), (14, .getfield 45, 3), (17, .iload_n 1, 1), (18, .aaload, 1), (19, .goto 4, 3), (22, .aconst_null, 1), (23, .areturn, 1)]
set_option maxRecDepth 100000 in
theorem dkAa155 : ∀ q ∈ dkLa155, decode cX9_imageOf q.1 = .ok q.2 := by decide +kernel
theorem dX9_imageOf_0 : decode cX9_imageOf 0 = .ok (.iload_n 1, 1) := dk_of dkAa155 (i := 0) rfl
theorem dX9_imageOf_1 : decode cX9_imageOf 1 = .ok (.ifCond .lt 21, 3) := dk_of dkAa155 (i := 1) rfl
theorem dX9_imageOf_4 : decode cX9_imageOf 4 = .ok (.iload_n 1, 1) := dk_of dkAa155 (i := 2) rfl
theorem dX9_imageOf_5 : decode cX9_imageOf 5 = .ok (.aload_n 0, 1) := dk_of dkAa155 (i := 3) rfl
theorem dX9_imageOf_6 : decode cX9_imageOf 6 = .ok (.getfield 45, 3) := dk_of dkAa155 (i := 4) rfl
theorem dX9_imageOf_9 : decode cX9_imageOf 9 = .ok (.arraylength, 1) := dk_of dkAa155 (i := 5) rfl
theorem dX9_imageOf_10 : decode cX9_imageOf 10 = .ok (.if_icmp .ge 12, 3) := dk_of dkAa155 (i := 6) rfl
theorem dX9_imageOf_13 : decode cX9_imageOf 13 = .ok (.aload_n 0, 1) := dk_of dkAa155 (i := 7) rfl
theorem dX9_imageOf_14 : decode cX9_imageOf 14 = .ok (.getfield 45, 3) := dk_of dkAa155 (i := 8) rfl
theorem dX9_imageOf_17 : decode cX9_imageOf 17 = .ok (.iload_n 1, 1) := dk_of dkAa155 (i := 9) rfl
theorem dX9_imageOf_18 : decode cX9_imageOf 18 = .ok (.aaload, 1) := dk_of dkAa155 (i := 10) rfl
theorem dX9_imageOf_19 : decode cX9_imageOf 19 = .ok (.goto 4, 3) := dk_of dkAa155 (i := 11) rfl
theorem dX9_imageOf_22 : decode cX9_imageOf 22 = .ok (.aconst_null, 1) := dk_of dkAa155 (i := 12) rfl
theorem dX9_imageOf_23 : decode cX9_imageOf 23 = .ok (.areturn, 1) := dk_of dkAa155 (i := 13) rfl
def dkLa156 : List (Nat × Instr × Nat) := [(0, .iload_n 2, 1), (1, .bipush 9, 2), (3, .if_icmp .eq 19, 3), (6, .aload_n 0, 1), (7, .getfield 19, 3), (10, .iload_n 2, 1), (11, .invokevirtual 147, 3), (14, .ifCond .eq 12, 3), (17, .iload_n 2, 1), (18, .iload_n 1, 1), (19, .if_icmp .eq 7, 3), (22, .iconst 1, 1), (23, .goto 4, 3), (26, .iconst 0, 1), (27, .ireturn, 1)]
set_option maxRecDepth 100000 in
theorem dkAa156 : ∀ q ∈ dkLa156, decode cX9_canInherit q.1 = .ok q.2 := by decide +kernel
theorem dX9_canInherit_0 : decode cX9_canInherit 0 = .ok (.iload_n 2, 1) := dk_of dkAa156 (i := 0) rfl
theorem dX9_canInherit_1 : decode cX9_canInherit 1 = .ok (.bipush 9, 2) := dk_of dkAa156 (i := 1) rfl
theorem dX9_canInherit_3 : decode cX9_canInherit 3 = .ok (.if_icmp .eq 19, 3) := dk_of dkAa156 (i := 2) rfl
theorem dX9_canInherit_6 : decode cX9_canInherit 6 = .ok (.aload_n 0, 1) := dk_of dkAa156 (i := 3) rfl
theorem dX9_canInherit_7 : decode cX9_canInherit 7 = .ok (.getfield 19, 3) := dk_of dkAa156 (i := 4) rfl
theorem dX9_canInherit_10 : decode cX9_canInherit 10 = .ok (.iload_n 2, 1) := dk_of dkAa156 (i := 5) rfl
theorem dX9_canInherit_11 : decode cX9_canInherit 11 = .ok (.invokevirtual 147, 3) := dk_of dkAa156 (i := 6) rfl
theorem dX9_canInherit_14 : decode cX9_canInherit 14 = .ok (.ifCond .eq 12, 3) := dk_of dkAa156 (i := 7) rfl
theorem dX9_canInherit_17 : decode cX9_canInherit 17 = .ok (.iload_n 2, 1) := dk_of dkAa156 (i := 8) rfl
theorem dX9_canInherit_18 : decode cX9_canInherit 18 = .ok (.iload_n 1, 1) := dk_of dkAa156 (i := 9) rfl
theorem dX9_canInherit_19 : decode cX9_canInherit 19 = .ok (.if_icmp .eq 7, 3) := dk_of dkAa156 (i := 10) rfl
theorem dX9_canInherit_22 : decode cX9_canInherit 22 = .ok (.iconst 1, 1) := dk_of dkAa156 (i := 11) rfl
theorem dX9_canInherit_23 : decode cX9_canInherit 23 = .ok (.goto 4, 3) := dk_of dkAa156 (i := 12) rfl
theorem dX9_canInherit_26 : decode cX9_canInherit 26 = .ok (.iconst 0, 1) := dk_of dkAa156 (i := 13) rfl
theorem dX9_canInherit_27 : decode cX9_canInherit 27 = .ok (.ireturn, 1) := dk_of dkAa156 (i := 14) rfl
def dkLa157 : List (Nat × Instr × Nat) := [(0, .aload_n 0, 1), (1, .getfield 52, 3), (4, .aload_n 0, 1), (5, .getfield 19, 3), (8, .getfield 117, 3), (11, .invokevirtual 308, 3), (14, .istore_n 1, 1), (15, .aload_n 0, 1), (16, .getfield 52, 3), (19, .iconst 3, 1), (20, .invokevirtual 308, 3), (23, .istore_n 2, 1), (24, .iload_n 2, 1), (25, .ifCond .ne 15, 3), (28, .aload_n 0, 1), (29, .getfield 29, 3), (32, .iload_n 1, 1), (33, .invokevirtual 184, 3), (36, .pop, 1), (37, .goto 36, 3), (40, .iload_n 2, 1), (41, .iconst 1, 1), (42, .if_icmp .ne 31, 3), (45, .aload_n 0, 1), (46, .getfield 29, 3), (49, .iload_n 1, 1), (50, .iload_n 1, 1), (51, .iconst 1, 1), (52, .iadd, 1), (53, .aload_n 0, 1), (54, .getfield 19, 3), (57, .getfield 117, 3)]
set_option maxRecDepth 100000 in
theorem dkAa157 : ∀ q ∈ dkLa157, decode cX9_passYear q.1 = .ok q.2 := by decide +kernel
theorem dX9_passYear_0 : decode cX9_passYear 0 = .ok (.aload_n 0, 1) := dk_of dkAa157 (i := 0) rfl
theorem dX9_passYear_1 : decode cX9_passYear 1 = .ok (.getfield 52, 3) := dk_of dkAa157 (i := 1) rfl
theorem dX9_passYear_4 : decode cX9_passYear 4 = .ok (.aload_n 0, 1) := dk_of dkAa157 (i := 2) rfl
theorem dX9_passYear_5 : decode cX9_passYear 5 = .ok (.getfield 19, 3) := dk_of dkAa157 (i := 3) rfl
theorem dX9_passYear_8 : decode cX9_passYear 8 = .ok (.getfield 117, 3) := dk_of dkAa157 (i := 4) rfl
theorem dX9_passYear_11 : decode cX9_passYear 11 = .ok (.invokevirtual 308, 3) := dk_of dkAa157 (i := 5) rfl
theorem dX9_passYear_14 : decode cX9_passYear 14 = .ok (.istore_n 1, 1) := dk_of dkAa157 (i := 6) rfl
theorem dX9_passYear_15 : decode cX9_passYear 15 = .ok (.aload_n 0, 1) := dk_of dkAa157 (i := 7) rfl
theorem dX9_passYear_16 : decode cX9_passYear 16 = .ok (.getfield 52, 3) := dk_of dkAa157 (i := 8) rfl
theorem dX9_passYear_19 : decode cX9_passYear 19 = .ok (.iconst 3, 1) := dk_of dkAa157 (i := 9) rfl
theorem dX9_passYear_20 : decode cX9_passYear 20 = .ok (.invokevirtual 308, 3) := dk_of dkAa157 (i := 10) rfl
theorem dX9_passYear_23 : decode cX9_passYear 23 = .ok (.istore_n 2, 1) := dk_of dkAa157 (i := 11) rfl
theorem dX9_passYear_24 : decode cX9_passYear 24 = .ok (.iload_n 2, 1) := dk_of dkAa157 (i := 12) rfl
theorem dX9_passYear_25 : decode cX9_passYear 25 = .ok (.ifCond .ne 15, 3) := dk_of dkAa157 (i := 13) rfl
theorem dX9_passYear_28 : decode cX9_passYear 28 = .ok (.aload_n 0, 1) := dk_of dkAa157 (i := 14) rfl
theorem dX9_passYear_29 : decode cX9_passYear 29 = .ok (.getfield 29, 3) := dk_of dkAa157 (i := 15) rfl
theorem dX9_passYear_32 : decode cX9_passYear 32 = .ok (.iload_n 1, 1) := dk_of dkAa157 (i := 16) rfl
theorem dX9_passYear_33 : decode cX9_passYear 33 = .ok (.invokevirtual 184, 3) := dk_of dkAa157 (i := 17) rfl
theorem dX9_passYear_36 : decode cX9_passYear 36 = .ok (.pop, 1) := dk_of dkAa157 (i := 18) rfl
theorem dX9_passYear_37 : decode cX9_passYear 37 = .ok (.goto 36, 3) := dk_of dkAa157 (i := 19) rfl
theorem dX9_passYear_40 : decode cX9_passYear 40 = .ok (.iload_n 2, 1) := dk_of dkAa157 (i := 20) rfl
theorem dX9_passYear_41 : decode cX9_passYear 41 = .ok (.iconst 1, 1) := dk_of dkAa157 (i := 21) rfl
theorem dX9_passYear_42 : decode cX9_passYear 42 = .ok (.if_icmp .ne 31, 3) := dk_of dkAa157 (i := 22) rfl
theorem dX9_passYear_45 : decode cX9_passYear 45 = .ok (.aload_n 0, 1) := dk_of dkAa157 (i := 23) rfl
theorem dX9_passYear_46 : decode cX9_passYear 46 = .ok (.getfield 29, 3) := dk_of dkAa157 (i := 24) rfl
theorem dX9_passYear_49 : decode cX9_passYear 49 = .ok (.iload_n 1, 1) := dk_of dkAa157 (i := 25) rfl
theorem dX9_passYear_50 : decode cX9_passYear 50 = .ok (.iload_n 1, 1) := dk_of dkAa157 (i := 26) rfl
theorem dX9_passYear_51 : decode cX9_passYear 51 = .ok (.iconst 1, 1) := dk_of dkAa157 (i := 27) rfl
theorem dX9_passYear_52 : decode cX9_passYear 52 = .ok (.iadd, 1) := dk_of dkAa157 (i := 28) rfl
theorem dX9_passYear_53 : decode cX9_passYear 53 = .ok (.aload_n 0, 1) := dk_of dkAa157 (i := 29) rfl
theorem dX9_passYear_54 : decode cX9_passYear 54 = .ok (.getfield 19, 3) := dk_of dkAa157 (i := 30) rfl
theorem dX9_passYear_57 : decode cX9_passYear 57 = .ok (.getfield 117, 3) := dk_of dkAa157 (i := 31) rfl
def dkLa158 : List (Nat × Instr × Nat) := [(60, .if_icmp .ge 9, 3), (63, .iload_n 1, 1), (64, .iconst 1, 1), (65, .iadd, 1), (66, .goto 4, 3), (69, .iconst 0, 1), (70, .invokevirtual 191, 3), (73, .return_, 1)]
set_option maxRecDepth 100000 in
theorem dkAa158 : ∀ q ∈ dkLa158, decode cX9_passYear q.1 = .ok q.2 := by decide +kernel
theorem dX9_passYear_60 : decode cX9_passYear 60 = .ok (.if_icmp .ge 9, 3) := dk_of dkAa158 (i := 0) rfl
theorem dX9_passYear_63 : decode cX9_passYear 63 = .ok (.iload_n 1, 1) := dk_of dkAa158 (i := 1) rfl
theorem dX9_passYear_64 : decode cX9_passYear 64 = .ok (.iconst 1, 1) := dk_of dkAa158 (i := 2) rfl
theorem dX9_passYear_65 : decode cX9_passYear 65 = .ok (.iadd, 1) := dk_of dkAa158 (i := 3) rfl
theorem dX9_passYear_66 : decode cX9_passYear 66 = .ok (.goto 4, 3) := dk_of dkAa158 (i := 4) rfl
theorem dX9_passYear_69 : decode cX9_passYear 69 = .ok (.iconst 0, 1) := dk_of dkAa158 (i := 5) rfl
theorem dX9_passYear_70 : decode cX9_passYear 70 = .ok (.invokevirtual 191, 3) := dk_of dkAa158 (i := 6) rfl
theorem dX9_passYear_73 : decode cX9_passYear 73 = .ok (.return_, 1) := dk_of dkAa158 (i := 7) rfl
def dkLa159 : List (Nat × Instr × Nat) := [(0, .aload_n 0, 1), (1, .getfield 33, 3), (4, .aload_n 0, 1), (5, .getfield 29, 3), (8, .invokevirtual 302, 3), (11, .aload_n 0, 1), (12, .getfield 74, 3), (15, .aload_n 0, 1), (16, .getfield 33, 3), (19, .invokevirtual 311, 3), (22, .return_, 1)]
set_option maxRecDepth 100000 in
theorem dkAa159 : ∀ q ∈ dkLa159, decode cX9_tryLine q.1 = .ok q.2 := by decide +kernel
theorem dX9_tryLine_0 : decode cX9_tryLine 0 = .ok (.aload_n 0, 1) := dk_of dkAa159 (i := 0) rfl
theorem dX9_tryLine_1 : decode cX9_tryLine 1 = .ok (.getfield 33, 3) := dk_of dkAa159 (i := 1) rfl
theorem dX9_tryLine_4 : decode cX9_tryLine 4 = .ok (.aload_n 0, 1) := dk_of dkAa159 (i := 2) rfl
theorem dX9_tryLine_5 : decode cX9_tryLine 5 = .ok (.getfield 29, 3) := dk_of dkAa159 (i := 3) rfl
theorem dX9_tryLine_8 : decode cX9_tryLine 8 = .ok (.invokevirtual 302, 3) := dk_of dkAa159 (i := 4) rfl
theorem dX9_tryLine_11 : decode cX9_tryLine 11 = .ok (.aload_n 0, 1) := dk_of dkAa159 (i := 5) rfl
theorem dX9_tryLine_12 : decode cX9_tryLine 12 = .ok (.getfield 74, 3) := dk_of dkAa159 (i := 6) rfl
theorem dX9_tryLine_15 : decode cX9_tryLine 15 = .ok (.aload_n 0, 1) := dk_of dkAa159 (i := 7) rfl
theorem dX9_tryLine_16 : decode cX9_tryLine 16 = .ok (.getfield 33, 3) := dk_of dkAa159 (i := 8) rfl
theorem dX9_tryLine_19 : decode cX9_tryLine 19 = .ok (.invokevirtual 311, 3) := dk_of dkAa159 (i := 9) rfl
theorem dX9_tryLine_22 : decode cX9_tryLine 22 = .ok (.return_, 1) := dk_of dkAa159 (i := 10) rfl
def dkLa160 : List (Nat × Instr × Nat) := [(0, .aload_n 0, 1), (1, .invokevirtual 223, 3), (4, .aload_n 0, 1), (5, .getfield 33, 3), (8, .iload_n 1, 1), (9, .invokevirtual 151, 3), (12, .iload_n 2, 1), (13, .if_icmp .ne 5, 3), (16, .iconst 0, 1), (17, .ireturn, 1), (18, .iconst 0, 1), (19, .istore_n 3, 1), (20, .iload_n 3, 1), (21, .aload_n 0, 1), (22, .getfield 19, 3), (25, .getfield 117, 3), (28, .if_icmp .ge 34, 3), (31, .aload_n 0, 1), (32, .getfield 74, 3), (35, .iload_n 3, 1), (36, .invokevirtual 314, 3), (39, .ifCond .eq 17, 3), (42, .aload_n 0, 1), (43, .iload_n 3, 1), (44, .iload_n 1, 1), (45, .iload_n 2, 1), (46, .invokevirtual 317, 3), (49, .ifCond .eq 7, 3), (52, .iconst 1, 1), (53, .iload_n 3, 1), (54, .ishl, 1), (55, .ireturn, 1)]
set_option maxRecDepth 100000 in
theorem dkAa160 : ∀ q ∈ dkLa160, decode cX9_fewestWills q.1 = .ok q.2 := by decide +kernel
theorem dX9_fewestWills_0 : decode cX9_fewestWills 0 = .ok (.aload_n 0, 1) := dk_of dkAa160 (i := 0) rfl
theorem dX9_fewestWills_1 : decode cX9_fewestWills 1 = .ok (.invokevirtual 223, 3) := dk_of dkAa160 (i := 1) rfl
theorem dX9_fewestWills_4 : decode cX9_fewestWills 4 = .ok (.aload_n 0, 1) := dk_of dkAa160 (i := 2) rfl
theorem dX9_fewestWills_5 : decode cX9_fewestWills 5 = .ok (.getfield 33, 3) := dk_of dkAa160 (i := 3) rfl
theorem dX9_fewestWills_8 : decode cX9_fewestWills 8 = .ok (.iload_n 1, 1) := dk_of dkAa160 (i := 4) rfl
theorem dX9_fewestWills_9 : decode cX9_fewestWills 9 = .ok (.invokevirtual 151, 3) := dk_of dkAa160 (i := 5) rfl
theorem dX9_fewestWills_12 : decode cX9_fewestWills 12 = .ok (.iload_n 2, 1) := dk_of dkAa160 (i := 6) rfl
theorem dX9_fewestWills_13 : decode cX9_fewestWills 13 = .ok (.if_icmp .ne 5, 3) := dk_of dkAa160 (i := 7) rfl
theorem dX9_fewestWills_16 : decode cX9_fewestWills 16 = .ok (.iconst 0, 1) := dk_of dkAa160 (i := 8) rfl
theorem dX9_fewestWills_17 : decode cX9_fewestWills 17 = .ok (.ireturn, 1) := dk_of dkAa160 (i := 9) rfl
theorem dX9_fewestWills_18 : decode cX9_fewestWills 18 = .ok (.iconst 0, 1) := dk_of dkAa160 (i := 10) rfl
theorem dX9_fewestWills_19 : decode cX9_fewestWills 19 = .ok (.istore_n 3, 1) := dk_of dkAa160 (i := 11) rfl
theorem dX9_fewestWills_20 : decode cX9_fewestWills 20 = .ok (.iload_n 3, 1) := dk_of dkAa160 (i := 12) rfl
theorem dX9_fewestWills_21 : decode cX9_fewestWills 21 = .ok (.aload_n 0, 1) := dk_of dkAa160 (i := 13) rfl
theorem dX9_fewestWills_22 : decode cX9_fewestWills 22 = .ok (.getfield 19, 3) := dk_of dkAa160 (i := 14) rfl
theorem dX9_fewestWills_25 : decode cX9_fewestWills 25 = .ok (.getfield 117, 3) := dk_of dkAa160 (i := 15) rfl
theorem dX9_fewestWills_28 : decode cX9_fewestWills 28 = .ok (.if_icmp .ge 34, 3) := dk_of dkAa160 (i := 16) rfl
theorem dX9_fewestWills_31 : decode cX9_fewestWills 31 = .ok (.aload_n 0, 1) := dk_of dkAa160 (i := 17) rfl
theorem dX9_fewestWills_32 : decode cX9_fewestWills 32 = .ok (.getfield 74, 3) := dk_of dkAa160 (i := 18) rfl
theorem dX9_fewestWills_35 : decode cX9_fewestWills 35 = .ok (.iload_n 3, 1) := dk_of dkAa160 (i := 19) rfl
theorem dX9_fewestWills_36 : decode cX9_fewestWills 36 = .ok (.invokevirtual 314, 3) := dk_of dkAa160 (i := 20) rfl
theorem dX9_fewestWills_39 : decode cX9_fewestWills 39 = .ok (.ifCond .eq 17, 3) := dk_of dkAa160 (i := 21) rfl
theorem dX9_fewestWills_42 : decode cX9_fewestWills 42 = .ok (.aload_n 0, 1) := dk_of dkAa160 (i := 22) rfl
theorem dX9_fewestWills_43 : decode cX9_fewestWills 43 = .ok (.iload_n 3, 1) := dk_of dkAa160 (i := 23) rfl
theorem dX9_fewestWills_44 : decode cX9_fewestWills 44 = .ok (.iload_n 1, 1) := dk_of dkAa160 (i := 24) rfl
theorem dX9_fewestWills_45 : decode cX9_fewestWills 45 = .ok (.iload_n 2, 1) := dk_of dkAa160 (i := 25) rfl
theorem dX9_fewestWills_46 : decode cX9_fewestWills 46 = .ok (.invokevirtual 317, 3) := dk_of dkAa160 (i := 26) rfl
theorem dX9_fewestWills_49 : decode cX9_fewestWills 49 = .ok (.ifCond .eq 7, 3) := dk_of dkAa160 (i := 27) rfl
theorem dX9_fewestWills_52 : decode cX9_fewestWills 52 = .ok (.iconst 1, 1) := dk_of dkAa160 (i := 28) rfl
theorem dX9_fewestWills_53 : decode cX9_fewestWills 53 = .ok (.iload_n 3, 1) := dk_of dkAa160 (i := 29) rfl
theorem dX9_fewestWills_54 : decode cX9_fewestWills 54 = .ok (.ishl, 1) := dk_of dkAa160 (i := 30) rfl
theorem dX9_fewestWills_55 : decode cX9_fewestWills 55 = .ok (.ireturn, 1) := dk_of dkAa160 (i := 31) rfl
def dkLa161 : List (Nat × Instr × Nat) := [(56, .iinc 3 1, 3), (59, .goto (-39), 3), (62, .iconst 1, 1), (63, .istore_n 3, 1), (64, .iload_n 3, 1), (65, .aload_n 0, 1), (66, .getfield 19, 3), (69, .getfield 117, 3), (72, .if_icmp .ge 68, 3), (75, .iconst 0, 1), (76, .istore 4, 2), (78, .iload 4, 2), (80, .iload_n 3, 1), (81, .if_icmp .ge 53, 3), (84, .aload_n 0, 1), (85, .getfield 74, 3), (88, .iload 4, 2), (90, .invokevirtual 314, 3), (93, .ifCond .eq 35, 3), (96, .aload_n 0, 1), (97, .getfield 74, 3), (100, .iload_n 3, 1), (101, .invokevirtual 314, 3), (104, .ifCond .eq 24, 3), (107, .aload_n 0, 1), (108, .iload 4, 2), (110, .iload_n 3, 1), (111, .iload_n 1, 1), (112, .iload_n 2, 1), (113, .invokevirtual 321, 3), (116, .ifCond .eq 12, 3), (119, .iconst 1, 1)]
set_option maxRecDepth 100000 in
theorem dkAa161 : ∀ q ∈ dkLa161, decode cX9_fewestWills q.1 = .ok q.2 := by decide +kernel
theorem dX9_fewestWills_56 : decode cX9_fewestWills 56 = .ok (.iinc 3 1, 3) := dk_of dkAa161 (i := 0) rfl
theorem dX9_fewestWills_59 : decode cX9_fewestWills 59 = .ok (.goto (-39), 3) := dk_of dkAa161 (i := 1) rfl
theorem dX9_fewestWills_62 : decode cX9_fewestWills 62 = .ok (.iconst 1, 1) := dk_of dkAa161 (i := 2) rfl
theorem dX9_fewestWills_63 : decode cX9_fewestWills 63 = .ok (.istore_n 3, 1) := dk_of dkAa161 (i := 3) rfl
theorem dX9_fewestWills_64 : decode cX9_fewestWills 64 = .ok (.iload_n 3, 1) := dk_of dkAa161 (i := 4) rfl
theorem dX9_fewestWills_65 : decode cX9_fewestWills 65 = .ok (.aload_n 0, 1) := dk_of dkAa161 (i := 5) rfl
theorem dX9_fewestWills_66 : decode cX9_fewestWills 66 = .ok (.getfield 19, 3) := dk_of dkAa161 (i := 6) rfl
theorem dX9_fewestWills_69 : decode cX9_fewestWills 69 = .ok (.getfield 117, 3) := dk_of dkAa161 (i := 7) rfl
theorem dX9_fewestWills_72 : decode cX9_fewestWills 72 = .ok (.if_icmp .ge 68, 3) := dk_of dkAa161 (i := 8) rfl
theorem dX9_fewestWills_75 : decode cX9_fewestWills 75 = .ok (.iconst 0, 1) := dk_of dkAa161 (i := 9) rfl
theorem dX9_fewestWills_76 : decode cX9_fewestWills 76 = .ok (.istore 4, 2) := dk_of dkAa161 (i := 10) rfl
theorem dX9_fewestWills_78 : decode cX9_fewestWills 78 = .ok (.iload 4, 2) := dk_of dkAa161 (i := 11) rfl
theorem dX9_fewestWills_80 : decode cX9_fewestWills 80 = .ok (.iload_n 3, 1) := dk_of dkAa161 (i := 12) rfl
theorem dX9_fewestWills_81 : decode cX9_fewestWills 81 = .ok (.if_icmp .ge 53, 3) := dk_of dkAa161 (i := 13) rfl
theorem dX9_fewestWills_84 : decode cX9_fewestWills 84 = .ok (.aload_n 0, 1) := dk_of dkAa161 (i := 14) rfl
theorem dX9_fewestWills_85 : decode cX9_fewestWills 85 = .ok (.getfield 74, 3) := dk_of dkAa161 (i := 15) rfl
theorem dX9_fewestWills_88 : decode cX9_fewestWills 88 = .ok (.iload 4, 2) := dk_of dkAa161 (i := 16) rfl
theorem dX9_fewestWills_90 : decode cX9_fewestWills 90 = .ok (.invokevirtual 314, 3) := dk_of dkAa161 (i := 17) rfl
theorem dX9_fewestWills_93 : decode cX9_fewestWills 93 = .ok (.ifCond .eq 35, 3) := dk_of dkAa161 (i := 18) rfl
theorem dX9_fewestWills_96 : decode cX9_fewestWills 96 = .ok (.aload_n 0, 1) := dk_of dkAa161 (i := 19) rfl
theorem dX9_fewestWills_97 : decode cX9_fewestWills 97 = .ok (.getfield 74, 3) := dk_of dkAa161 (i := 20) rfl
theorem dX9_fewestWills_100 : decode cX9_fewestWills 100 = .ok (.iload_n 3, 1) := dk_of dkAa161 (i := 21) rfl
theorem dX9_fewestWills_101 : decode cX9_fewestWills 101 = .ok (.invokevirtual 314, 3) := dk_of dkAa161 (i := 22) rfl
theorem dX9_fewestWills_104 : decode cX9_fewestWills 104 = .ok (.ifCond .eq 24, 3) := dk_of dkAa161 (i := 23) rfl
theorem dX9_fewestWills_107 : decode cX9_fewestWills 107 = .ok (.aload_n 0, 1) := dk_of dkAa161 (i := 24) rfl
theorem dX9_fewestWills_108 : decode cX9_fewestWills 108 = .ok (.iload 4, 2) := dk_of dkAa161 (i := 25) rfl
theorem dX9_fewestWills_110 : decode cX9_fewestWills 110 = .ok (.iload_n 3, 1) := dk_of dkAa161 (i := 26) rfl
theorem dX9_fewestWills_111 : decode cX9_fewestWills 111 = .ok (.iload_n 1, 1) := dk_of dkAa161 (i := 27) rfl
theorem dX9_fewestWills_112 : decode cX9_fewestWills 112 = .ok (.iload_n 2, 1) := dk_of dkAa161 (i := 28) rfl
theorem dX9_fewestWills_113 : decode cX9_fewestWills 113 = .ok (.invokevirtual 321, 3) := dk_of dkAa161 (i := 29) rfl
theorem dX9_fewestWills_116 : decode cX9_fewestWills 116 = .ok (.ifCond .eq 12, 3) := dk_of dkAa161 (i := 30) rfl
theorem dX9_fewestWills_119 : decode cX9_fewestWills 119 = .ok (.iconst 1, 1) := dk_of dkAa161 (i := 31) rfl
def dkLa162 : List (Nat × Instr × Nat) := [(120, .iload 4, 2), (122, .ishl, 1), (123, .iconst 1, 1), (124, .iload_n 3, 1), (125, .ishl, 1), (126, .ior, 1), (127, .ireturn, 1), (128, .iinc 4 1, 3), (131, .goto (-53), 3), (134, .iinc 3 1, 3), (137, .goto (-73), 3), (140, .iconst (-1), 1), (141, .ireturn, 1)]
set_option maxRecDepth 100000 in
theorem dkAa162 : ∀ q ∈ dkLa162, decode cX9_fewestWills q.1 = .ok q.2 := by decide +kernel
theorem dX9_fewestWills_120 : decode cX9_fewestWills 120 = .ok (.iload 4, 2) := dk_of dkAa162 (i := 0) rfl
theorem dX9_fewestWills_122 : decode cX9_fewestWills 122 = .ok (.ishl, 1) := dk_of dkAa162 (i := 1) rfl
theorem dX9_fewestWills_123 : decode cX9_fewestWills 123 = .ok (.iconst 1, 1) := dk_of dkAa162 (i := 2) rfl
theorem dX9_fewestWills_124 : decode cX9_fewestWills 124 = .ok (.iload_n 3, 1) := dk_of dkAa162 (i := 3) rfl
theorem dX9_fewestWills_125 : decode cX9_fewestWills 125 = .ok (.ishl, 1) := dk_of dkAa162 (i := 4) rfl
theorem dX9_fewestWills_126 : decode cX9_fewestWills 126 = .ok (.ior, 1) := dk_of dkAa162 (i := 5) rfl
theorem dX9_fewestWills_127 : decode cX9_fewestWills 127 = .ok (.ireturn, 1) := dk_of dkAa162 (i := 6) rfl
theorem dX9_fewestWills_128 : decode cX9_fewestWills 128 = .ok (.iinc 4 1, 3) := dk_of dkAa162 (i := 7) rfl
theorem dX9_fewestWills_131 : decode cX9_fewestWills 131 = .ok (.goto (-53), 3) := dk_of dkAa162 (i := 8) rfl
theorem dX9_fewestWills_134 : decode cX9_fewestWills 134 = .ok (.iinc 3 1, 3) := dk_of dkAa162 (i := 9) rfl
theorem dX9_fewestWills_137 : decode cX9_fewestWills 137 = .ok (.goto (-73), 3) := dk_of dkAa162 (i := 10) rfl
theorem dX9_fewestWills_140 : decode cX9_fewestWills 140 = .ok (.iconst (-1), 1) := dk_of dkAa162 (i := 11) rfl
theorem dX9_fewestWills_141 : decode cX9_fewestWills 141 = .ok (.ireturn, 1) := dk_of dkAa162 (i := 12) rfl
def dkLa163 : List (Nat × Instr × Nat) := [(0, .iconst 0, 1), (1, .istore 4, 2), (3, .iload 4, 2), (5, .bipush 9, 2), (7, .if_icmp .gt 67, 3), (10, .aload_n 0, 1), (11, .iload_n 1, 1), (12, .iload 4, 2), (14, .invokevirtual 205, 3), (17, .ifCond .eq 51, 3), (20, .aload_n 0, 1), (21, .getfield 33, 3), (24, .aload_n 0, 1), (25, .getfield 29, 3), (28, .invokevirtual 302, 3), (31, .aload_n 0, 1), (32, .getfield 33, 3), (35, .iload_n 1, 1), (36, .iload 4, 2), (38, .bipush 9, 2), (40, .invokevirtual 208, 3), (43, .aload_n 0, 1), (44, .getfield 74, 3), (47, .aload_n 0, 1), (48, .getfield 33, 3), (51, .invokevirtual 311, 3), (54, .aload_n 0, 1), (55, .getfield 33, 3), (58, .iload_n 2, 1), (59, .invokevirtual 151, 3), (62, .iload_n 3, 1), (63, .if_icmp .ne 5, 3)]
set_option maxRecDepth 100000 in
theorem dkAa163 : ∀ q ∈ dkLa163, decode cX9_helpsAlone q.1 = .ok q.2 := by decide +kernel
theorem dX9_helpsAlone_0 : decode cX9_helpsAlone 0 = .ok (.iconst 0, 1) := dk_of dkAa163 (i := 0) rfl
theorem dX9_helpsAlone_1 : decode cX9_helpsAlone 1 = .ok (.istore 4, 2) := dk_of dkAa163 (i := 1) rfl
theorem dX9_helpsAlone_3 : decode cX9_helpsAlone 3 = .ok (.iload 4, 2) := dk_of dkAa163 (i := 2) rfl
theorem dX9_helpsAlone_5 : decode cX9_helpsAlone 5 = .ok (.bipush 9, 2) := dk_of dkAa163 (i := 3) rfl
theorem dX9_helpsAlone_7 : decode cX9_helpsAlone 7 = .ok (.if_icmp .gt 67, 3) := dk_of dkAa163 (i := 4) rfl
theorem dX9_helpsAlone_10 : decode cX9_helpsAlone 10 = .ok (.aload_n 0, 1) := dk_of dkAa163 (i := 5) rfl
theorem dX9_helpsAlone_11 : decode cX9_helpsAlone 11 = .ok (.iload_n 1, 1) := dk_of dkAa163 (i := 6) rfl
theorem dX9_helpsAlone_12 : decode cX9_helpsAlone 12 = .ok (.iload 4, 2) := dk_of dkAa163 (i := 7) rfl
theorem dX9_helpsAlone_14 : decode cX9_helpsAlone 14 = .ok (.invokevirtual 205, 3) := dk_of dkAa163 (i := 8) rfl
theorem dX9_helpsAlone_17 : decode cX9_helpsAlone 17 = .ok (.ifCond .eq 51, 3) := dk_of dkAa163 (i := 9) rfl
theorem dX9_helpsAlone_20 : decode cX9_helpsAlone 20 = .ok (.aload_n 0, 1) := dk_of dkAa163 (i := 10) rfl
theorem dX9_helpsAlone_21 : decode cX9_helpsAlone 21 = .ok (.getfield 33, 3) := dk_of dkAa163 (i := 11) rfl
theorem dX9_helpsAlone_24 : decode cX9_helpsAlone 24 = .ok (.aload_n 0, 1) := dk_of dkAa163 (i := 12) rfl
theorem dX9_helpsAlone_25 : decode cX9_helpsAlone 25 = .ok (.getfield 29, 3) := dk_of dkAa163 (i := 13) rfl
theorem dX9_helpsAlone_28 : decode cX9_helpsAlone 28 = .ok (.invokevirtual 302, 3) := dk_of dkAa163 (i := 14) rfl
theorem dX9_helpsAlone_31 : decode cX9_helpsAlone 31 = .ok (.aload_n 0, 1) := dk_of dkAa163 (i := 15) rfl
theorem dX9_helpsAlone_32 : decode cX9_helpsAlone 32 = .ok (.getfield 33, 3) := dk_of dkAa163 (i := 16) rfl
theorem dX9_helpsAlone_35 : decode cX9_helpsAlone 35 = .ok (.iload_n 1, 1) := dk_of dkAa163 (i := 17) rfl
theorem dX9_helpsAlone_36 : decode cX9_helpsAlone 36 = .ok (.iload 4, 2) := dk_of dkAa163 (i := 18) rfl
theorem dX9_helpsAlone_38 : decode cX9_helpsAlone 38 = .ok (.bipush 9, 2) := dk_of dkAa163 (i := 19) rfl
theorem dX9_helpsAlone_40 : decode cX9_helpsAlone 40 = .ok (.invokevirtual 208, 3) := dk_of dkAa163 (i := 20) rfl
theorem dX9_helpsAlone_43 : decode cX9_helpsAlone 43 = .ok (.aload_n 0, 1) := dk_of dkAa163 (i := 21) rfl
theorem dX9_helpsAlone_44 : decode cX9_helpsAlone 44 = .ok (.getfield 74, 3) := dk_of dkAa163 (i := 22) rfl
theorem dX9_helpsAlone_47 : decode cX9_helpsAlone 47 = .ok (.aload_n 0, 1) := dk_of dkAa163 (i := 23) rfl
theorem dX9_helpsAlone_48 : decode cX9_helpsAlone 48 = .ok (.getfield 33, 3) := dk_of dkAa163 (i := 24) rfl
theorem dX9_helpsAlone_51 : decode cX9_helpsAlone 51 = .ok (.invokevirtual 311, 3) := dk_of dkAa163 (i := 25) rfl
theorem dX9_helpsAlone_54 : decode cX9_helpsAlone 54 = .ok (.aload_n 0, 1) := dk_of dkAa163 (i := 26) rfl
theorem dX9_helpsAlone_55 : decode cX9_helpsAlone 55 = .ok (.getfield 33, 3) := dk_of dkAa163 (i := 27) rfl
theorem dX9_helpsAlone_58 : decode cX9_helpsAlone 58 = .ok (.iload_n 2, 1) := dk_of dkAa163 (i := 28) rfl
theorem dX9_helpsAlone_59 : decode cX9_helpsAlone 59 = .ok (.invokevirtual 151, 3) := dk_of dkAa163 (i := 29) rfl
theorem dX9_helpsAlone_62 : decode cX9_helpsAlone 62 = .ok (.iload_n 3, 1) := dk_of dkAa163 (i := 30) rfl
theorem dX9_helpsAlone_63 : decode cX9_helpsAlone 63 = .ok (.if_icmp .ne 5, 3) := dk_of dkAa163 (i := 31) rfl
def dkLa164 : List (Nat × Instr × Nat) := [(66, .iconst 1, 1), (67, .ireturn, 1), (68, .iinc 4 1, 3), (71, .goto (-68), 3), (74, .iconst 0, 1), (75, .ireturn, 1)]
set_option maxRecDepth 100000 in
theorem dkAa164 : ∀ q ∈ dkLa164, decode cX9_helpsAlone q.1 = .ok q.2 := by decide +kernel
theorem dX9_helpsAlone_66 : decode cX9_helpsAlone 66 = .ok (.iconst 1, 1) := dk_of dkAa164 (i := 0) rfl
theorem dX9_helpsAlone_67 : decode cX9_helpsAlone 67 = .ok (.ireturn, 1) := dk_of dkAa164 (i := 1) rfl
theorem dX9_helpsAlone_68 : decode cX9_helpsAlone 68 = .ok (.iinc 4 1, 3) := dk_of dkAa164 (i := 2) rfl
theorem dX9_helpsAlone_71 : decode cX9_helpsAlone 71 = .ok (.goto (-68), 3) := dk_of dkAa164 (i := 3) rfl
theorem dX9_helpsAlone_74 : decode cX9_helpsAlone 74 = .ok (.iconst 0, 1) := dk_of dkAa164 (i := 4) rfl
theorem dX9_helpsAlone_75 : decode cX9_helpsAlone 75 = .ok (.ireturn, 1) := dk_of dkAa164 (i := 5) rfl
def dkLa165 : List (Nat × Instr × Nat) := [(0, .iconst 0, 1), (1, .istore 5, 2), (3, .iload 5, 2), (5, .bipush 9, 2), (7, .if_icmp .gt 106, 3), (10, .iconst 0, 1), (11, .istore 6, 2), (13, .iload 6, 2), (15, .bipush 9, 2), (17, .if_icmp .gt 90, 3), (20, .aload_n 0, 1), (21, .iload_n 1, 1), (22, .iload 5, 2), (24, .invokevirtual 205, 3), (27, .ifCond .eq 80, 3), (30, .aload_n 0, 1), (31, .iload_n 2, 1), (32, .iload 6, 2), (34, .invokevirtual 205, 3), (37, .ifCond .eq 64, 3), (40, .aload_n 0, 1), (41, .getfield 33, 3), (44, .aload_n 0, 1), (45, .getfield 29, 3), (48, .invokevirtual 302, 3), (51, .aload_n 0, 1), (52, .getfield 33, 3), (55, .iload_n 1, 1), (56, .iload 5, 2), (58, .bipush 9, 2), (60, .invokevirtual 208, 3), (63, .aload_n 0, 1)]
set_option maxRecDepth 100000 in
theorem dkAa165 : ∀ q ∈ dkLa165, decode cX9_helpTogether q.1 = .ok q.2 := by decide +kernel
theorem dX9_helpTogether_0 : decode cX9_helpTogether 0 = .ok (.iconst 0, 1) := dk_of dkAa165 (i := 0) rfl
theorem dX9_helpTogether_1 : decode cX9_helpTogether 1 = .ok (.istore 5, 2) := dk_of dkAa165 (i := 1) rfl
theorem dX9_helpTogether_3 : decode cX9_helpTogether 3 = .ok (.iload 5, 2) := dk_of dkAa165 (i := 2) rfl
theorem dX9_helpTogether_5 : decode cX9_helpTogether 5 = .ok (.bipush 9, 2) := dk_of dkAa165 (i := 3) rfl
theorem dX9_helpTogether_7 : decode cX9_helpTogether 7 = .ok (.if_icmp .gt 106, 3) := dk_of dkAa165 (i := 4) rfl
theorem dX9_helpTogether_10 : decode cX9_helpTogether 10 = .ok (.iconst 0, 1) := dk_of dkAa165 (i := 5) rfl
theorem dX9_helpTogether_11 : decode cX9_helpTogether 11 = .ok (.istore 6, 2) := dk_of dkAa165 (i := 6) rfl
theorem dX9_helpTogether_13 : decode cX9_helpTogether 13 = .ok (.iload 6, 2) := dk_of dkAa165 (i := 7) rfl
theorem dX9_helpTogether_15 : decode cX9_helpTogether 15 = .ok (.bipush 9, 2) := dk_of dkAa165 (i := 8) rfl
theorem dX9_helpTogether_17 : decode cX9_helpTogether 17 = .ok (.if_icmp .gt 90, 3) := dk_of dkAa165 (i := 9) rfl
theorem dX9_helpTogether_20 : decode cX9_helpTogether 20 = .ok (.aload_n 0, 1) := dk_of dkAa165 (i := 10) rfl
theorem dX9_helpTogether_21 : decode cX9_helpTogether 21 = .ok (.iload_n 1, 1) := dk_of dkAa165 (i := 11) rfl
theorem dX9_helpTogether_22 : decode cX9_helpTogether 22 = .ok (.iload 5, 2) := dk_of dkAa165 (i := 12) rfl
theorem dX9_helpTogether_24 : decode cX9_helpTogether 24 = .ok (.invokevirtual 205, 3) := dk_of dkAa165 (i := 13) rfl
theorem dX9_helpTogether_27 : decode cX9_helpTogether 27 = .ok (.ifCond .eq 80, 3) := dk_of dkAa165 (i := 14) rfl
theorem dX9_helpTogether_30 : decode cX9_helpTogether 30 = .ok (.aload_n 0, 1) := dk_of dkAa165 (i := 15) rfl
theorem dX9_helpTogether_31 : decode cX9_helpTogether 31 = .ok (.iload_n 2, 1) := dk_of dkAa165 (i := 16) rfl
theorem dX9_helpTogether_32 : decode cX9_helpTogether 32 = .ok (.iload 6, 2) := dk_of dkAa165 (i := 17) rfl
theorem dX9_helpTogether_34 : decode cX9_helpTogether 34 = .ok (.invokevirtual 205, 3) := dk_of dkAa165 (i := 18) rfl
theorem dX9_helpTogether_37 : decode cX9_helpTogether 37 = .ok (.ifCond .eq 64, 3) := dk_of dkAa165 (i := 19) rfl
theorem dX9_helpTogether_40 : decode cX9_helpTogether 40 = .ok (.aload_n 0, 1) := dk_of dkAa165 (i := 20) rfl
theorem dX9_helpTogether_41 : decode cX9_helpTogether 41 = .ok (.getfield 33, 3) := dk_of dkAa165 (i := 21) rfl
theorem dX9_helpTogether_44 : decode cX9_helpTogether 44 = .ok (.aload_n 0, 1) := dk_of dkAa165 (i := 22) rfl
theorem dX9_helpTogether_45 : decode cX9_helpTogether 45 = .ok (.getfield 29, 3) := dk_of dkAa165 (i := 23) rfl
theorem dX9_helpTogether_48 : decode cX9_helpTogether 48 = .ok (.invokevirtual 302, 3) := dk_of dkAa165 (i := 24) rfl
theorem dX9_helpTogether_51 : decode cX9_helpTogether 51 = .ok (.aload_n 0, 1) := dk_of dkAa165 (i := 25) rfl
theorem dX9_helpTogether_52 : decode cX9_helpTogether 52 = .ok (.getfield 33, 3) := dk_of dkAa165 (i := 26) rfl
theorem dX9_helpTogether_55 : decode cX9_helpTogether 55 = .ok (.iload_n 1, 1) := dk_of dkAa165 (i := 27) rfl
theorem dX9_helpTogether_56 : decode cX9_helpTogether 56 = .ok (.iload 5, 2) := dk_of dkAa165 (i := 28) rfl
theorem dX9_helpTogether_58 : decode cX9_helpTogether 58 = .ok (.bipush 9, 2) := dk_of dkAa165 (i := 29) rfl
theorem dX9_helpTogether_60 : decode cX9_helpTogether 60 = .ok (.invokevirtual 208, 3) := dk_of dkAa165 (i := 30) rfl
theorem dX9_helpTogether_63 : decode cX9_helpTogether 63 = .ok (.aload_n 0, 1) := dk_of dkAa165 (i := 31) rfl
def dkLa166 : List (Nat × Instr × Nat) := [(64, .getfield 33, 3), (67, .iload_n 2, 1), (68, .iload 6, 2), (70, .bipush 9, 2), (72, .invokevirtual 208, 3), (75, .aload_n 0, 1), (76, .getfield 74, 3), (79, .aload_n 0, 1), (80, .getfield 33, 3), (83, .invokevirtual 311, 3), (86, .aload_n 0, 1), (87, .getfield 33, 3), (90, .iload_n 3, 1), (91, .invokevirtual 151, 3), (94, .iload 4, 2), (96, .if_icmp .ne 5, 3), (99, .iconst 1, 1), (100, .ireturn, 1), (101, .iinc 6 1, 3), (104, .goto (-91), 3), (107, .iinc 5 1, 3), (110, .goto (-107), 3), (113, .iconst 0, 1), (114, .ireturn, 1)]
set_option maxRecDepth 100000 in
theorem dkAa166 : ∀ q ∈ dkLa166, decode cX9_helpTogether q.1 = .ok q.2 := by decide +kernel
theorem dX9_helpTogether_64 : decode cX9_helpTogether 64 = .ok (.getfield 33, 3) := dk_of dkAa166 (i := 0) rfl
theorem dX9_helpTogether_67 : decode cX9_helpTogether 67 = .ok (.iload_n 2, 1) := dk_of dkAa166 (i := 1) rfl
theorem dX9_helpTogether_68 : decode cX9_helpTogether 68 = .ok (.iload 6, 2) := dk_of dkAa166 (i := 2) rfl
theorem dX9_helpTogether_70 : decode cX9_helpTogether 70 = .ok (.bipush 9, 2) := dk_of dkAa166 (i := 3) rfl
theorem dX9_helpTogether_72 : decode cX9_helpTogether 72 = .ok (.invokevirtual 208, 3) := dk_of dkAa166 (i := 4) rfl
theorem dX9_helpTogether_75 : decode cX9_helpTogether 75 = .ok (.aload_n 0, 1) := dk_of dkAa166 (i := 5) rfl
theorem dX9_helpTogether_76 : decode cX9_helpTogether 76 = .ok (.getfield 74, 3) := dk_of dkAa166 (i := 6) rfl
theorem dX9_helpTogether_79 : decode cX9_helpTogether 79 = .ok (.aload_n 0, 1) := dk_of dkAa166 (i := 7) rfl
theorem dX9_helpTogether_80 : decode cX9_helpTogether 80 = .ok (.getfield 33, 3) := dk_of dkAa166 (i := 8) rfl
theorem dX9_helpTogether_83 : decode cX9_helpTogether 83 = .ok (.invokevirtual 311, 3) := dk_of dkAa166 (i := 9) rfl
theorem dX9_helpTogether_86 : decode cX9_helpTogether 86 = .ok (.aload_n 0, 1) := dk_of dkAa166 (i := 10) rfl
theorem dX9_helpTogether_87 : decode cX9_helpTogether 87 = .ok (.getfield 33, 3) := dk_of dkAa166 (i := 11) rfl
theorem dX9_helpTogether_90 : decode cX9_helpTogether 90 = .ok (.iload_n 3, 1) := dk_of dkAa166 (i := 12) rfl
theorem dX9_helpTogether_91 : decode cX9_helpTogether 91 = .ok (.invokevirtual 151, 3) := dk_of dkAa166 (i := 13) rfl
theorem dX9_helpTogether_94 : decode cX9_helpTogether 94 = .ok (.iload 4, 2) := dk_of dkAa166 (i := 14) rfl
theorem dX9_helpTogether_96 : decode cX9_helpTogether 96 = .ok (.if_icmp .ne 5, 3) := dk_of dkAa166 (i := 15) rfl
theorem dX9_helpTogether_99 : decode cX9_helpTogether 99 = .ok (.iconst 1, 1) := dk_of dkAa166 (i := 16) rfl
theorem dX9_helpTogether_100 : decode cX9_helpTogether 100 = .ok (.ireturn, 1) := dk_of dkAa166 (i := 17) rfl
theorem dX9_helpTogether_101 : decode cX9_helpTogether 101 = .ok (.iinc 6 1, 3) := dk_of dkAa166 (i := 18) rfl
theorem dX9_helpTogether_104 : decode cX9_helpTogether 104 = .ok (.goto (-91), 3) := dk_of dkAa166 (i := 19) rfl
theorem dX9_helpTogether_107 : decode cX9_helpTogether 107 = .ok (.iinc 5 1, 3) := dk_of dkAa166 (i := 20) rfl
theorem dX9_helpTogether_110 : decode cX9_helpTogether 110 = .ok (.goto (-107), 3) := dk_of dkAa166 (i := 21) rfl
theorem dX9_helpTogether_113 : decode cX9_helpTogether 113 = .ok (.iconst 0, 1) := dk_of dkAa166 (i := 22) rfl
theorem dX9_helpTogether_114 : decode cX9_helpTogether 114 = .ok (.ireturn, 1) := dk_of dkAa166 (i := 23) rfl
def dkLa167 : List (Nat × Instr × Nat) := [(0, .aload_n 0, 1), (1, .getfield 19, 3), (4, .invokevirtual 139, 3), (7, .istore_n 1, 1), (8, .iconst 0, 1), (9, .istore_n 2, 1), (10, .iload_n 2, 1), (11, .aload_n 0, 1), (12, .getfield 61, 3), (15, .getfield 145, 3), (18, .if_icmp .ge 47, 3), (21, .aload_n 0, 1), (22, .getfield 19, 3), (25, .aload_n 0, 1), (26, .getfield 61, 3), (29, .iload_n 2, 1), (30, .invokevirtual 325, 3), (33, .invokevirtual 176, 3), (36, .istore_n 3, 1), (37, .iload_n 1, 1), (38, .aload_n 0, 1), (39, .getfield 61, 3), (42, .iload_n 2, 1), (43, .invokevirtual 328, 3), (46, .iconst 1, 1), (47, .if_icmp .ne 7, 3), (50, .iload_n 3, 1), (51, .goto 6, 3), (54, .iload_n 3, 1), (55, .iconst (-1), 1), (56, .ixor, 1), (57, .iand, 1)]
set_option maxRecDepth 100000 in
theorem dkAa167 : ∀ q ∈ dkLa167, decode cX9_voicesThatSpoke q.1 = .ok q.2 := by decide +kernel
theorem dX9_voicesThatSpoke_0 : decode cX9_voicesThatSpoke 0 = .ok (.aload_n 0, 1) := dk_of dkAa167 (i := 0) rfl
theorem dX9_voicesThatSpoke_1 : decode cX9_voicesThatSpoke 1 = .ok (.getfield 19, 3) := dk_of dkAa167 (i := 1) rfl
theorem dX9_voicesThatSpoke_4 : decode cX9_voicesThatSpoke 4 = .ok (.invokevirtual 139, 3) := dk_of dkAa167 (i := 2) rfl
theorem dX9_voicesThatSpoke_7 : decode cX9_voicesThatSpoke 7 = .ok (.istore_n 1, 1) := dk_of dkAa167 (i := 3) rfl
theorem dX9_voicesThatSpoke_8 : decode cX9_voicesThatSpoke 8 = .ok (.iconst 0, 1) := dk_of dkAa167 (i := 4) rfl
theorem dX9_voicesThatSpoke_9 : decode cX9_voicesThatSpoke 9 = .ok (.istore_n 2, 1) := dk_of dkAa167 (i := 5) rfl
theorem dX9_voicesThatSpoke_10 : decode cX9_voicesThatSpoke 10 = .ok (.iload_n 2, 1) := dk_of dkAa167 (i := 6) rfl
theorem dX9_voicesThatSpoke_11 : decode cX9_voicesThatSpoke 11 = .ok (.aload_n 0, 1) := dk_of dkAa167 (i := 7) rfl
theorem dX9_voicesThatSpoke_12 : decode cX9_voicesThatSpoke 12 = .ok (.getfield 61, 3) := dk_of dkAa167 (i := 8) rfl
theorem dX9_voicesThatSpoke_15 : decode cX9_voicesThatSpoke 15 = .ok (.getfield 145, 3) := dk_of dkAa167 (i := 9) rfl
theorem dX9_voicesThatSpoke_18 : decode cX9_voicesThatSpoke 18 = .ok (.if_icmp .ge 47, 3) := dk_of dkAa167 (i := 10) rfl
theorem dX9_voicesThatSpoke_21 : decode cX9_voicesThatSpoke 21 = .ok (.aload_n 0, 1) := dk_of dkAa167 (i := 11) rfl
theorem dX9_voicesThatSpoke_22 : decode cX9_voicesThatSpoke 22 = .ok (.getfield 19, 3) := dk_of dkAa167 (i := 12) rfl
theorem dX9_voicesThatSpoke_25 : decode cX9_voicesThatSpoke 25 = .ok (.aload_n 0, 1) := dk_of dkAa167 (i := 13) rfl
theorem dX9_voicesThatSpoke_26 : decode cX9_voicesThatSpoke 26 = .ok (.getfield 61, 3) := dk_of dkAa167 (i := 14) rfl
theorem dX9_voicesThatSpoke_29 : decode cX9_voicesThatSpoke 29 = .ok (.iload_n 2, 1) := dk_of dkAa167 (i := 15) rfl
theorem dX9_voicesThatSpoke_30 : decode cX9_voicesThatSpoke 30 = .ok (.invokevirtual 325, 3) := dk_of dkAa167 (i := 16) rfl
theorem dX9_voicesThatSpoke_33 : decode cX9_voicesThatSpoke 33 = .ok (.invokevirtual 176, 3) := dk_of dkAa167 (i := 17) rfl
theorem dX9_voicesThatSpoke_36 : decode cX9_voicesThatSpoke 36 = .ok (.istore_n 3, 1) := dk_of dkAa167 (i := 18) rfl
theorem dX9_voicesThatSpoke_37 : decode cX9_voicesThatSpoke 37 = .ok (.iload_n 1, 1) := dk_of dkAa167 (i := 19) rfl
theorem dX9_voicesThatSpoke_38 : decode cX9_voicesThatSpoke 38 = .ok (.aload_n 0, 1) := dk_of dkAa167 (i := 20) rfl
theorem dX9_voicesThatSpoke_39 : decode cX9_voicesThatSpoke 39 = .ok (.getfield 61, 3) := dk_of dkAa167 (i := 21) rfl
theorem dX9_voicesThatSpoke_42 : decode cX9_voicesThatSpoke 42 = .ok (.iload_n 2, 1) := dk_of dkAa167 (i := 22) rfl
theorem dX9_voicesThatSpoke_43 : decode cX9_voicesThatSpoke 43 = .ok (.invokevirtual 328, 3) := dk_of dkAa167 (i := 23) rfl
theorem dX9_voicesThatSpoke_46 : decode cX9_voicesThatSpoke 46 = .ok (.iconst 1, 1) := dk_of dkAa167 (i := 24) rfl
theorem dX9_voicesThatSpoke_47 : decode cX9_voicesThatSpoke 47 = .ok (.if_icmp .ne 7, 3) := dk_of dkAa167 (i := 25) rfl
theorem dX9_voicesThatSpoke_50 : decode cX9_voicesThatSpoke 50 = .ok (.iload_n 3, 1) := dk_of dkAa167 (i := 26) rfl
theorem dX9_voicesThatSpoke_51 : decode cX9_voicesThatSpoke 51 = .ok (.goto 6, 3) := dk_of dkAa167 (i := 27) rfl
theorem dX9_voicesThatSpoke_54 : decode cX9_voicesThatSpoke 54 = .ok (.iload_n 3, 1) := dk_of dkAa167 (i := 28) rfl
theorem dX9_voicesThatSpoke_55 : decode cX9_voicesThatSpoke 55 = .ok (.iconst (-1), 1) := dk_of dkAa167 (i := 29) rfl
theorem dX9_voicesThatSpoke_56 : decode cX9_voicesThatSpoke 56 = .ok (.ixor, 1) := dk_of dkAa167 (i := 30) rfl
theorem dX9_voicesThatSpoke_57 : decode cX9_voicesThatSpoke 57 = .ok (.iand, 1) := dk_of dkAa167 (i := 31) rfl
def dkLa168 : List (Nat × Instr × Nat) := [(58, .istore_n 1, 1), (59, .iinc 2 1, 3), (62, .goto (-52), 3), (65, .iload_n 1, 1), (66, .ireturn, 1)]
set_option maxRecDepth 100000 in
theorem dkAa168 : ∀ q ∈ dkLa168, decode cX9_voicesThatSpoke q.1 = .ok q.2 := by decide +kernel
theorem dX9_voicesThatSpoke_58 : decode cX9_voicesThatSpoke 58 = .ok (.istore_n 1, 1) := dk_of dkAa168 (i := 0) rfl
theorem dX9_voicesThatSpoke_59 : decode cX9_voicesThatSpoke 59 = .ok (.iinc 2 1, 3) := dk_of dkAa168 (i := 1) rfl
theorem dX9_voicesThatSpoke_62 : decode cX9_voicesThatSpoke 62 = .ok (.goto (-52), 3) := dk_of dkAa168 (i := 2) rfl
theorem dX9_voicesThatSpoke_65 : decode cX9_voicesThatSpoke 65 = .ok (.iload_n 1, 1) := dk_of dkAa168 (i := 3) rfl
theorem dX9_voicesThatSpoke_66 : decode cX9_voicesThatSpoke 66 = .ok (.ireturn, 1) := dk_of dkAa168 (i := 4) rfl
def dkLa169 : List (Nat × Instr × Nat) := [(0, .aload_n 0, 1), (1, .getfield 74, 3), (4, .iload_n 1, 1), (5, .iload_n 2, 1), (6, .invokevirtual 331, 3), (9, .aload_n 0, 1), (10, .getfield 33, 3), (13, .aload_n 0, 1), (14, .getfield 29, 3), (17, .invokevirtual 302, 3), (20, .aload_n 0, 1), (21, .getfield 74, 3), (24, .aload_n 0, 1), (25, .getfield 33, 3), (28, .invokevirtual 311, 3), (31, .aload_n 0, 1), (32, .getfield 65, 3), (35, .aload_n 0, 1), (36, .getfield 33, 3), (39, .invokevirtual 288, 3), (42, .iconst (-1), 1), (43, .if_icmp .ne 7, 3), (46, .iconst 1, 1), (47, .goto 4, 3), (50, .iconst 0, 1), (51, .ireturn, 1)]
set_option maxRecDepth 100000 in
theorem dkAa169 : ∀ q ∈ dkLa169, decode cX9_fitsOrder q.1 = .ok q.2 := by decide +kernel
theorem dX9_fitsOrder_0 : decode cX9_fitsOrder 0 = .ok (.aload_n 0, 1) := dk_of dkAa169 (i := 0) rfl
theorem dX9_fitsOrder_1 : decode cX9_fitsOrder 1 = .ok (.getfield 74, 3) := dk_of dkAa169 (i := 1) rfl
theorem dX9_fitsOrder_4 : decode cX9_fitsOrder 4 = .ok (.iload_n 1, 1) := dk_of dkAa169 (i := 2) rfl
theorem dX9_fitsOrder_5 : decode cX9_fitsOrder 5 = .ok (.iload_n 2, 1) := dk_of dkAa169 (i := 3) rfl
theorem dX9_fitsOrder_6 : decode cX9_fitsOrder 6 = .ok (.invokevirtual 331, 3) := dk_of dkAa169 (i := 4) rfl
theorem dX9_fitsOrder_9 : decode cX9_fitsOrder 9 = .ok (.aload_n 0, 1) := dk_of dkAa169 (i := 5) rfl
theorem dX9_fitsOrder_10 : decode cX9_fitsOrder 10 = .ok (.getfield 33, 3) := dk_of dkAa169 (i := 6) rfl
theorem dX9_fitsOrder_13 : decode cX9_fitsOrder 13 = .ok (.aload_n 0, 1) := dk_of dkAa169 (i := 7) rfl
theorem dX9_fitsOrder_14 : decode cX9_fitsOrder 14 = .ok (.getfield 29, 3) := dk_of dkAa169 (i := 8) rfl
theorem dX9_fitsOrder_17 : decode cX9_fitsOrder 17 = .ok (.invokevirtual 302, 3) := dk_of dkAa169 (i := 9) rfl
theorem dX9_fitsOrder_20 : decode cX9_fitsOrder 20 = .ok (.aload_n 0, 1) := dk_of dkAa169 (i := 10) rfl
theorem dX9_fitsOrder_21 : decode cX9_fitsOrder 21 = .ok (.getfield 74, 3) := dk_of dkAa169 (i := 11) rfl
theorem dX9_fitsOrder_24 : decode cX9_fitsOrder 24 = .ok (.aload_n 0, 1) := dk_of dkAa169 (i := 12) rfl
theorem dX9_fitsOrder_25 : decode cX9_fitsOrder 25 = .ok (.getfield 33, 3) := dk_of dkAa169 (i := 13) rfl
theorem dX9_fitsOrder_28 : decode cX9_fitsOrder 28 = .ok (.invokevirtual 311, 3) := dk_of dkAa169 (i := 14) rfl
theorem dX9_fitsOrder_31 : decode cX9_fitsOrder 31 = .ok (.aload_n 0, 1) := dk_of dkAa169 (i := 15) rfl
theorem dX9_fitsOrder_32 : decode cX9_fitsOrder 32 = .ok (.getfield 65, 3) := dk_of dkAa169 (i := 16) rfl
theorem dX9_fitsOrder_35 : decode cX9_fitsOrder 35 = .ok (.aload_n 0, 1) := dk_of dkAa169 (i := 17) rfl
theorem dX9_fitsOrder_36 : decode cX9_fitsOrder 36 = .ok (.getfield 33, 3) := dk_of dkAa169 (i := 18) rfl
theorem dX9_fitsOrder_39 : decode cX9_fitsOrder 39 = .ok (.invokevirtual 288, 3) := dk_of dkAa169 (i := 19) rfl
theorem dX9_fitsOrder_42 : decode cX9_fitsOrder 42 = .ok (.iconst (-1), 1) := dk_of dkAa169 (i := 20) rfl
theorem dX9_fitsOrder_43 : decode cX9_fitsOrder 43 = .ok (.if_icmp .ne 7, 3) := dk_of dkAa169 (i := 21) rfl
theorem dX9_fitsOrder_46 : decode cX9_fitsOrder 46 = .ok (.iconst 1, 1) := dk_of dkAa169 (i := 22) rfl
theorem dX9_fitsOrder_47 : decode cX9_fitsOrder 47 = .ok (.goto 4, 3) := dk_of dkAa169 (i := 23) rfl
theorem dX9_fitsOrder_50 : decode cX9_fitsOrder 50 = .ok (.iconst 0, 1) := dk_of dkAa169 (i := 24) rfl
theorem dX9_fitsOrder_51 : decode cX9_fitsOrder 51 = .ok (.ireturn, 1) := dk_of dkAa169 (i := 25) rfl
def dkLa170 : List (Nat × Instr × Nat) := [(0, .iconst 0, 1), (1, .istore_n 2, 1), (2, .iconst 0, 1), (3, .istore_n 3, 1), (4, .iload_n 3, 1), (5, .iload_n 1, 1), (6, .invokestatic 334, 3), (9, .if_icmp .ge 21, 3), (12, .aload_n 0, 1), (13, .iload_n 1, 1), (14, .iload_n 3, 1), (15, .invokevirtual 337, 3), (18, .ifCond .eq 6, 3), (21, .iinc 2 1, 3), (24, .iinc 3 1, 3), (27, .goto (-23), 3), (30, .iload_n 2, 1), (31, .ireturn, 1)]
set_option maxRecDepth 100000 in
theorem dkAa170 : ∀ q ∈ dkLa170, decode cX9_countOrders q.1 = .ok q.2 := by decide +kernel
theorem dX9_countOrders_0 : decode cX9_countOrders 0 = .ok (.iconst 0, 1) := dk_of dkAa170 (i := 0) rfl
theorem dX9_countOrders_1 : decode cX9_countOrders 1 = .ok (.istore_n 2, 1) := dk_of dkAa170 (i := 1) rfl
theorem dX9_countOrders_2 : decode cX9_countOrders 2 = .ok (.iconst 0, 1) := dk_of dkAa170 (i := 2) rfl
theorem dX9_countOrders_3 : decode cX9_countOrders 3 = .ok (.istore_n 3, 1) := dk_of dkAa170 (i := 3) rfl
theorem dX9_countOrders_4 : decode cX9_countOrders 4 = .ok (.iload_n 3, 1) := dk_of dkAa170 (i := 4) rfl
theorem dX9_countOrders_5 : decode cX9_countOrders 5 = .ok (.iload_n 1, 1) := dk_of dkAa170 (i := 5) rfl
theorem dX9_countOrders_6 : decode cX9_countOrders 6 = .ok (.invokestatic 334, 3) := dk_of dkAa170 (i := 6) rfl
theorem dX9_countOrders_9 : decode cX9_countOrders 9 = .ok (.if_icmp .ge 21, 3) := dk_of dkAa170 (i := 7) rfl
theorem dX9_countOrders_12 : decode cX9_countOrders 12 = .ok (.aload_n 0, 1) := dk_of dkAa170 (i := 8) rfl
theorem dX9_countOrders_13 : decode cX9_countOrders 13 = .ok (.iload_n 1, 1) := dk_of dkAa170 (i := 9) rfl
theorem dX9_countOrders_14 : decode cX9_countOrders 14 = .ok (.iload_n 3, 1) := dk_of dkAa170 (i := 10) rfl
theorem dX9_countOrders_15 : decode cX9_countOrders 15 = .ok (.invokevirtual 337, 3) := dk_of dkAa170 (i := 11) rfl
theorem dX9_countOrders_18 : decode cX9_countOrders 18 = .ok (.ifCond .eq 6, 3) := dk_of dkAa170 (i := 12) rfl
theorem dX9_countOrders_21 : decode cX9_countOrders 21 = .ok (.iinc 2 1, 3) := dk_of dkAa170 (i := 13) rfl
theorem dX9_countOrders_24 : decode cX9_countOrders 24 = .ok (.iinc 3 1, 3) := dk_of dkAa170 (i := 14) rfl
theorem dX9_countOrders_27 : decode cX9_countOrders 27 = .ok (.goto (-23), 3) := dk_of dkAa170 (i := 15) rfl
theorem dX9_countOrders_30 : decode cX9_countOrders 30 = .ok (.iload_n 2, 1) := dk_of dkAa170 (i := 16) rfl
theorem dX9_countOrders_31 : decode cX9_countOrders 31 = .ok (.ireturn, 1) := dk_of dkAa170 (i := 17) rfl
def dkLa171 : List (Nat × Instr × Nat) := [(0, .iconst 0, 1), (1, .istore_n 3, 1), (2, .iconst 0, 1), (3, .istore 4, 2), (5, .iload 4, 2), (7, .iload_n 1, 1), (8, .invokestatic 334, 3), (11, .if_icmp .ge 35, 3), (14, .aload_n 0, 1), (15, .iload_n 1, 1), (16, .iload 4, 2), (18, .invokevirtual 337, 3), (21, .ifCond .eq 19, 3), (24, .iload_n 3, 1), (25, .iload_n 2, 1), (26, .if_icmp .ne 11, 3), (29, .aload_n 0, 1), (30, .getfield 74, 3), (33, .invokevirtual 340, 3), (36, .ireturn, 1), (37, .iinc 3 1, 3), (40, .iinc 4 1, 3), (43, .goto (-38), 3), (46, .iconst (-1), 1), (47, .ireturn, 1)]
set_option maxRecDepth 100000 in
theorem dkAa171 : ∀ q ∈ dkLa171, decode cX9_orderNumber q.1 = .ok q.2 := by decide +kernel
theorem dX9_orderNumber_0 : decode cX9_orderNumber 0 = .ok (.iconst 0, 1) := dk_of dkAa171 (i := 0) rfl
theorem dX9_orderNumber_1 : decode cX9_orderNumber 1 = .ok (.istore_n 3, 1) := dk_of dkAa171 (i := 1) rfl
theorem dX9_orderNumber_2 : decode cX9_orderNumber 2 = .ok (.iconst 0, 1) := dk_of dkAa171 (i := 2) rfl
theorem dX9_orderNumber_3 : decode cX9_orderNumber 3 = .ok (.istore 4, 2) := dk_of dkAa171 (i := 3) rfl
theorem dX9_orderNumber_5 : decode cX9_orderNumber 5 = .ok (.iload 4, 2) := dk_of dkAa171 (i := 4) rfl
theorem dX9_orderNumber_7 : decode cX9_orderNumber 7 = .ok (.iload_n 1, 1) := dk_of dkAa171 (i := 5) rfl
theorem dX9_orderNumber_8 : decode cX9_orderNumber 8 = .ok (.invokestatic 334, 3) := dk_of dkAa171 (i := 6) rfl
theorem dX9_orderNumber_11 : decode cX9_orderNumber 11 = .ok (.if_icmp .ge 35, 3) := dk_of dkAa171 (i := 7) rfl
theorem dX9_orderNumber_14 : decode cX9_orderNumber 14 = .ok (.aload_n 0, 1) := dk_of dkAa171 (i := 8) rfl
theorem dX9_orderNumber_15 : decode cX9_orderNumber 15 = .ok (.iload_n 1, 1) := dk_of dkAa171 (i := 9) rfl
theorem dX9_orderNumber_16 : decode cX9_orderNumber 16 = .ok (.iload 4, 2) := dk_of dkAa171 (i := 10) rfl
theorem dX9_orderNumber_18 : decode cX9_orderNumber 18 = .ok (.invokevirtual 337, 3) := dk_of dkAa171 (i := 11) rfl
theorem dX9_orderNumber_21 : decode cX9_orderNumber 21 = .ok (.ifCond .eq 19, 3) := dk_of dkAa171 (i := 12) rfl
theorem dX9_orderNumber_24 : decode cX9_orderNumber 24 = .ok (.iload_n 3, 1) := dk_of dkAa171 (i := 13) rfl
theorem dX9_orderNumber_25 : decode cX9_orderNumber 25 = .ok (.iload_n 2, 1) := dk_of dkAa171 (i := 14) rfl
theorem dX9_orderNumber_26 : decode cX9_orderNumber 26 = .ok (.if_icmp .ne 11, 3) := dk_of dkAa171 (i := 15) rfl
theorem dX9_orderNumber_29 : decode cX9_orderNumber 29 = .ok (.aload_n 0, 1) := dk_of dkAa171 (i := 16) rfl
theorem dX9_orderNumber_30 : decode cX9_orderNumber 30 = .ok (.getfield 74, 3) := dk_of dkAa171 (i := 17) rfl
theorem dX9_orderNumber_33 : decode cX9_orderNumber 33 = .ok (.invokevirtual 340, 3) := dk_of dkAa171 (i := 18) rfl
theorem dX9_orderNumber_36 : decode cX9_orderNumber 36 = .ok (.ireturn, 1) := dk_of dkAa171 (i := 19) rfl
theorem dX9_orderNumber_37 : decode cX9_orderNumber 37 = .ok (.iinc 3 1, 3) := dk_of dkAa171 (i := 20) rfl
theorem dX9_orderNumber_40 : decode cX9_orderNumber 40 = .ok (.iinc 4 1, 3) := dk_of dkAa171 (i := 21) rfl
theorem dX9_orderNumber_43 : decode cX9_orderNumber 43 = .ok (.goto (-38), 3) := dk_of dkAa171 (i := 22) rfl
theorem dX9_orderNumber_46 : decode cX9_orderNumber 46 = .ok (.iconst (-1), 1) := dk_of dkAa171 (i := 23) rfl
theorem dX9_orderNumber_47 : decode cX9_orderNumber 47 = .ok (.ireturn, 1) := dk_of dkAa171 (i := 24) rfl
def dkLa172 : List (Nat × Instr × Nat) := [(0, .iconst (-1), 1), (1, .istore_n 2, 1), (2, .iconst 0, 1), (3, .istore_n 3, 1), (4, .iload_n 3, 1), (5, .iload_n 1, 1), (6, .invokestatic 334, 3), (9, .if_icmp .ge 44, 3), (12, .aload_n 0, 1), (13, .iload_n 1, 1), (14, .iload_n 3, 1), (15, .invokevirtual 337, 3), (18, .ifCond .eq 29, 3), (21, .iload_n 2, 1), (22, .iconst (-1), 1), (23, .if_icmp .eq 16, 3), (26, .iload_n 2, 1), (27, .aload_n 0, 1), (28, .getfield 74, 3), (31, .invokevirtual 343, 3), (34, .if_icmp .eq 5, 3), (37, .iconst (-1), 1), (38, .ireturn, 1), (39, .aload_n 0, 1), (40, .getfield 74, 3), (43, .invokevirtual 343, 3), (46, .istore_n 2, 1), (47, .iinc 3 1, 3), (50, .goto (-46), 3), (53, .iload_n 2, 1), (54, .ireturn, 1)]
set_option maxRecDepth 100000 in
theorem dkAa172 : ∀ q ∈ dkLa172, decode cX9_firstInAllOrders q.1 = .ok q.2 := by decide +kernel
theorem dX9_firstInAllOrders_0 : decode cX9_firstInAllOrders 0 = .ok (.iconst (-1), 1) := dk_of dkAa172 (i := 0) rfl
theorem dX9_firstInAllOrders_1 : decode cX9_firstInAllOrders 1 = .ok (.istore_n 2, 1) := dk_of dkAa172 (i := 1) rfl
theorem dX9_firstInAllOrders_2 : decode cX9_firstInAllOrders 2 = .ok (.iconst 0, 1) := dk_of dkAa172 (i := 2) rfl
theorem dX9_firstInAllOrders_3 : decode cX9_firstInAllOrders 3 = .ok (.istore_n 3, 1) := dk_of dkAa172 (i := 3) rfl
theorem dX9_firstInAllOrders_4 : decode cX9_firstInAllOrders 4 = .ok (.iload_n 3, 1) := dk_of dkAa172 (i := 4) rfl
theorem dX9_firstInAllOrders_5 : decode cX9_firstInAllOrders 5 = .ok (.iload_n 1, 1) := dk_of dkAa172 (i := 5) rfl
theorem dX9_firstInAllOrders_6 : decode cX9_firstInAllOrders 6 = .ok (.invokestatic 334, 3) := dk_of dkAa172 (i := 6) rfl
theorem dX9_firstInAllOrders_9 : decode cX9_firstInAllOrders 9 = .ok (.if_icmp .ge 44, 3) := dk_of dkAa172 (i := 7) rfl
theorem dX9_firstInAllOrders_12 : decode cX9_firstInAllOrders 12 = .ok (.aload_n 0, 1) := dk_of dkAa172 (i := 8) rfl
theorem dX9_firstInAllOrders_13 : decode cX9_firstInAllOrders 13 = .ok (.iload_n 1, 1) := dk_of dkAa172 (i := 9) rfl
theorem dX9_firstInAllOrders_14 : decode cX9_firstInAllOrders 14 = .ok (.iload_n 3, 1) := dk_of dkAa172 (i := 10) rfl
theorem dX9_firstInAllOrders_15 : decode cX9_firstInAllOrders 15 = .ok (.invokevirtual 337, 3) := dk_of dkAa172 (i := 11) rfl
theorem dX9_firstInAllOrders_18 : decode cX9_firstInAllOrders 18 = .ok (.ifCond .eq 29, 3) := dk_of dkAa172 (i := 12) rfl
theorem dX9_firstInAllOrders_21 : decode cX9_firstInAllOrders 21 = .ok (.iload_n 2, 1) := dk_of dkAa172 (i := 13) rfl
theorem dX9_firstInAllOrders_22 : decode cX9_firstInAllOrders 22 = .ok (.iconst (-1), 1) := dk_of dkAa172 (i := 14) rfl
theorem dX9_firstInAllOrders_23 : decode cX9_firstInAllOrders 23 = .ok (.if_icmp .eq 16, 3) := dk_of dkAa172 (i := 15) rfl
theorem dX9_firstInAllOrders_26 : decode cX9_firstInAllOrders 26 = .ok (.iload_n 2, 1) := dk_of dkAa172 (i := 16) rfl
theorem dX9_firstInAllOrders_27 : decode cX9_firstInAllOrders 27 = .ok (.aload_n 0, 1) := dk_of dkAa172 (i := 17) rfl
theorem dX9_firstInAllOrders_28 : decode cX9_firstInAllOrders 28 = .ok (.getfield 74, 3) := dk_of dkAa172 (i := 18) rfl
theorem dX9_firstInAllOrders_31 : decode cX9_firstInAllOrders 31 = .ok (.invokevirtual 343, 3) := dk_of dkAa172 (i := 19) rfl
theorem dX9_firstInAllOrders_34 : decode cX9_firstInAllOrders 34 = .ok (.if_icmp .eq 5, 3) := dk_of dkAa172 (i := 20) rfl
theorem dX9_firstInAllOrders_37 : decode cX9_firstInAllOrders 37 = .ok (.iconst (-1), 1) := dk_of dkAa172 (i := 21) rfl
theorem dX9_firstInAllOrders_38 : decode cX9_firstInAllOrders 38 = .ok (.ireturn, 1) := dk_of dkAa172 (i := 22) rfl
theorem dX9_firstInAllOrders_39 : decode cX9_firstInAllOrders 39 = .ok (.aload_n 0, 1) := dk_of dkAa172 (i := 23) rfl
theorem dX9_firstInAllOrders_40 : decode cX9_firstInAllOrders 40 = .ok (.getfield 74, 3) := dk_of dkAa172 (i := 24) rfl
theorem dX9_firstInAllOrders_43 : decode cX9_firstInAllOrders 43 = .ok (.invokevirtual 343, 3) := dk_of dkAa172 (i := 25) rfl
theorem dX9_firstInAllOrders_46 : decode cX9_firstInAllOrders 46 = .ok (.istore_n 2, 1) := dk_of dkAa172 (i := 26) rfl
theorem dX9_firstInAllOrders_47 : decode cX9_firstInAllOrders 47 = .ok (.iinc 3 1, 3) := dk_of dkAa172 (i := 27) rfl
theorem dX9_firstInAllOrders_50 : decode cX9_firstInAllOrders 50 = .ok (.goto (-46), 3) := dk_of dkAa172 (i := 28) rfl
theorem dX9_firstInAllOrders_53 : decode cX9_firstInAllOrders 53 = .ok (.iload_n 2, 1) := dk_of dkAa172 (i := 29) rfl
theorem dX9_firstInAllOrders_54 : decode cX9_firstInAllOrders 54 = .ok (.ireturn, 1) := dk_of dkAa172 (i := 30) rfl
def dkLa173 : List (Nat × Instr × Nat) := [(0, .iload_n 0, 1), (1, .invokestatic 235, 3), (4, .istore_n 1, 1), (5, .iload_n 1, 1), (6, .getstatic 346, 3), (9, .arraylength, 1), (10, .if_icmp .ge 11, 3), (13, .getstatic 346, 3), (16, .iload_n 1, 1), (17, .iaload, 1), (18, .goto 4, 3), (21, .iconst 0, 1), (22, .ireturn, 1)]
set_option maxRecDepth 100000 in
theorem dkAa173 : ∀ q ∈ dkLa173, decode cX9_ordersOf q.1 = .ok q.2 := by decide +kernel
theorem dX9_ordersOf_0 : decode cX9_ordersOf 0 = .ok (.iload_n 0, 1) := dk_of dkAa173 (i := 0) rfl
theorem dX9_ordersOf_1 : decode cX9_ordersOf 1 = .ok (.invokestatic 235, 3) := dk_of dkAa173 (i := 1) rfl
theorem dX9_ordersOf_4 : decode cX9_ordersOf 4 = .ok (.istore_n 1, 1) := dk_of dkAa173 (i := 2) rfl
theorem dX9_ordersOf_5 : decode cX9_ordersOf 5 = .ok (.iload_n 1, 1) := dk_of dkAa173 (i := 3) rfl
theorem dX9_ordersOf_6 : decode cX9_ordersOf 6 = .ok (.getstatic 346, 3) := dk_of dkAa173 (i := 4) rfl
theorem dX9_ordersOf_9 : decode cX9_ordersOf 9 = .ok (.arraylength, 1) := dk_of dkAa173 (i := 5) rfl
theorem dX9_ordersOf_10 : decode cX9_ordersOf 10 = .ok (.if_icmp .ge 11, 3) := dk_of dkAa173 (i := 6) rfl
theorem dX9_ordersOf_13 : decode cX9_ordersOf 13 = .ok (.getstatic 346, 3) := dk_of dkAa173 (i := 7) rfl
theorem dX9_ordersOf_16 : decode cX9_ordersOf 16 = .ok (.iload_n 1, 1) := dk_of dkAa173 (i := 8) rfl
theorem dX9_ordersOf_17 : decode cX9_ordersOf 17 = .ok (.iaload, 1) := dk_of dkAa173 (i := 9) rfl
theorem dX9_ordersOf_18 : decode cX9_ordersOf 18 = .ok (.goto 4, 3) := dk_of dkAa173 (i := 10) rfl
theorem dX9_ordersOf_21 : decode cX9_ordersOf 21 = .ok (.iconst 0, 1) := dk_of dkAa173 (i := 11) rfl
theorem dX9_ordersOf_22 : decode cX9_ordersOf 22 = .ok (.ireturn, 1) := dk_of dkAa173 (i := 12) rfl
