theorem lk_of {L : List (Nat × Cond)} (hA : ∀ q ∈ L, lw_tbl[q.1]? = some q.2 ∧ goodWord q.2 = true) {i n : Nat} {w : Cond} (h : L[i]? = some (n, w)) : w ∈ mm_ok := mm_in n (hA _ (List.mem_of_getElem? h)).1 (hA _ (List.mem_of_getElem? h)).2
theorem lk_ofN {L : List (Nat × Cond)} (hA : ∀ q ∈ L, lw_tbl[q.1]? = some q.2 ∧ mm_nw q.2 = true) {i n : Nat} {w : Cond} (h : L[i]? = some (n, w)) : w ∈ mm_nest := mm_inN n (hA _ (List.mem_of_getElem? h)).1 (hA _ (List.mem_of_getElem? h)).2
theorem ncm_RJ6 : RJ6 ≠ "java/lang/invoke/MethodHandle" := by decide
theorem ncv_RJ6 : RJ6 ≠ "java/lang/invoke/VarHandle" := by decide
theorem ncm_RJ9 : RJ9 ≠ "java/lang/invoke/MethodHandle" := by decide
theorem ncv_RJ9 : RJ9 ≠ "java/lang/invoke/VarHandle" := by decide
theorem ncm_RL : RL ≠ "java/lang/invoke/MethodHandle" := by decide
theorem ncv_RL : RL ≠ "java/lang/invoke/VarHandle" := by decide
theorem ncm_RX0 : RX0 ≠ "java/lang/invoke/MethodHandle" := by decide
theorem ncv_RX0 : RX0 ≠ "java/lang/invoke/VarHandle" := by decide
theorem ncm_RX1 : RX1 ≠ "java/lang/invoke/MethodHandle" := by decide
theorem ncv_RX1 : RX1 ≠ "java/lang/invoke/VarHandle" := by decide
theorem ncm_RX10 : RX10 ≠ "java/lang/invoke/MethodHandle" := by decide
theorem ncv_RX10 : RX10 ≠ "java/lang/invoke/VarHandle" := by decide
theorem ncm_RX2 : RX2 ≠ "java/lang/invoke/MethodHandle" := by decide
theorem ncv_RX2 : RX2 ≠ "java/lang/invoke/VarHandle" := by decide
theorem ncm_RX3 : RX3 ≠ "java/lang/invoke/MethodHandle" := by decide
theorem ncv_RX3 : RX3 ≠ "java/lang/invoke/VarHandle" := by decide
theorem ncm_RX4 : RX4 ≠ "java/lang/invoke/MethodHandle" := by decide
theorem ncv_RX4 : RX4 ≠ "java/lang/invoke/VarHandle" := by decide
theorem ncm_RX5 : RX5 ≠ "java/lang/invoke/MethodHandle" := by decide
theorem ncv_RX5 : RX5 ≠ "java/lang/invoke/VarHandle" := by decide
theorem ncm_RX6 : RX6 ≠ "java/lang/invoke/MethodHandle" := by decide
theorem ncv_RX6 : RX6 ≠ "java/lang/invoke/VarHandle" := by decide
theorem ncm_RX7 : RX7 ≠ "java/lang/invoke/MethodHandle" := by decide
theorem ncv_RX7 : RX7 ≠ "java/lang/invoke/VarHandle" := by decide
theorem ncm_RX8 : RX8 ≠ "java/lang/invoke/MethodHandle" := by decide
theorem ncv_RX8 : RX8 ≠ "java/lang/invoke/VarHandle" := by decide
theorem ncm_RX9 : RX9 ≠ "java/lang/invoke/MethodHandle" := by decide
theorem ncv_RX9 : RX9 ≠ "java/lang/invoke/VarHandle" := by decide
theorem pd_0 : (parseMethodDescriptor "()I").map (fun d => d.parameters.length) = some 0 := by decide +kernel
theorem pd_1 : (parseMethodDescriptor "()V").map (fun d => d.parameters.length) = some 0 := by decide +kernel
theorem pd_2 : (parseMethodDescriptor "()Z").map (fun d => d.parameters.length) = some 0 := by decide +kernel
theorem pd_3 : (parseMethodDescriptor "(I)I").map (fun d => d.parameters.length) = some 1 := by decide +kernel
theorem pd_4 : (parseMethodDescriptor "(I)LVoiceWills$Image;").map (fun d => d.parameters.length) = some 1 := by decide +kernel
theorem pd_5 : (parseMethodDescriptor "(I)V").map (fun d => d.parameters.length) = some 1 := by decide +kernel
theorem pd_6 : (parseMethodDescriptor "(I)Z").map (fun d => d.parameters.length) = some 1 := by decide +kernel
theorem pd_7 : (parseMethodDescriptor "(II)I").map (fun d => d.parameters.length) = some 2 := by decide +kernel
theorem pd_8 : (parseMethodDescriptor "(II)V").map (fun d => d.parameters.length) = some 2 := by decide +kernel
theorem pd_9 : (parseMethodDescriptor "(II)Z").map (fun d => d.parameters.length) = some 2 := by decide +kernel
theorem pd_10 : (parseMethodDescriptor "(III)I").map (fun d => d.parameters.length) = some 3 := by decide +kernel
theorem pd_11 : (parseMethodDescriptor "(III)V").map (fun d => d.parameters.length) = some 3 := by decide +kernel
theorem pd_12 : (parseMethodDescriptor "(III)Z").map (fun d => d.parameters.length) = some 3 := by decide +kernel
theorem pd_13 : (parseMethodDescriptor "(IIII)I").map (fun d => d.parameters.length) = some 4 := by decide +kernel
theorem pd_14 : (parseMethodDescriptor "(IIII)Z").map (fun d => d.parameters.length) = some 4 := by decide +kernel
theorem pd_15 : (parseMethodDescriptor "(IIIII)Z").map (fun d => d.parameters.length) = some 5 := by decide +kernel
theorem pd_16 : (parseMethodDescriptor "(ILVoiceWills$Folk;)Z").map (fun d => d.parameters.length) = some 2 := by decide +kernel
theorem pd_17 : (parseMethodDescriptor "(ILVoiceWills$Parish;LVoiceWills$Folk;)I").map (fun d => d.parameters.length) = some 3 := by decide +kernel
theorem pd_18 : (parseMethodDescriptor "(IZ)I").map (fun d => d.parameters.length) = some 2 := by decide +kernel
theorem pd_19 : (parseMethodDescriptor "(JJJ)Z").map (fun d => d.parameters.length) = some 3 := by decide +kernel
theorem pd_20 : (parseMethodDescriptor "(LVoiceWills$Folk;)I").map (fun d => d.parameters.length) = some 1 := by decide +kernel
theorem pd_21 : (parseMethodDescriptor "(LVoiceWills$Folk;)V").map (fun d => d.parameters.length) = some 1 := by decide +kernel
theorem pd_22 : (parseMethodDescriptor "(LVoiceWills$Folk;)Z").map (fun d => d.parameters.length) = some 1 := by decide +kernel
theorem pd_23 : (parseMethodDescriptor "(LVoiceWills$Parish;)V").map (fun d => d.parameters.length) = some 1 := by decide +kernel
theorem pd_24 : (parseMethodDescriptor "(LVoiceWills$Parish;)Z").map (fun d => d.parameters.length) = some 1 := by decide +kernel
theorem pd_25 : (parseMethodDescriptor "(LVoiceWills$Parish;I)I").map (fun d => d.parameters.length) = some 2 := by decide +kernel
theorem pd_26 : (parseMethodDescriptor "(LVoiceWills$Parish;LVoiceWills$Folk;)V").map (fun d => d.parameters.length) = some 2 := by decide +kernel
theorem pd_27 : (parseMethodDescriptor "(Z)Z").map (fun d => d.parameters.length) = some 1 := by decide +kernel
theorem pd_28 : (parseMethodDescriptor "([I)I").map (fun d => d.parameters.length) = some 1 := by decide +kernel
theorem pd_29 : (parseMethodDescriptor "([I)V").map (fun d => d.parameters.length) = some 1 := by decide +kernel
theorem pd_30 : (parseMethodDescriptor "([I)Z").map (fun d => d.parameters.length) = some 1 := by decide +kernel
theorem pd_31 : (parseMethodDescriptor "([II)I").map (fun d => d.parameters.length) = some 2 := by decide +kernel
theorem pd_32 : (parseMethodDescriptor "([II)Z").map (fun d => d.parameters.length) = some 2 := by decide +kernel
theorem pd_33 : (parseMethodDescriptor "([III)V").map (fun d => d.parameters.length) = some 3 := by decide +kernel
theorem pd_34 : (parseMethodDescriptor "([II[III)V").map (fun d => d.parameters.length) = some 5 := by decide +kernel
def lkLa0 : List (Nat × Cond) := [(271, Cond.fieldLink RX0 15 (TX0 1).1 (TX0 1).2.1 (TX0 1).2.2.1), (272, Cond.fieldLink RX0 20 (TX0 2).1 (TX0 2).2.1 (TX0 2).2.2.1), (270, Cond.fieldLink RX0 9 (TX0 0).1 (TX0 0).2.1 (TX0 0).2.2.1), (937, Cond.fieldLink RX10 102 (TX10 21).1 (TX10 21).2.1 (TX10 21).2.2.1), (938, Cond.fieldLink RX10 105 (TX10 22).1 (TX10 22).2.1 (TX10 22).2.2.1), (939, Cond.fieldLink RX10 112 (TX10 23).1 (TX10 23).2.1 (TX10 23).2.2.1), (917, Cond.fieldLink RX10 13 (TX10 1).1 (TX10 1).2.1 (TX10 1).2.2.1), (918, Cond.fieldLink RX10 16 (TX10 2).1 (TX10 2).2.1 (TX10 2).2.2.1), (919, Cond.fieldLink RX10 19 (TX10 3).1 (TX10 3).2.1 (TX10 3).2.2.1), (924, Cond.fieldLink RX10 211 (TX10 8).1 (TX10 8).2.1 (TX10 8).2.2.1), (920, Cond.fieldLink RX10 22 (TX10 4).1 (TX10 4).2.1 (TX10 4).2.2.1), (922, Cond.fieldLink RX10 25 (TX10 6).1 (TX10 6).2.1 (TX10 6).2.2.1), (923, Cond.fieldLink RX10 28 (TX10 7).1 (TX10 7).2.1 (TX10 7).2.2.1), (925, Cond.fieldLink RX10 32 (TX10 9).1 (TX10 9).2.1 (TX10 9).2.2.1), (927, Cond.fieldLink RX10 35 (TX10 11).1 (TX10 11).2.1 (TX10 11).2.2.1), (928, Cond.fieldLink RX10 39 (TX10 12).1 (TX10 12).2.1 (TX10 12).2.2.1), (930, Cond.fieldLink RX10 42 (TX10 14).1 (TX10 14).2.1 (TX10 14).2.2.1), (932, Cond.fieldLink RX10 45 (TX10 16).1 (TX10 16).2.1 (TX10 16).2.2.1), (940, Cond.fieldLink RX10 48 (TX10 24).1 (TX10 24).2.1 (TX10 24).2.2.1), (916, Cond.fieldLink RX10 7 (TX10 0).1 (TX10 0).2.1 (TX10 0).2.2.1), (921, Cond.fieldLink RX10 70 (TX10 5).1 (TX10 5).2.1 (TX10 5).2.2.1), (929, Cond.fieldLink RX10 73 (TX10 13).1 (TX10 13).2.1 (TX10 13).2.2.1), (931, Cond.fieldLink RX10 76 (TX10 15).1 (TX10 15).2.1 (TX10 15).2.2.1), (933, Cond.fieldLink RX10 79 (TX10 17).1 (TX10 17).2.1 (TX10 17).2.2.1), (926, Cond.fieldLink RX10 85 (TX10 10).1 (TX10 10).2.1 (TX10 10).2.2.1), (934, Cond.fieldLink RX10 89 (TX10 18).1 (TX10 18).2.1 (TX10 18).2.2.1), (935, Cond.fieldLink RX10 96 (TX10 19).1 (TX10 19).2.1 (TX10 19).2.2.1), (936, Cond.fieldLink RX10 99 (TX10 20).1 (TX10 20).2.1 (TX10 20).2.2.1), (221, Cond.fieldLink RX1 7 (TX1 0).1 (TX1 0).2.1 (TX1 0).2.2.1), (237, Cond.fieldLink RX2 15 (TX2 1).1 (TX2 1).2.1 (TX2 1).2.2.1), (238, Cond.fieldLink RX2 21 (TX2 2).1 (TX2 2).2.1 (TX2 2).2.2.1), (235, Cond.fieldLink RX2 24 (TX2 0).1 (TX2 0).2.1 (TX2 0).2.2.1), (175, Cond.fieldLink RX3 15 (TX3 4).1 (TX3 4).2.1 (TX3 4).2.2.1), (176, Cond.fieldLink RX3 18 (TX3 5).1 (TX3 5).2.1 (TX3 5).2.2.1), (177, Cond.fieldLink RX3 21 (TX3 6).1 (TX3 6).2.1 (TX3 6).2.2.1), (129, Cond.fieldLink RX3 24 (TX6 0).1 (TX6 0).2.1 (TX6 0).2.2.1), (173, Cond.fieldLink RX3 36 (TX3 2).1 (TX3 2).2.1 (TX3 2).2.2.1), (169, Cond.fieldLink RX3 39 (TX3 0).1 (TX3 0).2.1 (TX3 0).2.2.1), (171, Cond.fieldLink RX3 42 (TX3 1).1 (TX3 1).2.1 (TX3 1).2.2.1), (174, Cond.fieldLink RX3 9 (TX3 3).1 (TX3 3).2.1 (TX3 3).2.2.1)]
set_option maxRecDepth 100000 in
theorem lkAa0 : ∀ q ∈ lkLa0, lw_tbl[q.1]? = some q.2 ∧ goodWord q.2 = true := by decide +kernel
def lkLa1 : List (Nat × Cond) := [(252, Cond.fieldLink RX5 15 (TX5 0).1 (TX5 0).2.1 (TX5 0).2.2.1), (253, Cond.fieldLink RX5 19 (TX5 1).1 (TX5 1).2.1 (TX5 1).2.2.1), (254, Cond.fieldLink RX5 9 (TX5 2).1 (TX5 2).2.1 (TX5 2).2.2.1), (140, Cond.fieldLink RX6 15 (TX6 5).1 (TX6 5).2.1 (TX6 5).2.2.1), (141, Cond.fieldLink RX6 18 (TX6 6).1 (TX6 6).2.1 (TX6 6).2.2.1), (142, Cond.fieldLink RX6 21 (TX6 7).1 (TX6 7).2.1 (TX6 7).2.2.1), (143, Cond.fieldLink RX6 24 (TX6 8).1 (TX6 8).2.1 (TX6 8).2.2.1), (128, Cond.fieldLink RX6 27 (TX6 0).1 (TX6 0).2.1 (TX6 0).2.2.1), (132, Cond.fieldLink RX6 31 (TX6 1).1 (TX6 1).2.1 (TX6 1).2.2.1), (135, Cond.fieldLink RX6 34 (TX6 2).1 (TX6 2).2.1 (TX6 2).2.2.1), (138, Cond.fieldLink RX6 37 (TX6 3).1 (TX6 3).2.1 (TX6 3).2.2.1), (139, Cond.fieldLink RX6 9 (TX6 4).1 (TX6 4).2.1 (TX6 4).2.2.1), (205, Cond.fieldLink RX7 11 (TX7 2).1 (TX7 2).2.1 (TX7 2).2.2.1), (202, Cond.fieldLink RX7 18 (TX7 0).1 (TX7 0).2.1 (TX7 0).2.2.1), (204, Cond.fieldLink RX7 22 (TX7 1).1 (TX7 1).2.1 (TX7 1).2.2.1), (137, Cond.fieldLink RX8 102 (TX6 2).1 (TX6 2).2.1 (TX6 2).2.2.1), (107, Cond.fieldLink RX8 15 (TX8 5).1 (TX8 5).2.1 (TX8 5).2.2.1), (99, Cond.fieldLink RX8 19 (TX8 0).1 (TX8 0).2.1 (TX8 0).2.2.1), (105, Cond.fieldLink RX8 27 (TX8 3).1 (TX8 3).2.1 (TX8 3).2.2.1), (101, Cond.fieldLink RX8 30 (TX8 1).1 (TX8 1).2.1 (TX8 1).2.2.1), (131, Cond.fieldLink RX8 64 (TX6 0).1 (TX6 0).2.1 (TX6 0).2.2.1), (106, Cond.fieldLink RX8 82 (TX8 4).1 (TX8 4).2.1 (TX8 4).2.2.1), (103, Cond.fieldLink RX8 9 (TX8 2).1 (TX8 2).2.1 (TX8 2).2.2.1), (134, Cond.fieldLink RX8 96 (TX6 1).1 (TX6 1).2.1 (TX6 1).2.2.1), (298, Cond.fieldLink RX9 10 (TX9 0).1 (TX9 0).2.1 (TX9 0).2.2.1), (102, Cond.fieldLink RX9 100 (TX8 1).1 (TX8 1).2.1 (TX8 1).2.2.1), (287, Cond.fieldLink RX9 113 (TX4 0).1 (TX4 0).2.1 (TX4 0).2.2.1), (130, Cond.fieldLink RX9 117 (TX6 0).1 (TX6 0).2.1 (TX6 0).2.2.1), (104, Cond.fieldLink RX9 120 (TX8 2).1 (TX8 2).2.1 (TX8 2).2.2.1), (133, Cond.fieldLink RX9 123 (TX6 1).1 (TX6 1).2.1 (TX6 1).2.2.1), (136, Cond.fieldLink RX9 126 (TX6 2).1 (TX6 2).2.1 (TX6 2).2.2.1), (172, Cond.fieldLink RX9 129 (TX3 1).1 (TX3 1).2.1 (TX3 1).2.2.1), (170, Cond.fieldLink RX9 132 (TX3 0).1 (TX3 0).2.1 (TX3 0).2.2.1), (236, Cond.fieldLink RX9 145 (TX2 0).1 (TX2 0).2.1 (TX2 0).2.2.1), (203, Cond.fieldLink RX9 146 (TX7 0).1 (TX7 0).2.1 (TX7 0).2.2.1), (299, Cond.fieldLink RX9 19 (TX9 1).1 (TX9 1).2.1 (TX9 1).2.2.1), (300, Cond.fieldLink RX9 23 (TX9 2).1 (TX9 2).2.1 (TX9 2).2.2.1), (301, Cond.fieldLink RX9 29 (TX9 3).1 (TX9 3).2.1 (TX9 3).2.2.1), (222, Cond.fieldLink RX9 292 (TX1 0).1 (TX1 0).2.1 (TX1 0).2.2.1), (290, Cond.fieldLink RX9 299 (TX4 2).1 (TX4 2).2.1 (TX4 2).2.2.1)]
set_option maxRecDepth 100000 in
theorem lkAa1 : ∀ q ∈ lkLa1, lw_tbl[q.1]? = some q.2 ∧ goodWord q.2 = true := by decide +kernel
def lkLa2 : List (Nat × Cond) := [(288, Cond.fieldLink RX9 305 (TX4 1).1 (TX4 1).2.1 (TX4 1).2.2.1), (302, Cond.fieldLink RX9 33 (TX9 4).1 (TX9 4).2.1 (TX9 4).2.2.1), (830, Cond.fieldLink RX9 346 "VoiceWills" "ORDERS_OF" "[I"), (303, Cond.fieldLink RX9 39 (TX9 5).1 (TX9 5).2.1 (TX9 5).2.2.1), (304, Cond.fieldLink RX9 45 (TX9 6).1 (TX9 6).2.1 (TX9 6).2.2.1), (305, Cond.fieldLink RX9 52 (TX9 7).1 (TX9 7).2.1 (TX9 7).2.2.1), (306, Cond.fieldLink RX9 61 (TX9 8).1 (TX9 8).2.1 (TX9 8).2.2.1), (307, Cond.fieldLink RX9 65 (TX9 9).1 (TX9 9).2.1 (TX9 9).2.2.1), (308, Cond.fieldLink RX9 68 (TX9 10).1 (TX9 10).2.1 (TX9 10).2.2.1), (309, Cond.fieldLink RX9 74 (TX9 11).1 (TX9 11).2.1 (TX9 11).2.2.1), (310, Cond.fieldLink RX9 81 (TX9 12).1 (TX9 12).2.1 (TX9 12).2.2.1), (100, Cond.fieldLink RX9 91 (TX8 0).1 (TX8 0).2.1 (TX8 0).2.2.1), (580, Cond.constant RJ6 264 (65536)), (707, Cond.constant RJ6 265 (1431655765)), (708, Cond.constant RJ6 266 (858993459)), (709, Cond.constant RJ6 267 (252645135)), (1012, Cond.constantLong RX10 108 (48)), (1013, Cond.constantLong RX10 110 (57)), (1144, Cond.constantLong RX10 153 (6)), (1085, Cond.constant RX10 182 (-1000000001)), (1102, Cond.constant RX10 187 (-1000000003)), (1162, Cond.constantLong RX10 215 (1103515245)), (1163, Cond.constantLong RX10 217 (12345)), (1164, Cond.constantLong RX10 219 (2147483648)), (1165, Cond.constantLong RX10 221 (65536)), (1157, Cond.constantLong RX10 223 (60)), (1224, Cond.constant RX10 254 (-1000000)), (1229, Cond.constantLong RX10 262 (99)), (1238, Cond.constantLong RX10 267 (100)), (1239, Cond.constantLong RX10 269 (1000000000)), (904, Cond.constantLong RX10 58 (3)), (905, Cond.constantLong RX10 60 (23)), (997, Cond.constantLong RX10 82 (255)), (998, Cond.constant RX10 84 (-1000000002)), (999, Cond.constant RX10 88 (-1000000004)), (633, Cond.constantLong RX1 13 (1103515245)), (634, Cond.constantLong RX1 15 (12345)), (635, Cond.constantLong RX1 17 (2147483648)), (636, Cond.constant RX1 19 (65536)), (657, Cond.constant RX5 25 (1000000000))]
set_option maxRecDepth 100000 in
theorem lkAa2 : ∀ q ∈ lkLa2, lw_tbl[q.1]? = some q.2 ∧ goodWord q.2 = true := by decide +kernel
def lkLa3 : List (Nat × Cond) := [(507, Cond.constant RX9 150 (-1000000001)), (555, Cond.constant RX9 179 (-1000000003)), (777, Cond.constantLong RX9 259 (1000000000)), (778, Cond.constantLong RX9 261 (100)), (342, Cond.constant RX9 86 (-1000000002)), (347, Cond.constant RX9 95 (-1000000004)), (722, Cond.methodLink RX0 23 yX0_suitedFor), (735, Cond.methodLink RX0 27 yX0_mostFrom), (749, Cond.methodLink RX0 31 yX0_leastSinger), (725, Cond.methodLink RX0 34 yX3_lives), (726, Cond.methodLink RX0 40 yX3_voiceOf), (727, Cond.methodLink RX0 44 yX6_suits), (739, Cond.methodLink RX0 50 yX0_sungFrom), (743, Cond.methodLink RX0 53 yX0_isFree), (748, Cond.methodLink RX0 57 yJ9_max_7cf53), (1004, Cond.methodLink RX10 115 yX10_step), (1022, Cond.methodLink RX10 118 yX10_fails), (1026, Cond.methodLink RX10 122 yX10_number), (1030, Cond.methodLink RX10 126 yX10_ends), (1038, Cond.methodLink RX10 130 yX10_isTold), (1042, Cond.methodLink RX10 134 yX10_isIn), (1018, Cond.methodLink RX10 138 yX10_readsPerson), (1034, Cond.methodLink RX10 141 yX10_readsWill), (1045, Cond.methodLink RX10 144 yX10_readsDoor), (1049, Cond.methodLink RX10 147 yX10_readsParts), (1014, Cond.methodLink RX10 150 yX10_readsClause), (1111, Cond.methodLink RX10 155 yX10_lives), (1114, Cond.methodLink RX10 159 yX10_leastMute), (1118, Cond.methodLink RX10 163 yX10_gets), (1065, Cond.methodLink RX10 167 yX10_isAlive), (1073, Cond.methodLink RX10 170 yX10_allVoices), (1061, Cond.methodLink RX10 173 yX10_usesNone), (1069, Cond.methodLink RX10 176 yX10_lost), (1081, Cond.methodLink RX10 179 yX10_isPerson), (1086, Cond.methodLink RX10 183 yX10_openTo), (1103, Cond.methodLink RX10 188 yX10_remember), (1107, Cond.methodLink RX10 191 yX10_dies), (1134, Cond.methodLink RX10 195 yX10_leastOf), (1126, Cond.methodLink RX10 198 yX10_maySell), (1130, Cond.methodLink RX10 201 yX10_sells)]
set_option maxRecDepth 100000 in
theorem lkAa3 : ∀ q ∈ lkLa3, lw_tbl[q.1]? = some q.2 ∧ goodWord q.2 = true := by decide +kernel
def lkLa4 : List (Nat × Cond) := [(1141, Cond.methodLink RX10 205 yX10_isVoice), (1149, Cond.methodLink RX10 208 yX10_isHeir), (1158, Cond.methodLink RX10 225 yX10_draw), (1174, Cond.methodLink RX10 228 yX10_isOrder), (1178, Cond.methodLink RX10 231 yX10_layAside), (1182, Cond.methodLink RX10 234 yX10_allDie), (1201, Cond.methodLink RX10 238 yX10_heirOf), (1194, Cond.methodLink RX10 241 yX10_bits), (1197, Cond.methodLink RX10 244 yX10_canBe), (1221, Cond.methodLink RX10 248 yX10_abs), (1217, Cond.methodLink RX10 251 yX10_maySing), (1213, Cond.methodLink RX10 255 yX10_sungBy), (1209, Cond.methodLink RX10 259 yX10_layTable), (1234, Cond.methodLink RX10 264 yX10_isSet), (1248, Cond.methodLink RX10 271 yX10_voices), (1260, Cond.methodLink RX10 274 yX10_isUse), (1267, Cond.methodLink RX10 277 yX10_isSo), (901, Cond.methodLink RX10 51 yX10_blank), (909, Cond.methodLink RX10 55 yX10_begins), (906, Cond.methodLink RX10 62 yX10_in), (913, Cond.methodLink RX10 66 yX10_copies), (1008, Cond.methodLink RX10 92 yX10_here), (850, Cond.methodLink RX2 28 yX3_voiceOf), (447, Cond.methodLink RX3 30 yJ9_min_7cf53), (450, Cond.methodLink RX3 45 yX6_hasVoice), (458, Cond.methodLink RX3 49 yX6_firstToldHeir), (462, Cond.methodLink RX3 53 yX6_secondToldHeir), (512, Cond.methodLink RX3 56 yX3_isOne), (495, Cond.methodLink RX3 59 yX3_lives), (569, Cond.methodLink RX3 69 yX3_firstAlive), (581, Cond.methodLink RX3 72 yX3_give), (573, Cond.methodLink RX3 76 yX3_silent), (574, Cond.methodLink RX3 80 yX3_leastOf), (577, Cond.methodLink RX3 83 yJ6_numberOfTrailingZeros_0f7a4), (598, Cond.methodLink RX3 88 yX3_canHandOver), (653, Cond.methodLink RX5 22 yX5_empty), (658, Cond.methodLink RX5 26 yX3_lives), (659, Cond.methodLink RX5 32 yX5_holds), (664, Cond.methodLink RX5 35 yX5_add), (840, Cond.methodLink RX5 39 yJ6_bitCount_0f7a4)]
set_option maxRecDepth 100000 in
theorem lkAa4 : ∀ q ∈ lkLa4, lw_tbl[q.1]? = some q.2 ∧ goodWord q.2 = true := by decide +kernel
def lkLa5 : List (Nat × Cond) := [(842, Cond.methodLink RX5 48 yJ9_max_7cf53), (843, Cond.methodLink RX5 54 yX5_memberAt), (677, Cond.methodLink RX5 61 yX3_bury), (426, Cond.methodLink RX6 40 yX6_hasPerson), (454, Cond.methodLink RX6 44 yX6_rangeOf), (550, Cond.methodLink RX6 52 yX6_hasDoor), (490, Cond.methodLink RX6 55 yX6_hasVoice), (731, Cond.methodLink RX6 58 yX6_hasPart), (732, Cond.methodLink RX6 61 yJ9_abs_0f7a4), (560, Cond.methodLink RX7 25 yX3_copy), (564, Cond.methodLink RX7 29 yJ9_min_7cf53), (439, Cond.methodLink RX8 105 yX6_addPart), (395, Cond.methodLink RX8 108 yX8_isNext), (388, Cond.methodLink RX8 111 yX8_isFigure), (356, Cond.methodLink RX8 22 yX6_empty), (360, Cond.methodLink RX8 33 yX8_skipBlanks), (364, Cond.methodLink RX8 36 yX8_isSound), (368, Cond.methodLink RX8 40 yX8_readClause), (372, Cond.methodLink RX8 44 yX8_letterHere), (376, Cond.methodLink RX8 48 yX8_readPerson), (403, Cond.methodLink RX8 51 yX8_readWill), (427, Cond.methodLink RX8 54 yX8_readDoor), (435, Cond.methodLink RX8 57 yX8_readChoir), (380, Cond.methodLink RX8 60 yX8_blame), (384, Cond.methodLink RX8 67 yX8_readNumber), (391, Cond.methodLink RX8 71 yX8_readSign), (399, Cond.methodLink RX8 75 yX6_addPerson), (407, Cond.methodLink RX8 79 yX6_hasWill), (414, Cond.methodLink RX8 85 yX8_readHeir), (422, Cond.methodLink RX8 89 yX6_addWill), (418, Cond.methodLink RX8 93 yX6_hasPerson), (431, Cond.methodLink RX8 99 yX6_addDoor), (443, Cond.methodLink RX9 103 yX3_begin), (466, Cond.methodLink RX9 107 yX2_clear), (470, Cond.methodLink RX9 110 yX7_forget), (482, Cond.methodLink RX9 135 yX3_silent), (486, Cond.methodLink RX9 139 yX6_voices), (491, Cond.methodLink RX9 142 yX3_held), (506, Cond.methodLink RX9 147 yX6_hasPerson), (508, Cond.methodLink RX9 151 yX3_voiceOf)]
set_option maxRecDepth 100000 in
theorem lkAa5 : ∀ q ∈ lkLa5, lw_tbl[q.1]? = some q.2 ∧ goodWord q.2 = true := by decide +kernel
def lkLa6 : List (Nat × Cond) := [(516, Cond.methodLink RX9 155 yX3_jarOf), (520, Cond.methodLink RX9 158 yX3_firstHeir), (524, Cond.methodLink RX9 161 yX3_secondHeir), (528, Cond.methodLink RX9 164 yX6_openTo), (532, Cond.methodLink RX9 167 yX3_lives), (537, Cond.methodLink RX9 170 yX6_rangeOf), (542, Cond.methodLink RX9 173 yX6_hasDoor), (546, Cond.methodLink RX9 176 yX6_knownBy), (556, Cond.methodLink RX9 180 yX7_remember), (565, Cond.methodLink RX9 184 yX3_bury), (590, Cond.methodLink RX9 187 yX3_canHandOver), (594, Cond.methodLink RX9 191 yX3_handOver), (603, Cond.methodLink RX9 195 yX9_isVoiceNumber), (604, Cond.methodLink RX9 198 yX9_isIn), (605, Cond.methodLink RX9 201 yX3_takeOut), (613, Cond.methodLink RX9 205 yX9_canInherit), (617, Cond.methodLink RX9 208 yX3_changeWill), (625, Cond.methodLink RX9 212 yX9_passYear), (641, Cond.methodLink RX9 215 yX7_bringBack), (649, Cond.methodLink RX9 219 yX5_readOrder), (668, Cond.methodLink RX9 223 yX9_tryLine), (682, Cond.methodLink RX9 226 yX3_userOf), (690, Cond.methodLink RX9 229 yX6_hasVoice), (691, Cond.methodLink RX9 232 yX9_fewestWills), (704, Cond.methodLink RX9 235 yJ6_bitCount_0f7a4), (714, Cond.methodLink RX9 240 yX6_hasPart), (718, Cond.methodLink RX9 243 yX0_give), (753, Cond.methodLink RX9 247 yX0_sung), (757, Cond.methodLink RX9 250 yX0_singerOf), (769, Cond.methodLink RX9 253 yX6_hasPersons), (773, Cond.methodLink RX9 256 yX3_allLive), (783, Cond.methodLink RX9 263 yX2_add), (791, Cond.methodLink RX9 265 yX9_voicesThatSpoke), (803, Cond.methodLink RX9 268 yX3_usersOf), (811, Cond.methodLink RX9 271 yJ9_max_7cf53), (816, Cond.methodLink RX9 276 yX9_isVoiceOrNone), (823, Cond.methodLink RX9 279 yX9_firstInAllOrders), (855, Cond.methodLink RX9 282 yX9_countOrders), (859, Cond.methodLink RX9 285 yX9_orderNumber), (846, Cond.methodLink RX9 288 yX2_firstUnlike)]
set_option maxRecDepth 100000 in
theorem lkAa6 : ∀ q ∈ lkLa6, lw_tbl[q.1]? = some q.2 ∧ goodWord q.2 = true := by decide +kernel
def lkLa7 : List (Nat × Cond) := [(887, Cond.methodLink RX9 295 yX9_imageOf), (672, Cond.methodLink RX9 302 yX3_copy), (629, Cond.methodLink RX9 308 yX1_next), (673, Cond.methodLink RX9 311 yX5_buryIn), (695, Cond.methodLink RX9 314 yX5_holds), (696, Cond.methodLink RX9 317 yX9_helpsAlone), (700, Cond.methodLink RX9 321 yX9_helpTogether), (795, Cond.methodLink RX9 325 yX2_subjectAt), (799, Cond.methodLink RX9 328 yX2_valueAt), (836, Cond.methodLink RX9 331 yX5_setOrder), (827, Cond.methodLink RX9 334 yX9_ordersOf), (832, Cond.methodLink RX9 337 yX9_fitsOrder), (863, Cond.methodLink RX9 340 yX5_asNumber), (851, Cond.methodLink RX9 343 yX5_firstOne), (343, Cond.methodLink RX9 87 yX8_add), (352, Cond.methodLink RX9 96 yX8_readInto), (705, Cond.static yJ6_bitCount_0f7a4), (84, Cond.initialized RJ6), (578, Cond.static yJ6_numberOfTrailingZeros_0f7a4), (733, Cond.static yJ9_abs_0f7a4), (79, Cond.initialized RJ9), (233, Cond.static yJ9_max_7cf53), (448, Cond.static yJ9_min_7cf53), (719, Cond.instanceMethod yX0_give), (720, Cond.selects RX0 yX0_give yX0_give), (81, Cond.initialized RX0), (745, Cond.instanceMethod yX0_isFree), (26, Cond.selects RX0 yX0_isFree yX0_isFree), (751, Cond.instanceMethod yX0_leastSinger), (27, Cond.selects RX0 yX0_leastSinger yX0_leastSinger), (737, Cond.instanceMethod yX0_mostFrom), (24, Cond.selects RX0 yX0_mostFrom yX0_mostFrom), (758, Cond.instanceMethod yX0_singerOf), (759, Cond.selects RX0 yX0_singerOf yX0_singerOf), (723, Cond.static yX0_suitedFor), (754, Cond.instanceMethod yX0_sung), (755, Cond.selects RX0 yX0_sung yX0_sung), (741, Cond.instanceMethod yX0_sungFrom), (25, Cond.selects RX0 yX0_sungFrom yX0_sungFrom), (1222, Cond.static yX10_abs)]
set_option maxRecDepth 100000 in
theorem lkAa7 : ∀ q ∈ lkLa7, lw_tbl[q.1]? = some q.2 ∧ goodWord q.2 = true := by decide +kernel
def lkLa8 : List (Nat × Cond) := [(83, Cond.initialized RX10), (1184, Cond.instanceMethod yX10_allDie), (62, Cond.selects RX10 yX10_allDie yX10_allDie), (1075, Cond.instanceMethod yX10_allVoices), (49, Cond.selects RX10 yX10_allVoices yX10_allVoices), (911, Cond.instanceMethod yX10_begins), (34, Cond.selects RX10 yX10_begins yX10_begins), (1195, Cond.static yX10_bits), (902, Cond.static yX10_blank), (1199, Cond.instanceMethod yX10_canBe), (63, Cond.selects RX10 yX10_canBe yX10_canBe), (914, Cond.static yX10_copies), (1109, Cond.instanceMethod yX10_dies), (53, Cond.selects RX10 yX10_dies yX10_dies), (1160, Cond.instanceMethod yX10_draw), (59, Cond.selects RX10 yX10_draw yX10_draw), (1032, Cond.instanceMethod yX10_ends), (41, Cond.selects RX10 yX10_ends yX10_ends), (1024, Cond.instanceMethod yX10_fails), (39, Cond.selects RX10 yX10_fails yX10_fails), (1120, Cond.instanceMethod yX10_gets), (55, Cond.selects RX10 yX10_gets yX10_gets), (1203, Cond.instanceMethod yX10_heirOf), (64, Cond.selects RX10 yX10_heirOf yX10_heirOf), (1010, Cond.instanceMethod yX10_here), (36, Cond.selects RX10 yX10_here yX10_here), (907, Cond.static yX10_in), (1067, Cond.instanceMethod yX10_isAlive), (47, Cond.selects RX10 yX10_isAlive yX10_isAlive), (1151, Cond.instanceMethod yX10_isHeir), (58, Cond.selects RX10 yX10_isHeir yX10_isHeir), (1043, Cond.static yX10_isIn), (1176, Cond.instanceMethod yX10_isOrder), (60, Cond.selects RX10 yX10_isOrder yX10_isOrder), (1083, Cond.instanceMethod yX10_isPerson), (50, Cond.selects RX10 yX10_isPerson yX10_isPerson), (1236, Cond.instanceMethod yX10_isSet), (68, Cond.selects RX10 yX10_isSet yX10_isSet), (1269, Cond.instanceMethod yX10_isSo), (70, Cond.selects RX10 yX10_isSo yX10_isSo)]
set_option maxRecDepth 100000 in
theorem lkAa8 : ∀ q ∈ lkLa8, lw_tbl[q.1]? = some q.2 ∧ goodWord q.2 = true := by decide +kernel
def lkLa9 : List (Nat × Cond) := [(1040, Cond.instanceMethod yX10_isTold), (43, Cond.selects RX10 yX10_isTold yX10_isTold), (1261, Cond.static yX10_isUse), (1142, Cond.static yX10_isVoice), (1180, Cond.instanceMethod yX10_layAside), (61, Cond.selects RX10 yX10_layAside yX10_layAside), (1211, Cond.instanceMethod yX10_layTable), (65, Cond.selects RX10 yX10_layTable yX10_layTable), (1116, Cond.instanceMethod yX10_leastMute), (54, Cond.selects RX10 yX10_leastMute yX10_leastMute), (1135, Cond.static yX10_leastOf), (1112, Cond.static yX10_lives), (1071, Cond.instanceMethod yX10_lost), (48, Cond.selects RX10 yX10_lost yX10_lost), (1128, Cond.instanceMethod yX10_maySell), (56, Cond.selects RX10 yX10_maySell yX10_maySell), (1219, Cond.instanceMethod yX10_maySing), (67, Cond.selects RX10 yX10_maySing yX10_maySing), (1028, Cond.instanceMethod yX10_number), (40, Cond.selects RX10 yX10_number yX10_number), (1088, Cond.instanceMethod yX10_openTo), (51, Cond.selects RX10 yX10_openTo yX10_openTo), (1016, Cond.instanceMethod yX10_readsClause), (37, Cond.selects RX10 yX10_readsClause yX10_readsClause), (1047, Cond.instanceMethod yX10_readsDoor), (44, Cond.selects RX10 yX10_readsDoor yX10_readsDoor), (1051, Cond.instanceMethod yX10_readsParts), (45, Cond.selects RX10 yX10_readsParts yX10_readsParts), (1020, Cond.instanceMethod yX10_readsPerson), (38, Cond.selects RX10 yX10_readsPerson yX10_readsPerson), (1036, Cond.instanceMethod yX10_readsWill), (42, Cond.selects RX10 yX10_readsWill yX10_readsWill), (1105, Cond.instanceMethod yX10_remember), (52, Cond.selects RX10 yX10_remember yX10_remember), (1132, Cond.instanceMethod yX10_sells), (57, Cond.selects RX10 yX10_sells yX10_sells), (1006, Cond.instanceMethod yX10_step), (35, Cond.selects RX10 yX10_step yX10_step), (1215, Cond.instanceMethod yX10_sungBy), (66, Cond.selects RX10 yX10_sungBy yX10_sungBy)]
set_option maxRecDepth 100000 in
theorem lkAa9 : ∀ q ∈ lkLa9, lw_tbl[q.1]? = some q.2 ∧ goodWord q.2 = true := by decide +kernel
def lkLa10 : List (Nat × Cond) := [(1063, Cond.instanceMethod yX10_usesNone), (46, Cond.selects RX10 yX10_usesNone yX10_usesNone), (1250, Cond.instanceMethod yX10_voices), (69, Cond.selects RX10 yX10_voices yX10_voices), (630, Cond.instanceMethod yX1_next), (631, Cond.selects RX1 yX1_next yX1_next), (77, Cond.initialized RX1), (784, Cond.instanceMethod yX2_add), (785, Cond.selects RX2 yX2_add yX2_add), (78, Cond.initialized RX2), (467, Cond.instanceMethod yX2_clear), (468, Cond.selects RX2 yX2_clear yX2_clear), (847, Cond.instanceMethod yX2_firstUnlike), (848, Cond.selects RX2 yX2_firstUnlike yX2_firstUnlike), (796, Cond.instanceMethod yX2_subjectAt), (797, Cond.selects RX2 yX2_subjectAt yX2_subjectAt), (800, Cond.instanceMethod yX2_valueAt), (801, Cond.selects RX2 yX2_valueAt yX2_valueAt), (774, Cond.instanceMethod yX3_allLive), (775, Cond.selects RX3 yX3_allLive yX3_allLive), (75, Cond.initialized RX3), (444, Cond.instanceMethod yX3_begin), (445, Cond.selects RX3 yX3_begin yX3_begin), (566, Cond.instanceMethod yX3_bury), (567, Cond.selects RX3 yX3_bury yX3_bury), (591, Cond.instanceMethod yX3_canHandOver), (592, Cond.selects RX3 yX3_canHandOver yX3_canHandOver), (618, Cond.instanceMethod yX3_changeWill), (619, Cond.selects RX3 yX3_changeWill yX3_changeWill), (561, Cond.instanceMethod yX3_copy), (562, Cond.selects RX3 yX3_copy yX3_copy), (571, Cond.instanceMethod yX3_firstAlive), (14, Cond.selects RX3 yX3_firstAlive yX3_firstAlive), (521, Cond.instanceMethod yX3_firstHeir), (522, Cond.selects RX3 yX3_firstHeir yX3_firstHeir), (583, Cond.instanceMethod yX3_give), (15, Cond.selects RX3 yX3_give yX3_give), (595, Cond.instanceMethod yX3_handOver), (596, Cond.selects RX3 yX3_handOver yX3_handOver), (492, Cond.instanceMethod yX3_held)]
set_option maxRecDepth 100000 in
theorem lkAa10 : ∀ q ∈ lkLa10, lw_tbl[q.1]? = some q.2 ∧ goodWord q.2 = true := by decide +kernel
def lkLa11 : List (Nat × Cond) := [(493, Cond.selects RX3 yX3_held yX3_held), (514, Cond.instanceMethod yX3_isOne), (13, Cond.selects RX3 yX3_isOne yX3_isOne), (517, Cond.instanceMethod yX3_jarOf), (518, Cond.selects RX3 yX3_jarOf yX3_jarOf), (575, Cond.static yX3_leastOf), (496, Cond.instanceMethod yX3_lives), (497, Cond.selects RX3 yX3_lives yX3_lives), (525, Cond.instanceMethod yX3_secondHeir), (526, Cond.selects RX3 yX3_secondHeir yX3_secondHeir), (483, Cond.instanceMethod yX3_silent), (484, Cond.selects RX3 yX3_silent yX3_silent), (606, Cond.instanceMethod yX3_takeOut), (607, Cond.selects RX3 yX3_takeOut yX3_takeOut), (683, Cond.instanceMethod yX3_userOf), (684, Cond.selects RX3 yX3_userOf yX3_userOf), (804, Cond.instanceMethod yX3_usersOf), (805, Cond.selects RX3 yX3_usersOf yX3_usersOf), (509, Cond.instanceMethod yX3_voiceOf), (510, Cond.selects RX3 yX3_voiceOf yX3_voiceOf), (666, Cond.instanceMethod yX5_add), (19, Cond.selects RX5 yX5_add yX5_add), (80, Cond.initialized RX5), (864, Cond.instanceMethod yX5_asNumber), (865, Cond.selects RX5 yX5_asNumber yX5_asNumber), (674, Cond.instanceMethod yX5_buryIn), (675, Cond.selects RX5 yX5_buryIn yX5_buryIn), (655, Cond.instanceMethod yX5_empty), (18, Cond.selects RX5 yX5_empty yX5_empty), (852, Cond.instanceMethod yX5_firstOne), (853, Cond.selects RX5 yX5_firstOne yX5_firstOne), (660, Cond.instanceMethod yX5_holds), (661, Cond.selects RX5 yX5_holds yX5_holds), (844, Cond.static yX5_memberAt), (650, Cond.instanceMethod yX5_readOrder), (651, Cond.selects RX5 yX5_readOrder yX5_readOrder), (837, Cond.instanceMethod yX5_setOrder), (838, Cond.selects RX5 yX5_setOrder yX5_setOrder), (432, Cond.instanceMethod yX6_addDoor), (433, Cond.selects RX6 yX6_addDoor yX6_addDoor)]
set_option maxRecDepth 100000 in
theorem lkAa11 : ∀ q ∈ lkLa11, lw_tbl[q.1]? = some q.2 ∧ goodWord q.2 = true := by decide +kernel
def lkLa12 : List (Nat × Cond) := [(74, Cond.initialized RX6), (440, Cond.instanceMethod yX6_addPart), (441, Cond.selects RX6 yX6_addPart yX6_addPart), (400, Cond.instanceMethod yX6_addPerson), (401, Cond.selects RX6 yX6_addPerson yX6_addPerson), (423, Cond.instanceMethod yX6_addWill), (424, Cond.selects RX6 yX6_addWill yX6_addWill), (357, Cond.instanceMethod yX6_empty), (358, Cond.selects RX6 yX6_empty yX6_empty), (459, Cond.instanceMethod yX6_firstToldHeir), (460, Cond.selects RX6 yX6_firstToldHeir yX6_firstToldHeir), (543, Cond.instanceMethod yX6_hasDoor), (544, Cond.selects RX6 yX6_hasDoor yX6_hasDoor), (715, Cond.instanceMethod yX6_hasPart), (716, Cond.selects RX6 yX6_hasPart yX6_hasPart), (419, Cond.instanceMethod yX6_hasPerson), (420, Cond.selects RX6 yX6_hasPerson yX6_hasPerson), (770, Cond.instanceMethod yX6_hasPersons), (771, Cond.selects RX6 yX6_hasPersons yX6_hasPersons), (451, Cond.instanceMethod yX6_hasVoice), (452, Cond.selects RX6 yX6_hasVoice yX6_hasVoice), (408, Cond.instanceMethod yX6_hasWill), (409, Cond.selects RX6 yX6_hasWill yX6_hasWill), (547, Cond.instanceMethod yX6_knownBy), (548, Cond.selects RX6 yX6_knownBy yX6_knownBy), (529, Cond.instanceMethod yX6_openTo), (530, Cond.selects RX6 yX6_openTo yX6_openTo), (455, Cond.instanceMethod yX6_rangeOf), (456, Cond.selects RX6 yX6_rangeOf yX6_rangeOf), (463, Cond.instanceMethod yX6_secondToldHeir), (464, Cond.selects RX6 yX6_secondToldHeir yX6_secondToldHeir), (728, Cond.instanceMethod yX6_suits), (729, Cond.selects RX6 yX6_suits yX6_suits), (487, Cond.instanceMethod yX6_voices), (488, Cond.selects RX6 yX6_voices yX6_voices), (642, Cond.instanceMethod yX7_bringBack), (643, Cond.selects RX7 yX7_bringBack yX7_bringBack), (76, Cond.initialized RX7), (471, Cond.instanceMethod yX7_forget), (472, Cond.selects RX7 yX7_forget yX7_forget)]
set_option maxRecDepth 100000 in
theorem lkAa12 : ∀ q ∈ lkLa12, lw_tbl[q.1]? = some q.2 ∧ goodWord q.2 = true := by decide +kernel
def lkLa13 : List (Nat × Cond) := [(557, Cond.instanceMethod yX7_remember), (558, Cond.selects RX7 yX7_remember yX7_remember), (344, Cond.instanceMethod yX8_add), (345, Cond.selects RX8 yX8_add yX8_add), (73, Cond.initialized RX8), (382, Cond.instanceMethod yX8_blame), (5, Cond.selects RX8 yX8_blame yX8_blame), (389, Cond.static yX8_isFigure), (397, Cond.instanceMethod yX8_isNext), (8, Cond.selects RX8 yX8_isNext yX8_isNext), (366, Cond.instanceMethod yX8_isSound), (1, Cond.selects RX8 yX8_isSound yX8_isSound), (374, Cond.instanceMethod yX8_letterHere), (3, Cond.selects RX8 yX8_letterHere yX8_letterHere), (437, Cond.instanceMethod yX8_readChoir), (12, Cond.selects RX8 yX8_readChoir yX8_readChoir), (370, Cond.instanceMethod yX8_readClause), (2, Cond.selects RX8 yX8_readClause yX8_readClause), (429, Cond.instanceMethod yX8_readDoor), (11, Cond.selects RX8 yX8_readDoor yX8_readDoor), (416, Cond.instanceMethod yX8_readHeir), (10, Cond.selects RX8 yX8_readHeir yX8_readHeir), (353, Cond.instanceMethod yX8_readInto), (354, Cond.selects RX8 yX8_readInto yX8_readInto), (386, Cond.instanceMethod yX8_readNumber), (6, Cond.selects RX8 yX8_readNumber yX8_readNumber), (378, Cond.instanceMethod yX8_readPerson), (4, Cond.selects RX8 yX8_readPerson yX8_readPerson), (393, Cond.instanceMethod yX8_readSign), (7, Cond.selects RX8 yX8_readSign yX8_readSign), (405, Cond.instanceMethod yX8_readWill), (9, Cond.selects RX8 yX8_readWill yX8_readWill), (362, Cond.instanceMethod yX8_skipBlanks), (0, Cond.selects RX8 yX8_skipBlanks yX8_skipBlanks), (615, Cond.instanceMethod yX9_canInherit), (16, Cond.selects RX9 yX9_canInherit yX9_canInherit), (72, Cond.initialized RX9), (857, Cond.instanceMethod yX9_countOrders), (31, Cond.selects RX9 yX9_countOrders yX9_countOrders), (693, Cond.instanceMethod yX9_fewestWills)]
set_option maxRecDepth 100000 in
theorem lkAa13 : ∀ q ∈ lkLa13, lw_tbl[q.1]? = some q.2 ∧ goodWord q.2 = true := by decide +kernel
def lkLa14 : List (Nat × Cond) := [(21, Cond.selects RX9 yX9_fewestWills yX9_fewestWills), (825, Cond.instanceMethod yX9_firstInAllOrders), (29, Cond.selects RX9 yX9_firstInAllOrders yX9_firstInAllOrders), (834, Cond.instanceMethod yX9_fitsOrder), (30, Cond.selects RX9 yX9_fitsOrder yX9_fitsOrder), (702, Cond.instanceMethod yX9_helpTogether), (23, Cond.selects RX9 yX9_helpTogether yX9_helpTogether), (698, Cond.instanceMethod yX9_helpsAlone), (22, Cond.selects RX9 yX9_helpsAlone yX9_helpsAlone), (889, Cond.instanceMethod yX9_imageOf), (33, Cond.selects RX9 yX9_imageOf yX9_imageOf), (412, Cond.static yX9_isIn), (500, Cond.static yX9_isVoiceNumber), (817, Cond.static yX9_isVoiceOrNone), (861, Cond.instanceMethod yX9_orderNumber), (32, Cond.selects RX9 yX9_orderNumber yX9_orderNumber), (828, Cond.static yX9_ordersOf), (627, Cond.instanceMethod yX9_passYear), (17, Cond.selects RX9 yX9_passYear yX9_passYear), (670, Cond.instanceMethod yX9_tryLine), (20, Cond.selects RX9 yX9_tryLine yX9_tryLine), (793, Cond.instanceMethod yX9_voicesThatSpoke), (28, Cond.selects RX9 yX9_voicesThatSpoke yX9_voicesThatSpoke)]
set_option maxRecDepth 100000 in
theorem lkAa14 : ∀ q ∈ lkLa14, lw_tbl[q.1]? = some q.2 ∧ goodWord q.2 = true := by decide +kernel
def lkMa0 : List (Nat × Cond) := [(841, Cond.fieldLinkNest RX5 45 "VoiceWills" "ORDERS_OF" "[I" "VoiceWills"), (747, Cond.methodLinkNest RX0 62 yX9_isIn "VoiceWills"), (499, Cond.methodLinkNest RX3 62 yX9_isVoiceNumber "VoiceWills"), (585, Cond.methodLinkNest RX3 65 yX9_isIn "VoiceWills"), (663, Cond.methodLinkNest RX5 57 yX9_isIn "VoiceWills"), (411, Cond.methodLinkNest RX6 48 yX9_isIn "VoiceWills")]
set_option maxRecDepth 100000 in
theorem lkBa0 : ∀ q ∈ lkMa0, lw_tbl[q.1]? = some q.2 ∧ mm_nw q.2 = true := by decide +kernel
theorem mm_inT {w : Cond} (h : w ∈ lw_tbl) (hg : goodWord w = true) : w ∈ mm_ok := List.mem_filter.mpr ⟨h, hg⟩
theorem tm_1 {w : Cond} (h : w ∈ tables_1_1) : w ∈ lw_tbl := List.mem_append_right _ (List.mem_append_left _ h)
theorem tm_2 {w : Cond} (h : w ∈ tables_1_2) : w ∈ lw_tbl := List.mem_append_right _ (List.mem_append_right _ (List.mem_append_left _ h))
theorem tm_3 {w : Cond} (h : w ∈ tables_1_3) : w ∈ lw_tbl := List.mem_append_right _ (List.mem_append_right _ (List.mem_append_right _ (List.mem_append_left _ h)))
theorem tm_4 {w : Cond} (h : w ∈ tables_1_4) : w ∈ lw_tbl := List.mem_append_right _ (List.mem_append_right _ (List.mem_append_right _ (List.mem_append_right _ (List.mem_append_left _ h))))
theorem tm_5 {w : Cond} (h : w ∈ tables_1_5) : w ∈ lw_tbl := List.mem_append_right _ (List.mem_append_right _ (List.mem_append_right _ (List.mem_append_right _ (List.mem_append_right _ (List.mem_append_left _ h)))))
theorem tm_6 {w : Cond} (h : w ∈ tables_1_6) : w ∈ lw_tbl := List.mem_append_right _ (List.mem_append_right _ (List.mem_append_right _ (List.mem_append_right _ (List.mem_append_right _ (List.mem_append_right _ (h))))))
set_option maxRecDepth 100000 in
theorem cw_a706 : Cond.code yJ6_bitCount_0f7a4 cJ6_bitCount_0f7a4 1 (some .int) ∈ mm_ok := mm_inT (tm_3 (List.mem_of_getElem? (i := 155) rfl)) rfl
set_option maxRecDepth 100000 in
theorem cw_a579 : Cond.code yJ6_numberOfTrailingZeros_0f7a4 cJ6_numberOfTrailingZeros_0f7a4 2 (some .int) ∈ mm_ok := mm_inT (tm_3 (List.mem_of_getElem? (i := 28) rfl)) rfl
set_option maxRecDepth 100000 in
theorem cw_a734 : Cond.code yJ9_abs_0f7a4 cJ9_abs_0f7a4 1 (some .int) ∈ mm_ok := mm_inT (tm_3 (List.mem_of_getElem? (i := 183) rfl)) rfl
set_option maxRecDepth 100000 in
theorem cw_a234 : Cond.code yJ9_max_7cf53 cJ9_max_7cf53 2 (some .int) ∈ mm_ok := mm_inT (tm_1 (List.mem_of_getElem? (i := 163) rfl)) rfl
set_option maxRecDepth 100000 in
theorem cw_a449 : Cond.code yJ9_min_7cf53 cJ9_min_7cf53 2 (some .int) ∈ mm_ok := mm_inT (tm_2 (List.mem_of_getElem? (i := 138) rfl)) rfl
set_option maxRecDepth 100000 in
theorem cw_a721 : Cond.code yX0_give cX0_give 5 none ∈ mm_ok := mm_inT (tm_3 (List.mem_of_getElem? (i := 170) rfl)) rfl
set_option maxRecDepth 100000 in
theorem cw_a746 : Cond.code yX0_isFree cX0_isFree 4 (some .boolean) ∈ mm_ok := mm_inT (tm_3 (List.mem_of_getElem? (i := 195) rfl)) rfl
set_option maxRecDepth 100000 in
theorem cw_a752 : Cond.code yX0_leastSinger cX0_leastSinger 4 (some .int) ∈ mm_ok := mm_inT (tm_3 (List.mem_of_getElem? (i := 201) rfl)) rfl
set_option maxRecDepth 100000 in
theorem cw_a738 : Cond.code yX0_mostFrom cX0_mostFrom 5 (some .int) ∈ mm_ok := mm_inT (tm_3 (List.mem_of_getElem? (i := 187) rfl)) rfl
set_option maxRecDepth 100000 in
theorem cw_a760 : Cond.code yX0_singerOf cX0_singerOf 2 (some .int) ∈ mm_ok := mm_inT (tm_3 (List.mem_of_getElem? (i := 209) rfl)) rfl
set_option maxRecDepth 100000 in
theorem cw_a724 : Cond.code yX0_suitedFor cX0_suitedFor 5 (some .int) ∈ mm_ok := mm_inT (tm_3 (List.mem_of_getElem? (i := 173) rfl)) rfl
set_option maxRecDepth 100000 in
theorem cw_a756 : Cond.code yX0_sung cX0_sung 1 (some .int) ∈ mm_ok := mm_inT (tm_3 (List.mem_of_getElem? (i := 205) rfl)) rfl
set_option maxRecDepth 100000 in
theorem cw_a742 : Cond.code yX0_sungFrom cX0_sungFrom 3 (some .int) ∈ mm_ok := mm_inT (tm_3 (List.mem_of_getElem? (i := 191) rfl)) rfl
set_option maxRecDepth 100000 in
theorem cw_a1223 : Cond.code yX10_abs cX10_abs 1 (some .int) ∈ mm_ok := mm_inT (tm_5 (List.mem_of_getElem? (i := 192) rfl)) rfl
set_option maxRecDepth 100000 in
theorem cw_a1185 : Cond.code yX10_allDie cX10_allDie 4 none ∈ mm_ok := mm_inT (tm_5 (List.mem_of_getElem? (i := 154) rfl)) rfl
set_option maxRecDepth 100000 in
theorem cw_a1076 : Cond.code yX10_allVoices cX10_allVoices 3 (some .int) ∈ mm_ok := mm_inT (tm_5 (List.mem_of_getElem? (i := 45) rfl)) rfl
set_option maxRecDepth 100000 in
theorem cw_a912 : Cond.code yX10_begins cX10_begins 2 none ∈ mm_ok := mm_inT (tm_4 (List.mem_of_getElem? (i := 121) rfl)) rfl
set_option maxRecDepth 100000 in
theorem cw_a1196 : Cond.code yX10_bits cX10_bits 3 (some .int) ∈ mm_ok := mm_inT (tm_5 (List.mem_of_getElem? (i := 165) rfl)) rfl
set_option maxRecDepth 100000 in
theorem cw_a903 : Cond.code yX10_blank cX10_blank 2 none ∈ mm_ok := mm_inT (tm_4 (List.mem_of_getElem? (i := 112) rfl)) rfl
set_option maxRecDepth 100000 in
theorem cw_a1200 : Cond.code yX10_canBe cX10_canBe 12 (some .boolean) ∈ mm_ok := mm_inT (tm_5 (List.mem_of_getElem? (i := 169) rfl)) rfl
set_option maxRecDepth 100000 in
theorem cw_a915 : Cond.code yX10_copies cX10_copies 6 none ∈ mm_ok := mm_inT (tm_4 (List.mem_of_getElem? (i := 124) rfl)) rfl
set_option maxRecDepth 100000 in
theorem cw_a1110 : Cond.code yX10_dies cX10_dies 8 (some .int) ∈ mm_ok := mm_inT (tm_5 (List.mem_of_getElem? (i := 79) rfl)) rfl
set_option maxRecDepth 100000 in
theorem cw_a1161 : Cond.code yX10_draw cX10_draw 2 (some .int) ∈ mm_ok := mm_inT (tm_5 (List.mem_of_getElem? (i := 130) rfl)) rfl
set_option maxRecDepth 100000 in
theorem cw_a1033 : Cond.code yX10_ends cX10_ends 1 (some .boolean) ∈ mm_ok := mm_inT (tm_5 (List.mem_of_getElem? (i := 2) rfl)) rfl
set_option maxRecDepth 100000 in
theorem cw_a1025 : Cond.code yX10_fails cX10_fails 2 (some .boolean) ∈ mm_ok := mm_inT (tm_4 (List.mem_of_getElem? (i := 234) rfl)) rfl
set_option maxRecDepth 100000 in
theorem cw_a1121 : Cond.code yX10_gets cX10_gets 4 none ∈ mm_ok := mm_inT (tm_5 (List.mem_of_getElem? (i := 90) rfl)) rfl
set_option maxRecDepth 100000 in
theorem cw_a1204 : Cond.code yX10_heirOf cX10_heirOf 2 (some .int) ∈ mm_ok := mm_inT (tm_5 (List.mem_of_getElem? (i := 173) rfl)) rfl
set_option maxRecDepth 100000 in
theorem cw_a1011 : Cond.code yX10_here cX10_here 1 (some .int) ∈ mm_ok := mm_inT (tm_4 (List.mem_of_getElem? (i := 220) rfl)) rfl
set_option maxRecDepth 100000 in
theorem cw_a908 : Cond.code yX10_in cX10_in 6 (some .boolean) ∈ mm_ok := mm_inT (tm_4 (List.mem_of_getElem? (i := 117) rfl)) rfl
set_option maxRecDepth 100000 in
theorem cw_a1068 : Cond.code yX10_isAlive cX10_isAlive 2 (some .boolean) ∈ mm_ok := mm_inT (tm_5 (List.mem_of_getElem? (i := 37) rfl)) rfl
set_option maxRecDepth 100000 in
theorem cw_a1152 : Cond.code yX10_isHeir cX10_isHeir 3 (some .boolean) ∈ mm_ok := mm_inT (tm_5 (List.mem_of_getElem? (i := 121) rfl)) rfl
set_option maxRecDepth 100000 in
theorem cw_a1044 : Cond.code yX10_isIn cX10_isIn 2 (some .boolean) ∈ mm_ok := mm_inT (tm_5 (List.mem_of_getElem? (i := 13) rfl)) rfl
set_option maxRecDepth 100000 in
theorem cw_a1177 : Cond.code yX10_isOrder cX10_isOrder 6 (some .boolean) ∈ mm_ok := mm_inT (tm_5 (List.mem_of_getElem? (i := 146) rfl)) rfl
set_option maxRecDepth 100000 in
theorem cw_a1084 : Cond.code yX10_isPerson cX10_isPerson 2 (some .boolean) ∈ mm_ok := mm_inT (tm_5 (List.mem_of_getElem? (i := 53) rfl)) rfl
set_option maxRecDepth 100000 in
theorem cw_a1237 : Cond.code yX10_isSet cX10_isSet 2 (some .boolean) ∈ mm_ok := mm_inT (tm_5 (List.mem_of_getElem? (i := 206) rfl)) rfl
set_option maxRecDepth 100000 in
theorem cw_a1270 : Cond.code yX10_isSo cX10_isSo 6 (some .boolean) ∈ mm_ok := mm_inT (tm_5 (List.mem_of_getElem? (i := 239) rfl)) rfl
set_option maxRecDepth 100000 in
theorem cw_a1041 : Cond.code yX10_isTold cX10_isTold 3 (some .boolean) ∈ mm_ok := mm_inT (tm_5 (List.mem_of_getElem? (i := 10) rfl)) rfl
set_option maxRecDepth 100000 in
theorem cw_a1262 : Cond.code yX10_isUse cX10_isUse 1 (some .boolean) ∈ mm_ok := mm_inT (tm_5 (List.mem_of_getElem? (i := 231) rfl)) rfl
set_option maxRecDepth 100000 in
theorem cw_a1143 : Cond.code yX10_isVoice cX10_isVoice 1 (some .boolean) ∈ mm_ok := mm_inT (tm_5 (List.mem_of_getElem? (i := 112) rfl)) rfl
set_option maxRecDepth 100000 in
theorem cw_a1181 : Cond.code yX10_layAside cX10_layAside 1 none ∈ mm_ok := mm_inT (tm_5 (List.mem_of_getElem? (i := 150) rfl)) rfl
set_option maxRecDepth 100000 in
theorem cw_a1212 : Cond.code yX10_layTable cX10_layTable 6 none ∈ mm_ok := mm_inT (tm_5 (List.mem_of_getElem? (i := 181) rfl)) rfl
set_option maxRecDepth 100000 in
theorem cw_a1117 : Cond.code yX10_leastMute cX10_leastMute 3 (some .int) ∈ mm_ok := mm_inT (tm_5 (List.mem_of_getElem? (i := 86) rfl)) rfl
set_option maxRecDepth 100000 in
theorem cw_a1136 : Cond.code yX10_leastOf cX10_leastOf 2 (some .int) ∈ mm_ok := mm_inT (tm_5 (List.mem_of_getElem? (i := 105) rfl)) rfl
set_option maxRecDepth 100000 in
theorem cw_a1113 : Cond.code yX10_lives cX10_lives 2 (some .boolean) ∈ mm_ok := mm_inT (tm_5 (List.mem_of_getElem? (i := 82) rfl)) rfl
set_option maxRecDepth 100000 in
theorem cw_a1072 : Cond.code yX10_lost cX10_lost 3 (some .int) ∈ mm_ok := mm_inT (tm_5 (List.mem_of_getElem? (i := 41) rfl)) rfl
set_option maxRecDepth 100000 in
theorem cw_a1129 : Cond.code yX10_maySell cX10_maySell 3 (some .boolean) ∈ mm_ok := mm_inT (tm_5 (List.mem_of_getElem? (i := 98) rfl)) rfl
set_option maxRecDepth 100000 in
theorem cw_a1220 : Cond.code yX10_maySing cX10_maySing 4 (some .boolean) ∈ mm_ok := mm_inT (tm_5 (List.mem_of_getElem? (i := 189) rfl)) rfl
set_option maxRecDepth 100000 in
theorem cw_a1029 : Cond.code yX10_number cX10_number 4 (some .boolean) ∈ mm_ok := mm_inT (tm_4 (List.mem_of_getElem? (i := 238) rfl)) rfl
set_option maxRecDepth 100000 in
theorem cw_a1089 : Cond.code yX10_openTo cX10_openTo 4 (some .int) ∈ mm_ok := mm_inT (tm_5 (List.mem_of_getElem? (i := 58) rfl)) rfl
set_option maxRecDepth 100000 in
theorem cw_a1017 : Cond.code yX10_readsClause cX10_readsClause 1 (some .boolean) ∈ mm_ok := mm_inT (tm_4 (List.mem_of_getElem? (i := 226) rfl)) rfl
set_option maxRecDepth 100000 in
theorem cw_a1048 : Cond.code yX10_readsDoor cX10_readsDoor 2 (some .boolean) ∈ mm_ok := mm_inT (tm_5 (List.mem_of_getElem? (i := 17) rfl)) rfl
set_option maxRecDepth 100000 in
theorem cw_a1052 : Cond.code yX10_readsParts cX10_readsParts 1 (some .boolean) ∈ mm_ok := mm_inT (tm_5 (List.mem_of_getElem? (i := 21) rfl)) rfl
set_option maxRecDepth 100000 in
theorem cw_a1021 : Cond.code yX10_readsPerson cX10_readsPerson 2 (some .boolean) ∈ mm_ok := mm_inT (tm_4 (List.mem_of_getElem? (i := 230) rfl)) rfl
set_option maxRecDepth 100000 in
theorem cw_a1037 : Cond.code yX10_readsWill cX10_readsWill 3 (some .boolean) ∈ mm_ok := mm_inT (tm_5 (List.mem_of_getElem? (i := 6) rfl)) rfl
set_option maxRecDepth 100000 in
theorem cw_a1106 : Cond.code yX10_remember cX10_remember 2 none ∈ mm_ok := mm_inT (tm_5 (List.mem_of_getElem? (i := 75) rfl)) rfl
set_option maxRecDepth 100000 in
theorem cw_a1133 : Cond.code yX10_sells cX10_sells 4 none ∈ mm_ok := mm_inT (tm_5 (List.mem_of_getElem? (i := 102) rfl)) rfl
set_option maxRecDepth 100000 in
theorem cw_a1007 : Cond.code yX10_step cX10_step 1 none ∈ mm_ok := mm_inT (tm_4 (List.mem_of_getElem? (i := 216) rfl)) rfl
set_option maxRecDepth 100000 in
theorem cw_a1216 : Cond.code yX10_sungBy cX10_sungBy 4 (some .int) ∈ mm_ok := mm_inT (tm_5 (List.mem_of_getElem? (i := 185) rfl)) rfl
set_option maxRecDepth 100000 in
theorem cw_a1064 : Cond.code yX10_usesNone cX10_usesNone 3 (some .int) ∈ mm_ok := mm_inT (tm_5 (List.mem_of_getElem? (i := 33) rfl)) rfl
set_option maxRecDepth 100000 in
theorem cw_a1251 : Cond.code yX10_voices cX10_voices 4 (some .int) ∈ mm_ok := mm_inT (tm_5 (List.mem_of_getElem? (i := 220) rfl)) rfl
set_option maxRecDepth 100000 in
theorem cw_a632 : Cond.code yX1_next cX1_next 2 (some .int) ∈ mm_ok := mm_inT (tm_3 (List.mem_of_getElem? (i := 81) rfl)) rfl
set_option maxRecDepth 100000 in
theorem cw_a786 : Cond.code yX2_add cX2_add 3 (some .boolean) ∈ mm_ok := mm_inT (tm_3 (List.mem_of_getElem? (i := 235) rfl)) rfl
set_option maxRecDepth 100000 in
theorem cw_a469 : Cond.code yX2_clear cX2_clear 1 none ∈ mm_ok := mm_inT (tm_2 (List.mem_of_getElem? (i := 158) rfl)) rfl
set_option maxRecDepth 100000 in
theorem cw_a849 : Cond.code yX2_firstUnlike cX2_firstUnlike 3 (some .int) ∈ mm_ok := mm_inT (tm_4 (List.mem_of_getElem? (i := 58) rfl)) rfl
set_option maxRecDepth 100000 in
theorem cw_a798 : Cond.code yX2_subjectAt cX2_subjectAt 2 (some .int) ∈ mm_ok := mm_inT (tm_4 (List.mem_of_getElem? (i := 7) rfl)) rfl
set_option maxRecDepth 100000 in
theorem cw_a802 : Cond.code yX2_valueAt cX2_valueAt 2 (some .int) ∈ mm_ok := mm_inT (tm_4 (List.mem_of_getElem? (i := 11) rfl)) rfl
set_option maxRecDepth 100000 in
theorem cw_a776 : Cond.code yX3_allLive cX3_allLive 2 (some .boolean) ∈ mm_ok := mm_inT (tm_3 (List.mem_of_getElem? (i := 225) rfl)) rfl
set_option maxRecDepth 100000 in
theorem cw_a446 : Cond.code yX3_begin cX3_begin 3 none ∈ mm_ok := mm_inT (tm_2 (List.mem_of_getElem? (i := 135) rfl)) rfl
set_option maxRecDepth 100000 in
theorem cw_a568 : Cond.code yX3_bury cX3_bury 6 (some .int) ∈ mm_ok := mm_inT (tm_3 (List.mem_of_getElem? (i := 17) rfl)) rfl
set_option maxRecDepth 100000 in
theorem cw_a593 : Cond.code yX3_canHandOver cX3_canHandOver 3 (some .boolean) ∈ mm_ok := mm_inT (tm_3 (List.mem_of_getElem? (i := 42) rfl)) rfl
set_option maxRecDepth 100000 in
theorem cw_a620 : Cond.code yX3_changeWill cX3_changeWill 4 none ∈ mm_ok := mm_inT (tm_3 (List.mem_of_getElem? (i := 69) rfl)) rfl
set_option maxRecDepth 100000 in
theorem cw_a563 : Cond.code yX3_copy cX3_copy 3 none ∈ mm_ok := mm_inT (tm_3 (List.mem_of_getElem? (i := 12) rfl)) rfl
set_option maxRecDepth 100000 in
theorem cw_a572 : Cond.code yX3_firstAlive cX3_firstAlive 3 (some .int) ∈ mm_ok := mm_inT (tm_3 (List.mem_of_getElem? (i := 21) rfl)) rfl
set_option maxRecDepth 100000 in
theorem cw_a523 : Cond.code yX3_firstHeir cX3_firstHeir 2 (some .int) ∈ mm_ok := mm_inT (tm_2 (List.mem_of_getElem? (i := 212) rfl)) rfl
set_option maxRecDepth 100000 in
theorem cw_a584 : Cond.code yX3_give cX3_give 3 none ∈ mm_ok := mm_inT (tm_3 (List.mem_of_getElem? (i := 33) rfl)) rfl
set_option maxRecDepth 100000 in
theorem cw_a597 : Cond.code yX3_handOver cX3_handOver 4 none ∈ mm_ok := mm_inT (tm_3 (List.mem_of_getElem? (i := 46) rfl)) rfl
set_option maxRecDepth 100000 in
theorem cw_a494 : Cond.code yX3_held cX3_held 3 (some .int) ∈ mm_ok := mm_inT (tm_2 (List.mem_of_getElem? (i := 183) rfl)) rfl
set_option maxRecDepth 100000 in
theorem cw_a515 : Cond.code yX3_isOne cX3_isOne 2 (some .boolean) ∈ mm_ok := mm_inT (tm_2 (List.mem_of_getElem? (i := 204) rfl)) rfl
set_option maxRecDepth 100000 in
theorem cw_a519 : Cond.code yX3_jarOf cX3_jarOf 2 (some .int) ∈ mm_ok := mm_inT (tm_2 (List.mem_of_getElem? (i := 208) rfl)) rfl
set_option maxRecDepth 100000 in
theorem cw_a576 : Cond.code yX3_leastOf cX3_leastOf 1 (some .int) ∈ mm_ok := mm_inT (tm_3 (List.mem_of_getElem? (i := 25) rfl)) rfl
set_option maxRecDepth 100000 in
theorem cw_a498 : Cond.code yX3_lives cX3_lives 2 (some .boolean) ∈ mm_ok := mm_inT (tm_2 (List.mem_of_getElem? (i := 187) rfl)) rfl
set_option maxRecDepth 100000 in
theorem cw_a527 : Cond.code yX3_secondHeir cX3_secondHeir 2 (some .int) ∈ mm_ok := mm_inT (tm_2 (List.mem_of_getElem? (i := 216) rfl)) rfl
set_option maxRecDepth 100000 in
theorem cw_a485 : Cond.code yX3_silent cX3_silent 3 (some .int) ∈ mm_ok := mm_inT (tm_2 (List.mem_of_getElem? (i := 174) rfl)) rfl
set_option maxRecDepth 100000 in
theorem cw_a608 : Cond.code yX3_takeOut cX3_takeOut 4 (some .int) ∈ mm_ok := mm_inT (tm_3 (List.mem_of_getElem? (i := 57) rfl)) rfl
set_option maxRecDepth 100000 in
theorem cw_a685 : Cond.code yX3_userOf cX3_userOf 3 (some .int) ∈ mm_ok := mm_inT (tm_3 (List.mem_of_getElem? (i := 134) rfl)) rfl
set_option maxRecDepth 100000 in
theorem cw_a806 : Cond.code yX3_usersOf cX3_usersOf 4 (some .int) ∈ mm_ok := mm_inT (tm_4 (List.mem_of_getElem? (i := 15) rfl)) rfl
set_option maxRecDepth 100000 in
theorem cw_a511 : Cond.code yX3_voiceOf cX3_voiceOf 2 (some .int) ∈ mm_ok := mm_inT (tm_2 (List.mem_of_getElem? (i := 200) rfl)) rfl
set_option maxRecDepth 100000 in
theorem cw_a667 : Cond.code yX5_add cX5_add 2 none ∈ mm_ok := mm_inT (tm_3 (List.mem_of_getElem? (i := 116) rfl)) rfl
set_option maxRecDepth 100000 in
theorem cw_a866 : Cond.code yX5_asNumber cX5_asNumber 3 (some .int) ∈ mm_ok := mm_inT (tm_4 (List.mem_of_getElem? (i := 75) rfl)) rfl
set_option maxRecDepth 100000 in
theorem cw_a676 : Cond.code yX5_buryIn cX5_buryIn 3 none ∈ mm_ok := mm_inT (tm_3 (List.mem_of_getElem? (i := 125) rfl)) rfl
set_option maxRecDepth 100000 in
theorem cw_a656 : Cond.code yX5_empty cX5_empty 1 none ∈ mm_ok := mm_inT (tm_3 (List.mem_of_getElem? (i := 105) rfl)) rfl
set_option maxRecDepth 100000 in
theorem cw_a854 : Cond.code yX5_firstOne cX5_firstOne 1 (some .int) ∈ mm_ok := mm_inT (tm_4 (List.mem_of_getElem? (i := 63) rfl)) rfl
set_option maxRecDepth 100000 in
theorem cw_a662 : Cond.code yX5_holds cX5_holds 2 (some .boolean) ∈ mm_ok := mm_inT (tm_3 (List.mem_of_getElem? (i := 111) rfl)) rfl
set_option maxRecDepth 100000 in
theorem cw_a845 : Cond.code yX5_memberAt cX5_memberAt 4 (some .int) ∈ mm_ok := mm_inT (tm_4 (List.mem_of_getElem? (i := 54) rfl)) rfl
set_option maxRecDepth 100000 in
theorem cw_a652 : Cond.code yX5_readOrder cX5_readOrder 6 (some .boolean) ∈ mm_ok := mm_inT (tm_3 (List.mem_of_getElem? (i := 101) rfl)) rfl
set_option maxRecDepth 100000 in
theorem cw_a839 : Cond.code yX5_setOrder cX5_setOrder 8 none ∈ mm_ok := mm_inT (tm_4 (List.mem_of_getElem? (i := 48) rfl)) rfl
set_option maxRecDepth 100000 in
theorem cw_a434 : Cond.code yX6_addDoor cX6_addDoor 2 none ∈ mm_ok := mm_inT (tm_2 (List.mem_of_getElem? (i := 123) rfl)) rfl
set_option maxRecDepth 100000 in
theorem cw_a442 : Cond.code yX6_addPart cX6_addPart 2 none ∈ mm_ok := mm_inT (tm_2 (List.mem_of_getElem? (i := 131) rfl)) rfl
set_option maxRecDepth 100000 in
theorem cw_a402 : Cond.code yX6_addPerson cX6_addPerson 2 none ∈ mm_ok := mm_inT (tm_2 (List.mem_of_getElem? (i := 91) rfl)) rfl
set_option maxRecDepth 100000 in
theorem cw_a425 : Cond.code yX6_addWill cX6_addWill 4 none ∈ mm_ok := mm_inT (tm_2 (List.mem_of_getElem? (i := 114) rfl)) rfl
set_option maxRecDepth 100000 in
theorem cw_a359 : Cond.code yX6_empty cX6_empty 1 none ∈ mm_ok := mm_inT (tm_2 (List.mem_of_getElem? (i := 48) rfl)) rfl
set_option maxRecDepth 100000 in
theorem cw_a461 : Cond.code yX6_firstToldHeir cX6_firstToldHeir 2 (some .int) ∈ mm_ok := mm_inT (tm_2 (List.mem_of_getElem? (i := 150) rfl)) rfl
set_option maxRecDepth 100000 in
theorem cw_a545 : Cond.code yX6_hasDoor cX6_hasDoor 2 (some .boolean) ∈ mm_ok := mm_inT (tm_2 (List.mem_of_getElem? (i := 234) rfl)) rfl
set_option maxRecDepth 100000 in
theorem cw_a717 : Cond.code yX6_hasPart cX6_hasPart 2 (some .boolean) ∈ mm_ok := mm_inT (tm_3 (List.mem_of_getElem? (i := 166) rfl)) rfl
set_option maxRecDepth 100000 in
theorem cw_a421 : Cond.code yX6_hasPerson cX6_hasPerson 2 (some .boolean) ∈ mm_ok := mm_inT (tm_2 (List.mem_of_getElem? (i := 110) rfl)) rfl
set_option maxRecDepth 100000 in
theorem cw_a772 : Cond.code yX6_hasPersons cX6_hasPersons 2 (some .boolean) ∈ mm_ok := mm_inT (tm_3 (List.mem_of_getElem? (i := 221) rfl)) rfl
set_option maxRecDepth 100000 in
theorem cw_a453 : Cond.code yX6_hasVoice cX6_hasVoice 2 (some .boolean) ∈ mm_ok := mm_inT (tm_2 (List.mem_of_getElem? (i := 142) rfl)) rfl
set_option maxRecDepth 100000 in
theorem cw_a410 : Cond.code yX6_hasWill cX6_hasWill 2 (some .boolean) ∈ mm_ok := mm_inT (tm_2 (List.mem_of_getElem? (i := 99) rfl)) rfl
set_option maxRecDepth 100000 in
theorem cw_a549 : Cond.code yX6_knownBy cX6_knownBy 2 (some .int) ∈ mm_ok := mm_inT (tm_2 (List.mem_of_getElem? (i := 238) rfl)) rfl
set_option maxRecDepth 100000 in
theorem cw_a531 : Cond.code yX6_openTo cX6_openTo 4 (some .int) ∈ mm_ok := mm_inT (tm_2 (List.mem_of_getElem? (i := 220) rfl)) rfl
set_option maxRecDepth 100000 in
theorem cw_a457 : Cond.code yX6_rangeOf cX6_rangeOf 2 (some .int) ∈ mm_ok := mm_inT (tm_2 (List.mem_of_getElem? (i := 146) rfl)) rfl
set_option maxRecDepth 100000 in
theorem cw_a465 : Cond.code yX6_secondToldHeir cX6_secondToldHeir 2 (some .int) ∈ mm_ok := mm_inT (tm_2 (List.mem_of_getElem? (i := 154) rfl)) rfl
set_option maxRecDepth 100000 in
theorem cw_a730 : Cond.code yX6_suits cX6_suits 3 (some .boolean) ∈ mm_ok := mm_inT (tm_3 (List.mem_of_getElem? (i := 179) rfl)) rfl
set_option maxRecDepth 100000 in
theorem cw_a489 : Cond.code yX6_voices cX6_voices 3 (some .int) ∈ mm_ok := mm_inT (tm_2 (List.mem_of_getElem? (i := 178) rfl)) rfl
set_option maxRecDepth 100000 in
theorem cw_a644 : Cond.code yX7_bringBack cX7_bringBack 2 (some .boolean) ∈ mm_ok := mm_inT (tm_3 (List.mem_of_getElem? (i := 93) rfl)) rfl
set_option maxRecDepth 100000 in
theorem cw_a473 : Cond.code yX7_forget cX7_forget 1 none ∈ mm_ok := mm_inT (tm_2 (List.mem_of_getElem? (i := 162) rfl)) rfl
set_option maxRecDepth 100000 in
theorem cw_a559 : Cond.code yX7_remember cX7_remember 2 none ∈ mm_ok := mm_inT (tm_3 (List.mem_of_getElem? (i := 8) rfl)) rfl
set_option maxRecDepth 100000 in
theorem cw_a346 : Cond.code yX8_add cX8_add 2 (some .boolean) ∈ mm_ok := mm_inT (tm_2 (List.mem_of_getElem? (i := 35) rfl)) rfl
set_option maxRecDepth 100000 in
theorem cw_a383 : Cond.code yX8_blame cX8_blame 3 none ∈ mm_ok := mm_inT (tm_2 (List.mem_of_getElem? (i := 72) rfl)) rfl
set_option maxRecDepth 100000 in
theorem cw_a390 : Cond.code yX8_isFigure cX8_isFigure 1 (some .boolean) ∈ mm_ok := mm_inT (tm_2 (List.mem_of_getElem? (i := 79) rfl)) rfl
set_option maxRecDepth 100000 in
theorem cw_a398 : Cond.code yX8_isNext cX8_isNext 2 (some .boolean) ∈ mm_ok := mm_inT (tm_2 (List.mem_of_getElem? (i := 87) rfl)) rfl
set_option maxRecDepth 100000 in
theorem cw_a367 : Cond.code yX8_isSound cX8_isSound 1 (some .boolean) ∈ mm_ok := mm_inT (tm_2 (List.mem_of_getElem? (i := 56) rfl)) rfl
set_option maxRecDepth 100000 in
theorem cw_a375 : Cond.code yX8_letterHere cX8_letterHere 1 (some .int) ∈ mm_ok := mm_inT (tm_2 (List.mem_of_getElem? (i := 64) rfl)) rfl
set_option maxRecDepth 100000 in
theorem cw_a438 : Cond.code yX8_readChoir cX8_readChoir 3 none ∈ mm_ok := mm_inT (tm_2 (List.mem_of_getElem? (i := 127) rfl)) rfl
set_option maxRecDepth 100000 in
theorem cw_a371 : Cond.code yX8_readClause cX8_readClause 2 none ∈ mm_ok := mm_inT (tm_2 (List.mem_of_getElem? (i := 60) rfl)) rfl
set_option maxRecDepth 100000 in
theorem cw_a430 : Cond.code yX8_readDoor cX8_readDoor 3 none ∈ mm_ok := mm_inT (tm_2 (List.mem_of_getElem? (i := 119) rfl)) rfl
set_option maxRecDepth 100000 in
theorem cw_a417 : Cond.code yX8_readHeir cX8_readHeir 4 (some .int) ∈ mm_ok := mm_inT (tm_2 (List.mem_of_getElem? (i := 106) rfl)) rfl
set_option maxRecDepth 100000 in
theorem cw_a355 : Cond.code yX8_readInto cX8_readInto 3 (some .boolean) ∈ mm_ok := mm_inT (tm_2 (List.mem_of_getElem? (i := 44) rfl)) rfl
set_option maxRecDepth 100000 in
theorem cw_a387 : Cond.code yX8_readNumber cX8_readNumber 4 (some .int) ∈ mm_ok := mm_inT (tm_2 (List.mem_of_getElem? (i := 76) rfl)) rfl
set_option maxRecDepth 100000 in
theorem cw_a379 : Cond.code yX8_readPerson cX8_readPerson 3 none ∈ mm_ok := mm_inT (tm_2 (List.mem_of_getElem? (i := 68) rfl)) rfl
set_option maxRecDepth 100000 in
theorem cw_a394 : Cond.code yX8_readSign cX8_readSign 2 (some .boolean) ∈ mm_ok := mm_inT (tm_2 (List.mem_of_getElem? (i := 83) rfl)) rfl
set_option maxRecDepth 100000 in
theorem cw_a406 : Cond.code yX8_readWill cX8_readWill 5 none ∈ mm_ok := mm_inT (tm_2 (List.mem_of_getElem? (i := 95) rfl)) rfl
set_option maxRecDepth 100000 in
theorem cw_a363 : Cond.code yX8_skipBlanks cX8_skipBlanks 1 none ∈ mm_ok := mm_inT (tm_2 (List.mem_of_getElem? (i := 52) rfl)) rfl
set_option maxRecDepth 100000 in
theorem cw_a616 : Cond.code yX9_canInherit cX9_canInherit 3 (some .boolean) ∈ mm_ok := mm_inT (tm_3 (List.mem_of_getElem? (i := 65) rfl)) rfl
set_option maxRecDepth 100000 in
theorem cw_a858 : Cond.code yX9_countOrders cX9_countOrders 4 (some .int) ∈ mm_ok := mm_inT (tm_4 (List.mem_of_getElem? (i := 67) rfl)) rfl
set_option maxRecDepth 100000 in
theorem cw_a694 : Cond.code yX9_fewestWills cX9_fewestWills 5 (some .int) ∈ mm_ok := mm_inT (tm_3 (List.mem_of_getElem? (i := 143) rfl)) rfl
set_option maxRecDepth 100000 in
theorem cw_a826 : Cond.code yX9_firstInAllOrders cX9_firstInAllOrders 4 (some .int) ∈ mm_ok := mm_inT (tm_4 (List.mem_of_getElem? (i := 35) rfl)) rfl
set_option maxRecDepth 100000 in
theorem cw_a835 : Cond.code yX9_fitsOrder cX9_fitsOrder 3 (some .boolean) ∈ mm_ok := mm_inT (tm_4 (List.mem_of_getElem? (i := 44) rfl)) rfl
set_option maxRecDepth 100000 in
theorem cw_a703 : Cond.code yX9_helpTogether cX9_helpTogether 7 (some .boolean) ∈ mm_ok := mm_inT (tm_3 (List.mem_of_getElem? (i := 152) rfl)) rfl
set_option maxRecDepth 100000 in
theorem cw_a699 : Cond.code yX9_helpsAlone cX9_helpsAlone 5 (some .boolean) ∈ mm_ok := mm_inT (tm_3 (List.mem_of_getElem? (i := 148) rfl)) rfl
set_option maxRecDepth 100000 in
theorem cw_a890 : Cond.code yX9_imageOf cX9_imageOf 2 (some (.object "VoiceWills$Image")) ∈ mm_ok := mm_inT (tm_4 (List.mem_of_getElem? (i := 99) rfl)) rfl
set_option maxRecDepth 100000 in
theorem cw_a413 : Cond.code yX9_isIn cX9_isIn 2 (some .boolean) ∈ mm_ok := mm_inT (tm_2 (List.mem_of_getElem? (i := 102) rfl)) rfl
set_option maxRecDepth 100000 in
theorem cw_a501 : Cond.code yX9_isVoiceNumber cX9_isVoiceNumber 1 (some .boolean) ∈ mm_ok := mm_inT (tm_2 (List.mem_of_getElem? (i := 190) rfl)) rfl
set_option maxRecDepth 100000 in
theorem cw_a818 : Cond.code yX9_isVoiceOrNone cX9_isVoiceOrNone 1 (some .boolean) ∈ mm_ok := mm_inT (tm_4 (List.mem_of_getElem? (i := 27) rfl)) rfl
set_option maxRecDepth 100000 in
theorem cw_a862 : Cond.code yX9_orderNumber cX9_orderNumber 5 (some .int) ∈ mm_ok := mm_inT (tm_4 (List.mem_of_getElem? (i := 71) rfl)) rfl
set_option maxRecDepth 100000 in
theorem cw_a829 : Cond.code yX9_ordersOf cX9_ordersOf 2 (some .int) ∈ mm_ok := mm_inT (tm_4 (List.mem_of_getElem? (i := 38) rfl)) rfl
set_option maxRecDepth 100000 in
theorem cw_a628 : Cond.code yX9_passYear cX9_passYear 3 none ∈ mm_ok := mm_inT (tm_3 (List.mem_of_getElem? (i := 77) rfl)) rfl
set_option maxRecDepth 100000 in
theorem cw_a671 : Cond.code yX9_tryLine cX9_tryLine 1 none ∈ mm_ok := mm_inT (tm_3 (List.mem_of_getElem? (i := 120) rfl)) rfl
set_option maxRecDepth 100000 in
theorem cw_a794 : Cond.code yX9_voicesThatSpoke cX9_voicesThatSpoke 4 (some .int) ∈ mm_ok := mm_inT (tm_4 (List.mem_of_getElem? (i := 3) rfl)) rfl
theorem L_0 : mm_bl (0) (0) (0 : Int64) := by decide
theorem L_1 : mm_bl (1) (1) (1 : Int64) := by decide
theorem L_100 : mm_bl (100) (100) (100 : Int64) := by decide
theorem L_1103515245 : mm_bl (1103515245) (1103515245) (1103515245 : Int64) := by decide
theorem L_12345 : mm_bl (12345) (12345) (12345 : Int64) := by decide
theorem L_2147483648 : mm_bl (2147483648) (2147483648) (2147483648 : Int64) := by decide
theorem L_23 : mm_bl (23) (23) (23 : Int64) := by decide
theorem L_255 : mm_bl (255) (255) (255 : Int64) := by decide
theorem L_3 : mm_bl (3) (3) (3 : Int64) := by decide
theorem L_48 : mm_bl (48) (48) (48 : Int64) := by decide
theorem L_57 : mm_bl (57) (57) (57 : Int64) := by decide
theorem L_6 : mm_bl (6) (6) (6 : Int64) := by decide
theorem L_60 : mm_bl (60) (60) (60 : Int64) := by decide
theorem L_65536 : mm_bl (65536) (65536) (65536 : Int64) := by decide
theorem L_99 : mm_bl (99) (99) (99 : Int64) := by decide
theorem cl_0 : (0 : Int32).toNatClampNeg = 0 := by decide
theorem cl_1 : (1 : Int32).toNatClampNeg = 1 := by decide
theorem cl_2 : (2 : Int32).toNatClampNeg = 2 := by decide
theorem cl_24 : (24 : Int32).toNatClampNeg = 24 := by decide
theorem cl_28 : (28 : Int32).toNatClampNeg = 28 := by decide
theorem cl_29 : (29 : Int32).toNatClampNeg = 29 := by decide
theorem fX0_15 : Cond.fieldLink RX0 15 (TX0 1).1 (TX0 1).2.1 (TX0 1).2.2.1 ∈ mm_ok := lk_of lkAa0 (i := 0) rfl
theorem fX0_20 : Cond.fieldLink RX0 20 (TX0 2).1 (TX0 2).2.1 (TX0 2).2.2.1 ∈ mm_ok := lk_of lkAa0 (i := 1) rfl
theorem fX0_9 : Cond.fieldLink RX0 9 (TX0 0).1 (TX0 0).2.1 (TX0 0).2.2.1 ∈ mm_ok := lk_of lkAa0 (i := 2) rfl
theorem fX10_102 : Cond.fieldLink RX10 102 (TX10 21).1 (TX10 21).2.1 (TX10 21).2.2.1 ∈ mm_ok := lk_of lkAa0 (i := 3) rfl
theorem fX10_105 : Cond.fieldLink RX10 105 (TX10 22).1 (TX10 22).2.1 (TX10 22).2.2.1 ∈ mm_ok := lk_of lkAa0 (i := 4) rfl
theorem fX10_112 : Cond.fieldLink RX10 112 (TX10 23).1 (TX10 23).2.1 (TX10 23).2.2.1 ∈ mm_ok := lk_of lkAa0 (i := 5) rfl
theorem fX10_13 : Cond.fieldLink RX10 13 (TX10 1).1 (TX10 1).2.1 (TX10 1).2.2.1 ∈ mm_ok := lk_of lkAa0 (i := 6) rfl
theorem fX10_16 : Cond.fieldLink RX10 16 (TX10 2).1 (TX10 2).2.1 (TX10 2).2.2.1 ∈ mm_ok := lk_of lkAa0 (i := 7) rfl
theorem fX10_19 : Cond.fieldLink RX10 19 (TX10 3).1 (TX10 3).2.1 (TX10 3).2.2.1 ∈ mm_ok := lk_of lkAa0 (i := 8) rfl
theorem fX10_211 : Cond.fieldLink RX10 211 (TX10 8).1 (TX10 8).2.1 (TX10 8).2.2.1 ∈ mm_ok := lk_of lkAa0 (i := 9) rfl
theorem fX10_22 : Cond.fieldLink RX10 22 (TX10 4).1 (TX10 4).2.1 (TX10 4).2.2.1 ∈ mm_ok := lk_of lkAa0 (i := 10) rfl
theorem fX10_25 : Cond.fieldLink RX10 25 (TX10 6).1 (TX10 6).2.1 (TX10 6).2.2.1 ∈ mm_ok := lk_of lkAa0 (i := 11) rfl
theorem fX10_28 : Cond.fieldLink RX10 28 (TX10 7).1 (TX10 7).2.1 (TX10 7).2.2.1 ∈ mm_ok := lk_of lkAa0 (i := 12) rfl
theorem fX10_32 : Cond.fieldLink RX10 32 (TX10 9).1 (TX10 9).2.1 (TX10 9).2.2.1 ∈ mm_ok := lk_of lkAa0 (i := 13) rfl
theorem fX10_35 : Cond.fieldLink RX10 35 (TX10 11).1 (TX10 11).2.1 (TX10 11).2.2.1 ∈ mm_ok := lk_of lkAa0 (i := 14) rfl
theorem fX10_39 : Cond.fieldLink RX10 39 (TX10 12).1 (TX10 12).2.1 (TX10 12).2.2.1 ∈ mm_ok := lk_of lkAa0 (i := 15) rfl
theorem fX10_42 : Cond.fieldLink RX10 42 (TX10 14).1 (TX10 14).2.1 (TX10 14).2.2.1 ∈ mm_ok := lk_of lkAa0 (i := 16) rfl
theorem fX10_45 : Cond.fieldLink RX10 45 (TX10 16).1 (TX10 16).2.1 (TX10 16).2.2.1 ∈ mm_ok := lk_of lkAa0 (i := 17) rfl
theorem fX10_48 : Cond.fieldLink RX10 48 (TX10 24).1 (TX10 24).2.1 (TX10 24).2.2.1 ∈ mm_ok := lk_of lkAa0 (i := 18) rfl
theorem fX10_7 : Cond.fieldLink RX10 7 (TX10 0).1 (TX10 0).2.1 (TX10 0).2.2.1 ∈ mm_ok := lk_of lkAa0 (i := 19) rfl
theorem fX10_70 : Cond.fieldLink RX10 70 (TX10 5).1 (TX10 5).2.1 (TX10 5).2.2.1 ∈ mm_ok := lk_of lkAa0 (i := 20) rfl
theorem fX10_73 : Cond.fieldLink RX10 73 (TX10 13).1 (TX10 13).2.1 (TX10 13).2.2.1 ∈ mm_ok := lk_of lkAa0 (i := 21) rfl
theorem fX10_76 : Cond.fieldLink RX10 76 (TX10 15).1 (TX10 15).2.1 (TX10 15).2.2.1 ∈ mm_ok := lk_of lkAa0 (i := 22) rfl
theorem fX10_79 : Cond.fieldLink RX10 79 (TX10 17).1 (TX10 17).2.1 (TX10 17).2.2.1 ∈ mm_ok := lk_of lkAa0 (i := 23) rfl
theorem fX10_85 : Cond.fieldLink RX10 85 (TX10 10).1 (TX10 10).2.1 (TX10 10).2.2.1 ∈ mm_ok := lk_of lkAa0 (i := 24) rfl
theorem fX10_89 : Cond.fieldLink RX10 89 (TX10 18).1 (TX10 18).2.1 (TX10 18).2.2.1 ∈ mm_ok := lk_of lkAa0 (i := 25) rfl
theorem fX10_96 : Cond.fieldLink RX10 96 (TX10 19).1 (TX10 19).2.1 (TX10 19).2.2.1 ∈ mm_ok := lk_of lkAa0 (i := 26) rfl
theorem fX10_99 : Cond.fieldLink RX10 99 (TX10 20).1 (TX10 20).2.1 (TX10 20).2.2.1 ∈ mm_ok := lk_of lkAa0 (i := 27) rfl
theorem fX1_7 : Cond.fieldLink RX1 7 (TX1 0).1 (TX1 0).2.1 (TX1 0).2.2.1 ∈ mm_ok := lk_of lkAa0 (i := 28) rfl
theorem fX2_15 : Cond.fieldLink RX2 15 (TX2 1).1 (TX2 1).2.1 (TX2 1).2.2.1 ∈ mm_ok := lk_of lkAa0 (i := 29) rfl
theorem fX2_21 : Cond.fieldLink RX2 21 (TX2 2).1 (TX2 2).2.1 (TX2 2).2.2.1 ∈ mm_ok := lk_of lkAa0 (i := 30) rfl
theorem fX2_24 : Cond.fieldLink RX2 24 (TX2 0).1 (TX2 0).2.1 (TX2 0).2.2.1 ∈ mm_ok := lk_of lkAa0 (i := 31) rfl
theorem fX3_15 : Cond.fieldLink RX3 15 (TX3 4).1 (TX3 4).2.1 (TX3 4).2.2.1 ∈ mm_ok := lk_of lkAa0 (i := 32) rfl
theorem fX3_18 : Cond.fieldLink RX3 18 (TX3 5).1 (TX3 5).2.1 (TX3 5).2.2.1 ∈ mm_ok := lk_of lkAa0 (i := 33) rfl
theorem fX3_21 : Cond.fieldLink RX3 21 (TX3 6).1 (TX3 6).2.1 (TX3 6).2.2.1 ∈ mm_ok := lk_of lkAa0 (i := 34) rfl
theorem fX3_24 : Cond.fieldLink RX3 24 (TX6 0).1 (TX6 0).2.1 (TX6 0).2.2.1 ∈ mm_ok := lk_of lkAa0 (i := 35) rfl
theorem fX3_36 : Cond.fieldLink RX3 36 (TX3 2).1 (TX3 2).2.1 (TX3 2).2.2.1 ∈ mm_ok := lk_of lkAa0 (i := 36) rfl
theorem fX3_39 : Cond.fieldLink RX3 39 (TX3 0).1 (TX3 0).2.1 (TX3 0).2.2.1 ∈ mm_ok := lk_of lkAa0 (i := 37) rfl
theorem fX3_42 : Cond.fieldLink RX3 42 (TX3 1).1 (TX3 1).2.1 (TX3 1).2.2.1 ∈ mm_ok := lk_of lkAa0 (i := 38) rfl
theorem fX3_9 : Cond.fieldLink RX3 9 (TX3 3).1 (TX3 3).2.1 (TX3 3).2.2.1 ∈ mm_ok := lk_of lkAa0 (i := 39) rfl
theorem fX5_15 : Cond.fieldLink RX5 15 (TX5 0).1 (TX5 0).2.1 (TX5 0).2.2.1 ∈ mm_ok := lk_of lkAa1 (i := 0) rfl
theorem fX5_19 : Cond.fieldLink RX5 19 (TX5 1).1 (TX5 1).2.1 (TX5 1).2.2.1 ∈ mm_ok := lk_of lkAa1 (i := 1) rfl
theorem fX5_45 : Cond.fieldLinkNest RX5 45 "VoiceWills" "ORDERS_OF" "[I" "VoiceWills" ∈ mm_nest := lk_ofN lkBa0 (i := 0) rfl
theorem fX5_9 : Cond.fieldLink RX5 9 (TX5 2).1 (TX5 2).2.1 (TX5 2).2.2.1 ∈ mm_ok := lk_of lkAa1 (i := 2) rfl
theorem fX6_15 : Cond.fieldLink RX6 15 (TX6 5).1 (TX6 5).2.1 (TX6 5).2.2.1 ∈ mm_ok := lk_of lkAa1 (i := 3) rfl
theorem fX6_18 : Cond.fieldLink RX6 18 (TX6 6).1 (TX6 6).2.1 (TX6 6).2.2.1 ∈ mm_ok := lk_of lkAa1 (i := 4) rfl
theorem fX6_21 : Cond.fieldLink RX6 21 (TX6 7).1 (TX6 7).2.1 (TX6 7).2.2.1 ∈ mm_ok := lk_of lkAa1 (i := 5) rfl
theorem fX6_24 : Cond.fieldLink RX6 24 (TX6 8).1 (TX6 8).2.1 (TX6 8).2.2.1 ∈ mm_ok := lk_of lkAa1 (i := 6) rfl
theorem fX6_27 : Cond.fieldLink RX6 27 (TX6 0).1 (TX6 0).2.1 (TX6 0).2.2.1 ∈ mm_ok := lk_of lkAa1 (i := 7) rfl
theorem fX6_31 : Cond.fieldLink RX6 31 (TX6 1).1 (TX6 1).2.1 (TX6 1).2.2.1 ∈ mm_ok := lk_of lkAa1 (i := 8) rfl
theorem fX6_34 : Cond.fieldLink RX6 34 (TX6 2).1 (TX6 2).2.1 (TX6 2).2.2.1 ∈ mm_ok := lk_of lkAa1 (i := 9) rfl
theorem fX6_37 : Cond.fieldLink RX6 37 (TX6 3).1 (TX6 3).2.1 (TX6 3).2.2.1 ∈ mm_ok := lk_of lkAa1 (i := 10) rfl
theorem fX6_9 : Cond.fieldLink RX6 9 (TX6 4).1 (TX6 4).2.1 (TX6 4).2.2.1 ∈ mm_ok := lk_of lkAa1 (i := 11) rfl
theorem fX7_11 : Cond.fieldLink RX7 11 (TX7 2).1 (TX7 2).2.1 (TX7 2).2.2.1 ∈ mm_ok := lk_of lkAa1 (i := 12) rfl
theorem fX7_18 : Cond.fieldLink RX7 18 (TX7 0).1 (TX7 0).2.1 (TX7 0).2.2.1 ∈ mm_ok := lk_of lkAa1 (i := 13) rfl
theorem fX7_22 : Cond.fieldLink RX7 22 (TX7 1).1 (TX7 1).2.1 (TX7 1).2.2.1 ∈ mm_ok := lk_of lkAa1 (i := 14) rfl
theorem fX8_102 : Cond.fieldLink RX8 102 (TX6 2).1 (TX6 2).2.1 (TX6 2).2.2.1 ∈ mm_ok := lk_of lkAa1 (i := 15) rfl
theorem fX8_15 : Cond.fieldLink RX8 15 (TX8 5).1 (TX8 5).2.1 (TX8 5).2.2.1 ∈ mm_ok := lk_of lkAa1 (i := 16) rfl
theorem fX8_19 : Cond.fieldLink RX8 19 (TX8 0).1 (TX8 0).2.1 (TX8 0).2.2.1 ∈ mm_ok := lk_of lkAa1 (i := 17) rfl
theorem fX8_27 : Cond.fieldLink RX8 27 (TX8 3).1 (TX8 3).2.1 (TX8 3).2.2.1 ∈ mm_ok := lk_of lkAa1 (i := 18) rfl
theorem fX8_30 : Cond.fieldLink RX8 30 (TX8 1).1 (TX8 1).2.1 (TX8 1).2.2.1 ∈ mm_ok := lk_of lkAa1 (i := 19) rfl
theorem fX8_64 : Cond.fieldLink RX8 64 (TX6 0).1 (TX6 0).2.1 (TX6 0).2.2.1 ∈ mm_ok := lk_of lkAa1 (i := 20) rfl
theorem fX8_82 : Cond.fieldLink RX8 82 (TX8 4).1 (TX8 4).2.1 (TX8 4).2.2.1 ∈ mm_ok := lk_of lkAa1 (i := 21) rfl
theorem fX8_9 : Cond.fieldLink RX8 9 (TX8 2).1 (TX8 2).2.1 (TX8 2).2.2.1 ∈ mm_ok := lk_of lkAa1 (i := 22) rfl
theorem fX8_96 : Cond.fieldLink RX8 96 (TX6 1).1 (TX6 1).2.1 (TX6 1).2.2.1 ∈ mm_ok := lk_of lkAa1 (i := 23) rfl
theorem fX9_10 : Cond.fieldLink RX9 10 (TX9 0).1 (TX9 0).2.1 (TX9 0).2.2.1 ∈ mm_ok := lk_of lkAa1 (i := 24) rfl
theorem fX9_100 : Cond.fieldLink RX9 100 (TX8 1).1 (TX8 1).2.1 (TX8 1).2.2.1 ∈ mm_ok := lk_of lkAa1 (i := 25) rfl
theorem fX9_113 : Cond.fieldLink RX9 113 (TX4 0).1 (TX4 0).2.1 (TX4 0).2.2.1 ∈ mm_ok := lk_of lkAa1 (i := 26) rfl
theorem fX9_117 : Cond.fieldLink RX9 117 (TX6 0).1 (TX6 0).2.1 (TX6 0).2.2.1 ∈ mm_ok := lk_of lkAa1 (i := 27) rfl
theorem fX9_120 : Cond.fieldLink RX9 120 (TX8 2).1 (TX8 2).2.1 (TX8 2).2.2.1 ∈ mm_ok := lk_of lkAa1 (i := 28) rfl
theorem fX9_123 : Cond.fieldLink RX9 123 (TX6 1).1 (TX6 1).2.1 (TX6 1).2.2.1 ∈ mm_ok := lk_of lkAa1 (i := 29) rfl
theorem fX9_126 : Cond.fieldLink RX9 126 (TX6 2).1 (TX6 2).2.1 (TX6 2).2.2.1 ∈ mm_ok := lk_of lkAa1 (i := 30) rfl
theorem fX9_129 : Cond.fieldLink RX9 129 (TX3 1).1 (TX3 1).2.1 (TX3 1).2.2.1 ∈ mm_ok := lk_of lkAa1 (i := 31) rfl
theorem fX9_132 : Cond.fieldLink RX9 132 (TX3 0).1 (TX3 0).2.1 (TX3 0).2.2.1 ∈ mm_ok := lk_of lkAa1 (i := 32) rfl
theorem fX9_145 : Cond.fieldLink RX9 145 (TX2 0).1 (TX2 0).2.1 (TX2 0).2.2.1 ∈ mm_ok := lk_of lkAa1 (i := 33) rfl
theorem fX9_146 : Cond.fieldLink RX9 146 (TX7 0).1 (TX7 0).2.1 (TX7 0).2.2.1 ∈ mm_ok := lk_of lkAa1 (i := 34) rfl
theorem fX9_19 : Cond.fieldLink RX9 19 (TX9 1).1 (TX9 1).2.1 (TX9 1).2.2.1 ∈ mm_ok := lk_of lkAa1 (i := 35) rfl
theorem fX9_23 : Cond.fieldLink RX9 23 (TX9 2).1 (TX9 2).2.1 (TX9 2).2.2.1 ∈ mm_ok := lk_of lkAa1 (i := 36) rfl
theorem fX9_29 : Cond.fieldLink RX9 29 (TX9 3).1 (TX9 3).2.1 (TX9 3).2.2.1 ∈ mm_ok := lk_of lkAa1 (i := 37) rfl
theorem fX9_292 : Cond.fieldLink RX9 292 (TX1 0).1 (TX1 0).2.1 (TX1 0).2.2.1 ∈ mm_ok := lk_of lkAa1 (i := 38) rfl
theorem fX9_299 : Cond.fieldLink RX9 299 (TX4 2).1 (TX4 2).2.1 (TX4 2).2.2.1 ∈ mm_ok := lk_of lkAa1 (i := 39) rfl
theorem fX9_305 : Cond.fieldLink RX9 305 (TX4 1).1 (TX4 1).2.1 (TX4 1).2.2.1 ∈ mm_ok := lk_of lkAa2 (i := 0) rfl
theorem fX9_33 : Cond.fieldLink RX9 33 (TX9 4).1 (TX9 4).2.1 (TX9 4).2.2.1 ∈ mm_ok := lk_of lkAa2 (i := 1) rfl
theorem fX9_346 : Cond.fieldLink RX9 346 "VoiceWills" "ORDERS_OF" "[I" ∈ mm_ok := lk_of lkAa2 (i := 2) rfl
theorem fX9_39 : Cond.fieldLink RX9 39 (TX9 5).1 (TX9 5).2.1 (TX9 5).2.2.1 ∈ mm_ok := lk_of lkAa2 (i := 3) rfl
theorem fX9_45 : Cond.fieldLink RX9 45 (TX9 6).1 (TX9 6).2.1 (TX9 6).2.2.1 ∈ mm_ok := lk_of lkAa2 (i := 4) rfl
theorem fX9_52 : Cond.fieldLink RX9 52 (TX9 7).1 (TX9 7).2.1 (TX9 7).2.2.1 ∈ mm_ok := lk_of lkAa2 (i := 5) rfl
theorem fX9_61 : Cond.fieldLink RX9 61 (TX9 8).1 (TX9 8).2.1 (TX9 8).2.2.1 ∈ mm_ok := lk_of lkAa2 (i := 6) rfl
theorem fX9_65 : Cond.fieldLink RX9 65 (TX9 9).1 (TX9 9).2.1 (TX9 9).2.2.1 ∈ mm_ok := lk_of lkAa2 (i := 7) rfl
theorem fX9_68 : Cond.fieldLink RX9 68 (TX9 10).1 (TX9 10).2.1 (TX9 10).2.2.1 ∈ mm_ok := lk_of lkAa2 (i := 8) rfl
theorem fX9_74 : Cond.fieldLink RX9 74 (TX9 11).1 (TX9 11).2.1 (TX9 11).2.2.1 ∈ mm_ok := lk_of lkAa2 (i := 9) rfl
theorem fX9_81 : Cond.fieldLink RX9 81 (TX9 12).1 (TX9 12).2.1 (TX9 12).2.2.1 ∈ mm_ok := lk_of lkAa2 (i := 10) rfl
theorem fX9_91 : Cond.fieldLink RX9 91 (TX8 0).1 (TX8 0).2.1 (TX8 0).2.2.1 ∈ mm_ok := lk_of lkAa2 (i := 11) rfl
theorem kJ6_264 : Cond.constant RJ6 264 (65536) ∈ mm_ok := lk_of lkAa2 (i := 12) rfl
theorem kJ6_265 : Cond.constant RJ6 265 (1431655765) ∈ mm_ok := lk_of lkAa2 (i := 13) rfl
theorem kJ6_266 : Cond.constant RJ6 266 (858993459) ∈ mm_ok := lk_of lkAa2 (i := 14) rfl
theorem kJ6_267 : Cond.constant RJ6 267 (252645135) ∈ mm_ok := lk_of lkAa2 (i := 15) rfl
theorem kX10_108 : Cond.constantLong RX10 108 (48) ∈ mm_ok := lk_of lkAa2 (i := 16) rfl
theorem kX10_110 : Cond.constantLong RX10 110 (57) ∈ mm_ok := lk_of lkAa2 (i := 17) rfl
theorem kX10_153 : Cond.constantLong RX10 153 (6) ∈ mm_ok := lk_of lkAa2 (i := 18) rfl
theorem kX10_182 : Cond.constant RX10 182 (-1000000001) ∈ mm_ok := lk_of lkAa2 (i := 19) rfl
theorem kX10_187 : Cond.constant RX10 187 (-1000000003) ∈ mm_ok := lk_of lkAa2 (i := 20) rfl
theorem kX10_215 : Cond.constantLong RX10 215 (1103515245) ∈ mm_ok := lk_of lkAa2 (i := 21) rfl
theorem kX10_217 : Cond.constantLong RX10 217 (12345) ∈ mm_ok := lk_of lkAa2 (i := 22) rfl
theorem kX10_219 : Cond.constantLong RX10 219 (2147483648) ∈ mm_ok := lk_of lkAa2 (i := 23) rfl
theorem kX10_221 : Cond.constantLong RX10 221 (65536) ∈ mm_ok := lk_of lkAa2 (i := 24) rfl
theorem kX10_223 : Cond.constantLong RX10 223 (60) ∈ mm_ok := lk_of lkAa2 (i := 25) rfl
theorem kX10_254 : Cond.constant RX10 254 (-1000000) ∈ mm_ok := lk_of lkAa2 (i := 26) rfl
theorem kX10_262 : Cond.constantLong RX10 262 (99) ∈ mm_ok := lk_of lkAa2 (i := 27) rfl
theorem kX10_267 : Cond.constantLong RX10 267 (100) ∈ mm_ok := lk_of lkAa2 (i := 28) rfl
theorem kX10_269 : Cond.constantLong RX10 269 (1000000000) ∈ mm_ok := lk_of lkAa2 (i := 29) rfl
theorem kX10_58 : Cond.constantLong RX10 58 (3) ∈ mm_ok := lk_of lkAa2 (i := 30) rfl
theorem kX10_60 : Cond.constantLong RX10 60 (23) ∈ mm_ok := lk_of lkAa2 (i := 31) rfl
theorem kX10_82 : Cond.constantLong RX10 82 (255) ∈ mm_ok := lk_of lkAa2 (i := 32) rfl
theorem kX10_84 : Cond.constant RX10 84 (-1000000002) ∈ mm_ok := lk_of lkAa2 (i := 33) rfl
theorem kX10_88 : Cond.constant RX10 88 (-1000000004) ∈ mm_ok := lk_of lkAa2 (i := 34) rfl
theorem kX1_13 : Cond.constantLong RX1 13 (1103515245) ∈ mm_ok := lk_of lkAa2 (i := 35) rfl
theorem kX1_15 : Cond.constantLong RX1 15 (12345) ∈ mm_ok := lk_of lkAa2 (i := 36) rfl
theorem kX1_17 : Cond.constantLong RX1 17 (2147483648) ∈ mm_ok := lk_of lkAa2 (i := 37) rfl
theorem kX1_19 : Cond.constant RX1 19 (65536) ∈ mm_ok := lk_of lkAa2 (i := 38) rfl
theorem kX5_25 : Cond.constant RX5 25 (1000000000) ∈ mm_ok := lk_of lkAa2 (i := 39) rfl
theorem kX9_150 : Cond.constant RX9 150 (-1000000001) ∈ mm_ok := lk_of lkAa3 (i := 0) rfl
theorem kX9_179 : Cond.constant RX9 179 (-1000000003) ∈ mm_ok := lk_of lkAa3 (i := 1) rfl
theorem kX9_259 : Cond.constantLong RX9 259 (1000000000) ∈ mm_ok := lk_of lkAa3 (i := 2) rfl
theorem kX9_261 : Cond.constantLong RX9 261 (100) ∈ mm_ok := lk_of lkAa3 (i := 3) rfl
theorem kX9_86 : Cond.constant RX9 86 (-1000000002) ∈ mm_ok := lk_of lkAa3 (i := 4) rfl
theorem kX9_95 : Cond.constant RX9 95 (-1000000004) ∈ mm_ok := lk_of lkAa3 (i := 5) rfl
theorem kb_10 : (Int8.ofInt (10)).toInt32 = 10 := by decide
theorem kb_100 : (Int8.ofInt (100)).toInt32 = 100 := by decide
theorem kb_127 : (Int8.ofInt (127)).toInt32 = 127 := by decide
theorem kb_14 : (Int8.ofInt (14)).toInt32 = 14 := by decide
theorem kb_15 : (Int8.ofInt (15)).toInt32 = 15 := by decide
theorem kb_16 : (Int8.ofInt (16)).toInt32 = 16 := by decide
theorem kb_20 : (Int8.ofInt (20)).toInt32 = 20 := by decide
theorem kb_21 : (Int8.ofInt (21)).toInt32 = 21 := by decide
theorem kb_24 : (Int8.ofInt (24)).toInt32 = 24 := by decide
theorem kb_25 : (Int8.ofInt (25)).toInt32 = 25 := by decide
theorem kb_28 : (Int8.ofInt (28)).toInt32 = 28 := by decide
theorem kb_29 : (Int8.ofInt (29)).toInt32 = 29 := by decide
theorem kb_30 : (Int8.ofInt (30)).toInt32 = 30 := by decide
theorem kb_31 : (Int8.ofInt (31)).toInt32 = 31 := by decide
theorem kb_32 : (Int8.ofInt (32)).toInt32 = 32 := by decide
theorem kb_37 : (Int8.ofInt (37)).toInt32 = 37 := by decide
theorem kb_44 : (Int8.ofInt (44)).toInt32 = 44 := by decide
theorem kb_48 : (Int8.ofInt (48)).toInt32 = 48 := by decide
theorem kb_57 : (Int8.ofInt (57)).toInt32 = 57 := by decide
theorem kb_59 : (Int8.ofInt (59)).toInt32 = 59 := by decide
theorem kb_6 : (Int8.ofInt (6)).toInt32 = 6 := by decide
theorem kb_60 : (Int8.ofInt (60)).toInt32 = 60 := by decide
theorem kb_63 : (Int8.ofInt (63)).toInt32 = 63 := by decide
theorem kb_7 : (Int8.ofInt (7)).toInt32 = 7 := by decide
theorem kb_8 : (Int8.ofInt (8)).toInt32 = 8 := by decide
theorem kb_9 : (Int8.ofInt (9)).toInt32 = 9 := by decide
theorem kb_99 : (Int8.ofInt (99)).toInt32 = 99 := by decide
theorem kb_m10 : (Int8.ofInt (-10)).toInt32 = -10 := by decide
theorem kb_m2 : (Int8.ofInt (-2)).toInt32 = -2 := by decide
theorem ki_0 : Int32.ofInt (0) = 0 := by decide
theorem ki_1 : Int32.ofInt (1) = 1 := by decide
theorem ki_2 : Int32.ofInt (2) = 2 := by decide
theorem ki_3 : Int32.ofInt (3) = 3 := by decide
theorem ki_4 : Int32.ofInt (4) = 4 := by decide
theorem ki_5 : Int32.ofInt (5) = 5 := by decide
theorem ki_m1 : Int32.ofInt (-1) = -1 := by decide
theorem ks_128 : (Int16.ofInt (128)).toInt32 = 128 := by decide
theorem ks_240 : (Int16.ofInt (240)).toInt32 = 240 := by decide
theorem ks_255 : (Int16.ofInt (255)).toInt32 = 255 := by decide
theorem ks_256 : (Int16.ofInt (256)).toInt32 = 256 := by decide
theorem ks_570 : (Int16.ofInt (570)).toInt32 = 570 := by decide
theorem mX0_23 : Cond.methodLink RX0 23 yX0_suitedFor ∈ mm_ok := lk_of lkAa3 (i := 6) rfl
theorem mX0_27 : Cond.methodLink RX0 27 yX0_mostFrom ∈ mm_ok := lk_of lkAa3 (i := 7) rfl
theorem mX0_31 : Cond.methodLink RX0 31 yX0_leastSinger ∈ mm_ok := lk_of lkAa3 (i := 8) rfl
theorem mX0_34 : Cond.methodLink RX0 34 yX3_lives ∈ mm_ok := lk_of lkAa3 (i := 9) rfl
theorem mX0_40 : Cond.methodLink RX0 40 yX3_voiceOf ∈ mm_ok := lk_of lkAa3 (i := 10) rfl
theorem mX0_44 : Cond.methodLink RX0 44 yX6_suits ∈ mm_ok := lk_of lkAa3 (i := 11) rfl
theorem mX0_50 : Cond.methodLink RX0 50 yX0_sungFrom ∈ mm_ok := lk_of lkAa3 (i := 12) rfl
theorem mX0_53 : Cond.methodLink RX0 53 yX0_isFree ∈ mm_ok := lk_of lkAa3 (i := 13) rfl
theorem mX0_57 : Cond.methodLink RX0 57 yJ9_max_7cf53 ∈ mm_ok := lk_of lkAa3 (i := 14) rfl
theorem mX0_62 : Cond.methodLinkNest RX0 62 yX9_isIn "VoiceWills" ∈ mm_nest := lk_ofN lkBa0 (i := 1) rfl
theorem mX10_115 : Cond.methodLink RX10 115 yX10_step ∈ mm_ok := lk_of lkAa3 (i := 15) rfl
theorem mX10_118 : Cond.methodLink RX10 118 yX10_fails ∈ mm_ok := lk_of lkAa3 (i := 16) rfl
theorem mX10_122 : Cond.methodLink RX10 122 yX10_number ∈ mm_ok := lk_of lkAa3 (i := 17) rfl
theorem mX10_126 : Cond.methodLink RX10 126 yX10_ends ∈ mm_ok := lk_of lkAa3 (i := 18) rfl
theorem mX10_130 : Cond.methodLink RX10 130 yX10_isTold ∈ mm_ok := lk_of lkAa3 (i := 19) rfl
theorem mX10_134 : Cond.methodLink RX10 134 yX10_isIn ∈ mm_ok := lk_of lkAa3 (i := 20) rfl
theorem mX10_138 : Cond.methodLink RX10 138 yX10_readsPerson ∈ mm_ok := lk_of lkAa3 (i := 21) rfl
theorem mX10_141 : Cond.methodLink RX10 141 yX10_readsWill ∈ mm_ok := lk_of lkAa3 (i := 22) rfl
theorem mX10_144 : Cond.methodLink RX10 144 yX10_readsDoor ∈ mm_ok := lk_of lkAa3 (i := 23) rfl
theorem mX10_147 : Cond.methodLink RX10 147 yX10_readsParts ∈ mm_ok := lk_of lkAa3 (i := 24) rfl
theorem mX10_150 : Cond.methodLink RX10 150 yX10_readsClause ∈ mm_ok := lk_of lkAa3 (i := 25) rfl
theorem mX10_155 : Cond.methodLink RX10 155 yX10_lives ∈ mm_ok := lk_of lkAa3 (i := 26) rfl
theorem mX10_159 : Cond.methodLink RX10 159 yX10_leastMute ∈ mm_ok := lk_of lkAa3 (i := 27) rfl
theorem mX10_163 : Cond.methodLink RX10 163 yX10_gets ∈ mm_ok := lk_of lkAa3 (i := 28) rfl
theorem mX10_167 : Cond.methodLink RX10 167 yX10_isAlive ∈ mm_ok := lk_of lkAa3 (i := 29) rfl
theorem mX10_170 : Cond.methodLink RX10 170 yX10_allVoices ∈ mm_ok := lk_of lkAa3 (i := 30) rfl
theorem mX10_173 : Cond.methodLink RX10 173 yX10_usesNone ∈ mm_ok := lk_of lkAa3 (i := 31) rfl
theorem mX10_176 : Cond.methodLink RX10 176 yX10_lost ∈ mm_ok := lk_of lkAa3 (i := 32) rfl
theorem mX10_179 : Cond.methodLink RX10 179 yX10_isPerson ∈ mm_ok := lk_of lkAa3 (i := 33) rfl
theorem mX10_183 : Cond.methodLink RX10 183 yX10_openTo ∈ mm_ok := lk_of lkAa3 (i := 34) rfl
theorem mX10_188 : Cond.methodLink RX10 188 yX10_remember ∈ mm_ok := lk_of lkAa3 (i := 35) rfl
theorem mX10_191 : Cond.methodLink RX10 191 yX10_dies ∈ mm_ok := lk_of lkAa3 (i := 36) rfl
theorem mX10_195 : Cond.methodLink RX10 195 yX10_leastOf ∈ mm_ok := lk_of lkAa3 (i := 37) rfl
theorem mX10_198 : Cond.methodLink RX10 198 yX10_maySell ∈ mm_ok := lk_of lkAa3 (i := 38) rfl
theorem mX10_201 : Cond.methodLink RX10 201 yX10_sells ∈ mm_ok := lk_of lkAa3 (i := 39) rfl
theorem mX10_205 : Cond.methodLink RX10 205 yX10_isVoice ∈ mm_ok := lk_of lkAa4 (i := 0) rfl
theorem mX10_208 : Cond.methodLink RX10 208 yX10_isHeir ∈ mm_ok := lk_of lkAa4 (i := 1) rfl
theorem mX10_225 : Cond.methodLink RX10 225 yX10_draw ∈ mm_ok := lk_of lkAa4 (i := 2) rfl
theorem mX10_228 : Cond.methodLink RX10 228 yX10_isOrder ∈ mm_ok := lk_of lkAa4 (i := 3) rfl
theorem mX10_231 : Cond.methodLink RX10 231 yX10_layAside ∈ mm_ok := lk_of lkAa4 (i := 4) rfl
theorem mX10_234 : Cond.methodLink RX10 234 yX10_allDie ∈ mm_ok := lk_of lkAa4 (i := 5) rfl
theorem mX10_238 : Cond.methodLink RX10 238 yX10_heirOf ∈ mm_ok := lk_of lkAa4 (i := 6) rfl
theorem mX10_241 : Cond.methodLink RX10 241 yX10_bits ∈ mm_ok := lk_of lkAa4 (i := 7) rfl
theorem mX10_244 : Cond.methodLink RX10 244 yX10_canBe ∈ mm_ok := lk_of lkAa4 (i := 8) rfl
theorem mX10_248 : Cond.methodLink RX10 248 yX10_abs ∈ mm_ok := lk_of lkAa4 (i := 9) rfl
theorem mX10_251 : Cond.methodLink RX10 251 yX10_maySing ∈ mm_ok := lk_of lkAa4 (i := 10) rfl
theorem mX10_255 : Cond.methodLink RX10 255 yX10_sungBy ∈ mm_ok := lk_of lkAa4 (i := 11) rfl
theorem mX10_259 : Cond.methodLink RX10 259 yX10_layTable ∈ mm_ok := lk_of lkAa4 (i := 12) rfl
theorem mX10_264 : Cond.methodLink RX10 264 yX10_isSet ∈ mm_ok := lk_of lkAa4 (i := 13) rfl
theorem mX10_271 : Cond.methodLink RX10 271 yX10_voices ∈ mm_ok := lk_of lkAa4 (i := 14) rfl
theorem mX10_274 : Cond.methodLink RX10 274 yX10_isUse ∈ mm_ok := lk_of lkAa4 (i := 15) rfl
theorem mX10_277 : Cond.methodLink RX10 277 yX10_isSo ∈ mm_ok := lk_of lkAa4 (i := 16) rfl
theorem mX10_51 : Cond.methodLink RX10 51 yX10_blank ∈ mm_ok := lk_of lkAa4 (i := 17) rfl
theorem mX10_55 : Cond.methodLink RX10 55 yX10_begins ∈ mm_ok := lk_of lkAa4 (i := 18) rfl
theorem mX10_62 : Cond.methodLink RX10 62 yX10_in ∈ mm_ok := lk_of lkAa4 (i := 19) rfl
theorem mX10_66 : Cond.methodLink RX10 66 yX10_copies ∈ mm_ok := lk_of lkAa4 (i := 20) rfl
theorem mX10_92 : Cond.methodLink RX10 92 yX10_here ∈ mm_ok := lk_of lkAa4 (i := 21) rfl
theorem mX2_28 : Cond.methodLink RX2 28 yX3_voiceOf ∈ mm_ok := lk_of lkAa4 (i := 22) rfl
theorem mX3_30 : Cond.methodLink RX3 30 yJ9_min_7cf53 ∈ mm_ok := lk_of lkAa4 (i := 23) rfl
theorem mX3_45 : Cond.methodLink RX3 45 yX6_hasVoice ∈ mm_ok := lk_of lkAa4 (i := 24) rfl
theorem mX3_49 : Cond.methodLink RX3 49 yX6_firstToldHeir ∈ mm_ok := lk_of lkAa4 (i := 25) rfl
theorem mX3_53 : Cond.methodLink RX3 53 yX6_secondToldHeir ∈ mm_ok := lk_of lkAa4 (i := 26) rfl
theorem mX3_56 : Cond.methodLink RX3 56 yX3_isOne ∈ mm_ok := lk_of lkAa4 (i := 27) rfl
theorem mX3_59 : Cond.methodLink RX3 59 yX3_lives ∈ mm_ok := lk_of lkAa4 (i := 28) rfl
theorem mX3_62 : Cond.methodLinkNest RX3 62 yX9_isVoiceNumber "VoiceWills" ∈ mm_nest := lk_ofN lkBa0 (i := 2) rfl
theorem mX3_65 : Cond.methodLinkNest RX3 65 yX9_isIn "VoiceWills" ∈ mm_nest := lk_ofN lkBa0 (i := 3) rfl
theorem mX3_69 : Cond.methodLink RX3 69 yX3_firstAlive ∈ mm_ok := lk_of lkAa4 (i := 29) rfl
theorem mX3_72 : Cond.methodLink RX3 72 yX3_give ∈ mm_ok := lk_of lkAa4 (i := 30) rfl
theorem mX3_76 : Cond.methodLink RX3 76 yX3_silent ∈ mm_ok := lk_of lkAa4 (i := 31) rfl
theorem mX3_80 : Cond.methodLink RX3 80 yX3_leastOf ∈ mm_ok := lk_of lkAa4 (i := 32) rfl
theorem mX3_83 : Cond.methodLink RX3 83 yJ6_numberOfTrailingZeros_0f7a4 ∈ mm_ok := lk_of lkAa4 (i := 33) rfl
theorem mX3_88 : Cond.methodLink RX3 88 yX3_canHandOver ∈ mm_ok := lk_of lkAa4 (i := 34) rfl
theorem mX5_22 : Cond.methodLink RX5 22 yX5_empty ∈ mm_ok := lk_of lkAa4 (i := 35) rfl
theorem mX5_26 : Cond.methodLink RX5 26 yX3_lives ∈ mm_ok := lk_of lkAa4 (i := 36) rfl
theorem mX5_32 : Cond.methodLink RX5 32 yX5_holds ∈ mm_ok := lk_of lkAa4 (i := 37) rfl
theorem mX5_35 : Cond.methodLink RX5 35 yX5_add ∈ mm_ok := lk_of lkAa4 (i := 38) rfl
theorem mX5_39 : Cond.methodLink RX5 39 yJ6_bitCount_0f7a4 ∈ mm_ok := lk_of lkAa4 (i := 39) rfl
theorem mX5_48 : Cond.methodLink RX5 48 yJ9_max_7cf53 ∈ mm_ok := lk_of lkAa5 (i := 0) rfl
theorem mX5_54 : Cond.methodLink RX5 54 yX5_memberAt ∈ mm_ok := lk_of lkAa5 (i := 1) rfl
theorem mX5_57 : Cond.methodLinkNest RX5 57 yX9_isIn "VoiceWills" ∈ mm_nest := lk_ofN lkBa0 (i := 4) rfl
theorem mX5_61 : Cond.methodLink RX5 61 yX3_bury ∈ mm_ok := lk_of lkAa5 (i := 2) rfl
theorem mX6_40 : Cond.methodLink RX6 40 yX6_hasPerson ∈ mm_ok := lk_of lkAa5 (i := 3) rfl
theorem mX6_44 : Cond.methodLink RX6 44 yX6_rangeOf ∈ mm_ok := lk_of lkAa5 (i := 4) rfl
theorem mX6_48 : Cond.methodLinkNest RX6 48 yX9_isIn "VoiceWills" ∈ mm_nest := lk_ofN lkBa0 (i := 5) rfl
theorem mX6_52 : Cond.methodLink RX6 52 yX6_hasDoor ∈ mm_ok := lk_of lkAa5 (i := 5) rfl
theorem mX6_55 : Cond.methodLink RX6 55 yX6_hasVoice ∈ mm_ok := lk_of lkAa5 (i := 6) rfl
theorem mX6_58 : Cond.methodLink RX6 58 yX6_hasPart ∈ mm_ok := lk_of lkAa5 (i := 7) rfl
theorem mX6_61 : Cond.methodLink RX6 61 yJ9_abs_0f7a4 ∈ mm_ok := lk_of lkAa5 (i := 8) rfl
theorem mX7_25 : Cond.methodLink RX7 25 yX3_copy ∈ mm_ok := lk_of lkAa5 (i := 9) rfl
theorem mX7_29 : Cond.methodLink RX7 29 yJ9_min_7cf53 ∈ mm_ok := lk_of lkAa5 (i := 10) rfl
theorem mX8_105 : Cond.methodLink RX8 105 yX6_addPart ∈ mm_ok := lk_of lkAa5 (i := 11) rfl
theorem mX8_108 : Cond.methodLink RX8 108 yX8_isNext ∈ mm_ok := lk_of lkAa5 (i := 12) rfl
theorem mX8_111 : Cond.methodLink RX8 111 yX8_isFigure ∈ mm_ok := lk_of lkAa5 (i := 13) rfl
theorem mX8_22 : Cond.methodLink RX8 22 yX6_empty ∈ mm_ok := lk_of lkAa5 (i := 14) rfl
theorem mX8_33 : Cond.methodLink RX8 33 yX8_skipBlanks ∈ mm_ok := lk_of lkAa5 (i := 15) rfl
theorem mX8_36 : Cond.methodLink RX8 36 yX8_isSound ∈ mm_ok := lk_of lkAa5 (i := 16) rfl
theorem mX8_40 : Cond.methodLink RX8 40 yX8_readClause ∈ mm_ok := lk_of lkAa5 (i := 17) rfl
theorem mX8_44 : Cond.methodLink RX8 44 yX8_letterHere ∈ mm_ok := lk_of lkAa5 (i := 18) rfl
theorem mX8_48 : Cond.methodLink RX8 48 yX8_readPerson ∈ mm_ok := lk_of lkAa5 (i := 19) rfl
theorem mX8_51 : Cond.methodLink RX8 51 yX8_readWill ∈ mm_ok := lk_of lkAa5 (i := 20) rfl
theorem mX8_54 : Cond.methodLink RX8 54 yX8_readDoor ∈ mm_ok := lk_of lkAa5 (i := 21) rfl
theorem mX8_57 : Cond.methodLink RX8 57 yX8_readChoir ∈ mm_ok := lk_of lkAa5 (i := 22) rfl
theorem mX8_60 : Cond.methodLink RX8 60 yX8_blame ∈ mm_ok := lk_of lkAa5 (i := 23) rfl
theorem mX8_67 : Cond.methodLink RX8 67 yX8_readNumber ∈ mm_ok := lk_of lkAa5 (i := 24) rfl
theorem mX8_71 : Cond.methodLink RX8 71 yX8_readSign ∈ mm_ok := lk_of lkAa5 (i := 25) rfl
theorem mX8_75 : Cond.methodLink RX8 75 yX6_addPerson ∈ mm_ok := lk_of lkAa5 (i := 26) rfl
theorem mX8_79 : Cond.methodLink RX8 79 yX6_hasWill ∈ mm_ok := lk_of lkAa5 (i := 27) rfl
theorem mX8_85 : Cond.methodLink RX8 85 yX8_readHeir ∈ mm_ok := lk_of lkAa5 (i := 28) rfl
theorem mX8_89 : Cond.methodLink RX8 89 yX6_addWill ∈ mm_ok := lk_of lkAa5 (i := 29) rfl
theorem mX8_93 : Cond.methodLink RX8 93 yX6_hasPerson ∈ mm_ok := lk_of lkAa5 (i := 30) rfl
theorem mX8_99 : Cond.methodLink RX8 99 yX6_addDoor ∈ mm_ok := lk_of lkAa5 (i := 31) rfl
theorem mX9_103 : Cond.methodLink RX9 103 yX3_begin ∈ mm_ok := lk_of lkAa5 (i := 32) rfl
theorem mX9_107 : Cond.methodLink RX9 107 yX2_clear ∈ mm_ok := lk_of lkAa5 (i := 33) rfl
theorem mX9_110 : Cond.methodLink RX9 110 yX7_forget ∈ mm_ok := lk_of lkAa5 (i := 34) rfl
theorem mX9_135 : Cond.methodLink RX9 135 yX3_silent ∈ mm_ok := lk_of lkAa5 (i := 35) rfl
theorem mX9_139 : Cond.methodLink RX9 139 yX6_voices ∈ mm_ok := lk_of lkAa5 (i := 36) rfl
theorem mX9_142 : Cond.methodLink RX9 142 yX3_held ∈ mm_ok := lk_of lkAa5 (i := 37) rfl
theorem mX9_147 : Cond.methodLink RX9 147 yX6_hasPerson ∈ mm_ok := lk_of lkAa5 (i := 38) rfl
theorem mX9_151 : Cond.methodLink RX9 151 yX3_voiceOf ∈ mm_ok := lk_of lkAa5 (i := 39) rfl
theorem mX9_155 : Cond.methodLink RX9 155 yX3_jarOf ∈ mm_ok := lk_of lkAa6 (i := 0) rfl
theorem mX9_158 : Cond.methodLink RX9 158 yX3_firstHeir ∈ mm_ok := lk_of lkAa6 (i := 1) rfl
theorem mX9_161 : Cond.methodLink RX9 161 yX3_secondHeir ∈ mm_ok := lk_of lkAa6 (i := 2) rfl
theorem mX9_164 : Cond.methodLink RX9 164 yX6_openTo ∈ mm_ok := lk_of lkAa6 (i := 3) rfl
theorem mX9_167 : Cond.methodLink RX9 167 yX3_lives ∈ mm_ok := lk_of lkAa6 (i := 4) rfl
theorem mX9_170 : Cond.methodLink RX9 170 yX6_rangeOf ∈ mm_ok := lk_of lkAa6 (i := 5) rfl
theorem mX9_173 : Cond.methodLink RX9 173 yX6_hasDoor ∈ mm_ok := lk_of lkAa6 (i := 6) rfl
theorem mX9_176 : Cond.methodLink RX9 176 yX6_knownBy ∈ mm_ok := lk_of lkAa6 (i := 7) rfl
theorem mX9_180 : Cond.methodLink RX9 180 yX7_remember ∈ mm_ok := lk_of lkAa6 (i := 8) rfl
theorem mX9_184 : Cond.methodLink RX9 184 yX3_bury ∈ mm_ok := lk_of lkAa6 (i := 9) rfl
theorem mX9_187 : Cond.methodLink RX9 187 yX3_canHandOver ∈ mm_ok := lk_of lkAa6 (i := 10) rfl
theorem mX9_191 : Cond.methodLink RX9 191 yX3_handOver ∈ mm_ok := lk_of lkAa6 (i := 11) rfl
theorem mX9_195 : Cond.methodLink RX9 195 yX9_isVoiceNumber ∈ mm_ok := lk_of lkAa6 (i := 12) rfl
theorem mX9_198 : Cond.methodLink RX9 198 yX9_isIn ∈ mm_ok := lk_of lkAa6 (i := 13) rfl
theorem mX9_201 : Cond.methodLink RX9 201 yX3_takeOut ∈ mm_ok := lk_of lkAa6 (i := 14) rfl
theorem mX9_205 : Cond.methodLink RX9 205 yX9_canInherit ∈ mm_ok := lk_of lkAa6 (i := 15) rfl
theorem mX9_208 : Cond.methodLink RX9 208 yX3_changeWill ∈ mm_ok := lk_of lkAa6 (i := 16) rfl
theorem mX9_212 : Cond.methodLink RX9 212 yX9_passYear ∈ mm_ok := lk_of lkAa6 (i := 17) rfl
theorem mX9_215 : Cond.methodLink RX9 215 yX7_bringBack ∈ mm_ok := lk_of lkAa6 (i := 18) rfl
theorem mX9_219 : Cond.methodLink RX9 219 yX5_readOrder ∈ mm_ok := lk_of lkAa6 (i := 19) rfl
theorem mX9_223 : Cond.methodLink RX9 223 yX9_tryLine ∈ mm_ok := lk_of lkAa6 (i := 20) rfl
theorem mX9_226 : Cond.methodLink RX9 226 yX3_userOf ∈ mm_ok := lk_of lkAa6 (i := 21) rfl
theorem mX9_229 : Cond.methodLink RX9 229 yX6_hasVoice ∈ mm_ok := lk_of lkAa6 (i := 22) rfl
theorem mX9_232 : Cond.methodLink RX9 232 yX9_fewestWills ∈ mm_ok := lk_of lkAa6 (i := 23) rfl
theorem mX9_235 : Cond.methodLink RX9 235 yJ6_bitCount_0f7a4 ∈ mm_ok := lk_of lkAa6 (i := 24) rfl
theorem mX9_240 : Cond.methodLink RX9 240 yX6_hasPart ∈ mm_ok := lk_of lkAa6 (i := 25) rfl
theorem mX9_243 : Cond.methodLink RX9 243 yX0_give ∈ mm_ok := lk_of lkAa6 (i := 26) rfl
theorem mX9_247 : Cond.methodLink RX9 247 yX0_sung ∈ mm_ok := lk_of lkAa6 (i := 27) rfl
theorem mX9_250 : Cond.methodLink RX9 250 yX0_singerOf ∈ mm_ok := lk_of lkAa6 (i := 28) rfl
theorem mX9_253 : Cond.methodLink RX9 253 yX6_hasPersons ∈ mm_ok := lk_of lkAa6 (i := 29) rfl
theorem mX9_256 : Cond.methodLink RX9 256 yX3_allLive ∈ mm_ok := lk_of lkAa6 (i := 30) rfl
theorem mX9_263 : Cond.methodLink RX9 263 yX2_add ∈ mm_ok := lk_of lkAa6 (i := 31) rfl
theorem mX9_265 : Cond.methodLink RX9 265 yX9_voicesThatSpoke ∈ mm_ok := lk_of lkAa6 (i := 32) rfl
theorem mX9_268 : Cond.methodLink RX9 268 yX3_usersOf ∈ mm_ok := lk_of lkAa6 (i := 33) rfl
theorem mX9_271 : Cond.methodLink RX9 271 yJ9_max_7cf53 ∈ mm_ok := lk_of lkAa6 (i := 34) rfl
theorem mX9_276 : Cond.methodLink RX9 276 yX9_isVoiceOrNone ∈ mm_ok := lk_of lkAa6 (i := 35) rfl
theorem mX9_279 : Cond.methodLink RX9 279 yX9_firstInAllOrders ∈ mm_ok := lk_of lkAa6 (i := 36) rfl
theorem mX9_282 : Cond.methodLink RX9 282 yX9_countOrders ∈ mm_ok := lk_of lkAa6 (i := 37) rfl
theorem mX9_285 : Cond.methodLink RX9 285 yX9_orderNumber ∈ mm_ok := lk_of lkAa6 (i := 38) rfl
theorem mX9_288 : Cond.methodLink RX9 288 yX2_firstUnlike ∈ mm_ok := lk_of lkAa6 (i := 39) rfl
theorem mX9_295 : Cond.methodLink RX9 295 yX9_imageOf ∈ mm_ok := lk_of lkAa7 (i := 0) rfl
theorem mX9_302 : Cond.methodLink RX9 302 yX3_copy ∈ mm_ok := lk_of lkAa7 (i := 1) rfl
theorem mX9_308 : Cond.methodLink RX9 308 yX1_next ∈ mm_ok := lk_of lkAa7 (i := 2) rfl
theorem mX9_311 : Cond.methodLink RX9 311 yX5_buryIn ∈ mm_ok := lk_of lkAa7 (i := 3) rfl
theorem mX9_314 : Cond.methodLink RX9 314 yX5_holds ∈ mm_ok := lk_of lkAa7 (i := 4) rfl
theorem mX9_317 : Cond.methodLink RX9 317 yX9_helpsAlone ∈ mm_ok := lk_of lkAa7 (i := 5) rfl
theorem mX9_321 : Cond.methodLink RX9 321 yX9_helpTogether ∈ mm_ok := lk_of lkAa7 (i := 6) rfl
theorem mX9_325 : Cond.methodLink RX9 325 yX2_subjectAt ∈ mm_ok := lk_of lkAa7 (i := 7) rfl
theorem mX9_328 : Cond.methodLink RX9 328 yX2_valueAt ∈ mm_ok := lk_of lkAa7 (i := 8) rfl
theorem mX9_331 : Cond.methodLink RX9 331 yX5_setOrder ∈ mm_ok := lk_of lkAa7 (i := 9) rfl
theorem mX9_334 : Cond.methodLink RX9 334 yX9_ordersOf ∈ mm_ok := lk_of lkAa7 (i := 10) rfl
theorem mX9_337 : Cond.methodLink RX9 337 yX9_fitsOrder ∈ mm_ok := lk_of lkAa7 (i := 11) rfl
theorem mX9_340 : Cond.methodLink RX9 340 yX5_asNumber ∈ mm_ok := lk_of lkAa7 (i := 12) rfl
theorem mX9_343 : Cond.methodLink RX9 343 yX5_firstOne ∈ mm_ok := lk_of lkAa7 (i := 13) rfl
theorem mX9_87 : Cond.methodLink RX9 87 yX8_add ∈ mm_ok := lk_of lkAa7 (i := 14) rfl
theorem mX9_96 : Cond.methodLink RX9 96 yX8_readInto ∈ mm_ok := lk_of lkAa7 (i := 15) rfl
theorem n_0 : mm_b (0) (0) (0 : Int32) := by decide
theorem n_1 : mm_b (1) (1) (1 : Int32) := by decide
theorem n_10 : mm_b (10) (10) (10 : Int32) := by decide
theorem n_100 : mm_b (100) (100) (100 : Int32) := by decide
theorem n_1000000000 : mm_b (1000000000) (1000000000) (1000000000 : Int32) := by decide
theorem n_127 : mm_b (127) (127) (127 : Int32) := by decide
theorem n_128 : mm_b (128) (128) (128 : Int32) := by decide
theorem n_14 : mm_b (14) (14) (14 : Int32) := by decide
theorem n_1431655765 : mm_b (1431655765) (1431655765) (1431655765 : Int32) := by decide
theorem n_15 : mm_b (15) (15) (15 : Int32) := by decide
theorem n_16 : mm_b (16) (16) (16 : Int32) := by decide
theorem n_2 : mm_b (2) (2) (2 : Int32) := by decide
theorem n_20 : mm_b (20) (20) (20 : Int32) := by decide
theorem n_21 : mm_b (21) (21) (21 : Int32) := by decide
theorem n_24 : mm_b (24) (24) (24 : Int32) := by decide
theorem n_240 : mm_b (240) (240) (240 : Int32) := by decide
theorem n_25 : mm_b (25) (25) (25 : Int32) := by decide
theorem n_252645135 : mm_b (252645135) (252645135) (252645135 : Int32) := by decide
theorem n_255 : mm_b (255) (255) (255 : Int32) := by decide
theorem n_256 : mm_b (256) (256) (256 : Int32) := by decide
theorem n_28 : mm_b (28) (28) (28 : Int32) := by decide
theorem n_29 : mm_b (29) (29) (29 : Int32) := by decide
theorem n_3 : mm_b (3) (3) (3 : Int32) := by decide
theorem n_30 : mm_b (30) (30) (30 : Int32) := by decide
theorem n_31 : mm_b (31) (31) (31 : Int32) := by decide
theorem n_32 : mm_b (32) (32) (32 : Int32) := by decide
theorem n_37 : mm_b (37) (37) (37 : Int32) := by decide
theorem n_4 : mm_b (4) (4) (4 : Int32) := by decide
theorem n_44 : mm_b (44) (44) (44 : Int32) := by decide
theorem n_48 : mm_b (48) (48) (48 : Int32) := by decide
theorem n_5 : mm_b (5) (5) (5 : Int32) := by decide
theorem n_57 : mm_b (57) (57) (57 : Int32) := by decide
theorem n_570 : mm_b (570) (570) (570 : Int32) := by decide
theorem n_59 : mm_b (59) (59) (59 : Int32) := by decide
theorem n_6 : mm_b (6) (6) (6 : Int32) := by decide
theorem n_60 : mm_b (60) (60) (60 : Int32) := by decide
theorem n_63 : mm_b (63) (63) (63 : Int32) := by decide
theorem n_65536 : mm_b (65536) (65536) (65536 : Int32) := by decide
theorem n_7 : mm_b (7) (7) (7 : Int32) := by decide
theorem n_8 : mm_b (8) (8) (8 : Int32) := by decide
theorem n_858993459 : mm_b (858993459) (858993459) (858993459 : Int32) := by decide
theorem n_9 : mm_b (9) (9) (9 : Int32) := by decide
theorem n_99 : mm_b (99) (99) (99 : Int32) := by decide
theorem n_m1 : mm_b (-1) (-1) (-1 : Int32) := by decide
theorem n_m10 : mm_b (-10) (-10) (-10 : Int32) := by decide
theorem n_m1000000 : mm_b (-1000000) (-1000000) (-1000000 : Int32) := by decide
theorem n_m1000000001 : mm_b (-1000000001) (-1000000001) (-1000000001 : Int32) := by decide
theorem n_m1000000002 : mm_b (-1000000002) (-1000000002) (-1000000002 : Int32) := by decide
theorem n_m1000000003 : mm_b (-1000000003) (-1000000003) (-1000000003 : Int32) := by decide
theorem n_m1000000004 : mm_b (-1000000004) (-1000000004) (-1000000004 : Int32) := by decide
theorem n_m2 : mm_b (-2) (-2) (-2 : Int32) := by decide
theorem t_J6_bitCount_0f7a4 : mm_ms yJ6_bitCount_0f7a4 cJ6_bitCount_0f7a4 1 (some .int) 1 := ⟨cw_a706, lk_of lkAa7 (i := 16) rfl, lk_of lkAa7 (i := 17) rfl, ncm_RJ6, ncv_RJ6, pd_3⟩
theorem t_J6_numberOfTrailingZeros_0f7a4 : mm_ms yJ6_numberOfTrailingZeros_0f7a4 cJ6_numberOfTrailingZeros_0f7a4 2 (some .int) 1 := ⟨cw_a579, lk_of lkAa7 (i := 18) rfl, lk_of lkAa7 (i := 17) rfl, ncm_RJ6, ncv_RJ6, pd_3⟩
theorem t_J9_abs_0f7a4 : mm_ms yJ9_abs_0f7a4 cJ9_abs_0f7a4 1 (some .int) 1 := ⟨cw_a734, lk_of lkAa7 (i := 19) rfl, lk_of lkAa7 (i := 20) rfl, ncm_RJ9, ncv_RJ9, pd_3⟩
theorem t_J9_max_7cf53 : mm_ms yJ9_max_7cf53 cJ9_max_7cf53 2 (some .int) 2 := ⟨cw_a234, lk_of lkAa7 (i := 21) rfl, lk_of lkAa7 (i := 20) rfl, ncm_RJ9, ncv_RJ9, pd_7⟩
theorem t_J9_min_7cf53 : mm_ms yJ9_min_7cf53 cJ9_min_7cf53 2 (some .int) 2 := ⟨cw_a449, lk_of lkAa7 (i := 22) rfl, lk_of lkAa7 (i := 20) rfl, ncm_RJ9, ncv_RJ9, pd_7⟩
theorem t_X0_give : mm_mi yX0_give cX0_give 5 none 2 := ⟨cw_a721, lk_of lkAa7 (i := 23) rfl, lk_of lkAa7 (i := 24) rfl, lk_of lkAa7 (i := 25) rfl, ncm_RX0, ncv_RX0, pd_26⟩
theorem t_X0_isFree : mm_mi yX0_isFree cX0_isFree 4 (some .boolean) 3 := ⟨cw_a746, lk_of lkAa7 (i := 26) rfl, lk_of lkAa7 (i := 27) rfl, lk_of lkAa7 (i := 25) rfl, ncm_RX0, ncv_RX0, pd_12⟩
theorem t_X0_leastSinger : mm_mi yX0_leastSinger cX0_leastSinger 4 (some .int) 2 := ⟨cw_a752, lk_of lkAa7 (i := 28) rfl, lk_of lkAa7 (i := 29) rfl, lk_of lkAa7 (i := 25) rfl, ncm_RX0, ncv_RX0, pd_7⟩
theorem t_X0_mostFrom : mm_mi yX0_mostFrom cX0_mostFrom 5 (some .int) 2 := ⟨cw_a738, lk_of lkAa7 (i := 30) rfl, lk_of lkAa7 (i := 31) rfl, lk_of lkAa7 (i := 25) rfl, ncm_RX0, ncv_RX0, pd_7⟩
theorem t_X0_singerOf : mm_mi yX0_singerOf cX0_singerOf 2 (some .int) 1 := ⟨cw_a760, lk_of lkAa7 (i := 32) rfl, lk_of lkAa7 (i := 33) rfl, lk_of lkAa7 (i := 25) rfl, ncm_RX0, ncv_RX0, pd_3⟩
theorem t_X0_suitedFor : mm_ms yX0_suitedFor cX0_suitedFor 5 (some .int) 3 := ⟨cw_a724, lk_of lkAa7 (i := 34) rfl, lk_of lkAa7 (i := 25) rfl, ncm_RX0, ncv_RX0, pd_17⟩
theorem t_X0_sung : mm_mi yX0_sung cX0_sung 1 (some .int) 0 := ⟨cw_a756, lk_of lkAa7 (i := 35) rfl, lk_of lkAa7 (i := 36) rfl, lk_of lkAa7 (i := 25) rfl, ncm_RX0, ncv_RX0, pd_0⟩
theorem t_X0_sungFrom : mm_mi yX0_sungFrom cX0_sungFrom 3 (some .int) 2 := ⟨cw_a742, lk_of lkAa7 (i := 37) rfl, lk_of lkAa7 (i := 38) rfl, lk_of lkAa7 (i := 25) rfl, ncm_RX0, ncv_RX0, pd_7⟩
theorem t_X10_abs : mm_ms yX10_abs cX10_abs 1 (some .int) 1 := ⟨cw_a1223, lk_of lkAa7 (i := 39) rfl, lk_of lkAa8 (i := 0) rfl, ncm_RX10, ncv_RX10, pd_3⟩
theorem t_X10_allDie : mm_mi yX10_allDie cX10_allDie 4 none 1 := ⟨cw_a1185, lk_of lkAa8 (i := 1) rfl, lk_of lkAa8 (i := 2) rfl, lk_of lkAa8 (i := 0) rfl, ncm_RX10, ncv_RX10, pd_5⟩
theorem t_X10_allVoices : mm_mi yX10_allVoices cX10_allVoices 3 (some .int) 0 := ⟨cw_a1076, lk_of lkAa8 (i := 3) rfl, lk_of lkAa8 (i := 4) rfl, lk_of lkAa8 (i := 0) rfl, ncm_RX10, ncv_RX10, pd_0⟩
theorem t_X10_begins : mm_mi yX10_begins cX10_begins 2 none 0 := ⟨cw_a912, lk_of lkAa8 (i := 5) rfl, lk_of lkAa8 (i := 6) rfl, lk_of lkAa8 (i := 0) rfl, ncm_RX10, ncv_RX10, pd_1⟩
theorem t_X10_bits : mm_ms yX10_bits cX10_bits 3 (some .int) 1 := ⟨cw_a1196, lk_of lkAa8 (i := 7) rfl, lk_of lkAa8 (i := 0) rfl, ncm_RX10, ncv_RX10, pd_3⟩
theorem t_X10_blank : mm_ms yX10_blank cX10_blank 2 none 1 := ⟨cw_a903, lk_of lkAa8 (i := 8) rfl, lk_of lkAa8 (i := 0) rfl, ncm_RX10, ncv_RX10, pd_29⟩
theorem t_X10_canBe : mm_mi yX10_canBe cX10_canBe 12 (some .boolean) 5 := ⟨cw_a1200, lk_of lkAa8 (i := 9) rfl, lk_of lkAa8 (i := 10) rfl, lk_of lkAa8 (i := 0) rfl, ncm_RX10, ncv_RX10, pd_15⟩
theorem t_X10_copies : mm_ms yX10_copies cX10_copies 6 none 5 := ⟨cw_a915, lk_of lkAa8 (i := 11) rfl, lk_of lkAa8 (i := 0) rfl, ncm_RX10, ncv_RX10, pd_34⟩
theorem t_X10_dies : mm_mi yX10_dies cX10_dies 8 (some .int) 2 := ⟨cw_a1110, lk_of lkAa8 (i := 12) rfl, lk_of lkAa8 (i := 13) rfl, lk_of lkAa8 (i := 0) rfl, ncm_RX10, ncv_RX10, pd_31⟩
theorem t_X10_draw : mm_mi yX10_draw cX10_draw 2 (some .int) 1 := ⟨cw_a1161, lk_of lkAa8 (i := 14) rfl, lk_of lkAa8 (i := 15) rfl, lk_of lkAa8 (i := 0) rfl, ncm_RX10, ncv_RX10, pd_3⟩
theorem t_X10_ends : mm_mi yX10_ends cX10_ends 1 (some .boolean) 0 := ⟨cw_a1033, lk_of lkAa8 (i := 16) rfl, lk_of lkAa8 (i := 17) rfl, lk_of lkAa8 (i := 0) rfl, ncm_RX10, ncv_RX10, pd_2⟩
theorem t_X10_fails : mm_mi yX10_fails cX10_fails 2 (some .boolean) 1 := ⟨cw_a1025, lk_of lkAa8 (i := 18) rfl, lk_of lkAa8 (i := 19) rfl, lk_of lkAa8 (i := 0) rfl, ncm_RX10, ncv_RX10, pd_6⟩
theorem t_X10_gets : mm_mi yX10_gets cX10_gets 4 none 3 := ⟨cw_a1121, lk_of lkAa8 (i := 20) rfl, lk_of lkAa8 (i := 21) rfl, lk_of lkAa8 (i := 0) rfl, ncm_RX10, ncv_RX10, pd_33⟩
theorem t_X10_heirOf : mm_mi yX10_heirOf cX10_heirOf 2 (some .int) 1 := ⟨cw_a1204, lk_of lkAa8 (i := 22) rfl, lk_of lkAa8 (i := 23) rfl, lk_of lkAa8 (i := 0) rfl, ncm_RX10, ncv_RX10, pd_3⟩
theorem t_X10_here : mm_mi yX10_here cX10_here 1 (some .int) 0 := ⟨cw_a1011, lk_of lkAa8 (i := 24) rfl, lk_of lkAa8 (i := 25) rfl, lk_of lkAa8 (i := 0) rfl, ncm_RX10, ncv_RX10, pd_0⟩
theorem t_X10_in : mm_ms yX10_in cX10_in 6 (some .boolean) 3 := ⟨cw_a908, lk_of lkAa8 (i := 26) rfl, lk_of lkAa8 (i := 0) rfl, ncm_RX10, ncv_RX10, pd_19⟩
theorem t_X10_isAlive : mm_mi yX10_isAlive cX10_isAlive 2 (some .boolean) 1 := ⟨cw_a1068, lk_of lkAa8 (i := 27) rfl, lk_of lkAa8 (i := 28) rfl, lk_of lkAa8 (i := 0) rfl, ncm_RX10, ncv_RX10, pd_6⟩
theorem t_X10_isHeir : mm_mi yX10_isHeir cX10_isHeir 3 (some .boolean) 2 := ⟨cw_a1152, lk_of lkAa8 (i := 29) rfl, lk_of lkAa8 (i := 30) rfl, lk_of lkAa8 (i := 0) rfl, ncm_RX10, ncv_RX10, pd_9⟩
theorem t_X10_isIn : mm_ms yX10_isIn cX10_isIn 2 (some .boolean) 2 := ⟨cw_a1044, lk_of lkAa8 (i := 31) rfl, lk_of lkAa8 (i := 0) rfl, ncm_RX10, ncv_RX10, pd_9⟩
theorem t_X10_isOrder : mm_mi yX10_isOrder cX10_isOrder 6 (some .boolean) 1 := ⟨cw_a1177, lk_of lkAa8 (i := 32) rfl, lk_of lkAa8 (i := 33) rfl, lk_of lkAa8 (i := 0) rfl, ncm_RX10, ncv_RX10, pd_6⟩
theorem t_X10_isPerson : mm_mi yX10_isPerson cX10_isPerson 2 (some .boolean) 1 := ⟨cw_a1084, lk_of lkAa8 (i := 34) rfl, lk_of lkAa8 (i := 35) rfl, lk_of lkAa8 (i := 0) rfl, ncm_RX10, ncv_RX10, pd_6⟩
theorem t_X10_isSet : mm_mi yX10_isSet cX10_isSet 2 (some .boolean) 1 := ⟨cw_a1237, lk_of lkAa8 (i := 36) rfl, lk_of lkAa8 (i := 37) rfl, lk_of lkAa8 (i := 0) rfl, ncm_RX10, ncv_RX10, pd_6⟩
theorem t_X10_isSo : mm_mi yX10_isSo cX10_isSo 6 (some .boolean) 2 := ⟨cw_a1270, lk_of lkAa8 (i := 38) rfl, lk_of lkAa8 (i := 39) rfl, lk_of lkAa8 (i := 0) rfl, ncm_RX10, ncv_RX10, pd_9⟩
theorem t_X10_isTold : mm_mi yX10_isTold cX10_isTold 3 (some .boolean) 1 := ⟨cw_a1041, lk_of lkAa9 (i := 0) rfl, lk_of lkAa9 (i := 1) rfl, lk_of lkAa8 (i := 0) rfl, ncm_RX10, ncv_RX10, pd_27⟩
theorem t_X10_isUse : mm_ms yX10_isUse cX10_isUse 1 (some .boolean) 1 := ⟨cw_a1262, lk_of lkAa9 (i := 2) rfl, lk_of lkAa8 (i := 0) rfl, ncm_RX10, ncv_RX10, pd_6⟩
theorem t_X10_isVoice : mm_ms yX10_isVoice cX10_isVoice 1 (some .boolean) 1 := ⟨cw_a1143, lk_of lkAa9 (i := 3) rfl, lk_of lkAa8 (i := 0) rfl, ncm_RX10, ncv_RX10, pd_6⟩
theorem t_X10_layAside : mm_mi yX10_layAside cX10_layAside 1 none 0 := ⟨cw_a1181, lk_of lkAa9 (i := 4) rfl, lk_of lkAa9 (i := 5) rfl, lk_of lkAa8 (i := 0) rfl, ncm_RX10, ncv_RX10, pd_1⟩
theorem t_X10_layTable : mm_mi yX10_layTable cX10_layTable 6 none 0 := ⟨cw_a1212, lk_of lkAa9 (i := 6) rfl, lk_of lkAa9 (i := 7) rfl, lk_of lkAa8 (i := 0) rfl, ncm_RX10, ncv_RX10, pd_1⟩
theorem t_X10_leastMute : mm_mi yX10_leastMute cX10_leastMute 3 (some .int) 1 := ⟨cw_a1117, lk_of lkAa9 (i := 8) rfl, lk_of lkAa9 (i := 9) rfl, lk_of lkAa8 (i := 0) rfl, ncm_RX10, ncv_RX10, pd_28⟩
theorem t_X10_leastOf : mm_ms yX10_leastOf cX10_leastOf 2 (some .int) 1 := ⟨cw_a1136, lk_of lkAa9 (i := 10) rfl, lk_of lkAa8 (i := 0) rfl, ncm_RX10, ncv_RX10, pd_3⟩
theorem t_X10_lives : mm_ms yX10_lives cX10_lives 2 (some .boolean) 2 := ⟨cw_a1113, lk_of lkAa9 (i := 11) rfl, lk_of lkAa8 (i := 0) rfl, ncm_RX10, ncv_RX10, pd_32⟩
theorem t_X10_lost : mm_mi yX10_lost cX10_lost 3 (some .int) 0 := ⟨cw_a1072, lk_of lkAa9 (i := 12) rfl, lk_of lkAa9 (i := 13) rfl, lk_of lkAa8 (i := 0) rfl, ncm_RX10, ncv_RX10, pd_0⟩
theorem t_X10_maySell : mm_mi yX10_maySell cX10_maySell 3 (some .boolean) 2 := ⟨cw_a1129, lk_of lkAa9 (i := 14) rfl, lk_of lkAa9 (i := 15) rfl, lk_of lkAa8 (i := 0) rfl, ncm_RX10, ncv_RX10, pd_9⟩
theorem t_X10_maySing : mm_mi yX10_maySing cX10_maySing 4 (some .boolean) 2 := ⟨cw_a1220, lk_of lkAa9 (i := 16) rfl, lk_of lkAa9 (i := 17) rfl, lk_of lkAa8 (i := 0) rfl, ncm_RX10, ncv_RX10, pd_9⟩
theorem t_X10_number : mm_mi yX10_number cX10_number 4 (some .boolean) 3 := ⟨cw_a1029, lk_of lkAa9 (i := 18) rfl, lk_of lkAa9 (i := 19) rfl, lk_of lkAa8 (i := 0) rfl, ncm_RX10, ncv_RX10, pd_12⟩
theorem t_X10_openTo : mm_mi yX10_openTo cX10_openTo 4 (some .int) 1 := ⟨cw_a1089, lk_of lkAa9 (i := 20) rfl, lk_of lkAa9 (i := 21) rfl, lk_of lkAa8 (i := 0) rfl, ncm_RX10, ncv_RX10, pd_3⟩
theorem t_X10_readsClause : mm_mi yX10_readsClause cX10_readsClause 1 (some .boolean) 0 := ⟨cw_a1017, lk_of lkAa9 (i := 22) rfl, lk_of lkAa9 (i := 23) rfl, lk_of lkAa8 (i := 0) rfl, ncm_RX10, ncv_RX10, pd_2⟩
theorem t_X10_readsDoor : mm_mi yX10_readsDoor cX10_readsDoor 2 (some .boolean) 0 := ⟨cw_a1048, lk_of lkAa9 (i := 24) rfl, lk_of lkAa9 (i := 25) rfl, lk_of lkAa8 (i := 0) rfl, ncm_RX10, ncv_RX10, pd_2⟩
theorem t_X10_readsParts : mm_mi yX10_readsParts cX10_readsParts 1 (some .boolean) 0 := ⟨cw_a1052, lk_of lkAa9 (i := 26) rfl, lk_of lkAa9 (i := 27) rfl, lk_of lkAa8 (i := 0) rfl, ncm_RX10, ncv_RX10, pd_2⟩
theorem t_X10_readsPerson : mm_mi yX10_readsPerson cX10_readsPerson 2 (some .boolean) 0 := ⟨cw_a1021, lk_of lkAa9 (i := 28) rfl, lk_of lkAa9 (i := 29) rfl, lk_of lkAa8 (i := 0) rfl, ncm_RX10, ncv_RX10, pd_2⟩
theorem t_X10_readsWill : mm_mi yX10_readsWill cX10_readsWill 3 (some .boolean) 0 := ⟨cw_a1037, lk_of lkAa9 (i := 30) rfl, lk_of lkAa9 (i := 31) rfl, lk_of lkAa8 (i := 0) rfl, ncm_RX10, ncv_RX10, pd_2⟩
theorem t_X10_remember : mm_mi yX10_remember cX10_remember 2 none 0 := ⟨cw_a1106, lk_of lkAa9 (i := 32) rfl, lk_of lkAa9 (i := 33) rfl, lk_of lkAa8 (i := 0) rfl, ncm_RX10, ncv_RX10, pd_1⟩
theorem t_X10_sells : mm_mi yX10_sells cX10_sells 4 none 2 := ⟨cw_a1133, lk_of lkAa9 (i := 34) rfl, lk_of lkAa9 (i := 35) rfl, lk_of lkAa8 (i := 0) rfl, ncm_RX10, ncv_RX10, pd_8⟩
theorem t_X10_step : mm_mi yX10_step cX10_step 1 none 0 := ⟨cw_a1007, lk_of lkAa9 (i := 36) rfl, lk_of lkAa9 (i := 37) rfl, lk_of lkAa8 (i := 0) rfl, ncm_RX10, ncv_RX10, pd_1⟩
theorem t_X10_sungBy : mm_mi yX10_sungBy cX10_sungBy 4 (some .int) 3 := ⟨cw_a1216, lk_of lkAa9 (i := 38) rfl, lk_of lkAa9 (i := 39) rfl, lk_of lkAa8 (i := 0) rfl, ncm_RX10, ncv_RX10, pd_10⟩
theorem t_X10_usesNone : mm_mi yX10_usesNone cX10_usesNone 3 (some .int) 0 := ⟨cw_a1064, lk_of lkAa10 (i := 0) rfl, lk_of lkAa10 (i := 1) rfl, lk_of lkAa8 (i := 0) rfl, ncm_RX10, ncv_RX10, pd_0⟩
theorem t_X10_voices : mm_mi yX10_voices cX10_voices 4 (some .int) 0 := ⟨cw_a1251, lk_of lkAa10 (i := 2) rfl, lk_of lkAa10 (i := 3) rfl, lk_of lkAa8 (i := 0) rfl, ncm_RX10, ncv_RX10, pd_0⟩
theorem t_X1_next : mm_mi yX1_next cX1_next 2 (some .int) 1 := ⟨cw_a632, lk_of lkAa10 (i := 4) rfl, lk_of lkAa10 (i := 5) rfl, lk_of lkAa10 (i := 6) rfl, ncm_RX1, ncv_RX1, pd_3⟩
theorem t_X2_add : mm_mi yX2_add cX2_add 3 (some .boolean) 2 := ⟨cw_a786, lk_of lkAa10 (i := 7) rfl, lk_of lkAa10 (i := 8) rfl, lk_of lkAa10 (i := 9) rfl, ncm_RX2, ncv_RX2, pd_9⟩
theorem t_X2_clear : mm_mi yX2_clear cX2_clear 1 none 0 := ⟨cw_a469, lk_of lkAa10 (i := 10) rfl, lk_of lkAa10 (i := 11) rfl, lk_of lkAa10 (i := 9) rfl, ncm_RX2, ncv_RX2, pd_1⟩
theorem t_X2_firstUnlike : mm_mi yX2_firstUnlike cX2_firstUnlike 3 (some .int) 1 := ⟨cw_a849, lk_of lkAa10 (i := 12) rfl, lk_of lkAa10 (i := 13) rfl, lk_of lkAa10 (i := 9) rfl, ncm_RX2, ncv_RX2, pd_20⟩
theorem t_X2_subjectAt : mm_mi yX2_subjectAt cX2_subjectAt 2 (some .int) 1 := ⟨cw_a798, lk_of lkAa10 (i := 14) rfl, lk_of lkAa10 (i := 15) rfl, lk_of lkAa10 (i := 9) rfl, ncm_RX2, ncv_RX2, pd_3⟩
theorem t_X2_valueAt : mm_mi yX2_valueAt cX2_valueAt 2 (some .int) 1 := ⟨cw_a802, lk_of lkAa10 (i := 16) rfl, lk_of lkAa10 (i := 17) rfl, lk_of lkAa10 (i := 9) rfl, ncm_RX2, ncv_RX2, pd_3⟩
theorem t_X3_allLive : mm_mi yX3_allLive cX3_allLive 2 (some .boolean) 1 := ⟨cw_a776, lk_of lkAa10 (i := 18) rfl, lk_of lkAa10 (i := 19) rfl, lk_of lkAa10 (i := 20) rfl, ncm_RX3, ncv_RX3, pd_6⟩
theorem t_X3_begin : mm_mi yX3_begin cX3_begin 3 none 1 := ⟨cw_a446, lk_of lkAa10 (i := 21) rfl, lk_of lkAa10 (i := 22) rfl, lk_of lkAa10 (i := 20) rfl, ncm_RX3, ncv_RX3, pd_23⟩
theorem t_X3_bury : mm_mi yX3_bury cX3_bury 6 (some .int) 1 := ⟨cw_a568, lk_of lkAa10 (i := 23) rfl, lk_of lkAa10 (i := 24) rfl, lk_of lkAa10 (i := 20) rfl, ncm_RX3, ncv_RX3, pd_3⟩
theorem t_X3_canHandOver : mm_mi yX3_canHandOver cX3_canHandOver 3 (some .boolean) 2 := ⟨cw_a593, lk_of lkAa10 (i := 25) rfl, lk_of lkAa10 (i := 26) rfl, lk_of lkAa10 (i := 20) rfl, ncm_RX3, ncv_RX3, pd_9⟩
theorem t_X3_changeWill : mm_mi yX3_changeWill cX3_changeWill 4 none 3 := ⟨cw_a620, lk_of lkAa10 (i := 27) rfl, lk_of lkAa10 (i := 28) rfl, lk_of lkAa10 (i := 20) rfl, ncm_RX3, ncv_RX3, pd_11⟩
theorem t_X3_copy : mm_mi yX3_copy cX3_copy 3 none 1 := ⟨cw_a563, lk_of lkAa10 (i := 29) rfl, lk_of lkAa10 (i := 30) rfl, lk_of lkAa10 (i := 20) rfl, ncm_RX3, ncv_RX3, pd_21⟩
theorem t_X3_firstAlive : mm_mi yX3_firstAlive cX3_firstAlive 3 (some .int) 2 := ⟨cw_a572, lk_of lkAa10 (i := 31) rfl, lk_of lkAa10 (i := 32) rfl, lk_of lkAa10 (i := 20) rfl, ncm_RX3, ncv_RX3, pd_7⟩
theorem t_X3_firstHeir : mm_mi yX3_firstHeir cX3_firstHeir 2 (some .int) 1 := ⟨cw_a523, lk_of lkAa10 (i := 33) rfl, lk_of lkAa10 (i := 34) rfl, lk_of lkAa10 (i := 20) rfl, ncm_RX3, ncv_RX3, pd_3⟩
theorem t_X3_give : mm_mi yX3_give cX3_give 3 none 2 := ⟨cw_a584, lk_of lkAa10 (i := 35) rfl, lk_of lkAa10 (i := 36) rfl, lk_of lkAa10 (i := 20) rfl, ncm_RX3, ncv_RX3, pd_8⟩
theorem t_X3_handOver : mm_mi yX3_handOver cX3_handOver 4 none 2 := ⟨cw_a597, lk_of lkAa10 (i := 37) rfl, lk_of lkAa10 (i := 38) rfl, lk_of lkAa10 (i := 20) rfl, ncm_RX3, ncv_RX3, pd_8⟩
theorem t_X3_held : mm_mi yX3_held cX3_held 3 (some .int) 0 := ⟨cw_a494, lk_of lkAa10 (i := 39) rfl, lk_of lkAa11 (i := 0) rfl, lk_of lkAa10 (i := 20) rfl, ncm_RX3, ncv_RX3, pd_0⟩
theorem t_X3_isOne : mm_mi yX3_isOne cX3_isOne 2 (some .boolean) 1 := ⟨cw_a515, lk_of lkAa11 (i := 1) rfl, lk_of lkAa11 (i := 2) rfl, lk_of lkAa10 (i := 20) rfl, ncm_RX3, ncv_RX3, pd_6⟩
theorem t_X3_jarOf : mm_mi yX3_jarOf cX3_jarOf 2 (some .int) 1 := ⟨cw_a519, lk_of lkAa11 (i := 3) rfl, lk_of lkAa11 (i := 4) rfl, lk_of lkAa10 (i := 20) rfl, ncm_RX3, ncv_RX3, pd_3⟩
theorem t_X3_leastOf : mm_ms yX3_leastOf cX3_leastOf 1 (some .int) 1 := ⟨cw_a576, lk_of lkAa11 (i := 5) rfl, lk_of lkAa10 (i := 20) rfl, ncm_RX3, ncv_RX3, pd_3⟩
theorem t_X3_lives : mm_mi yX3_lives cX3_lives 2 (some .boolean) 1 := ⟨cw_a498, lk_of lkAa11 (i := 6) rfl, lk_of lkAa11 (i := 7) rfl, lk_of lkAa10 (i := 20) rfl, ncm_RX3, ncv_RX3, pd_6⟩
theorem t_X3_secondHeir : mm_mi yX3_secondHeir cX3_secondHeir 2 (some .int) 1 := ⟨cw_a527, lk_of lkAa11 (i := 8) rfl, lk_of lkAa11 (i := 9) rfl, lk_of lkAa10 (i := 20) rfl, ncm_RX3, ncv_RX3, pd_3⟩
theorem t_X3_silent : mm_mi yX3_silent cX3_silent 3 (some .int) 0 := ⟨cw_a485, lk_of lkAa11 (i := 10) rfl, lk_of lkAa11 (i := 11) rfl, lk_of lkAa10 (i := 20) rfl, ncm_RX3, ncv_RX3, pd_0⟩
theorem t_X3_takeOut : mm_mi yX3_takeOut cX3_takeOut 4 (some .int) 2 := ⟨cw_a608, lk_of lkAa11 (i := 12) rfl, lk_of lkAa11 (i := 13) rfl, lk_of lkAa10 (i := 20) rfl, ncm_RX3, ncv_RX3, pd_7⟩
theorem t_X3_userOf : mm_mi yX3_userOf cX3_userOf 3 (some .int) 1 := ⟨cw_a685, lk_of lkAa11 (i := 14) rfl, lk_of lkAa11 (i := 15) rfl, lk_of lkAa10 (i := 20) rfl, ncm_RX3, ncv_RX3, pd_3⟩
theorem t_X3_usersOf : mm_mi yX3_usersOf cX3_usersOf 4 (some .int) 1 := ⟨cw_a806, lk_of lkAa11 (i := 16) rfl, lk_of lkAa11 (i := 17) rfl, lk_of lkAa10 (i := 20) rfl, ncm_RX3, ncv_RX3, pd_3⟩
theorem t_X3_voiceOf : mm_mi yX3_voiceOf cX3_voiceOf 2 (some .int) 1 := ⟨cw_a511, lk_of lkAa11 (i := 18) rfl, lk_of lkAa11 (i := 19) rfl, lk_of lkAa10 (i := 20) rfl, ncm_RX3, ncv_RX3, pd_3⟩
theorem t_X5_add : mm_mi yX5_add cX5_add 2 none 1 := ⟨cw_a667, lk_of lkAa11 (i := 20) rfl, lk_of lkAa11 (i := 21) rfl, lk_of lkAa11 (i := 22) rfl, ncm_RX5, ncv_RX5, pd_5⟩
theorem t_X5_asNumber : mm_mi yX5_asNumber cX5_asNumber 3 (some .int) 0 := ⟨cw_a866, lk_of lkAa11 (i := 23) rfl, lk_of lkAa11 (i := 24) rfl, lk_of lkAa11 (i := 22) rfl, ncm_RX5, ncv_RX5, pd_0⟩
theorem t_X5_buryIn : mm_mi yX5_buryIn cX5_buryIn 3 none 1 := ⟨cw_a676, lk_of lkAa11 (i := 25) rfl, lk_of lkAa11 (i := 26) rfl, lk_of lkAa11 (i := 22) rfl, ncm_RX5, ncv_RX5, pd_21⟩
theorem t_X5_empty : mm_mi yX5_empty cX5_empty 1 none 0 := ⟨cw_a656, lk_of lkAa11 (i := 27) rfl, lk_of lkAa11 (i := 28) rfl, lk_of lkAa11 (i := 22) rfl, ncm_RX5, ncv_RX5, pd_1⟩
theorem t_X5_firstOne : mm_mi yX5_firstOne cX5_firstOne 1 (some .int) 0 := ⟨cw_a854, lk_of lkAa11 (i := 29) rfl, lk_of lkAa11 (i := 30) rfl, lk_of lkAa11 (i := 22) rfl, ncm_RX5, ncv_RX5, pd_0⟩
theorem t_X5_holds : mm_mi yX5_holds cX5_holds 2 (some .boolean) 1 := ⟨cw_a662, lk_of lkAa11 (i := 31) rfl, lk_of lkAa11 (i := 32) rfl, lk_of lkAa11 (i := 22) rfl, ncm_RX5, ncv_RX5, pd_6⟩
theorem t_X5_memberAt : mm_ms yX5_memberAt cX5_memberAt 4 (some .int) 2 := ⟨cw_a845, lk_of lkAa11 (i := 33) rfl, lk_of lkAa11 (i := 22) rfl, ncm_RX5, ncv_RX5, pd_7⟩
theorem t_X5_readOrder : mm_mi yX5_readOrder cX5_readOrder 6 (some .boolean) 2 := ⟨cw_a652, lk_of lkAa11 (i := 34) rfl, lk_of lkAa11 (i := 35) rfl, lk_of lkAa11 (i := 22) rfl, ncm_RX5, ncv_RX5, pd_16⟩
theorem t_X5_setOrder : mm_mi yX5_setOrder cX5_setOrder 8 none 2 := ⟨cw_a839, lk_of lkAa11 (i := 36) rfl, lk_of lkAa11 (i := 37) rfl, lk_of lkAa11 (i := 22) rfl, ncm_RX5, ncv_RX5, pd_8⟩
theorem t_X6_addDoor : mm_mi yX6_addDoor cX6_addDoor 2 none 1 := ⟨cw_a434, lk_of lkAa11 (i := 38) rfl, lk_of lkAa11 (i := 39) rfl, lk_of lkAa12 (i := 0) rfl, ncm_RX6, ncv_RX6, pd_5⟩
theorem t_X6_addPart : mm_mi yX6_addPart cX6_addPart 2 none 1 := ⟨cw_a442, lk_of lkAa12 (i := 1) rfl, lk_of lkAa12 (i := 2) rfl, lk_of lkAa12 (i := 0) rfl, ncm_RX6, ncv_RX6, pd_5⟩
theorem t_X6_addPerson : mm_mi yX6_addPerson cX6_addPerson 2 none 1 := ⟨cw_a402, lk_of lkAa12 (i := 3) rfl, lk_of lkAa12 (i := 4) rfl, lk_of lkAa12 (i := 0) rfl, ncm_RX6, ncv_RX6, pd_5⟩
theorem t_X6_addWill : mm_mi yX6_addWill cX6_addWill 4 none 3 := ⟨cw_a425, lk_of lkAa12 (i := 5) rfl, lk_of lkAa12 (i := 6) rfl, lk_of lkAa12 (i := 0) rfl, ncm_RX6, ncv_RX6, pd_11⟩
theorem t_X6_empty : mm_mi yX6_empty cX6_empty 1 none 0 := ⟨cw_a359, lk_of lkAa12 (i := 7) rfl, lk_of lkAa12 (i := 8) rfl, lk_of lkAa12 (i := 0) rfl, ncm_RX6, ncv_RX6, pd_1⟩
theorem t_X6_firstToldHeir : mm_mi yX6_firstToldHeir cX6_firstToldHeir 2 (some .int) 1 := ⟨cw_a461, lk_of lkAa12 (i := 9) rfl, lk_of lkAa12 (i := 10) rfl, lk_of lkAa12 (i := 0) rfl, ncm_RX6, ncv_RX6, pd_3⟩
theorem t_X6_hasDoor : mm_mi yX6_hasDoor cX6_hasDoor 2 (some .boolean) 1 := ⟨cw_a545, lk_of lkAa12 (i := 11) rfl, lk_of lkAa12 (i := 12) rfl, lk_of lkAa12 (i := 0) rfl, ncm_RX6, ncv_RX6, pd_6⟩
theorem t_X6_hasPart : mm_mi yX6_hasPart cX6_hasPart 2 (some .boolean) 1 := ⟨cw_a717, lk_of lkAa12 (i := 13) rfl, lk_of lkAa12 (i := 14) rfl, lk_of lkAa12 (i := 0) rfl, ncm_RX6, ncv_RX6, pd_6⟩
theorem t_X6_hasPerson : mm_mi yX6_hasPerson cX6_hasPerson 2 (some .boolean) 1 := ⟨cw_a421, lk_of lkAa12 (i := 15) rfl, lk_of lkAa12 (i := 16) rfl, lk_of lkAa12 (i := 0) rfl, ncm_RX6, ncv_RX6, pd_6⟩
theorem t_X6_hasPersons : mm_mi yX6_hasPersons cX6_hasPersons 2 (some .boolean) 1 := ⟨cw_a772, lk_of lkAa12 (i := 17) rfl, lk_of lkAa12 (i := 18) rfl, lk_of lkAa12 (i := 0) rfl, ncm_RX6, ncv_RX6, pd_6⟩
theorem t_X6_hasVoice : mm_mi yX6_hasVoice cX6_hasVoice 2 (some .boolean) 1 := ⟨cw_a453, lk_of lkAa12 (i := 19) rfl, lk_of lkAa12 (i := 20) rfl, lk_of lkAa12 (i := 0) rfl, ncm_RX6, ncv_RX6, pd_6⟩
theorem t_X6_hasWill : mm_mi yX6_hasWill cX6_hasWill 2 (some .boolean) 1 := ⟨cw_a410, lk_of lkAa12 (i := 21) rfl, lk_of lkAa12 (i := 22) rfl, lk_of lkAa12 (i := 0) rfl, ncm_RX6, ncv_RX6, pd_6⟩
theorem t_X6_knownBy : mm_mi yX6_knownBy cX6_knownBy 2 (some .int) 1 := ⟨cw_a549, lk_of lkAa12 (i := 23) rfl, lk_of lkAa12 (i := 24) rfl, lk_of lkAa12 (i := 0) rfl, ncm_RX6, ncv_RX6, pd_3⟩
theorem t_X6_openTo : mm_mi yX6_openTo cX6_openTo 4 (some .int) 1 := ⟨cw_a531, lk_of lkAa12 (i := 25) rfl, lk_of lkAa12 (i := 26) rfl, lk_of lkAa12 (i := 0) rfl, ncm_RX6, ncv_RX6, pd_3⟩
theorem t_X6_rangeOf : mm_mi yX6_rangeOf cX6_rangeOf 2 (some .int) 1 := ⟨cw_a457, lk_of lkAa12 (i := 27) rfl, lk_of lkAa12 (i := 28) rfl, lk_of lkAa12 (i := 0) rfl, ncm_RX6, ncv_RX6, pd_3⟩
theorem t_X6_secondToldHeir : mm_mi yX6_secondToldHeir cX6_secondToldHeir 2 (some .int) 1 := ⟨cw_a465, lk_of lkAa12 (i := 29) rfl, lk_of lkAa12 (i := 30) rfl, lk_of lkAa12 (i := 0) rfl, ncm_RX6, ncv_RX6, pd_3⟩
theorem t_X6_suits : mm_mi yX6_suits cX6_suits 3 (some .boolean) 2 := ⟨cw_a730, lk_of lkAa12 (i := 31) rfl, lk_of lkAa12 (i := 32) rfl, lk_of lkAa12 (i := 0) rfl, ncm_RX6, ncv_RX6, pd_9⟩
theorem t_X6_voices : mm_mi yX6_voices cX6_voices 3 (some .int) 0 := ⟨cw_a489, lk_of lkAa12 (i := 33) rfl, lk_of lkAa12 (i := 34) rfl, lk_of lkAa12 (i := 0) rfl, ncm_RX6, ncv_RX6, pd_0⟩
theorem t_X7_bringBack : mm_mi yX7_bringBack cX7_bringBack 2 (some .boolean) 1 := ⟨cw_a644, lk_of lkAa12 (i := 35) rfl, lk_of lkAa12 (i := 36) rfl, lk_of lkAa12 (i := 37) rfl, ncm_RX7, ncv_RX7, pd_22⟩
theorem t_X7_forget : mm_mi yX7_forget cX7_forget 1 none 0 := ⟨cw_a473, lk_of lkAa12 (i := 38) rfl, lk_of lkAa12 (i := 39) rfl, lk_of lkAa12 (i := 37) rfl, ncm_RX7, ncv_RX7, pd_1⟩
theorem t_X7_remember : mm_mi yX7_remember cX7_remember 2 none 1 := ⟨cw_a559, lk_of lkAa13 (i := 0) rfl, lk_of lkAa13 (i := 1) rfl, lk_of lkAa12 (i := 37) rfl, ncm_RX7, ncv_RX7, pd_21⟩
theorem t_X8_add : mm_mi yX8_add cX8_add 2 (some .boolean) 1 := ⟨cw_a346, lk_of lkAa13 (i := 2) rfl, lk_of lkAa13 (i := 3) rfl, lk_of lkAa13 (i := 4) rfl, ncm_RX8, ncv_RX8, pd_6⟩
theorem t_X8_blame : mm_mi yX8_blame cX8_blame 3 none 2 := ⟨cw_a383, lk_of lkAa13 (i := 5) rfl, lk_of lkAa13 (i := 6) rfl, lk_of lkAa13 (i := 4) rfl, ncm_RX8, ncv_RX8, pd_8⟩
theorem t_X8_isFigure : mm_ms yX8_isFigure cX8_isFigure 1 (some .boolean) 1 := ⟨cw_a390, lk_of lkAa13 (i := 7) rfl, lk_of lkAa13 (i := 4) rfl, ncm_RX8, ncv_RX8, pd_6⟩
theorem t_X8_isNext : mm_mi yX8_isNext cX8_isNext 2 (some .boolean) 1 := ⟨cw_a398, lk_of lkAa13 (i := 8) rfl, lk_of lkAa13 (i := 9) rfl, lk_of lkAa13 (i := 4) rfl, ncm_RX8, ncv_RX8, pd_6⟩
theorem t_X8_isSound : mm_mi yX8_isSound cX8_isSound 1 (some .boolean) 0 := ⟨cw_a367, lk_of lkAa13 (i := 10) rfl, lk_of lkAa13 (i := 11) rfl, lk_of lkAa13 (i := 4) rfl, ncm_RX8, ncv_RX8, pd_2⟩
theorem t_X8_letterHere : mm_mi yX8_letterHere cX8_letterHere 1 (some .int) 0 := ⟨cw_a375, lk_of lkAa13 (i := 12) rfl, lk_of lkAa13 (i := 13) rfl, lk_of lkAa13 (i := 4) rfl, ncm_RX8, ncv_RX8, pd_0⟩
theorem t_X8_readChoir : mm_mi yX8_readChoir cX8_readChoir 3 none 1 := ⟨cw_a438, lk_of lkAa13 (i := 14) rfl, lk_of lkAa13 (i := 15) rfl, lk_of lkAa13 (i := 4) rfl, ncm_RX8, ncv_RX8, pd_23⟩
theorem t_X8_readClause : mm_mi yX8_readClause cX8_readClause 2 none 1 := ⟨cw_a371, lk_of lkAa13 (i := 16) rfl, lk_of lkAa13 (i := 17) rfl, lk_of lkAa13 (i := 4) rfl, ncm_RX8, ncv_RX8, pd_23⟩
theorem t_X8_readDoor : mm_mi yX8_readDoor cX8_readDoor 3 none 1 := ⟨cw_a430, lk_of lkAa13 (i := 18) rfl, lk_of lkAa13 (i := 19) rfl, lk_of lkAa13 (i := 4) rfl, ncm_RX8, ncv_RX8, pd_23⟩
theorem t_X8_readHeir : mm_mi yX8_readHeir cX8_readHeir 4 (some .int) 2 := ⟨cw_a417, lk_of lkAa13 (i := 20) rfl, lk_of lkAa13 (i := 21) rfl, lk_of lkAa13 (i := 4) rfl, ncm_RX8, ncv_RX8, pd_25⟩
theorem t_X8_readInto : mm_mi yX8_readInto cX8_readInto 3 (some .boolean) 1 := ⟨cw_a355, lk_of lkAa13 (i := 22) rfl, lk_of lkAa13 (i := 23) rfl, lk_of lkAa13 (i := 4) rfl, ncm_RX8, ncv_RX8, pd_24⟩
theorem t_X8_readNumber : mm_mi yX8_readNumber cX8_readNumber 4 (some .int) 1 := ⟨cw_a387, lk_of lkAa13 (i := 24) rfl, lk_of lkAa13 (i := 25) rfl, lk_of lkAa13 (i := 4) rfl, ncm_RX8, ncv_RX8, pd_3⟩
theorem t_X8_readPerson : mm_mi yX8_readPerson cX8_readPerson 3 none 1 := ⟨cw_a379, lk_of lkAa13 (i := 26) rfl, lk_of lkAa13 (i := 27) rfl, lk_of lkAa13 (i := 4) rfl, ncm_RX8, ncv_RX8, pd_23⟩
theorem t_X8_readSign : mm_mi yX8_readSign cX8_readSign 2 (some .boolean) 1 := ⟨cw_a394, lk_of lkAa13 (i := 28) rfl, lk_of lkAa13 (i := 29) rfl, lk_of lkAa13 (i := 4) rfl, ncm_RX8, ncv_RX8, pd_6⟩
theorem t_X8_readWill : mm_mi yX8_readWill cX8_readWill 5 none 1 := ⟨cw_a406, lk_of lkAa13 (i := 30) rfl, lk_of lkAa13 (i := 31) rfl, lk_of lkAa13 (i := 4) rfl, ncm_RX8, ncv_RX8, pd_23⟩
theorem t_X8_skipBlanks : mm_mi yX8_skipBlanks cX8_skipBlanks 1 none 0 := ⟨cw_a363, lk_of lkAa13 (i := 32) rfl, lk_of lkAa13 (i := 33) rfl, lk_of lkAa13 (i := 4) rfl, ncm_RX8, ncv_RX8, pd_1⟩
theorem t_X9_canInherit : mm_mi yX9_canInherit cX9_canInherit 3 (some .boolean) 2 := ⟨cw_a616, lk_of lkAa13 (i := 34) rfl, lk_of lkAa13 (i := 35) rfl, lk_of lkAa13 (i := 36) rfl, ncm_RX9, ncv_RX9, pd_9⟩
theorem t_X9_countOrders : mm_mi yX9_countOrders cX9_countOrders 4 (some .int) 1 := ⟨cw_a858, lk_of lkAa13 (i := 37) rfl, lk_of lkAa13 (i := 38) rfl, lk_of lkAa13 (i := 36) rfl, ncm_RX9, ncv_RX9, pd_3⟩
theorem t_X9_fewestWills : mm_mi yX9_fewestWills cX9_fewestWills 5 (some .int) 2 := ⟨cw_a694, lk_of lkAa13 (i := 39) rfl, lk_of lkAa14 (i := 0) rfl, lk_of lkAa13 (i := 36) rfl, ncm_RX9, ncv_RX9, pd_7⟩
theorem t_X9_firstInAllOrders : mm_mi yX9_firstInAllOrders cX9_firstInAllOrders 4 (some .int) 1 := ⟨cw_a826, lk_of lkAa14 (i := 1) rfl, lk_of lkAa14 (i := 2) rfl, lk_of lkAa13 (i := 36) rfl, ncm_RX9, ncv_RX9, pd_3⟩
theorem t_X9_fitsOrder : mm_mi yX9_fitsOrder cX9_fitsOrder 3 (some .boolean) 2 := ⟨cw_a835, lk_of lkAa14 (i := 3) rfl, lk_of lkAa14 (i := 4) rfl, lk_of lkAa13 (i := 36) rfl, ncm_RX9, ncv_RX9, pd_9⟩
theorem t_X9_helpTogether : mm_mi yX9_helpTogether cX9_helpTogether 7 (some .boolean) 4 := ⟨cw_a703, lk_of lkAa14 (i := 5) rfl, lk_of lkAa14 (i := 6) rfl, lk_of lkAa13 (i := 36) rfl, ncm_RX9, ncv_RX9, pd_14⟩
theorem t_X9_helpsAlone : mm_mi yX9_helpsAlone cX9_helpsAlone 5 (some .boolean) 3 := ⟨cw_a699, lk_of lkAa14 (i := 7) rfl, lk_of lkAa14 (i := 8) rfl, lk_of lkAa13 (i := 36) rfl, ncm_RX9, ncv_RX9, pd_12⟩
theorem t_X9_imageOf : mm_mi yX9_imageOf cX9_imageOf 2 (some (.object "VoiceWills$Image")) 1 := ⟨cw_a890, lk_of lkAa14 (i := 9) rfl, lk_of lkAa14 (i := 10) rfl, lk_of lkAa13 (i := 36) rfl, ncm_RX9, ncv_RX9, pd_4⟩
theorem t_X9_isIn : mm_ms yX9_isIn cX9_isIn 2 (some .boolean) 2 := ⟨cw_a413, lk_of lkAa14 (i := 11) rfl, lk_of lkAa13 (i := 36) rfl, ncm_RX9, ncv_RX9, pd_9⟩
theorem t_X9_isVoiceNumber : mm_ms yX9_isVoiceNumber cX9_isVoiceNumber 1 (some .boolean) 1 := ⟨cw_a501, lk_of lkAa14 (i := 12) rfl, lk_of lkAa13 (i := 36) rfl, ncm_RX9, ncv_RX9, pd_6⟩
theorem t_X9_isVoiceOrNone : mm_ms yX9_isVoiceOrNone cX9_isVoiceOrNone 1 (some .boolean) 1 := ⟨cw_a818, lk_of lkAa14 (i := 13) rfl, lk_of lkAa13 (i := 36) rfl, ncm_RX9, ncv_RX9, pd_6⟩
theorem t_X9_orderNumber : mm_mi yX9_orderNumber cX9_orderNumber 5 (some .int) 2 := ⟨cw_a862, lk_of lkAa14 (i := 14) rfl, lk_of lkAa14 (i := 15) rfl, lk_of lkAa13 (i := 36) rfl, ncm_RX9, ncv_RX9, pd_7⟩
theorem t_X9_ordersOf : mm_ms yX9_ordersOf cX9_ordersOf 2 (some .int) 1 := ⟨cw_a829, lk_of lkAa14 (i := 16) rfl, lk_of lkAa13 (i := 36) rfl, ncm_RX9, ncv_RX9, pd_3⟩
theorem t_X9_passYear : mm_mi yX9_passYear cX9_passYear 3 none 0 := ⟨cw_a628, lk_of lkAa14 (i := 17) rfl, lk_of lkAa14 (i := 18) rfl, lk_of lkAa13 (i := 36) rfl, ncm_RX9, ncv_RX9, pd_1⟩
theorem t_X9_tryLine : mm_mi yX9_tryLine cX9_tryLine 1 none 0 := ⟨cw_a671, lk_of lkAa14 (i := 19) rfl, lk_of lkAa14 (i := 20) rfl, lk_of lkAa13 (i := 36) rfl, ncm_RX9, ncv_RX9, pd_1⟩
theorem t_X9_voicesThatSpoke : mm_mi yX9_voicesThatSpoke cX9_voicesThatSpoke 4 (some .int) 0 := ⟨cw_a794, lk_of lkAa14 (i := 21) rfl, lk_of lkAa14 (i := 22) rfl, lk_of lkAa13 (i := 36) rfl, ncm_RX9, ncv_RX9, pd_0⟩
