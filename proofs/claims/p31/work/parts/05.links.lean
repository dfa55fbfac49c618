theorem lk_of {L : List (Nat × Cond)} (hA : ∀ q ∈ L, lw_tbl[q.1]? = some q.2 ∧ goodWord q.2 = true) {i n : Nat} {w : Cond} (h : L[i]? = some (n, w)) : w ∈ mm_ok := mm_in n (hA _ (List.mem_of_getElem? h)).1 (hA _ (List.mem_of_getElem? h)).2
theorem lk_ofN {L : List (Nat × Cond)} (hA : ∀ q ∈ L, lw_tbl[q.1]? = some q.2 ∧ mm_nw q.2 = true) {i n : Nat} {w : Cond} (h : L[i]? = some (n, w)) : w ∈ mm_nest := mm_inN n (hA _ (List.mem_of_getElem? h)).1 (hA _ (List.mem_of_getElem? h)).2
theorem ncm_RJ6 : RJ6 ≠ "java/lang/invoke/MethodHandle" := by decide
theorem ncv_RJ6 : RJ6 ≠ "java/lang/invoke/VarHandle" := by decide
theorem ncm_RJ9 : RJ9 ≠ "java/lang/invoke/MethodHandle" := by decide
theorem ncv_RJ9 : RJ9 ≠ "java/lang/invoke/VarHandle" := by decide
theorem ncm_RL : RL ≠ "java/lang/invoke/MethodHandle" := by decide
theorem ncv_RL : RL ≠ "java/lang/invoke/VarHandle" := by decide
theorem ncm_RX0 : RX0 ≠ "java/lang/invoke/MethodHandle" := by decide
theorem ncv_RX0 : RX0 ≠ "java/lang/invoke/VarHandle" := by decide
theorem ncm_RX1 : RX1 ≠ "java/lang/invoke/MethodHandle" := by decide
theorem ncv_RX1 : RX1 ≠ "java/lang/invoke/VarHandle" := by decide
theorem ncm_RX10 : RX10 ≠ "java/lang/invoke/MethodHandle" := by decide
theorem ncv_RX10 : RX10 ≠ "java/lang/invoke/VarHandle" := by decide
theorem ncm_RX2 : RX2 ≠ "java/lang/invoke/MethodHandle" := by decide
theorem ncv_RX2 : RX2 ≠ "java/lang/invoke/VarHandle" := by decide
theorem ncm_RX3 : RX3 ≠ "java/lang/invoke/MethodHandle" := by decide
theorem ncv_RX3 : RX3 ≠ "java/lang/invoke/VarHandle" := by decide
theorem ncm_RX4 : RX4 ≠ "java/lang/invoke/MethodHandle" := by decide
theorem ncv_RX4 : RX4 ≠ "java/lang/invoke/VarHandle" := by decide
theorem ncm_RX5 : RX5 ≠ "java/lang/invoke/MethodHandle" := by decide
theorem ncv_RX5 : RX5 ≠ "java/lang/invoke/VarHandle" := by decide
theorem ncm_RX6 : RX6 ≠ "java/lang/invoke/MethodHandle" := by decide
theorem ncv_RX6 : RX6 ≠ "java/lang/invoke/VarHandle" := by decide
theorem ncm_RX7 : RX7 ≠ "java/lang/invoke/MethodHandle" := by decide
theorem ncv_RX7 : RX7 ≠ "java/lang/invoke/VarHandle" := by decide
theorem ncm_RX8 : RX8 ≠ "java/lang/invoke/MethodHandle" := by decide
theorem ncv_RX8 : RX8 ≠ "java/lang/invoke/VarHandle" := by decide
theorem ncm_RX9 : RX9 ≠ "java/lang/invoke/MethodHandle" := by decide
theorem ncv_RX9 : RX9 ≠ "java/lang/invoke/VarHandle" := by decide
theorem pd_0 : (parseMethodDescriptor "()I").map (fun d => d.parameters.length) = some 0 := by decide +kernel
theorem pd_1 : (parseMethodDescriptor "()V").map (fun d => d.parameters.length) = some 0 := by decide +kernel
theorem pd_2 : (parseMethodDescriptor "()Z").map (fun d => d.parameters.length) = some 0 := by decide +kernel
theorem pd_3 : (parseMethodDescriptor "(I)I").map (fun d => d.parameters.length) = some 1 := by decide +kernel
theorem pd_4 : (parseMethodDescriptor "(I)LVoiceWills$Image;").map (fun d => d.parameters.length) = some 1 := by decide +kernel
theorem pd_5 : (parseMethodDescriptor "(I)V").map (fun d => d.parameters.length) = some 1 := by decide +kernel
theorem pd_6 : (parseMethodDescriptor "(I)Z").map (fun d => d.parameters.length) = some 1 := by decide +kernel
theorem pd_7 : (parseMethodDescriptor "(II)I").map (fun d => d.parameters.length) = some 2 := by decide +kernel
theorem pd_8 : (parseMethodDescriptor "(II)V").map (fun d => d.parameters.length) = some 2 := by decide +kernel
theorem pd_9 : (parseMethodDescriptor "(II)Z").map (fun d => d.parameters.length) = some 2 := by decide +kernel
theorem pd_10 : (parseMethodDescriptor "(III)I").map (fun d => d.parameters.length) = some 3 := by decide +kernel
theorem pd_11 : (parseMethodDescriptor "(III)V").map (fun d => d.parameters.length) = some 3 := by decide +kernel
theorem pd_12 : (parseMethodDescriptor "(III)Z").map (fun d => d.parameters.length) = some 3 := by decide +kernel
theorem pd_13 : (parseMethodDescriptor "(IIII)I").map (fun d => d.parameters.length) = some 4 := by decide +kernel
theorem pd_14 : (parseMethodDescriptor "(IIII)Z").map (fun d => d.parameters.length) = some 4 := by decide +kernel
theorem pd_15 : (parseMethodDescriptor "(IIIII)Z").map (fun d => d.parameters.length) = some 5 := by decide +kernel
theorem pd_16 : (parseMethodDescriptor "(ILVoiceWills$Folk;)Z").map (fun d => d.parameters.length) = some 2 := by decide +kernel
theorem pd_17 : (parseMethodDescriptor "(ILVoiceWills$Parish;LVoiceWills$Folk;)I").map (fun d => d.parameters.length) = some 3 := by decide +kernel
theorem pd_18 : (parseMethodDescriptor "(IZ)I").map (fun d => d.parameters.length) = some 2 := by decide +kernel
theorem pd_19 : (parseMethodDescriptor "(JJJ)Z").map (fun d => d.parameters.length) = some 3 := by decide +kernel
theorem pd_20 : (parseMethodDescriptor "(LVoiceWills$Folk;)I").map (fun d => d.parameters.length) = some 1 := by decide +kernel
theorem pd_21 : (parseMethodDescriptor "(LVoiceWills$Folk;)V").map (fun d => d.parameters.length) = some 1 := by decide +kernel
theorem pd_22 : (parseMethodDescriptor "(LVoiceWills$Folk;)Z").map (fun d => d.parameters.length) = some 1 := by decide +kernel
theorem pd_23 : (parseMethodDescriptor "(LVoiceWills$Parish;)V").map (fun d => d.parameters.length) = some 1 := by decide +kernel
theorem pd_24 : (parseMethodDescriptor "(LVoiceWills$Parish;)Z").map (fun d => d.parameters.length) = some 1 := by decide +kernel
theorem pd_25 : (parseMethodDescriptor "(LVoiceWills$Parish;I)I").map (fun d => d.parameters.length) = some 2 := by decide +kernel
theorem pd_26 : (parseMethodDescriptor "(LVoiceWills$Parish;LVoiceWills$Folk;)V").map (fun d => d.parameters.length) = some 2 := by decide +kernel
theorem pd_27 : (parseMethodDescriptor "(Z)Z").map (fun d => d.parameters.length) = some 1 := by decide +kernel
theorem pd_28 : (parseMethodDescriptor "([I)I").map (fun d => d.parameters.length) = some 1 := by decide +kernel
theorem pd_29 : (parseMethodDescriptor "([I)V").map (fun d => d.parameters.length) = some 1 := by decide +kernel
theorem pd_30 : (parseMethodDescriptor "([I)Z").map (fun d => d.parameters.length) = some 1 := by decide +kernel
theorem pd_31 : (parseMethodDescriptor "([II)I").map (fun d => d.parameters.length) = some 2 := by decide +kernel
theorem pd_32 : (parseMethodDescriptor "([II)Z").map (fun d => d.parameters.length) = some 2 := by decide +kernel
theorem pd_33 : (parseMethodDescriptor "([III)V").map (fun d => d.parameters.length) = some 3 := by decide +kernel
theorem pd_34 : (parseMethodDescriptor "([II[III)V").map (fun d => d.parameters.length) = some 5 := by decide +kernel
def lkLa0 : List (Nat × Cond) := [(26, Cond.selects RX0 yX0_isFree yX0_isFree), (27, Cond.selects RX0 yX0_leastSinger yX0_leastSinger), (24, Cond.selects RX0 yX0_mostFrom yX0_mostFrom), (25, Cond.selects RX0 yX0_sungFrom yX0_sungFrom), (62, Cond.selects RX10 yX10_allDie yX10_allDie), (49, Cond.selects RX10 yX10_allVoices yX10_allVoices), (34, Cond.selects RX10 yX10_begins yX10_begins), (63, Cond.selects RX10 yX10_canBe yX10_canBe), (53, Cond.selects RX10 yX10_dies yX10_dies), (59, Cond.selects RX10 yX10_draw yX10_draw), (41, Cond.selects RX10 yX10_ends yX10_ends), (39, Cond.selects RX10 yX10_fails yX10_fails), (55, Cond.selects RX10 yX10_gets yX10_gets), (64, Cond.selects RX10 yX10_heirOf yX10_heirOf), (36, Cond.selects RX10 yX10_here yX10_here), (47, Cond.selects RX10 yX10_isAlive yX10_isAlive), (58, Cond.selects RX10 yX10_isHeir yX10_isHeir), (60, Cond.selects RX10 yX10_isOrder yX10_isOrder), (50, Cond.selects RX10 yX10_isPerson yX10_isPerson), (68, Cond.selects RX10 yX10_isSet yX10_isSet), (70, Cond.selects RX10 yX10_isSo yX10_isSo), (43, Cond.selects RX10 yX10_isTold yX10_isTold), (61, Cond.selects RX10 yX10_layAside yX10_layAside), (65, Cond.selects RX10 yX10_layTable yX10_layTable), (54, Cond.selects RX10 yX10_leastMute yX10_leastMute), (48, Cond.selects RX10 yX10_lost yX10_lost), (56, Cond.selects RX10 yX10_maySell yX10_maySell), (67, Cond.selects RX10 yX10_maySing yX10_maySing), (40, Cond.selects RX10 yX10_number yX10_number), (51, Cond.selects RX10 yX10_openTo yX10_openTo), (37, Cond.selects RX10 yX10_readsClause yX10_readsClause), (44, Cond.selects RX10 yX10_readsDoor yX10_readsDoor), (45, Cond.selects RX10 yX10_readsParts yX10_readsParts), (38, Cond.selects RX10 yX10_readsPerson yX10_readsPerson), (42, Cond.selects RX10 yX10_readsWill yX10_readsWill), (52, Cond.selects RX10 yX10_remember yX10_remember), (57, Cond.selects RX10 yX10_sells yX10_sells), (35, Cond.selects RX10 yX10_step yX10_step), (66, Cond.selects RX10 yX10_sungBy yX10_sungBy), (46, Cond.selects RX10 yX10_usesNone yX10_usesNone)]
set_option maxRecDepth 100000 in
theorem lkAa0 : ∀ q ∈ lkLa0, lw_tbl[q.1]? = some q.2 ∧ goodWord q.2 = true := by decide +kernel
def lkLa1 : List (Nat × Cond) := [(69, Cond.selects RX10 yX10_voices yX10_voices), (14, Cond.selects RX3 yX3_firstAlive yX3_firstAlive), (15, Cond.selects RX3 yX3_give yX3_give), (13, Cond.selects RX3 yX3_isOne yX3_isOne), (19, Cond.selects RX5 yX5_add yX5_add), (18, Cond.selects RX5 yX5_empty yX5_empty), (5, Cond.selects RX8 yX8_blame yX8_blame), (8, Cond.selects RX8 yX8_isNext yX8_isNext), (1, Cond.selects RX8 yX8_isSound yX8_isSound), (3, Cond.selects RX8 yX8_letterHere yX8_letterHere), (12, Cond.selects RX8 yX8_readChoir yX8_readChoir), (2, Cond.selects RX8 yX8_readClause yX8_readClause), (11, Cond.selects RX8 yX8_readDoor yX8_readDoor), (10, Cond.selects RX8 yX8_readHeir yX8_readHeir), (6, Cond.selects RX8 yX8_readNumber yX8_readNumber), (4, Cond.selects RX8 yX8_readPerson yX8_readPerson), (7, Cond.selects RX8 yX8_readSign yX8_readSign), (9, Cond.selects RX8 yX8_readWill yX8_readWill), (0, Cond.selects RX8 yX8_skipBlanks yX8_skipBlanks), (16, Cond.selects RX9 yX9_canInherit yX9_canInherit), (31, Cond.selects RX9 yX9_countOrders yX9_countOrders), (21, Cond.selects RX9 yX9_fewestWills yX9_fewestWills), (29, Cond.selects RX9 yX9_firstInAllOrders yX9_firstInAllOrders), (30, Cond.selects RX9 yX9_fitsOrder yX9_fitsOrder), (23, Cond.selects RX9 yX9_helpTogether yX9_helpTogether), (22, Cond.selects RX9 yX9_helpsAlone yX9_helpsAlone), (33, Cond.selects RX9 yX9_imageOf yX9_imageOf), (32, Cond.selects RX9 yX9_orderNumber yX9_orderNumber), (17, Cond.selects RX9 yX9_passYear yX9_passYear), (20, Cond.selects RX9 yX9_tryLine yX9_tryLine), (28, Cond.selects RX9 yX9_voicesThatSpoke yX9_voicesThatSpoke)]
set_option maxRecDepth 100000 in
theorem lkAa1 : ∀ q ∈ lkLa1, lw_tbl[q.1]? = some q.2 ∧ goodWord q.2 = true := by decide +kernel
def lkMa0 : List (Nat × Cond) := [(841, Cond.fieldLinkNest RX5 45 "VoiceWills" "ORDERS_OF" "[I" "VoiceWills"), (747, Cond.methodLinkNest RX0 62 yX9_isIn "VoiceWills"), (499, Cond.methodLinkNest RX3 62 yX9_isVoiceNumber "VoiceWills"), (585, Cond.methodLinkNest RX3 65 yX9_isIn "VoiceWills"), (663, Cond.methodLinkNest RX5 57 yX9_isIn "VoiceWills"), (411, Cond.methodLinkNest RX6 48 yX9_isIn "VoiceWills")]
set_option maxRecDepth 100000 in
theorem lkBa0 : ∀ q ∈ lkMa0, lw_tbl[q.1]? = some q.2 ∧ mm_nw q.2 = true := by decide +kernel
theorem mm_inT {w : Cond} (h : w ∈ lw_tbl) (hg : goodWord w = true) : w ∈ mm_ok := List.mem_filter.mpr ⟨h, hg⟩
theorem tm_1 {w : Cond} (h : w ∈ tables_1_1) : w ∈ lw_tbl := List.mem_append_right _ (List.mem_append_left _ h)
theorem tm_2 {w : Cond} (h : w ∈ tables_1_2) : w ∈ lw_tbl := List.mem_append_right _ (List.mem_append_right _ (List.mem_append_left _ h))
theorem tm_3 {w : Cond} (h : w ∈ tables_1_3) : w ∈ lw_tbl := List.mem_append_right _ (List.mem_append_right _ (List.mem_append_right _ (List.mem_append_left _ h)))
theorem tm_4 {w : Cond} (h : w ∈ tables_1_4) : w ∈ lw_tbl := List.mem_append_right _ (List.mem_append_right _ (List.mem_append_right _ (List.mem_append_right _ (List.mem_append_left _ h))))
theorem tm_5 {w : Cond} (h : w ∈ tables_1_5) : w ∈ lw_tbl := List.mem_append_right _ (List.mem_append_right _ (List.mem_append_right _ (List.mem_append_right _ (List.mem_append_right _ (List.mem_append_left _ h)))))
theorem tm_6 {w : Cond} (h : w ∈ tables_1_6) : w ∈ lw_tbl := List.mem_append_right _ (List.mem_append_right _ (List.mem_append_right _ (List.mem_append_right _ (List.mem_append_right _ (List.mem_append_right _ (h))))))
set_option maxRecDepth 100000 in
theorem cw_a271 : Cond.fieldLink RX0 15 (TX0 1).1 (TX0 1).2.1 (TX0 1).2.2.1 ∈ mm_ok := by first | exact mm_inT (tm_1 (List.mem_of_getElem? (i := 200) rfl)) rfl | exact mm_in 271 (by decide +kernel) rfl
set_option maxRecDepth 100000 in
theorem cw_a272 : Cond.fieldLink RX0 20 (TX0 2).1 (TX0 2).2.1 (TX0 2).2.2.1 ∈ mm_ok := by first | exact mm_inT (tm_1 (List.mem_of_getElem? (i := 201) rfl)) rfl | exact mm_in 272 (by decide +kernel) rfl
set_option maxRecDepth 100000 in
theorem cw_a270 : Cond.fieldLink RX0 9 (TX0 0).1 (TX0 0).2.1 (TX0 0).2.2.1 ∈ mm_ok := by first | exact mm_inT (tm_1 (List.mem_of_getElem? (i := 199) rfl)) rfl | exact mm_in 270 (by decide +kernel) rfl
set_option maxRecDepth 100000 in
theorem cw_a937 : Cond.fieldLink RX10 102 (TX10 21).1 (TX10 21).2.1 (TX10 21).2.2.1 ∈ mm_ok := by first | exact mm_inT (tm_4 (List.mem_of_getElem? (i := 146) rfl)) rfl | exact mm_in 937 (by decide +kernel) rfl
set_option maxRecDepth 100000 in
theorem cw_a938 : Cond.fieldLink RX10 105 (TX10 22).1 (TX10 22).2.1 (TX10 22).2.2.1 ∈ mm_ok := by first | exact mm_inT (tm_4 (List.mem_of_getElem? (i := 147) rfl)) rfl | exact mm_in 938 (by decide +kernel) rfl
set_option maxRecDepth 100000 in
theorem cw_a939 : Cond.fieldLink RX10 112 (TX10 23).1 (TX10 23).2.1 (TX10 23).2.2.1 ∈ mm_ok := by first | exact mm_inT (tm_4 (List.mem_of_getElem? (i := 148) rfl)) rfl | exact mm_in 939 (by decide +kernel) rfl
set_option maxRecDepth 100000 in
theorem cw_a917 : Cond.fieldLink RX10 13 (TX10 1).1 (TX10 1).2.1 (TX10 1).2.2.1 ∈ mm_ok := by first | exact mm_inT (tm_4 (List.mem_of_getElem? (i := 126) rfl)) rfl | exact mm_in 917 (by decide +kernel) rfl
set_option maxRecDepth 100000 in
theorem cw_a918 : Cond.fieldLink RX10 16 (TX10 2).1 (TX10 2).2.1 (TX10 2).2.2.1 ∈ mm_ok := by first | exact mm_inT (tm_4 (List.mem_of_getElem? (i := 127) rfl)) rfl | exact mm_in 918 (by decide +kernel) rfl
set_option maxRecDepth 100000 in
theorem cw_a919 : Cond.fieldLink RX10 19 (TX10 3).1 (TX10 3).2.1 (TX10 3).2.2.1 ∈ mm_ok := by first | exact mm_inT (tm_4 (List.mem_of_getElem? (i := 128) rfl)) rfl | exact mm_in 919 (by decide +kernel) rfl
set_option maxRecDepth 100000 in
theorem cw_a924 : Cond.fieldLink RX10 211 (TX10 8).1 (TX10 8).2.1 (TX10 8).2.2.1 ∈ mm_ok := by first | exact mm_inT (tm_4 (List.mem_of_getElem? (i := 133) rfl)) rfl | exact mm_in 924 (by decide +kernel) rfl
set_option maxRecDepth 100000 in
theorem cw_a920 : Cond.fieldLink RX10 22 (TX10 4).1 (TX10 4).2.1 (TX10 4).2.2.1 ∈ mm_ok := by first | exact mm_inT (tm_4 (List.mem_of_getElem? (i := 129) rfl)) rfl | exact mm_in 920 (by decide +kernel) rfl
set_option maxRecDepth 100000 in
theorem cw_a922 : Cond.fieldLink RX10 25 (TX10 6).1 (TX10 6).2.1 (TX10 6).2.2.1 ∈ mm_ok := by first | exact mm_inT (tm_4 (List.mem_of_getElem? (i := 131) rfl)) rfl | exact mm_in 922 (by decide +kernel) rfl
set_option maxRecDepth 100000 in
theorem cw_a923 : Cond.fieldLink RX10 28 (TX10 7).1 (TX10 7).2.1 (TX10 7).2.2.1 ∈ mm_ok := by first | exact mm_inT (tm_4 (List.mem_of_getElem? (i := 132) rfl)) rfl | exact mm_in 923 (by decide +kernel) rfl
set_option maxRecDepth 100000 in
theorem cw_a925 : Cond.fieldLink RX10 32 (TX10 9).1 (TX10 9).2.1 (TX10 9).2.2.1 ∈ mm_ok := by first | exact mm_inT (tm_4 (List.mem_of_getElem? (i := 134) rfl)) rfl | exact mm_in 925 (by decide +kernel) rfl
set_option maxRecDepth 100000 in
theorem cw_a927 : Cond.fieldLink RX10 35 (TX10 11).1 (TX10 11).2.1 (TX10 11).2.2.1 ∈ mm_ok := by first | exact mm_inT (tm_4 (List.mem_of_getElem? (i := 136) rfl)) rfl | exact mm_in 927 (by decide +kernel) rfl
set_option maxRecDepth 100000 in
theorem cw_a928 : Cond.fieldLink RX10 39 (TX10 12).1 (TX10 12).2.1 (TX10 12).2.2.1 ∈ mm_ok := by first | exact mm_inT (tm_4 (List.mem_of_getElem? (i := 137) rfl)) rfl | exact mm_in 928 (by decide +kernel) rfl
set_option maxRecDepth 100000 in
theorem cw_a930 : Cond.fieldLink RX10 42 (TX10 14).1 (TX10 14).2.1 (TX10 14).2.2.1 ∈ mm_ok := by first | exact mm_inT (tm_4 (List.mem_of_getElem? (i := 139) rfl)) rfl | exact mm_in 930 (by decide +kernel) rfl
set_option maxRecDepth 100000 in
theorem cw_a932 : Cond.fieldLink RX10 45 (TX10 16).1 (TX10 16).2.1 (TX10 16).2.2.1 ∈ mm_ok := by first | exact mm_inT (tm_4 (List.mem_of_getElem? (i := 141) rfl)) rfl | exact mm_in 932 (by decide +kernel) rfl
set_option maxRecDepth 100000 in
theorem cw_a940 : Cond.fieldLink RX10 48 (TX10 24).1 (TX10 24).2.1 (TX10 24).2.2.1 ∈ mm_ok := by first | exact mm_inT (tm_4 (List.mem_of_getElem? (i := 149) rfl)) rfl | exact mm_in 940 (by decide +kernel) rfl
set_option maxRecDepth 100000 in
theorem cw_a916 : Cond.fieldLink RX10 7 (TX10 0).1 (TX10 0).2.1 (TX10 0).2.2.1 ∈ mm_ok := by first | exact mm_inT (tm_4 (List.mem_of_getElem? (i := 125) rfl)) rfl | exact mm_in 916 (by decide +kernel) rfl
set_option maxRecDepth 100000 in
theorem cw_a921 : Cond.fieldLink RX10 70 (TX10 5).1 (TX10 5).2.1 (TX10 5).2.2.1 ∈ mm_ok := by first | exact mm_inT (tm_4 (List.mem_of_getElem? (i := 130) rfl)) rfl | exact mm_in 921 (by decide +kernel) rfl
set_option maxRecDepth 100000 in
theorem cw_a929 : Cond.fieldLink RX10 73 (TX10 13).1 (TX10 13).2.1 (TX10 13).2.2.1 ∈ mm_ok := by first | exact mm_inT (tm_4 (List.mem_of_getElem? (i := 138) rfl)) rfl | exact mm_in 929 (by decide +kernel) rfl
set_option maxRecDepth 100000 in
theorem cw_a931 : Cond.fieldLink RX10 76 (TX10 15).1 (TX10 15).2.1 (TX10 15).2.2.1 ∈ mm_ok := by first | exact mm_inT (tm_4 (List.mem_of_getElem? (i := 140) rfl)) rfl | exact mm_in 931 (by decide +kernel) rfl
set_option maxRecDepth 100000 in
theorem cw_a933 : Cond.fieldLink RX10 79 (TX10 17).1 (TX10 17).2.1 (TX10 17).2.2.1 ∈ mm_ok := by first | exact mm_inT (tm_4 (List.mem_of_getElem? (i := 142) rfl)) rfl | exact mm_in 933 (by decide +kernel) rfl
set_option maxRecDepth 100000 in
theorem cw_a926 : Cond.fieldLink RX10 85 (TX10 10).1 (TX10 10).2.1 (TX10 10).2.2.1 ∈ mm_ok := by first | exact mm_inT (tm_4 (List.mem_of_getElem? (i := 135) rfl)) rfl | exact mm_in 926 (by decide +kernel) rfl
set_option maxRecDepth 100000 in
theorem cw_a934 : Cond.fieldLink RX10 89 (TX10 18).1 (TX10 18).2.1 (TX10 18).2.2.1 ∈ mm_ok := by first | exact mm_inT (tm_4 (List.mem_of_getElem? (i := 143) rfl)) rfl | exact mm_in 934 (by decide +kernel) rfl
set_option maxRecDepth 100000 in
theorem cw_a935 : Cond.fieldLink RX10 96 (TX10 19).1 (TX10 19).2.1 (TX10 19).2.2.1 ∈ mm_ok := by first | exact mm_inT (tm_4 (List.mem_of_getElem? (i := 144) rfl)) rfl | exact mm_in 935 (by decide +kernel) rfl
set_option maxRecDepth 100000 in
theorem cw_a936 : Cond.fieldLink RX10 99 (TX10 20).1 (TX10 20).2.1 (TX10 20).2.2.1 ∈ mm_ok := by first | exact mm_inT (tm_4 (List.mem_of_getElem? (i := 145) rfl)) rfl | exact mm_in 936 (by decide +kernel) rfl
set_option maxRecDepth 100000 in
theorem cw_a221 : Cond.fieldLink RX1 7 (TX1 0).1 (TX1 0).2.1 (TX1 0).2.2.1 ∈ mm_ok := by first | exact mm_inT (tm_1 (List.mem_of_getElem? (i := 150) rfl)) rfl | exact mm_in 221 (by decide +kernel) rfl
set_option maxRecDepth 100000 in
theorem cw_a237 : Cond.fieldLink RX2 15 (TX2 1).1 (TX2 1).2.1 (TX2 1).2.2.1 ∈ mm_ok := by first | exact mm_inT (tm_1 (List.mem_of_getElem? (i := 166) rfl)) rfl | exact mm_in 237 (by decide +kernel) rfl
set_option maxRecDepth 100000 in
theorem cw_a238 : Cond.fieldLink RX2 21 (TX2 2).1 (TX2 2).2.1 (TX2 2).2.2.1 ∈ mm_ok := by first | exact mm_inT (tm_1 (List.mem_of_getElem? (i := 167) rfl)) rfl | exact mm_in 238 (by decide +kernel) rfl
set_option maxRecDepth 100000 in
theorem cw_a235 : Cond.fieldLink RX2 24 (TX2 0).1 (TX2 0).2.1 (TX2 0).2.2.1 ∈ mm_ok := by first | exact mm_inT (tm_1 (List.mem_of_getElem? (i := 164) rfl)) rfl | exact mm_in 235 (by decide +kernel) rfl
set_option maxRecDepth 100000 in
theorem cw_a175 : Cond.fieldLink RX3 15 (TX3 4).1 (TX3 4).2.1 (TX3 4).2.2.1 ∈ mm_ok := by first | exact mm_inT (tm_1 (List.mem_of_getElem? (i := 104) rfl)) rfl | exact mm_in 175 (by decide +kernel) rfl
set_option maxRecDepth 100000 in
theorem cw_a176 : Cond.fieldLink RX3 18 (TX3 5).1 (TX3 5).2.1 (TX3 5).2.2.1 ∈ mm_ok := by first | exact mm_inT (tm_1 (List.mem_of_getElem? (i := 105) rfl)) rfl | exact mm_in 176 (by decide +kernel) rfl
set_option maxRecDepth 100000 in
theorem cw_a177 : Cond.fieldLink RX3 21 (TX3 6).1 (TX3 6).2.1 (TX3 6).2.2.1 ∈ mm_ok := by first | exact mm_inT (tm_1 (List.mem_of_getElem? (i := 106) rfl)) rfl | exact mm_in 177 (by decide +kernel) rfl
set_option maxRecDepth 100000 in
theorem cw_a129 : Cond.fieldLink RX3 24 (TX6 0).1 (TX6 0).2.1 (TX6 0).2.2.1 ∈ mm_ok := by first | exact mm_inT (tm_1 (List.mem_of_getElem? (i := 58) rfl)) rfl | exact mm_in 129 (by decide +kernel) rfl
set_option maxRecDepth 100000 in
theorem cw_a173 : Cond.fieldLink RX3 36 (TX3 2).1 (TX3 2).2.1 (TX3 2).2.2.1 ∈ mm_ok := by first | exact mm_inT (tm_1 (List.mem_of_getElem? (i := 102) rfl)) rfl | exact mm_in 173 (by decide +kernel) rfl
set_option maxRecDepth 100000 in
theorem cw_a169 : Cond.fieldLink RX3 39 (TX3 0).1 (TX3 0).2.1 (TX3 0).2.2.1 ∈ mm_ok := by first | exact mm_inT (tm_1 (List.mem_of_getElem? (i := 98) rfl)) rfl | exact mm_in 169 (by decide +kernel) rfl
set_option maxRecDepth 100000 in
theorem cw_a171 : Cond.fieldLink RX3 42 (TX3 1).1 (TX3 1).2.1 (TX3 1).2.2.1 ∈ mm_ok := by first | exact mm_inT (tm_1 (List.mem_of_getElem? (i := 100) rfl)) rfl | exact mm_in 171 (by decide +kernel) rfl
set_option maxRecDepth 100000 in
theorem cw_a174 : Cond.fieldLink RX3 9 (TX3 3).1 (TX3 3).2.1 (TX3 3).2.2.1 ∈ mm_ok := by first | exact mm_inT (tm_1 (List.mem_of_getElem? (i := 103) rfl)) rfl | exact mm_in 174 (by decide +kernel) rfl
set_option maxRecDepth 100000 in
theorem cw_a252 : Cond.fieldLink RX5 15 (TX5 0).1 (TX5 0).2.1 (TX5 0).2.2.1 ∈ mm_ok := by first | exact mm_inT (tm_1 (List.mem_of_getElem? (i := 181) rfl)) rfl | exact mm_in 252 (by decide +kernel) rfl
set_option maxRecDepth 100000 in
theorem cw_a253 : Cond.fieldLink RX5 19 (TX5 1).1 (TX5 1).2.1 (TX5 1).2.2.1 ∈ mm_ok := by first | exact mm_inT (tm_1 (List.mem_of_getElem? (i := 182) rfl)) rfl | exact mm_in 253 (by decide +kernel) rfl
set_option maxRecDepth 100000 in
theorem cw_a254 : Cond.fieldLink RX5 9 (TX5 2).1 (TX5 2).2.1 (TX5 2).2.2.1 ∈ mm_ok := by first | exact mm_inT (tm_1 (List.mem_of_getElem? (i := 183) rfl)) rfl | exact mm_in 254 (by decide +kernel) rfl
set_option maxRecDepth 100000 in
theorem cw_a140 : Cond.fieldLink RX6 15 (TX6 5).1 (TX6 5).2.1 (TX6 5).2.2.1 ∈ mm_ok := by first | exact mm_inT (tm_1 (List.mem_of_getElem? (i := 69) rfl)) rfl | exact mm_in 140 (by decide +kernel) rfl
set_option maxRecDepth 100000 in
theorem cw_a141 : Cond.fieldLink RX6 18 (TX6 6).1 (TX6 6).2.1 (TX6 6).2.2.1 ∈ mm_ok := by first | exact mm_inT (tm_1 (List.mem_of_getElem? (i := 70) rfl)) rfl | exact mm_in 141 (by decide +kernel) rfl
set_option maxRecDepth 100000 in
theorem cw_a142 : Cond.fieldLink RX6 21 (TX6 7).1 (TX6 7).2.1 (TX6 7).2.2.1 ∈ mm_ok := by first | exact mm_inT (tm_1 (List.mem_of_getElem? (i := 71) rfl)) rfl | exact mm_in 142 (by decide +kernel) rfl
set_option maxRecDepth 100000 in
theorem cw_a143 : Cond.fieldLink RX6 24 (TX6 8).1 (TX6 8).2.1 (TX6 8).2.2.1 ∈ mm_ok := by first | exact mm_inT (tm_1 (List.mem_of_getElem? (i := 72) rfl)) rfl | exact mm_in 143 (by decide +kernel) rfl
set_option maxRecDepth 100000 in
theorem cw_a128 : Cond.fieldLink RX6 27 (TX6 0).1 (TX6 0).2.1 (TX6 0).2.2.1 ∈ mm_ok := by first | exact mm_inT (tm_1 (List.mem_of_getElem? (i := 57) rfl)) rfl | exact mm_in 128 (by decide +kernel) rfl
set_option maxRecDepth 100000 in
theorem cw_a132 : Cond.fieldLink RX6 31 (TX6 1).1 (TX6 1).2.1 (TX6 1).2.2.1 ∈ mm_ok := by first | exact mm_inT (tm_1 (List.mem_of_getElem? (i := 61) rfl)) rfl | exact mm_in 132 (by decide +kernel) rfl
set_option maxRecDepth 100000 in
theorem cw_a135 : Cond.fieldLink RX6 34 (TX6 2).1 (TX6 2).2.1 (TX6 2).2.2.1 ∈ mm_ok := by first | exact mm_inT (tm_1 (List.mem_of_getElem? (i := 64) rfl)) rfl | exact mm_in 135 (by decide +kernel) rfl
set_option maxRecDepth 100000 in
theorem cw_a138 : Cond.fieldLink RX6 37 (TX6 3).1 (TX6 3).2.1 (TX6 3).2.2.1 ∈ mm_ok := by first | exact mm_inT (tm_1 (List.mem_of_getElem? (i := 67) rfl)) rfl | exact mm_in 138 (by decide +kernel) rfl
set_option maxRecDepth 100000 in
theorem cw_a139 : Cond.fieldLink RX6 9 (TX6 4).1 (TX6 4).2.1 (TX6 4).2.2.1 ∈ mm_ok := by first | exact mm_inT (tm_1 (List.mem_of_getElem? (i := 68) rfl)) rfl | exact mm_in 139 (by decide +kernel) rfl
set_option maxRecDepth 100000 in
theorem cw_a205 : Cond.fieldLink RX7 11 (TX7 2).1 (TX7 2).2.1 (TX7 2).2.2.1 ∈ mm_ok := by first | exact mm_inT (tm_1 (List.mem_of_getElem? (i := 134) rfl)) rfl | exact mm_in 205 (by decide +kernel) rfl
set_option maxRecDepth 100000 in
theorem cw_a202 : Cond.fieldLink RX7 18 (TX7 0).1 (TX7 0).2.1 (TX7 0).2.2.1 ∈ mm_ok := by first | exact mm_inT (tm_1 (List.mem_of_getElem? (i := 131) rfl)) rfl | exact mm_in 202 (by decide +kernel) rfl
set_option maxRecDepth 100000 in
theorem cw_a204 : Cond.fieldLink RX7 22 (TX7 1).1 (TX7 1).2.1 (TX7 1).2.2.1 ∈ mm_ok := by first | exact mm_inT (tm_1 (List.mem_of_getElem? (i := 133) rfl)) rfl | exact mm_in 204 (by decide +kernel) rfl
set_option maxRecDepth 100000 in
theorem cw_a137 : Cond.fieldLink RX8 102 (TX6 2).1 (TX6 2).2.1 (TX6 2).2.2.1 ∈ mm_ok := by first | exact mm_inT (tm_1 (List.mem_of_getElem? (i := 66) rfl)) rfl | exact mm_in 137 (by decide +kernel) rfl
set_option maxRecDepth 100000 in
theorem cw_a107 : Cond.fieldLink RX8 15 (TX8 5).1 (TX8 5).2.1 (TX8 5).2.2.1 ∈ mm_ok := by first | exact mm_inT (tm_1 (List.mem_of_getElem? (i := 36) rfl)) rfl | exact mm_in 107 (by decide +kernel) rfl
set_option maxRecDepth 100000 in
theorem cw_a99 : Cond.fieldLink RX8 19 (TX8 0).1 (TX8 0).2.1 (TX8 0).2.2.1 ∈ mm_ok := by first | exact mm_inT (tm_1 (List.mem_of_getElem? (i := 28) rfl)) rfl | exact mm_in 99 (by decide +kernel) rfl
set_option maxRecDepth 100000 in
theorem cw_a105 : Cond.fieldLink RX8 27 (TX8 3).1 (TX8 3).2.1 (TX8 3).2.2.1 ∈ mm_ok := by first | exact mm_inT (tm_1 (List.mem_of_getElem? (i := 34) rfl)) rfl | exact mm_in 105 (by decide +kernel) rfl
set_option maxRecDepth 100000 in
theorem cw_a101 : Cond.fieldLink RX8 30 (TX8 1).1 (TX8 1).2.1 (TX8 1).2.2.1 ∈ mm_ok := by first | exact mm_inT (tm_1 (List.mem_of_getElem? (i := 30) rfl)) rfl | exact mm_in 101 (by decide +kernel) rfl
set_option maxRecDepth 100000 in
theorem cw_a131 : Cond.fieldLink RX8 64 (TX6 0).1 (TX6 0).2.1 (TX6 0).2.2.1 ∈ mm_ok := by first | exact mm_inT (tm_1 (List.mem_of_getElem? (i := 60) rfl)) rfl | exact mm_in 131 (by decide +kernel) rfl
set_option maxRecDepth 100000 in
theorem cw_a106 : Cond.fieldLink RX8 82 (TX8 4).1 (TX8 4).2.1 (TX8 4).2.2.1 ∈ mm_ok := by first | exact mm_inT (tm_1 (List.mem_of_getElem? (i := 35) rfl)) rfl | exact mm_in 106 (by decide +kernel) rfl
set_option maxRecDepth 100000 in
theorem cw_a103 : Cond.fieldLink RX8 9 (TX8 2).1 (TX8 2).2.1 (TX8 2).2.2.1 ∈ mm_ok := by first | exact mm_inT (tm_1 (List.mem_of_getElem? (i := 32) rfl)) rfl | exact mm_in 103 (by decide +kernel) rfl
set_option maxRecDepth 100000 in
theorem cw_a134 : Cond.fieldLink RX8 96 (TX6 1).1 (TX6 1).2.1 (TX6 1).2.2.1 ∈ mm_ok := by first | exact mm_inT (tm_1 (List.mem_of_getElem? (i := 63) rfl)) rfl | exact mm_in 134 (by decide +kernel) rfl
set_option maxRecDepth 100000 in
theorem cw_a298 : Cond.fieldLink RX9 10 (TX9 0).1 (TX9 0).2.1 (TX9 0).2.2.1 ∈ mm_ok := by first | exact mm_inT (tm_1 (List.mem_of_getElem? (i := 227) rfl)) rfl | exact mm_in 298 (by decide +kernel) rfl
set_option maxRecDepth 100000 in
theorem cw_a102 : Cond.fieldLink RX9 100 (TX8 1).1 (TX8 1).2.1 (TX8 1).2.2.1 ∈ mm_ok := by first | exact mm_inT (tm_1 (List.mem_of_getElem? (i := 31) rfl)) rfl | exact mm_in 102 (by decide +kernel) rfl
set_option maxRecDepth 100000 in
theorem cw_a287 : Cond.fieldLink RX9 113 (TX4 0).1 (TX4 0).2.1 (TX4 0).2.2.1 ∈ mm_ok := by first | exact mm_inT (tm_1 (List.mem_of_getElem? (i := 216) rfl)) rfl | exact mm_in 287 (by decide +kernel) rfl
set_option maxRecDepth 100000 in
theorem cw_a130 : Cond.fieldLink RX9 117 (TX6 0).1 (TX6 0).2.1 (TX6 0).2.2.1 ∈ mm_ok := by first | exact mm_inT (tm_1 (List.mem_of_getElem? (i := 59) rfl)) rfl | exact mm_in 130 (by decide +kernel) rfl
set_option maxRecDepth 100000 in
theorem cw_a104 : Cond.fieldLink RX9 120 (TX8 2).1 (TX8 2).2.1 (TX8 2).2.2.1 ∈ mm_ok := by first | exact mm_inT (tm_1 (List.mem_of_getElem? (i := 33) rfl)) rfl | exact mm_in 104 (by decide +kernel) rfl
set_option maxRecDepth 100000 in
theorem cw_a133 : Cond.fieldLink RX9 123 (TX6 1).1 (TX6 1).2.1 (TX6 1).2.2.1 ∈ mm_ok := by first | exact mm_inT (tm_1 (List.mem_of_getElem? (i := 62) rfl)) rfl | exact mm_in 133 (by decide +kernel) rfl
set_option maxRecDepth 100000 in
theorem cw_a136 : Cond.fieldLink RX9 126 (TX6 2).1 (TX6 2).2.1 (TX6 2).2.2.1 ∈ mm_ok := by first | exact mm_inT (tm_1 (List.mem_of_getElem? (i := 65) rfl)) rfl | exact mm_in 136 (by decide +kernel) rfl
set_option maxRecDepth 100000 in
theorem cw_a172 : Cond.fieldLink RX9 129 (TX3 1).1 (TX3 1).2.1 (TX3 1).2.2.1 ∈ mm_ok := by first | exact mm_inT (tm_1 (List.mem_of_getElem? (i := 101) rfl)) rfl | exact mm_in 172 (by decide +kernel) rfl
set_option maxRecDepth 100000 in
theorem cw_a170 : Cond.fieldLink RX9 132 (TX3 0).1 (TX3 0).2.1 (TX3 0).2.2.1 ∈ mm_ok := by first | exact mm_inT (tm_1 (List.mem_of_getElem? (i := 99) rfl)) rfl | exact mm_in 170 (by decide +kernel) rfl
set_option maxRecDepth 100000 in
theorem cw_a236 : Cond.fieldLink RX9 145 (TX2 0).1 (TX2 0).2.1 (TX2 0).2.2.1 ∈ mm_ok := by first | exact mm_inT (tm_1 (List.mem_of_getElem? (i := 165) rfl)) rfl | exact mm_in 236 (by decide +kernel) rfl
set_option maxRecDepth 100000 in
theorem cw_a203 : Cond.fieldLink RX9 146 (TX7 0).1 (TX7 0).2.1 (TX7 0).2.2.1 ∈ mm_ok := by first | exact mm_inT (tm_1 (List.mem_of_getElem? (i := 132) rfl)) rfl | exact mm_in 203 (by decide +kernel) rfl
set_option maxRecDepth 100000 in
theorem cw_a299 : Cond.fieldLink RX9 19 (TX9 1).1 (TX9 1).2.1 (TX9 1).2.2.1 ∈ mm_ok := by first | exact mm_inT (tm_1 (List.mem_of_getElem? (i := 228) rfl)) rfl | exact mm_in 299 (by decide +kernel) rfl
set_option maxRecDepth 100000 in
theorem cw_a300 : Cond.fieldLink RX9 23 (TX9 2).1 (TX9 2).2.1 (TX9 2).2.2.1 ∈ mm_ok := by first | exact mm_inT (tm_1 (List.mem_of_getElem? (i := 229) rfl)) rfl | exact mm_in 300 (by decide +kernel) rfl
set_option maxRecDepth 100000 in
theorem cw_a301 : Cond.fieldLink RX9 29 (TX9 3).1 (TX9 3).2.1 (TX9 3).2.2.1 ∈ mm_ok := by first | exact mm_inT (tm_1 (List.mem_of_getElem? (i := 230) rfl)) rfl | exact mm_in 301 (by decide +kernel) rfl
set_option maxRecDepth 100000 in
theorem cw_a222 : Cond.fieldLink RX9 292 (TX1 0).1 (TX1 0).2.1 (TX1 0).2.2.1 ∈ mm_ok := by first | exact mm_inT (tm_1 (List.mem_of_getElem? (i := 151) rfl)) rfl | exact mm_in 222 (by decide +kernel) rfl
set_option maxRecDepth 100000 in
theorem cw_a290 : Cond.fieldLink RX9 299 (TX4 2).1 (TX4 2).2.1 (TX4 2).2.2.1 ∈ mm_ok := by first | exact mm_inT (tm_1 (List.mem_of_getElem? (i := 219) rfl)) rfl | exact mm_in 290 (by decide +kernel) rfl
set_option maxRecDepth 100000 in
theorem cw_a288 : Cond.fieldLink RX9 305 (TX4 1).1 (TX4 1).2.1 (TX4 1).2.2.1 ∈ mm_ok := by first | exact mm_inT (tm_1 (List.mem_of_getElem? (i := 217) rfl)) rfl | exact mm_in 288 (by decide +kernel) rfl
set_option maxRecDepth 100000 in
theorem cw_a302 : Cond.fieldLink RX9 33 (TX9 4).1 (TX9 4).2.1 (TX9 4).2.2.1 ∈ mm_ok := by first | exact mm_inT (tm_1 (List.mem_of_getElem? (i := 231) rfl)) rfl | exact mm_in 302 (by decide +kernel) rfl
set_option maxRecDepth 100000 in
theorem cw_a830 : Cond.fieldLink RX9 346 "VoiceWills" "ORDERS_OF" "[I" ∈ mm_ok := by first | exact mm_inT (tm_4 (List.mem_of_getElem? (i := 39) rfl)) rfl | exact mm_in 830 (by decide +kernel) rfl
set_option maxRecDepth 100000 in
theorem cw_a303 : Cond.fieldLink RX9 39 (TX9 5).1 (TX9 5).2.1 (TX9 5).2.2.1 ∈ mm_ok := by first | exact mm_inT (tm_1 (List.mem_of_getElem? (i := 232) rfl)) rfl | exact mm_in 303 (by decide +kernel) rfl
set_option maxRecDepth 100000 in
theorem cw_a304 : Cond.fieldLink RX9 45 (TX9 6).1 (TX9 6).2.1 (TX9 6).2.2.1 ∈ mm_ok := by first | exact mm_inT (tm_1 (List.mem_of_getElem? (i := 233) rfl)) rfl | exact mm_in 304 (by decide +kernel) rfl
set_option maxRecDepth 100000 in
theorem cw_a305 : Cond.fieldLink RX9 52 (TX9 7).1 (TX9 7).2.1 (TX9 7).2.2.1 ∈ mm_ok := by first | exact mm_inT (tm_1 (List.mem_of_getElem? (i := 234) rfl)) rfl | exact mm_in 305 (by decide +kernel) rfl
set_option maxRecDepth 100000 in
theorem cw_a306 : Cond.fieldLink RX9 61 (TX9 8).1 (TX9 8).2.1 (TX9 8).2.2.1 ∈ mm_ok := by first | exact mm_inT (tm_1 (List.mem_of_getElem? (i := 235) rfl)) rfl | exact mm_in 306 (by decide +kernel) rfl
set_option maxRecDepth 100000 in
theorem cw_a307 : Cond.fieldLink RX9 65 (TX9 9).1 (TX9 9).2.1 (TX9 9).2.2.1 ∈ mm_ok := by first | exact mm_inT (tm_1 (List.mem_of_getElem? (i := 236) rfl)) rfl | exact mm_in 307 (by decide +kernel) rfl
set_option maxRecDepth 100000 in
theorem cw_a308 : Cond.fieldLink RX9 68 (TX9 10).1 (TX9 10).2.1 (TX9 10).2.2.1 ∈ mm_ok := by first | exact mm_inT (tm_1 (List.mem_of_getElem? (i := 237) rfl)) rfl | exact mm_in 308 (by decide +kernel) rfl
set_option maxRecDepth 100000 in
theorem cw_a309 : Cond.fieldLink RX9 74 (TX9 11).1 (TX9 11).2.1 (TX9 11).2.2.1 ∈ mm_ok := by first | exact mm_inT (tm_1 (List.mem_of_getElem? (i := 238) rfl)) rfl | exact mm_in 309 (by decide +kernel) rfl
set_option maxRecDepth 100000 in
theorem cw_a310 : Cond.fieldLink RX9 81 (TX9 12).1 (TX9 12).2.1 (TX9 12).2.2.1 ∈ mm_ok := by first | exact mm_inT (tm_1 (List.mem_of_getElem? (i := 239) rfl)) rfl | exact mm_in 310 (by decide +kernel) rfl
set_option maxRecDepth 100000 in
theorem cw_a100 : Cond.fieldLink RX9 91 (TX8 0).1 (TX8 0).2.1 (TX8 0).2.2.1 ∈ mm_ok := by first | exact mm_inT (tm_1 (List.mem_of_getElem? (i := 29) rfl)) rfl | exact mm_in 100 (by decide +kernel) rfl
set_option maxRecDepth 100000 in
theorem cw_a580 : Cond.constant RJ6 264 (65536) ∈ mm_ok := by first | exact mm_inT (tm_3 (List.mem_of_getElem? (i := 29) rfl)) rfl | exact mm_in 580 (by decide +kernel) rfl
set_option maxRecDepth 100000 in
theorem cw_a707 : Cond.constant RJ6 265 (1431655765) ∈ mm_ok := by first | exact mm_inT (tm_3 (List.mem_of_getElem? (i := 156) rfl)) rfl | exact mm_in 707 (by decide +kernel) rfl
set_option maxRecDepth 100000 in
theorem cw_a708 : Cond.constant RJ6 266 (858993459) ∈ mm_ok := by first | exact mm_inT (tm_3 (List.mem_of_getElem? (i := 157) rfl)) rfl | exact mm_in 708 (by decide +kernel) rfl
set_option maxRecDepth 100000 in
theorem cw_a709 : Cond.constant RJ6 267 (252645135) ∈ mm_ok := by first | exact mm_inT (tm_3 (List.mem_of_getElem? (i := 158) rfl)) rfl | exact mm_in 709 (by decide +kernel) rfl
set_option maxRecDepth 100000 in
theorem cw_a1012 : Cond.constantLong RX10 108 (48) ∈ mm_ok := by first | exact mm_inT (tm_4 (List.mem_of_getElem? (i := 221) rfl)) rfl | exact mm_in 1012 (by decide +kernel) rfl
set_option maxRecDepth 100000 in
theorem cw_a1013 : Cond.constantLong RX10 110 (57) ∈ mm_ok := by first | exact mm_inT (tm_4 (List.mem_of_getElem? (i := 222) rfl)) rfl | exact mm_in 1013 (by decide +kernel) rfl
set_option maxRecDepth 100000 in
theorem cw_a1144 : Cond.constantLong RX10 153 (6) ∈ mm_ok := by first | exact mm_inT (tm_5 (List.mem_of_getElem? (i := 113) rfl)) rfl | exact mm_in 1144 (by decide +kernel) rfl
set_option maxRecDepth 100000 in
theorem cw_a1085 : Cond.constant RX10 182 (-1000000001) ∈ mm_ok := by first | exact mm_inT (tm_5 (List.mem_of_getElem? (i := 54) rfl)) rfl | exact mm_in 1085 (by decide +kernel) rfl
set_option maxRecDepth 100000 in
theorem cw_a1102 : Cond.constant RX10 187 (-1000000003) ∈ mm_ok := by first | exact mm_inT (tm_5 (List.mem_of_getElem? (i := 71) rfl)) rfl | exact mm_in 1102 (by decide +kernel) rfl
set_option maxRecDepth 100000 in
theorem cw_a1162 : Cond.constantLong RX10 215 (1103515245) ∈ mm_ok := by first | exact mm_inT (tm_5 (List.mem_of_getElem? (i := 131) rfl)) rfl | exact mm_in 1162 (by decide +kernel) rfl
set_option maxRecDepth 100000 in
theorem cw_a1163 : Cond.constantLong RX10 217 (12345) ∈ mm_ok := by first | exact mm_inT (tm_5 (List.mem_of_getElem? (i := 132) rfl)) rfl | exact mm_in 1163 (by decide +kernel) rfl
set_option maxRecDepth 100000 in
theorem cw_a1164 : Cond.constantLong RX10 219 (2147483648) ∈ mm_ok := by first | exact mm_inT (tm_5 (List.mem_of_getElem? (i := 133) rfl)) rfl | exact mm_in 1164 (by decide +kernel) rfl
set_option maxRecDepth 100000 in
theorem cw_a1165 : Cond.constantLong RX10 221 (65536) ∈ mm_ok := by first | exact mm_inT (tm_5 (List.mem_of_getElem? (i := 134) rfl)) rfl | exact mm_in 1165 (by decide +kernel) rfl
set_option maxRecDepth 100000 in
theorem cw_a1157 : Cond.constantLong RX10 223 (60) ∈ mm_ok := by first | exact mm_inT (tm_5 (List.mem_of_getElem? (i := 126) rfl)) rfl | exact mm_in 1157 (by decide +kernel) rfl
set_option maxRecDepth 100000 in
theorem cw_a1224 : Cond.constant RX10 254 (-1000000) ∈ mm_ok := by first | exact mm_inT (tm_5 (List.mem_of_getElem? (i := 193) rfl)) rfl | exact mm_in 1224 (by decide +kernel) rfl
set_option maxRecDepth 100000 in
theorem cw_a1229 : Cond.constantLong RX10 262 (99) ∈ mm_ok := by first | exact mm_inT (tm_5 (List.mem_of_getElem? (i := 198) rfl)) rfl | exact mm_in 1229 (by decide +kernel) rfl
set_option maxRecDepth 100000 in
theorem cw_a1238 : Cond.constantLong RX10 267 (100) ∈ mm_ok := by first | exact mm_inT (tm_5 (List.mem_of_getElem? (i := 207) rfl)) rfl | exact mm_in 1238 (by decide +kernel) rfl
set_option maxRecDepth 100000 in
theorem cw_a1239 : Cond.constantLong RX10 269 (1000000000) ∈ mm_ok := by first | exact mm_inT (tm_5 (List.mem_of_getElem? (i := 208) rfl)) rfl | exact mm_in 1239 (by decide +kernel) rfl
set_option maxRecDepth 100000 in
theorem cw_a904 : Cond.constantLong RX10 58 (3) ∈ mm_ok := by first | exact mm_inT (tm_4 (List.mem_of_getElem? (i := 113) rfl)) rfl | exact mm_in 904 (by decide +kernel) rfl
set_option maxRecDepth 100000 in
theorem cw_a905 : Cond.constantLong RX10 60 (23) ∈ mm_ok := by first | exact mm_inT (tm_4 (List.mem_of_getElem? (i := 114) rfl)) rfl | exact mm_in 905 (by decide +kernel) rfl
set_option maxRecDepth 100000 in
theorem cw_a997 : Cond.constantLong RX10 82 (255) ∈ mm_ok := by first | exact mm_inT (tm_4 (List.mem_of_getElem? (i := 206) rfl)) rfl | exact mm_in 997 (by decide +kernel) rfl
set_option maxRecDepth 100000 in
theorem cw_a998 : Cond.constant RX10 84 (-1000000002) ∈ mm_ok := by first | exact mm_inT (tm_4 (List.mem_of_getElem? (i := 207) rfl)) rfl | exact mm_in 998 (by decide +kernel) rfl
set_option maxRecDepth 100000 in
theorem cw_a999 : Cond.constant RX10 88 (-1000000004) ∈ mm_ok := by first | exact mm_inT (tm_4 (List.mem_of_getElem? (i := 208) rfl)) rfl | exact mm_in 999 (by decide +kernel) rfl
set_option maxRecDepth 100000 in
theorem cw_a633 : Cond.constantLong RX1 13 (1103515245) ∈ mm_ok := by first | exact mm_inT (tm_3 (List.mem_of_getElem? (i := 82) rfl)) rfl | exact mm_in 633 (by decide +kernel) rfl
set_option maxRecDepth 100000 in
theorem cw_a634 : Cond.constantLong RX1 15 (12345) ∈ mm_ok := by first | exact mm_inT (tm_3 (List.mem_of_getElem? (i := 83) rfl)) rfl | exact mm_in 634 (by decide +kernel) rfl
set_option maxRecDepth 100000 in
theorem cw_a635 : Cond.constantLong RX1 17 (2147483648) ∈ mm_ok := by first | exact mm_inT (tm_3 (List.mem_of_getElem? (i := 84) rfl)) rfl | exact mm_in 635 (by decide +kernel) rfl
set_option maxRecDepth 100000 in
theorem cw_a636 : Cond.constant RX1 19 (65536) ∈ mm_ok := by first | exact mm_inT (tm_3 (List.mem_of_getElem? (i := 85) rfl)) rfl | exact mm_in 636 (by decide +kernel) rfl
set_option maxRecDepth 100000 in
theorem cw_a657 : Cond.constant RX5 25 (1000000000) ∈ mm_ok := by first | exact mm_inT (tm_3 (List.mem_of_getElem? (i := 106) rfl)) rfl | exact mm_in 657 (by decide +kernel) rfl
set_option maxRecDepth 100000 in
theorem cw_a507 : Cond.constant RX9 150 (-1000000001) ∈ mm_ok := by first | exact mm_inT (tm_2 (List.mem_of_getElem? (i := 196) rfl)) rfl | exact mm_in 507 (by decide +kernel) rfl
set_option maxRecDepth 100000 in
theorem cw_a555 : Cond.constant RX9 179 (-1000000003) ∈ mm_ok := by first | exact mm_inT (tm_3 (List.mem_of_getElem? (i := 4) rfl)) rfl | exact mm_in 555 (by decide +kernel) rfl
set_option maxRecDepth 100000 in
theorem cw_a777 : Cond.constantLong RX9 259 (1000000000) ∈ mm_ok := by first | exact mm_inT (tm_3 (List.mem_of_getElem? (i := 226) rfl)) rfl | exact mm_in 777 (by decide +kernel) rfl
set_option maxRecDepth 100000 in
theorem cw_a778 : Cond.constantLong RX9 261 (100) ∈ mm_ok := by first | exact mm_inT (tm_3 (List.mem_of_getElem? (i := 227) rfl)) rfl | exact mm_in 778 (by decide +kernel) rfl
set_option maxRecDepth 100000 in
theorem cw_a342 : Cond.constant RX9 86 (-1000000002) ∈ mm_ok := by first | exact mm_inT (tm_2 (List.mem_of_getElem? (i := 31) rfl)) rfl | exact mm_in 342 (by decide +kernel) rfl
set_option maxRecDepth 100000 in
theorem cw_a347 : Cond.constant RX9 95 (-1000000004) ∈ mm_ok := by first | exact mm_inT (tm_2 (List.mem_of_getElem? (i := 36) rfl)) rfl | exact mm_in 347 (by decide +kernel) rfl
set_option maxRecDepth 100000 in
theorem cw_a722 : Cond.methodLink RX0 23 yX0_suitedFor ∈ mm_ok := by first | exact mm_inT (tm_3 (List.mem_of_getElem? (i := 171) rfl)) rfl | exact mm_in 722 (by decide +kernel) rfl
set_option maxRecDepth 100000 in
theorem cw_a735 : Cond.methodLink RX0 27 yX0_mostFrom ∈ mm_ok := by first | exact mm_inT (tm_3 (List.mem_of_getElem? (i := 184) rfl)) rfl | exact mm_in 735 (by decide +kernel) rfl
set_option maxRecDepth 100000 in
theorem cw_a749 : Cond.methodLink RX0 31 yX0_leastSinger ∈ mm_ok := by first | exact mm_inT (tm_3 (List.mem_of_getElem? (i := 198) rfl)) rfl | exact mm_in 749 (by decide +kernel) rfl
set_option maxRecDepth 100000 in
theorem cw_a725 : Cond.methodLink RX0 34 yX3_lives ∈ mm_ok := by first | exact mm_inT (tm_3 (List.mem_of_getElem? (i := 174) rfl)) rfl | exact mm_in 725 (by decide +kernel) rfl
set_option maxRecDepth 100000 in
theorem cw_a726 : Cond.methodLink RX0 40 yX3_voiceOf ∈ mm_ok := by first | exact mm_inT (tm_3 (List.mem_of_getElem? (i := 175) rfl)) rfl | exact mm_in 726 (by decide +kernel) rfl
set_option maxRecDepth 100000 in
theorem cw_a727 : Cond.methodLink RX0 44 yX6_suits ∈ mm_ok := by first | exact mm_inT (tm_3 (List.mem_of_getElem? (i := 176) rfl)) rfl | exact mm_in 727 (by decide +kernel) rfl
set_option maxRecDepth 100000 in
theorem cw_a739 : Cond.methodLink RX0 50 yX0_sungFrom ∈ mm_ok := by first | exact mm_inT (tm_3 (List.mem_of_getElem? (i := 188) rfl)) rfl | exact mm_in 739 (by decide +kernel) rfl
set_option maxRecDepth 100000 in
theorem cw_a743 : Cond.methodLink RX0 53 yX0_isFree ∈ mm_ok := by first | exact mm_inT (tm_3 (List.mem_of_getElem? (i := 192) rfl)) rfl | exact mm_in 743 (by decide +kernel) rfl
set_option maxRecDepth 100000 in
theorem cw_a748 : Cond.methodLink RX0 57 yJ9_max_7cf53 ∈ mm_ok := by first | exact mm_inT (tm_3 (List.mem_of_getElem? (i := 197) rfl)) rfl | exact mm_in 748 (by decide +kernel) rfl
set_option maxRecDepth 100000 in
theorem cw_a1004 : Cond.methodLink RX10 115 yX10_step ∈ mm_ok := by first | exact mm_inT (tm_4 (List.mem_of_getElem? (i := 213) rfl)) rfl | exact mm_in 1004 (by decide +kernel) rfl
set_option maxRecDepth 100000 in
theorem cw_a1022 : Cond.methodLink RX10 118 yX10_fails ∈ mm_ok := by first | exact mm_inT (tm_4 (List.mem_of_getElem? (i := 231) rfl)) rfl | exact mm_in 1022 (by decide +kernel) rfl
set_option maxRecDepth 100000 in
theorem cw_a1026 : Cond.methodLink RX10 122 yX10_number ∈ mm_ok := by first | exact mm_inT (tm_4 (List.mem_of_getElem? (i := 235) rfl)) rfl | exact mm_in 1026 (by decide +kernel) rfl
set_option maxRecDepth 100000 in
theorem cw_a1030 : Cond.methodLink RX10 126 yX10_ends ∈ mm_ok := by first | exact mm_inT (tm_4 (List.mem_of_getElem? (i := 239) rfl)) rfl | exact mm_in 1030 (by decide +kernel) rfl
set_option maxRecDepth 100000 in
theorem cw_a1038 : Cond.methodLink RX10 130 yX10_isTold ∈ mm_ok := by first | exact mm_inT (tm_5 (List.mem_of_getElem? (i := 7) rfl)) rfl | exact mm_in 1038 (by decide +kernel) rfl
set_option maxRecDepth 100000 in
theorem cw_a1042 : Cond.methodLink RX10 134 yX10_isIn ∈ mm_ok := by first | exact mm_inT (tm_5 (List.mem_of_getElem? (i := 11) rfl)) rfl | exact mm_in 1042 (by decide +kernel) rfl
set_option maxRecDepth 100000 in
theorem cw_a1018 : Cond.methodLink RX10 138 yX10_readsPerson ∈ mm_ok := by first | exact mm_inT (tm_4 (List.mem_of_getElem? (i := 227) rfl)) rfl | exact mm_in 1018 (by decide +kernel) rfl
set_option maxRecDepth 100000 in
theorem cw_a1034 : Cond.methodLink RX10 141 yX10_readsWill ∈ mm_ok := by first | exact mm_inT (tm_5 (List.mem_of_getElem? (i := 3) rfl)) rfl | exact mm_in 1034 (by decide +kernel) rfl
set_option maxRecDepth 100000 in
theorem cw_a1045 : Cond.methodLink RX10 144 yX10_readsDoor ∈ mm_ok := by first | exact mm_inT (tm_5 (List.mem_of_getElem? (i := 14) rfl)) rfl | exact mm_in 1045 (by decide +kernel) rfl
set_option maxRecDepth 100000 in
theorem cw_a1049 : Cond.methodLink RX10 147 yX10_readsParts ∈ mm_ok := by first | exact mm_inT (tm_5 (List.mem_of_getElem? (i := 18) rfl)) rfl | exact mm_in 1049 (by decide +kernel) rfl
set_option maxRecDepth 100000 in
theorem cw_a1014 : Cond.methodLink RX10 150 yX10_readsClause ∈ mm_ok := by first | exact mm_inT (tm_4 (List.mem_of_getElem? (i := 223) rfl)) rfl | exact mm_in 1014 (by decide +kernel) rfl
set_option maxRecDepth 100000 in
theorem cw_a1111 : Cond.methodLink RX10 155 yX10_lives ∈ mm_ok := by first | exact mm_inT (tm_5 (List.mem_of_getElem? (i := 80) rfl)) rfl | exact mm_in 1111 (by decide +kernel) rfl
set_option maxRecDepth 100000 in
theorem cw_a1114 : Cond.methodLink RX10 159 yX10_leastMute ∈ mm_ok := by first | exact mm_inT (tm_5 (List.mem_of_getElem? (i := 83) rfl)) rfl | exact mm_in 1114 (by decide +kernel) rfl
set_option maxRecDepth 100000 in
theorem cw_a1118 : Cond.methodLink RX10 163 yX10_gets ∈ mm_ok := by first | exact mm_inT (tm_5 (List.mem_of_getElem? (i := 87) rfl)) rfl | exact mm_in 1118 (by decide +kernel) rfl
set_option maxRecDepth 100000 in
theorem cw_a1065 : Cond.methodLink RX10 167 yX10_isAlive ∈ mm_ok := by first | exact mm_inT (tm_5 (List.mem_of_getElem? (i := 34) rfl)) rfl | exact mm_in 1065 (by decide +kernel) rfl
set_option maxRecDepth 100000 in
theorem cw_a1073 : Cond.methodLink RX10 170 yX10_allVoices ∈ mm_ok := by first | exact mm_inT (tm_5 (List.mem_of_getElem? (i := 42) rfl)) rfl | exact mm_in 1073 (by decide +kernel) rfl
set_option maxRecDepth 100000 in
theorem cw_a1061 : Cond.methodLink RX10 173 yX10_usesNone ∈ mm_ok := by first | exact mm_inT (tm_5 (List.mem_of_getElem? (i := 30) rfl)) rfl | exact mm_in 1061 (by decide +kernel) rfl
set_option maxRecDepth 100000 in
theorem cw_a1069 : Cond.methodLink RX10 176 yX10_lost ∈ mm_ok := by first | exact mm_inT (tm_5 (List.mem_of_getElem? (i := 38) rfl)) rfl | exact mm_in 1069 (by decide +kernel) rfl
set_option maxRecDepth 100000 in
theorem cw_a1081 : Cond.methodLink RX10 179 yX10_isPerson ∈ mm_ok := by first | exact mm_inT (tm_5 (List.mem_of_getElem? (i := 50) rfl)) rfl | exact mm_in 1081 (by decide +kernel) rfl
set_option maxRecDepth 100000 in
theorem cw_a1086 : Cond.methodLink RX10 183 yX10_openTo ∈ mm_ok := by first | exact mm_inT (tm_5 (List.mem_of_getElem? (i := 55) rfl)) rfl | exact mm_in 1086 (by decide +kernel) rfl
set_option maxRecDepth 100000 in
theorem cw_a1103 : Cond.methodLink RX10 188 yX10_remember ∈ mm_ok := by first | exact mm_inT (tm_5 (List.mem_of_getElem? (i := 72) rfl)) rfl | exact mm_in 1103 (by decide +kernel) rfl
set_option maxRecDepth 100000 in
theorem cw_a1107 : Cond.methodLink RX10 191 yX10_dies ∈ mm_ok := by first | exact mm_inT (tm_5 (List.mem_of_getElem? (i := 76) rfl)) rfl | exact mm_in 1107 (by decide +kernel) rfl
set_option maxRecDepth 100000 in
theorem cw_a1134 : Cond.methodLink RX10 195 yX10_leastOf ∈ mm_ok := by first | exact mm_inT (tm_5 (List.mem_of_getElem? (i := 103) rfl)) rfl | exact mm_in 1134 (by decide +kernel) rfl
set_option maxRecDepth 100000 in
theorem cw_a1126 : Cond.methodLink RX10 198 yX10_maySell ∈ mm_ok := by first | exact mm_inT (tm_5 (List.mem_of_getElem? (i := 95) rfl)) rfl | exact mm_in 1126 (by decide +kernel) rfl
set_option maxRecDepth 100000 in
theorem cw_a1130 : Cond.methodLink RX10 201 yX10_sells ∈ mm_ok := by first | exact mm_inT (tm_5 (List.mem_of_getElem? (i := 99) rfl)) rfl | exact mm_in 1130 (by decide +kernel) rfl
set_option maxRecDepth 100000 in
theorem cw_a1141 : Cond.methodLink RX10 205 yX10_isVoice ∈ mm_ok := by first | exact mm_inT (tm_5 (List.mem_of_getElem? (i := 110) rfl)) rfl | exact mm_in 1141 (by decide +kernel) rfl
set_option maxRecDepth 100000 in
theorem cw_a1149 : Cond.methodLink RX10 208 yX10_isHeir ∈ mm_ok := by first | exact mm_inT (tm_5 (List.mem_of_getElem? (i := 118) rfl)) rfl | exact mm_in 1149 (by decide +kernel) rfl
set_option maxRecDepth 100000 in
theorem cw_a1158 : Cond.methodLink RX10 225 yX10_draw ∈ mm_ok := by first | exact mm_inT (tm_5 (List.mem_of_getElem? (i := 127) rfl)) rfl | exact mm_in 1158 (by decide +kernel) rfl
set_option maxRecDepth 100000 in
theorem cw_a1174 : Cond.methodLink RX10 228 yX10_isOrder ∈ mm_ok := by first | exact mm_inT (tm_5 (List.mem_of_getElem? (i := 143) rfl)) rfl | exact mm_in 1174 (by decide +kernel) rfl
set_option maxRecDepth 100000 in
theorem cw_a1178 : Cond.methodLink RX10 231 yX10_layAside ∈ mm_ok := by first | exact mm_inT (tm_5 (List.mem_of_getElem? (i := 147) rfl)) rfl | exact mm_in 1178 (by decide +kernel) rfl
set_option maxRecDepth 100000 in
theorem cw_a1182 : Cond.methodLink RX10 234 yX10_allDie ∈ mm_ok := by first | exact mm_inT (tm_5 (List.mem_of_getElem? (i := 151) rfl)) rfl | exact mm_in 1182 (by decide +kernel) rfl
set_option maxRecDepth 100000 in
theorem cw_a1201 : Cond.methodLink RX10 238 yX10_heirOf ∈ mm_ok := by first | exact mm_inT (tm_5 (List.mem_of_getElem? (i := 170) rfl)) rfl | exact mm_in 1201 (by decide +kernel) rfl
set_option maxRecDepth 100000 in
theorem cw_a1194 : Cond.methodLink RX10 241 yX10_bits ∈ mm_ok := by first | exact mm_inT (tm_5 (List.mem_of_getElem? (i := 163) rfl)) rfl | exact mm_in 1194 (by decide +kernel) rfl
set_option maxRecDepth 100000 in
theorem cw_a1197 : Cond.methodLink RX10 244 yX10_canBe ∈ mm_ok := by first | exact mm_inT (tm_5 (List.mem_of_getElem? (i := 166) rfl)) rfl | exact mm_in 1197 (by decide +kernel) rfl
set_option maxRecDepth 100000 in
theorem cw_a1221 : Cond.methodLink RX10 248 yX10_abs ∈ mm_ok := by first | exact mm_inT (tm_5 (List.mem_of_getElem? (i := 190) rfl)) rfl | exact mm_in 1221 (by decide +kernel) rfl
set_option maxRecDepth 100000 in
theorem cw_a1217 : Cond.methodLink RX10 251 yX10_maySing ∈ mm_ok := by first | exact mm_inT (tm_5 (List.mem_of_getElem? (i := 186) rfl)) rfl | exact mm_in 1217 (by decide +kernel) rfl
set_option maxRecDepth 100000 in
theorem cw_a1213 : Cond.methodLink RX10 255 yX10_sungBy ∈ mm_ok := by first | exact mm_inT (tm_5 (List.mem_of_getElem? (i := 182) rfl)) rfl | exact mm_in 1213 (by decide +kernel) rfl
set_option maxRecDepth 100000 in
theorem cw_a1209 : Cond.methodLink RX10 259 yX10_layTable ∈ mm_ok := by first | exact mm_inT (tm_5 (List.mem_of_getElem? (i := 178) rfl)) rfl | exact mm_in 1209 (by decide +kernel) rfl
set_option maxRecDepth 100000 in
theorem cw_a1234 : Cond.methodLink RX10 264 yX10_isSet ∈ mm_ok := by first | exact mm_inT (tm_5 (List.mem_of_getElem? (i := 203) rfl)) rfl | exact mm_in 1234 (by decide +kernel) rfl
set_option maxRecDepth 100000 in
theorem cw_a1248 : Cond.methodLink RX10 271 yX10_voices ∈ mm_ok := by first | exact mm_inT (tm_5 (List.mem_of_getElem? (i := 217) rfl)) rfl | exact mm_in 1248 (by decide +kernel) rfl
set_option maxRecDepth 100000 in
theorem cw_a1260 : Cond.methodLink RX10 274 yX10_isUse ∈ mm_ok := by first | exact mm_inT (tm_5 (List.mem_of_getElem? (i := 229) rfl)) rfl | exact mm_in 1260 (by decide +kernel) rfl
set_option maxRecDepth 100000 in
theorem cw_a1267 : Cond.methodLink RX10 277 yX10_isSo ∈ mm_ok := by first | exact mm_inT (tm_5 (List.mem_of_getElem? (i := 236) rfl)) rfl | exact mm_in 1267 (by decide +kernel) rfl
set_option maxRecDepth 100000 in
theorem cw_a901 : Cond.methodLink RX10 51 yX10_blank ∈ mm_ok := by first | exact mm_inT (tm_4 (List.mem_of_getElem? (i := 110) rfl)) rfl | exact mm_in 901 (by decide +kernel) rfl
set_option maxRecDepth 100000 in
theorem cw_a909 : Cond.methodLink RX10 55 yX10_begins ∈ mm_ok := by first | exact mm_inT (tm_4 (List.mem_of_getElem? (i := 118) rfl)) rfl | exact mm_in 909 (by decide +kernel) rfl
set_option maxRecDepth 100000 in
theorem cw_a906 : Cond.methodLink RX10 62 yX10_in ∈ mm_ok := by first | exact mm_inT (tm_4 (List.mem_of_getElem? (i := 115) rfl)) rfl | exact mm_in 906 (by decide +kernel) rfl
set_option maxRecDepth 100000 in
theorem cw_a913 : Cond.methodLink RX10 66 yX10_copies ∈ mm_ok := by first | exact mm_inT (tm_4 (List.mem_of_getElem? (i := 122) rfl)) rfl | exact mm_in 913 (by decide +kernel) rfl
set_option maxRecDepth 100000 in
theorem cw_a1008 : Cond.methodLink RX10 92 yX10_here ∈ mm_ok := by first | exact mm_inT (tm_4 (List.mem_of_getElem? (i := 217) rfl)) rfl | exact mm_in 1008 (by decide +kernel) rfl
set_option maxRecDepth 100000 in
theorem cw_a850 : Cond.methodLink RX2 28 yX3_voiceOf ∈ mm_ok := by first | exact mm_inT (tm_4 (List.mem_of_getElem? (i := 59) rfl)) rfl | exact mm_in 850 (by decide +kernel) rfl
set_option maxRecDepth 100000 in
theorem cw_a447 : Cond.methodLink RX3 30 yJ9_min_7cf53 ∈ mm_ok := by first | exact mm_inT (tm_2 (List.mem_of_getElem? (i := 136) rfl)) rfl | exact mm_in 447 (by decide +kernel) rfl
set_option maxRecDepth 100000 in
theorem cw_a450 : Cond.methodLink RX3 45 yX6_hasVoice ∈ mm_ok := by first | exact mm_inT (tm_2 (List.mem_of_getElem? (i := 139) rfl)) rfl | exact mm_in 450 (by decide +kernel) rfl
set_option maxRecDepth 100000 in
theorem cw_a458 : Cond.methodLink RX3 49 yX6_firstToldHeir ∈ mm_ok := by first | exact mm_inT (tm_2 (List.mem_of_getElem? (i := 147) rfl)) rfl | exact mm_in 458 (by decide +kernel) rfl
set_option maxRecDepth 100000 in
theorem cw_a462 : Cond.methodLink RX3 53 yX6_secondToldHeir ∈ mm_ok := by first | exact mm_inT (tm_2 (List.mem_of_getElem? (i := 151) rfl)) rfl | exact mm_in 462 (by decide +kernel) rfl
set_option maxRecDepth 100000 in
theorem cw_a512 : Cond.methodLink RX3 56 yX3_isOne ∈ mm_ok := by first | exact mm_inT (tm_2 (List.mem_of_getElem? (i := 201) rfl)) rfl | exact mm_in 512 (by decide +kernel) rfl
set_option maxRecDepth 100000 in
theorem cw_a495 : Cond.methodLink RX3 59 yX3_lives ∈ mm_ok := by first | exact mm_inT (tm_2 (List.mem_of_getElem? (i := 184) rfl)) rfl | exact mm_in 495 (by decide +kernel) rfl
set_option maxRecDepth 100000 in
theorem cw_a569 : Cond.methodLink RX3 69 yX3_firstAlive ∈ mm_ok := by first | exact mm_inT (tm_3 (List.mem_of_getElem? (i := 18) rfl)) rfl | exact mm_in 569 (by decide +kernel) rfl
set_option maxRecDepth 100000 in
theorem cw_a581 : Cond.methodLink RX3 72 yX3_give ∈ mm_ok := by first | exact mm_inT (tm_3 (List.mem_of_getElem? (i := 30) rfl)) rfl | exact mm_in 581 (by decide +kernel) rfl
set_option maxRecDepth 100000 in
theorem cw_a573 : Cond.methodLink RX3 76 yX3_silent ∈ mm_ok := by first | exact mm_inT (tm_3 (List.mem_of_getElem? (i := 22) rfl)) rfl | exact mm_in 573 (by decide +kernel) rfl
set_option maxRecDepth 100000 in
theorem cw_a574 : Cond.methodLink RX3 80 yX3_leastOf ∈ mm_ok := by first | exact mm_inT (tm_3 (List.mem_of_getElem? (i := 23) rfl)) rfl | exact mm_in 574 (by decide +kernel) rfl
set_option maxRecDepth 100000 in
theorem cw_a577 : Cond.methodLink RX3 83 yJ6_numberOfTrailingZeros_0f7a4 ∈ mm_ok := by first | exact mm_inT (tm_3 (List.mem_of_getElem? (i := 26) rfl)) rfl | exact mm_in 577 (by decide +kernel) rfl
set_option maxRecDepth 100000 in
theorem cw_a598 : Cond.methodLink RX3 88 yX3_canHandOver ∈ mm_ok := by first | exact mm_inT (tm_3 (List.mem_of_getElem? (i := 47) rfl)) rfl | exact mm_in 598 (by decide +kernel) rfl
set_option maxRecDepth 100000 in
theorem cw_a653 : Cond.methodLink RX5 22 yX5_empty ∈ mm_ok := by first | exact mm_inT (tm_3 (List.mem_of_getElem? (i := 102) rfl)) rfl | exact mm_in 653 (by decide +kernel) rfl
set_option maxRecDepth 100000 in
theorem cw_a658 : Cond.methodLink RX5 26 yX3_lives ∈ mm_ok := by first | exact mm_inT (tm_3 (List.mem_of_getElem? (i := 107) rfl)) rfl | exact mm_in 658 (by decide +kernel) rfl
set_option maxRecDepth 100000 in
theorem cw_a659 : Cond.methodLink RX5 32 yX5_holds ∈ mm_ok := by first | exact mm_inT (tm_3 (List.mem_of_getElem? (i := 108) rfl)) rfl | exact mm_in 659 (by decide +kernel) rfl
set_option maxRecDepth 100000 in
theorem cw_a664 : Cond.methodLink RX5 35 yX5_add ∈ mm_ok := by first | exact mm_inT (tm_3 (List.mem_of_getElem? (i := 113) rfl)) rfl | exact mm_in 664 (by decide +kernel) rfl
set_option maxRecDepth 100000 in
theorem cw_a840 : Cond.methodLink RX5 39 yJ6_bitCount_0f7a4 ∈ mm_ok := by first | exact mm_inT (tm_4 (List.mem_of_getElem? (i := 49) rfl)) rfl | exact mm_in 840 (by decide +kernel) rfl
set_option maxRecDepth 100000 in
theorem cw_a842 : Cond.methodLink RX5 48 yJ9_max_7cf53 ∈ mm_ok := by first | exact mm_inT (tm_4 (List.mem_of_getElem? (i := 51) rfl)) rfl | exact mm_in 842 (by decide +kernel) rfl
set_option maxRecDepth 100000 in
theorem cw_a843 : Cond.methodLink RX5 54 yX5_memberAt ∈ mm_ok := by first | exact mm_inT (tm_4 (List.mem_of_getElem? (i := 52) rfl)) rfl | exact mm_in 843 (by decide +kernel) rfl
set_option maxRecDepth 100000 in
theorem cw_a677 : Cond.methodLink RX5 61 yX3_bury ∈ mm_ok := by first | exact mm_inT (tm_3 (List.mem_of_getElem? (i := 126) rfl)) rfl | exact mm_in 677 (by decide +kernel) rfl
set_option maxRecDepth 100000 in
theorem cw_a426 : Cond.methodLink RX6 40 yX6_hasPerson ∈ mm_ok := by first | exact mm_inT (tm_2 (List.mem_of_getElem? (i := 115) rfl)) rfl | exact mm_in 426 (by decide +kernel) rfl
set_option maxRecDepth 100000 in
theorem cw_a454 : Cond.methodLink RX6 44 yX6_rangeOf ∈ mm_ok := by first | exact mm_inT (tm_2 (List.mem_of_getElem? (i := 143) rfl)) rfl | exact mm_in 454 (by decide +kernel) rfl
set_option maxRecDepth 100000 in
theorem cw_a550 : Cond.methodLink RX6 52 yX6_hasDoor ∈ mm_ok := by first | exact mm_inT (tm_2 (List.mem_of_getElem? (i := 239) rfl)) rfl | exact mm_in 550 (by decide +kernel) rfl
set_option maxRecDepth 100000 in
theorem cw_a490 : Cond.methodLink RX6 55 yX6_hasVoice ∈ mm_ok := by first | exact mm_inT (tm_2 (List.mem_of_getElem? (i := 179) rfl)) rfl | exact mm_in 490 (by decide +kernel) rfl
set_option maxRecDepth 100000 in
theorem cw_a731 : Cond.methodLink RX6 58 yX6_hasPart ∈ mm_ok := by first | exact mm_inT (tm_3 (List.mem_of_getElem? (i := 180) rfl)) rfl | exact mm_in 731 (by decide +kernel) rfl
set_option maxRecDepth 100000 in
theorem cw_a732 : Cond.methodLink RX6 61 yJ9_abs_0f7a4 ∈ mm_ok := by first | exact mm_inT (tm_3 (List.mem_of_getElem? (i := 181) rfl)) rfl | exact mm_in 732 (by decide +kernel) rfl
set_option maxRecDepth 100000 in
theorem cw_a560 : Cond.methodLink RX7 25 yX3_copy ∈ mm_ok := by first | exact mm_inT (tm_3 (List.mem_of_getElem? (i := 9) rfl)) rfl | exact mm_in 560 (by decide +kernel) rfl
set_option maxRecDepth 100000 in
theorem cw_a564 : Cond.methodLink RX7 29 yJ9_min_7cf53 ∈ mm_ok := by first | exact mm_inT (tm_3 (List.mem_of_getElem? (i := 13) rfl)) rfl | exact mm_in 564 (by decide +kernel) rfl
set_option maxRecDepth 100000 in
theorem cw_a439 : Cond.methodLink RX8 105 yX6_addPart ∈ mm_ok := by first | exact mm_inT (tm_2 (List.mem_of_getElem? (i := 128) rfl)) rfl | exact mm_in 439 (by decide +kernel) rfl
set_option maxRecDepth 100000 in
theorem cw_a395 : Cond.methodLink RX8 108 yX8_isNext ∈ mm_ok := by first | exact mm_inT (tm_2 (List.mem_of_getElem? (i := 84) rfl)) rfl | exact mm_in 395 (by decide +kernel) rfl
set_option maxRecDepth 100000 in
theorem cw_a388 : Cond.methodLink RX8 111 yX8_isFigure ∈ mm_ok := by first | exact mm_inT (tm_2 (List.mem_of_getElem? (i := 77) rfl)) rfl | exact mm_in 388 (by decide +kernel) rfl
set_option maxRecDepth 100000 in
theorem cw_a356 : Cond.methodLink RX8 22 yX6_empty ∈ mm_ok := by first | exact mm_inT (tm_2 (List.mem_of_getElem? (i := 45) rfl)) rfl | exact mm_in 356 (by decide +kernel) rfl
set_option maxRecDepth 100000 in
theorem cw_a360 : Cond.methodLink RX8 33 yX8_skipBlanks ∈ mm_ok := by first | exact mm_inT (tm_2 (List.mem_of_getElem? (i := 49) rfl)) rfl | exact mm_in 360 (by decide +kernel) rfl
set_option maxRecDepth 100000 in
theorem cw_a364 : Cond.methodLink RX8 36 yX8_isSound ∈ mm_ok := by first | exact mm_inT (tm_2 (List.mem_of_getElem? (i := 53) rfl)) rfl | exact mm_in 364 (by decide +kernel) rfl
set_option maxRecDepth 100000 in
theorem cw_a368 : Cond.methodLink RX8 40 yX8_readClause ∈ mm_ok := by first | exact mm_inT (tm_2 (List.mem_of_getElem? (i := 57) rfl)) rfl | exact mm_in 368 (by decide +kernel) rfl
set_option maxRecDepth 100000 in
theorem cw_a372 : Cond.methodLink RX8 44 yX8_letterHere ∈ mm_ok := by first | exact mm_inT (tm_2 (List.mem_of_getElem? (i := 61) rfl)) rfl | exact mm_in 372 (by decide +kernel) rfl
set_option maxRecDepth 100000 in
theorem cw_a376 : Cond.methodLink RX8 48 yX8_readPerson ∈ mm_ok := by first | exact mm_inT (tm_2 (List.mem_of_getElem? (i := 65) rfl)) rfl | exact mm_in 376 (by decide +kernel) rfl
set_option maxRecDepth 100000 in
theorem cw_a403 : Cond.methodLink RX8 51 yX8_readWill ∈ mm_ok := by first | exact mm_inT (tm_2 (List.mem_of_getElem? (i := 92) rfl)) rfl | exact mm_in 403 (by decide +kernel) rfl
set_option maxRecDepth 100000 in
theorem cw_a427 : Cond.methodLink RX8 54 yX8_readDoor ∈ mm_ok := by first | exact mm_inT (tm_2 (List.mem_of_getElem? (i := 116) rfl)) rfl | exact mm_in 427 (by decide +kernel) rfl
set_option maxRecDepth 100000 in
theorem cw_a435 : Cond.methodLink RX8 57 yX8_readChoir ∈ mm_ok := by first | exact mm_inT (tm_2 (List.mem_of_getElem? (i := 124) rfl)) rfl | exact mm_in 435 (by decide +kernel) rfl
set_option maxRecDepth 100000 in
theorem cw_a380 : Cond.methodLink RX8 60 yX8_blame ∈ mm_ok := by first | exact mm_inT (tm_2 (List.mem_of_getElem? (i := 69) rfl)) rfl | exact mm_in 380 (by decide +kernel) rfl
set_option maxRecDepth 100000 in
theorem cw_a384 : Cond.methodLink RX8 67 yX8_readNumber ∈ mm_ok := by first | exact mm_inT (tm_2 (List.mem_of_getElem? (i := 73) rfl)) rfl | exact mm_in 384 (by decide +kernel) rfl
set_option maxRecDepth 100000 in
theorem cw_a391 : Cond.methodLink RX8 71 yX8_readSign ∈ mm_ok := by first | exact mm_inT (tm_2 (List.mem_of_getElem? (i := 80) rfl)) rfl | exact mm_in 391 (by decide +kernel) rfl
set_option maxRecDepth 100000 in
theorem cw_a399 : Cond.methodLink RX8 75 yX6_addPerson ∈ mm_ok := by first | exact mm_inT (tm_2 (List.mem_of_getElem? (i := 88) rfl)) rfl | exact mm_in 399 (by decide +kernel) rfl
set_option maxRecDepth 100000 in
theorem cw_a407 : Cond.methodLink RX8 79 yX6_hasWill ∈ mm_ok := by first | exact mm_inT (tm_2 (List.mem_of_getElem? (i := 96) rfl)) rfl | exact mm_in 407 (by decide +kernel) rfl
set_option maxRecDepth 100000 in
theorem cw_a414 : Cond.methodLink RX8 85 yX8_readHeir ∈ mm_ok := by first | exact mm_inT (tm_2 (List.mem_of_getElem? (i := 103) rfl)) rfl | exact mm_in 414 (by decide +kernel) rfl
set_option maxRecDepth 100000 in
theorem cw_a422 : Cond.methodLink RX8 89 yX6_addWill ∈ mm_ok := by first | exact mm_inT (tm_2 (List.mem_of_getElem? (i := 111) rfl)) rfl | exact mm_in 422 (by decide +kernel) rfl
set_option maxRecDepth 100000 in
theorem cw_a418 : Cond.methodLink RX8 93 yX6_hasPerson ∈ mm_ok := by first | exact mm_inT (tm_2 (List.mem_of_getElem? (i := 107) rfl)) rfl | exact mm_in 418 (by decide +kernel) rfl
set_option maxRecDepth 100000 in
theorem cw_a431 : Cond.methodLink RX8 99 yX6_addDoor ∈ mm_ok := by first | exact mm_inT (tm_2 (List.mem_of_getElem? (i := 120) rfl)) rfl | exact mm_in 431 (by decide +kernel) rfl
set_option maxRecDepth 100000 in
theorem cw_a443 : Cond.methodLink RX9 103 yX3_begin ∈ mm_ok := by first | exact mm_inT (tm_2 (List.mem_of_getElem? (i := 132) rfl)) rfl | exact mm_in 443 (by decide +kernel) rfl
set_option maxRecDepth 100000 in
theorem cw_a466 : Cond.methodLink RX9 107 yX2_clear ∈ mm_ok := by first | exact mm_inT (tm_2 (List.mem_of_getElem? (i := 155) rfl)) rfl | exact mm_in 466 (by decide +kernel) rfl
set_option maxRecDepth 100000 in
theorem cw_a470 : Cond.methodLink RX9 110 yX7_forget ∈ mm_ok := by first | exact mm_inT (tm_2 (List.mem_of_getElem? (i := 159) rfl)) rfl | exact mm_in 470 (by decide +kernel) rfl
set_option maxRecDepth 100000 in
theorem cw_a482 : Cond.methodLink RX9 135 yX3_silent ∈ mm_ok := by first | exact mm_inT (tm_2 (List.mem_of_getElem? (i := 171) rfl)) rfl | exact mm_in 482 (by decide +kernel) rfl
set_option maxRecDepth 100000 in
theorem cw_a486 : Cond.methodLink RX9 139 yX6_voices ∈ mm_ok := by first | exact mm_inT (tm_2 (List.mem_of_getElem? (i := 175) rfl)) rfl | exact mm_in 486 (by decide +kernel) rfl
set_option maxRecDepth 100000 in
theorem cw_a491 : Cond.methodLink RX9 142 yX3_held ∈ mm_ok := by first | exact mm_inT (tm_2 (List.mem_of_getElem? (i := 180) rfl)) rfl | exact mm_in 491 (by decide +kernel) rfl
set_option maxRecDepth 100000 in
theorem cw_a506 : Cond.methodLink RX9 147 yX6_hasPerson ∈ mm_ok := by first | exact mm_inT (tm_2 (List.mem_of_getElem? (i := 195) rfl)) rfl | exact mm_in 506 (by decide +kernel) rfl
set_option maxRecDepth 100000 in
theorem cw_a508 : Cond.methodLink RX9 151 yX3_voiceOf ∈ mm_ok := by first | exact mm_inT (tm_2 (List.mem_of_getElem? (i := 197) rfl)) rfl | exact mm_in 508 (by decide +kernel) rfl
set_option maxRecDepth 100000 in
theorem cw_a516 : Cond.methodLink RX9 155 yX3_jarOf ∈ mm_ok := by first | exact mm_inT (tm_2 (List.mem_of_getElem? (i := 205) rfl)) rfl | exact mm_in 516 (by decide +kernel) rfl
set_option maxRecDepth 100000 in
theorem cw_a520 : Cond.methodLink RX9 158 yX3_firstHeir ∈ mm_ok := by first | exact mm_inT (tm_2 (List.mem_of_getElem? (i := 209) rfl)) rfl | exact mm_in 520 (by decide +kernel) rfl
set_option maxRecDepth 100000 in
theorem cw_a524 : Cond.methodLink RX9 161 yX3_secondHeir ∈ mm_ok := by first | exact mm_inT (tm_2 (List.mem_of_getElem? (i := 213) rfl)) rfl | exact mm_in 524 (by decide +kernel) rfl
set_option maxRecDepth 100000 in
theorem cw_a528 : Cond.methodLink RX9 164 yX6_openTo ∈ mm_ok := by first | exact mm_inT (tm_2 (List.mem_of_getElem? (i := 217) rfl)) rfl | exact mm_in 528 (by decide +kernel) rfl
set_option maxRecDepth 100000 in
theorem cw_a532 : Cond.methodLink RX9 167 yX3_lives ∈ mm_ok := by first | exact mm_inT (tm_2 (List.mem_of_getElem? (i := 221) rfl)) rfl | exact mm_in 532 (by decide +kernel) rfl
set_option maxRecDepth 100000 in
theorem cw_a537 : Cond.methodLink RX9 170 yX6_rangeOf ∈ mm_ok := by first | exact mm_inT (tm_2 (List.mem_of_getElem? (i := 226) rfl)) rfl | exact mm_in 537 (by decide +kernel) rfl
set_option maxRecDepth 100000 in
theorem cw_a542 : Cond.methodLink RX9 173 yX6_hasDoor ∈ mm_ok := by first | exact mm_inT (tm_2 (List.mem_of_getElem? (i := 231) rfl)) rfl | exact mm_in 542 (by decide +kernel) rfl
set_option maxRecDepth 100000 in
theorem cw_a546 : Cond.methodLink RX9 176 yX6_knownBy ∈ mm_ok := by first | exact mm_inT (tm_2 (List.mem_of_getElem? (i := 235) rfl)) rfl | exact mm_in 546 (by decide +kernel) rfl
set_option maxRecDepth 100000 in
theorem cw_a556 : Cond.methodLink RX9 180 yX7_remember ∈ mm_ok := by first | exact mm_inT (tm_3 (List.mem_of_getElem? (i := 5) rfl)) rfl | exact mm_in 556 (by decide +kernel) rfl
set_option maxRecDepth 100000 in
theorem cw_a565 : Cond.methodLink RX9 184 yX3_bury ∈ mm_ok := by first | exact mm_inT (tm_3 (List.mem_of_getElem? (i := 14) rfl)) rfl | exact mm_in 565 (by decide +kernel) rfl
set_option maxRecDepth 100000 in
theorem cw_a590 : Cond.methodLink RX9 187 yX3_canHandOver ∈ mm_ok := by first | exact mm_inT (tm_3 (List.mem_of_getElem? (i := 39) rfl)) rfl | exact mm_in 590 (by decide +kernel) rfl
set_option maxRecDepth 100000 in
theorem cw_a594 : Cond.methodLink RX9 191 yX3_handOver ∈ mm_ok := by first | exact mm_inT (tm_3 (List.mem_of_getElem? (i := 43) rfl)) rfl | exact mm_in 594 (by decide +kernel) rfl
set_option maxRecDepth 100000 in
theorem cw_a603 : Cond.methodLink RX9 195 yX9_isVoiceNumber ∈ mm_ok := by first | exact mm_inT (tm_3 (List.mem_of_getElem? (i := 52) rfl)) rfl | exact mm_in 603 (by decide +kernel) rfl
set_option maxRecDepth 100000 in
theorem cw_a604 : Cond.methodLink RX9 198 yX9_isIn ∈ mm_ok := by first | exact mm_inT (tm_3 (List.mem_of_getElem? (i := 53) rfl)) rfl | exact mm_in 604 (by decide +kernel) rfl
set_option maxRecDepth 100000 in
theorem cw_a605 : Cond.methodLink RX9 201 yX3_takeOut ∈ mm_ok := by first | exact mm_inT (tm_3 (List.mem_of_getElem? (i := 54) rfl)) rfl | exact mm_in 605 (by decide +kernel) rfl
set_option maxRecDepth 100000 in
theorem cw_a613 : Cond.methodLink RX9 205 yX9_canInherit ∈ mm_ok := by first | exact mm_inT (tm_3 (List.mem_of_getElem? (i := 62) rfl)) rfl | exact mm_in 613 (by decide +kernel) rfl
set_option maxRecDepth 100000 in
theorem cw_a617 : Cond.methodLink RX9 208 yX3_changeWill ∈ mm_ok := by first | exact mm_inT (tm_3 (List.mem_of_getElem? (i := 66) rfl)) rfl | exact mm_in 617 (by decide +kernel) rfl
set_option maxRecDepth 100000 in
theorem cw_a625 : Cond.methodLink RX9 212 yX9_passYear ∈ mm_ok := by first | exact mm_inT (tm_3 (List.mem_of_getElem? (i := 74) rfl)) rfl | exact mm_in 625 (by decide +kernel) rfl
set_option maxRecDepth 100000 in
theorem cw_a641 : Cond.methodLink RX9 215 yX7_bringBack ∈ mm_ok := by first | exact mm_inT (tm_3 (List.mem_of_getElem? (i := 90) rfl)) rfl | exact mm_in 641 (by decide +kernel) rfl
set_option maxRecDepth 100000 in
theorem cw_a649 : Cond.methodLink RX9 219 yX5_readOrder ∈ mm_ok := by first | exact mm_inT (tm_3 (List.mem_of_getElem? (i := 98) rfl)) rfl | exact mm_in 649 (by decide +kernel) rfl
set_option maxRecDepth 100000 in
theorem cw_a668 : Cond.methodLink RX9 223 yX9_tryLine ∈ mm_ok := by first | exact mm_inT (tm_3 (List.mem_of_getElem? (i := 117) rfl)) rfl | exact mm_in 668 (by decide +kernel) rfl
set_option maxRecDepth 100000 in
theorem cw_a682 : Cond.methodLink RX9 226 yX3_userOf ∈ mm_ok := by first | exact mm_inT (tm_3 (List.mem_of_getElem? (i := 131) rfl)) rfl | exact mm_in 682 (by decide +kernel) rfl
set_option maxRecDepth 100000 in
theorem cw_a690 : Cond.methodLink RX9 229 yX6_hasVoice ∈ mm_ok := by first | exact mm_inT (tm_3 (List.mem_of_getElem? (i := 139) rfl)) rfl | exact mm_in 690 (by decide +kernel) rfl
set_option maxRecDepth 100000 in
theorem cw_a691 : Cond.methodLink RX9 232 yX9_fewestWills ∈ mm_ok := by first | exact mm_inT (tm_3 (List.mem_of_getElem? (i := 140) rfl)) rfl | exact mm_in 691 (by decide +kernel) rfl
set_option maxRecDepth 100000 in
theorem cw_a704 : Cond.methodLink RX9 235 yJ6_bitCount_0f7a4 ∈ mm_ok := by first | exact mm_inT (tm_3 (List.mem_of_getElem? (i := 153) rfl)) rfl | exact mm_in 704 (by decide +kernel) rfl
set_option maxRecDepth 100000 in
theorem cw_a714 : Cond.methodLink RX9 240 yX6_hasPart ∈ mm_ok := by first | exact mm_inT (tm_3 (List.mem_of_getElem? (i := 163) rfl)) rfl | exact mm_in 714 (by decide +kernel) rfl
set_option maxRecDepth 100000 in
theorem cw_a718 : Cond.methodLink RX9 243 yX0_give ∈ mm_ok := by first | exact mm_inT (tm_3 (List.mem_of_getElem? (i := 167) rfl)) rfl | exact mm_in 718 (by decide +kernel) rfl
set_option maxRecDepth 100000 in
theorem cw_a753 : Cond.methodLink RX9 247 yX0_sung ∈ mm_ok := by first | exact mm_inT (tm_3 (List.mem_of_getElem? (i := 202) rfl)) rfl | exact mm_in 753 (by decide +kernel) rfl
set_option maxRecDepth 100000 in
theorem cw_a757 : Cond.methodLink RX9 250 yX0_singerOf ∈ mm_ok := by first | exact mm_inT (tm_3 (List.mem_of_getElem? (i := 206) rfl)) rfl | exact mm_in 757 (by decide +kernel) rfl
set_option maxRecDepth 100000 in
theorem cw_a769 : Cond.methodLink RX9 253 yX6_hasPersons ∈ mm_ok := by first | exact mm_inT (tm_3 (List.mem_of_getElem? (i := 218) rfl)) rfl | exact mm_in 769 (by decide +kernel) rfl
set_option maxRecDepth 100000 in
theorem cw_a773 : Cond.methodLink RX9 256 yX3_allLive ∈ mm_ok := by first | exact mm_inT (tm_3 (List.mem_of_getElem? (i := 222) rfl)) rfl | exact mm_in 773 (by decide +kernel) rfl
set_option maxRecDepth 100000 in
theorem cw_a783 : Cond.methodLink RX9 263 yX2_add ∈ mm_ok := by first | exact mm_inT (tm_3 (List.mem_of_getElem? (i := 232) rfl)) rfl | exact mm_in 783 (by decide +kernel) rfl
set_option maxRecDepth 100000 in
theorem cw_a791 : Cond.methodLink RX9 265 yX9_voicesThatSpoke ∈ mm_ok := by first | exact mm_inT (tm_4 (List.mem_of_getElem? (i := 0) rfl)) rfl | exact mm_in 791 (by decide +kernel) rfl
set_option maxRecDepth 100000 in
theorem cw_a803 : Cond.methodLink RX9 268 yX3_usersOf ∈ mm_ok := by first | exact mm_inT (tm_4 (List.mem_of_getElem? (i := 12) rfl)) rfl | exact mm_in 803 (by decide +kernel) rfl
set_option maxRecDepth 100000 in
theorem cw_a811 : Cond.methodLink RX9 271 yJ9_max_7cf53 ∈ mm_ok := by first | exact mm_inT (tm_4 (List.mem_of_getElem? (i := 20) rfl)) rfl | exact mm_in 811 (by decide +kernel) rfl
set_option maxRecDepth 100000 in
theorem cw_a816 : Cond.methodLink RX9 276 yX9_isVoiceOrNone ∈ mm_ok := by first | exact mm_inT (tm_4 (List.mem_of_getElem? (i := 25) rfl)) rfl | exact mm_in 816 (by decide +kernel) rfl
set_option maxRecDepth 100000 in
theorem cw_a823 : Cond.methodLink RX9 279 yX9_firstInAllOrders ∈ mm_ok := by first | exact mm_inT (tm_4 (List.mem_of_getElem? (i := 32) rfl)) rfl | exact mm_in 823 (by decide +kernel) rfl
set_option maxRecDepth 100000 in
theorem cw_a855 : Cond.methodLink RX9 282 yX9_countOrders ∈ mm_ok := by first | exact mm_inT (tm_4 (List.mem_of_getElem? (i := 64) rfl)) rfl | exact mm_in 855 (by decide +kernel) rfl
set_option maxRecDepth 100000 in
theorem cw_a859 : Cond.methodLink RX9 285 yX9_orderNumber ∈ mm_ok := by first | exact mm_inT (tm_4 (List.mem_of_getElem? (i := 68) rfl)) rfl | exact mm_in 859 (by decide +kernel) rfl
set_option maxRecDepth 100000 in
theorem cw_a846 : Cond.methodLink RX9 288 yX2_firstUnlike ∈ mm_ok := by first | exact mm_inT (tm_4 (List.mem_of_getElem? (i := 55) rfl)) rfl | exact mm_in 846 (by decide +kernel) rfl
set_option maxRecDepth 100000 in
theorem cw_a887 : Cond.methodLink RX9 295 yX9_imageOf ∈ mm_ok := by first | exact mm_inT (tm_4 (List.mem_of_getElem? (i := 96) rfl)) rfl | exact mm_in 887 (by decide +kernel) rfl
set_option maxRecDepth 100000 in
theorem cw_a672 : Cond.methodLink RX9 302 yX3_copy ∈ mm_ok := by first | exact mm_inT (tm_3 (List.mem_of_getElem? (i := 121) rfl)) rfl | exact mm_in 672 (by decide +kernel) rfl
set_option maxRecDepth 100000 in
theorem cw_a629 : Cond.methodLink RX9 308 yX1_next ∈ mm_ok := by first | exact mm_inT (tm_3 (List.mem_of_getElem? (i := 78) rfl)) rfl | exact mm_in 629 (by decide +kernel) rfl
set_option maxRecDepth 100000 in
theorem cw_a673 : Cond.methodLink RX9 311 yX5_buryIn ∈ mm_ok := by first | exact mm_inT (tm_3 (List.mem_of_getElem? (i := 122) rfl)) rfl | exact mm_in 673 (by decide +kernel) rfl
set_option maxRecDepth 100000 in
theorem cw_a695 : Cond.methodLink RX9 314 yX5_holds ∈ mm_ok := by first | exact mm_inT (tm_3 (List.mem_of_getElem? (i := 144) rfl)) rfl | exact mm_in 695 (by decide +kernel) rfl
set_option maxRecDepth 100000 in
theorem cw_a696 : Cond.methodLink RX9 317 yX9_helpsAlone ∈ mm_ok := by first | exact mm_inT (tm_3 (List.mem_of_getElem? (i := 145) rfl)) rfl | exact mm_in 696 (by decide +kernel) rfl
set_option maxRecDepth 100000 in
theorem cw_a700 : Cond.methodLink RX9 321 yX9_helpTogether ∈ mm_ok := by first | exact mm_inT (tm_3 (List.mem_of_getElem? (i := 149) rfl)) rfl | exact mm_in 700 (by decide +kernel) rfl
set_option maxRecDepth 100000 in
theorem cw_a795 : Cond.methodLink RX9 325 yX2_subjectAt ∈ mm_ok := by first | exact mm_inT (tm_4 (List.mem_of_getElem? (i := 4) rfl)) rfl | exact mm_in 795 (by decide +kernel) rfl
set_option maxRecDepth 100000 in
theorem cw_a799 : Cond.methodLink RX9 328 yX2_valueAt ∈ mm_ok := by first | exact mm_inT (tm_4 (List.mem_of_getElem? (i := 8) rfl)) rfl | exact mm_in 799 (by decide +kernel) rfl
set_option maxRecDepth 100000 in
theorem cw_a836 : Cond.methodLink RX9 331 yX5_setOrder ∈ mm_ok := by first | exact mm_inT (tm_4 (List.mem_of_getElem? (i := 45) rfl)) rfl | exact mm_in 836 (by decide +kernel) rfl
set_option maxRecDepth 100000 in
theorem cw_a827 : Cond.methodLink RX9 334 yX9_ordersOf ∈ mm_ok := by first | exact mm_inT (tm_4 (List.mem_of_getElem? (i := 36) rfl)) rfl | exact mm_in 827 (by decide +kernel) rfl
set_option maxRecDepth 100000 in
theorem cw_a832 : Cond.methodLink RX9 337 yX9_fitsOrder ∈ mm_ok := by first | exact mm_inT (tm_4 (List.mem_of_getElem? (i := 41) rfl)) rfl | exact mm_in 832 (by decide +kernel) rfl
set_option maxRecDepth 100000 in
theorem cw_a863 : Cond.methodLink RX9 340 yX5_asNumber ∈ mm_ok := by first | exact mm_inT (tm_4 (List.mem_of_getElem? (i := 72) rfl)) rfl | exact mm_in 863 (by decide +kernel) rfl
set_option maxRecDepth 100000 in
theorem cw_a851 : Cond.methodLink RX9 343 yX5_firstOne ∈ mm_ok := by first | exact mm_inT (tm_4 (List.mem_of_getElem? (i := 60) rfl)) rfl | exact mm_in 851 (by decide +kernel) rfl
set_option maxRecDepth 100000 in
theorem cw_a343 : Cond.methodLink RX9 87 yX8_add ∈ mm_ok := by first | exact mm_inT (tm_2 (List.mem_of_getElem? (i := 32) rfl)) rfl | exact mm_in 343 (by decide +kernel) rfl
set_option maxRecDepth 100000 in
theorem cw_a352 : Cond.methodLink RX9 96 yX8_readInto ∈ mm_ok := by first | exact mm_inT (tm_2 (List.mem_of_getElem? (i := 41) rfl)) rfl | exact mm_in 352 (by decide +kernel) rfl
set_option maxRecDepth 100000 in
theorem cw_a706 : Cond.code yJ6_bitCount_0f7a4 cJ6_bitCount_0f7a4 1 (some .int) ∈ mm_ok := mm_inT (tm_3 (List.mem_of_getElem? (i := 155) rfl)) rfl
set_option maxRecDepth 100000 in
theorem cw_a705 : Cond.static yJ6_bitCount_0f7a4 ∈ mm_ok := by first | exact mm_inT (tm_3 (List.mem_of_getElem? (i := 154) rfl)) rfl | exact mm_in 705 (by decide +kernel) rfl
set_option maxRecDepth 100000 in
theorem cw_a84 : Cond.initialized RJ6 ∈ mm_ok := by first | exact mm_inT (tm_1 (List.mem_of_getElem? (i := 13) rfl)) rfl | exact mm_in 84 (by decide +kernel) rfl
set_option maxRecDepth 100000 in
theorem cw_a579 : Cond.code yJ6_numberOfTrailingZeros_0f7a4 cJ6_numberOfTrailingZeros_0f7a4 2 (some .int) ∈ mm_ok := mm_inT (tm_3 (List.mem_of_getElem? (i := 28) rfl)) rfl
set_option maxRecDepth 100000 in
theorem cw_a578 : Cond.static yJ6_numberOfTrailingZeros_0f7a4 ∈ mm_ok := by first | exact mm_inT (tm_3 (List.mem_of_getElem? (i := 27) rfl)) rfl | exact mm_in 578 (by decide +kernel) rfl
set_option maxRecDepth 100000 in
theorem cw_a734 : Cond.code yJ9_abs_0f7a4 cJ9_abs_0f7a4 1 (some .int) ∈ mm_ok := mm_inT (tm_3 (List.mem_of_getElem? (i := 183) rfl)) rfl
set_option maxRecDepth 100000 in
theorem cw_a733 : Cond.static yJ9_abs_0f7a4 ∈ mm_ok := by first | exact mm_inT (tm_3 (List.mem_of_getElem? (i := 182) rfl)) rfl | exact mm_in 733 (by decide +kernel) rfl
set_option maxRecDepth 100000 in
theorem cw_a79 : Cond.initialized RJ9 ∈ mm_ok := by first | exact mm_inT (tm_1 (List.mem_of_getElem? (i := 8) rfl)) rfl | exact mm_in 79 (by decide +kernel) rfl
set_option maxRecDepth 100000 in
theorem cw_a234 : Cond.code yJ9_max_7cf53 cJ9_max_7cf53 2 (some .int) ∈ mm_ok := mm_inT (tm_1 (List.mem_of_getElem? (i := 163) rfl)) rfl
set_option maxRecDepth 100000 in
theorem cw_a233 : Cond.static yJ9_max_7cf53 ∈ mm_ok := by first | exact mm_inT (tm_1 (List.mem_of_getElem? (i := 162) rfl)) rfl | exact mm_in 233 (by decide +kernel) rfl
set_option maxRecDepth 100000 in
theorem cw_a449 : Cond.code yJ9_min_7cf53 cJ9_min_7cf53 2 (some .int) ∈ mm_ok := mm_inT (tm_2 (List.mem_of_getElem? (i := 138) rfl)) rfl
set_option maxRecDepth 100000 in
theorem cw_a448 : Cond.static yJ9_min_7cf53 ∈ mm_ok := by first | exact mm_inT (tm_2 (List.mem_of_getElem? (i := 137) rfl)) rfl | exact mm_in 448 (by decide +kernel) rfl
set_option maxRecDepth 100000 in
theorem cw_a721 : Cond.code yX0_give cX0_give 5 none ∈ mm_ok := mm_inT (tm_3 (List.mem_of_getElem? (i := 170) rfl)) rfl
set_option maxRecDepth 100000 in
theorem cw_a719 : Cond.instanceMethod yX0_give ∈ mm_ok := by first | exact mm_inT (tm_3 (List.mem_of_getElem? (i := 168) rfl)) rfl | exact mm_in 719 (by decide +kernel) rfl
set_option maxRecDepth 100000 in
theorem cw_a720 : Cond.selects RX0 yX0_give yX0_give ∈ mm_ok := by first | exact mm_inT (tm_3 (List.mem_of_getElem? (i := 169) rfl)) rfl | exact mm_in 720 (by decide +kernel) rfl
set_option maxRecDepth 100000 in
theorem cw_a81 : Cond.initialized RX0 ∈ mm_ok := by first | exact mm_inT (tm_1 (List.mem_of_getElem? (i := 10) rfl)) rfl | exact mm_in 81 (by decide +kernel) rfl
set_option maxRecDepth 100000 in
theorem cw_a746 : Cond.code yX0_isFree cX0_isFree 4 (some .boolean) ∈ mm_ok := mm_inT (tm_3 (List.mem_of_getElem? (i := 195) rfl)) rfl
set_option maxRecDepth 100000 in
theorem cw_a745 : Cond.instanceMethod yX0_isFree ∈ mm_ok := by first | exact mm_inT (tm_3 (List.mem_of_getElem? (i := 194) rfl)) rfl | exact mm_in 745 (by decide +kernel) rfl
set_option maxRecDepth 100000 in
theorem cw_a752 : Cond.code yX0_leastSinger cX0_leastSinger 4 (some .int) ∈ mm_ok := mm_inT (tm_3 (List.mem_of_getElem? (i := 201) rfl)) rfl
set_option maxRecDepth 100000 in
theorem cw_a751 : Cond.instanceMethod yX0_leastSinger ∈ mm_ok := by first | exact mm_inT (tm_3 (List.mem_of_getElem? (i := 200) rfl)) rfl | exact mm_in 751 (by decide +kernel) rfl
set_option maxRecDepth 100000 in
theorem cw_a738 : Cond.code yX0_mostFrom cX0_mostFrom 5 (some .int) ∈ mm_ok := mm_inT (tm_3 (List.mem_of_getElem? (i := 187) rfl)) rfl
set_option maxRecDepth 100000 in
theorem cw_a737 : Cond.instanceMethod yX0_mostFrom ∈ mm_ok := by first | exact mm_inT (tm_3 (List.mem_of_getElem? (i := 186) rfl)) rfl | exact mm_in 737 (by decide +kernel) rfl
set_option maxRecDepth 100000 in
theorem cw_a760 : Cond.code yX0_singerOf cX0_singerOf 2 (some .int) ∈ mm_ok := mm_inT (tm_3 (List.mem_of_getElem? (i := 209) rfl)) rfl
set_option maxRecDepth 100000 in
theorem cw_a758 : Cond.instanceMethod yX0_singerOf ∈ mm_ok := by first | exact mm_inT (tm_3 (List.mem_of_getElem? (i := 207) rfl)) rfl | exact mm_in 758 (by decide +kernel) rfl
set_option maxRecDepth 100000 in
theorem cw_a759 : Cond.selects RX0 yX0_singerOf yX0_singerOf ∈ mm_ok := by first | exact mm_inT (tm_3 (List.mem_of_getElem? (i := 208) rfl)) rfl | exact mm_in 759 (by decide +kernel) rfl
set_option maxRecDepth 100000 in
theorem cw_a724 : Cond.code yX0_suitedFor cX0_suitedFor 5 (some .int) ∈ mm_ok := mm_inT (tm_3 (List.mem_of_getElem? (i := 173) rfl)) rfl
set_option maxRecDepth 100000 in
theorem cw_a723 : Cond.static yX0_suitedFor ∈ mm_ok := by first | exact mm_inT (tm_3 (List.mem_of_getElem? (i := 172) rfl)) rfl | exact mm_in 723 (by decide +kernel) rfl
set_option maxRecDepth 100000 in
theorem cw_a756 : Cond.code yX0_sung cX0_sung 1 (some .int) ∈ mm_ok := mm_inT (tm_3 (List.mem_of_getElem? (i := 205) rfl)) rfl
set_option maxRecDepth 100000 in
theorem cw_a754 : Cond.instanceMethod yX0_sung ∈ mm_ok := by first | exact mm_inT (tm_3 (List.mem_of_getElem? (i := 203) rfl)) rfl | exact mm_in 754 (by decide +kernel) rfl
set_option maxRecDepth 100000 in
theorem cw_a755 : Cond.selects RX0 yX0_sung yX0_sung ∈ mm_ok := by first | exact mm_inT (tm_3 (List.mem_of_getElem? (i := 204) rfl)) rfl | exact mm_in 755 (by decide +kernel) rfl
set_option maxRecDepth 100000 in
theorem cw_a742 : Cond.code yX0_sungFrom cX0_sungFrom 3 (some .int) ∈ mm_ok := mm_inT (tm_3 (List.mem_of_getElem? (i := 191) rfl)) rfl
set_option maxRecDepth 100000 in
theorem cw_a741 : Cond.instanceMethod yX0_sungFrom ∈ mm_ok := by first | exact mm_inT (tm_3 (List.mem_of_getElem? (i := 190) rfl)) rfl | exact mm_in 741 (by decide +kernel) rfl
set_option maxRecDepth 100000 in
theorem cw_a1223 : Cond.code yX10_abs cX10_abs 1 (some .int) ∈ mm_ok := mm_inT (tm_5 (List.mem_of_getElem? (i := 192) rfl)) rfl
set_option maxRecDepth 100000 in
theorem cw_a1222 : Cond.static yX10_abs ∈ mm_ok := by first | exact mm_inT (tm_5 (List.mem_of_getElem? (i := 191) rfl)) rfl | exact mm_in 1222 (by decide +kernel) rfl
set_option maxRecDepth 100000 in
theorem cw_a83 : Cond.initialized RX10 ∈ mm_ok := by first | exact mm_inT (tm_1 (List.mem_of_getElem? (i := 12) rfl)) rfl | exact mm_in 83 (by decide +kernel) rfl
set_option maxRecDepth 100000 in
theorem cw_a1185 : Cond.code yX10_allDie cX10_allDie 4 none ∈ mm_ok := mm_inT (tm_5 (List.mem_of_getElem? (i := 154) rfl)) rfl
set_option maxRecDepth 100000 in
theorem cw_a1184 : Cond.instanceMethod yX10_allDie ∈ mm_ok := by first | exact mm_inT (tm_5 (List.mem_of_getElem? (i := 153) rfl)) rfl | exact mm_in 1184 (by decide +kernel) rfl
set_option maxRecDepth 100000 in
theorem cw_a1076 : Cond.code yX10_allVoices cX10_allVoices 3 (some .int) ∈ mm_ok := mm_inT (tm_5 (List.mem_of_getElem? (i := 45) rfl)) rfl
set_option maxRecDepth 100000 in
theorem cw_a1075 : Cond.instanceMethod yX10_allVoices ∈ mm_ok := by first | exact mm_inT (tm_5 (List.mem_of_getElem? (i := 44) rfl)) rfl | exact mm_in 1075 (by decide +kernel) rfl
set_option maxRecDepth 100000 in
theorem cw_a912 : Cond.code yX10_begins cX10_begins 2 none ∈ mm_ok := mm_inT (tm_4 (List.mem_of_getElem? (i := 121) rfl)) rfl
set_option maxRecDepth 100000 in
theorem cw_a911 : Cond.instanceMethod yX10_begins ∈ mm_ok := by first | exact mm_inT (tm_4 (List.mem_of_getElem? (i := 120) rfl)) rfl | exact mm_in 911 (by decide +kernel) rfl
set_option maxRecDepth 100000 in
theorem cw_a1196 : Cond.code yX10_bits cX10_bits 3 (some .int) ∈ mm_ok := mm_inT (tm_5 (List.mem_of_getElem? (i := 165) rfl)) rfl
set_option maxRecDepth 100000 in
theorem cw_a1195 : Cond.static yX10_bits ∈ mm_ok := by first | exact mm_inT (tm_5 (List.mem_of_getElem? (i := 164) rfl)) rfl | exact mm_in 1195 (by decide +kernel) rfl
set_option maxRecDepth 100000 in
theorem cw_a903 : Cond.code yX10_blank cX10_blank 2 none ∈ mm_ok := mm_inT (tm_4 (List.mem_of_getElem? (i := 112) rfl)) rfl
set_option maxRecDepth 100000 in
theorem cw_a902 : Cond.static yX10_blank ∈ mm_ok := by first | exact mm_inT (tm_4 (List.mem_of_getElem? (i := 111) rfl)) rfl | exact mm_in 902 (by decide +kernel) rfl
set_option maxRecDepth 100000 in
theorem cw_a1200 : Cond.code yX10_canBe cX10_canBe 12 (some .boolean) ∈ mm_ok := mm_inT (tm_5 (List.mem_of_getElem? (i := 169) rfl)) rfl
set_option maxRecDepth 100000 in
theorem cw_a1199 : Cond.instanceMethod yX10_canBe ∈ mm_ok := by first | exact mm_inT (tm_5 (List.mem_of_getElem? (i := 168) rfl)) rfl | exact mm_in 1199 (by decide +kernel) rfl
set_option maxRecDepth 100000 in
theorem cw_a915 : Cond.code yX10_copies cX10_copies 6 none ∈ mm_ok := mm_inT (tm_4 (List.mem_of_getElem? (i := 124) rfl)) rfl
set_option maxRecDepth 100000 in
theorem cw_a914 : Cond.static yX10_copies ∈ mm_ok := by first | exact mm_inT (tm_4 (List.mem_of_getElem? (i := 123) rfl)) rfl | exact mm_in 914 (by decide +kernel) rfl
set_option maxRecDepth 100000 in
theorem cw_a1110 : Cond.code yX10_dies cX10_dies 8 (some .int) ∈ mm_ok := mm_inT (tm_5 (List.mem_of_getElem? (i := 79) rfl)) rfl
set_option maxRecDepth 100000 in
theorem cw_a1109 : Cond.instanceMethod yX10_dies ∈ mm_ok := by first | exact mm_inT (tm_5 (List.mem_of_getElem? (i := 78) rfl)) rfl | exact mm_in 1109 (by decide +kernel) rfl
set_option maxRecDepth 100000 in
theorem cw_a1161 : Cond.code yX10_draw cX10_draw 2 (some .int) ∈ mm_ok := mm_inT (tm_5 (List.mem_of_getElem? (i := 130) rfl)) rfl
set_option maxRecDepth 100000 in
theorem cw_a1160 : Cond.instanceMethod yX10_draw ∈ mm_ok := by first | exact mm_inT (tm_5 (List.mem_of_getElem? (i := 129) rfl)) rfl | exact mm_in 1160 (by decide +kernel) rfl
set_option maxRecDepth 100000 in
theorem cw_a1033 : Cond.code yX10_ends cX10_ends 1 (some .boolean) ∈ mm_ok := mm_inT (tm_5 (List.mem_of_getElem? (i := 2) rfl)) rfl
set_option maxRecDepth 100000 in
theorem cw_a1032 : Cond.instanceMethod yX10_ends ∈ mm_ok := by first | exact mm_inT (tm_5 (List.mem_of_getElem? (i := 1) rfl)) rfl | exact mm_in 1032 (by decide +kernel) rfl
set_option maxRecDepth 100000 in
theorem cw_a1025 : Cond.code yX10_fails cX10_fails 2 (some .boolean) ∈ mm_ok := mm_inT (tm_4 (List.mem_of_getElem? (i := 234) rfl)) rfl
set_option maxRecDepth 100000 in
theorem cw_a1024 : Cond.instanceMethod yX10_fails ∈ mm_ok := by first | exact mm_inT (tm_4 (List.mem_of_getElem? (i := 233) rfl)) rfl | exact mm_in 1024 (by decide +kernel) rfl
set_option maxRecDepth 100000 in
theorem cw_a1121 : Cond.code yX10_gets cX10_gets 4 none ∈ mm_ok := mm_inT (tm_5 (List.mem_of_getElem? (i := 90) rfl)) rfl
set_option maxRecDepth 100000 in
theorem cw_a1120 : Cond.instanceMethod yX10_gets ∈ mm_ok := by first | exact mm_inT (tm_5 (List.mem_of_getElem? (i := 89) rfl)) rfl | exact mm_in 1120 (by decide +kernel) rfl
set_option maxRecDepth 100000 in
theorem cw_a1204 : Cond.code yX10_heirOf cX10_heirOf 2 (some .int) ∈ mm_ok := mm_inT (tm_5 (List.mem_of_getElem? (i := 173) rfl)) rfl
set_option maxRecDepth 100000 in
theorem cw_a1203 : Cond.instanceMethod yX10_heirOf ∈ mm_ok := by first | exact mm_inT (tm_5 (List.mem_of_getElem? (i := 172) rfl)) rfl | exact mm_in 1203 (by decide +kernel) rfl
set_option maxRecDepth 100000 in
theorem cw_a1011 : Cond.code yX10_here cX10_here 1 (some .int) ∈ mm_ok := mm_inT (tm_4 (List.mem_of_getElem? (i := 220) rfl)) rfl
set_option maxRecDepth 100000 in
theorem cw_a1010 : Cond.instanceMethod yX10_here ∈ mm_ok := by first | exact mm_inT (tm_4 (List.mem_of_getElem? (i := 219) rfl)) rfl | exact mm_in 1010 (by decide +kernel) rfl
set_option maxRecDepth 100000 in
theorem cw_a908 : Cond.code yX10_in cX10_in 6 (some .boolean) ∈ mm_ok := mm_inT (tm_4 (List.mem_of_getElem? (i := 117) rfl)) rfl
set_option maxRecDepth 100000 in
theorem cw_a907 : Cond.static yX10_in ∈ mm_ok := by first | exact mm_inT (tm_4 (List.mem_of_getElem? (i := 116) rfl)) rfl | exact mm_in 907 (by decide +kernel) rfl
set_option maxRecDepth 100000 in
theorem cw_a1068 : Cond.code yX10_isAlive cX10_isAlive 2 (some .boolean) ∈ mm_ok := mm_inT (tm_5 (List.mem_of_getElem? (i := 37) rfl)) rfl
set_option maxRecDepth 100000 in
theorem cw_a1067 : Cond.instanceMethod yX10_isAlive ∈ mm_ok := by first | exact mm_inT (tm_5 (List.mem_of_getElem? (i := 36) rfl)) rfl | exact mm_in 1067 (by decide +kernel) rfl
set_option maxRecDepth 100000 in
theorem cw_a1152 : Cond.code yX10_isHeir cX10_isHeir 3 (some .boolean) ∈ mm_ok := mm_inT (tm_5 (List.mem_of_getElem? (i := 121) rfl)) rfl
set_option maxRecDepth 100000 in
theorem cw_a1151 : Cond.instanceMethod yX10_isHeir ∈ mm_ok := by first | exact mm_inT (tm_5 (List.mem_of_getElem? (i := 120) rfl)) rfl | exact mm_in 1151 (by decide +kernel) rfl
set_option maxRecDepth 100000 in
theorem cw_a1044 : Cond.code yX10_isIn cX10_isIn 2 (some .boolean) ∈ mm_ok := mm_inT (tm_5 (List.mem_of_getElem? (i := 13) rfl)) rfl
set_option maxRecDepth 100000 in
theorem cw_a1043 : Cond.static yX10_isIn ∈ mm_ok := by first | exact mm_inT (tm_5 (List.mem_of_getElem? (i := 12) rfl)) rfl | exact mm_in 1043 (by decide +kernel) rfl
set_option maxRecDepth 100000 in
theorem cw_a1177 : Cond.code yX10_isOrder cX10_isOrder 6 (some .boolean) ∈ mm_ok := mm_inT (tm_5 (List.mem_of_getElem? (i := 146) rfl)) rfl
set_option maxRecDepth 100000 in
theorem cw_a1176 : Cond.instanceMethod yX10_isOrder ∈ mm_ok := by first | exact mm_inT (tm_5 (List.mem_of_getElem? (i := 145) rfl)) rfl | exact mm_in 1176 (by decide +kernel) rfl
set_option maxRecDepth 100000 in
theorem cw_a1084 : Cond.code yX10_isPerson cX10_isPerson 2 (some .boolean) ∈ mm_ok := mm_inT (tm_5 (List.mem_of_getElem? (i := 53) rfl)) rfl
set_option maxRecDepth 100000 in
theorem cw_a1083 : Cond.instanceMethod yX10_isPerson ∈ mm_ok := by first | exact mm_inT (tm_5 (List.mem_of_getElem? (i := 52) rfl)) rfl | exact mm_in 1083 (by decide +kernel) rfl
set_option maxRecDepth 100000 in
theorem cw_a1237 : Cond.code yX10_isSet cX10_isSet 2 (some .boolean) ∈ mm_ok := mm_inT (tm_5 (List.mem_of_getElem? (i := 206) rfl)) rfl
set_option maxRecDepth 100000 in
theorem cw_a1236 : Cond.instanceMethod yX10_isSet ∈ mm_ok := by first | exact mm_inT (tm_5 (List.mem_of_getElem? (i := 205) rfl)) rfl | exact mm_in 1236 (by decide +kernel) rfl
set_option maxRecDepth 100000 in
theorem cw_a1270 : Cond.code yX10_isSo cX10_isSo 6 (some .boolean) ∈ mm_ok := mm_inT (tm_5 (List.mem_of_getElem? (i := 239) rfl)) rfl
set_option maxRecDepth 100000 in
theorem cw_a1269 : Cond.instanceMethod yX10_isSo ∈ mm_ok := by first | exact mm_inT (tm_5 (List.mem_of_getElem? (i := 238) rfl)) rfl | exact mm_in 1269 (by decide +kernel) rfl
set_option maxRecDepth 100000 in
theorem cw_a1041 : Cond.code yX10_isTold cX10_isTold 3 (some .boolean) ∈ mm_ok := mm_inT (tm_5 (List.mem_of_getElem? (i := 10) rfl)) rfl
set_option maxRecDepth 100000 in
theorem cw_a1040 : Cond.instanceMethod yX10_isTold ∈ mm_ok := by first | exact mm_inT (tm_5 (List.mem_of_getElem? (i := 9) rfl)) rfl | exact mm_in 1040 (by decide +kernel) rfl
set_option maxRecDepth 100000 in
theorem cw_a1262 : Cond.code yX10_isUse cX10_isUse 1 (some .boolean) ∈ mm_ok := mm_inT (tm_5 (List.mem_of_getElem? (i := 231) rfl)) rfl
set_option maxRecDepth 100000 in
theorem cw_a1261 : Cond.static yX10_isUse ∈ mm_ok := by first | exact mm_inT (tm_5 (List.mem_of_getElem? (i := 230) rfl)) rfl | exact mm_in 1261 (by decide +kernel) rfl
set_option maxRecDepth 100000 in
theorem cw_a1143 : Cond.code yX10_isVoice cX10_isVoice 1 (some .boolean) ∈ mm_ok := mm_inT (tm_5 (List.mem_of_getElem? (i := 112) rfl)) rfl
set_option maxRecDepth 100000 in
theorem cw_a1142 : Cond.static yX10_isVoice ∈ mm_ok := by first | exact mm_inT (tm_5 (List.mem_of_getElem? (i := 111) rfl)) rfl | exact mm_in 1142 (by decide +kernel) rfl
set_option maxRecDepth 100000 in
theorem cw_a1181 : Cond.code yX10_layAside cX10_layAside 1 none ∈ mm_ok := mm_inT (tm_5 (List.mem_of_getElem? (i := 150) rfl)) rfl
set_option maxRecDepth 100000 in
theorem cw_a1180 : Cond.instanceMethod yX10_layAside ∈ mm_ok := by first | exact mm_inT (tm_5 (List.mem_of_getElem? (i := 149) rfl)) rfl | exact mm_in 1180 (by decide +kernel) rfl
set_option maxRecDepth 100000 in
theorem cw_a1212 : Cond.code yX10_layTable cX10_layTable 6 none ∈ mm_ok := mm_inT (tm_5 (List.mem_of_getElem? (i := 181) rfl)) rfl
set_option maxRecDepth 100000 in
theorem cw_a1211 : Cond.instanceMethod yX10_layTable ∈ mm_ok := by first | exact mm_inT (tm_5 (List.mem_of_getElem? (i := 180) rfl)) rfl | exact mm_in 1211 (by decide +kernel) rfl
set_option maxRecDepth 100000 in
theorem cw_a1117 : Cond.code yX10_leastMute cX10_leastMute 3 (some .int) ∈ mm_ok := mm_inT (tm_5 (List.mem_of_getElem? (i := 86) rfl)) rfl
set_option maxRecDepth 100000 in
theorem cw_a1116 : Cond.instanceMethod yX10_leastMute ∈ mm_ok := by first | exact mm_inT (tm_5 (List.mem_of_getElem? (i := 85) rfl)) rfl | exact mm_in 1116 (by decide +kernel) rfl
set_option maxRecDepth 100000 in
theorem cw_a1136 : Cond.code yX10_leastOf cX10_leastOf 2 (some .int) ∈ mm_ok := mm_inT (tm_5 (List.mem_of_getElem? (i := 105) rfl)) rfl
set_option maxRecDepth 100000 in
theorem cw_a1135 : Cond.static yX10_leastOf ∈ mm_ok := by first | exact mm_inT (tm_5 (List.mem_of_getElem? (i := 104) rfl)) rfl | exact mm_in 1135 (by decide +kernel) rfl
set_option maxRecDepth 100000 in
theorem cw_a1113 : Cond.code yX10_lives cX10_lives 2 (some .boolean) ∈ mm_ok := mm_inT (tm_5 (List.mem_of_getElem? (i := 82) rfl)) rfl
set_option maxRecDepth 100000 in
theorem cw_a1112 : Cond.static yX10_lives ∈ mm_ok := by first | exact mm_inT (tm_5 (List.mem_of_getElem? (i := 81) rfl)) rfl | exact mm_in 1112 (by decide +kernel) rfl
set_option maxRecDepth 100000 in
theorem cw_a1072 : Cond.code yX10_lost cX10_lost 3 (some .int) ∈ mm_ok := mm_inT (tm_5 (List.mem_of_getElem? (i := 41) rfl)) rfl
set_option maxRecDepth 100000 in
theorem cw_a1071 : Cond.instanceMethod yX10_lost ∈ mm_ok := by first | exact mm_inT (tm_5 (List.mem_of_getElem? (i := 40) rfl)) rfl | exact mm_in 1071 (by decide +kernel) rfl
set_option maxRecDepth 100000 in
theorem cw_a1129 : Cond.code yX10_maySell cX10_maySell 3 (some .boolean) ∈ mm_ok := mm_inT (tm_5 (List.mem_of_getElem? (i := 98) rfl)) rfl
set_option maxRecDepth 100000 in
theorem cw_a1128 : Cond.instanceMethod yX10_maySell ∈ mm_ok := by first | exact mm_inT (tm_5 (List.mem_of_getElem? (i := 97) rfl)) rfl | exact mm_in 1128 (by decide +kernel) rfl
set_option maxRecDepth 100000 in
theorem cw_a1220 : Cond.code yX10_maySing cX10_maySing 4 (some .boolean) ∈ mm_ok := mm_inT (tm_5 (List.mem_of_getElem? (i := 189) rfl)) rfl
set_option maxRecDepth 100000 in
theorem cw_a1219 : Cond.instanceMethod yX10_maySing ∈ mm_ok := by first | exact mm_inT (tm_5 (List.mem_of_getElem? (i := 188) rfl)) rfl | exact mm_in 1219 (by decide +kernel) rfl
set_option maxRecDepth 100000 in
theorem cw_a1029 : Cond.code yX10_number cX10_number 4 (some .boolean) ∈ mm_ok := mm_inT (tm_4 (List.mem_of_getElem? (i := 238) rfl)) rfl
set_option maxRecDepth 100000 in
theorem cw_a1028 : Cond.instanceMethod yX10_number ∈ mm_ok := by first | exact mm_inT (tm_4 (List.mem_of_getElem? (i := 237) rfl)) rfl | exact mm_in 1028 (by decide +kernel) rfl
set_option maxRecDepth 100000 in
theorem cw_a1089 : Cond.code yX10_openTo cX10_openTo 4 (some .int) ∈ mm_ok := mm_inT (tm_5 (List.mem_of_getElem? (i := 58) rfl)) rfl
set_option maxRecDepth 100000 in
theorem cw_a1088 : Cond.instanceMethod yX10_openTo ∈ mm_ok := by first | exact mm_inT (tm_5 (List.mem_of_getElem? (i := 57) rfl)) rfl | exact mm_in 1088 (by decide +kernel) rfl
set_option maxRecDepth 100000 in
theorem cw_a1017 : Cond.code yX10_readsClause cX10_readsClause 1 (some .boolean) ∈ mm_ok := mm_inT (tm_4 (List.mem_of_getElem? (i := 226) rfl)) rfl
set_option maxRecDepth 100000 in
theorem cw_a1016 : Cond.instanceMethod yX10_readsClause ∈ mm_ok := by first | exact mm_inT (tm_4 (List.mem_of_getElem? (i := 225) rfl)) rfl | exact mm_in 1016 (by decide +kernel) rfl
set_option maxRecDepth 100000 in
theorem cw_a1048 : Cond.code yX10_readsDoor cX10_readsDoor 2 (some .boolean) ∈ mm_ok := mm_inT (tm_5 (List.mem_of_getElem? (i := 17) rfl)) rfl
set_option maxRecDepth 100000 in
theorem cw_a1047 : Cond.instanceMethod yX10_readsDoor ∈ mm_ok := by first | exact mm_inT (tm_5 (List.mem_of_getElem? (i := 16) rfl)) rfl | exact mm_in 1047 (by decide +kernel) rfl
set_option maxRecDepth 100000 in
theorem cw_a1052 : Cond.code yX10_readsParts cX10_readsParts 1 (some .boolean) ∈ mm_ok := mm_inT (tm_5 (List.mem_of_getElem? (i := 21) rfl)) rfl
set_option maxRecDepth 100000 in
theorem cw_a1051 : Cond.instanceMethod yX10_readsParts ∈ mm_ok := by first | exact mm_inT (tm_5 (List.mem_of_getElem? (i := 20) rfl)) rfl | exact mm_in 1051 (by decide +kernel) rfl
set_option maxRecDepth 100000 in
theorem cw_a1021 : Cond.code yX10_readsPerson cX10_readsPerson 2 (some .boolean) ∈ mm_ok := mm_inT (tm_4 (List.mem_of_getElem? (i := 230) rfl)) rfl
set_option maxRecDepth 100000 in
theorem cw_a1020 : Cond.instanceMethod yX10_readsPerson ∈ mm_ok := by first | exact mm_inT (tm_4 (List.mem_of_getElem? (i := 229) rfl)) rfl | exact mm_in 1020 (by decide +kernel) rfl
set_option maxRecDepth 100000 in
theorem cw_a1037 : Cond.code yX10_readsWill cX10_readsWill 3 (some .boolean) ∈ mm_ok := mm_inT (tm_5 (List.mem_of_getElem? (i := 6) rfl)) rfl
set_option maxRecDepth 100000 in
theorem cw_a1036 : Cond.instanceMethod yX10_readsWill ∈ mm_ok := by first | exact mm_inT (tm_5 (List.mem_of_getElem? (i := 5) rfl)) rfl | exact mm_in 1036 (by decide +kernel) rfl
set_option maxRecDepth 100000 in
theorem cw_a1106 : Cond.code yX10_remember cX10_remember 2 none ∈ mm_ok := mm_inT (tm_5 (List.mem_of_getElem? (i := 75) rfl)) rfl
set_option maxRecDepth 100000 in
theorem cw_a1105 : Cond.instanceMethod yX10_remember ∈ mm_ok := by first | exact mm_inT (tm_5 (List.mem_of_getElem? (i := 74) rfl)) rfl | exact mm_in 1105 (by decide +kernel) rfl
set_option maxRecDepth 100000 in
theorem cw_a1133 : Cond.code yX10_sells cX10_sells 4 none ∈ mm_ok := mm_inT (tm_5 (List.mem_of_getElem? (i := 102) rfl)) rfl
set_option maxRecDepth 100000 in
theorem cw_a1132 : Cond.instanceMethod yX10_sells ∈ mm_ok := by first | exact mm_inT (tm_5 (List.mem_of_getElem? (i := 101) rfl)) rfl | exact mm_in 1132 (by decide +kernel) rfl
set_option maxRecDepth 100000 in
theorem cw_a1007 : Cond.code yX10_step cX10_step 1 none ∈ mm_ok := mm_inT (tm_4 (List.mem_of_getElem? (i := 216) rfl)) rfl
set_option maxRecDepth 100000 in
theorem cw_a1006 : Cond.instanceMethod yX10_step ∈ mm_ok := by first | exact mm_inT (tm_4 (List.mem_of_getElem? (i := 215) rfl)) rfl | exact mm_in 1006 (by decide +kernel) rfl
set_option maxRecDepth 100000 in
theorem cw_a1216 : Cond.code yX10_sungBy cX10_sungBy 4 (some .int) ∈ mm_ok := mm_inT (tm_5 (List.mem_of_getElem? (i := 185) rfl)) rfl
set_option maxRecDepth 100000 in
theorem cw_a1215 : Cond.instanceMethod yX10_sungBy ∈ mm_ok := by first | exact mm_inT (tm_5 (List.mem_of_getElem? (i := 184) rfl)) rfl | exact mm_in 1215 (by decide +kernel) rfl
set_option maxRecDepth 100000 in
theorem cw_a1064 : Cond.code yX10_usesNone cX10_usesNone 3 (some .int) ∈ mm_ok := mm_inT (tm_5 (List.mem_of_getElem? (i := 33) rfl)) rfl
set_option maxRecDepth 100000 in
theorem cw_a1063 : Cond.instanceMethod yX10_usesNone ∈ mm_ok := by first | exact mm_inT (tm_5 (List.mem_of_getElem? (i := 32) rfl)) rfl | exact mm_in 1063 (by decide +kernel) rfl
set_option maxRecDepth 100000 in
theorem cw_a1251 : Cond.code yX10_voices cX10_voices 4 (some .int) ∈ mm_ok := mm_inT (tm_5 (List.mem_of_getElem? (i := 220) rfl)) rfl
set_option maxRecDepth 100000 in
theorem cw_a1250 : Cond.instanceMethod yX10_voices ∈ mm_ok := by first | exact mm_inT (tm_5 (List.mem_of_getElem? (i := 219) rfl)) rfl | exact mm_in 1250 (by decide +kernel) rfl
set_option maxRecDepth 100000 in
theorem cw_a632 : Cond.code yX1_next cX1_next 2 (some .int) ∈ mm_ok := mm_inT (tm_3 (List.mem_of_getElem? (i := 81) rfl)) rfl
set_option maxRecDepth 100000 in
theorem cw_a630 : Cond.instanceMethod yX1_next ∈ mm_ok := by first | exact mm_inT (tm_3 (List.mem_of_getElem? (i := 79) rfl)) rfl | exact mm_in 630 (by decide +kernel) rfl
set_option maxRecDepth 100000 in
theorem cw_a631 : Cond.selects RX1 yX1_next yX1_next ∈ mm_ok := by first | exact mm_inT (tm_3 (List.mem_of_getElem? (i := 80) rfl)) rfl | exact mm_in 631 (by decide +kernel) rfl
set_option maxRecDepth 100000 in
theorem cw_a77 : Cond.initialized RX1 ∈ mm_ok := by first | exact mm_inT (tm_1 (List.mem_of_getElem? (i := 6) rfl)) rfl | exact mm_in 77 (by decide +kernel) rfl
set_option maxRecDepth 100000 in
theorem cw_a786 : Cond.code yX2_add cX2_add 3 (some .boolean) ∈ mm_ok := mm_inT (tm_3 (List.mem_of_getElem? (i := 235) rfl)) rfl
set_option maxRecDepth 100000 in
theorem cw_a784 : Cond.instanceMethod yX2_add ∈ mm_ok := by first | exact mm_inT (tm_3 (List.mem_of_getElem? (i := 233) rfl)) rfl | exact mm_in 784 (by decide +kernel) rfl
set_option maxRecDepth 100000 in
theorem cw_a785 : Cond.selects RX2 yX2_add yX2_add ∈ mm_ok := by first | exact mm_inT (tm_3 (List.mem_of_getElem? (i := 234) rfl)) rfl | exact mm_in 785 (by decide +kernel) rfl
set_option maxRecDepth 100000 in
theorem cw_a78 : Cond.initialized RX2 ∈ mm_ok := by first | exact mm_inT (tm_1 (List.mem_of_getElem? (i := 7) rfl)) rfl | exact mm_in 78 (by decide +kernel) rfl
set_option maxRecDepth 100000 in
theorem cw_a469 : Cond.code yX2_clear cX2_clear 1 none ∈ mm_ok := mm_inT (tm_2 (List.mem_of_getElem? (i := 158) rfl)) rfl
set_option maxRecDepth 100000 in
theorem cw_a467 : Cond.instanceMethod yX2_clear ∈ mm_ok := by first | exact mm_inT (tm_2 (List.mem_of_getElem? (i := 156) rfl)) rfl | exact mm_in 467 (by decide +kernel) rfl
set_option maxRecDepth 100000 in
theorem cw_a468 : Cond.selects RX2 yX2_clear yX2_clear ∈ mm_ok := by first | exact mm_inT (tm_2 (List.mem_of_getElem? (i := 157) rfl)) rfl | exact mm_in 468 (by decide +kernel) rfl
set_option maxRecDepth 100000 in
theorem cw_a849 : Cond.code yX2_firstUnlike cX2_firstUnlike 3 (some .int) ∈ mm_ok := mm_inT (tm_4 (List.mem_of_getElem? (i := 58) rfl)) rfl
set_option maxRecDepth 100000 in
theorem cw_a847 : Cond.instanceMethod yX2_firstUnlike ∈ mm_ok := by first | exact mm_inT (tm_4 (List.mem_of_getElem? (i := 56) rfl)) rfl | exact mm_in 847 (by decide +kernel) rfl
set_option maxRecDepth 100000 in
theorem cw_a848 : Cond.selects RX2 yX2_firstUnlike yX2_firstUnlike ∈ mm_ok := by first | exact mm_inT (tm_4 (List.mem_of_getElem? (i := 57) rfl)) rfl | exact mm_in 848 (by decide +kernel) rfl
set_option maxRecDepth 100000 in
theorem cw_a798 : Cond.code yX2_subjectAt cX2_subjectAt 2 (some .int) ∈ mm_ok := mm_inT (tm_4 (List.mem_of_getElem? (i := 7) rfl)) rfl
set_option maxRecDepth 100000 in
theorem cw_a796 : Cond.instanceMethod yX2_subjectAt ∈ mm_ok := by first | exact mm_inT (tm_4 (List.mem_of_getElem? (i := 5) rfl)) rfl | exact mm_in 796 (by decide +kernel) rfl
set_option maxRecDepth 100000 in
theorem cw_a797 : Cond.selects RX2 yX2_subjectAt yX2_subjectAt ∈ mm_ok := by first | exact mm_inT (tm_4 (List.mem_of_getElem? (i := 6) rfl)) rfl | exact mm_in 797 (by decide +kernel) rfl
set_option maxRecDepth 100000 in
theorem cw_a802 : Cond.code yX2_valueAt cX2_valueAt 2 (some .int) ∈ mm_ok := mm_inT (tm_4 (List.mem_of_getElem? (i := 11) rfl)) rfl
set_option maxRecDepth 100000 in
theorem cw_a800 : Cond.instanceMethod yX2_valueAt ∈ mm_ok := by first | exact mm_inT (tm_4 (List.mem_of_getElem? (i := 9) rfl)) rfl | exact mm_in 800 (by decide +kernel) rfl
set_option maxRecDepth 100000 in
theorem cw_a801 : Cond.selects RX2 yX2_valueAt yX2_valueAt ∈ mm_ok := by first | exact mm_inT (tm_4 (List.mem_of_getElem? (i := 10) rfl)) rfl | exact mm_in 801 (by decide +kernel) rfl
set_option maxRecDepth 100000 in
theorem cw_a776 : Cond.code yX3_allLive cX3_allLive 2 (some .boolean) ∈ mm_ok := mm_inT (tm_3 (List.mem_of_getElem? (i := 225) rfl)) rfl
set_option maxRecDepth 100000 in
theorem cw_a774 : Cond.instanceMethod yX3_allLive ∈ mm_ok := by first | exact mm_inT (tm_3 (List.mem_of_getElem? (i := 223) rfl)) rfl | exact mm_in 774 (by decide +kernel) rfl
set_option maxRecDepth 100000 in
theorem cw_a775 : Cond.selects RX3 yX3_allLive yX3_allLive ∈ mm_ok := by first | exact mm_inT (tm_3 (List.mem_of_getElem? (i := 224) rfl)) rfl | exact mm_in 775 (by decide +kernel) rfl
set_option maxRecDepth 100000 in
theorem cw_a75 : Cond.initialized RX3 ∈ mm_ok := by first | exact mm_inT (tm_1 (List.mem_of_getElem? (i := 4) rfl)) rfl | exact mm_in 75 (by decide +kernel) rfl
set_option maxRecDepth 100000 in
theorem cw_a446 : Cond.code yX3_begin cX3_begin 3 none ∈ mm_ok := mm_inT (tm_2 (List.mem_of_getElem? (i := 135) rfl)) rfl
set_option maxRecDepth 100000 in
theorem cw_a444 : Cond.instanceMethod yX3_begin ∈ mm_ok := by first | exact mm_inT (tm_2 (List.mem_of_getElem? (i := 133) rfl)) rfl | exact mm_in 444 (by decide +kernel) rfl
set_option maxRecDepth 100000 in
theorem cw_a445 : Cond.selects RX3 yX3_begin yX3_begin ∈ mm_ok := by first | exact mm_inT (tm_2 (List.mem_of_getElem? (i := 134) rfl)) rfl | exact mm_in 445 (by decide +kernel) rfl
set_option maxRecDepth 100000 in
theorem cw_a568 : Cond.code yX3_bury cX3_bury 6 (some .int) ∈ mm_ok := mm_inT (tm_3 (List.mem_of_getElem? (i := 17) rfl)) rfl
set_option maxRecDepth 100000 in
theorem cw_a566 : Cond.instanceMethod yX3_bury ∈ mm_ok := by first | exact mm_inT (tm_3 (List.mem_of_getElem? (i := 15) rfl)) rfl | exact mm_in 566 (by decide +kernel) rfl
set_option maxRecDepth 100000 in
theorem cw_a567 : Cond.selects RX3 yX3_bury yX3_bury ∈ mm_ok := by first | exact mm_inT (tm_3 (List.mem_of_getElem? (i := 16) rfl)) rfl | exact mm_in 567 (by decide +kernel) rfl
set_option maxRecDepth 100000 in
theorem cw_a593 : Cond.code yX3_canHandOver cX3_canHandOver 3 (some .boolean) ∈ mm_ok := mm_inT (tm_3 (List.mem_of_getElem? (i := 42) rfl)) rfl
set_option maxRecDepth 100000 in
theorem cw_a591 : Cond.instanceMethod yX3_canHandOver ∈ mm_ok := by first | exact mm_inT (tm_3 (List.mem_of_getElem? (i := 40) rfl)) rfl | exact mm_in 591 (by decide +kernel) rfl
set_option maxRecDepth 100000 in
theorem cw_a592 : Cond.selects RX3 yX3_canHandOver yX3_canHandOver ∈ mm_ok := by first | exact mm_inT (tm_3 (List.mem_of_getElem? (i := 41) rfl)) rfl | exact mm_in 592 (by decide +kernel) rfl
set_option maxRecDepth 100000 in
theorem cw_a620 : Cond.code yX3_changeWill cX3_changeWill 4 none ∈ mm_ok := mm_inT (tm_3 (List.mem_of_getElem? (i := 69) rfl)) rfl
set_option maxRecDepth 100000 in
theorem cw_a618 : Cond.instanceMethod yX3_changeWill ∈ mm_ok := by first | exact mm_inT (tm_3 (List.mem_of_getElem? (i := 67) rfl)) rfl | exact mm_in 618 (by decide +kernel) rfl
set_option maxRecDepth 100000 in
theorem cw_a619 : Cond.selects RX3 yX3_changeWill yX3_changeWill ∈ mm_ok := by first | exact mm_inT (tm_3 (List.mem_of_getElem? (i := 68) rfl)) rfl | exact mm_in 619 (by decide +kernel) rfl
set_option maxRecDepth 100000 in
theorem cw_a563 : Cond.code yX3_copy cX3_copy 3 none ∈ mm_ok := mm_inT (tm_3 (List.mem_of_getElem? (i := 12) rfl)) rfl
set_option maxRecDepth 100000 in
theorem cw_a561 : Cond.instanceMethod yX3_copy ∈ mm_ok := by first | exact mm_inT (tm_3 (List.mem_of_getElem? (i := 10) rfl)) rfl | exact mm_in 561 (by decide +kernel) rfl
set_option maxRecDepth 100000 in
theorem cw_a562 : Cond.selects RX3 yX3_copy yX3_copy ∈ mm_ok := by first | exact mm_inT (tm_3 (List.mem_of_getElem? (i := 11) rfl)) rfl | exact mm_in 562 (by decide +kernel) rfl
set_option maxRecDepth 100000 in
theorem cw_a572 : Cond.code yX3_firstAlive cX3_firstAlive 3 (some .int) ∈ mm_ok := mm_inT (tm_3 (List.mem_of_getElem? (i := 21) rfl)) rfl
set_option maxRecDepth 100000 in
theorem cw_a571 : Cond.instanceMethod yX3_firstAlive ∈ mm_ok := by first | exact mm_inT (tm_3 (List.mem_of_getElem? (i := 20) rfl)) rfl | exact mm_in 571 (by decide +kernel) rfl
set_option maxRecDepth 100000 in
theorem cw_a523 : Cond.code yX3_firstHeir cX3_firstHeir 2 (some .int) ∈ mm_ok := mm_inT (tm_2 (List.mem_of_getElem? (i := 212) rfl)) rfl
set_option maxRecDepth 100000 in
theorem cw_a521 : Cond.instanceMethod yX3_firstHeir ∈ mm_ok := by first | exact mm_inT (tm_2 (List.mem_of_getElem? (i := 210) rfl)) rfl | exact mm_in 521 (by decide +kernel) rfl
set_option maxRecDepth 100000 in
theorem cw_a522 : Cond.selects RX3 yX3_firstHeir yX3_firstHeir ∈ mm_ok := by first | exact mm_inT (tm_2 (List.mem_of_getElem? (i := 211) rfl)) rfl | exact mm_in 522 (by decide +kernel) rfl
set_option maxRecDepth 100000 in
theorem cw_a584 : Cond.code yX3_give cX3_give 3 none ∈ mm_ok := mm_inT (tm_3 (List.mem_of_getElem? (i := 33) rfl)) rfl
set_option maxRecDepth 100000 in
theorem cw_a583 : Cond.instanceMethod yX3_give ∈ mm_ok := by first | exact mm_inT (tm_3 (List.mem_of_getElem? (i := 32) rfl)) rfl | exact mm_in 583 (by decide +kernel) rfl
set_option maxRecDepth 100000 in
theorem cw_a597 : Cond.code yX3_handOver cX3_handOver 4 none ∈ mm_ok := mm_inT (tm_3 (List.mem_of_getElem? (i := 46) rfl)) rfl
set_option maxRecDepth 100000 in
theorem cw_a595 : Cond.instanceMethod yX3_handOver ∈ mm_ok := by first | exact mm_inT (tm_3 (List.mem_of_getElem? (i := 44) rfl)) rfl | exact mm_in 595 (by decide +kernel) rfl
set_option maxRecDepth 100000 in
theorem cw_a596 : Cond.selects RX3 yX3_handOver yX3_handOver ∈ mm_ok := by first | exact mm_inT (tm_3 (List.mem_of_getElem? (i := 45) rfl)) rfl | exact mm_in 596 (by decide +kernel) rfl
set_option maxRecDepth 100000 in
theorem cw_a494 : Cond.code yX3_held cX3_held 3 (some .int) ∈ mm_ok := mm_inT (tm_2 (List.mem_of_getElem? (i := 183) rfl)) rfl
set_option maxRecDepth 100000 in
theorem cw_a492 : Cond.instanceMethod yX3_held ∈ mm_ok := by first | exact mm_inT (tm_2 (List.mem_of_getElem? (i := 181) rfl)) rfl | exact mm_in 492 (by decide +kernel) rfl
set_option maxRecDepth 100000 in
theorem cw_a493 : Cond.selects RX3 yX3_held yX3_held ∈ mm_ok := by first | exact mm_inT (tm_2 (List.mem_of_getElem? (i := 182) rfl)) rfl | exact mm_in 493 (by decide +kernel) rfl
set_option maxRecDepth 100000 in
theorem cw_a515 : Cond.code yX3_isOne cX3_isOne 2 (some .boolean) ∈ mm_ok := mm_inT (tm_2 (List.mem_of_getElem? (i := 204) rfl)) rfl
set_option maxRecDepth 100000 in
theorem cw_a514 : Cond.instanceMethod yX3_isOne ∈ mm_ok := by first | exact mm_inT (tm_2 (List.mem_of_getElem? (i := 203) rfl)) rfl | exact mm_in 514 (by decide +kernel) rfl
set_option maxRecDepth 100000 in
theorem cw_a519 : Cond.code yX3_jarOf cX3_jarOf 2 (some .int) ∈ mm_ok := mm_inT (tm_2 (List.mem_of_getElem? (i := 208) rfl)) rfl
set_option maxRecDepth 100000 in
theorem cw_a517 : Cond.instanceMethod yX3_jarOf ∈ mm_ok := by first | exact mm_inT (tm_2 (List.mem_of_getElem? (i := 206) rfl)) rfl | exact mm_in 517 (by decide +kernel) rfl
set_option maxRecDepth 100000 in
theorem cw_a518 : Cond.selects RX3 yX3_jarOf yX3_jarOf ∈ mm_ok := by first | exact mm_inT (tm_2 (List.mem_of_getElem? (i := 207) rfl)) rfl | exact mm_in 518 (by decide +kernel) rfl
set_option maxRecDepth 100000 in
theorem cw_a576 : Cond.code yX3_leastOf cX3_leastOf 1 (some .int) ∈ mm_ok := mm_inT (tm_3 (List.mem_of_getElem? (i := 25) rfl)) rfl
set_option maxRecDepth 100000 in
theorem cw_a575 : Cond.static yX3_leastOf ∈ mm_ok := by first | exact mm_inT (tm_3 (List.mem_of_getElem? (i := 24) rfl)) rfl | exact mm_in 575 (by decide +kernel) rfl
set_option maxRecDepth 100000 in
theorem cw_a498 : Cond.code yX3_lives cX3_lives 2 (some .boolean) ∈ mm_ok := mm_inT (tm_2 (List.mem_of_getElem? (i := 187) rfl)) rfl
set_option maxRecDepth 100000 in
theorem cw_a496 : Cond.instanceMethod yX3_lives ∈ mm_ok := by first | exact mm_inT (tm_2 (List.mem_of_getElem? (i := 185) rfl)) rfl | exact mm_in 496 (by decide +kernel) rfl
set_option maxRecDepth 100000 in
theorem cw_a497 : Cond.selects RX3 yX3_lives yX3_lives ∈ mm_ok := by first | exact mm_inT (tm_2 (List.mem_of_getElem? (i := 186) rfl)) rfl | exact mm_in 497 (by decide +kernel) rfl
set_option maxRecDepth 100000 in
theorem cw_a527 : Cond.code yX3_secondHeir cX3_secondHeir 2 (some .int) ∈ mm_ok := mm_inT (tm_2 (List.mem_of_getElem? (i := 216) rfl)) rfl
set_option maxRecDepth 100000 in
theorem cw_a525 : Cond.instanceMethod yX3_secondHeir ∈ mm_ok := by first | exact mm_inT (tm_2 (List.mem_of_getElem? (i := 214) rfl)) rfl | exact mm_in 525 (by decide +kernel) rfl
set_option maxRecDepth 100000 in
theorem cw_a526 : Cond.selects RX3 yX3_secondHeir yX3_secondHeir ∈ mm_ok := by first | exact mm_inT (tm_2 (List.mem_of_getElem? (i := 215) rfl)) rfl | exact mm_in 526 (by decide +kernel) rfl
set_option maxRecDepth 100000 in
theorem cw_a485 : Cond.code yX3_silent cX3_silent 3 (some .int) ∈ mm_ok := mm_inT (tm_2 (List.mem_of_getElem? (i := 174) rfl)) rfl
set_option maxRecDepth 100000 in
theorem cw_a483 : Cond.instanceMethod yX3_silent ∈ mm_ok := by first | exact mm_inT (tm_2 (List.mem_of_getElem? (i := 172) rfl)) rfl | exact mm_in 483 (by decide +kernel) rfl
set_option maxRecDepth 100000 in
theorem cw_a484 : Cond.selects RX3 yX3_silent yX3_silent ∈ mm_ok := by first | exact mm_inT (tm_2 (List.mem_of_getElem? (i := 173) rfl)) rfl | exact mm_in 484 (by decide +kernel) rfl
set_option maxRecDepth 100000 in
theorem cw_a608 : Cond.code yX3_takeOut cX3_takeOut 4 (some .int) ∈ mm_ok := mm_inT (tm_3 (List.mem_of_getElem? (i := 57) rfl)) rfl
set_option maxRecDepth 100000 in
theorem cw_a606 : Cond.instanceMethod yX3_takeOut ∈ mm_ok := by first | exact mm_inT (tm_3 (List.mem_of_getElem? (i := 55) rfl)) rfl | exact mm_in 606 (by decide +kernel) rfl
set_option maxRecDepth 100000 in
theorem cw_a607 : Cond.selects RX3 yX3_takeOut yX3_takeOut ∈ mm_ok := by first | exact mm_inT (tm_3 (List.mem_of_getElem? (i := 56) rfl)) rfl | exact mm_in 607 (by decide +kernel) rfl
set_option maxRecDepth 100000 in
theorem cw_a685 : Cond.code yX3_userOf cX3_userOf 3 (some .int) ∈ mm_ok := mm_inT (tm_3 (List.mem_of_getElem? (i := 134) rfl)) rfl
set_option maxRecDepth 100000 in
theorem cw_a683 : Cond.instanceMethod yX3_userOf ∈ mm_ok := by first | exact mm_inT (tm_3 (List.mem_of_getElem? (i := 132) rfl)) rfl | exact mm_in 683 (by decide +kernel) rfl
set_option maxRecDepth 100000 in
theorem cw_a684 : Cond.selects RX3 yX3_userOf yX3_userOf ∈ mm_ok := by first | exact mm_inT (tm_3 (List.mem_of_getElem? (i := 133) rfl)) rfl | exact mm_in 684 (by decide +kernel) rfl
set_option maxRecDepth 100000 in
theorem cw_a806 : Cond.code yX3_usersOf cX3_usersOf 4 (some .int) ∈ mm_ok := mm_inT (tm_4 (List.mem_of_getElem? (i := 15) rfl)) rfl
set_option maxRecDepth 100000 in
theorem cw_a804 : Cond.instanceMethod yX3_usersOf ∈ mm_ok := by first | exact mm_inT (tm_4 (List.mem_of_getElem? (i := 13) rfl)) rfl | exact mm_in 804 (by decide +kernel) rfl
set_option maxRecDepth 100000 in
theorem cw_a805 : Cond.selects RX3 yX3_usersOf yX3_usersOf ∈ mm_ok := by first | exact mm_inT (tm_4 (List.mem_of_getElem? (i := 14) rfl)) rfl | exact mm_in 805 (by decide +kernel) rfl
set_option maxRecDepth 100000 in
theorem cw_a511 : Cond.code yX3_voiceOf cX3_voiceOf 2 (some .int) ∈ mm_ok := mm_inT (tm_2 (List.mem_of_getElem? (i := 200) rfl)) rfl
set_option maxRecDepth 100000 in
theorem cw_a509 : Cond.instanceMethod yX3_voiceOf ∈ mm_ok := by first | exact mm_inT (tm_2 (List.mem_of_getElem? (i := 198) rfl)) rfl | exact mm_in 509 (by decide +kernel) rfl
set_option maxRecDepth 100000 in
theorem cw_a510 : Cond.selects RX3 yX3_voiceOf yX3_voiceOf ∈ mm_ok := by first | exact mm_inT (tm_2 (List.mem_of_getElem? (i := 199) rfl)) rfl | exact mm_in 510 (by decide +kernel) rfl
set_option maxRecDepth 100000 in
theorem cw_a667 : Cond.code yX5_add cX5_add 2 none ∈ mm_ok := mm_inT (tm_3 (List.mem_of_getElem? (i := 116) rfl)) rfl
set_option maxRecDepth 100000 in
theorem cw_a666 : Cond.instanceMethod yX5_add ∈ mm_ok := by first | exact mm_inT (tm_3 (List.mem_of_getElem? (i := 115) rfl)) rfl | exact mm_in 666 (by decide +kernel) rfl
set_option maxRecDepth 100000 in
theorem cw_a80 : Cond.initialized RX5 ∈ mm_ok := by first | exact mm_inT (tm_1 (List.mem_of_getElem? (i := 9) rfl)) rfl | exact mm_in 80 (by decide +kernel) rfl
set_option maxRecDepth 100000 in
theorem cw_a866 : Cond.code yX5_asNumber cX5_asNumber 3 (some .int) ∈ mm_ok := mm_inT (tm_4 (List.mem_of_getElem? (i := 75) rfl)) rfl
set_option maxRecDepth 100000 in
theorem cw_a864 : Cond.instanceMethod yX5_asNumber ∈ mm_ok := by first | exact mm_inT (tm_4 (List.mem_of_getElem? (i := 73) rfl)) rfl | exact mm_in 864 (by decide +kernel) rfl
set_option maxRecDepth 100000 in
theorem cw_a865 : Cond.selects RX5 yX5_asNumber yX5_asNumber ∈ mm_ok := by first | exact mm_inT (tm_4 (List.mem_of_getElem? (i := 74) rfl)) rfl | exact mm_in 865 (by decide +kernel) rfl
set_option maxRecDepth 100000 in
theorem cw_a676 : Cond.code yX5_buryIn cX5_buryIn 3 none ∈ mm_ok := mm_inT (tm_3 (List.mem_of_getElem? (i := 125) rfl)) rfl
set_option maxRecDepth 100000 in
theorem cw_a674 : Cond.instanceMethod yX5_buryIn ∈ mm_ok := by first | exact mm_inT (tm_3 (List.mem_of_getElem? (i := 123) rfl)) rfl | exact mm_in 674 (by decide +kernel) rfl
set_option maxRecDepth 100000 in
theorem cw_a675 : Cond.selects RX5 yX5_buryIn yX5_buryIn ∈ mm_ok := by first | exact mm_inT (tm_3 (List.mem_of_getElem? (i := 124) rfl)) rfl | exact mm_in 675 (by decide +kernel) rfl
set_option maxRecDepth 100000 in
theorem cw_a656 : Cond.code yX5_empty cX5_empty 1 none ∈ mm_ok := mm_inT (tm_3 (List.mem_of_getElem? (i := 105) rfl)) rfl
set_option maxRecDepth 100000 in
theorem cw_a655 : Cond.instanceMethod yX5_empty ∈ mm_ok := by first | exact mm_inT (tm_3 (List.mem_of_getElem? (i := 104) rfl)) rfl | exact mm_in 655 (by decide +kernel) rfl
set_option maxRecDepth 100000 in
theorem cw_a854 : Cond.code yX5_firstOne cX5_firstOne 1 (some .int) ∈ mm_ok := mm_inT (tm_4 (List.mem_of_getElem? (i := 63) rfl)) rfl
set_option maxRecDepth 100000 in
theorem cw_a852 : Cond.instanceMethod yX5_firstOne ∈ mm_ok := by first | exact mm_inT (tm_4 (List.mem_of_getElem? (i := 61) rfl)) rfl | exact mm_in 852 (by decide +kernel) rfl
set_option maxRecDepth 100000 in
theorem cw_a853 : Cond.selects RX5 yX5_firstOne yX5_firstOne ∈ mm_ok := by first | exact mm_inT (tm_4 (List.mem_of_getElem? (i := 62) rfl)) rfl | exact mm_in 853 (by decide +kernel) rfl
set_option maxRecDepth 100000 in
theorem cw_a662 : Cond.code yX5_holds cX5_holds 2 (some .boolean) ∈ mm_ok := mm_inT (tm_3 (List.mem_of_getElem? (i := 111) rfl)) rfl
set_option maxRecDepth 100000 in
theorem cw_a660 : Cond.instanceMethod yX5_holds ∈ mm_ok := by first | exact mm_inT (tm_3 (List.mem_of_getElem? (i := 109) rfl)) rfl | exact mm_in 660 (by decide +kernel) rfl
set_option maxRecDepth 100000 in
theorem cw_a661 : Cond.selects RX5 yX5_holds yX5_holds ∈ mm_ok := by first | exact mm_inT (tm_3 (List.mem_of_getElem? (i := 110) rfl)) rfl | exact mm_in 661 (by decide +kernel) rfl
set_option maxRecDepth 100000 in
theorem cw_a845 : Cond.code yX5_memberAt cX5_memberAt 4 (some .int) ∈ mm_ok := mm_inT (tm_4 (List.mem_of_getElem? (i := 54) rfl)) rfl
set_option maxRecDepth 100000 in
theorem cw_a844 : Cond.static yX5_memberAt ∈ mm_ok := by first | exact mm_inT (tm_4 (List.mem_of_getElem? (i := 53) rfl)) rfl | exact mm_in 844 (by decide +kernel) rfl
set_option maxRecDepth 100000 in
theorem cw_a652 : Cond.code yX5_readOrder cX5_readOrder 6 (some .boolean) ∈ mm_ok := mm_inT (tm_3 (List.mem_of_getElem? (i := 101) rfl)) rfl
set_option maxRecDepth 100000 in
theorem cw_a650 : Cond.instanceMethod yX5_readOrder ∈ mm_ok := by first | exact mm_inT (tm_3 (List.mem_of_getElem? (i := 99) rfl)) rfl | exact mm_in 650 (by decide +kernel) rfl
set_option maxRecDepth 100000 in
theorem cw_a651 : Cond.selects RX5 yX5_readOrder yX5_readOrder ∈ mm_ok := by first | exact mm_inT (tm_3 (List.mem_of_getElem? (i := 100) rfl)) rfl | exact mm_in 651 (by decide +kernel) rfl
set_option maxRecDepth 100000 in
theorem cw_a839 : Cond.code yX5_setOrder cX5_setOrder 8 none ∈ mm_ok := mm_inT (tm_4 (List.mem_of_getElem? (i := 48) rfl)) rfl
set_option maxRecDepth 100000 in
theorem cw_a837 : Cond.instanceMethod yX5_setOrder ∈ mm_ok := by first | exact mm_inT (tm_4 (List.mem_of_getElem? (i := 46) rfl)) rfl | exact mm_in 837 (by decide +kernel) rfl
set_option maxRecDepth 100000 in
theorem cw_a838 : Cond.selects RX5 yX5_setOrder yX5_setOrder ∈ mm_ok := by first | exact mm_inT (tm_4 (List.mem_of_getElem? (i := 47) rfl)) rfl | exact mm_in 838 (by decide +kernel) rfl
set_option maxRecDepth 100000 in
theorem cw_a434 : Cond.code yX6_addDoor cX6_addDoor 2 none ∈ mm_ok := mm_inT (tm_2 (List.mem_of_getElem? (i := 123) rfl)) rfl
set_option maxRecDepth 100000 in
theorem cw_a432 : Cond.instanceMethod yX6_addDoor ∈ mm_ok := by first | exact mm_inT (tm_2 (List.mem_of_getElem? (i := 121) rfl)) rfl | exact mm_in 432 (by decide +kernel) rfl
set_option maxRecDepth 100000 in
theorem cw_a433 : Cond.selects RX6 yX6_addDoor yX6_addDoor ∈ mm_ok := by first | exact mm_inT (tm_2 (List.mem_of_getElem? (i := 122) rfl)) rfl | exact mm_in 433 (by decide +kernel) rfl
set_option maxRecDepth 100000 in
theorem cw_a74 : Cond.initialized RX6 ∈ mm_ok := by first | exact mm_inT (tm_1 (List.mem_of_getElem? (i := 3) rfl)) rfl | exact mm_in 74 (by decide +kernel) rfl
set_option maxRecDepth 100000 in
theorem cw_a442 : Cond.code yX6_addPart cX6_addPart 2 none ∈ mm_ok := mm_inT (tm_2 (List.mem_of_getElem? (i := 131) rfl)) rfl
set_option maxRecDepth 100000 in
theorem cw_a440 : Cond.instanceMethod yX6_addPart ∈ mm_ok := by first | exact mm_inT (tm_2 (List.mem_of_getElem? (i := 129) rfl)) rfl | exact mm_in 440 (by decide +kernel) rfl
set_option maxRecDepth 100000 in
theorem cw_a441 : Cond.selects RX6 yX6_addPart yX6_addPart ∈ mm_ok := by first | exact mm_inT (tm_2 (List.mem_of_getElem? (i := 130) rfl)) rfl | exact mm_in 441 (by decide +kernel) rfl
set_option maxRecDepth 100000 in
theorem cw_a402 : Cond.code yX6_addPerson cX6_addPerson 2 none ∈ mm_ok := mm_inT (tm_2 (List.mem_of_getElem? (i := 91) rfl)) rfl
set_option maxRecDepth 100000 in
theorem cw_a400 : Cond.instanceMethod yX6_addPerson ∈ mm_ok := by first | exact mm_inT (tm_2 (List.mem_of_getElem? (i := 89) rfl)) rfl | exact mm_in 400 (by decide +kernel) rfl
set_option maxRecDepth 100000 in
theorem cw_a401 : Cond.selects RX6 yX6_addPerson yX6_addPerson ∈ mm_ok := by first | exact mm_inT (tm_2 (List.mem_of_getElem? (i := 90) rfl)) rfl | exact mm_in 401 (by decide +kernel) rfl
set_option maxRecDepth 100000 in
theorem cw_a425 : Cond.code yX6_addWill cX6_addWill 4 none ∈ mm_ok := mm_inT (tm_2 (List.mem_of_getElem? (i := 114) rfl)) rfl
set_option maxRecDepth 100000 in
theorem cw_a423 : Cond.instanceMethod yX6_addWill ∈ mm_ok := by first | exact mm_inT (tm_2 (List.mem_of_getElem? (i := 112) rfl)) rfl | exact mm_in 423 (by decide +kernel) rfl
set_option maxRecDepth 100000 in
theorem cw_a424 : Cond.selects RX6 yX6_addWill yX6_addWill ∈ mm_ok := by first | exact mm_inT (tm_2 (List.mem_of_getElem? (i := 113) rfl)) rfl | exact mm_in 424 (by decide +kernel) rfl
set_option maxRecDepth 100000 in
theorem cw_a359 : Cond.code yX6_empty cX6_empty 1 none ∈ mm_ok := mm_inT (tm_2 (List.mem_of_getElem? (i := 48) rfl)) rfl
set_option maxRecDepth 100000 in
theorem cw_a357 : Cond.instanceMethod yX6_empty ∈ mm_ok := by first | exact mm_inT (tm_2 (List.mem_of_getElem? (i := 46) rfl)) rfl | exact mm_in 357 (by decide +kernel) rfl
set_option maxRecDepth 100000 in
theorem cw_a358 : Cond.selects RX6 yX6_empty yX6_empty ∈ mm_ok := by first | exact mm_inT (tm_2 (List.mem_of_getElem? (i := 47) rfl)) rfl | exact mm_in 358 (by decide +kernel) rfl
set_option maxRecDepth 100000 in
theorem cw_a461 : Cond.code yX6_firstToldHeir cX6_firstToldHeir 2 (some .int) ∈ mm_ok := mm_inT (tm_2 (List.mem_of_getElem? (i := 150) rfl)) rfl
set_option maxRecDepth 100000 in
theorem cw_a459 : Cond.instanceMethod yX6_firstToldHeir ∈ mm_ok := by first | exact mm_inT (tm_2 (List.mem_of_getElem? (i := 148) rfl)) rfl | exact mm_in 459 (by decide +kernel) rfl
set_option maxRecDepth 100000 in
theorem cw_a460 : Cond.selects RX6 yX6_firstToldHeir yX6_firstToldHeir ∈ mm_ok := by first | exact mm_inT (tm_2 (List.mem_of_getElem? (i := 149) rfl)) rfl | exact mm_in 460 (by decide +kernel) rfl
set_option maxRecDepth 100000 in
theorem cw_a545 : Cond.code yX6_hasDoor cX6_hasDoor 2 (some .boolean) ∈ mm_ok := mm_inT (tm_2 (List.mem_of_getElem? (i := 234) rfl)) rfl
set_option maxRecDepth 100000 in
theorem cw_a543 : Cond.instanceMethod yX6_hasDoor ∈ mm_ok := by first | exact mm_inT (tm_2 (List.mem_of_getElem? (i := 232) rfl)) rfl | exact mm_in 543 (by decide +kernel) rfl
set_option maxRecDepth 100000 in
theorem cw_a544 : Cond.selects RX6 yX6_hasDoor yX6_hasDoor ∈ mm_ok := by first | exact mm_inT (tm_2 (List.mem_of_getElem? (i := 233) rfl)) rfl | exact mm_in 544 (by decide +kernel) rfl
set_option maxRecDepth 100000 in
theorem cw_a717 : Cond.code yX6_hasPart cX6_hasPart 2 (some .boolean) ∈ mm_ok := mm_inT (tm_3 (List.mem_of_getElem? (i := 166) rfl)) rfl
set_option maxRecDepth 100000 in
theorem cw_a715 : Cond.instanceMethod yX6_hasPart ∈ mm_ok := by first | exact mm_inT (tm_3 (List.mem_of_getElem? (i := 164) rfl)) rfl | exact mm_in 715 (by decide +kernel) rfl
set_option maxRecDepth 100000 in
theorem cw_a716 : Cond.selects RX6 yX6_hasPart yX6_hasPart ∈ mm_ok := by first | exact mm_inT (tm_3 (List.mem_of_getElem? (i := 165) rfl)) rfl | exact mm_in 716 (by decide +kernel) rfl
set_option maxRecDepth 100000 in
theorem cw_a421 : Cond.code yX6_hasPerson cX6_hasPerson 2 (some .boolean) ∈ mm_ok := mm_inT (tm_2 (List.mem_of_getElem? (i := 110) rfl)) rfl
set_option maxRecDepth 100000 in
theorem cw_a419 : Cond.instanceMethod yX6_hasPerson ∈ mm_ok := by first | exact mm_inT (tm_2 (List.mem_of_getElem? (i := 108) rfl)) rfl | exact mm_in 419 (by decide +kernel) rfl
set_option maxRecDepth 100000 in
theorem cw_a420 : Cond.selects RX6 yX6_hasPerson yX6_hasPerson ∈ mm_ok := by first | exact mm_inT (tm_2 (List.mem_of_getElem? (i := 109) rfl)) rfl | exact mm_in 420 (by decide +kernel) rfl
set_option maxRecDepth 100000 in
theorem cw_a772 : Cond.code yX6_hasPersons cX6_hasPersons 2 (some .boolean) ∈ mm_ok := mm_inT (tm_3 (List.mem_of_getElem? (i := 221) rfl)) rfl
set_option maxRecDepth 100000 in
theorem cw_a770 : Cond.instanceMethod yX6_hasPersons ∈ mm_ok := by first | exact mm_inT (tm_3 (List.mem_of_getElem? (i := 219) rfl)) rfl | exact mm_in 770 (by decide +kernel) rfl
set_option maxRecDepth 100000 in
theorem cw_a771 : Cond.selects RX6 yX6_hasPersons yX6_hasPersons ∈ mm_ok := by first | exact mm_inT (tm_3 (List.mem_of_getElem? (i := 220) rfl)) rfl | exact mm_in 771 (by decide +kernel) rfl
set_option maxRecDepth 100000 in
theorem cw_a453 : Cond.code yX6_hasVoice cX6_hasVoice 2 (some .boolean) ∈ mm_ok := mm_inT (tm_2 (List.mem_of_getElem? (i := 142) rfl)) rfl
set_option maxRecDepth 100000 in
theorem cw_a451 : Cond.instanceMethod yX6_hasVoice ∈ mm_ok := by first | exact mm_inT (tm_2 (List.mem_of_getElem? (i := 140) rfl)) rfl | exact mm_in 451 (by decide +kernel) rfl
set_option maxRecDepth 100000 in
theorem cw_a452 : Cond.selects RX6 yX6_hasVoice yX6_hasVoice ∈ mm_ok := by first | exact mm_inT (tm_2 (List.mem_of_getElem? (i := 141) rfl)) rfl | exact mm_in 452 (by decide +kernel) rfl
set_option maxRecDepth 100000 in
theorem cw_a410 : Cond.code yX6_hasWill cX6_hasWill 2 (some .boolean) ∈ mm_ok := mm_inT (tm_2 (List.mem_of_getElem? (i := 99) rfl)) rfl
set_option maxRecDepth 100000 in
theorem cw_a408 : Cond.instanceMethod yX6_hasWill ∈ mm_ok := by first | exact mm_inT (tm_2 (List.mem_of_getElem? (i := 97) rfl)) rfl | exact mm_in 408 (by decide +kernel) rfl
set_option maxRecDepth 100000 in
theorem cw_a409 : Cond.selects RX6 yX6_hasWill yX6_hasWill ∈ mm_ok := by first | exact mm_inT (tm_2 (List.mem_of_getElem? (i := 98) rfl)) rfl | exact mm_in 409 (by decide +kernel) rfl
set_option maxRecDepth 100000 in
theorem cw_a549 : Cond.code yX6_knownBy cX6_knownBy 2 (some .int) ∈ mm_ok := mm_inT (tm_2 (List.mem_of_getElem? (i := 238) rfl)) rfl
set_option maxRecDepth 100000 in
theorem cw_a547 : Cond.instanceMethod yX6_knownBy ∈ mm_ok := by first | exact mm_inT (tm_2 (List.mem_of_getElem? (i := 236) rfl)) rfl | exact mm_in 547 (by decide +kernel) rfl
set_option maxRecDepth 100000 in
theorem cw_a548 : Cond.selects RX6 yX6_knownBy yX6_knownBy ∈ mm_ok := by first | exact mm_inT (tm_2 (List.mem_of_getElem? (i := 237) rfl)) rfl | exact mm_in 548 (by decide +kernel) rfl
set_option maxRecDepth 100000 in
theorem cw_a531 : Cond.code yX6_openTo cX6_openTo 4 (some .int) ∈ mm_ok := mm_inT (tm_2 (List.mem_of_getElem? (i := 220) rfl)) rfl
set_option maxRecDepth 100000 in
theorem cw_a529 : Cond.instanceMethod yX6_openTo ∈ mm_ok := by first | exact mm_inT (tm_2 (List.mem_of_getElem? (i := 218) rfl)) rfl | exact mm_in 529 (by decide +kernel) rfl
set_option maxRecDepth 100000 in
theorem cw_a530 : Cond.selects RX6 yX6_openTo yX6_openTo ∈ mm_ok := by first | exact mm_inT (tm_2 (List.mem_of_getElem? (i := 219) rfl)) rfl | exact mm_in 530 (by decide +kernel) rfl
set_option maxRecDepth 100000 in
theorem cw_a457 : Cond.code yX6_rangeOf cX6_rangeOf 2 (some .int) ∈ mm_ok := mm_inT (tm_2 (List.mem_of_getElem? (i := 146) rfl)) rfl
set_option maxRecDepth 100000 in
theorem cw_a455 : Cond.instanceMethod yX6_rangeOf ∈ mm_ok := by first | exact mm_inT (tm_2 (List.mem_of_getElem? (i := 144) rfl)) rfl | exact mm_in 455 (by decide +kernel) rfl
set_option maxRecDepth 100000 in
theorem cw_a456 : Cond.selects RX6 yX6_rangeOf yX6_rangeOf ∈ mm_ok := by first | exact mm_inT (tm_2 (List.mem_of_getElem? (i := 145) rfl)) rfl | exact mm_in 456 (by decide +kernel) rfl
set_option maxRecDepth 100000 in
theorem cw_a465 : Cond.code yX6_secondToldHeir cX6_secondToldHeir 2 (some .int) ∈ mm_ok := mm_inT (tm_2 (List.mem_of_getElem? (i := 154) rfl)) rfl
set_option maxRecDepth 100000 in
theorem cw_a463 : Cond.instanceMethod yX6_secondToldHeir ∈ mm_ok := by first | exact mm_inT (tm_2 (List.mem_of_getElem? (i := 152) rfl)) rfl | exact mm_in 463 (by decide +kernel) rfl
set_option maxRecDepth 100000 in
theorem cw_a464 : Cond.selects RX6 yX6_secondToldHeir yX6_secondToldHeir ∈ mm_ok := by first | exact mm_inT (tm_2 (List.mem_of_getElem? (i := 153) rfl)) rfl | exact mm_in 464 (by decide +kernel) rfl
set_option maxRecDepth 100000 in
theorem cw_a730 : Cond.code yX6_suits cX6_suits 3 (some .boolean) ∈ mm_ok := mm_inT (tm_3 (List.mem_of_getElem? (i := 179) rfl)) rfl
set_option maxRecDepth 100000 in
theorem cw_a728 : Cond.instanceMethod yX6_suits ∈ mm_ok := by first | exact mm_inT (tm_3 (List.mem_of_getElem? (i := 177) rfl)) rfl | exact mm_in 728 (by decide +kernel) rfl
set_option maxRecDepth 100000 in
theorem cw_a729 : Cond.selects RX6 yX6_suits yX6_suits ∈ mm_ok := by first | exact mm_inT (tm_3 (List.mem_of_getElem? (i := 178) rfl)) rfl | exact mm_in 729 (by decide +kernel) rfl
set_option maxRecDepth 100000 in
theorem cw_a489 : Cond.code yX6_voices cX6_voices 3 (some .int) ∈ mm_ok := mm_inT (tm_2 (List.mem_of_getElem? (i := 178) rfl)) rfl
set_option maxRecDepth 100000 in
theorem cw_a487 : Cond.instanceMethod yX6_voices ∈ mm_ok := by first | exact mm_inT (tm_2 (List.mem_of_getElem? (i := 176) rfl)) rfl | exact mm_in 487 (by decide +kernel) rfl
set_option maxRecDepth 100000 in
theorem cw_a488 : Cond.selects RX6 yX6_voices yX6_voices ∈ mm_ok := by first | exact mm_inT (tm_2 (List.mem_of_getElem? (i := 177) rfl)) rfl | exact mm_in 488 (by decide +kernel) rfl
set_option maxRecDepth 100000 in
theorem cw_a644 : Cond.code yX7_bringBack cX7_bringBack 2 (some .boolean) ∈ mm_ok := mm_inT (tm_3 (List.mem_of_getElem? (i := 93) rfl)) rfl
set_option maxRecDepth 100000 in
theorem cw_a642 : Cond.instanceMethod yX7_bringBack ∈ mm_ok := by first | exact mm_inT (tm_3 (List.mem_of_getElem? (i := 91) rfl)) rfl | exact mm_in 642 (by decide +kernel) rfl
set_option maxRecDepth 100000 in
theorem cw_a643 : Cond.selects RX7 yX7_bringBack yX7_bringBack ∈ mm_ok := by first | exact mm_inT (tm_3 (List.mem_of_getElem? (i := 92) rfl)) rfl | exact mm_in 643 (by decide +kernel) rfl
set_option maxRecDepth 100000 in
theorem cw_a76 : Cond.initialized RX7 ∈ mm_ok := by first | exact mm_inT (tm_1 (List.mem_of_getElem? (i := 5) rfl)) rfl | exact mm_in 76 (by decide +kernel) rfl
set_option maxRecDepth 100000 in
theorem cw_a473 : Cond.code yX7_forget cX7_forget 1 none ∈ mm_ok := mm_inT (tm_2 (List.mem_of_getElem? (i := 162) rfl)) rfl
set_option maxRecDepth 100000 in
theorem cw_a471 : Cond.instanceMethod yX7_forget ∈ mm_ok := by first | exact mm_inT (tm_2 (List.mem_of_getElem? (i := 160) rfl)) rfl | exact mm_in 471 (by decide +kernel) rfl
set_option maxRecDepth 100000 in
theorem cw_a472 : Cond.selects RX7 yX7_forget yX7_forget ∈ mm_ok := by first | exact mm_inT (tm_2 (List.mem_of_getElem? (i := 161) rfl)) rfl | exact mm_in 472 (by decide +kernel) rfl
set_option maxRecDepth 100000 in
theorem cw_a559 : Cond.code yX7_remember cX7_remember 2 none ∈ mm_ok := mm_inT (tm_3 (List.mem_of_getElem? (i := 8) rfl)) rfl
set_option maxRecDepth 100000 in
theorem cw_a557 : Cond.instanceMethod yX7_remember ∈ mm_ok := by first | exact mm_inT (tm_3 (List.mem_of_getElem? (i := 6) rfl)) rfl | exact mm_in 557 (by decide +kernel) rfl
set_option maxRecDepth 100000 in
theorem cw_a558 : Cond.selects RX7 yX7_remember yX7_remember ∈ mm_ok := by first | exact mm_inT (tm_3 (List.mem_of_getElem? (i := 7) rfl)) rfl | exact mm_in 558 (by decide +kernel) rfl
set_option maxRecDepth 100000 in
theorem cw_a346 : Cond.code yX8_add cX8_add 2 (some .boolean) ∈ mm_ok := mm_inT (tm_2 (List.mem_of_getElem? (i := 35) rfl)) rfl
set_option maxRecDepth 100000 in
theorem cw_a344 : Cond.instanceMethod yX8_add ∈ mm_ok := by first | exact mm_inT (tm_2 (List.mem_of_getElem? (i := 33) rfl)) rfl | exact mm_in 344 (by decide +kernel) rfl
set_option maxRecDepth 100000 in
theorem cw_a345 : Cond.selects RX8 yX8_add yX8_add ∈ mm_ok := by first | exact mm_inT (tm_2 (List.mem_of_getElem? (i := 34) rfl)) rfl | exact mm_in 345 (by decide +kernel) rfl
set_option maxRecDepth 100000 in
theorem cw_a73 : Cond.initialized RX8 ∈ mm_ok := by first | exact mm_inT (tm_1 (List.mem_of_getElem? (i := 2) rfl)) rfl | exact mm_in 73 (by decide +kernel) rfl
set_option maxRecDepth 100000 in
theorem cw_a383 : Cond.code yX8_blame cX8_blame 3 none ∈ mm_ok := mm_inT (tm_2 (List.mem_of_getElem? (i := 72) rfl)) rfl
set_option maxRecDepth 100000 in
theorem cw_a382 : Cond.instanceMethod yX8_blame ∈ mm_ok := by first | exact mm_inT (tm_2 (List.mem_of_getElem? (i := 71) rfl)) rfl | exact mm_in 382 (by decide +kernel) rfl
set_option maxRecDepth 100000 in
theorem cw_a390 : Cond.code yX8_isFigure cX8_isFigure 1 (some .boolean) ∈ mm_ok := mm_inT (tm_2 (List.mem_of_getElem? (i := 79) rfl)) rfl
set_option maxRecDepth 100000 in
theorem cw_a389 : Cond.static yX8_isFigure ∈ mm_ok := by first | exact mm_inT (tm_2 (List.mem_of_getElem? (i := 78) rfl)) rfl | exact mm_in 389 (by decide +kernel) rfl
set_option maxRecDepth 100000 in
theorem cw_a398 : Cond.code yX8_isNext cX8_isNext 2 (some .boolean) ∈ mm_ok := mm_inT (tm_2 (List.mem_of_getElem? (i := 87) rfl)) rfl
set_option maxRecDepth 100000 in
theorem cw_a397 : Cond.instanceMethod yX8_isNext ∈ mm_ok := by first | exact mm_inT (tm_2 (List.mem_of_getElem? (i := 86) rfl)) rfl | exact mm_in 397 (by decide +kernel) rfl
set_option maxRecDepth 100000 in
theorem cw_a367 : Cond.code yX8_isSound cX8_isSound 1 (some .boolean) ∈ mm_ok := mm_inT (tm_2 (List.mem_of_getElem? (i := 56) rfl)) rfl
set_option maxRecDepth 100000 in
theorem cw_a366 : Cond.instanceMethod yX8_isSound ∈ mm_ok := by first | exact mm_inT (tm_2 (List.mem_of_getElem? (i := 55) rfl)) rfl | exact mm_in 366 (by decide +kernel) rfl
set_option maxRecDepth 100000 in
theorem cw_a375 : Cond.code yX8_letterHere cX8_letterHere 1 (some .int) ∈ mm_ok := mm_inT (tm_2 (List.mem_of_getElem? (i := 64) rfl)) rfl
set_option maxRecDepth 100000 in
theorem cw_a374 : Cond.instanceMethod yX8_letterHere ∈ mm_ok := by first | exact mm_inT (tm_2 (List.mem_of_getElem? (i := 63) rfl)) rfl | exact mm_in 374 (by decide +kernel) rfl
set_option maxRecDepth 100000 in
theorem cw_a438 : Cond.code yX8_readChoir cX8_readChoir 3 none ∈ mm_ok := mm_inT (tm_2 (List.mem_of_getElem? (i := 127) rfl)) rfl
set_option maxRecDepth 100000 in
theorem cw_a437 : Cond.instanceMethod yX8_readChoir ∈ mm_ok := by first | exact mm_inT (tm_2 (List.mem_of_getElem? (i := 126) rfl)) rfl | exact mm_in 437 (by decide +kernel) rfl
set_option maxRecDepth 100000 in
theorem cw_a371 : Cond.code yX8_readClause cX8_readClause 2 none ∈ mm_ok := mm_inT (tm_2 (List.mem_of_getElem? (i := 60) rfl)) rfl
set_option maxRecDepth 100000 in
theorem cw_a370 : Cond.instanceMethod yX8_readClause ∈ mm_ok := by first | exact mm_inT (tm_2 (List.mem_of_getElem? (i := 59) rfl)) rfl | exact mm_in 370 (by decide +kernel) rfl
set_option maxRecDepth 100000 in
theorem cw_a430 : Cond.code yX8_readDoor cX8_readDoor 3 none ∈ mm_ok := mm_inT (tm_2 (List.mem_of_getElem? (i := 119) rfl)) rfl
set_option maxRecDepth 100000 in
theorem cw_a429 : Cond.instanceMethod yX8_readDoor ∈ mm_ok := by first | exact mm_inT (tm_2 (List.mem_of_getElem? (i := 118) rfl)) rfl | exact mm_in 429 (by decide +kernel) rfl
set_option maxRecDepth 100000 in
theorem cw_a417 : Cond.code yX8_readHeir cX8_readHeir 4 (some .int) ∈ mm_ok := mm_inT (tm_2 (List.mem_of_getElem? (i := 106) rfl)) rfl
set_option maxRecDepth 100000 in
theorem cw_a416 : Cond.instanceMethod yX8_readHeir ∈ mm_ok := by first | exact mm_inT (tm_2 (List.mem_of_getElem? (i := 105) rfl)) rfl | exact mm_in 416 (by decide +kernel) rfl
set_option maxRecDepth 100000 in
theorem cw_a355 : Cond.code yX8_readInto cX8_readInto 3 (some .boolean) ∈ mm_ok := mm_inT (tm_2 (List.mem_of_getElem? (i := 44) rfl)) rfl
set_option maxRecDepth 100000 in
theorem cw_a353 : Cond.instanceMethod yX8_readInto ∈ mm_ok := by first | exact mm_inT (tm_2 (List.mem_of_getElem? (i := 42) rfl)) rfl | exact mm_in 353 (by decide +kernel) rfl
set_option maxRecDepth 100000 in
theorem cw_a354 : Cond.selects RX8 yX8_readInto yX8_readInto ∈ mm_ok := by first | exact mm_inT (tm_2 (List.mem_of_getElem? (i := 43) rfl)) rfl | exact mm_in 354 (by decide +kernel) rfl
set_option maxRecDepth 100000 in
theorem cw_a387 : Cond.code yX8_readNumber cX8_readNumber 4 (some .int) ∈ mm_ok := mm_inT (tm_2 (List.mem_of_getElem? (i := 76) rfl)) rfl
set_option maxRecDepth 100000 in
theorem cw_a386 : Cond.instanceMethod yX8_readNumber ∈ mm_ok := by first | exact mm_inT (tm_2 (List.mem_of_getElem? (i := 75) rfl)) rfl | exact mm_in 386 (by decide +kernel) rfl
set_option maxRecDepth 100000 in
theorem cw_a379 : Cond.code yX8_readPerson cX8_readPerson 3 none ∈ mm_ok := mm_inT (tm_2 (List.mem_of_getElem? (i := 68) rfl)) rfl
set_option maxRecDepth 100000 in
theorem cw_a378 : Cond.instanceMethod yX8_readPerson ∈ mm_ok := by first | exact mm_inT (tm_2 (List.mem_of_getElem? (i := 67) rfl)) rfl | exact mm_in 378 (by decide +kernel) rfl
set_option maxRecDepth 100000 in
theorem cw_a394 : Cond.code yX8_readSign cX8_readSign 2 (some .boolean) ∈ mm_ok := mm_inT (tm_2 (List.mem_of_getElem? (i := 83) rfl)) rfl
set_option maxRecDepth 100000 in
theorem cw_a393 : Cond.instanceMethod yX8_readSign ∈ mm_ok := by first | exact mm_inT (tm_2 (List.mem_of_getElem? (i := 82) rfl)) rfl | exact mm_in 393 (by decide +kernel) rfl
set_option maxRecDepth 100000 in
theorem cw_a406 : Cond.code yX8_readWill cX8_readWill 5 none ∈ mm_ok := mm_inT (tm_2 (List.mem_of_getElem? (i := 95) rfl)) rfl
set_option maxRecDepth 100000 in
theorem cw_a405 : Cond.instanceMethod yX8_readWill ∈ mm_ok := by first | exact mm_inT (tm_2 (List.mem_of_getElem? (i := 94) rfl)) rfl | exact mm_in 405 (by decide +kernel) rfl
set_option maxRecDepth 100000 in
theorem cw_a363 : Cond.code yX8_skipBlanks cX8_skipBlanks 1 none ∈ mm_ok := mm_inT (tm_2 (List.mem_of_getElem? (i := 52) rfl)) rfl
set_option maxRecDepth 100000 in
theorem cw_a362 : Cond.instanceMethod yX8_skipBlanks ∈ mm_ok := by first | exact mm_inT (tm_2 (List.mem_of_getElem? (i := 51) rfl)) rfl | exact mm_in 362 (by decide +kernel) rfl
set_option maxRecDepth 100000 in
theorem cw_a616 : Cond.code yX9_canInherit cX9_canInherit 3 (some .boolean) ∈ mm_ok := mm_inT (tm_3 (List.mem_of_getElem? (i := 65) rfl)) rfl
set_option maxRecDepth 100000 in
theorem cw_a615 : Cond.instanceMethod yX9_canInherit ∈ mm_ok := by first | exact mm_inT (tm_3 (List.mem_of_getElem? (i := 64) rfl)) rfl | exact mm_in 615 (by decide +kernel) rfl
set_option maxRecDepth 100000 in
theorem cw_a72 : Cond.initialized RX9 ∈ mm_ok := by first | exact mm_inT (tm_1 (List.mem_of_getElem? (i := 1) rfl)) rfl | exact mm_in 72 (by decide +kernel) rfl
set_option maxRecDepth 100000 in
theorem cw_a858 : Cond.code yX9_countOrders cX9_countOrders 4 (some .int) ∈ mm_ok := mm_inT (tm_4 (List.mem_of_getElem? (i := 67) rfl)) rfl
set_option maxRecDepth 100000 in
theorem cw_a857 : Cond.instanceMethod yX9_countOrders ∈ mm_ok := by first | exact mm_inT (tm_4 (List.mem_of_getElem? (i := 66) rfl)) rfl | exact mm_in 857 (by decide +kernel) rfl
set_option maxRecDepth 100000 in
theorem cw_a694 : Cond.code yX9_fewestWills cX9_fewestWills 5 (some .int) ∈ mm_ok := mm_inT (tm_3 (List.mem_of_getElem? (i := 143) rfl)) rfl
set_option maxRecDepth 100000 in
theorem cw_a693 : Cond.instanceMethod yX9_fewestWills ∈ mm_ok := by first | exact mm_inT (tm_3 (List.mem_of_getElem? (i := 142) rfl)) rfl | exact mm_in 693 (by decide +kernel) rfl
set_option maxRecDepth 100000 in
theorem cw_a826 : Cond.code yX9_firstInAllOrders cX9_firstInAllOrders 4 (some .int) ∈ mm_ok := mm_inT (tm_4 (List.mem_of_getElem? (i := 35) rfl)) rfl
set_option maxRecDepth 100000 in
theorem cw_a825 : Cond.instanceMethod yX9_firstInAllOrders ∈ mm_ok := by first | exact mm_inT (tm_4 (List.mem_of_getElem? (i := 34) rfl)) rfl | exact mm_in 825 (by decide +kernel) rfl
set_option maxRecDepth 100000 in
theorem cw_a835 : Cond.code yX9_fitsOrder cX9_fitsOrder 3 (some .boolean) ∈ mm_ok := mm_inT (tm_4 (List.mem_of_getElem? (i := 44) rfl)) rfl
set_option maxRecDepth 100000 in
theorem cw_a834 : Cond.instanceMethod yX9_fitsOrder ∈ mm_ok := by first | exact mm_inT (tm_4 (List.mem_of_getElem? (i := 43) rfl)) rfl | exact mm_in 834 (by decide +kernel) rfl
set_option maxRecDepth 100000 in
theorem cw_a703 : Cond.code yX9_helpTogether cX9_helpTogether 7 (some .boolean) ∈ mm_ok := mm_inT (tm_3 (List.mem_of_getElem? (i := 152) rfl)) rfl
set_option maxRecDepth 100000 in
theorem cw_a702 : Cond.instanceMethod yX9_helpTogether ∈ mm_ok := by first | exact mm_inT (tm_3 (List.mem_of_getElem? (i := 151) rfl)) rfl | exact mm_in 702 (by decide +kernel) rfl
set_option maxRecDepth 100000 in
theorem cw_a699 : Cond.code yX9_helpsAlone cX9_helpsAlone 5 (some .boolean) ∈ mm_ok := mm_inT (tm_3 (List.mem_of_getElem? (i := 148) rfl)) rfl
set_option maxRecDepth 100000 in
theorem cw_a698 : Cond.instanceMethod yX9_helpsAlone ∈ mm_ok := by first | exact mm_inT (tm_3 (List.mem_of_getElem? (i := 147) rfl)) rfl | exact mm_in 698 (by decide +kernel) rfl
set_option maxRecDepth 100000 in
theorem cw_a890 : Cond.code yX9_imageOf cX9_imageOf 2 (some (.object "VoiceWills$Image")) ∈ mm_ok := mm_inT (tm_4 (List.mem_of_getElem? (i := 99) rfl)) rfl
set_option maxRecDepth 100000 in
theorem cw_a889 : Cond.instanceMethod yX9_imageOf ∈ mm_ok := by first | exact mm_inT (tm_4 (List.mem_of_getElem? (i := 98) rfl)) rfl | exact mm_in 889 (by decide +kernel) rfl
set_option maxRecDepth 100000 in
theorem cw_a413 : Cond.code yX9_isIn cX9_isIn 2 (some .boolean) ∈ mm_ok := mm_inT (tm_2 (List.mem_of_getElem? (i := 102) rfl)) rfl
set_option maxRecDepth 100000 in
theorem cw_a412 : Cond.static yX9_isIn ∈ mm_ok := by first | exact mm_inT (tm_2 (List.mem_of_getElem? (i := 101) rfl)) rfl | exact mm_in 412 (by decide +kernel) rfl
set_option maxRecDepth 100000 in
theorem cw_a501 : Cond.code yX9_isVoiceNumber cX9_isVoiceNumber 1 (some .boolean) ∈ mm_ok := mm_inT (tm_2 (List.mem_of_getElem? (i := 190) rfl)) rfl
set_option maxRecDepth 100000 in
theorem cw_a500 : Cond.static yX9_isVoiceNumber ∈ mm_ok := by first | exact mm_inT (tm_2 (List.mem_of_getElem? (i := 189) rfl)) rfl | exact mm_in 500 (by decide +kernel) rfl
set_option maxRecDepth 100000 in
theorem cw_a818 : Cond.code yX9_isVoiceOrNone cX9_isVoiceOrNone 1 (some .boolean) ∈ mm_ok := mm_inT (tm_4 (List.mem_of_getElem? (i := 27) rfl)) rfl
set_option maxRecDepth 100000 in
theorem cw_a817 : Cond.static yX9_isVoiceOrNone ∈ mm_ok := by first | exact mm_inT (tm_4 (List.mem_of_getElem? (i := 26) rfl)) rfl | exact mm_in 817 (by decide +kernel) rfl
set_option maxRecDepth 100000 in
theorem cw_a862 : Cond.code yX9_orderNumber cX9_orderNumber 5 (some .int) ∈ mm_ok := mm_inT (tm_4 (List.mem_of_getElem? (i := 71) rfl)) rfl
set_option maxRecDepth 100000 in
theorem cw_a861 : Cond.instanceMethod yX9_orderNumber ∈ mm_ok := by first | exact mm_inT (tm_4 (List.mem_of_getElem? (i := 70) rfl)) rfl | exact mm_in 861 (by decide +kernel) rfl
set_option maxRecDepth 100000 in
theorem cw_a829 : Cond.code yX9_ordersOf cX9_ordersOf 2 (some .int) ∈ mm_ok := mm_inT (tm_4 (List.mem_of_getElem? (i := 38) rfl)) rfl
set_option maxRecDepth 100000 in
theorem cw_a828 : Cond.static yX9_ordersOf ∈ mm_ok := by first | exact mm_inT (tm_4 (List.mem_of_getElem? (i := 37) rfl)) rfl | exact mm_in 828 (by decide +kernel) rfl
set_option maxRecDepth 100000 in
theorem cw_a628 : Cond.code yX9_passYear cX9_passYear 3 none ∈ mm_ok := mm_inT (tm_3 (List.mem_of_getElem? (i := 77) rfl)) rfl
set_option maxRecDepth 100000 in
theorem cw_a627 : Cond.instanceMethod yX9_passYear ∈ mm_ok := by first | exact mm_inT (tm_3 (List.mem_of_getElem? (i := 76) rfl)) rfl | exact mm_in 627 (by decide +kernel) rfl
set_option maxRecDepth 100000 in
theorem cw_a671 : Cond.code yX9_tryLine cX9_tryLine 1 none ∈ mm_ok := mm_inT (tm_3 (List.mem_of_getElem? (i := 120) rfl)) rfl
set_option maxRecDepth 100000 in
theorem cw_a670 : Cond.instanceMethod yX9_tryLine ∈ mm_ok := by first | exact mm_inT (tm_3 (List.mem_of_getElem? (i := 119) rfl)) rfl | exact mm_in 670 (by decide +kernel) rfl
set_option maxRecDepth 100000 in
theorem cw_a794 : Cond.code yX9_voicesThatSpoke cX9_voicesThatSpoke 4 (some .int) ∈ mm_ok := mm_inT (tm_4 (List.mem_of_getElem? (i := 3) rfl)) rfl
set_option maxRecDepth 100000 in
theorem cw_a793 : Cond.instanceMethod yX9_voicesThatSpoke ∈ mm_ok := by first | exact mm_inT (tm_4 (List.mem_of_getElem? (i := 2) rfl)) rfl | exact mm_in 793 (by decide +kernel) rfl
theorem L_0 : mm_bl (0) (0) (0 : Int64) := by decide
theorem L_1 : mm_bl (1) (1) (1 : Int64) := by decide
theorem L_100 : mm_bl (100) (100) (100 : Int64) := by decide
theorem L_1103515245 : mm_bl (1103515245) (1103515245) (1103515245 : Int64) := by decide
theorem L_12345 : mm_bl (12345) (12345) (12345 : Int64) := by decide
theorem L_2147483648 : mm_bl (2147483648) (2147483648) (2147483648 : Int64) := by decide
theorem L_23 : mm_bl (23) (23) (23 : Int64) := by decide
theorem L_255 : mm_bl (255) (255) (255 : Int64) := by decide
theorem L_3 : mm_bl (3) (3) (3 : Int64) := by decide
theorem L_48 : mm_bl (48) (48) (48 : Int64) := by decide
theorem L_57 : mm_bl (57) (57) (57 : Int64) := by decide
theorem L_6 : mm_bl (6) (6) (6 : Int64) := by decide
theorem L_60 : mm_bl (60) (60) (60 : Int64) := by decide
theorem L_65536 : mm_bl (65536) (65536) (65536 : Int64) := by decide
theorem L_99 : mm_bl (99) (99) (99 : Int64) := by decide
theorem cl_0 : (0 : Int32).toNatClampNeg = 0 := by decide
theorem cl_1 : (1 : Int32).toNatClampNeg = 1 := by decide
theorem cl_2 : (2 : Int32).toNatClampNeg = 2 := by decide
theorem cl_24 : (24 : Int32).toNatClampNeg = 24 := by decide
theorem cl_28 : (28 : Int32).toNatClampNeg = 28 := by decide
theorem cl_29 : (29 : Int32).toNatClampNeg = 29 := by decide
theorem fX0_15 : Cond.fieldLink RX0 15 (TX0 1).1 (TX0 1).2.1 (TX0 1).2.2.1 ∈ mm_ok := cw_a271
theorem fX0_20 : Cond.fieldLink RX0 20 (TX0 2).1 (TX0 2).2.1 (TX0 2).2.2.1 ∈ mm_ok := cw_a272
theorem fX0_9 : Cond.fieldLink RX0 9 (TX0 0).1 (TX0 0).2.1 (TX0 0).2.2.1 ∈ mm_ok := cw_a270
theorem fX10_102 : Cond.fieldLink RX10 102 (TX10 21).1 (TX10 21).2.1 (TX10 21).2.2.1 ∈ mm_ok := cw_a937
theorem fX10_105 : Cond.fieldLink RX10 105 (TX10 22).1 (TX10 22).2.1 (TX10 22).2.2.1 ∈ mm_ok := cw_a938
theorem fX10_112 : Cond.fieldLink RX10 112 (TX10 23).1 (TX10 23).2.1 (TX10 23).2.2.1 ∈ mm_ok := cw_a939
theorem fX10_13 : Cond.fieldLink RX10 13 (TX10 1).1 (TX10 1).2.1 (TX10 1).2.2.1 ∈ mm_ok := cw_a917
theorem fX10_16 : Cond.fieldLink RX10 16 (TX10 2).1 (TX10 2).2.1 (TX10 2).2.2.1 ∈ mm_ok := cw_a918
theorem fX10_19 : Cond.fieldLink RX10 19 (TX10 3).1 (TX10 3).2.1 (TX10 3).2.2.1 ∈ mm_ok := cw_a919
theorem fX10_211 : Cond.fieldLink RX10 211 (TX10 8).1 (TX10 8).2.1 (TX10 8).2.2.1 ∈ mm_ok := cw_a924
theorem fX10_22 : Cond.fieldLink RX10 22 (TX10 4).1 (TX10 4).2.1 (TX10 4).2.2.1 ∈ mm_ok := cw_a920
theorem fX10_25 : Cond.fieldLink RX10 25 (TX10 6).1 (TX10 6).2.1 (TX10 6).2.2.1 ∈ mm_ok := cw_a922
theorem fX10_28 : Cond.fieldLink RX10 28 (TX10 7).1 (TX10 7).2.1 (TX10 7).2.2.1 ∈ mm_ok := cw_a923
theorem fX10_32 : Cond.fieldLink RX10 32 (TX10 9).1 (TX10 9).2.1 (TX10 9).2.2.1 ∈ mm_ok := cw_a925
theorem fX10_35 : Cond.fieldLink RX10 35 (TX10 11).1 (TX10 11).2.1 (TX10 11).2.2.1 ∈ mm_ok := cw_a927
theorem fX10_39 : Cond.fieldLink RX10 39 (TX10 12).1 (TX10 12).2.1 (TX10 12).2.2.1 ∈ mm_ok := cw_a928
theorem fX10_42 : Cond.fieldLink RX10 42 (TX10 14).1 (TX10 14).2.1 (TX10 14).2.2.1 ∈ mm_ok := cw_a930
theorem fX10_45 : Cond.fieldLink RX10 45 (TX10 16).1 (TX10 16).2.1 (TX10 16).2.2.1 ∈ mm_ok := cw_a932
theorem fX10_48 : Cond.fieldLink RX10 48 (TX10 24).1 (TX10 24).2.1 (TX10 24).2.2.1 ∈ mm_ok := cw_a940
theorem fX10_7 : Cond.fieldLink RX10 7 (TX10 0).1 (TX10 0).2.1 (TX10 0).2.2.1 ∈ mm_ok := cw_a916
theorem fX10_70 : Cond.fieldLink RX10 70 (TX10 5).1 (TX10 5).2.1 (TX10 5).2.2.1 ∈ mm_ok := cw_a921
theorem fX10_73 : Cond.fieldLink RX10 73 (TX10 13).1 (TX10 13).2.1 (TX10 13).2.2.1 ∈ mm_ok := cw_a929
theorem fX10_76 : Cond.fieldLink RX10 76 (TX10 15).1 (TX10 15).2.1 (TX10 15).2.2.1 ∈ mm_ok := cw_a931
theorem fX10_79 : Cond.fieldLink RX10 79 (TX10 17).1 (TX10 17).2.1 (TX10 17).2.2.1 ∈ mm_ok := cw_a933
theorem fX10_85 : Cond.fieldLink RX10 85 (TX10 10).1 (TX10 10).2.1 (TX10 10).2.2.1 ∈ mm_ok := cw_a926
theorem fX10_89 : Cond.fieldLink RX10 89 (TX10 18).1 (TX10 18).2.1 (TX10 18).2.2.1 ∈ mm_ok := cw_a934
theorem fX10_96 : Cond.fieldLink RX10 96 (TX10 19).1 (TX10 19).2.1 (TX10 19).2.2.1 ∈ mm_ok := cw_a935
theorem fX10_99 : Cond.fieldLink RX10 99 (TX10 20).1 (TX10 20).2.1 (TX10 20).2.2.1 ∈ mm_ok := cw_a936
theorem fX1_7 : Cond.fieldLink RX1 7 (TX1 0).1 (TX1 0).2.1 (TX1 0).2.2.1 ∈ mm_ok := cw_a221
theorem fX2_15 : Cond.fieldLink RX2 15 (TX2 1).1 (TX2 1).2.1 (TX2 1).2.2.1 ∈ mm_ok := cw_a237
theorem fX2_21 : Cond.fieldLink RX2 21 (TX2 2).1 (TX2 2).2.1 (TX2 2).2.2.1 ∈ mm_ok := cw_a238
theorem fX2_24 : Cond.fieldLink RX2 24 (TX2 0).1 (TX2 0).2.1 (TX2 0).2.2.1 ∈ mm_ok := cw_a235
theorem fX3_15 : Cond.fieldLink RX3 15 (TX3 4).1 (TX3 4).2.1 (TX3 4).2.2.1 ∈ mm_ok := cw_a175
theorem fX3_18 : Cond.fieldLink RX3 18 (TX3 5).1 (TX3 5).2.1 (TX3 5).2.2.1 ∈ mm_ok := cw_a176
theorem fX3_21 : Cond.fieldLink RX3 21 (TX3 6).1 (TX3 6).2.1 (TX3 6).2.2.1 ∈ mm_ok := cw_a177
theorem fX3_24 : Cond.fieldLink RX3 24 (TX6 0).1 (TX6 0).2.1 (TX6 0).2.2.1 ∈ mm_ok := cw_a129
theorem fX3_36 : Cond.fieldLink RX3 36 (TX3 2).1 (TX3 2).2.1 (TX3 2).2.2.1 ∈ mm_ok := cw_a173
theorem fX3_39 : Cond.fieldLink RX3 39 (TX3 0).1 (TX3 0).2.1 (TX3 0).2.2.1 ∈ mm_ok := cw_a169
theorem fX3_42 : Cond.fieldLink RX3 42 (TX3 1).1 (TX3 1).2.1 (TX3 1).2.2.1 ∈ mm_ok := cw_a171
theorem fX3_9 : Cond.fieldLink RX3 9 (TX3 3).1 (TX3 3).2.1 (TX3 3).2.2.1 ∈ mm_ok := cw_a174
theorem fX5_15 : Cond.fieldLink RX5 15 (TX5 0).1 (TX5 0).2.1 (TX5 0).2.2.1 ∈ mm_ok := cw_a252
theorem fX5_19 : Cond.fieldLink RX5 19 (TX5 1).1 (TX5 1).2.1 (TX5 1).2.2.1 ∈ mm_ok := cw_a253
theorem fX5_45 : Cond.fieldLinkNest RX5 45 "VoiceWills" "ORDERS_OF" "[I" "VoiceWills" ∈ mm_nest := lk_ofN lkBa0 (i := 0) rfl
theorem fX5_9 : Cond.fieldLink RX5 9 (TX5 2).1 (TX5 2).2.1 (TX5 2).2.2.1 ∈ mm_ok := cw_a254
theorem fX6_15 : Cond.fieldLink RX6 15 (TX6 5).1 (TX6 5).2.1 (TX6 5).2.2.1 ∈ mm_ok := cw_a140
theorem fX6_18 : Cond.fieldLink RX6 18 (TX6 6).1 (TX6 6).2.1 (TX6 6).2.2.1 ∈ mm_ok := cw_a141
theorem fX6_21 : Cond.fieldLink RX6 21 (TX6 7).1 (TX6 7).2.1 (TX6 7).2.2.1 ∈ mm_ok := cw_a142
theorem fX6_24 : Cond.fieldLink RX6 24 (TX6 8).1 (TX6 8).2.1 (TX6 8).2.2.1 ∈ mm_ok := cw_a143
theorem fX6_27 : Cond.fieldLink RX6 27 (TX6 0).1 (TX6 0).2.1 (TX6 0).2.2.1 ∈ mm_ok := cw_a128
theorem fX6_31 : Cond.fieldLink RX6 31 (TX6 1).1 (TX6 1).2.1 (TX6 1).2.2.1 ∈ mm_ok := cw_a132
theorem fX6_34 : Cond.fieldLink RX6 34 (TX6 2).1 (TX6 2).2.1 (TX6 2).2.2.1 ∈ mm_ok := cw_a135
theorem fX6_37 : Cond.fieldLink RX6 37 (TX6 3).1 (TX6 3).2.1 (TX6 3).2.2.1 ∈ mm_ok := cw_a138
theorem fX6_9 : Cond.fieldLink RX6 9 (TX6 4).1 (TX6 4).2.1 (TX6 4).2.2.1 ∈ mm_ok := cw_a139
theorem fX7_11 : Cond.fieldLink RX7 11 (TX7 2).1 (TX7 2).2.1 (TX7 2).2.2.1 ∈ mm_ok := cw_a205
theorem fX7_18 : Cond.fieldLink RX7 18 (TX7 0).1 (TX7 0).2.1 (TX7 0).2.2.1 ∈ mm_ok := cw_a202
theorem fX7_22 : Cond.fieldLink RX7 22 (TX7 1).1 (TX7 1).2.1 (TX7 1).2.2.1 ∈ mm_ok := cw_a204
theorem fX8_102 : Cond.fieldLink RX8 102 (TX6 2).1 (TX6 2).2.1 (TX6 2).2.2.1 ∈ mm_ok := cw_a137
theorem fX8_15 : Cond.fieldLink RX8 15 (TX8 5).1 (TX8 5).2.1 (TX8 5).2.2.1 ∈ mm_ok := cw_a107
theorem fX8_19 : Cond.fieldLink RX8 19 (TX8 0).1 (TX8 0).2.1 (TX8 0).2.2.1 ∈ mm_ok := cw_a99
theorem fX8_27 : Cond.fieldLink RX8 27 (TX8 3).1 (TX8 3).2.1 (TX8 3).2.2.1 ∈ mm_ok := cw_a105
theorem fX8_30 : Cond.fieldLink RX8 30 (TX8 1).1 (TX8 1).2.1 (TX8 1).2.2.1 ∈ mm_ok := cw_a101
theorem fX8_64 : Cond.fieldLink RX8 64 (TX6 0).1 (TX6 0).2.1 (TX6 0).2.2.1 ∈ mm_ok := cw_a131
theorem fX8_82 : Cond.fieldLink RX8 82 (TX8 4).1 (TX8 4).2.1 (TX8 4).2.2.1 ∈ mm_ok := cw_a106
theorem fX8_9 : Cond.fieldLink RX8 9 (TX8 2).1 (TX8 2).2.1 (TX8 2).2.2.1 ∈ mm_ok := cw_a103
theorem fX8_96 : Cond.fieldLink RX8 96 (TX6 1).1 (TX6 1).2.1 (TX6 1).2.2.1 ∈ mm_ok := cw_a134
theorem fX9_10 : Cond.fieldLink RX9 10 (TX9 0).1 (TX9 0).2.1 (TX9 0).2.2.1 ∈ mm_ok := cw_a298
theorem fX9_100 : Cond.fieldLink RX9 100 (TX8 1).1 (TX8 1).2.1 (TX8 1).2.2.1 ∈ mm_ok := cw_a102
theorem fX9_113 : Cond.fieldLink RX9 113 (TX4 0).1 (TX4 0).2.1 (TX4 0).2.2.1 ∈ mm_ok := cw_a287
theorem fX9_117 : Cond.fieldLink RX9 117 (TX6 0).1 (TX6 0).2.1 (TX6 0).2.2.1 ∈ mm_ok := cw_a130
theorem fX9_120 : Cond.fieldLink RX9 120 (TX8 2).1 (TX8 2).2.1 (TX8 2).2.2.1 ∈ mm_ok := cw_a104
theorem fX9_123 : Cond.fieldLink RX9 123 (TX6 1).1 (TX6 1).2.1 (TX6 1).2.2.1 ∈ mm_ok := cw_a133
theorem fX9_126 : Cond.fieldLink RX9 126 (TX6 2).1 (TX6 2).2.1 (TX6 2).2.2.1 ∈ mm_ok := cw_a136
theorem fX9_129 : Cond.fieldLink RX9 129 (TX3 1).1 (TX3 1).2.1 (TX3 1).2.2.1 ∈ mm_ok := cw_a172
theorem fX9_132 : Cond.fieldLink RX9 132 (TX3 0).1 (TX3 0).2.1 (TX3 0).2.2.1 ∈ mm_ok := cw_a170
theorem fX9_145 : Cond.fieldLink RX9 145 (TX2 0).1 (TX2 0).2.1 (TX2 0).2.2.1 ∈ mm_ok := cw_a236
theorem fX9_146 : Cond.fieldLink RX9 146 (TX7 0).1 (TX7 0).2.1 (TX7 0).2.2.1 ∈ mm_ok := cw_a203
theorem fX9_19 : Cond.fieldLink RX9 19 (TX9 1).1 (TX9 1).2.1 (TX9 1).2.2.1 ∈ mm_ok := cw_a299
theorem fX9_23 : Cond.fieldLink RX9 23 (TX9 2).1 (TX9 2).2.1 (TX9 2).2.2.1 ∈ mm_ok := cw_a300
theorem fX9_29 : Cond.fieldLink RX9 29 (TX9 3).1 (TX9 3).2.1 (TX9 3).2.2.1 ∈ mm_ok := cw_a301
theorem fX9_292 : Cond.fieldLink RX9 292 (TX1 0).1 (TX1 0).2.1 (TX1 0).2.2.1 ∈ mm_ok := cw_a222
theorem fX9_299 : Cond.fieldLink RX9 299 (TX4 2).1 (TX4 2).2.1 (TX4 2).2.2.1 ∈ mm_ok := cw_a290
theorem fX9_305 : Cond.fieldLink RX9 305 (TX4 1).1 (TX4 1).2.1 (TX4 1).2.2.1 ∈ mm_ok := cw_a288
theorem fX9_33 : Cond.fieldLink RX9 33 (TX9 4).1 (TX9 4).2.1 (TX9 4).2.2.1 ∈ mm_ok := cw_a302
theorem fX9_346 : Cond.fieldLink RX9 346 "VoiceWills" "ORDERS_OF" "[I" ∈ mm_ok := cw_a830
theorem fX9_39 : Cond.fieldLink RX9 39 (TX9 5).1 (TX9 5).2.1 (TX9 5).2.2.1 ∈ mm_ok := cw_a303
theorem fX9_45 : Cond.fieldLink RX9 45 (TX9 6).1 (TX9 6).2.1 (TX9 6).2.2.1 ∈ mm_ok := cw_a304
theorem fX9_52 : Cond.fieldLink RX9 52 (TX9 7).1 (TX9 7).2.1 (TX9 7).2.2.1 ∈ mm_ok := cw_a305
theorem fX9_61 : Cond.fieldLink RX9 61 (TX9 8).1 (TX9 8).2.1 (TX9 8).2.2.1 ∈ mm_ok := cw_a306
theorem fX9_65 : Cond.fieldLink RX9 65 (TX9 9).1 (TX9 9).2.1 (TX9 9).2.2.1 ∈ mm_ok := cw_a307
theorem fX9_68 : Cond.fieldLink RX9 68 (TX9 10).1 (TX9 10).2.1 (TX9 10).2.2.1 ∈ mm_ok := cw_a308
theorem fX9_74 : Cond.fieldLink RX9 74 (TX9 11).1 (TX9 11).2.1 (TX9 11).2.2.1 ∈ mm_ok := cw_a309
theorem fX9_81 : Cond.fieldLink RX9 81 (TX9 12).1 (TX9 12).2.1 (TX9 12).2.2.1 ∈ mm_ok := cw_a310
theorem fX9_91 : Cond.fieldLink RX9 91 (TX8 0).1 (TX8 0).2.1 (TX8 0).2.2.1 ∈ mm_ok := cw_a100
theorem kJ6_264 : Cond.constant RJ6 264 (65536) ∈ mm_ok := cw_a580
theorem kJ6_265 : Cond.constant RJ6 265 (1431655765) ∈ mm_ok := cw_a707
theorem kJ6_266 : Cond.constant RJ6 266 (858993459) ∈ mm_ok := cw_a708
theorem kJ6_267 : Cond.constant RJ6 267 (252645135) ∈ mm_ok := cw_a709
theorem kX10_108 : Cond.constantLong RX10 108 (48) ∈ mm_ok := cw_a1012
theorem kX10_110 : Cond.constantLong RX10 110 (57) ∈ mm_ok := cw_a1013
theorem kX10_153 : Cond.constantLong RX10 153 (6) ∈ mm_ok := cw_a1144
theorem kX10_182 : Cond.constant RX10 182 (-1000000001) ∈ mm_ok := cw_a1085
theorem kX10_187 : Cond.constant RX10 187 (-1000000003) ∈ mm_ok := cw_a1102
theorem kX10_215 : Cond.constantLong RX10 215 (1103515245) ∈ mm_ok := cw_a1162
theorem kX10_217 : Cond.constantLong RX10 217 (12345) ∈ mm_ok := cw_a1163
theorem kX10_219 : Cond.constantLong RX10 219 (2147483648) ∈ mm_ok := cw_a1164
theorem kX10_221 : Cond.constantLong RX10 221 (65536) ∈ mm_ok := cw_a1165
theorem kX10_223 : Cond.constantLong RX10 223 (60) ∈ mm_ok := cw_a1157
theorem kX10_254 : Cond.constant RX10 254 (-1000000) ∈ mm_ok := cw_a1224
theorem kX10_262 : Cond.constantLong RX10 262 (99) ∈ mm_ok := cw_a1229
theorem kX10_267 : Cond.constantLong RX10 267 (100) ∈ mm_ok := cw_a1238
theorem kX10_269 : Cond.constantLong RX10 269 (1000000000) ∈ mm_ok := cw_a1239
theorem kX10_58 : Cond.constantLong RX10 58 (3) ∈ mm_ok := cw_a904
theorem kX10_60 : Cond.constantLong RX10 60 (23) ∈ mm_ok := cw_a905
theorem kX10_82 : Cond.constantLong RX10 82 (255) ∈ mm_ok := cw_a997
theorem kX10_84 : Cond.constant RX10 84 (-1000000002) ∈ mm_ok := cw_a998
theorem kX10_88 : Cond.constant RX10 88 (-1000000004) ∈ mm_ok := cw_a999
theorem kX1_13 : Cond.constantLong RX1 13 (1103515245) ∈ mm_ok := cw_a633
theorem kX1_15 : Cond.constantLong RX1 15 (12345) ∈ mm_ok := cw_a634
theorem kX1_17 : Cond.constantLong RX1 17 (2147483648) ∈ mm_ok := cw_a635
theorem kX1_19 : Cond.constant RX1 19 (65536) ∈ mm_ok := cw_a636
theorem kX5_25 : Cond.constant RX5 25 (1000000000) ∈ mm_ok := cw_a657
theorem kX9_150 : Cond.constant RX9 150 (-1000000001) ∈ mm_ok := cw_a507
theorem kX9_179 : Cond.constant RX9 179 (-1000000003) ∈ mm_ok := cw_a555
theorem kX9_259 : Cond.constantLong RX9 259 (1000000000) ∈ mm_ok := cw_a777
theorem kX9_261 : Cond.constantLong RX9 261 (100) ∈ mm_ok := cw_a778
theorem kX9_86 : Cond.constant RX9 86 (-1000000002) ∈ mm_ok := cw_a342
theorem kX9_95 : Cond.constant RX9 95 (-1000000004) ∈ mm_ok := cw_a347
theorem kb_10 : (Int8.ofInt (10)).toInt32 = 10 := by decide
theorem kb_100 : (Int8.ofInt (100)).toInt32 = 100 := by decide
theorem kb_127 : (Int8.ofInt (127)).toInt32 = 127 := by decide
theorem kb_14 : (Int8.ofInt (14)).toInt32 = 14 := by decide
theorem kb_15 : (Int8.ofInt (15)).toInt32 = 15 := by decide
theorem kb_16 : (Int8.ofInt (16)).toInt32 = 16 := by decide
theorem kb_20 : (Int8.ofInt (20)).toInt32 = 20 := by decide
theorem kb_21 : (Int8.ofInt (21)).toInt32 = 21 := by decide
theorem kb_24 : (Int8.ofInt (24)).toInt32 = 24 := by decide
theorem kb_25 : (Int8.ofInt (25)).toInt32 = 25 := by decide
theorem kb_28 : (Int8.ofInt (28)).toInt32 = 28 := by decide
theorem kb_29 : (Int8.ofInt (29)).toInt32 = 29 := by decide
theorem kb_30 : (Int8.ofInt (30)).toInt32 = 30 := by decide
theorem kb_31 : (Int8.ofInt (31)).toInt32 = 31 := by decide
theorem kb_32 : (Int8.ofInt (32)).toInt32 = 32 := by decide
theorem kb_37 : (Int8.ofInt (37)).toInt32 = 37 := by decide
theorem kb_44 : (Int8.ofInt (44)).toInt32 = 44 := by decide
theorem kb_48 : (Int8.ofInt (48)).toInt32 = 48 := by decide
theorem kb_57 : (Int8.ofInt (57)).toInt32 = 57 := by decide
theorem kb_59 : (Int8.ofInt (59)).toInt32 = 59 := by decide
theorem kb_6 : (Int8.ofInt (6)).toInt32 = 6 := by decide
theorem kb_60 : (Int8.ofInt (60)).toInt32 = 60 := by decide
theorem kb_63 : (Int8.ofInt (63)).toInt32 = 63 := by decide
theorem kb_7 : (Int8.ofInt (7)).toInt32 = 7 := by decide
theorem kb_8 : (Int8.ofInt (8)).toInt32 = 8 := by decide
theorem kb_9 : (Int8.ofInt (9)).toInt32 = 9 := by decide
theorem kb_99 : (Int8.ofInt (99)).toInt32 = 99 := by decide
theorem kb_m10 : (Int8.ofInt (-10)).toInt32 = -10 := by decide
theorem kb_m2 : (Int8.ofInt (-2)).toInt32 = -2 := by decide
theorem ki_0 : Int32.ofInt (0) = 0 := by decide
theorem ki_1 : Int32.ofInt (1) = 1 := by decide
theorem ki_2 : Int32.ofInt (2) = 2 := by decide
theorem ki_3 : Int32.ofInt (3) = 3 := by decide
theorem ki_4 : Int32.ofInt (4) = 4 := by decide
theorem ki_5 : Int32.ofInt (5) = 5 := by decide
theorem ki_m1 : Int32.ofInt (-1) = -1 := by decide
theorem ks_128 : (Int16.ofInt (128)).toInt32 = 128 := by decide
theorem ks_240 : (Int16.ofInt (240)).toInt32 = 240 := by decide
theorem ks_255 : (Int16.ofInt (255)).toInt32 = 255 := by decide
theorem ks_256 : (Int16.ofInt (256)).toInt32 = 256 := by decide
theorem ks_570 : (Int16.ofInt (570)).toInt32 = 570 := by decide
theorem mX0_23 : Cond.methodLink RX0 23 yX0_suitedFor ∈ mm_ok := cw_a722
theorem mX0_27 : Cond.methodLink RX0 27 yX0_mostFrom ∈ mm_ok := cw_a735
theorem mX0_31 : Cond.methodLink RX0 31 yX0_leastSinger ∈ mm_ok := cw_a749
theorem mX0_34 : Cond.methodLink RX0 34 yX3_lives ∈ mm_ok := cw_a725
theorem mX0_40 : Cond.methodLink RX0 40 yX3_voiceOf ∈ mm_ok := cw_a726
theorem mX0_44 : Cond.methodLink RX0 44 yX6_suits ∈ mm_ok := cw_a727
theorem mX0_50 : Cond.methodLink RX0 50 yX0_sungFrom ∈ mm_ok := cw_a739
theorem mX0_53 : Cond.methodLink RX0 53 yX0_isFree ∈ mm_ok := cw_a743
theorem mX0_57 : Cond.methodLink RX0 57 yJ9_max_7cf53 ∈ mm_ok := cw_a748
theorem mX0_62 : Cond.methodLinkNest RX0 62 yX9_isIn "VoiceWills" ∈ mm_nest := lk_ofN lkBa0 (i := 1) rfl
theorem mX10_115 : Cond.methodLink RX10 115 yX10_step ∈ mm_ok := cw_a1004
theorem mX10_118 : Cond.methodLink RX10 118 yX10_fails ∈ mm_ok := cw_a1022
theorem mX10_122 : Cond.methodLink RX10 122 yX10_number ∈ mm_ok := cw_a1026
theorem mX10_126 : Cond.methodLink RX10 126 yX10_ends ∈ mm_ok := cw_a1030
theorem mX10_130 : Cond.methodLink RX10 130 yX10_isTold ∈ mm_ok := cw_a1038
theorem mX10_134 : Cond.methodLink RX10 134 yX10_isIn ∈ mm_ok := cw_a1042
theorem mX10_138 : Cond.methodLink RX10 138 yX10_readsPerson ∈ mm_ok := cw_a1018
theorem mX10_141 : Cond.methodLink RX10 141 yX10_readsWill ∈ mm_ok := cw_a1034
theorem mX10_144 : Cond.methodLink RX10 144 yX10_readsDoor ∈ mm_ok := cw_a1045
theorem mX10_147 : Cond.methodLink RX10 147 yX10_readsParts ∈ mm_ok := cw_a1049
theorem mX10_150 : Cond.methodLink RX10 150 yX10_readsClause ∈ mm_ok := cw_a1014
theorem mX10_155 : Cond.methodLink RX10 155 yX10_lives ∈ mm_ok := cw_a1111
theorem mX10_159 : Cond.methodLink RX10 159 yX10_leastMute ∈ mm_ok := cw_a1114
theorem mX10_163 : Cond.methodLink RX10 163 yX10_gets ∈ mm_ok := cw_a1118
theorem mX10_167 : Cond.methodLink RX10 167 yX10_isAlive ∈ mm_ok := cw_a1065
theorem mX10_170 : Cond.methodLink RX10 170 yX10_allVoices ∈ mm_ok := cw_a1073
theorem mX10_173 : Cond.methodLink RX10 173 yX10_usesNone ∈ mm_ok := cw_a1061
theorem mX10_176 : Cond.methodLink RX10 176 yX10_lost ∈ mm_ok := cw_a1069
theorem mX10_179 : Cond.methodLink RX10 179 yX10_isPerson ∈ mm_ok := cw_a1081
theorem mX10_183 : Cond.methodLink RX10 183 yX10_openTo ∈ mm_ok := cw_a1086
theorem mX10_188 : Cond.methodLink RX10 188 yX10_remember ∈ mm_ok := cw_a1103
theorem mX10_191 : Cond.methodLink RX10 191 yX10_dies ∈ mm_ok := cw_a1107
theorem mX10_195 : Cond.methodLink RX10 195 yX10_leastOf ∈ mm_ok := cw_a1134
theorem mX10_198 : Cond.methodLink RX10 198 yX10_maySell ∈ mm_ok := cw_a1126
theorem mX10_201 : Cond.methodLink RX10 201 yX10_sells ∈ mm_ok := cw_a1130
theorem mX10_205 : Cond.methodLink RX10 205 yX10_isVoice ∈ mm_ok := cw_a1141
theorem mX10_208 : Cond.methodLink RX10 208 yX10_isHeir ∈ mm_ok := cw_a1149
theorem mX10_225 : Cond.methodLink RX10 225 yX10_draw ∈ mm_ok := cw_a1158
theorem mX10_228 : Cond.methodLink RX10 228 yX10_isOrder ∈ mm_ok := cw_a1174
theorem mX10_231 : Cond.methodLink RX10 231 yX10_layAside ∈ mm_ok := cw_a1178
theorem mX10_234 : Cond.methodLink RX10 234 yX10_allDie ∈ mm_ok := cw_a1182
theorem mX10_238 : Cond.methodLink RX10 238 yX10_heirOf ∈ mm_ok := cw_a1201
theorem mX10_241 : Cond.methodLink RX10 241 yX10_bits ∈ mm_ok := cw_a1194
theorem mX10_244 : Cond.methodLink RX10 244 yX10_canBe ∈ mm_ok := cw_a1197
theorem mX10_248 : Cond.methodLink RX10 248 yX10_abs ∈ mm_ok := cw_a1221
theorem mX10_251 : Cond.methodLink RX10 251 yX10_maySing ∈ mm_ok := cw_a1217
theorem mX10_255 : Cond.methodLink RX10 255 yX10_sungBy ∈ mm_ok := cw_a1213
theorem mX10_259 : Cond.methodLink RX10 259 yX10_layTable ∈ mm_ok := cw_a1209
theorem mX10_264 : Cond.methodLink RX10 264 yX10_isSet ∈ mm_ok := cw_a1234
theorem mX10_271 : Cond.methodLink RX10 271 yX10_voices ∈ mm_ok := cw_a1248
theorem mX10_274 : Cond.methodLink RX10 274 yX10_isUse ∈ mm_ok := cw_a1260
theorem mX10_277 : Cond.methodLink RX10 277 yX10_isSo ∈ mm_ok := cw_a1267
theorem mX10_51 : Cond.methodLink RX10 51 yX10_blank ∈ mm_ok := cw_a901
theorem mX10_55 : Cond.methodLink RX10 55 yX10_begins ∈ mm_ok := cw_a909
theorem mX10_62 : Cond.methodLink RX10 62 yX10_in ∈ mm_ok := cw_a906
theorem mX10_66 : Cond.methodLink RX10 66 yX10_copies ∈ mm_ok := cw_a913
theorem mX10_92 : Cond.methodLink RX10 92 yX10_here ∈ mm_ok := cw_a1008
theorem mX2_28 : Cond.methodLink RX2 28 yX3_voiceOf ∈ mm_ok := cw_a850
theorem mX3_30 : Cond.methodLink RX3 30 yJ9_min_7cf53 ∈ mm_ok := cw_a447
theorem mX3_45 : Cond.methodLink RX3 45 yX6_hasVoice ∈ mm_ok := cw_a450
theorem mX3_49 : Cond.methodLink RX3 49 yX6_firstToldHeir ∈ mm_ok := cw_a458
theorem mX3_53 : Cond.methodLink RX3 53 yX6_secondToldHeir ∈ mm_ok := cw_a462
theorem mX3_56 : Cond.methodLink RX3 56 yX3_isOne ∈ mm_ok := cw_a512
theorem mX3_59 : Cond.methodLink RX3 59 yX3_lives ∈ mm_ok := cw_a495
theorem mX3_62 : Cond.methodLinkNest RX3 62 yX9_isVoiceNumber "VoiceWills" ∈ mm_nest := lk_ofN lkBa0 (i := 2) rfl
theorem mX3_65 : Cond.methodLinkNest RX3 65 yX9_isIn "VoiceWills" ∈ mm_nest := lk_ofN lkBa0 (i := 3) rfl
theorem mX3_69 : Cond.methodLink RX3 69 yX3_firstAlive ∈ mm_ok := cw_a569
theorem mX3_72 : Cond.methodLink RX3 72 yX3_give ∈ mm_ok := cw_a581
theorem mX3_76 : Cond.methodLink RX3 76 yX3_silent ∈ mm_ok := cw_a573
theorem mX3_80 : Cond.methodLink RX3 80 yX3_leastOf ∈ mm_ok := cw_a574
theorem mX3_83 : Cond.methodLink RX3 83 yJ6_numberOfTrailingZeros_0f7a4 ∈ mm_ok := cw_a577
theorem mX3_88 : Cond.methodLink RX3 88 yX3_canHandOver ∈ mm_ok := cw_a598
theorem mX5_22 : Cond.methodLink RX5 22 yX5_empty ∈ mm_ok := cw_a653
theorem mX5_26 : Cond.methodLink RX5 26 yX3_lives ∈ mm_ok := cw_a658
theorem mX5_32 : Cond.methodLink RX5 32 yX5_holds ∈ mm_ok := cw_a659
theorem mX5_35 : Cond.methodLink RX5 35 yX5_add ∈ mm_ok := cw_a664
theorem mX5_39 : Cond.methodLink RX5 39 yJ6_bitCount_0f7a4 ∈ mm_ok := cw_a840
theorem mX5_48 : Cond.methodLink RX5 48 yJ9_max_7cf53 ∈ mm_ok := cw_a842
theorem mX5_54 : Cond.methodLink RX5 54 yX5_memberAt ∈ mm_ok := cw_a843
theorem mX5_57 : Cond.methodLinkNest RX5 57 yX9_isIn "VoiceWills" ∈ mm_nest := lk_ofN lkBa0 (i := 4) rfl
theorem mX5_61 : Cond.methodLink RX5 61 yX3_bury ∈ mm_ok := cw_a677
theorem mX6_40 : Cond.methodLink RX6 40 yX6_hasPerson ∈ mm_ok := cw_a426
theorem mX6_44 : Cond.methodLink RX6 44 yX6_rangeOf ∈ mm_ok := cw_a454
theorem mX6_48 : Cond.methodLinkNest RX6 48 yX9_isIn "VoiceWills" ∈ mm_nest := lk_ofN lkBa0 (i := 5) rfl
theorem mX6_52 : Cond.methodLink RX6 52 yX6_hasDoor ∈ mm_ok := cw_a550
theorem mX6_55 : Cond.methodLink RX6 55 yX6_hasVoice ∈ mm_ok := cw_a490
theorem mX6_58 : Cond.methodLink RX6 58 yX6_hasPart ∈ mm_ok := cw_a731
theorem mX6_61 : Cond.methodLink RX6 61 yJ9_abs_0f7a4 ∈ mm_ok := cw_a732
theorem mX7_25 : Cond.methodLink RX7 25 yX3_copy ∈ mm_ok := cw_a560
theorem mX7_29 : Cond.methodLink RX7 29 yJ9_min_7cf53 ∈ mm_ok := cw_a564
theorem mX8_105 : Cond.methodLink RX8 105 yX6_addPart ∈ mm_ok := cw_a439
theorem mX8_108 : Cond.methodLink RX8 108 yX8_isNext ∈ mm_ok := cw_a395
theorem mX8_111 : Cond.methodLink RX8 111 yX8_isFigure ∈ mm_ok := cw_a388
theorem mX8_22 : Cond.methodLink RX8 22 yX6_empty ∈ mm_ok := cw_a356
theorem mX8_33 : Cond.methodLink RX8 33 yX8_skipBlanks ∈ mm_ok := cw_a360
theorem mX8_36 : Cond.methodLink RX8 36 yX8_isSound ∈ mm_ok := cw_a364
theorem mX8_40 : Cond.methodLink RX8 40 yX8_readClause ∈ mm_ok := cw_a368
theorem mX8_44 : Cond.methodLink RX8 44 yX8_letterHere ∈ mm_ok := cw_a372
theorem mX8_48 : Cond.methodLink RX8 48 yX8_readPerson ∈ mm_ok := cw_a376
theorem mX8_51 : Cond.methodLink RX8 51 yX8_readWill ∈ mm_ok := cw_a403
theorem mX8_54 : Cond.methodLink RX8 54 yX8_readDoor ∈ mm_ok := cw_a427
theorem mX8_57 : Cond.methodLink RX8 57 yX8_readChoir ∈ mm_ok := cw_a435
theorem mX8_60 : Cond.methodLink RX8 60 yX8_blame ∈ mm_ok := cw_a380
theorem mX8_67 : Cond.methodLink RX8 67 yX8_readNumber ∈ mm_ok := cw_a384
theorem mX8_71 : Cond.methodLink RX8 71 yX8_readSign ∈ mm_ok := cw_a391
theorem mX8_75 : Cond.methodLink RX8 75 yX6_addPerson ∈ mm_ok := cw_a399
theorem mX8_79 : Cond.methodLink RX8 79 yX6_hasWill ∈ mm_ok := cw_a407
theorem mX8_85 : Cond.methodLink RX8 85 yX8_readHeir ∈ mm_ok := cw_a414
theorem mX8_89 : Cond.methodLink RX8 89 yX6_addWill ∈ mm_ok := cw_a422
theorem mX8_93 : Cond.methodLink RX8 93 yX6_hasPerson ∈ mm_ok := cw_a418
theorem mX8_99 : Cond.methodLink RX8 99 yX6_addDoor ∈ mm_ok := cw_a431
theorem mX9_103 : Cond.methodLink RX9 103 yX3_begin ∈ mm_ok := cw_a443
theorem mX9_107 : Cond.methodLink RX9 107 yX2_clear ∈ mm_ok := cw_a466
theorem mX9_110 : Cond.methodLink RX9 110 yX7_forget ∈ mm_ok := cw_a470
theorem mX9_135 : Cond.methodLink RX9 135 yX3_silent ∈ mm_ok := cw_a482
theorem mX9_139 : Cond.methodLink RX9 139 yX6_voices ∈ mm_ok := cw_a486
theorem mX9_142 : Cond.methodLink RX9 142 yX3_held ∈ mm_ok := cw_a491
theorem mX9_147 : Cond.methodLink RX9 147 yX6_hasPerson ∈ mm_ok := cw_a506
theorem mX9_151 : Cond.methodLink RX9 151 yX3_voiceOf ∈ mm_ok := cw_a508
theorem mX9_155 : Cond.methodLink RX9 155 yX3_jarOf ∈ mm_ok := cw_a516
theorem mX9_158 : Cond.methodLink RX9 158 yX3_firstHeir ∈ mm_ok := cw_a520
theorem mX9_161 : Cond.methodLink RX9 161 yX3_secondHeir ∈ mm_ok := cw_a524
theorem mX9_164 : Cond.methodLink RX9 164 yX6_openTo ∈ mm_ok := cw_a528
theorem mX9_167 : Cond.methodLink RX9 167 yX3_lives ∈ mm_ok := cw_a532
theorem mX9_170 : Cond.methodLink RX9 170 yX6_rangeOf ∈ mm_ok := cw_a537
theorem mX9_173 : Cond.methodLink RX9 173 yX6_hasDoor ∈ mm_ok := cw_a542
theorem mX9_176 : Cond.methodLink RX9 176 yX6_knownBy ∈ mm_ok := cw_a546
theorem mX9_180 : Cond.methodLink RX9 180 yX7_remember ∈ mm_ok := cw_a556
theorem mX9_184 : Cond.methodLink RX9 184 yX3_bury ∈ mm_ok := cw_a565
theorem mX9_187 : Cond.methodLink RX9 187 yX3_canHandOver ∈ mm_ok := cw_a590
theorem mX9_191 : Cond.methodLink RX9 191 yX3_handOver ∈ mm_ok := cw_a594
theorem mX9_195 : Cond.methodLink RX9 195 yX9_isVoiceNumber ∈ mm_ok := cw_a603
theorem mX9_198 : Cond.methodLink RX9 198 yX9_isIn ∈ mm_ok := cw_a604
theorem mX9_201 : Cond.methodLink RX9 201 yX3_takeOut ∈ mm_ok := cw_a605
theorem mX9_205 : Cond.methodLink RX9 205 yX9_canInherit ∈ mm_ok := cw_a613
theorem mX9_208 : Cond.methodLink RX9 208 yX3_changeWill ∈ mm_ok := cw_a617
theorem mX9_212 : Cond.methodLink RX9 212 yX9_passYear ∈ mm_ok := cw_a625
theorem mX9_215 : Cond.methodLink RX9 215 yX7_bringBack ∈ mm_ok := cw_a641
theorem mX9_219 : Cond.methodLink RX9 219 yX5_readOrder ∈ mm_ok := cw_a649
theorem mX9_223 : Cond.methodLink RX9 223 yX9_tryLine ∈ mm_ok := cw_a668
theorem mX9_226 : Cond.methodLink RX9 226 yX3_userOf ∈ mm_ok := cw_a682
theorem mX9_229 : Cond.methodLink RX9 229 yX6_hasVoice ∈ mm_ok := cw_a690
theorem mX9_232 : Cond.methodLink RX9 232 yX9_fewestWills ∈ mm_ok := cw_a691
theorem mX9_235 : Cond.methodLink RX9 235 yJ6_bitCount_0f7a4 ∈ mm_ok := cw_a704
theorem mX9_240 : Cond.methodLink RX9 240 yX6_hasPart ∈ mm_ok := cw_a714
theorem mX9_243 : Cond.methodLink RX9 243 yX0_give ∈ mm_ok := cw_a718
theorem mX9_247 : Cond.methodLink RX9 247 yX0_sung ∈ mm_ok := cw_a753
theorem mX9_250 : Cond.methodLink RX9 250 yX0_singerOf ∈ mm_ok := cw_a757
theorem mX9_253 : Cond.methodLink RX9 253 yX6_hasPersons ∈ mm_ok := cw_a769
theorem mX9_256 : Cond.methodLink RX9 256 yX3_allLive ∈ mm_ok := cw_a773
theorem mX9_263 : Cond.methodLink RX9 263 yX2_add ∈ mm_ok := cw_a783
theorem mX9_265 : Cond.methodLink RX9 265 yX9_voicesThatSpoke ∈ mm_ok := cw_a791
theorem mX9_268 : Cond.methodLink RX9 268 yX3_usersOf ∈ mm_ok := cw_a803
theorem mX9_271 : Cond.methodLink RX9 271 yJ9_max_7cf53 ∈ mm_ok := cw_a811
theorem mX9_276 : Cond.methodLink RX9 276 yX9_isVoiceOrNone ∈ mm_ok := cw_a816
theorem mX9_279 : Cond.methodLink RX9 279 yX9_firstInAllOrders ∈ mm_ok := cw_a823
theorem mX9_282 : Cond.methodLink RX9 282 yX9_countOrders ∈ mm_ok := cw_a855
theorem mX9_285 : Cond.methodLink RX9 285 yX9_orderNumber ∈ mm_ok := cw_a859
theorem mX9_288 : Cond.methodLink RX9 288 yX2_firstUnlike ∈ mm_ok := cw_a846
theorem mX9_295 : Cond.methodLink RX9 295 yX9_imageOf ∈ mm_ok := cw_a887
theorem mX9_302 : Cond.methodLink RX9 302 yX3_copy ∈ mm_ok := cw_a672
theorem mX9_308 : Cond.methodLink RX9 308 yX1_next ∈ mm_ok := cw_a629
theorem mX9_311 : Cond.methodLink RX9 311 yX5_buryIn ∈ mm_ok := cw_a673
theorem mX9_314 : Cond.methodLink RX9 314 yX5_holds ∈ mm_ok := cw_a695
theorem mX9_317 : Cond.methodLink RX9 317 yX9_helpsAlone ∈ mm_ok := cw_a696
theorem mX9_321 : Cond.methodLink RX9 321 yX9_helpTogether ∈ mm_ok := cw_a700
theorem mX9_325 : Cond.methodLink RX9 325 yX2_subjectAt ∈ mm_ok := cw_a795
theorem mX9_328 : Cond.methodLink RX9 328 yX2_valueAt ∈ mm_ok := cw_a799
theorem mX9_331 : Cond.methodLink RX9 331 yX5_setOrder ∈ mm_ok := cw_a836
theorem mX9_334 : Cond.methodLink RX9 334 yX9_ordersOf ∈ mm_ok := cw_a827
theorem mX9_337 : Cond.methodLink RX9 337 yX9_fitsOrder ∈ mm_ok := cw_a832
theorem mX9_340 : Cond.methodLink RX9 340 yX5_asNumber ∈ mm_ok := cw_a863
theorem mX9_343 : Cond.methodLink RX9 343 yX5_firstOne ∈ mm_ok := cw_a851
theorem mX9_87 : Cond.methodLink RX9 87 yX8_add ∈ mm_ok := cw_a343
theorem mX9_96 : Cond.methodLink RX9 96 yX8_readInto ∈ mm_ok := cw_a352
theorem n_0 : mm_b (0) (0) (0 : Int32) := by decide
theorem n_1 : mm_b (1) (1) (1 : Int32) := by decide
theorem n_10 : mm_b (10) (10) (10 : Int32) := by decide
theorem n_100 : mm_b (100) (100) (100 : Int32) := by decide
theorem n_1000000000 : mm_b (1000000000) (1000000000) (1000000000 : Int32) := by decide
theorem n_127 : mm_b (127) (127) (127 : Int32) := by decide
theorem n_128 : mm_b (128) (128) (128 : Int32) := by decide
theorem n_14 : mm_b (14) (14) (14 : Int32) := by decide
theorem n_1431655765 : mm_b (1431655765) (1431655765) (1431655765 : Int32) := by decide
theorem n_15 : mm_b (15) (15) (15 : Int32) := by decide
theorem n_16 : mm_b (16) (16) (16 : Int32) := by decide
theorem n_2 : mm_b (2) (2) (2 : Int32) := by decide
theorem n_20 : mm_b (20) (20) (20 : Int32) := by decide
theorem n_21 : mm_b (21) (21) (21 : Int32) := by decide
theorem n_24 : mm_b (24) (24) (24 : Int32) := by decide
theorem n_240 : mm_b (240) (240) (240 : Int32) := by decide
theorem n_25 : mm_b (25) (25) (25 : Int32) := by decide
theorem n_252645135 : mm_b (252645135) (252645135) (252645135 : Int32) := by decide
theorem n_255 : mm_b (255) (255) (255 : Int32) := by decide
theorem n_256 : mm_b (256) (256) (256 : Int32) := by decide
theorem n_28 : mm_b (28) (28) (28 : Int32) := by decide
theorem n_29 : mm_b (29) (29) (29 : Int32) := by decide
theorem n_3 : mm_b (3) (3) (3 : Int32) := by decide
theorem n_30 : mm_b (30) (30) (30 : Int32) := by decide
theorem n_31 : mm_b (31) (31) (31 : Int32) := by decide
theorem n_32 : mm_b (32) (32) (32 : Int32) := by decide
theorem n_37 : mm_b (37) (37) (37 : Int32) := by decide
theorem n_4 : mm_b (4) (4) (4 : Int32) := by decide
theorem n_44 : mm_b (44) (44) (44 : Int32) := by decide
theorem n_48 : mm_b (48) (48) (48 : Int32) := by decide
theorem n_5 : mm_b (5) (5) (5 : Int32) := by decide
theorem n_57 : mm_b (57) (57) (57 : Int32) := by decide
theorem n_570 : mm_b (570) (570) (570 : Int32) := by decide
theorem n_59 : mm_b (59) (59) (59 : Int32) := by decide
theorem n_6 : mm_b (6) (6) (6 : Int32) := by decide
theorem n_60 : mm_b (60) (60) (60 : Int32) := by decide
theorem n_63 : mm_b (63) (63) (63 : Int32) := by decide
theorem n_65536 : mm_b (65536) (65536) (65536 : Int32) := by decide
theorem n_7 : mm_b (7) (7) (7 : Int32) := by decide
theorem n_8 : mm_b (8) (8) (8 : Int32) := by decide
theorem n_858993459 : mm_b (858993459) (858993459) (858993459 : Int32) := by decide
theorem n_9 : mm_b (9) (9) (9 : Int32) := by decide
theorem n_99 : mm_b (99) (99) (99 : Int32) := by decide
theorem n_m1 : mm_b (-1) (-1) (-1 : Int32) := by decide
theorem n_m10 : mm_b (-10) (-10) (-10 : Int32) := by decide
theorem n_m1000000 : mm_b (-1000000) (-1000000) (-1000000 : Int32) := by decide
theorem n_m1000000001 : mm_b (-1000000001) (-1000000001) (-1000000001 : Int32) := by decide
theorem n_m1000000002 : mm_b (-1000000002) (-1000000002) (-1000000002 : Int32) := by decide
theorem n_m1000000003 : mm_b (-1000000003) (-1000000003) (-1000000003 : Int32) := by decide
theorem n_m1000000004 : mm_b (-1000000004) (-1000000004) (-1000000004 : Int32) := by decide
theorem n_m2 : mm_b (-2) (-2) (-2 : Int32) := by decide
theorem t_J6_bitCount_0f7a4 : mm_ms yJ6_bitCount_0f7a4 cJ6_bitCount_0f7a4 1 (some .int) 1 := ⟨cw_a706, cw_a705, cw_a84, ncm_RJ6, ncv_RJ6, pd_3⟩
theorem t_J6_numberOfTrailingZeros_0f7a4 : mm_ms yJ6_numberOfTrailingZeros_0f7a4 cJ6_numberOfTrailingZeros_0f7a4 2 (some .int) 1 := ⟨cw_a579, cw_a578, cw_a84, ncm_RJ6, ncv_RJ6, pd_3⟩
theorem t_J9_abs_0f7a4 : mm_ms yJ9_abs_0f7a4 cJ9_abs_0f7a4 1 (some .int) 1 := ⟨cw_a734, cw_a733, cw_a79, ncm_RJ9, ncv_RJ9, pd_3⟩
theorem t_J9_max_7cf53 : mm_ms yJ9_max_7cf53 cJ9_max_7cf53 2 (some .int) 2 := ⟨cw_a234, cw_a233, cw_a79, ncm_RJ9, ncv_RJ9, pd_7⟩
theorem t_J9_min_7cf53 : mm_ms yJ9_min_7cf53 cJ9_min_7cf53 2 (some .int) 2 := ⟨cw_a449, cw_a448, cw_a79, ncm_RJ9, ncv_RJ9, pd_7⟩
theorem t_X0_give : mm_mi yX0_give cX0_give 5 none 2 := ⟨cw_a721, cw_a719, cw_a720, cw_a81, ncm_RX0, ncv_RX0, pd_26⟩
theorem t_X0_isFree : mm_mi yX0_isFree cX0_isFree 4 (some .boolean) 3 := ⟨cw_a746, cw_a745, lk_of lkAa0 (i := 0) rfl, cw_a81, ncm_RX0, ncv_RX0, pd_12⟩
theorem t_X0_leastSinger : mm_mi yX0_leastSinger cX0_leastSinger 4 (some .int) 2 := ⟨cw_a752, cw_a751, lk_of lkAa0 (i := 1) rfl, cw_a81, ncm_RX0, ncv_RX0, pd_7⟩
theorem t_X0_mostFrom : mm_mi yX0_mostFrom cX0_mostFrom 5 (some .int) 2 := ⟨cw_a738, cw_a737, lk_of lkAa0 (i := 2) rfl, cw_a81, ncm_RX0, ncv_RX0, pd_7⟩
theorem t_X0_singerOf : mm_mi yX0_singerOf cX0_singerOf 2 (some .int) 1 := ⟨cw_a760, cw_a758, cw_a759, cw_a81, ncm_RX0, ncv_RX0, pd_3⟩
theorem t_X0_suitedFor : mm_ms yX0_suitedFor cX0_suitedFor 5 (some .int) 3 := ⟨cw_a724, cw_a723, cw_a81, ncm_RX0, ncv_RX0, pd_17⟩
theorem t_X0_sung : mm_mi yX0_sung cX0_sung 1 (some .int) 0 := ⟨cw_a756, cw_a754, cw_a755, cw_a81, ncm_RX0, ncv_RX0, pd_0⟩
theorem t_X0_sungFrom : mm_mi yX0_sungFrom cX0_sungFrom 3 (some .int) 2 := ⟨cw_a742, cw_a741, lk_of lkAa0 (i := 3) rfl, cw_a81, ncm_RX0, ncv_RX0, pd_7⟩
theorem t_X10_abs : mm_ms yX10_abs cX10_abs 1 (some .int) 1 := ⟨cw_a1223, cw_a1222, cw_a83, ncm_RX10, ncv_RX10, pd_3⟩
theorem t_X10_allDie : mm_mi yX10_allDie cX10_allDie 4 none 1 := ⟨cw_a1185, cw_a1184, lk_of lkAa0 (i := 4) rfl, cw_a83, ncm_RX10, ncv_RX10, pd_5⟩
theorem t_X10_allVoices : mm_mi yX10_allVoices cX10_allVoices 3 (some .int) 0 := ⟨cw_a1076, cw_a1075, lk_of lkAa0 (i := 5) rfl, cw_a83, ncm_RX10, ncv_RX10, pd_0⟩
theorem t_X10_begins : mm_mi yX10_begins cX10_begins 2 none 0 := ⟨cw_a912, cw_a911, lk_of lkAa0 (i := 6) rfl, cw_a83, ncm_RX10, ncv_RX10, pd_1⟩
theorem t_X10_bits : mm_ms yX10_bits cX10_bits 3 (some .int) 1 := ⟨cw_a1196, cw_a1195, cw_a83, ncm_RX10, ncv_RX10, pd_3⟩
theorem t_X10_blank : mm_ms yX10_blank cX10_blank 2 none 1 := ⟨cw_a903, cw_a902, cw_a83, ncm_RX10, ncv_RX10, pd_29⟩
theorem t_X10_canBe : mm_mi yX10_canBe cX10_canBe 12 (some .boolean) 5 := ⟨cw_a1200, cw_a1199, lk_of lkAa0 (i := 7) rfl, cw_a83, ncm_RX10, ncv_RX10, pd_15⟩
theorem t_X10_copies : mm_ms yX10_copies cX10_copies 6 none 5 := ⟨cw_a915, cw_a914, cw_a83, ncm_RX10, ncv_RX10, pd_34⟩
theorem t_X10_dies : mm_mi yX10_dies cX10_dies 8 (some .int) 2 := ⟨cw_a1110, cw_a1109, lk_of lkAa0 (i := 8) rfl, cw_a83, ncm_RX10, ncv_RX10, pd_31⟩
theorem t_X10_draw : mm_mi yX10_draw cX10_draw 2 (some .int) 1 := ⟨cw_a1161, cw_a1160, lk_of lkAa0 (i := 9) rfl, cw_a83, ncm_RX10, ncv_RX10, pd_3⟩
theorem t_X10_ends : mm_mi yX10_ends cX10_ends 1 (some .boolean) 0 := ⟨cw_a1033, cw_a1032, lk_of lkAa0 (i := 10) rfl, cw_a83, ncm_RX10, ncv_RX10, pd_2⟩
theorem t_X10_fails : mm_mi yX10_fails cX10_fails 2 (some .boolean) 1 := ⟨cw_a1025, cw_a1024, lk_of lkAa0 (i := 11) rfl, cw_a83, ncm_RX10, ncv_RX10, pd_6⟩
theorem t_X10_gets : mm_mi yX10_gets cX10_gets 4 none 3 := ⟨cw_a1121, cw_a1120, lk_of lkAa0 (i := 12) rfl, cw_a83, ncm_RX10, ncv_RX10, pd_33⟩
theorem t_X10_heirOf : mm_mi yX10_heirOf cX10_heirOf 2 (some .int) 1 := ⟨cw_a1204, cw_a1203, lk_of lkAa0 (i := 13) rfl, cw_a83, ncm_RX10, ncv_RX10, pd_3⟩
theorem t_X10_here : mm_mi yX10_here cX10_here 1 (some .int) 0 := ⟨cw_a1011, cw_a1010, lk_of lkAa0 (i := 14) rfl, cw_a83, ncm_RX10, ncv_RX10, pd_0⟩
theorem t_X10_in : mm_ms yX10_in cX10_in 6 (some .boolean) 3 := ⟨cw_a908, cw_a907, cw_a83, ncm_RX10, ncv_RX10, pd_19⟩
theorem t_X10_isAlive : mm_mi yX10_isAlive cX10_isAlive 2 (some .boolean) 1 := ⟨cw_a1068, cw_a1067, lk_of lkAa0 (i := 15) rfl, cw_a83, ncm_RX10, ncv_RX10, pd_6⟩
theorem t_X10_isHeir : mm_mi yX10_isHeir cX10_isHeir 3 (some .boolean) 2 := ⟨cw_a1152, cw_a1151, lk_of lkAa0 (i := 16) rfl, cw_a83, ncm_RX10, ncv_RX10, pd_9⟩
theorem t_X10_isIn : mm_ms yX10_isIn cX10_isIn 2 (some .boolean) 2 := ⟨cw_a1044, cw_a1043, cw_a83, ncm_RX10, ncv_RX10, pd_9⟩
theorem t_X10_isOrder : mm_mi yX10_isOrder cX10_isOrder 6 (some .boolean) 1 := ⟨cw_a1177, cw_a1176, lk_of lkAa0 (i := 17) rfl, cw_a83, ncm_RX10, ncv_RX10, pd_6⟩
theorem t_X10_isPerson : mm_mi yX10_isPerson cX10_isPerson 2 (some .boolean) 1 := ⟨cw_a1084, cw_a1083, lk_of lkAa0 (i := 18) rfl, cw_a83, ncm_RX10, ncv_RX10, pd_6⟩
theorem t_X10_isSet : mm_mi yX10_isSet cX10_isSet 2 (some .boolean) 1 := ⟨cw_a1237, cw_a1236, lk_of lkAa0 (i := 19) rfl, cw_a83, ncm_RX10, ncv_RX10, pd_6⟩
theorem t_X10_isSo : mm_mi yX10_isSo cX10_isSo 6 (some .boolean) 2 := ⟨cw_a1270, cw_a1269, lk_of lkAa0 (i := 20) rfl, cw_a83, ncm_RX10, ncv_RX10, pd_9⟩
theorem t_X10_isTold : mm_mi yX10_isTold cX10_isTold 3 (some .boolean) 1 := ⟨cw_a1041, cw_a1040, lk_of lkAa0 (i := 21) rfl, cw_a83, ncm_RX10, ncv_RX10, pd_27⟩
theorem t_X10_isUse : mm_ms yX10_isUse cX10_isUse 1 (some .boolean) 1 := ⟨cw_a1262, cw_a1261, cw_a83, ncm_RX10, ncv_RX10, pd_6⟩
theorem t_X10_isVoice : mm_ms yX10_isVoice cX10_isVoice 1 (some .boolean) 1 := ⟨cw_a1143, cw_a1142, cw_a83, ncm_RX10, ncv_RX10, pd_6⟩
theorem t_X10_layAside : mm_mi yX10_layAside cX10_layAside 1 none 0 := ⟨cw_a1181, cw_a1180, lk_of lkAa0 (i := 22) rfl, cw_a83, ncm_RX10, ncv_RX10, pd_1⟩
theorem t_X10_layTable : mm_mi yX10_layTable cX10_layTable 6 none 0 := ⟨cw_a1212, cw_a1211, lk_of lkAa0 (i := 23) rfl, cw_a83, ncm_RX10, ncv_RX10, pd_1⟩
theorem t_X10_leastMute : mm_mi yX10_leastMute cX10_leastMute 3 (some .int) 1 := ⟨cw_a1117, cw_a1116, lk_of lkAa0 (i := 24) rfl, cw_a83, ncm_RX10, ncv_RX10, pd_28⟩
theorem t_X10_leastOf : mm_ms yX10_leastOf cX10_leastOf 2 (some .int) 1 := ⟨cw_a1136, cw_a1135, cw_a83, ncm_RX10, ncv_RX10, pd_3⟩
theorem t_X10_lives : mm_ms yX10_lives cX10_lives 2 (some .boolean) 2 := ⟨cw_a1113, cw_a1112, cw_a83, ncm_RX10, ncv_RX10, pd_32⟩
theorem t_X10_lost : mm_mi yX10_lost cX10_lost 3 (some .int) 0 := ⟨cw_a1072, cw_a1071, lk_of lkAa0 (i := 25) rfl, cw_a83, ncm_RX10, ncv_RX10, pd_0⟩
theorem t_X10_maySell : mm_mi yX10_maySell cX10_maySell 3 (some .boolean) 2 := ⟨cw_a1129, cw_a1128, lk_of lkAa0 (i := 26) rfl, cw_a83, ncm_RX10, ncv_RX10, pd_9⟩
theorem t_X10_maySing : mm_mi yX10_maySing cX10_maySing 4 (some .boolean) 2 := ⟨cw_a1220, cw_a1219, lk_of lkAa0 (i := 27) rfl, cw_a83, ncm_RX10, ncv_RX10, pd_9⟩
theorem t_X10_number : mm_mi yX10_number cX10_number 4 (some .boolean) 3 := ⟨cw_a1029, cw_a1028, lk_of lkAa0 (i := 28) rfl, cw_a83, ncm_RX10, ncv_RX10, pd_12⟩
theorem t_X10_openTo : mm_mi yX10_openTo cX10_openTo 4 (some .int) 1 := ⟨cw_a1089, cw_a1088, lk_of lkAa0 (i := 29) rfl, cw_a83, ncm_RX10, ncv_RX10, pd_3⟩
theorem t_X10_readsClause : mm_mi yX10_readsClause cX10_readsClause 1 (some .boolean) 0 := ⟨cw_a1017, cw_a1016, lk_of lkAa0 (i := 30) rfl, cw_a83, ncm_RX10, ncv_RX10, pd_2⟩
theorem t_X10_readsDoor : mm_mi yX10_readsDoor cX10_readsDoor 2 (some .boolean) 0 := ⟨cw_a1048, cw_a1047, lk_of lkAa0 (i := 31) rfl, cw_a83, ncm_RX10, ncv_RX10, pd_2⟩
theorem t_X10_readsParts : mm_mi yX10_readsParts cX10_readsParts 1 (some .boolean) 0 := ⟨cw_a1052, cw_a1051, lk_of lkAa0 (i := 32) rfl, cw_a83, ncm_RX10, ncv_RX10, pd_2⟩
theorem t_X10_readsPerson : mm_mi yX10_readsPerson cX10_readsPerson 2 (some .boolean) 0 := ⟨cw_a1021, cw_a1020, lk_of lkAa0 (i := 33) rfl, cw_a83, ncm_RX10, ncv_RX10, pd_2⟩
theorem t_X10_readsWill : mm_mi yX10_readsWill cX10_readsWill 3 (some .boolean) 0 := ⟨cw_a1037, cw_a1036, lk_of lkAa0 (i := 34) rfl, cw_a83, ncm_RX10, ncv_RX10, pd_2⟩
theorem t_X10_remember : mm_mi yX10_remember cX10_remember 2 none 0 := ⟨cw_a1106, cw_a1105, lk_of lkAa0 (i := 35) rfl, cw_a83, ncm_RX10, ncv_RX10, pd_1⟩
theorem t_X10_sells : mm_mi yX10_sells cX10_sells 4 none 2 := ⟨cw_a1133, cw_a1132, lk_of lkAa0 (i := 36) rfl, cw_a83, ncm_RX10, ncv_RX10, pd_8⟩
theorem t_X10_step : mm_mi yX10_step cX10_step 1 none 0 := ⟨cw_a1007, cw_a1006, lk_of lkAa0 (i := 37) rfl, cw_a83, ncm_RX10, ncv_RX10, pd_1⟩
theorem t_X10_sungBy : mm_mi yX10_sungBy cX10_sungBy 4 (some .int) 3 := ⟨cw_a1216, cw_a1215, lk_of lkAa0 (i := 38) rfl, cw_a83, ncm_RX10, ncv_RX10, pd_10⟩
theorem t_X10_usesNone : mm_mi yX10_usesNone cX10_usesNone 3 (some .int) 0 := ⟨cw_a1064, cw_a1063, lk_of lkAa0 (i := 39) rfl, cw_a83, ncm_RX10, ncv_RX10, pd_0⟩
theorem t_X10_voices : mm_mi yX10_voices cX10_voices 4 (some .int) 0 := ⟨cw_a1251, cw_a1250, lk_of lkAa1 (i := 0) rfl, cw_a83, ncm_RX10, ncv_RX10, pd_0⟩
theorem t_X1_next : mm_mi yX1_next cX1_next 2 (some .int) 1 := ⟨cw_a632, cw_a630, cw_a631, cw_a77, ncm_RX1, ncv_RX1, pd_3⟩
theorem t_X2_add : mm_mi yX2_add cX2_add 3 (some .boolean) 2 := ⟨cw_a786, cw_a784, cw_a785, cw_a78, ncm_RX2, ncv_RX2, pd_9⟩
theorem t_X2_clear : mm_mi yX2_clear cX2_clear 1 none 0 := ⟨cw_a469, cw_a467, cw_a468, cw_a78, ncm_RX2, ncv_RX2, pd_1⟩
theorem t_X2_firstUnlike : mm_mi yX2_firstUnlike cX2_firstUnlike 3 (some .int) 1 := ⟨cw_a849, cw_a847, cw_a848, cw_a78, ncm_RX2, ncv_RX2, pd_20⟩
theorem t_X2_subjectAt : mm_mi yX2_subjectAt cX2_subjectAt 2 (some .int) 1 := ⟨cw_a798, cw_a796, cw_a797, cw_a78, ncm_RX2, ncv_RX2, pd_3⟩
theorem t_X2_valueAt : mm_mi yX2_valueAt cX2_valueAt 2 (some .int) 1 := ⟨cw_a802, cw_a800, cw_a801, cw_a78, ncm_RX2, ncv_RX2, pd_3⟩
theorem t_X3_allLive : mm_mi yX3_allLive cX3_allLive 2 (some .boolean) 1 := ⟨cw_a776, cw_a774, cw_a775, cw_a75, ncm_RX3, ncv_RX3, pd_6⟩
theorem t_X3_begin : mm_mi yX3_begin cX3_begin 3 none 1 := ⟨cw_a446, cw_a444, cw_a445, cw_a75, ncm_RX3, ncv_RX3, pd_23⟩
theorem t_X3_bury : mm_mi yX3_bury cX3_bury 6 (some .int) 1 := ⟨cw_a568, cw_a566, cw_a567, cw_a75, ncm_RX3, ncv_RX3, pd_3⟩
theorem t_X3_canHandOver : mm_mi yX3_canHandOver cX3_canHandOver 3 (some .boolean) 2 := ⟨cw_a593, cw_a591, cw_a592, cw_a75, ncm_RX3, ncv_RX3, pd_9⟩
theorem t_X3_changeWill : mm_mi yX3_changeWill cX3_changeWill 4 none 3 := ⟨cw_a620, cw_a618, cw_a619, cw_a75, ncm_RX3, ncv_RX3, pd_11⟩
theorem t_X3_copy : mm_mi yX3_copy cX3_copy 3 none 1 := ⟨cw_a563, cw_a561, cw_a562, cw_a75, ncm_RX3, ncv_RX3, pd_21⟩
theorem t_X3_firstAlive : mm_mi yX3_firstAlive cX3_firstAlive 3 (some .int) 2 := ⟨cw_a572, cw_a571, lk_of lkAa1 (i := 1) rfl, cw_a75, ncm_RX3, ncv_RX3, pd_7⟩
theorem t_X3_firstHeir : mm_mi yX3_firstHeir cX3_firstHeir 2 (some .int) 1 := ⟨cw_a523, cw_a521, cw_a522, cw_a75, ncm_RX3, ncv_RX3, pd_3⟩
theorem t_X3_give : mm_mi yX3_give cX3_give 3 none 2 := ⟨cw_a584, cw_a583, lk_of lkAa1 (i := 2) rfl, cw_a75, ncm_RX3, ncv_RX3, pd_8⟩
theorem t_X3_handOver : mm_mi yX3_handOver cX3_handOver 4 none 2 := ⟨cw_a597, cw_a595, cw_a596, cw_a75, ncm_RX3, ncv_RX3, pd_8⟩
theorem t_X3_held : mm_mi yX3_held cX3_held 3 (some .int) 0 := ⟨cw_a494, cw_a492, cw_a493, cw_a75, ncm_RX3, ncv_RX3, pd_0⟩
theorem t_X3_isOne : mm_mi yX3_isOne cX3_isOne 2 (some .boolean) 1 := ⟨cw_a515, cw_a514, lk_of lkAa1 (i := 3) rfl, cw_a75, ncm_RX3, ncv_RX3, pd_6⟩
theorem t_X3_jarOf : mm_mi yX3_jarOf cX3_jarOf 2 (some .int) 1 := ⟨cw_a519, cw_a517, cw_a518, cw_a75, ncm_RX3, ncv_RX3, pd_3⟩
theorem t_X3_leastOf : mm_ms yX3_leastOf cX3_leastOf 1 (some .int) 1 := ⟨cw_a576, cw_a575, cw_a75, ncm_RX3, ncv_RX3, pd_3⟩
theorem t_X3_lives : mm_mi yX3_lives cX3_lives 2 (some .boolean) 1 := ⟨cw_a498, cw_a496, cw_a497, cw_a75, ncm_RX3, ncv_RX3, pd_6⟩
theorem t_X3_secondHeir : mm_mi yX3_secondHeir cX3_secondHeir 2 (some .int) 1 := ⟨cw_a527, cw_a525, cw_a526, cw_a75, ncm_RX3, ncv_RX3, pd_3⟩
theorem t_X3_silent : mm_mi yX3_silent cX3_silent 3 (some .int) 0 := ⟨cw_a485, cw_a483, cw_a484, cw_a75, ncm_RX3, ncv_RX3, pd_0⟩
theorem t_X3_takeOut : mm_mi yX3_takeOut cX3_takeOut 4 (some .int) 2 := ⟨cw_a608, cw_a606, cw_a607, cw_a75, ncm_RX3, ncv_RX3, pd_7⟩
theorem t_X3_userOf : mm_mi yX3_userOf cX3_userOf 3 (some .int) 1 := ⟨cw_a685, cw_a683, cw_a684, cw_a75, ncm_RX3, ncv_RX3, pd_3⟩
theorem t_X3_usersOf : mm_mi yX3_usersOf cX3_usersOf 4 (some .int) 1 := ⟨cw_a806, cw_a804, cw_a805, cw_a75, ncm_RX3, ncv_RX3, pd_3⟩
theorem t_X3_voiceOf : mm_mi yX3_voiceOf cX3_voiceOf 2 (some .int) 1 := ⟨cw_a511, cw_a509, cw_a510, cw_a75, ncm_RX3, ncv_RX3, pd_3⟩
theorem t_X5_add : mm_mi yX5_add cX5_add 2 none 1 := ⟨cw_a667, cw_a666, lk_of lkAa1 (i := 4) rfl, cw_a80, ncm_RX5, ncv_RX5, pd_5⟩
theorem t_X5_asNumber : mm_mi yX5_asNumber cX5_asNumber 3 (some .int) 0 := ⟨cw_a866, cw_a864, cw_a865, cw_a80, ncm_RX5, ncv_RX5, pd_0⟩
theorem t_X5_buryIn : mm_mi yX5_buryIn cX5_buryIn 3 none 1 := ⟨cw_a676, cw_a674, cw_a675, cw_a80, ncm_RX5, ncv_RX5, pd_21⟩
theorem t_X5_empty : mm_mi yX5_empty cX5_empty 1 none 0 := ⟨cw_a656, cw_a655, lk_of lkAa1 (i := 5) rfl, cw_a80, ncm_RX5, ncv_RX5, pd_1⟩
theorem t_X5_firstOne : mm_mi yX5_firstOne cX5_firstOne 1 (some .int) 0 := ⟨cw_a854, cw_a852, cw_a853, cw_a80, ncm_RX5, ncv_RX5, pd_0⟩
theorem t_X5_holds : mm_mi yX5_holds cX5_holds 2 (some .boolean) 1 := ⟨cw_a662, cw_a660, cw_a661, cw_a80, ncm_RX5, ncv_RX5, pd_6⟩
theorem t_X5_memberAt : mm_ms yX5_memberAt cX5_memberAt 4 (some .int) 2 := ⟨cw_a845, cw_a844, cw_a80, ncm_RX5, ncv_RX5, pd_7⟩
theorem t_X5_readOrder : mm_mi yX5_readOrder cX5_readOrder 6 (some .boolean) 2 := ⟨cw_a652, cw_a650, cw_a651, cw_a80, ncm_RX5, ncv_RX5, pd_16⟩
theorem t_X5_setOrder : mm_mi yX5_setOrder cX5_setOrder 8 none 2 := ⟨cw_a839, cw_a837, cw_a838, cw_a80, ncm_RX5, ncv_RX5, pd_8⟩
theorem t_X6_addDoor : mm_mi yX6_addDoor cX6_addDoor 2 none 1 := ⟨cw_a434, cw_a432, cw_a433, cw_a74, ncm_RX6, ncv_RX6, pd_5⟩
theorem t_X6_addPart : mm_mi yX6_addPart cX6_addPart 2 none 1 := ⟨cw_a442, cw_a440, cw_a441, cw_a74, ncm_RX6, ncv_RX6, pd_5⟩
theorem t_X6_addPerson : mm_mi yX6_addPerson cX6_addPerson 2 none 1 := ⟨cw_a402, cw_a400, cw_a401, cw_a74, ncm_RX6, ncv_RX6, pd_5⟩
theorem t_X6_addWill : mm_mi yX6_addWill cX6_addWill 4 none 3 := ⟨cw_a425, cw_a423, cw_a424, cw_a74, ncm_RX6, ncv_RX6, pd_11⟩
theorem t_X6_empty : mm_mi yX6_empty cX6_empty 1 none 0 := ⟨cw_a359, cw_a357, cw_a358, cw_a74, ncm_RX6, ncv_RX6, pd_1⟩
theorem t_X6_firstToldHeir : mm_mi yX6_firstToldHeir cX6_firstToldHeir 2 (some .int) 1 := ⟨cw_a461, cw_a459, cw_a460, cw_a74, ncm_RX6, ncv_RX6, pd_3⟩
theorem t_X6_hasDoor : mm_mi yX6_hasDoor cX6_hasDoor 2 (some .boolean) 1 := ⟨cw_a545, cw_a543, cw_a544, cw_a74, ncm_RX6, ncv_RX6, pd_6⟩
theorem t_X6_hasPart : mm_mi yX6_hasPart cX6_hasPart 2 (some .boolean) 1 := ⟨cw_a717, cw_a715, cw_a716, cw_a74, ncm_RX6, ncv_RX6, pd_6⟩
theorem t_X6_hasPerson : mm_mi yX6_hasPerson cX6_hasPerson 2 (some .boolean) 1 := ⟨cw_a421, cw_a419, cw_a420, cw_a74, ncm_RX6, ncv_RX6, pd_6⟩
theorem t_X6_hasPersons : mm_mi yX6_hasPersons cX6_hasPersons 2 (some .boolean) 1 := ⟨cw_a772, cw_a770, cw_a771, cw_a74, ncm_RX6, ncv_RX6, pd_6⟩
theorem t_X6_hasVoice : mm_mi yX6_hasVoice cX6_hasVoice 2 (some .boolean) 1 := ⟨cw_a453, cw_a451, cw_a452, cw_a74, ncm_RX6, ncv_RX6, pd_6⟩
theorem t_X6_hasWill : mm_mi yX6_hasWill cX6_hasWill 2 (some .boolean) 1 := ⟨cw_a410, cw_a408, cw_a409, cw_a74, ncm_RX6, ncv_RX6, pd_6⟩
theorem t_X6_knownBy : mm_mi yX6_knownBy cX6_knownBy 2 (some .int) 1 := ⟨cw_a549, cw_a547, cw_a548, cw_a74, ncm_RX6, ncv_RX6, pd_3⟩
theorem t_X6_openTo : mm_mi yX6_openTo cX6_openTo 4 (some .int) 1 := ⟨cw_a531, cw_a529, cw_a530, cw_a74, ncm_RX6, ncv_RX6, pd_3⟩
theorem t_X6_rangeOf : mm_mi yX6_rangeOf cX6_rangeOf 2 (some .int) 1 := ⟨cw_a457, cw_a455, cw_a456, cw_a74, ncm_RX6, ncv_RX6, pd_3⟩
theorem t_X6_secondToldHeir : mm_mi yX6_secondToldHeir cX6_secondToldHeir 2 (some .int) 1 := ⟨cw_a465, cw_a463, cw_a464, cw_a74, ncm_RX6, ncv_RX6, pd_3⟩
theorem t_X6_suits : mm_mi yX6_suits cX6_suits 3 (some .boolean) 2 := ⟨cw_a730, cw_a728, cw_a729, cw_a74, ncm_RX6, ncv_RX6, pd_9⟩
theorem t_X6_voices : mm_mi yX6_voices cX6_voices 3 (some .int) 0 := ⟨cw_a489, cw_a487, cw_a488, cw_a74, ncm_RX6, ncv_RX6, pd_0⟩
theorem t_X7_bringBack : mm_mi yX7_bringBack cX7_bringBack 2 (some .boolean) 1 := ⟨cw_a644, cw_a642, cw_a643, cw_a76, ncm_RX7, ncv_RX7, pd_22⟩
theorem t_X7_forget : mm_mi yX7_forget cX7_forget 1 none 0 := ⟨cw_a473, cw_a471, cw_a472, cw_a76, ncm_RX7, ncv_RX7, pd_1⟩
theorem t_X7_remember : mm_mi yX7_remember cX7_remember 2 none 1 := ⟨cw_a559, cw_a557, cw_a558, cw_a76, ncm_RX7, ncv_RX7, pd_21⟩
theorem t_X8_add : mm_mi yX8_add cX8_add 2 (some .boolean) 1 := ⟨cw_a346, cw_a344, cw_a345, cw_a73, ncm_RX8, ncv_RX8, pd_6⟩
theorem t_X8_blame : mm_mi yX8_blame cX8_blame 3 none 2 := ⟨cw_a383, cw_a382, lk_of lkAa1 (i := 6) rfl, cw_a73, ncm_RX8, ncv_RX8, pd_8⟩
theorem t_X8_isFigure : mm_ms yX8_isFigure cX8_isFigure 1 (some .boolean) 1 := ⟨cw_a390, cw_a389, cw_a73, ncm_RX8, ncv_RX8, pd_6⟩
theorem t_X8_isNext : mm_mi yX8_isNext cX8_isNext 2 (some .boolean) 1 := ⟨cw_a398, cw_a397, lk_of lkAa1 (i := 7) rfl, cw_a73, ncm_RX8, ncv_RX8, pd_6⟩
theorem t_X8_isSound : mm_mi yX8_isSound cX8_isSound 1 (some .boolean) 0 := ⟨cw_a367, cw_a366, lk_of lkAa1 (i := 8) rfl, cw_a73, ncm_RX8, ncv_RX8, pd_2⟩
theorem t_X8_letterHere : mm_mi yX8_letterHere cX8_letterHere 1 (some .int) 0 := ⟨cw_a375, cw_a374, lk_of lkAa1 (i := 9) rfl, cw_a73, ncm_RX8, ncv_RX8, pd_0⟩
theorem t_X8_readChoir : mm_mi yX8_readChoir cX8_readChoir 3 none 1 := ⟨cw_a438, cw_a437, lk_of lkAa1 (i := 10) rfl, cw_a73, ncm_RX8, ncv_RX8, pd_23⟩
theorem t_X8_readClause : mm_mi yX8_readClause cX8_readClause 2 none 1 := ⟨cw_a371, cw_a370, lk_of lkAa1 (i := 11) rfl, cw_a73, ncm_RX8, ncv_RX8, pd_23⟩
theorem t_X8_readDoor : mm_mi yX8_readDoor cX8_readDoor 3 none 1 := ⟨cw_a430, cw_a429, lk_of lkAa1 (i := 12) rfl, cw_a73, ncm_RX8, ncv_RX8, pd_23⟩
theorem t_X8_readHeir : mm_mi yX8_readHeir cX8_readHeir 4 (some .int) 2 := ⟨cw_a417, cw_a416, lk_of lkAa1 (i := 13) rfl, cw_a73, ncm_RX8, ncv_RX8, pd_25⟩
theorem t_X8_readInto : mm_mi yX8_readInto cX8_readInto 3 (some .boolean) 1 := ⟨cw_a355, cw_a353, cw_a354, cw_a73, ncm_RX8, ncv_RX8, pd_24⟩
theorem t_X8_readNumber : mm_mi yX8_readNumber cX8_readNumber 4 (some .int) 1 := ⟨cw_a387, cw_a386, lk_of lkAa1 (i := 14) rfl, cw_a73, ncm_RX8, ncv_RX8, pd_3⟩
theorem t_X8_readPerson : mm_mi yX8_readPerson cX8_readPerson 3 none 1 := ⟨cw_a379, cw_a378, lk_of lkAa1 (i := 15) rfl, cw_a73, ncm_RX8, ncv_RX8, pd_23⟩
theorem t_X8_readSign : mm_mi yX8_readSign cX8_readSign 2 (some .boolean) 1 := ⟨cw_a394, cw_a393, lk_of lkAa1 (i := 16) rfl, cw_a73, ncm_RX8, ncv_RX8, pd_6⟩
theorem t_X8_readWill : mm_mi yX8_readWill cX8_readWill 5 none 1 := ⟨cw_a406, cw_a405, lk_of lkAa1 (i := 17) rfl, cw_a73, ncm_RX8, ncv_RX8, pd_23⟩
theorem t_X8_skipBlanks : mm_mi yX8_skipBlanks cX8_skipBlanks 1 none 0 := ⟨cw_a363, cw_a362, lk_of lkAa1 (i := 18) rfl, cw_a73, ncm_RX8, ncv_RX8, pd_1⟩
theorem t_X9_canInherit : mm_mi yX9_canInherit cX9_canInherit 3 (some .boolean) 2 := ⟨cw_a616, cw_a615, lk_of lkAa1 (i := 19) rfl, cw_a72, ncm_RX9, ncv_RX9, pd_9⟩
theorem t_X9_countOrders : mm_mi yX9_countOrders cX9_countOrders 4 (some .int) 1 := ⟨cw_a858, cw_a857, lk_of lkAa1 (i := 20) rfl, cw_a72, ncm_RX9, ncv_RX9, pd_3⟩
theorem t_X9_fewestWills : mm_mi yX9_fewestWills cX9_fewestWills 5 (some .int) 2 := ⟨cw_a694, cw_a693, lk_of lkAa1 (i := 21) rfl, cw_a72, ncm_RX9, ncv_RX9, pd_7⟩
theorem t_X9_firstInAllOrders : mm_mi yX9_firstInAllOrders cX9_firstInAllOrders 4 (some .int) 1 := ⟨cw_a826, cw_a825, lk_of lkAa1 (i := 22) rfl, cw_a72, ncm_RX9, ncv_RX9, pd_3⟩
theorem t_X9_fitsOrder : mm_mi yX9_fitsOrder cX9_fitsOrder 3 (some .boolean) 2 := ⟨cw_a835, cw_a834, lk_of lkAa1 (i := 23) rfl, cw_a72, ncm_RX9, ncv_RX9, pd_9⟩
theorem t_X9_helpTogether : mm_mi yX9_helpTogether cX9_helpTogether 7 (some .boolean) 4 := ⟨cw_a703, cw_a702, lk_of lkAa1 (i := 24) rfl, cw_a72, ncm_RX9, ncv_RX9, pd_14⟩
theorem t_X9_helpsAlone : mm_mi yX9_helpsAlone cX9_helpsAlone 5 (some .boolean) 3 := ⟨cw_a699, cw_a698, lk_of lkAa1 (i := 25) rfl, cw_a72, ncm_RX9, ncv_RX9, pd_12⟩
theorem t_X9_imageOf : mm_mi yX9_imageOf cX9_imageOf 2 (some (.object "VoiceWills$Image")) 1 := ⟨cw_a890, cw_a889, lk_of lkAa1 (i := 26) rfl, cw_a72, ncm_RX9, ncv_RX9, pd_4⟩
theorem t_X9_isIn : mm_ms yX9_isIn cX9_isIn 2 (some .boolean) 2 := ⟨cw_a413, cw_a412, cw_a72, ncm_RX9, ncv_RX9, pd_9⟩
theorem t_X9_isVoiceNumber : mm_ms yX9_isVoiceNumber cX9_isVoiceNumber 1 (some .boolean) 1 := ⟨cw_a501, cw_a500, cw_a72, ncm_RX9, ncv_RX9, pd_6⟩
theorem t_X9_isVoiceOrNone : mm_ms yX9_isVoiceOrNone cX9_isVoiceOrNone 1 (some .boolean) 1 := ⟨cw_a818, cw_a817, cw_a72, ncm_RX9, ncv_RX9, pd_6⟩
theorem t_X9_orderNumber : mm_mi yX9_orderNumber cX9_orderNumber 5 (some .int) 2 := ⟨cw_a862, cw_a861, lk_of lkAa1 (i := 27) rfl, cw_a72, ncm_RX9, ncv_RX9, pd_7⟩
theorem t_X9_ordersOf : mm_ms yX9_ordersOf cX9_ordersOf 2 (some .int) 1 := ⟨cw_a829, cw_a828, cw_a72, ncm_RX9, ncv_RX9, pd_3⟩
theorem t_X9_passYear : mm_mi yX9_passYear cX9_passYear 3 none 0 := ⟨cw_a628, cw_a627, lk_of lkAa1 (i := 28) rfl, cw_a72, ncm_RX9, ncv_RX9, pd_1⟩
theorem t_X9_tryLine : mm_mi yX9_tryLine cX9_tryLine 1 none 0 := ⟨cw_a671, cw_a670, lk_of lkAa1 (i := 29) rfl, cw_a72, ncm_RX9, ncv_RX9, pd_1⟩
theorem t_X9_voicesThatSpoke : mm_mi yX9_voicesThatSpoke cX9_voicesThatSpoke 4 (some .int) 0 := ⟨cw_a794, cw_a793, lk_of lkAa1 (i := 30) rfl, cw_a72, ncm_RX9, ncv_RX9, pd_0⟩
