-- ===== PART A: goes FIRST, ahead of the names: the tables' words, and 'selects' of the private methods out of them =====
/-- a private method of a class that the tables say can be made, by its rows of tables_1 -/
def lw_okq (q : MethodName × Nat) : Prop := (q.1.cls ≠ "java/lang/invoke/MethodHandle" ∧ q.1.cls ≠ "java/lang/invoke/VarHandle") ∧ Cond.instantiable q.1.cls q.2 ∈ tables_1 ∧ Cond.privateMethod q.1 ∈ tables_1 ∧ Cond.instanceMethod q.1 ∈ tables_1
theorem lw_p0 : lw_okq (⟨"VoiceWills$Reader", "skipBlanks", "()V"⟩, 6) := ⟨⟨by decide +kernel, by decide +kernel⟩, List.mem_of_getElem? (i := 23) (by decide +kernel), List.mem_of_getElem? (i := 290) (by decide +kernel), List.mem_of_getElem? (i := 291) (by decide +kernel)⟩
theorem lw_p1 : lw_okq (⟨"VoiceWills$Reader", "isSound", "()Z"⟩, 6) := ⟨⟨by decide +kernel, by decide +kernel⟩, List.mem_of_getElem? (i := 23) (by decide +kernel), List.mem_of_getElem? (i := 294) (by decide +kernel), List.mem_of_getElem? (i := 295) (by decide +kernel)⟩
theorem lw_p2 : lw_okq (⟨"VoiceWills$Reader", "readClause", "(LVoiceWills$Parish;)V"⟩, 6) := ⟨⟨by decide +kernel, by decide +kernel⟩, List.mem_of_getElem? (i := 23) (by decide +kernel), List.mem_of_getElem? (i := 298) (by decide +kernel), List.mem_of_getElem? (i := 299) (by decide +kernel)⟩
theorem lw_p3 : lw_okq (⟨"VoiceWills$Reader", "letterHere", "()I"⟩, 6) := ⟨⟨by decide +kernel, by decide +kernel⟩, List.mem_of_getElem? (i := 23) (by decide +kernel), List.mem_of_getElem? (i := 302) (by decide +kernel), List.mem_of_getElem? (i := 303) (by decide +kernel)⟩
theorem lw_p4 : lw_okq (⟨"VoiceWills$Reader", "readPerson", "(LVoiceWills$Parish;)V"⟩, 6) := ⟨⟨by decide +kernel, by decide +kernel⟩, List.mem_of_getElem? (i := 23) (by decide +kernel), List.mem_of_getElem? (i := 306) (by decide +kernel), List.mem_of_getElem? (i := 307) (by decide +kernel)⟩
theorem lw_p5 : lw_okq (⟨"VoiceWills$Reader", "blame", "(II)V"⟩, 6) := ⟨⟨by decide +kernel, by decide +kernel⟩, List.mem_of_getElem? (i := 23) (by decide +kernel), List.mem_of_getElem? (i := 310) (by decide +kernel), List.mem_of_getElem? (i := 311) (by decide +kernel)⟩
theorem lw_p6 : lw_okq (⟨"VoiceWills$Reader", "readNumber", "(I)I"⟩, 6) := ⟨⟨by decide +kernel, by decide +kernel⟩, List.mem_of_getElem? (i := 23) (by decide +kernel), List.mem_of_getElem? (i := 314) (by decide +kernel), List.mem_of_getElem? (i := 315) (by decide +kernel)⟩
theorem lw_p7 : lw_okq (⟨"VoiceWills$Reader", "readSign", "(I)Z"⟩, 6) := ⟨⟨by decide +kernel, by decide +kernel⟩, List.mem_of_getElem? (i := 23) (by decide +kernel), List.mem_of_getElem? (i := 321) (by decide +kernel), List.mem_of_getElem? (i := 322) (by decide +kernel)⟩
theorem lw_p8 : lw_okq (⟨"VoiceWills$Reader", "isNext", "(I)Z"⟩, 6) := ⟨⟨by decide +kernel, by decide +kernel⟩, List.mem_of_getElem? (i := 23) (by decide +kernel), List.mem_of_getElem? (i := 325) (by decide +kernel), List.mem_of_getElem? (i := 326) (by decide +kernel)⟩
theorem lw_p9 : lw_okq (⟨"VoiceWills$Reader", "readWill", "(LVoiceWills$Parish;)V"⟩, 6) := ⟨⟨by decide +kernel, by decide +kernel⟩, List.mem_of_getElem? (i := 23) (by decide +kernel), List.mem_of_getElem? (i := 333) (by decide +kernel), List.mem_of_getElem? (i := 334) (by decide +kernel)⟩
theorem lw_p10 : lw_okq (⟨"VoiceWills$Reader", "readHeir", "(LVoiceWills$Parish;I)I"⟩, 6) := ⟨⟨by decide +kernel, by decide +kernel⟩, List.mem_of_getElem? (i := 23) (by decide +kernel), List.mem_of_getElem? (i := 344) (by decide +kernel), List.mem_of_getElem? (i := 345) (by decide +kernel)⟩
theorem lw_p11 : lw_okq (⟨"VoiceWills$Reader", "readDoor", "(LVoiceWills$Parish;)V"⟩, 6) := ⟨⟨by decide +kernel, by decide +kernel⟩, List.mem_of_getElem? (i := 23) (by decide +kernel), List.mem_of_getElem? (i := 357) (by decide +kernel), List.mem_of_getElem? (i := 358) (by decide +kernel)⟩
theorem lw_p12 : lw_okq (⟨"VoiceWills$Reader", "readChoir", "(LVoiceWills$Parish;)V"⟩, 6) := ⟨⟨by decide +kernel, by decide +kernel⟩, List.mem_of_getElem? (i := 23) (by decide +kernel), List.mem_of_getElem? (i := 365) (by decide +kernel), List.mem_of_getElem? (i := 366) (by decide +kernel)⟩
theorem lw_p13 : lw_okq (⟨"VoiceWills$Folk", "isOne", "(I)Z"⟩, 7) := ⟨⟨by decide +kernel, by decide +kernel⟩, List.mem_of_getElem? (i := 93) (by decide +kernel), List.mem_of_getElem? (i := 442) (by decide +kernel), List.mem_of_getElem? (i := 443) (by decide +kernel)⟩
theorem lw_p14 : lw_okq (⟨"VoiceWills$Folk", "firstAlive", "(II)I"⟩, 7) := ⟨⟨by decide +kernel, by decide +kernel⟩, List.mem_of_getElem? (i := 93) (by decide +kernel), List.mem_of_getElem? (i := 499) (by decide +kernel), List.mem_of_getElem? (i := 500) (by decide +kernel)⟩
theorem lw_p15 : lw_okq (⟨"VoiceWills$Folk", "give", "(II)V"⟩, 7) := ⟨⟨by decide +kernel, by decide +kernel⟩, List.mem_of_getElem? (i := 93) (by decide +kernel), List.mem_of_getElem? (i := 511) (by decide +kernel), List.mem_of_getElem? (i := 512) (by decide +kernel)⟩
def lw_privs_1 : List (MethodName × Nat) := [(⟨"VoiceWills$Reader", "skipBlanks", "()V"⟩, 6), (⟨"VoiceWills$Reader", "isSound", "()Z"⟩, 6), (⟨"VoiceWills$Reader", "readClause", "(LVoiceWills$Parish;)V"⟩, 6), (⟨"VoiceWills$Reader", "letterHere", "()I"⟩, 6), (⟨"VoiceWills$Reader", "readPerson", "(LVoiceWills$Parish;)V"⟩, 6), (⟨"VoiceWills$Reader", "blame", "(II)V"⟩, 6), (⟨"VoiceWills$Reader", "readNumber", "(I)I"⟩, 6), (⟨"VoiceWills$Reader", "readSign", "(I)Z"⟩, 6), (⟨"VoiceWills$Reader", "isNext", "(I)Z"⟩, 6), (⟨"VoiceWills$Reader", "readWill", "(LVoiceWills$Parish;)V"⟩, 6), (⟨"VoiceWills$Reader", "readHeir", "(LVoiceWills$Parish;I)I"⟩, 6), (⟨"VoiceWills$Reader", "readDoor", "(LVoiceWills$Parish;)V"⟩, 6), (⟨"VoiceWills$Reader", "readChoir", "(LVoiceWills$Parish;)V"⟩, 6), (⟨"VoiceWills$Folk", "isOne", "(I)Z"⟩, 7), (⟨"VoiceWills$Folk", "firstAlive", "(II)I"⟩, 7), (⟨"VoiceWills$Folk", "give", "(II)V"⟩, 7)]
theorem lw_r1 : ∀ q ∈ lw_privs_1, lw_okq q := List.forall_mem_cons.mpr ⟨lw_p0, List.forall_mem_cons.mpr ⟨lw_p1, List.forall_mem_cons.mpr ⟨lw_p2, List.forall_mem_cons.mpr ⟨lw_p3, List.forall_mem_cons.mpr ⟨lw_p4, List.forall_mem_cons.mpr ⟨lw_p5, List.forall_mem_cons.mpr ⟨lw_p6, List.forall_mem_cons.mpr ⟨lw_p7, List.forall_mem_cons.mpr ⟨lw_p8, List.forall_mem_cons.mpr ⟨lw_p9, List.forall_mem_cons.mpr ⟨lw_p10, List.forall_mem_cons.mpr ⟨lw_p11, List.forall_mem_cons.mpr ⟨lw_p12, List.forall_mem_cons.mpr ⟨lw_p13, List.forall_mem_cons.mpr ⟨lw_p14, List.forall_mem_cons.mpr ⟨lw_p15, fun _ h => absurd h List.not_mem_nil⟩⟩⟩⟩⟩⟩⟩⟩⟩⟩⟩⟩⟩⟩⟩⟩
theorem lw_p16 : lw_okq (⟨"VoiceWills", "canInherit", "(II)Z"⟩, 13) := ⟨⟨by decide +kernel, by decide +kernel⟩, List.mem_of_getElem? (i := 15) (by decide +kernel), List.mem_of_getElem? (i := 543) (by decide +kernel), List.mem_of_getElem? (i := 544) (by decide +kernel)⟩
theorem lw_p17 : lw_okq (⟨"VoiceWills", "passYear", "()V"⟩, 13) := ⟨⟨by decide +kernel, by decide +kernel⟩, List.mem_of_getElem? (i := 15) (by decide +kernel), List.mem_of_getElem? (i := 555) (by decide +kernel), List.mem_of_getElem? (i := 556) (by decide +kernel)⟩
theorem lw_p18 : lw_okq (⟨"VoiceWills$Line", "empty", "()V"⟩, 3) := ⟨⟨by decide +kernel, by decide +kernel⟩, List.mem_of_getElem? (i := 176) (by decide +kernel), List.mem_of_getElem? (i := 583) (by decide +kernel), List.mem_of_getElem? (i := 584) (by decide +kernel)⟩
theorem lw_p19 : lw_okq (⟨"VoiceWills$Line", "add", "(I)V"⟩, 3) := ⟨⟨by decide +kernel, by decide +kernel⟩, List.mem_of_getElem? (i := 176) (by decide +kernel), List.mem_of_getElem? (i := 594) (by decide +kernel), List.mem_of_getElem? (i := 595) (by decide +kernel)⟩
theorem lw_p20 : lw_okq (⟨"VoiceWills", "tryLine", "()V"⟩, 13) := ⟨⟨by decide +kernel, by decide +kernel⟩, List.mem_of_getElem? (i := 15) (by decide +kernel), List.mem_of_getElem? (i := 598) (by decide +kernel), List.mem_of_getElem? (i := 599) (by decide +kernel)⟩
theorem lw_p21 : lw_okq (⟨"VoiceWills", "fewestWills", "(II)I"⟩, 13) := ⟨⟨by decide +kernel, by decide +kernel⟩, List.mem_of_getElem? (i := 15) (by decide +kernel), List.mem_of_getElem? (i := 621) (by decide +kernel), List.mem_of_getElem? (i := 622) (by decide +kernel)⟩
theorem lw_p22 : lw_okq (⟨"VoiceWills", "helpsAlone", "(III)Z"⟩, 13) := ⟨⟨by decide +kernel, by decide +kernel⟩, List.mem_of_getElem? (i := 15) (by decide +kernel), List.mem_of_getElem? (i := 626) (by decide +kernel), List.mem_of_getElem? (i := 627) (by decide +kernel)⟩
theorem lw_p23 : lw_okq (⟨"VoiceWills", "helpTogether", "(IIII)Z"⟩, 13) := ⟨⟨by decide +kernel, by decide +kernel⟩, List.mem_of_getElem? (i := 15) (by decide +kernel), List.mem_of_getElem? (i := 630) (by decide +kernel), List.mem_of_getElem? (i := 631) (by decide +kernel)⟩
theorem lw_p24 : lw_okq (⟨"VoiceWills$Choir", "mostFrom", "(II)I"⟩, 3) := ⟨⟨by decide +kernel, by decide +kernel⟩, List.mem_of_getElem? (i := 192) (by decide +kernel), List.mem_of_getElem? (i := 665) (by decide +kernel), List.mem_of_getElem? (i := 666) (by decide +kernel)⟩
theorem lw_p25 : lw_okq (⟨"VoiceWills$Choir", "sungFrom", "(II)I"⟩, 3) := ⟨⟨by decide +kernel, by decide +kernel⟩, List.mem_of_getElem? (i := 192) (by decide +kernel), List.mem_of_getElem? (i := 669) (by decide +kernel), List.mem_of_getElem? (i := 670) (by decide +kernel)⟩
theorem lw_p26 : lw_okq (⟨"VoiceWills$Choir", "isFree", "(III)Z"⟩, 3) := ⟨⟨by decide +kernel, by decide +kernel⟩, List.mem_of_getElem? (i := 192) (by decide +kernel), List.mem_of_getElem? (i := 673) (by decide +kernel), List.mem_of_getElem? (i := 674) (by decide +kernel)⟩
theorem lw_p27 : lw_okq (⟨"VoiceWills$Choir", "leastSinger", "(II)I"⟩, 3) := ⟨⟨by decide +kernel, by decide +kernel⟩, List.mem_of_getElem? (i := 192) (by decide +kernel), List.mem_of_getElem? (i := 679) (by decide +kernel), List.mem_of_getElem? (i := 680) (by decide +kernel)⟩
theorem lw_p28 : lw_okq (⟨"VoiceWills", "voicesThatSpoke", "()I"⟩, 13) := ⟨⟨by decide +kernel, by decide +kernel⟩, List.mem_of_getElem? (i := 15) (by decide +kernel), List.mem_of_getElem? (i := 721) (by decide +kernel), List.mem_of_getElem? (i := 722) (by decide +kernel)⟩
theorem lw_p29 : lw_okq (⟨"VoiceWills", "firstInAllOrders", "(I)I"⟩, 13) := ⟨⟨by decide +kernel, by decide +kernel⟩, List.mem_of_getElem? (i := 15) (by decide +kernel), List.mem_of_getElem? (i := 753) (by decide +kernel), List.mem_of_getElem? (i := 754) (by decide +kernel)⟩
theorem lw_p30 : lw_okq (⟨"VoiceWills", "fitsOrder", "(II)Z"⟩, 13) := ⟨⟨by decide +kernel, by decide +kernel⟩, List.mem_of_getElem? (i := 15) (by decide +kernel), List.mem_of_getElem? (i := 762) (by decide +kernel), List.mem_of_getElem? (i := 763) (by decide +kernel)⟩
theorem lw_p31 : lw_okq (⟨"VoiceWills", "countOrders", "(I)I"⟩, 13) := ⟨⟨by decide +kernel, by decide +kernel⟩, List.mem_of_getElem? (i := 15) (by decide +kernel), List.mem_of_getElem? (i := 785) (by decide +kernel), List.mem_of_getElem? (i := 786) (by decide +kernel)⟩
def lw_privs_2 : List (MethodName × Nat) := [(⟨"VoiceWills", "canInherit", "(II)Z"⟩, 13), (⟨"VoiceWills", "passYear", "()V"⟩, 13), (⟨"VoiceWills$Line", "empty", "()V"⟩, 3), (⟨"VoiceWills$Line", "add", "(I)V"⟩, 3), (⟨"VoiceWills", "tryLine", "()V"⟩, 13), (⟨"VoiceWills", "fewestWills", "(II)I"⟩, 13), (⟨"VoiceWills", "helpsAlone", "(III)Z"⟩, 13), (⟨"VoiceWills", "helpTogether", "(IIII)Z"⟩, 13), (⟨"VoiceWills$Choir", "mostFrom", "(II)I"⟩, 3), (⟨"VoiceWills$Choir", "sungFrom", "(II)I"⟩, 3), (⟨"VoiceWills$Choir", "isFree", "(III)Z"⟩, 3), (⟨"VoiceWills$Choir", "leastSinger", "(II)I"⟩, 3), (⟨"VoiceWills", "voicesThatSpoke", "()I"⟩, 13), (⟨"VoiceWills", "firstInAllOrders", "(I)I"⟩, 13), (⟨"VoiceWills", "fitsOrder", "(II)Z"⟩, 13), (⟨"VoiceWills", "countOrders", "(I)I"⟩, 13)]
theorem lw_r2 : ∀ q ∈ lw_privs_2, lw_okq q := List.forall_mem_cons.mpr ⟨lw_p16, List.forall_mem_cons.mpr ⟨lw_p17, List.forall_mem_cons.mpr ⟨lw_p18, List.forall_mem_cons.mpr ⟨lw_p19, List.forall_mem_cons.mpr ⟨lw_p20, List.forall_mem_cons.mpr ⟨lw_p21, List.forall_mem_cons.mpr ⟨lw_p22, List.forall_mem_cons.mpr ⟨lw_p23, List.forall_mem_cons.mpr ⟨lw_p24, List.forall_mem_cons.mpr ⟨lw_p25, List.forall_mem_cons.mpr ⟨lw_p26, List.forall_mem_cons.mpr ⟨lw_p27, List.forall_mem_cons.mpr ⟨lw_p28, List.forall_mem_cons.mpr ⟨lw_p29, List.forall_mem_cons.mpr ⟨lw_p30, List.forall_mem_cons.mpr ⟨lw_p31, fun _ h => absurd h List.not_mem_nil⟩⟩⟩⟩⟩⟩⟩⟩⟩⟩⟩⟩⟩⟩⟩⟩
theorem lw_p32 : lw_okq (⟨"VoiceWills", "orderNumber", "(II)I"⟩, 13) := ⟨⟨by decide +kernel, by decide +kernel⟩, List.mem_of_getElem? (i := 15) (by decide +kernel), List.mem_of_getElem? (i := 789) (by decide +kernel), List.mem_of_getElem? (i := 790) (by decide +kernel)⟩
theorem lw_p33 : lw_okq (⟨"VoiceWills", "imageOf", "(I)LVoiceWills$Image;"⟩, 13) := ⟨⟨by decide +kernel, by decide +kernel⟩, List.mem_of_getElem? (i := 15) (by decide +kernel), List.mem_of_getElem? (i := 817) (by decide +kernel), List.mem_of_getElem? (i := 818) (by decide +kernel)⟩
theorem lw_p34 : lw_okq (⟨"VoiceWillsModel", "begins", "()V"⟩, 25) := ⟨⟨by decide +kernel, by decide +kernel⟩, List.mem_of_getElem? (i := 825) (by decide +kernel), List.mem_of_getElem? (i := 839) (by decide +kernel), List.mem_of_getElem? (i := 840) (by decide +kernel)⟩
theorem lw_p35 : lw_okq (⟨"VoiceWillsModel", "step", "()V"⟩, 25) := ⟨⟨by decide +kernel, by decide +kernel⟩, List.mem_of_getElem? (i := 825) (by decide +kernel), List.mem_of_getElem? (i := 934) (by decide +kernel), List.mem_of_getElem? (i := 935) (by decide +kernel)⟩
theorem lw_p36 : lw_okq (⟨"VoiceWillsModel", "here", "()I"⟩, 25) := ⟨⟨by decide +kernel, by decide +kernel⟩, List.mem_of_getElem? (i := 825) (by decide +kernel), List.mem_of_getElem? (i := 938) (by decide +kernel), List.mem_of_getElem? (i := 939) (by decide +kernel)⟩
theorem lw_p37 : lw_okq (⟨"VoiceWillsModel", "readsClause", "()Z"⟩, 25) := ⟨⟨by decide +kernel, by decide +kernel⟩, List.mem_of_getElem? (i := 825) (by decide +kernel), List.mem_of_getElem? (i := 944) (by decide +kernel), List.mem_of_getElem? (i := 945) (by decide +kernel)⟩
theorem lw_p38 : lw_okq (⟨"VoiceWillsModel", "readsPerson", "()Z"⟩, 25) := ⟨⟨by decide +kernel, by decide +kernel⟩, List.mem_of_getElem? (i := 825) (by decide +kernel), List.mem_of_getElem? (i := 948) (by decide +kernel), List.mem_of_getElem? (i := 949) (by decide +kernel)⟩
theorem lw_p39 : lw_okq (⟨"VoiceWillsModel", "fails", "(I)Z"⟩, 25) := ⟨⟨by decide +kernel, by decide +kernel⟩, List.mem_of_getElem? (i := 825) (by decide +kernel), List.mem_of_getElem? (i := 952) (by decide +kernel), List.mem_of_getElem? (i := 953) (by decide +kernel)⟩
theorem lw_p40 : lw_okq (⟨"VoiceWillsModel", "number", "(III)Z"⟩, 25) := ⟨⟨by decide +kernel, by decide +kernel⟩, List.mem_of_getElem? (i := 825) (by decide +kernel), List.mem_of_getElem? (i := 956) (by decide +kernel), List.mem_of_getElem? (i := 957) (by decide +kernel)⟩
theorem lw_p41 : lw_okq (⟨"VoiceWillsModel", "ends", "()Z"⟩, 25) := ⟨⟨by decide +kernel, by decide +kernel⟩, List.mem_of_getElem? (i := 825) (by decide +kernel), List.mem_of_getElem? (i := 960) (by decide +kernel), List.mem_of_getElem? (i := 961) (by decide +kernel)⟩
theorem lw_p42 : lw_okq (⟨"VoiceWillsModel", "readsWill", "()Z"⟩, 25) := ⟨⟨by decide +kernel, by decide +kernel⟩, List.mem_of_getElem? (i := 825) (by decide +kernel), List.mem_of_getElem? (i := 964) (by decide +kernel), List.mem_of_getElem? (i := 965) (by decide +kernel)⟩
theorem lw_p43 : lw_okq (⟨"VoiceWillsModel", "isTold", "(Z)Z"⟩, 25) := ⟨⟨by decide +kernel, by decide +kernel⟩, List.mem_of_getElem? (i := 825) (by decide +kernel), List.mem_of_getElem? (i := 968) (by decide +kernel), List.mem_of_getElem? (i := 969) (by decide +kernel)⟩
theorem lw_p44 : lw_okq (⟨"VoiceWillsModel", "readsDoor", "()Z"⟩, 25) := ⟨⟨by decide +kernel, by decide +kernel⟩, List.mem_of_getElem? (i := 825) (by decide +kernel), List.mem_of_getElem? (i := 975) (by decide +kernel), List.mem_of_getElem? (i := 976) (by decide +kernel)⟩
theorem lw_p45 : lw_okq (⟨"VoiceWillsModel", "readsParts", "()Z"⟩, 25) := ⟨⟨by decide +kernel, by decide +kernel⟩, List.mem_of_getElem? (i := 825) (by decide +kernel), List.mem_of_getElem? (i := 979) (by decide +kernel), List.mem_of_getElem? (i := 980) (by decide +kernel)⟩
theorem lw_p46 : lw_okq (⟨"VoiceWillsModel", "usesNone", "()I"⟩, 25) := ⟨⟨by decide +kernel, by decide +kernel⟩, List.mem_of_getElem? (i := 825) (by decide +kernel), List.mem_of_getElem? (i := 991) (by decide +kernel), List.mem_of_getElem? (i := 992) (by decide +kernel)⟩
theorem lw_p47 : lw_okq (⟨"VoiceWillsModel", "isAlive", "(I)Z"⟩, 25) := ⟨⟨by decide +kernel, by decide +kernel⟩, List.mem_of_getElem? (i := 825) (by decide +kernel), List.mem_of_getElem? (i := 995) (by decide +kernel), List.mem_of_getElem? (i := 996) (by decide +kernel)⟩
def lw_privs_3 : List (MethodName × Nat) := [(⟨"VoiceWills", "orderNumber", "(II)I"⟩, 13), (⟨"VoiceWills", "imageOf", "(I)LVoiceWills$Image;"⟩, 13), (⟨"VoiceWillsModel", "begins", "()V"⟩, 25), (⟨"VoiceWillsModel", "step", "()V"⟩, 25), (⟨"VoiceWillsModel", "here", "()I"⟩, 25), (⟨"VoiceWillsModel", "readsClause", "()Z"⟩, 25), (⟨"VoiceWillsModel", "readsPerson", "()Z"⟩, 25), (⟨"VoiceWillsModel", "fails", "(I)Z"⟩, 25), (⟨"VoiceWillsModel", "number", "(III)Z"⟩, 25), (⟨"VoiceWillsModel", "ends", "()Z"⟩, 25), (⟨"VoiceWillsModel", "readsWill", "()Z"⟩, 25), (⟨"VoiceWillsModel", "isTold", "(Z)Z"⟩, 25), (⟨"VoiceWillsModel", "readsDoor", "()Z"⟩, 25), (⟨"VoiceWillsModel", "readsParts", "()Z"⟩, 25), (⟨"VoiceWillsModel", "usesNone", "()I"⟩, 25), (⟨"VoiceWillsModel", "isAlive", "(I)Z"⟩, 25)]
theorem lw_r3 : ∀ q ∈ lw_privs_3, lw_okq q := List.forall_mem_cons.mpr ⟨lw_p32, List.forall_mem_cons.mpr ⟨lw_p33, List.forall_mem_cons.mpr ⟨lw_p34, List.forall_mem_cons.mpr ⟨lw_p35, List.forall_mem_cons.mpr ⟨lw_p36, List.forall_mem_cons.mpr ⟨lw_p37, List.forall_mem_cons.mpr ⟨lw_p38, List.forall_mem_cons.mpr ⟨lw_p39, List.forall_mem_cons.mpr ⟨lw_p40, List.forall_mem_cons.mpr ⟨lw_p41, List.forall_mem_cons.mpr ⟨lw_p42, List.forall_mem_cons.mpr ⟨lw_p43, List.forall_mem_cons.mpr ⟨lw_p44, List.forall_mem_cons.mpr ⟨lw_p45, List.forall_mem_cons.mpr ⟨lw_p46, List.forall_mem_cons.mpr ⟨lw_p47, fun _ h => absurd h List.not_mem_nil⟩⟩⟩⟩⟩⟩⟩⟩⟩⟩⟩⟩⟩⟩⟩⟩
theorem lw_p48 : lw_okq (⟨"VoiceWillsModel", "lost", "()I"⟩, 25) := ⟨⟨by decide +kernel, by decide +kernel⟩, List.mem_of_getElem? (i := 825) (by decide +kernel), List.mem_of_getElem? (i := 999) (by decide +kernel), List.mem_of_getElem? (i := 1000) (by decide +kernel)⟩
theorem lw_p49 : lw_okq (⟨"VoiceWillsModel", "allVoices", "()I"⟩, 25) := ⟨⟨by decide +kernel, by decide +kernel⟩, List.mem_of_getElem? (i := 825) (by decide +kernel), List.mem_of_getElem? (i := 1003) (by decide +kernel), List.mem_of_getElem? (i := 1004) (by decide +kernel)⟩
theorem lw_p50 : lw_okq (⟨"VoiceWillsModel", "isPerson", "(I)Z"⟩, 25) := ⟨⟨by decide +kernel, by decide +kernel⟩, List.mem_of_getElem? (i := 825) (by decide +kernel), List.mem_of_getElem? (i := 1011) (by decide +kernel), List.mem_of_getElem? (i := 1012) (by decide +kernel)⟩
theorem lw_p51 : lw_okq (⟨"VoiceWillsModel", "openTo", "(I)I"⟩, 25) := ⟨⟨by decide +kernel, by decide +kernel⟩, List.mem_of_getElem? (i := 825) (by decide +kernel), List.mem_of_getElem? (i := 1016) (by decide +kernel), List.mem_of_getElem? (i := 1017) (by decide +kernel)⟩
theorem lw_p52 : lw_okq (⟨"VoiceWillsModel", "remember", "()V"⟩, 25) := ⟨⟨by decide +kernel, by decide +kernel⟩, List.mem_of_getElem? (i := 825) (by decide +kernel), List.mem_of_getElem? (i := 1033) (by decide +kernel), List.mem_of_getElem? (i := 1034) (by decide +kernel)⟩
theorem lw_p53 : lw_okq (⟨"VoiceWillsModel", "dies", "([II)I"⟩, 25) := ⟨⟨by decide +kernel, by decide +kernel⟩, List.mem_of_getElem? (i := 825) (by decide +kernel), List.mem_of_getElem? (i := 1037) (by decide +kernel), List.mem_of_getElem? (i := 1038) (by decide +kernel)⟩
theorem lw_p54 : lw_okq (⟨"VoiceWillsModel", "leastMute", "([I)I"⟩, 25) := ⟨⟨by decide +kernel, by decide +kernel⟩, List.mem_of_getElem? (i := 825) (by decide +kernel), List.mem_of_getElem? (i := 1044) (by decide +kernel), List.mem_of_getElem? (i := 1045) (by decide +kernel)⟩
theorem lw_p55 : lw_okq (⟨"VoiceWillsModel", "gets", "([III)V"⟩, 25) := ⟨⟨by decide +kernel, by decide +kernel⟩, List.mem_of_getElem? (i := 825) (by decide +kernel), List.mem_of_getElem? (i := 1048) (by decide +kernel), List.mem_of_getElem? (i := 1049) (by decide +kernel)⟩
theorem lw_p56 : lw_okq (⟨"VoiceWillsModel", "maySell", "(II)Z"⟩, 25) := ⟨⟨by decide +kernel, by decide +kernel⟩, List.mem_of_getElem? (i := 825) (by decide +kernel), List.mem_of_getElem? (i := 1056) (by decide +kernel), List.mem_of_getElem? (i := 1057) (by decide +kernel)⟩
theorem lw_p57 : lw_okq (⟨"VoiceWillsModel", "sells", "(II)V"⟩, 25) := ⟨⟨by decide +kernel, by decide +kernel⟩, List.mem_of_getElem? (i := 825) (by decide +kernel), List.mem_of_getElem? (i := 1060) (by decide +kernel), List.mem_of_getElem? (i := 1061) (by decide +kernel)⟩
theorem lw_p58 : lw_okq (⟨"VoiceWillsModel", "isHeir", "(II)Z"⟩, 25) := ⟨⟨by decide +kernel, by decide +kernel⟩, List.mem_of_getElem? (i := 825) (by decide +kernel), List.mem_of_getElem? (i := 1079) (by decide +kernel), List.mem_of_getElem? (i := 1080) (by decide +kernel)⟩
theorem lw_p59 : lw_okq (⟨"VoiceWillsModel", "draw", "(I)I"⟩, 25) := ⟨⟨by decide +kernel, by decide +kernel⟩, List.mem_of_getElem? (i := 825) (by decide +kernel), List.mem_of_getElem? (i := 1088) (by decide +kernel), List.mem_of_getElem? (i := 1089) (by decide +kernel)⟩
theorem lw_p60 : lw_okq (⟨"VoiceWillsModel", "isOrder", "(I)Z"⟩, 25) := ⟨⟨by decide +kernel, by decide +kernel⟩, List.mem_of_getElem? (i := 825) (by decide +kernel), List.mem_of_getElem? (i := 1104) (by decide +kernel), List.mem_of_getElem? (i := 1105) (by decide +kernel)⟩
theorem lw_p61 : lw_okq (⟨"VoiceWillsModel", "layAside", "()V"⟩, 25) := ⟨⟨by decide +kernel, by decide +kernel⟩, List.mem_of_getElem? (i := 825) (by decide +kernel), List.mem_of_getElem? (i := 1108) (by decide +kernel), List.mem_of_getElem? (i := 1109) (by decide +kernel)⟩
theorem lw_p62 : lw_okq (⟨"VoiceWillsModel", "allDie", "(I)V"⟩, 25) := ⟨⟨by decide +kernel, by decide +kernel⟩, List.mem_of_getElem? (i := 825) (by decide +kernel), List.mem_of_getElem? (i := 1112) (by decide +kernel), List.mem_of_getElem? (i := 1113) (by decide +kernel)⟩
theorem lw_p63 : lw_okq (⟨"VoiceWillsModel", "canBe", "(IIIII)Z"⟩, 25) := ⟨⟨by decide +kernel, by decide +kernel⟩, List.mem_of_getElem? (i := 825) (by decide +kernel), List.mem_of_getElem? (i := 1127) (by decide +kernel), List.mem_of_getElem? (i := 1128) (by decide +kernel)⟩
def lw_privs_4 : List (MethodName × Nat) := [(⟨"VoiceWillsModel", "lost", "()I"⟩, 25), (⟨"VoiceWillsModel", "allVoices", "()I"⟩, 25), (⟨"VoiceWillsModel", "isPerson", "(I)Z"⟩, 25), (⟨"VoiceWillsModel", "openTo", "(I)I"⟩, 25), (⟨"VoiceWillsModel", "remember", "()V"⟩, 25), (⟨"VoiceWillsModel", "dies", "([II)I"⟩, 25), (⟨"VoiceWillsModel", "leastMute", "([I)I"⟩, 25), (⟨"VoiceWillsModel", "gets", "([III)V"⟩, 25), (⟨"VoiceWillsModel", "maySell", "(II)Z"⟩, 25), (⟨"VoiceWillsModel", "sells", "(II)V"⟩, 25), (⟨"VoiceWillsModel", "isHeir", "(II)Z"⟩, 25), (⟨"VoiceWillsModel", "draw", "(I)I"⟩, 25), (⟨"VoiceWillsModel", "isOrder", "(I)Z"⟩, 25), (⟨"VoiceWillsModel", "layAside", "()V"⟩, 25), (⟨"VoiceWillsModel", "allDie", "(I)V"⟩, 25), (⟨"VoiceWillsModel", "canBe", "(IIIII)Z"⟩, 25)]
theorem lw_r4 : ∀ q ∈ lw_privs_4, lw_okq q := List.forall_mem_cons.mpr ⟨lw_p48, List.forall_mem_cons.mpr ⟨lw_p49, List.forall_mem_cons.mpr ⟨lw_p50, List.forall_mem_cons.mpr ⟨lw_p51, List.forall_mem_cons.mpr ⟨lw_p52, List.forall_mem_cons.mpr ⟨lw_p53, List.forall_mem_cons.mpr ⟨lw_p54, List.forall_mem_cons.mpr ⟨lw_p55, List.forall_mem_cons.mpr ⟨lw_p56, List.forall_mem_cons.mpr ⟨lw_p57, List.forall_mem_cons.mpr ⟨lw_p58, List.forall_mem_cons.mpr ⟨lw_p59, List.forall_mem_cons.mpr ⟨lw_p60, List.forall_mem_cons.mpr ⟨lw_p61, List.forall_mem_cons.mpr ⟨lw_p62, List.forall_mem_cons.mpr ⟨lw_p63, fun _ h => absurd h List.not_mem_nil⟩⟩⟩⟩⟩⟩⟩⟩⟩⟩⟩⟩⟩⟩⟩⟩
theorem lw_p64 : lw_okq (⟨"VoiceWillsModel", "heirOf", "(I)I"⟩, 25) := ⟨⟨by decide +kernel, by decide +kernel⟩, List.mem_of_getElem? (i := 825) (by decide +kernel), List.mem_of_getElem? (i := 1131) (by decide +kernel), List.mem_of_getElem? (i := 1132) (by decide +kernel)⟩
theorem lw_p65 : lw_okq (⟨"VoiceWillsModel", "layTable", "()V"⟩, 25) := ⟨⟨by decide +kernel, by decide +kernel⟩, List.mem_of_getElem? (i := 825) (by decide +kernel), List.mem_of_getElem? (i := 1139) (by decide +kernel), List.mem_of_getElem? (i := 1140) (by decide +kernel)⟩
theorem lw_p66 : lw_okq (⟨"VoiceWillsModel", "sungBy", "(III)I"⟩, 25) := ⟨⟨by decide +kernel, by decide +kernel⟩, List.mem_of_getElem? (i := 825) (by decide +kernel), List.mem_of_getElem? (i := 1143) (by decide +kernel), List.mem_of_getElem? (i := 1144) (by decide +kernel)⟩
theorem lw_p67 : lw_okq (⟨"VoiceWillsModel", "maySing", "(II)Z"⟩, 25) := ⟨⟨by decide +kernel, by decide +kernel⟩, List.mem_of_getElem? (i := 825) (by decide +kernel), List.mem_of_getElem? (i := 1147) (by decide +kernel), List.mem_of_getElem? (i := 1148) (by decide +kernel)⟩
theorem lw_p68 : lw_okq (⟨"VoiceWillsModel", "isSet", "(I)Z"⟩, 25) := ⟨⟨by decide +kernel, by decide +kernel⟩, List.mem_of_getElem? (i := 825) (by decide +kernel), List.mem_of_getElem? (i := 1164) (by decide +kernel), List.mem_of_getElem? (i := 1165) (by decide +kernel)⟩
theorem lw_p69 : lw_okq (⟨"VoiceWillsModel", "voices", "()I"⟩, 25) := ⟨⟨by decide +kernel, by decide +kernel⟩, List.mem_of_getElem? (i := 825) (by decide +kernel), List.mem_of_getElem? (i := 1178) (by decide +kernel), List.mem_of_getElem? (i := 1179) (by decide +kernel)⟩
theorem lw_p70 : lw_okq (⟨"VoiceWillsModel", "isSo", "(II)Z"⟩, 25) := ⟨⟨by decide +kernel, by decide +kernel⟩, List.mem_of_getElem? (i := 825) (by decide +kernel), List.mem_of_getElem? (i := 1197) (by decide +kernel), List.mem_of_getElem? (i := 1198) (by decide +kernel)⟩
def lw_privs_5 : List (MethodName × Nat) := [(⟨"VoiceWillsModel", "heirOf", "(I)I"⟩, 25), (⟨"VoiceWillsModel", "layTable", "()V"⟩, 25), (⟨"VoiceWillsModel", "sungBy", "(III)I"⟩, 25), (⟨"VoiceWillsModel", "maySing", "(II)Z"⟩, 25), (⟨"VoiceWillsModel", "isSet", "(I)Z"⟩, 25), (⟨"VoiceWillsModel", "voices", "()I"⟩, 25), (⟨"VoiceWillsModel", "isSo", "(II)Z"⟩, 25)]
theorem lw_r5 : ∀ q ∈ lw_privs_5, lw_okq q := List.forall_mem_cons.mpr ⟨lw_p64, List.forall_mem_cons.mpr ⟨lw_p65, List.forall_mem_cons.mpr ⟨lw_p66, List.forall_mem_cons.mpr ⟨lw_p67, List.forall_mem_cons.mpr ⟨lw_p68, List.forall_mem_cons.mpr ⟨lw_p69, List.forall_mem_cons.mpr ⟨lw_p70, fun _ h => absurd h List.not_mem_nil⟩⟩⟩⟩⟩⟩⟩
def lw_privs : List (MethodName × Nat) := lw_privs_1 ++ (lw_privs_2 ++ (lw_privs_3 ++ (lw_privs_4 ++ (lw_privs_5))))
def lw_tbl : List Cond := k2_sels lw_privs ++ tables_1
theorem lw_privs_ok : ∀ q ∈ lw_privs, lw_okq q := by
  show ∀ q ∈ lw_privs_1 ++ (lw_privs_2 ++ (lw_privs_3 ++ (lw_privs_4 ++ (lw_privs_5)))), lw_okq q
  exact List.forall_mem_append.mpr ⟨lw_r1, List.forall_mem_append.mpr ⟨lw_r2, List.forall_mem_append.mpr ⟨lw_r3, List.forall_mem_append.mpr ⟨lw_r4, lw_r5⟩⟩⟩⟩

def RX0 : String := "VoiceWills$Choir"
def TX0 : u_T := fun k => match k with
  | 0 => ("VoiceWills$Choir", "singers", "[I", true)
  | 1 => ("VoiceWills$Choir", "suited", "[I", true)
  | _ => ("VoiceWills$Choir", "most", "[[I", true)
def tyX0 : Nat → FieldType := fun k => match k with
  | 0 => .array .int
  | 1 => .array .int
  | _ => .array (.array .int)
abbrev wsX00 : List Cond := u_ws RX0 TX0 3
theorem nmX0 : ∀ a, a < 3 → ∀ b, b < 3 → a ≠ b → (TX0 a).2.1 ≠ (TX0 b).2.1 := by decide +kernel
theorem tyX0_ok : ∀ k, k < 3 → parseFieldDescriptor (TX0 k).2.2.1 = some (tyX0 k) := by decide +kernel
abbrev cX0_init : ByteArray := prog_2_method_1_code
def yX0_init : MethodName := ⟨RX0, "<init>", "()V"⟩
abbrev cX0_give : ByteArray := prog_2_method_2_code
def yX0_give : MethodName := ⟨RX0, "give", "(LVoiceWills$Parish;LVoiceWills$Folk;)V"⟩
abbrev cX0_suitedFor : ByteArray := prog_2_method_3_code
def yX0_suitedFor : MethodName := ⟨RX0, "suitedFor", "(ILVoiceWills$Parish;LVoiceWills$Folk;)I"⟩
abbrev cX0_mostFrom : ByteArray := prog_2_method_4_code
def yX0_mostFrom : MethodName := ⟨RX0, "mostFrom", "(II)I"⟩
abbrev cX0_leastSinger : ByteArray := prog_2_method_5_code
def yX0_leastSinger : MethodName := ⟨RX0, "leastSinger", "(II)I"⟩
abbrev cX0_isFree : ByteArray := prog_2_method_6_code
def yX0_isFree : MethodName := ⟨RX0, "isFree", "(III)Z"⟩
abbrev cX0_sungFrom : ByteArray := prog_2_method_7_code
def yX0_sungFrom : MethodName := ⟨RX0, "sungFrom", "(II)I"⟩
abbrev cX0_sung : ByteArray := prog_2_method_8_code
def yX0_sung : MethodName := ⟨RX0, "sung", "()I"⟩
abbrev cX0_singerOf : ByteArray := prog_2_method_9_code
def yX0_singerOf : MethodName := ⟨RX0, "singerOf", "(I)I"⟩
def RX1 : String := "VoiceWills$Draws"
def TX1 : u_T := fun k => match k with
  | _ => ("VoiceWills$Draws", "state", "I", false)
def tyX1 : Nat → FieldType := fun k => match k with
  | _ => .int
abbrev wsX10 : List Cond := u_ws RX1 TX1 1
theorem nmX1 : ∀ a, a < 1 → ∀ b, b < 1 → a ≠ b → (TX1 a).2.1 ≠ (TX1 b).2.1 := by decide +kernel
theorem tyX1_ok : ∀ k, k < 1 → parseFieldDescriptor (TX1 k).2.2.1 = some (tyX1 k) := by decide +kernel
abbrev cX1_init : ByteArray := prog_3_method_1_code
def yX1_init : MethodName := ⟨RX1, "<init>", "()V"⟩
abbrev cX1_next : ByteArray := prog_3_method_2_code
def yX1_next : MethodName := ⟨RX1, "next", "(I)I"⟩
def RX2 : String := "VoiceWills$Entries"
def TX2 : u_T := fun k => match k with
  | 0 => ("VoiceWills$Entries", "size", "I", false)
  | 1 => ("VoiceWills$Entries", "subjects", "[I", true)
  | _ => ("VoiceWills$Entries", "values", "[I", true)
def tyX2 : Nat → FieldType := fun k => match k with
  | 0 => .int
  | 1 => .array .int
  | _ => .array .int
abbrev wsX20 : List Cond := u_ws RX2 TX2 3
theorem nmX2 : ∀ a, a < 3 → ∀ b, b < 3 → a ≠ b → (TX2 a).2.1 ≠ (TX2 b).2.1 := by decide +kernel
theorem tyX2_ok : ∀ k, k < 3 → parseFieldDescriptor (TX2 k).2.2.1 = some (tyX2 k) := by decide +kernel
abbrev cX2_init : ByteArray := prog_4_method_1_code
def yX2_init : MethodName := ⟨RX2, "<init>", "(I)V"⟩
abbrev cX2_clear : ByteArray := prog_4_method_2_code
def yX2_clear : MethodName := ⟨RX2, "clear", "()V"⟩
abbrev cX2_add : ByteArray := prog_4_method_3_code
def yX2_add : MethodName := ⟨RX2, "add", "(II)Z"⟩
abbrev cX2_subjectAt : ByteArray := prog_4_method_4_code
def yX2_subjectAt : MethodName := ⟨RX2, "subjectAt", "(I)I"⟩
abbrev cX2_valueAt : ByteArray := prog_4_method_5_code
def yX2_valueAt : MethodName := ⟨RX2, "valueAt", "(I)I"⟩
abbrev cX2_firstUnlike : ByteArray := prog_4_method_6_code
def yX2_firstUnlike : MethodName := ⟨RX2, "firstUnlike", "(LVoiceWills$Folk;)I"⟩
def RX3 : String := "VoiceWills$Folk"
def TX3 : u_T := fun k => match k with
  | 0 => ("VoiceWills$Folk", "alive", "I", false)
  | 1 => ("VoiceWills$Folk", "deaths", "I", false)
  | 2 => ("VoiceWills$Folk", "count", "I", false)
  | 3 => ("VoiceWills$Folk", "uses", "[I", true)
  | 4 => ("VoiceWills$Folk", "jars", "[I", true)
  | 5 => ("VoiceWills$Folk", "firsts", "[I", true)
  | _ => ("VoiceWills$Folk", "seconds", "[I", true)
def tyX3 : Nat → FieldType := fun k => match k with
  | 0 => .int
  | 1 => .int
  | 2 => .int
  | 3 => .array .int
  | 4 => .array .int
  | 5 => .array .int
  | _ => .array .int
abbrev wsX30 : List Cond := u_ws RX3 TX3 7
theorem nmX3 : ∀ a, a < 7 → ∀ b, b < 7 → a ≠ b → (TX3 a).2.1 ≠ (TX3 b).2.1 := by decide +kernel
theorem tyX3_ok : ∀ k, k < 7 → parseFieldDescriptor (TX3 k).2.2.1 = some (tyX3 k) := by decide +kernel
abbrev cX3_init : ByteArray := prog_5_method_1_code
def yX3_init : MethodName := ⟨RX3, "<init>", "()V"⟩
abbrev cX3_begin : ByteArray := prog_5_method_2_code
def yX3_begin : MethodName := ⟨RX3, "begin", "(LVoiceWills$Parish;)V"⟩
abbrev cX3_copy : ByteArray := prog_5_method_3_code
def yX3_copy : MethodName := ⟨RX3, "copy", "(LVoiceWills$Folk;)V"⟩
abbrev cX3_isOne : ByteArray := prog_5_method_4_code
def yX3_isOne : MethodName := ⟨RX3, "isOne", "(I)Z"⟩
abbrev cX3_lives : ByteArray := prog_5_method_5_code
def yX3_lives : MethodName := ⟨RX3, "lives", "(I)Z"⟩
abbrev cX3_allLive : ByteArray := prog_5_method_6_code
def yX3_allLive : MethodName := ⟨RX3, "allLive", "(I)Z"⟩
abbrev cX3_voiceOf : ByteArray := prog_5_method_7_code
def yX3_voiceOf : MethodName := ⟨RX3, "voiceOf", "(I)I"⟩
abbrev cX3_jarOf : ByteArray := prog_5_method_8_code
def yX3_jarOf : MethodName := ⟨RX3, "jarOf", "(I)I"⟩
abbrev cX3_firstHeir : ByteArray := prog_5_method_9_code
def yX3_firstHeir : MethodName := ⟨RX3, "firstHeir", "(I)I"⟩
abbrev cX3_secondHeir : ByteArray := prog_5_method_10_code
def yX3_secondHeir : MethodName := ⟨RX3, "secondHeir", "(I)I"⟩
abbrev cX3_silent : ByteArray := prog_5_method_11_code
def yX3_silent : MethodName := ⟨RX3, "silent", "()I"⟩
abbrev cX3_held : ByteArray := prog_5_method_12_code
def yX3_held : MethodName := ⟨RX3, "held", "()I"⟩
abbrev cX3_userOf : ByteArray := prog_5_method_13_code
def yX3_userOf : MethodName := ⟨RX3, "userOf", "(I)I"⟩
abbrev cX3_usersOf : ByteArray := prog_5_method_14_code
def yX3_usersOf : MethodName := ⟨RX3, "usersOf", "(I)I"⟩
abbrev cX3_bury : ByteArray := prog_5_method_15_code
def yX3_bury : MethodName := ⟨RX3, "bury", "(I)I"⟩
abbrev cX3_firstAlive : ByteArray := prog_5_method_16_code
def yX3_firstAlive : MethodName := ⟨RX3, "firstAlive", "(II)I"⟩
abbrev cX3_give : ByteArray := prog_5_method_17_code
def yX3_give : MethodName := ⟨RX3, "give", "(II)V"⟩
abbrev cX3_leastOf : ByteArray := prog_5_method_18_code
def yX3_leastOf : MethodName := ⟨RX3, "leastOf", "(I)I"⟩
abbrev cX3_canHandOver : ByteArray := prog_5_method_19_code
def yX3_canHandOver : MethodName := ⟨RX3, "canHandOver", "(II)Z"⟩
abbrev cX3_handOver : ByteArray := prog_5_method_20_code
def yX3_handOver : MethodName := ⟨RX3, "handOver", "(II)V"⟩
abbrev cX3_takeOut : ByteArray := prog_5_method_21_code
def yX3_takeOut : MethodName := ⟨RX3, "takeOut", "(II)I"⟩
abbrev cX3_changeWill : ByteArray := prog_5_method_22_code
def yX3_changeWill : MethodName := ⟨RX3, "changeWill", "(III)V"⟩
def RX4 : String := "VoiceWills$Image"
def TX4 : u_T := fun k => match k with
  | 0 => ("VoiceWills$Image", "kept", "Z", false)
  | 1 => ("VoiceWills$Image", "drawState", "I", false)
  | _ => ("VoiceWills$Image", "folk", "LVoiceWills$Folk;", true)
def tyX4 : Nat → FieldType := fun k => match k with
  | 0 => .boolean
  | 1 => .int
  | _ => .object "VoiceWills$Folk"
abbrev wsX40 : List Cond := u_ws RX4 TX4 3
theorem nmX4 : ∀ a, a < 3 → ∀ b, b < 3 → a ≠ b → (TX4 a).2.1 ≠ (TX4 b).2.1 := by decide +kernel
theorem tyX4_ok : ∀ k, k < 3 → parseFieldDescriptor (TX4 k).2.2.1 = some (tyX4 k) := by decide +kernel
abbrev cX4_init : ByteArray := prog_6_method_1_code
def yX4_init : MethodName := ⟨RX4, "<init>", "()V"⟩
def RX5 : String := "VoiceWills$Line"
def TX5 : u_T := fun k => match k with
  | 0 => ("VoiceWills$Line", "size", "I", false)
  | 1 => ("VoiceWills$Line", "members", "I", false)
  | _ => ("VoiceWills$Line", "persons", "[I", true)
def tyX5 : Nat → FieldType := fun k => match k with
  | 0 => .int
  | 1 => .int
  | _ => .array .int
abbrev wsX50 : List Cond := u_ws RX5 TX5 3
theorem nmX5 : ∀ a, a < 3 → ∀ b, b < 3 → a ≠ b → (TX5 a).2.1 ≠ (TX5 b).2.1 := by decide +kernel
theorem tyX5_ok : ∀ k, k < 3 → parseFieldDescriptor (TX5 k).2.2.1 = some (tyX5 k) := by decide +kernel
abbrev cX5_init : ByteArray := prog_7_method_1_code
def yX5_init : MethodName := ⟨RX5, "<init>", "()V"⟩
abbrev cX5_empty : ByteArray := prog_7_method_2_code
def yX5_empty : MethodName := ⟨RX5, "empty", "()V"⟩
abbrev cX5_add : ByteArray := prog_7_method_3_code
def yX5_add : MethodName := ⟨RX5, "add", "(I)V"⟩
abbrev cX5_readOrder : ByteArray := prog_7_method_4_code
def yX5_readOrder : MethodName := ⟨RX5, "readOrder", "(ILVoiceWills$Folk;)Z"⟩
abbrev cX5_setOrder : ByteArray := prog_7_method_5_code
def yX5_setOrder : MethodName := ⟨RX5, "setOrder", "(II)V"⟩
abbrev cX5_memberAt : ByteArray := prog_7_method_6_code
def yX5_memberAt : MethodName := ⟨RX5, "memberAt", "(II)I"⟩
abbrev cX5_holds : ByteArray := prog_7_method_7_code
def yX5_holds : MethodName := ⟨RX5, "holds", "(I)Z"⟩
abbrev cX5_firstOne : ByteArray := prog_7_method_8_code
def yX5_firstOne : MethodName := ⟨RX5, "firstOne", "()I"⟩
abbrev cX5_asNumber : ByteArray := prog_7_method_9_code
def yX5_asNumber : MethodName := ⟨RX5, "asNumber", "()I"⟩
abbrev cX5_buryIn : ByteArray := prog_7_method_10_code
def yX5_buryIn : MethodName := ⟨RX5, "buryIn", "(LVoiceWills$Folk;)V"⟩
def RX6 : String := "VoiceWills$Parish"
def TX6 : u_T := fun k => match k with
  | 0 => ("VoiceWills$Parish", "persons", "I", false)
  | 1 => ("VoiceWills$Parish", "doors", "I", false)
  | 2 => ("VoiceWills$Parish", "parts", "I", false)
  | 3 => ("VoiceWills$Parish", "willsTold", "I", false)
  | 4 => ("VoiceWills$Parish", "ranges", "[I", true)
  | 5 => ("VoiceWills$Parish", "firsts", "[I", true)
  | 6 => ("VoiceWills$Parish", "seconds", "[I", true)
  | 7 => ("VoiceWills$Parish", "knowing", "[I", true)
  | _ => ("VoiceWills$Parish", "partRanges", "[I", true)
def tyX6 : Nat → FieldType := fun k => match k with
  | 0 => .int
  | 1 => .int
  | 2 => .int
  | 3 => .int
  | 4 => .array .int
  | 5 => .array .int
  | 6 => .array .int
  | 7 => .array .int
  | _ => .array .int
abbrev wsX60 : List Cond := u_ws RX6 TX6 9
theorem nmX6 : ∀ a, a < 9 → ∀ b, b < 9 → a ≠ b → (TX6 a).2.1 ≠ (TX6 b).2.1 := by decide +kernel
theorem tyX6_ok : ∀ k, k < 9 → parseFieldDescriptor (TX6 k).2.2.1 = some (tyX6 k) := by decide +kernel
abbrev cX6_init : ByteArray := prog_8_method_1_code
def yX6_init : MethodName := ⟨RX6, "<init>", "()V"⟩
abbrev cX6_empty : ByteArray := prog_8_method_2_code
def yX6_empty : MethodName := ⟨RX6, "empty", "()V"⟩
abbrev cX6_addPerson : ByteArray := prog_8_method_3_code
def yX6_addPerson : MethodName := ⟨RX6, "addPerson", "(I)V"⟩
abbrev cX6_addWill : ByteArray := prog_8_method_4_code
def yX6_addWill : MethodName := ⟨RX6, "addWill", "(III)V"⟩
abbrev cX6_addDoor : ByteArray := prog_8_method_5_code
def yX6_addDoor : MethodName := ⟨RX6, "addDoor", "(I)V"⟩
abbrev cX6_addPart : ByteArray := prog_8_method_6_code
def yX6_addPart : MethodName := ⟨RX6, "addPart", "(I)V"⟩
abbrev cX6_hasPerson : ByteArray := prog_8_method_7_code
def yX6_hasPerson : MethodName := ⟨RX6, "hasPerson", "(I)Z"⟩
abbrev cX6_hasPersons : ByteArray := prog_8_method_8_code
def yX6_hasPersons : MethodName := ⟨RX6, "hasPersons", "(I)Z"⟩
abbrev cX6_hasVoice : ByteArray := prog_8_method_9_code
def yX6_hasVoice : MethodName := ⟨RX6, "hasVoice", "(I)Z"⟩
abbrev cX6_hasDoor : ByteArray := prog_8_method_10_code
def yX6_hasDoor : MethodName := ⟨RX6, "hasDoor", "(I)Z"⟩
abbrev cX6_hasPart : ByteArray := prog_8_method_11_code
def yX6_hasPart : MethodName := ⟨RX6, "hasPart", "(I)Z"⟩
abbrev cX6_hasWill : ByteArray := prog_8_method_12_code
def yX6_hasWill : MethodName := ⟨RX6, "hasWill", "(I)Z"⟩
abbrev cX6_rangeOf : ByteArray := prog_8_method_13_code
def yX6_rangeOf : MethodName := ⟨RX6, "rangeOf", "(I)I"⟩
abbrev cX6_firstToldHeir : ByteArray := prog_8_method_14_code
def yX6_firstToldHeir : MethodName := ⟨RX6, "firstToldHeir", "(I)I"⟩
abbrev cX6_secondToldHeir : ByteArray := prog_8_method_15_code
def yX6_secondToldHeir : MethodName := ⟨RX6, "secondToldHeir", "(I)I"⟩
abbrev cX6_knownBy : ByteArray := prog_8_method_16_code
def yX6_knownBy : MethodName := ⟨RX6, "knownBy", "(I)I"⟩
abbrev cX6_voices : ByteArray := prog_8_method_17_code
def yX6_voices : MethodName := ⟨RX6, "voices", "()I"⟩
abbrev cX6_openTo : ByteArray := prog_8_method_18_code
def yX6_openTo : MethodName := ⟨RX6, "openTo", "(I)I"⟩
abbrev cX6_suits : ByteArray := prog_8_method_19_code
def yX6_suits : MethodName := ⟨RX6, "suits", "(II)Z"⟩
def RX7 : String := "VoiceWills$Past"
def TX7 : u_T := fun k => match k with
  | 0 => ("VoiceWills$Past", "size", "I", false)
  | 1 => ("VoiceWills$Past", "next", "I", false)
  | _ => ("VoiceWills$Past", "states", "[LVoiceWills$Folk;", true)
def tyX7 : Nat → FieldType := fun k => match k with
  | 0 => .int
  | 1 => .int
  | _ => .array (.object "VoiceWills$Folk")
abbrev wsX70 : List Cond := u_ws RX7 TX7 3
theorem nmX7 : ∀ a, a < 3 → ∀ b, b < 3 → a ≠ b → (TX7 a).2.1 ≠ (TX7 b).2.1 := by decide +kernel
theorem tyX7_ok : ∀ k, k < 3 → parseFieldDescriptor (TX7 k).2.2.1 = some (tyX7 k) := by decide +kernel
abbrev cX7_init : ByteArray := prog_9_method_1_code
def yX7_init : MethodName := ⟨RX7, "<init>", "()V"⟩
abbrev cX7_forget : ByteArray := prog_9_method_2_code
def yX7_forget : MethodName := ⟨RX7, "forget", "()V"⟩
abbrev cX7_remember : ByteArray := prog_9_method_3_code
def yX7_remember : MethodName := ⟨RX7, "remember", "(LVoiceWills$Folk;)V"⟩
abbrev cX7_bringBack : ByteArray := prog_9_method_4_code
def yX7_bringBack : MethodName := ⟨RX7, "bringBack", "(LVoiceWills$Folk;)Z"⟩
def RX8 : String := "VoiceWills$Reader"
def TX8 : u_T := fun k => match k with
  | 0 => ("VoiceWills$Reader", "size", "I", false)
  | 1 => ("VoiceWills$Reader", "faultKind", "I", false)
  | 2 => ("VoiceWills$Reader", "faultAt", "I", false)
  | 3 => ("VoiceWills$Reader", "at", "I", false)
  | 4 => ("VoiceWills$Reader", "numberAt", "I", false)
  | _ => ("VoiceWills$Reader", "letters", "[I", true)
def tyX8 : Nat → FieldType := fun k => match k with
  | 0 => .int
  | 1 => .int
  | 2 => .int
  | 3 => .int
  | 4 => .int
  | _ => .array .int
abbrev wsX80 : List Cond := u_ws RX8 TX8 6
theorem nmX8 : ∀ a, a < 6 → ∀ b, b < 6 → a ≠ b → (TX8 a).2.1 ≠ (TX8 b).2.1 := by decide +kernel
theorem tyX8_ok : ∀ k, k < 6 → parseFieldDescriptor (TX8 k).2.2.1 = some (tyX8 k) := by decide +kernel
abbrev cX8_init : ByteArray := prog_10_method_1_code
def yX8_init : MethodName := ⟨RX8, "<init>", "()V"⟩
abbrev cX8_add : ByteArray := prog_10_method_2_code
def yX8_add : MethodName := ⟨RX8, "add", "(I)Z"⟩
abbrev cX8_readInto : ByteArray := prog_10_method_3_code
def yX8_readInto : MethodName := ⟨RX8, "readInto", "(LVoiceWills$Parish;)Z"⟩
abbrev cX8_readClause : ByteArray := prog_10_method_4_code
def yX8_readClause : MethodName := ⟨RX8, "readClause", "(LVoiceWills$Parish;)V"⟩
abbrev cX8_readPerson : ByteArray := prog_10_method_5_code
def yX8_readPerson : MethodName := ⟨RX8, "readPerson", "(LVoiceWills$Parish;)V"⟩
abbrev cX8_readWill : ByteArray := prog_10_method_6_code
def yX8_readWill : MethodName := ⟨RX8, "readWill", "(LVoiceWills$Parish;)V"⟩
abbrev cX8_readHeir : ByteArray := prog_10_method_7_code
def yX8_readHeir : MethodName := ⟨RX8, "readHeir", "(LVoiceWills$Parish;I)I"⟩
abbrev cX8_readDoor : ByteArray := prog_10_method_8_code
def yX8_readDoor : MethodName := ⟨RX8, "readDoor", "(LVoiceWills$Parish;)V"⟩
abbrev cX8_readChoir : ByteArray := prog_10_method_9_code
def yX8_readChoir : MethodName := ⟨RX8, "readChoir", "(LVoiceWills$Parish;)V"⟩
abbrev cX8_readNumber : ByteArray := prog_10_method_10_code
def yX8_readNumber : MethodName := ⟨RX8, "readNumber", "(I)I"⟩
abbrev cX8_readSign : ByteArray := prog_10_method_11_code
def yX8_readSign : MethodName := ⟨RX8, "readSign", "(I)Z"⟩
abbrev cX8_isNext : ByteArray := prog_10_method_12_code
def yX8_isNext : MethodName := ⟨RX8, "isNext", "(I)Z"⟩
abbrev cX8_skipBlanks : ByteArray := prog_10_method_13_code
def yX8_skipBlanks : MethodName := ⟨RX8, "skipBlanks", "()V"⟩
abbrev cX8_letterHere : ByteArray := prog_10_method_14_code
def yX8_letterHere : MethodName := ⟨RX8, "letterHere", "()I"⟩
abbrev cX8_isFigure : ByteArray := prog_10_method_15_code
def yX8_isFigure : MethodName := ⟨RX8, "isFigure", "(I)Z"⟩
abbrev cX8_isSound : ByteArray := prog_10_method_16_code
def yX8_isSound : MethodName := ⟨RX8, "isSound", "()Z"⟩
abbrev cX8_blame : ByteArray := prog_10_method_17_code
def yX8_blame : MethodName := ⟨RX8, "blame", "(II)V"⟩
def RX9 : String := "VoiceWills"
def TX9 : u_T := fun k => match k with
  | 0 => ("VoiceWills", "reader", "LVoiceWills$Reader;", true)
  | 1 => ("VoiceWills", "here", "LVoiceWills$Parish;", false)
  | 2 => ("VoiceWills", "draft", "LVoiceWills$Parish;", false)
  | 3 => ("VoiceWills", "now", "LVoiceWills$Folk;", true)
  | 4 => ("VoiceWills", "tried", "LVoiceWills$Folk;", true)
  | 5 => ("VoiceWills", "past", "LVoiceWills$Past;", true)
  | 6 => ("VoiceWills", "images", "[LVoiceWills$Image;", true)
  | 7 => ("VoiceWills", "draws", "LVoiceWills$Draws;", true)
  | 8 => ("VoiceWills", "seen", "LVoiceWills$Entries;", true)
  | 9 => ("VoiceWills", "known", "LVoiceWills$Entries;", true)
  | 10 => ("VoiceWills", "book", "LVoiceWills$Entries;", true)
  | 11 => ("VoiceWills", "line", "LVoiceWills$Line;", true)
  | _ => ("VoiceWills", "choir", "LVoiceWills$Choir;", true)
def tyX9 : Nat → FieldType := fun k => match k with
  | 0 => .object "VoiceWills$Reader"
  | 1 => .object "VoiceWills$Parish"
  | 2 => .object "VoiceWills$Parish"
  | 3 => .object "VoiceWills$Folk"
  | 4 => .object "VoiceWills$Folk"
  | 5 => .object "VoiceWills$Past"
  | 6 => .array (.object "VoiceWills$Image")
  | 7 => .object "VoiceWills$Draws"
  | 8 => .object "VoiceWills$Entries"
  | 9 => .object "VoiceWills$Entries"
  | 10 => .object "VoiceWills$Entries"
  | 11 => .object "VoiceWills$Line"
  | _ => .object "VoiceWills$Choir"
abbrev wsX90 : List Cond := u_ws RX9 TX9 13
theorem nmX9 : ∀ a, a < 13 → ∀ b, b < 13 → a ≠ b → (TX9 a).2.1 ≠ (TX9 b).2.1 := by decide +kernel
theorem tyX9_ok : ∀ k, k < 13 → parseFieldDescriptor (TX9 k).2.2.1 = some (tyX9 k) := by decide +kernel
abbrev cX9_init : ByteArray := prog_1_method_1_code
def yX9_init : MethodName := ⟨RX9, "<init>", "()V"⟩
abbrev cX9_feed : ByteArray := prog_1_method_2_code
def yX9_feed : MethodName := ⟨RX9, "feed", "(I)I"⟩
abbrev cX9_parish : ByteArray := prog_1_method_3_code
def yX9_parish : MethodName := ⟨RX9, "parish", "()I"⟩
abbrev cX9_fault : ByteArray := prog_1_method_4_code
def yX9_fault : MethodName := ⟨RX9, "fault", "()I"⟩
abbrev cX9_told : ByteArray := prog_1_method_5_code
def yX9_told : MethodName := ⟨RX9, "told", "(I)I"⟩
abbrev cX9_person : ByteArray := prog_1_method_6_code
def yX9_person : MethodName := ⟨RX9, "person", "(II)I"⟩
abbrev cX9_range : ByteArray := prog_1_method_7_code
def yX9_range : MethodName := ⟨RX9, "range", "(I)I"⟩
abbrev cX9_door : ByteArray := prog_1_method_8_code
def yX9_door : MethodName := ⟨RX9, "door", "(I)I"⟩
abbrev cX9_die : ByteArray := prog_1_method_9_code
def yX9_die : MethodName := ⟨RX9, "die", "(I)I"⟩
abbrev cX9_sell : ByteArray := prog_1_method_10_code
def yX9_sell : MethodName := ⟨RX9, "sell", "(II)I"⟩
abbrev cX9_putBy : ByteArray := prog_1_method_11_code
def yX9_putBy : MethodName := ⟨RX9, "putBy", "(II)I"⟩
abbrev cX9_will : ByteArray := prog_1_method_12_code
def yX9_will : MethodName := ⟨RX9, "will", "(III)I"⟩
abbrev cX9_drift : ByteArray := prog_1_method_13_code
def yX9_drift : MethodName := ⟨RX9, "drift", "(I)I"⟩
abbrev cX9_undo : ByteArray := prog_1_method_14_code
def yX9_undo : MethodName := ⟨RX9, "undo", "()I"⟩
abbrev cX9_after : ByteArray := prog_1_method_15_code
def yX9_after : MethodName := ⟨RX9, "after", "(II)I"⟩
abbrev cX9_whose : ByteArray := prog_1_method_16_code
def yX9_whose : MethodName := ⟨RX9, "whose", "(II)I"⟩
abbrev cX9_wills : ByteArray := prog_1_method_17_code
def yX9_wills : MethodName := ⟨RX9, "wills", "(IIII)I"⟩
abbrev cX9_sing : ByteArray := prog_1_method_18_code
def yX9_sing : MethodName := ⟨RX9, "sing", "(I)I"⟩
abbrev cX9_bid : ByteArray := prog_1_method_19_code
def yX9_bid : MethodName := ⟨RX9, "bid", "(II)I"⟩
abbrev cX9_live : ByteArray := prog_1_method_20_code
def yX9_live : MethodName := ⟨RX9, "live", "(III)I"⟩
abbrev cX9_see : ByteArray := prog_1_method_21_code
def yX9_see : MethodName := ⟨RX9, "see", "(IZ)I"⟩
abbrev cX9_spoke : ByteArray := prog_1_method_22_code
def yX9_spoke : MethodName := ⟨RX9, "spoke", "(I)I"⟩
abbrev cX9_knock : ByteArray := prog_1_method_23_code
def yX9_knock : MethodName := ⟨RX9, "knock", "()I"⟩
abbrev cX9_has : ByteArray := prog_1_method_24_code
def yX9_has : MethodName := ⟨RX9, "has", "(II)I"⟩
abbrev cX9_orders : ByteArray := prog_1_method_25_code
def yX9_orders : MethodName := ⟨RX9, "orders", "(II)I"⟩
abbrev cX9_write : ByteArray := prog_1_method_26_code
def yX9_write : MethodName := ⟨RX9, "write", "(II)I"⟩
abbrev cX9_tear : ByteArray := prog_1_method_27_code
def yX9_tear : MethodName := ⟨RX9, "tear", "()I"⟩
abbrev cX9_judge : ByteArray := prog_1_method_28_code
def yX9_judge : MethodName := ⟨RX9, "judge", "()I"⟩
abbrev cX9_seed : ByteArray := prog_1_method_29_code
def yX9_seed : MethodName := ⟨RX9, "seed", "(I)I"⟩
abbrev cX9_keep : ByteArray := prog_1_method_30_code
def yX9_keep : MethodName := ⟨RX9, "keep", "(I)I"⟩
abbrev cX9_goBack : ByteArray := prog_1_method_31_code
def yX9_goBack : MethodName := ⟨RX9, "goBack", "(I)I"⟩
abbrev cX9_isIn : ByteArray := prog_1_method_32_code
def yX9_isIn : MethodName := ⟨RX9, "isIn", "(II)Z"⟩
abbrev cX9_isVoiceNumber : ByteArray := prog_1_method_33_code
def yX9_isVoiceNumber : MethodName := ⟨RX9, "isVoiceNumber", "(I)Z"⟩
abbrev cX9_isVoiceOrNone : ByteArray := prog_1_method_34_code
def yX9_isVoiceOrNone : MethodName := ⟨RX9, "isVoiceOrNone", "(I)Z"⟩
abbrev cX9_imageOf : ByteArray := prog_1_method_35_code
def yX9_imageOf : MethodName := ⟨RX9, "imageOf", "(I)LVoiceWills$Image;"⟩
abbrev cX9_canInherit : ByteArray := prog_1_method_36_code
def yX9_canInherit : MethodName := ⟨RX9, "canInherit", "(II)Z"⟩
abbrev cX9_passYear : ByteArray := prog_1_method_37_code
def yX9_passYear : MethodName := ⟨RX9, "passYear", "()V"⟩
abbrev cX9_tryLine : ByteArray := prog_1_method_38_code
def yX9_tryLine : MethodName := ⟨RX9, "tryLine", "()V"⟩
abbrev cX9_fewestWills : ByteArray := prog_1_method_39_code
def yX9_fewestWills : MethodName := ⟨RX9, "fewestWills", "(II)I"⟩
abbrev cX9_helpsAlone : ByteArray := prog_1_method_40_code
def yX9_helpsAlone : MethodName := ⟨RX9, "helpsAlone", "(III)Z"⟩
abbrev cX9_helpTogether : ByteArray := prog_1_method_41_code
def yX9_helpTogether : MethodName := ⟨RX9, "helpTogether", "(IIII)Z"⟩
abbrev cX9_voicesThatSpoke : ByteArray := prog_1_method_42_code
def yX9_voicesThatSpoke : MethodName := ⟨RX9, "voicesThatSpoke", "()I"⟩
abbrev cX9_fitsOrder : ByteArray := prog_1_method_43_code
def yX9_fitsOrder : MethodName := ⟨RX9, "fitsOrder", "(II)Z"⟩
abbrev cX9_countOrders : ByteArray := prog_1_method_44_code
def yX9_countOrders : MethodName := ⟨RX9, "countOrders", "(I)I"⟩
abbrev cX9_orderNumber : ByteArray := prog_1_method_45_code
def yX9_orderNumber : MethodName := ⟨RX9, "orderNumber", "(II)I"⟩
abbrev cX9_firstInAllOrders : ByteArray := prog_1_method_46_code
def yX9_firstInAllOrders : MethodName := ⟨RX9, "firstInAllOrders", "(I)I"⟩
abbrev cX9_ordersOf : ByteArray := prog_1_method_47_code
def yX9_ordersOf : MethodName := ⟨RX9, "ordersOf", "(I)I"⟩
def RX10 : String := "VoiceWillsModel"
def TX10 : u_T := fun k => match k with
  | 0 => ("VoiceWillsModel", "parish", "[I", true)
  | 1 => ("VoiceWillsModel", "read", "[I", true)
  | 2 => ("VoiceWillsModel", "now", "[I", true)
  | 3 => ("VoiceWillsModel", "aside", "[I", true)
  | 4 => ("VoiceWillsModel", "past", "[I", true)
  | 5 => ("VoiceWillsModel", "undos", "I", false)
  | 6 => ("VoiceWillsModel", "images", "[I", true)
  | 7 => ("VoiceWillsModel", "kept", "[Z", true)
  | 8 => ("VoiceWillsModel", "seed", "J", false)
  | 9 => ("VoiceWillsModel", "text", "[I", true)
  | 10 => ("VoiceWillsModel", "size", "I", false)
  | 11 => ("VoiceWillsModel", "fault", "I", false)
  | 12 => ("VoiceWillsModel", "sights", "[I", true)
  | 13 => ("VoiceWillsModel", "sightMany", "I", false)
  | 14 => ("VoiceWillsModel", "known", "[I", true)
  | 15 => ("VoiceWillsModel", "knownMany", "I", false)
  | 16 => ("VoiceWillsModel", "book", "[I", true)
  | 17 => ("VoiceWillsModel", "bookMany", "I", false)
  | 18 => ("VoiceWillsModel", "at", "I", false)
  | 19 => ("VoiceWillsModel", "begin", "I", false)
  | 20 => ("VoiceWillsModel", "sign", "I", false)
  | 21 => ("VoiceWillsModel", "figures", "I", false)
  | 22 => ("VoiceWillsModel", "value", "I", false)
  | 23 => ("VoiceWillsModel", "wrong", "I", false)
  | _ => ("VoiceWillsModel", "table", "[I", true)
def tyX10 : Nat → FieldType := fun k => match k with
  | 0 => .array .int
  | 1 => .array .int
  | 2 => .array .int
  | 3 => .array .int
  | 4 => .array .int
  | 5 => .int
  | 6 => .array .int
  | 7 => .array .boolean
  | 8 => .long
  | 9 => .array .int
  | 10 => .int
  | 11 => .int
  | 12 => .array .int
  | 13 => .int
  | 14 => .array .int
  | 15 => .int
  | 16 => .array .int
  | 17 => .int
  | 18 => .int
  | 19 => .int
  | 20 => .int
  | 21 => .int
  | 22 => .int
  | 23 => .int
  | _ => .array .int
abbrev wsX100 : List Cond := u_ws RX10 TX10 25
theorem nmX10 : ∀ a, a < 25 → ∀ b, b < 25 → a ≠ b → (TX10 a).2.1 ≠ (TX10 b).2.1 := by decide +kernel
theorem tyX10_ok : ∀ k, k < 25 → parseFieldDescriptor (TX10 k).2.2.1 = some (tyX10 k) := by decide +kernel
abbrev cX10_init : ByteArray := prog_12_method_1_code
def yX10_init : MethodName := ⟨RX10, "<init>", "()V"⟩
abbrev cX10_in : ByteArray := prog_12_method_3_code
def yX10_in : MethodName := ⟨RX10, "in", "(JJJ)Z"⟩
abbrev cX10_isIn : ByteArray := prog_12_method_4_code
def yX10_isIn : MethodName := ⟨RX10, "isIn", "(II)Z"⟩
abbrev cX10_bits : ByteArray := prog_12_method_5_code
def yX10_bits : MethodName := ⟨RX10, "bits", "(I)I"⟩
abbrev cX10_abs : ByteArray := prog_12_method_6_code
def yX10_abs : MethodName := ⟨RX10, "abs", "(I)I"⟩
abbrev cX10_blank : ByteArray := prog_12_method_7_code
def yX10_blank : MethodName := ⟨RX10, "blank", "([I)V"⟩
abbrev cX10_copies : ByteArray := prog_12_method_8_code
def yX10_copies : MethodName := ⟨RX10, "copies", "([II[III)V"⟩
abbrev cX10_begins : ByteArray := prog_12_method_9_code
def yX10_begins : MethodName := ⟨RX10, "begins", "()V"⟩
abbrev cX10_feed : ByteArray := prog_12_method_10_code
def yX10_feed : MethodName := ⟨RX10, "feed", "(I)I"⟩
abbrev cX10_here : ByteArray := prog_12_method_11_code
def yX10_here : MethodName := ⟨RX10, "here", "()I"⟩
abbrev cX10_step : ByteArray := prog_12_method_12_code
def yX10_step : MethodName := ⟨RX10, "step", "()V"⟩
abbrev cX10_fails : ByteArray := prog_12_method_13_code
def yX10_fails : MethodName := ⟨RX10, "fails", "(I)Z"⟩
abbrev cX10_number : ByteArray := prog_12_method_14_code
def yX10_number : MethodName := ⟨RX10, "number", "(III)Z"⟩
abbrev cX10_ends : ByteArray := prog_12_method_15_code
def yX10_ends : MethodName := ⟨RX10, "ends", "()Z"⟩
abbrev cX10_readsPerson : ByteArray := prog_12_method_16_code
def yX10_readsPerson : MethodName := ⟨RX10, "readsPerson", "()Z"⟩
abbrev cX10_isTold : ByteArray := prog_12_method_17_code
def yX10_isTold : MethodName := ⟨RX10, "isTold", "(Z)Z"⟩
abbrev cX10_readsWill : ByteArray := prog_12_method_18_code
def yX10_readsWill : MethodName := ⟨RX10, "readsWill", "()Z"⟩
abbrev cX10_readsDoor : ByteArray := prog_12_method_19_code
def yX10_readsDoor : MethodName := ⟨RX10, "readsDoor", "()Z"⟩
abbrev cX10_readsParts : ByteArray := prog_12_method_20_code
def yX10_readsParts : MethodName := ⟨RX10, "readsParts", "()Z"⟩
abbrev cX10_readsClause : ByteArray := prog_12_method_21_code
def yX10_readsClause : MethodName := ⟨RX10, "readsClause", "()Z"⟩
abbrev cX10_parish : ByteArray := prog_12_method_22_code
def yX10_parish : MethodName := ⟨RX10, "parish", "()I"⟩
abbrev cX10_fault : ByteArray := prog_12_method_23_code
def yX10_fault : MethodName := ⟨RX10, "fault", "()I"⟩
abbrev cX10_isPerson : ByteArray := prog_12_method_24_code
def yX10_isPerson : MethodName := ⟨RX10, "isPerson", "(I)Z"⟩
abbrev cX10_isVoice : ByteArray := prog_12_method_25_code
def yX10_isVoice : MethodName := ⟨RX10, "isVoice", "(I)Z"⟩
abbrev cX10_isAlive : ByteArray := prog_12_method_26_code
def yX10_isAlive : MethodName := ⟨RX10, "isAlive", "(I)Z"⟩
abbrev cX10_leastOf : ByteArray := prog_12_method_27_code
def yX10_leastOf : MethodName := ⟨RX10, "leastOf", "(I)I"⟩
abbrev cX10_leastMute : ByteArray := prog_12_method_28_code
def yX10_leastMute : MethodName := ⟨RX10, "leastMute", "([I)I"⟩
abbrev cX10_gets : ByteArray := prog_12_method_29_code
def yX10_gets : MethodName := ⟨RX10, "gets", "([III)V"⟩
abbrev cX10_lives : ByteArray := prog_12_method_30_code
def yX10_lives : MethodName := ⟨RX10, "lives", "([II)Z"⟩
abbrev cX10_dies : ByteArray := prog_12_method_31_code
def yX10_dies : MethodName := ⟨RX10, "dies", "([II)I"⟩
abbrev cX10_usesNone : ByteArray := prog_12_method_32_code
def yX10_usesNone : MethodName := ⟨RX10, "usesNone", "()I"⟩
abbrev cX10_allVoices : ByteArray := prog_12_method_33_code
def yX10_allVoices : MethodName := ⟨RX10, "allVoices", "()I"⟩
abbrev cX10_lost : ByteArray := prog_12_method_34_code
def yX10_lost : MethodName := ⟨RX10, "lost", "()I"⟩
abbrev cX10_openTo : ByteArray := prog_12_method_35_code
def yX10_openTo : MethodName := ⟨RX10, "openTo", "(I)I"⟩
abbrev cX10_told : ByteArray := prog_12_method_36_code
def yX10_told : MethodName := ⟨RX10, "told", "(I)I"⟩
abbrev cX10_person : ByteArray := prog_12_method_37_code
def yX10_person : MethodName := ⟨RX10, "person", "(II)I"⟩
abbrev cX10_range : ByteArray := prog_12_method_38_code
def yX10_range : MethodName := ⟨RX10, "range", "(I)I"⟩
abbrev cX10_door : ByteArray := prog_12_method_39_code
def yX10_door : MethodName := ⟨RX10, "door", "(I)I"⟩
abbrev cX10_remember : ByteArray := prog_12_method_40_code
def yX10_remember : MethodName := ⟨RX10, "remember", "()V"⟩
abbrev cX10_die : ByteArray := prog_12_method_41_code
def yX10_die : MethodName := ⟨RX10, "die", "(I)I"⟩
abbrev cX10_maySell : ByteArray := prog_12_method_42_code
def yX10_maySell : MethodName := ⟨RX10, "maySell", "(II)Z"⟩
abbrev cX10_sells : ByteArray := prog_12_method_43_code
def yX10_sells : MethodName := ⟨RX10, "sells", "(II)V"⟩
abbrev cX10_sell : ByteArray := prog_12_method_44_code
def yX10_sell : MethodName := ⟨RX10, "sell", "(II)I"⟩
abbrev cX10_putBy : ByteArray := prog_12_method_45_code
def yX10_putBy : MethodName := ⟨RX10, "putBy", "(II)I"⟩
abbrev cX10_isHeir : ByteArray := prog_12_method_46_code
def yX10_isHeir : MethodName := ⟨RX10, "isHeir", "(II)Z"⟩
abbrev cX10_will : ByteArray := prog_12_method_47_code
def yX10_will : MethodName := ⟨RX10, "will", "(III)I"⟩
abbrev cX10_draw : ByteArray := prog_12_method_48_code
def yX10_draw : MethodName := ⟨RX10, "draw", "(I)I"⟩
abbrev cX10_drift : ByteArray := prog_12_method_49_code
def yX10_drift : MethodName := ⟨RX10, "drift", "(I)I"⟩
abbrev cX10_undo : ByteArray := prog_12_method_50_code
def yX10_undo : MethodName := ⟨RX10, "undo", "()I"⟩
abbrev cX10_isOrder : ByteArray := prog_12_method_51_code
def yX10_isOrder : MethodName := ⟨RX10, "isOrder", "(I)Z"⟩
abbrev cX10_layAside : ByteArray := prog_12_method_52_code
def yX10_layAside : MethodName := ⟨RX10, "layAside", "()V"⟩
abbrev cX10_allDie : ByteArray := prog_12_method_53_code
def yX10_allDie : MethodName := ⟨RX10, "allDie", "(I)V"⟩
abbrev cX10_after : ByteArray := prog_12_method_54_code
def yX10_after : MethodName := ⟨RX10, "after", "(II)I"⟩
abbrev cX10_whose : ByteArray := prog_12_method_55_code
def yX10_whose : MethodName := ⟨RX10, "whose", "(II)I"⟩
abbrev cX10_heirOf : ByteArray := prog_12_method_56_code
def yX10_heirOf : MethodName := ⟨RX10, "heirOf", "(I)I"⟩
abbrev cX10_canBe : ByteArray := prog_12_method_57_code
def yX10_canBe : MethodName := ⟨RX10, "canBe", "(IIIII)Z"⟩
abbrev cX10_wills : ByteArray := prog_12_method_58_code
def yX10_wills : MethodName := ⟨RX10, "wills", "(IIII)I"⟩
abbrev cX10_maySing : ByteArray := prog_12_method_59_code
def yX10_maySing : MethodName := ⟨RX10, "maySing", "(II)Z"⟩
abbrev cX10_sungBy : ByteArray := prog_12_method_60_code
def yX10_sungBy : MethodName := ⟨RX10, "sungBy", "(III)I"⟩
abbrev cX10_layTable : ByteArray := prog_12_method_61_code
def yX10_layTable : MethodName := ⟨RX10, "layTable", "()V"⟩
abbrev cX10_sing : ByteArray := prog_12_method_62_code
def yX10_sing : MethodName := ⟨RX10, "sing", "(I)I"⟩
abbrev cX10_bid : ByteArray := prog_12_method_63_code
def yX10_bid : MethodName := ⟨RX10, "bid", "(II)I"⟩
abbrev cX10_isSet : ByteArray := prog_12_method_64_code
def yX10_isSet : MethodName := ⟨RX10, "isSet", "(I)Z"⟩
abbrev cX10_live : ByteArray := prog_12_method_65_code
def yX10_live : MethodName := ⟨RX10, "live", "(III)I"⟩
abbrev cX10_see : ByteArray := prog_12_method_66_code
def yX10_see : MethodName := ⟨RX10, "see", "(IZ)I"⟩
abbrev cX10_voices : ByteArray := prog_12_method_67_code
def yX10_voices : MethodName := ⟨RX10, "voices", "()I"⟩
abbrev cX10_spoke : ByteArray := prog_12_method_68_code
def yX10_spoke : MethodName := ⟨RX10, "spoke", "(I)I"⟩
abbrev cX10_knock : ByteArray := prog_12_method_69_code
def yX10_knock : MethodName := ⟨RX10, "knock", "()I"⟩
abbrev cX10_isUse : ByteArray := prog_12_method_70_code
def yX10_isUse : MethodName := ⟨RX10, "isUse", "(I)Z"⟩
abbrev cX10_has : ByteArray := prog_12_method_71_code
def yX10_has : MethodName := ⟨RX10, "has", "(II)I"⟩
abbrev cX10_isSo : ByteArray := prog_12_method_72_code
def yX10_isSo : MethodName := ⟨RX10, "isSo", "(II)Z"⟩
abbrev cX10_orders : ByteArray := prog_12_method_73_code
def yX10_orders : MethodName := ⟨RX10, "orders", "(II)I"⟩
abbrev cX10_write : ByteArray := prog_12_method_74_code
def yX10_write : MethodName := ⟨RX10, "write", "(II)I"⟩
abbrev cX10_tear : ByteArray := prog_12_method_75_code
def yX10_tear : MethodName := ⟨RX10, "tear", "()I"⟩
abbrev cX10_judge : ByteArray := prog_12_method_76_code
def yX10_judge : MethodName := ⟨RX10, "judge", "()I"⟩
abbrev cX10_seed : ByteArray := prog_12_method_77_code
def yX10_seed : MethodName := ⟨RX10, "seed", "(I)I"⟩
abbrev cX10_keep : ByteArray := prog_12_method_78_code
def yX10_keep : MethodName := ⟨RX10, "keep", "(I)I"⟩
abbrev cX10_goBack : ByteArray := prog_12_method_79_code
def yX10_goBack : MethodName := ⟨RX10, "goBack", "(I)I"⟩
def RJ6 : String := "java/lang/Integer"
def TJ6 : u_T := fun k => match k with
  | _ => ("", "", "", false)
def tyJ6 : Nat → FieldType := fun k => match k with
  | _ => .int
abbrev wsJ60 : List Cond := u_ws RJ6 TJ6 0
theorem nmJ6 : ∀ a, a < 0 → ∀ b, b < 0 → a ≠ b → (TJ6 a).2.1 ≠ (TJ6 b).2.1 := by decide +kernel
theorem tyJ6_ok : ∀ k, k < 0 → parseFieldDescriptor (TJ6 k).2.2.1 = some (tyJ6 k) := by decide +kernel
abbrev cJ6_numberOfTrailingZeros_0f7a4 : ByteArray := prog_13_method_48_code
def yJ6_numberOfTrailingZeros_0f7a4 : MethodName := ⟨RJ6, "numberOfTrailingZeros", "(I)I"⟩
abbrev cJ6_bitCount_0f7a4 : ByteArray := prog_13_method_49_code
def yJ6_bitCount_0f7a4 : MethodName := ⟨RJ6, "bitCount", "(I)I"⟩
def RJ9 : String := "java/lang/Math"
def TJ9 : u_T := fun k => match k with
  | _ => ("", "", "", false)
def tyJ9 : Nat → FieldType := fun k => match k with
  | _ => .int
abbrev wsJ90 : List Cond := u_ws RJ9 TJ9 0
theorem nmJ9 : ∀ a, a < 0 → ∀ b, b < 0 → a ≠ b → (TJ9 a).2.1 ≠ (TJ9 b).2.1 := by decide +kernel
theorem tyJ9_ok : ∀ k, k < 0 → parseFieldDescriptor (TJ9 k).2.2.1 = some (tyJ9 k) := by decide +kernel
abbrev cJ9_abs_0f7a4 : ByteArray := prog_14_method_59_code
def yJ9_abs_0f7a4 : MethodName := ⟨RJ9, "abs", "(I)I"⟩
abbrev cJ9_max_7cf53 : ByteArray := prog_14_method_65_code
def yJ9_max_7cf53 : MethodName := ⟨RJ9, "max", "(II)I"⟩
abbrev cJ9_min_7cf53 : ByteArray := prog_14_method_69_code
def yJ9_min_7cf53 : MethodName := ⟨RJ9, "min", "(II)I"⟩
def RL : String := "VoiceWillsLaw"
abbrev cL_law : ByteArray := code
def yL_law : MethodName := ⟨RL, "law", "([I)Z"⟩
abbrev vwCl : List vw_C := [(RX0, TX0, 3), (RX1, TX1, 1), (RX2, TX2, 3), (RX3, TX3, 7), (RX4, TX4, 3), (RX5, TX5, 3), (RX6, TX6, 9), (RX7, TX7, 3), (RX8, TX8, 6), (RX9, TX9, 13), (RX10, TX10, 25)]
