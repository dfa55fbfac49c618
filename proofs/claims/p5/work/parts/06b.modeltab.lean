theorem shM_0 : shM[0]? = some (.inl (10, [.inr 1, .inr 2, .inr 3, .inr 4, .inr 5, .inl 0, .inr 6, .inr 7, .inl 1, .inr 8, .inl 0, .inl 0, .inr 9, .inl 0, .inr 10, .inl 0, .inr 11, .inl 0, .inl 0, .inl 0, .inl 0, .inl 0, .inl 0, .inl 0, .inr 12])) := rfl
theorem shM_1 : shM[1]? = some (.inr (0, 37, none)) := rfl
theorem shM_2 : shM[2]? = some (.inr (0, 37, none)) := rfl
theorem shM_3 : shM[3]? = some (.inr (0, 30, none)) := rfl
theorem shM_4 : shM[4]? = some (.inr (0, 30, none)) := rfl
theorem shM_5 : shM[5]? = some (.inr (0, 600, none)) := rfl
theorem shM_6 : shM[6]? = some (.inr (0, 62, none)) := rfl
theorem shM_7 : shM[7]? = some (.inr (1, 2, none)) := rfl
theorem shM_8 : shM[8]? = some (.inr (0, 240, none)) := rfl
theorem shM_9 : shM[9]? = some (.inr (0, 12, none)) := rfl
theorem shM_10 : shM[10]? = some (.inr (0, 12, none)) := rfl
theorem shM_11 : shM[11]? = some (.inr (0, 30, none)) := rfl
theorem shM_12 : shM[12]? = some (.inr (0, 896, none)) := rfl
theorem tbM_0 : (12, 0, 895, (0 : Int), (2147483647 : Int)) ∈ tbM := List.mem_of_getElem? (i := 0) rfl
theorem tbM_1 : (0, 5, 5, (0 : Int), (20 : Int)) ∈ tbM := List.mem_of_getElem? (i := 1) rfl
theorem tbM_2 : (0, 10, 10, (0 : Int), (240 : Int)) ∈ tbM := List.mem_of_getElem? (i := 2) rfl
theorem tbM_3 : (0, 13, 13, (0 : Int), (6 : Int)) ∈ tbM := List.mem_of_getElem? (i := 3) rfl
theorem tbM_4 : (0, 15, 15, (0 : Int), (6 : Int)) ∈ tbM := List.mem_of_getElem? (i := 4) rfl
theorem tbM_5 : (0, 17, 17, (0 : Int), (15 : Int)) ∈ tbM := List.mem_of_getElem? (i := 5) rfl
theorem tbM_6 : (0, 18, 18, (0 : Int), (240 : Int)) ∈ tbM := List.mem_of_getElem? (i := 6) rfl
theorem tbM_7 : (0, 20, 20, (-1 : Int), (255 : Int)) ∈ tbM := List.mem_of_getElem? (i := 7) rfl
theorem tbM_8 : (0, 22, 22, (0 : Int), (999 : Int)) ∈ tbM := List.mem_of_getElem? (i := 8) rfl
theorem tbM_9 : (8, 0, 239, (0 : Int), (255 : Int)) ∈ tbM := List.mem_of_getElem? (i := 9) rfl
theorem tbM_10 : (9, 0, 11, (0 : Int), (5 : Int)) ∈ tbM := List.mem_of_getElem? (i := 10) rfl
theorem tbM_11 : (10, 0, 11, (0 : Int), (9 : Int)) ∈ tbM := List.mem_of_getElem? (i := 11) rfl
theorem tbM_12 : (11, 0, 29, (0 : Int), (9 : Int)) ∈ tbM := List.mem_of_getElem? (i := 12) rfl
theorem tbM_13 : (7, 0, 1, (0 : Int), (1 : Int)) ∈ tbM := List.mem_of_getElem? (i := 13) rfl
theorem tbM_14 : (6, 30, 30, (0 : Int), (2147483647 : Int)) ∈ tbM := List.mem_of_getElem? (i := 14) rfl
theorem tbM_15 : (6, 61, 61, (0 : Int), (2147483647 : Int)) ∈ tbM := List.mem_of_getElem? (i := 15) rfl
theorem tbM_16 : (1, 0, 0, (0 : Int), (7 : Int)) ∈ tbM := List.mem_of_getElem? (i := 16) rfl
theorem tbM_17 : (1, 1, 1, (0 : Int), (6 : Int)) ∈ tbM := List.mem_of_getElem? (i := 17) rfl
theorem tbM_18 : (1, 2, 2, (0 : Int), (6 : Int)) ∈ tbM := List.mem_of_getElem? (i := 18) rfl
theorem tbM_19 : (1, 3, 9, (0 : Int), (9 : Int)) ∈ tbM := List.mem_of_getElem? (i := 19) rfl
theorem tbM_20 : (1, 10, 23, (0 : Int), (9 : Int)) ∈ tbM := List.mem_of_getElem? (i := 20) rfl
theorem tbM_21 : (1, 25, 30, (0 : Int), (127 : Int)) ∈ tbM := List.mem_of_getElem? (i := 21) rfl
theorem tbM_22 : (1, 31, 36, (0 : Int), (8 : Int)) ∈ tbM := List.mem_of_getElem? (i := 22) rfl
theorem tbM_23 : (2, 0, 0, (0 : Int), (7 : Int)) ∈ tbM := List.mem_of_getElem? (i := 23) rfl
theorem tbM_24 : (2, 1, 1, (0 : Int), (6 : Int)) ∈ tbM := List.mem_of_getElem? (i := 24) rfl
theorem tbM_25 : (2, 2, 2, (0 : Int), (6 : Int)) ∈ tbM := List.mem_of_getElem? (i := 25) rfl
theorem tbM_26 : (2, 3, 9, (0 : Int), (9 : Int)) ∈ tbM := List.mem_of_getElem? (i := 26) rfl
theorem tbM_27 : (2, 10, 23, (0 : Int), (9 : Int)) ∈ tbM := List.mem_of_getElem? (i := 27) rfl
theorem tbM_28 : (2, 25, 30, (0 : Int), (127 : Int)) ∈ tbM := List.mem_of_getElem? (i := 28) rfl
theorem tbM_29 : (2, 31, 36, (0 : Int), (8 : Int)) ∈ tbM := List.mem_of_getElem? (i := 29) rfl
theorem tbM_30 : (3, 0, 6, (0 : Int), (9 : Int)) ∈ tbM := List.mem_of_getElem? (i := 30) rfl
theorem tbM_31 : (3, 14, 27, (0 : Int), (9 : Int)) ∈ tbM := List.mem_of_getElem? (i := 31) rfl
theorem tbM_32 : (3, 28, 28, (0 : Int), (127 : Int)) ∈ tbM := List.mem_of_getElem? (i := 32) rfl
theorem tbM_33 : (4, 0, 6, (0 : Int), (9 : Int)) ∈ tbM := List.mem_of_getElem? (i := 33) rfl
theorem tbM_34 : (4, 14, 27, (0 : Int), (9 : Int)) ∈ tbM := List.mem_of_getElem? (i := 34) rfl
theorem tbM_35 : (4, 28, 28, (0 : Int), (127 : Int)) ∈ tbM := List.mem_of_getElem? (i := 35) rfl
theorem tbM_36 : (6, 0, 6, (0 : Int), (9 : Int)) ∈ tbM := List.mem_of_getElem? (i := 36) rfl
theorem tbM_37 : (6, 14, 27, (0 : Int), (9 : Int)) ∈ tbM := List.mem_of_getElem? (i := 37) rfl
theorem tbM_38 : (6, 28, 28, (0 : Int), (127 : Int)) ∈ tbM := List.mem_of_getElem? (i := 38) rfl
theorem tbM_39 : (6, 31, 37, (0 : Int), (9 : Int)) ∈ tbM := List.mem_of_getElem? (i := 39) rfl
theorem tbM_40 : (6, 45, 58, (0 : Int), (9 : Int)) ∈ tbM := List.mem_of_getElem? (i := 40) rfl
theorem tbM_41 : (6, 59, 59, (0 : Int), (127 : Int)) ∈ tbM := List.mem_of_getElem? (i := 41) rfl
theorem tbM_42 : (5, 0, 6, (0 : Int), (9 : Int)) ∈ tbM := List.mem_of_getElem? (i := 42) rfl
theorem tbM_43 : (5, 14, 27, (0 : Int), (9 : Int)) ∈ tbM := List.mem_of_getElem? (i := 43) rfl
theorem tbM_44 : (5, 28, 28, (0 : Int), (127 : Int)) ∈ tbM := List.mem_of_getElem? (i := 44) rfl
theorem tbM_45 : (5, 30, 36, (0 : Int), (9 : Int)) ∈ tbM := List.mem_of_getElem? (i := 45) rfl
theorem tbM_46 : (5, 44, 57, (0 : Int), (9 : Int)) ∈ tbM := List.mem_of_getElem? (i := 46) rfl
theorem tbM_47 : (5, 58, 58, (0 : Int), (127 : Int)) ∈ tbM := List.mem_of_getElem? (i := 47) rfl
theorem tbM_48 : (5, 60, 66, (0 : Int), (9 : Int)) ∈ tbM := List.mem_of_getElem? (i := 48) rfl
theorem tbM_49 : (5, 74, 87, (0 : Int), (9 : Int)) ∈ tbM := List.mem_of_getElem? (i := 49) rfl
theorem tbM_50 : (5, 88, 88, (0 : Int), (127 : Int)) ∈ tbM := List.mem_of_getElem? (i := 50) rfl
theorem tbM_51 : (5, 90, 96, (0 : Int), (9 : Int)) ∈ tbM := List.mem_of_getElem? (i := 51) rfl
theorem tbM_52 : (5, 104, 117, (0 : Int), (9 : Int)) ∈ tbM := List.mem_of_getElem? (i := 52) rfl
theorem tbM_53 : (5, 118, 118, (0 : Int), (127 : Int)) ∈ tbM := List.mem_of_getElem? (i := 53) rfl
theorem tbM_54 : (5, 120, 126, (0 : Int), (9 : Int)) ∈ tbM := List.mem_of_getElem? (i := 54) rfl
theorem tbM_55 : (5, 134, 147, (0 : Int), (9 : Int)) ∈ tbM := List.mem_of_getElem? (i := 55) rfl
theorem tbM_56 : (5, 148, 148, (0 : Int), (127 : Int)) ∈ tbM := List.mem_of_getElem? (i := 56) rfl
theorem tbM_57 : (5, 150, 156, (0 : Int), (9 : Int)) ∈ tbM := List.mem_of_getElem? (i := 57) rfl
theorem tbM_58 : (5, 164, 177, (0 : Int), (9 : Int)) ∈ tbM := List.mem_of_getElem? (i := 58) rfl
theorem tbM_59 : (5, 178, 178, (0 : Int), (127 : Int)) ∈ tbM := List.mem_of_getElem? (i := 59) rfl
theorem tbM_60 : (5, 180, 186, (0 : Int), (9 : Int)) ∈ tbM := List.mem_of_getElem? (i := 60) rfl
theorem tbM_61 : (5, 194, 207, (0 : Int), (9 : Int)) ∈ tbM := List.mem_of_getElem? (i := 61) rfl
theorem tbM_62 : (5, 208, 208, (0 : Int), (127 : Int)) ∈ tbM := List.mem_of_getElem? (i := 62) rfl
theorem tbM_63 : (5, 210, 216, (0 : Int), (9 : Int)) ∈ tbM := List.mem_of_getElem? (i := 63) rfl
theorem tbM_64 : (5, 224, 237, (0 : Int), (9 : Int)) ∈ tbM := List.mem_of_getElem? (i := 64) rfl
theorem tbM_65 : (5, 238, 238, (0 : Int), (127 : Int)) ∈ tbM := List.mem_of_getElem? (i := 65) rfl
theorem tbM_66 : (5, 240, 246, (0 : Int), (9 : Int)) ∈ tbM := List.mem_of_getElem? (i := 66) rfl
theorem tbM_67 : (5, 254, 267, (0 : Int), (9 : Int)) ∈ tbM := List.mem_of_getElem? (i := 67) rfl
theorem tbM_68 : (5, 268, 268, (0 : Int), (127 : Int)) ∈ tbM := List.mem_of_getElem? (i := 68) rfl
theorem tbM_69 : (5, 270, 276, (0 : Int), (9 : Int)) ∈ tbM := List.mem_of_getElem? (i := 69) rfl
theorem tbM_70 : (5, 284, 297, (0 : Int), (9 : Int)) ∈ tbM := List.mem_of_getElem? (i := 70) rfl
theorem tbM_71 : (5, 298, 298, (0 : Int), (127 : Int)) ∈ tbM := List.mem_of_getElem? (i := 71) rfl
theorem tbM_72 : (5, 300, 306, (0 : Int), (9 : Int)) ∈ tbM := List.mem_of_getElem? (i := 72) rfl
theorem tbM_73 : (5, 314, 327, (0 : Int), (9 : Int)) ∈ tbM := List.mem_of_getElem? (i := 73) rfl
theorem tbM_74 : (5, 328, 328, (0 : Int), (127 : Int)) ∈ tbM := List.mem_of_getElem? (i := 74) rfl
theorem tbM_75 : (5, 330, 336, (0 : Int), (9 : Int)) ∈ tbM := List.mem_of_getElem? (i := 75) rfl
theorem tbM_76 : (5, 344, 357, (0 : Int), (9 : Int)) ∈ tbM := List.mem_of_getElem? (i := 76) rfl
theorem tbM_77 : (5, 358, 358, (0 : Int), (127 : Int)) ∈ tbM := List.mem_of_getElem? (i := 77) rfl
theorem tbM_78 : (5, 360, 366, (0 : Int), (9 : Int)) ∈ tbM := List.mem_of_getElem? (i := 78) rfl
theorem tbM_79 : (5, 374, 387, (0 : Int), (9 : Int)) ∈ tbM := List.mem_of_getElem? (i := 79) rfl
theorem tbM_80 : (5, 388, 388, (0 : Int), (127 : Int)) ∈ tbM := List.mem_of_getElem? (i := 80) rfl
theorem tbM_81 : (5, 390, 396, (0 : Int), (9 : Int)) ∈ tbM := List.mem_of_getElem? (i := 81) rfl
theorem tbM_82 : (5, 404, 417, (0 : Int), (9 : Int)) ∈ tbM := List.mem_of_getElem? (i := 82) rfl
theorem tbM_83 : (5, 418, 418, (0 : Int), (127 : Int)) ∈ tbM := List.mem_of_getElem? (i := 83) rfl
theorem tbM_84 : (5, 420, 426, (0 : Int), (9 : Int)) ∈ tbM := List.mem_of_getElem? (i := 84) rfl
theorem tbM_85 : (5, 434, 447, (0 : Int), (9 : Int)) ∈ tbM := List.mem_of_getElem? (i := 85) rfl
theorem tbM_86 : (5, 448, 448, (0 : Int), (127 : Int)) ∈ tbM := List.mem_of_getElem? (i := 86) rfl
theorem tbM_87 : (5, 450, 456, (0 : Int), (9 : Int)) ∈ tbM := List.mem_of_getElem? (i := 87) rfl
theorem tbM_88 : (5, 464, 477, (0 : Int), (9 : Int)) ∈ tbM := List.mem_of_getElem? (i := 88) rfl
theorem tbM_89 : (5, 478, 478, (0 : Int), (127 : Int)) ∈ tbM := List.mem_of_getElem? (i := 89) rfl
theorem tbM_90 : (5, 480, 486, (0 : Int), (9 : Int)) ∈ tbM := List.mem_of_getElem? (i := 90) rfl
theorem tbM_91 : (5, 494, 507, (0 : Int), (9 : Int)) ∈ tbM := List.mem_of_getElem? (i := 91) rfl
theorem tbM_92 : (5, 508, 508, (0 : Int), (127 : Int)) ∈ tbM := List.mem_of_getElem? (i := 92) rfl
theorem tbM_93 : (5, 510, 516, (0 : Int), (9 : Int)) ∈ tbM := List.mem_of_getElem? (i := 93) rfl
theorem tbM_94 : (5, 524, 537, (0 : Int), (9 : Int)) ∈ tbM := List.mem_of_getElem? (i := 94) rfl
theorem tbM_95 : (5, 538, 538, (0 : Int), (127 : Int)) ∈ tbM := List.mem_of_getElem? (i := 95) rfl
theorem tbM_96 : (5, 540, 546, (0 : Int), (9 : Int)) ∈ tbM := List.mem_of_getElem? (i := 96) rfl
theorem tbM_97 : (5, 554, 567, (0 : Int), (9 : Int)) ∈ tbM := List.mem_of_getElem? (i := 97) rfl
theorem tbM_98 : (5, 568, 568, (0 : Int), (127 : Int)) ∈ tbM := List.mem_of_getElem? (i := 98) rfl
theorem tbM_99 : (5, 570, 576, (0 : Int), (9 : Int)) ∈ tbM := List.mem_of_getElem? (i := 99) rfl
theorem tbM_100 : (5, 584, 597, (0 : Int), (9 : Int)) ∈ tbM := List.mem_of_getElem? (i := 100) rfl
theorem tbM_101 : (5, 598, 598, (0 : Int), (127 : Int)) ∈ tbM := List.mem_of_getElem? (i := 101) rfl
