theorem L_0 : mm_bl (0) (0) (0 : Int64) := by decide
theorem L_1 : mm_bl (1) (1) (1 : Int64) := by decide
theorem L_100 : mm_bl (100) (100) (100 : Int64) := by decide
theorem L_1103515245 : mm_bl (1103515245) (1103515245) (1103515245 : Int64) := by decide
theorem L_12345 : mm_bl (12345) (12345) (12345 : Int64) := by decide
theorem L_2147483648 : mm_bl (2147483648) (2147483648) (2147483648 : Int64) := by decide
theorem L_23 : mm_bl (23) (23) (23 : Int64) := by decide
theorem L_255 : mm_bl (255) (255) (255 : Int64) := by decide
theorem L_3 : mm_bl (3) (3) (3 : Int64) := by decide
theorem L_48 : mm_bl (48) (48) (48 : Int64) := by decide
theorem L_57 : mm_bl (57) (57) (57 : Int64) := by decide
theorem L_6 : mm_bl (6) (6) (6 : Int64) := by decide
theorem L_60 : mm_bl (60) (60) (60 : Int64) := by decide
theorem L_65536 : mm_bl (65536) (65536) (65536 : Int64) := by decide
theorem L_99 : mm_bl (99) (99) (99 : Int64) := by decide
theorem cl_0 : (0 : Int32).toNatClampNeg = 0 := by decide
theorem cl_1 : (1 : Int32).toNatClampNeg = 1 := by decide
theorem cl_2 : (2 : Int32).toNatClampNeg = 2 := by decide
theorem cl_24 : (24 : Int32).toNatClampNeg = 24 := by decide
theorem cl_28 : (28 : Int32).toNatClampNeg = 28 := by decide
theorem cl_29 : (29 : Int32).toNatClampNeg = 29 := by decide
theorem fX10_102 : Cond.fieldLink RX10 102 (TX10 21).1 (TX10 21).2.1 (TX10 21).2.2.1 ∈ mm_ok := mm_in 937 (by decide +kernel) rfl
theorem fX10_105 : Cond.fieldLink RX10 105 (TX10 22).1 (TX10 22).2.1 (TX10 22).2.2.1 ∈ mm_ok := mm_in 938 (by decide +kernel) rfl
theorem fX10_112 : Cond.fieldLink RX10 112 (TX10 23).1 (TX10 23).2.1 (TX10 23).2.2.1 ∈ mm_ok := mm_in 939 (by decide +kernel) rfl
theorem fX10_13 : Cond.fieldLink RX10 13 (TX10 1).1 (TX10 1).2.1 (TX10 1).2.2.1 ∈ mm_ok := mm_in 917 (by decide +kernel) rfl
theorem fX10_16 : Cond.fieldLink RX10 16 (TX10 2).1 (TX10 2).2.1 (TX10 2).2.2.1 ∈ mm_ok := mm_in 918 (by decide +kernel) rfl
theorem fX10_19 : Cond.fieldLink RX10 19 (TX10 3).1 (TX10 3).2.1 (TX10 3).2.2.1 ∈ mm_ok := mm_in 919 (by decide +kernel) rfl
theorem fX10_211 : Cond.fieldLink RX10 211 (TX10 8).1 (TX10 8).2.1 (TX10 8).2.2.1 ∈ mm_ok := mm_in 924 (by decide +kernel) rfl
theorem fX10_22 : Cond.fieldLink RX10 22 (TX10 4).1 (TX10 4).2.1 (TX10 4).2.2.1 ∈ mm_ok := mm_in 920 (by decide +kernel) rfl
theorem fX10_25 : Cond.fieldLink RX10 25 (TX10 6).1 (TX10 6).2.1 (TX10 6).2.2.1 ∈ mm_ok := mm_in 922 (by decide +kernel) rfl
theorem fX10_28 : Cond.fieldLink RX10 28 (TX10 7).1 (TX10 7).2.1 (TX10 7).2.2.1 ∈ mm_ok := mm_in 923 (by decide +kernel) rfl
theorem fX10_32 : Cond.fieldLink RX10 32 (TX10 9).1 (TX10 9).2.1 (TX10 9).2.2.1 ∈ mm_ok := mm_in 925 (by decide +kernel) rfl
theorem fX10_35 : Cond.fieldLink RX10 35 (TX10 11).1 (TX10 11).2.1 (TX10 11).2.2.1 ∈ mm_ok := mm_in 927 (by decide +kernel) rfl
theorem fX10_39 : Cond.fieldLink RX10 39 (TX10 12).1 (TX10 12).2.1 (TX10 12).2.2.1 ∈ mm_ok := mm_in 928 (by decide +kernel) rfl
theorem fX10_42 : Cond.fieldLink RX10 42 (TX10 14).1 (TX10 14).2.1 (TX10 14).2.2.1 ∈ mm_ok := mm_in 930 (by decide +kernel) rfl
theorem fX10_45 : Cond.fieldLink RX10 45 (TX10 16).1 (TX10 16).2.1 (TX10 16).2.2.1 ∈ mm_ok := mm_in 932 (by decide +kernel) rfl
theorem fX10_7 : Cond.fieldLink RX10 7 (TX10 0).1 (TX10 0).2.1 (TX10 0).2.2.1 ∈ mm_ok := mm_in 916 (by decide +kernel) rfl
theorem fX10_70 : Cond.fieldLink RX10 70 (TX10 5).1 (TX10 5).2.1 (TX10 5).2.2.1 ∈ mm_ok := mm_in 921 (by decide +kernel) rfl
theorem fX10_73 : Cond.fieldLink RX10 73 (TX10 13).1 (TX10 13).2.1 (TX10 13).2.2.1 ∈ mm_ok := mm_in 929 (by decide +kernel) rfl
theorem fX10_76 : Cond.fieldLink RX10 76 (TX10 15).1 (TX10 15).2.1 (TX10 15).2.2.1 ∈ mm_ok := mm_in 931 (by decide +kernel) rfl
theorem fX10_79 : Cond.fieldLink RX10 79 (TX10 17).1 (TX10 17).2.1 (TX10 17).2.2.1 ∈ mm_ok := mm_in 933 (by decide +kernel) rfl
theorem fX10_85 : Cond.fieldLink RX10 85 (TX10 10).1 (TX10 10).2.1 (TX10 10).2.2.1 ∈ mm_ok := mm_in 926 (by decide +kernel) rfl
theorem fX10_89 : Cond.fieldLink RX10 89 (TX10 18).1 (TX10 18).2.1 (TX10 18).2.2.1 ∈ mm_ok := mm_in 934 (by decide +kernel) rfl
theorem fX10_96 : Cond.fieldLink RX10 96 (TX10 19).1 (TX10 19).2.1 (TX10 19).2.2.1 ∈ mm_ok := mm_in 935 (by decide +kernel) rfl
theorem fX10_99 : Cond.fieldLink RX10 99 (TX10 20).1 (TX10 20).2.1 (TX10 20).2.2.1 ∈ mm_ok := mm_in 936 (by decide +kernel) rfl
theorem kX10_108 : Cond.constantLong RX10 108 (48) ∈ mm_ok := mm_in 1012 (by decide +kernel) rfl
theorem kX10_110 : Cond.constantLong RX10 110 (57) ∈ mm_ok := mm_in 1013 (by decide +kernel) rfl
theorem kX10_153 : Cond.constantLong RX10 153 (6) ∈ mm_ok := mm_in 1144 (by decide +kernel) rfl
theorem kX10_182 : Cond.constant RX10 182 (-1000000001) ∈ mm_ok := mm_in 1085 (by decide +kernel) rfl
theorem kX10_187 : Cond.constant RX10 187 (-1000000003) ∈ mm_ok := mm_in 1102 (by decide +kernel) rfl
theorem kX10_215 : Cond.constantLong RX10 215 (1103515245) ∈ mm_ok := mm_in 1162 (by decide +kernel) rfl
theorem kX10_217 : Cond.constantLong RX10 217 (12345) ∈ mm_ok := mm_in 1163 (by decide +kernel) rfl
theorem kX10_219 : Cond.constantLong RX10 219 (2147483648) ∈ mm_ok := mm_in 1164 (by decide +kernel) rfl
theorem kX10_221 : Cond.constantLong RX10 221 (65536) ∈ mm_ok := mm_in 1165 (by decide +kernel) rfl
theorem kX10_223 : Cond.constantLong RX10 223 (60) ∈ mm_ok := mm_in 1157 (by decide +kernel) rfl
theorem kX10_254 : Cond.constant RX10 254 (-1000000) ∈ mm_ok := mm_in 1224 (by decide +kernel) rfl
theorem kX10_262 : Cond.constantLong RX10 262 (99) ∈ mm_ok := mm_in 1229 (by decide +kernel) rfl
theorem kX10_267 : Cond.constantLong RX10 267 (100) ∈ mm_ok := mm_in 1238 (by decide +kernel) rfl
theorem kX10_269 : Cond.constantLong RX10 269 (1000000000) ∈ mm_ok := mm_in 1239 (by decide +kernel) rfl
theorem kX10_58 : Cond.constantLong RX10 58 (3) ∈ mm_ok := mm_in 904 (by decide +kernel) rfl
theorem kX10_60 : Cond.constantLong RX10 60 (23) ∈ mm_ok := mm_in 905 (by decide +kernel) rfl
theorem kX10_82 : Cond.constantLong RX10 82 (255) ∈ mm_ok := mm_in 997 (by decide +kernel) rfl
theorem kX10_84 : Cond.constant RX10 84 (-1000000002) ∈ mm_ok := mm_in 998 (by decide +kernel) rfl
theorem kX10_88 : Cond.constant RX10 88 (-1000000004) ∈ mm_ok := mm_in 999 (by decide +kernel) rfl
theorem kb_10 : (Int8.ofInt (10)).toInt32 = 10 := by decide
theorem kb_100 : (Int8.ofInt (100)).toInt32 = 100 := by decide
theorem kb_127 : (Int8.ofInt (127)).toInt32 = 127 := by decide
theorem kb_14 : (Int8.ofInt (14)).toInt32 = 14 := by decide
theorem kb_15 : (Int8.ofInt (15)).toInt32 = 15 := by decide
theorem kb_20 : (Int8.ofInt (20)).toInt32 = 20 := by decide
theorem kb_21 : (Int8.ofInt (21)).toInt32 = 21 := by decide
theorem kb_24 : (Int8.ofInt (24)).toInt32 = 24 := by decide
theorem kb_25 : (Int8.ofInt (25)).toInt32 = 25 := by decide
theorem kb_28 : (Int8.ofInt (28)).toInt32 = 28 := by decide
theorem kb_29 : (Int8.ofInt (29)).toInt32 = 29 := by decide
theorem kb_30 : (Int8.ofInt (30)).toInt32 = 30 := by decide
theorem kb_31 : (Int8.ofInt (31)).toInt32 = 31 := by decide
theorem kb_32 : (Int8.ofInt (32)).toInt32 = 32 := by decide
theorem kb_37 : (Int8.ofInt (37)).toInt32 = 37 := by decide
theorem kb_44 : (Int8.ofInt (44)).toInt32 = 44 := by decide
theorem kb_48 : (Int8.ofInt (48)).toInt32 = 48 := by decide
theorem kb_59 : (Int8.ofInt (59)).toInt32 = 59 := by decide
theorem kb_6 : (Int8.ofInt (6)).toInt32 = 6 := by decide
theorem kb_7 : (Int8.ofInt (7)).toInt32 = 7 := by decide
theorem kb_8 : (Int8.ofInt (8)).toInt32 = 8 := by decide
theorem kb_9 : (Int8.ofInt (9)).toInt32 = 9 := by decide
theorem kb_m10 : (Int8.ofInt (-10)).toInt32 = -10 := by decide
theorem ki_0 : Int32.ofInt (0) = 0 := by decide
theorem ki_1 : Int32.ofInt (1) = 1 := by decide
theorem ki_2 : Int32.ofInt (2) = 2 := by decide
theorem ki_3 : Int32.ofInt (3) = 3 := by decide
theorem ki_4 : Int32.ofInt (4) = 4 := by decide
theorem ki_m1 : Int32.ofInt (-1) = -1 := by decide
theorem ks_240 : (Int16.ofInt (240)).toInt32 = 240 := by decide
theorem ks_570 : (Int16.ofInt (570)).toInt32 = 570 := by decide
theorem mX10_115 : Cond.methodLink RX10 115 yX10_step ∈ mm_ok := mm_in 1004 (by decide +kernel) rfl
theorem mX10_118 : Cond.methodLink RX10 118 yX10_fails ∈ mm_ok := mm_in 1022 (by decide +kernel) rfl
theorem mX10_122 : Cond.methodLink RX10 122 yX10_number ∈ mm_ok := mm_in 1026 (by decide +kernel) rfl
theorem mX10_126 : Cond.methodLink RX10 126 yX10_ends ∈ mm_ok := mm_in 1030 (by decide +kernel) rfl
theorem mX10_130 : Cond.methodLink RX10 130 yX10_isTold ∈ mm_ok := mm_in 1038 (by decide +kernel) rfl
theorem mX10_134 : Cond.methodLink RX10 134 yX10_isIn ∈ mm_ok := mm_in 1042 (by decide +kernel) rfl
theorem mX10_138 : Cond.methodLink RX10 138 yX10_readsPerson ∈ mm_ok := mm_in 1018 (by decide +kernel) rfl
theorem mX10_141 : Cond.methodLink RX10 141 yX10_readsWill ∈ mm_ok := mm_in 1034 (by decide +kernel) rfl
theorem mX10_144 : Cond.methodLink RX10 144 yX10_readsDoor ∈ mm_ok := mm_in 1045 (by decide +kernel) rfl
theorem mX10_147 : Cond.methodLink RX10 147 yX10_readsParts ∈ mm_ok := mm_in 1049 (by decide +kernel) rfl
theorem mX10_150 : Cond.methodLink RX10 150 yX10_readsClause ∈ mm_ok := mm_in 1014 (by decide +kernel) rfl
theorem mX10_155 : Cond.methodLink RX10 155 yX10_lives ∈ mm_ok := mm_in 1111 (by decide +kernel) rfl
theorem mX10_159 : Cond.methodLink RX10 159 yX10_leastMute ∈ mm_ok := mm_in 1114 (by decide +kernel) rfl
theorem mX10_163 : Cond.methodLink RX10 163 yX10_gets ∈ mm_ok := mm_in 1118 (by decide +kernel) rfl
theorem mX10_167 : Cond.methodLink RX10 167 yX10_isAlive ∈ mm_ok := mm_in 1065 (by decide +kernel) rfl
theorem mX10_170 : Cond.methodLink RX10 170 yX10_allVoices ∈ mm_ok := mm_in 1073 (by decide +kernel) rfl
theorem mX10_173 : Cond.methodLink RX10 173 yX10_usesNone ∈ mm_ok := mm_in 1061 (by decide +kernel) rfl
theorem mX10_176 : Cond.methodLink RX10 176 yX10_lost ∈ mm_ok := mm_in 1069 (by decide +kernel) rfl
theorem mX10_179 : Cond.methodLink RX10 179 yX10_isPerson ∈ mm_ok := mm_in 1081 (by decide +kernel) rfl
theorem mX10_183 : Cond.methodLink RX10 183 yX10_openTo ∈ mm_ok := mm_in 1086 (by decide +kernel) rfl
theorem mX10_188 : Cond.methodLink RX10 188 yX10_remember ∈ mm_ok := mm_in 1103 (by decide +kernel) rfl
theorem mX10_191 : Cond.methodLink RX10 191 yX10_dies ∈ mm_ok := mm_in 1107 (by decide +kernel) rfl
theorem mX10_195 : Cond.methodLink RX10 195 yX10_leastOf ∈ mm_ok := mm_in 1134 (by decide +kernel) rfl
theorem mX10_198 : Cond.methodLink RX10 198 yX10_maySell ∈ mm_ok := mm_in 1126 (by decide +kernel) rfl
theorem mX10_201 : Cond.methodLink RX10 201 yX10_sells ∈ mm_ok := mm_in 1130 (by decide +kernel) rfl
theorem mX10_205 : Cond.methodLink RX10 205 yX10_isVoice ∈ mm_ok := mm_in 1141 (by decide +kernel) rfl
theorem mX10_208 : Cond.methodLink RX10 208 yX10_isHeir ∈ mm_ok := mm_in 1149 (by decide +kernel) rfl
theorem mX10_225 : Cond.methodLink RX10 225 yX10_draw ∈ mm_ok := mm_in 1158 (by decide +kernel) rfl
theorem mX10_241 : Cond.methodLink RX10 241 yX10_bits ∈ mm_ok := mm_in 1194 (by decide +kernel) rfl
theorem mX10_248 : Cond.methodLink RX10 248 yX10_abs ∈ mm_ok := mm_in 1221 (by decide +kernel) rfl
theorem mX10_251 : Cond.methodLink RX10 251 yX10_maySing ∈ mm_ok := mm_in 1217 (by decide +kernel) rfl
theorem mX10_264 : Cond.methodLink RX10 264 yX10_isSet ∈ mm_ok := mm_in 1234 (by decide +kernel) rfl
theorem mX10_271 : Cond.methodLink RX10 271 yX10_voices ∈ mm_ok := mm_in 1248 (by decide +kernel) rfl
theorem mX10_274 : Cond.methodLink RX10 274 yX10_isUse ∈ mm_ok := mm_in 1260 (by decide +kernel) rfl
theorem mX10_51 : Cond.methodLink RX10 51 yX10_blank ∈ mm_ok := mm_in 901 (by decide +kernel) rfl
theorem mX10_55 : Cond.methodLink RX10 55 yX10_begins ∈ mm_ok := mm_in 909 (by decide +kernel) rfl
theorem mX10_62 : Cond.methodLink RX10 62 yX10_in ∈ mm_ok := mm_in 906 (by decide +kernel) rfl
theorem mX10_66 : Cond.methodLink RX10 66 yX10_copies ∈ mm_ok := mm_in 913 (by decide +kernel) rfl
theorem mX10_92 : Cond.methodLink RX10 92 yX10_here ∈ mm_ok := mm_in 1008 (by decide +kernel) rfl
theorem n_0 : mm_b (0) (0) (0 : Int32) := by decide
theorem n_1 : mm_b (1) (1) (1 : Int32) := by decide
theorem n_10 : mm_b (10) (10) (10 : Int32) := by decide
theorem n_100 : mm_b (100) (100) (100 : Int32) := by decide
theorem n_127 : mm_b (127) (127) (127 : Int32) := by decide
theorem n_14 : mm_b (14) (14) (14 : Int32) := by decide
theorem n_15 : mm_b (15) (15) (15 : Int32) := by decide
theorem n_2 : mm_b (2) (2) (2 : Int32) := by decide
theorem n_20 : mm_b (20) (20) (20 : Int32) := by decide
theorem n_21 : mm_b (21) (21) (21 : Int32) := by decide
theorem n_24 : mm_b (24) (24) (24 : Int32) := by decide
theorem n_240 : mm_b (240) (240) (240 : Int32) := by decide
theorem n_25 : mm_b (25) (25) (25 : Int32) := by decide
theorem n_28 : mm_b (28) (28) (28 : Int32) := by decide
theorem n_29 : mm_b (29) (29) (29 : Int32) := by decide
theorem n_3 : mm_b (3) (3) (3 : Int32) := by decide
theorem n_30 : mm_b (30) (30) (30 : Int32) := by decide
theorem n_31 : mm_b (31) (31) (31 : Int32) := by decide
theorem n_37 : mm_b (37) (37) (37 : Int32) := by decide
theorem n_4 : mm_b (4) (4) (4 : Int32) := by decide
theorem n_44 : mm_b (44) (44) (44 : Int32) := by decide
theorem n_48 : mm_b (48) (48) (48 : Int32) := by decide
theorem n_570 : mm_b (570) (570) (570 : Int32) := by decide
theorem n_59 : mm_b (59) (59) (59 : Int32) := by decide
theorem n_6 : mm_b (6) (6) (6 : Int32) := by decide
theorem n_7 : mm_b (7) (7) (7 : Int32) := by decide
theorem n_8 : mm_b (8) (8) (8 : Int32) := by decide
theorem n_9 : mm_b (9) (9) (9 : Int32) := by decide
theorem n_m1 : mm_b (-1) (-1) (-1 : Int32) := by decide
theorem n_m10 : mm_b (-10) (-10) (-10 : Int32) := by decide
theorem n_m1000000 : mm_b (-1000000) (-1000000) (-1000000 : Int32) := by decide
theorem n_m1000000001 : mm_b (-1000000001) (-1000000001) (-1000000001 : Int32) := by decide
theorem n_m1000000002 : mm_b (-1000000002) (-1000000002) (-1000000002 : Int32) := by decide
theorem n_m1000000003 : mm_b (-1000000003) (-1000000003) (-1000000003 : Int32) := by decide
theorem n_m1000000004 : mm_b (-1000000004) (-1000000004) (-1000000004 : Int32) := by decide
theorem t_X10_abs : mm_ms yX10_abs cX10_abs 1 (some .int) 1 := ⟨mm_in 1223 (by decide +kernel) rfl, mm_in 1222 (by decide +kernel) rfl, mm_in 83 (by decide +kernel) rfl, by decide, by decide, by decide +kernel⟩
theorem t_X10_allVoices : mm_mi yX10_allVoices cX10_allVoices 3 (some .int) 0 := ⟨mm_in 1076 (by decide +kernel) rfl, mm_in 1075 (by decide +kernel) rfl, mm_in 49 (by decide +kernel) rfl, mm_in 83 (by decide +kernel) rfl, by decide, by decide, by decide +kernel⟩
theorem t_X10_begins : mm_mi yX10_begins cX10_begins 2 none 0 := ⟨mm_in 912 (by decide +kernel) rfl, mm_in 911 (by decide +kernel) rfl, mm_in 34 (by decide +kernel) rfl, mm_in 83 (by decide +kernel) rfl, by decide, by decide, by decide +kernel⟩
theorem t_X10_bits : mm_ms yX10_bits cX10_bits 3 (some .int) 1 := ⟨mm_in 1196 (by decide +kernel) rfl, mm_in 1195 (by decide +kernel) rfl, mm_in 83 (by decide +kernel) rfl, by decide, by decide, by decide +kernel⟩
theorem t_X10_blank : mm_ms yX10_blank cX10_blank 2 none 1 := ⟨mm_in 903 (by decide +kernel) rfl, mm_in 902 (by decide +kernel) rfl, mm_in 83 (by decide +kernel) rfl, by decide, by decide, by decide +kernel⟩
theorem t_X10_copies : mm_ms yX10_copies cX10_copies 6 none 5 := ⟨mm_in 915 (by decide +kernel) rfl, mm_in 914 (by decide +kernel) rfl, mm_in 83 (by decide +kernel) rfl, by decide, by decide, by decide +kernel⟩
theorem t_X10_dies : mm_mi yX10_dies cX10_dies 8 (some .int) 2 := ⟨mm_in 1110 (by decide +kernel) rfl, mm_in 1109 (by decide +kernel) rfl, mm_in 53 (by decide +kernel) rfl, mm_in 83 (by decide +kernel) rfl, by decide, by decide, by decide +kernel⟩
theorem t_X10_draw : mm_mi yX10_draw cX10_draw 2 (some .int) 1 := ⟨mm_in 1161 (by decide +kernel) rfl, mm_in 1160 (by decide +kernel) rfl, mm_in 59 (by decide +kernel) rfl, mm_in 83 (by decide +kernel) rfl, by decide, by decide, by decide +kernel⟩
theorem t_X10_ends : mm_mi yX10_ends cX10_ends 1 (some .boolean) 0 := ⟨mm_in 1033 (by decide +kernel) rfl, mm_in 1032 (by decide +kernel) rfl, mm_in 41 (by decide +kernel) rfl, mm_in 83 (by decide +kernel) rfl, by decide, by decide, by decide +kernel⟩
theorem t_X10_fails : mm_mi yX10_fails cX10_fails 2 (some .boolean) 1 := ⟨mm_in 1025 (by decide +kernel) rfl, mm_in 1024 (by decide +kernel) rfl, mm_in 39 (by decide +kernel) rfl, mm_in 83 (by decide +kernel) rfl, by decide, by decide, by decide +kernel⟩
theorem t_X10_gets : mm_mi yX10_gets cX10_gets 4 none 3 := ⟨mm_in 1121 (by decide +kernel) rfl, mm_in 1120 (by decide +kernel) rfl, mm_in 55 (by decide +kernel) rfl, mm_in 83 (by decide +kernel) rfl, by decide, by decide, by decide +kernel⟩
theorem t_X10_here : mm_mi yX10_here cX10_here 1 (some .int) 0 := ⟨mm_in 1011 (by decide +kernel) rfl, mm_in 1010 (by decide +kernel) rfl, mm_in 36 (by decide +kernel) rfl, mm_in 83 (by decide +kernel) rfl, by decide, by decide, by decide +kernel⟩
theorem t_X10_in : mm_ms yX10_in cX10_in 6 (some .boolean) 3 := ⟨mm_in 908 (by decide +kernel) rfl, mm_in 907 (by decide +kernel) rfl, mm_in 83 (by decide +kernel) rfl, by decide, by decide, by decide +kernel⟩
theorem t_X10_isAlive : mm_mi yX10_isAlive cX10_isAlive 2 (some .boolean) 1 := ⟨mm_in 1068 (by decide +kernel) rfl, mm_in 1067 (by decide +kernel) rfl, mm_in 47 (by decide +kernel) rfl, mm_in 83 (by decide +kernel) rfl, by decide, by decide, by decide +kernel⟩
theorem t_X10_isHeir : mm_mi yX10_isHeir cX10_isHeir 3 (some .boolean) 2 := ⟨mm_in 1152 (by decide +kernel) rfl, mm_in 1151 (by decide +kernel) rfl, mm_in 58 (by decide +kernel) rfl, mm_in 83 (by decide +kernel) rfl, by decide, by decide, by decide +kernel⟩
theorem t_X10_isIn : mm_ms yX10_isIn cX10_isIn 2 (some .boolean) 2 := ⟨mm_in 1044 (by decide +kernel) rfl, mm_in 1043 (by decide +kernel) rfl, mm_in 83 (by decide +kernel) rfl, by decide, by decide, by decide +kernel⟩
theorem t_X10_isPerson : mm_mi yX10_isPerson cX10_isPerson 2 (some .boolean) 1 := ⟨mm_in 1084 (by decide +kernel) rfl, mm_in 1083 (by decide +kernel) rfl, mm_in 50 (by decide +kernel) rfl, mm_in 83 (by decide +kernel) rfl, by decide, by decide, by decide +kernel⟩
theorem t_X10_isSet : mm_mi yX10_isSet cX10_isSet 2 (some .boolean) 1 := ⟨mm_in 1237 (by decide +kernel) rfl, mm_in 1236 (by decide +kernel) rfl, mm_in 68 (by decide +kernel) rfl, mm_in 83 (by decide +kernel) rfl, by decide, by decide, by decide +kernel⟩
theorem t_X10_isTold : mm_mi yX10_isTold cX10_isTold 3 (some .boolean) 1 := ⟨mm_in 1041 (by decide +kernel) rfl, mm_in 1040 (by decide +kernel) rfl, mm_in 43 (by decide +kernel) rfl, mm_in 83 (by decide +kernel) rfl, by decide, by decide, by decide +kernel⟩
theorem t_X10_isUse : mm_ms yX10_isUse cX10_isUse 1 (some .boolean) 1 := ⟨mm_in 1262 (by decide +kernel) rfl, mm_in 1261 (by decide +kernel) rfl, mm_in 83 (by decide +kernel) rfl, by decide, by decide, by decide +kernel⟩
theorem t_X10_isVoice : mm_ms yX10_isVoice cX10_isVoice 1 (some .boolean) 1 := ⟨mm_in 1143 (by decide +kernel) rfl, mm_in 1142 (by decide +kernel) rfl, mm_in 83 (by decide +kernel) rfl, by decide, by decide, by decide +kernel⟩
theorem t_X10_leastMute : mm_mi yX10_leastMute cX10_leastMute 3 (some .int) 1 := ⟨mm_in 1117 (by decide +kernel) rfl, mm_in 1116 (by decide +kernel) rfl, mm_in 54 (by decide +kernel) rfl, mm_in 83 (by decide +kernel) rfl, by decide, by decide, by decide +kernel⟩
theorem t_X10_leastOf : mm_ms yX10_leastOf cX10_leastOf 2 (some .int) 1 := ⟨mm_in 1136 (by decide +kernel) rfl, mm_in 1135 (by decide +kernel) rfl, mm_in 83 (by decide +kernel) rfl, by decide, by decide, by decide +kernel⟩
theorem t_X10_lives : mm_ms yX10_lives cX10_lives 2 (some .boolean) 2 := ⟨mm_in 1113 (by decide +kernel) rfl, mm_in 1112 (by decide +kernel) rfl, mm_in 83 (by decide +kernel) rfl, by decide, by decide, by decide +kernel⟩
theorem t_X10_lost : mm_mi yX10_lost cX10_lost 3 (some .int) 0 := ⟨mm_in 1072 (by decide +kernel) rfl, mm_in 1071 (by decide +kernel) rfl, mm_in 48 (by decide +kernel) rfl, mm_in 83 (by decide +kernel) rfl, by decide, by decide, by decide +kernel⟩
theorem t_X10_maySell : mm_mi yX10_maySell cX10_maySell 3 (some .boolean) 2 := ⟨mm_in 1129 (by decide +kernel) rfl, mm_in 1128 (by decide +kernel) rfl, mm_in 56 (by decide +kernel) rfl, mm_in 83 (by decide +kernel) rfl, by decide, by decide, by decide +kernel⟩
theorem t_X10_maySing : mm_mi yX10_maySing cX10_maySing 4 (some .boolean) 2 := ⟨mm_in 1220 (by decide +kernel) rfl, mm_in 1219 (by decide +kernel) rfl, mm_in 67 (by decide +kernel) rfl, mm_in 83 (by decide +kernel) rfl, by decide, by decide, by decide +kernel⟩
theorem t_X10_number : mm_mi yX10_number cX10_number 4 (some .boolean) 3 := ⟨mm_in 1029 (by decide +kernel) rfl, mm_in 1028 (by decide +kernel) rfl, mm_in 40 (by decide +kernel) rfl, mm_in 83 (by decide +kernel) rfl, by decide, by decide, by decide +kernel⟩
theorem t_X10_openTo : mm_mi yX10_openTo cX10_openTo 4 (some .int) 1 := ⟨mm_in 1089 (by decide +kernel) rfl, mm_in 1088 (by decide +kernel) rfl, mm_in 51 (by decide +kernel) rfl, mm_in 83 (by decide +kernel) rfl, by decide, by decide, by decide +kernel⟩
theorem t_X10_readsClause : mm_mi yX10_readsClause cX10_readsClause 1 (some .boolean) 0 := ⟨mm_in 1017 (by decide +kernel) rfl, mm_in 1016 (by decide +kernel) rfl, mm_in 37 (by decide +kernel) rfl, mm_in 83 (by decide +kernel) rfl, by decide, by decide, by decide +kernel⟩
theorem t_X10_readsDoor : mm_mi yX10_readsDoor cX10_readsDoor 2 (some .boolean) 0 := ⟨mm_in 1048 (by decide +kernel) rfl, mm_in 1047 (by decide +kernel) rfl, mm_in 44 (by decide +kernel) rfl, mm_in 83 (by decide +kernel) rfl, by decide, by decide, by decide +kernel⟩
theorem t_X10_readsParts : mm_mi yX10_readsParts cX10_readsParts 1 (some .boolean) 0 := ⟨mm_in 1052 (by decide +kernel) rfl, mm_in 1051 (by decide +kernel) rfl, mm_in 45 (by decide +kernel) rfl, mm_in 83 (by decide +kernel) rfl, by decide, by decide, by decide +kernel⟩
theorem t_X10_readsPerson : mm_mi yX10_readsPerson cX10_readsPerson 2 (some .boolean) 0 := ⟨mm_in 1021 (by decide +kernel) rfl, mm_in 1020 (by decide +kernel) rfl, mm_in 38 (by decide +kernel) rfl, mm_in 83 (by decide +kernel) rfl, by decide, by decide, by decide +kernel⟩
theorem t_X10_readsWill : mm_mi yX10_readsWill cX10_readsWill 3 (some .boolean) 0 := ⟨mm_in 1037 (by decide +kernel) rfl, mm_in 1036 (by decide +kernel) rfl, mm_in 42 (by decide +kernel) rfl, mm_in 83 (by decide +kernel) rfl, by decide, by decide, by decide +kernel⟩
theorem t_X10_remember : mm_mi yX10_remember cX10_remember 2 none 0 := ⟨mm_in 1106 (by decide +kernel) rfl, mm_in 1105 (by decide +kernel) rfl, mm_in 52 (by decide +kernel) rfl, mm_in 83 (by decide +kernel) rfl, by decide, by decide, by decide +kernel⟩
theorem t_X10_sells : mm_mi yX10_sells cX10_sells 4 none 2 := ⟨mm_in 1133 (by decide +kernel) rfl, mm_in 1132 (by decide +kernel) rfl, mm_in 57 (by decide +kernel) rfl, mm_in 83 (by decide +kernel) rfl, by decide, by decide, by decide +kernel⟩
theorem t_X10_step : mm_mi yX10_step cX10_step 1 none 0 := ⟨mm_in 1007 (by decide +kernel) rfl, mm_in 1006 (by decide +kernel) rfl, mm_in 35 (by decide +kernel) rfl, mm_in 83 (by decide +kernel) rfl, by decide, by decide, by decide +kernel⟩
theorem t_X10_usesNone : mm_mi yX10_usesNone cX10_usesNone 3 (some .int) 0 := ⟨mm_in 1064 (by decide +kernel) rfl, mm_in 1063 (by decide +kernel) rfl, mm_in 46 (by decide +kernel) rfl, mm_in 83 (by decide +kernel) rfl, by decide, by decide, by decide +kernel⟩
theorem t_X10_voices : mm_mi yX10_voices cX10_voices 4 (some .int) 0 := ⟨mm_in 1251 (by decide +kernel) rfl, mm_in 1250 (by decide +kernel) rfl, mm_in 69 (by decide +kernel) rfl, mm_in 83 (by decide +kernel) rfl, by decide, by decide, by decide +kernel⟩
