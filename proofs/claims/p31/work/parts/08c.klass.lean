set_option maxRecDepth 100000 in
set_option maxHeartbeats 4000000 in
theorem c_JbitCount {g : mm_G} (S : mm_S) (hI : JC S) (x0 : Int32) : mc g yJ6_bitCount_0f7a4 cJ6_bitCount_0f7a4 1 (some .int) (mm_rm 0) [.int x0] (mm_enc shC S) (qi shC (fun S1 v => S = S1 ∧ mm_b (0) (63) v ∧ (True))) := by
  refine mc_of2 (own := RJ6) (ini := false) (ls := [(0, .int x0)]) (by decide) (Nat.le_of_ble_eq_true rfl) rfl (by decide) rfl ?_
  refine mw_iload_n dJ6_bitCount_0f7a4_0 rfl 0 rfl ?_
  refine mw_iload_n dJ6_bitCount_0f7a4_1 rfl 0 rfl ?_
  refine mw_iconst dJ6_bitCount_0f7a4_2 ki_1 ?_
  refine mw_iushr dJ6_bitCount_0f7a4_3 (fun v101 ev101 => ?_)
  refine mw_ldcw dJ6_bitCount_0f7a4_4 kJ6_265 ?_
  refine mw_iand dJ6_bitCount_0f7a4_7 (fun v102 ev102 => ?_)
  have b103 : mm_b (0) (1431655765) v102 := bd_andR ev102 n_1431655765 (by decide)
  refine mw_isub dJ6_bitCount_0f7a4_8 (fun v104 ev104 => ?_)
  refine mw_istore_n (ls' := [(0, .int v104)]) dJ6_bitCount_0f7a4_9 rfl (by decide) rfl ?_
  refine mw_iload_n dJ6_bitCount_0f7a4_10 rfl 0 rfl ?_
  refine mw_ldcw dJ6_bitCount_0f7a4_11 kJ6_266 ?_
  refine mw_iand dJ6_bitCount_0f7a4_14 (fun v105 ev105 => ?_)
  have b106 : mm_b (0) (858993459) v105 := bd_andR ev105 n_858993459 (by decide)
  refine mw_iload_n dJ6_bitCount_0f7a4_15 rfl 0 rfl ?_
  refine mw_iconst dJ6_bitCount_0f7a4_16 ki_2 ?_
  refine mw_iushr dJ6_bitCount_0f7a4_17 (fun v107 ev107 => ?_)
  refine mw_ldcw dJ6_bitCount_0f7a4_18 kJ6_266 ?_
  refine mw_iand dJ6_bitCount_0f7a4_21 (fun v108 ev108 => ?_)
  have b109 : mm_b (0) (858993459) v108 := bd_andR ev108 n_858993459 (by decide)
  refine mw_iadd dJ6_bitCount_0f7a4_22 (fun v110 ev110 => ?_)
  have b111 : mm_b (0) (1717986918) v110 := bd_add ev110 b106 b109 (by decide)
  refine mw_istore_n (ls' := [(0, .int v110)]) dJ6_bitCount_0f7a4_23 rfl (by decide) rfl ?_
  refine mw_iload_n dJ6_bitCount_0f7a4_24 rfl 0 rfl ?_
  refine mw_iload_n dJ6_bitCount_0f7a4_25 rfl 0 rfl ?_
  refine mw_iconst dJ6_bitCount_0f7a4_26 ki_4 ?_
  refine mw_iushr dJ6_bitCount_0f7a4_27 (fun v112 ev112 => ?_)
  refine mw_iadd dJ6_bitCount_0f7a4_28 (fun v113 ev113 => ?_)
  refine mw_ldcw dJ6_bitCount_0f7a4_29 kJ6_267 ?_
  refine mw_iand dJ6_bitCount_0f7a4_32 (fun v114 ev114 => ?_)
  have b115 : mm_b (0) (252645135) v114 := bd_andR ev114 n_252645135 (by decide)
  refine mw_istore_n (ls' := [(0, .int v114)]) dJ6_bitCount_0f7a4_33 rfl (by decide) rfl ?_
  refine mw_iload_n dJ6_bitCount_0f7a4_34 rfl 0 rfl ?_
  refine mw_iload_n dJ6_bitCount_0f7a4_35 rfl 0 rfl ?_
  refine mw_bipush dJ6_bitCount_0f7a4_36 kb_8 ?_
  refine mw_iushr dJ6_bitCount_0f7a4_38 (fun v116 ev116 => ?_)
  refine mw_iadd dJ6_bitCount_0f7a4_39 (fun v117 ev117 => ?_)
  refine mw_istore_n (ls' := [(0, .int v117)]) dJ6_bitCount_0f7a4_40 rfl (by decide) rfl ?_
  refine mw_iload_n dJ6_bitCount_0f7a4_41 rfl 0 rfl ?_
  refine mw_iload_n dJ6_bitCount_0f7a4_42 rfl 0 rfl ?_
  refine mw_bipush dJ6_bitCount_0f7a4_43 kb_16 ?_
  refine mw_iushr dJ6_bitCount_0f7a4_45 (fun v118 ev118 => ?_)
  refine mw_iadd dJ6_bitCount_0f7a4_46 (fun v119 ev119 => ?_)
  refine mw_istore_n (ls' := [(0, .int v119)]) dJ6_bitCount_0f7a4_47 rfl (by decide) rfl ?_
  refine mw_iload_n dJ6_bitCount_0f7a4_48 rfl 0 rfl ?_
  refine mw_bipush dJ6_bitCount_0f7a4_49 kb_63 ?_
  refine mw_iand dJ6_bitCount_0f7a4_51 (fun v120 ev120 => ?_)
  have b121 : mm_b (0) (63) v120 := bd_andR ev120 n_63 (by decide)
  exact mw_iret rfl dJ6_bitCount_0f7a4_52 rfl rfl ⟨S, _, rfl, rfl, rfl, b121, trivial⟩
set_option maxRecDepth 100000 in
set_option maxHeartbeats 4000000 in
theorem c_Jntz {g : mm_G} (S : mm_S) (hI : JC S) (x0 : Int32) : mc g yJ6_numberOfTrailingZeros_0f7a4 cJ6_numberOfTrailingZeros_0f7a4 2 (some .int) (mm_rm 0) [.int x0] (mm_enc shC S) (qi shC (fun S1 v => S = S1 ∧ mm_b (-2147483648) (2147483647) v ∧ (True))) := by
  refine mc_of2 (own := RJ6) (ini := false) (ls := [(0, .int x0)]) (by decide) (Nat.le_of_ble_eq_true rfl) rfl (by decide) rfl ?_
  refine mw_iload_n dJ6_numberOfTrailingZeros_0f7a4_0 rfl 0 rfl ?_
  refine mw_iconst dJ6_numberOfTrailingZeros_0f7a4_1 ki_m1 ?_
  refine mw_ixor dJ6_numberOfTrailingZeros_0f7a4_2 (fun v101 ev101 => ?_)
  refine mw_iload_n dJ6_numberOfTrailingZeros_0f7a4_3 rfl 0 rfl ?_
  refine mw_iconst dJ6_numberOfTrailingZeros_0f7a4_4 ki_1 ?_
  refine mw_isub dJ6_numberOfTrailingZeros_0f7a4_5 (fun v102 ev102 => ?_)
  refine mw_iand dJ6_numberOfTrailingZeros_0f7a4_6 (fun v103 ev103 => ?_)
  refine mw_istore_n (ls' := [(0, .int v103)]) dJ6_numberOfTrailingZeros_0f7a4_7 rfl (by decide) rfl ?_
  refine mw_iload_n dJ6_numberOfTrailingZeros_0f7a4_8 rfl 0 rfl ?_
  refine mw_if_gt (tgt := 17) dJ6_numberOfTrailingZeros_0f7a4_9 (by decide) (fun q104 => ?_) (fun q104 => ?_)
  · skip
    have b105 : mm_b (1) (2147483647) v103 := bd_lt_r q104 n_0 (bd_all v103) (by decide)
    refine mw_iconst dJ6_numberOfTrailingZeros_0f7a4_17 ki_1 ?_
    refine mw_istore_n (ls' := [(1, .int 1), (0, .int v103)]) dJ6_numberOfTrailingZeros_0f7a4_18 rfl (by decide) rfl ?_
    refine mw_iload_n dJ6_numberOfTrailingZeros_0f7a4_19 rfl 1 rfl ?_
    refine mw_ldcw dJ6_numberOfTrailingZeros_0f7a4_20 kJ6_264 ?_
    have cut34 : ∀ (y106 y108 : Int32), mm_b (-2147483648) (2147483647) y106 → mm_b (1) (17) y108 → mw g RJ6 cJ6_numberOfTrailingZeros_0f7a4 2 (some .int) false (mm_rm 0) (qi shC (fun S1 v => S = S1 ∧ mm_b (-2147483648) (2147483647) v ∧ (True))) 0 0 (mm_enc shC S) 34 [(0, .int y106), (1, .int y108)] [] := by
      intro y106 y108 b107 b109
      refine mw_iload_n dJ6_numberOfTrailingZeros_0f7a4_34 rfl 0 rfl ?_
      refine mw_sipush dJ6_numberOfTrailingZeros_0f7a4_35 ks_256 ?_
      have cut49 : ∀ (y110 y112 : Int32), mm_b (-2147483648) (2147483647) y110 → mm_b (1) (25) y112 → mw g RJ6 cJ6_numberOfTrailingZeros_0f7a4 2 (some .int) false (mm_rm 0) (qi shC (fun S1 v => S = S1 ∧ mm_b (-2147483648) (2147483647) v ∧ (True))) 0 0 (mm_enc shC S) 49 [(0, .int y110), (1, .int y112)] [] := by
        intro y110 y112 b111 b113
        refine mw_iload_n dJ6_numberOfTrailingZeros_0f7a4_49 rfl 0 rfl ?_
        refine mw_bipush dJ6_numberOfTrailingZeros_0f7a4_50 kb_16 ?_
        have cut62 : ∀ (y114 y116 : Int32), mm_b (-2147483648) (2147483647) y114 → mm_b (1) (29) y116 → mw g RJ6 cJ6_numberOfTrailingZeros_0f7a4 2 (some .int) false (mm_rm 0) (qi shC (fun S1 v => S = S1 ∧ mm_b (-2147483648) (2147483647) v ∧ (True))) 0 0 (mm_enc shC S) 62 [(0, .int y114), (1, .int y116)] [] := by
          intro y114 y116 b115 b117
          refine mw_iload_n dJ6_numberOfTrailingZeros_0f7a4_62 rfl 0 rfl ?_
          refine mw_iconst dJ6_numberOfTrailingZeros_0f7a4_63 ki_4 ?_
          refine mw_icmp_le (tgt := 74) dJ6_numberOfTrailingZeros_0f7a4_64 (by decide) (fun q118 => ?_) (fun q118 => ?_)
          · skip
            have b119 : mm_b (-2147483648) (4) y114 := bd_le_l q118 b115 n_4 (by decide)
            refine mw_iload_n dJ6_numberOfTrailingZeros_0f7a4_74 rfl 1 rfl ?_
            refine mw_iload_n dJ6_numberOfTrailingZeros_0f7a4_75 rfl 0 rfl ?_
            refine mw_iconst dJ6_numberOfTrailingZeros_0f7a4_76 ki_1 ?_
            refine mw_iushr dJ6_numberOfTrailingZeros_0f7a4_77 (fun v120 ev120 => ?_)
            refine mw_iadd dJ6_numberOfTrailingZeros_0f7a4_78 (fun v121 ev121 => ?_)
            exact mw_iret rfl dJ6_numberOfTrailingZeros_0f7a4_79 rfl rfl ⟨S, _, rfl, rfl, rfl, (bd_all v121), trivial⟩
          · skip
            have b122 : mm_b (5) (2147483647) y114 := bd_lt_r (bd_nle q118) n_4 b115 (by decide)
            refine mw_iinc (ls' := fun v => [(1, .int v), (0, .int y114)]) dJ6_numberOfTrailingZeros_0f7a4_67 1 rfl (by decide) (fun _ => rfl) (fun v123 ev123 => ?_)
            have b124 : mm_b (3) (31) v123 := bd_inc ev123 b117 (by decide)
            refine mw_iload_n dJ6_numberOfTrailingZeros_0f7a4_70 rfl 1 rfl ?_
            refine mw_iconst dJ6_numberOfTrailingZeros_0f7a4_71 ki_2 ?_
            refine mw_iushr dJ6_numberOfTrailingZeros_0f7a4_72 (fun v125 ev125 => ?_)
            refine mw_istore_n (ls' := [(0, .int v125), (1, .int v123)]) dJ6_numberOfTrailingZeros_0f7a4_73 rfl (by decide) rfl ?_
            refine mw_iload_n dJ6_numberOfTrailingZeros_0f7a4_74 rfl 1 rfl ?_
            refine mw_iload_n dJ6_numberOfTrailingZeros_0f7a4_75 rfl 0 rfl ?_
            refine mw_iconst dJ6_numberOfTrailingZeros_0f7a4_76 ki_1 ?_
            refine mw_iushr dJ6_numberOfTrailingZeros_0f7a4_77 (fun v126 ev126 => ?_)
            refine mw_iadd dJ6_numberOfTrailingZeros_0f7a4_78 (fun v127 ev127 => ?_)
            exact mw_iret rfl dJ6_numberOfTrailingZeros_0f7a4_79 rfl rfl ⟨S, _, rfl, rfl, rfl, (bd_all v127), trivial⟩
        refine mw_icmp_le (tgt := 62) dJ6_numberOfTrailingZeros_0f7a4_52 (by decide) (fun q128 => ?_) (fun q128 => ?_)
        · skip
          have b129 : mm_b (-2147483648) (16) y110 := bd_le_l q128 b111 n_16 (by decide)
          exact cut62 y110 y112 (bd_w b129 (by decide)) (bd_w b113 (by decide))
        · skip
          have b130 : mm_b (17) (2147483647) y110 := bd_lt_r (bd_nle q128) n_16 b111 (by decide)
          refine mw_iinc (ls' := fun v => [(1, .int v), (0, .int y110)]) dJ6_numberOfTrailingZeros_0f7a4_55 1 rfl (by decide) (fun _ => rfl) (fun v131 ev131 => ?_)
          have b132 : mm_b (5) (29) v131 := bd_inc ev131 b113 (by decide)
          refine mw_iload_n dJ6_numberOfTrailingZeros_0f7a4_58 rfl 1 rfl ?_
          refine mw_iconst dJ6_numberOfTrailingZeros_0f7a4_59 ki_4 ?_
          refine mw_iushr dJ6_numberOfTrailingZeros_0f7a4_60 (fun v133 ev133 => ?_)
          refine mw_istore_n (ls' := [(0, .int v133), (1, .int v131)]) dJ6_numberOfTrailingZeros_0f7a4_61 rfl (by decide) rfl ?_
          exact cut62 v133 v131 (bd_all v133) (bd_w b132 (by decide))
      refine mw_icmp_le (tgt := 49) dJ6_numberOfTrailingZeros_0f7a4_38 (by decide) (fun q134 => ?_) (fun q134 => ?_)
      · skip
        have b135 : mm_b (-2147483648) (256) y106 := bd_le_l q134 b107 n_256 (by decide)
        exact cut49 y106 y108 (bd_w b135 (by decide)) (bd_w b109 (by decide))
      · skip
        have b136 : mm_b (257) (2147483647) y106 := bd_lt_r (bd_nle q134) n_256 b107 (by decide)
        refine mw_iinc (ls' := fun v => [(1, .int v), (0, .int y106)]) dJ6_numberOfTrailingZeros_0f7a4_41 1 rfl (by decide) (fun _ => rfl) (fun v137 ev137 => ?_)
        have b138 : mm_b (9) (25) v137 := bd_inc ev137 b109 (by decide)
        refine mw_iload_n dJ6_numberOfTrailingZeros_0f7a4_44 rfl 1 rfl ?_
        refine mw_bipush dJ6_numberOfTrailingZeros_0f7a4_45 kb_8 ?_
        refine mw_iushr dJ6_numberOfTrailingZeros_0f7a4_47 (fun v139 ev139 => ?_)
        refine mw_istore_n (ls' := [(0, .int v139), (1, .int v137)]) dJ6_numberOfTrailingZeros_0f7a4_48 rfl (by decide) rfl ?_
        exact cut49 v139 v137 (bd_all v139) (bd_w b138 (by decide))
    refine mw_icmp_le (tgt := 34) dJ6_numberOfTrailingZeros_0f7a4_23 (by decide) (fun q140 => ?_) (fun q140 => ?_)
    · skip
      have b141 : mm_b (1) (65536) v103 := bd_le_l q140 b105 n_65536 (by decide)
      refine mw_ls [1, 0] rfl ?_
      exact cut34 v103 (1 : Int32) (bd_w b141 (by decide)) (bd_w n_1 (by decide))
    · skip
      have b142 : mm_b (65537) (2147483647) v103 := bd_lt_r (bd_nle q140) n_65536 b105 (by decide)
      refine mw_iinc (ls' := fun v => [(1, .int v), (0, .int v103)]) dJ6_numberOfTrailingZeros_0f7a4_26 0 rfl (by decide) (fun _ => rfl) (fun v143 ev143 => ?_)
      have b144 : mm_b (17) (17) v143 := bd_inc ev143 n_1 (by decide)
      refine mw_iload_n dJ6_numberOfTrailingZeros_0f7a4_29 rfl 1 rfl ?_
      refine mw_bipush dJ6_numberOfTrailingZeros_0f7a4_30 kb_16 ?_
      refine mw_iushr dJ6_numberOfTrailingZeros_0f7a4_32 (fun v145 ev145 => ?_)
      refine mw_istore_n (ls' := [(0, .int v145), (1, .int v143)]) dJ6_numberOfTrailingZeros_0f7a4_33 rfl (by decide) rfl ?_
      exact cut34 v145 v143 (bd_all v145) (bd_w b144 (by decide))
  · skip
    have b146 : mm_b (-2147483648) (0) v103 := bd_le_l (bd_nlt q104) (bd_all v103) n_0 (by decide)
    refine mw_iload_n dJ6_numberOfTrailingZeros_0f7a4_12 rfl 0 rfl ?_
    refine mw_bipush dJ6_numberOfTrailingZeros_0f7a4_13 kb_32 ?_
    refine mw_iand dJ6_numberOfTrailingZeros_0f7a4_15 (fun v147 ev147 => ?_)
    have b148 : mm_b (0) (32) v147 := bd_andR ev147 n_32 (by decide)
    exact mw_iret rfl dJ6_numberOfTrailingZeros_0f7a4_16 rfl rfl ⟨S, _, rfl, rfl, rfl, bd_w b148 (by decide), trivial⟩
set_option maxRecDepth 100000 in
set_option maxHeartbeats 4000000 in
theorem c_X9_isIn {g : mm_G} (S : mm_S) (hI : JC S) (x0 : Int32) (x1 : Int32) : mc g yX9_isIn cX9_isIn 2 (some .boolean) (mm_rm 0) [.int x0, .int x1] (mm_enc shC S) (qi shC (fun S1 v => S = S1 ∧ mm_b (0) (1) v ∧ (v = 0 ∨ (mm_b (0) (6) x1)))) := by
  refine mc_of2 (own := RX9) (ini := false) (ls := [(0, .int x0), (1, .int x1)]) (by decide) (Nat.le_of_ble_eq_true rfl) rfl (by decide) rfl ?_
  refine mw_iload_n dX9_isIn_0 rfl 1 rfl ?_
  refine mw_if_lt (tgt := 22) dX9_isIn_1 (by decide) (fun q101 => ?_) (fun q101 => ?_)
  · skip
    have b102 : mm_b (-2147483648) (-1) x1 := bd_lt_l q101 (bd_all x1) n_0 (by decide)
    refine mw_iconst dX9_isIn_22 ki_0 ?_
    exact mw_zret rfl (bd_nar n_0 (by decide)) dX9_isIn_23 rfl rfl ⟨S, _, rfl, rfl, rfl, bd_w n_0 (by decide), Or.inl rfl⟩
  · skip
    have b103 : mm_b (0) (2147483647) x1 := bd_le_r (bd_nlt q101) n_0 (bd_all x1) (by decide)
    refine mw_iload_n dX9_isIn_4 rfl 1 rfl ?_
    refine mw_bipush dX9_isIn_5 kb_7 ?_
    refine mw_icmp_ge (tgt := 22) dX9_isIn_7 (by decide) (fun q104 => ?_) (fun q104 => ?_)
    · skip
      have b105 : mm_b (7) (2147483647) x1 := bd_le_r q104 n_7 b103 (by decide)
      refine mw_iconst dX9_isIn_22 ki_0 ?_
      exact mw_zret rfl (bd_nar n_0 (by decide)) dX9_isIn_23 rfl rfl ⟨S, _, rfl, rfl, rfl, bd_w n_0 (by decide), Or.inl rfl⟩
    · skip
      have b106 : mm_b (0) (6) x1 := bd_lt_l (bd_nle q104) b103 n_7 (by decide)
      refine mw_iload_n dX9_isIn_10 rfl 0 rfl ?_
      refine mw_iload_n dX9_isIn_11 rfl 1 rfl ?_
      refine mw_ishr dX9_isIn_12 (fun v107 ev107 => ?_)
      refine mw_iconst dX9_isIn_13 ki_1 ?_
      refine mw_iand dX9_isIn_14 (fun v108 ev108 => ?_)
      have b109 : mm_b (0) (1) v108 := bd_andR ev108 n_1 (by decide)
      refine mw_if_eq (tgt := 22) dX9_isIn_15 (by decide) (fun q110 => ?_) (fun q110 => ?_)
      · skip
        have b111 : mm_b (0) (0) v108 := bd_eq_l q110 b109 n_0 (by decide)
        refine mw_iconst dX9_isIn_22 ki_0 ?_
        exact mw_zret rfl (bd_nar n_0 (by decide)) dX9_isIn_23 rfl rfl ⟨S, _, rfl, rfl, rfl, bd_w n_0 (by decide), Or.inl rfl⟩
      · skip
        have b112 : mm_b (1) (1) v108 := bd_ne_l q110 b109 n_0 (by decide)
        refine mw_iconst dX9_isIn_18 ki_1 ?_
        refine mw_goto (tgt := 23) dX9_isIn_19 (by decide) ?_
        exact mw_zret rfl (bd_nar n_1 (by decide)) dX9_isIn_23 rfl rfl ⟨S, _, rfl, rfl, rfl, bd_w n_1 (by decide), Or.inr (bd_w b106 (by decide))⟩
set_option maxRecDepth 100000 in
set_option maxHeartbeats 4000000 in
theorem c_X9_isVoiceNumber {g : mm_G} (S : mm_S) (hI : JC S) (x0 : Int32) : mc g yX9_isVoiceNumber cX9_isVoiceNumber 1 (some .boolean) (mm_rm 0) [.int x0] (mm_enc shC S) (qi shC (fun S1 v => S = S1 ∧ mm_b (0) (1) v ∧ (v = 0 ∨ (mm_b (0) (6) x0)))) := by
  refine mc_of2 (own := RX9) (ini := false) (ls := [(0, .int x0)]) (by decide) (Nat.le_of_ble_eq_true rfl) rfl (by decide) rfl ?_
  refine mw_iload_n dX9_isVoiceNumber_0 rfl 0 rfl ?_
  refine mw_if_lt (tgt := 14) dX9_isVoiceNumber_1 (by decide) (fun q101 => ?_) (fun q101 => ?_)
  · skip
    have b102 : mm_b (-2147483648) (-1) x0 := bd_lt_l q101 (bd_all x0) n_0 (by decide)
    refine mw_iconst dX9_isVoiceNumber_14 ki_0 ?_
    exact mw_zret rfl (bd_nar n_0 (by decide)) dX9_isVoiceNumber_15 rfl rfl ⟨S, _, rfl, rfl, rfl, bd_w n_0 (by decide), Or.inl rfl⟩
  · skip
    have b103 : mm_b (0) (2147483647) x0 := bd_le_r (bd_nlt q101) n_0 (bd_all x0) (by decide)
    refine mw_iload_n dX9_isVoiceNumber_4 rfl 0 rfl ?_
    refine mw_bipush dX9_isVoiceNumber_5 kb_7 ?_
    refine mw_icmp_ge (tgt := 14) dX9_isVoiceNumber_7 (by decide) (fun q104 => ?_) (fun q104 => ?_)
    · skip
      have b105 : mm_b (7) (2147483647) x0 := bd_le_r q104 n_7 b103 (by decide)
      refine mw_iconst dX9_isVoiceNumber_14 ki_0 ?_
      exact mw_zret rfl (bd_nar n_0 (by decide)) dX9_isVoiceNumber_15 rfl rfl ⟨S, _, rfl, rfl, rfl, bd_w n_0 (by decide), Or.inl rfl⟩
    · skip
      have b106 : mm_b (0) (6) x0 := bd_lt_l (bd_nle q104) b103 n_7 (by decide)
      refine mw_iconst dX9_isVoiceNumber_10 ki_1 ?_
      refine mw_goto (tgt := 15) dX9_isVoiceNumber_11 (by decide) ?_
      exact mw_zret rfl (bd_nar n_1 (by decide)) dX9_isVoiceNumber_15 rfl rfl ⟨S, _, rfl, rfl, rfl, bd_w n_1 (by decide), Or.inr (bd_w b106 (by decide))⟩
set_option maxRecDepth 100000 in
set_option maxHeartbeats 4000000 in
theorem c_X9_ordersOf {g : mm_G} (S : mm_S) (hI : JC S) (x0 : Int32) : mc g yX9_ordersOf cX9_ordersOf 2 (some .int) (mm_rm 1) [.int x0] (mm_enc shC S) (qi shC (fun S1 v => S = S1 ∧ mm_b (0) (24) v ∧ (True))) := by
  refine mc_of2 (own := RX9) (ini := false) (ls := [(0, .int x0)]) (by decide) (Nat.le_of_ble_eq_true rfl) rfl (by decide) rfl ?_
  refine mw_iload_n dX9_ordersOf_0 rfl 0 rfl ?_
  refine tc_Si (as := [.int x0]) (st := []) dX9_ordersOf_1 rfl mX9_235 t_J6_bitCount_0f7a4 rfl (Nat.le_of_ble_eq_true rfl) (by decide) (by decide) (c_JbitCount (g := g) S hI x0) (fun S101 v103 h102 => ?_)
  obtain ⟨rfl, b104, x105⟩ := h102
  refine mw_istore_n (ls' := [(1, .int v103), (0, .int x0)]) dX9_ordersOf_4 rfl (by decide) rfl ?_
  refine mw_iload_n dX9_ordersOf_5 rfl 0 rfl ?_
  refine mw_gets dX9_ordersOf_6 fX9_346 ?_
  refine mw_alen9 dX9_ordersOf_9 ?_
  refine mw_icmp_ge (tgt := 21) dX9_ordersOf_10 (by decide) (fun q106 => ?_) (fun q106 => ?_)
  · skip
    have b107 : mm_b (5) (63) v103 := bd_le_r q106 n_5 b104 (by decide)
    refine mw_iconst dX9_ordersOf_21 ki_0 ?_
    exact mw_iret rfl dX9_ordersOf_22 rfl rfl ⟨S, _, rfl, rfl, rfl, bd_w n_0 (by decide), trivial⟩
  · skip
    have b108 : mm_b (0) (4) v103 := bd_lt_l (bd_nle q106) b104 n_5 (by decide)
    refine mw_gets dX9_ordersOf_13 fX9_346 ?_
    refine mw_iload_n dX9_ordersOf_16 rfl 0 rfl ?_
    refine mw_iald9 dX9_ordersOf_17 (bd_in b108 (by decide)) (mw_nm (fun v109 ev109 => ?_))
    have b110 : mm_b (1) (24) v109 := bd_ord ev109
    refine mw_goto (tgt := 22) dX9_ordersOf_18 (by decide) ?_
    exact mw_iret rfl dX9_ordersOf_22 rfl rfl ⟨S, _, rfl, rfl, rfl, bd_w b110 (by decide), trivial⟩
set_option maxRecDepth 100000 in
set_option maxHeartbeats 4000000 in
theorem c_X6_hasPerson {g : mm_G} (S : mm_S) (hI : JC S) (a0 : Nat) (ha0 : a0 ∈ LC_parish) (x1 : Int32) : mc g yX6_hasPerson cX6_hasPerson 2 (some .boolean) (mm_rm 0) [.ref a0, .int x1] (mm_enc shC S) (qi shC (fun S1 v => S = S1 ∧ mm_b (0) (1) v ∧ (v = 0 ∨ (mm_b (0) (6) x1)))) := by
  refine mc_of2 (own := RX6) (ini := false) (ls := [(0, .ref a0), (1, .int x1)]) (by decide) (Nat.le_of_ble_eq_true rfl) rfl (by decide) rfl ?_
  refine mw_iload_n dX6_hasPerson_0 rfl 1 rfl ?_
  refine mw_if_lt (tgt := 16) dX6_hasPerson_1 (by decide) (fun q101 => ?_) (fun q101 => ?_)
  · skip
    have b102 : mm_b (-2147483648) (-1) x1 := bd_lt_l q101 (bd_all x1) n_0 (by decide)
    refine mw_iconst dX6_hasPerson_16 ki_0 ?_
    exact mw_zret rfl (bd_nar n_0 (by decide)) dX6_hasPerson_17 rfl rfl ⟨S, _, rfl, rfl, rfl, bd_w n_0 (by decide), Or.inl rfl⟩
  · skip
    have b103 : mm_b (0) (2147483647) x1 := bd_le_r (bd_nlt q101) n_0 (bd_all x1) (by decide)
    refine mw_iload_n dX6_hasPerson_4 rfl 1 rfl ?_
    refine mw_aload_n dX6_hasPerson_5 rfl 0 rfl ?_
    refine tw_geti (j := 0) dX6_hasPerson_6 (shC_parish_0 a0 ha0) rfl rfl (by decide) fX6_27 (fun v104 ev104 => ?_)
    have b105 : mm_b (0) (7) v104 := JIC_fld hI ev104 (tbC_parish_0_0 a0 ha0) (by decide)
    refine mw_icmp_ge (tgt := 16) dX6_hasPerson_9 (by decide) (fun q106 => ?_) (fun q106 => ?_)
    · skip
      refine mw_iconst dX6_hasPerson_16 ki_0 ?_
      exact mw_zret rfl (bd_nar n_0 (by decide)) dX6_hasPerson_17 rfl rfl ⟨S, _, rfl, rfl, rfl, bd_w n_0 (by decide), Or.inl rfl⟩
    · skip
      have b107 : mm_b (0) (6) x1 := bd_lt_l (bd_nle q106) b103 b105 (by decide)
      have b108 : mm_b (1) (7) v104 := bd_lt_r (bd_nle q106) b103 b105 (by decide)
      refine mw_iconst dX6_hasPerson_12 ki_1 ?_
      refine mw_goto (tgt := 17) dX6_hasPerson_13 (by decide) ?_
      exact mw_zret rfl (bd_nar n_1 (by decide)) dX6_hasPerson_17 rfl rfl ⟨S, _, rfl, rfl, rfl, bd_w n_1 (by decide), Or.inr (bd_w b107 (by decide))⟩
set_option maxRecDepth 100000 in
set_option maxHeartbeats 4000000 in
theorem c_X6_hasPersons {g : mm_G} (S : mm_S) (hI : JC S) (a0 : Nat) (ha0 : a0 ∈ LC_parish) (x1 : Int32) : mc g yX6_hasPersons cX6_hasPersons 2 (some .boolean) (mm_rm 0) [.ref a0, .int x1] (mm_enc shC S) (qi shC (fun S1 v => S = S1 ∧ mm_b (0) (1) v ∧ (v = 0 ∨ (mm_b (0) (127) x1)))) := by
  refine mc_of2 (own := RX6) (ini := false) (ls := [(0, .ref a0), (1, .int x1)]) (by decide) (Nat.le_of_ble_eq_true rfl) rfl (by decide) rfl ?_
  refine mw_iload_n dX6_hasPersons_0 rfl 1 rfl ?_
  refine mw_if_lt (tgt := 18) dX6_hasPersons_1 (by decide) (fun q101 => ?_) (fun q101 => ?_)
  · skip
    have b102 : mm_b (-2147483648) (-1) x1 := bd_lt_l q101 (bd_all x1) n_0 (by decide)
    refine mw_iconst dX6_hasPersons_18 ki_0 ?_
    exact mw_zret rfl (bd_nar n_0 (by decide)) dX6_hasPersons_19 rfl rfl ⟨S, _, rfl, rfl, rfl, bd_w n_0 (by decide), Or.inl rfl⟩
  · skip
    have b103 : mm_b (0) (2147483647) x1 := bd_le_r (bd_nlt q101) n_0 (bd_all x1) (by decide)
    refine mw_iload_n dX6_hasPersons_4 rfl 1 rfl ?_
    refine mw_iconst dX6_hasPersons_5 ki_1 ?_
    refine mw_aload_n dX6_hasPersons_6 rfl 0 rfl ?_
    refine tw_geti (j := 0) dX6_hasPersons_7 (shC_parish_0 a0 ha0) rfl rfl (by decide) fX6_27 (fun v104 ev104 => ?_)
    have b105 : mm_b (0) (7) v104 := JIC_fld hI ev104 (tbC_parish_0_0 a0 ha0) (by decide)
    refine mw_ishl dX6_hasPersons_10 (fun v106 ev106 => ?_)
    have b107 : mm_b (1) (128) v106 := bd_shl 7 ev106 b105 (by decide)
    refine mw_icmp_ge (tgt := 18) dX6_hasPersons_11 (by decide) (fun q108 => ?_) (fun q108 => ?_)
    · skip
      have b109 : mm_b (1) (2147483647) x1 := bd_le_r q108 b107 b103 (by decide)
      refine mw_iconst dX6_hasPersons_18 ki_0 ?_
      exact mw_zret rfl (bd_nar n_0 (by decide)) dX6_hasPersons_19 rfl rfl ⟨S, _, rfl, rfl, rfl, bd_w n_0 (by decide), Or.inl rfl⟩
    · skip
      have b110 : mm_b (0) (127) x1 := bd_lt_l (bd_nle q108) b103 b107 (by decide)
      refine mw_iconst dX6_hasPersons_14 ki_1 ?_
      refine mw_goto (tgt := 19) dX6_hasPersons_15 (by decide) ?_
      exact mw_zret rfl (bd_nar n_1 (by decide)) dX6_hasPersons_19 rfl rfl ⟨S, _, rfl, rfl, rfl, bd_w n_1 (by decide), Or.inr (bd_w b110 (by decide))⟩
set_option maxRecDepth 100000 in
set_option maxHeartbeats 4000000 in
theorem c_X6_rangeOf {g : mm_G} (S : mm_S) (hI : JC S) (a0 : Nat) (ha0 : a0 ∈ LC_parish) (x1 : Int32) : mc g yX6_rangeOf cX6_rangeOf 2 (some .int) (mm_rm 1) [.ref a0, .int x1] (mm_enc shC S) (qi shC (fun S1 v => S = S1 ∧ mm_b (-2147483648) (2147483647) v ∧ (True))) := by
  refine mc_of2 (own := RX6) (ini := false) (ls := [(0, .ref a0), (1, .int x1)]) (by decide) (Nat.le_of_ble_eq_true rfl) rfl (by decide) rfl ?_
  refine mw_aload_n dX6_rangeOf_0 rfl 0 rfl ?_
  refine mw_iload_n dX6_rangeOf_1 rfl 1 rfl ?_
  refine tc_Vi (as := [.int x1]) (st := []) dX6_rangeOf_2 rfl (shC_parish_0 a0 ha0) rfl rfl mX6_40 t_X6_hasPerson rfl (Nat.le_of_ble_eq_true rfl) (by decide) (by decide) (c_X6_hasPerson (g := g) S hI a0 ha0 x1) (fun S101 v103 h102 => ?_)
  obtain ⟨rfl, b104, x105⟩ := h102
  refine mw_if_eq (tgt := 17) dX6_rangeOf_5 (by decide) (fun q106 => ?_) (fun q106 => ?_)
  · skip
    have b107 : mm_b (0) (0) v103 := bd_eq_l q106 b104 n_0 (by decide)
    refine mw_bipush dX6_rangeOf_17 kb_9 ?_
    exact mw_iret rfl dX6_rangeOf_19 rfl rfl ⟨S, _, rfl, rfl, rfl, bd_w n_9 (by decide), trivial⟩
  · skip
    have b108 : mm_b (1) (1) v103 := bd_ne_l q106 b104 n_0 (by decide)
    have b109 := Or.resolve_left x105 q106
    refine mw_aload_n dX6_rangeOf_8 rfl 0 rfl ?_
    refine tw_getr (j := 4) dX6_rangeOf_9 (shC_parish_0 a0 ha0) rfl rfl (by decide) fX6_9 ?_
    refine mw_iload_n dX6_rangeOf_12 rfl 1 rfl ?_
    refine tw_iald dX6_rangeOf_13 (shC_parish_1 a0 ha0) (bd_in b109 (by decide)) (fun v110 ev110 => ?_)
    refine mw_goto (tgt := 19) dX6_rangeOf_14 (by decide) ?_
    exact mw_iret rfl dX6_rangeOf_19 rfl rfl ⟨S, _, rfl, rfl, rfl, (bd_all v110), trivial⟩
set_option maxRecDepth 100000 in
set_option maxHeartbeats 4000000 in
theorem c_X6_hasVoice {g : mm_G} (S : mm_S) (hI : JC S) (a0 : Nat) (ha0 : a0 ∈ LC_parish) (x1 : Int32) : mc g yX6_hasVoice cX6_hasVoice 2 (some .boolean) (mm_rm 2) [.ref a0, .int x1] (mm_enc shC S) (qi shC (fun S1 v => S = S1 ∧ mm_b (0) (1) v ∧ (True))) := by
  refine mc_of2 (own := RX6) (ini := false) (ls := [(0, .ref a0), (1, .int x1)]) (by decide) (Nat.le_of_ble_eq_true rfl) rfl (by decide) rfl ?_
  refine mw_aload_n dX6_hasVoice_0 rfl 0 rfl ?_
  refine mw_iload_n dX6_hasVoice_1 rfl 1 rfl ?_
  refine tc_Vi (as := [.int x1]) (st := []) dX6_hasVoice_2 rfl (shC_parish_0 a0 ha0) rfl rfl mX6_44 t_X6_rangeOf rfl (Nat.le_of_ble_eq_true rfl) (by decide) (by decide) (c_X6_rangeOf (g := g) S hI a0 ha0 x1) (fun S101 v103 h102 => ?_)
  obtain ⟨rfl, b104, x105⟩ := h102
  refine mw_bipush dX6_hasVoice_5 kb_9 ?_
  refine mw_icmp_eq (tgt := 14) dX6_hasVoice_7 (by decide) (fun q106 => ?_) (fun q106 => ?_)
  · skip
    have b107 : mm_b (9) (9) v103 := bd_eq_l q106 b104 n_9 (by decide)
    refine mw_iconst dX6_hasVoice_14 ki_0 ?_
    exact mw_zret rfl (bd_nar n_0 (by decide)) dX6_hasVoice_15 rfl rfl ⟨S, _, rfl, rfl, rfl, bd_w n_0 (by decide), trivial⟩
  · skip
    refine mw_iconst dX6_hasVoice_10 ki_1 ?_
    refine mw_goto (tgt := 15) dX6_hasVoice_11 (by decide) ?_
    exact mw_zret rfl (bd_nar n_1 (by decide)) dX6_hasVoice_15 rfl rfl ⟨S, _, rfl, rfl, rfl, bd_w n_1 (by decide), trivial⟩
set_option maxRecDepth 100000 in
set_option maxHeartbeats 4000000 in
theorem c_X6_hasDoor {g : mm_G} (S : mm_S) (hI : JC S) (a0 : Nat) (ha0 : a0 ∈ LC_parish) (x1 : Int32) : mc g yX6_hasDoor cX6_hasDoor 2 (some .boolean) (mm_rm 0) [.ref a0, .int x1] (mm_enc shC S) (qi shC (fun S1 v => S = S1 ∧ mm_b (0) (1) v ∧ (v = 0 ∨ (mm_b (0) (5) x1)))) := by
  refine mc_of2 (own := RX6) (ini := false) (ls := [(0, .ref a0), (1, .int x1)]) (by decide) (Nat.le_of_ble_eq_true rfl) rfl (by decide) rfl ?_
  refine mw_iload_n dX6_hasDoor_0 rfl 1 rfl ?_
  refine mw_if_lt (tgt := 16) dX6_hasDoor_1 (by decide) (fun q101 => ?_) (fun q101 => ?_)
  · skip
    have b102 : mm_b (-2147483648) (-1) x1 := bd_lt_l q101 (bd_all x1) n_0 (by decide)
    refine mw_iconst dX6_hasDoor_16 ki_0 ?_
    exact mw_zret rfl (bd_nar n_0 (by decide)) dX6_hasDoor_17 rfl rfl ⟨S, _, rfl, rfl, rfl, bd_w n_0 (by decide), Or.inl rfl⟩
  · skip
    have b103 : mm_b (0) (2147483647) x1 := bd_le_r (bd_nlt q101) n_0 (bd_all x1) (by decide)
    refine mw_iload_n dX6_hasDoor_4 rfl 1 rfl ?_
    refine mw_aload_n dX6_hasDoor_5 rfl 0 rfl ?_
    refine tw_geti (j := 1) dX6_hasDoor_6 (shC_parish_0 a0 ha0) rfl rfl (by decide) fX6_31 (fun v104 ev104 => ?_)
    have b105 : mm_b (0) (6) v104 := JIC_fld hI ev104 (tbC_parish_0_1 a0 ha0) (by decide)
    refine mw_icmp_ge (tgt := 16) dX6_hasDoor_9 (by decide) (fun q106 => ?_) (fun q106 => ?_)
    · skip
      refine mw_iconst dX6_hasDoor_16 ki_0 ?_
      exact mw_zret rfl (bd_nar n_0 (by decide)) dX6_hasDoor_17 rfl rfl ⟨S, _, rfl, rfl, rfl, bd_w n_0 (by decide), Or.inl rfl⟩
    · skip
      have b107 : mm_b (0) (5) x1 := bd_lt_l (bd_nle q106) b103 b105 (by decide)
      have b108 : mm_b (1) (6) v104 := bd_lt_r (bd_nle q106) b103 b105 (by decide)
      refine mw_iconst dX6_hasDoor_12 ki_1 ?_
      refine mw_goto (tgt := 17) dX6_hasDoor_13 (by decide) ?_
      exact mw_zret rfl (bd_nar n_1 (by decide)) dX6_hasDoor_17 rfl rfl ⟨S, _, rfl, rfl, rfl, bd_w n_1 (by decide), Or.inr (bd_w b107 (by decide))⟩
set_option maxRecDepth 100000 in
set_option maxHeartbeats 4000000 in
theorem c_X6_hasPart {g : mm_G} (S : mm_S) (hI : JC S) (a0 : Nat) (ha0 : a0 ∈ LC_parish) (x1 : Int32) : mc g yX6_hasPart cX6_hasPart 2 (some .boolean) (mm_rm 0) [.ref a0, .int x1] (mm_enc shC S) (qi shC (fun S1 v => S = S1 ∧ mm_b (0) (1) v ∧ (v = 0 ∨ (mm_b (0) (5) x1)))) := by
  refine mc_of2 (own := RX6) (ini := false) (ls := [(0, .ref a0), (1, .int x1)]) (by decide) (Nat.le_of_ble_eq_true rfl) rfl (by decide) rfl ?_
  refine mw_iload_n dX6_hasPart_0 rfl 1 rfl ?_
  refine mw_if_lt (tgt := 16) dX6_hasPart_1 (by decide) (fun q101 => ?_) (fun q101 => ?_)
  · skip
    have b102 : mm_b (-2147483648) (-1) x1 := bd_lt_l q101 (bd_all x1) n_0 (by decide)
    refine mw_iconst dX6_hasPart_16 ki_0 ?_
    exact mw_zret rfl (bd_nar n_0 (by decide)) dX6_hasPart_17 rfl rfl ⟨S, _, rfl, rfl, rfl, bd_w n_0 (by decide), Or.inl rfl⟩
  · skip
    have b103 : mm_b (0) (2147483647) x1 := bd_le_r (bd_nlt q101) n_0 (bd_all x1) (by decide)
    refine mw_iload_n dX6_hasPart_4 rfl 1 rfl ?_
    refine mw_aload_n dX6_hasPart_5 rfl 0 rfl ?_
    refine tw_geti (j := 2) dX6_hasPart_6 (shC_parish_0 a0 ha0) rfl rfl (by decide) fX6_34 (fun v104 ev104 => ?_)
    have b105 : mm_b (0) (6) v104 := JIC_fld hI ev104 (tbC_parish_0_2 a0 ha0) (by decide)
    refine mw_icmp_ge (tgt := 16) dX6_hasPart_9 (by decide) (fun q106 => ?_) (fun q106 => ?_)
    · skip
      refine mw_iconst dX6_hasPart_16 ki_0 ?_
      exact mw_zret rfl (bd_nar n_0 (by decide)) dX6_hasPart_17 rfl rfl ⟨S, _, rfl, rfl, rfl, bd_w n_0 (by decide), Or.inl rfl⟩
    · skip
      have b107 : mm_b (0) (5) x1 := bd_lt_l (bd_nle q106) b103 b105 (by decide)
      have b108 : mm_b (1) (6) v104 := bd_lt_r (bd_nle q106) b103 b105 (by decide)
      refine mw_iconst dX6_hasPart_12 ki_1 ?_
      refine mw_goto (tgt := 17) dX6_hasPart_13 (by decide) ?_
      exact mw_zret rfl (bd_nar n_1 (by decide)) dX6_hasPart_17 rfl rfl ⟨S, _, rfl, rfl, rfl, bd_w n_1 (by decide), Or.inr (bd_w b107 (by decide))⟩
set_option maxRecDepth 100000 in
set_option maxHeartbeats 4000000 in
theorem c_X6_knownBy {g : mm_G} (S : mm_S) (hI : JC S) (a0 : Nat) (ha0 : a0 ∈ LC_parish) (x1 : Int32) : mc g yX6_knownBy cX6_knownBy 2 (some .int) (mm_rm 1) [.ref a0, .int x1] (mm_enc shC S) (qi shC (fun S1 v => S = S1 ∧ mm_b (-2147483648) (2147483647) v ∧ (True))) := by
  refine mc_of2 (own := RX6) (ini := false) (ls := [(0, .ref a0), (1, .int x1)]) (by decide) (Nat.le_of_ble_eq_true rfl) rfl (by decide) rfl ?_
  refine mw_aload_n dX6_knownBy_0 rfl 0 rfl ?_
  refine mw_iload_n dX6_knownBy_1 rfl 1 rfl ?_
  refine tc_Vi (as := [.int x1]) (st := []) dX6_knownBy_2 rfl (shC_parish_0 a0 ha0) rfl rfl mX6_52 t_X6_hasDoor rfl (Nat.le_of_ble_eq_true rfl) (by decide) (by decide) (c_X6_hasDoor (g := g) S hI a0 ha0 x1) (fun S101 v103 h102 => ?_)
  obtain ⟨rfl, b104, x105⟩ := h102
  refine mw_if_eq (tgt := 17) dX6_knownBy_5 (by decide) (fun q106 => ?_) (fun q106 => ?_)
  · skip
    have b107 : mm_b (0) (0) v103 := bd_eq_l q106 b104 n_0 (by decide)
    refine mw_iconst dX6_knownBy_17 ki_0 ?_
    exact mw_iret rfl dX6_knownBy_18 rfl rfl ⟨S, _, rfl, rfl, rfl, bd_w n_0 (by decide), trivial⟩
  · skip
    have b108 : mm_b (1) (1) v103 := bd_ne_l q106 b104 n_0 (by decide)
    have b109 := Or.resolve_left x105 q106
    refine mw_aload_n dX6_knownBy_8 rfl 0 rfl ?_
    refine tw_getr (j := 7) dX6_knownBy_9 (shC_parish_0 a0 ha0) rfl rfl (by decide) fX6_21 ?_
    refine mw_iload_n dX6_knownBy_12 rfl 1 rfl ?_
    refine tw_iald dX6_knownBy_13 (shC_parish_4 a0 ha0) (bd_in b109 (by decide)) (fun v110 ev110 => ?_)
    refine mw_goto (tgt := 18) dX6_knownBy_14 (by decide) ?_
    exact mw_iret rfl dX6_knownBy_18 rfl rfl ⟨S, _, rfl, rfl, rfl, (bd_all v110), trivial⟩
set_option maxRecDepth 100000 in
set_option maxHeartbeats 4000000 in
theorem c_X6_voices {g : mm_G} (S : mm_S) (hI : JC S) (a0 : Nat) (ha0 : a0 ∈ LC_parish) : mc g yX6_voices cX6_voices 3 (some .int) (mm_rm 3) [.ref a0] (mm_enc shC S) (qi shC (fun S1 v => S = S1 ∧ mm_b (0) (127) v ∧ (True))) := by
  refine mc_of2 (own := RX6) (ini := false) (ls := [(0, .ref a0)]) (by decide) (Nat.le_of_ble_eq_true rfl) rfl (by decide) rfl ?_
  refine mw_iconst dX6_voices_0 ki_0 ?_
  refine mw_istore_n (ls' := [(1, .int 0), (0, .ref a0)]) dX6_voices_1 rfl (by decide) rfl ?_
  refine mw_iconst dX6_voices_2 ki_0 ?_
  refine mw_istore_n (ls' := [(2, .int 0), (1, .int 0), (0, .ref a0)]) dX6_voices_3 rfl (by decide) rfl ?_
  have cut4 : ∀ (N4 : Nat) (y101 y103 : Int32), ((8 : Int) - y103.toInt).toNat < N4 → mm_b (0) (127) y101 → mm_b (0) (7) y103 → mw g RX6 cX6_voices 3 (some .int) false (mm_rm 3) (qi shC (fun S1 v => S = S1 ∧ mm_b (0) (127) v ∧ (True))) 0 0 (mm_enc shC S) 4 [(0, .ref a0), (1, .int y101), (2, .int y103)] [] := by
    intro N4
    induction N4 with
    | zero =>
      intro y101 y103 hm105 b102 b104
      exact absurd hm105 (Nat.not_lt_zero _)
    | succ N4 ih4 =>
      intro y101 y103 hm105 b102 b104
      refine mw_iload_n dX6_voices_4 rfl 2 rfl ?_
      refine mw_aload_n dX6_voices_5 rfl 0 rfl ?_
      refine tw_geti (j := 0) dX6_voices_6 (shC_parish_0 a0 ha0) rfl rfl (by decide) fX6_27 (fun v106 ev106 => ?_)
      have b107 : mm_b (0) (7) v106 := JIC_fld hI ev106 (tbC_parish_0_0 a0 ha0) (by decide)
      refine mw_icmp_ge (tgt := 32) dX6_voices_9 (by decide) (fun q108 => ?_) (fun q108 => ?_)
      · skip
        refine mw_iload_n dX6_voices_32 rfl 1 rfl ?_
        exact mw_iret rfl dX6_voices_33 rfl rfl ⟨S, _, rfl, rfl, rfl, b102, trivial⟩
      · skip
        have b109 : mm_b (0) (6) y103 := bd_lt_l (bd_nle q108) b104 b107 (by decide)
        have b110 : mm_b (1) (7) v106 := bd_lt_r (bd_nle q108) b104 b107 (by decide)
        refine mw_aload_n dX6_voices_12 rfl 0 rfl ?_
        refine mw_iload_n dX6_voices_13 rfl 2 rfl ?_
        refine tc_Vi (as := [.int y103]) (st := []) dX6_voices_14 rfl (shC_parish_0 a0 ha0) rfl rfl mX6_55 t_X6_hasVoice rfl (Nat.le_of_ble_eq_true rfl) (by decide) (by decide) (c_X6_hasVoice (g := g) S hI a0 ha0 y103) (fun S111 v113 h112 => ?_)
        obtain ⟨rfl, b114, x115⟩ := h112
        refine mw_if_eq (tgt := 26) dX6_voices_17 (by decide) (fun q116 => ?_) (fun q116 => ?_)
        · skip
          have b117 : mm_b (0) (0) v113 := bd_eq_l q116 b114 n_0 (by decide)
          refine mw_iinc (ls' := fun v => [(2, .int v), (0, .ref a0), (1, .int y101)]) dX6_voices_26 2 rfl (by decide) (fun _ => rfl) (fun v118 ev118 => ?_)
          have b119 : mm_b (1) (7) v118 := bd_inc ev118 b109 (by decide)
          refine mw_goto (tgt := 4) dX6_voices_29 (by decide) ?_
          refine mw_ls [1, 2, 0] rfl ?_
          exact ih4 y101 v118 (ms_inc ev118 b109 (by decide) hm105) b102 (bd_w b119 (by decide))
        · skip
          have b120 : mm_b (1) (1) v113 := bd_ne_l q116 b114 n_0 (by decide)
          refine mw_iload_n dX6_voices_20 rfl 1 rfl ?_
          refine mw_iconst dX6_voices_21 ki_1 ?_
          refine mw_iload_n dX6_voices_22 rfl 2 rfl ?_
          refine mw_ishl dX6_voices_23 (fun v121 ev121 => ?_)
          have b122 : mm_b (1) (64) v121 := bd_shl 6 ev121 b109 (by decide)
          refine mw_ior dX6_voices_24 (fun v123 ev123 => ?_)
          have b124 : mm_b (0) (127) v123 := bd_or 7 ev123 b102 b122 (by decide)
          refine mw_istore_n (ls' := [(1, .int v123), (0, .ref a0), (2, .int y103)]) dX6_voices_25 rfl (by decide) rfl ?_
          refine mw_iinc (ls' := fun v => [(2, .int v), (1, .int v123), (0, .ref a0)]) dX6_voices_26 2 rfl (by decide) (fun _ => rfl) (fun v125 ev125 => ?_)
          have b126 : mm_b (1) (7) v125 := bd_inc ev125 b109 (by decide)
          refine mw_goto (tgt := 4) dX6_voices_29 (by decide) ?_
          refine mw_ls [2, 1, 0] rfl ?_
          exact ih4 v123 v125 (ms_inc ev125 b109 (by decide) hm105) b124 (bd_w b126 (by decide))
  refine mw_ls [2, 1, 0] rfl ?_
  exact cut4 _ (0 : Int32) (0 : Int32) (Nat.lt_succ_self _) (bd_w n_0 (by decide)) (bd_w n_0 (by decide))
set_option maxRecDepth 100000 in
set_option maxHeartbeats 4000000 in
theorem c_X6_openTo {g : mm_G} (S : mm_S) (hI : JC S) (a0 : Nat) (ha0 : a0 ∈ LC_parish) (x1 : Int32) : mc g yX6_openTo cX6_openTo 4 (some .int) (mm_rm 1) [.ref a0, .int x1] (mm_enc shC S) (qi shC (fun S1 v => S = S1 ∧ mm_b (0) (63) v ∧ (True))) := by
  refine mc_of2 (own := RX6) (ini := false) (ls := [(0, .ref a0), (1, .int x1)]) (by decide) (Nat.le_of_ble_eq_true rfl) rfl (by decide) rfl ?_
  refine mw_iconst dX6_openTo_0 ki_0 ?_
  refine mw_istore_n (ls' := [(2, .int 0), (0, .ref a0), (1, .int x1)]) dX6_openTo_1 rfl (by decide) rfl ?_
  refine mw_iconst dX6_openTo_2 ki_0 ?_
  refine mw_istore_n (ls' := [(3, .int 0), (2, .int 0), (0, .ref a0), (1, .int x1)]) dX6_openTo_3 rfl (by decide) rfl ?_
  have cut4 : ∀ (N4 : Nat) (y101 y103 : Int32), ((7 : Int) - y103.toInt).toNat < N4 → mm_b (0) (63) y101 → mm_b (0) (6) y103 → mw g RX6 cX6_openTo 4 (some .int) false (mm_rm 1) (qi shC (fun S1 v => S = S1 ∧ mm_b (0) (63) v ∧ (True))) 0 0 (mm_enc shC S) 4 [(0, .ref a0), (1, .int x1), (2, .int y101), (3, .int y103)] [] := by
    intro N4
    induction N4 with
    | zero =>
      intro y101 y103 hm105 b102 b104
      exact absurd hm105 (Nat.not_lt_zero _)
    | succ N4 ih4 =>
      intro y101 y103 hm105 b102 b104
      refine mw_iload_n dX6_openTo_4 rfl 3 rfl ?_
      refine mw_aload_n dX6_openTo_5 rfl 0 rfl ?_
      refine tw_geti (j := 1) dX6_openTo_6 (shC_parish_0 a0 ha0) rfl rfl (by decide) fX6_31 (fun v106 ev106 => ?_)
      have b107 : mm_b (0) (6) v106 := JIC_fld hI ev106 (tbC_parish_0_1 a0 ha0) (by decide)
      refine mw_icmp_ge (tgt := 37) dX6_openTo_9 (by decide) (fun q108 => ?_) (fun q108 => ?_)
      · skip
        refine mw_iload_n dX6_openTo_37 rfl 2 rfl ?_
        exact mw_iret rfl dX6_openTo_38 rfl rfl ⟨S, _, rfl, rfl, rfl, b102, trivial⟩
      · skip
        have b109 : mm_b (0) (5) y103 := bd_lt_l (bd_nle q108) b104 b107 (by decide)
        have b110 : mm_b (1) (6) v106 := bd_lt_r (bd_nle q108) b104 b107 (by decide)
        refine mw_aload_n dX6_openTo_12 rfl 0 rfl ?_
        refine tw_getr (j := 7) dX6_openTo_13 (shC_parish_0 a0 ha0) rfl rfl (by decide) fX6_21 ?_
        refine mw_iload_n dX6_openTo_16 rfl 3 rfl ?_
        refine tw_iald dX6_openTo_17 (shC_parish_4 a0 ha0) (bd_in b109 (by decide)) (fun v111 ev111 => ?_)
        refine mw_iload_n dX6_openTo_18 rfl 1 rfl ?_
        refine tc_SiN (as := [.int v111, .int x1]) (st := []) dX6_openTo_19 rfl mX6_48 t_X9_isIn rfl (Nat.le_of_ble_eq_true rfl) (by decide) (by decide) (c_X9_isIn (g := g) S hI v111 x1) (fun S112 v114 h113 => ?_)
        obtain ⟨rfl, b115, x116⟩ := h113
        refine mw_if_eq (tgt := 31) dX6_openTo_22 (by decide) (fun q117 => ?_) (fun q117 => ?_)
        · skip
          have b118 : mm_b (0) (0) v114 := bd_eq_l q117 b115 n_0 (by decide)
          refine mw_iinc (ls' := fun v => [(3, .int v), (0, .ref a0), (1, .int x1), (2, .int y101)]) dX6_openTo_31 3 rfl (by decide) (fun _ => rfl) (fun v119 ev119 => ?_)
          have b120 : mm_b (1) (6) v119 := bd_inc ev119 b109 (by decide)
          refine mw_goto (tgt := 4) dX6_openTo_34 (by decide) ?_
          refine mw_ls [1, 2, 3, 0] rfl ?_
          exact ih4 y101 v119 (ms_inc ev119 b109 (by decide) hm105) b102 (bd_w b120 (by decide))
        · skip
          have b121 : mm_b (1) (1) v114 := bd_ne_l q117 b115 n_0 (by decide)
          have b122 := Or.resolve_left x116 q117
          refine mw_iload_n dX6_openTo_25 rfl 2 rfl ?_
          refine mw_iconst dX6_openTo_26 ki_1 ?_
          refine mw_iload_n dX6_openTo_27 rfl 3 rfl ?_
          refine mw_ishl dX6_openTo_28 (fun v123 ev123 => ?_)
          have b124 : mm_b (1) (32) v123 := bd_shl 5 ev123 b109 (by decide)
          refine mw_ior dX6_openTo_29 (fun v125 ev125 => ?_)
          have b126 : mm_b (0) (63) v125 := bd_or 6 ev125 b102 b124 (by decide)
          refine mw_istore_n (ls' := [(2, .int v125), (0, .ref a0), (1, .int x1), (3, .int y103)]) dX6_openTo_30 rfl (by decide) rfl ?_
          refine mw_iinc (ls' := fun v => [(3, .int v), (2, .int v125), (0, .ref a0), (1, .int x1)]) dX6_openTo_31 3 rfl (by decide) (fun _ => rfl) (fun v127 ev127 => ?_)
          have b128 : mm_b (1) (6) v127 := bd_inc ev127 b109 (by decide)
          refine mw_goto (tgt := 4) dX6_openTo_34 (by decide) ?_
          refine mw_ls [2, 3, 1, 0] rfl ?_
          exact ih4 v125 v127 (ms_inc ev127 b109 (by decide) hm105) b126 (bd_w b128 (by decide))
  refine mw_ls [2, 3, 1, 0] rfl ?_
  exact cut4 _ (0 : Int32) (0 : Int32) (Nat.lt_succ_self _) (bd_w n_0 (by decide)) (bd_w n_0 (by decide))
set_option maxRecDepth 100000 in
set_option maxHeartbeats 4000000 in
theorem c_X6_suits {g : mm_G} (S : mm_S) (hI : JC S) (a0 : Nat) (ha0 : a0 ∈ LC_parish) (x1 : Int32) (x2 : Int32) : mc g yX6_suits cX6_suits 3 (some .boolean) (mm_rm 3) [.ref a0, .int x1, .int x2] (mm_enc shC S) (qi shC (fun S1 v => S = S1 ∧ mm_b (0) (1) v ∧ (v = 0 ∨ (mm_b (0) (5) x1)))) := by
  refine mc_of2 (own := RX6) (ini := false) (ls := [(0, .ref a0), (1, .int x1), (2, .int x2)]) (by decide) (Nat.le_of_ble_eq_true rfl) rfl (by decide) rfl ?_
  refine mw_aload_n dX6_suits_0 rfl 0 rfl ?_
  refine mw_iload_n dX6_suits_1 rfl 1 rfl ?_
  refine tc_Vi (as := [.int x1]) (st := []) dX6_suits_2 rfl (shC_parish_0 a0 ha0) rfl rfl mX6_58 t_X6_hasPart rfl (Nat.le_of_ble_eq_true rfl) (by decide) (by decide) (c_X6_hasPart (g := g) S hI a0 ha0 x1) (fun S101 v103 h102 => ?_)
  obtain ⟨rfl, b104, x105⟩ := h102
  refine mw_if_eq (tgt := 39) dX6_suits_5 (by decide) (fun q106 => ?_) (fun q106 => ?_)
  · skip
    have b107 : mm_b (0) (0) v103 := bd_eq_l q106 b104 n_0 (by decide)
    refine mw_iconst dX6_suits_39 ki_0 ?_
    exact mw_zret rfl (bd_nar n_0 (by decide)) dX6_suits_40 rfl rfl ⟨S, _, rfl, rfl, rfl, bd_w n_0 (by decide), Or.inl rfl⟩
  · skip
    have b108 : mm_b (1) (1) v103 := bd_ne_l q106 b104 n_0 (by decide)
    have b109 := Or.resolve_left x105 q106
    refine mw_aload_n dX6_suits_8 rfl 0 rfl ?_
    refine mw_iload_n dX6_suits_9 rfl 2 rfl ?_
    refine tc_Vi (as := [.int x2]) (st := []) dX6_suits_10 rfl (shC_parish_0 a0 ha0) rfl rfl mX6_55 t_X6_hasVoice rfl (Nat.le_of_ble_eq_true rfl) (by decide) (by decide) (c_X6_hasVoice (g := g) S hI a0 ha0 x2) (fun S110 v112 h111 => ?_)
    obtain ⟨rfl, b113, x114⟩ := h111
    refine mw_if_eq (tgt := 39) dX6_suits_13 (by decide) (fun q115 => ?_) (fun q115 => ?_)
    · skip
      have b116 : mm_b (0) (0) v112 := bd_eq_l q115 b113 n_0 (by decide)
      refine mw_iconst dX6_suits_39 ki_0 ?_
      exact mw_zret rfl (bd_nar n_0 (by decide)) dX6_suits_40 rfl rfl ⟨S, _, rfl, rfl, rfl, bd_w n_0 (by decide), Or.inl rfl⟩
    · skip
      have b117 : mm_b (1) (1) v112 := bd_ne_l q115 b113 n_0 (by decide)
      refine mw_aload_n dX6_suits_16 rfl 0 rfl ?_
      refine mw_iload_n dX6_suits_17 rfl 2 rfl ?_
      refine tc_Vi (as := [.int x2]) (st := []) dX6_suits_18 rfl (shC_parish_0 a0 ha0) rfl rfl mX6_44 t_X6_rangeOf rfl (Nat.le_of_ble_eq_true rfl) (by decide) (by decide) (c_X6_rangeOf (g := g) S hI a0 ha0 x2) (fun S118 v120 h119 => ?_)
      obtain ⟨rfl, b121, x122⟩ := h119
      refine mw_aload_n dX6_suits_21 rfl 0 rfl ?_
      refine tw_getr (j := 8) dX6_suits_22 (shC_parish_0 a0 ha0) rfl rfl (by decide) fX6_24 ?_
      refine mw_iload_n dX6_suits_25 rfl 1 rfl ?_
      refine tw_iald dX6_suits_26 (shC_parish_5 a0 ha0) (bd_in b109 (by decide)) (fun v123 ev123 => ?_)
      refine mw_isub dX6_suits_27 (fun v124 ev124 => ?_)
      refine mw_abs (st := []) dX6_suits_28 mX6_61 (Nat.le_of_ble_eq_true rfl) (by decide) (fun v125 ev125 => ?_)
      refine mw_iconst dX6_suits_31 ki_1 ?_
      refine mw_icmp_gt (tgt := 39) dX6_suits_32 (by decide) (fun q126 => ?_) (fun q126 => ?_)
      · skip
        have b127 : mm_b (2) (2147483647) v125 := bd_lt_r q126 n_1 (bd_all v125) (by decide)
        refine mw_iconst dX6_suits_39 ki_0 ?_
        exact mw_zret rfl (bd_nar n_0 (by decide)) dX6_suits_40 rfl rfl ⟨S, _, rfl, rfl, rfl, bd_w n_0 (by decide), Or.inl rfl⟩
      · skip
        have b128 : mm_b (-2147483648) (1) v125 := bd_le_l (bd_nlt q126) (bd_all v125) n_1 (by decide)
        refine mw_iconst dX6_suits_35 ki_1 ?_
        refine mw_goto (tgt := 40) dX6_suits_36 (by decide) ?_
        exact mw_zret rfl (bd_nar n_1 (by decide)) dX6_suits_40 rfl rfl ⟨S, _, rfl, rfl, rfl, bd_w n_1 (by decide), Or.inr (bd_w b109 (by decide))⟩
set_option maxRecDepth 100000 in
set_option maxHeartbeats 4000000 in
theorem c_X2_subjectAt_129 {g : mm_G} (S : mm_S) (hI : JC S) (x1 : Int32) : mc g yX2_subjectAt cX2_subjectAt 2 (some .int) (mm_rm 0) [.ref 129, .int x1] (mm_enc shC S) (qi shC (fun S1 v => S = S1 ∧ mm_b (-2147483648) (2147483647) v ∧ (True))) := by
  refine mc_of2 (own := RX2) (ini := false) (ls := [(0, .ref 129), (1, .int x1)]) (by decide) (Nat.le_of_ble_eq_true rfl) rfl (by decide) rfl ?_
  refine mw_iload_n dX2_subjectAt_0 rfl 1 rfl ?_
  refine mw_if_lt (tgt := 21) dX2_subjectAt_1 (by decide) (fun q101 => ?_) (fun q101 => ?_)
  · skip
    have b102 : mm_b (-2147483648) (-1) x1 := bd_lt_l q101 (bd_all x1) n_0 (by decide)
    refine mw_iconst dX2_subjectAt_21 ki_m1 ?_
    exact mw_iret rfl dX2_subjectAt_22 rfl rfl ⟨S, _, rfl, rfl, rfl, bd_w n_m1 (by decide), trivial⟩
  · skip
    have b103 : mm_b (0) (2147483647) x1 := bd_le_r (bd_nlt q101) n_0 (bd_all x1) (by decide)
    refine mw_iload_n dX2_subjectAt_4 rfl 1 rfl ?_
    refine mw_aload_n dX2_subjectAt_5 rfl 0 rfl ?_
    refine tw_geti (j := 0) dX2_subjectAt_6 shC_129 rfl rfl (by decide) fX2_24 (fun v104 ev104 => ?_)
    have b105 : mm_b (0) (6) v104 := JIC_fld hI ev104 tbC_34 (by decide)
    refine mw_icmp_ge (tgt := 21) dX2_subjectAt_9 (by decide) (fun q106 => ?_) (fun q106 => ?_)
    · skip
      refine mw_iconst dX2_subjectAt_21 ki_m1 ?_
      exact mw_iret rfl dX2_subjectAt_22 rfl rfl ⟨S, _, rfl, rfl, rfl, bd_w n_m1 (by decide), trivial⟩
    · skip
      have b107 : mm_b (0) (5) x1 := bd_lt_l (bd_nle q106) b103 b105 (by decide)
      have b108 : mm_b (1) (6) v104 := bd_lt_r (bd_nle q106) b103 b105 (by decide)
      refine mw_aload_n dX2_subjectAt_12 rfl 0 rfl ?_
      refine tw_getr (j := 1) dX2_subjectAt_13 shC_129 rfl rfl (by decide) fX2_15 ?_
      refine mw_iload_n dX2_subjectAt_16 rfl 1 rfl ?_
      refine tw_iald dX2_subjectAt_17 shC_130 (bd_in b107 (by decide)) (fun v109 ev109 => ?_)
      refine mw_goto (tgt := 22) dX2_subjectAt_18 (by decide) ?_
      exact mw_iret rfl dX2_subjectAt_22 rfl rfl ⟨S, _, rfl, rfl, rfl, (bd_all v109), trivial⟩
set_option maxRecDepth 100000 in
set_option maxHeartbeats 4000000 in
theorem c_X2_valueAt_129 {g : mm_G} (S : mm_S) (hI : JC S) (x1 : Int32) : mc g yX2_valueAt cX2_valueAt 2 (some .int) (mm_rm 0) [.ref 129, .int x1] (mm_enc shC S) (qi shC (fun S1 v => S = S1 ∧ mm_b (-2147483648) (2147483647) v ∧ (True))) := by
  refine mc_of2 (own := RX2) (ini := false) (ls := [(0, .ref 129), (1, .int x1)]) (by decide) (Nat.le_of_ble_eq_true rfl) rfl (by decide) rfl ?_
  refine mw_iload_n dX2_valueAt_0 rfl 1 rfl ?_
  refine mw_if_lt (tgt := 21) dX2_valueAt_1 (by decide) (fun q101 => ?_) (fun q101 => ?_)
  · skip
    have b102 : mm_b (-2147483648) (-1) x1 := bd_lt_l q101 (bd_all x1) n_0 (by decide)
    refine mw_iconst dX2_valueAt_21 ki_m1 ?_
    exact mw_iret rfl dX2_valueAt_22 rfl rfl ⟨S, _, rfl, rfl, rfl, bd_w n_m1 (by decide), trivial⟩
  · skip
    have b103 : mm_b (0) (2147483647) x1 := bd_le_r (bd_nlt q101) n_0 (bd_all x1) (by decide)
    refine mw_iload_n dX2_valueAt_4 rfl 1 rfl ?_
    refine mw_aload_n dX2_valueAt_5 rfl 0 rfl ?_
    refine tw_geti (j := 0) dX2_valueAt_6 shC_129 rfl rfl (by decide) fX2_24 (fun v104 ev104 => ?_)
    have b105 : mm_b (0) (6) v104 := JIC_fld hI ev104 tbC_34 (by decide)
    refine mw_icmp_ge (tgt := 21) dX2_valueAt_9 (by decide) (fun q106 => ?_) (fun q106 => ?_)
    · skip
      refine mw_iconst dX2_valueAt_21 ki_m1 ?_
      exact mw_iret rfl dX2_valueAt_22 rfl rfl ⟨S, _, rfl, rfl, rfl, bd_w n_m1 (by decide), trivial⟩
    · skip
      have b107 : mm_b (0) (5) x1 := bd_lt_l (bd_nle q106) b103 b105 (by decide)
      have b108 : mm_b (1) (6) v104 := bd_lt_r (bd_nle q106) b103 b105 (by decide)
      refine mw_aload_n dX2_valueAt_12 rfl 0 rfl ?_
      refine tw_getr (j := 2) dX2_valueAt_13 shC_129 rfl rfl (by decide) fX2_21 ?_
      refine mw_iload_n dX2_valueAt_16 rfl 1 rfl ?_
      refine tw_iald dX2_valueAt_17 shC_131 (bd_in b107 (by decide)) (fun v109 ev109 => ?_)
      refine mw_goto (tgt := 22) dX2_valueAt_18 (by decide) ?_
      exact mw_iret rfl dX2_valueAt_22 rfl rfl ⟨S, _, rfl, rfl, rfl, (bd_all v109), trivial⟩
set_option maxRecDepth 100000 in
set_option maxHeartbeats 4000000 in
theorem c_X1_next {g : mm_G} (S : mm_S) (hI : JC S) (x1 : Int32) : mc g yX1_next cX1_next 2 (some .int) (mm_rm 0) [.ref 128, .int x1] (mm_enc shC S) (qi shC (fun S1 v => JC S1 ∧ fr [128] [] true true S S1 ∧ mm_b (-2147483648) (2147483647) v ∧ (True))) := by
  refine mc_of2 (own := RX1) (ini := false) (ls := [(0, .ref 128), (1, .int x1)]) (by decide) (Nat.le_of_ble_eq_true rfl) rfl (by decide) rfl ?_
  have hF : fr [128] [] true true S S := fr_rf
  refine mw_aload_n dX1_next_0 rfl 0 rfl ?_
  refine mw_aload_n dX1_next_1 rfl 0 rfl ?_
  refine tw_geti (j := 0) dX1_next_2 shC_128 rfl rfl (by decide) fX1_7 (fun v101 ev101 => ?_)
  refine mw_i2l dX1_next_5 (fun w102 ew102 => ?_)
  have b103 : mm_bl (-2147483648) (2147483647) w102 := bl_i2l ew102 (bd_all v101)
  refine mw_ldc2 dX1_next_6 kX1_13 ?_
  refine mw_lmul dX1_next_9 (fun w104 ew104 => ?_)
  refine mw_ldc2 dX1_next_10 kX1_15 ?_
  refine mw_ladd dX1_next_13 (fun w105 ew105 => ?_)
  refine mw_ldc2 dX1_next_14 kX1_17 ?_
  refine mw_lrem dX1_next_17 (bl_ne0 L_2147483648 (by decide)) (fun w106 ew106 => ?_)
  refine mw_l2i dX1_next_18 (fun v107 ev107 => ?_)
  refine tw_puti (j := 0) dX1_next_19 shC_128 rfl rfl (by decide) fX1_7 rfl (by decide +kernel) ?_
  have hI108 : JC (mm_up S 128 0 v107) := JIC_put hI (bd_all v107) (by decide +kernel)
  generalize hS109 : (mm_up S 128 0 v107) = S109 at hI108 ⊢
  have hF110 := fr_upA hF hS109 (by decide)
  refine mw_iload_n dX1_next_22 rfl 1 rfl ?_
  refine mw_if_le (tgt := 38) dX1_next_23 (by decide) (fun q111 => ?_) (fun q111 => ?_)
  · skip
    have b112 : mm_b (-2147483648) (0) x1 := bd_le_l q111 (bd_all x1) n_0 (by decide)
    refine mw_iconst dX1_next_38 ki_0 ?_
    exact mw_iret rfl dX1_next_39 rfl rfl ⟨S109, _, rfl, rfl, hI108, hF110, bd_w n_0 (by decide), trivial⟩
  · skip
    have b113 : mm_b (1) (2147483647) x1 := bd_lt_r (bd_nle q111) n_0 (bd_all x1) (by decide)
    refine mw_aload_n dX1_next_26 rfl 0 rfl ?_
    refine tw_geti (j := 0) dX1_next_27 shC_128 rfl rfl (by decide) fX1_7 (fun v114 ev114 => ?_)
    have cv114 : v107 = v114 := (up_eq hS109).trans ev114.symm
    subst cv114
    refine mw_ldc dX1_next_30 kX1_19 ?_
    refine mw_idiv dX1_next_32 (bd_ne0 n_65536 (by decide)) (fun v115 ev115 => ?_)
    refine mw_iload_n dX1_next_33 rfl 1 rfl ?_
    refine mw_irem dX1_next_34 (bd_ne0 b113 (by decide)) (fun v116 ev116 => ?_)
    refine mw_goto (tgt := 39) dX1_next_35 (by decide) ?_
    exact mw_iret rfl dX1_next_39 rfl rfl ⟨S109, _, rfl, rfl, hI108, hF110, (bd_all v116), trivial⟩
set_option maxRecDepth 100000 in
set_option maxHeartbeats 4000000 in
theorem c_X3_copy_20_15 {g : mm_G} (S : mm_S) (hI : JC S)  : mc g yX3_copy cX3_copy 3 none (mm_rm 0) [.ref 20, .ref 15] (mm_enc shC S) (qv shC (fun S1 => JC S1 ∧ fr [20, 21, 22, 23, 24] [] true true S S1 ∧ True)) := by
  refine mc_of2 (own := RX3) (ini := false) (ls := [(0, .ref 20), (1, .ref 15)]) (by decide) (Nat.le_of_ble_eq_true rfl) rfl (by decide) rfl ?_
  have hF : fr [20, 21, 22, 23, 24] [] true true S S := fr_rf
  refine mw_aload_n dX3_copy_0 rfl 0 rfl ?_
  refine mw_aload_n dX3_copy_1 rfl 1 rfl ?_
  refine tw_geti (j := 2) dX3_copy_2 shC_15 rfl rfl (by decide) fX3_36 (fun v101 ev101 => ?_)
  have b102 : mm_b (0) (7) v101 := JIC_fld hI ev101 tbC_9 (by decide)
  refine tw_puti (j := 2) dX3_copy_5 shC_20 rfl rfl (by decide) fX3_36 rfl (by decide +kernel) ?_
  have hI103 : JC (mm_up S 20 2 v101) := JIC_put hI b102 (by decide +kernel)
  generalize hS104 : (mm_up S 20 2 v101) = S104 at hI103 ⊢
  have hF105 := fr_upA hF hS104 (by decide)
  refine mw_aload_n dX3_copy_8 rfl 0 rfl ?_
  refine mw_aload_n dX3_copy_9 rfl 1 rfl ?_
  refine tw_geti (j := 0) dX3_copy_10 shC_15 rfl rfl (by decide) fX3_39 (fun v106 ev106 => ?_)
  refine tw_puti (j := 0) dX3_copy_13 shC_20 rfl rfl (by decide) fX3_39 rfl (by decide +kernel) ?_
  have hI107 : JC (mm_up S104 20 0 v106) := JIC_put hI103 (bd_all v106) (by decide +kernel)
  generalize hS108 : (mm_up S104 20 0 v106) = S108 at hI107 ⊢
  have hF109 := fr_upA hF105 hS108 (by decide)
  refine mw_aload_n dX3_copy_16 rfl 0 rfl ?_
  refine mw_aload_n dX3_copy_17 rfl 1 rfl ?_
  refine tw_geti (j := 1) dX3_copy_18 shC_15 rfl rfl (by decide) fX3_42 (fun v110 ev110 => ?_)
  refine tw_puti (j := 1) dX3_copy_21 shC_20 rfl rfl (by decide) fX3_42 rfl (by decide +kernel) ?_
  have hI111 : JC (mm_up S108 20 1 v110) := JIC_put hI107 (bd_all v110) (by decide +kernel)
  generalize hS112 : (mm_up S108 20 1 v110) = S112 at hI111 ⊢
  have hF113 := fr_upA hF109 hS112 (by decide)
  refine mw_iconst dX3_copy_24 ki_0 ?_
  refine mw_istore_n (ls' := [(2, .int 0), (0, .ref 20), (1, .ref 15)]) dX3_copy_25 rfl (by decide) rfl ?_
  have cut26 : ∀ (N26 : Nat) (S114 : mm_S) (y117 : Int32), ((8 : Int) - y117.toInt).toNat < N26 → JC S114 → fr [20, 21, 22, 23, 24] [] true true S S114 → mm_b (0) (7) y117 → mw g RX3 cX3_copy 3 none false (mm_rm 0) (qv shC (fun S1 => JC S1 ∧ fr [20, 21, 22, 23, 24] [] true true S S1 ∧ True)) 0 0 (mm_enc shC S114) 26 [(0, .ref 20), (1, .ref 15), (2, .int y117)] [] := by
    intro N26
    induction N26 with
    | zero =>
      intro S114 y117 hm119 hI115 hF116 b118
      exact absurd hm119 (Nat.not_lt_zero _)
    | succ N26 ih26 =>
      intro S114 y117 hm119 hI115 hF116 b118
      refine mw_iload_n dX3_copy_26 rfl 2 rfl ?_
      refine mw_bipush dX3_copy_27 kb_7 ?_
      refine mw_icmp_ge (tgt := 86) dX3_copy_29 (by decide) (fun q120 => ?_) (fun q120 => ?_)
      · skip
        have b121 : mm_b (7) (7) y117 := bd_le_r q120 n_7 b118 (by decide)
        exact mw_vret rfl dX3_copy_86 rfl rfl ⟨S114, rfl, rfl, ⟨hI115, hF116, trivial⟩⟩
      · skip
        have b122 : mm_b (0) (6) y117 := bd_lt_l (bd_nle q120) b118 n_7 (by decide)
        refine mw_aload_n dX3_copy_32 rfl 0 rfl ?_
        refine tw_getr (j := 3) dX3_copy_33 shC_20 rfl rfl (by decide) fX3_9 ?_
        refine mw_iload_n dX3_copy_36 rfl 2 rfl ?_
        refine mw_aload_n dX3_copy_37 rfl 1 rfl ?_
        refine tw_getr (j := 3) dX3_copy_38 shC_15 rfl rfl (by decide) fX3_9 ?_
        refine mw_iload_n dX3_copy_41 rfl 2 rfl ?_
        refine tw_iald dX3_copy_42 shC_16 (bd_in b122 (by decide)) (fun v123 ev123 => ?_)
        refine tw_iast dX3_copy_43 shC_21 (bd_in b122 (by decide)) ?_
        have hI124 : JC (mm_up S114 21 y117.toNatClampNeg v123) := JIC_puta hI115 (bd_all v123) b122 (by decide) (by decide +kernel)
        generalize hS125 : (mm_up S114 21 y117.toNatClampNeg v123) = S125 at hI124 ⊢
        have hF126 := fr_upA hF116 hS125 (by decide)
        refine mw_aload_n dX3_copy_44 rfl 0 rfl ?_
        refine tw_getr (j := 4) dX3_copy_45 shC_20 rfl rfl (by decide) fX3_15 ?_
        refine mw_iload_n dX3_copy_48 rfl 2 rfl ?_
        refine mw_aload_n dX3_copy_49 rfl 1 rfl ?_
        refine tw_getr (j := 4) dX3_copy_50 shC_15 rfl rfl (by decide) fX3_15 ?_
        refine mw_iload_n dX3_copy_53 rfl 2 rfl ?_
        refine tw_iald dX3_copy_54 shC_17 (bd_in b122 (by decide)) (fun v127 ev127 => ?_)
        refine tw_iast dX3_copy_55 shC_22 (bd_in b122 (by decide)) ?_
        have hI128 : JC (mm_up S125 22 y117.toNatClampNeg v127) := JIC_puta hI124 (bd_all v127) b122 (by decide) (by decide +kernel)
        generalize hS129 : (mm_up S125 22 y117.toNatClampNeg v127) = S129 at hI128 ⊢
        have hF130 := fr_upA hF126 hS129 (by decide)
        refine mw_aload_n dX3_copy_56 rfl 0 rfl ?_
        refine tw_getr (j := 5) dX3_copy_57 shC_20 rfl rfl (by decide) fX3_18 ?_
        refine mw_iload_n dX3_copy_60 rfl 2 rfl ?_
        refine mw_aload_n dX3_copy_61 rfl 1 rfl ?_
        refine tw_getr (j := 5) dX3_copy_62 shC_15 rfl rfl (by decide) fX3_18 ?_
        refine mw_iload_n dX3_copy_65 rfl 2 rfl ?_
        refine tw_iald dX3_copy_66 shC_18 (bd_in b122 (by decide)) (fun v131 ev131 => ?_)
        refine tw_iast dX3_copy_67 shC_23 (bd_in b122 (by decide)) ?_
        have hI132 : JC (mm_up S129 23 y117.toNatClampNeg v131) := JIC_puta hI128 (bd_all v131) b122 (by decide) (by decide +kernel)
        generalize hS133 : (mm_up S129 23 y117.toNatClampNeg v131) = S133 at hI132 ⊢
        have hF134 := fr_upA hF130 hS133 (by decide)
        refine mw_aload_n dX3_copy_68 rfl 0 rfl ?_
        refine tw_getr (j := 6) dX3_copy_69 shC_20 rfl rfl (by decide) fX3_21 ?_
        refine mw_iload_n dX3_copy_72 rfl 2 rfl ?_
        refine mw_aload_n dX3_copy_73 rfl 1 rfl ?_
        refine tw_getr (j := 6) dX3_copy_74 shC_15 rfl rfl (by decide) fX3_21 ?_
        refine mw_iload_n dX3_copy_77 rfl 2 rfl ?_
        refine tw_iald dX3_copy_78 shC_19 (bd_in b122 (by decide)) (fun v135 ev135 => ?_)
        refine tw_iast dX3_copy_79 shC_24 (bd_in b122 (by decide)) ?_
        have hI136 : JC (mm_up S133 24 y117.toNatClampNeg v135) := JIC_puta hI132 (bd_all v135) b122 (by decide) (by decide +kernel)
        generalize hS137 : (mm_up S133 24 y117.toNatClampNeg v135) = S137 at hI136 ⊢
        have hF138 := fr_upA hF134 hS137 (by decide)
        refine mw_iinc (ls' := fun v => [(2, .int v), (0, .ref 20), (1, .ref 15)]) dX3_copy_80 2 rfl (by decide) (fun _ => rfl) (fun v139 ev139 => ?_)
        have b140 : mm_b (1) (7) v139 := bd_inc ev139 b122 (by decide)
        refine mw_goto (tgt := 26) dX3_copy_83 (by decide) ?_
        refine mw_ls [1, 2, 0] rfl ?_
        exact ih26 S137 v139 (ms_inc ev139 b122 (by decide) hm119) hI136 hF138 (bd_w b140 (by decide))
  refine mw_ls [1, 2, 0] rfl ?_
  exact cut26 _ S112 (0 : Int32) (Nat.lt_succ_self _) hI111 hF113 (bd_w n_0 (by decide))
set_option maxRecDepth 100000 in
set_option maxHeartbeats 4000000 in
theorem c_X3_copy {g : mm_G} (S : mm_S) (hI : JC S) (a0 : Nat) (ha0 : a0 ∈ LC_folk) (a1 : Nat) (ha1 : a1 ∈ LC_folk) : mc g yX3_copy cX3_copy 3 none (mm_rm 0) [.ref a0, .ref a1] (mm_enc shC S) (qv shC (fun S1 => JC S1 ∧ fr [15, 16, 17, 18, 19, 20, 21, 22, 23, 24, 27, 28, 29, 30, 31, 32, 33, 34, 35, 36, 37, 38, 39, 40, 41, 42, 43, 44, 45, 46, 47, 48, 49, 50, 51, 52, 53, 54, 55, 56, 57, 58, 59, 60, 61, 62, 63, 64, 65, 66, 67, 68, 69, 70, 71, 72, 73, 74, 75, 76, 77, 78, 79, 80, 81, 82, 83, 84, 85, 86, 87, 88, 89, 90, 91, 92, 93, 94, 95, 96, 97, 98, 99, 100, 101, 102, 103, 104, 105, 106, 107, 108, 109, 110, 111, 112, 113, 114, 115, 116, 117, 118, 119, 120, 121, 122, 123, 124, 125, 126, 152, 153, 154, 155, 156, 158, 159, 160, 161, 162] [] true true S S1 ∧ True)) := by
  refine mc_of2 (own := RX3) (ini := false) (ls := [(0, .ref a0), (1, .ref a1)]) (by decide) (Nat.le_of_ble_eq_true rfl) rfl (by decide) rfl ?_
  have hF : fr [15, 16, 17, 18, 19, 20, 21, 22, 23, 24, 27, 28, 29, 30, 31, 32, 33, 34, 35, 36, 37, 38, 39, 40, 41, 42, 43, 44, 45, 46, 47, 48, 49, 50, 51, 52, 53, 54, 55, 56, 57, 58, 59, 60, 61, 62, 63, 64, 65, 66, 67, 68, 69, 70, 71, 72, 73, 74, 75, 76, 77, 78, 79, 80, 81, 82, 83, 84, 85, 86, 87, 88, 89, 90, 91, 92, 93, 94, 95, 96, 97, 98, 99, 100, 101, 102, 103, 104, 105, 106, 107, 108, 109, 110, 111, 112, 113, 114, 115, 116, 117, 118, 119, 120, 121, 122, 123, 124, 125, 126, 152, 153, 154, 155, 156, 158, 159, 160, 161, 162] [] true true S S := fr_rf
  refine mw_aload_n dX3_copy_0 rfl 0 rfl ?_
  refine mw_aload_n dX3_copy_1 rfl 1 rfl ?_
  refine tw_geti (j := 2) dX3_copy_2 (shC_folk_0 a1 ha1) rfl rfl (by decide) fX3_36 (fun v101 ev101 => ?_)
  have b102 : mm_b (0) (7) v101 := JIC_fld hI ev101 (tbC_folk_0_2 a1 ha1) (by decide)
  refine tw_puti (j := 2) dX3_copy_5 (shC_folk_0 a0 ha0) rfl rfl (by decide) fX3_36 rfl (by decide +kernel) ?_
  have hI103 : JC (mm_up S a0 2 v101) := JIC_put hI b102 (ckZ ha0 (by decide +kernel))
  generalize hS104 : (mm_up S a0 2 v101) = S104 at hI103 ⊢
  have hF105 := fr_upA hF hS104 (memZ ha0 (by decide))
  refine mw_aload_n dX3_copy_8 rfl 0 rfl ?_
  refine mw_aload_n dX3_copy_9 rfl 1 rfl ?_
  refine tw_geti (j := 0) dX3_copy_10 (shC_folk_0 a1 ha1) rfl rfl (by decide) fX3_39 (fun v106 ev106 => ?_)
  refine tw_puti (j := 0) dX3_copy_13 (shC_folk_0 a0 ha0) rfl rfl (by decide) fX3_39 rfl (by decide +kernel) ?_
  have hI107 : JC (mm_up S104 a0 0 v106) := JIC_put hI103 (bd_all v106) (ckZ ha0 (by decide +kernel))
  generalize hS108 : (mm_up S104 a0 0 v106) = S108 at hI107 ⊢
  have hF109 := fr_upA hF105 hS108 (memZ ha0 (by decide))
  refine mw_aload_n dX3_copy_16 rfl 0 rfl ?_
  refine mw_aload_n dX3_copy_17 rfl 1 rfl ?_
  refine tw_geti (j := 1) dX3_copy_18 (shC_folk_0 a1 ha1) rfl rfl (by decide) fX3_42 (fun v110 ev110 => ?_)
  refine tw_puti (j := 1) dX3_copy_21 (shC_folk_0 a0 ha0) rfl rfl (by decide) fX3_42 rfl (by decide +kernel) ?_
  have hI111 : JC (mm_up S108 a0 1 v110) := JIC_put hI107 (bd_all v110) (ckZ ha0 (by decide +kernel))
  generalize hS112 : (mm_up S108 a0 1 v110) = S112 at hI111 ⊢
  have hF113 := fr_upA hF109 hS112 (memZ ha0 (by decide))
  refine mw_iconst dX3_copy_24 ki_0 ?_
  refine mw_istore_n (ls' := [(2, .int 0), (0, .ref a0), (1, .ref a1)]) dX3_copy_25 rfl (by decide) rfl ?_
  have cut26 : ∀ (N26 : Nat) (S114 : mm_S) (y117 : Int32), ((8 : Int) - y117.toInt).toNat < N26 → JC S114 → fr [15, 16, 17, 18, 19, 20, 21, 22, 23, 24, 27, 28, 29, 30, 31, 32, 33, 34, 35, 36, 37, 38, 39, 40, 41, 42, 43, 44, 45, 46, 47, 48, 49, 50, 51, 52, 53, 54, 55, 56, 57, 58, 59, 60, 61, 62, 63, 64, 65, 66, 67, 68, 69, 70, 71, 72, 73, 74, 75, 76, 77, 78, 79, 80, 81, 82, 83, 84, 85, 86, 87, 88, 89, 90, 91, 92, 93, 94, 95, 96, 97, 98, 99, 100, 101, 102, 103, 104, 105, 106, 107, 108, 109, 110, 111, 112, 113, 114, 115, 116, 117, 118, 119, 120, 121, 122, 123, 124, 125, 126, 152, 153, 154, 155, 156, 158, 159, 160, 161, 162] [] true true S S114 → mm_b (0) (7) y117 → mw g RX3 cX3_copy 3 none false (mm_rm 0) (qv shC (fun S1 => JC S1 ∧ fr [15, 16, 17, 18, 19, 20, 21, 22, 23, 24, 27, 28, 29, 30, 31, 32, 33, 34, 35, 36, 37, 38, 39, 40, 41, 42, 43, 44, 45, 46, 47, 48, 49, 50, 51, 52, 53, 54, 55, 56, 57, 58, 59, 60, 61, 62, 63, 64, 65, 66, 67, 68, 69, 70, 71, 72, 73, 74, 75, 76, 77, 78, 79, 80, 81, 82, 83, 84, 85, 86, 87, 88, 89, 90, 91, 92, 93, 94, 95, 96, 97, 98, 99, 100, 101, 102, 103, 104, 105, 106, 107, 108, 109, 110, 111, 112, 113, 114, 115, 116, 117, 118, 119, 120, 121, 122, 123, 124, 125, 126, 152, 153, 154, 155, 156, 158, 159, 160, 161, 162] [] true true S S1 ∧ True)) 0 0 (mm_enc shC S114) 26 [(0, .ref a0), (1, .ref a1), (2, .int y117)] [] := by
    intro N26
    induction N26 with
    | zero =>
      intro S114 y117 hm119 hI115 hF116 b118
      exact absurd hm119 (Nat.not_lt_zero _)
    | succ N26 ih26 =>
      intro S114 y117 hm119 hI115 hF116 b118
      refine mw_iload_n dX3_copy_26 rfl 2 rfl ?_
      refine mw_bipush dX3_copy_27 kb_7 ?_
      refine mw_icmp_ge (tgt := 86) dX3_copy_29 (by decide) (fun q120 => ?_) (fun q120 => ?_)
      · skip
        have b121 : mm_b (7) (7) y117 := bd_le_r q120 n_7 b118 (by decide)
        exact mw_vret rfl dX3_copy_86 rfl rfl ⟨S114, rfl, rfl, ⟨hI115, hF116, trivial⟩⟩
      · skip
        have b122 : mm_b (0) (6) y117 := bd_lt_l (bd_nle q120) b118 n_7 (by decide)
        refine mw_aload_n dX3_copy_32 rfl 0 rfl ?_
        refine tw_getr (j := 3) dX3_copy_33 (shC_folk_0 a0 ha0) rfl rfl (by decide) fX3_9 ?_
        refine mw_iload_n dX3_copy_36 rfl 2 rfl ?_
        refine mw_aload_n dX3_copy_37 rfl 1 rfl ?_
        refine tw_getr (j := 3) dX3_copy_38 (shC_folk_0 a1 ha1) rfl rfl (by decide) fX3_9 ?_
        refine mw_iload_n dX3_copy_41 rfl 2 rfl ?_
        refine tw_iald dX3_copy_42 (shC_folk_1 a1 ha1) (bd_in b122 (by decide)) (fun v123 ev123 => ?_)
        refine tw_iast dX3_copy_43 (shC_folk_1 a0 ha0) (bd_in b122 (by decide)) ?_
        have hI124 : JC (mm_up S114 (a0 + 1) y117.toNatClampNeg v123) := JIC_puta hI115 (bd_all v123) b122 (by decide) (ckS ha0 (by decide +kernel))
        generalize hS125 : (mm_up S114 (a0 + 1) y117.toNatClampNeg v123) = S125 at hI124 ⊢
        have hF126 := fr_upA hF116 hS125 (memS ha0 (by decide))
        refine mw_aload_n dX3_copy_44 rfl 0 rfl ?_
        refine tw_getr (j := 4) dX3_copy_45 (shC_folk_0 a0 ha0) rfl rfl (by decide) fX3_15 ?_
        refine mw_iload_n dX3_copy_48 rfl 2 rfl ?_
        refine mw_aload_n dX3_copy_49 rfl 1 rfl ?_
        refine tw_getr (j := 4) dX3_copy_50 (shC_folk_0 a1 ha1) rfl rfl (by decide) fX3_15 ?_
        refine mw_iload_n dX3_copy_53 rfl 2 rfl ?_
        refine tw_iald dX3_copy_54 (shC_folk_2 a1 ha1) (bd_in b122 (by decide)) (fun v127 ev127 => ?_)
        refine tw_iast dX3_copy_55 (shC_folk_2 a0 ha0) (bd_in b122 (by decide)) ?_
        have hI128 : JC (mm_up S125 (a0 + 2) y117.toNatClampNeg v127) := JIC_puta hI124 (bd_all v127) b122 (by decide) (ckS ha0 (by decide +kernel))
        generalize hS129 : (mm_up S125 (a0 + 2) y117.toNatClampNeg v127) = S129 at hI128 ⊢
        have hF130 := fr_upA hF126 hS129 (memS ha0 (by decide))
        refine mw_aload_n dX3_copy_56 rfl 0 rfl ?_
        refine tw_getr (j := 5) dX3_copy_57 (shC_folk_0 a0 ha0) rfl rfl (by decide) fX3_18 ?_
        refine mw_iload_n dX3_copy_60 rfl 2 rfl ?_
        refine mw_aload_n dX3_copy_61 rfl 1 rfl ?_
        refine tw_getr (j := 5) dX3_copy_62 (shC_folk_0 a1 ha1) rfl rfl (by decide) fX3_18 ?_
        refine mw_iload_n dX3_copy_65 rfl 2 rfl ?_
        refine tw_iald dX3_copy_66 (shC_folk_3 a1 ha1) (bd_in b122 (by decide)) (fun v131 ev131 => ?_)
        refine tw_iast dX3_copy_67 (shC_folk_3 a0 ha0) (bd_in b122 (by decide)) ?_
        have hI132 : JC (mm_up S129 (a0 + 3) y117.toNatClampNeg v131) := JIC_puta hI128 (bd_all v131) b122 (by decide) (ckS ha0 (by decide +kernel))
        generalize hS133 : (mm_up S129 (a0 + 3) y117.toNatClampNeg v131) = S133 at hI132 ⊢
        have hF134 := fr_upA hF130 hS133 (memS ha0 (by decide))
        refine mw_aload_n dX3_copy_68 rfl 0 rfl ?_
        refine tw_getr (j := 6) dX3_copy_69 (shC_folk_0 a0 ha0) rfl rfl (by decide) fX3_21 ?_
        refine mw_iload_n dX3_copy_72 rfl 2 rfl ?_
        refine mw_aload_n dX3_copy_73 rfl 1 rfl ?_
        refine tw_getr (j := 6) dX3_copy_74 (shC_folk_0 a1 ha1) rfl rfl (by decide) fX3_21 ?_
        refine mw_iload_n dX3_copy_77 rfl 2 rfl ?_
        refine tw_iald dX3_copy_78 (shC_folk_4 a1 ha1) (bd_in b122 (by decide)) (fun v135 ev135 => ?_)
        refine tw_iast dX3_copy_79 (shC_folk_4 a0 ha0) (bd_in b122 (by decide)) ?_
        have hI136 : JC (mm_up S133 (a0 + 4) y117.toNatClampNeg v135) := JIC_puta hI132 (bd_all v135) b122 (by decide) (ckS ha0 (by decide +kernel))
        generalize hS137 : (mm_up S133 (a0 + 4) y117.toNatClampNeg v135) = S137 at hI136 ⊢
        have hF138 := fr_upA hF134 hS137 (memS ha0 (by decide))
        refine mw_iinc (ls' := fun v => [(2, .int v), (0, .ref a0), (1, .ref a1)]) dX3_copy_80 2 rfl (by decide) (fun _ => rfl) (fun v139 ev139 => ?_)
        have b140 : mm_b (1) (7) v139 := bd_inc ev139 b122 (by decide)
        refine mw_goto (tgt := 26) dX3_copy_83 (by decide) ?_
        refine mw_ls [1, 2, 0] rfl ?_
        exact ih26 S137 v139 (ms_inc ev139 b122 (by decide) hm119) hI136 hF138 (bd_w b140 (by decide))
  refine mw_ls [1, 2, 0] rfl ?_
  exact cut26 _ S112 (0 : Int32) (Nat.lt_succ_self _) hI111 hF113 (bd_w n_0 (by decide))
set_option maxRecDepth 100000 in
set_option maxHeartbeats 4000000 in
theorem c_X3_isOne_15 {g : mm_G} (S : mm_S) (hI : JC S) (x1 : Int32) : mc g yX3_isOne cX3_isOne 2 (some .boolean) (mm_rm 0) [.ref 15, .int x1] (mm_enc shC S) (qi shC (fun S1 v => S = S1 ∧ mm_b (0) (1) v ∧ (v = 0 ∨ (mm_b (0) (6) x1)))) := by
  refine mc_of2 (own := RX3) (ini := false) (ls := [(0, .ref 15), (1, .int x1)]) (by decide) (Nat.le_of_ble_eq_true rfl) rfl (by decide) rfl ?_
  refine mw_iload_n dX3_isOne_0 rfl 1 rfl ?_
  refine mw_if_lt (tgt := 16) dX3_isOne_1 (by decide) (fun q101 => ?_) (fun q101 => ?_)
  · skip
    have b102 : mm_b (-2147483648) (-1) x1 := bd_lt_l q101 (bd_all x1) n_0 (by decide)
    refine mw_iconst dX3_isOne_16 ki_0 ?_
    exact mw_zret rfl (bd_nar n_0 (by decide)) dX3_isOne_17 rfl rfl ⟨S, _, rfl, rfl, rfl, bd_w n_0 (by decide), Or.inl rfl⟩
  · skip
    have b103 : mm_b (0) (2147483647) x1 := bd_le_r (bd_nlt q101) n_0 (bd_all x1) (by decide)
    refine mw_iload_n dX3_isOne_4 rfl 1 rfl ?_
    refine mw_aload_n dX3_isOne_5 rfl 0 rfl ?_
    refine tw_geti (j := 2) dX3_isOne_6 shC_15 rfl rfl (by decide) fX3_36 (fun v104 ev104 => ?_)
    have b105 : mm_b (0) (7) v104 := JIC_fld hI ev104 tbC_9 (by decide)
    refine mw_icmp_ge (tgt := 16) dX3_isOne_9 (by decide) (fun q106 => ?_) (fun q106 => ?_)
    · skip
      refine mw_iconst dX3_isOne_16 ki_0 ?_
      exact mw_zret rfl (bd_nar n_0 (by decide)) dX3_isOne_17 rfl rfl ⟨S, _, rfl, rfl, rfl, bd_w n_0 (by decide), Or.inl rfl⟩
    · skip
      have b107 : mm_b (0) (6) x1 := bd_lt_l (bd_nle q106) b103 b105 (by decide)
      have b108 : mm_b (1) (7) v104 := bd_lt_r (bd_nle q106) b103 b105 (by decide)
      refine mw_iconst dX3_isOne_12 ki_1 ?_
      refine mw_goto (tgt := 17) dX3_isOne_13 (by decide) ?_
      exact mw_zret rfl (bd_nar n_1 (by decide)) dX3_isOne_17 rfl rfl ⟨S, _, rfl, rfl, rfl, bd_w n_1 (by decide), Or.inr (bd_w b107 (by decide))⟩
set_option maxRecDepth 100000 in
set_option maxHeartbeats 4000000 in
theorem c_X3_isOne_20 {g : mm_G} (S : mm_S) (hI : JC S) (x1 : Int32) : mc g yX3_isOne cX3_isOne 2 (some .boolean) (mm_rm 0) [.ref 20, .int x1] (mm_enc shC S) (qi shC (fun S1 v => S = S1 ∧ mm_b (0) (1) v ∧ (v = 0 ∨ (mm_b (0) (6) x1)))) := by
  refine mc_of2 (own := RX3) (ini := false) (ls := [(0, .ref 20), (1, .int x1)]) (by decide) (Nat.le_of_ble_eq_true rfl) rfl (by decide) rfl ?_
  refine mw_iload_n dX3_isOne_0 rfl 1 rfl ?_
  refine mw_if_lt (tgt := 16) dX3_isOne_1 (by decide) (fun q101 => ?_) (fun q101 => ?_)
  · skip
    have b102 : mm_b (-2147483648) (-1) x1 := bd_lt_l q101 (bd_all x1) n_0 (by decide)
    refine mw_iconst dX3_isOne_16 ki_0 ?_
    exact mw_zret rfl (bd_nar n_0 (by decide)) dX3_isOne_17 rfl rfl ⟨S, _, rfl, rfl, rfl, bd_w n_0 (by decide), Or.inl rfl⟩
  · skip
    have b103 : mm_b (0) (2147483647) x1 := bd_le_r (bd_nlt q101) n_0 (bd_all x1) (by decide)
    refine mw_iload_n dX3_isOne_4 rfl 1 rfl ?_
    refine mw_aload_n dX3_isOne_5 rfl 0 rfl ?_
    refine tw_geti (j := 2) dX3_isOne_6 shC_20 rfl rfl (by decide) fX3_36 (fun v104 ev104 => ?_)
    have b105 : mm_b (0) (7) v104 := JIC_fld hI ev104 tbC_10 (by decide)
    refine mw_icmp_ge (tgt := 16) dX3_isOne_9 (by decide) (fun q106 => ?_) (fun q106 => ?_)
    · skip
      refine mw_iconst dX3_isOne_16 ki_0 ?_
      exact mw_zret rfl (bd_nar n_0 (by decide)) dX3_isOne_17 rfl rfl ⟨S, _, rfl, rfl, rfl, bd_w n_0 (by decide), Or.inl rfl⟩
    · skip
      have b107 : mm_b (0) (6) x1 := bd_lt_l (bd_nle q106) b103 b105 (by decide)
      have b108 : mm_b (1) (7) v104 := bd_lt_r (bd_nle q106) b103 b105 (by decide)
      refine mw_iconst dX3_isOne_12 ki_1 ?_
      refine mw_goto (tgt := 17) dX3_isOne_13 (by decide) ?_
      exact mw_zret rfl (bd_nar n_1 (by decide)) dX3_isOne_17 rfl rfl ⟨S, _, rfl, rfl, rfl, bd_w n_1 (by decide), Or.inr (bd_w b107 (by decide))⟩
set_option maxRecDepth 100000 in
set_option maxHeartbeats 4000000 in
theorem c_X3_lives_15 {g : mm_G} (S : mm_S) (hI : JC S) (x1 : Int32) : mc g yX3_lives cX3_lives 2 (some .boolean) (mm_rm 0) [.ref 15, .int x1] (mm_enc shC S) (qi shC (fun S1 v => S = S1 ∧ mm_b (0) (1) v ∧ (v = 0 ∨ (mm_b (0) (6) x1)))) := by
  refine mc_of2 (own := RX3) (ini := false) (ls := [(0, .ref 15), (1, .int x1)]) (by decide) (Nat.le_of_ble_eq_true rfl) rfl (by decide) rfl ?_
  refine mw_iload_n dX3_lives_0 rfl 1 rfl ?_
  refine mw_if_lt (tgt := 27) dX3_lives_1 (by decide) (fun q101 => ?_) (fun q101 => ?_)
  · skip
    have b102 : mm_b (-2147483648) (-1) x1 := bd_lt_l q101 (bd_all x1) n_0 (by decide)
    refine mw_iconst dX3_lives_27 ki_0 ?_
    exact mw_zret rfl (bd_nar n_0 (by decide)) dX3_lives_28 rfl rfl ⟨S, _, rfl, rfl, rfl, bd_w n_0 (by decide), Or.inl rfl⟩
  · skip
    have b103 : mm_b (0) (2147483647) x1 := bd_le_r (bd_nlt q101) n_0 (bd_all x1) (by decide)
    refine mw_iload_n dX3_lives_4 rfl 1 rfl ?_
    refine mw_aload_n dX3_lives_5 rfl 0 rfl ?_
    refine tw_geti (j := 2) dX3_lives_6 shC_15 rfl rfl (by decide) fX3_36 (fun v104 ev104 => ?_)
    have b105 : mm_b (0) (7) v104 := JIC_fld hI ev104 tbC_9 (by decide)
    refine mw_icmp_ge (tgt := 27) dX3_lives_9 (by decide) (fun q106 => ?_) (fun q106 => ?_)
    · skip
      refine mw_iconst dX3_lives_27 ki_0 ?_
      exact mw_zret rfl (bd_nar n_0 (by decide)) dX3_lives_28 rfl rfl ⟨S, _, rfl, rfl, rfl, bd_w n_0 (by decide), Or.inl rfl⟩
    · skip
      have b107 : mm_b (0) (6) x1 := bd_lt_l (bd_nle q106) b103 b105 (by decide)
      have b108 : mm_b (1) (7) v104 := bd_lt_r (bd_nle q106) b103 b105 (by decide)
      refine mw_aload_n dX3_lives_12 rfl 0 rfl ?_
      refine tw_geti (j := 0) dX3_lives_13 shC_15 rfl rfl (by decide) fX3_39 (fun v109 ev109 => ?_)
      refine mw_iload_n dX3_lives_16 rfl 1 rfl ?_
      refine mw_ishr dX3_lives_17 (fun v110 ev110 => ?_)
      refine mw_iconst dX3_lives_18 ki_1 ?_
      refine mw_iand dX3_lives_19 (fun v111 ev111 => ?_)
      have b112 : mm_b (0) (1) v111 := bd_andR ev111 n_1 (by decide)
      refine mw_if_eq (tgt := 27) dX3_lives_20 (by decide) (fun q113 => ?_) (fun q113 => ?_)
      · skip
        have b114 : mm_b (0) (0) v111 := bd_eq_l q113 b112 n_0 (by decide)
        refine mw_iconst dX3_lives_27 ki_0 ?_
        exact mw_zret rfl (bd_nar n_0 (by decide)) dX3_lives_28 rfl rfl ⟨S, _, rfl, rfl, rfl, bd_w n_0 (by decide), Or.inl rfl⟩
      · skip
        have b115 : mm_b (1) (1) v111 := bd_ne_l q113 b112 n_0 (by decide)
        refine mw_iconst dX3_lives_23 ki_1 ?_
        refine mw_goto (tgt := 28) dX3_lives_24 (by decide) ?_
        exact mw_zret rfl (bd_nar n_1 (by decide)) dX3_lives_28 rfl rfl ⟨S, _, rfl, rfl, rfl, bd_w n_1 (by decide), Or.inr (bd_w b107 (by decide))⟩
set_option maxRecDepth 100000 in
set_option maxHeartbeats 4000000 in
theorem c_X3_lives_20 {g : mm_G} (S : mm_S) (hI : JC S) (x1 : Int32) : mc g yX3_lives cX3_lives 2 (some .boolean) (mm_rm 0) [.ref 20, .int x1] (mm_enc shC S) (qi shC (fun S1 v => S = S1 ∧ mm_b (0) (1) v ∧ (v = 0 ∨ (mm_b (0) (6) x1)))) := by
  refine mc_of2 (own := RX3) (ini := false) (ls := [(0, .ref 20), (1, .int x1)]) (by decide) (Nat.le_of_ble_eq_true rfl) rfl (by decide) rfl ?_
  refine mw_iload_n dX3_lives_0 rfl 1 rfl ?_
  refine mw_if_lt (tgt := 27) dX3_lives_1 (by decide) (fun q101 => ?_) (fun q101 => ?_)
  · skip
    have b102 : mm_b (-2147483648) (-1) x1 := bd_lt_l q101 (bd_all x1) n_0 (by decide)
    refine mw_iconst dX3_lives_27 ki_0 ?_
    exact mw_zret rfl (bd_nar n_0 (by decide)) dX3_lives_28 rfl rfl ⟨S, _, rfl, rfl, rfl, bd_w n_0 (by decide), Or.inl rfl⟩
  · skip
    have b103 : mm_b (0) (2147483647) x1 := bd_le_r (bd_nlt q101) n_0 (bd_all x1) (by decide)
    refine mw_iload_n dX3_lives_4 rfl 1 rfl ?_
    refine mw_aload_n dX3_lives_5 rfl 0 rfl ?_
    refine tw_geti (j := 2) dX3_lives_6 shC_20 rfl rfl (by decide) fX3_36 (fun v104 ev104 => ?_)
    have b105 : mm_b (0) (7) v104 := JIC_fld hI ev104 tbC_10 (by decide)
    refine mw_icmp_ge (tgt := 27) dX3_lives_9 (by decide) (fun q106 => ?_) (fun q106 => ?_)
    · skip
      refine mw_iconst dX3_lives_27 ki_0 ?_
      exact mw_zret rfl (bd_nar n_0 (by decide)) dX3_lives_28 rfl rfl ⟨S, _, rfl, rfl, rfl, bd_w n_0 (by decide), Or.inl rfl⟩
    · skip
      have b107 : mm_b (0) (6) x1 := bd_lt_l (bd_nle q106) b103 b105 (by decide)
      have b108 : mm_b (1) (7) v104 := bd_lt_r (bd_nle q106) b103 b105 (by decide)
      refine mw_aload_n dX3_lives_12 rfl 0 rfl ?_
      refine tw_geti (j := 0) dX3_lives_13 shC_20 rfl rfl (by decide) fX3_39 (fun v109 ev109 => ?_)
      refine mw_iload_n dX3_lives_16 rfl 1 rfl ?_
      refine mw_ishr dX3_lives_17 (fun v110 ev110 => ?_)
      refine mw_iconst dX3_lives_18 ki_1 ?_
      refine mw_iand dX3_lives_19 (fun v111 ev111 => ?_)
      have b112 : mm_b (0) (1) v111 := bd_andR ev111 n_1 (by decide)
      refine mw_if_eq (tgt := 27) dX3_lives_20 (by decide) (fun q113 => ?_) (fun q113 => ?_)
      · skip
        have b114 : mm_b (0) (0) v111 := bd_eq_l q113 b112 n_0 (by decide)
        refine mw_iconst dX3_lives_27 ki_0 ?_
        exact mw_zret rfl (bd_nar n_0 (by decide)) dX3_lives_28 rfl rfl ⟨S, _, rfl, rfl, rfl, bd_w n_0 (by decide), Or.inl rfl⟩
      · skip
        have b115 : mm_b (1) (1) v111 := bd_ne_l q113 b112 n_0 (by decide)
        refine mw_iconst dX3_lives_23 ki_1 ?_
        refine mw_goto (tgt := 28) dX3_lives_24 (by decide) ?_
        exact mw_zret rfl (bd_nar n_1 (by decide)) dX3_lives_28 rfl rfl ⟨S, _, rfl, rfl, rfl, bd_w n_1 (by decide), Or.inr (bd_w b107 (by decide))⟩
set_option maxRecDepth 100000 in
set_option maxHeartbeats 4000000 in
theorem c_X3_allLive_15 {g : mm_G} (S : mm_S) (hI : JC S) (x1 : Int32) : mc g yX3_allLive cX3_allLive 2 (some .boolean) (mm_rm 0) [.ref 15, .int x1] (mm_enc shC S) (qi shC (fun S1 v => S = S1 ∧ mm_b (0) (1) v ∧ (True))) := by
  refine mc_of2 (own := RX3) (ini := false) (ls := [(0, .ref 15), (1, .int x1)]) (by decide) (Nat.le_of_ble_eq_true rfl) rfl (by decide) rfl ?_
  refine mw_iload_n dX3_allLive_0 rfl 1 rfl ?_
  refine mw_aload_n dX3_allLive_1 rfl 0 rfl ?_
  refine tw_geti (j := 0) dX3_allLive_2 shC_15 rfl rfl (by decide) fX3_39 (fun v101 ev101 => ?_)
  refine mw_iconst dX3_allLive_5 ki_m1 ?_
  refine mw_ixor dX3_allLive_6 (fun v102 ev102 => ?_)
  refine mw_iand dX3_allLive_7 (fun v103 ev103 => ?_)
  refine mw_if_ne (tgt := 15) dX3_allLive_8 (by decide) (fun q104 => ?_) (fun q104 => ?_)
  · skip
    refine mw_iconst dX3_allLive_15 ki_0 ?_
    exact mw_zret rfl (bd_nar n_0 (by decide)) dX3_allLive_16 rfl rfl ⟨S, _, rfl, rfl, rfl, bd_w n_0 (by decide), trivial⟩
  · skip
    have b105 : mm_b (0) (0) v103 := bd_eq_l q104 (bd_all v103) n_0 (by decide)
    refine mw_iconst dX3_allLive_11 ki_1 ?_
    refine mw_goto (tgt := 16) dX3_allLive_12 (by decide) ?_
    exact mw_zret rfl (bd_nar n_1 (by decide)) dX3_allLive_16 rfl rfl ⟨S, _, rfl, rfl, rfl, bd_w n_1 (by decide), trivial⟩
set_option maxRecDepth 100000 in
set_option maxHeartbeats 4000000 in
theorem c_X3_voiceOf_15 {g : mm_G} (S : mm_S) (hI : JC S) (x1 : Int32) : mc g yX3_voiceOf cX3_voiceOf 2 (some .int) (mm_rm 1) [.ref 15, .int x1] (mm_enc shC S) (qi shC (fun S1 v => S = S1 ∧ mm_b (-2147483648) (2147483647) v ∧ (True))) := by
  refine mc_of2 (own := RX3) (ini := false) (ls := [(0, .ref 15), (1, .int x1)]) (by decide) (Nat.le_of_ble_eq_true rfl) rfl (by decide) rfl ?_
  refine mw_aload_n dX3_voiceOf_0 rfl 0 rfl ?_
  refine mw_iload_n dX3_voiceOf_1 rfl 1 rfl ?_
  refine tc_Vi (as := [.int x1]) (st := []) dX3_voiceOf_2 rfl shC_15 rfl rfl mX3_56 t_X3_isOne rfl (Nat.le_of_ble_eq_true rfl) (by decide) (by decide) (c_X3_isOne_15 (g := g) S hI x1) (fun S101 v103 h102 => ?_)
  obtain ⟨rfl, b104, x105⟩ := h102
  refine mw_if_eq (tgt := 17) dX3_voiceOf_5 (by decide) (fun q106 => ?_) (fun q106 => ?_)
  · skip
    have b107 : mm_b (0) (0) v103 := bd_eq_l q106 b104 n_0 (by decide)
    refine mw_bipush dX3_voiceOf_17 kb_9 ?_
    exact mw_iret rfl dX3_voiceOf_19 rfl rfl ⟨S, _, rfl, rfl, rfl, bd_w n_9 (by decide), trivial⟩
  · skip
    have b108 : mm_b (1) (1) v103 := bd_ne_l q106 b104 n_0 (by decide)
    have b109 := Or.resolve_left x105 q106
    refine mw_aload_n dX3_voiceOf_8 rfl 0 rfl ?_
    refine tw_getr (j := 3) dX3_voiceOf_9 shC_15 rfl rfl (by decide) fX3_9 ?_
    refine mw_iload_n dX3_voiceOf_12 rfl 1 rfl ?_
    refine tw_iald dX3_voiceOf_13 shC_16 (bd_in b109 (by decide)) (fun v110 ev110 => ?_)
    refine mw_goto (tgt := 19) dX3_voiceOf_14 (by decide) ?_
    exact mw_iret rfl dX3_voiceOf_19 rfl rfl ⟨S, _, rfl, rfl, rfl, (bd_all v110), trivial⟩
set_option maxRecDepth 100000 in
set_option maxHeartbeats 4000000 in
theorem c_X3_voiceOf_20 {g : mm_G} (S : mm_S) (hI : JC S) (x1 : Int32) : mc g yX3_voiceOf cX3_voiceOf 2 (some .int) (mm_rm 1) [.ref 20, .int x1] (mm_enc shC S) (qi shC (fun S1 v => S = S1 ∧ mm_b (-2147483648) (2147483647) v ∧ (True))) := by
  refine mc_of2 (own := RX3) (ini := false) (ls := [(0, .ref 20), (1, .int x1)]) (by decide) (Nat.le_of_ble_eq_true rfl) rfl (by decide) rfl ?_
  refine mw_aload_n dX3_voiceOf_0 rfl 0 rfl ?_
  refine mw_iload_n dX3_voiceOf_1 rfl 1 rfl ?_
  refine tc_Vi (as := [.int x1]) (st := []) dX3_voiceOf_2 rfl shC_20 rfl rfl mX3_56 t_X3_isOne rfl (Nat.le_of_ble_eq_true rfl) (by decide) (by decide) (c_X3_isOne_20 (g := g) S hI x1) (fun S101 v103 h102 => ?_)
  obtain ⟨rfl, b104, x105⟩ := h102
  refine mw_if_eq (tgt := 17) dX3_voiceOf_5 (by decide) (fun q106 => ?_) (fun q106 => ?_)
  · skip
    have b107 : mm_b (0) (0) v103 := bd_eq_l q106 b104 n_0 (by decide)
    refine mw_bipush dX3_voiceOf_17 kb_9 ?_
    exact mw_iret rfl dX3_voiceOf_19 rfl rfl ⟨S, _, rfl, rfl, rfl, bd_w n_9 (by decide), trivial⟩
  · skip
    have b108 : mm_b (1) (1) v103 := bd_ne_l q106 b104 n_0 (by decide)
    have b109 := Or.resolve_left x105 q106
    refine mw_aload_n dX3_voiceOf_8 rfl 0 rfl ?_
    refine tw_getr (j := 3) dX3_voiceOf_9 shC_20 rfl rfl (by decide) fX3_9 ?_
    refine mw_iload_n dX3_voiceOf_12 rfl 1 rfl ?_
    refine tw_iald dX3_voiceOf_13 shC_21 (bd_in b109 (by decide)) (fun v110 ev110 => ?_)
    refine mw_goto (tgt := 19) dX3_voiceOf_14 (by decide) ?_
    exact mw_iret rfl dX3_voiceOf_19 rfl rfl ⟨S, _, rfl, rfl, rfl, (bd_all v110), trivial⟩
set_option maxRecDepth 100000 in
set_option maxHeartbeats 4000000 in
theorem c_X3_jarOf_15 {g : mm_G} (S : mm_S) (hI : JC S) (x1 : Int32) : mc g yX3_jarOf cX3_jarOf 2 (some .int) (mm_rm 1) [.ref 15, .int x1] (mm_enc shC S) (qi shC (fun S1 v => S = S1 ∧ mm_b (-2147483648) (2147483647) v ∧ (True))) := by
  refine mc_of2 (own := RX3) (ini := false) (ls := [(0, .ref 15), (1, .int x1)]) (by decide) (Nat.le_of_ble_eq_true rfl) rfl (by decide) rfl ?_
  refine mw_aload_n dX3_jarOf_0 rfl 0 rfl ?_
  refine mw_iload_n dX3_jarOf_1 rfl 1 rfl ?_
  refine tc_Vi (as := [.int x1]) (st := []) dX3_jarOf_2 rfl shC_15 rfl rfl mX3_56 t_X3_isOne rfl (Nat.le_of_ble_eq_true rfl) (by decide) (by decide) (c_X3_isOne_15 (g := g) S hI x1) (fun S101 v103 h102 => ?_)
  obtain ⟨rfl, b104, x105⟩ := h102
  refine mw_if_eq (tgt := 17) dX3_jarOf_5 (by decide) (fun q106 => ?_) (fun q106 => ?_)
  · skip
    have b107 : mm_b (0) (0) v103 := bd_eq_l q106 b104 n_0 (by decide)
    refine mw_iconst dX3_jarOf_17 ki_0 ?_
    exact mw_iret rfl dX3_jarOf_18 rfl rfl ⟨S, _, rfl, rfl, rfl, bd_w n_0 (by decide), trivial⟩
  · skip
    have b108 : mm_b (1) (1) v103 := bd_ne_l q106 b104 n_0 (by decide)
    have b109 := Or.resolve_left x105 q106
    refine mw_aload_n dX3_jarOf_8 rfl 0 rfl ?_
    refine tw_getr (j := 4) dX3_jarOf_9 shC_15 rfl rfl (by decide) fX3_15 ?_
    refine mw_iload_n dX3_jarOf_12 rfl 1 rfl ?_
    refine tw_iald dX3_jarOf_13 shC_17 (bd_in b109 (by decide)) (fun v110 ev110 => ?_)
    refine mw_goto (tgt := 18) dX3_jarOf_14 (by decide) ?_
    exact mw_iret rfl dX3_jarOf_18 rfl rfl ⟨S, _, rfl, rfl, rfl, (bd_all v110), trivial⟩
set_option maxRecDepth 100000 in
set_option maxHeartbeats 4000000 in
theorem c_X3_firstHeir_15 {g : mm_G} (S : mm_S) (hI : JC S) (x1 : Int32) : mc g yX3_firstHeir cX3_firstHeir 2 (some .int) (mm_rm 1) [.ref 15, .int x1] (mm_enc shC S) (qi shC (fun S1 v => S = S1 ∧ mm_b (-2147483648) (2147483647) v ∧ (True))) := by
  refine mc_of2 (own := RX3) (ini := false) (ls := [(0, .ref 15), (1, .int x1)]) (by decide) (Nat.le_of_ble_eq_true rfl) rfl (by decide) rfl ?_
  refine mw_aload_n dX3_firstHeir_0 rfl 0 rfl ?_
  refine mw_iload_n dX3_firstHeir_1 rfl 1 rfl ?_
  refine tc_Vi (as := [.int x1]) (st := []) dX3_firstHeir_2 rfl shC_15 rfl rfl mX3_56 t_X3_isOne rfl (Nat.le_of_ble_eq_true rfl) (by decide) (by decide) (c_X3_isOne_15 (g := g) S hI x1) (fun S101 v103 h102 => ?_)
  obtain ⟨rfl, b104, x105⟩ := h102
  refine mw_if_eq (tgt := 17) dX3_firstHeir_5 (by decide) (fun q106 => ?_) (fun q106 => ?_)
  · skip
    have b107 : mm_b (0) (0) v103 := bd_eq_l q106 b104 n_0 (by decide)
    refine mw_bipush dX3_firstHeir_17 kb_9 ?_
    exact mw_iret rfl dX3_firstHeir_19 rfl rfl ⟨S, _, rfl, rfl, rfl, bd_w n_9 (by decide), trivial⟩
  · skip
    have b108 : mm_b (1) (1) v103 := bd_ne_l q106 b104 n_0 (by decide)
    have b109 := Or.resolve_left x105 q106
    refine mw_aload_n dX3_firstHeir_8 rfl 0 rfl ?_
    refine tw_getr (j := 5) dX3_firstHeir_9 shC_15 rfl rfl (by decide) fX3_18 ?_
    refine mw_iload_n dX3_firstHeir_12 rfl 1 rfl ?_
    refine tw_iald dX3_firstHeir_13 shC_18 (bd_in b109 (by decide)) (fun v110 ev110 => ?_)
    refine mw_goto (tgt := 19) dX3_firstHeir_14 (by decide) ?_
    exact mw_iret rfl dX3_firstHeir_19 rfl rfl ⟨S, _, rfl, rfl, rfl, (bd_all v110), trivial⟩
set_option maxRecDepth 100000 in
set_option maxHeartbeats 4000000 in
theorem c_X3_secondHeir_15 {g : mm_G} (S : mm_S) (hI : JC S) (x1 : Int32) : mc g yX3_secondHeir cX3_secondHeir 2 (some .int) (mm_rm 1) [.ref 15, .int x1] (mm_enc shC S) (qi shC (fun S1 v => S = S1 ∧ mm_b (-2147483648) (2147483647) v ∧ (True))) := by
  refine mc_of2 (own := RX3) (ini := false) (ls := [(0, .ref 15), (1, .int x1)]) (by decide) (Nat.le_of_ble_eq_true rfl) rfl (by decide) rfl ?_
  refine mw_aload_n dX3_secondHeir_0 rfl 0 rfl ?_
  refine mw_iload_n dX3_secondHeir_1 rfl 1 rfl ?_
  refine tc_Vi (as := [.int x1]) (st := []) dX3_secondHeir_2 rfl shC_15 rfl rfl mX3_56 t_X3_isOne rfl (Nat.le_of_ble_eq_true rfl) (by decide) (by decide) (c_X3_isOne_15 (g := g) S hI x1) (fun S101 v103 h102 => ?_)
  obtain ⟨rfl, b104, x105⟩ := h102
  refine mw_if_eq (tgt := 17) dX3_secondHeir_5 (by decide) (fun q106 => ?_) (fun q106 => ?_)
  · skip
    have b107 : mm_b (0) (0) v103 := bd_eq_l q106 b104 n_0 (by decide)
    refine mw_bipush dX3_secondHeir_17 kb_9 ?_
    exact mw_iret rfl dX3_secondHeir_19 rfl rfl ⟨S, _, rfl, rfl, rfl, bd_w n_9 (by decide), trivial⟩
  · skip
    have b108 : mm_b (1) (1) v103 := bd_ne_l q106 b104 n_0 (by decide)
    have b109 := Or.resolve_left x105 q106
    refine mw_aload_n dX3_secondHeir_8 rfl 0 rfl ?_
    refine tw_getr (j := 6) dX3_secondHeir_9 shC_15 rfl rfl (by decide) fX3_21 ?_
    refine mw_iload_n dX3_secondHeir_12 rfl 1 rfl ?_
    refine tw_iald dX3_secondHeir_13 shC_19 (bd_in b109 (by decide)) (fun v110 ev110 => ?_)
    refine mw_goto (tgt := 19) dX3_secondHeir_14 (by decide) ?_
    exact mw_iret rfl dX3_secondHeir_19 rfl rfl ⟨S, _, rfl, rfl, rfl, (bd_all v110), trivial⟩
set_option maxRecDepth 100000 in
set_option maxHeartbeats 4000000 in
theorem c_X3_silent_15 {g : mm_G} (S : mm_S) (hI : JC S)  : mc g yX3_silent cX3_silent 3 (some .int) (mm_rm 0) [.ref 15] (mm_enc shC S) (qi shC (fun S1 v => S = S1 ∧ mm_b (0) (127) v ∧ (True))) := by
  refine mc_of2 (own := RX3) (ini := false) (ls := [(0, .ref 15)]) (by decide) (Nat.le_of_ble_eq_true rfl) rfl (by decide) rfl ?_
  refine mw_iconst dX3_silent_0 ki_0 ?_
  refine mw_istore_n (ls' := [(1, .int 0), (0, .ref 15)]) dX3_silent_1 rfl (by decide) rfl ?_
  refine mw_iconst dX3_silent_2 ki_0 ?_
  refine mw_istore_n (ls' := [(2, .int 0), (1, .int 0), (0, .ref 15)]) dX3_silent_3 rfl (by decide) rfl ?_
  have cut4 : ∀ (N4 : Nat) (y101 y103 : Int32), ((8 : Int) - y103.toInt).toNat < N4 → mm_b (0) (127) y101 → mm_b (0) (7) y103 → mw g RX3 cX3_silent 3 (some .int) false (mm_rm 0) (qi shC (fun S1 v => S = S1 ∧ mm_b (0) (127) v ∧ (True))) 0 0 (mm_enc shC S) 4 [(0, .ref 15), (1, .int y101), (2, .int y103)] [] := by
    intro N4
    induction N4 with
    | zero =>
      intro y101 y103 hm105 b102 b104
      exact absurd hm105 (Nat.not_lt_zero _)
    | succ N4 ih4 =>
      intro y101 y103 hm105 b102 b104
      refine mw_iload_n dX3_silent_4 rfl 2 rfl ?_
      refine mw_aload_n dX3_silent_5 rfl 0 rfl ?_
      refine tw_geti (j := 2) dX3_silent_6 shC_15 rfl rfl (by decide) fX3_36 (fun v106 ev106 => ?_)
      have b107 : mm_b (0) (7) v106 := JIC_fld hI ev106 tbC_9 (by decide)
      refine mw_icmp_ge (tgt := 46) dX3_silent_9 (by decide) (fun q108 => ?_) (fun q108 => ?_)
      · skip
        refine mw_iload_n dX3_silent_46 rfl 1 rfl ?_
        exact mw_iret rfl dX3_silent_47 rfl rfl ⟨S, _, rfl, rfl, rfl, b102, trivial⟩
      · skip
        have b109 : mm_b (0) (6) y103 := bd_lt_l (bd_nle q108) b104 b107 (by decide)
        have b110 : mm_b (1) (7) v106 := bd_lt_r (bd_nle q108) b104 b107 (by decide)
        refine mw_aload_n dX3_silent_12 rfl 0 rfl ?_
        refine tw_geti (j := 0) dX3_silent_13 shC_15 rfl rfl (by decide) fX3_39 (fun v111 ev111 => ?_)
        refine mw_iload_n dX3_silent_16 rfl 2 rfl ?_
        refine mw_ishr dX3_silent_17 (fun v112 ev112 => ?_)
        refine mw_iconst dX3_silent_18 ki_1 ?_
        refine mw_iand dX3_silent_19 (fun v113 ev113 => ?_)
        have b114 : mm_b (0) (1) v113 := bd_andR ev113 n_1 (by decide)
        refine mw_if_eq (tgt := 40) dX3_silent_20 (by decide) (fun q115 => ?_) (fun q115 => ?_)
        · skip
          have b116 : mm_b (0) (0) v113 := bd_eq_l q115 b114 n_0 (by decide)
          refine mw_iinc (ls' := fun v => [(2, .int v), (0, .ref 15), (1, .int y101)]) dX3_silent_40 2 rfl (by decide) (fun _ => rfl) (fun v117 ev117 => ?_)
          have b118 : mm_b (1) (7) v117 := bd_inc ev117 b109 (by decide)
          refine mw_goto (tgt := 4) dX3_silent_43 (by decide) ?_
          refine mw_ls [1, 2, 0] rfl ?_
          exact ih4 y101 v117 (ms_inc ev117 b109 (by decide) hm105) b102 (bd_w b118 (by decide))
        · skip
          have b119 : mm_b (1) (1) v113 := bd_ne_l q115 b114 n_0 (by decide)
          refine mw_aload_n dX3_silent_23 rfl 0 rfl ?_
          refine tw_getr (j := 3) dX3_silent_24 shC_15 rfl rfl (by decide) fX3_9 ?_
          refine mw_iload_n dX3_silent_27 rfl 2 rfl ?_
          refine tw_iald dX3_silent_28 shC_16 (bd_in b109 (by decide)) (fun v120 ev120 => ?_)
          refine mw_bipush dX3_silent_29 kb_9 ?_
          refine mw_icmp_ne (tgt := 40) dX3_silent_31 (by decide) (fun q121 => ?_) (fun q121 => ?_)
          · skip
            refine mw_iinc (ls' := fun v => [(2, .int v), (0, .ref 15), (1, .int y101)]) dX3_silent_40 2 rfl (by decide) (fun _ => rfl) (fun v122 ev122 => ?_)
            have b123 : mm_b (1) (7) v122 := bd_inc ev122 b109 (by decide)
            refine mw_goto (tgt := 4) dX3_silent_43 (by decide) ?_
            refine mw_ls [1, 2, 0] rfl ?_
            exact ih4 y101 v122 (ms_inc ev122 b109 (by decide) hm105) b102 (bd_w b123 (by decide))
          · skip
            have b124 : mm_b (9) (9) v120 := bd_eq_l q121 (bd_all v120) n_9 (by decide)
            refine mw_iload_n dX3_silent_34 rfl 1 rfl ?_
            refine mw_iconst dX3_silent_35 ki_1 ?_
            refine mw_iload_n dX3_silent_36 rfl 2 rfl ?_
            refine mw_ishl dX3_silent_37 (fun v125 ev125 => ?_)
            have b126 : mm_b (1) (64) v125 := bd_shl 6 ev125 b109 (by decide)
            refine mw_ior dX3_silent_38 (fun v127 ev127 => ?_)
            have b128 : mm_b (0) (127) v127 := bd_or 7 ev127 b102 b126 (by decide)
            refine mw_istore_n (ls' := [(1, .int v127), (0, .ref 15), (2, .int y103)]) dX3_silent_39 rfl (by decide) rfl ?_
            refine mw_iinc (ls' := fun v => [(2, .int v), (1, .int v127), (0, .ref 15)]) dX3_silent_40 2 rfl (by decide) (fun _ => rfl) (fun v129 ev129 => ?_)
            have b130 : mm_b (1) (7) v129 := bd_inc ev129 b109 (by decide)
            refine mw_goto (tgt := 4) dX3_silent_43 (by decide) ?_
            refine mw_ls [2, 1, 0] rfl ?_
            exact ih4 v127 v129 (ms_inc ev129 b109 (by decide) hm105) b128 (bd_w b130 (by decide))
  refine mw_ls [2, 1, 0] rfl ?_
  exact cut4 _ (0 : Int32) (0 : Int32) (Nat.lt_succ_self _) (bd_w n_0 (by decide)) (bd_w n_0 (by decide))
set_option maxRecDepth 100000 in
set_option maxHeartbeats 4000000 in
theorem c_X3_silent_20 {g : mm_G} (S : mm_S) (hI : JC S)  : mc g yX3_silent cX3_silent 3 (some .int) (mm_rm 0) [.ref 20] (mm_enc shC S) (qi shC (fun S1 v => S = S1 ∧ mm_b (0) (127) v ∧ (True))) := by
  refine mc_of2 (own := RX3) (ini := false) (ls := [(0, .ref 20)]) (by decide) (Nat.le_of_ble_eq_true rfl) rfl (by decide) rfl ?_
  refine mw_iconst dX3_silent_0 ki_0 ?_
  refine mw_istore_n (ls' := [(1, .int 0), (0, .ref 20)]) dX3_silent_1 rfl (by decide) rfl ?_
  refine mw_iconst dX3_silent_2 ki_0 ?_
  refine mw_istore_n (ls' := [(2, .int 0), (1, .int 0), (0, .ref 20)]) dX3_silent_3 rfl (by decide) rfl ?_
  have cut4 : ∀ (N4 : Nat) (y101 y103 : Int32), ((8 : Int) - y103.toInt).toNat < N4 → mm_b (0) (127) y101 → mm_b (0) (7) y103 → mw g RX3 cX3_silent 3 (some .int) false (mm_rm 0) (qi shC (fun S1 v => S = S1 ∧ mm_b (0) (127) v ∧ (True))) 0 0 (mm_enc shC S) 4 [(0, .ref 20), (1, .int y101), (2, .int y103)] [] := by
    intro N4
    induction N4 with
    | zero =>
      intro y101 y103 hm105 b102 b104
      exact absurd hm105 (Nat.not_lt_zero _)
    | succ N4 ih4 =>
      intro y101 y103 hm105 b102 b104
      refine mw_iload_n dX3_silent_4 rfl 2 rfl ?_
      refine mw_aload_n dX3_silent_5 rfl 0 rfl ?_
      refine tw_geti (j := 2) dX3_silent_6 shC_20 rfl rfl (by decide) fX3_36 (fun v106 ev106 => ?_)
      have b107 : mm_b (0) (7) v106 := JIC_fld hI ev106 tbC_10 (by decide)
      refine mw_icmp_ge (tgt := 46) dX3_silent_9 (by decide) (fun q108 => ?_) (fun q108 => ?_)
      · skip
        refine mw_iload_n dX3_silent_46 rfl 1 rfl ?_
        exact mw_iret rfl dX3_silent_47 rfl rfl ⟨S, _, rfl, rfl, rfl, b102, trivial⟩
      · skip
        have b109 : mm_b (0) (6) y103 := bd_lt_l (bd_nle q108) b104 b107 (by decide)
        have b110 : mm_b (1) (7) v106 := bd_lt_r (bd_nle q108) b104 b107 (by decide)
        refine mw_aload_n dX3_silent_12 rfl 0 rfl ?_
        refine tw_geti (j := 0) dX3_silent_13 shC_20 rfl rfl (by decide) fX3_39 (fun v111 ev111 => ?_)
        refine mw_iload_n dX3_silent_16 rfl 2 rfl ?_
        refine mw_ishr dX3_silent_17 (fun v112 ev112 => ?_)
        refine mw_iconst dX3_silent_18 ki_1 ?_
        refine mw_iand dX3_silent_19 (fun v113 ev113 => ?_)
        have b114 : mm_b (0) (1) v113 := bd_andR ev113 n_1 (by decide)
        refine mw_if_eq (tgt := 40) dX3_silent_20 (by decide) (fun q115 => ?_) (fun q115 => ?_)
        · skip
          have b116 : mm_b (0) (0) v113 := bd_eq_l q115 b114 n_0 (by decide)
          refine mw_iinc (ls' := fun v => [(2, .int v), (0, .ref 20), (1, .int y101)]) dX3_silent_40 2 rfl (by decide) (fun _ => rfl) (fun v117 ev117 => ?_)
          have b118 : mm_b (1) (7) v117 := bd_inc ev117 b109 (by decide)
          refine mw_goto (tgt := 4) dX3_silent_43 (by decide) ?_
          refine mw_ls [1, 2, 0] rfl ?_
          exact ih4 y101 v117 (ms_inc ev117 b109 (by decide) hm105) b102 (bd_w b118 (by decide))
        · skip
          have b119 : mm_b (1) (1) v113 := bd_ne_l q115 b114 n_0 (by decide)
          refine mw_aload_n dX3_silent_23 rfl 0 rfl ?_
          refine tw_getr (j := 3) dX3_silent_24 shC_20 rfl rfl (by decide) fX3_9 ?_
          refine mw_iload_n dX3_silent_27 rfl 2 rfl ?_
          refine tw_iald dX3_silent_28 shC_21 (bd_in b109 (by decide)) (fun v120 ev120 => ?_)
          refine mw_bipush dX3_silent_29 kb_9 ?_
          refine mw_icmp_ne (tgt := 40) dX3_silent_31 (by decide) (fun q121 => ?_) (fun q121 => ?_)
          · skip
            refine mw_iinc (ls' := fun v => [(2, .int v), (0, .ref 20), (1, .int y101)]) dX3_silent_40 2 rfl (by decide) (fun _ => rfl) (fun v122 ev122 => ?_)
            have b123 : mm_b (1) (7) v122 := bd_inc ev122 b109 (by decide)
            refine mw_goto (tgt := 4) dX3_silent_43 (by decide) ?_
            refine mw_ls [1, 2, 0] rfl ?_
            exact ih4 y101 v122 (ms_inc ev122 b109 (by decide) hm105) b102 (bd_w b123 (by decide))
          · skip
            have b124 : mm_b (9) (9) v120 := bd_eq_l q121 (bd_all v120) n_9 (by decide)
            refine mw_iload_n dX3_silent_34 rfl 1 rfl ?_
            refine mw_iconst dX3_silent_35 ki_1 ?_
            refine mw_iload_n dX3_silent_36 rfl 2 rfl ?_
            refine mw_ishl dX3_silent_37 (fun v125 ev125 => ?_)
            have b126 : mm_b (1) (64) v125 := bd_shl 6 ev125 b109 (by decide)
            refine mw_ior dX3_silent_38 (fun v127 ev127 => ?_)
            have b128 : mm_b (0) (127) v127 := bd_or 7 ev127 b102 b126 (by decide)
            refine mw_istore_n (ls' := [(1, .int v127), (0, .ref 20), (2, .int y103)]) dX3_silent_39 rfl (by decide) rfl ?_
            refine mw_iinc (ls' := fun v => [(2, .int v), (1, .int v127), (0, .ref 20)]) dX3_silent_40 2 rfl (by decide) (fun _ => rfl) (fun v129 ev129 => ?_)
            have b130 : mm_b (1) (7) v129 := bd_inc ev129 b109 (by decide)
            refine mw_goto (tgt := 4) dX3_silent_43 (by decide) ?_
            refine mw_ls [2, 1, 0] rfl ?_
            exact ih4 v127 v129 (ms_inc ev129 b109 (by decide) hm105) b128 (bd_w b130 (by decide))
  refine mw_ls [2, 1, 0] rfl ?_
  exact cut4 _ (0 : Int32) (0 : Int32) (Nat.lt_succ_self _) (bd_w n_0 (by decide)) (bd_w n_0 (by decide))
set_option maxRecDepth 100000 in
set_option maxHeartbeats 4000000 in
theorem c_X3_held_15 {g : mm_G} (S : mm_S) (hI : JC S)  : mc g yX3_held cX3_held 3 (some .int) (mm_rm 1) [.ref 15] (mm_enc shC S) (qi shC (fun S1 v => S = S1 ∧ mm_b (-2147483648) (2147483647) v ∧ (True))) := by
  refine mc_of2 (own := RX3) (ini := false) (ls := [(0, .ref 15)]) (by decide) (Nat.le_of_ble_eq_true rfl) rfl (by decide) rfl ?_
  refine mw_iconst dX3_held_0 ki_0 ?_
  refine mw_istore_n (ls' := [(1, .int 0), (0, .ref 15)]) dX3_held_1 rfl (by decide) rfl ?_
  refine mw_iconst dX3_held_2 ki_0 ?_
  refine mw_istore_n (ls' := [(2, .int 0), (1, .int 0), (0, .ref 15)]) dX3_held_3 rfl (by decide) rfl ?_
  have cut4 : ∀ (N4 : Nat) (y101 y103 : Int32), ((8 : Int) - y103.toInt).toNat < N4 → mm_b (-2147483648) (2147483647) y101 → mm_b (0) (7) y103 → mw g RX3 cX3_held 3 (some .int) false (mm_rm 1) (qi shC (fun S1 v => S = S1 ∧ mm_b (-2147483648) (2147483647) v ∧ (True))) 0 0 (mm_enc shC S) 4 [(0, .ref 15), (1, .int y101), (2, .int y103)] [] := by
    intro N4
    induction N4 with
    | zero =>
      intro y101 y103 hm105 b102 b104
      exact absurd hm105 (Nat.not_lt_zero _)
    | succ N4 ih4 =>
      intro y101 y103 hm105 b102 b104
      refine mw_iload_n dX3_held_4 rfl 2 rfl ?_
      refine mw_aload_n dX3_held_5 rfl 0 rfl ?_
      refine tw_geti (j := 2) dX3_held_6 shC_15 rfl rfl (by decide) fX3_36 (fun v106 ev106 => ?_)
      have b107 : mm_b (0) (7) v106 := JIC_fld hI ev106 tbC_9 (by decide)
      refine mw_icmp_ge (tgt := 62) dX3_held_9 (by decide) (fun q108 => ?_) (fun q108 => ?_)
      · skip
        refine mw_iload_n dX3_held_62 rfl 1 rfl ?_
        exact mw_iret rfl dX3_held_63 rfl rfl ⟨S, _, rfl, rfl, rfl, b102, trivial⟩
      · skip
        have b109 : mm_b (0) (6) y103 := bd_lt_l (bd_nle q108) b104 b107 (by decide)
        have b110 : mm_b (1) (7) v106 := bd_lt_r (bd_nle q108) b104 b107 (by decide)
        refine mw_aload_n dX3_held_12 rfl 0 rfl ?_
        refine mw_iload_n dX3_held_13 rfl 2 rfl ?_
        refine tc_Vi (as := [.int y103]) (st := []) dX3_held_14 rfl shC_15 rfl rfl mX3_59 t_X3_lives rfl (Nat.le_of_ble_eq_true rfl) (by decide) (by decide) (c_X3_lives_15 (g := g) S hI y103) (fun S111 v113 h112 => ?_)
        obtain ⟨rfl, b114, x115⟩ := h112
        refine mw_if_eq (tgt := 56) dX3_held_17 (by decide) (fun q116 => ?_) (fun q116 => ?_)
        · skip
          have b117 : mm_b (0) (0) v113 := bd_eq_l q116 b114 n_0 (by decide)
          refine mw_iinc (ls' := fun v => [(2, .int v), (0, .ref 15), (1, .int y101)]) dX3_held_56 2 rfl (by decide) (fun _ => rfl) (fun v118 ev118 => ?_)
          have b119 : mm_b (1) (7) v118 := bd_inc ev118 b109 (by decide)
          refine mw_goto (tgt := 4) dX3_held_59 (by decide) ?_
          refine mw_ls [1, 2, 0] rfl ?_
          exact ih4 y101 v118 (ms_inc ev118 b109 (by decide) hm105) b102 (bd_w b119 (by decide))
        · skip
          have b120 : mm_b (1) (1) v113 := bd_ne_l q116 b114 n_0 (by decide)
          have b121 := Or.resolve_left x115 q116
          refine mw_iload_n dX3_held_20 rfl 1 rfl ?_
          refine mw_aload_n dX3_held_21 rfl 0 rfl ?_
          refine tw_getr (j := 4) dX3_held_22 shC_15 rfl rfl (by decide) fX3_15 ?_
          refine mw_iload_n dX3_held_25 rfl 2 rfl ?_
          refine tw_iald dX3_held_26 shC_17 (bd_in b121 (by decide)) (fun v122 ev122 => ?_)
          refine mw_ior dX3_held_27 (fun v123 ev123 => ?_)
          refine mw_istore_n (ls' := [(1, .int v123), (0, .ref 15), (2, .int y103)]) dX3_held_28 rfl (by decide) rfl ?_
          refine mw_iload_n dX3_held_29 rfl 0 rfl ?_
          refine mw_aload_n dX3_held_30 rfl 1 rfl ?_
          refine tw_getr (j := 3) dX3_held_31 shC_15 rfl rfl (by decide) fX3_9 ?_
          refine mw_iload_n dX3_held_34 rfl 2 rfl ?_
          refine tw_iald dX3_held_35 shC_16 (bd_in b121 (by decide)) (fun v124 ev124 => ?_)
          refine tc_SiN (as := [.int v124]) (st := [.int v123]) dX3_held_36 rfl mX3_62 t_X9_isVoiceNumber rfl (Nat.le_of_ble_eq_true rfl) (by decide) (by decide) (c_X9_isVoiceNumber (g := g) S hI v124) (fun S125 v127 h126 => ?_)
          obtain ⟨rfl, b128, x129⟩ := h126
          refine mw_if_eq (tgt := 53) dX3_held_39 (by decide) (fun q130 => ?_) (fun q130 => ?_)
          · skip
            have b131 : mm_b (0) (0) v127 := bd_eq_l q130 b128 n_0 (by decide)
            refine mw_iconst dX3_held_53 ki_0 ?_
            refine mw_ior dX3_held_54 (fun v132 ev132 => ?_)
            refine mw_istore_n (ls' := [(1, .int v132), (0, .ref 15), (2, .int y103)]) dX3_held_55 rfl (by decide) rfl ?_
            refine mw_iinc (ls' := fun v => [(2, .int v), (1, .int v132), (0, .ref 15)]) dX3_held_56 2 rfl (by decide) (fun _ => rfl) (fun v133 ev133 => ?_)
            have b134 : mm_b (1) (7) v133 := bd_inc ev133 b121 (by decide)
            refine mw_goto (tgt := 4) dX3_held_59 (by decide) ?_
            refine mw_ls [2, 1, 0] rfl ?_
            exact ih4 v132 v133 (ms_inc ev133 b121 (by decide) hm105) (bd_all v132) (bd_w b134 (by decide))
          · skip
            have b135 : mm_b (1) (1) v127 := bd_ne_l q130 b128 n_0 (by decide)
            have b136 := Or.resolve_left x129 q130
            refine mw_iconst dX3_held_42 ki_1 ?_
            refine mw_aload_n dX3_held_43 rfl 1 rfl ?_
            refine tw_getr (j := 3) dX3_held_44 shC_15 rfl rfl (by decide) fX3_9 ?_
            refine mw_iload_n dX3_held_47 rfl 2 rfl ?_
            refine tw_iald dX3_held_48 shC_16 (bd_in b121 (by decide)) (fun v137 ev137 => ?_)
            have cv137 : v124 = v137 := ev124.trans ev137.symm
            subst cv137
            refine mw_ishl dX3_held_49 (fun v138 ev138 => ?_)
            have b139 : mm_b (1) (64) v138 := bd_shl 6 ev138 b136 (by decide)
            refine mw_goto (tgt := 54) dX3_held_50 (by decide) ?_
            refine mw_ior dX3_held_54 (fun v140 ev140 => ?_)
            refine mw_istore_n (ls' := [(1, .int v140), (0, .ref 15), (2, .int y103)]) dX3_held_55 rfl (by decide) rfl ?_
            refine mw_iinc (ls' := fun v => [(2, .int v), (1, .int v140), (0, .ref 15)]) dX3_held_56 2 rfl (by decide) (fun _ => rfl) (fun v141 ev141 => ?_)
            have b142 : mm_b (1) (7) v141 := bd_inc ev141 b121 (by decide)
            refine mw_goto (tgt := 4) dX3_held_59 (by decide) ?_
            refine mw_ls [2, 1, 0] rfl ?_
            exact ih4 v140 v141 (ms_inc ev141 b121 (by decide) hm105) (bd_all v140) (bd_w b142 (by decide))
  refine mw_ls [2, 1, 0] rfl ?_
  exact cut4 _ (0 : Int32) (0 : Int32) (Nat.lt_succ_self _) (bd_w n_0 (by decide)) (bd_w n_0 (by decide))
set_option maxRecDepth 100000 in
set_option maxHeartbeats 4000000 in
theorem c_X3_userOf_20 {g : mm_G} (S : mm_S) (hI : JC S) (x1 : Int32) : mc g yX3_userOf cX3_userOf 3 (some .int) (mm_rm 1) [.ref 20, .int x1] (mm_enc shC S) (qi shC (fun S1 v => S = S1 ∧ mm_b (-1) (6) v ∧ (True))) := by
  refine mc_of2 (own := RX3) (ini := false) (ls := [(0, .ref 20), (1, .int x1)]) (by decide) (Nat.le_of_ble_eq_true rfl) rfl (by decide) rfl ?_
  refine mw_iconst dX3_userOf_0 ki_0 ?_
  refine mw_istore_n (ls' := [(2, .int 0), (0, .ref 20), (1, .int x1)]) dX3_userOf_1 rfl (by decide) rfl ?_
  have cut2 : ∀ (N2 : Nat) (y101 : Int32), ((8 : Int) - y101.toInt).toNat < N2 → mm_b (0) (7) y101 → mw g RX3 cX3_userOf 3 (some .int) false (mm_rm 1) (qi shC (fun S1 v => S = S1 ∧ mm_b (-1) (6) v ∧ (True))) 0 0 (mm_enc shC S) 2 [(0, .ref 20), (1, .int x1), (2, .int y101)] [] := by
    intro N2
    induction N2 with
    | zero =>
      intro y101 hm103 b102
      exact absurd hm103 (Nat.not_lt_zero _)
    | succ N2 ih2 =>
      intro y101 hm103 b102
      refine mw_iload_n dX3_userOf_2 rfl 2 rfl ?_
      refine mw_aload_n dX3_userOf_3 rfl 0 rfl ?_
      refine tw_geti (j := 2) dX3_userOf_4 shC_20 rfl rfl (by decide) fX3_36 (fun v104 ev104 => ?_)
      have b105 : mm_b (0) (7) v104 := JIC_fld hI ev104 tbC_10 (by decide)
      refine mw_icmp_ge (tgt := 36) dX3_userOf_7 (by decide) (fun q106 => ?_) (fun q106 => ?_)
      · skip
        refine mw_iconst dX3_userOf_36 ki_m1 ?_
        exact mw_iret rfl dX3_userOf_37 rfl rfl ⟨S, _, rfl, rfl, rfl, bd_w n_m1 (by decide), trivial⟩
      · skip
        have b107 : mm_b (0) (6) y101 := bd_lt_l (bd_nle q106) b102 b105 (by decide)
        have b108 : mm_b (1) (7) v104 := bd_lt_r (bd_nle q106) b102 b105 (by decide)
        refine mw_aload_n dX3_userOf_10 rfl 0 rfl ?_
        refine mw_iload_n dX3_userOf_11 rfl 2 rfl ?_
        refine tc_Vi (as := [.int y101]) (st := []) dX3_userOf_12 rfl shC_20 rfl rfl mX3_59 t_X3_lives rfl (Nat.le_of_ble_eq_true rfl) (by decide) (by decide) (c_X3_lives_20 (g := g) S hI y101) (fun S109 v111 h110 => ?_)
        obtain ⟨rfl, b112, x113⟩ := h110
        refine mw_if_eq (tgt := 30) dX3_userOf_15 (by decide) (fun q114 => ?_) (fun q114 => ?_)
        · skip
          have b115 : mm_b (0) (0) v111 := bd_eq_l q114 b112 n_0 (by decide)
          refine mw_iinc (ls' := fun v => [(2, .int v), (0, .ref 20), (1, .int x1)]) dX3_userOf_30 2 rfl (by decide) (fun _ => rfl) (fun v116 ev116 => ?_)
          have b117 : mm_b (1) (7) v116 := bd_inc ev116 b107 (by decide)
          refine mw_goto (tgt := 2) dX3_userOf_33 (by decide) ?_
          refine mw_ls [1, 2, 0] rfl ?_
          exact ih2 v116 (ms_inc ev116 b107 (by decide) hm103) (bd_w b117 (by decide))
        · skip
          have b118 : mm_b (1) (1) v111 := bd_ne_l q114 b112 n_0 (by decide)
          have b119 := Or.resolve_left x113 q114
          refine mw_aload_n dX3_userOf_18 rfl 0 rfl ?_
          refine tw_getr (j := 3) dX3_userOf_19 shC_20 rfl rfl (by decide) fX3_9 ?_
          refine mw_iload_n dX3_userOf_22 rfl 2 rfl ?_
          refine tw_iald dX3_userOf_23 shC_21 (bd_in b119 (by decide)) (fun v120 ev120 => ?_)
          refine mw_iload_n dX3_userOf_24 rfl 1 rfl ?_
          refine mw_icmp_ne (tgt := 30) dX3_userOf_25 (by decide) (fun q121 => ?_) (fun q121 => ?_)
          · skip
            refine mw_iinc (ls' := fun v => [(2, .int v), (0, .ref 20), (1, .int x1)]) dX3_userOf_30 2 rfl (by decide) (fun _ => rfl) (fun v122 ev122 => ?_)
            have b123 : mm_b (1) (7) v122 := bd_inc ev122 b119 (by decide)
            refine mw_goto (tgt := 2) dX3_userOf_33 (by decide) ?_
            refine mw_ls [1, 2, 0] rfl ?_
            exact ih2 v122 (ms_inc ev122 b119 (by decide) hm103) (bd_w b123 (by decide))
          · skip
            refine mw_iload_n dX3_userOf_28 rfl 2 rfl ?_
            exact mw_iret rfl dX3_userOf_29 rfl rfl ⟨S, _, rfl, rfl, rfl, bd_w b119 (by decide), trivial⟩
  refine mw_ls [1, 2, 0] rfl ?_
  exact cut2 _ (0 : Int32) (Nat.lt_succ_self _) (bd_w n_0 (by decide))
set_option maxRecDepth 100000 in
set_option maxHeartbeats 4000000 in
theorem c_X3_usersOf_15 {g : mm_G} (S : mm_S) (hI : JC S) (x1 : Int32) : mc g yX3_usersOf cX3_usersOf 4 (some .int) (mm_rm 1) [.ref 15, .int x1] (mm_enc shC S) (qi shC (fun S1 v => S = S1 ∧ mm_b (0) (127) v ∧ (True))) := by
  refine mc_of2 (own := RX3) (ini := false) (ls := [(0, .ref 15), (1, .int x1)]) (by decide) (Nat.le_of_ble_eq_true rfl) rfl (by decide) rfl ?_
  refine mw_iconst dX3_usersOf_0 ki_0 ?_
  refine mw_istore_n (ls' := [(2, .int 0), (0, .ref 15), (1, .int x1)]) dX3_usersOf_1 rfl (by decide) rfl ?_
  refine mw_iconst dX3_usersOf_2 ki_0 ?_
  refine mw_istore_n (ls' := [(3, .int 0), (2, .int 0), (0, .ref 15), (1, .int x1)]) dX3_usersOf_3 rfl (by decide) rfl ?_
  have cut4 : ∀ (N4 : Nat) (y101 y103 : Int32), ((8 : Int) - y103.toInt).toNat < N4 → mm_b (0) (127) y101 → mm_b (0) (7) y103 → mw g RX3 cX3_usersOf 4 (some .int) false (mm_rm 1) (qi shC (fun S1 v => S = S1 ∧ mm_b (0) (127) v ∧ (True))) 0 0 (mm_enc shC S) 4 [(0, .ref 15), (1, .int x1), (2, .int y101), (3, .int y103)] [] := by
    intro N4
    induction N4 with
    | zero =>
      intro y101 y103 hm105 b102 b104
      exact absurd hm105 (Nat.not_lt_zero _)
    | succ N4 ih4 =>
      intro y101 y103 hm105 b102 b104
      refine mw_iload_n dX3_usersOf_4 rfl 3 rfl ?_
      refine mw_aload_n dX3_usersOf_5 rfl 0 rfl ?_
      refine tw_geti (j := 2) dX3_usersOf_6 shC_15 rfl rfl (by decide) fX3_36 (fun v106 ev106 => ?_)
      have b107 : mm_b (0) (7) v106 := JIC_fld hI ev106 tbC_9 (by decide)
      refine mw_icmp_ge (tgt := 45) dX3_usersOf_9 (by decide) (fun q108 => ?_) (fun q108 => ?_)
      · skip
        refine mw_iload_n dX3_usersOf_45 rfl 2 rfl ?_
        exact mw_iret rfl dX3_usersOf_46 rfl rfl ⟨S, _, rfl, rfl, rfl, b102, trivial⟩
      · skip
        have b109 : mm_b (0) (6) y103 := bd_lt_l (bd_nle q108) b104 b107 (by decide)
        have b110 : mm_b (1) (7) v106 := bd_lt_r (bd_nle q108) b104 b107 (by decide)
        refine mw_aload_n dX3_usersOf_12 rfl 0 rfl ?_
        refine mw_iload_n dX3_usersOf_13 rfl 3 rfl ?_
        refine tc_Vi (as := [.int y103]) (st := []) dX3_usersOf_14 rfl shC_15 rfl rfl mX3_59 t_X3_lives rfl (Nat.le_of_ble_eq_true rfl) (by decide) (by decide) (c_X3_lives_15 (g := g) S hI y103) (fun S111 v113 h112 => ?_)
        obtain ⟨rfl, b114, x115⟩ := h112
        refine mw_if_eq (tgt := 39) dX3_usersOf_17 (by decide) (fun q116 => ?_) (fun q116 => ?_)
        · skip
          have b117 : mm_b (0) (0) v113 := bd_eq_l q116 b114 n_0 (by decide)
          refine mw_iinc (ls' := fun v => [(3, .int v), (0, .ref 15), (1, .int x1), (2, .int y101)]) dX3_usersOf_39 3 rfl (by decide) (fun _ => rfl) (fun v118 ev118 => ?_)
          have b119 : mm_b (1) (7) v118 := bd_inc ev118 b109 (by decide)
          refine mw_goto (tgt := 4) dX3_usersOf_42 (by decide) ?_
          refine mw_ls [1, 2, 3, 0] rfl ?_
          exact ih4 y101 v118 (ms_inc ev118 b109 (by decide) hm105) b102 (bd_w b119 (by decide))
        · skip
          have b120 : mm_b (1) (1) v113 := bd_ne_l q116 b114 n_0 (by decide)
          have b121 := Or.resolve_left x115 q116
          refine mw_iload_n dX3_usersOf_20 rfl 1 rfl ?_
          refine mw_aload_n dX3_usersOf_21 rfl 0 rfl ?_
          refine tw_getr (j := 3) dX3_usersOf_22 shC_15 rfl rfl (by decide) fX3_9 ?_
          refine mw_iload_n dX3_usersOf_25 rfl 3 rfl ?_
          refine tw_iald dX3_usersOf_26 shC_16 (bd_in b121 (by decide)) (fun v122 ev122 => ?_)
          refine tc_SiN (as := [.int x1, .int v122]) (st := []) dX3_usersOf_27 rfl mX3_65 t_X9_isIn rfl (Nat.le_of_ble_eq_true rfl) (by decide) (by decide) (c_X9_isIn (g := g) S hI x1 v122) (fun S123 v125 h124 => ?_)
          obtain ⟨rfl, b126, x127⟩ := h124
          refine mw_if_eq (tgt := 39) dX3_usersOf_30 (by decide) (fun q128 => ?_) (fun q128 => ?_)
          · skip
            have b129 : mm_b (0) (0) v125 := bd_eq_l q128 b126 n_0 (by decide)
            refine mw_iinc (ls' := fun v => [(3, .int v), (0, .ref 15), (1, .int x1), (2, .int y101)]) dX3_usersOf_39 3 rfl (by decide) (fun _ => rfl) (fun v130 ev130 => ?_)
            have b131 : mm_b (1) (7) v130 := bd_inc ev130 b121 (by decide)
            refine mw_goto (tgt := 4) dX3_usersOf_42 (by decide) ?_
            refine mw_ls [1, 2, 3, 0] rfl ?_
            exact ih4 y101 v130 (ms_inc ev130 b121 (by decide) hm105) b102 (bd_w b131 (by decide))
          · skip
            have b132 : mm_b (1) (1) v125 := bd_ne_l q128 b126 n_0 (by decide)
            have b133 := Or.resolve_left x127 q128
            refine mw_iload_n dX3_usersOf_33 rfl 2 rfl ?_
            refine mw_iconst dX3_usersOf_34 ki_1 ?_
            refine mw_iload_n dX3_usersOf_35 rfl 3 rfl ?_
            refine mw_ishl dX3_usersOf_36 (fun v134 ev134 => ?_)
            have b135 : mm_b (1) (64) v134 := bd_shl 6 ev134 b121 (by decide)
            refine mw_ior dX3_usersOf_37 (fun v136 ev136 => ?_)
            have b137 : mm_b (0) (127) v136 := bd_or 7 ev136 b102 b135 (by decide)
            refine mw_istore_n (ls' := [(2, .int v136), (0, .ref 15), (1, .int x1), (3, .int y103)]) dX3_usersOf_38 rfl (by decide) rfl ?_
            refine mw_iinc (ls' := fun v => [(3, .int v), (2, .int v136), (0, .ref 15), (1, .int x1)]) dX3_usersOf_39 3 rfl (by decide) (fun _ => rfl) (fun v138 ev138 => ?_)
            have b139 : mm_b (1) (7) v138 := bd_inc ev138 b121 (by decide)
            refine mw_goto (tgt := 4) dX3_usersOf_42 (by decide) ?_
            refine mw_ls [2, 3, 1, 0] rfl ?_
            exact ih4 v136 v138 (ms_inc ev138 b121 (by decide) hm105) b137 (bd_w b139 (by decide))
  refine mw_ls [2, 3, 1, 0] rfl ?_
  exact cut4 _ (0 : Int32) (0 : Int32) (Nat.lt_succ_self _) (bd_w n_0 (by decide)) (bd_w n_0 (by decide))
set_option maxRecDepth 100000 in
set_option maxHeartbeats 4000000 in
theorem c_X3_leastOf {g : mm_G} (S : mm_S) (hI : JC S) (x0 : Int32) : mc g yX3_leastOf cX3_leastOf 1 (some .int) (mm_rm 1) [.int x0] (mm_enc shC S) (qi shC (fun S1 v => S = S1 ∧ mm_b (-2147483648) (2147483647) v ∧ (True))) := by
  refine mc_of2 (own := RX3) (ini := false) (ls := [(0, .int x0)]) (by decide) (Nat.le_of_ble_eq_true rfl) rfl (by decide) rfl ?_
  refine mw_iload_n dX3_leastOf_0 rfl 0 rfl ?_
  refine mw_if_ne (tgt := 8) dX3_leastOf_1 (by decide) (fun q101 => ?_) (fun q101 => ?_)
  · skip
    refine mw_iload_n dX3_leastOf_8 rfl 0 rfl ?_
    refine tc_Si (as := [.int x0]) (st := []) dX3_leastOf_9 rfl mX3_83 t_J6_numberOfTrailingZeros_0f7a4 rfl (Nat.le_of_ble_eq_true rfl) (by decide) (by decide) (c_Jntz (g := g) S hI x0) (fun S102 v104 h103 => ?_)
    obtain ⟨rfl, b105, x106⟩ := h103
    exact mw_iret rfl dX3_leastOf_12 rfl rfl ⟨S, _, rfl, rfl, rfl, b105, trivial⟩
  · skip
    have b107 : mm_b (0) (0) x0 := bd_eq_l q101 (bd_all x0) n_0 (by decide)
    refine mw_iconst dX3_leastOf_4 ki_m1 ?_
    refine mw_goto (tgt := 12) dX3_leastOf_5 (by decide) ?_
    exact mw_iret rfl dX3_leastOf_12 rfl rfl ⟨S, _, rfl, rfl, rfl, bd_w n_m1 (by decide), trivial⟩
set_option maxRecDepth 100000 in
set_option maxHeartbeats 4000000 in
theorem c_X3_firstAlive_15 {g : mm_G} (S : mm_S) (hI : JC S) (x1 : Int32) (x2 : Int32) : mc g yX3_firstAlive cX3_firstAlive 3 (some .int) (mm_rm 2) [.ref 15, .int x1, .int x2] (mm_enc shC S) (qi shC (fun S1 v => S = S1 ∧ mm_b (-2147483648) (2147483647) v ∧ (True))) := by
  refine mc_of2 (own := RX3) (ini := false) (ls := [(0, .ref 15), (1, .int x1), (2, .int x2)]) (by decide) (Nat.le_of_ble_eq_true rfl) rfl (by decide) rfl ?_
  refine mw_aload_n dX3_firstAlive_0 rfl 0 rfl ?_
  refine mw_iload_n dX3_firstAlive_1 rfl 1 rfl ?_
  refine tc_Vi (as := [.int x1]) (st := []) dX3_firstAlive_2 rfl shC_15 rfl rfl mX3_59 t_X3_lives rfl (Nat.le_of_ble_eq_true rfl) (by decide) (by decide) (c_X3_lives_15 (g := g) S hI x1) (fun S101 v103 h102 => ?_)
  obtain ⟨rfl, b104, x105⟩ := h102
  refine mw_if_eq (tgt := 10) dX3_firstAlive_5 (by decide) (fun q106 => ?_) (fun q106 => ?_)
  · skip
    have b107 : mm_b (0) (0) v103 := bd_eq_l q106 b104 n_0 (by decide)
    refine mw_aload_n dX3_firstAlive_10 rfl 0 rfl ?_
    refine mw_iload_n dX3_firstAlive_11 rfl 2 rfl ?_
    refine tc_Vi (as := [.int x2]) (st := []) dX3_firstAlive_12 rfl shC_15 rfl rfl mX3_59 t_X3_lives rfl (Nat.le_of_ble_eq_true rfl) (by decide) (by decide) (c_X3_lives_15 (g := g) S hI x2) (fun S108 v110 h109 => ?_)
    obtain ⟨rfl, b111, x112⟩ := h109
    refine mw_if_eq (tgt := 22) dX3_firstAlive_15 (by decide) (fun q113 => ?_) (fun q113 => ?_)
    · skip
      have b114 : mm_b (0) (0) v110 := bd_eq_l q113 b111 n_0 (by decide)
      refine mw_aload_n dX3_firstAlive_22 rfl 0 rfl ?_
      refine tc_Vi (as := []) (st := []) dX3_firstAlive_23 rfl shC_15 rfl rfl mX3_76 t_X3_silent rfl (Nat.le_of_ble_eq_true rfl) (by decide) (by decide) (c_X3_silent_15 (g := g) S hI) (fun S115 v117 h116 => ?_)
      obtain ⟨rfl, b118, x119⟩ := h116
      refine tc_Si (as := [.int v117]) (st := []) dX3_firstAlive_26 rfl mX3_80 t_X3_leastOf rfl (Nat.le_of_ble_eq_true rfl) (by decide) (by decide) (c_X3_leastOf (g := g) S hI v117) (fun S120 v122 h121 => ?_)
      obtain ⟨rfl, b123, x124⟩ := h121
      exact mw_iret rfl dX3_firstAlive_29 rfl rfl ⟨S, _, rfl, rfl, rfl, b123, trivial⟩
    · skip
      have b125 : mm_b (1) (1) v110 := bd_ne_l q113 b111 n_0 (by decide)
      have b126 := Or.resolve_left x112 q113
      refine mw_iload_n dX3_firstAlive_18 rfl 2 rfl ?_
      refine mw_goto (tgt := 29) dX3_firstAlive_19 (by decide) ?_
      exact mw_iret rfl dX3_firstAlive_29 rfl rfl ⟨S, _, rfl, rfl, rfl, bd_w b126 (by decide), trivial⟩
  · skip
    have b127 : mm_b (1) (1) v103 := bd_ne_l q106 b104 n_0 (by decide)
    have b128 := Or.resolve_left x105 q106
    refine mw_iload_n dX3_firstAlive_8 rfl 1 rfl ?_
    exact mw_iret rfl dX3_firstAlive_9 rfl rfl ⟨S, _, rfl, rfl, rfl, bd_w b128 (by decide), trivial⟩
set_option maxRecDepth 100000 in
set_option maxHeartbeats 4000000 in
theorem c_X3_firstAlive_20 {g : mm_G} (S : mm_S) (hI : JC S) (x1 : Int32) (x2 : Int32) : mc g yX3_firstAlive cX3_firstAlive 3 (some .int) (mm_rm 2) [.ref 20, .int x1, .int x2] (mm_enc shC S) (qi shC (fun S1 v => S = S1 ∧ mm_b (-2147483648) (2147483647) v ∧ (True))) := by
  refine mc_of2 (own := RX3) (ini := false) (ls := [(0, .ref 20), (1, .int x1), (2, .int x2)]) (by decide) (Nat.le_of_ble_eq_true rfl) rfl (by decide) rfl ?_
  refine mw_aload_n dX3_firstAlive_0 rfl 0 rfl ?_
  refine mw_iload_n dX3_firstAlive_1 rfl 1 rfl ?_
  refine tc_Vi (as := [.int x1]) (st := []) dX3_firstAlive_2 rfl shC_20 rfl rfl mX3_59 t_X3_lives rfl (Nat.le_of_ble_eq_true rfl) (by decide) (by decide) (c_X3_lives_20 (g := g) S hI x1) (fun S101 v103 h102 => ?_)
  obtain ⟨rfl, b104, x105⟩ := h102
  refine mw_if_eq (tgt := 10) dX3_firstAlive_5 (by decide) (fun q106 => ?_) (fun q106 => ?_)
  · skip
    have b107 : mm_b (0) (0) v103 := bd_eq_l q106 b104 n_0 (by decide)
    refine mw_aload_n dX3_firstAlive_10 rfl 0 rfl ?_
    refine mw_iload_n dX3_firstAlive_11 rfl 2 rfl ?_
    refine tc_Vi (as := [.int x2]) (st := []) dX3_firstAlive_12 rfl shC_20 rfl rfl mX3_59 t_X3_lives rfl (Nat.le_of_ble_eq_true rfl) (by decide) (by decide) (c_X3_lives_20 (g := g) S hI x2) (fun S108 v110 h109 => ?_)
    obtain ⟨rfl, b111, x112⟩ := h109
    refine mw_if_eq (tgt := 22) dX3_firstAlive_15 (by decide) (fun q113 => ?_) (fun q113 => ?_)
    · skip
      have b114 : mm_b (0) (0) v110 := bd_eq_l q113 b111 n_0 (by decide)
      refine mw_aload_n dX3_firstAlive_22 rfl 0 rfl ?_
      refine tc_Vi (as := []) (st := []) dX3_firstAlive_23 rfl shC_20 rfl rfl mX3_76 t_X3_silent rfl (Nat.le_of_ble_eq_true rfl) (by decide) (by decide) (c_X3_silent_20 (g := g) S hI) (fun S115 v117 h116 => ?_)
      obtain ⟨rfl, b118, x119⟩ := h116
      refine tc_Si (as := [.int v117]) (st := []) dX3_firstAlive_26 rfl mX3_80 t_X3_leastOf rfl (Nat.le_of_ble_eq_true rfl) (by decide) (by decide) (c_X3_leastOf (g := g) S hI v117) (fun S120 v122 h121 => ?_)
      obtain ⟨rfl, b123, x124⟩ := h121
      exact mw_iret rfl dX3_firstAlive_29 rfl rfl ⟨S, _, rfl, rfl, rfl, b123, trivial⟩
    · skip
      have b125 : mm_b (1) (1) v110 := bd_ne_l q113 b111 n_0 (by decide)
      have b126 := Or.resolve_left x112 q113
      refine mw_iload_n dX3_firstAlive_18 rfl 2 rfl ?_
      refine mw_goto (tgt := 29) dX3_firstAlive_19 (by decide) ?_
      exact mw_iret rfl dX3_firstAlive_29 rfl rfl ⟨S, _, rfl, rfl, rfl, bd_w b126 (by decide), trivial⟩
  · skip
    have b127 : mm_b (1) (1) v103 := bd_ne_l q106 b104 n_0 (by decide)
    have b128 := Or.resolve_left x105 q106
    refine mw_iload_n dX3_firstAlive_8 rfl 1 rfl ?_
    exact mw_iret rfl dX3_firstAlive_9 rfl rfl ⟨S, _, rfl, rfl, rfl, bd_w b128 (by decide), trivial⟩
set_option maxRecDepth 100000 in
set_option maxHeartbeats 4000000 in
theorem c_X3_give_15 {g : mm_G} (S : mm_S) (hI : JC S) (x1 : Int32) (x2 : Int32) : mc g yX3_give cX3_give 3 none (mm_rm 1) [.ref 15, .int x1, .int x2] (mm_enc shC S) (qv shC (fun S1 => JC S1 ∧ fr [16, 17] [] true true S S1 ∧ True)) := by
  refine mc_of2 (own := RX3) (ini := false) (ls := [(0, .ref 15), (1, .int x1), (2, .int x2)]) (by decide) (Nat.le_of_ble_eq_true rfl) rfl (by decide) rfl ?_
  have hF : fr [16, 17] [] true true S S := fr_rf
  refine mw_aload_n dX3_give_0 rfl 0 rfl ?_
  refine mw_iload_n dX3_give_1 rfl 1 rfl ?_
  refine tc_Vi (as := [.int x1]) (st := []) dX3_give_2 rfl shC_15 rfl rfl mX3_59 t_X3_lives rfl (Nat.le_of_ble_eq_true rfl) (by decide) (by decide) (c_X3_lives_15 (g := g) S hI x1) (fun S101 v103 h102 => ?_)
  obtain ⟨rfl, b104, x105⟩ := h102
  refine mw_if_eq (tgt := 44) dX3_give_5 (by decide) (fun q106 => ?_) (fun q106 => ?_)
  · skip
    have b107 : mm_b (0) (0) v103 := bd_eq_l q106 b104 n_0 (by decide)
    exact mw_vret rfl dX3_give_44 rfl rfl ⟨S, rfl, rfl, ⟨hI, hF, trivial⟩⟩
  · skip
    have b108 : mm_b (1) (1) v103 := bd_ne_l q106 b104 n_0 (by decide)
    have b109 := Or.resolve_left x105 q106
    refine mw_aload_n dX3_give_8 rfl 0 rfl ?_
    refine tw_getr (j := 3) dX3_give_9 shC_15 rfl rfl (by decide) fX3_9 ?_
    refine mw_iload_n dX3_give_12 rfl 1 rfl ?_
    refine tw_iald dX3_give_13 shC_16 (bd_in b109 (by decide)) (fun v110 ev110 => ?_)
    refine tc_SiN (as := [.int v110]) (st := []) dX3_give_14 rfl mX3_62 t_X9_isVoiceNumber rfl (Nat.le_of_ble_eq_true rfl) (by decide) (by decide) (c_X9_isVoiceNumber (g := g) S hI v110) (fun S111 v113 h112 => ?_)
    obtain ⟨rfl, b114, x115⟩ := h112
    refine mw_if_eq (tgt := 37) dX3_give_17 (by decide) (fun q116 => ?_) (fun q116 => ?_)
    · skip
      have b117 : mm_b (0) (0) v113 := bd_eq_l q116 b114 n_0 (by decide)
      refine mw_aload_n dX3_give_37 rfl 0 rfl ?_
      refine tw_getr (j := 3) dX3_give_38 shC_15 rfl rfl (by decide) fX3_9 ?_
      refine mw_iload_n dX3_give_41 rfl 1 rfl ?_
      refine mw_iload_n dX3_give_42 rfl 2 rfl ?_
      refine tw_iast dX3_give_43 shC_16 (bd_in b109 (by decide)) ?_
      have hI118 : JC (mm_up S 16 x1.toNatClampNeg x2) := JIC_puta hI (bd_all x2) b109 (by decide) (by decide +kernel)
      generalize hS119 : (mm_up S 16 x1.toNatClampNeg x2) = S119 at hI118 ⊢
      have hF120 := fr_upA hF hS119 (by decide)
      exact mw_vret rfl dX3_give_44 rfl rfl ⟨S119, rfl, rfl, ⟨hI118, hF120, trivial⟩⟩
    · skip
      have b121 : mm_b (1) (1) v113 := bd_ne_l q116 b114 n_0 (by decide)
      have b122 := Or.resolve_left x115 q116
      refine mw_aload_n dX3_give_20 rfl 0 rfl ?_
      refine tw_getr (j := 4) dX3_give_21 shC_15 rfl rfl (by decide) fX3_15 ?_
      refine mw_iload_n dX3_give_24 rfl 1 rfl ?_
      refine mw_dup2 dX3_give_25 rfl rfl ?_
      refine tw_iald dX3_give_26 shC_17 (bd_in b109 (by decide)) (fun v123 ev123 => ?_)
      refine mw_iconst dX3_give_27 ki_1 ?_
      refine mw_aload_n dX3_give_28 rfl 0 rfl ?_
      refine tw_getr (j := 3) dX3_give_29 shC_15 rfl rfl (by decide) fX3_9 ?_
      refine mw_iload_n dX3_give_32 rfl 1 rfl ?_
      refine tw_iald dX3_give_33 shC_16 (bd_in b109 (by decide)) (fun v124 ev124 => ?_)
      have cv124 : v110 = v124 := ev110.trans ev124.symm
      subst cv124
      refine mw_ishl dX3_give_34 (fun v125 ev125 => ?_)
      have b126 : mm_b (1) (64) v125 := bd_shl 6 ev125 b122 (by decide)
      refine mw_ior dX3_give_35 (fun v127 ev127 => ?_)
      refine tw_iast dX3_give_36 shC_17 (bd_in b109 (by decide)) ?_
      have hI128 : JC (mm_up S 17 x1.toNatClampNeg v127) := JIC_puta hI (bd_all v127) b109 (by decide) (by decide +kernel)
      generalize hS129 : (mm_up S 17 x1.toNatClampNeg v127) = S129 at hI128 ⊢
      have hF130 := fr_upA hF hS129 (by decide)
      refine mw_aload_n dX3_give_37 rfl 0 rfl ?_
      refine tw_getr (j := 3) dX3_give_38 shC_15 rfl rfl (by decide) fX3_9 ?_
      refine mw_iload_n dX3_give_41 rfl 1 rfl ?_
      refine mw_iload_n dX3_give_42 rfl 2 rfl ?_
      refine tw_iast dX3_give_43 shC_16 (bd_in b109 (by decide)) ?_
      have hI131 : JC (mm_up S129 16 x1.toNatClampNeg x2) := JIC_puta hI128 (bd_all x2) b109 (by decide) (by decide +kernel)
      generalize hS132 : (mm_up S129 16 x1.toNatClampNeg x2) = S132 at hI131 ⊢
      have hF133 := fr_upA hF130 hS132 (by decide)
      exact mw_vret rfl dX3_give_44 rfl rfl ⟨S132, rfl, rfl, ⟨hI131, hF133, trivial⟩⟩
set_option maxRecDepth 100000 in
set_option maxHeartbeats 4000000 in
theorem c_X3_give_20 {g : mm_G} (S : mm_S) (hI : JC S) (x1 : Int32) (x2 : Int32) : mc g yX3_give cX3_give 3 none (mm_rm 1) [.ref 20, .int x1, .int x2] (mm_enc shC S) (qv shC (fun S1 => JC S1 ∧ fr [21, 22] [] true true S S1 ∧ True)) := by
  refine mc_of2 (own := RX3) (ini := false) (ls := [(0, .ref 20), (1, .int x1), (2, .int x2)]) (by decide) (Nat.le_of_ble_eq_true rfl) rfl (by decide) rfl ?_
  have hF : fr [21, 22] [] true true S S := fr_rf
  refine mw_aload_n dX3_give_0 rfl 0 rfl ?_
  refine mw_iload_n dX3_give_1 rfl 1 rfl ?_
  refine tc_Vi (as := [.int x1]) (st := []) dX3_give_2 rfl shC_20 rfl rfl mX3_59 t_X3_lives rfl (Nat.le_of_ble_eq_true rfl) (by decide) (by decide) (c_X3_lives_20 (g := g) S hI x1) (fun S101 v103 h102 => ?_)
  obtain ⟨rfl, b104, x105⟩ := h102
  refine mw_if_eq (tgt := 44) dX3_give_5 (by decide) (fun q106 => ?_) (fun q106 => ?_)
  · skip
    have b107 : mm_b (0) (0) v103 := bd_eq_l q106 b104 n_0 (by decide)
    exact mw_vret rfl dX3_give_44 rfl rfl ⟨S, rfl, rfl, ⟨hI, hF, trivial⟩⟩
  · skip
    have b108 : mm_b (1) (1) v103 := bd_ne_l q106 b104 n_0 (by decide)
    have b109 := Or.resolve_left x105 q106
    refine mw_aload_n dX3_give_8 rfl 0 rfl ?_
    refine tw_getr (j := 3) dX3_give_9 shC_20 rfl rfl (by decide) fX3_9 ?_
    refine mw_iload_n dX3_give_12 rfl 1 rfl ?_
    refine tw_iald dX3_give_13 shC_21 (bd_in b109 (by decide)) (fun v110 ev110 => ?_)
    refine tc_SiN (as := [.int v110]) (st := []) dX3_give_14 rfl mX3_62 t_X9_isVoiceNumber rfl (Nat.le_of_ble_eq_true rfl) (by decide) (by decide) (c_X9_isVoiceNumber (g := g) S hI v110) (fun S111 v113 h112 => ?_)
    obtain ⟨rfl, b114, x115⟩ := h112
    refine mw_if_eq (tgt := 37) dX3_give_17 (by decide) (fun q116 => ?_) (fun q116 => ?_)
    · skip
      have b117 : mm_b (0) (0) v113 := bd_eq_l q116 b114 n_0 (by decide)
      refine mw_aload_n dX3_give_37 rfl 0 rfl ?_
      refine tw_getr (j := 3) dX3_give_38 shC_20 rfl rfl (by decide) fX3_9 ?_
      refine mw_iload_n dX3_give_41 rfl 1 rfl ?_
      refine mw_iload_n dX3_give_42 rfl 2 rfl ?_
      refine tw_iast dX3_give_43 shC_21 (bd_in b109 (by decide)) ?_
      have hI118 : JC (mm_up S 21 x1.toNatClampNeg x2) := JIC_puta hI (bd_all x2) b109 (by decide) (by decide +kernel)
      generalize hS119 : (mm_up S 21 x1.toNatClampNeg x2) = S119 at hI118 ⊢
      have hF120 := fr_upA hF hS119 (by decide)
      exact mw_vret rfl dX3_give_44 rfl rfl ⟨S119, rfl, rfl, ⟨hI118, hF120, trivial⟩⟩
    · skip
      have b121 : mm_b (1) (1) v113 := bd_ne_l q116 b114 n_0 (by decide)
      have b122 := Or.resolve_left x115 q116
      refine mw_aload_n dX3_give_20 rfl 0 rfl ?_
      refine tw_getr (j := 4) dX3_give_21 shC_20 rfl rfl (by decide) fX3_15 ?_
      refine mw_iload_n dX3_give_24 rfl 1 rfl ?_
      refine mw_dup2 dX3_give_25 rfl rfl ?_
      refine tw_iald dX3_give_26 shC_22 (bd_in b109 (by decide)) (fun v123 ev123 => ?_)
      refine mw_iconst dX3_give_27 ki_1 ?_
      refine mw_aload_n dX3_give_28 rfl 0 rfl ?_
      refine tw_getr (j := 3) dX3_give_29 shC_20 rfl rfl (by decide) fX3_9 ?_
      refine mw_iload_n dX3_give_32 rfl 1 rfl ?_
      refine tw_iald dX3_give_33 shC_21 (bd_in b109 (by decide)) (fun v124 ev124 => ?_)
      have cv124 : v110 = v124 := ev110.trans ev124.symm
      subst cv124
      refine mw_ishl dX3_give_34 (fun v125 ev125 => ?_)
      have b126 : mm_b (1) (64) v125 := bd_shl 6 ev125 b122 (by decide)
      refine mw_ior dX3_give_35 (fun v127 ev127 => ?_)
      refine tw_iast dX3_give_36 shC_22 (bd_in b109 (by decide)) ?_
      have hI128 : JC (mm_up S 22 x1.toNatClampNeg v127) := JIC_puta hI (bd_all v127) b109 (by decide) (by decide +kernel)
      generalize hS129 : (mm_up S 22 x1.toNatClampNeg v127) = S129 at hI128 ⊢
      have hF130 := fr_upA hF hS129 (by decide)
      refine mw_aload_n dX3_give_37 rfl 0 rfl ?_
      refine tw_getr (j := 3) dX3_give_38 shC_20 rfl rfl (by decide) fX3_9 ?_
      refine mw_iload_n dX3_give_41 rfl 1 rfl ?_
      refine mw_iload_n dX3_give_42 rfl 2 rfl ?_
      refine tw_iast dX3_give_43 shC_21 (bd_in b109 (by decide)) ?_
      have hI131 : JC (mm_up S129 21 x1.toNatClampNeg x2) := JIC_puta hI128 (bd_all x2) b109 (by decide) (by decide +kernel)
      generalize hS132 : (mm_up S129 21 x1.toNatClampNeg x2) = S132 at hI131 ⊢
      have hF133 := fr_upA hF130 hS132 (by decide)
      exact mw_vret rfl dX3_give_44 rfl rfl ⟨S132, rfl, rfl, ⟨hI131, hF133, trivial⟩⟩
set_option maxRecDepth 100000 in
set_option maxHeartbeats 4000000 in
theorem c_X3_bury_15 {g : mm_G} (S : mm_S) (hI : JC S) (x1 : Int32) : mc g yX3_bury cX3_bury 6 (some .int) (mm_rm 3) [.ref 15, .int x1] (mm_enc shC S) (qi shC (fun S1 v => JC S1 ∧ fr [15, 16, 17] [] true true S S1 ∧ mm_b (-2147483648) (2147483647) v ∧ (True))) := by
  refine mc_of2 (own := RX3) (ini := false) (ls := [(0, .ref 15), (1, .int x1)]) (by decide) (Nat.le_of_ble_eq_true rfl) rfl (by decide) rfl ?_
  have hF : fr [15, 16, 17] [] true true S S := fr_rf
  refine mw_aload_n dX3_bury_0 rfl 0 rfl ?_
  refine mw_iload_n dX3_bury_1 rfl 1 rfl ?_
  refine tc_Vi (as := [.int x1]) (st := []) dX3_bury_2 rfl shC_15 rfl rfl mX3_59 t_X3_lives rfl (Nat.le_of_ble_eq_true rfl) (by decide) (by decide) (c_X3_lives_15 (g := g) S hI x1) (fun S101 v103 h102 => ?_)
  obtain ⟨rfl, b104, x105⟩ := h102
  refine mw_if_ne (tgt := 10) dX3_bury_5 (by decide) (fun q106 => ?_) (fun q106 => ?_)
  · skip
    have b107 : mm_b (1) (1) v103 := bd_ne_l q106 b104 n_0 (by decide)
    have b108 := Or.resolve_left x105 q106
    refine mw_aload_n dX3_bury_10 rfl 0 rfl ?_
    refine tw_getr (j := 3) dX3_bury_11 shC_15 rfl rfl (by decide) fX3_9 ?_
    refine mw_iload_n dX3_bury_14 rfl 1 rfl ?_
    refine tw_iald dX3_bury_15 shC_16 (bd_in b108 (by decide)) (fun v109 ev109 => ?_)
    refine mw_istore_n (ls' := [(2, .int v109), (0, .ref 15), (1, .int x1)]) dX3_bury_16 rfl (by decide) rfl ?_
    refine mw_aload_n dX3_bury_17 rfl 1 rfl ?_
    refine tw_getr (j := 4) dX3_bury_18 shC_15 rfl rfl (by decide) fX3_15 ?_
    refine mw_iload_n dX3_bury_21 rfl 2 rfl ?_
    refine tw_iald dX3_bury_22 shC_17 (bd_in b108 (by decide)) (fun v110 ev110 => ?_)
    refine mw_istore_n (ls' := [(3, .int v110), (2, .int v109), (0, .ref 15), (1, .int x1)]) dX3_bury_23 rfl (by decide) rfl ?_
    refine mw_aload_n dX3_bury_24 rfl 2 rfl ?_
    refine mw_dup dX3_bury_25 rfl ?_
    refine tw_geti (j := 0) dX3_bury_26 shC_15 rfl rfl (by decide) fX3_39 (fun v111 ev111 => ?_)
    refine mw_iconst dX3_bury_29 ki_1 ?_
    refine mw_iload_n dX3_bury_30 rfl 3 rfl ?_
    refine mw_ishl dX3_bury_31 (fun v112 ev112 => ?_)
    have b113 : mm_b (1) (64) v112 := bd_shl 6 ev112 b108 (by decide)
    refine mw_iconst dX3_bury_32 ki_m1 ?_
    refine mw_ixor dX3_bury_33 (fun v114 ev114 => ?_)
    refine mw_iand dX3_bury_34 (fun v115 ev115 => ?_)
    refine tw_puti (j := 0) dX3_bury_35 shC_15 rfl rfl (by decide) fX3_39 rfl (by decide +kernel) ?_
    have hI116 : JC (mm_up S 15 0 v115) := JIC_put hI (bd_all v115) (by decide +kernel)
    generalize hS117 : (mm_up S 15 0 v115) = S117 at hI116 ⊢
    have hF118 := fr_upA hF hS117 (by decide)
    refine mw_aload_n dX3_bury_38 rfl 2 rfl ?_
    refine tw_getr (j := 3) dX3_bury_39 shC_15 rfl rfl (by decide) fX3_9 ?_
    refine mw_iload_n dX3_bury_42 rfl 3 rfl ?_
    refine mw_bipush dX3_bury_43 kb_9 ?_
    refine tw_iast dX3_bury_45 shC_16 (bd_in b108 (by decide)) ?_
    have hI119 : JC (mm_up S117 16 x1.toNatClampNeg 9) := JIC_puta hI116 n_9 b108 (by decide) (by decide +kernel)
    generalize hS120 : (mm_up S117 16 x1.toNatClampNeg 9) = S120 at hI119 ⊢
    have hF121 := fr_upA hF118 hS120 (by decide)
    refine mw_aload_n dX3_bury_46 rfl 2 rfl ?_
    refine tw_getr (j := 4) dX3_bury_47 shC_15 rfl rfl (by decide) fX3_15 ?_
    refine mw_iload_n dX3_bury_50 rfl 3 rfl ?_
    refine mw_iconst dX3_bury_51 ki_0 ?_
    refine tw_iast dX3_bury_52 shC_17 (bd_in b108 (by decide)) ?_
    have hI122 : JC (mm_up S120 17 x1.toNatClampNeg 0) := JIC_puta hI119 n_0 b108 (by decide) (by decide +kernel)
    generalize hS123 : (mm_up S120 17 x1.toNatClampNeg 0) = S123 at hI122 ⊢
    have hF124 := fr_upA hF121 hS123 (by decide)
    refine mw_aload_n dX3_bury_53 rfl 2 rfl ?_
    refine mw_dup dX3_bury_54 rfl ?_
    refine tw_geti (j := 1) dX3_bury_55 shC_15 rfl rfl (by decide) fX3_42 (fun v125 ev125 => ?_)
    refine mw_iconst dX3_bury_58 ki_1 ?_
    refine mw_iadd dX3_bury_59 (fun v126 ev126 => ?_)
    refine tw_puti (j := 1) dX3_bury_60 shC_15 rfl rfl (by decide) fX3_42 rfl (by decide +kernel) ?_
    have hI127 : JC (mm_up S123 15 1 v126) := JIC_put hI122 (bd_all v126) (by decide +kernel)
    generalize hS128 : (mm_up S123 15 1 v126) = S128 at hI127 ⊢
    have hF129 := fr_upA hF124 hS128 (by decide)
    refine mw_iconst dX3_bury_63 ki_m1 ?_
    refine mw_istore (ls' := [(4, .int (-1)), (3, .int v110), (2, .int v109), (0, .ref 15), (1, .int x1)]) dX3_bury_64 (by decide) rfl ?_
    refine mw_iload_n dX3_bury_66 rfl 2 rfl ?_
    refine mw_bipush dX3_bury_67 kb_9 ?_
    refine mw_icmp_eq (tgt := 97) dX3_bury_69 (by decide) (fun q130 => ?_) (fun q130 => ?_)
    · skip
      have b131 : mm_b (9) (9) v109 := bd_eq_l q130 (bd_all v109) n_9 (by decide)
      refine mw_iconst dX3_bury_97 ki_0 ?_
      refine mw_istore (ls' := [(5, .int 0), (4, .int (-1)), (3, .int v110), (2, .int v109), (0, .ref 15), (1, .int x1)]) dX3_bury_98 (by decide) rfl ?_
      have cut100 : ∀ (N100 : Nat) (S132 : mm_S) (y135 y137 y139 : Int32), ((8 : Int) - y139.toInt).toNat < N100 → JC S132 → fr [15, 16, 17] [] true true S S132 → mm_b (-2147483648) (2147483647) y135 → mm_b (-2147483648) (2147483647) y137 → mm_b (0) (7) y139 → mw g RX3 cX3_bury 6 (some .int) false (mm_rm 3) (qi shC (fun S1 v => JC S1 ∧ fr [15, 16, 17] [] true true S S1 ∧ mm_b (-2147483648) (2147483647) v ∧ (True))) 0 0 (mm_enc shC S132) 100 [(0, .ref 15), (3, .int y135), (4, .int y137), (5, .int y139)] [] := by
        intro N100
        induction N100 with
        | zero =>
          intro S132 y135 y137 y139 hm141 hI133 hF134 b136 b138 b140
          exact absurd hm141 (Nat.not_lt_zero _)
        | succ N100 ih100 =>
          intro S132 y135 y137 y139 hm141 hI133 hF134 b136 b138 b140
          refine mw_iload dX3_bury_100 3 rfl ?_
          refine mw_bipush dX3_bury_102 kb_7 ?_
          refine mw_icmp_ge (tgt := 139) dX3_bury_104 (by decide) (fun q142 => ?_) (fun q142 => ?_)
          · skip
            have b143 : mm_b (7) (7) y139 := bd_le_r q142 n_7 b140 (by decide)
            refine mw_iload dX3_bury_139 2 rfl ?_
            exact mw_iret rfl dX3_bury_141 rfl rfl ⟨S132, _, rfl, rfl, hI133, hF134, b138, trivial⟩
          · skip
            have b144 : mm_b (0) (6) y139 := bd_lt_l (bd_nle q142) b140 n_7 (by decide)
            refine mw_iload_n dX3_bury_107 rfl 1 rfl ?_
            refine mw_if_eq (tgt := 139) dX3_bury_108 (by decide) (fun q145 => ?_) (fun q145 => ?_)
            · skip
              have b146 : mm_b (0) (0) y135 := bd_eq_l q145 b136 n_0 (by decide)
              refine mw_iload dX3_bury_139 2 rfl ?_
              exact mw_iret rfl dX3_bury_141 rfl rfl ⟨S132, _, rfl, rfl, hI133, hF134, b138, trivial⟩
            · skip
              refine mw_iload_n dX3_bury_111 rfl 1 rfl ?_
              refine mw_iload dX3_bury_112 3 rfl ?_
              refine tc_SiN (as := [.int y135, .int y139]) (st := []) dX3_bury_114 rfl mX3_65 t_X9_isIn rfl (Nat.le_of_ble_eq_true rfl) (by decide) (by decide) (c_X9_isIn (g := g) S132 hI133 y135 y139) (fun S147 v149 h148 => ?_)
              obtain ⟨rfl, b150, x151⟩ := h148
              refine mw_if_eq (tgt := 133) dX3_bury_117 (by decide) (fun q152 => ?_) (fun q152 => ?_)
              · skip
                have b153 : mm_b (0) (0) v149 := bd_eq_l q152 b150 n_0 (by decide)
                refine mw_iinc (ls' := fun v => [(5, .int v), (0, .ref 15), (3, .int y135), (4, .int y137)]) dX3_bury_133 3 rfl (by decide) (fun _ => rfl) (fun v154 ev154 => ?_)
                have b155 : mm_b (1) (7) v154 := bd_inc ev154 b144 (by decide)
                refine mw_goto (tgt := 100) dX3_bury_136 (by decide) ?_
                refine mw_ls [1, 2, 3, 0] rfl ?_
                exact ih100 S132 y135 y137 v154 (ms_inc ev154 b144 (by decide) hm141) hI133 hF134 b136 b138 (bd_w b155 (by decide))
              · skip
                have b156 : mm_b (1) (1) v149 := bd_ne_l q152 b150 n_0 (by decide)
                have b157 := Or.resolve_left x151 q152
                refine mw_aload_n dX3_bury_120 rfl 0 rfl ?_
                refine mw_aload_n dX3_bury_121 rfl 0 rfl ?_
                refine tc_Vi (as := []) (st := [.ref 15]) dX3_bury_122 rfl shC_15 rfl rfl mX3_76 t_X3_silent rfl (Nat.le_of_ble_eq_true rfl) (by decide) (by decide) (c_X3_silent_15 (g := g) S132 hI133) (fun S158 v160 h159 => ?_)
                obtain ⟨rfl, b161, x162⟩ := h159
                refine tc_Si (as := [.int v160]) (st := [.ref 15]) dX3_bury_125 rfl mX3_80 t_X3_leastOf rfl (Nat.le_of_ble_eq_true rfl) (by decide) (by decide) (c_X3_leastOf (g := g) S132 hI133 v160) (fun S163 v165 h164 => ?_)
                obtain ⟨rfl, b166, x167⟩ := h164
                refine mw_iload dX3_bury_128 3 rfl ?_
                refine tc_Vv (as := [.int v165, .int y139]) (st := []) dX3_bury_130 rfl shC_15 rfl rfl mX3_72 t_X3_give rfl (Nat.le_of_ble_eq_true rfl) (by decide) (by decide) (c_X3_give_15 (g := g) S132 hI133 v165 y139) (fun S168 h169 => ?_)
                obtain ⟨hI171, hf172, x170⟩ := h169
                have hF173 := fr_tr hF134 hf172 (by decide) (by decide) (by decide) (by decide)
                refine mw_iinc (ls' := fun v => [(5, .int v), (0, .ref 15), (3, .int y135), (4, .int y137)]) dX3_bury_133 3 rfl (by decide) (fun _ => rfl) (fun v174 ev174 => ?_)
                have b175 : mm_b (1) (7) v174 := bd_inc ev174 b157 (by decide)
                refine mw_goto (tgt := 100) dX3_bury_136 (by decide) ?_
                refine mw_ls [1, 2, 3, 0] rfl ?_
                exact ih100 S168 y135 y137 v174 (ms_inc ev174 b157 (by decide) hm141) hI171 hF173 b136 b138 (bd_w b175 (by decide))
      refine mw_ls [4, 2, 1, 0] rfl ?_
      exact cut100 _ S128 v110 (-1 : Int32) (0 : Int32) (Nat.lt_succ_self _) hI127 hF129 (bd_all v110) (bd_w n_m1 (by decide)) (bd_w n_0 (by decide))
    · skip
      refine mw_aload_n dX3_bury_72 rfl 3 rfl ?_
      refine mw_aload_n dX3_bury_73 rfl 3 rfl ?_
      refine tw_getr (j := 5) dX3_bury_74 shC_15 rfl rfl (by decide) fX3_18 ?_
      refine mw_iload_n dX3_bury_77 rfl 4 rfl ?_
      refine tw_iald dX3_bury_78 shC_18 (bd_in b108 (by decide)) (fun v176 ev176 => ?_)
      refine mw_aload_n dX3_bury_79 rfl 3 rfl ?_
      refine tw_getr (j := 6) dX3_bury_80 shC_15 rfl rfl (by decide) fX3_21 ?_
      refine mw_iload_n dX3_bury_83 rfl 4 rfl ?_
      refine tw_iald dX3_bury_84 shC_19 (bd_in b108 (by decide)) (fun v177 ev177 => ?_)
      refine tc_Vi (as := [.int v176, .int v177]) (st := []) dX3_bury_85 rfl shC_15 rfl rfl mX3_69 t_X3_firstAlive rfl (Nat.le_of_ble_eq_true rfl) (by decide) (by decide) (c_X3_firstAlive_15 (g := g) S128 hI127 v176 v177) (fun S178 v180 h179 => ?_)
      obtain ⟨rfl, b181, x182⟩ := h179
      refine mw_istore (ls' := [(4, .int v180), (3, .int v110), (2, .int v109), (0, .ref 15), (1, .int x1)]) dX3_bury_88 (by decide) rfl ?_
      refine mw_aload_n dX3_bury_90 rfl 3 rfl ?_
      refine mw_iload dX3_bury_91 0 rfl ?_
      refine mw_iload_n dX3_bury_93 rfl 2 rfl ?_
      refine tc_Vv (as := [.int v180, .int v109]) (st := []) dX3_bury_94 rfl shC_15 rfl rfl mX3_72 t_X3_give rfl (Nat.le_of_ble_eq_true rfl) (by decide) (by decide) (c_X3_give_15 (g := g) S128 hI127 v180 v109) (fun S183 h184 => ?_)
      obtain ⟨hI186, hf187, x185⟩ := h184
      have hF188 := fr_tr hF129 hf187 (by decide) (by decide) (by decide) (by decide)
      refine mw_iconst dX3_bury_97 ki_0 ?_
      refine mw_istore (ls' := [(5, .int 0), (4, .int v180), (3, .int v110), (2, .int v109), (0, .ref 15), (1, .int x1)]) dX3_bury_98 (by decide) rfl ?_
      have cut100 : ∀ (N100 : Nat) (S189 : mm_S) (y192 y194 y196 : Int32), ((8 : Int) - y196.toInt).toNat < N100 → JC S189 → fr [15, 16, 17] [] true true S S189 → mm_b (-2147483648) (2147483647) y192 → mm_b (-2147483648) (2147483647) y194 → mm_b (0) (7) y196 → mw g RX3 cX3_bury 6 (some .int) false (mm_rm 3) (qi shC (fun S1 v => JC S1 ∧ fr [15, 16, 17] [] true true S S1 ∧ mm_b (-2147483648) (2147483647) v ∧ (True))) 0 0 (mm_enc shC S189) 100 [(0, .ref 15), (3, .int y192), (4, .int y194), (5, .int y196)] [] := by
        intro N100
        induction N100 with
        | zero =>
          intro S189 y192 y194 y196 hm198 hI190 hF191 b193 b195 b197
          exact absurd hm198 (Nat.not_lt_zero _)
        | succ N100 ih100 =>
          intro S189 y192 y194 y196 hm198 hI190 hF191 b193 b195 b197
          refine mw_iload dX3_bury_100 3 rfl ?_
          refine mw_bipush dX3_bury_102 kb_7 ?_
          refine mw_icmp_ge (tgt := 139) dX3_bury_104 (by decide) (fun q199 => ?_) (fun q199 => ?_)
          · skip
            have b200 : mm_b (7) (7) y196 := bd_le_r q199 n_7 b197 (by decide)
            refine mw_iload dX3_bury_139 2 rfl ?_
            exact mw_iret rfl dX3_bury_141 rfl rfl ⟨S189, _, rfl, rfl, hI190, hF191, b195, trivial⟩
          · skip
            have b201 : mm_b (0) (6) y196 := bd_lt_l (bd_nle q199) b197 n_7 (by decide)
            refine mw_iload_n dX3_bury_107 rfl 1 rfl ?_
            refine mw_if_eq (tgt := 139) dX3_bury_108 (by decide) (fun q202 => ?_) (fun q202 => ?_)
            · skip
              have b203 : mm_b (0) (0) y192 := bd_eq_l q202 b193 n_0 (by decide)
              refine mw_iload dX3_bury_139 2 rfl ?_
              exact mw_iret rfl dX3_bury_141 rfl rfl ⟨S189, _, rfl, rfl, hI190, hF191, b195, trivial⟩
            · skip
              refine mw_iload_n dX3_bury_111 rfl 1 rfl ?_
              refine mw_iload dX3_bury_112 3 rfl ?_
              refine tc_SiN (as := [.int y192, .int y196]) (st := []) dX3_bury_114 rfl mX3_65 t_X9_isIn rfl (Nat.le_of_ble_eq_true rfl) (by decide) (by decide) (c_X9_isIn (g := g) S189 hI190 y192 y196) (fun S204 v206 h205 => ?_)
              obtain ⟨rfl, b207, x208⟩ := h205
              refine mw_if_eq (tgt := 133) dX3_bury_117 (by decide) (fun q209 => ?_) (fun q209 => ?_)
              · skip
                have b210 : mm_b (0) (0) v206 := bd_eq_l q209 b207 n_0 (by decide)
                refine mw_iinc (ls' := fun v => [(5, .int v), (0, .ref 15), (3, .int y192), (4, .int y194)]) dX3_bury_133 3 rfl (by decide) (fun _ => rfl) (fun v211 ev211 => ?_)
                have b212 : mm_b (1) (7) v211 := bd_inc ev211 b201 (by decide)
                refine mw_goto (tgt := 100) dX3_bury_136 (by decide) ?_
                refine mw_ls [1, 2, 3, 0] rfl ?_
                exact ih100 S189 y192 y194 v211 (ms_inc ev211 b201 (by decide) hm198) hI190 hF191 b193 b195 (bd_w b212 (by decide))
              · skip
                have b213 : mm_b (1) (1) v206 := bd_ne_l q209 b207 n_0 (by decide)
                have b214 := Or.resolve_left x208 q209
                refine mw_aload_n dX3_bury_120 rfl 0 rfl ?_
                refine mw_aload_n dX3_bury_121 rfl 0 rfl ?_
                refine tc_Vi (as := []) (st := [.ref 15]) dX3_bury_122 rfl shC_15 rfl rfl mX3_76 t_X3_silent rfl (Nat.le_of_ble_eq_true rfl) (by decide) (by decide) (c_X3_silent_15 (g := g) S189 hI190) (fun S215 v217 h216 => ?_)
                obtain ⟨rfl, b218, x219⟩ := h216
                refine tc_Si (as := [.int v217]) (st := [.ref 15]) dX3_bury_125 rfl mX3_80 t_X3_leastOf rfl (Nat.le_of_ble_eq_true rfl) (by decide) (by decide) (c_X3_leastOf (g := g) S189 hI190 v217) (fun S220 v222 h221 => ?_)
                obtain ⟨rfl, b223, x224⟩ := h221
                refine mw_iload dX3_bury_128 3 rfl ?_
                refine tc_Vv (as := [.int v222, .int y196]) (st := []) dX3_bury_130 rfl shC_15 rfl rfl mX3_72 t_X3_give rfl (Nat.le_of_ble_eq_true rfl) (by decide) (by decide) (c_X3_give_15 (g := g) S189 hI190 v222 y196) (fun S225 h226 => ?_)
                obtain ⟨hI228, hf229, x227⟩ := h226
                have hF230 := fr_tr hF191 hf229 (by decide) (by decide) (by decide) (by decide)
                refine mw_iinc (ls' := fun v => [(5, .int v), (0, .ref 15), (3, .int y192), (4, .int y194)]) dX3_bury_133 3 rfl (by decide) (fun _ => rfl) (fun v231 ev231 => ?_)
                have b232 : mm_b (1) (7) v231 := bd_inc ev231 b214 (by decide)
                refine mw_goto (tgt := 100) dX3_bury_136 (by decide) ?_
                refine mw_ls [1, 2, 3, 0] rfl ?_
                exact ih100 S225 y192 y194 v231 (ms_inc ev231 b214 (by decide) hm198) hI228 hF230 b193 b195 (bd_w b232 (by decide))
      refine mw_ls [4, 2, 1, 0] rfl ?_
      exact cut100 _ S183 v110 v180 (0 : Int32) (Nat.lt_succ_self _) hI186 hF188 (bd_all v110) b181 (bd_w n_0 (by decide))
  · skip
    have b233 : mm_b (0) (0) v103 := bd_eq_l q106 b104 n_0 (by decide)
    refine mw_iconst dX3_bury_8 ki_m1 ?_
    exact mw_iret rfl dX3_bury_9 rfl rfl ⟨S, _, rfl, rfl, hI, hF, bd_w n_m1 (by decide), trivial⟩
set_option maxRecDepth 100000 in
set_option maxHeartbeats 4000000 in
theorem c_X3_bury_20 {g : mm_G} (S : mm_S) (hI : JC S) (x1 : Int32) : mc g yX3_bury cX3_bury 6 (some .int) (mm_rm 3) [.ref 20, .int x1] (mm_enc shC S) (qi shC (fun S1 v => JC S1 ∧ fr [20, 21, 22] [] true true S S1 ∧ mm_b (-2147483648) (2147483647) v ∧ (True))) := by
  refine mc_of2 (own := RX3) (ini := false) (ls := [(0, .ref 20), (1, .int x1)]) (by decide) (Nat.le_of_ble_eq_true rfl) rfl (by decide) rfl ?_
  have hF : fr [20, 21, 22] [] true true S S := fr_rf
  refine mw_aload_n dX3_bury_0 rfl 0 rfl ?_
  refine mw_iload_n dX3_bury_1 rfl 1 rfl ?_
  refine tc_Vi (as := [.int x1]) (st := []) dX3_bury_2 rfl shC_20 rfl rfl mX3_59 t_X3_lives rfl (Nat.le_of_ble_eq_true rfl) (by decide) (by decide) (c_X3_lives_20 (g := g) S hI x1) (fun S101 v103 h102 => ?_)
  obtain ⟨rfl, b104, x105⟩ := h102
  refine mw_if_ne (tgt := 10) dX3_bury_5 (by decide) (fun q106 => ?_) (fun q106 => ?_)
  · skip
    have b107 : mm_b (1) (1) v103 := bd_ne_l q106 b104 n_0 (by decide)
    have b108 := Or.resolve_left x105 q106
    refine mw_aload_n dX3_bury_10 rfl 0 rfl ?_
    refine tw_getr (j := 3) dX3_bury_11 shC_20 rfl rfl (by decide) fX3_9 ?_
    refine mw_iload_n dX3_bury_14 rfl 1 rfl ?_
    refine tw_iald dX3_bury_15 shC_21 (bd_in b108 (by decide)) (fun v109 ev109 => ?_)
    refine mw_istore_n (ls' := [(2, .int v109), (0, .ref 20), (1, .int x1)]) dX3_bury_16 rfl (by decide) rfl ?_
    refine mw_aload_n dX3_bury_17 rfl 1 rfl ?_
    refine tw_getr (j := 4) dX3_bury_18 shC_20 rfl rfl (by decide) fX3_15 ?_
    refine mw_iload_n dX3_bury_21 rfl 2 rfl ?_
    refine tw_iald dX3_bury_22 shC_22 (bd_in b108 (by decide)) (fun v110 ev110 => ?_)
    refine mw_istore_n (ls' := [(3, .int v110), (2, .int v109), (0, .ref 20), (1, .int x1)]) dX3_bury_23 rfl (by decide) rfl ?_
    refine mw_aload_n dX3_bury_24 rfl 2 rfl ?_
    refine mw_dup dX3_bury_25 rfl ?_
    refine tw_geti (j := 0) dX3_bury_26 shC_20 rfl rfl (by decide) fX3_39 (fun v111 ev111 => ?_)
    refine mw_iconst dX3_bury_29 ki_1 ?_
    refine mw_iload_n dX3_bury_30 rfl 3 rfl ?_
    refine mw_ishl dX3_bury_31 (fun v112 ev112 => ?_)
    have b113 : mm_b (1) (64) v112 := bd_shl 6 ev112 b108 (by decide)
    refine mw_iconst dX3_bury_32 ki_m1 ?_
    refine mw_ixor dX3_bury_33 (fun v114 ev114 => ?_)
    refine mw_iand dX3_bury_34 (fun v115 ev115 => ?_)
    refine tw_puti (j := 0) dX3_bury_35 shC_20 rfl rfl (by decide) fX3_39 rfl (by decide +kernel) ?_
    have hI116 : JC (mm_up S 20 0 v115) := JIC_put hI (bd_all v115) (by decide +kernel)
    generalize hS117 : (mm_up S 20 0 v115) = S117 at hI116 ⊢
    have hF118 := fr_upA hF hS117 (by decide)
    refine mw_aload_n dX3_bury_38 rfl 2 rfl ?_
    refine tw_getr (j := 3) dX3_bury_39 shC_20 rfl rfl (by decide) fX3_9 ?_
    refine mw_iload_n dX3_bury_42 rfl 3 rfl ?_
    refine mw_bipush dX3_bury_43 kb_9 ?_
    refine tw_iast dX3_bury_45 shC_21 (bd_in b108 (by decide)) ?_
    have hI119 : JC (mm_up S117 21 x1.toNatClampNeg 9) := JIC_puta hI116 n_9 b108 (by decide) (by decide +kernel)
    generalize hS120 : (mm_up S117 21 x1.toNatClampNeg 9) = S120 at hI119 ⊢
    have hF121 := fr_upA hF118 hS120 (by decide)
    refine mw_aload_n dX3_bury_46 rfl 2 rfl ?_
    refine tw_getr (j := 4) dX3_bury_47 shC_20 rfl rfl (by decide) fX3_15 ?_
    refine mw_iload_n dX3_bury_50 rfl 3 rfl ?_
    refine mw_iconst dX3_bury_51 ki_0 ?_
    refine tw_iast dX3_bury_52 shC_22 (bd_in b108 (by decide)) ?_
    have hI122 : JC (mm_up S120 22 x1.toNatClampNeg 0) := JIC_puta hI119 n_0 b108 (by decide) (by decide +kernel)
    generalize hS123 : (mm_up S120 22 x1.toNatClampNeg 0) = S123 at hI122 ⊢
    have hF124 := fr_upA hF121 hS123 (by decide)
    refine mw_aload_n dX3_bury_53 rfl 2 rfl ?_
    refine mw_dup dX3_bury_54 rfl ?_
    refine tw_geti (j := 1) dX3_bury_55 shC_20 rfl rfl (by decide) fX3_42 (fun v125 ev125 => ?_)
    refine mw_iconst dX3_bury_58 ki_1 ?_
    refine mw_iadd dX3_bury_59 (fun v126 ev126 => ?_)
    refine tw_puti (j := 1) dX3_bury_60 shC_20 rfl rfl (by decide) fX3_42 rfl (by decide +kernel) ?_
    have hI127 : JC (mm_up S123 20 1 v126) := JIC_put hI122 (bd_all v126) (by decide +kernel)
    generalize hS128 : (mm_up S123 20 1 v126) = S128 at hI127 ⊢
    have hF129 := fr_upA hF124 hS128 (by decide)
    refine mw_iconst dX3_bury_63 ki_m1 ?_
    refine mw_istore (ls' := [(4, .int (-1)), (3, .int v110), (2, .int v109), (0, .ref 20), (1, .int x1)]) dX3_bury_64 (by decide) rfl ?_
    refine mw_iload_n dX3_bury_66 rfl 2 rfl ?_
    refine mw_bipush dX3_bury_67 kb_9 ?_
    refine mw_icmp_eq (tgt := 97) dX3_bury_69 (by decide) (fun q130 => ?_) (fun q130 => ?_)
    · skip
      have b131 : mm_b (9) (9) v109 := bd_eq_l q130 (bd_all v109) n_9 (by decide)
      refine mw_iconst dX3_bury_97 ki_0 ?_
      refine mw_istore (ls' := [(5, .int 0), (4, .int (-1)), (3, .int v110), (2, .int v109), (0, .ref 20), (1, .int x1)]) dX3_bury_98 (by decide) rfl ?_
      have cut100 : ∀ (N100 : Nat) (S132 : mm_S) (y135 y137 y139 : Int32), ((8 : Int) - y139.toInt).toNat < N100 → JC S132 → fr [20, 21, 22] [] true true S S132 → mm_b (-2147483648) (2147483647) y135 → mm_b (-2147483648) (2147483647) y137 → mm_b (0) (7) y139 → mw g RX3 cX3_bury 6 (some .int) false (mm_rm 3) (qi shC (fun S1 v => JC S1 ∧ fr [20, 21, 22] [] true true S S1 ∧ mm_b (-2147483648) (2147483647) v ∧ (True))) 0 0 (mm_enc shC S132) 100 [(0, .ref 20), (3, .int y135), (4, .int y137), (5, .int y139)] [] := by
        intro N100
        induction N100 with
        | zero =>
          intro S132 y135 y137 y139 hm141 hI133 hF134 b136 b138 b140
          exact absurd hm141 (Nat.not_lt_zero _)
        | succ N100 ih100 =>
          intro S132 y135 y137 y139 hm141 hI133 hF134 b136 b138 b140
          refine mw_iload dX3_bury_100 3 rfl ?_
          refine mw_bipush dX3_bury_102 kb_7 ?_
          refine mw_icmp_ge (tgt := 139) dX3_bury_104 (by decide) (fun q142 => ?_) (fun q142 => ?_)
          · skip
            have b143 : mm_b (7) (7) y139 := bd_le_r q142 n_7 b140 (by decide)
            refine mw_iload dX3_bury_139 2 rfl ?_
            exact mw_iret rfl dX3_bury_141 rfl rfl ⟨S132, _, rfl, rfl, hI133, hF134, b138, trivial⟩
          · skip
            have b144 : mm_b (0) (6) y139 := bd_lt_l (bd_nle q142) b140 n_7 (by decide)
            refine mw_iload_n dX3_bury_107 rfl 1 rfl ?_
            refine mw_if_eq (tgt := 139) dX3_bury_108 (by decide) (fun q145 => ?_) (fun q145 => ?_)
            · skip
              have b146 : mm_b (0) (0) y135 := bd_eq_l q145 b136 n_0 (by decide)
              refine mw_iload dX3_bury_139 2 rfl ?_
              exact mw_iret rfl dX3_bury_141 rfl rfl ⟨S132, _, rfl, rfl, hI133, hF134, b138, trivial⟩
            · skip
              refine mw_iload_n dX3_bury_111 rfl 1 rfl ?_
              refine mw_iload dX3_bury_112 3 rfl ?_
              refine tc_SiN (as := [.int y135, .int y139]) (st := []) dX3_bury_114 rfl mX3_65 t_X9_isIn rfl (Nat.le_of_ble_eq_true rfl) (by decide) (by decide) (c_X9_isIn (g := g) S132 hI133 y135 y139) (fun S147 v149 h148 => ?_)
              obtain ⟨rfl, b150, x151⟩ := h148
              refine mw_if_eq (tgt := 133) dX3_bury_117 (by decide) (fun q152 => ?_) (fun q152 => ?_)
              · skip
                have b153 : mm_b (0) (0) v149 := bd_eq_l q152 b150 n_0 (by decide)
                refine mw_iinc (ls' := fun v => [(5, .int v), (0, .ref 20), (3, .int y135), (4, .int y137)]) dX3_bury_133 3 rfl (by decide) (fun _ => rfl) (fun v154 ev154 => ?_)
                have b155 : mm_b (1) (7) v154 := bd_inc ev154 b144 (by decide)
                refine mw_goto (tgt := 100) dX3_bury_136 (by decide) ?_
                refine mw_ls [1, 2, 3, 0] rfl ?_
                exact ih100 S132 y135 y137 v154 (ms_inc ev154 b144 (by decide) hm141) hI133 hF134 b136 b138 (bd_w b155 (by decide))
              · skip
                have b156 : mm_b (1) (1) v149 := bd_ne_l q152 b150 n_0 (by decide)
                have b157 := Or.resolve_left x151 q152
                refine mw_aload_n dX3_bury_120 rfl 0 rfl ?_
                refine mw_aload_n dX3_bury_121 rfl 0 rfl ?_
                refine tc_Vi (as := []) (st := [.ref 20]) dX3_bury_122 rfl shC_20 rfl rfl mX3_76 t_X3_silent rfl (Nat.le_of_ble_eq_true rfl) (by decide) (by decide) (c_X3_silent_20 (g := g) S132 hI133) (fun S158 v160 h159 => ?_)
                obtain ⟨rfl, b161, x162⟩ := h159
                refine tc_Si (as := [.int v160]) (st := [.ref 20]) dX3_bury_125 rfl mX3_80 t_X3_leastOf rfl (Nat.le_of_ble_eq_true rfl) (by decide) (by decide) (c_X3_leastOf (g := g) S132 hI133 v160) (fun S163 v165 h164 => ?_)
                obtain ⟨rfl, b166, x167⟩ := h164
                refine mw_iload dX3_bury_128 3 rfl ?_
                refine tc_Vv (as := [.int v165, .int y139]) (st := []) dX3_bury_130 rfl shC_20 rfl rfl mX3_72 t_X3_give rfl (Nat.le_of_ble_eq_true rfl) (by decide) (by decide) (c_X3_give_20 (g := g) S132 hI133 v165 y139) (fun S168 h169 => ?_)
                obtain ⟨hI171, hf172, x170⟩ := h169
                have hF173 := fr_tr hF134 hf172 (by decide) (by decide) (by decide) (by decide)
                refine mw_iinc (ls' := fun v => [(5, .int v), (0, .ref 20), (3, .int y135), (4, .int y137)]) dX3_bury_133 3 rfl (by decide) (fun _ => rfl) (fun v174 ev174 => ?_)
                have b175 : mm_b (1) (7) v174 := bd_inc ev174 b157 (by decide)
                refine mw_goto (tgt := 100) dX3_bury_136 (by decide) ?_
                refine mw_ls [1, 2, 3, 0] rfl ?_
                exact ih100 S168 y135 y137 v174 (ms_inc ev174 b157 (by decide) hm141) hI171 hF173 b136 b138 (bd_w b175 (by decide))
      refine mw_ls [4, 2, 1, 0] rfl ?_
      exact cut100 _ S128 v110 (-1 : Int32) (0 : Int32) (Nat.lt_succ_self _) hI127 hF129 (bd_all v110) (bd_w n_m1 (by decide)) (bd_w n_0 (by decide))
    · skip
      refine mw_aload_n dX3_bury_72 rfl 3 rfl ?_
      refine mw_aload_n dX3_bury_73 rfl 3 rfl ?_
      refine tw_getr (j := 5) dX3_bury_74 shC_20 rfl rfl (by decide) fX3_18 ?_
      refine mw_iload_n dX3_bury_77 rfl 4 rfl ?_
      refine tw_iald dX3_bury_78 shC_23 (bd_in b108 (by decide)) (fun v176 ev176 => ?_)
      refine mw_aload_n dX3_bury_79 rfl 3 rfl ?_
      refine tw_getr (j := 6) dX3_bury_80 shC_20 rfl rfl (by decide) fX3_21 ?_
      refine mw_iload_n dX3_bury_83 rfl 4 rfl ?_
      refine tw_iald dX3_bury_84 shC_24 (bd_in b108 (by decide)) (fun v177 ev177 => ?_)
      refine tc_Vi (as := [.int v176, .int v177]) (st := []) dX3_bury_85 rfl shC_20 rfl rfl mX3_69 t_X3_firstAlive rfl (Nat.le_of_ble_eq_true rfl) (by decide) (by decide) (c_X3_firstAlive_20 (g := g) S128 hI127 v176 v177) (fun S178 v180 h179 => ?_)
      obtain ⟨rfl, b181, x182⟩ := h179
      refine mw_istore (ls' := [(4, .int v180), (3, .int v110), (2, .int v109), (0, .ref 20), (1, .int x1)]) dX3_bury_88 (by decide) rfl ?_
      refine mw_aload_n dX3_bury_90 rfl 3 rfl ?_
      refine mw_iload dX3_bury_91 0 rfl ?_
      refine mw_iload_n dX3_bury_93 rfl 2 rfl ?_
      refine tc_Vv (as := [.int v180, .int v109]) (st := []) dX3_bury_94 rfl shC_20 rfl rfl mX3_72 t_X3_give rfl (Nat.le_of_ble_eq_true rfl) (by decide) (by decide) (c_X3_give_20 (g := g) S128 hI127 v180 v109) (fun S183 h184 => ?_)
      obtain ⟨hI186, hf187, x185⟩ := h184
      have hF188 := fr_tr hF129 hf187 (by decide) (by decide) (by decide) (by decide)
      refine mw_iconst dX3_bury_97 ki_0 ?_
      refine mw_istore (ls' := [(5, .int 0), (4, .int v180), (3, .int v110), (2, .int v109), (0, .ref 20), (1, .int x1)]) dX3_bury_98 (by decide) rfl ?_
      have cut100 : ∀ (N100 : Nat) (S189 : mm_S) (y192 y194 y196 : Int32), ((8 : Int) - y196.toInt).toNat < N100 → JC S189 → fr [20, 21, 22] [] true true S S189 → mm_b (-2147483648) (2147483647) y192 → mm_b (-2147483648) (2147483647) y194 → mm_b (0) (7) y196 → mw g RX3 cX3_bury 6 (some .int) false (mm_rm 3) (qi shC (fun S1 v => JC S1 ∧ fr [20, 21, 22] [] true true S S1 ∧ mm_b (-2147483648) (2147483647) v ∧ (True))) 0 0 (mm_enc shC S189) 100 [(0, .ref 20), (3, .int y192), (4, .int y194), (5, .int y196)] [] := by
        intro N100
        induction N100 with
        | zero =>
          intro S189 y192 y194 y196 hm198 hI190 hF191 b193 b195 b197
          exact absurd hm198 (Nat.not_lt_zero _)
        | succ N100 ih100 =>
          intro S189 y192 y194 y196 hm198 hI190 hF191 b193 b195 b197
          refine mw_iload dX3_bury_100 3 rfl ?_
          refine mw_bipush dX3_bury_102 kb_7 ?_
          refine mw_icmp_ge (tgt := 139) dX3_bury_104 (by decide) (fun q199 => ?_) (fun q199 => ?_)
          · skip
            have b200 : mm_b (7) (7) y196 := bd_le_r q199 n_7 b197 (by decide)
            refine mw_iload dX3_bury_139 2 rfl ?_
            exact mw_iret rfl dX3_bury_141 rfl rfl ⟨S189, _, rfl, rfl, hI190, hF191, b195, trivial⟩
          · skip
            have b201 : mm_b (0) (6) y196 := bd_lt_l (bd_nle q199) b197 n_7 (by decide)
            refine mw_iload_n dX3_bury_107 rfl 1 rfl ?_
            refine mw_if_eq (tgt := 139) dX3_bury_108 (by decide) (fun q202 => ?_) (fun q202 => ?_)
            · skip
              have b203 : mm_b (0) (0) y192 := bd_eq_l q202 b193 n_0 (by decide)
              refine mw_iload dX3_bury_139 2 rfl ?_
              exact mw_iret rfl dX3_bury_141 rfl rfl ⟨S189, _, rfl, rfl, hI190, hF191, b195, trivial⟩
            · skip
              refine mw_iload_n dX3_bury_111 rfl 1 rfl ?_
              refine mw_iload dX3_bury_112 3 rfl ?_
              refine tc_SiN (as := [.int y192, .int y196]) (st := []) dX3_bury_114 rfl mX3_65 t_X9_isIn rfl (Nat.le_of_ble_eq_true rfl) (by decide) (by decide) (c_X9_isIn (g := g) S189 hI190 y192 y196) (fun S204 v206 h205 => ?_)
              obtain ⟨rfl, b207, x208⟩ := h205
              refine mw_if_eq (tgt := 133) dX3_bury_117 (by decide) (fun q209 => ?_) (fun q209 => ?_)
              · skip
                have b210 : mm_b (0) (0) v206 := bd_eq_l q209 b207 n_0 (by decide)
                refine mw_iinc (ls' := fun v => [(5, .int v), (0, .ref 20), (3, .int y192), (4, .int y194)]) dX3_bury_133 3 rfl (by decide) (fun _ => rfl) (fun v211 ev211 => ?_)
                have b212 : mm_b (1) (7) v211 := bd_inc ev211 b201 (by decide)
                refine mw_goto (tgt := 100) dX3_bury_136 (by decide) ?_
                refine mw_ls [1, 2, 3, 0] rfl ?_
                exact ih100 S189 y192 y194 v211 (ms_inc ev211 b201 (by decide) hm198) hI190 hF191 b193 b195 (bd_w b212 (by decide))
              · skip
                have b213 : mm_b (1) (1) v206 := bd_ne_l q209 b207 n_0 (by decide)
                have b214 := Or.resolve_left x208 q209
                refine mw_aload_n dX3_bury_120 rfl 0 rfl ?_
                refine mw_aload_n dX3_bury_121 rfl 0 rfl ?_
                refine tc_Vi (as := []) (st := [.ref 20]) dX3_bury_122 rfl shC_20 rfl rfl mX3_76 t_X3_silent rfl (Nat.le_of_ble_eq_true rfl) (by decide) (by decide) (c_X3_silent_20 (g := g) S189 hI190) (fun S215 v217 h216 => ?_)
                obtain ⟨rfl, b218, x219⟩ := h216
                refine tc_Si (as := [.int v217]) (st := [.ref 20]) dX3_bury_125 rfl mX3_80 t_X3_leastOf rfl (Nat.le_of_ble_eq_true rfl) (by decide) (by decide) (c_X3_leastOf (g := g) S189 hI190 v217) (fun S220 v222 h221 => ?_)
                obtain ⟨rfl, b223, x224⟩ := h221
                refine mw_iload dX3_bury_128 3 rfl ?_
                refine tc_Vv (as := [.int v222, .int y196]) (st := []) dX3_bury_130 rfl shC_20 rfl rfl mX3_72 t_X3_give rfl (Nat.le_of_ble_eq_true rfl) (by decide) (by decide) (c_X3_give_20 (g := g) S189 hI190 v222 y196) (fun S225 h226 => ?_)
                obtain ⟨hI228, hf229, x227⟩ := h226
                have hF230 := fr_tr hF191 hf229 (by decide) (by decide) (by decide) (by decide)
                refine mw_iinc (ls' := fun v => [(5, .int v), (0, .ref 20), (3, .int y192), (4, .int y194)]) dX3_bury_133 3 rfl (by decide) (fun _ => rfl) (fun v231 ev231 => ?_)
                have b232 : mm_b (1) (7) v231 := bd_inc ev231 b214 (by decide)
                refine mw_goto (tgt := 100) dX3_bury_136 (by decide) ?_
                refine mw_ls [1, 2, 3, 0] rfl ?_
                exact ih100 S225 y192 y194 v231 (ms_inc ev231 b214 (by decide) hm198) hI228 hF230 b193 b195 (bd_w b232 (by decide))
      refine mw_ls [4, 2, 1, 0] rfl ?_
      exact cut100 _ S183 v110 v180 (0 : Int32) (Nat.lt_succ_self _) hI186 hF188 (bd_all v110) b181 (bd_w n_0 (by decide))
  · skip
    have b233 : mm_b (0) (0) v103 := bd_eq_l q106 b104 n_0 (by decide)
    refine mw_iconst dX3_bury_8 ki_m1 ?_
    exact mw_iret rfl dX3_bury_9 rfl rfl ⟨S, _, rfl, rfl, hI, hF, bd_w n_m1 (by decide), trivial⟩
set_option maxRecDepth 100000 in
set_option maxHeartbeats 4000000 in
theorem c_X3_canHandOver_15 {g : mm_G} (S : mm_S) (hI : JC S) (x1 : Int32) (x2 : Int32) : mc g yX3_canHandOver cX3_canHandOver 3 (some .boolean) (mm_rm 1) [.ref 15, .int x1, .int x2] (mm_enc shC S) (qi shC (fun S1 v => S = S1 ∧ mm_b (0) (1) v ∧ (v = 0 ∨ (mm_b (0) (6) x1 ∧ mm_b (0) (6) x2)))) := by
  refine mc_of2 (own := RX3) (ini := false) (ls := [(0, .ref 15), (1, .int x1), (2, .int x2)]) (by decide) (Nat.le_of_ble_eq_true rfl) rfl (by decide) rfl ?_
  refine mw_iload_n dX3_canHandOver_0 rfl 1 rfl ?_
  refine mw_iload_n dX3_canHandOver_1 rfl 2 rfl ?_
  refine mw_icmp_eq (tgt := 36) dX3_canHandOver_2 (by decide) (fun q101 => ?_) (fun q101 => ?_)
  · skip
    refine mw_iconst dX3_canHandOver_36 ki_0 ?_
    exact mw_zret rfl (bd_nar n_0 (by decide)) dX3_canHandOver_37 rfl rfl ⟨S, _, rfl, rfl, rfl, bd_w n_0 (by decide), Or.inl rfl⟩
  · skip
    refine mw_aload_n dX3_canHandOver_5 rfl 0 rfl ?_
    refine mw_iload_n dX3_canHandOver_6 rfl 1 rfl ?_
    refine tc_Vi (as := [.int x1]) (st := []) dX3_canHandOver_7 rfl shC_15 rfl rfl mX3_59 t_X3_lives rfl (Nat.le_of_ble_eq_true rfl) (by decide) (by decide) (c_X3_lives_15 (g := g) S hI x1) (fun S102 v104 h103 => ?_)
    obtain ⟨rfl, b105, x106⟩ := h103
    refine mw_if_eq (tgt := 36) dX3_canHandOver_10 (by decide) (fun q107 => ?_) (fun q107 => ?_)
    · skip
      have b108 : mm_b (0) (0) v104 := bd_eq_l q107 b105 n_0 (by decide)
      refine mw_iconst dX3_canHandOver_36 ki_0 ?_
      exact mw_zret rfl (bd_nar n_0 (by decide)) dX3_canHandOver_37 rfl rfl ⟨S, _, rfl, rfl, rfl, bd_w n_0 (by decide), Or.inl rfl⟩
    · skip
      have b109 : mm_b (1) (1) v104 := bd_ne_l q107 b105 n_0 (by decide)
      have b110 := Or.resolve_left x106 q107
      refine mw_aload_n dX3_canHandOver_13 rfl 0 rfl ?_
      refine mw_iload_n dX3_canHandOver_14 rfl 2 rfl ?_
      refine tc_Vi (as := [.int x2]) (st := []) dX3_canHandOver_15 rfl shC_15 rfl rfl mX3_59 t_X3_lives rfl (Nat.le_of_ble_eq_true rfl) (by decide) (by decide) (c_X3_lives_15 (g := g) S hI x2) (fun S111 v113 h112 => ?_)
      obtain ⟨rfl, b114, x115⟩ := h112
      refine mw_if_eq (tgt := 36) dX3_canHandOver_18 (by decide) (fun q116 => ?_) (fun q116 => ?_)
      · skip
        have b117 : mm_b (0) (0) v113 := bd_eq_l q116 b114 n_0 (by decide)
        refine mw_iconst dX3_canHandOver_36 ki_0 ?_
        exact mw_zret rfl (bd_nar n_0 (by decide)) dX3_canHandOver_37 rfl rfl ⟨S, _, rfl, rfl, rfl, bd_w n_0 (by decide), Or.inl rfl⟩
      · skip
        have b118 : mm_b (1) (1) v113 := bd_ne_l q116 b114 n_0 (by decide)
        have b119 := Or.resolve_left x115 q116
        refine mw_aload_n dX3_canHandOver_21 rfl 0 rfl ?_
        refine tw_getr (j := 3) dX3_canHandOver_22 shC_15 rfl rfl (by decide) fX3_9 ?_
        refine mw_iload_n dX3_canHandOver_25 rfl 1 rfl ?_
        refine tw_iald dX3_canHandOver_26 shC_16 (bd_in b110 (by decide)) (fun v120 ev120 => ?_)
        refine mw_bipush dX3_canHandOver_27 kb_9 ?_
        refine mw_icmp_eq (tgt := 36) dX3_canHandOver_29 (by decide) (fun q121 => ?_) (fun q121 => ?_)
        · skip
          have b122 : mm_b (9) (9) v120 := bd_eq_l q121 (bd_all v120) n_9 (by decide)
          refine mw_iconst dX3_canHandOver_36 ki_0 ?_
          exact mw_zret rfl (bd_nar n_0 (by decide)) dX3_canHandOver_37 rfl rfl ⟨S, _, rfl, rfl, rfl, bd_w n_0 (by decide), Or.inl rfl⟩
        · skip
          refine mw_iconst dX3_canHandOver_32 ki_1 ?_
          refine mw_goto (tgt := 37) dX3_canHandOver_33 (by decide) ?_
          exact mw_zret rfl (bd_nar n_1 (by decide)) dX3_canHandOver_37 rfl rfl ⟨S, _, rfl, rfl, rfl, bd_w n_1 (by decide), Or.inr ⟨bd_w b110 (by decide), bd_w b119 (by decide)⟩⟩
set_option maxRecDepth 100000 in
set_option maxHeartbeats 4000000 in
theorem c_X3_handOver_15 {g : mm_G} (S : mm_S) (hI : JC S) (x1 : Int32) (x2 : Int32) : mc g yX3_handOver cX3_handOver 4 none (mm_rm 2) [.ref 15, .int x1, .int x2] (mm_enc shC S) (qv shC (fun S1 => JC S1 ∧ fr [16, 17] [] true true S S1 ∧ True)) := by
  refine mc_of2 (own := RX3) (ini := false) (ls := [(0, .ref 15), (1, .int x1), (2, .int x2)]) (by decide) (Nat.le_of_ble_eq_true rfl) rfl (by decide) rfl ?_
  have hF : fr [16, 17] [] true true S S := fr_rf
  refine mw_aload_n dX3_handOver_0 rfl 0 rfl ?_
  refine mw_iload_n dX3_handOver_1 rfl 1 rfl ?_
  refine mw_iload_n dX3_handOver_2 rfl 2 rfl ?_
  refine tc_Vi (as := [.int x1, .int x2]) (st := []) dX3_handOver_3 rfl shC_15 rfl rfl mX3_88 t_X3_canHandOver rfl (Nat.le_of_ble_eq_true rfl) (by decide) (by decide) (c_X3_canHandOver_15 (g := g) S hI x1 x2) (fun S101 v103 h102 => ?_)
  obtain ⟨rfl, b104, x105⟩ := h102
  refine mw_if_ne (tgt := 10) dX3_handOver_6 (by decide) (fun q106 => ?_) (fun q106 => ?_)
  · skip
    have b107 : mm_b (1) (1) v103 := bd_ne_l q106 b104 n_0 (by decide)
    obtain ⟨b108, b109⟩ := Or.resolve_left x105 q106
    refine mw_aload_n dX3_handOver_10 rfl 0 rfl ?_
    refine mw_iload_n dX3_handOver_11 rfl 2 rfl ?_
    refine mw_aload_n dX3_handOver_12 rfl 0 rfl ?_
    refine tw_getr (j := 3) dX3_handOver_13 shC_15 rfl rfl (by decide) fX3_9 ?_
    refine mw_iload_n dX3_handOver_16 rfl 1 rfl ?_
    refine tw_iald dX3_handOver_17 shC_16 (bd_in b108 (by decide)) (fun v110 ev110 => ?_)
    refine tc_Vv (as := [.int x2, .int v110]) (st := []) dX3_handOver_18 rfl shC_15 rfl rfl mX3_72 t_X3_give rfl (Nat.le_of_ble_eq_true rfl) (by decide) (by decide) (c_X3_give_15 (g := g) S hI x2 v110) (fun S111 h112 => ?_)
    obtain ⟨hI114, hf115, x113⟩ := h112
    have hF116 := fr_tr hF hf115 (by decide) (by decide) (by decide) (by decide)
    refine mw_aload_n dX3_handOver_21 rfl 0 rfl ?_
    refine tw_getr (j := 4) dX3_handOver_22 shC_15 rfl rfl (by decide) fX3_15 ?_
    refine mw_iload_n dX3_handOver_25 rfl 1 rfl ?_
    refine tw_iald dX3_handOver_26 shC_17 (bd_in b108 (by decide)) (fun v117 ev117 => ?_)
    refine tc_Si (as := [.int v117]) (st := []) dX3_handOver_27 rfl mX3_80 t_X3_leastOf rfl (Nat.le_of_ble_eq_true rfl) (by decide) (by decide) (c_X3_leastOf (g := g) S111 hI114 v117) (fun S118 v120 h119 => ?_)
    obtain ⟨rfl, b121, x122⟩ := h119
    refine mw_istore_n (ls' := [(3, .int v120), (0, .ref 15), (1, .int x1), (2, .int x2)]) dX3_handOver_30 rfl (by decide) rfl ?_
    refine mw_iload_n dX3_handOver_31 rfl 0 rfl ?_
    refine mw_iconst dX3_handOver_32 ki_m1 ?_
    refine mw_icmp_ne (tgt := 47) dX3_handOver_33 (by decide) (fun q123 => ?_) (fun q123 => ?_)
    · skip
      refine mw_aload_n dX3_handOver_47 rfl 1 rfl ?_
      refine tw_getr (j := 3) dX3_handOver_48 shC_15 rfl rfl (by decide) fX3_9 ?_
      refine mw_iload_n dX3_handOver_51 rfl 2 rfl ?_
      refine mw_iload_n dX3_handOver_52 rfl 0 rfl ?_
      refine tw_iast dX3_handOver_53 shC_16 (bd_in b108 (by decide)) ?_
      have hI124 : JC (mm_up S111 16 x1.toNatClampNeg v120) := JIC_puta hI114 b121 b108 (by decide) (by decide +kernel)
      generalize hS125 : (mm_up S111 16 x1.toNatClampNeg v120) = S125 at hI124 ⊢
      have hF126 := fr_upA hF116 hS125 (by decide)
      refine mw_aload_n dX3_handOver_54 rfl 1 rfl ?_
      refine tw_getr (j := 4) dX3_handOver_55 shC_15 rfl rfl (by decide) fX3_15 ?_
      refine mw_iload_n dX3_handOver_58 rfl 2 rfl ?_
      refine mw_dup2 dX3_handOver_59 rfl rfl ?_
      refine tw_iald dX3_handOver_60 shC_17 (bd_in b108 (by decide)) (fun v127 ev127 => ?_)
      have cv127 : v117 = v127 := (ev117.trans (up_neA hS125 (by decide))).trans ev127.symm
      subst cv127
      refine mw_iconst dX3_handOver_61 ki_1 ?_
      refine mw_iload_n dX3_handOver_62 rfl 0 rfl ?_
      refine mw_ishl dX3_handOver_63 (fun v128 ev128 => ?_)
      refine mw_iconst dX3_handOver_64 ki_m1 ?_
      refine mw_ixor dX3_handOver_65 (fun v129 ev129 => ?_)
      refine mw_iand dX3_handOver_66 (fun v130 ev130 => ?_)
      refine tw_iast dX3_handOver_67 shC_17 (bd_in b108 (by decide)) ?_
      have hI131 : JC (mm_up S125 17 x1.toNatClampNeg v130) := JIC_puta hI124 (bd_all v130) b108 (by decide) (by decide +kernel)
      generalize hS132 : (mm_up S125 17 x1.toNatClampNeg v130) = S132 at hI131 ⊢
      have hF133 := fr_upA hF126 hS132 (by decide)
      exact mw_vret rfl dX3_handOver_68 rfl rfl ⟨S132, rfl, rfl, ⟨hI131, hF133, trivial⟩⟩
    · skip
      have b134 : mm_b (-1) (-1) v120 := bd_eq_l q123 b121 n_m1 (by decide)
      refine mw_aload_n dX3_handOver_36 rfl 1 rfl ?_
      refine tw_getr (j := 3) dX3_handOver_37 shC_15 rfl rfl (by decide) fX3_9 ?_
      refine mw_iload_n dX3_handOver_40 rfl 2 rfl ?_
      refine mw_bipush dX3_handOver_41 kb_9 ?_
      refine tw_iast dX3_handOver_43 shC_16 (bd_in b108 (by decide)) ?_
      have hI135 : JC (mm_up S111 16 x1.toNatClampNeg 9) := JIC_puta hI114 n_9 b108 (by decide) (by decide +kernel)
      generalize hS136 : (mm_up S111 16 x1.toNatClampNeg 9) = S136 at hI135 ⊢
      have hF137 := fr_upA hF116 hS136 (by decide)
      refine mw_goto (tgt := 68) dX3_handOver_44 (by decide) ?_
      exact mw_vret rfl dX3_handOver_68 rfl rfl ⟨S136, rfl, rfl, ⟨hI135, hF137, trivial⟩⟩
  · skip
    have b138 : mm_b (0) (0) v103 := bd_eq_l q106 b104 n_0 (by decide)
    exact mw_vret rfl dX3_handOver_9 rfl rfl ⟨S, rfl, rfl, ⟨hI, hF, trivial⟩⟩
set_option maxRecDepth 100000 in
set_option maxHeartbeats 4000000 in
theorem c_X3_takeOut_15 {g : mm_G} (S : mm_S) (hI : JC S) (x1 : Int32) (x2 : Int32) : mc g yX3_takeOut cX3_takeOut 4 (some .int) (mm_rm 2) [.ref 15, .int x1, .int x2] (mm_enc shC S) (qi shC (fun S1 v => JC S1 ∧ fr [16, 17] [] true true S S1 ∧ mm_b (-2147483648) (2147483647) v ∧ (True))) := by
  refine mc_of2 (own := RX3) (ini := false) (ls := [(0, .ref 15), (1, .int x1), (2, .int x2)]) (by decide) (Nat.le_of_ble_eq_true rfl) rfl (by decide) rfl ?_
  have hF : fr [16, 17] [] true true S S := fr_rf
  refine mw_aload_n dX3_takeOut_0 rfl 0 rfl ?_
  refine mw_iload_n dX3_takeOut_1 rfl 1 rfl ?_
  refine tc_Vi (as := [.int x1]) (st := []) dX3_takeOut_2 rfl shC_15 rfl rfl mX3_59 t_X3_lives rfl (Nat.le_of_ble_eq_true rfl) (by decide) (by decide) (c_X3_lives_15 (g := g) S hI x1) (fun S101 v103 h102 => ?_)
  obtain ⟨rfl, b104, x105⟩ := h102
  refine mw_if_eq (tgt := 21) dX3_takeOut_5 (by decide) (fun q106 => ?_) (fun q106 => ?_)
  · skip
    have b107 : mm_b (0) (0) v103 := bd_eq_l q106 b104 n_0 (by decide)
    refine mw_bipush dX3_takeOut_21 kb_9 ?_
    exact mw_iret rfl dX3_takeOut_23 rfl rfl ⟨S, _, rfl, rfl, hI, hF, bd_w n_9 (by decide), trivial⟩
  · skip
    have b108 : mm_b (1) (1) v103 := bd_ne_l q106 b104 n_0 (by decide)
    have b109 := Or.resolve_left x105 q106
    refine mw_aload_n dX3_takeOut_8 rfl 0 rfl ?_
    refine tw_getr (j := 4) dX3_takeOut_9 shC_15 rfl rfl (by decide) fX3_15 ?_
    refine mw_iload_n dX3_takeOut_12 rfl 1 rfl ?_
    refine tw_iald dX3_takeOut_13 shC_17 (bd_in b109 (by decide)) (fun v110 ev110 => ?_)
    refine mw_iload_n dX3_takeOut_14 rfl 2 rfl ?_
    refine tc_SiN (as := [.int v110, .int x2]) (st := []) dX3_takeOut_15 rfl mX3_65 t_X9_isIn rfl (Nat.le_of_ble_eq_true rfl) (by decide) (by decide) (c_X9_isIn (g := g) S hI v110 x2) (fun S111 v113 h112 => ?_)
    obtain ⟨rfl, b114, x115⟩ := h112
    refine mw_if_ne (tgt := 24) dX3_takeOut_18 (by decide) (fun q116 => ?_) (fun q116 => ?_)
    · skip
      have b117 : mm_b (1) (1) v113 := bd_ne_l q116 b114 n_0 (by decide)
      have b118 := Or.resolve_left x115 q116
      refine mw_aload_n dX3_takeOut_24 rfl 0 rfl ?_
      refine tw_getr (j := 3) dX3_takeOut_25 shC_15 rfl rfl (by decide) fX3_9 ?_
      refine mw_iload_n dX3_takeOut_28 rfl 1 rfl ?_
      refine tw_iald dX3_takeOut_29 shC_16 (bd_in b109 (by decide)) (fun v119 ev119 => ?_)
      refine mw_istore_n (ls' := [(3, .int v119), (0, .ref 15), (1, .int x1), (2, .int x2)]) dX3_takeOut_30 rfl (by decide) rfl ?_
      refine mw_aload_n dX3_takeOut_31 rfl 1 rfl ?_
      refine tw_getr (j := 4) dX3_takeOut_32 shC_15 rfl rfl (by decide) fX3_15 ?_
      refine mw_iload_n dX3_takeOut_35 rfl 2 rfl ?_
      refine mw_dup2 dX3_takeOut_36 rfl rfl ?_
      refine tw_iald dX3_takeOut_37 shC_17 (bd_in b109 (by decide)) (fun v120 ev120 => ?_)
      have cv120 : v110 = v120 := ev110.trans ev120.symm
      subst cv120
      refine mw_iconst dX3_takeOut_38 ki_1 ?_
      refine mw_iload_n dX3_takeOut_39 rfl 3 rfl ?_
      refine mw_ishl dX3_takeOut_40 (fun v121 ev121 => ?_)
      have b122 : mm_b (1) (64) v121 := bd_shl 6 ev121 b118 (by decide)
      refine mw_iconst dX3_takeOut_41 ki_m1 ?_
      refine mw_ixor dX3_takeOut_42 (fun v123 ev123 => ?_)
      refine mw_iand dX3_takeOut_43 (fun v124 ev124 => ?_)
      refine tw_iast dX3_takeOut_44 shC_17 (bd_in b109 (by decide)) ?_
      have hI125 : JC (mm_up S 17 x1.toNatClampNeg v124) := JIC_puta hI (bd_all v124) b109 (by decide) (by decide +kernel)
      generalize hS126 : (mm_up S 17 x1.toNatClampNeg v124) = S126 at hI125 ⊢
      have hF127 := fr_upA hF hS126 (by decide)
      refine mw_aload_n dX3_takeOut_45 rfl 1 rfl ?_
      refine mw_iload_n dX3_takeOut_46 rfl 2 rfl ?_
      refine mw_iload_n dX3_takeOut_47 rfl 3 rfl ?_
      refine tc_Vv (as := [.int x1, .int x2]) (st := []) dX3_takeOut_48 rfl shC_15 rfl rfl mX3_72 t_X3_give rfl (Nat.le_of_ble_eq_true rfl) (by decide) (by decide) (c_X3_give_15 (g := g) S126 hI125 x1 x2) (fun S128 h129 => ?_)
      obtain ⟨hI131, hf132, x130⟩ := h129
      have hF133 := fr_tr hF127 hf132 (by decide) (by decide) (by decide) (by decide)
      refine mw_iload_n dX3_takeOut_51 rfl 0 rfl ?_
      exact mw_iret rfl dX3_takeOut_52 rfl rfl ⟨S128, _, rfl, rfl, hI131, hF133, (bd_all v119), trivial⟩
    · skip
      have b134 : mm_b (0) (0) v113 := bd_eq_l q116 b114 n_0 (by decide)
      refine mw_bipush dX3_takeOut_21 kb_9 ?_
      exact mw_iret rfl dX3_takeOut_23 rfl rfl ⟨S, _, rfl, rfl, hI, hF, bd_w n_9 (by decide), trivial⟩
set_option maxRecDepth 100000 in
set_option maxHeartbeats 4000000 in
theorem c_X3_changeWill_15 {g : mm_G} (S : mm_S) (hI : JC S) (x1 : Int32) (x2 : Int32) (x3 : Int32) : mc g yX3_changeWill cX3_changeWill 4 none (mm_rm 1) [.ref 15, .int x1, .int x2, .int x3] (mm_enc shC S) (qv shC (fun S1 => JC S1 ∧ fr [18, 19] [] true true S S1 ∧ True)) := by
  refine mc_of2 (own := RX3) (ini := false) (ls := [(0, .ref 15), (1, .int x1), (2, .int x2), (3, .int x3)]) (by decide) (Nat.le_of_ble_eq_true rfl) rfl (by decide) rfl ?_
  have hF : fr [18, 19] [] true true S S := fr_rf
  refine mw_aload_n dX3_changeWill_0 rfl 0 rfl ?_
  refine mw_iload_n dX3_changeWill_1 rfl 1 rfl ?_
  refine tc_Vi (as := [.int x1]) (st := []) dX3_changeWill_2 rfl shC_15 rfl rfl mX3_56 t_X3_isOne rfl (Nat.le_of_ble_eq_true rfl) (by decide) (by decide) (c_X3_isOne_15 (g := g) S hI x1) (fun S101 v103 h102 => ?_)
  obtain ⟨rfl, b104, x105⟩ := h102
  refine mw_if_eq (tgt := 22) dX3_changeWill_5 (by decide) (fun q106 => ?_) (fun q106 => ?_)
  · skip
    have b107 : mm_b (0) (0) v103 := bd_eq_l q106 b104 n_0 (by decide)
    exact mw_vret rfl dX3_changeWill_22 rfl rfl ⟨S, rfl, rfl, ⟨hI, hF, trivial⟩⟩
  · skip
    have b108 : mm_b (1) (1) v103 := bd_ne_l q106 b104 n_0 (by decide)
    have b109 := Or.resolve_left x105 q106
    refine mw_aload_n dX3_changeWill_8 rfl 0 rfl ?_
    refine tw_getr (j := 5) dX3_changeWill_9 shC_15 rfl rfl (by decide) fX3_18 ?_
    refine mw_iload_n dX3_changeWill_12 rfl 1 rfl ?_
    refine mw_iload_n dX3_changeWill_13 rfl 2 rfl ?_
    refine tw_iast dX3_changeWill_14 shC_18 (bd_in b109 (by decide)) ?_
    have hI110 : JC (mm_up S 18 x1.toNatClampNeg x2) := JIC_puta hI (bd_all x2) b109 (by decide) (by decide +kernel)
    generalize hS111 : (mm_up S 18 x1.toNatClampNeg x2) = S111 at hI110 ⊢
    have hF112 := fr_upA hF hS111 (by decide)
    refine mw_aload_n dX3_changeWill_15 rfl 0 rfl ?_
    refine tw_getr (j := 6) dX3_changeWill_16 shC_15 rfl rfl (by decide) fX3_21 ?_
    refine mw_iload_n dX3_changeWill_19 rfl 1 rfl ?_
    refine mw_iload_n dX3_changeWill_20 rfl 3 rfl ?_
    refine tw_iast dX3_changeWill_21 shC_19 (bd_in b109 (by decide)) ?_
    have hI113 : JC (mm_up S111 19 x1.toNatClampNeg x3) := JIC_puta hI110 (bd_all x3) b109 (by decide) (by decide +kernel)
    generalize hS114 : (mm_up S111 19 x1.toNatClampNeg x3) = S114 at hI113 ⊢
    have hF115 := fr_upA hF112 hS114 (by decide)
    exact mw_vret rfl dX3_changeWill_22 rfl rfl ⟨S114, rfl, rfl, ⟨hI113, hF115, trivial⟩⟩
set_option maxRecDepth 100000 in
set_option maxHeartbeats 4000000 in
theorem c_X3_changeWill_20 {g : mm_G} (S : mm_S) (hI : JC S) (x1 : Int32) (x2 : Int32) (x3 : Int32) : mc g yX3_changeWill cX3_changeWill 4 none (mm_rm 1) [.ref 20, .int x1, .int x2, .int x3] (mm_enc shC S) (qv shC (fun S1 => JC S1 ∧ fr [23, 24] [] true true S S1 ∧ True)) := by
  refine mc_of2 (own := RX3) (ini := false) (ls := [(0, .ref 20), (1, .int x1), (2, .int x2), (3, .int x3)]) (by decide) (Nat.le_of_ble_eq_true rfl) rfl (by decide) rfl ?_
  have hF : fr [23, 24] [] true true S S := fr_rf
  refine mw_aload_n dX3_changeWill_0 rfl 0 rfl ?_
  refine mw_iload_n dX3_changeWill_1 rfl 1 rfl ?_
  refine tc_Vi (as := [.int x1]) (st := []) dX3_changeWill_2 rfl shC_20 rfl rfl mX3_56 t_X3_isOne rfl (Nat.le_of_ble_eq_true rfl) (by decide) (by decide) (c_X3_isOne_20 (g := g) S hI x1) (fun S101 v103 h102 => ?_)
  obtain ⟨rfl, b104, x105⟩ := h102
  refine mw_if_eq (tgt := 22) dX3_changeWill_5 (by decide) (fun q106 => ?_) (fun q106 => ?_)
  · skip
    have b107 : mm_b (0) (0) v103 := bd_eq_l q106 b104 n_0 (by decide)
    exact mw_vret rfl dX3_changeWill_22 rfl rfl ⟨S, rfl, rfl, ⟨hI, hF, trivial⟩⟩
  · skip
    have b108 : mm_b (1) (1) v103 := bd_ne_l q106 b104 n_0 (by decide)
    have b109 := Or.resolve_left x105 q106
    refine mw_aload_n dX3_changeWill_8 rfl 0 rfl ?_
    refine tw_getr (j := 5) dX3_changeWill_9 shC_20 rfl rfl (by decide) fX3_18 ?_
    refine mw_iload_n dX3_changeWill_12 rfl 1 rfl ?_
    refine mw_iload_n dX3_changeWill_13 rfl 2 rfl ?_
    refine tw_iast dX3_changeWill_14 shC_23 (bd_in b109 (by decide)) ?_
    have hI110 : JC (mm_up S 23 x1.toNatClampNeg x2) := JIC_puta hI (bd_all x2) b109 (by decide) (by decide +kernel)
    generalize hS111 : (mm_up S 23 x1.toNatClampNeg x2) = S111 at hI110 ⊢
    have hF112 := fr_upA hF hS111 (by decide)
    refine mw_aload_n dX3_changeWill_15 rfl 0 rfl ?_
    refine tw_getr (j := 6) dX3_changeWill_16 shC_20 rfl rfl (by decide) fX3_21 ?_
    refine mw_iload_n dX3_changeWill_19 rfl 1 rfl ?_
    refine mw_iload_n dX3_changeWill_20 rfl 3 rfl ?_
    refine tw_iast dX3_changeWill_21 shC_24 (bd_in b109 (by decide)) ?_
    have hI113 : JC (mm_up S111 24 x1.toNatClampNeg x3) := JIC_puta hI110 (bd_all x3) b109 (by decide) (by decide +kernel)
    generalize hS114 : (mm_up S111 24 x1.toNatClampNeg x3) = S114 at hI113 ⊢
    have hF115 := fr_upA hF112 hS114 (by decide)
    exact mw_vret rfl dX3_changeWill_22 rfl rfl ⟨S114, rfl, rfl, ⟨hI113, hF115, trivial⟩⟩
set_option maxRecDepth 100000 in
set_option maxHeartbeats 4000000 in
theorem c_X2_firstUnlike_132_20 {g : mm_G} (S : mm_S) (hI : JC S)  : mc g yX2_firstUnlike cX2_firstUnlike 3 (some .int) (mm_rm 2) [.ref 132, .ref 20] (mm_enc shC S) (qi shC (fun S1 v => S = S1 ∧ mm_b (-1) (5) v ∧ (True))) := by
  refine mc_of2 (own := RX2) (ini := false) (ls := [(0, .ref 132), (1, .ref 20)]) (by decide) (Nat.le_of_ble_eq_true rfl) rfl (by decide) rfl ?_
  refine mw_iconst dX2_firstUnlike_0 ki_0 ?_
  refine mw_istore_n (ls' := [(2, .int 0), (0, .ref 132), (1, .ref 20)]) dX2_firstUnlike_1 rfl (by decide) rfl ?_
  have cut2 : ∀ (N2 : Nat) (y101 : Int32), ((7 : Int) - y101.toInt).toNat < N2 → mm_b (0) (6) y101 → mw g RX2 cX2_firstUnlike 3 (some .int) false (mm_rm 2) (qi shC (fun S1 v => S = S1 ∧ mm_b (-1) (5) v ∧ (True))) 0 0 (mm_enc shC S) 2 [(0, .ref 132), (1, .ref 20), (2, .int y101)] [] := by
    intro N2
    induction N2 with
    | zero =>
      intro y101 hm103 b102
      exact absurd hm103 (Nat.not_lt_zero _)
    | succ N2 ih2 =>
      intro y101 hm103 b102
      refine mw_iload_n dX2_firstUnlike_2 rfl 2 rfl ?_
      refine mw_aload_n dX2_firstUnlike_3 rfl 0 rfl ?_
      refine tw_geti (j := 0) dX2_firstUnlike_4 shC_132 rfl rfl (by decide) fX2_24 (fun v104 ev104 => ?_)
      have b105 : mm_b (0) (6) v104 := JIC_fld hI ev104 tbC_35 (by decide)
      refine mw_icmp_ge (tgt := 37) dX2_firstUnlike_7 (by decide) (fun q106 => ?_) (fun q106 => ?_)
      · skip
        refine mw_iconst dX2_firstUnlike_37 ki_m1 ?_
        exact mw_iret rfl dX2_firstUnlike_38 rfl rfl ⟨S, _, rfl, rfl, rfl, bd_w n_m1 (by decide), trivial⟩
      · skip
        have b107 : mm_b (0) (5) y101 := bd_lt_l (bd_nle q106) b102 b105 (by decide)
        have b108 : mm_b (1) (6) v104 := bd_lt_r (bd_nle q106) b102 b105 (by decide)
        refine mw_aload_n dX2_firstUnlike_10 rfl 1 rfl ?_
        refine mw_aload_n dX2_firstUnlike_11 rfl 0 rfl ?_
        refine tw_getr (j := 1) dX2_firstUnlike_12 shC_132 rfl rfl (by decide) fX2_15 ?_
        refine mw_iload_n dX2_firstUnlike_15 rfl 2 rfl ?_
        refine tw_iald dX2_firstUnlike_16 shC_133 (bd_in b107 (by decide)) (fun v109 ev109 => ?_)
        refine tc_Vi (as := [.int v109]) (st := []) dX2_firstUnlike_17 rfl shC_20 rfl rfl mX2_28 t_X3_voiceOf rfl (Nat.le_of_ble_eq_true rfl) (by decide) (by decide) (c_X3_voiceOf_20 (g := g) S hI v109) (fun S110 v112 h111 => ?_)
        obtain ⟨rfl, b113, x114⟩ := h111
        refine mw_aload_n dX2_firstUnlike_20 rfl 0 rfl ?_
        refine tw_getr (j := 2) dX2_firstUnlike_21 shC_132 rfl rfl (by decide) fX2_21 ?_
        refine mw_iload_n dX2_firstUnlike_24 rfl 2 rfl ?_
        refine tw_iald dX2_firstUnlike_25 shC_134 (bd_in b107 (by decide)) (fun v115 ev115 => ?_)
        refine mw_icmp_eq (tgt := 31) dX2_firstUnlike_26 (by decide) (fun q116 => ?_) (fun q116 => ?_)
        · skip
          refine mw_iinc (ls' := fun v => [(2, .int v), (0, .ref 132), (1, .ref 20)]) dX2_firstUnlike_31 2 rfl (by decide) (fun _ => rfl) (fun v117 ev117 => ?_)
          have b118 : mm_b (1) (6) v117 := bd_inc ev117 b107 (by decide)
          refine mw_goto (tgt := 2) dX2_firstUnlike_34 (by decide) ?_
          refine mw_ls [1, 2, 0] rfl ?_
          exact ih2 v117 (ms_inc ev117 b107 (by decide) hm103) (bd_w b118 (by decide))
        · skip
          refine mw_iload_n dX2_firstUnlike_29 rfl 2 rfl ?_
          exact mw_iret rfl dX2_firstUnlike_30 rfl rfl ⟨S, _, rfl, rfl, rfl, bd_w b107 (by decide), trivial⟩
  refine mw_ls [1, 2, 0] rfl ?_
  exact cut2 _ (0 : Int32) (Nat.lt_succ_self _) (bd_w n_0 (by decide))
set_option maxRecDepth 100000 in
set_option maxHeartbeats 4000000 in
theorem c_X2_firstUnlike_135_15 {g : mm_G} (S : mm_S) (hI : JC S)  : mc g yX2_firstUnlike cX2_firstUnlike 3 (some .int) (mm_rm 2) [.ref 135, .ref 15] (mm_enc shC S) (qi shC (fun S1 v => S = S1 ∧ mm_b (-1) (14) v ∧ (True))) := by
  refine mc_of2 (own := RX2) (ini := false) (ls := [(0, .ref 135), (1, .ref 15)]) (by decide) (Nat.le_of_ble_eq_true rfl) rfl (by decide) rfl ?_
  refine mw_iconst dX2_firstUnlike_0 ki_0 ?_
  refine mw_istore_n (ls' := [(2, .int 0), (0, .ref 135), (1, .ref 15)]) dX2_firstUnlike_1 rfl (by decide) rfl ?_
  have cut2 : ∀ (N2 : Nat) (y101 : Int32), ((16 : Int) - y101.toInt).toNat < N2 → mm_b (0) (15) y101 → mw g RX2 cX2_firstUnlike 3 (some .int) false (mm_rm 2) (qi shC (fun S1 v => S = S1 ∧ mm_b (-1) (14) v ∧ (True))) 0 0 (mm_enc shC S) 2 [(0, .ref 135), (1, .ref 15), (2, .int y101)] [] := by
    intro N2
    induction N2 with
    | zero =>
      intro y101 hm103 b102
      exact absurd hm103 (Nat.not_lt_zero _)
    | succ N2 ih2 =>
      intro y101 hm103 b102
      refine mw_iload_n dX2_firstUnlike_2 rfl 2 rfl ?_
      refine mw_aload_n dX2_firstUnlike_3 rfl 0 rfl ?_
      refine tw_geti (j := 0) dX2_firstUnlike_4 shC_135 rfl rfl (by decide) fX2_24 (fun v104 ev104 => ?_)
      have b105 : mm_b (0) (15) v104 := JIC_fld hI ev104 tbC_36 (by decide)
      refine mw_icmp_ge (tgt := 37) dX2_firstUnlike_7 (by decide) (fun q106 => ?_) (fun q106 => ?_)
      · skip
        refine mw_iconst dX2_firstUnlike_37 ki_m1 ?_
        exact mw_iret rfl dX2_firstUnlike_38 rfl rfl ⟨S, _, rfl, rfl, rfl, bd_w n_m1 (by decide), trivial⟩
      · skip
        have b107 : mm_b (0) (14) y101 := bd_lt_l (bd_nle q106) b102 b105 (by decide)
        have b108 : mm_b (1) (15) v104 := bd_lt_r (bd_nle q106) b102 b105 (by decide)
        refine mw_aload_n dX2_firstUnlike_10 rfl 1 rfl ?_
        refine mw_aload_n dX2_firstUnlike_11 rfl 0 rfl ?_
        refine tw_getr (j := 1) dX2_firstUnlike_12 shC_135 rfl rfl (by decide) fX2_15 ?_
        refine mw_iload_n dX2_firstUnlike_15 rfl 2 rfl ?_
        refine tw_iald dX2_firstUnlike_16 shC_136 (bd_in b107 (by decide)) (fun v109 ev109 => ?_)
        refine tc_Vi (as := [.int v109]) (st := []) dX2_firstUnlike_17 rfl shC_15 rfl rfl mX2_28 t_X3_voiceOf rfl (Nat.le_of_ble_eq_true rfl) (by decide) (by decide) (c_X3_voiceOf_15 (g := g) S hI v109) (fun S110 v112 h111 => ?_)
        obtain ⟨rfl, b113, x114⟩ := h111
        refine mw_aload_n dX2_firstUnlike_20 rfl 0 rfl ?_
        refine tw_getr (j := 2) dX2_firstUnlike_21 shC_135 rfl rfl (by decide) fX2_21 ?_
        refine mw_iload_n dX2_firstUnlike_24 rfl 2 rfl ?_
        refine tw_iald dX2_firstUnlike_25 shC_137 (bd_in b107 (by decide)) (fun v115 ev115 => ?_)
        refine mw_icmp_eq (tgt := 31) dX2_firstUnlike_26 (by decide) (fun q116 => ?_) (fun q116 => ?_)
        · skip
          refine mw_iinc (ls' := fun v => [(2, .int v), (0, .ref 135), (1, .ref 15)]) dX2_firstUnlike_31 2 rfl (by decide) (fun _ => rfl) (fun v117 ev117 => ?_)
          have b118 : mm_b (1) (15) v117 := bd_inc ev117 b107 (by decide)
          refine mw_goto (tgt := 2) dX2_firstUnlike_34 (by decide) ?_
          refine mw_ls [1, 2, 0] rfl ?_
          exact ih2 v117 (ms_inc ev117 b107 (by decide) hm103) (bd_w b118 (by decide))
        · skip
          refine mw_iload_n dX2_firstUnlike_29 rfl 2 rfl ?_
          exact mw_iret rfl dX2_firstUnlike_30 rfl rfl ⟨S, _, rfl, rfl, rfl, bd_w b107 (by decide), trivial⟩
  refine mw_ls [1, 2, 0] rfl ?_
  exact cut2 _ (0 : Int32) (Nat.lt_succ_self _) (bd_w n_0 (by decide))
set_option maxRecDepth 100000 in
set_option maxHeartbeats 4000000 in
theorem c_X7_remember {g : mm_G} (S : mm_S) (hI : JC S)  : mc g yX7_remember cX7_remember 2 none (mm_rm 1) [.ref 25, .ref 15] (mm_enc shC S) (qv shC (fun S1 => JC S1 ∧ fr [15, 16, 17, 18, 19, 20, 21, 22, 23, 24, 25, 27, 28, 29, 30, 31, 32, 33, 34, 35, 36, 37, 38, 39, 40, 41, 42, 43, 44, 45, 46, 47, 48, 49, 50, 51, 52, 53, 54, 55, 56, 57, 58, 59, 60, 61, 62, 63, 64, 65, 66, 67, 68, 69, 70, 71, 72, 73, 74, 75, 76, 77, 78, 79, 80, 81, 82, 83, 84, 85, 86, 87, 88, 89, 90, 91, 92, 93, 94, 95, 96, 97, 98, 99, 100, 101, 102, 103, 104, 105, 106, 107, 108, 109, 110, 111, 112, 113, 114, 115, 116, 117, 118, 119, 120, 121, 122, 123, 124, 125, 126, 152, 153, 154, 155, 156, 158, 159, 160, 161, 162] [] true true S S1 ∧ True)) := by
  refine mc_of2 (own := RX7) (ini := false) (ls := [(0, .ref 25), (1, .ref 15)]) (by decide) (Nat.le_of_ble_eq_true rfl) rfl (by decide) rfl ?_
  have hF : fr [15, 16, 17, 18, 19, 20, 21, 22, 23, 24, 25, 27, 28, 29, 30, 31, 32, 33, 34, 35, 36, 37, 38, 39, 40, 41, 42, 43, 44, 45, 46, 47, 48, 49, 50, 51, 52, 53, 54, 55, 56, 57, 58, 59, 60, 61, 62, 63, 64, 65, 66, 67, 68, 69, 70, 71, 72, 73, 74, 75, 76, 77, 78, 79, 80, 81, 82, 83, 84, 85, 86, 87, 88, 89, 90, 91, 92, 93, 94, 95, 96, 97, 98, 99, 100, 101, 102, 103, 104, 105, 106, 107, 108, 109, 110, 111, 112, 113, 114, 115, 116, 117, 118, 119, 120, 121, 122, 123, 124, 125, 126, 152, 153, 154, 155, 156, 158, 159, 160, 161, 162] [] true true S S := fr_rf
  refine mw_aload_n dX7_remember_0 rfl 0 rfl ?_
  refine tw_geti (j := 1) dX7_remember_1 shC_25 rfl rfl (by decide) fX7_22 (fun v101 ev101 => ?_)
  refine mw_if_lt (tgt := 19) dX7_remember_4 (by decide) (fun q102 => ?_) (fun q102 => ?_)
  · skip
    have b103 : mm_b (-2147483648) (-1) v101 := bd_lt_l q102 (bd_all v101) n_0 (by decide)
    refine mw_aload_n dX7_remember_19 rfl 0 rfl ?_
    refine mw_iconst dX7_remember_20 ki_0 ?_
    refine tw_puti (j := 1) dX7_remember_21 shC_25 rfl rfl (by decide) fX7_22 rfl (by decide +kernel) ?_
    have hI104 : JC (mm_up S 25 1 0) := JIC_put hI n_0 (by decide +kernel)
    generalize hS105 : (mm_up S 25 1 0) = S105 at hI104 ⊢
    have hF106 := fr_upA hF hS105 (by decide)
    refine mw_aload_n dX7_remember_24 rfl 0 rfl ?_
    refine tw_getr (j := 2) dX7_remember_25 shC_25 rfl rfl (by decide) fX7_11 ?_
    refine mw_aload_n dX7_remember_28 rfl 0 rfl ?_
    refine tw_geti (j := 1) dX7_remember_29 shC_25 rfl rfl (by decide) fX7_22 (fun v107 ev107 => ?_)
    have cv107 : 0 = v107 := (up_eq hS105).trans ev107.symm
    subst cv107
    obtain ⟨a108, ea108, ha109⟩ := AAC_26 n_0 (by decide)
    refine tw_aald dX7_remember_32 shC_26 rfl rfl (bd_in n_0 (by decide)) ea108 (LC_folk_lt ha109) ?_
    refine mw_aload_n dX7_remember_33 rfl 1 rfl ?_
    refine tc_Vv (as := [.ref 15]) (st := []) dX7_remember_34 rfl (shC_folk_0 a108 ha109) rfl rfl mX7_25 t_X3_copy rfl (Nat.le_of_ble_eq_true rfl) (by decide) (by decide) (c_X3_copy (g := g) S105 hI104 a108 ha109 15 (by decide)) (fun S110 h111 => ?_)
    obtain ⟨hI113, hf114, x112⟩ := h111
    have hF115 := fr_tr hF106 hf114 (by decide) (by decide) (by decide) (by decide)
    refine mw_aload_n dX7_remember_37 rfl 0 rfl ?_
    refine mw_dup dX7_remember_38 rfl ?_
    refine tw_geti (j := 1) dX7_remember_39 shC_25 rfl rfl (by decide) fX7_22 (fun v116 ev116 => ?_)
    have cv116 : 0 = v116 := ((up_eq hS105).trans (fr_A hf114 (by decide) (by decide))).trans ev116.symm
    subst cv116
    refine mw_iconst dX7_remember_42 ki_1 ?_
    refine mw_iadd dX7_remember_43 (fun v117 ev117 => ?_)
    have b118 : mm_b (1) (1) v117 := bd_add ev117 n_0 n_1 (by decide)
    refine tw_puti (j := 1) dX7_remember_44 shC_25 rfl rfl (by decide) fX7_22 rfl (by decide +kernel) ?_
    have hI119 : JC (mm_up S110 25 1 v117) := JIC_put hI113 b118 (by decide +kernel)
    generalize hS120 : (mm_up S110 25 1 v117) = S120 at hI119 ⊢
    have hF121 := fr_upA hF115 hS120 (by decide)
    refine mw_aload_n dX7_remember_47 rfl 0 rfl ?_
    refine mw_aload_n dX7_remember_48 rfl 0 rfl ?_
    refine tw_geti (j := 0) dX7_remember_49 shC_25 rfl rfl (by decide) fX7_18 (fun v122 ev122 => ?_)
    have b123 : mm_b (0) (20) v122 := JIC_fld hI119 ev122 tbC_33 (by decide)
    refine mw_iconst dX7_remember_52 ki_1 ?_
    refine mw_iadd dX7_remember_53 (fun v124 ev124 => ?_)
    have b125 : mm_b (1) (21) v124 := bd_add ev124 b123 n_1 (by decide)
    refine mw_aload_n dX7_remember_54 rfl 0 rfl ?_
    refine tw_getr (j := 2) dX7_remember_55 shC_25 rfl rfl (by decide) fX7_11 ?_
    refine tw_alenr (v := 20) dX7_remember_58 shC_26 rfl (by decide) ?_
    refine mw_min (st := [.ref 25]) dX7_remember_59 mX7_29 (Nat.le_of_ble_eq_true rfl) (by decide) (fun v126 ev126 => ?_)
    have b127 : mm_b (1) (20) v126 := min_b ev126 b125 n_20 (by decide)
    refine tw_puti (j := 0) dX7_remember_62 shC_25 rfl rfl (by decide) fX7_18 rfl (by decide +kernel) ?_
    have hI128 : JC (mm_up S120 25 0 v126) := JIC_put hI119 b127 (by decide +kernel)
    generalize hS129 : (mm_up S120 25 0 v126) = S129 at hI128 ⊢
    have hF130 := fr_upA hF121 hS129 (by decide)
    exact mw_vret rfl dX7_remember_65 rfl rfl ⟨S129, rfl, rfl, ⟨hI128, hF130, trivial⟩⟩
  · skip
    have b131 : mm_b (0) (2147483647) v101 := bd_le_r (bd_nlt q102) n_0 (bd_all v101) (by decide)
    refine mw_aload_n dX7_remember_7 rfl 0 rfl ?_
    refine tw_geti (j := 1) dX7_remember_8 shC_25 rfl rfl (by decide) fX7_22 (fun v132 ev132 => ?_)
    have cv132 : v101 = v132 := ev101.trans ev132.symm
    subst cv132
    refine mw_aload_n dX7_remember_11 rfl 0 rfl ?_
    refine tw_getr (j := 2) dX7_remember_12 shC_25 rfl rfl (by decide) fX7_11 ?_
    refine tw_alenr (v := 20) dX7_remember_15 shC_26 rfl (by decide) ?_
    refine mw_icmp_lt (tgt := 24) dX7_remember_16 (by decide) (fun q133 => ?_) (fun q133 => ?_)
    · skip
      have b134 : mm_b (0) (19) v101 := bd_lt_l q133 b131 n_20 (by decide)
      refine mw_aload_n dX7_remember_24 rfl 0 rfl ?_
      refine tw_getr (j := 2) dX7_remember_25 shC_25 rfl rfl (by decide) fX7_11 ?_
      refine mw_aload_n dX7_remember_28 rfl 0 rfl ?_
      refine tw_geti (j := 1) dX7_remember_29 shC_25 rfl rfl (by decide) fX7_22 (fun v135 ev135 => ?_)
      have cv135 : v101 = v135 := ev101.trans ev135.symm
      subst cv135
      obtain ⟨a136, ea136, ha137⟩ := AAC_26 b134 (by decide)
      refine tw_aald dX7_remember_32 shC_26 rfl rfl (bd_in b134 (by decide)) ea136 (LC_folk_lt ha137) ?_
      refine mw_aload_n dX7_remember_33 rfl 1 rfl ?_
      refine tc_Vv (as := [.ref 15]) (st := []) dX7_remember_34 rfl (shC_folk_0 a136 ha137) rfl rfl mX7_25 t_X3_copy rfl (Nat.le_of_ble_eq_true rfl) (by decide) (by decide) (c_X3_copy (g := g) S hI a136 ha137 15 (by decide)) (fun S138 h139 => ?_)
      obtain ⟨hI141, hf142, x140⟩ := h139
      have hF143 := fr_tr hF hf142 (by decide) (by decide) (by decide) (by decide)
      refine mw_aload_n dX7_remember_37 rfl 0 rfl ?_
      refine mw_dup dX7_remember_38 rfl ?_
      refine tw_geti (j := 1) dX7_remember_39 shC_25 rfl rfl (by decide) fX7_22 (fun v144 ev144 => ?_)
      have cv144 : v101 = v144 := (ev101.trans (fr_A hf142 (by decide) (by decide))).trans ev144.symm
      subst cv144
      refine mw_iconst dX7_remember_42 ki_1 ?_
      refine mw_iadd dX7_remember_43 (fun v145 ev145 => ?_)
      have b146 : mm_b (1) (20) v145 := bd_add ev145 b134 n_1 (by decide)
      refine tw_puti (j := 1) dX7_remember_44 shC_25 rfl rfl (by decide) fX7_22 rfl (by decide +kernel) ?_
      have hI147 : JC (mm_up S138 25 1 v145) := JIC_put hI141 b146 (by decide +kernel)
      generalize hS148 : (mm_up S138 25 1 v145) = S148 at hI147 ⊢
      have hF149 := fr_upA hF143 hS148 (by decide)
      refine mw_aload_n dX7_remember_47 rfl 0 rfl ?_
      refine mw_aload_n dX7_remember_48 rfl 0 rfl ?_
      refine tw_geti (j := 0) dX7_remember_49 shC_25 rfl rfl (by decide) fX7_18 (fun v150 ev150 => ?_)
      have b151 : mm_b (0) (20) v150 := JIC_fld hI147 ev150 tbC_33 (by decide)
      refine mw_iconst dX7_remember_52 ki_1 ?_
      refine mw_iadd dX7_remember_53 (fun v152 ev152 => ?_)
      have b153 : mm_b (1) (21) v152 := bd_add ev152 b151 n_1 (by decide)
      refine mw_aload_n dX7_remember_54 rfl 0 rfl ?_
      refine tw_getr (j := 2) dX7_remember_55 shC_25 rfl rfl (by decide) fX7_11 ?_
      refine tw_alenr (v := 20) dX7_remember_58 shC_26 rfl (by decide) ?_
      refine mw_min (st := [.ref 25]) dX7_remember_59 mX7_29 (Nat.le_of_ble_eq_true rfl) (by decide) (fun v154 ev154 => ?_)
      have b155 : mm_b (1) (20) v154 := min_b ev154 b153 n_20 (by decide)
      refine tw_puti (j := 0) dX7_remember_62 shC_25 rfl rfl (by decide) fX7_18 rfl (by decide +kernel) ?_
      have hI156 : JC (mm_up S148 25 0 v154) := JIC_put hI147 b155 (by decide +kernel)
      generalize hS157 : (mm_up S148 25 0 v154) = S157 at hI156 ⊢
      have hF158 := fr_upA hF149 hS157 (by decide)
      exact mw_vret rfl dX7_remember_65 rfl rfl ⟨S157, rfl, rfl, ⟨hI156, hF158, trivial⟩⟩
    · skip
      have b159 : mm_b (20) (2147483647) v101 := bd_le_r (bd_nlt q133) n_20 b131 (by decide)
      refine mw_aload_n dX7_remember_19 rfl 0 rfl ?_
      refine mw_iconst dX7_remember_20 ki_0 ?_
      refine tw_puti (j := 1) dX7_remember_21 shC_25 rfl rfl (by decide) fX7_22 rfl (by decide +kernel) ?_
      have hI160 : JC (mm_up S 25 1 0) := JIC_put hI n_0 (by decide +kernel)
      generalize hS161 : (mm_up S 25 1 0) = S161 at hI160 ⊢
      have hF162 := fr_upA hF hS161 (by decide)
      refine mw_aload_n dX7_remember_24 rfl 0 rfl ?_
      refine tw_getr (j := 2) dX7_remember_25 shC_25 rfl rfl (by decide) fX7_11 ?_
      refine mw_aload_n dX7_remember_28 rfl 0 rfl ?_
      refine tw_geti (j := 1) dX7_remember_29 shC_25 rfl rfl (by decide) fX7_22 (fun v163 ev163 => ?_)
      have cv163 : 0 = v163 := (up_eq hS161).trans ev163.symm
      subst cv163
      obtain ⟨a164, ea164, ha165⟩ := AAC_26 n_0 (by decide)
      refine tw_aald dX7_remember_32 shC_26 rfl rfl (bd_in n_0 (by decide)) ea164 (LC_folk_lt ha165) ?_
      refine mw_aload_n dX7_remember_33 rfl 1 rfl ?_
      refine tc_Vv (as := [.ref 15]) (st := []) dX7_remember_34 rfl (shC_folk_0 a164 ha165) rfl rfl mX7_25 t_X3_copy rfl (Nat.le_of_ble_eq_true rfl) (by decide) (by decide) (c_X3_copy (g := g) S161 hI160 a164 ha165 15 (by decide)) (fun S166 h167 => ?_)
      obtain ⟨hI169, hf170, x168⟩ := h167
      have hF171 := fr_tr hF162 hf170 (by decide) (by decide) (by decide) (by decide)
      refine mw_aload_n dX7_remember_37 rfl 0 rfl ?_
      refine mw_dup dX7_remember_38 rfl ?_
      refine tw_geti (j := 1) dX7_remember_39 shC_25 rfl rfl (by decide) fX7_22 (fun v172 ev172 => ?_)
      have cv172 : 0 = v172 := ((up_eq hS161).trans (fr_A hf170 (by decide) (by decide))).trans ev172.symm
      subst cv172
      refine mw_iconst dX7_remember_42 ki_1 ?_
      refine mw_iadd dX7_remember_43 (fun v173 ev173 => ?_)
      have b174 : mm_b (1) (1) v173 := bd_add ev173 n_0 n_1 (by decide)
      refine tw_puti (j := 1) dX7_remember_44 shC_25 rfl rfl (by decide) fX7_22 rfl (by decide +kernel) ?_
      have hI175 : JC (mm_up S166 25 1 v173) := JIC_put hI169 b174 (by decide +kernel)
      generalize hS176 : (mm_up S166 25 1 v173) = S176 at hI175 ⊢
      have hF177 := fr_upA hF171 hS176 (by decide)
      refine mw_aload_n dX7_remember_47 rfl 0 rfl ?_
      refine mw_aload_n dX7_remember_48 rfl 0 rfl ?_
      refine tw_geti (j := 0) dX7_remember_49 shC_25 rfl rfl (by decide) fX7_18 (fun v178 ev178 => ?_)
      have b179 : mm_b (0) (20) v178 := JIC_fld hI175 ev178 tbC_33 (by decide)
      refine mw_iconst dX7_remember_52 ki_1 ?_
      refine mw_iadd dX7_remember_53 (fun v180 ev180 => ?_)
      have b181 : mm_b (1) (21) v180 := bd_add ev180 b179 n_1 (by decide)
      refine mw_aload_n dX7_remember_54 rfl 0 rfl ?_
      refine tw_getr (j := 2) dX7_remember_55 shC_25 rfl rfl (by decide) fX7_11 ?_
      refine tw_alenr (v := 20) dX7_remember_58 shC_26 rfl (by decide) ?_
      refine mw_min (st := [.ref 25]) dX7_remember_59 mX7_29 (Nat.le_of_ble_eq_true rfl) (by decide) (fun v182 ev182 => ?_)
      have b183 : mm_b (1) (20) v182 := min_b ev182 b181 n_20 (by decide)
      refine tw_puti (j := 0) dX7_remember_62 shC_25 rfl rfl (by decide) fX7_18 rfl (by decide +kernel) ?_
      have hI184 : JC (mm_up S176 25 0 v182) := JIC_put hI175 b183 (by decide +kernel)
      generalize hS185 : (mm_up S176 25 0 v182) = S185 at hI184 ⊢
      have hF186 := fr_upA hF177 hS185 (by decide)
      exact mw_vret rfl dX7_remember_65 rfl rfl ⟨S185, rfl, rfl, ⟨hI184, hF186, trivial⟩⟩
set_option maxRecDepth 100000 in
set_option maxHeartbeats 4000000 in
theorem c_X7_bringBack {g : mm_G} (S : mm_S) (hI : JC S)  : mc g yX7_bringBack cX7_bringBack 2 (some .boolean) (mm_rm 1) [.ref 25, .ref 15] (mm_enc shC S) (qi shC (fun S1 v => JC S1 ∧ fr [15, 16, 17, 18, 19, 20, 21, 22, 23, 24, 25, 27, 28, 29, 30, 31, 32, 33, 34, 35, 36, 37, 38, 39, 40, 41, 42, 43, 44, 45, 46, 47, 48, 49, 50, 51, 52, 53, 54, 55, 56, 57, 58, 59, 60, 61, 62, 63, 64, 65, 66, 67, 68, 69, 70, 71, 72, 73, 74, 75, 76, 77, 78, 79, 80, 81, 82, 83, 84, 85, 86, 87, 88, 89, 90, 91, 92, 93, 94, 95, 96, 97, 98, 99, 100, 101, 102, 103, 104, 105, 106, 107, 108, 109, 110, 111, 112, 113, 114, 115, 116, 117, 118, 119, 120, 121, 122, 123, 124, 125, 126, 152, 153, 154, 155, 156, 158, 159, 160, 161, 162] [] true true S S1 ∧ mm_b (0) (1) v ∧ (True))) := by
  refine mc_of2 (own := RX7) (ini := false) (ls := [(0, .ref 25), (1, .ref 15)]) (by decide) (Nat.le_of_ble_eq_true rfl) rfl (by decide) rfl ?_
  have hF : fr [15, 16, 17, 18, 19, 20, 21, 22, 23, 24, 25, 27, 28, 29, 30, 31, 32, 33, 34, 35, 36, 37, 38, 39, 40, 41, 42, 43, 44, 45, 46, 47, 48, 49, 50, 51, 52, 53, 54, 55, 56, 57, 58, 59, 60, 61, 62, 63, 64, 65, 66, 67, 68, 69, 70, 71, 72, 73, 74, 75, 76, 77, 78, 79, 80, 81, 82, 83, 84, 85, 86, 87, 88, 89, 90, 91, 92, 93, 94, 95, 96, 97, 98, 99, 100, 101, 102, 103, 104, 105, 106, 107, 108, 109, 110, 111, 112, 113, 114, 115, 116, 117, 118, 119, 120, 121, 122, 123, 124, 125, 126, 152, 153, 154, 155, 156, 158, 159, 160, 161, 162] [] true true S S := fr_rf
  refine mw_aload_n dX7_bringBack_0 rfl 0 rfl ?_
  refine tw_geti (j := 0) dX7_bringBack_1 shC_25 rfl rfl (by decide) fX7_18 (fun v101 ev101 => ?_)
  have b102 : mm_b (0) (20) v101 := JIC_fld hI ev101 tbC_33 (by decide)
  refine mw_if_ne (tgt := 9) dX7_bringBack_4 (by decide) (fun q103 => ?_) (fun q103 => ?_)
  · skip
    have b104 : mm_b (1) (20) v101 := bd_ne_l q103 b102 n_0 (by decide)
    refine mw_aload_n dX7_bringBack_9 rfl 0 rfl ?_
    refine mw_aload_n dX7_bringBack_10 rfl 0 rfl ?_
    refine tw_geti (j := 1) dX7_bringBack_11 shC_25 rfl rfl (by decide) fX7_22 (fun v105 ev105 => ?_)
    refine mw_if_le (tgt := 29) dX7_bringBack_14 (by decide) (fun q106 => ?_) (fun q106 => ?_)
    · skip
      have b107 : mm_b (-2147483648) (0) v105 := bd_le_l q106 (bd_all v105) n_0 (by decide)
      refine mw_aload_n dX7_bringBack_29 rfl 0 rfl ?_
      refine tw_getr (j := 2) dX7_bringBack_30 shC_25 rfl rfl (by decide) fX7_11 ?_
      refine tw_alenr (v := 20) dX7_bringBack_33 shC_26 rfl (by decide) ?_
      refine mw_iconst dX7_bringBack_34 ki_1 ?_
      refine mw_isub dX7_bringBack_35 (fun v108 ev108 => ?_)
      have b109 : mm_b (19) (19) v108 := bd_sub ev108 n_20 n_1 (by decide)
      refine mw_goto (tgt := 45) dX7_bringBack_36 (by decide) ?_
      refine tw_puti (j := 1) dX7_bringBack_45 shC_25 rfl rfl (by decide) fX7_22 rfl (by decide +kernel) ?_
      have hI110 : JC (mm_up S 25 1 v108) := JIC_put hI b109 (by decide +kernel)
      generalize hS111 : (mm_up S 25 1 v108) = S111 at hI110 ⊢
      have hF112 := fr_upA hF hS111 (by decide)
      refine mw_aload_n dX7_bringBack_48 rfl 1 rfl ?_
      refine mw_aload_n dX7_bringBack_49 rfl 0 rfl ?_
      refine tw_getr (j := 2) dX7_bringBack_50 shC_25 rfl rfl (by decide) fX7_11 ?_
      refine mw_aload_n dX7_bringBack_53 rfl 0 rfl ?_
      refine tw_geti (j := 1) dX7_bringBack_54 shC_25 rfl rfl (by decide) fX7_22 (fun v113 ev113 => ?_)
      have cv113 : v108 = v113 := (up_eq hS111).trans ev113.symm
      subst cv113
      obtain ⟨a114, ea114, ha115⟩ := AAC_26 b109 (by decide)
      refine tw_aald dX7_bringBack_57 shC_26 rfl rfl (bd_in b109 (by decide)) ea114 (LC_folk_lt ha115) ?_
      refine tc_Vv (as := [.ref a114]) (st := []) dX7_bringBack_58 rfl shC_15 rfl rfl mX7_25 t_X3_copy rfl (Nat.le_of_ble_eq_true rfl) (by decide) (by decide) (c_X3_copy (g := g) S111 hI110 15 (by decide) a114 ha115) (fun S116 h117 => ?_)
      obtain ⟨hI119, hf120, x118⟩ := h117
      have hF121 := fr_tr hF112 hf120 (by decide) (by decide) (by decide) (by decide)
      refine mw_aload_n dX7_bringBack_61 rfl 0 rfl ?_
      refine mw_dup dX7_bringBack_62 rfl ?_
      refine tw_geti (j := 0) dX7_bringBack_63 shC_25 rfl rfl (by decide) fX7_18 (fun v122 ev122 => ?_)
      have cv122 : v101 = v122 := ((ev101.trans (up_neF hS111 (by decide))).trans (fr_A hf120 (by decide) (by decide))).trans ev122.symm
      subst cv122
      refine mw_iconst dX7_bringBack_66 ki_1 ?_
      refine mw_isub dX7_bringBack_67 (fun v123 ev123 => ?_)
      have b124 : mm_b (0) (19) v123 := bd_sub ev123 b104 n_1 (by decide)
      refine tw_puti (j := 0) dX7_bringBack_68 shC_25 rfl rfl (by decide) fX7_18 rfl (by decide +kernel) ?_
      have hI125 : JC (mm_up S116 25 0 v123) := JIC_put hI119 b124 (by decide +kernel)
      generalize hS126 : (mm_up S116 25 0 v123) = S126 at hI125 ⊢
      have hF127 := fr_upA hF121 hS126 (by decide)
      refine mw_iconst dX7_bringBack_71 ki_1 ?_
      exact mw_zret rfl (bd_nar n_1 (by decide)) dX7_bringBack_72 rfl rfl ⟨S126, _, rfl, rfl, hI125, hF127, bd_w n_1 (by decide), trivial⟩
    · skip
      have b128 : mm_b (1) (2147483647) v105 := bd_lt_r (bd_nle q106) n_0 (bd_all v105) (by decide)
      refine mw_aload_n dX7_bringBack_17 rfl 0 rfl ?_
      refine tw_geti (j := 1) dX7_bringBack_18 shC_25 rfl rfl (by decide) fX7_22 (fun v129 ev129 => ?_)
      have cv129 : v105 = v129 := ev105.trans ev129.symm
      subst cv129
      refine mw_aload_n dX7_bringBack_21 rfl 0 rfl ?_
      refine tw_getr (j := 2) dX7_bringBack_22 shC_25 rfl rfl (by decide) fX7_11 ?_
      refine tw_alenr (v := 20) dX7_bringBack_25 shC_26 rfl (by decide) ?_
      refine mw_icmp_le (tgt := 39) dX7_bringBack_26 (by decide) (fun q130 => ?_) (fun q130 => ?_)
      · skip
        have b131 : mm_b (1) (20) v105 := bd_le_l q130 b128 n_20 (by decide)
        refine mw_aload_n dX7_bringBack_39 rfl 0 rfl ?_
        refine tw_geti (j := 1) dX7_bringBack_40 shC_25 rfl rfl (by decide) fX7_22 (fun v132 ev132 => ?_)
        have cv132 : v105 = v132 := ev105.trans ev132.symm
        subst cv132
        refine mw_iconst dX7_bringBack_43 ki_1 ?_
        refine mw_isub dX7_bringBack_44 (fun v133 ev133 => ?_)
        have b134 : mm_b (0) (19) v133 := bd_sub ev133 b131 n_1 (by decide)
        refine tw_puti (j := 1) dX7_bringBack_45 shC_25 rfl rfl (by decide) fX7_22 rfl (by decide +kernel) ?_
        have hI135 : JC (mm_up S 25 1 v133) := JIC_put hI b134 (by decide +kernel)
        generalize hS136 : (mm_up S 25 1 v133) = S136 at hI135 ⊢
        have hF137 := fr_upA hF hS136 (by decide)
        refine mw_aload_n dX7_bringBack_48 rfl 1 rfl ?_
        refine mw_aload_n dX7_bringBack_49 rfl 0 rfl ?_
        refine tw_getr (j := 2) dX7_bringBack_50 shC_25 rfl rfl (by decide) fX7_11 ?_
        refine mw_aload_n dX7_bringBack_53 rfl 0 rfl ?_
        refine tw_geti (j := 1) dX7_bringBack_54 shC_25 rfl rfl (by decide) fX7_22 (fun v138 ev138 => ?_)
        have cv138 : v133 = v138 := (up_eq hS136).trans ev138.symm
        subst cv138
        obtain ⟨a139, ea139, ha140⟩ := AAC_26 b134 (by decide)
        refine tw_aald dX7_bringBack_57 shC_26 rfl rfl (bd_in b134 (by decide)) ea139 (LC_folk_lt ha140) ?_
        refine tc_Vv (as := [.ref a139]) (st := []) dX7_bringBack_58 rfl shC_15 rfl rfl mX7_25 t_X3_copy rfl (Nat.le_of_ble_eq_true rfl) (by decide) (by decide) (c_X3_copy (g := g) S136 hI135 15 (by decide) a139 ha140) (fun S141 h142 => ?_)
        obtain ⟨hI144, hf145, x143⟩ := h142
        have hF146 := fr_tr hF137 hf145 (by decide) (by decide) (by decide) (by decide)
        refine mw_aload_n dX7_bringBack_61 rfl 0 rfl ?_
        refine mw_dup dX7_bringBack_62 rfl ?_
        refine tw_geti (j := 0) dX7_bringBack_63 shC_25 rfl rfl (by decide) fX7_18 (fun v147 ev147 => ?_)
        have cv147 : v101 = v147 := ((ev101.trans (up_neF hS136 (by decide))).trans (fr_A hf145 (by decide) (by decide))).trans ev147.symm
        subst cv147
        refine mw_iconst dX7_bringBack_66 ki_1 ?_
        refine mw_isub dX7_bringBack_67 (fun v148 ev148 => ?_)
        have b149 : mm_b (0) (19) v148 := bd_sub ev148 b104 n_1 (by decide)
        refine tw_puti (j := 0) dX7_bringBack_68 shC_25 rfl rfl (by decide) fX7_18 rfl (by decide +kernel) ?_
        have hI150 : JC (mm_up S141 25 0 v148) := JIC_put hI144 b149 (by decide +kernel)
        generalize hS151 : (mm_up S141 25 0 v148) = S151 at hI150 ⊢
        have hF152 := fr_upA hF146 hS151 (by decide)
        refine mw_iconst dX7_bringBack_71 ki_1 ?_
        exact mw_zret rfl (bd_nar n_1 (by decide)) dX7_bringBack_72 rfl rfl ⟨S151, _, rfl, rfl, hI150, hF152, bd_w n_1 (by decide), trivial⟩
      · skip
        have b153 : mm_b (21) (2147483647) v105 := bd_lt_r (bd_nle q130) n_20 b128 (by decide)
        refine mw_aload_n dX7_bringBack_29 rfl 0 rfl ?_
        refine tw_getr (j := 2) dX7_bringBack_30 shC_25 rfl rfl (by decide) fX7_11 ?_
        refine tw_alenr (v := 20) dX7_bringBack_33 shC_26 rfl (by decide) ?_
        refine mw_iconst dX7_bringBack_34 ki_1 ?_
        refine mw_isub dX7_bringBack_35 (fun v154 ev154 => ?_)
        have b155 : mm_b (19) (19) v154 := bd_sub ev154 n_20 n_1 (by decide)
        refine mw_goto (tgt := 45) dX7_bringBack_36 (by decide) ?_
        refine tw_puti (j := 1) dX7_bringBack_45 shC_25 rfl rfl (by decide) fX7_22 rfl (by decide +kernel) ?_
        have hI156 : JC (mm_up S 25 1 v154) := JIC_put hI b155 (by decide +kernel)
        generalize hS157 : (mm_up S 25 1 v154) = S157 at hI156 ⊢
        have hF158 := fr_upA hF hS157 (by decide)
        refine mw_aload_n dX7_bringBack_48 rfl 1 rfl ?_
        refine mw_aload_n dX7_bringBack_49 rfl 0 rfl ?_
        refine tw_getr (j := 2) dX7_bringBack_50 shC_25 rfl rfl (by decide) fX7_11 ?_
        refine mw_aload_n dX7_bringBack_53 rfl 0 rfl ?_
        refine tw_geti (j := 1) dX7_bringBack_54 shC_25 rfl rfl (by decide) fX7_22 (fun v159 ev159 => ?_)
        have cv159 : v154 = v159 := (up_eq hS157).trans ev159.symm
        subst cv159
        obtain ⟨a160, ea160, ha161⟩ := AAC_26 b155 (by decide)
        refine tw_aald dX7_bringBack_57 shC_26 rfl rfl (bd_in b155 (by decide)) ea160 (LC_folk_lt ha161) ?_
        refine tc_Vv (as := [.ref a160]) (st := []) dX7_bringBack_58 rfl shC_15 rfl rfl mX7_25 t_X3_copy rfl (Nat.le_of_ble_eq_true rfl) (by decide) (by decide) (c_X3_copy (g := g) S157 hI156 15 (by decide) a160 ha161) (fun S162 h163 => ?_)
        obtain ⟨hI165, hf166, x164⟩ := h163
        have hF167 := fr_tr hF158 hf166 (by decide) (by decide) (by decide) (by decide)
        refine mw_aload_n dX7_bringBack_61 rfl 0 rfl ?_
        refine mw_dup dX7_bringBack_62 rfl ?_
        refine tw_geti (j := 0) dX7_bringBack_63 shC_25 rfl rfl (by decide) fX7_18 (fun v168 ev168 => ?_)
        have cv168 : v101 = v168 := ((ev101.trans (up_neF hS157 (by decide))).trans (fr_A hf166 (by decide) (by decide))).trans ev168.symm
        subst cv168
        refine mw_iconst dX7_bringBack_66 ki_1 ?_
        refine mw_isub dX7_bringBack_67 (fun v169 ev169 => ?_)
        have b170 : mm_b (0) (19) v169 := bd_sub ev169 b104 n_1 (by decide)
        refine tw_puti (j := 0) dX7_bringBack_68 shC_25 rfl rfl (by decide) fX7_18 rfl (by decide +kernel) ?_
        have hI171 : JC (mm_up S162 25 0 v169) := JIC_put hI165 b170 (by decide +kernel)
        generalize hS172 : (mm_up S162 25 0 v169) = S172 at hI171 ⊢
        have hF173 := fr_upA hF167 hS172 (by decide)
        refine mw_iconst dX7_bringBack_71 ki_1 ?_
        exact mw_zret rfl (bd_nar n_1 (by decide)) dX7_bringBack_72 rfl rfl ⟨S172, _, rfl, rfl, hI171, hF173, bd_w n_1 (by decide), trivial⟩
  · skip
    have b174 : mm_b (0) (0) v101 := bd_eq_l q103 b102 n_0 (by decide)
    refine mw_iconst dX7_bringBack_7 ki_0 ?_
    exact mw_zret rfl (bd_nar n_0 (by decide)) dX7_bringBack_8 rfl rfl ⟨S, _, rfl, rfl, hI, hF, bd_w n_0 (by decide), trivial⟩
set_option maxRecDepth 100000 in
set_option maxHeartbeats 4000000 in
theorem c_X5_empty {g : mm_G} (S : mm_S) (hI : JC S)  : mc g yX5_empty cX5_empty 1 none (mm_rm 0) [.ref 138] (mm_enc shC S) (qv shC (fun S1 => JC S1 ∧ fr [138] [] true true S S1 ∧ True)) := by
  refine mc_of2 (own := RX5) (ini := false) (ls := [(0, .ref 138)]) (by decide) (Nat.le_of_ble_eq_true rfl) rfl (by decide) rfl ?_
  have hF : fr [138] [] true true S S := fr_rf
  refine mw_aload_n dX5_empty_0 rfl 0 rfl ?_
  refine mw_iconst dX5_empty_1 ki_0 ?_
  refine tw_puti (j := 0) dX5_empty_2 shC_138 rfl rfl (by decide) fX5_15 rfl (by decide +kernel) ?_
  have hI101 : JC (mm_up S 138 0 0) := JIC_put hI n_0 (by decide +kernel)
  generalize hS102 : (mm_up S 138 0 0) = S102 at hI101 ⊢
  have hF103 := fr_upA hF hS102 (by decide)
  refine mw_aload_n dX5_empty_5 rfl 0 rfl ?_
  refine mw_iconst dX5_empty_6 ki_0 ?_
  refine tw_puti (j := 1) dX5_empty_7 shC_138 rfl rfl (by decide) fX5_19 rfl (by decide +kernel) ?_
  have hI104 : JC (mm_up S102 138 1 0) := JIC_put hI101 n_0 (by decide +kernel)
  generalize hS105 : (mm_up S102 138 1 0) = S105 at hI104 ⊢
  have hF106 := fr_upA hF103 hS105 (by decide)
  exact mw_vret rfl dX5_empty_10 rfl rfl ⟨S105, rfl, rfl, ⟨hI104, hF106, trivial⟩⟩
set_option maxRecDepth 100000 in
set_option maxHeartbeats 4000000 in
theorem c_X5_add {g : mm_G} (S : mm_S) (hI : JC S) (x1 : Int32) : mc g yX5_add cX5_add 2 none (mm_rm 0) [.ref 138, .int x1] (mm_enc shC S) (qv shC (fun S1 => JC S1 ∧ fr [138, 139] [] true true S S1 ∧ True)) := by
  refine mc_of2 (own := RX5) (ini := false) (ls := [(0, .ref 138), (1, .int x1)]) (by decide) (Nat.le_of_ble_eq_true rfl) rfl (by decide) rfl ?_
  have hF : fr [138, 139] [] true true S S := fr_rf
  refine mw_aload_n dX5_add_0 rfl 0 rfl ?_
  refine tw_geti (j := 0) dX5_add_1 shC_138 rfl rfl (by decide) fX5_15 (fun v101 ev101 => ?_)
  have b102 : mm_b (0) (7) v101 := JIC_fld hI ev101 tbC_37 (by decide)
  refine mw_aload_n dX5_add_4 rfl 0 rfl ?_
  refine tw_getr (j := 2) dX5_add_5 shC_138 rfl rfl (by decide) fX5_9 ?_
  refine tw_aleni (v := 7) dX5_add_8 shC_139 rfl (by decide) ?_
  refine mw_icmp_ge (tgt := 44) dX5_add_9 (by decide) (fun q103 => ?_) (fun q103 => ?_)
  · skip
    have b104 : mm_b (7) (7) v101 := bd_le_r q103 n_7 b102 (by decide)
    exact mw_vret rfl dX5_add_44 rfl rfl ⟨S, rfl, rfl, ⟨hI, hF, trivial⟩⟩
  · skip
    have b105 : mm_b (0) (6) v101 := bd_lt_l (bd_nle q103) b102 n_7 (by decide)
    refine mw_aload_n dX5_add_12 rfl 0 rfl ?_
    refine tw_getr (j := 2) dX5_add_13 shC_138 rfl rfl (by decide) fX5_9 ?_
    refine mw_aload_n dX5_add_16 rfl 0 rfl ?_
    refine tw_geti (j := 0) dX5_add_17 shC_138 rfl rfl (by decide) fX5_15 (fun v106 ev106 => ?_)
    have cv106 : v101 = v106 := ev101.trans ev106.symm
    subst cv106
    refine mw_iload_n dX5_add_20 rfl 1 rfl ?_
    refine tw_iast dX5_add_21 shC_139 (bd_in b105 (by decide)) ?_
    have hI107 : JC (mm_up S 139 v101.toNatClampNeg x1) := JIC_puta hI (bd_all x1) b105 (by decide) (by decide +kernel)
    generalize hS108 : (mm_up S 139 v101.toNatClampNeg x1) = S108 at hI107 ⊢
    have hF109 := fr_upA hF hS108 (by decide)
    refine mw_aload_n dX5_add_22 rfl 0 rfl ?_
    refine mw_dup dX5_add_23 rfl ?_
    refine tw_geti (j := 0) dX5_add_24 shC_138 rfl rfl (by decide) fX5_15 (fun v110 ev110 => ?_)
    have cv110 : v101 = v110 := (ev101.trans (up_neA hS108 (by decide))).trans ev110.symm
    subst cv110
    refine mw_iconst dX5_add_27 ki_1 ?_
    refine mw_iadd dX5_add_28 (fun v111 ev111 => ?_)
    have b112 : mm_b (1) (7) v111 := bd_add ev111 b105 n_1 (by decide)
    refine tw_puti (j := 0) dX5_add_29 shC_138 rfl rfl (by decide) fX5_15 rfl (by decide +kernel) ?_
    have hI113 : JC (mm_up S108 138 0 v111) := JIC_put hI107 b112 (by decide +kernel)
    generalize hS114 : (mm_up S108 138 0 v111) = S114 at hI113 ⊢
    have hF115 := fr_upA hF109 hS114 (by decide)
    refine mw_aload_n dX5_add_32 rfl 0 rfl ?_
    refine mw_dup dX5_add_33 rfl ?_
    refine tw_geti (j := 1) dX5_add_34 shC_138 rfl rfl (by decide) fX5_19 (fun v116 ev116 => ?_)
    refine mw_iconst dX5_add_37 ki_1 ?_
    refine mw_iload_n dX5_add_38 rfl 1 rfl ?_
    refine mw_ishl dX5_add_39 (fun v117 ev117 => ?_)
    refine mw_ior dX5_add_40 (fun v118 ev118 => ?_)
    refine tw_puti (j := 1) dX5_add_41 shC_138 rfl rfl (by decide) fX5_19 rfl (by decide +kernel) ?_
    have hI119 : JC (mm_up S114 138 1 v118) := JIC_put hI113 (bd_all v118) (by decide +kernel)
    generalize hS120 : (mm_up S114 138 1 v118) = S120 at hI119 ⊢
    have hF121 := fr_upA hF115 hS120 (by decide)
    exact mw_vret rfl dX5_add_44 rfl rfl ⟨S120, rfl, rfl, ⟨hI119, hF121, trivial⟩⟩
set_option maxRecDepth 100000 in
set_option maxHeartbeats 4000000 in
theorem c_X5_holds {g : mm_G} (S : mm_S) (hI : JC S) (x1 : Int32) : mc g yX5_holds cX5_holds 2 (some .boolean) (mm_rm 1) [.ref 138, .int x1] (mm_enc shC S) (qi shC (fun S1 v => S = S1 ∧ mm_b (0) (1) v ∧ (v = 0 ∨ (mm_b (0) (6) x1)))) := by
  refine mc_of2 (own := RX5) (ini := false) (ls := [(0, .ref 138), (1, .int x1)]) (by decide) (Nat.le_of_ble_eq_true rfl) rfl (by decide) rfl ?_
  refine mw_aload_n dX5_holds_0 rfl 0 rfl ?_
  refine tw_geti (j := 1) dX5_holds_1 shC_138 rfl rfl (by decide) fX5_19 (fun v101 ev101 => ?_)
  refine mw_iload_n dX5_holds_4 rfl 1 rfl ?_
  refine tc_SiN (as := [.int v101, .int x1]) (st := []) dX5_holds_5 rfl mX5_57 t_X9_isIn rfl (Nat.le_of_ble_eq_true rfl) (by decide) (by decide) (c_X9_isIn (g := g) S hI v101 x1) (fun S102 v104 h103 => ?_)
  obtain ⟨rfl, b105, x106⟩ := h103
  have xx := x106
  exact mw_zret rfl (bd_nar b105 (by decide)) dX5_holds_8 rfl rfl ⟨S, _, rfl, rfl, rfl, b105, Or.elim xx Or.inl (fun u107 => Or.inr (bd_w u107 (by decide)))⟩
set_option maxRecDepth 100000 in
set_option maxHeartbeats 4000000 in
theorem c_X5_memberAt {g : mm_G} (S : mm_S) (hI : JC S) (x0 : Int32) (x1 : Int32) : mc g yX5_memberAt cX5_memberAt 4 (some .int) (mm_rm 1) [.int x0, .int x1] (mm_enc shC S) (qi shC (fun S1 v => S = S1 ∧ mm_b (0) (6) v ∧ (True))) := by
  refine mc_of2 (own := RX5) (ini := false) (ls := [(0, .int x0), (1, .int x1)]) (by decide) (Nat.le_of_ble_eq_true rfl) rfl (by decide) rfl ?_
  refine mw_iconst dX5_memberAt_0 ki_0 ?_
  refine mw_istore_n (ls' := [(2, .int 0), (0, .int x0), (1, .int x1)]) dX5_memberAt_1 rfl (by decide) rfl ?_
  refine mw_iconst dX5_memberAt_2 ki_0 ?_
  refine mw_istore_n (ls' := [(3, .int 0), (2, .int 0), (0, .int x0), (1, .int x1)]) dX5_memberAt_3 rfl (by decide) rfl ?_
  have cut4 : ∀ (N4 : Nat) (y101 y103 : Int32), ((8 : Int) - y103.toInt).toNat < N4 → mm_b (-2147483648) (2147483647) y101 → mm_b (0) (7) y103 → mw g RX5 cX5_memberAt 4 (some .int) false (mm_rm 1) (qi shC (fun S1 v => S = S1 ∧ mm_b (0) (6) v ∧ (True))) 0 0 (mm_enc shC S) 4 [(0, .int x0), (1, .int x1), (2, .int y101), (3, .int y103)] [] := by
    intro N4
    induction N4 with
    | zero =>
      intro y101 y103 hm105 b102 b104
      exact absurd hm105 (Nat.not_lt_zero _)
    | succ N4 ih4 =>
      intro y101 y103 hm105 b102 b104
      refine mw_iload_n dX5_memberAt_4 rfl 3 rfl ?_
      refine mw_bipush dX5_memberAt_5 kb_7 ?_
      refine mw_icmp_ge (tgt := 34) dX5_memberAt_7 (by decide) (fun q106 => ?_) (fun q106 => ?_)
      · skip
        have b107 : mm_b (7) (7) y103 := bd_le_r q106 n_7 b104 (by decide)
        refine mw_iconst dX5_memberAt_34 ki_0 ?_
        exact mw_iret rfl dX5_memberAt_35 rfl rfl ⟨S, _, rfl, rfl, rfl, bd_w n_0 (by decide), trivial⟩
      · skip
        have b108 : mm_b (0) (6) y103 := bd_lt_l (bd_nle q106) b104 n_7 (by decide)
        refine mw_iload_n dX5_memberAt_10 rfl 0 rfl ?_
        refine mw_iload_n dX5_memberAt_11 rfl 3 rfl ?_
        refine tc_SiN (as := [.int x0, .int y103]) (st := []) dX5_memberAt_12 rfl mX5_57 t_X9_isIn rfl (Nat.le_of_ble_eq_true rfl) (by decide) (by decide) (c_X9_isIn (g := g) S hI x0 y103) (fun S109 v111 h110 => ?_)
        obtain ⟨rfl, b112, x113⟩ := h110
        refine mw_if_eq (tgt := 28) dX5_memberAt_15 (by decide) (fun q114 => ?_) (fun q114 => ?_)
        · skip
          have b115 : mm_b (0) (0) v111 := bd_eq_l q114 b112 n_0 (by decide)
          refine mw_iinc (ls' := fun v => [(3, .int v), (0, .int x0), (1, .int x1), (2, .int y101)]) dX5_memberAt_28 3 rfl (by decide) (fun _ => rfl) (fun v116 ev116 => ?_)
          have b117 : mm_b (1) (7) v116 := bd_inc ev116 b108 (by decide)
          refine mw_goto (tgt := 4) dX5_memberAt_31 (by decide) ?_
          refine mw_ls [1, 2, 3, 0] rfl ?_
          exact ih4 y101 v116 (ms_inc ev116 b108 (by decide) hm105) b102 (bd_w b117 (by decide))
        · skip
          have b118 : mm_b (1) (1) v111 := bd_ne_l q114 b112 n_0 (by decide)
          have b119 := Or.resolve_left x113 q114
          refine mw_iload_n dX5_memberAt_18 rfl 2 rfl ?_
          refine mw_iload_n dX5_memberAt_19 rfl 1 rfl ?_
          refine mw_icmp_ne (tgt := 25) dX5_memberAt_20 (by decide) (fun q120 => ?_) (fun q120 => ?_)
          · skip
            refine mw_iinc (ls' := fun v => [(2, .int v), (0, .int x0), (1, .int x1), (3, .int y103)]) dX5_memberAt_25 2 rfl (by decide) (fun _ => rfl) (fun v121 ev121 => ?_)
            refine mw_iinc (ls' := fun v => [(3, .int v), (2, .int v121), (0, .int x0), (1, .int x1)]) dX5_memberAt_28 3 rfl (by decide) (fun _ => rfl) (fun v122 ev122 => ?_)
            have b123 : mm_b (1) (7) v122 := bd_inc ev122 b119 (by decide)
            refine mw_goto (tgt := 4) dX5_memberAt_31 (by decide) ?_
            refine mw_ls [2, 3, 1, 0] rfl ?_
            exact ih4 v121 v122 (ms_inc ev122 b119 (by decide) hm105) (bd_all v121) (bd_w b123 (by decide))
          · skip
            refine mw_iload_n dX5_memberAt_23 rfl 3 rfl ?_
            exact mw_iret rfl dX5_memberAt_24 rfl rfl ⟨S, _, rfl, rfl, rfl, b119, trivial⟩
  refine mw_ls [2, 3, 1, 0] rfl ?_
  exact cut4 _ (0 : Int32) (0 : Int32) (Nat.lt_succ_self _) (bd_w n_0 (by decide)) (bd_w n_0 (by decide))
set_option maxRecDepth 100000 in
set_option maxHeartbeats 4000000 in
theorem c_X5_readOrder {g : mm_G} (S : mm_S) (hI : JC S) (x1 : Int32) : mc g yX5_readOrder cX5_readOrder 6 (some .boolean) (mm_rm 2) [.ref 138, .int x1, .ref 15] (mm_enc shC S) (qi shC (fun S1 v => JC S1 ∧ fr [138, 139] [] true true S S1 ∧ mm_b (0) (1) v ∧ (v = 0 ∨ (mm_b (1) (2147483647) x1)))) := by
  refine mc_of2 (own := RX5) (ini := false) (ls := [(0, .ref 138), (1, .int x1), (2, .ref 15)]) (by decide) (Nat.le_of_ble_eq_true rfl) rfl (by decide) rfl ?_
  have hF : fr [138, 139] [] true true S S := fr_rf
  refine mw_aload_n dX5_readOrder_0 rfl 0 rfl ?_
  refine tc_Vv (as := []) (st := []) dX5_readOrder_1 rfl shC_138 rfl rfl mX5_22 t_X5_empty rfl (Nat.le_of_ble_eq_true rfl) (by decide) (by decide) (c_X5_empty (g := g) S hI) (fun S101 h102 => ?_)
  obtain ⟨hI104, hf105, x103⟩ := h102
  have hF106 := fr_tr hF hf105 (by decide) (by decide) (by decide) (by decide)
  refine mw_iload_n dX5_readOrder_4 rfl 1 rfl ?_
  refine mw_if_gt (tgt := 10) dX5_readOrder_5 (by decide) (fun q107 => ?_) (fun q107 => ?_)
  · skip
    have b108 : mm_b (1) (2147483647) x1 := bd_lt_r q107 n_0 (bd_all x1) (by decide)
    refine mw_iload_n dX5_readOrder_10 rfl 1 rfl ?_
    refine mw_istore_n (ls' := [(3, .int x1), (0, .ref 138), (1, .int x1), (2, .ref 15)]) dX5_readOrder_11 rfl (by decide) rfl ?_
    refine mw_ldc dX5_readOrder_12 kX5_25 ?_
    refine mw_istore (ls' := [(4, .int 1000000000), (3, .int x1), (0, .ref 138), (1, .int x1), (2, .ref 15)]) dX5_readOrder_14 (by decide) rfl ?_
    have cut16 : ∀ (N16 : Nat) (S109 : mm_S) (y112 y114 : Int32), y114.toInt.toNat < N16 → JC S109 → fr [138, 139] [] true true S S109 → mm_b (0) (2147483647) y112 → mm_b (0) (1000000000) y114 → mw g RX5 cX5_readOrder 6 (some .boolean) false (mm_rm 2) (qi shC (fun S1 v => JC S1 ∧ fr [138, 139] [] true true S S1 ∧ mm_b (0) (1) v ∧ (v = 0 ∨ (mm_b (1) (2147483647) x1)))) 0 0 (mm_enc shC S109) 16 [(0, .ref 138), (2, .ref 15), (3, .int y112), (4, .int y114)] [] := by
      intro N16
      induction N16 with
      | zero =>
        intro S109 y112 y114 hm116 hI110 hF111 b113 b115
        exact absurd hm116 (Nat.not_lt_zero _)
      | succ N16 ih16 =>
        intro S109 y112 y114 hm116 hI110 hF111 b113 b115
        refine mw_iload dX5_readOrder_16 3 rfl ?_
        refine mw_iconst dX5_readOrder_18 ki_1 ?_
        refine mw_icmp_lt (tgt := 87) dX5_readOrder_19 (by decide) (fun q117 => ?_) (fun q117 => ?_)
        · skip
          have b118 : mm_b (0) (0) y114 := bd_lt_l q117 b115 n_1 (by decide)
          refine mw_iconst dX5_readOrder_87 ki_1 ?_
          exact mw_zret rfl (bd_nar n_1 (by decide)) dX5_readOrder_88 rfl rfl ⟨S109, _, rfl, rfl, hI110, hF111, bd_w n_1 (by decide), Or.inr (bd_w b108 (by decide))⟩
        · skip
          have b119 : mm_b (1) (1000000000) y114 := bd_le_r (bd_nlt q117) n_1 b115 (by decide)
          refine mw_iload_n dX5_readOrder_22 rfl 2 rfl ?_
          refine mw_iload dX5_readOrder_23 3 rfl ?_
          refine mw_idiv dX5_readOrder_25 (bd_ne0 b119 (by decide)) (fun v120 ev120 => ?_)
          have b121 : mm_b (0) (2147483647) v120 := bd_div ev120 b113 b119 (by decide)
          refine mw_istore (ls' := [(5, .int v120), (0, .ref 138), (2, .ref 15), (3, .int y112), (4, .int y114)]) dX5_readOrder_26 (by decide) rfl ?_
          refine mw_iload_n dX5_readOrder_28 rfl 3 rfl ?_
          refine mw_iload dX5_readOrder_29 4 rfl ?_
          refine mw_irem dX5_readOrder_31 (bd_ne0 b119 (by decide)) (fun v122 ev122 => ?_)
          have b123 : mm_b (0) (999999999) v122 := bd_rem ev122 b113 b119 (by decide)
          refine mw_istore_n (ls' := [(3, .int v122), (5, .int v120), (0, .ref 138), (2, .ref 15), (4, .int y114)]) dX5_readOrder_32 rfl (by decide) rfl ?_
          refine mw_iload dX5_readOrder_33 1 rfl ?_
          have cut45 : ∀ (S124 : mm_S) (y127 y129 y131 : Int32), y129.toInt.toNat < N16 + 1 → JC S124 → fr [138, 139] [] true true S S124 → mm_b (0) (999999999) y127 → mm_b (1) (1000000000) y129 → mm_b (0) (2147483647) y131 → mw g RX5 cX5_readOrder 6 (some .boolean) false (mm_rm 2) (qi shC (fun S1 v => JC S1 ∧ fr [138, 139] [] true true S S1 ∧ mm_b (0) (1) v ∧ (v = 0 ∨ (mm_b (1) (2147483647) x1)))) 0 0 (mm_enc shC S124) 45 [(0, .ref 138), (2, .ref 15), (3, .int y127), (4, .int y129), (5, .int y131)] [] := by
            intro S124 y127 y129 y131 hm133 hI125 hF126 b128 b130 b132
            refine mw_aload_n dX5_readOrder_45 rfl 1 rfl ?_
            refine mw_iload dX5_readOrder_46 4 rfl ?_
            refine mw_iconst dX5_readOrder_48 ki_1 ?_
            refine mw_isub dX5_readOrder_49 (fun v134 ev134 => ?_)
            have b135 : mm_b (-1) (2147483646) v134 := bd_sub ev134 b132 n_1 (by decide)
            refine tc_Vi (as := [.int v134]) (st := []) dX5_readOrder_50 rfl shC_15 rfl rfl mX5_26 t_X3_lives rfl (Nat.le_of_ble_eq_true rfl) (by decide) (by decide) (c_X3_lives_15 (g := g) S124 hI125 v134) (fun S136 v138 h137 => ?_)
            obtain ⟨rfl, b139, x140⟩ := h137
            refine mw_if_eq (tgt := 67) dX5_readOrder_53 (by decide) (fun q141 => ?_) (fun q141 => ?_)
            · skip
              have b142 : mm_b (0) (0) v138 := bd_eq_l q141 b139 n_0 (by decide)
              refine mw_iconst dX5_readOrder_67 ki_0 ?_
              exact mw_zret rfl (bd_nar n_0 (by decide)) dX5_readOrder_68 rfl rfl ⟨S124, _, rfl, rfl, hI125, hF126, bd_w n_0 (by decide), Or.inl rfl⟩
            · skip
              have b143 : mm_b (1) (1) v138 := bd_ne_l q141 b139 n_0 (by decide)
              have b144 := Or.resolve_left x140 q141
              refine mw_aload_n dX5_readOrder_56 rfl 0 rfl ?_
              refine mw_iload dX5_readOrder_57 4 rfl ?_
              refine mw_iconst dX5_readOrder_59 ki_1 ?_
              refine mw_isub dX5_readOrder_60 (fun v145 ev145 => ?_)
              have cv145 : v134 = v145 := ev134.trans ev145.symm
              subst cv145
              refine tc_Vi (as := [.int v134]) (st := []) dX5_readOrder_61 rfl shC_138 rfl rfl mX5_32 t_X5_holds rfl (Nat.le_of_ble_eq_true rfl) (by decide) (by decide) (c_X5_holds (g := g) S124 hI125 v134) (fun S146 v148 h147 => ?_)
              obtain ⟨rfl, b149, x150⟩ := h147
              refine mw_if_eq (tgt := 69) dX5_readOrder_64 (by decide) (fun q151 => ?_) (fun q151 => ?_)
              · skip
                have b152 : mm_b (0) (0) v148 := bd_eq_l q151 b149 n_0 (by decide)
                refine mw_aload_n dX5_readOrder_69 rfl 0 rfl ?_
                refine mw_iload dX5_readOrder_70 4 rfl ?_
                refine mw_iconst dX5_readOrder_72 ki_1 ?_
                refine mw_isub dX5_readOrder_73 (fun v153 ev153 => ?_)
                have cv153 : v134 = v153 := ev134.trans ev153.symm
                subst cv153
                refine tc_Vv (as := [.int v134]) (st := []) dX5_readOrder_74 rfl shC_138 rfl rfl mX5_35 t_X5_add rfl (Nat.le_of_ble_eq_true rfl) (by decide) (by decide) (c_X5_add (g := g) S124 hI125 v134) (fun S154 h155 => ?_)
                obtain ⟨hI157, hf158, x156⟩ := h155
                have hF159 := fr_tr hF126 hf158 (by decide) (by decide) (by decide) (by decide)
                refine mw_iload dX5_readOrder_77 3 rfl ?_
                refine mw_bipush dX5_readOrder_79 kb_10 ?_
                refine mw_idiv dX5_readOrder_81 (bd_ne0 n_10 (by decide)) (fun v160 ev160 => ?_)
                have b161 : mm_b (0) (100000000) v160 := bd_div ev160 b130 n_10 (by decide)
                refine mw_istore (ls' := [(4, .int v160), (0, .ref 138), (2, .ref 15), (3, .int y127), (5, .int y131)]) dX5_readOrder_82 (by decide) rfl ?_
                refine mw_goto (tgt := 16) dX5_readOrder_84 (by decide) ?_
                refine mw_ls [1, 2, 3, 0] rfl ?_
                exact ih16 S154 y127 v160 (ms_div ev160 b130 n_10 (by decide) hm133) hI157 hF159 (bd_w b128 (by decide)) (bd_w b161 (by decide))
              · skip
                have b162 : mm_b (1) (1) v148 := bd_ne_l q151 b149 n_0 (by decide)
                have b163 := Or.resolve_left x150 q151
                refine mw_iconst dX5_readOrder_67 ki_0 ?_
                exact mw_zret rfl (bd_nar n_0 (by decide)) dX5_readOrder_68 rfl rfl ⟨S124, _, rfl, rfl, hI125, hF126, bd_w n_0 (by decide), Or.inl rfl⟩
          refine mw_if_gt (tgt := 45) dX5_readOrder_35 (by decide) (fun q164 => ?_) (fun q164 => ?_)
          · skip
            have b165 : mm_b (1) (2147483647) v120 := bd_lt_r q164 n_0 b121 (by decide)
            refine mw_ls [2, 3, 0, 4, 1] rfl ?_
            exact cut45 S109 v122 y114 v120 hm116 hI110 hF111 b123 b119 (bd_w b165 (by decide))
          · skip
            have b166 : mm_b (0) (0) v120 := bd_le_l (bd_nlt q164) b121 n_0 (by decide)
            refine mw_aload_n dX5_readOrder_38 rfl 2 rfl ?_
            refine tw_geti (j := 0) dX5_readOrder_39 shC_138 rfl rfl (by decide) fX5_15 (fun v167 ev167 => ?_)
            have b168 : mm_b (0) (7) v167 := JIC_fld hI110 ev167 tbC_37 (by decide)
            refine mw_if_le (tgt := 77) dX5_readOrder_42 (by decide) (fun q169 => ?_) (fun q169 => ?_)
            · skip
              have b170 : mm_b (0) (0) v167 := bd_le_l q169 b168 n_0 (by decide)
              refine mw_iload dX5_readOrder_77 4 rfl ?_
              refine mw_bipush dX5_readOrder_79 kb_10 ?_
              refine mw_idiv dX5_readOrder_81 (bd_ne0 n_10 (by decide)) (fun v171 ev171 => ?_)
              have b172 : mm_b (0) (100000000) v171 := bd_div ev171 b119 n_10 (by decide)
              refine mw_istore (ls' := [(4, .int v171), (3, .int v122), (5, .int v120), (0, .ref 138), (2, .ref 15)]) dX5_readOrder_82 (by decide) rfl ?_
              refine mw_goto (tgt := 16) dX5_readOrder_84 (by decide) ?_
              refine mw_ls [3, 4, 1, 0] rfl ?_
              exact ih16 S109 v122 v171 (ms_div ev171 b119 n_10 (by decide) hm116) hI110 hF111 (bd_w b123 (by decide)) (bd_w b172 (by decide))
            · skip
              have b173 : mm_b (1) (7) v167 := bd_lt_r (bd_nle q169) n_0 b168 (by decide)
              refine mw_ls [2, 3, 0, 4, 1] rfl ?_
              exact cut45 S109 v122 y114 v120 hm116 hI110 hF111 b123 b119 (bd_w b166 (by decide))
    refine mw_ls [2, 4, 1, 0] rfl ?_
    exact cut16 _ S101 x1 (1000000000 : Int32) (Nat.lt_succ_self _) hI104 hF106 (bd_w b108 (by decide)) (bd_w n_1000000000 (by decide))
  · skip
    have b174 : mm_b (-2147483648) (0) x1 := bd_le_l (bd_nlt q107) (bd_all x1) n_0 (by decide)
    refine mw_iconst dX5_readOrder_8 ki_0 ?_
    exact mw_zret rfl (bd_nar n_0 (by decide)) dX5_readOrder_9 rfl rfl ⟨S101, _, rfl, rfl, hI104, hF106, bd_w n_0 (by decide), Or.inl rfl⟩
set_option maxRecDepth 100000 in
set_option maxHeartbeats 4000000 in
theorem c_X5_setOrder {g : mm_G} (S : mm_S) (hI : JC S) (x1 : Int32) (x2 : Int32) : mc g yX5_setOrder cX5_setOrder 8 none (mm_rm 2) [.ref 138, .int x1, .int x2] (mm_enc shC S) (qv shC (fun S1 => JC S1 ∧ fr [138, 139] [] true true S S1 ∧ True)) := by
  refine mc_of2 (own := RX5) (ini := false) (ls := [(0, .ref 138), (1, .int x1), (2, .int x2)]) (by decide) (Nat.le_of_ble_eq_true rfl) rfl (by decide) rfl ?_
  have hF : fr [138, 139] [] true true S S := fr_rf
  refine mw_aload_n dX5_setOrder_0 rfl 0 rfl ?_
  refine tc_Vv (as := []) (st := []) dX5_setOrder_1 rfl shC_138 rfl rfl mX5_22 t_X5_empty rfl (Nat.le_of_ble_eq_true rfl) (by decide) (by decide) (c_X5_empty (g := g) S hI) (fun S101 h102 => ?_)
  obtain ⟨hI104, hf105, x103⟩ := h102
  have hF106 := fr_tr hF hf105 (by decide) (by decide) (by decide) (by decide)
  refine mw_iload_n dX5_setOrder_4 rfl 1 rfl ?_
  refine mw_istore_n (ls' := [(3, .int x1), (0, .ref 138), (1, .int x1), (2, .int x2)]) dX5_setOrder_5 rfl (by decide) rfl ?_
  refine mw_iload_n dX5_setOrder_6 rfl 3 rfl ?_
  refine mw_istore (ls' := [(4, .int x2), (3, .int x1), (0, .ref 138), (1, .int x1), (2, .int x2)]) dX5_setOrder_7 (by decide) rfl ?_
  refine mw_iload_n dX5_setOrder_9 rfl 3 rfl ?_
  refine tc_Si (as := [.int x1]) (st := []) dX5_setOrder_10 rfl mX5_39 t_J6_bitCount_0f7a4 rfl (Nat.le_of_ble_eq_true rfl) (by decide) (by decide) (c_JbitCount (g := g) S101 hI104 x1) (fun S107 v109 h108 => ?_)
  obtain ⟨rfl, b110, x111⟩ := h108
  refine mw_iconst dX5_setOrder_13 ki_1 ?_
  refine mw_isub dX5_setOrder_14 (fun v112 ev112 => ?_)
  have b113 : mm_b (-1) (62) v112 := bd_sub ev112 b110 n_1 (by decide)
  refine mw_istore (ls' := [(5, .int v112), (4, .int x2), (3, .int x1), (0, .ref 138), (1, .int x1), (2, .int x2)]) dX5_setOrder_15 (by decide) rfl ?_
  have cut17 : ∀ (N17 : Nat) (S114 : mm_S) (y117 y119 y121 : Int32), (y121.toInt - (-1 : Int)).toNat < N17 → JC S114 → fr [138, 139] [] true true S S114 → mm_b (-2147483648) (2147483647) y117 → mm_b (-2147483648) (2147483647) y119 → mm_b (-1) (62) y121 → mw g RX5 cX5_setOrder 8 none false (mm_rm 2) (qv shC (fun S1 => JC S1 ∧ fr [138, 139] [] true true S S1 ∧ True)) 0 0 (mm_enc shC S114) 17 [(0, .ref 138), (3, .int y117), (4, .int y119), (5, .int y121)] [] := by
    intro N17
    induction N17 with
    | zero =>
      intro S114 y117 y119 y121 hm123 hI115 hF116 b118 b120 b122
      exact absurd hm123 (Nat.not_lt_zero _)
    | succ N17 ih17 =>
      intro S114 y117 y119 y121 hm123 hI115 hF116 b118 b120 b122
      refine mw_iload dX5_setOrder_17 3 rfl ?_
      refine mw_if_lt (tgt := 82) dX5_setOrder_19 (by decide) (fun q124 => ?_) (fun q124 => ?_)
      · skip
        have b125 : mm_b (-1) (-1) y121 := bd_lt_l q124 b122 n_0 (by decide)
        exact mw_vret rfl dX5_setOrder_82 rfl rfl ⟨S114, rfl, rfl, ⟨hI115, hF116, trivial⟩⟩
      · skip
        have b126 : mm_b (0) (62) y121 := bd_le_r (bd_nlt q124) n_0 b122 (by decide)
        refine mw_iload dX5_setOrder_22 3 rfl ?_
        refine mw_getsN dX5_setOrder_24 fX5_45 ?_
        refine mw_alen9 dX5_setOrder_27 ?_
        refine mw_icmp_ge (tgt := 82) dX5_setOrder_28 (by decide) (fun q127 => ?_) (fun q127 => ?_)
        · skip
          have b128 : mm_b (5) (62) y121 := bd_le_r q127 n_5 b126 (by decide)
          exact mw_vret rfl dX5_setOrder_82 rfl rfl ⟨S114, rfl, rfl, ⟨hI115, hF116, trivial⟩⟩
        · skip
          have b129 : mm_b (0) (4) y121 := bd_lt_l (bd_nle q127) b126 n_5 (by decide)
          refine mw_iconst dX5_setOrder_31 ki_1 ?_
          refine mw_getsN dX5_setOrder_32 fX5_45 ?_
          refine mw_iload dX5_setOrder_35 3 rfl ?_
          refine mw_iald9 dX5_setOrder_37 (bd_in b129 (by decide)) (mw_nm (fun v130 ev130 => ?_))
          have b131 : mm_b (1) (24) v130 := bd_ord ev130
          refine mw_max (st := []) dX5_setOrder_38 mX5_48 (Nat.le_of_ble_eq_true rfl) (by decide) (fun v132 ev132 => ?_)
          have b133 : mm_b (1) (24) v132 := max_b ev132 n_1 b131 (by decide)
          refine mw_istore (ls' := [(6, .int v132), (0, .ref 138), (3, .int y117), (4, .int y119), (5, .int y121)]) dX5_setOrder_41 (by decide) rfl ?_
          refine mw_iload_n dX5_setOrder_43 rfl 2 rfl ?_
          refine mw_iload dX5_setOrder_44 3 rfl ?_
          refine mw_iload dX5_setOrder_46 0 rfl ?_
          refine mw_idiv dX5_setOrder_48 (bd_ne0 b133 (by decide)) (fun v134 ev134 => ?_)
          refine tc_Si (as := [.int y117, .int v134]) (st := []) dX5_setOrder_49 rfl mX5_54 t_X5_memberAt rfl (Nat.le_of_ble_eq_true rfl) (by decide) (by decide) (c_X5_memberAt (g := g) S114 hI115 y117 v134) (fun S135 v137 h136 => ?_)
          obtain ⟨rfl, b138, x139⟩ := h136
          refine mw_istore (ls' := [(7, .int v137), (6, .int v132), (0, .ref 138), (3, .int y117), (4, .int y119), (5, .int y121)]) dX5_setOrder_52 (by decide) rfl ?_
          refine mw_iload dX5_setOrder_54 4 rfl ?_
          refine mw_iload dX5_setOrder_56 1 rfl ?_
          refine mw_irem dX5_setOrder_58 (bd_ne0 b133 (by decide)) (fun v140 ev140 => ?_)
          refine mw_istore (ls' := [(4, .int v140), (7, .int v137), (6, .int v132), (0, .ref 138), (3, .int y117), (5, .int y121)]) dX5_setOrder_59 (by decide) rfl ?_
          refine mw_iload_n dX5_setOrder_61 rfl 4 rfl ?_
          refine mw_iconst dX5_setOrder_62 ki_1 ?_
          refine mw_iload dX5_setOrder_63 1 rfl ?_
          refine mw_ishl dX5_setOrder_65 (fun v141 ev141 => ?_)
          have b142 : mm_b (1) (64) v141 := bd_shl 6 ev141 b138 (by decide)
          refine mw_iconst dX5_setOrder_66 ki_m1 ?_
          refine mw_ixor dX5_setOrder_67 (fun v143 ev143 => ?_)
          refine mw_iand dX5_setOrder_68 (fun v144 ev144 => ?_)
          refine mw_istore_n (ls' := [(3, .int v144), (4, .int v140), (7, .int v137), (6, .int v132), (0, .ref 138), (5, .int y121)]) dX5_setOrder_69 rfl (by decide) rfl ?_
          refine mw_aload_n dX5_setOrder_70 rfl 4 rfl ?_
          refine mw_iload dX5_setOrder_71 2 rfl ?_
          refine tc_Vv (as := [.int v137]) (st := []) dX5_setOrder_73 rfl shC_138 rfl rfl mX5_35 t_X5_add rfl (Nat.le_of_ble_eq_true rfl) (by decide) (by decide) (c_X5_add (g := g) S114 hI115 v137) (fun S145 h146 => ?_)
          obtain ⟨hI148, hf149, x147⟩ := h146
          have hF150 := fr_tr hF116 hf149 (by decide) (by decide) (by decide) (by decide)
          refine mw_iinc (ls' := fun v => [(5, .int v), (3, .int v144), (4, .int v140), (7, .int v137), (6, .int v132), (0, .ref 138)]) dX5_setOrder_76 5 rfl (by decide) (fun _ => rfl) (fun v151 ev151 => ?_)
          have b152 : mm_b (-1) (3) v151 := bd_inc ev151 b129 (by decide)
          refine mw_goto (tgt := 17) dX5_setOrder_79 (by decide) ?_
          refine mw_ls [5, 1, 2, 0] rfl ?_
          exact ih17 S145 v144 v140 v151 (ms_dec ev151 b129 (by decide) hm123) hI148 hF150 (bd_all v144) (bd_all v140) (bd_w b152 (by decide))
  refine mw_ls [3, 2, 1, 0] rfl ?_
  exact cut17 _ S101 x1 x2 v112 (Nat.lt_succ_self _) hI104 hF106 (bd_all x1) (bd_all x2) b113
set_option maxRecDepth 100000 in
set_option maxHeartbeats 4000000 in
theorem c_X5_firstOne {g : mm_G} (S : mm_S) (hI : JC S)  : mc g yX5_firstOne cX5_firstOne 1 (some .int) (mm_rm 0) [.ref 138] (mm_enc shC S) (qi shC (fun S1 v => S = S1 ∧ mm_b (-2147483648) (2147483647) v ∧ (True))) := by
  refine mc_of2 (own := RX5) (ini := false) (ls := [(0, .ref 138)]) (by decide) (Nat.le_of_ble_eq_true rfl) rfl (by decide) rfl ?_
  refine mw_aload_n dX5_firstOne_0 rfl 0 rfl ?_
  refine tw_geti (j := 0) dX5_firstOne_1 shC_138 rfl rfl (by decide) fX5_15 (fun v101 ev101 => ?_)
  have b102 : mm_b (0) (7) v101 := JIC_fld hI ev101 tbC_37 (by decide)
  refine mw_if_le (tgt := 16) dX5_firstOne_4 (by decide) (fun q103 => ?_) (fun q103 => ?_)
  · skip
    have b104 : mm_b (0) (0) v101 := bd_le_l q103 b102 n_0 (by decide)
    refine mw_iconst dX5_firstOne_16 ki_m1 ?_
    exact mw_iret rfl dX5_firstOne_17 rfl rfl ⟨S, _, rfl, rfl, rfl, bd_w n_m1 (by decide), trivial⟩
  · skip
    have b105 : mm_b (1) (7) v101 := bd_lt_r (bd_nle q103) n_0 b102 (by decide)
    refine mw_aload_n dX5_firstOne_7 rfl 0 rfl ?_
    refine tw_getr (j := 2) dX5_firstOne_8 shC_138 rfl rfl (by decide) fX5_9 ?_
    refine mw_iconst dX5_firstOne_11 ki_0 ?_
    refine tw_iald dX5_firstOne_12 shC_139 (bd_in n_0 (by decide)) (fun v106 ev106 => ?_)
    rw [cl_0] at ev106
    refine mw_goto (tgt := 17) dX5_firstOne_13 (by decide) ?_
    exact mw_iret rfl dX5_firstOne_17 rfl rfl ⟨S, _, rfl, rfl, rfl, (bd_all v106), trivial⟩
set_option maxRecDepth 100000 in
set_option maxHeartbeats 4000000 in
theorem c_X5_asNumber {g : mm_G} (S : mm_S) (hI : JC S)  : mc g yX5_asNumber cX5_asNumber 3 (some .int) (mm_rm 0) [.ref 138] (mm_enc shC S) (qi shC (fun S1 v => S = S1 ∧ mm_b (-2147483648) (2147483647) v ∧ (True))) := by
  refine mc_of2 (own := RX5) (ini := false) (ls := [(0, .ref 138)]) (by decide) (Nat.le_of_ble_eq_true rfl) rfl (by decide) rfl ?_
  refine mw_iconst dX5_asNumber_0 ki_0 ?_
  refine mw_istore_n (ls' := [(1, .int 0), (0, .ref 138)]) dX5_asNumber_1 rfl (by decide) rfl ?_
  refine mw_iconst dX5_asNumber_2 ki_0 ?_
  refine mw_istore_n (ls' := [(2, .int 0), (1, .int 0), (0, .ref 138)]) dX5_asNumber_3 rfl (by decide) rfl ?_
  have cut4 : ∀ (N4 : Nat) (y101 y103 : Int32), ((8 : Int) - y103.toInt).toNat < N4 → mm_b (-2147483648) (2147483647) y101 → mm_b (0) (7) y103 → mw g RX5 cX5_asNumber 3 (some .int) false (mm_rm 0) (qi shC (fun S1 v => S = S1 ∧ mm_b (-2147483648) (2147483647) v ∧ (True))) 0 0 (mm_enc shC S) 4 [(0, .ref 138), (1, .int y101), (2, .int y103)] [] := by
    intro N4
    induction N4 with
    | zero =>
      intro y101 y103 hm105 b102 b104
      exact absurd hm105 (Nat.not_lt_zero _)
    | succ N4 ih4 =>
      intro y101 y103 hm105 b102 b104
      refine mw_iload_n dX5_asNumber_4 rfl 2 rfl ?_
      refine mw_aload_n dX5_asNumber_5 rfl 0 rfl ?_
      refine tw_geti (j := 0) dX5_asNumber_6 shC_138 rfl rfl (by decide) fX5_15 (fun v106 ev106 => ?_)
      have b107 : mm_b (0) (7) v106 := JIC_fld hI ev106 tbC_37 (by decide)
      refine mw_icmp_ge (tgt := 32) dX5_asNumber_9 (by decide) (fun q108 => ?_) (fun q108 => ?_)
      · skip
        refine mw_iload_n dX5_asNumber_32 rfl 1 rfl ?_
        exact mw_iret rfl dX5_asNumber_33 rfl rfl ⟨S, _, rfl, rfl, rfl, b102, trivial⟩
      · skip
        have b109 : mm_b (0) (6) y103 := bd_lt_l (bd_nle q108) b104 b107 (by decide)
        have b110 : mm_b (1) (7) v106 := bd_lt_r (bd_nle q108) b104 b107 (by decide)
        refine mw_bipush dX5_asNumber_12 kb_10 ?_
        refine mw_iload_n dX5_asNumber_14 rfl 1 rfl ?_
        refine mw_imul dX5_asNumber_15 (fun v111 ev111 => ?_)
        refine mw_aload_n dX5_asNumber_16 rfl 0 rfl ?_
        refine tw_getr (j := 2) dX5_asNumber_17 shC_138 rfl rfl (by decide) fX5_9 ?_
        refine mw_iload_n dX5_asNumber_20 rfl 2 rfl ?_
        refine tw_iald dX5_asNumber_21 shC_139 (bd_in b109 (by decide)) (fun v112 ev112 => ?_)
        refine mw_iadd dX5_asNumber_22 (fun v113 ev113 => ?_)
        refine mw_iconst dX5_asNumber_23 ki_1 ?_
        refine mw_iadd dX5_asNumber_24 (fun v114 ev114 => ?_)
        refine mw_istore_n (ls' := [(1, .int v114), (0, .ref 138), (2, .int y103)]) dX5_asNumber_25 rfl (by decide) rfl ?_
        refine mw_iinc (ls' := fun v => [(2, .int v), (1, .int v114), (0, .ref 138)]) dX5_asNumber_26 2 rfl (by decide) (fun _ => rfl) (fun v115 ev115 => ?_)
        have b116 : mm_b (1) (7) v115 := bd_inc ev115 b109 (by decide)
        refine mw_goto (tgt := 4) dX5_asNumber_29 (by decide) ?_
        refine mw_ls [2, 1, 0] rfl ?_
        exact ih4 v114 v115 (ms_inc ev115 b109 (by decide) hm105) (bd_all v114) (bd_w b116 (by decide))
  refine mw_ls [2, 1, 0] rfl ?_
  exact cut4 _ (0 : Int32) (0 : Int32) (Nat.lt_succ_self _) (bd_w n_0 (by decide)) (bd_w n_0 (by decide))
set_option maxRecDepth 100000 in
set_option maxHeartbeats 4000000 in
theorem c_X5_buryIn {g : mm_G} (S : mm_S) (hI : JC S)  : mc g yX5_buryIn cX5_buryIn 3 none (mm_rm 4) [.ref 138, .ref 20] (mm_enc shC S) (qv shC (fun S1 => JC S1 ∧ fr [20, 21, 22] [] true true S S1 ∧ True)) := by
  refine mc_of2 (own := RX5) (ini := false) (ls := [(0, .ref 138), (1, .ref 20)]) (by decide) (Nat.le_of_ble_eq_true rfl) rfl (by decide) rfl ?_
  have hF : fr [20, 21, 22] [] true true S S := fr_rf
  refine mw_iconst dX5_buryIn_0 ki_0 ?_
  refine mw_istore_n (ls' := [(2, .int 0), (0, .ref 138), (1, .ref 20)]) dX5_buryIn_1 rfl (by decide) rfl ?_
  have cut2 : ∀ (N2 : Nat) (S101 : mm_S) (y104 : Int32), ((8 : Int) - y104.toInt).toNat < N2 → JC S101 → fr [20, 21, 22] [] true true S S101 → mm_b (0) (7) y104 → mw g RX5 cX5_buryIn 3 none false (mm_rm 4) (qv shC (fun S1 => JC S1 ∧ fr [20, 21, 22] [] true true S S1 ∧ True)) 0 0 (mm_enc shC S101) 2 [(0, .ref 138), (1, .ref 20), (2, .int y104)] [] := by
    intro N2
    induction N2 with
    | zero =>
      intro S101 y104 hm106 hI102 hF103 b105
      exact absurd hm106 (Nat.not_lt_zero _)
    | succ N2 ih2 =>
      intro S101 y104 hm106 hI102 hF103 b105
      refine mw_iload_n dX5_buryIn_2 rfl 2 rfl ?_
      refine mw_aload_n dX5_buryIn_3 rfl 0 rfl ?_
      refine tw_geti (j := 0) dX5_buryIn_4 shC_138 rfl rfl (by decide) fX5_15 (fun v107 ev107 => ?_)
      have b108 : mm_b (0) (7) v107 := JIC_fld hI102 ev107 tbC_37 (by decide)
      refine mw_icmp_ge (tgt := 27) dX5_buryIn_7 (by decide) (fun q109 => ?_) (fun q109 => ?_)
      · skip
        exact mw_vret rfl dX5_buryIn_27 rfl rfl ⟨S101, rfl, rfl, ⟨hI102, hF103, trivial⟩⟩
      · skip
        have b110 : mm_b (0) (6) y104 := bd_lt_l (bd_nle q109) b105 b108 (by decide)
        have b111 : mm_b (1) (7) v107 := bd_lt_r (bd_nle q109) b105 b108 (by decide)
        refine mw_aload_n dX5_buryIn_10 rfl 1 rfl ?_
        refine mw_aload_n dX5_buryIn_11 rfl 0 rfl ?_
        refine tw_getr (j := 2) dX5_buryIn_12 shC_138 rfl rfl (by decide) fX5_9 ?_
        refine mw_iload_n dX5_buryIn_15 rfl 2 rfl ?_
        refine tw_iald dX5_buryIn_16 shC_139 (bd_in b110 (by decide)) (fun v112 ev112 => ?_)
        refine tc_Vi (as := [.int v112]) (st := []) dX5_buryIn_17 rfl shC_20 rfl rfl mX5_61 t_X3_bury rfl (Nat.le_of_ble_eq_true rfl) (by decide) (by decide) (c_X3_bury_20 (g := g) S101 hI102 v112) (fun S113 v115 h114 => ?_)
        obtain ⟨hI119, hf120, b116, x117⟩ := h114
        have hF121 := fr_tr hF103 hf120 (by decide) (by decide) (by decide) (by decide)
        refine mw_pop dX5_buryIn_20 rfl ?_
        refine mw_iinc (ls' := fun v => [(2, .int v), (0, .ref 138), (1, .ref 20)]) dX5_buryIn_21 2 rfl (by decide) (fun _ => rfl) (fun v122 ev122 => ?_)
        have b123 : mm_b (1) (7) v122 := bd_inc ev122 b110 (by decide)
        refine mw_goto (tgt := 2) dX5_buryIn_24 (by decide) ?_
        refine mw_ls [1, 2, 0] rfl ?_
        exact ih2 S113 v122 (ms_inc ev122 b110 (by decide) hm106) hI119 hF121 (bd_w b123 (by decide))
  refine mw_ls [1, 2, 0] rfl ?_
  exact cut2 _ S (0 : Int32) (Nat.lt_succ_self _) hI hF (bd_w n_0 (by decide))
set_option maxRecDepth 100000 in
set_option maxHeartbeats 4000000 in
theorem c_X0_isFree {g : mm_G} (S : mm_S) (hI : JC S) (x1 : Int32) (x2 : Int32) (x3 : Int32) : mc g yX0_isFree cX0_isFree 4 (some .boolean) (mm_rm 1) [.ref 140, .int x1, .int x2, .int x3] (mm_enc shC S) (qi shC (fun S1 v => S = S1 ∧ mm_b (0) (1) v ∧ (v = 0 ∨ (mm_b (0) (5) x1 ∧ mm_b (0) (6) x2)))) := by
  refine mc_of2 (own := RX0) (ini := false) (ls := [(0, .ref 140), (1, .int x1), (2, .int x2), (3, .int x3)]) (by decide) (Nat.le_of_ble_eq_true rfl) rfl (by decide) rfl ?_
  refine mw_iload_n dX0_isFree_0 rfl 1 rfl ?_
  refine mw_if_lt (tgt := 38) dX0_isFree_1 (by decide) (fun q101 => ?_) (fun q101 => ?_)
  · skip
    have b102 : mm_b (-2147483648) (-1) x1 := bd_lt_l q101 (bd_all x1) n_0 (by decide)
    refine mw_iconst dX0_isFree_38 ki_0 ?_
    exact mw_zret rfl (bd_nar n_0 (by decide)) dX0_isFree_39 rfl rfl ⟨S, _, rfl, rfl, rfl, bd_w n_0 (by decide), Or.inl rfl⟩
  · skip
    have b103 : mm_b (0) (2147483647) x1 := bd_le_r (bd_nlt q101) n_0 (bd_all x1) (by decide)
    refine mw_iload_n dX0_isFree_4 rfl 1 rfl ?_
    refine mw_aload_n dX0_isFree_5 rfl 0 rfl ?_
    refine tw_getr (j := 1) dX0_isFree_6 shC_140 rfl rfl (by decide) fX0_15 ?_
    refine tw_aleni (v := 6) dX0_isFree_9 shC_142 rfl (by decide) ?_
    refine mw_icmp_ge (tgt := 38) dX0_isFree_10 (by decide) (fun q104 => ?_) (fun q104 => ?_)
    · skip
      have b105 : mm_b (6) (2147483647) x1 := bd_le_r q104 n_6 b103 (by decide)
      refine mw_iconst dX0_isFree_38 ki_0 ?_
      exact mw_zret rfl (bd_nar n_0 (by decide)) dX0_isFree_39 rfl rfl ⟨S, _, rfl, rfl, rfl, bd_w n_0 (by decide), Or.inl rfl⟩
    · skip
      have b106 : mm_b (0) (5) x1 := bd_lt_l (bd_nle q104) b103 n_6 (by decide)
      refine mw_aload_n dX0_isFree_13 rfl 0 rfl ?_
      refine tw_getr (j := 1) dX0_isFree_14 shC_140 rfl rfl (by decide) fX0_15 ?_
      refine mw_iload_n dX0_isFree_17 rfl 1 rfl ?_
      refine tw_iald dX0_isFree_18 shC_142 (bd_in b106 (by decide)) (fun v107 ev107 => ?_)
      refine mw_iload_n dX0_isFree_19 rfl 2 rfl ?_
      refine tc_SiN (as := [.int v107, .int x2]) (st := []) dX0_isFree_20 rfl mX0_62 t_X9_isIn rfl (Nat.le_of_ble_eq_true rfl) (by decide) (by decide) (c_X9_isIn (g := g) S hI v107 x2) (fun S108 v110 h109 => ?_)
      obtain ⟨rfl, b111, x112⟩ := h109
      refine mw_if_eq (tgt := 38) dX0_isFree_23 (by decide) (fun q113 => ?_) (fun q113 => ?_)
      · skip
        have b114 : mm_b (0) (0) v110 := bd_eq_l q113 b111 n_0 (by decide)
        refine mw_iconst dX0_isFree_38 ki_0 ?_
        exact mw_zret rfl (bd_nar n_0 (by decide)) dX0_isFree_39 rfl rfl ⟨S, _, rfl, rfl, rfl, bd_w n_0 (by decide), Or.inl rfl⟩
      · skip
        have b115 : mm_b (1) (1) v110 := bd_ne_l q113 b111 n_0 (by decide)
        have b116 := Or.resolve_left x112 q113
        refine mw_iload_n dX0_isFree_26 rfl 3 rfl ?_
        refine mw_iload_n dX0_isFree_27 rfl 2 rfl ?_
        refine tc_SiN (as := [.int x3, .int x2]) (st := []) dX0_isFree_28 rfl mX0_62 t_X9_isIn rfl (Nat.le_of_ble_eq_true rfl) (by decide) (by decide) (c_X9_isIn (g := g) S hI x3 x2) (fun S117 v119 h118 => ?_)
        obtain ⟨rfl, b120, x121⟩ := h118
        refine mw_if_ne (tgt := 38) dX0_isFree_31 (by decide) (fun q122 => ?_) (fun q122 => ?_)
        · skip
          have b123 : mm_b (1) (1) v119 := bd_ne_l q122 b120 n_0 (by decide)
          have b124 := Or.resolve_left x121 q122
          refine mw_iconst dX0_isFree_38 ki_0 ?_
          exact mw_zret rfl (bd_nar n_0 (by decide)) dX0_isFree_39 rfl rfl ⟨S, _, rfl, rfl, rfl, bd_w n_0 (by decide), Or.inl rfl⟩
        · skip
          have b125 : mm_b (0) (0) v119 := bd_eq_l q122 b120 n_0 (by decide)
          refine mw_iconst dX0_isFree_34 ki_1 ?_
          refine mw_goto (tgt := 39) dX0_isFree_35 (by decide) ?_
          exact mw_zret rfl (bd_nar n_1 (by decide)) dX0_isFree_39 rfl rfl ⟨S, _, rfl, rfl, rfl, bd_w n_1 (by decide), Or.inr ⟨bd_w b106 (by decide), bd_w b116 (by decide)⟩⟩
set_option maxRecDepth 100000 in
set_option maxHeartbeats 4000000 in
theorem c_X0_sungFrom {g : mm_G} (S : mm_S) (hI : JC S) (x1 : Int32) (x2 : Int32) : mc g yX0_sungFrom cX0_sungFrom 3 (some .int) (mm_rm 0) [.ref 140, .int x1, .int x2] (mm_enc shC S) (qi shC (fun S1 v => S = S1 ∧ mm_b (-2147483648) (2147483647) v ∧ (True))) := by
  refine mc_of2 (own := RX0) (ini := false) (ls := [(0, .ref 140), (1, .int x1), (2, .int x2)]) (by decide) (Nat.le_of_ble_eq_true rfl) rfl (by decide) rfl ?_
  refine mw_iload_n dX0_sungFrom_0 rfl 1 rfl ?_
  refine mw_if_lt (tgt := 32) dX0_sungFrom_1 (by decide) (fun q101 => ?_) (fun q101 => ?_)
  · skip
    have b102 : mm_b (-2147483648) (-1) x1 := bd_lt_l q101 (bd_all x1) n_0 (by decide)
    refine mw_iconst dX0_sungFrom_32 ki_0 ?_
    exact mw_iret rfl dX0_sungFrom_33 rfl rfl ⟨S, _, rfl, rfl, rfl, bd_w n_0 (by decide), trivial⟩
  · skip
    have b103 : mm_b (0) (2147483647) x1 := bd_le_r (bd_nlt q101) n_0 (bd_all x1) (by decide)
    refine mw_iload_n dX0_sungFrom_4 rfl 1 rfl ?_
    refine mw_bipush dX0_sungFrom_5 kb_6 ?_
    refine mw_icmp_gt (tgt := 32) dX0_sungFrom_7 (by decide) (fun q104 => ?_) (fun q104 => ?_)
    · skip
      have b105 : mm_b (7) (2147483647) x1 := bd_lt_r q104 n_6 b103 (by decide)
      refine mw_iconst dX0_sungFrom_32 ki_0 ?_
      exact mw_iret rfl dX0_sungFrom_33 rfl rfl ⟨S, _, rfl, rfl, rfl, bd_w n_0 (by decide), trivial⟩
    · skip
      have b106 : mm_b (0) (6) x1 := bd_le_l (bd_nlt q104) b103 n_6 (by decide)
      refine mw_iload_n dX0_sungFrom_10 rfl 2 rfl ?_
      refine mw_if_lt (tgt := 32) dX0_sungFrom_11 (by decide) (fun q107 => ?_) (fun q107 => ?_)
      · skip
        have b108 : mm_b (-2147483648) (-1) x2 := bd_lt_l q107 (bd_all x2) n_0 (by decide)
        refine mw_iconst dX0_sungFrom_32 ki_0 ?_
        exact mw_iret rfl dX0_sungFrom_33 rfl rfl ⟨S, _, rfl, rfl, rfl, bd_w n_0 (by decide), trivial⟩
      · skip
        have b109 : mm_b (0) (2147483647) x2 := bd_le_r (bd_nlt q107) n_0 (bd_all x2) (by decide)
        refine mw_iload_n dX0_sungFrom_14 rfl 2 rfl ?_
        refine mw_sipush dX0_sungFrom_15 ks_128 ?_
        refine mw_icmp_ge (tgt := 32) dX0_sungFrom_18 (by decide) (fun q110 => ?_) (fun q110 => ?_)
        · skip
          have b111 : mm_b (128) (2147483647) x2 := bd_le_r q110 n_128 b109 (by decide)
          refine mw_iconst dX0_sungFrom_32 ki_0 ?_
          exact mw_iret rfl dX0_sungFrom_33 rfl rfl ⟨S, _, rfl, rfl, rfl, bd_w n_0 (by decide), trivial⟩
        · skip
          have b112 : mm_b (0) (127) x2 := bd_lt_l (bd_nle q110) b109 n_128 (by decide)
          refine mw_aload_n dX0_sungFrom_21 rfl 0 rfl ?_
          refine tw_getr (j := 2) dX0_sungFrom_22 shC_140 rfl rfl (by decide) fX0_20 ?_
          refine mw_iload_n dX0_sungFrom_25 rfl 1 rfl ?_
          obtain ⟨a113, ea113, ha114⟩ := AAC_143 b106 (by decide)
          refine tw_aald dX0_sungFrom_26 shC_143 rfl rfl (bd_in b106 (by decide)) ea113 (LC_row_lt ha114) ?_
          refine mw_iload_n dX0_sungFrom_27 rfl 2 rfl ?_
          refine tw_iald dX0_sungFrom_28 (shC_row_0 a113 ha114) (bd_in b112 (by decide)) (fun v115 ev115 => ?_)
          refine mw_goto (tgt := 33) dX0_sungFrom_29 (by decide) ?_
          exact mw_iret rfl dX0_sungFrom_33 rfl rfl ⟨S, _, rfl, rfl, rfl, (bd_all v115), trivial⟩
set_option maxRecDepth 100000 in
set_option maxHeartbeats 4000000 in
theorem c_X0_sung {g : mm_G} (S : mm_S) (hI : JC S)  : mc g yX0_sung cX0_sung 1 (some .int) (mm_rm 1) [.ref 140] (mm_enc shC S) (qi shC (fun S1 v => S = S1 ∧ mm_b (-2147483648) (2147483647) v ∧ (True))) := by
  refine mc_of2 (own := RX0) (ini := false) (ls := [(0, .ref 140)]) (by decide) (Nat.le_of_ble_eq_true rfl) rfl (by decide) rfl ?_
  refine mw_aload_n dX0_sung_0 rfl 0 rfl ?_
  refine mw_iconst dX0_sung_1 ki_0 ?_
  refine mw_iconst dX0_sung_2 ki_0 ?_
  refine tc_Vi (as := [.int 0, .int 0]) (st := []) dX0_sung_3 rfl shC_140 rfl rfl mX0_50 t_X0_sungFrom rfl (Nat.le_of_ble_eq_true rfl) (by decide) (by decide) (c_X0_sungFrom (g := g) S hI (0 : Int32) (0 : Int32)) (fun S101 v103 h102 => ?_)
  obtain ⟨rfl, b104, x105⟩ := h102
  exact mw_iret rfl dX0_sung_6 rfl rfl ⟨S, _, rfl, rfl, rfl, b104, trivial⟩
set_option maxRecDepth 100000 in
set_option maxHeartbeats 4000000 in
theorem c_X0_singerOf {g : mm_G} (S : mm_S) (hI : JC S) (x1 : Int32) : mc g yX0_singerOf cX0_singerOf 2 (some .int) (mm_rm 0) [.ref 140, .int x1] (mm_enc shC S) (qi shC (fun S1 v => S = S1 ∧ mm_b (-2147483648) (2147483647) v ∧ (True))) := by
  refine mc_of2 (own := RX0) (ini := false) (ls := [(0, .ref 140), (1, .int x1)]) (by decide) (Nat.le_of_ble_eq_true rfl) rfl (by decide) rfl ?_
  refine mw_iload_n dX0_singerOf_0 rfl 1 rfl ?_
  refine mw_if_lt (tgt := 22) dX0_singerOf_1 (by decide) (fun q101 => ?_) (fun q101 => ?_)
  · skip
    have b102 : mm_b (-2147483648) (-1) x1 := bd_lt_l q101 (bd_all x1) n_0 (by decide)
    refine mw_iconst dX0_singerOf_22 ki_m1 ?_
    exact mw_iret rfl dX0_singerOf_23 rfl rfl ⟨S, _, rfl, rfl, rfl, bd_w n_m1 (by decide), trivial⟩
  · skip
    have b103 : mm_b (0) (2147483647) x1 := bd_le_r (bd_nlt q101) n_0 (bd_all x1) (by decide)
    refine mw_iload_n dX0_singerOf_4 rfl 1 rfl ?_
    refine mw_aload_n dX0_singerOf_5 rfl 0 rfl ?_
    refine tw_getr (j := 0) dX0_singerOf_6 shC_140 rfl rfl (by decide) fX0_9 ?_
    refine tw_aleni (v := 6) dX0_singerOf_9 shC_141 rfl (by decide) ?_
    refine mw_icmp_ge (tgt := 22) dX0_singerOf_10 (by decide) (fun q104 => ?_) (fun q104 => ?_)
    · skip
      have b105 : mm_b (6) (2147483647) x1 := bd_le_r q104 n_6 b103 (by decide)
      refine mw_iconst dX0_singerOf_22 ki_m1 ?_
      exact mw_iret rfl dX0_singerOf_23 rfl rfl ⟨S, _, rfl, rfl, rfl, bd_w n_m1 (by decide), trivial⟩
    · skip
      have b106 : mm_b (0) (5) x1 := bd_lt_l (bd_nle q104) b103 n_6 (by decide)
      refine mw_aload_n dX0_singerOf_13 rfl 0 rfl ?_
      refine tw_getr (j := 0) dX0_singerOf_14 shC_140 rfl rfl (by decide) fX0_9 ?_
      refine mw_iload_n dX0_singerOf_17 rfl 1 rfl ?_
      refine tw_iald dX0_singerOf_18 shC_141 (bd_in b106 (by decide)) (fun v107 ev107 => ?_)
      refine mw_goto (tgt := 23) dX0_singerOf_19 (by decide) ?_
      exact mw_iret rfl dX0_singerOf_23 rfl rfl ⟨S, _, rfl, rfl, rfl, (bd_all v107), trivial⟩
set_option maxRecDepth 100000 in
set_option maxHeartbeats 4000000 in
theorem c_X0_mostFrom {g : mm_G} (S : mm_S) (hI : JC S) (x1 : Int32) (x2 : Int32) : mc g yX0_mostFrom cX0_mostFrom 5 (some .int) (mm_rm 2) [.ref 140, .int x1, .int x2] (mm_enc shC S) (qi shC (fun S1 v => S = S1 ∧ mm_b (-2147483648) (2147483647) v ∧ (True))) := by
  refine mc_of2 (own := RX0) (ini := false) (ls := [(0, .ref 140), (1, .int x1), (2, .int x2)]) (by decide) (Nat.le_of_ble_eq_true rfl) rfl (by decide) rfl ?_
  refine mw_aload_n dX0_mostFrom_0 rfl 0 rfl ?_
  refine mw_iload_n dX0_mostFrom_1 rfl 1 rfl ?_
  refine mw_iconst dX0_mostFrom_2 ki_1 ?_
  refine mw_iadd dX0_mostFrom_3 (fun v101 ev101 => ?_)
  refine mw_iload_n dX0_mostFrom_4 rfl 2 rfl ?_
  refine tc_Vi (as := [.int v101, .int x2]) (st := []) dX0_mostFrom_5 rfl shC_140 rfl rfl mX0_50 t_X0_sungFrom rfl (Nat.le_of_ble_eq_true rfl) (by decide) (by decide) (c_X0_sungFrom (g := g) S hI v101 x2) (fun S102 v104 h103 => ?_)
  obtain ⟨rfl, b105, x106⟩ := h103
  refine mw_istore_n (ls' := [(3, .int v104), (0, .ref 140), (1, .int x1), (2, .int x2)]) dX0_mostFrom_8 rfl (by decide) rfl ?_
  refine mw_iconst dX0_mostFrom_9 ki_0 ?_
  refine mw_istore (ls' := [(4, .int 0), (3, .int v104), (0, .ref 140), (1, .int x1), (2, .int x2)]) dX0_mostFrom_10 (by decide) rfl ?_
  have cut12 : ∀ (N12 : Nat) (y107 y109 : Int32), ((8 : Int) - y109.toInt).toNat < N12 → mm_b (-2147483648) (2147483647) y107 → mm_b (0) (7) y109 → mw g RX0 cX0_mostFrom 5 (some .int) false (mm_rm 2) (qi shC (fun S1 v => S = S1 ∧ mm_b (-2147483648) (2147483647) v ∧ (True))) 0 0 (mm_enc shC S) 12 [(0, .ref 140), (1, .int x1), (2, .int x2), (3, .int y107), (4, .int y109)] [] := by
    intro N12
    induction N12 with
    | zero =>
      intro y107 y109 hm111 b108 b110
      exact absurd hm111 (Nat.not_lt_zero _)
    | succ N12 ih12 =>
      intro y107 y109 hm111 b108 b110
      refine mw_iload dX0_mostFrom_12 4 rfl ?_
      refine mw_bipush dX0_mostFrom_14 kb_7 ?_
      refine mw_icmp_ge (tgt := 56) dX0_mostFrom_16 (by decide) (fun q112 => ?_) (fun q112 => ?_)
      · skip
        have b113 : mm_b (7) (7) y109 := bd_le_r q112 n_7 b110 (by decide)
        refine mw_iload_n dX0_mostFrom_56 rfl 3 rfl ?_
        exact mw_iret rfl dX0_mostFrom_57 rfl rfl ⟨S, _, rfl, rfl, rfl, b108, trivial⟩
      · skip
        have b114 : mm_b (0) (6) y109 := bd_lt_l (bd_nle q112) b110 n_7 (by decide)
        refine mw_aload_n dX0_mostFrom_19 rfl 0 rfl ?_
        refine mw_iload_n dX0_mostFrom_20 rfl 1 rfl ?_
        refine mw_iload dX0_mostFrom_21 4 rfl ?_
        refine mw_iload_n dX0_mostFrom_23 rfl 2 rfl ?_
        refine tc_Vi (as := [.int x1, .int y109, .int x2]) (st := []) dX0_mostFrom_24 rfl shC_140 rfl rfl mX0_53 t_X0_isFree rfl (Nat.le_of_ble_eq_true rfl) (by decide) (by decide) (c_X0_isFree (g := g) S hI x1 y109 x2) (fun S115 v117 h116 => ?_)
        obtain ⟨rfl, b118, x119⟩ := h116
        refine mw_if_eq (tgt := 50) dX0_mostFrom_27 (by decide) (fun q120 => ?_) (fun q120 => ?_)
        · skip
          have b121 : mm_b (0) (0) v117 := bd_eq_l q120 b118 n_0 (by decide)
          refine mw_iinc (ls' := fun v => [(4, .int v), (0, .ref 140), (1, .int x1), (2, .int x2), (3, .int y107)]) dX0_mostFrom_50 4 rfl (by decide) (fun _ => rfl) (fun v122 ev122 => ?_)
          have b123 : mm_b (1) (7) v122 := bd_inc ev122 b114 (by decide)
          refine mw_goto (tgt := 12) dX0_mostFrom_53 (by decide) ?_
          refine mw_ls [1, 2, 3, 4, 0] rfl ?_
          exact ih12 y107 v122 (ms_inc ev122 b114 (by decide) hm111) b108 (bd_w b123 (by decide))
        · skip
          have b124 : mm_b (1) (1) v117 := bd_ne_l q120 b118 n_0 (by decide)
          obtain ⟨b125, b126⟩ := Or.resolve_left x119 q120
          refine mw_iload_n dX0_mostFrom_30 rfl 3 rfl ?_
          refine mw_iconst dX0_mostFrom_31 ki_1 ?_
          refine mw_aload_n dX0_mostFrom_32 rfl 0 rfl ?_
          refine mw_iload_n dX0_mostFrom_33 rfl 1 rfl ?_
          refine mw_iconst dX0_mostFrom_34 ki_1 ?_
          refine mw_iadd dX0_mostFrom_35 (fun v127 ev127 => ?_)
          have b128 : mm_b (1) (6) v127 := bd_add ev127 b125 n_1 (by decide)
          refine mw_iload_n dX0_mostFrom_36 rfl 2 rfl ?_
          refine mw_iconst dX0_mostFrom_37 ki_1 ?_
          refine mw_iload dX0_mostFrom_38 4 rfl ?_
          refine mw_ishl dX0_mostFrom_40 (fun v129 ev129 => ?_)
          have b130 : mm_b (1) (64) v129 := bd_shl 6 ev129 b126 (by decide)
          refine mw_ior dX0_mostFrom_41 (fun v131 ev131 => ?_)
          refine tc_Vi (as := [.int v127, .int v131]) (st := [.int 1, .int y107]) dX0_mostFrom_42 rfl shC_140 rfl rfl mX0_50 t_X0_sungFrom rfl (Nat.le_of_ble_eq_true rfl) (by decide) (by decide) (c_X0_sungFrom (g := g) S hI v127 v131) (fun S132 v134 h133 => ?_)
          obtain ⟨rfl, b135, x136⟩ := h133
          refine mw_iadd dX0_mostFrom_45 (fun v137 ev137 => ?_)
          refine mw_max (st := []) dX0_mostFrom_46 mX0_57 (Nat.le_of_ble_eq_true rfl) (by decide) (fun v138 ev138 => ?_)
          have b139 : mm_b (-2147483648) (2147483647) v138 := max_b ev138 b108 (bd_all v137) (by decide)
          refine mw_istore_n (ls' := [(3, .int v138), (0, .ref 140), (1, .int x1), (2, .int x2), (4, .int y109)]) dX0_mostFrom_49 rfl (by decide) rfl ?_
          refine mw_iinc (ls' := fun v => [(4, .int v), (3, .int v138), (0, .ref 140), (1, .int x1), (2, .int x2)]) dX0_mostFrom_50 4 rfl (by decide) (fun _ => rfl) (fun v140 ev140 => ?_)
          have b141 : mm_b (1) (7) v140 := bd_inc ev140 b126 (by decide)
          refine mw_goto (tgt := 12) dX0_mostFrom_53 (by decide) ?_
          refine mw_ls [2, 3, 4, 1, 0] rfl ?_
          exact ih12 v138 v140 (ms_inc ev140 b126 (by decide) hm111) b139 (bd_w b141 (by decide))
  refine mw_ls [2, 3, 4, 1, 0] rfl ?_
  exact cut12 _ v104 (0 : Int32) (Nat.lt_succ_self _) b105 (bd_w n_0 (by decide))
set_option maxRecDepth 100000 in
set_option maxHeartbeats 4000000 in
theorem c_X0_leastSinger {g : mm_G} (S : mm_S) (hI : JC S) (x1 : Int32) (x2 : Int32) : mc g yX0_leastSinger cX0_leastSinger 4 (some .int) (mm_rm 2) [.ref 140, .int x1, .int x2] (mm_enc shC S) (qi shC (fun S1 v => S = S1 ∧ mm_b (-1) (6) v ∧ (True))) := by
  refine mc_of2 (own := RX0) (ini := false) (ls := [(0, .ref 140), (1, .int x1), (2, .int x2)]) (by decide) (Nat.le_of_ble_eq_true rfl) rfl (by decide) rfl ?_
  refine mw_iconst dX0_leastSinger_0 ki_0 ?_
  refine mw_istore_n (ls' := [(3, .int 0), (0, .ref 140), (1, .int x1), (2, .int x2)]) dX0_leastSinger_1 rfl (by decide) rfl ?_
  have cut2 : ∀ (N2 : Nat) (y101 : Int32), ((8 : Int) - y101.toInt).toNat < N2 → mm_b (0) (7) y101 → mw g RX0 cX0_leastSinger 4 (some .int) false (mm_rm 2) (qi shC (fun S1 v => S = S1 ∧ mm_b (-1) (6) v ∧ (True))) 0 0 (mm_enc shC S) 2 [(0, .ref 140), (1, .int x1), (2, .int x2), (3, .int y101)] [] := by
    intro N2
    induction N2 with
    | zero =>
      intro y101 hm103 b102
      exact absurd hm103 (Nat.not_lt_zero _)
    | succ N2 ih2 =>
      intro y101 hm103 b102
      refine mw_iload_n dX0_leastSinger_2 rfl 3 rfl ?_
      refine mw_bipush dX0_leastSinger_3 kb_7 ?_
      refine mw_icmp_ge (tgt := 49) dX0_leastSinger_5 (by decide) (fun q104 => ?_) (fun q104 => ?_)
      · skip
        have b105 : mm_b (7) (7) y101 := bd_le_r q104 n_7 b102 (by decide)
        refine mw_iconst dX0_leastSinger_49 ki_m1 ?_
        exact mw_iret rfl dX0_leastSinger_50 rfl rfl ⟨S, _, rfl, rfl, rfl, bd_w n_m1 (by decide), trivial⟩
      · skip
        have b106 : mm_b (0) (6) y101 := bd_lt_l (bd_nle q104) b102 n_7 (by decide)
        refine mw_aload_n dX0_leastSinger_8 rfl 0 rfl ?_
        refine mw_iload_n dX0_leastSinger_9 rfl 1 rfl ?_
        refine mw_iload_n dX0_leastSinger_10 rfl 3 rfl ?_
        refine mw_iload_n dX0_leastSinger_11 rfl 2 rfl ?_
        refine tc_Vi (as := [.int x1, .int y101, .int x2]) (st := []) dX0_leastSinger_12 rfl shC_140 rfl rfl mX0_53 t_X0_isFree rfl (Nat.le_of_ble_eq_true rfl) (by decide) (by decide) (c_X0_isFree (g := g) S hI x1 y101 x2) (fun S107 v109 h108 => ?_)
        obtain ⟨rfl, b110, x111⟩ := h108
        refine mw_if_eq (tgt := 43) dX0_leastSinger_15 (by decide) (fun q112 => ?_) (fun q112 => ?_)
        · skip
          have b113 : mm_b (0) (0) v109 := bd_eq_l q112 b110 n_0 (by decide)
          refine mw_iinc (ls' := fun v => [(3, .int v), (0, .ref 140), (1, .int x1), (2, .int x2)]) dX0_leastSinger_43 3 rfl (by decide) (fun _ => rfl) (fun v114 ev114 => ?_)
          have b115 : mm_b (1) (7) v114 := bd_inc ev114 b106 (by decide)
          refine mw_goto (tgt := 2) dX0_leastSinger_46 (by decide) ?_
          refine mw_ls [1, 2, 3, 0] rfl ?_
          exact ih2 v114 (ms_inc ev114 b106 (by decide) hm103) (bd_w b115 (by decide))
        · skip
          have b116 : mm_b (1) (1) v109 := bd_ne_l q112 b110 n_0 (by decide)
          obtain ⟨b117, b118⟩ := Or.resolve_left x111 q112
          refine mw_iconst dX0_leastSinger_18 ki_1 ?_
          refine mw_aload_n dX0_leastSinger_19 rfl 0 rfl ?_
          refine mw_iload_n dX0_leastSinger_20 rfl 1 rfl ?_
          refine mw_iconst dX0_leastSinger_21 ki_1 ?_
          refine mw_iadd dX0_leastSinger_22 (fun v119 ev119 => ?_)
          have b120 : mm_b (1) (6) v119 := bd_add ev119 b117 n_1 (by decide)
          refine mw_iload_n dX0_leastSinger_23 rfl 2 rfl ?_
          refine mw_iconst dX0_leastSinger_24 ki_1 ?_
          refine mw_iload_n dX0_leastSinger_25 rfl 3 rfl ?_
          refine mw_ishl dX0_leastSinger_26 (fun v121 ev121 => ?_)
          have b122 : mm_b (1) (64) v121 := bd_shl 6 ev121 b118 (by decide)
          refine mw_ior dX0_leastSinger_27 (fun v123 ev123 => ?_)
          refine tc_Vi (as := [.int v119, .int v123]) (st := [.int 1]) dX0_leastSinger_28 rfl shC_140 rfl rfl mX0_50 t_X0_sungFrom rfl (Nat.le_of_ble_eq_true rfl) (by decide) (by decide) (c_X0_sungFrom (g := g) S hI v119 v123) (fun S124 v126 h125 => ?_)
          obtain ⟨rfl, b127, x128⟩ := h125
          refine mw_iadd dX0_leastSinger_31 (fun v129 ev129 => ?_)
          refine mw_aload_n dX0_leastSinger_32 rfl 0 rfl ?_
          refine mw_iload_n dX0_leastSinger_33 rfl 1 rfl ?_
          refine mw_iload_n dX0_leastSinger_34 rfl 2 rfl ?_
          refine tc_Vi (as := [.int x1, .int x2]) (st := [.int v129]) dX0_leastSinger_35 rfl shC_140 rfl rfl mX0_50 t_X0_sungFrom rfl (Nat.le_of_ble_eq_true rfl) (by decide) (by decide) (c_X0_sungFrom (g := g) S hI x1 x2) (fun S130 v132 h131 => ?_)
          obtain ⟨rfl, b133, x134⟩ := h131
          refine mw_icmp_ne (tgt := 43) dX0_leastSinger_38 (by decide) (fun q135 => ?_) (fun q135 => ?_)
          · skip
            refine mw_iinc (ls' := fun v => [(3, .int v), (0, .ref 140), (1, .int x1), (2, .int x2)]) dX0_leastSinger_43 3 rfl (by decide) (fun _ => rfl) (fun v136 ev136 => ?_)
            have b137 : mm_b (1) (7) v136 := bd_inc ev136 b118 (by decide)
            refine mw_goto (tgt := 2) dX0_leastSinger_46 (by decide) ?_
            refine mw_ls [1, 2, 3, 0] rfl ?_
            exact ih2 v136 (ms_inc ev136 b118 (by decide) hm103) (bd_w b137 (by decide))
          · skip
            refine mw_iload_n dX0_leastSinger_41 rfl 3 rfl ?_
            exact mw_iret rfl dX0_leastSinger_42 rfl rfl ⟨S, _, rfl, rfl, rfl, bd_w b118 (by decide), trivial⟩
  refine mw_ls [1, 2, 3, 0] rfl ?_
  exact cut2 _ (0 : Int32) (Nat.lt_succ_self _) (bd_w n_0 (by decide))
set_option maxRecDepth 100000 in
set_option maxHeartbeats 4000000 in
theorem c_X0_suitedFor {g : mm_G} (S : mm_S) (hI : JC S) (x0 : Int32) (a1 : Nat) (ha1 : a1 ∈ LC_parish) : mc g yX0_suitedFor cX0_suitedFor 5 (some .int) (mm_rm 4) [.int x0, .ref a1, .ref 15] (mm_enc shC S) (qi shC (fun S1 v => S = S1 ∧ mm_b (0) (127) v ∧ (True))) := by
  refine mc_of2 (own := RX0) (ini := false) (ls := [(0, .int x0), (1, .ref a1), (2, .ref 15)]) (by decide) (Nat.le_of_ble_eq_true rfl) rfl (by decide) rfl ?_
  refine mw_iconst dX0_suitedFor_0 ki_0 ?_
  refine mw_istore_n (ls' := [(3, .int 0), (0, .int x0), (1, .ref a1), (2, .ref 15)]) dX0_suitedFor_1 rfl (by decide) rfl ?_
  refine mw_iconst dX0_suitedFor_2 ki_0 ?_
  refine mw_istore (ls' := [(4, .int 0), (3, .int 0), (0, .int x0), (1, .ref a1), (2, .ref 15)]) dX0_suitedFor_3 (by decide) rfl ?_
  have cut5 : ∀ (N5 : Nat) (y101 y103 : Int32), ((8 : Int) - y103.toInt).toNat < N5 → mm_b (0) (127) y101 → mm_b (0) (7) y103 → mw g RX0 cX0_suitedFor 5 (some .int) false (mm_rm 4) (qi shC (fun S1 v => S = S1 ∧ mm_b (0) (127) v ∧ (True))) 0 0 (mm_enc shC S) 5 [(0, .int x0), (1, .ref a1), (2, .ref 15), (3, .int y101), (4, .int y103)] [] := by
    intro N5
    induction N5 with
    | zero =>
      intro y101 y103 hm105 b102 b104
      exact absurd hm105 (Nat.not_lt_zero _)
    | succ N5 ih5 =>
      intro y101 y103 hm105 b102 b104
      refine mw_iload dX0_suitedFor_5 4 rfl ?_
      refine mw_bipush dX0_suitedFor_7 kb_7 ?_
      refine mw_icmp_ge (tgt := 48) dX0_suitedFor_9 (by decide) (fun q106 => ?_) (fun q106 => ?_)
      · skip
        have b107 : mm_b (7) (7) y103 := bd_le_r q106 n_7 b104 (by decide)
        refine mw_iload_n dX0_suitedFor_48 rfl 3 rfl ?_
        exact mw_iret rfl dX0_suitedFor_49 rfl rfl ⟨S, _, rfl, rfl, rfl, b102, trivial⟩
      · skip
        have b108 : mm_b (0) (6) y103 := bd_lt_l (bd_nle q106) b104 n_7 (by decide)
        refine mw_aload_n dX0_suitedFor_12 rfl 2 rfl ?_
        refine mw_iload dX0_suitedFor_13 4 rfl ?_
        refine tc_Vi (as := [.int y103]) (st := []) dX0_suitedFor_15 rfl shC_15 rfl rfl mX0_34 t_X3_lives rfl (Nat.le_of_ble_eq_true rfl) (by decide) (by decide) (c_X3_lives_15 (g := g) S hI y103) (fun S109 v111 h110 => ?_)
        obtain ⟨rfl, b112, x113⟩ := h110
        refine mw_if_eq (tgt := 42) dX0_suitedFor_18 (by decide) (fun q114 => ?_) (fun q114 => ?_)
        · skip
          have b115 : mm_b (0) (0) v111 := bd_eq_l q114 b112 n_0 (by decide)
          refine mw_iinc (ls' := fun v => [(4, .int v), (0, .int x0), (1, .ref a1), (2, .ref 15), (3, .int y101)]) dX0_suitedFor_42 4 rfl (by decide) (fun _ => rfl) (fun v116 ev116 => ?_)
          have b117 : mm_b (1) (7) v116 := bd_inc ev116 b108 (by decide)
          refine mw_goto (tgt := 5) dX0_suitedFor_45 (by decide) ?_
          refine mw_ls [1, 2, 3, 4, 0] rfl ?_
          exact ih5 y101 v116 (ms_inc ev116 b108 (by decide) hm105) b102 (bd_w b117 (by decide))
        · skip
          have b118 : mm_b (1) (1) v111 := bd_ne_l q114 b112 n_0 (by decide)
          have b119 := Or.resolve_left x113 q114
          refine mw_aload_n dX0_suitedFor_21 rfl 1 rfl ?_
          refine mw_iload_n dX0_suitedFor_22 rfl 0 rfl ?_
          refine mw_aload_n dX0_suitedFor_23 rfl 2 rfl ?_
          refine mw_iload dX0_suitedFor_24 4 rfl ?_
          refine tc_Vi (as := [.int y103]) (st := [.int x0, .ref a1]) dX0_suitedFor_26 rfl shC_15 rfl rfl mX0_40 t_X3_voiceOf rfl (Nat.le_of_ble_eq_true rfl) (by decide) (by decide) (c_X3_voiceOf_15 (g := g) S hI y103) (fun S120 v122 h121 => ?_)
          obtain ⟨rfl, b123, x124⟩ := h121
          refine tc_Vi (as := [.int x0, .int v122]) (st := []) dX0_suitedFor_29 rfl (shC_parish_0 a1 ha1) rfl rfl mX0_44 t_X6_suits rfl (Nat.le_of_ble_eq_true rfl) (by decide) (by decide) (c_X6_suits (g := g) S hI a1 ha1 x0 v122) (fun S125 v127 h126 => ?_)
          obtain ⟨rfl, b128, x129⟩ := h126
          refine mw_if_eq (tgt := 42) dX0_suitedFor_32 (by decide) (fun q130 => ?_) (fun q130 => ?_)
          · skip
            have b131 : mm_b (0) (0) v127 := bd_eq_l q130 b128 n_0 (by decide)
            refine mw_iinc (ls' := fun v => [(4, .int v), (0, .int x0), (1, .ref a1), (2, .ref 15), (3, .int y101)]) dX0_suitedFor_42 4 rfl (by decide) (fun _ => rfl) (fun v132 ev132 => ?_)
            have b133 : mm_b (1) (7) v132 := bd_inc ev132 b119 (by decide)
            refine mw_goto (tgt := 5) dX0_suitedFor_45 (by decide) ?_
            refine mw_ls [1, 2, 3, 4, 0] rfl ?_
            exact ih5 y101 v132 (ms_inc ev132 b119 (by decide) hm105) b102 (bd_w b133 (by decide))
          · skip
            have b134 : mm_b (1) (1) v127 := bd_ne_l q130 b128 n_0 (by decide)
            have b135 := Or.resolve_left x129 q130
            refine mw_iload_n dX0_suitedFor_35 rfl 3 rfl ?_
            refine mw_iconst dX0_suitedFor_36 ki_1 ?_
            refine mw_iload dX0_suitedFor_37 4 rfl ?_
            refine mw_ishl dX0_suitedFor_39 (fun v136 ev136 => ?_)
            have b137 : mm_b (1) (64) v136 := bd_shl 6 ev136 b119 (by decide)
            refine mw_ior dX0_suitedFor_40 (fun v138 ev138 => ?_)
            have b139 : mm_b (0) (127) v138 := bd_or 7 ev138 b102 b137 (by decide)
            refine mw_istore_n (ls' := [(3, .int v138), (0, .int x0), (1, .ref a1), (2, .ref 15), (4, .int y103)]) dX0_suitedFor_41 rfl (by decide) rfl ?_
            refine mw_iinc (ls' := fun v => [(4, .int v), (3, .int v138), (0, .int x0), (1, .ref a1), (2, .ref 15)]) dX0_suitedFor_42 4 rfl (by decide) (fun _ => rfl) (fun v140 ev140 => ?_)
            have b141 : mm_b (1) (7) v140 := bd_inc ev140 b119 (by decide)
            refine mw_goto (tgt := 5) dX0_suitedFor_45 (by decide) ?_
            refine mw_ls [2, 3, 4, 1, 0] rfl ?_
            exact ih5 v138 v140 (ms_inc ev140 b119 (by decide) hm105) b139 (bd_w b141 (by decide))
  refine mw_ls [2, 3, 4, 1, 0] rfl ?_
  exact cut5 _ (0 : Int32) (0 : Int32) (Nat.lt_succ_self _) (bd_w n_0 (by decide)) (bd_w n_0 (by decide))
set_option maxRecDepth 100000 in
set_option maxHeartbeats 4000000 in
theorem c_X0_give {g : mm_G} (S : mm_S) (hI : JC S) (a1 : Nat) (ha1 : a1 ∈ LC_parish) : mc g yX0_give cX0_give 5 none (mm_rm 5) [.ref 140, .ref a1, .ref 15] (mm_enc shC S) (qv shC (fun S1 => JC S1 ∧ fr [141, 142, 144, 145, 146, 147, 148, 149, 150] [] true true S S1 ∧ True)) := by
  refine mc_of2 (own := RX0) (ini := false) (ls := [(0, .ref 140), (1, .ref a1), (2, .ref 15)]) (by decide) (Nat.le_of_ble_eq_true rfl) rfl (by decide) rfl ?_
  have hF : fr [141, 142, 144, 145, 146, 147, 148, 149, 150] [] true true S S := fr_rf
  refine mw_iconst dX0_give_0 ki_5 ?_
  refine mw_istore_n (ls' := [(3, .int 5), (0, .ref 140), (1, .ref a1), (2, .ref 15)]) dX0_give_1 rfl (by decide) rfl ?_
  have cut2 : ∀ (N2 : Nat) (S101 : mm_S) (y104 : Int32), (y104.toInt - (-1 : Int)).toNat < N2 → JC S101 → fr [141, 142, 144, 145, 146, 147, 148, 149, 150] [] true true S S101 → mm_b (-1) (5) y104 → mw g RX0 cX0_give 5 none false (mm_rm 5) (qv shC (fun S1 => JC S1 ∧ fr [141, 142, 144, 145, 146, 147, 148, 149, 150] [] true true S S1 ∧ True)) 0 0 (mm_enc shC S101) 2 [(0, .ref 140), (1, .ref a1), (2, .ref 15), (3, .int y104)] [] := by
    intro N2
    induction N2 with
    | zero =>
      intro S101 y104 hm106 hI102 hF103 b105
      exact absurd hm106 (Nat.not_lt_zero _)
    | succ N2 ih2 =>
      intro S101 y104 hm106 hI102 hF103 b105
      refine mw_iload_n dX0_give_2 rfl 3 rfl ?_
      refine mw_if_lt (tgt := 57) dX0_give_3 (by decide) (fun q107 => ?_) (fun q107 => ?_)
      · skip
        have b108 : mm_b (-1) (-1) y104 := bd_lt_l q107 b105 n_0 (by decide)
        refine mw_iconst dX0_give_57 ki_0 ?_
        refine mw_istore_n (ls' := [(3, .int 0), (0, .ref 140), (1, .ref a1), (2, .ref 15)]) dX0_give_58 rfl (by decide) rfl ?_
        refine mw_iconst dX0_give_59 ki_0 ?_
        refine mw_istore (ls' := [(4, .int 0), (3, .int 0), (0, .ref 140), (1, .ref a1), (2, .ref 15)]) dX0_give_60 (by decide) rfl ?_
        have cut62 : ∀ (N62 : Nat) (S109 : mm_S) (y112 y114 : Int32), ((7 : Int) - y114.toInt).toNat < N62 → JC S109 → fr [141, 142, 144, 145, 146, 147, 148, 149, 150] [] true true S S109 → mm_b (0) (127) y112 → mm_b (0) (6) y114 → mw g RX0 cX0_give 5 none false (mm_rm 5) (qv shC (fun S1 => JC S1 ∧ fr [141, 142, 144, 145, 146, 147, 148, 149, 150] [] true true S S1 ∧ True)) 0 0 (mm_enc shC S109) 62 [(0, .ref 140), (3, .int y112), (4, .int y114)] [] := by
          intro N62
          induction N62 with
          | zero =>
            intro S109 y112 y114 hm116 hI110 hF111 b113 b115
            exact absurd hm116 (Nat.not_lt_zero _)
          | succ N62 ih62 =>
            intro S109 y112 y114 hm116 hI110 hF111 b113 b115
            refine mw_iload dX0_give_62 2 rfl ?_
            refine mw_bipush dX0_give_64 kb_6 ?_
            refine mw_icmp_ge (tgt := 112) dX0_give_66 (by decide) (fun q117 => ?_) (fun q117 => ?_)
            · skip
              have b118 : mm_b (6) (6) y114 := bd_le_r q117 n_6 b115 (by decide)
              exact mw_vret rfl dX0_give_112 rfl rfl ⟨S109, rfl, rfl, ⟨hI110, hF111, trivial⟩⟩
            · skip
              have b119 : mm_b (0) (5) y114 := bd_lt_l (bd_nle q117) b115 n_6 (by decide)
              refine mw_aload_n dX0_give_69 rfl 0 rfl ?_
              refine tw_getr (j := 0) dX0_give_70 shC_140 rfl rfl (by decide) fX0_9 ?_
              refine mw_iload dX0_give_73 2 rfl ?_
              refine mw_aload_n dX0_give_75 rfl 0 rfl ?_
              refine mw_iload dX0_give_76 2 rfl ?_
              refine mw_iload_n dX0_give_78 rfl 1 rfl ?_
              refine tc_Vi (as := [.int y114, .int y112]) (st := [.int y114, .ref 141]) dX0_give_79 rfl shC_140 rfl rfl mX0_31 t_X0_leastSinger rfl (Nat.le_of_ble_eq_true rfl) (by decide) (by decide) (c_X0_leastSinger (g := g) S109 hI110 y114 y112) (fun S120 v122 h121 => ?_)
              obtain ⟨rfl, b123, x124⟩ := h121
              refine tw_iast dX0_give_82 shC_141 (bd_in b119 (by decide)) ?_
              have hI125 : JC (mm_up S109 141 y114.toNatClampNeg v122) := JIC_puta hI110 b123 b119 (by decide) (by decide +kernel)
              generalize hS126 : (mm_up S109 141 y114.toNatClampNeg v122) = S126 at hI125 ⊢
              have hF127 := fr_upA hF111 hS126 (by decide)
              refine mw_aload_n dX0_give_83 rfl 0 rfl ?_
              refine tw_getr (j := 0) dX0_give_84 shC_140 rfl rfl (by decide) fX0_9 ?_
              refine mw_iload dX0_give_87 2 rfl ?_
              refine tw_iald dX0_give_89 shC_141 (bd_in b119 (by decide)) (fun v128 ev128 => ?_)
              have cv128 : v122 = v128 := (up_eq hS126).trans ev128.symm
              subst cv128
              refine mw_iconst dX0_give_90 ki_m1 ?_
              refine mw_icmp_eq (tgt := 106) dX0_give_91 (by decide) (fun q129 => ?_) (fun q129 => ?_)
              · skip
                have b130 : mm_b (-1) (-1) v122 := bd_eq_l q129 b123 n_m1 (by decide)
                refine mw_iinc (ls' := fun v => [(4, .int v), (0, .ref 140), (3, .int y112)]) dX0_give_106 2 rfl (by decide) (fun _ => rfl) (fun v131 ev131 => ?_)
                have b132 : mm_b (1) (6) v131 := bd_inc ev131 b119 (by decide)
                refine mw_goto (tgt := 62) dX0_give_109 (by decide) ?_
                refine mw_ls [1, 2, 0] rfl ?_
                exact ih62 S126 y112 v131 (ms_inc ev131 b119 (by decide) hm116) hI125 hF127 b113 (bd_w b132 (by decide))
              · skip
                have b133 : mm_b (0) (6) v122 := bd_ne_l q129 b123 n_m1 (by decide)
                refine mw_iload_n dX0_give_94 rfl 1 rfl ?_
                refine mw_iconst dX0_give_95 ki_1 ?_
                refine mw_aload_n dX0_give_96 rfl 0 rfl ?_
                refine tw_getr (j := 0) dX0_give_97 shC_140 rfl rfl (by decide) fX0_9 ?_
                refine mw_iload dX0_give_100 2 rfl ?_
                refine tw_iald dX0_give_102 shC_141 (bd_in b119 (by decide)) (fun v134 ev134 => ?_)
                have cv134 : v122 = v134 := (up_eq hS126).trans ev134.symm
                subst cv134
                refine mw_ishl dX0_give_103 (fun v135 ev135 => ?_)
                have b136 : mm_b (1) (64) v135 := bd_shl 6 ev135 b133 (by decide)
                refine mw_ior dX0_give_104 (fun v137 ev137 => ?_)
                have b138 : mm_b (0) (127) v137 := bd_or 7 ev137 b113 b136 (by decide)
                refine mw_istore_n (ls' := [(3, .int v137), (0, .ref 140), (4, .int y114)]) dX0_give_105 rfl (by decide) rfl ?_
                refine mw_iinc (ls' := fun v => [(4, .int v), (3, .int v137), (0, .ref 140)]) dX0_give_106 2 rfl (by decide) (fun _ => rfl) (fun v139 ev139 => ?_)
                have b140 : mm_b (1) (6) v139 := bd_inc ev139 b119 (by decide)
                refine mw_goto (tgt := 62) dX0_give_109 (by decide) ?_
                refine mw_ls [2, 1, 0] rfl ?_
                exact ih62 S126 v137 v139 (ms_inc ev139 b119 (by decide) hm116) hI125 hF127 b138 (bd_w b140 (by decide))
        refine mw_ls [2, 1, 0] rfl ?_
        exact cut62 _ S101 (0 : Int32) (0 : Int32) (Nat.lt_succ_self _) hI102 hF103 (bd_w n_0 (by decide)) (bd_w n_0 (by decide))
      · skip
        have b141 : mm_b (0) (5) y104 := bd_le_r (bd_nlt q107) n_0 b105 (by decide)
        refine mw_aload_n dX0_give_6 rfl 0 rfl ?_
        refine tw_getr (j := 1) dX0_give_7 shC_140 rfl rfl (by decide) fX0_15 ?_
        refine mw_iload_n dX0_give_10 rfl 3 rfl ?_
        refine mw_iload_n dX0_give_11 rfl 3 rfl ?_
        refine mw_aload_n dX0_give_12 rfl 1 rfl ?_
        refine mw_aload_n dX0_give_13 rfl 2 rfl ?_
        refine tc_Si (as := [.int y104, .ref a1, .ref 15]) (st := [.int y104, .ref 142]) dX0_give_14 rfl mX0_23 t_X0_suitedFor rfl (Nat.le_of_ble_eq_true rfl) (by decide) (by decide) (c_X0_suitedFor (g := g) S101 hI102 y104 a1 ha1) (fun S142 v144 h143 => ?_)
        obtain ⟨rfl, b145, x146⟩ := h143
        refine tw_iast dX0_give_17 shC_142 (bd_in b141 (by decide)) ?_
        have hI147 : JC (mm_up S101 142 y104.toNatClampNeg v144) := JIC_puta hI102 b145 b141 (by decide) (by decide +kernel)
        generalize hS148 : (mm_up S101 142 y104.toNatClampNeg v144) = S148 at hI147 ⊢
        have hF149 := fr_upA hF103 hS148 (by decide)
        refine mw_iconst dX0_give_18 ki_0 ?_
        refine mw_istore (ls' := [(4, .int 0), (0, .ref 140), (1, .ref a1), (2, .ref 15), (3, .int y104)]) dX0_give_19 (by decide) rfl ?_
        have cut21 : ∀ (N21 : Nat) (S150 : mm_S) (y153 y155 : Int32), ((129 : Int) - y155.toInt).toNat < N21 → (y153.toInt - (-1 : Int)).toNat < N2 + 1 → JC S150 → fr [141, 142, 144, 145, 146, 147, 148, 149, 150] [] true true S S150 → mm_b (0) (5) y153 → mm_b (0) (128) y155 → mw g RX0 cX0_give 5 none false (mm_rm 5) (qv shC (fun S1 => JC S1 ∧ fr [141, 142, 144, 145, 146, 147, 148, 149, 150] [] true true S S1 ∧ True)) 0 0 (mm_enc shC S150) 21 [(0, .ref 140), (1, .ref a1), (2, .ref 15), (3, .int y153), (4, .int y155)] [] := by
          intro N21
          induction N21 with
          | zero =>
            intro S150 y153 y155 hm157 hm158 hI151 hF152 b154 b156
            exact absurd hm157 (Nat.not_lt_zero _)
          | succ N21 ih21 =>
            intro S150 y153 y155 hm157 hm158 hI151 hF152 b154 b156
            refine mw_iload dX0_give_21 4 rfl ?_
            refine mw_sipush dX0_give_23 ks_128 ?_
            refine mw_icmp_ge (tgt := 51) dX0_give_26 (by decide) (fun q159 => ?_) (fun q159 => ?_)
            · skip
              have b160 : mm_b (128) (128) y155 := bd_le_r q159 n_128 b156 (by decide)
              refine mw_iinc (ls' := fun v => [(3, .int v), (0, .ref 140), (1, .ref a1), (2, .ref 15), (4, .int y155)]) dX0_give_51 3 rfl (by decide) (fun _ => rfl) (fun v161 ev161 => ?_)
              have b162 : mm_b (-1) (4) v161 := bd_inc ev161 b154 (by decide)
              refine mw_goto (tgt := 2) dX0_give_54 (by decide) ?_
              refine mw_ls [1, 2, 3, 0] rfl ?_
              exact ih2 S150 v161 (ms_dec ev161 b154 (by decide) hm158) hI151 hF152 (bd_w b162 (by decide))
            · skip
              have b163 : mm_b (0) (127) y155 := bd_lt_l (bd_nle q159) b156 n_128 (by decide)
              refine mw_aload_n dX0_give_29 rfl 0 rfl ?_
              refine tw_getr (j := 2) dX0_give_30 shC_140 rfl rfl (by decide) fX0_20 ?_
              refine mw_iload_n dX0_give_33 rfl 3 rfl ?_
              obtain ⟨a164, ea164, ha165⟩ := AAC_143 b154 (by decide)
              refine tw_aald dX0_give_34 shC_143 rfl rfl (bd_in b154 (by decide)) ea164 (LC_row_lt ha165) ?_
              refine mw_iload dX0_give_35 4 rfl ?_
              refine mw_aload_n dX0_give_37 rfl 0 rfl ?_
              refine mw_iload_n dX0_give_38 rfl 3 rfl ?_
              refine mw_iload dX0_give_39 4 rfl ?_
              refine tc_Vi (as := [.int y153, .int y155]) (st := [.int y155, .ref a164]) dX0_give_41 rfl shC_140 rfl rfl mX0_27 t_X0_mostFrom rfl (Nat.le_of_ble_eq_true rfl) (by decide) (by decide) (c_X0_mostFrom (g := g) S150 hI151 y153 y155) (fun S166 v168 h167 => ?_)
              obtain ⟨rfl, b169, x170⟩ := h167
              refine tw_iast dX0_give_44 (shC_row_0 a164 ha165) (bd_in b163 (by decide)) ?_
              have hI171 : JC (mm_up S150 a164 y155.toNatClampNeg v168) := JIC_puta hI151 b169 b163 (by decide) (ckZ ha165 (by decide +kernel))
              generalize hS172 : (mm_up S150 a164 y155.toNatClampNeg v168) = S172 at hI171 ⊢
              have hF173 := fr_upA hF152 hS172 (memZ ha165 (by decide))
              refine mw_iinc (ls' := fun v => [(4, .int v), (0, .ref 140), (1, .ref a1), (2, .ref 15), (3, .int y153)]) dX0_give_45 4 rfl (by decide) (fun _ => rfl) (fun v174 ev174 => ?_)
              have b175 : mm_b (1) (128) v174 := bd_inc ev174 b163 (by decide)
              refine mw_goto (tgt := 21) dX0_give_48 (by decide) ?_
              refine mw_ls [1, 2, 3, 4, 0] rfl ?_
              exact ih21 S172 y153 v174 (ms_inc ev174 b163 (by decide) hm157) hm158 hI171 hF173 b154 (bd_w b175 (by decide))
        refine mw_ls [1, 2, 3, 4, 0] rfl ?_
        exact cut21 _ S148 y104 (0 : Int32) (Nat.lt_succ_self _) hm106 hI147 hF149 b141 (bd_w n_0 (by decide))
  refine mw_ls [1, 2, 3, 0] rfl ?_
  exact cut2 _ S (5 : Int32) (Nat.lt_succ_self _) hI hF (bd_w n_5 (by decide))
