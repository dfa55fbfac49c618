set_option maxRecDepth 100000 in
set_option maxHeartbeats 4000000 in
theorem c_X10_lives3 {g : mm_G} (S : mm_S) (hI : JM S) (x1 : Int32) (h1 : mm_b (0) (9) x1) : mc g yX10_lives cX10_lives 2 (some .boolean) (mm_rm 1) [.ref 3, .int x1] (mm_enc shM S) (qi shM (fun S1 v => S = S1 ∧ mm_b (0) (1) v ∧ (v = 0 ∨ (mm_b (0) (6) x1)))) := by
  refine mc_of2 (own := RX10) (ini := false) (ls := [(0, .ref 3), (1, .int x1)]) (by decide) (Nat.le_of_ble_eq_true rfl) rfl (by decide) rfl ?_
  refine mw_iload_n dX10_lives_0 rfl 1 rfl ?_
  refine mw_bipush dX10_lives_1 kb_9 ?_
  refine mw_icmp_eq (tgt := 21) dX10_lives_3 (by decide) (fun q101 => ?_) (fun q101 => ?_)
  · skip
    have b102 : mm_b (9) (9) x1 := bd_eq_l q101 h1 n_9 (by decide)
    refine mw_iconst dX10_lives_21 ki_0 ?_
    exact mw_zret rfl (bd_nar n_0 (by decide)) dX10_lives_22 rfl rfl ⟨S, _, rfl, rfl, rfl, bd_w n_0 (by decide), Or.inl rfl⟩
  · skip
    have b103 : mm_b (0) (8) x1 := bd_ne_l q101 h1 n_9 (by decide)
    refine mw_aload_n dX10_lives_6 rfl 0 rfl ?_
    refine mw_bipush dX10_lives_7 kb_28 ?_
    refine tw_iald dX10_lives_9 shM_3 (bd_in n_28 (by decide)) (fun v104 ev104 => ?_)
    rw [cl_28] at ev104
    have b105 : mm_b (0) (127) v104 := JIM_fld hI ev104 tbM_32 (by decide)
    refine mw_iload_n dX10_lives_10 rfl 1 rfl ?_
    refine tc_Si (as := [.int v104, .int x1]) (st := []) dX10_lives_11 rfl mX10_134 t_X10_isIn rfl (Nat.le_of_ble_eq_true rfl) (by decide) (by decide) (c_X10_isIn (g := g) S hI v104 x1) (fun S106 v108 h107 => ?_)
    obtain ⟨rfl, b109, x110⟩ := h107
    have x111 := isIn_b x110 b105 b103 (by decide)
    refine mw_if_eq (tgt := 21) dX10_lives_14 (by decide) (fun q112 => ?_) (fun q112 => ?_)
    · skip
      have b113 : mm_b (0) (0) v108 := bd_eq_l q112 b109 n_0 (by decide)
      refine mw_iconst dX10_lives_21 ki_0 ?_
      exact mw_zret rfl (bd_nar n_0 (by decide)) dX10_lives_22 rfl rfl ⟨S, _, rfl, rfl, rfl, bd_w n_0 (by decide), Or.inl rfl⟩
    · skip
      have b114 : mm_b (1) (1) v108 := bd_ne_l q112 b109 n_0 (by decide)
      have b115 := Or.resolve_left x111 q112
      refine mw_iconst dX10_lives_17 ki_1 ?_
      refine mw_goto (tgt := 22) dX10_lives_18 (by decide) ?_
      exact mw_zret rfl (bd_nar n_1 (by decide)) dX10_lives_22 rfl rfl ⟨S, _, rfl, rfl, rfl, bd_w n_1 (by decide), Or.inr (bd_w b115 (by decide))⟩
set_option maxRecDepth 100000 in
set_option maxHeartbeats 4000000 in
theorem c_X10_lives4 {g : mm_G} (S : mm_S) (hI : JM S) (x1 : Int32) (h1 : mm_b (0) (9) x1) : mc g yX10_lives cX10_lives 2 (some .boolean) (mm_rm 1) [.ref 4, .int x1] (mm_enc shM S) (qi shM (fun S1 v => S = S1 ∧ mm_b (0) (1) v ∧ (v = 0 ∨ (mm_b (0) (6) x1)))) := by
  refine mc_of2 (own := RX10) (ini := false) (ls := [(0, .ref 4), (1, .int x1)]) (by decide) (Nat.le_of_ble_eq_true rfl) rfl (by decide) rfl ?_
  refine mw_iload_n dX10_lives_0 rfl 1 rfl ?_
  refine mw_bipush dX10_lives_1 kb_9 ?_
  refine mw_icmp_eq (tgt := 21) dX10_lives_3 (by decide) (fun q101 => ?_) (fun q101 => ?_)
  · skip
    have b102 : mm_b (9) (9) x1 := bd_eq_l q101 h1 n_9 (by decide)
    refine mw_iconst dX10_lives_21 ki_0 ?_
    exact mw_zret rfl (bd_nar n_0 (by decide)) dX10_lives_22 rfl rfl ⟨S, _, rfl, rfl, rfl, bd_w n_0 (by decide), Or.inl rfl⟩
  · skip
    have b103 : mm_b (0) (8) x1 := bd_ne_l q101 h1 n_9 (by decide)
    refine mw_aload_n dX10_lives_6 rfl 0 rfl ?_
    refine mw_bipush dX10_lives_7 kb_28 ?_
    refine tw_iald dX10_lives_9 shM_4 (bd_in n_28 (by decide)) (fun v104 ev104 => ?_)
    rw [cl_28] at ev104
    have b105 : mm_b (0) (127) v104 := JIM_fld hI ev104 tbM_35 (by decide)
    refine mw_iload_n dX10_lives_10 rfl 1 rfl ?_
    refine tc_Si (as := [.int v104, .int x1]) (st := []) dX10_lives_11 rfl mX10_134 t_X10_isIn rfl (Nat.le_of_ble_eq_true rfl) (by decide) (by decide) (c_X10_isIn (g := g) S hI v104 x1) (fun S106 v108 h107 => ?_)
    obtain ⟨rfl, b109, x110⟩ := h107
    have x111 := isIn_b x110 b105 b103 (by decide)
    refine mw_if_eq (tgt := 21) dX10_lives_14 (by decide) (fun q112 => ?_) (fun q112 => ?_)
    · skip
      have b113 : mm_b (0) (0) v108 := bd_eq_l q112 b109 n_0 (by decide)
      refine mw_iconst dX10_lives_21 ki_0 ?_
      exact mw_zret rfl (bd_nar n_0 (by decide)) dX10_lives_22 rfl rfl ⟨S, _, rfl, rfl, rfl, bd_w n_0 (by decide), Or.inl rfl⟩
    · skip
      have b114 : mm_b (1) (1) v108 := bd_ne_l q112 b109 n_0 (by decide)
      have b115 := Or.resolve_left x111 q112
      refine mw_iconst dX10_lives_17 ki_1 ?_
      refine mw_goto (tgt := 22) dX10_lives_18 (by decide) ?_
      exact mw_zret rfl (bd_nar n_1 (by decide)) dX10_lives_22 rfl rfl ⟨S, _, rfl, rfl, rfl, bd_w n_1 (by decide), Or.inr (bd_w b115 (by decide))⟩
set_option maxRecDepth 100000 in
set_option maxHeartbeats 4000000 in
theorem c_X10_dies3 {g : mm_G} (S : mm_S) (hI : JM S) (x2 : Int32) (h2 : mm_b (0) (6) x2) : mc g yX10_dies cX10_dies 8 (some .int) (mm_rm 2) [.ref 0, .ref 3, .int x2] (mm_enc shM S) (qi shM (fun S1 v => JM S1 ∧ fr [3] [] true true S S1 ∧ mm_b (-1) (6) v ∧ (True))) := by
  refine mc_of2 (own := RX10) (ini := false) (ls := [(0, .ref 0), (1, .ref 3), (2, .int x2)]) (by decide) (Nat.le_of_ble_eq_true rfl) rfl (by decide) rfl ?_
  have hF : fr [3] [] true true S S := fr_rf
  refine mw_aload_n dX10_dies_0 rfl 1 rfl ?_
  refine mw_iconst dX10_dies_1 ki_0 ?_
  refine mw_iload_n dX10_dies_2 rfl 2 rfl ?_
  refine mw_iadd dX10_dies_3 (fun v101 ev101 => ?_)
  have b102 : mm_b (0) (6) v101 := bd_add ev101 n_0 h2 (by decide)
  refine tw_iald dX10_dies_4 shM_3 (bd_in b102 (by decide)) (fun v103 ev103 => ?_)
  have b104 : mm_b (0) (9) v103 := JIM_elt hI ev103 b102 tbM_30 (by decide)
  refine mw_istore_n (ls' := [(3, .int v103), (0, .ref 0), (1, .ref 3), (2, .int x2)]) dX10_dies_5 rfl (by decide) rfl ?_
  refine mw_aload_n dX10_dies_6 rfl 2 rfl ?_
  refine mw_bipush dX10_dies_7 kb_7 ?_
  refine mw_iload_n dX10_dies_9 rfl 3 rfl ?_
  refine mw_iadd dX10_dies_10 (fun v105 ev105 => ?_)
  have b106 : mm_b (7) (13) v105 := bd_add ev105 n_7 h2 (by decide)
  refine tw_iald dX10_dies_11 shM_3 (bd_in b106 (by decide)) (fun v107 ev107 => ?_)
  refine mw_istore (ls' := [(4, .int v107), (3, .int v103), (0, .ref 0), (1, .ref 3), (2, .int x2)]) dX10_dies_12 (by decide) rfl ?_
  refine mw_iconst dX10_dies_14 ki_m1 ?_
  refine mw_istore (ls' := [(5, .int (-1)), (4, .int v107), (3, .int v103), (0, .ref 0), (1, .ref 3), (2, .int x2)]) dX10_dies_15 (by decide) rfl ?_
  refine mw_aload_n dX10_dies_17 rfl 4 rfl ?_
  refine mw_bipush dX10_dies_18 kb_28 ?_
  refine mw_dup2 dX10_dies_20 rfl rfl ?_
  refine tw_iald dX10_dies_21 shM_3 (bd_in n_28 (by decide)) (fun v108 ev108 => ?_)
  rw [cl_28] at ev108
  have b109 : mm_b (0) (127) v108 := JIM_fld hI ev108 tbM_32 (by decide)
  refine mw_iconst dX10_dies_22 ki_1 ?_
  refine mw_iload_n dX10_dies_23 rfl 5 rfl ?_
  refine mw_ishl dX10_dies_24 (fun v110 ev110 => ?_)
  have b111 : mm_b (1) (64) v110 := bd_shl 6 ev110 h2 (by decide)
  refine mw_iconst dX10_dies_25 ki_m1 ?_
  refine mw_ixor dX10_dies_26 (fun v112 ev112 => ?_)
  refine mw_iand dX10_dies_27 (fun v113 ev113 => ?_)
  have b114 : mm_b (0) (127) v113 := bd_and ev113 b109 (by decide)
  refine tw_iast dX10_dies_28 shM_3 (bd_in n_28 (by decide)) ?_
  rw [cl_28]
  have hI115 : JM (mm_up S 3 28 v113) := JIM_put hI b114 (by decide +kernel)
  generalize hS116 : (mm_up S 3 28 v113) = S116 at hI115 ⊢
  have hF117 := fr_upA hF hS116 (by decide)
  refine mw_aload_n dX10_dies_29 rfl 4 rfl ?_
  refine mw_iconst dX10_dies_30 ki_0 ?_
  refine mw_iload_n dX10_dies_31 rfl 5 rfl ?_
  refine mw_iadd dX10_dies_32 (fun v118 ev118 => ?_)
  have cv118 : v101 = v118 := ev101.trans ev118.symm
  subst cv118
  refine mw_bipush dX10_dies_33 kb_9 ?_
  refine tw_iast dX10_dies_35 shM_3 (bd_in b102 (by decide)) ?_
  have hI119 : JM (mm_up S116 3 v101.toNatClampNeg 9) := JIM_puta hI115 n_9 b102 (by decide) (by decide +kernel)
  generalize hS120 : (mm_up S116 3 v101.toNatClampNeg 9) = S120 at hI119 ⊢
  have hF121 := fr_upA hF117 hS120 (by decide)
  refine mw_aload_n dX10_dies_36 rfl 4 rfl ?_
  refine mw_bipush dX10_dies_37 kb_7 ?_
  refine mw_iload_n dX10_dies_39 rfl 5 rfl ?_
  refine mw_iadd dX10_dies_40 (fun v122 ev122 => ?_)
  have cv122 : v105 = v122 := ev105.trans ev122.symm
  subst cv122
  refine mw_iconst dX10_dies_41 ki_0 ?_
  refine tw_iast dX10_dies_42 shM_3 (bd_in b106 (by decide)) ?_
  have hI123 : JM (mm_up S120 3 v105.toNatClampNeg 0) := JIM_puta hI119 n_0 b106 (by decide) (by decide +kernel)
  generalize hS124 : (mm_up S120 3 v105.toNatClampNeg 0) = S124 at hI123 ⊢
  have hF125 := fr_upA hF121 hS124 (by decide)
  refine mw_aload_n dX10_dies_43 rfl 4 rfl ?_
  refine mw_bipush dX10_dies_44 kb_29 ?_
  refine mw_dup2 dX10_dies_46 rfl rfl ?_
  refine tw_iald dX10_dies_47 shM_3 (bd_in n_29 (by decide)) (fun v126 ev126 => ?_)
  rw [cl_29] at ev126
  refine mw_iconst dX10_dies_48 ki_1 ?_
  refine mw_iadd dX10_dies_49 (fun v127 ev127 => ?_)
  refine tw_iast dX10_dies_50 shM_3 (bd_in n_29 (by decide)) ?_
  rw [cl_29]
  have hI128 : JM (mm_up S124 3 29 v127) := JIM_put hI123 (bd_all v127) (by decide +kernel)
  generalize hS129 : (mm_up S124 3 29 v127) = S129 at hI128 ⊢
  have hF130 := fr_upA hF125 hS129 (by decide)
  refine mw_iload_n dX10_dies_51 rfl 2 rfl ?_
  refine mw_bipush dX10_dies_52 kb_9 ?_
  refine mw_icmp_eq (tgt := 122) dX10_dies_54 (by decide) (fun q131 => ?_) (fun q131 => ?_)
  · skip
    have b132 : mm_b (9) (9) v103 := bd_eq_l q131 b104 n_9 (by decide)
    refine mw_iconst dX10_dies_122 ki_0 ?_
    refine mw_istore (ls' := [(6, .int 0), (5, .int (-1)), (4, .int v107), (3, .int v103), (0, .ref 0), (1, .ref 3), (2, .int x2)]) dX10_dies_123 (by decide) rfl ?_
    have cut125 : ∀ (N125 : Nat) (S133 : mm_S) (y136 y138 y140 : Int32), ((8 : Int) - y140.toInt).toNat < N125 → JM S133 → fr [3] [] true true S S133 → mm_b (-2147483648) (2147483647) y136 → mm_b (-1) (6) y138 → mm_b (0) (7) y140 → mw g RX10 cX10_dies 8 (some .int) false (mm_rm 2) (qi shM (fun S1 v => JM S1 ∧ fr [3] [] true true S S1 ∧ mm_b (-1) (6) v ∧ (True))) 0 0 (mm_enc shM S133) 125 [(0, .ref 0), (1, .ref 3), (4, .int y136), (5, .int y138), (6, .int y140)] [] := by
      intro N125
      induction N125 with
      | zero =>
        intro S133 y136 y138 y140 hm142 hI134 hF135 b137 b139 b141
        exact absurd hm142 (Nat.not_lt_zero _)
      | succ N125 ih125 =>
        intro S133 y136 y138 y140 hm142 hI134 hF135 b137 b139 b141
        refine mw_iload dX10_dies_125 4 rfl ?_
        refine mw_bipush dX10_dies_127 kb_7 ?_
        refine mw_icmp_ge (tgt := 169) dX10_dies_129 (by decide) (fun q143 => ?_) (fun q143 => ?_)
        · skip
          have b144 : mm_b (7) (7) y140 := bd_le_r q143 n_7 b141 (by decide)
          refine mw_iload dX10_dies_169 3 rfl ?_
          exact mw_iret rfl dX10_dies_171 rfl rfl ⟨S133, _, rfl, rfl, hI134, hF135, b139, trivial⟩
        · skip
          have b145 : mm_b (0) (6) y140 := bd_lt_l (bd_nle q143) b141 n_7 (by decide)
          refine mw_aload_n dX10_dies_132 rfl 0 rfl ?_
          refine mw_aload_n dX10_dies_133 rfl 1 rfl ?_
          refine tc_Vi (as := [.ref 3]) (st := []) dX10_dies_134 rfl shM_0 rfl rfl mX10_159 t_X10_leastMute rfl (Nat.le_of_ble_eq_true rfl) (by decide) (by decide) (c_X10_leastMute3 (g := g) S133 hI134) (fun S146 v148 h147 => ?_)
          obtain ⟨rfl, b149, x150⟩ := h147
          refine mw_istore (ls' := [(7, .int v148), (0, .ref 0), (1, .ref 3), (4, .int y136), (5, .int y138), (6, .int y140)]) dX10_dies_137 (by decide) rfl ?_
          refine mw_iload dX10_dies_139 3 rfl ?_
          refine mw_iload dX10_dies_141 5 rfl ?_
          refine tc_Si (as := [.int y136, .int y140]) (st := []) dX10_dies_143 rfl mX10_134 t_X10_isIn rfl (Nat.le_of_ble_eq_true rfl) (by decide) (by decide) (c_X10_isIn (g := g) S133 hI134 y136 y140) (fun S151 v153 h152 => ?_)
          obtain ⟨rfl, b154, x155⟩ := h152
          refine mw_if_eq (tgt := 163) dX10_dies_146 (by decide) (fun q156 => ?_) (fun q156 => ?_)
          · skip
            have b157 : mm_b (0) (0) v153 := bd_eq_l q156 b154 n_0 (by decide)
            refine mw_iinc (ls' := fun v => [(6, .int v), (7, .int v148), (0, .ref 0), (1, .ref 3), (4, .int y136), (5, .int y138)]) dX10_dies_163 5 rfl (by decide) (fun _ => rfl) (fun v158 ev158 => ?_)
            have b159 : mm_b (1) (7) v158 := bd_inc ev158 b145 (by decide)
            refine mw_goto (tgt := 125) dX10_dies_166 (by decide) ?_
            refine mw_ls [2, 3, 4, 5, 0] rfl ?_
            exact ih125 S133 y136 y138 v158 (ms_inc ev158 b145 (by decide) hm142) hI134 hF135 b137 b139 (bd_w b159 (by decide))
          · skip
            have b160 : mm_b (1) (1) v153 := bd_ne_l q156 b154 n_0 (by decide)
            refine mw_iload dX10_dies_149 0 rfl ?_
            refine mw_iconst dX10_dies_151 ki_m1 ?_
            refine mw_icmp_eq (tgt := 163) dX10_dies_152 (by decide) (fun q161 => ?_) (fun q161 => ?_)
            · skip
              have b162 : mm_b (-1) (-1) v148 := bd_eq_l q161 b149 n_m1 (by decide)
              refine mw_iinc (ls' := fun v => [(6, .int v), (7, .int v148), (0, .ref 0), (1, .ref 3), (4, .int y136), (5, .int y138)]) dX10_dies_163 5 rfl (by decide) (fun _ => rfl) (fun v163 ev163 => ?_)
              have b164 : mm_b (1) (7) v163 := bd_inc ev163 b145 (by decide)
              refine mw_goto (tgt := 125) dX10_dies_166 (by decide) ?_
              refine mw_ls [2, 3, 4, 5, 0] rfl ?_
              exact ih125 S133 y136 y138 v163 (ms_inc ev163 b145 (by decide) hm142) hI134 hF135 b137 b139 (bd_w b164 (by decide))
            · skip
              have b165 : mm_b (0) (6) v148 := bd_ne_l q161 b149 n_m1 (by decide)
              refine mw_aload_n dX10_dies_155 rfl 2 rfl ?_
              refine mw_iconst dX10_dies_156 ki_0 ?_
              refine mw_iload dX10_dies_157 0 rfl ?_
              refine mw_iadd dX10_dies_159 (fun v166 ev166 => ?_)
              have b167 : mm_b (0) (6) v166 := bd_add ev166 n_0 b165 (by decide)
              refine mw_iload dX10_dies_160 5 rfl ?_
              refine tw_iast dX10_dies_162 shM_3 (bd_in b167 (by decide)) ?_
              have hI168 : JM (mm_up S133 3 v166.toNatClampNeg y140) := JIM_puta hI134 b145 b167 (by decide) (by decide +kernel)
              generalize hS169 : (mm_up S133 3 v166.toNatClampNeg y140) = S169 at hI168 ⊢
              have hF170 := fr_upA hF135 hS169 (by decide)
              refine mw_iinc (ls' := fun v => [(6, .int v), (7, .int v148), (0, .ref 0), (1, .ref 3), (4, .int y136), (5, .int y138)]) dX10_dies_163 5 rfl (by decide) (fun _ => rfl) (fun v171 ev171 => ?_)
              have b172 : mm_b (1) (7) v171 := bd_inc ev171 b145 (by decide)
              refine mw_goto (tgt := 125) dX10_dies_166 (by decide) ?_
              refine mw_ls [2, 3, 4, 5, 0] rfl ?_
              exact ih125 S169 y136 y138 v171 (ms_inc ev171 b145 (by decide) hm142) hI168 hF170 b137 b139 (bd_w b172 (by decide))
    refine mw_ls [4, 5, 2, 1, 0] rfl ?_
    exact cut125 _ S129 v107 (-1 : Int32) (0 : Int32) (Nat.lt_succ_self _) hI128 hF130 (bd_all v107) (bd_w n_m1 (by decide)) (bd_w n_0 (by decide))
  · skip
    have b173 : mm_b (0) (8) v103 := bd_ne_l q131 b104 n_9 (by decide)
    refine mw_aload_n dX10_dies_57 rfl 4 rfl ?_
    refine mw_aload_n dX10_dies_58 rfl 4 rfl ?_
    refine mw_bipush dX10_dies_59 kb_14 ?_
    refine mw_iload_n dX10_dies_61 rfl 5 rfl ?_
    refine mw_iadd dX10_dies_62 (fun v174 ev174 => ?_)
    have b175 : mm_b (14) (20) v174 := bd_add ev174 n_14 h2 (by decide)
    refine tw_iald dX10_dies_63 shM_3 (bd_in b175 (by decide)) (fun v176 ev176 => ?_)
    have b177 : mm_b (0) (9) v176 := JIM_elt hI128 ev176 b175 tbM_31 (by decide)
    refine tc_Si (as := [.ref 3, .int v176]) (st := []) dX10_dies_64 rfl mX10_155 t_X10_lives rfl (Nat.le_of_ble_eq_true rfl) (by decide) (by decide) (c_X10_lives3 (g := g) S129 hI128 v176 b177) (fun S178 v180 h179 => ?_)
    obtain ⟨rfl, b181, x182⟩ := h179
    have cut106 : ∀ (S183 : mm_S) (y186 y188 y190 : Int32), JM S183 → fr [3] [] true true S S183 → mm_b (0) (8) y186 → mm_b (-2147483648) (2147483647) y188 → mm_b (-1) (6) y190 → mw g RX10 cX10_dies 8 (some .int) false (mm_rm 2) (qi shM (fun S1 v => JM S1 ∧ fr [3] [] true true S S1 ∧ mm_b (-1) (6) v ∧ (True))) 0 0 (mm_enc shM S183) 106 [(0, .ref 0), (1, .ref 3), (3, .int y186), (4, .int y188)] [.int y190] := by
      intro S183 y186 y188 y190 hI184 hF185 b187 b189 b191
      refine mw_istore (ls' := [(5, .int y190), (0, .ref 0), (1, .ref 3), (3, .int y186), (4, .int y188)]) dX10_dies_106 (by decide) rfl ?_
      refine mw_iload dX10_dies_108 0 rfl ?_
      refine mw_iconst dX10_dies_110 ki_m1 ?_
      refine mw_icmp_eq (tgt := 122) dX10_dies_111 (by decide) (fun q192 => ?_) (fun q192 => ?_)
      · skip
        have b193 : mm_b (-1) (-1) y190 := bd_eq_l q192 b191 n_m1 (by decide)
        refine mw_iconst dX10_dies_122 ki_0 ?_
        refine mw_istore (ls' := [(6, .int 0), (5, .int y190), (0, .ref 0), (1, .ref 3), (3, .int y186), (4, .int y188)]) dX10_dies_123 (by decide) rfl ?_
        have cut125 : ∀ (N125 : Nat) (S194 : mm_S) (y197 y199 y201 : Int32), ((8 : Int) - y201.toInt).toNat < N125 → JM S194 → fr [3] [] true true S S194 → mm_b (-2147483648) (2147483647) y197 → mm_b (-1) (6) y199 → mm_b (0) (7) y201 → mw g RX10 cX10_dies 8 (some .int) false (mm_rm 2) (qi shM (fun S1 v => JM S1 ∧ fr [3] [] true true S S1 ∧ mm_b (-1) (6) v ∧ (True))) 0 0 (mm_enc shM S194) 125 [(0, .ref 0), (1, .ref 3), (4, .int y197), (5, .int y199), (6, .int y201)] [] := by
          intro N125
          induction N125 with
          | zero =>
            intro S194 y197 y199 y201 hm203 hI195 hF196 b198 b200 b202
            exact absurd hm203 (Nat.not_lt_zero _)
          | succ N125 ih125 =>
            intro S194 y197 y199 y201 hm203 hI195 hF196 b198 b200 b202
            refine mw_iload dX10_dies_125 4 rfl ?_
            refine mw_bipush dX10_dies_127 kb_7 ?_
            refine mw_icmp_ge (tgt := 169) dX10_dies_129 (by decide) (fun q204 => ?_) (fun q204 => ?_)
            · skip
              have b205 : mm_b (7) (7) y201 := bd_le_r q204 n_7 b202 (by decide)
              refine mw_iload dX10_dies_169 3 rfl ?_
              exact mw_iret rfl dX10_dies_171 rfl rfl ⟨S194, _, rfl, rfl, hI195, hF196, b200, trivial⟩
            · skip
              have b206 : mm_b (0) (6) y201 := bd_lt_l (bd_nle q204) b202 n_7 (by decide)
              refine mw_aload_n dX10_dies_132 rfl 0 rfl ?_
              refine mw_aload_n dX10_dies_133 rfl 1 rfl ?_
              refine tc_Vi (as := [.ref 3]) (st := []) dX10_dies_134 rfl shM_0 rfl rfl mX10_159 t_X10_leastMute rfl (Nat.le_of_ble_eq_true rfl) (by decide) (by decide) (c_X10_leastMute3 (g := g) S194 hI195) (fun S207 v209 h208 => ?_)
              obtain ⟨rfl, b210, x211⟩ := h208
              refine mw_istore (ls' := [(7, .int v209), (0, .ref 0), (1, .ref 3), (4, .int y197), (5, .int y199), (6, .int y201)]) dX10_dies_137 (by decide) rfl ?_
              refine mw_iload dX10_dies_139 3 rfl ?_
              refine mw_iload dX10_dies_141 5 rfl ?_
              refine tc_Si (as := [.int y197, .int y201]) (st := []) dX10_dies_143 rfl mX10_134 t_X10_isIn rfl (Nat.le_of_ble_eq_true rfl) (by decide) (by decide) (c_X10_isIn (g := g) S194 hI195 y197 y201) (fun S212 v214 h213 => ?_)
              obtain ⟨rfl, b215, x216⟩ := h213
              refine mw_if_eq (tgt := 163) dX10_dies_146 (by decide) (fun q217 => ?_) (fun q217 => ?_)
              · skip
                have b218 : mm_b (0) (0) v214 := bd_eq_l q217 b215 n_0 (by decide)
                refine mw_iinc (ls' := fun v => [(6, .int v), (7, .int v209), (0, .ref 0), (1, .ref 3), (4, .int y197), (5, .int y199)]) dX10_dies_163 5 rfl (by decide) (fun _ => rfl) (fun v219 ev219 => ?_)
                have b220 : mm_b (1) (7) v219 := bd_inc ev219 b206 (by decide)
                refine mw_goto (tgt := 125) dX10_dies_166 (by decide) ?_
                refine mw_ls [2, 3, 4, 5, 0] rfl ?_
                exact ih125 S194 y197 y199 v219 (ms_inc ev219 b206 (by decide) hm203) hI195 hF196 b198 b200 (bd_w b220 (by decide))
              · skip
                have b221 : mm_b (1) (1) v214 := bd_ne_l q217 b215 n_0 (by decide)
                refine mw_iload dX10_dies_149 0 rfl ?_
                refine mw_iconst dX10_dies_151 ki_m1 ?_
                refine mw_icmp_eq (tgt := 163) dX10_dies_152 (by decide) (fun q222 => ?_) (fun q222 => ?_)
                · skip
                  have b223 : mm_b (-1) (-1) v209 := bd_eq_l q222 b210 n_m1 (by decide)
                  refine mw_iinc (ls' := fun v => [(6, .int v), (7, .int v209), (0, .ref 0), (1, .ref 3), (4, .int y197), (5, .int y199)]) dX10_dies_163 5 rfl (by decide) (fun _ => rfl) (fun v224 ev224 => ?_)
                  have b225 : mm_b (1) (7) v224 := bd_inc ev224 b206 (by decide)
                  refine mw_goto (tgt := 125) dX10_dies_166 (by decide) ?_
                  refine mw_ls [2, 3, 4, 5, 0] rfl ?_
                  exact ih125 S194 y197 y199 v224 (ms_inc ev224 b206 (by decide) hm203) hI195 hF196 b198 b200 (bd_w b225 (by decide))
                · skip
                  have b226 : mm_b (0) (6) v209 := bd_ne_l q222 b210 n_m1 (by decide)
                  refine mw_aload_n dX10_dies_155 rfl 2 rfl ?_
                  refine mw_iconst dX10_dies_156 ki_0 ?_
                  refine mw_iload dX10_dies_157 0 rfl ?_
                  refine mw_iadd dX10_dies_159 (fun v227 ev227 => ?_)
                  have b228 : mm_b (0) (6) v227 := bd_add ev227 n_0 b226 (by decide)
                  refine mw_iload dX10_dies_160 5 rfl ?_
                  refine tw_iast dX10_dies_162 shM_3 (bd_in b228 (by decide)) ?_
                  have hI229 : JM (mm_up S194 3 v227.toNatClampNeg y201) := JIM_puta hI195 b206 b228 (by decide) (by decide +kernel)
                  generalize hS230 : (mm_up S194 3 v227.toNatClampNeg y201) = S230 at hI229 ⊢
                  have hF231 := fr_upA hF196 hS230 (by decide)
                  refine mw_iinc (ls' := fun v => [(6, .int v), (7, .int v209), (0, .ref 0), (1, .ref 3), (4, .int y197), (5, .int y199)]) dX10_dies_163 5 rfl (by decide) (fun _ => rfl) (fun v232 ev232 => ?_)
                  have b233 : mm_b (1) (7) v232 := bd_inc ev232 b206 (by decide)
                  refine mw_goto (tgt := 125) dX10_dies_166 (by decide) ?_
                  refine mw_ls [2, 3, 4, 5, 0] rfl ?_
                  exact ih125 S230 y197 y199 v232 (ms_inc ev232 b206 (by decide) hm203) hI229 hF231 b198 b200 (bd_w b233 (by decide))
        refine mw_ls [2, 3, 5, 1, 0] rfl ?_
        exact cut125 _ S183 y188 y190 (0 : Int32) (Nat.lt_succ_self _) hI184 hF185 b189 (bd_w b193 (by decide)) (bd_w n_0 (by decide))
      · skip
        have b234 : mm_b (0) (6) y190 := bd_ne_l q192 b191 n_m1 (by decide)
        refine mw_aload_n dX10_dies_114 rfl 1 rfl ?_
        refine mw_aload_n dX10_dies_115 rfl 2 rfl ?_
        refine mw_iload dX10_dies_116 0 rfl ?_
        refine mw_iload_n dX10_dies_118 rfl 3 rfl ?_
        refine tc_Vv (as := [.ref 3, .int y190, .int y186]) (st := []) dX10_dies_119 rfl shM_0 rfl rfl mX10_163 t_X10_gets rfl (Nat.le_of_ble_eq_true rfl) (by decide) (by decide) (c_X10_gets3 (g := g) S183 hI184 y190 b234 y186 (bd_w b187 (by decide))) (fun S235 h236 => ?_)
        obtain ⟨hI238, hf239, x237⟩ := h236
        have hF240 := fr_tr hF185 hf239 (by decide) (by decide) (by decide) (by decide)
        refine mw_iconst dX10_dies_122 ki_0 ?_
        refine mw_istore (ls' := [(6, .int 0), (5, .int y190), (0, .ref 0), (1, .ref 3), (3, .int y186), (4, .int y188)]) dX10_dies_123 (by decide) rfl ?_
        have cut125 : ∀ (N125 : Nat) (S241 : mm_S) (y244 y246 y248 : Int32), ((8 : Int) - y248.toInt).toNat < N125 → JM S241 → fr [3] [] true true S S241 → mm_b (-2147483648) (2147483647) y244 → mm_b (-1) (6) y246 → mm_b (0) (7) y248 → mw g RX10 cX10_dies 8 (some .int) false (mm_rm 2) (qi shM (fun S1 v => JM S1 ∧ fr [3] [] true true S S1 ∧ mm_b (-1) (6) v ∧ (True))) 0 0 (mm_enc shM S241) 125 [(0, .ref 0), (1, .ref 3), (4, .int y244), (5, .int y246), (6, .int y248)] [] := by
          intro N125
          induction N125 with
          | zero =>
            intro S241 y244 y246 y248 hm250 hI242 hF243 b245 b247 b249
            exact absurd hm250 (Nat.not_lt_zero _)
          | succ N125 ih125 =>
            intro S241 y244 y246 y248 hm250 hI242 hF243 b245 b247 b249
            refine mw_iload dX10_dies_125 4 rfl ?_
            refine mw_bipush dX10_dies_127 kb_7 ?_
            refine mw_icmp_ge (tgt := 169) dX10_dies_129 (by decide) (fun q251 => ?_) (fun q251 => ?_)
            · skip
              have b252 : mm_b (7) (7) y248 := bd_le_r q251 n_7 b249 (by decide)
              refine mw_iload dX10_dies_169 3 rfl ?_
              exact mw_iret rfl dX10_dies_171 rfl rfl ⟨S241, _, rfl, rfl, hI242, hF243, b247, trivial⟩
            · skip
              have b253 : mm_b (0) (6) y248 := bd_lt_l (bd_nle q251) b249 n_7 (by decide)
              refine mw_aload_n dX10_dies_132 rfl 0 rfl ?_
              refine mw_aload_n dX10_dies_133 rfl 1 rfl ?_
              refine tc_Vi (as := [.ref 3]) (st := []) dX10_dies_134 rfl shM_0 rfl rfl mX10_159 t_X10_leastMute rfl (Nat.le_of_ble_eq_true rfl) (by decide) (by decide) (c_X10_leastMute3 (g := g) S241 hI242) (fun S254 v256 h255 => ?_)
              obtain ⟨rfl, b257, x258⟩ := h255
              refine mw_istore (ls' := [(7, .int v256), (0, .ref 0), (1, .ref 3), (4, .int y244), (5, .int y246), (6, .int y248)]) dX10_dies_137 (by decide) rfl ?_
              refine mw_iload dX10_dies_139 3 rfl ?_
              refine mw_iload dX10_dies_141 5 rfl ?_
              refine tc_Si (as := [.int y244, .int y248]) (st := []) dX10_dies_143 rfl mX10_134 t_X10_isIn rfl (Nat.le_of_ble_eq_true rfl) (by decide) (by decide) (c_X10_isIn (g := g) S241 hI242 y244 y248) (fun S259 v261 h260 => ?_)
              obtain ⟨rfl, b262, x263⟩ := h260
              refine mw_if_eq (tgt := 163) dX10_dies_146 (by decide) (fun q264 => ?_) (fun q264 => ?_)
              · skip
                have b265 : mm_b (0) (0) v261 := bd_eq_l q264 b262 n_0 (by decide)
                refine mw_iinc (ls' := fun v => [(6, .int v), (7, .int v256), (0, .ref 0), (1, .ref 3), (4, .int y244), (5, .int y246)]) dX10_dies_163 5 rfl (by decide) (fun _ => rfl) (fun v266 ev266 => ?_)
                have b267 : mm_b (1) (7) v266 := bd_inc ev266 b253 (by decide)
                refine mw_goto (tgt := 125) dX10_dies_166 (by decide) ?_
                refine mw_ls [2, 3, 4, 5, 0] rfl ?_
                exact ih125 S241 y244 y246 v266 (ms_inc ev266 b253 (by decide) hm250) hI242 hF243 b245 b247 (bd_w b267 (by decide))
              · skip
                have b268 : mm_b (1) (1) v261 := bd_ne_l q264 b262 n_0 (by decide)
                refine mw_iload dX10_dies_149 0 rfl ?_
                refine mw_iconst dX10_dies_151 ki_m1 ?_
                refine mw_icmp_eq (tgt := 163) dX10_dies_152 (by decide) (fun q269 => ?_) (fun q269 => ?_)
                · skip
                  have b270 : mm_b (-1) (-1) v256 := bd_eq_l q269 b257 n_m1 (by decide)
                  refine mw_iinc (ls' := fun v => [(6, .int v), (7, .int v256), (0, .ref 0), (1, .ref 3), (4, .int y244), (5, .int y246)]) dX10_dies_163 5 rfl (by decide) (fun _ => rfl) (fun v271 ev271 => ?_)
                  have b272 : mm_b (1) (7) v271 := bd_inc ev271 b253 (by decide)
                  refine mw_goto (tgt := 125) dX10_dies_166 (by decide) ?_
                  refine mw_ls [2, 3, 4, 5, 0] rfl ?_
                  exact ih125 S241 y244 y246 v271 (ms_inc ev271 b253 (by decide) hm250) hI242 hF243 b245 b247 (bd_w b272 (by decide))
                · skip
                  have b273 : mm_b (0) (6) v256 := bd_ne_l q269 b257 n_m1 (by decide)
                  refine mw_aload_n dX10_dies_155 rfl 2 rfl ?_
                  refine mw_iconst dX10_dies_156 ki_0 ?_
                  refine mw_iload dX10_dies_157 0 rfl ?_
                  refine mw_iadd dX10_dies_159 (fun v274 ev274 => ?_)
                  have b275 : mm_b (0) (6) v274 := bd_add ev274 n_0 b273 (by decide)
                  refine mw_iload dX10_dies_160 5 rfl ?_
                  refine tw_iast dX10_dies_162 shM_3 (bd_in b275 (by decide)) ?_
                  have hI276 : JM (mm_up S241 3 v274.toNatClampNeg y248) := JIM_puta hI242 b253 b275 (by decide) (by decide +kernel)
                  generalize hS277 : (mm_up S241 3 v274.toNatClampNeg y248) = S277 at hI276 ⊢
                  have hF278 := fr_upA hF243 hS277 (by decide)
                  refine mw_iinc (ls' := fun v => [(6, .int v), (7, .int v256), (0, .ref 0), (1, .ref 3), (4, .int y244), (5, .int y246)]) dX10_dies_163 5 rfl (by decide) (fun _ => rfl) (fun v279 ev279 => ?_)
                  have b280 : mm_b (1) (7) v279 := bd_inc ev279 b253 (by decide)
                  refine mw_goto (tgt := 125) dX10_dies_166 (by decide) ?_
                  refine mw_ls [2, 3, 4, 5, 0] rfl ?_
                  exact ih125 S277 y244 y246 v279 (ms_inc ev279 b253 (by decide) hm250) hI276 hF278 b245 b247 (bd_w b280 (by decide))
        refine mw_ls [2, 3, 5, 1, 0] rfl ?_
        exact cut125 _ S235 y188 y190 (0 : Int32) (Nat.lt_succ_self _) hI238 hF240 b189 (bd_w b234 (by decide)) (bd_w n_0 (by decide))
    refine mw_if_eq (tgt := 79) dX10_dies_67 (by decide) (fun q281 => ?_) (fun q281 => ?_)
    · skip
      have b282 : mm_b (0) (0) v180 := bd_eq_l q281 b181 n_0 (by decide)
      refine mw_aload_n dX10_dies_79 rfl 4 rfl ?_
      refine mw_aload_n dX10_dies_80 rfl 4 rfl ?_
      refine mw_bipush dX10_dies_81 kb_21 ?_
      refine mw_iload_n dX10_dies_83 rfl 5 rfl ?_
      refine mw_iadd dX10_dies_84 (fun v283 ev283 => ?_)
      have b284 : mm_b (21) (27) v283 := bd_add ev283 n_21 h2 (by decide)
      refine tw_iald dX10_dies_85 shM_3 (bd_in b284 (by decide)) (fun v285 ev285 => ?_)
      have b286 : mm_b (0) (9) v285 := JIM_elt hI128 ev285 b284 tbM_31 (by decide)
      refine tc_Si (as := [.ref 3, .int v285]) (st := []) dX10_dies_86 rfl mX10_155 t_X10_lives rfl (Nat.le_of_ble_eq_true rfl) (by decide) (by decide) (c_X10_lives3 (g := g) S129 hI128 v285 b286) (fun S287 v289 h288 => ?_)
      obtain ⟨rfl, b290, x291⟩ := h288
      refine mw_if_eq (tgt := 101) dX10_dies_89 (by decide) (fun q292 => ?_) (fun q292 => ?_)
      · skip
        have b293 : mm_b (0) (0) v289 := bd_eq_l q292 b290 n_0 (by decide)
        refine mw_aload_n dX10_dies_101 rfl 3 rfl ?_
        refine mw_aload_n dX10_dies_102 rfl 4 rfl ?_
        refine tc_Vi (as := [.ref 3]) (st := []) dX10_dies_103 rfl shM_0 rfl rfl mX10_159 t_X10_leastMute rfl (Nat.le_of_ble_eq_true rfl) (by decide) (by decide) (c_X10_leastMute3 (g := g) S129 hI128) (fun S294 v296 h295 => ?_)
        obtain ⟨rfl, b297, x298⟩ := h295
        refine mw_ls [3, 4, 2, 1] rfl ?_
        exact cut106 S129 v103 v107 v296 hI128 hF130 b173 (bd_all v107) b297
      · skip
        have b299 : mm_b (1) (1) v289 := bd_ne_l q292 b290 n_0 (by decide)
        have b300 := Or.resolve_left x291 q292
        refine mw_aload_n dX10_dies_92 rfl 4 rfl ?_
        refine mw_bipush dX10_dies_93 kb_21 ?_
        refine mw_iload_n dX10_dies_95 rfl 5 rfl ?_
        refine mw_iadd dX10_dies_96 (fun v301 ev301 => ?_)
        have cv301 : v283 = v301 := ev283.trans ev301.symm
        subst cv301
        refine tw_iald dX10_dies_97 shM_3 (bd_in b284 (by decide)) (fun v302 ev302 => ?_)
        have cv302 : v285 = v302 := ev285.trans ev302.symm
        subst cv302
        refine mw_goto (tgt := 106) dX10_dies_98 (by decide) ?_
        refine mw_ls [3, 4, 2, 1] rfl ?_
        exact cut106 S129 v103 v107 v285 hI128 hF130 b173 (bd_all v107) (bd_w b300 (by decide))
    · skip
      have b303 : mm_b (1) (1) v180 := bd_ne_l q281 b181 n_0 (by decide)
      have b304 := Or.resolve_left x182 q281
      refine mw_aload_n dX10_dies_70 rfl 4 rfl ?_
      refine mw_bipush dX10_dies_71 kb_14 ?_
      refine mw_iload_n dX10_dies_73 rfl 5 rfl ?_
      refine mw_iadd dX10_dies_74 (fun v305 ev305 => ?_)
      have cv305 : v174 = v305 := ev174.trans ev305.symm
      subst cv305
      refine tw_iald dX10_dies_75 shM_3 (bd_in b175 (by decide)) (fun v306 ev306 => ?_)
      have cv306 : v176 = v306 := ev176.trans ev306.symm
      subst cv306
      refine mw_goto (tgt := 106) dX10_dies_76 (by decide) ?_
      refine mw_ls [3, 4, 2, 1] rfl ?_
      exact cut106 S129 v103 v107 v176 hI128 hF130 b173 (bd_all v107) (bd_w b304 (by decide))
set_option maxRecDepth 100000 in
set_option maxHeartbeats 4000000 in
theorem c_X10_dies4 {g : mm_G} (S : mm_S) (hI : JM S) (x2 : Int32) (h2 : mm_b (0) (6) x2) : mc g yX10_dies cX10_dies 8 (some .int) (mm_rm 2) [.ref 0, .ref 4, .int x2] (mm_enc shM S) (qi shM (fun S1 v => JM S1 ∧ fr [4] [] true true S S1 ∧ mm_b (-1) (6) v ∧ (True))) := by
  refine mc_of2 (own := RX10) (ini := false) (ls := [(0, .ref 0), (1, .ref 4), (2, .int x2)]) (by decide) (Nat.le_of_ble_eq_true rfl) rfl (by decide) rfl ?_
  have hF : fr [4] [] true true S S := fr_rf
  refine mw_aload_n dX10_dies_0 rfl 1 rfl ?_
  refine mw_iconst dX10_dies_1 ki_0 ?_
  refine mw_iload_n dX10_dies_2 rfl 2 rfl ?_
  refine mw_iadd dX10_dies_3 (fun v101 ev101 => ?_)
  have b102 : mm_b (0) (6) v101 := bd_add ev101 n_0 h2 (by decide)
  refine tw_iald dX10_dies_4 shM_4 (bd_in b102 (by decide)) (fun v103 ev103 => ?_)
  have b104 : mm_b (0) (9) v103 := JIM_elt hI ev103 b102 tbM_33 (by decide)
  refine mw_istore_n (ls' := [(3, .int v103), (0, .ref 0), (1, .ref 4), (2, .int x2)]) dX10_dies_5 rfl (by decide) rfl ?_
  refine mw_aload_n dX10_dies_6 rfl 2 rfl ?_
  refine mw_bipush dX10_dies_7 kb_7 ?_
  refine mw_iload_n dX10_dies_9 rfl 3 rfl ?_
  refine mw_iadd dX10_dies_10 (fun v105 ev105 => ?_)
  have b106 : mm_b (7) (13) v105 := bd_add ev105 n_7 h2 (by decide)
  refine tw_iald dX10_dies_11 shM_4 (bd_in b106 (by decide)) (fun v107 ev107 => ?_)
  refine mw_istore (ls' := [(4, .int v107), (3, .int v103), (0, .ref 0), (1, .ref 4), (2, .int x2)]) dX10_dies_12 (by decide) rfl ?_
  refine mw_iconst dX10_dies_14 ki_m1 ?_
  refine mw_istore (ls' := [(5, .int (-1)), (4, .int v107), (3, .int v103), (0, .ref 0), (1, .ref 4), (2, .int x2)]) dX10_dies_15 (by decide) rfl ?_
  refine mw_aload_n dX10_dies_17 rfl 4 rfl ?_
  refine mw_bipush dX10_dies_18 kb_28 ?_
  refine mw_dup2 dX10_dies_20 rfl rfl ?_
  refine tw_iald dX10_dies_21 shM_4 (bd_in n_28 (by decide)) (fun v108 ev108 => ?_)
  rw [cl_28] at ev108
  have b109 : mm_b (0) (127) v108 := JIM_fld hI ev108 tbM_35 (by decide)
  refine mw_iconst dX10_dies_22 ki_1 ?_
  refine mw_iload_n dX10_dies_23 rfl 5 rfl ?_
  refine mw_ishl dX10_dies_24 (fun v110 ev110 => ?_)
  have b111 : mm_b (1) (64) v110 := bd_shl 6 ev110 h2 (by decide)
  refine mw_iconst dX10_dies_25 ki_m1 ?_
  refine mw_ixor dX10_dies_26 (fun v112 ev112 => ?_)
  refine mw_iand dX10_dies_27 (fun v113 ev113 => ?_)
  have b114 : mm_b (0) (127) v113 := bd_and ev113 b109 (by decide)
  refine tw_iast dX10_dies_28 shM_4 (bd_in n_28 (by decide)) ?_
  rw [cl_28]
  have hI115 : JM (mm_up S 4 28 v113) := JIM_put hI b114 (by decide +kernel)
  generalize hS116 : (mm_up S 4 28 v113) = S116 at hI115 ⊢
  have hF117 := fr_upA hF hS116 (by decide)
  refine mw_aload_n dX10_dies_29 rfl 4 rfl ?_
  refine mw_iconst dX10_dies_30 ki_0 ?_
  refine mw_iload_n dX10_dies_31 rfl 5 rfl ?_
  refine mw_iadd dX10_dies_32 (fun v118 ev118 => ?_)
  have cv118 : v101 = v118 := ev101.trans ev118.symm
  subst cv118
  refine mw_bipush dX10_dies_33 kb_9 ?_
  refine tw_iast dX10_dies_35 shM_4 (bd_in b102 (by decide)) ?_
  have hI119 : JM (mm_up S116 4 v101.toNatClampNeg 9) := JIM_puta hI115 n_9 b102 (by decide) (by decide +kernel)
  generalize hS120 : (mm_up S116 4 v101.toNatClampNeg 9) = S120 at hI119 ⊢
  have hF121 := fr_upA hF117 hS120 (by decide)
  refine mw_aload_n dX10_dies_36 rfl 4 rfl ?_
  refine mw_bipush dX10_dies_37 kb_7 ?_
  refine mw_iload_n dX10_dies_39 rfl 5 rfl ?_
  refine mw_iadd dX10_dies_40 (fun v122 ev122 => ?_)
  have cv122 : v105 = v122 := ev105.trans ev122.symm
  subst cv122
  refine mw_iconst dX10_dies_41 ki_0 ?_
  refine tw_iast dX10_dies_42 shM_4 (bd_in b106 (by decide)) ?_
  have hI123 : JM (mm_up S120 4 v105.toNatClampNeg 0) := JIM_puta hI119 n_0 b106 (by decide) (by decide +kernel)
  generalize hS124 : (mm_up S120 4 v105.toNatClampNeg 0) = S124 at hI123 ⊢
  have hF125 := fr_upA hF121 hS124 (by decide)
  refine mw_aload_n dX10_dies_43 rfl 4 rfl ?_
  refine mw_bipush dX10_dies_44 kb_29 ?_
  refine mw_dup2 dX10_dies_46 rfl rfl ?_
  refine tw_iald dX10_dies_47 shM_4 (bd_in n_29 (by decide)) (fun v126 ev126 => ?_)
  rw [cl_29] at ev126
  refine mw_iconst dX10_dies_48 ki_1 ?_
  refine mw_iadd dX10_dies_49 (fun v127 ev127 => ?_)
  refine tw_iast dX10_dies_50 shM_4 (bd_in n_29 (by decide)) ?_
  rw [cl_29]
  have hI128 : JM (mm_up S124 4 29 v127) := JIM_put hI123 (bd_all v127) (by decide +kernel)
  generalize hS129 : (mm_up S124 4 29 v127) = S129 at hI128 ⊢
  have hF130 := fr_upA hF125 hS129 (by decide)
  refine mw_iload_n dX10_dies_51 rfl 2 rfl ?_
  refine mw_bipush dX10_dies_52 kb_9 ?_
  refine mw_icmp_eq (tgt := 122) dX10_dies_54 (by decide) (fun q131 => ?_) (fun q131 => ?_)
  · skip
    have b132 : mm_b (9) (9) v103 := bd_eq_l q131 b104 n_9 (by decide)
    refine mw_iconst dX10_dies_122 ki_0 ?_
    refine mw_istore (ls' := [(6, .int 0), (5, .int (-1)), (4, .int v107), (3, .int v103), (0, .ref 0), (1, .ref 4), (2, .int x2)]) dX10_dies_123 (by decide) rfl ?_
    have cut125 : ∀ (N125 : Nat) (S133 : mm_S) (y136 y138 y140 : Int32), ((8 : Int) - y140.toInt).toNat < N125 → JM S133 → fr [4] [] true true S S133 → mm_b (-2147483648) (2147483647) y136 → mm_b (-1) (6) y138 → mm_b (0) (7) y140 → mw g RX10 cX10_dies 8 (some .int) false (mm_rm 2) (qi shM (fun S1 v => JM S1 ∧ fr [4] [] true true S S1 ∧ mm_b (-1) (6) v ∧ (True))) 0 0 (mm_enc shM S133) 125 [(0, .ref 0), (1, .ref 4), (4, .int y136), (5, .int y138), (6, .int y140)] [] := by
      intro N125
      induction N125 with
      | zero =>
        intro S133 y136 y138 y140 hm142 hI134 hF135 b137 b139 b141
        exact absurd hm142 (Nat.not_lt_zero _)
      | succ N125 ih125 =>
        intro S133 y136 y138 y140 hm142 hI134 hF135 b137 b139 b141
        refine mw_iload dX10_dies_125 4 rfl ?_
        refine mw_bipush dX10_dies_127 kb_7 ?_
        refine mw_icmp_ge (tgt := 169) dX10_dies_129 (by decide) (fun q143 => ?_) (fun q143 => ?_)
        · skip
          have b144 : mm_b (7) (7) y140 := bd_le_r q143 n_7 b141 (by decide)
          refine mw_iload dX10_dies_169 3 rfl ?_
          exact mw_iret rfl dX10_dies_171 rfl rfl ⟨S133, _, rfl, rfl, hI134, hF135, b139, trivial⟩
        · skip
          have b145 : mm_b (0) (6) y140 := bd_lt_l (bd_nle q143) b141 n_7 (by decide)
          refine mw_aload_n dX10_dies_132 rfl 0 rfl ?_
          refine mw_aload_n dX10_dies_133 rfl 1 rfl ?_
          refine tc_Vi (as := [.ref 4]) (st := []) dX10_dies_134 rfl shM_0 rfl rfl mX10_159 t_X10_leastMute rfl (Nat.le_of_ble_eq_true rfl) (by decide) (by decide) (c_X10_leastMute4 (g := g) S133 hI134) (fun S146 v148 h147 => ?_)
          obtain ⟨rfl, b149, x150⟩ := h147
          refine mw_istore (ls' := [(7, .int v148), (0, .ref 0), (1, .ref 4), (4, .int y136), (5, .int y138), (6, .int y140)]) dX10_dies_137 (by decide) rfl ?_
          refine mw_iload dX10_dies_139 3 rfl ?_
          refine mw_iload dX10_dies_141 5 rfl ?_
          refine tc_Si (as := [.int y136, .int y140]) (st := []) dX10_dies_143 rfl mX10_134 t_X10_isIn rfl (Nat.le_of_ble_eq_true rfl) (by decide) (by decide) (c_X10_isIn (g := g) S133 hI134 y136 y140) (fun S151 v153 h152 => ?_)
          obtain ⟨rfl, b154, x155⟩ := h152
          refine mw_if_eq (tgt := 163) dX10_dies_146 (by decide) (fun q156 => ?_) (fun q156 => ?_)
          · skip
            have b157 : mm_b (0) (0) v153 := bd_eq_l q156 b154 n_0 (by decide)
            refine mw_iinc (ls' := fun v => [(6, .int v), (7, .int v148), (0, .ref 0), (1, .ref 4), (4, .int y136), (5, .int y138)]) dX10_dies_163 5 rfl (by decide) (fun _ => rfl) (fun v158 ev158 => ?_)
            have b159 : mm_b (1) (7) v158 := bd_inc ev158 b145 (by decide)
            refine mw_goto (tgt := 125) dX10_dies_166 (by decide) ?_
            refine mw_ls [2, 3, 4, 5, 0] rfl ?_
            exact ih125 S133 y136 y138 v158 (ms_inc ev158 b145 (by decide) hm142) hI134 hF135 b137 b139 (bd_w b159 (by decide))
          · skip
            have b160 : mm_b (1) (1) v153 := bd_ne_l q156 b154 n_0 (by decide)
            refine mw_iload dX10_dies_149 0 rfl ?_
            refine mw_iconst dX10_dies_151 ki_m1 ?_
            refine mw_icmp_eq (tgt := 163) dX10_dies_152 (by decide) (fun q161 => ?_) (fun q161 => ?_)
            · skip
              have b162 : mm_b (-1) (-1) v148 := bd_eq_l q161 b149 n_m1 (by decide)
              refine mw_iinc (ls' := fun v => [(6, .int v), (7, .int v148), (0, .ref 0), (1, .ref 4), (4, .int y136), (5, .int y138)]) dX10_dies_163 5 rfl (by decide) (fun _ => rfl) (fun v163 ev163 => ?_)
              have b164 : mm_b (1) (7) v163 := bd_inc ev163 b145 (by decide)
              refine mw_goto (tgt := 125) dX10_dies_166 (by decide) ?_
              refine mw_ls [2, 3, 4, 5, 0] rfl ?_
              exact ih125 S133 y136 y138 v163 (ms_inc ev163 b145 (by decide) hm142) hI134 hF135 b137 b139 (bd_w b164 (by decide))
            · skip
              have b165 : mm_b (0) (6) v148 := bd_ne_l q161 b149 n_m1 (by decide)
              refine mw_aload_n dX10_dies_155 rfl 2 rfl ?_
              refine mw_iconst dX10_dies_156 ki_0 ?_
              refine mw_iload dX10_dies_157 0 rfl ?_
              refine mw_iadd dX10_dies_159 (fun v166 ev166 => ?_)
              have b167 : mm_b (0) (6) v166 := bd_add ev166 n_0 b165 (by decide)
              refine mw_iload dX10_dies_160 5 rfl ?_
              refine tw_iast dX10_dies_162 shM_4 (bd_in b167 (by decide)) ?_
              have hI168 : JM (mm_up S133 4 v166.toNatClampNeg y140) := JIM_puta hI134 b145 b167 (by decide) (by decide +kernel)
              generalize hS169 : (mm_up S133 4 v166.toNatClampNeg y140) = S169 at hI168 ⊢
              have hF170 := fr_upA hF135 hS169 (by decide)
              refine mw_iinc (ls' := fun v => [(6, .int v), (7, .int v148), (0, .ref 0), (1, .ref 4), (4, .int y136), (5, .int y138)]) dX10_dies_163 5 rfl (by decide) (fun _ => rfl) (fun v171 ev171 => ?_)
              have b172 : mm_b (1) (7) v171 := bd_inc ev171 b145 (by decide)
              refine mw_goto (tgt := 125) dX10_dies_166 (by decide) ?_
              refine mw_ls [2, 3, 4, 5, 0] rfl ?_
              exact ih125 S169 y136 y138 v171 (ms_inc ev171 b145 (by decide) hm142) hI168 hF170 b137 b139 (bd_w b172 (by decide))
    refine mw_ls [4, 5, 2, 1, 0] rfl ?_
    exact cut125 _ S129 v107 (-1 : Int32) (0 : Int32) (Nat.lt_succ_self _) hI128 hF130 (bd_all v107) (bd_w n_m1 (by decide)) (bd_w n_0 (by decide))
  · skip
    have b173 : mm_b (0) (8) v103 := bd_ne_l q131 b104 n_9 (by decide)
    refine mw_aload_n dX10_dies_57 rfl 4 rfl ?_
    refine mw_aload_n dX10_dies_58 rfl 4 rfl ?_
    refine mw_bipush dX10_dies_59 kb_14 ?_
    refine mw_iload_n dX10_dies_61 rfl 5 rfl ?_
    refine mw_iadd dX10_dies_62 (fun v174 ev174 => ?_)
    have b175 : mm_b (14) (20) v174 := bd_add ev174 n_14 h2 (by decide)
    refine tw_iald dX10_dies_63 shM_4 (bd_in b175 (by decide)) (fun v176 ev176 => ?_)
    have b177 : mm_b (0) (9) v176 := JIM_elt hI128 ev176 b175 tbM_34 (by decide)
    refine tc_Si (as := [.ref 4, .int v176]) (st := []) dX10_dies_64 rfl mX10_155 t_X10_lives rfl (Nat.le_of_ble_eq_true rfl) (by decide) (by decide) (c_X10_lives4 (g := g) S129 hI128 v176 b177) (fun S178 v180 h179 => ?_)
    obtain ⟨rfl, b181, x182⟩ := h179
    have cut106 : ∀ (S183 : mm_S) (y186 y188 y190 : Int32), JM S183 → fr [4] [] true true S S183 → mm_b (0) (8) y186 → mm_b (-2147483648) (2147483647) y188 → mm_b (-1) (6) y190 → mw g RX10 cX10_dies 8 (some .int) false (mm_rm 2) (qi shM (fun S1 v => JM S1 ∧ fr [4] [] true true S S1 ∧ mm_b (-1) (6) v ∧ (True))) 0 0 (mm_enc shM S183) 106 [(0, .ref 0), (1, .ref 4), (3, .int y186), (4, .int y188)] [.int y190] := by
      intro S183 y186 y188 y190 hI184 hF185 b187 b189 b191
      refine mw_istore (ls' := [(5, .int y190), (0, .ref 0), (1, .ref 4), (3, .int y186), (4, .int y188)]) dX10_dies_106 (by decide) rfl ?_
      refine mw_iload dX10_dies_108 0 rfl ?_
      refine mw_iconst dX10_dies_110 ki_m1 ?_
      refine mw_icmp_eq (tgt := 122) dX10_dies_111 (by decide) (fun q192 => ?_) (fun q192 => ?_)
      · skip
        have b193 : mm_b (-1) (-1) y190 := bd_eq_l q192 b191 n_m1 (by decide)
        refine mw_iconst dX10_dies_122 ki_0 ?_
        refine mw_istore (ls' := [(6, .int 0), (5, .int y190), (0, .ref 0), (1, .ref 4), (3, .int y186), (4, .int y188)]) dX10_dies_123 (by decide) rfl ?_
        have cut125 : ∀ (N125 : Nat) (S194 : mm_S) (y197 y199 y201 : Int32), ((8 : Int) - y201.toInt).toNat < N125 → JM S194 → fr [4] [] true true S S194 → mm_b (-2147483648) (2147483647) y197 → mm_b (-1) (6) y199 → mm_b (0) (7) y201 → mw g RX10 cX10_dies 8 (some .int) false (mm_rm 2) (qi shM (fun S1 v => JM S1 ∧ fr [4] [] true true S S1 ∧ mm_b (-1) (6) v ∧ (True))) 0 0 (mm_enc shM S194) 125 [(0, .ref 0), (1, .ref 4), (4, .int y197), (5, .int y199), (6, .int y201)] [] := by
          intro N125
          induction N125 with
          | zero =>
            intro S194 y197 y199 y201 hm203 hI195 hF196 b198 b200 b202
            exact absurd hm203 (Nat.not_lt_zero _)
          | succ N125 ih125 =>
            intro S194 y197 y199 y201 hm203 hI195 hF196 b198 b200 b202
            refine mw_iload dX10_dies_125 4 rfl ?_
            refine mw_bipush dX10_dies_127 kb_7 ?_
            refine mw_icmp_ge (tgt := 169) dX10_dies_129 (by decide) (fun q204 => ?_) (fun q204 => ?_)
            · skip
              have b205 : mm_b (7) (7) y201 := bd_le_r q204 n_7 b202 (by decide)
              refine mw_iload dX10_dies_169 3 rfl ?_
              exact mw_iret rfl dX10_dies_171 rfl rfl ⟨S194, _, rfl, rfl, hI195, hF196, b200, trivial⟩
            · skip
              have b206 : mm_b (0) (6) y201 := bd_lt_l (bd_nle q204) b202 n_7 (by decide)
              refine mw_aload_n dX10_dies_132 rfl 0 rfl ?_
              refine mw_aload_n dX10_dies_133 rfl 1 rfl ?_
              refine tc_Vi (as := [.ref 4]) (st := []) dX10_dies_134 rfl shM_0 rfl rfl mX10_159 t_X10_leastMute rfl (Nat.le_of_ble_eq_true rfl) (by decide) (by decide) (c_X10_leastMute4 (g := g) S194 hI195) (fun S207 v209 h208 => ?_)
              obtain ⟨rfl, b210, x211⟩ := h208
              refine mw_istore (ls' := [(7, .int v209), (0, .ref 0), (1, .ref 4), (4, .int y197), (5, .int y199), (6, .int y201)]) dX10_dies_137 (by decide) rfl ?_
              refine mw_iload dX10_dies_139 3 rfl ?_
              refine mw_iload dX10_dies_141 5 rfl ?_
              refine tc_Si (as := [.int y197, .int y201]) (st := []) dX10_dies_143 rfl mX10_134 t_X10_isIn rfl (Nat.le_of_ble_eq_true rfl) (by decide) (by decide) (c_X10_isIn (g := g) S194 hI195 y197 y201) (fun S212 v214 h213 => ?_)
              obtain ⟨rfl, b215, x216⟩ := h213
              refine mw_if_eq (tgt := 163) dX10_dies_146 (by decide) (fun q217 => ?_) (fun q217 => ?_)
              · skip
                have b218 : mm_b (0) (0) v214 := bd_eq_l q217 b215 n_0 (by decide)
                refine mw_iinc (ls' := fun v => [(6, .int v), (7, .int v209), (0, .ref 0), (1, .ref 4), (4, .int y197), (5, .int y199)]) dX10_dies_163 5 rfl (by decide) (fun _ => rfl) (fun v219 ev219 => ?_)
                have b220 : mm_b (1) (7) v219 := bd_inc ev219 b206 (by decide)
                refine mw_goto (tgt := 125) dX10_dies_166 (by decide) ?_
                refine mw_ls [2, 3, 4, 5, 0] rfl ?_
                exact ih125 S194 y197 y199 v219 (ms_inc ev219 b206 (by decide) hm203) hI195 hF196 b198 b200 (bd_w b220 (by decide))
              · skip
                have b221 : mm_b (1) (1) v214 := bd_ne_l q217 b215 n_0 (by decide)
                refine mw_iload dX10_dies_149 0 rfl ?_
                refine mw_iconst dX10_dies_151 ki_m1 ?_
                refine mw_icmp_eq (tgt := 163) dX10_dies_152 (by decide) (fun q222 => ?_) (fun q222 => ?_)
                · skip
                  have b223 : mm_b (-1) (-1) v209 := bd_eq_l q222 b210 n_m1 (by decide)
                  refine mw_iinc (ls' := fun v => [(6, .int v), (7, .int v209), (0, .ref 0), (1, .ref 4), (4, .int y197), (5, .int y199)]) dX10_dies_163 5 rfl (by decide) (fun _ => rfl) (fun v224 ev224 => ?_)
                  have b225 : mm_b (1) (7) v224 := bd_inc ev224 b206 (by decide)
                  refine mw_goto (tgt := 125) dX10_dies_166 (by decide) ?_
                  refine mw_ls [2, 3, 4, 5, 0] rfl ?_
                  exact ih125 S194 y197 y199 v224 (ms_inc ev224 b206 (by decide) hm203) hI195 hF196 b198 b200 (bd_w b225 (by decide))
                · skip
                  have b226 : mm_b (0) (6) v209 := bd_ne_l q222 b210 n_m1 (by decide)
                  refine mw_aload_n dX10_dies_155 rfl 2 rfl ?_
                  refine mw_iconst dX10_dies_156 ki_0 ?_
                  refine mw_iload dX10_dies_157 0 rfl ?_
                  refine mw_iadd dX10_dies_159 (fun v227 ev227 => ?_)
                  have b228 : mm_b (0) (6) v227 := bd_add ev227 n_0 b226 (by decide)
                  refine mw_iload dX10_dies_160 5 rfl ?_
                  refine tw_iast dX10_dies_162 shM_4 (bd_in b228 (by decide)) ?_
                  have hI229 : JM (mm_up S194 4 v227.toNatClampNeg y201) := JIM_puta hI195 b206 b228 (by decide) (by decide +kernel)
                  generalize hS230 : (mm_up S194 4 v227.toNatClampNeg y201) = S230 at hI229 ⊢
                  have hF231 := fr_upA hF196 hS230 (by decide)
                  refine mw_iinc (ls' := fun v => [(6, .int v), (7, .int v209), (0, .ref 0), (1, .ref 4), (4, .int y197), (5, .int y199)]) dX10_dies_163 5 rfl (by decide) (fun _ => rfl) (fun v232 ev232 => ?_)
                  have b233 : mm_b (1) (7) v232 := bd_inc ev232 b206 (by decide)
                  refine mw_goto (tgt := 125) dX10_dies_166 (by decide) ?_
                  refine mw_ls [2, 3, 4, 5, 0] rfl ?_
                  exact ih125 S230 y197 y199 v232 (ms_inc ev232 b206 (by decide) hm203) hI229 hF231 b198 b200 (bd_w b233 (by decide))
        refine mw_ls [2, 3, 5, 1, 0] rfl ?_
        exact cut125 _ S183 y188 y190 (0 : Int32) (Nat.lt_succ_self _) hI184 hF185 b189 (bd_w b193 (by decide)) (bd_w n_0 (by decide))
      · skip
        have b234 : mm_b (0) (6) y190 := bd_ne_l q192 b191 n_m1 (by decide)
        refine mw_aload_n dX10_dies_114 rfl 1 rfl ?_
        refine mw_aload_n dX10_dies_115 rfl 2 rfl ?_
        refine mw_iload dX10_dies_116 0 rfl ?_
        refine mw_iload_n dX10_dies_118 rfl 3 rfl ?_
        refine tc_Vv (as := [.ref 4, .int y190, .int y186]) (st := []) dX10_dies_119 rfl shM_0 rfl rfl mX10_163 t_X10_gets rfl (Nat.le_of_ble_eq_true rfl) (by decide) (by decide) (c_X10_gets4 (g := g) S183 hI184 y190 b234 y186 (bd_w b187 (by decide))) (fun S235 h236 => ?_)
        obtain ⟨hI238, hf239, x237⟩ := h236
        have hF240 := fr_tr hF185 hf239 (by decide) (by decide) (by decide) (by decide)
        refine mw_iconst dX10_dies_122 ki_0 ?_
        refine mw_istore (ls' := [(6, .int 0), (5, .int y190), (0, .ref 0), (1, .ref 4), (3, .int y186), (4, .int y188)]) dX10_dies_123 (by decide) rfl ?_
        have cut125 : ∀ (N125 : Nat) (S241 : mm_S) (y244 y246 y248 : Int32), ((8 : Int) - y248.toInt).toNat < N125 → JM S241 → fr [4] [] true true S S241 → mm_b (-2147483648) (2147483647) y244 → mm_b (-1) (6) y246 → mm_b (0) (7) y248 → mw g RX10 cX10_dies 8 (some .int) false (mm_rm 2) (qi shM (fun S1 v => JM S1 ∧ fr [4] [] true true S S1 ∧ mm_b (-1) (6) v ∧ (True))) 0 0 (mm_enc shM S241) 125 [(0, .ref 0), (1, .ref 4), (4, .int y244), (5, .int y246), (6, .int y248)] [] := by
          intro N125
          induction N125 with
          | zero =>
            intro S241 y244 y246 y248 hm250 hI242 hF243 b245 b247 b249
            exact absurd hm250 (Nat.not_lt_zero _)
          | succ N125 ih125 =>
            intro S241 y244 y246 y248 hm250 hI242 hF243 b245 b247 b249
            refine mw_iload dX10_dies_125 4 rfl ?_
            refine mw_bipush dX10_dies_127 kb_7 ?_
            refine mw_icmp_ge (tgt := 169) dX10_dies_129 (by decide) (fun q251 => ?_) (fun q251 => ?_)
            · skip
              have b252 : mm_b (7) (7) y248 := bd_le_r q251 n_7 b249 (by decide)
              refine mw_iload dX10_dies_169 3 rfl ?_
              exact mw_iret rfl dX10_dies_171 rfl rfl ⟨S241, _, rfl, rfl, hI242, hF243, b247, trivial⟩
            · skip
              have b253 : mm_b (0) (6) y248 := bd_lt_l (bd_nle q251) b249 n_7 (by decide)
              refine mw_aload_n dX10_dies_132 rfl 0 rfl ?_
              refine mw_aload_n dX10_dies_133 rfl 1 rfl ?_
              refine tc_Vi (as := [.ref 4]) (st := []) dX10_dies_134 rfl shM_0 rfl rfl mX10_159 t_X10_leastMute rfl (Nat.le_of_ble_eq_true rfl) (by decide) (by decide) (c_X10_leastMute4 (g := g) S241 hI242) (fun S254 v256 h255 => ?_)
              obtain ⟨rfl, b257, x258⟩ := h255
              refine mw_istore (ls' := [(7, .int v256), (0, .ref 0), (1, .ref 4), (4, .int y244), (5, .int y246), (6, .int y248)]) dX10_dies_137 (by decide) rfl ?_
              refine mw_iload dX10_dies_139 3 rfl ?_
              refine mw_iload dX10_dies_141 5 rfl ?_
              refine tc_Si (as := [.int y244, .int y248]) (st := []) dX10_dies_143 rfl mX10_134 t_X10_isIn rfl (Nat.le_of_ble_eq_true rfl) (by decide) (by decide) (c_X10_isIn (g := g) S241 hI242 y244 y248) (fun S259 v261 h260 => ?_)
              obtain ⟨rfl, b262, x263⟩ := h260
              refine mw_if_eq (tgt := 163) dX10_dies_146 (by decide) (fun q264 => ?_) (fun q264 => ?_)
              · skip
                have b265 : mm_b (0) (0) v261 := bd_eq_l q264 b262 n_0 (by decide)
                refine mw_iinc (ls' := fun v => [(6, .int v), (7, .int v256), (0, .ref 0), (1, .ref 4), (4, .int y244), (5, .int y246)]) dX10_dies_163 5 rfl (by decide) (fun _ => rfl) (fun v266 ev266 => ?_)
                have b267 : mm_b (1) (7) v266 := bd_inc ev266 b253 (by decide)
                refine mw_goto (tgt := 125) dX10_dies_166 (by decide) ?_
                refine mw_ls [2, 3, 4, 5, 0] rfl ?_
                exact ih125 S241 y244 y246 v266 (ms_inc ev266 b253 (by decide) hm250) hI242 hF243 b245 b247 (bd_w b267 (by decide))
              · skip
                have b268 : mm_b (1) (1) v261 := bd_ne_l q264 b262 n_0 (by decide)
                refine mw_iload dX10_dies_149 0 rfl ?_
                refine mw_iconst dX10_dies_151 ki_m1 ?_
                refine mw_icmp_eq (tgt := 163) dX10_dies_152 (by decide) (fun q269 => ?_) (fun q269 => ?_)
                · skip
                  have b270 : mm_b (-1) (-1) v256 := bd_eq_l q269 b257 n_m1 (by decide)
                  refine mw_iinc (ls' := fun v => [(6, .int v), (7, .int v256), (0, .ref 0), (1, .ref 4), (4, .int y244), (5, .int y246)]) dX10_dies_163 5 rfl (by decide) (fun _ => rfl) (fun v271 ev271 => ?_)
                  have b272 : mm_b (1) (7) v271 := bd_inc ev271 b253 (by decide)
                  refine mw_goto (tgt := 125) dX10_dies_166 (by decide) ?_
                  refine mw_ls [2, 3, 4, 5, 0] rfl ?_
                  exact ih125 S241 y244 y246 v271 (ms_inc ev271 b253 (by decide) hm250) hI242 hF243 b245 b247 (bd_w b272 (by decide))
                · skip
                  have b273 : mm_b (0) (6) v256 := bd_ne_l q269 b257 n_m1 (by decide)
                  refine mw_aload_n dX10_dies_155 rfl 2 rfl ?_
                  refine mw_iconst dX10_dies_156 ki_0 ?_
                  refine mw_iload dX10_dies_157 0 rfl ?_
                  refine mw_iadd dX10_dies_159 (fun v274 ev274 => ?_)
                  have b275 : mm_b (0) (6) v274 := bd_add ev274 n_0 b273 (by decide)
                  refine mw_iload dX10_dies_160 5 rfl ?_
                  refine tw_iast dX10_dies_162 shM_4 (bd_in b275 (by decide)) ?_
                  have hI276 : JM (mm_up S241 4 v274.toNatClampNeg y248) := JIM_puta hI242 b253 b275 (by decide) (by decide +kernel)
                  generalize hS277 : (mm_up S241 4 v274.toNatClampNeg y248) = S277 at hI276 ⊢
                  have hF278 := fr_upA hF243 hS277 (by decide)
                  refine mw_iinc (ls' := fun v => [(6, .int v), (7, .int v256), (0, .ref 0), (1, .ref 4), (4, .int y244), (5, .int y246)]) dX10_dies_163 5 rfl (by decide) (fun _ => rfl) (fun v279 ev279 => ?_)
                  have b280 : mm_b (1) (7) v279 := bd_inc ev279 b253 (by decide)
                  refine mw_goto (tgt := 125) dX10_dies_166 (by decide) ?_
                  refine mw_ls [2, 3, 4, 5, 0] rfl ?_
                  exact ih125 S277 y244 y246 v279 (ms_inc ev279 b253 (by decide) hm250) hI276 hF278 b245 b247 (bd_w b280 (by decide))
        refine mw_ls [2, 3, 5, 1, 0] rfl ?_
        exact cut125 _ S235 y188 y190 (0 : Int32) (Nat.lt_succ_self _) hI238 hF240 b189 (bd_w b234 (by decide)) (bd_w n_0 (by decide))
    refine mw_if_eq (tgt := 79) dX10_dies_67 (by decide) (fun q281 => ?_) (fun q281 => ?_)
    · skip
      have b282 : mm_b (0) (0) v180 := bd_eq_l q281 b181 n_0 (by decide)
      refine mw_aload_n dX10_dies_79 rfl 4 rfl ?_
      refine mw_aload_n dX10_dies_80 rfl 4 rfl ?_
      refine mw_bipush dX10_dies_81 kb_21 ?_
      refine mw_iload_n dX10_dies_83 rfl 5 rfl ?_
      refine mw_iadd dX10_dies_84 (fun v283 ev283 => ?_)
      have b284 : mm_b (21) (27) v283 := bd_add ev283 n_21 h2 (by decide)
      refine tw_iald dX10_dies_85 shM_4 (bd_in b284 (by decide)) (fun v285 ev285 => ?_)
      have b286 : mm_b (0) (9) v285 := JIM_elt hI128 ev285 b284 tbM_34 (by decide)
      refine tc_Si (as := [.ref 4, .int v285]) (st := []) dX10_dies_86 rfl mX10_155 t_X10_lives rfl (Nat.le_of_ble_eq_true rfl) (by decide) (by decide) (c_X10_lives4 (g := g) S129 hI128 v285 b286) (fun S287 v289 h288 => ?_)
      obtain ⟨rfl, b290, x291⟩ := h288
      refine mw_if_eq (tgt := 101) dX10_dies_89 (by decide) (fun q292 => ?_) (fun q292 => ?_)
      · skip
        have b293 : mm_b (0) (0) v289 := bd_eq_l q292 b290 n_0 (by decide)
        refine mw_aload_n dX10_dies_101 rfl 3 rfl ?_
        refine mw_aload_n dX10_dies_102 rfl 4 rfl ?_
        refine tc_Vi (as := [.ref 4]) (st := []) dX10_dies_103 rfl shM_0 rfl rfl mX10_159 t_X10_leastMute rfl (Nat.le_of_ble_eq_true rfl) (by decide) (by decide) (c_X10_leastMute4 (g := g) S129 hI128) (fun S294 v296 h295 => ?_)
        obtain ⟨rfl, b297, x298⟩ := h295
        refine mw_ls [3, 4, 2, 1] rfl ?_
        exact cut106 S129 v103 v107 v296 hI128 hF130 b173 (bd_all v107) b297
      · skip
        have b299 : mm_b (1) (1) v289 := bd_ne_l q292 b290 n_0 (by decide)
        have b300 := Or.resolve_left x291 q292
        refine mw_aload_n dX10_dies_92 rfl 4 rfl ?_
        refine mw_bipush dX10_dies_93 kb_21 ?_
        refine mw_iload_n dX10_dies_95 rfl 5 rfl ?_
        refine mw_iadd dX10_dies_96 (fun v301 ev301 => ?_)
        have cv301 : v283 = v301 := ev283.trans ev301.symm
        subst cv301
        refine tw_iald dX10_dies_97 shM_4 (bd_in b284 (by decide)) (fun v302 ev302 => ?_)
        have cv302 : v285 = v302 := ev285.trans ev302.symm
        subst cv302
        refine mw_goto (tgt := 106) dX10_dies_98 (by decide) ?_
        refine mw_ls [3, 4, 2, 1] rfl ?_
        exact cut106 S129 v103 v107 v285 hI128 hF130 b173 (bd_all v107) (bd_w b300 (by decide))
    · skip
      have b303 : mm_b (1) (1) v180 := bd_ne_l q281 b181 n_0 (by decide)
      have b304 := Or.resolve_left x182 q281
      refine mw_aload_n dX10_dies_70 rfl 4 rfl ?_
      refine mw_bipush dX10_dies_71 kb_14 ?_
      refine mw_iload_n dX10_dies_73 rfl 5 rfl ?_
      refine mw_iadd dX10_dies_74 (fun v305 ev305 => ?_)
      have cv305 : v174 = v305 := ev174.trans ev305.symm
      subst cv305
      refine tw_iald dX10_dies_75 shM_4 (bd_in b175 (by decide)) (fun v306 ev306 => ?_)
      have cv306 : v176 = v306 := ev176.trans ev306.symm
      subst cv306
      refine mw_goto (tgt := 106) dX10_dies_76 (by decide) ?_
      refine mw_ls [3, 4, 2, 1] rfl ?_
      exact cut106 S129 v103 v107 v176 hI128 hF130 b173 (bd_all v107) (bd_w b304 (by decide))
set_option maxRecDepth 100000 in
set_option maxHeartbeats 4000000 in
theorem c_X10_remember {g : mm_G} (S : mm_S) (hI : JM S)  : mc g yX10_remember cX10_remember 2 none (mm_rm 1) [.ref 0] (mm_enc shM S) (qv shM (fun S1 => JM S1 ∧ fr [5] [5] true true S S1 ∧ True)) := by
  refine mc_of2 (own := RX10) (ini := false) (ls := [(0, .ref 0)]) (by decide) (Nat.le_of_ble_eq_true rfl) rfl (by decide) rfl ?_
  have hF : fr [5] [5] true true S S := fr_rf
  refine mw_aload_n dX10_remember_0 rfl 0 rfl ?_
  refine tw_geti (j := 5) dX10_remember_1 shM_0 rfl rfl (by decide) fX10_70 (fun v101 ev101 => ?_)
  have b102 : mm_b (0) (20) v101 := JIM_fld hI ev101 tbM_1 (by decide)
  refine mw_bipush dX10_remember_4 kb_20 ?_
  refine mw_icmp_ne (tgt := 49) dX10_remember_6 (by decide) (fun q103 => ?_) (fun q103 => ?_)
  · skip
    have b104 : mm_b (0) (19) v101 := bd_ne_l q103 b102 n_20 (by decide)
    refine mw_aload_n dX10_remember_49 rfl 0 rfl ?_
    refine tw_getr (j := 2) dX10_remember_50 shM_0 rfl rfl (by decide) fX10_16 ?_
    refine mw_iconst dX10_remember_53 ki_0 ?_
    refine mw_aload_n dX10_remember_54 rfl 0 rfl ?_
    refine tw_getr (j := 4) dX10_remember_55 shM_0 rfl rfl (by decide) fX10_22 ?_
    refine mw_bipush dX10_remember_58 kb_30 ?_
    refine mw_aload_n dX10_remember_60 rfl 0 rfl ?_
    refine tw_geti (j := 5) dX10_remember_61 shM_0 rfl rfl (by decide) fX10_70 (fun v105 ev105 => ?_)
    have cv105 : v101 = v105 := ev101.trans ev105.symm
    subst cv105
    refine mw_imul dX10_remember_64 (fun v106 ev106 => ?_)
    have b107 : mm_b (0) (570) v106 := bd_mul ev106 n_30 b104 (by decide)
    refine mw_bipush dX10_remember_65 kb_30 ?_
    refine tc_Sv (as := [.ref 3, .int 0, .ref 5, .int v106, .int 30]) (st := []) dX10_remember_67 rfl mX10_66 t_X10_copies rfl (Nat.le_of_ble_eq_true rfl) (by decide) (by decide) (c_X10_copies_35 (g := g) S hI (0 : Int32) n_0 v106 (30 : Int32) n_30 (cp_mul (C := 30) (M := 20) ev106 n_30 b104 (by decide))) (fun S108 h109 => ?_)
    obtain ⟨hI111, hf112, x110⟩ := h109
    have hF113 := fr_tr hF hf112 (by decide) (by decide) (by decide) (by decide)
    refine mw_aload_n dX10_remember_70 rfl 0 rfl ?_
    refine mw_dup dX10_remember_71 rfl ?_
    refine tw_geti (j := 5) dX10_remember_72 shM_0 rfl rfl (by decide) fX10_70 (fun v114 ev114 => ?_)
    have cv114 : v101 = v114 := (ev101.trans (fr_F hf112 (by decide))).trans ev114.symm
    subst cv114
    refine mw_iconst dX10_remember_75 ki_1 ?_
    refine mw_iadd dX10_remember_76 (fun v115 ev115 => ?_)
    have b116 : mm_b (1) (20) v115 := bd_add ev115 b104 n_1 (by decide)
    refine tw_puti (j := 5) dX10_remember_77 shM_0 rfl rfl (by decide) fX10_70 rfl (by decide +kernel) ?_
    have hI117 : JM (mm_up S108 0 5 v115) := JIM_put hI111 b116 (by decide +kernel)
    generalize hS118 : (mm_up S108 0 5 v115) = S118 at hI117 ⊢
    have hF119 := fr_upF hF113 hS118 (by decide)
    exact mw_vret rfl dX10_remember_80 rfl rfl ⟨S118, rfl, rfl, ⟨hI117, hF119, trivial⟩⟩
  · skip
    have b120 : mm_b (20) (20) v101 := bd_eq_l q103 b102 n_20 (by decide)
    refine mw_iconst dX10_remember_9 ki_0 ?_
    refine mw_istore_n (ls' := [(1, .int 0), (0, .ref 0)]) dX10_remember_10 rfl (by decide) rfl ?_
    have cut11 : ∀ (N11 : Nat) (S121 : mm_S) (y124 y126 : Int32), ((600 : Int) - y124.toInt).toNat < N11 → JM S121 → fr [5] [5] true true S S121 → mm_b (0) (599) y124 → mm_b (20) (20) y126 → y126 = S121.1 0 5 → mw g RX10 cX10_remember 2 none false (mm_rm 1) (qv shM (fun S1 => JM S1 ∧ fr [5] [5] true true S S1 ∧ True)) 0 0 (mm_enc shM S121) 11 [(0, .ref 0), (1, .int y124)] [] := by
      intro N11
      induction N11 with
      | zero =>
        intro S121 y124 y126 hm128 hI122 hF123 b125 b127 ey126
        exact absurd hm128 (Nat.not_lt_zero _)
      | succ N11 ih11 =>
        intro S121 y124 y126 hm128 hI122 hF123 b125 b127 ey126
        refine mw_iload_n dX10_remember_11 rfl 1 rfl ?_
        refine mw_sipush dX10_remember_12 ks_570 ?_
        refine mw_icmp_ge (tgt := 39) dX10_remember_15 (by decide) (fun q129 => ?_) (fun q129 => ?_)
        · skip
          have b130 : mm_b (570) (599) y124 := bd_le_r q129 n_570 b125 (by decide)
          refine mw_aload_n dX10_remember_39 rfl 0 rfl ?_
          refine mw_dup dX10_remember_40 rfl ?_
          refine tw_geti (j := 5) dX10_remember_41 shM_0 rfl rfl (by decide) fX10_70 (fun v131 ev131 => ?_)
          have cv131 : y126 = v131 := ey126.trans ev131.symm
          subst cv131
          refine mw_iconst dX10_remember_44 ki_1 ?_
          refine mw_isub dX10_remember_45 (fun v132 ev132 => ?_)
          have b133 : mm_b (19) (19) v132 := bd_sub ev132 b127 n_1 (by decide)
          refine tw_puti (j := 5) dX10_remember_46 shM_0 rfl rfl (by decide) fX10_70 rfl (by decide +kernel) ?_
          have hI134 : JM (mm_up S121 0 5 v132) := JIM_put hI122 b133 (by decide +kernel)
          generalize hS135 : (mm_up S121 0 5 v132) = S135 at hI134 ⊢
          have hF136 := fr_upF hF123 hS135 (by decide)
          refine mw_aload_n dX10_remember_49 rfl 0 rfl ?_
          refine tw_getr (j := 2) dX10_remember_50 shM_0 rfl rfl (by decide) fX10_16 ?_
          refine mw_iconst dX10_remember_53 ki_0 ?_
          refine mw_aload_n dX10_remember_54 rfl 0 rfl ?_
          refine tw_getr (j := 4) dX10_remember_55 shM_0 rfl rfl (by decide) fX10_22 ?_
          refine mw_bipush dX10_remember_58 kb_30 ?_
          refine mw_aload_n dX10_remember_60 rfl 0 rfl ?_
          refine tw_geti (j := 5) dX10_remember_61 shM_0 rfl rfl (by decide) fX10_70 (fun v137 ev137 => ?_)
          have cv137 : v132 = v137 := (up_eq hS135).trans ev137.symm
          subst cv137
          refine mw_imul dX10_remember_64 (fun v138 ev138 => ?_)
          have b139 : mm_b (570) (570) v138 := bd_mul ev138 n_30 b133 (by decide)
          refine mw_bipush dX10_remember_65 kb_30 ?_
          refine tc_Sv (as := [.ref 3, .int 0, .ref 5, .int v138, .int 30]) (st := []) dX10_remember_67 rfl mX10_66 t_X10_copies rfl (Nat.le_of_ble_eq_true rfl) (by decide) (by decide) (c_X10_copies_35 (g := g) S135 hI134 (0 : Int32) n_0 v138 (30 : Int32) n_30 (cp_mul (C := 30) (M := 20) ev138 n_30 b133 (by decide))) (fun S140 h141 => ?_)
          obtain ⟨hI143, hf144, x142⟩ := h141
          have hF145 := fr_tr hF136 hf144 (by decide) (by decide) (by decide) (by decide)
          refine mw_aload_n dX10_remember_70 rfl 0 rfl ?_
          refine mw_dup dX10_remember_71 rfl ?_
          refine tw_geti (j := 5) dX10_remember_72 shM_0 rfl rfl (by decide) fX10_70 (fun v146 ev146 => ?_)
          have cv146 : v132 = v146 := ((up_eq hS135).trans (fr_F hf144 (by decide))).trans ev146.symm
          subst cv146
          refine mw_iconst dX10_remember_75 ki_1 ?_
          refine mw_iadd dX10_remember_76 (fun v147 ev147 => ?_)
          have b148 : mm_b (20) (20) v147 := bd_add ev147 b133 n_1 (by decide)
          refine tw_puti (j := 5) dX10_remember_77 shM_0 rfl rfl (by decide) fX10_70 rfl (by decide +kernel) ?_
          have hI149 : JM (mm_up S140 0 5 v147) := JIM_put hI143 b148 (by decide +kernel)
          generalize hS150 : (mm_up S140 0 5 v147) = S150 at hI149 ⊢
          have hF151 := fr_upF hF145 hS150 (by decide)
          exact mw_vret rfl dX10_remember_80 rfl rfl ⟨S150, rfl, rfl, ⟨hI149, hF151, trivial⟩⟩
        · skip
          have b152 : mm_b (0) (569) y124 := bd_lt_l (bd_nle q129) b125 n_570 (by decide)
          refine mw_aload_n dX10_remember_18 rfl 0 rfl ?_
          refine tw_getr (j := 4) dX10_remember_19 shM_0 rfl rfl (by decide) fX10_22 ?_
          refine mw_iload_n dX10_remember_22 rfl 1 rfl ?_
          refine mw_aload_n dX10_remember_23 rfl 0 rfl ?_
          refine tw_getr (j := 4) dX10_remember_24 shM_0 rfl rfl (by decide) fX10_22 ?_
          refine mw_iload_n dX10_remember_27 rfl 1 rfl ?_
          refine mw_bipush dX10_remember_28 kb_30 ?_
          refine mw_iadd dX10_remember_30 (fun v153 ev153 => ?_)
          have b154 : mm_b (30) (599) v153 := bd_add ev153 b152 n_30 (by decide)
          refine tw_iald dX10_remember_31 shM_5 (bd_in b154 (by decide)) (fun v155 ev155 => ?_)
          refine tw_iast dX10_remember_32 shM_5 (bd_in b152 (by decide)) ?_
          have hI156 : JM (mm_up S121 5 y124.toNatClampNeg v155) := JM_shift hI122 b152 ev153 ev155
          generalize hS157 : (mm_up S121 5 y124.toNatClampNeg v155) = S157 at hI156 ⊢
          have hF158 := fr_upA hF123 hS157 (by decide)
          refine mw_iinc (ls' := fun v => [(1, .int v), (0, .ref 0)]) dX10_remember_33 1 rfl (by decide) (fun _ => rfl) (fun v159 ev159 => ?_)
          have b160 : mm_b (1) (570) v159 := bd_inc ev159 b152 (by decide)
          refine mw_goto (tgt := 11) dX10_remember_36 (by decide) ?_
          refine mw_ls [1, 0] rfl ?_
          exact ih11 S157 v159 y126 (ms_inc ev159 b152 (by decide) hm128) hI156 hF158 (bd_w b160 (by decide)) b127 (ey126.trans (up_neA hS157 (by decide)))
    refine mw_ls [1, 0] rfl ?_
    exact cut11 _ S (0 : Int32) v101 (Nat.lt_succ_self _) hI hF (bd_w n_0 (by decide)) b120 ev101
set_option maxRecDepth 100000 in
set_option maxHeartbeats 4000000 in
theorem c_X10_die {g : mm_G} (S : mm_S) (hI : JM S) (x1 : Int32) : mc g yX10_die cX10_die 2 (some .int) (mm_rm 3) [.ref 0, .int x1] (mm_enc shM S) (qi shM (fun S1 v => JM S1 ∧ fr [3, 5] [5] true true S S1 ∧ mm_b (-1000000003) (6) v ∧ (True))) := by
  refine mc_of2 (own := RX10) (ini := false) (ls := [(0, .ref 0), (1, .int x1)]) (by decide) (Nat.le_of_ble_eq_true rfl) rfl (by decide) rfl ?_
  have hF : fr [3, 5] [5] true true S S := fr_rf
  refine mw_aload_n dX10_die_0 rfl 0 rfl ?_
  refine mw_iload_n dX10_die_1 rfl 1 rfl ?_
  refine tc_Vi (as := [.int x1]) (st := []) dX10_die_2 rfl shM_0 rfl rfl mX10_179 t_X10_isPerson rfl (Nat.le_of_ble_eq_true rfl) (by decide) (by decide) (c_X10_isPerson (g := g) S hI x1) (fun S101 v103 h102 => ?_)
  obtain ⟨rfl, b104, x105⟩ := h102
  refine mw_if_ne (tgt := 11) dX10_die_5 (by decide) (fun q106 => ?_) (fun q106 => ?_)
  · skip
    have b107 : mm_b (1) (1) v103 := bd_ne_l q106 b104 n_0 (by decide)
    have b108 := Or.resolve_left x105 q106
    refine mw_aload_n dX10_die_11 rfl 0 rfl ?_
    refine mw_iload_n dX10_die_12 rfl 1 rfl ?_
    refine tc_Vi (as := [.int x1]) (st := []) dX10_die_13 rfl shM_0 rfl rfl mX10_167 t_X10_isAlive rfl (Nat.le_of_ble_eq_true rfl) (by decide) (by decide) (c_X10_isAlive (g := g) S hI x1) (fun S109 v111 h110 => ?_)
    obtain ⟨rfl, b112, x113⟩ := h110
    refine mw_if_ne (tgt := 22) dX10_die_16 (by decide) (fun q114 => ?_) (fun q114 => ?_)
    · skip
      have b115 : mm_b (1) (1) v111 := bd_ne_l q114 b112 n_0 (by decide)
      refine mw_aload_n dX10_die_22 rfl 0 rfl ?_
      refine tc_Vv (as := []) (st := []) dX10_die_23 rfl shM_0 rfl rfl mX10_188 t_X10_remember rfl (Nat.le_of_ble_eq_true rfl) (by decide) (by decide) (c_X10_remember (g := g) S hI) (fun S116 h117 => ?_)
      obtain ⟨hI119, hf120, x118⟩ := h117
      have hF121 := fr_tr hF hf120 (by decide) (by decide) (by decide) (by decide)
      refine mw_aload_n dX10_die_26 rfl 0 rfl ?_
      refine mw_aload_n dX10_die_27 rfl 0 rfl ?_
      refine tw_getr (j := 2) dX10_die_28 shM_0 rfl rfl (by decide) fX10_16 ?_
      refine mw_iload_n dX10_die_31 rfl 1 rfl ?_
      refine tc_Vi (as := [.ref 3, .int x1]) (st := []) dX10_die_32 rfl shM_0 rfl rfl mX10_191 t_X10_dies rfl (Nat.le_of_ble_eq_true rfl) (by decide) (by decide) (c_X10_dies3 (g := g) S116 hI119 x1 b108) (fun S122 v124 h123 => ?_)
      obtain ⟨hI128, hf129, b125, x126⟩ := h123
      have hF130 := fr_tr hF121 hf129 (by decide) (by decide) (by decide) (by decide)
      exact mw_iret rfl dX10_die_35 rfl rfl ⟨S122, _, rfl, rfl, hI128, hF130, bd_w b125 (by decide), trivial⟩
    · skip
      have b131 : mm_b (0) (0) v111 := bd_eq_l q114 b112 n_0 (by decide)
      refine mw_ldc dX10_die_19 kX10_187 ?_
      exact mw_iret rfl dX10_die_21 rfl rfl ⟨S, _, rfl, rfl, hI, hF, bd_w n_m1000000003 (by decide), trivial⟩
  · skip
    have b132 : mm_b (0) (0) v103 := bd_eq_l q106 b104 n_0 (by decide)
    refine mw_ldc dX10_die_8 kX10_182 ?_
    exact mw_iret rfl dX10_die_10 rfl rfl ⟨S, _, rfl, rfl, hI, hF, bd_w n_m1000000001 (by decide), trivial⟩
set_option maxRecDepth 100000 in
set_option maxHeartbeats 4000000 in
theorem c_X10_sell {g : mm_G} (S : mm_S) (hI : JM S) (x1 : Int32) (x2 : Int32) : mc g yX10_sell cX10_sell 3 (some .int) (mm_rm 3) [.ref 0, .int x1, .int x2] (mm_enc shM S) (qi shM (fun S1 v => JM S1 ∧ fr [3, 5] [5] true true S S1 ∧ mm_b (-1000000003) (9) v ∧ (True))) := by
  refine mc_of2 (own := RX10) (ini := false) (ls := [(0, .ref 0), (1, .int x1), (2, .int x2)]) (by decide) (Nat.le_of_ble_eq_true rfl) rfl (by decide) rfl ?_
  have hF : fr [3, 5] [5] true true S S := fr_rf
  refine mw_aload_n dX10_sell_0 rfl 0 rfl ?_
  refine mw_iload_n dX10_sell_1 rfl 1 rfl ?_
  refine tc_Vi (as := [.int x1]) (st := []) dX10_sell_2 rfl shM_0 rfl rfl mX10_179 t_X10_isPerson rfl (Nat.le_of_ble_eq_true rfl) (by decide) (by decide) (c_X10_isPerson (g := g) S hI x1) (fun S101 v103 h102 => ?_)
  obtain ⟨rfl, b104, x105⟩ := h102
  refine mw_if_eq (tgt := 21) dX10_sell_5 (by decide) (fun q106 => ?_) (fun q106 => ?_)
  · skip
    have b107 : mm_b (0) (0) v103 := bd_eq_l q106 b104 n_0 (by decide)
    refine mw_ldc dX10_sell_21 kX10_182 ?_
    exact mw_iret rfl dX10_sell_23 rfl rfl ⟨S, _, rfl, rfl, hI, hF, bd_w n_m1000000001 (by decide), trivial⟩
  · skip
    have b108 : mm_b (1) (1) v103 := bd_ne_l q106 b104 n_0 (by decide)
    have b109 := Or.resolve_left x105 q106
    refine mw_aload_n dX10_sell_8 rfl 0 rfl ?_
    refine mw_iload_n dX10_sell_9 rfl 2 rfl ?_
    refine tc_Vi (as := [.int x2]) (st := []) dX10_sell_10 rfl shM_0 rfl rfl mX10_179 t_X10_isPerson rfl (Nat.le_of_ble_eq_true rfl) (by decide) (by decide) (c_X10_isPerson (g := g) S hI x2) (fun S110 v112 h111 => ?_)
    obtain ⟨rfl, b113, x114⟩ := h111
    refine mw_if_eq (tgt := 21) dX10_sell_13 (by decide) (fun q115 => ?_) (fun q115 => ?_)
    · skip
      have b116 : mm_b (0) (0) v112 := bd_eq_l q115 b113 n_0 (by decide)
      refine mw_ldc dX10_sell_21 kX10_182 ?_
      exact mw_iret rfl dX10_sell_23 rfl rfl ⟨S, _, rfl, rfl, hI, hF, bd_w n_m1000000001 (by decide), trivial⟩
    · skip
      have b117 : mm_b (1) (1) v112 := bd_ne_l q115 b113 n_0 (by decide)
      have b118 := Or.resolve_left x114 q115
      refine mw_iload_n dX10_sell_16 rfl 1 rfl ?_
      refine mw_iload_n dX10_sell_17 rfl 2 rfl ?_
      refine mw_icmp_ne (tgt := 24) dX10_sell_18 (by decide) (fun q119 => ?_) (fun q119 => ?_)
      · skip
        refine mw_aload_n dX10_sell_24 rfl 0 rfl ?_
        refine mw_iload_n dX10_sell_25 rfl 1 rfl ?_
        refine mw_iload_n dX10_sell_26 rfl 2 rfl ?_
        refine tc_Vi (as := [.int x1, .int x2]) (st := []) dX10_sell_27 rfl shM_0 rfl rfl mX10_198 t_X10_maySell rfl (Nat.le_of_ble_eq_true rfl) (by decide) (by decide) (c_X10_maySell (g := g) S hI x1 b109 x2 b118) (fun S120 v122 h121 => ?_)
        obtain ⟨rfl, b123, x124⟩ := h121
        refine mw_if_ne (tgt := 36) dX10_sell_30 (by decide) (fun q125 => ?_) (fun q125 => ?_)
        · skip
          have b126 : mm_b (1) (1) v122 := bd_ne_l q125 b123 n_0 (by decide)
          refine mw_aload_n dX10_sell_36 rfl 0 rfl ?_
          refine tc_Vv (as := []) (st := []) dX10_sell_37 rfl shM_0 rfl rfl mX10_188 t_X10_remember rfl (Nat.le_of_ble_eq_true rfl) (by decide) (by decide) (c_X10_remember (g := g) S hI) (fun S127 h128 => ?_)
          obtain ⟨hI130, hf131, x129⟩ := h128
          have hF132 := fr_tr hF hf131 (by decide) (by decide) (by decide) (by decide)
          refine mw_aload_n dX10_sell_40 rfl 0 rfl ?_
          refine mw_iload_n dX10_sell_41 rfl 1 rfl ?_
          refine mw_iload_n dX10_sell_42 rfl 2 rfl ?_
          refine tc_Vv (as := [.int x1, .int x2]) (st := []) dX10_sell_43 rfl shM_0 rfl rfl mX10_201 t_X10_sells rfl (Nat.le_of_ble_eq_true rfl) (by decide) (by decide) (c_X10_sells (g := g) S127 hI130 x1 b109 x2 b118) (fun S133 h134 => ?_)
          obtain ⟨hI136, hf137, x135⟩ := h134
          have hF138 := fr_tr hF132 hf137 (by decide) (by decide) (by decide) (by decide)
          refine mw_aload_n dX10_sell_46 rfl 0 rfl ?_
          refine tw_getr (j := 2) dX10_sell_47 shM_0 rfl rfl (by decide) fX10_16 ?_
          refine mw_iconst dX10_sell_50 ki_0 ?_
          refine mw_iload_n dX10_sell_51 rfl 1 rfl ?_
          refine mw_iadd dX10_sell_52 (fun v139 ev139 => ?_)
          have b140 : mm_b (0) (6) v139 := bd_add ev139 n_0 b109 (by decide)
          refine tw_iald dX10_sell_53 shM_3 (bd_in b140 (by decide)) (fun v141 ev141 => ?_)
          have b142 : mm_b (0) (9) v141 := JIM_elt hI136 ev141 b140 tbM_30 (by decide)
          exact mw_iret rfl dX10_sell_54 rfl rfl ⟨S133, _, rfl, rfl, hI136, hF138, bd_w b142 (by decide), trivial⟩
        · skip
          have b143 : mm_b (0) (0) v122 := bd_eq_l q125 b123 n_0 (by decide)
          refine mw_ldc dX10_sell_33 kX10_187 ?_
          exact mw_iret rfl dX10_sell_35 rfl rfl ⟨S, _, rfl, rfl, hI, hF, bd_w n_m1000000003 (by decide), trivial⟩
      · skip
        refine mw_ldc dX10_sell_21 kX10_182 ?_
        exact mw_iret rfl dX10_sell_23 rfl rfl ⟨S, _, rfl, rfl, hI, hF, bd_w n_m1000000001 (by decide), trivial⟩
set_option maxRecDepth 100000 in
set_option maxHeartbeats 4000000 in
theorem c_X10_putBy {g : mm_G} (S : mm_S) (hI : JM S) (x1 : Int32) (x2 : Int32) : mc g yX10_putBy cX10_putBy 4 (some .int) (mm_rm 2) [.ref 0, .int x1, .int x2] (mm_enc shM S) (qi shM (fun S1 v => JM S1 ∧ fr [3, 5] [5] true true S S1 ∧ mm_b (-1000000003) (9) v ∧ (True))) := by
  refine mc_of2 (own := RX10) (ini := false) (ls := [(0, .ref 0), (1, .int x1), (2, .int x2)]) (by decide) (Nat.le_of_ble_eq_true rfl) rfl (by decide) rfl ?_
  have hF : fr [3, 5] [5] true true S S := fr_rf
  refine mw_aload_n dX10_putBy_0 rfl 0 rfl ?_
  refine mw_iload_n dX10_putBy_1 rfl 1 rfl ?_
  refine tc_Vi (as := [.int x1]) (st := []) dX10_putBy_2 rfl shM_0 rfl rfl mX10_179 t_X10_isPerson rfl (Nat.le_of_ble_eq_true rfl) (by decide) (by decide) (c_X10_isPerson (g := g) S hI x1) (fun S101 v103 h102 => ?_)
  obtain ⟨rfl, b104, x105⟩ := h102
  refine mw_if_eq (tgt := 15) dX10_putBy_5 (by decide) (fun q106 => ?_) (fun q106 => ?_)
  · skip
    have b107 : mm_b (0) (0) v103 := bd_eq_l q106 b104 n_0 (by decide)
    refine mw_ldc dX10_putBy_15 kX10_182 ?_
    exact mw_iret rfl dX10_putBy_17 rfl rfl ⟨S, _, rfl, rfl, hI, hF, bd_w n_m1000000001 (by decide), trivial⟩
  · skip
    have b108 : mm_b (1) (1) v103 := bd_ne_l q106 b104 n_0 (by decide)
    have b109 := Or.resolve_left x105 q106
    refine mw_iload_n dX10_putBy_8 rfl 2 rfl ?_
    refine tc_Si (as := [.int x2]) (st := []) dX10_putBy_9 rfl mX10_205 t_X10_isVoice rfl (Nat.le_of_ble_eq_true rfl) (by decide) (by decide) (c_X10_isVoice (g := g) S hI x2) (fun S110 v112 h111 => ?_)
    obtain ⟨rfl, b113, x114⟩ := h111
    refine mw_if_ne (tgt := 18) dX10_putBy_12 (by decide) (fun q115 => ?_) (fun q115 => ?_)
    · skip
      have b116 : mm_b (1) (1) v112 := bd_ne_l q115 b113 n_0 (by decide)
      have b117 := Or.resolve_left x114 q115
      refine mw_aload_n dX10_putBy_18 rfl 0 rfl ?_
      refine mw_iload_n dX10_putBy_19 rfl 1 rfl ?_
      refine tc_Vi (as := [.int x1]) (st := []) dX10_putBy_20 rfl shM_0 rfl rfl mX10_167 t_X10_isAlive rfl (Nat.le_of_ble_eq_true rfl) (by decide) (by decide) (c_X10_isAlive (g := g) S hI x1) (fun S118 v120 h119 => ?_)
      obtain ⟨rfl, b121, x122⟩ := h119
      refine mw_if_eq (tgt := 42) dX10_putBy_23 (by decide) (fun q123 => ?_) (fun q123 => ?_)
      · skip
        have b124 : mm_b (0) (0) v120 := bd_eq_l q123 b121 n_0 (by decide)
        refine mw_ldc dX10_putBy_42 kX10_187 ?_
        exact mw_iret rfl dX10_putBy_44 rfl rfl ⟨S, _, rfl, rfl, hI, hF, bd_w n_m1000000003 (by decide), trivial⟩
      · skip
        have b125 : mm_b (1) (1) v120 := bd_ne_l q123 b121 n_0 (by decide)
        refine mw_aload_n dX10_putBy_26 rfl 0 rfl ?_
        refine tw_getr (j := 2) dX10_putBy_27 shM_0 rfl rfl (by decide) fX10_16 ?_
        refine mw_bipush dX10_putBy_30 kb_7 ?_
        refine mw_iload_n dX10_putBy_32 rfl 1 rfl ?_
        refine mw_iadd dX10_putBy_33 (fun v126 ev126 => ?_)
        have b127 : mm_b (7) (13) v126 := bd_add ev126 n_7 b109 (by decide)
        refine tw_iald dX10_putBy_34 shM_3 (bd_in b127 (by decide)) (fun v128 ev128 => ?_)
        refine mw_iload_n dX10_putBy_35 rfl 2 rfl ?_
        refine tc_Si (as := [.int v128, .int x2]) (st := []) dX10_putBy_36 rfl mX10_134 t_X10_isIn rfl (Nat.le_of_ble_eq_true rfl) (by decide) (by decide) (c_X10_isIn (g := g) S hI v128 x2) (fun S129 v131 h130 => ?_)
        obtain ⟨rfl, b132, x133⟩ := h130
        refine mw_if_ne (tgt := 45) dX10_putBy_39 (by decide) (fun q134 => ?_) (fun q134 => ?_)
        · skip
          have b135 : mm_b (1) (1) v131 := bd_ne_l q134 b132 n_0 (by decide)
          refine mw_aload_n dX10_putBy_45 rfl 0 rfl ?_
          refine tc_Vv (as := []) (st := []) dX10_putBy_46 rfl shM_0 rfl rfl mX10_188 t_X10_remember rfl (Nat.le_of_ble_eq_true rfl) (by decide) (by decide) (c_X10_remember (g := g) S hI) (fun S136 h137 => ?_)
          obtain ⟨hI139, hf140, x138⟩ := h137
          have hF141 := fr_tr hF hf140 (by decide) (by decide) (by decide) (by decide)
          refine mw_aload_n dX10_putBy_49 rfl 0 rfl ?_
          refine tw_getr (j := 2) dX10_putBy_50 shM_0 rfl rfl (by decide) fX10_16 ?_
          refine mw_iconst dX10_putBy_53 ki_0 ?_
          refine mw_iload_n dX10_putBy_54 rfl 1 rfl ?_
          refine mw_iadd dX10_putBy_55 (fun v142 ev142 => ?_)
          have b143 : mm_b (0) (6) v142 := bd_add ev142 n_0 b109 (by decide)
          refine tw_iald dX10_putBy_56 shM_3 (bd_in b143 (by decide)) (fun v144 ev144 => ?_)
          have b145 : mm_b (0) (9) v144 := JIM_elt hI139 ev144 b143 tbM_30 (by decide)
          refine mw_istore_n (ls' := [(3, .int v144), (0, .ref 0), (1, .int x1), (2, .int x2)]) dX10_putBy_57 rfl (by decide) rfl ?_
          refine mw_aload_n dX10_putBy_58 rfl 1 rfl ?_
          refine tw_getr (j := 2) dX10_putBy_59 shM_0 rfl rfl (by decide) fX10_16 ?_
          refine mw_bipush dX10_putBy_62 kb_7 ?_
          refine mw_iload_n dX10_putBy_64 rfl 2 rfl ?_
          refine mw_iadd dX10_putBy_65 (fun v146 ev146 => ?_)
          have cv146 : v126 = v146 := ev126.trans ev146.symm
          subst cv146
          refine mw_dup2 dX10_putBy_66 rfl rfl ?_
          refine tw_iald dX10_putBy_67 shM_3 (bd_in b127 (by decide)) (fun v147 ev147 => ?_)
          have cv147 : v128 = v147 := (ev128.trans (fr_A hf140 (by decide) (by decide))).trans ev147.symm
          subst cv147
          refine mw_iconst dX10_putBy_68 ki_1 ?_
          refine mw_iload_n dX10_putBy_69 rfl 3 rfl ?_
          refine mw_ishl dX10_putBy_70 (fun v148 ev148 => ?_)
          have b149 : mm_b (1) (64) v148 := bd_shl 6 ev148 b117 (by decide)
          refine mw_iconst dX10_putBy_71 ki_m1 ?_
          refine mw_ixor dX10_putBy_72 (fun v150 ev150 => ?_)
          refine mw_iand dX10_putBy_73 (fun v151 ev151 => ?_)
          refine tw_iast dX10_putBy_74 shM_3 (bd_in b127 (by decide)) ?_
          have hI152 : JM (mm_up S136 3 v126.toNatClampNeg v151) := JIM_puta hI139 (bd_all v151) b127 (by decide) (by decide +kernel)
          generalize hS153 : (mm_up S136 3 v126.toNatClampNeg v151) = S153 at hI152 ⊢
          have hF154 := fr_upA hF141 hS153 (by decide)
          refine mw_aload_n dX10_putBy_75 rfl 1 rfl ?_
          refine mw_aload_n dX10_putBy_76 rfl 1 rfl ?_
          refine tw_getr (j := 2) dX10_putBy_77 shM_0 rfl rfl (by decide) fX10_16 ?_
          refine mw_iload_n dX10_putBy_80 rfl 2 rfl ?_
          refine mw_iload_n dX10_putBy_81 rfl 3 rfl ?_
          refine tc_Vv (as := [.ref 3, .int x1, .int x2]) (st := []) dX10_putBy_82 rfl shM_0 rfl rfl mX10_163 t_X10_gets rfl (Nat.le_of_ble_eq_true rfl) (by decide) (by decide) (c_X10_gets3 (g := g) S153 hI152 x1 b109 x2 (bd_w b117 (by decide))) (fun S155 h156 => ?_)
          obtain ⟨hI158, hf159, x157⟩ := h156
          have hF160 := fr_tr hF154 hf159 (by decide) (by decide) (by decide) (by decide)
          refine mw_iload_n dX10_putBy_85 rfl 0 rfl ?_
          exact mw_iret rfl dX10_putBy_86 rfl rfl ⟨S155, _, rfl, rfl, hI158, hF160, bd_w b145 (by decide), trivial⟩
        · skip
          have b161 : mm_b (0) (0) v131 := bd_eq_l q134 b132 n_0 (by decide)
          refine mw_ldc dX10_putBy_42 kX10_187 ?_
          exact mw_iret rfl dX10_putBy_44 rfl rfl ⟨S, _, rfl, rfl, hI, hF, bd_w n_m1000000003 (by decide), trivial⟩
    · skip
      have b162 : mm_b (0) (0) v112 := bd_eq_l q115 b113 n_0 (by decide)
      refine mw_ldc dX10_putBy_15 kX10_182 ?_
      exact mw_iret rfl dX10_putBy_17 rfl rfl ⟨S, _, rfl, rfl, hI, hF, bd_w n_m1000000001 (by decide), trivial⟩
set_option maxRecDepth 100000 in
set_option maxHeartbeats 4000000 in
theorem c_X10_will {g : mm_G} (S : mm_S) (hI : JM S) (x1 : Int32) (x2 : Int32) (x3 : Int32) : mc g yX10_will cX10_will 5 (some .int) (mm_rm 3) [.ref 0, .int x1, .int x2, .int x3] (mm_enc shM S) (qi shM (fun S1 v => JM S1 ∧ fr [3, 5] [5] true true S S1 ∧ mm_b (-1000000003) (99) v ∧ (True))) := by
  refine mc_of2 (own := RX10) (ini := false) (ls := [(0, .ref 0), (1, .int x1), (2, .int x2), (3, .int x3)]) (by decide) (Nat.le_of_ble_eq_true rfl) rfl (by decide) rfl ?_
  have hF : fr [3, 5] [5] true true S S := fr_rf
  refine mw_aload_n dX10_will_0 rfl 0 rfl ?_
  refine mw_iload_n dX10_will_1 rfl 1 rfl ?_
  refine tc_Vi (as := [.int x1]) (st := []) dX10_will_2 rfl shM_0 rfl rfl mX10_179 t_X10_isPerson rfl (Nat.le_of_ble_eq_true rfl) (by decide) (by decide) (c_X10_isPerson (g := g) S hI x1) (fun S101 v103 h102 => ?_)
  obtain ⟨rfl, b104, x105⟩ := h102
  refine mw_if_eq (tgt := 26) dX10_will_5 (by decide) (fun q106 => ?_) (fun q106 => ?_)
  · skip
    have b107 : mm_b (0) (0) v103 := bd_eq_l q106 b104 n_0 (by decide)
    refine mw_ldc dX10_will_26 kX10_182 ?_
    exact mw_iret rfl dX10_will_28 rfl rfl ⟨S, _, rfl, rfl, hI, hF, bd_w n_m1000000001 (by decide), trivial⟩
  · skip
    have b108 : mm_b (1) (1) v103 := bd_ne_l q106 b104 n_0 (by decide)
    have b109 := Or.resolve_left x105 q106
    refine mw_aload_n dX10_will_8 rfl 0 rfl ?_
    refine mw_iload_n dX10_will_9 rfl 1 rfl ?_
    refine mw_iload_n dX10_will_10 rfl 2 rfl ?_
    refine tc_Vi (as := [.int x1, .int x2]) (st := []) dX10_will_11 rfl shM_0 rfl rfl mX10_208 t_X10_isHeir rfl (Nat.le_of_ble_eq_true rfl) (by decide) (by decide) (c_X10_isHeir (g := g) S hI x1 x2) (fun S110 v112 h111 => ?_)
    obtain ⟨rfl, b113, x114⟩ := h111
    refine mw_if_eq (tgt := 26) dX10_will_14 (by decide) (fun q115 => ?_) (fun q115 => ?_)
    · skip
      have b116 : mm_b (0) (0) v112 := bd_eq_l q115 b113 n_0 (by decide)
      refine mw_ldc dX10_will_26 kX10_182 ?_
      exact mw_iret rfl dX10_will_28 rfl rfl ⟨S, _, rfl, rfl, hI, hF, bd_w n_m1000000001 (by decide), trivial⟩
    · skip
      have b117 : mm_b (1) (1) v112 := bd_ne_l q115 b113 n_0 (by decide)
      have b118 := Or.resolve_left x114 q115
      refine mw_aload_n dX10_will_17 rfl 0 rfl ?_
      refine mw_iload_n dX10_will_18 rfl 1 rfl ?_
      refine mw_iload_n dX10_will_19 rfl 3 rfl ?_
      refine tc_Vi (as := [.int x1, .int x3]) (st := []) dX10_will_20 rfl shM_0 rfl rfl mX10_208 t_X10_isHeir rfl (Nat.le_of_ble_eq_true rfl) (by decide) (by decide) (c_X10_isHeir (g := g) S hI x1 x3) (fun S119 v121 h120 => ?_)
      obtain ⟨rfl, b122, x123⟩ := h120
      refine mw_if_ne (tgt := 29) dX10_will_23 (by decide) (fun q124 => ?_) (fun q124 => ?_)
      · skip
        have b125 : mm_b (1) (1) v121 := bd_ne_l q124 b122 n_0 (by decide)
        have b126 := Or.resolve_left x123 q124
        refine mw_aload_n dX10_will_29 rfl 0 rfl ?_
        refine mw_iload_n dX10_will_30 rfl 1 rfl ?_
        refine tc_Vi (as := [.int x1]) (st := []) dX10_will_31 rfl shM_0 rfl rfl mX10_167 t_X10_isAlive rfl (Nat.le_of_ble_eq_true rfl) (by decide) (by decide) (c_X10_isAlive (g := g) S hI x1) (fun S127 v129 h128 => ?_)
        obtain ⟨rfl, b130, x131⟩ := h128
        refine mw_if_ne (tgt := 40) dX10_will_34 (by decide) (fun q132 => ?_) (fun q132 => ?_)
        · skip
          have b133 : mm_b (1) (1) v129 := bd_ne_l q132 b130 n_0 (by decide)
          refine mw_aload_n dX10_will_40 rfl 0 rfl ?_
          refine tc_Vv (as := []) (st := []) dX10_will_41 rfl shM_0 rfl rfl mX10_188 t_X10_remember rfl (Nat.le_of_ble_eq_true rfl) (by decide) (by decide) (c_X10_remember (g := g) S hI) (fun S134 h135 => ?_)
          obtain ⟨hI137, hf138, x136⟩ := h135
          have hF139 := fr_tr hF hf138 (by decide) (by decide) (by decide) (by decide)
          refine mw_bipush dX10_will_44 kb_10 ?_
          refine mw_aload_n dX10_will_46 rfl 0 rfl ?_
          refine tw_getr (j := 2) dX10_will_47 shM_0 rfl rfl (by decide) fX10_16 ?_
          refine mw_bipush dX10_will_50 kb_14 ?_
          refine mw_iload_n dX10_will_52 rfl 1 rfl ?_
          refine mw_iadd dX10_will_53 (fun v140 ev140 => ?_)
          have b141 : mm_b (14) (20) v140 := bd_add ev140 n_14 b109 (by decide)
          refine tw_iald dX10_will_54 shM_3 (bd_in b141 (by decide)) (fun v142 ev142 => ?_)
          have b143 : mm_b (0) (9) v142 := JIM_elt hI137 ev142 b141 tbM_31 (by decide)
          refine mw_imul dX10_will_55 (fun v144 ev144 => ?_)
          have b145 : mm_b (0) (90) v144 := bd_mul ev144 n_10 b143 (by decide)
          refine mw_aload_n dX10_will_56 rfl 0 rfl ?_
          refine tw_getr (j := 2) dX10_will_57 shM_0 rfl rfl (by decide) fX10_16 ?_
          refine mw_bipush dX10_will_60 kb_21 ?_
          refine mw_iload_n dX10_will_62 rfl 1 rfl ?_
          refine mw_iadd dX10_will_63 (fun v146 ev146 => ?_)
          have b147 : mm_b (21) (27) v146 := bd_add ev146 n_21 b109 (by decide)
          refine tw_iald dX10_will_64 shM_3 (bd_in b147 (by decide)) (fun v148 ev148 => ?_)
          have b149 : mm_b (0) (9) v148 := JIM_elt hI137 ev148 b147 tbM_31 (by decide)
          refine mw_iadd dX10_will_65 (fun v150 ev150 => ?_)
          have b151 : mm_b (0) (99) v150 := bd_add ev150 b145 b149 (by decide)
          refine mw_istore (ls' := [(4, .int v150), (0, .ref 0), (1, .int x1), (2, .int x2), (3, .int x3)]) dX10_will_66 (by decide) rfl ?_
          refine mw_aload_n dX10_will_68 rfl 1 rfl ?_
          refine tw_getr (j := 2) dX10_will_69 shM_0 rfl rfl (by decide) fX10_16 ?_
          refine mw_bipush dX10_will_72 kb_14 ?_
          refine mw_iload_n dX10_will_74 rfl 2 rfl ?_
          refine mw_iadd dX10_will_75 (fun v152 ev152 => ?_)
          have cv152 : v140 = v152 := ev140.trans ev152.symm
          subst cv152
          refine mw_iload_n dX10_will_76 rfl 3 rfl ?_
          refine tw_iast dX10_will_77 shM_3 (bd_in b141 (by decide)) ?_
          have hI153 : JM (mm_up S134 3 v140.toNatClampNeg x2) := JIM_puta hI137 b118 b141 (by decide) (by decide +kernel)
          generalize hS154 : (mm_up S134 3 v140.toNatClampNeg x2) = S154 at hI153 ⊢
          have hF155 := fr_upA hF139 hS154 (by decide)
          refine mw_aload_n dX10_will_78 rfl 1 rfl ?_
          refine tw_getr (j := 2) dX10_will_79 shM_0 rfl rfl (by decide) fX10_16 ?_
          refine mw_bipush dX10_will_82 kb_21 ?_
          refine mw_iload_n dX10_will_84 rfl 2 rfl ?_
          refine mw_iadd dX10_will_85 (fun v156 ev156 => ?_)
          have cv156 : v146 = v156 := ev146.trans ev156.symm
          subst cv156
          refine mw_iload_n dX10_will_86 rfl 4 rfl ?_
          refine tw_iast dX10_will_87 shM_3 (bd_in b147 (by decide)) ?_
          have hI157 : JM (mm_up S154 3 v146.toNatClampNeg x3) := JIM_puta hI153 b126 b147 (by decide) (by decide +kernel)
          generalize hS158 : (mm_up S154 3 v146.toNatClampNeg x3) = S158 at hI157 ⊢
          have hF159 := fr_upA hF155 hS158 (by decide)
          refine mw_iload dX10_will_88 0 rfl ?_
          exact mw_iret rfl dX10_will_90 rfl rfl ⟨S158, _, rfl, rfl, hI157, hF159, bd_w b151 (by decide), trivial⟩
        · skip
          have b160 : mm_b (0) (0) v129 := bd_eq_l q132 b130 n_0 (by decide)
          refine mw_ldc dX10_will_37 kX10_187 ?_
          exact mw_iret rfl dX10_will_39 rfl rfl ⟨S, _, rfl, rfl, hI, hF, bd_w n_m1000000003 (by decide), trivial⟩
      · skip
        have b161 : mm_b (0) (0) v121 := bd_eq_l q124 b122 n_0 (by decide)
        refine mw_ldc dX10_will_26 kX10_182 ?_
        exact mw_iret rfl dX10_will_28 rfl rfl ⟨S, _, rfl, rfl, hI, hF, bd_w n_m1000000001 (by decide), trivial⟩
set_option maxRecDepth 100000 in
set_option maxHeartbeats 4000000 in
theorem c_X10_draw {g : mm_G} (S : mm_S) (hI : JM S) (x1 : Int32) (h1 : mm_b (1) (7) x1) : mc g yX10_draw cX10_draw 2 (some .int) (mm_rm 0) [.ref 0, .int x1] (mm_enc shM S) (qi shM (fun S1 v => JM S1 ∧ fr [] [] false true S S1 ∧ mm_b (0) (6) v ∧ (True))) := by
  refine mc_of2 (own := RX10) (ini := false) (ls := [(0, .ref 0), (1, .int x1)]) (by decide) (Nat.le_of_ble_eq_true rfl) rfl (by decide) rfl ?_
  have hF : fr [] [] false true S S := fr_rf
  refine mw_aload_n dX10_draw_0 rfl 0 rfl ?_
  refine mw_aload_n dX10_draw_1 rfl 0 rfl ?_
  refine tw_getl (j := 8) dX10_draw_2 shM_0 rfl rfl (by decide) fX10_211 (fun w101 ew101 => ?_)
  have b102 : mm_bl (0) (2147483647) w101 := by rw [ew101]; exact JM_long hI
  refine mw_ldc2 dX10_draw_5 kX10_215 ?_
  refine mw_lmul dX10_draw_8 (fun w103 ew103 => ?_)
  have b104 : mm_bl (0) (2369780942852698515) w103 := bl_mul ew103 b102 L_1103515245 (by decide)
  refine mw_ldc2 dX10_draw_9 kX10_217 ?_
  refine mw_ladd dX10_draw_12 (fun w105 ew105 => ?_)
  have b106 : mm_bl (12345) (2369780942852710860) w105 := bl_add ew105 b104 L_12345 (by decide)
  refine mw_ldc2 dX10_draw_13 kX10_219 ?_
  refine mw_lrem dX10_draw_16 (bl_ne0 L_2147483648 (by decide)) (fun w107 ew107 => ?_)
  have b108 : mm_bl (0) (2147483647) w107 := bl_rem ew107 b106 L_2147483648 (by decide)
  refine tw_putl (j := 8) dX10_draw_17 shM_0 rfl rfl (by decide) fX10_211 rfl (by decide +kernel) ?_
  have hI109 : JM (mm_upL S 0 8 w107) := JLM_put hI b108 (by decide)
  generalize hS110 : mm_upL S 0 8 w107 = S110 at hI109 ⊢
  have hF111 := fr_upL hF hS110
  refine mw_aload_n dX10_draw_20 rfl 0 rfl ?_
  refine tw_getl (j := 8) dX10_draw_21 shM_0 rfl rfl (by decide) fX10_211 (fun w112 ew112 => ?_)
  have b113 : mm_bl (0) (2147483647) w112 := by rw [ew112]; exact JM_long hI109
  refine mw_ldc2 dX10_draw_24 kX10_221 ?_
  refine mw_ldiv dX10_draw_27 (bl_ne0 L_65536 (by decide)) (fun w114 ew114 => ?_)
  have b115 : mm_bl (0) (32767) w114 := bl_div ew114 b113 L_65536 (by decide)
  refine mw_iload_n dX10_draw_28 rfl 1 rfl ?_
  refine mw_i2l dX10_draw_29 (fun w116 ew116 => ?_)
  have b117 : mm_bl (1) (7) w116 := bl_i2l ew116 h1
  refine mw_lrem dX10_draw_30 (bl_ne0 b117 (by decide)) (fun w118 ew118 => ?_)
  have b119 : mm_bl (0) (6) w118 := bl_rem ew118 b115 b117 (by decide)
  refine mw_l2i dX10_draw_31 (fun v120 ev120 => ?_)
  have b121 : mm_b (0) (6) v120 := bl_l2i ev120 b119 (by decide)
  exact mw_iret rfl dX10_draw_32 rfl rfl ⟨S110, _, rfl, rfl, hI109, hF111, b121, trivial⟩
set_option maxRecDepth 100000 in
set_option maxHeartbeats 4000000 in
theorem c_X10_drift {g : mm_G} (S : mm_S) (hI : JM S) (x1 : Int32) : mc g yX10_drift cX10_drift 7 (some .int) (mm_rm 3) [.ref 0, .int x1] (mm_enc shM S) (qi shM (fun S1 v => JM S1 ∧ fr [3, 5] [5] false true S S1 ∧ mm_b (-1000000003) (127) v ∧ (True))) := by
  refine mc_of2 (own := RX10) (ini := false) (ls := [(0, .ref 0), (1, .int x1)]) (by decide) (Nat.le_of_ble_eq_true rfl) rfl (by decide) rfl ?_
  have hF : fr [3, 5] [5] false true S S := fr_rf
  refine mw_iload_n dX10_drift_0 rfl 1 rfl ?_
  refine mw_i2l dX10_drift_1 (fun w101 ew101 => ?_)
  have b102 : mm_bl (-2147483648) (2147483647) w101 := bl_i2l ew101 (bd_all x1)
  refine mw_lconst (v := 1) dX10_drift_2 (by decide) ?_
  refine mw_ldc2 dX10_drift_3 kX10_223 ?_
  refine tc_Si (as := [.long w101, .long 1, .long 60]) (st := []) dX10_drift_6 rfl mX10_62 t_X10_in rfl (Nat.le_of_ble_eq_true rfl) (by decide) (by decide) (c_X10_in (g := g) S hI w101 (1 : Int64) (60 : Int64)) (fun S103 v105 h104 => ?_)
  obtain ⟨rfl, b106, x107⟩ := h104
  have x108 := in_use (lo := 1) (hi := 60) x107 ew101 L_1 L_60 (by decide)
  refine mw_if_ne (tgt := 15) dX10_drift_9 (by decide) (fun q109 => ?_) (fun q109 => ?_)
  · skip
    have b110 : mm_b (1) (1) v105 := bd_ne_l q109 b106 n_0 (by decide)
    have b111 := Or.resolve_left x108 q109
    refine mw_aload_n dX10_drift_15 rfl 0 rfl ?_
    refine tw_getr (j := 0) dX10_drift_16 shM_0 rfl rfl (by decide) fX10_7 ?_
    refine mw_iconst dX10_drift_19 ki_0 ?_
    refine tw_iald dX10_drift_20 shM_1 (bd_in n_0 (by decide)) (fun v112 ev112 => ?_)
    rw [cl_0] at ev112
    have b113 : mm_b (0) (7) v112 := JIM_fld hI ev112 tbM_16 (by decide)
    refine mw_if_ne (tgt := 27) dX10_drift_21 (by decide) (fun q114 => ?_) (fun q114 => ?_)
    · skip
      have b115 : mm_b (1) (7) v112 := bd_ne_l q114 b113 n_0 (by decide)
      refine mw_aload_n dX10_drift_27 rfl 0 rfl ?_
      refine tc_Vv (as := []) (st := []) dX10_drift_28 rfl shM_0 rfl rfl mX10_188 t_X10_remember rfl (Nat.le_of_ble_eq_true rfl) (by decide) (by decide) (c_X10_remember (g := g) S hI) (fun S116 h117 => ?_)
      obtain ⟨hI119, hf120, x118⟩ := h117
      have hF121 := fr_tr hF hf120 (by decide) (by decide) (by decide) (by decide)
      refine mw_iconst dX10_drift_31 ki_0 ?_
      refine mw_istore_n (ls' := [(2, .int 0), (0, .ref 0), (1, .int x1)]) dX10_drift_32 rfl (by decide) rfl ?_
      have cut33 : ∀ (N33 : Nat) (S122 : mm_S) (y125 y127 : Int32), ((61 : Int) - y125.toInt).toNat < N33 → JM S122 → fr [3, 5] [5] false true S S122 → mm_b (0) (60) y125 → mm_b (1) (7) y127 → y127 = S122.1 1 0 → mw g RX10 cX10_drift 7 (some .int) false (mm_rm 3) (qi shM (fun S1 v => JM S1 ∧ fr [3, 5] [5] false true S S1 ∧ mm_b (-1000000003) (127) v ∧ (True))) 0 0 (mm_enc shM S122) 33 [(0, .ref 0), (1, .int x1), (2, .int y125)] [] := by
        intro N33
        induction N33 with
        | zero =>
          intro S122 y125 y127 hm129 hI123 hF124 b126 b128 ey127
          exact absurd hm129 (Nat.not_lt_zero _)
        | succ N33 ih33 =>
          intro S122 y125 y127 hm129 hI123 hF124 b126 b128 ey127
          refine mw_iload_n dX10_drift_33 rfl 2 rfl ?_
          refine mw_iload_n dX10_drift_34 rfl 1 rfl ?_
          refine mw_icmp_ge (tgt := 124) dX10_drift_35 (by decide) (fun q130 => ?_) (fun q130 => ?_)
          · skip
            have b131 : mm_b (1) (60) y125 := bd_le_r q130 b111 b126 (by decide)
            refine mw_aload_n dX10_drift_124 rfl 0 rfl ?_
            refine tw_getr (j := 2) dX10_drift_125 shM_0 rfl rfl (by decide) fX10_16 ?_
            refine mw_bipush dX10_drift_128 kb_28 ?_
            refine tw_iald dX10_drift_130 shM_3 (bd_in n_28 (by decide)) (fun v132 ev132 => ?_)
            rw [cl_28] at ev132
            have b133 : mm_b (0) (127) v132 := JIM_fld hI123 ev132 tbM_32 (by decide)
            exact mw_iret rfl dX10_drift_131 rfl rfl ⟨S122, _, rfl, rfl, hI123, hF124, bd_w b133 (by decide), trivial⟩
          · skip
            have b134 : mm_b (0) (59) y125 := bd_lt_l (bd_nle q130) b126 b111 (by decide)
            refine mw_aload_n dX10_drift_38 rfl 0 rfl ?_
            refine mw_aload_n dX10_drift_39 rfl 0 rfl ?_
            refine tw_getr (j := 0) dX10_drift_40 shM_0 rfl rfl (by decide) fX10_7 ?_
            refine mw_iconst dX10_drift_43 ki_0 ?_
            refine tw_iald dX10_drift_44 shM_1 (bd_in n_0 (by decide)) (fun v135 ev135 => ?_)
            rw [cl_0] at ev135
            have cv135 : y127 = v135 := ey127.trans ev135.symm
            subst cv135
            refine tc_Vi (as := [.int y127]) (st := []) dX10_drift_45 rfl shM_0 rfl rfl mX10_225 t_X10_draw rfl (Nat.le_of_ble_eq_true rfl) (by decide) (by decide) (c_X10_draw (g := g) S122 hI123 y127 b128) (fun S136 v138 h137 => ?_)
            obtain ⟨hI142, hf143, b139, x140⟩ := h137
            have hF144 := fr_tr hF124 hf143 (by decide) (by decide) (by decide) (by decide)
            refine mw_istore_n (ls' := [(3, .int v138), (0, .ref 0), (1, .int x1), (2, .int y125)]) dX10_drift_48 rfl (by decide) rfl ?_
            refine mw_aload_n dX10_drift_49 rfl 1 rfl ?_
            refine mw_iconst dX10_drift_50 ki_3 ?_
            refine tc_Vi (as := [.int 3]) (st := []) dX10_drift_51 rfl shM_0 rfl rfl mX10_225 t_X10_draw rfl (Nat.le_of_ble_eq_true rfl) (by decide) (by decide) (c_X10_draw (g := g) S136 hI142 (3 : Int32) (bd_w n_3 (by decide))) (fun S145 v147 h146 => ?_)
            obtain ⟨hI151, hf152, b148, x149⟩ := h146
            have hF153 := fr_tr hF144 hf152 (by decide) (by decide) (by decide) (by decide)
            refine mw_istore (ls' := [(4, .int v147), (3, .int v138), (0, .ref 0), (1, .int x1), (2, .int y125)]) dX10_drift_54 (by decide) rfl ?_
            refine mw_iload_n dX10_drift_56 rfl 1 rfl ?_
            refine mw_iconst dX10_drift_57 ki_1 ?_
            refine mw_iadd dX10_drift_58 (fun v154 ev154 => ?_)
            have b155 : mm_b (1) (7) v154 := bd_add ev154 b139 n_1 (by decide)
            refine mw_aload_n dX10_drift_59 rfl 2 rfl ?_
            refine tw_getr (j := 0) dX10_drift_60 shM_0 rfl rfl (by decide) fX10_7 ?_
            refine mw_iconst dX10_drift_63 ki_0 ?_
            refine tw_iald dX10_drift_64 shM_1 (bd_in n_0 (by decide)) (fun v156 ev156 => ?_)
            rw [cl_0] at ev156
            have cv156 : y127 = v156 := ((ey127.trans (fr_A hf143 (by decide) (by decide))).trans (fr_A hf152 (by decide) (by decide))).trans ev156.symm
            subst cv156
            refine mw_irem dX10_drift_65 (bd_ne0 b128 (by decide)) (fun v157 ev157 => ?_)
            have b158 : mm_b (0) (6) v157 := bd_rem ev157 b155 b128 (by decide)
            refine mw_istore (ls' := [(5, .int v157), (4, .int v147), (3, .int v138), (0, .ref 0), (1, .int x1), (2, .int y125)]) dX10_drift_66 (by decide) rfl ?_
            refine mw_iload dX10_drift_68 1 rfl ?_
            refine mw_if_ne (tgt := 95) dX10_drift_70 (by decide) (fun q159 => ?_) (fun q159 => ?_)
            · skip
              have b160 : mm_b (1) (6) v147 := bd_ne_l q159 b148 n_0 (by decide)
              refine mw_iload dX10_drift_95 1 rfl ?_
              refine mw_iconst dX10_drift_97 ki_1 ?_
              refine mw_icmp_ne (tgt := 118) dX10_drift_98 (by decide) (fun q161 => ?_) (fun q161 => ?_)
              · skip
                have b162 : mm_b (2) (6) v147 := bd_ne_l q161 b160 n_1 (by decide)
                refine mw_iinc (ls' := fun v => [(2, .int v), (5, .int v157), (4, .int v147), (3, .int v138), (0, .ref 0), (1, .int x1)]) dX10_drift_118 5 rfl (by decide) (fun _ => rfl) (fun v163 ev163 => ?_)
                have b164 : mm_b (1) (60) v163 := bd_inc ev163 b134 (by decide)
                refine mw_goto (tgt := 33) dX10_drift_121 (by decide) ?_
                refine mw_ls [4, 5, 0] rfl ?_
                exact ih33 S145 v163 y127 (ms_inc ev163 b134 (by decide) hm129) hI151 hF153 (bd_w b164 (by decide)) b128 ((ey127.trans (fr_A hf143 (by decide) (by decide))).trans (fr_A hf152 (by decide) (by decide)))
              · skip
                have b165 : mm_b (1) (1) v147 := bd_eq_l q161 b160 n_1 (by decide)
                refine mw_aload_n dX10_drift_101 rfl 3 rfl ?_
                refine mw_iload_n dX10_drift_102 rfl 2 rfl ?_
                refine mw_iload dX10_drift_103 0 rfl ?_
                refine tc_Vi (as := [.int v138, .int v157]) (st := []) dX10_drift_105 rfl shM_0 rfl rfl mX10_198 t_X10_maySell rfl (Nat.le_of_ble_eq_true rfl) (by decide) (by decide) (c_X10_maySell (g := g) S145 hI151 v138 b139 v157 b158) (fun S166 v168 h167 => ?_)
                obtain ⟨rfl, b169, x170⟩ := h167
                refine mw_if_eq (tgt := 118) dX10_drift_108 (by decide) (fun q171 => ?_) (fun q171 => ?_)
                · skip
                  have b172 : mm_b (0) (0) v168 := bd_eq_l q171 b169 n_0 (by decide)
                  refine mw_iinc (ls' := fun v => [(2, .int v), (5, .int v157), (4, .int v147), (3, .int v138), (0, .ref 0), (1, .int x1)]) dX10_drift_118 5 rfl (by decide) (fun _ => rfl) (fun v173 ev173 => ?_)
                  have b174 : mm_b (1) (60) v173 := bd_inc ev173 b134 (by decide)
                  refine mw_goto (tgt := 33) dX10_drift_121 (by decide) ?_
                  refine mw_ls [4, 5, 0] rfl ?_
                  exact ih33 S145 v173 y127 (ms_inc ev173 b134 (by decide) hm129) hI151 hF153 (bd_w b174 (by decide)) b128 ((ey127.trans (fr_A hf143 (by decide) (by decide))).trans (fr_A hf152 (by decide) (by decide)))
                · skip
                  have b175 : mm_b (1) (1) v168 := bd_ne_l q171 b169 n_0 (by decide)
                  refine mw_aload_n dX10_drift_111 rfl 3 rfl ?_
                  refine mw_iload_n dX10_drift_112 rfl 2 rfl ?_
                  refine mw_iload dX10_drift_113 0 rfl ?_
                  refine tc_Vv (as := [.int v138, .int v157]) (st := []) dX10_drift_115 rfl shM_0 rfl rfl mX10_201 t_X10_sells rfl (Nat.le_of_ble_eq_true rfl) (by decide) (by decide) (c_X10_sells (g := g) S145 hI151 v138 b139 v157 b158) (fun S176 h177 => ?_)
                  obtain ⟨hI179, hf180, x178⟩ := h177
                  have hF181 := fr_tr hF153 hf180 (by decide) (by decide) (by decide) (by decide)
                  refine mw_iinc (ls' := fun v => [(2, .int v), (5, .int v157), (4, .int v147), (3, .int v138), (0, .ref 0), (1, .int x1)]) dX10_drift_118 5 rfl (by decide) (fun _ => rfl) (fun v182 ev182 => ?_)
                  have b183 : mm_b (1) (60) v182 := bd_inc ev182 b134 (by decide)
                  refine mw_goto (tgt := 33) dX10_drift_121 (by decide) ?_
                  refine mw_ls [4, 5, 0] rfl ?_
                  exact ih33 S176 v182 y127 (ms_inc ev182 b134 (by decide) hm129) hI179 hF181 (bd_w b183 (by decide)) b128 (((ey127.trans (fr_A hf143 (by decide) (by decide))).trans (fr_A hf152 (by decide) (by decide))).trans (fr_A hf180 (by decide) (by decide)))
            · skip
              have b184 : mm_b (0) (0) v147 := bd_eq_l q159 b148 n_0 (by decide)
              refine mw_aload_n dX10_drift_73 rfl 3 rfl ?_
              refine mw_iload_n dX10_drift_74 rfl 2 rfl ?_
              refine tc_Vi (as := [.int v138]) (st := []) dX10_drift_75 rfl shM_0 rfl rfl mX10_167 t_X10_isAlive rfl (Nat.le_of_ble_eq_true rfl) (by decide) (by decide) (c_X10_isAlive (g := g) S145 hI151 v138) (fun S185 v187 h186 => ?_)
              obtain ⟨rfl, b188, x189⟩ := h186
              refine mw_if_eq (tgt := 95) dX10_drift_78 (by decide) (fun q190 => ?_) (fun q190 => ?_)
              · skip
                have b191 : mm_b (0) (0) v187 := bd_eq_l q190 b188 n_0 (by decide)
                refine mw_iload dX10_drift_95 1 rfl ?_
                refine mw_iconst dX10_drift_97 ki_1 ?_
                refine mw_icmp_ne (tgt := 118) dX10_drift_98 (by decide) (fun q192 => ?_) (fun q192 => ?_)
                · skip
                  refine mw_iinc (ls' := fun v => [(2, .int v), (5, .int v157), (4, .int v147), (3, .int v138), (0, .ref 0), (1, .int x1)]) dX10_drift_118 5 rfl (by decide) (fun _ => rfl) (fun v193 ev193 => ?_)
                  have b194 : mm_b (1) (60) v193 := bd_inc ev193 b134 (by decide)
                  refine mw_goto (tgt := 33) dX10_drift_121 (by decide) ?_
                  refine mw_ls [4, 5, 0] rfl ?_
                  exact ih33 S145 v193 y127 (ms_inc ev193 b134 (by decide) hm129) hI151 hF153 (bd_w b194 (by decide)) b128 ((ey127.trans (fr_A hf143 (by decide) (by decide))).trans (fr_A hf152 (by decide) (by decide)))
                · skip
                  exact bd_feq q192 b184 n_1 (by decide)
              · skip
                have b195 : mm_b (1) (1) v187 := bd_ne_l q190 b188 n_0 (by decide)
                refine mw_aload_n dX10_drift_81 rfl 3 rfl ?_
                refine mw_aload_n dX10_drift_82 rfl 3 rfl ?_
                refine tw_getr (j := 2) dX10_drift_83 shM_0 rfl rfl (by decide) fX10_16 ?_
                refine mw_iload_n dX10_drift_86 rfl 2 rfl ?_
                refine tc_Vi (as := [.ref 3, .int v138]) (st := []) dX10_drift_87 rfl shM_0 rfl rfl mX10_191 t_X10_dies rfl (Nat.le_of_ble_eq_true rfl) (by decide) (by decide) (c_X10_dies3 (g := g) S145 hI151 v138 b139) (fun S196 v198 h197 => ?_)
                obtain ⟨hI202, hf203, b199, x200⟩ := h197
                have hF204 := fr_tr hF153 hf203 (by decide) (by decide) (by decide) (by decide)
                refine mw_istore (ls' := [(6, .int v198), (5, .int v157), (4, .int v147), (3, .int v138), (0, .ref 0), (1, .int x1), (2, .int y125)]) dX10_drift_90 (by decide) rfl ?_
                refine mw_goto (tgt := 118) dX10_drift_92 (by decide) ?_
                refine mw_iinc (ls' := fun v => [(2, .int v), (6, .int v198), (5, .int v157), (4, .int v147), (3, .int v138), (0, .ref 0), (1, .int x1)]) dX10_drift_118 6 rfl (by decide) (fun _ => rfl) (fun v205 ev205 => ?_)
                have b206 : mm_b (1) (60) v205 := bd_inc ev205 b134 (by decide)
                refine mw_goto (tgt := 33) dX10_drift_121 (by decide) ?_
                refine mw_ls [5, 6, 0] rfl ?_
                exact ih33 S196 v205 y127 (ms_inc ev205 b134 (by decide) hm129) hI202 hF204 (bd_w b206 (by decide)) b128 (((ey127.trans (fr_A hf143 (by decide) (by decide))).trans (fr_A hf152 (by decide) (by decide))).trans (fr_A hf203 (by decide) (by decide)))
      refine mw_ls [1, 2, 0] rfl ?_
      exact cut33 _ S116 (0 : Int32) v112 (Nat.lt_succ_self _) hI119 hF121 (bd_w n_0 (by decide)) b115 (ev112.trans (fr_A hf120 (by decide) (by decide)))
    · skip
      have b207 : mm_b (0) (0) v112 := bd_eq_l q114 b113 n_0 (by decide)
      refine mw_ldc dX10_drift_24 kX10_187 ?_
      exact mw_iret rfl dX10_drift_26 rfl rfl ⟨S, _, rfl, rfl, hI, hF, bd_w n_m1000000003 (by decide), trivial⟩
  · skip
    have b208 : mm_b (0) (0) v105 := bd_eq_l q109 b106 n_0 (by decide)
    refine mw_ldc dX10_drift_12 kX10_84 ?_
    exact mw_iret rfl dX10_drift_14 rfl rfl ⟨S, _, rfl, rfl, hI, hF, bd_w n_m1000000002 (by decide), trivial⟩
set_option maxRecDepth 100000 in
set_option maxHeartbeats 4000000 in
theorem c_X10_undo {g : mm_G} (S : mm_S) (hI : JM S)  : mc g yX10_undo cX10_undo 1 (some .int) (mm_rm 1) [.ref 0] (mm_enc shM S) (qi shM (fun S1 v => JM S1 ∧ fr [3] [5] true true S S1 ∧ mm_b (-1000000003) (19) v ∧ (True))) := by
  refine mc_of2 (own := RX10) (ini := false) (ls := [(0, .ref 0)]) (by decide) (Nat.le_of_ble_eq_true rfl) rfl (by decide) rfl ?_
  have hF : fr [3] [5] true true S S := fr_rf
  refine mw_aload_n dX10_undo_0 rfl 0 rfl ?_
  refine tw_geti (j := 5) dX10_undo_1 shM_0 rfl rfl (by decide) fX10_70 (fun v101 ev101 => ?_)
  have b102 : mm_b (0) (20) v101 := JIM_fld hI ev101 tbM_1 (by decide)
  refine mw_if_ne (tgt := 10) dX10_undo_4 (by decide) (fun q103 => ?_) (fun q103 => ?_)
  · skip
    have b104 : mm_b (1) (20) v101 := bd_ne_l q103 b102 n_0 (by decide)
    refine mw_aload_n dX10_undo_10 rfl 0 rfl ?_
    refine mw_dup dX10_undo_11 rfl ?_
    refine tw_geti (j := 5) dX10_undo_12 shM_0 rfl rfl (by decide) fX10_70 (fun v105 ev105 => ?_)
    have cv105 : v101 = v105 := ev101.trans ev105.symm
    subst cv105
    refine mw_iconst dX10_undo_15 ki_1 ?_
    refine mw_isub dX10_undo_16 (fun v106 ev106 => ?_)
    have b107 : mm_b (0) (19) v106 := bd_sub ev106 b104 n_1 (by decide)
    refine tw_puti (j := 5) dX10_undo_17 shM_0 rfl rfl (by decide) fX10_70 rfl (by decide +kernel) ?_
    have hI108 : JM (mm_up S 0 5 v106) := JIM_put hI b107 (by decide +kernel)
    generalize hS109 : (mm_up S 0 5 v106) = S109 at hI108 ⊢
    have hF110 := fr_upF hF hS109 (by decide)
    refine mw_aload_n dX10_undo_20 rfl 0 rfl ?_
    refine tw_getr (j := 4) dX10_undo_21 shM_0 rfl rfl (by decide) fX10_22 ?_
    refine mw_bipush dX10_undo_24 kb_30 ?_
    refine mw_aload_n dX10_undo_26 rfl 0 rfl ?_
    refine tw_geti (j := 5) dX10_undo_27 shM_0 rfl rfl (by decide) fX10_70 (fun v111 ev111 => ?_)
    have cv111 : v106 = v111 := (up_eq hS109).trans ev111.symm
    subst cv111
    refine mw_imul dX10_undo_30 (fun v112 ev112 => ?_)
    have b113 : mm_b (0) (570) v112 := bd_mul ev112 n_30 b107 (by decide)
    refine mw_aload_n dX10_undo_31 rfl 0 rfl ?_
    refine tw_getr (j := 2) dX10_undo_32 shM_0 rfl rfl (by decide) fX10_16 ?_
    refine mw_iconst dX10_undo_35 ki_0 ?_
    refine mw_bipush dX10_undo_36 kb_30 ?_
    refine tc_Sv (as := [.ref 5, .int v112, .ref 3, .int 0, .int 30]) (st := []) dX10_undo_38 rfl mX10_66 t_X10_copies rfl (Nat.le_of_ble_eq_true rfl) (by decide) (by decide) (c_X10_copies_53 (g := g) S109 hI108 v112 (0 : Int32) n_0 (30 : Int32) n_30 (cp_mul (C := 30) (M := 20) ev112 n_30 b107 (by decide))) (fun S114 h115 => ?_)
    obtain ⟨hI117, hf118, x116⟩ := h115
    have hF119 := fr_tr hF110 hf118 (by decide) (by decide) (by decide) (by decide)
    refine mw_aload_n dX10_undo_41 rfl 0 rfl ?_
    refine tw_geti (j := 5) dX10_undo_42 shM_0 rfl rfl (by decide) fX10_70 (fun v120 ev120 => ?_)
    have cv120 : v106 = v120 := ((up_eq hS109).trans (fr_F hf118 (by decide))).trans ev120.symm
    subst cv120
    exact mw_iret rfl dX10_undo_45 rfl rfl ⟨S114, _, rfl, rfl, hI117, hF119, bd_w b107 (by decide), trivial⟩
  · skip
    have b121 : mm_b (0) (0) v101 := bd_eq_l q103 b102 n_0 (by decide)
    refine mw_ldc dX10_undo_7 kX10_187 ?_
    exact mw_iret rfl dX10_undo_9 rfl rfl ⟨S, _, rfl, rfl, hI, hF, bd_w n_m1000000003 (by decide), trivial⟩
set_option maxRecDepth 100000 in
set_option maxHeartbeats 4000000 in
theorem c_X10_layAside {g : mm_G} (S : mm_S) (hI : JM S)  : mc g yX10_layAside cX10_layAside 1 none (mm_rm 1) [.ref 0] (mm_enc shM S) (qv shM (fun S1 => JM S1 ∧ fr [4] [] true true S S1 ∧ True)) := by
  refine mc_of2 (own := RX10) (ini := false) (ls := [(0, .ref 0)]) (by decide) (Nat.le_of_ble_eq_true rfl) rfl (by decide) rfl ?_
  have hF : fr [4] [] true true S S := fr_rf
  refine mw_aload_n dX10_layAside_0 rfl 0 rfl ?_
  refine tw_getr (j := 2) dX10_layAside_1 shM_0 rfl rfl (by decide) fX10_16 ?_
  refine mw_iconst dX10_layAside_4 ki_0 ?_
  refine mw_aload_n dX10_layAside_5 rfl 0 rfl ?_
  refine tw_getr (j := 3) dX10_layAside_6 shM_0 rfl rfl (by decide) fX10_19 ?_
  refine mw_iconst dX10_layAside_9 ki_0 ?_
  refine mw_bipush dX10_layAside_10 kb_30 ?_
  refine tc_Sv (as := [.ref 3, .int 0, .ref 4, .int 0, .int 30]) (st := []) dX10_layAside_12 rfl mX10_66 t_X10_copies rfl (Nat.le_of_ble_eq_true rfl) (by decide) (by decide) (c_X10_copies_34 (g := g) S hI (0 : Int32) n_0 (0 : Int32) n_0 (30 : Int32) n_30) (fun S101 h102 => ?_)
  obtain ⟨hI104, hf105, x103⟩ := h102
  have hF106 := fr_tr hF hf105 (by decide) (by decide) (by decide) (by decide)
  exact mw_vret rfl dX10_layAside_15 rfl rfl ⟨S101, rfl, rfl, ⟨hI104, hF106, trivial⟩⟩
set_option maxRecDepth 100000 in
set_option maxHeartbeats 4000000 in
theorem c_X10_maySing {g : mm_G} (S : mm_S) (hI : JM S) (x1 : Int32) (h1 : mm_b (0) (6) x1) (x2 : Int32) (h2 : mm_b (0) (5) x2) : mc g yX10_maySing cX10_maySing 4 (some .boolean) (mm_rm 2) [.ref 0, .int x1, .int x2] (mm_enc shM S) (qi shM (fun S1 v => S = S1 ∧ mm_b (0) (1) v ∧ ((v = 0 ∧ ¬ mayF S x1 x2) ∨ (v = 1 ∧ mayF S x1 x2)))) := by
  refine mc_of2 (own := RX10) (ini := false) (ls := [(0, .ref 0), (1, .int x1), (2, .int x2)]) (by decide) (Nat.le_of_ble_eq_true rfl) rfl (by decide) rfl ?_
  refine mw_aload_n dX10_maySing_0 rfl 0 rfl ?_
  refine tw_getr (j := 2) dX10_maySing_1 shM_0 rfl rfl (by decide) fX10_16 ?_
  refine mw_iconst dX10_maySing_4 ki_0 ?_
  refine mw_iload_n dX10_maySing_5 rfl 1 rfl ?_
  refine mw_iadd dX10_maySing_6 (fun v101 ev101 => ?_)
  have b102 : mm_b (0) (6) v101 := bd_add ev101 n_0 h1 (by decide)
  refine tw_iald dX10_maySing_7 shM_3 (bd_in b102 (by decide)) (fun v103 ev103 => ?_)
  have b104 : mm_b (0) (9) v103 := JIM_elt hI ev103 b102 tbM_30 (by decide)
  refine mw_istore_n (ls' := [(3, .int v103), (0, .ref 0), (1, .int x1), (2, .int x2)]) dX10_maySing_8 rfl (by decide) rfl ?_
  refine mw_aload_n dX10_maySing_9 rfl 1 rfl ?_
  refine mw_iload_n dX10_maySing_10 rfl 2 rfl ?_
  refine tc_Vi (as := [.int x1]) (st := []) dX10_maySing_11 rfl shM_0 rfl rfl mX10_167 t_X10_isAlive rfl (Nat.le_of_ble_eq_true rfl) (by decide) (by decide) (c_X10_isAlive (g := g) S hI x1) (fun S105 v107 h106 => ?_)
  obtain ⟨rfl, b108, x109⟩ := h106
  refine mw_if_eq (tgt := 52) dX10_maySing_14 (by decide) (fun q110 => ?_) (fun q110 => ?_)
  · skip
    have b111 : mm_b (0) (0) v107 := bd_eq_l q110 b108 n_0 (by decide)
    refine mw_iconst dX10_maySing_52 ki_0 ?_
    exact mw_zret rfl (bd_nar n_0 (by decide)) dX10_maySing_53 rfl rfl ⟨S, _, rfl, rfl, rfl, bd_w n_0 (by decide), Or.inl ⟨rfl, fun h => al_no x109 b111 h.1⟩⟩
  · skip
    have b112 : mm_b (1) (1) v107 := bd_ne_l q110 b108 n_0 (by decide)
    refine mw_iload_n dX10_maySing_17 rfl 0 rfl ?_
    refine mw_bipush dX10_maySing_18 kb_9 ?_
    refine mw_icmp_eq (tgt := 52) dX10_maySing_20 (by decide) (fun q113 => ?_) (fun q113 => ?_)
    · skip
      have b114 : mm_b (9) (9) v103 := bd_eq_l q113 b104 n_9 (by decide)
      refine mw_iconst dX10_maySing_52 ki_0 ?_
      exact mw_zret rfl (bd_nar n_0 (by decide)) dX10_maySing_53 rfl rfl ⟨S, _, rfl, rfl, rfl, bd_w n_0 (by decide), Or.inl ⟨rfl, fun h => h.2.1 (by rw [← ev101, ← ev103]; exact q113)⟩⟩
    · skip
      have b115 : mm_b (0) (8) v103 := bd_ne_l q113 b104 n_9 (by decide)
      refine mw_aload_n dX10_maySing_23 rfl 1 rfl ?_
      refine tw_getr (j := 0) dX10_maySing_24 shM_0 rfl rfl (by decide) fX10_7 ?_
      refine mw_iconst dX10_maySing_27 ki_3 ?_
      refine mw_iload_n dX10_maySing_28 rfl 0 rfl ?_
      refine mw_iadd dX10_maySing_29 (fun v116 ev116 => ?_)
      have b117 : mm_b (3) (11) v116 := bd_add ev116 n_3 b115 (by decide)
      refine tw_iald dX10_maySing_30 shM_1 (bd_in b117 (by decide)) (fun v118 ev118 => ?_)
      refine mw_aload_n dX10_maySing_31 rfl 1 rfl ?_
      refine tw_getr (j := 0) dX10_maySing_32 shM_0 rfl rfl (by decide) fX10_7 ?_
      refine mw_bipush dX10_maySing_35 kb_31 ?_
      refine mw_iload_n dX10_maySing_37 rfl 3 rfl ?_
      refine mw_iadd dX10_maySing_38 (fun v119 ev119 => ?_)
      have b120 : mm_b (31) (36) v119 := bd_add ev119 n_31 h2 (by decide)
      refine tw_iald dX10_maySing_39 shM_1 (bd_in b120 (by decide)) (fun v121 ev121 => ?_)
      have b122 : mm_b (0) (8) v121 := JIM_elt hI ev121 b120 tbM_22 (by decide)
      refine mw_isub dX10_maySing_40 (fun v123 ev123 => ?_)
      refine tc_Si (as := [.int v123]) (st := []) dX10_maySing_41 rfl mX10_248 t_X10_abs rfl (Nat.le_of_ble_eq_true rfl) (by decide) (by decide) (c_X10_abs (g := g) S hI v123) (fun S124 v126 h125 => ?_)
      obtain ⟨rfl, b127, x128⟩ := h125
      refine mw_iconst dX10_maySing_44 ki_2 ?_
      refine mw_icmp_ge (tgt := 52) dX10_maySing_45 (by decide) (fun q129 => ?_) (fun q129 => ?_)
      · skip
        have b130 : mm_b (2) (2147483647) v126 := bd_le_r q129 n_2 b127 (by decide)
        refine mw_iconst dX10_maySing_52 ki_0 ?_
        exact mw_zret rfl (bd_nar n_0 (by decide)) dX10_maySing_53 rfl rfl ⟨S, _, rfl, rfl, rfl, bd_w n_0 (by decide), Or.inl ⟨rfl, fun h => absurd q129 (fun hz => lt_no (by have h2 := h.2.2; rw [← ev101, ← ev103, ← ev116, ← ev118, ← ev119, ← ev121, ← ev123, ← x128] at h2; exact h2) hz)⟩⟩
      · skip
        have b131 : mm_b (-2147483648) (1) v126 := bd_lt_l (bd_nle q129) b127 n_2 (by decide)
        refine mw_iconst dX10_maySing_48 ki_1 ?_
        refine mw_goto (tgt := 53) dX10_maySing_49 (by decide) ?_
        exact mw_zret rfl (bd_nar n_1 (by decide)) dX10_maySing_53 rfl rfl ⟨S, _, rfl, rfl, rfl, bd_w n_1 (by decide), Or.inr ⟨rfl, al_yes x109 b112, by rw [← ev101, ← ev103]; exact q113, by rw [← ev101, ← ev103, ← ev116, ← ev118, ← ev119, ← ev121, ← ev123, ← x128]; exact bd_nle q129⟩⟩
set_option maxRecDepth 100000 in
set_option maxHeartbeats 4000000 in
theorem c_X10_sungBy {g : mm_G} (S : mm_S) (hI : JM S) (x1 : Int32) (h1 : mm_b (0) (5) x1) (x2 : Int32) (h2 : mm_b (0) (127) x2) (x3 : Int32) (h3 : mm_b (0) (7) x3) (hp : x3.toInt ≤ (S.1 1 0).toInt) : mc g yX10_sungBy cX10_sungBy 4 (some .int) (mm_rm 3) [.ref 0, .int x1, .int x2, .int x3] (mm_enc shM S) (qi shM (fun S1 v => S = S1 ∧ mm_b (-2147483648) (2147483647) v ∧ (v = sbF S x1 x2 x3))) := by
  refine mc_of2 (own := RX10) (ini := false) (ls := [(0, .ref 0), (1, .int x1), (2, .int x2), (3, .int x3)]) (by decide) (Nat.le_of_ble_eq_true rfl) rfl (by decide) rfl ?_
  refine mw_iload_n dX10_sungBy_0 rfl 3 rfl ?_
  refine mw_aload_n dX10_sungBy_1 rfl 0 rfl ?_
  refine tw_getr (j := 0) dX10_sungBy_2 shM_0 rfl rfl (by decide) fX10_7 ?_
  refine mw_iconst dX10_sungBy_5 ki_0 ?_
  refine tw_iald dX10_sungBy_6 shM_1 (bd_in n_0 (by decide)) (fun v101 ev101 => ?_)
  rw [cl_0] at ev101
  have b102 : mm_b (0) (7) v101 := JIM_fld hI ev101 tbM_16 (by decide)
  refine mw_icmp_ne (tgt := 25) dX10_sungBy_7 (by decide) (fun q103 => ?_) (fun q103 => ?_)
  · skip
    have b104 : mm_b 0 6 x3 := sb_p hp q103 ev101 h3 b102
    refine mw_iload_n dX10_sungBy_25 rfl 2 rfl ?_
    refine mw_iload_n dX10_sungBy_26 rfl 3 rfl ?_
    refine tc_Si (as := [.int x2, .int x3]) (st := []) dX10_sungBy_27 rfl mX10_134 t_X10_isIn rfl (Nat.le_of_ble_eq_true rfl) (by decide) (by decide) (c_X10_isIn (g := g) S hI x2 x3) (fun S105 v107 h106 => ?_)
    obtain ⟨rfl, b108, x109⟩ := h106
    refine mw_if_ne (tgt := 42) dX10_sungBy_30 (by decide) (fun q110 => ?_) (fun q110 => ?_)
    · skip
      have b111 : mm_b (1) (1) v107 := bd_ne_l q110 b108 n_0 (by decide)
      refine mw_ldc dX10_sungBy_42 kX10_254 ?_
      refine mw_goto (tgt := 67) dX10_sungBy_44 (by decide) ?_
      exact mw_iret rfl dX10_sungBy_67 rfl rfl ⟨S, _, rfl, rfl, rfl, bd_w n_m1000000 (by decide), sb_2 (fun h => q103 (h.trans ev101.symm)) (Or.inl (is_yes x109 b111)) rfl⟩
    · skip
      have b112 : mm_b (0) (0) v107 := bd_eq_l q110 b108 n_0 (by decide)
      refine mw_aload_n dX10_sungBy_33 rfl 0 rfl ?_
      refine mw_iload_n dX10_sungBy_34 rfl 3 rfl ?_
      refine mw_iload_n dX10_sungBy_35 rfl 1 rfl ?_
      refine tc_Vi (as := [.int x3, .int x1]) (st := []) dX10_sungBy_36 rfl shM_0 rfl rfl mX10_251 t_X10_maySing rfl (Nat.le_of_ble_eq_true rfl) (by decide) (by decide) (c_X10_maySing (g := g) S hI x3 b104 x1 h1) (fun S113 v115 h114 => ?_)
      obtain ⟨rfl, b116, x117⟩ := h114
      refine mw_if_ne (tgt := 47) dX10_sungBy_39 (by decide) (fun q118 => ?_) (fun q118 => ?_)
      · skip
        have b119 : mm_b (1) (1) v115 := bd_ne_l q118 b116 n_0 (by decide)
        refine mw_iconst dX10_sungBy_47 ki_1 ?_
        refine mw_aload_n dX10_sungBy_48 rfl 0 rfl ?_
        refine tw_getr (j := 24) dX10_sungBy_49 shM_0 rfl rfl (by decide) fX10_48 ?_
        refine mw_sipush dX10_sungBy_52 ks_128 ?_
        refine mw_iload_n dX10_sungBy_55 rfl 1 rfl ?_
        refine mw_iconst dX10_sungBy_56 ki_1 ?_
        refine mw_iadd dX10_sungBy_57 (fun v120 ev120 => ?_)
        have b121 : mm_b (1) (6) v120 := bd_add ev120 h1 n_1 (by decide)
        refine mw_imul dX10_sungBy_58 (fun v122 ev122 => ?_)
        have b123 : mm_b (128) (768) v122 := bd_mul ev122 n_128 b121 (by decide)
        refine mw_iload_n dX10_sungBy_59 rfl 2 rfl ?_
        refine mw_iconst dX10_sungBy_60 ki_1 ?_
        refine mw_iload_n dX10_sungBy_61 rfl 3 rfl ?_
        refine mw_ishl dX10_sungBy_62 (fun v124 ev124 => ?_)
        have b125 : mm_b (1) (64) v124 := bd_shl 6 ev124 b104 (by decide)
        refine mw_ior dX10_sungBy_63 (fun v126 ev126 => ?_)
        have b127 : mm_b (0) (127) v126 := bd_or 7 ev126 h2 b125 (by decide)
        refine mw_iadd dX10_sungBy_64 (fun v128 ev128 => ?_)
        have b129 : mm_b (128) (895) v128 := bd_add ev128 b123 b127 (by decide)
        refine tw_iald dX10_sungBy_65 shM_12 (bd_in b129 (by decide)) (fun v130 ev130 => ?_)
        have b131 : mm_b (0) (2147483647) v130 := JIM_elt hI ev130 b129 tbM_0 (by decide)
        refine mw_iadd dX10_sungBy_66 (fun v132 ev132 => ?_)
        exact mw_iret rfl dX10_sungBy_67 rfl rfl ⟨S, _, rfl, rfl, rfl, (bd_all v132), sb_3 (fun h => q103 (h.trans ev101.symm)) (is_no x109 b112) (al_yes x117 b119) (by rw [ev132, ev130, ev128, ev126, ev124, ev122, ev120])⟩
      · skip
        have b133 : mm_b (0) (0) v115 := bd_eq_l q118 b116 n_0 (by decide)
        refine mw_ldc dX10_sungBy_42 kX10_254 ?_
        refine mw_goto (tgt := 67) dX10_sungBy_44 (by decide) ?_
        exact mw_iret rfl dX10_sungBy_67 rfl rfl ⟨S, _, rfl, rfl, rfl, bd_w n_m1000000 (by decide), sb_2 (fun h => q103 (h.trans ev101.symm)) (Or.inr (al_no x117 b133)) rfl⟩
  · skip
    refine mw_aload_n dX10_sungBy_10 rfl 0 rfl ?_
    refine tw_getr (j := 24) dX10_sungBy_11 shM_0 rfl rfl (by decide) fX10_48 ?_
    refine mw_sipush dX10_sungBy_14 ks_128 ?_
    refine mw_iload_n dX10_sungBy_17 rfl 1 rfl ?_
    refine mw_iconst dX10_sungBy_18 ki_1 ?_
    refine mw_iadd dX10_sungBy_19 (fun v134 ev134 => ?_)
    have b135 : mm_b (1) (6) v134 := bd_add ev134 h1 n_1 (by decide)
    refine mw_imul dX10_sungBy_20 (fun v136 ev136 => ?_)
    have b137 : mm_b (128) (768) v136 := bd_mul ev136 n_128 b135 (by decide)
    refine mw_iload_n dX10_sungBy_21 rfl 2 rfl ?_
    refine mw_iadd dX10_sungBy_22 (fun v138 ev138 => ?_)
    have b139 : mm_b (128) (895) v138 := bd_add ev138 b137 h2 (by decide)
    refine tw_iald dX10_sungBy_23 shM_12 (bd_in b139 (by decide)) (fun v140 ev140 => ?_)
    have b141 : mm_b (0) (2147483647) v140 := JIM_elt hI ev140 b139 tbM_0 (by decide)
    exact mw_iret rfl dX10_sungBy_24 rfl rfl ⟨S, _, rfl, rfl, rfl, bd_w b141 (by decide), sb_1 (q103.trans ev101) (by rw [ev140, ev138, ev136, ev134])⟩
