set_option maxRecDepth 100000 in
set_option maxHeartbeats 4000000 in
theorem c_X10_lives4 {g : mm_G} (S : mm_S) (hI : JM S) (x1 : Int32) (h1 : mm_b (0) (9) x1) : mc g yX10_lives cX10_lives 2 (some .boolean) (mm_rm 1) [.ref 4, .int x1] (mm_enc shM S) (qi shM (fun S1 v => S = S1 ∧ mm_b (0) (1) v ∧ (v = 0 ∨ (mm_b (0) (6) x1)))) := by
  refine mc_of2 (own := RX10) (ini := false) (ls := [(0, .ref 4), (1, .int x1)]) (by decide) (Nat.le_of_ble_eq_true rfl) rfl (by decide) rfl ?_
  refine mw_iload_n dX10_lives_0 rfl 1 rfl ?_
  refine mw_bipush dX10_lives_1 kb_9 ?_
  refine mw_icmp_eq (tgt := 21) dX10_lives_3 (by decide) (fun q101 => ?_) (fun q101 => ?_)
  · skip
    have b102 : mm_b (9) (9) x1 := bd_eq_l q101 h1 n_9 (by decide)
    refine mw_iconst dX10_lives_21 ki_0 ?_
    exact mw_zret rfl (bd_nar n_0 (by decide)) dX10_lives_22 rfl rfl ⟨S, _, rfl, rfl, rfl, bd_w n_0 (by decide), Or.inl rfl⟩
  · skip
    have b103 : mm_b (0) (8) x1 := bd_ne_l q101 h1 n_9 (by decide)
    refine mw_aload_n dX10_lives_6 rfl 0 rfl ?_
    refine mw_bipush dX10_lives_7 kb_28 ?_
    refine tw_iald dX10_lives_9 shM_4 (bd_in n_28 (by decide)) (fun v104 ev104 => ?_)
    rw [cl_28] at ev104
    have b105 : mm_b (0) (127) v104 := JIM_fld hI ev104 tbM_35 (by decide)
    refine mw_iload_n dX10_lives_10 rfl 1 rfl ?_
    refine tc_Si (as := [.int v104, .int x1]) (st := []) dX10_lives_11 rfl mX10_134 t_X10_isIn rfl (Nat.le_of_ble_eq_true rfl) (by decide) (by decide) (c_X10_isIn (g := g) S hI v104 x1) (fun S106 v108 h107 => ?_)
    obtain ⟨rfl, b109, x110⟩ := h107
    have x111 := isIn_b x110 b105 b103 (by decide)
    refine mw_if_eq (tgt := 21) dX10_lives_14 (by decide) (fun q112 => ?_) (fun q112 => ?_)
    · skip
      have b113 : mm_b (0) (0) v108 := bd_eq_l q112 b109 n_0 (by decide)
      refine mw_iconst dX10_lives_21 ki_0 ?_
      exact mw_zret rfl (bd_nar n_0 (by decide)) dX10_lives_22 rfl rfl ⟨S, _, rfl, rfl, rfl, bd_w n_0 (by decide), Or.inl rfl⟩
    · skip
      have b114 : mm_b (1) (1) v108 := bd_ne_l q112 b109 n_0 (by decide)
      have b115 := Or.resolve_left x111 q112
      refine mw_iconst dX10_lives_17 ki_1 ?_
      refine mw_goto (tgt := 22) dX10_lives_18 (by decide) ?_
      exact mw_zret rfl (bd_nar n_1 (by decide)) dX10_lives_22 rfl rfl ⟨S, _, rfl, rfl, rfl, bd_w n_1 (by decide), Or.inr (bd_w b115 (by decide))⟩
set_option maxRecDepth 100000 in
set_option maxHeartbeats 4000000 in
theorem c_X10_dies4 {g : mm_G} (S : mm_S) (hI : JM S) (x2 : Int32) (h2 : mm_b (0) (6) x2) : mc g yX10_dies cX10_dies 8 (some .int) (mm_rm 2) [.ref 0, .ref 4, .int x2] (mm_enc shM S) (qi shM (fun S1 v => JM S1 ∧ fr [4] [] true true S S1 ∧ mm_b (-1) (6) v ∧ (True))) := by
  refine mc_of2 (own := RX10) (ini := false) (ls := [(0, .ref 0), (1, .ref 4), (2, .int x2)]) (by decide) (Nat.le_of_ble_eq_true rfl) rfl (by decide) rfl ?_
  have hF : fr [4] [] true true S S := fr_rf
  refine mw_aload_n dX10_dies_0 rfl 1 rfl ?_
  refine mw_iconst dX10_dies_1 ki_0 ?_
  refine mw_iload_n dX10_dies_2 rfl 2 rfl ?_
  refine mw_iadd dX10_dies_3 (fun v101 ev101 => ?_)
  have b102 : mm_b (0) (6) v101 := bd_add ev101 n_0 h2 (by decide)
  refine tw_iald dX10_dies_4 shM_4 (bd_in b102 (by decide)) (fun v103 ev103 => ?_)
  have b104 : mm_b (0) (9) v103 := JIM_elt hI ev103 b102 tbM_33 (by decide)
  refine mw_istore_n (ls' := [(3, .int v103), (0, .ref 0), (1, .ref 4), (2, .int x2)]) dX10_dies_5 rfl (by decide) rfl ?_
  refine mw_aload_n dX10_dies_6 rfl 2 rfl ?_
  refine mw_bipush dX10_dies_7 kb_7 ?_
  refine mw_iload_n dX10_dies_9 rfl 3 rfl ?_
  refine mw_iadd dX10_dies_10 (fun v105 ev105 => ?_)
  have b106 : mm_b (7) (13) v105 := bd_add ev105 n_7 h2 (by decide)
  refine tw_iald dX10_dies_11 shM_4 (bd_in b106 (by decide)) (fun v107 ev107 => ?_)
  refine mw_istore (ls' := [(4, .int v107), (3, .int v103), (0, .ref 0), (1, .ref 4), (2, .int x2)]) dX10_dies_12 (by decide) rfl ?_
  refine mw_iconst dX10_dies_14 ki_m1 ?_
  refine mw_istore (ls' := [(5, .int (-1)), (4, .int v107), (3, .int v103), (0, .ref 0), (1, .ref 4), (2, .int x2)]) dX10_dies_15 (by decide) rfl ?_
  refine mw_aload_n dX10_dies_17 rfl 4 rfl ?_
  refine mw_bipush dX10_dies_18 kb_28 ?_
  refine mw_dup2 dX10_dies_20 rfl rfl ?_
  refine tw_iald dX10_dies_21 shM_4 (bd_in n_28 (by decide)) (fun v108 ev108 => ?_)
  rw [cl_28] at ev108
  have b109 : mm_b (0) (127) v108 := JIM_fld hI ev108 tbM_35 (by decide)
  refine mw_iconst dX10_dies_22 ki_1 ?_
  refine mw_iload_n dX10_dies_23 rfl 5 rfl ?_
  refine mw_ishl dX10_dies_24 (fun v110 ev110 => ?_)
  have b111 : mm_b (1) (64) v110 := bd_shl 6 ev110 h2 (by decide)
  refine mw_iconst dX10_dies_25 ki_m1 ?_
  refine mw_ixor dX10_dies_26 (fun v112 ev112 => ?_)
  refine mw_iand dX10_dies_27 (fun v113 ev113 => ?_)
  have b114 : mm_b (0) (127) v113 := bd_and ev113 b109 (by decide)
  refine tw_iast dX10_dies_28 shM_4 (bd_in n_28 (by decide)) ?_
  rw [cl_28]
  have hI115 : JM (mm_up S 4 28 v113) := JIM_put hI b114 (by decide +kernel)
  generalize hS116 : (mm_up S 4 28 v113) = S116 at hI115 ⊢
  have hF117 := fr_upA hF hS116 (by decide)
  refine mw_aload_n dX10_dies_29 rfl 4 rfl ?_
  refine mw_iconst dX10_dies_30 ki_0 ?_
  refine mw_iload_n dX10_dies_31 rfl 5 rfl ?_
  refine mw_iadd dX10_dies_32 (fun v118 ev118 => ?_)
  have cv118 : v101 = v118 := ev101.trans ev118.symm
  subst cv118
  refine mw_bipush dX10_dies_33 kb_9 ?_
  refine tw_iast dX10_dies_35 shM_4 (bd_in b102 (by decide)) ?_
  have hI119 : JM (mm_up S116 4 v101.toNatClampNeg 9) := JIM_puta hI115 n_9 b102 (by decide) (by decide +kernel)
  generalize hS120 : (mm_up S116 4 v101.toNatClampNeg 9) = S120 at hI119 ⊢
  have hF121 := fr_upA hF117 hS120 (by decide)
  refine mw_aload_n dX10_dies_36 rfl 4 rfl ?_
  refine mw_bipush dX10_dies_37 kb_7 ?_
  refine mw_iload_n dX10_dies_39 rfl 5 rfl ?_
  refine mw_iadd dX10_dies_40 (fun v122 ev122 => ?_)
  have cv122 : v105 = v122 := ev105.trans ev122.symm
  subst cv122
  refine mw_iconst dX10_dies_41 ki_0 ?_
  refine tw_iast dX10_dies_42 shM_4 (bd_in b106 (by decide)) ?_
  have hI123 : JM (mm_up S120 4 v105.toNatClampNeg 0) := JIM_puta hI119 n_0 b106 (by decide) (by decide +kernel)
  generalize hS124 : (mm_up S120 4 v105.toNatClampNeg 0) = S124 at hI123 ⊢
  have hF125 := fr_upA hF121 hS124 (by decide)
  refine mw_aload_n dX10_dies_43 rfl 4 rfl ?_
  refine mw_bipush dX10_dies_44 kb_29 ?_
  refine mw_dup2 dX10_dies_46 rfl rfl ?_
  refine tw_iald dX10_dies_47 shM_4 (bd_in n_29 (by decide)) (fun v126 ev126 => ?_)
  rw [cl_29] at ev126
  refine mw_iconst dX10_dies_48 ki_1 ?_
  refine mw_iadd dX10_dies_49 (fun v127 ev127 => ?_)
  refine tw_iast dX10_dies_50 shM_4 (bd_in n_29 (by decide)) ?_
  rw [cl_29]
  have hI128 : JM (mm_up S124 4 29 v127) := JIM_put hI123 (bd_all v127) (by decide +kernel)
  generalize hS129 : (mm_up S124 4 29 v127) = S129 at hI128 ⊢
  have hF130 := fr_upA hF125 hS129 (by decide)
  refine mw_iload_n dX10_dies_51 rfl 2 rfl ?_
  refine mw_bipush dX10_dies_52 kb_9 ?_
  refine mw_icmp_eq (tgt := 122) dX10_dies_54 (by decide) (fun q131 => ?_) (fun q131 => ?_)
  · skip
    have b132 : mm_b (9) (9) v103 := bd_eq_l q131 b104 n_9 (by decide)
    refine mw_iconst dX10_dies_122 ki_0 ?_
    refine mw_istore (ls' := [(6, .int 0), (5, .int (-1)), (4, .int v107), (3, .int v103), (0, .ref 0), (1, .ref 4), (2, .int x2)]) dX10_dies_123 (by decide) rfl ?_
    have cut125 : ∀ (N125 : Nat) (S133 : mm_S) (y136 y138 y140 : Int32), ((8 : Int) - y140.toInt).toNat < N125 → JM S133 → fr [4] [] true true S S133 → mm_b (-2147483648) (2147483647) y136 → mm_b (-1) (6) y138 → mm_b (0) (7) y140 → mw g RX10 cX10_dies 8 (some .int) false (mm_rm 2) (qi shM (fun S1 v => JM S1 ∧ fr [4] [] true true S S1 ∧ mm_b (-1) (6) v ∧ (True))) 0 0 (mm_enc shM S133) 125 [(0, .ref 0), (1, .ref 4), (4, .int y136), (5, .int y138), (6, .int y140)] [] := by
      intro N125
      induction N125 with
      | zero =>
        intro S133 y136 y138 y140 hm142 hI134 hF135 b137 b139 b141
        exact absurd hm142 (Nat.not_lt_zero _)
      | succ N125 ih125 =>
        intro S133 y136 y138 y140 hm142 hI134 hF135 b137 b139 b141
        refine mw_iload dX10_dies_125 4 rfl ?_
        refine mw_bipush dX10_dies_127 kb_7 ?_
        refine mw_icmp_ge (tgt := 169) dX10_dies_129 (by decide) (fun q143 => ?_) (fun q143 => ?_)
        · skip
          have b144 : mm_b (7) (7) y140 := bd_le_r q143 n_7 b141 (by decide)
          refine mw_iload dX10_dies_169 3 rfl ?_
          exact mw_iret rfl dX10_dies_171 rfl rfl ⟨S133, _, rfl, rfl, hI134, hF135, b139, trivial⟩
        · skip
          have b145 : mm_b (0) (6) y140 := bd_lt_l (bd_nle q143) b141 n_7 (by decide)
          refine mw_aload_n dX10_dies_132 rfl 0 rfl ?_
          refine mw_aload_n dX10_dies_133 rfl 1 rfl ?_
          refine tc_Vi (as := [.ref 4]) (st := []) dX10_dies_134 rfl shM_0 rfl rfl mX10_159 t_X10_leastMute rfl (Nat.le_of_ble_eq_true rfl) (by decide) (by decide) (c_X10_leastMute4 (g := g) S133 hI134) (fun S146 v148 h147 => ?_)
          obtain ⟨rfl, b149, x150⟩ := h147
          refine mw_istore (ls' := [(7, .int v148), (0, .ref 0), (1, .ref 4), (4, .int y136), (5, .int y138), (6, .int y140)]) dX10_dies_137 (by decide) rfl ?_
          refine mw_iload dX10_dies_139 3 rfl ?_
          refine mw_iload dX10_dies_141 5 rfl ?_
          refine tc_Si (as := [.int y136, .int y140]) (st := []) dX10_dies_143 rfl mX10_134 t_X10_isIn rfl (Nat.le_of_ble_eq_true rfl) (by decide) (by decide) (c_X10_isIn (g := g) S133 hI134 y136 y140) (fun S151 v153 h152 => ?_)
          obtain ⟨rfl, b154, x155⟩ := h152
          refine mw_if_eq (tgt := 163) dX10_dies_146 (by decide) (fun q156 => ?_) (fun q156 => ?_)
          · skip
            have b157 : mm_b (0) (0) v153 := bd_eq_l q156 b154 n_0 (by decide)
            refine mw_iinc (ls' := fun v => [(6, .int v), (7, .int v148), (0, .ref 0), (1, .ref 4), (4, .int y136), (5, .int y138)]) dX10_dies_163 5 rfl (by decide) (fun _ => rfl) (fun v158 ev158 => ?_)
            have b159 : mm_b (1) (7) v158 := bd_inc ev158 b145 (by decide)
            refine mw_goto (tgt := 125) dX10_dies_166 (by decide) ?_
            refine mw_ls [2, 3, 4, 5, 0] rfl ?_
            exact ih125 S133 y136 y138 v158 (ms_inc ev158 b145 (by decide) hm142) hI134 hF135 b137 b139 (bd_w b159 (by decide))
          · skip
            have b160 : mm_b (1) (1) v153 := bd_ne_l q156 b154 n_0 (by decide)
            refine mw_iload dX10_dies_149 0 rfl ?_
            refine mw_iconst dX10_dies_151 ki_m1 ?_
            refine mw_icmp_eq (tgt := 163) dX10_dies_152 (by decide) (fun q161 => ?_) (fun q161 => ?_)
            · skip
              have b162 : mm_b (-1) (-1) v148 := bd_eq_l q161 b149 n_m1 (by decide)
              refine mw_iinc (ls' := fun v => [(6, .int v), (7, .int v148), (0, .ref 0), (1, .ref 4), (4, .int y136), (5, .int y138)]) dX10_dies_163 5 rfl (by decide) (fun _ => rfl) (fun v163 ev163 => ?_)
              have b164 : mm_b (1) (7) v163 := bd_inc ev163 b145 (by decide)
              refine mw_goto (tgt := 125) dX10_dies_166 (by decide) ?_
              refine mw_ls [2, 3, 4, 5, 0] rfl ?_
              exact ih125 S133 y136 y138 v163 (ms_inc ev163 b145 (by decide) hm142) hI134 hF135 b137 b139 (bd_w b164 (by decide))
            · skip
              have b165 : mm_b (0) (6) v148 := bd_ne_l q161 b149 n_m1 (by decide)
              refine mw_aload_n dX10_dies_155 rfl 2 rfl ?_
              refine mw_iconst dX10_dies_156 ki_0 ?_
              refine mw_iload dX10_dies_157 0 rfl ?_
              refine mw_iadd dX10_dies_159 (fun v166 ev166 => ?_)
              have b167 : mm_b (0) (6) v166 := bd_add ev166 n_0 b165 (by decide)
              refine mw_iload dX10_dies_160 5 rfl ?_
              refine tw_iast dX10_dies_162 shM_4 (bd_in b167 (by decide)) ?_
              have hI168 : JM (mm_up S133 4 v166.toNatClampNeg y140) := JIM_puta hI134 b145 b167 (by decide) (by decide +kernel)
              generalize hS169 : (mm_up S133 4 v166.toNatClampNeg y140) = S169 at hI168 ⊢
              have hF170 := fr_upA hF135 hS169 (by decide)
              refine mw_iinc (ls' := fun v => [(6, .int v), (7, .int v148), (0, .ref 0), (1, .ref 4), (4, .int y136), (5, .int y138)]) dX10_dies_163 5 rfl (by decide) (fun _ => rfl) (fun v171 ev171 => ?_)
              have b172 : mm_b (1) (7) v171 := bd_inc ev171 b145 (by decide)
              refine mw_goto (tgt := 125) dX10_dies_166 (by decide) ?_
              refine mw_ls [2, 3, 4, 5, 0] rfl ?_
              exact ih125 S169 y136 y138 v171 (ms_inc ev171 b145 (by decide) hm142) hI168 hF170 b137 b139 (bd_w b172 (by decide))
    refine mw_ls [4, 5, 2, 1, 0] rfl ?_
    exact cut125 _ S129 v107 (-1 : Int32) (0 : Int32) (Nat.lt_succ_self _) hI128 hF130 (bd_all v107) (bd_w n_m1 (by decide)) (bd_w n_0 (by decide))
  · skip
    have b173 : mm_b (0) (8) v103 := bd_ne_l q131 b104 n_9 (by decide)
    refine mw_aload_n dX10_dies_57 rfl 4 rfl ?_
    refine mw_aload_n dX10_dies_58 rfl 4 rfl ?_
    refine mw_bipush dX10_dies_59 kb_14 ?_
    refine mw_iload_n dX10_dies_61 rfl 5 rfl ?_
    refine mw_iadd dX10_dies_62 (fun v174 ev174 => ?_)
    have b175 : mm_b (14) (20) v174 := bd_add ev174 n_14 h2 (by decide)
    refine tw_iald dX10_dies_63 shM_4 (bd_in b175 (by decide)) (fun v176 ev176 => ?_)
    have b177 : mm_b (0) (9) v176 := JIM_elt hI128 ev176 b175 tbM_34 (by decide)
    refine tc_Si (as := [.ref 4, .int v176]) (st := []) dX10_dies_64 rfl mX10_155 t_X10_lives rfl (Nat.le_of_ble_eq_true rfl) (by decide) (by decide) (c_X10_lives4 (g := g) S129 hI128 v176 b177) (fun S178 v180 h179 => ?_)
    obtain ⟨rfl, b181, x182⟩ := h179
    have cut106 : ∀ (S183 : mm_S) (y186 y188 y190 : Int32), JM S183 → fr [4] [] true true S S183 → mm_b (0) (8) y186 → mm_b (-2147483648) (2147483647) y188 → mm_b (-1) (6) y190 → mw g RX10 cX10_dies 8 (some .int) false (mm_rm 2) (qi shM (fun S1 v => JM S1 ∧ fr [4] [] true true S S1 ∧ mm_b (-1) (6) v ∧ (True))) 0 0 (mm_enc shM S183) 106 [(0, .ref 0), (1, .ref 4), (3, .int y186), (4, .int y188)] [.int y190] := by
      intro S183 y186 y188 y190 hI184 hF185 b187 b189 b191
      refine mw_istore (ls' := [(5, .int y190), (0, .ref 0), (1, .ref 4), (3, .int y186), (4, .int y188)]) dX10_dies_106 (by decide) rfl ?_
      refine mw_iload dX10_dies_108 0 rfl ?_
      refine mw_iconst dX10_dies_110 ki_m1 ?_
      refine mw_icmp_eq (tgt := 122) dX10_dies_111 (by decide) (fun q192 => ?_) (fun q192 => ?_)
      · skip
        have b193 : mm_b (-1) (-1) y190 := bd_eq_l q192 b191 n_m1 (by decide)
        refine mw_iconst dX10_dies_122 ki_0 ?_
        refine mw_istore (ls' := [(6, .int 0), (5, .int y190), (0, .ref 0), (1, .ref 4), (3, .int y186), (4, .int y188)]) dX10_dies_123 (by decide) rfl ?_
        have cut125 : ∀ (N125 : Nat) (S194 : mm_S) (y197 y199 y201 : Int32), ((8 : Int) - y201.toInt).toNat < N125 → JM S194 → fr [4] [] true true S S194 → mm_b (-2147483648) (2147483647) y197 → mm_b (-1) (6) y199 → mm_b (0) (7) y201 → mw g RX10 cX10_dies 8 (some .int) false (mm_rm 2) (qi shM (fun S1 v => JM S1 ∧ fr [4] [] true true S S1 ∧ mm_b (-1) (6) v ∧ (True))) 0 0 (mm_enc shM S194) 125 [(0, .ref 0), (1, .ref 4), (4, .int y197), (5, .int y199), (6, .int y201)] [] := by
          intro N125
          induction N125 with
          | zero =>
            intro S194 y197 y199 y201 hm203 hI195 hF196 b198 b200 b202
            exact absurd hm203 (Nat.not_lt_zero _)
          | succ N125 ih125 =>
            intro S194 y197 y199 y201 hm203 hI195 hF196 b198 b200 b202
            refine mw_iload dX10_dies_125 4 rfl ?_
            refine mw_bipush dX10_dies_127 kb_7 ?_
            refine mw_icmp_ge (tgt := 169) dX10_dies_129 (by decide) (fun q204 => ?_) (fun q204 => ?_)
            · skip
              have b205 : mm_b (7) (7) y201 := bd_le_r q204 n_7 b202 (by decide)
              refine mw_iload dX10_dies_169 3 rfl ?_
              exact mw_iret rfl dX10_dies_171 rfl rfl ⟨S194, _, rfl, rfl, hI195, hF196, b200, trivial⟩
            · skip
              have b206 : mm_b (0) (6) y201 := bd_lt_l (bd_nle q204) b202 n_7 (by decide)
              refine mw_aload_n dX10_dies_132 rfl 0 rfl ?_
              refine mw_aload_n dX10_dies_133 rfl 1 rfl ?_
              refine tc_Vi (as := [.ref 4]) (st := []) dX10_dies_134 rfl shM_0 rfl rfl mX10_159 t_X10_leastMute rfl (Nat.le_of_ble_eq_true rfl) (by decide) (by decide) (c_X10_leastMute4 (g := g) S194 hI195) (fun S207 v209 h208 => ?_)
              obtain ⟨rfl, b210, x211⟩ := h208
              refine mw_istore (ls' := [(7, .int v209), (0, .ref 0), (1, .ref 4), (4, .int y197), (5, .int y199), (6, .int y201)]) dX10_dies_137 (by decide) rfl ?_
              refine mw_iload dX10_dies_139 3 rfl ?_
              refine mw_iload dX10_dies_141 5 rfl ?_
              refine tc_Si (as := [.int y197, .int y201]) (st := []) dX10_dies_143 rfl mX10_134 t_X10_isIn rfl (Nat.le_of_ble_eq_true rfl) (by decide) (by decide) (c_X10_isIn (g := g) S194 hI195 y197 y201) (fun S212 v214 h213 => ?_)
              obtain ⟨rfl, b215, x216⟩ := h213
              refine mw_if_eq (tgt := 163) dX10_dies_146 (by decide) (fun q217 => ?_) (fun q217 => ?_)
              · skip
                have b218 : mm_b (0) (0) v214 := bd_eq_l q217 b215 n_0 (by decide)
                refine mw_iinc (ls' := fun v => [(6, .int v), (7, .int v209), (0, .ref 0), (1, .ref 4), (4, .int y197), (5, .int y199)]) dX10_dies_163 5 rfl (by decide) (fun _ => rfl) (fun v219 ev219 => ?_)
                have b220 : mm_b (1) (7) v219 := bd_inc ev219 b206 (by decide)
                refine mw_goto (tgt := 125) dX10_dies_166 (by decide) ?_
                refine mw_ls [2, 3, 4, 5, 0] rfl ?_
                exact ih125 S194 y197 y199 v219 (ms_inc ev219 b206 (by decide) hm203) hI195 hF196 b198 b200 (bd_w b220 (by decide))
              · skip
                have b221 : mm_b (1) (1) v214 := bd_ne_l q217 b215 n_0 (by decide)
                refine mw_iload dX10_dies_149 0 rfl ?_
                refine mw_iconst dX10_dies_151 ki_m1 ?_
                refine mw_icmp_eq (tgt := 163) dX10_dies_152 (by decide) (fun q222 => ?_) (fun q222 => ?_)
                · skip
                  have b223 : mm_b (-1) (-1) v209 := bd_eq_l q222 b210 n_m1 (by decide)
                  refine mw_iinc (ls' := fun v => [(6, .int v), (7, .int v209), (0, .ref 0), (1, .ref 4), (4, .int y197), (5, .int y199)]) dX10_dies_163 5 rfl (by decide) (fun _ => rfl) (fun v224 ev224 => ?_)
                  have b225 : mm_b (1) (7) v224 := bd_inc ev224 b206 (by decide)
                  refine mw_goto (tgt := 125) dX10_dies_166 (by decide) ?_
                  refine mw_ls [2, 3, 4, 5, 0] rfl ?_
                  exact ih125 S194 y197 y199 v224 (ms_inc ev224 b206 (by decide) hm203) hI195 hF196 b198 b200 (bd_w b225 (by decide))
                · skip
                  have b226 : mm_b (0) (6) v209 := bd_ne_l q222 b210 n_m1 (by decide)
                  refine mw_aload_n dX10_dies_155 rfl 2 rfl ?_
                  refine mw_iconst dX10_dies_156 ki_0 ?_
                  refine mw_iload dX10_dies_157 0 rfl ?_
                  refine mw_iadd dX10_dies_159 (fun v227 ev227 => ?_)
                  have b228 : mm_b (0) (6) v227 := bd_add ev227 n_0 b226 (by decide)
                  refine mw_iload dX10_dies_160 5 rfl ?_
                  refine tw_iast dX10_dies_162 shM_4 (bd_in b228 (by decide)) ?_
                  have hI229 : JM (mm_up S194 4 v227.toNatClampNeg y201) := JIM_puta hI195 b206 b228 (by decide) (by decide +kernel)
                  generalize hS230 : (mm_up S194 4 v227.toNatClampNeg y201) = S230 at hI229 ⊢
                  have hF231 := fr_upA hF196 hS230 (by decide)
                  refine mw_iinc (ls' := fun v => [(6, .int v), (7, .int v209), (0, .ref 0), (1, .ref 4), (4, .int y197), (5, .int y199)]) dX10_dies_163 5 rfl (by decide) (fun _ => rfl) (fun v232 ev232 => ?_)
                  have b233 : mm_b (1) (7) v232 := bd_inc ev232 b206 (by decide)
                  refine mw_goto (tgt := 125) dX10_dies_166 (by decide) ?_
                  refine mw_ls [2, 3, 4, 5, 0] rfl ?_
                  exact ih125 S230 y197 y199 v232 (ms_inc ev232 b206 (by decide) hm203) hI229 hF231 b198 b200 (bd_w b233 (by decide))
        refine mw_ls [2, 3, 5, 1, 0] rfl ?_
        exact cut125 _ S183 y188 y190 (0 : Int32) (Nat.lt_succ_self _) hI184 hF185 b189 (bd_w b193 (by decide)) (bd_w n_0 (by decide))
      · skip
        have b234 : mm_b (0) (6) y190 := bd_ne_l q192 b191 n_m1 (by decide)
        refine mw_aload_n dX10_dies_114 rfl 1 rfl ?_
        refine mw_aload_n dX10_dies_115 rfl 2 rfl ?_
        refine mw_iload dX10_dies_116 0 rfl ?_
        refine mw_iload_n dX10_dies_118 rfl 3 rfl ?_
        refine tc_Vv (as := [.ref 4, .int y190, .int y186]) (st := []) dX10_dies_119 rfl shM_0 rfl rfl mX10_163 t_X10_gets rfl (Nat.le_of_ble_eq_true rfl) (by decide) (by decide) (c_X10_gets4 (g := g) S183 hI184 y190 b234 y186 (bd_w b187 (by decide))) (fun S235 h236 => ?_)
        obtain ⟨hI238, hf239, x237⟩ := h236
        have hF240 := fr_tr hF185 hf239 (by decide) (by decide) (by decide) (by decide)
        refine mw_iconst dX10_dies_122 ki_0 ?_
        refine mw_istore (ls' := [(6, .int 0), (5, .int y190), (0, .ref 0), (1, .ref 4), (3, .int y186), (4, .int y188)]) dX10_dies_123 (by decide) rfl ?_
        have cut125 : ∀ (N125 : Nat) (S241 : mm_S) (y244 y246 y248 : Int32), ((8 : Int) - y248.toInt).toNat < N125 → JM S241 → fr [4] [] true true S S241 → mm_b (-2147483648) (2147483647) y244 → mm_b (-1) (6) y246 → mm_b (0) (7) y248 → mw g RX10 cX10_dies 8 (some .int) false (mm_rm 2) (qi shM (fun S1 v => JM S1 ∧ fr [4] [] true true S S1 ∧ mm_b (-1) (6) v ∧ (True))) 0 0 (mm_enc shM S241) 125 [(0, .ref 0), (1, .ref 4), (4, .int y244), (5, .int y246), (6, .int y248)] [] := by
          intro N125
          induction N125 with
          | zero =>
            intro S241 y244 y246 y248 hm250 hI242 hF243 b245 b247 b249
            exact absurd hm250 (Nat.not_lt_zero _)
          | succ N125 ih125 =>
            intro S241 y244 y246 y248 hm250 hI242 hF243 b245 b247 b249
            refine mw_iload dX10_dies_125 4 rfl ?_
            refine mw_bipush dX10_dies_127 kb_7 ?_
            refine mw_icmp_ge (tgt := 169) dX10_dies_129 (by decide) (fun q251 => ?_) (fun q251 => ?_)
            · skip
              have b252 : mm_b (7) (7) y248 := bd_le_r q251 n_7 b249 (by decide)
              refine mw_iload dX10_dies_169 3 rfl ?_
              exact mw_iret rfl dX10_dies_171 rfl rfl ⟨S241, _, rfl, rfl, hI242, hF243, b247, trivial⟩
            · skip
              have b253 : mm_b (0) (6) y248 := bd_lt_l (bd_nle q251) b249 n_7 (by decide)
              refine mw_aload_n dX10_dies_132 rfl 0 rfl ?_
              refine mw_aload_n dX10_dies_133 rfl 1 rfl ?_
              refine tc_Vi (as := [.ref 4]) (st := []) dX10_dies_134 rfl shM_0 rfl rfl mX10_159 t_X10_leastMute rfl (Nat.le_of_ble_eq_true rfl) (by decide) (by decide) (c_X10_leastMute4 (g := g) S241 hI242) (fun S254 v256 h255 => ?_)
              obtain ⟨rfl, b257, x258⟩ := h255
              refine mw_istore (ls' := [(7, .int v256), (0, .ref 0), (1, .ref 4), (4, .int y244), (5, .int y246), (6, .int y248)]) dX10_dies_137 (by decide) rfl ?_
              refine mw_iload dX10_dies_139 3 rfl ?_
              refine mw_iload dX10_dies_141 5 rfl ?_
              refine tc_Si (as := [.int y244, .int y248]) (st := []) dX10_dies_143 rfl mX10_134 t_X10_isIn rfl (Nat.le_of_ble_eq_true rfl) (by decide) (by decide) (c_X10_isIn (g := g) S241 hI242 y244 y248) (fun S259 v261 h260 => ?_)
              obtain ⟨rfl, b262, x263⟩ := h260
              refine mw_if_eq (tgt := 163) dX10_dies_146 (by decide) (fun q264 => ?_) (fun q264 => ?_)
              · skip
                have b265 : mm_b (0) (0) v261 := bd_eq_l q264 b262 n_0 (by decide)
                refine mw_iinc (ls' := fun v => [(6, .int v), (7, .int v256), (0, .ref 0), (1, .ref 4), (4, .int y244), (5, .int y246)]) dX10_dies_163 5 rfl (by decide) (fun _ => rfl) (fun v266 ev266 => ?_)
                have b267 : mm_b (1) (7) v266 := bd_inc ev266 b253 (by decide)
                refine mw_goto (tgt := 125) dX10_dies_166 (by decide) ?_
                refine mw_ls [2, 3, 4, 5, 0] rfl ?_
                exact ih125 S241 y244 y246 v266 (ms_inc ev266 b253 (by decide) hm250) hI242 hF243 b245 b247 (bd_w b267 (by decide))
              · skip
                have b268 : mm_b (1) (1) v261 := bd_ne_l q264 b262 n_0 (by decide)
                refine mw_iload dX10_dies_149 0 rfl ?_
                refine mw_iconst dX10_dies_151 ki_m1 ?_
                refine mw_icmp_eq (tgt := 163) dX10_dies_152 (by decide) (fun q269 => ?_) (fun q269 => ?_)
                · skip
                  have b270 : mm_b (-1) (-1) v256 := bd_eq_l q269 b257 n_m1 (by decide)
                  refine mw_iinc (ls' := fun v => [(6, .int v), (7, .int v256), (0, .ref 0), (1, .ref 4), (4, .int y244), (5, .int y246)]) dX10_dies_163 5 rfl (by decide) (fun _ => rfl) (fun v271 ev271 => ?_)
                  have b272 : mm_b (1) (7) v271 := bd_inc ev271 b253 (by decide)
                  refine mw_goto (tgt := 125) dX10_dies_166 (by decide) ?_
                  refine mw_ls [2, 3, 4, 5, 0] rfl ?_
                  exact ih125 S241 y244 y246 v271 (ms_inc ev271 b253 (by decide) hm250) hI242 hF243 b245 b247 (bd_w b272 (by decide))
                · skip
                  have b273 : mm_b (0) (6) v256 := bd_ne_l q269 b257 n_m1 (by decide)
                  refine mw_aload_n dX10_dies_155 rfl 2 rfl ?_
                  refine mw_iconst dX10_dies_156 ki_0 ?_
                  refine mw_iload dX10_dies_157 0 rfl ?_
                  refine mw_iadd dX10_dies_159 (fun v274 ev274 => ?_)
                  have b275 : mm_b (0) (6) v274 := bd_add ev274 n_0 b273 (by decide)
                  refine mw_iload dX10_dies_160 5 rfl ?_
                  refine tw_iast dX10_dies_162 shM_4 (bd_in b275 (by decide)) ?_
                  have hI276 : JM (mm_up S241 4 v274.toNatClampNeg y248) := JIM_puta hI242 b253 b275 (by decide) (by decide +kernel)
                  generalize hS277 : (mm_up S241 4 v274.toNatClampNeg y248) = S277 at hI276 ⊢
                  have hF278 := fr_upA hF243 hS277 (by decide)
                  refine mw_iinc (ls' := fun v => [(6, .int v), (7, .int v256), (0, .ref 0), (1, .ref 4), (4, .int y244), (5, .int y246)]) dX10_dies_163 5 rfl (by decide) (fun _ => rfl) (fun v279 ev279 => ?_)
                  have b280 : mm_b (1) (7) v279 := bd_inc ev279 b253 (by decide)
                  refine mw_goto (tgt := 125) dX10_dies_166 (by decide) ?_
                  refine mw_ls [2, 3, 4, 5, 0] rfl ?_
                  exact ih125 S277 y244 y246 v279 (ms_inc ev279 b253 (by decide) hm250) hI276 hF278 b245 b247 (bd_w b280 (by decide))
        refine mw_ls [2, 3, 5, 1, 0] rfl ?_
        exact cut125 _ S235 y188 y190 (0 : Int32) (Nat.lt_succ_self _) hI238 hF240 b189 (bd_w b234 (by decide)) (bd_w n_0 (by decide))
    refine mw_if_eq (tgt := 79) dX10_dies_67 (by decide) (fun q281 => ?_) (fun q281 => ?_)
    · skip
      have b282 : mm_b (0) (0) v180 := bd_eq_l q281 b181 n_0 (by decide)
      refine mw_aload_n dX10_dies_79 rfl 4 rfl ?_
      refine mw_aload_n dX10_dies_80 rfl 4 rfl ?_
      refine mw_bipush dX10_dies_81 kb_21 ?_
      refine mw_iload_n dX10_dies_83 rfl 5 rfl ?_
      refine mw_iadd dX10_dies_84 (fun v283 ev283 => ?_)
      have b284 : mm_b (21) (27) v283 := bd_add ev283 n_21 h2 (by decide)
      refine tw_iald dX10_dies_85 shM_4 (bd_in b284 (by decide)) (fun v285 ev285 => ?_)
      have b286 : mm_b (0) (9) v285 := JIM_elt hI128 ev285 b284 tbM_34 (by decide)
      refine tc_Si (as := [.ref 4, .int v285]) (st := []) dX10_dies_86 rfl mX10_155 t_X10_lives rfl (Nat.le_of_ble_eq_true rfl) (by decide) (by decide) (c_X10_lives4 (g := g) S129 hI128 v285 b286) (fun S287 v289 h288 => ?_)
      obtain ⟨rfl, b290, x291⟩ := h288
      refine mw_if_eq (tgt := 101) dX10_dies_89 (by decide) (fun q292 => ?_) (fun q292 => ?_)
      · skip
        have b293 : mm_b (0) (0) v289 := bd_eq_l q292 b290 n_0 (by decide)
        refine mw_aload_n dX10_dies_101 rfl 3 rfl ?_
        refine mw_aload_n dX10_dies_102 rfl 4 rfl ?_
        refine tc_Vi (as := [.ref 4]) (st := []) dX10_dies_103 rfl shM_0 rfl rfl mX10_159 t_X10_leastMute rfl (Nat.le_of_ble_eq_true rfl) (by decide) (by decide) (c_X10_leastMute4 (g := g) S129 hI128) (fun S294 v296 h295 => ?_)
        obtain ⟨rfl, b297, x298⟩ := h295
        refine mw_ls [3, 4, 2, 1] rfl ?_
        exact cut106 S129 v103 v107 v296 hI128 hF130 b173 (bd_all v107) b297
      · skip
        have b299 : mm_b (1) (1) v289 := bd_ne_l q292 b290 n_0 (by decide)
        have b300 := Or.resolve_left x291 q292
        refine mw_aload_n dX10_dies_92 rfl 4 rfl ?_
        refine mw_bipush dX10_dies_93 kb_21 ?_
        refine mw_iload_n dX10_dies_95 rfl 5 rfl ?_
        refine mw_iadd dX10_dies_96 (fun v301 ev301 => ?_)
        have cv301 : v283 = v301 := ev283.trans ev301.symm
        subst cv301
        refine tw_iald dX10_dies_97 shM_4 (bd_in b284 (by decide)) (fun v302 ev302 => ?_)
        have cv302 : v285 = v302 := ev285.trans ev302.symm
        subst cv302
        refine mw_goto (tgt := 106) dX10_dies_98 (by decide) ?_
        refine mw_ls [3, 4, 2, 1] rfl ?_
        exact cut106 S129 v103 v107 v285 hI128 hF130 b173 (bd_all v107) (bd_w b300 (by decide))
    · skip
      have b303 : mm_b (1) (1) v180 := bd_ne_l q281 b181 n_0 (by decide)
      have b304 := Or.resolve_left x182 q281
      refine mw_aload_n dX10_dies_70 rfl 4 rfl ?_
      refine mw_bipush dX10_dies_71 kb_14 ?_
      refine mw_iload_n dX10_dies_73 rfl 5 rfl ?_
      refine mw_iadd dX10_dies_74 (fun v305 ev305 => ?_)
      have cv305 : v174 = v305 := ev174.trans ev305.symm
      subst cv305
      refine tw_iald dX10_dies_75 shM_4 (bd_in b175 (by decide)) (fun v306 ev306 => ?_)
      have cv306 : v176 = v306 := ev176.trans ev306.symm
      subst cv306
      refine mw_goto (tgt := 106) dX10_dies_76 (by decide) ?_
      refine mw_ls [3, 4, 2, 1] rfl ?_
      exact cut106 S129 v103 v107 v176 hI128 hF130 b173 (bd_all v107) (bd_w b304 (by decide))
set_option maxRecDepth 100000 in
set_option maxHeartbeats 4000000 in
theorem c_X10_layAside {g : mm_G} (S : mm_S) (hI : JM S)  : mc g yX10_layAside cX10_layAside 1 none (mm_rm 1) [.ref 0] (mm_enc shM S) (qv shM (fun S1 => JM S1 ∧ fr [4] [] true true S S1 ∧ True)) := by
  refine mc_of2 (own := RX10) (ini := false) (ls := [(0, .ref 0)]) (by decide) (Nat.le_of_ble_eq_true rfl) rfl (by decide) rfl ?_
  have hF : fr [4] [] true true S S := fr_rf
  refine mw_aload_n dX10_layAside_0 rfl 0 rfl ?_
  refine tw_getr (j := 2) dX10_layAside_1 shM_0 rfl rfl (by decide) fX10_16 ?_
  refine mw_iconst dX10_layAside_4 ki_0 ?_
  refine mw_aload_n dX10_layAside_5 rfl 0 rfl ?_
  refine tw_getr (j := 3) dX10_layAside_6 shM_0 rfl rfl (by decide) fX10_19 ?_
  refine mw_iconst dX10_layAside_9 ki_0 ?_
  refine mw_bipush dX10_layAside_10 kb_30 ?_
  refine tc_Sv (as := [.ref 3, .int 0, .ref 4, .int 0, .int 30]) (st := []) dX10_layAside_12 rfl mX10_66 t_X10_copies rfl (Nat.le_of_ble_eq_true rfl) (by decide) (by decide) (c_X10_copies_34 (g := g) S hI (0 : Int32) n_0 (0 : Int32) n_0 (30 : Int32) n_30) (fun S101 h102 => ?_)
  obtain ⟨hI104, hf105, x103⟩ := h102
  have hF106 := fr_tr hF hf105 (by decide) (by decide) (by decide) (by decide)
  exact mw_vret rfl dX10_layAside_15 rfl rfl ⟨S101, rfl, rfl, ⟨hI104, hF106, trivial⟩⟩
set_option maxRecDepth 100000 in
set_option maxHeartbeats 4000000 in
theorem c_X10_maySing {g : mm_G} (S : mm_S) (hI : JM S) (x1 : Int32) (h1 : mm_b (0) (6) x1) (x2 : Int32) (h2 : mm_b (0) (5) x2) : mc g yX10_maySing cX10_maySing 4 (some .boolean) (mm_rm 2) [.ref 0, .int x1, .int x2] (mm_enc shM S) (qi shM (fun S1 v => S = S1 ∧ mm_b (0) (1) v ∧ ((v = 0 ∧ ¬ mayF S x1 x2) ∨ (v = 1 ∧ mayF S x1 x2)))) := by
  refine mc_of2 (own := RX10) (ini := false) (ls := [(0, .ref 0), (1, .int x1), (2, .int x2)]) (by decide) (Nat.le_of_ble_eq_true rfl) rfl (by decide) rfl ?_
  refine mw_aload_n dX10_maySing_0 rfl 0 rfl ?_
  refine tw_getr (j := 2) dX10_maySing_1 shM_0 rfl rfl (by decide) fX10_16 ?_
  refine mw_iconst dX10_maySing_4 ki_0 ?_
  refine mw_iload_n dX10_maySing_5 rfl 1 rfl ?_
  refine mw_iadd dX10_maySing_6 (fun v101 ev101 => ?_)
  have b102 : mm_b (0) (6) v101 := bd_add ev101 n_0 h1 (by decide)
  refine tw_iald dX10_maySing_7 shM_3 (bd_in b102 (by decide)) (fun v103 ev103 => ?_)
  have b104 : mm_b (0) (9) v103 := JIM_elt hI ev103 b102 tbM_30 (by decide)
  refine mw_istore_n (ls' := [(3, .int v103), (0, .ref 0), (1, .int x1), (2, .int x2)]) dX10_maySing_8 rfl (by decide) rfl ?_
  refine mw_aload_n dX10_maySing_9 rfl 1 rfl ?_
  refine mw_iload_n dX10_maySing_10 rfl 2 rfl ?_
  refine tc_Vi (as := [.int x1]) (st := []) dX10_maySing_11 rfl shM_0 rfl rfl mX10_167 t_X10_isAlive rfl (Nat.le_of_ble_eq_true rfl) (by decide) (by decide) (c_X10_isAlive (g := g) S hI x1) (fun S105 v107 h106 => ?_)
  obtain ⟨rfl, b108, x109⟩ := h106
  refine mw_if_eq (tgt := 52) dX10_maySing_14 (by decide) (fun q110 => ?_) (fun q110 => ?_)
  · skip
    have b111 : mm_b (0) (0) v107 := bd_eq_l q110 b108 n_0 (by decide)
    refine mw_iconst dX10_maySing_52 ki_0 ?_
    exact mw_zret rfl (bd_nar n_0 (by decide)) dX10_maySing_53 rfl rfl ⟨S, _, rfl, rfl, rfl, bd_w n_0 (by decide), Or.inl ⟨rfl, fun h => al_no x109 b111 h.1⟩⟩
  · skip
    have b112 : mm_b (1) (1) v107 := bd_ne_l q110 b108 n_0 (by decide)
    refine mw_iload_n dX10_maySing_17 rfl 0 rfl ?_
    refine mw_bipush dX10_maySing_18 kb_9 ?_
    refine mw_icmp_eq (tgt := 52) dX10_maySing_20 (by decide) (fun q113 => ?_) (fun q113 => ?_)
    · skip
      have b114 : mm_b (9) (9) v103 := bd_eq_l q113 b104 n_9 (by decide)
      refine mw_iconst dX10_maySing_52 ki_0 ?_
      exact mw_zret rfl (bd_nar n_0 (by decide)) dX10_maySing_53 rfl rfl ⟨S, _, rfl, rfl, rfl, bd_w n_0 (by decide), Or.inl ⟨rfl, fun h => h.2.1 (by rw [← ev101, ← ev103]; exact q113)⟩⟩
    · skip
      have b115 : mm_b (0) (8) v103 := bd_ne_l q113 b104 n_9 (by decide)
      refine mw_aload_n dX10_maySing_23 rfl 1 rfl ?_
      refine tw_getr (j := 0) dX10_maySing_24 shM_0 rfl rfl (by decide) fX10_7 ?_
      refine mw_iconst dX10_maySing_27 ki_3 ?_
      refine mw_iload_n dX10_maySing_28 rfl 0 rfl ?_
      refine mw_iadd dX10_maySing_29 (fun v116 ev116 => ?_)
      have b117 : mm_b (3) (11) v116 := bd_add ev116 n_3 b115 (by decide)
      refine tw_iald dX10_maySing_30 shM_1 (bd_in b117 (by decide)) (fun v118 ev118 => ?_)
      refine mw_aload_n dX10_maySing_31 rfl 1 rfl ?_
      refine tw_getr (j := 0) dX10_maySing_32 shM_0 rfl rfl (by decide) fX10_7 ?_
      refine mw_bipush dX10_maySing_35 kb_31 ?_
      refine mw_iload_n dX10_maySing_37 rfl 3 rfl ?_
      refine mw_iadd dX10_maySing_38 (fun v119 ev119 => ?_)
      have b120 : mm_b (31) (36) v119 := bd_add ev119 n_31 h2 (by decide)
      refine tw_iald dX10_maySing_39 shM_1 (bd_in b120 (by decide)) (fun v121 ev121 => ?_)
      have b122 : mm_b (0) (8) v121 := JIM_elt hI ev121 b120 tbM_22 (by decide)
      refine mw_isub dX10_maySing_40 (fun v123 ev123 => ?_)
      refine tc_Si (as := [.int v123]) (st := []) dX10_maySing_41 rfl mX10_248 t_X10_abs rfl (Nat.le_of_ble_eq_true rfl) (by decide) (by decide) (c_X10_abs (g := g) S hI v123) (fun S124 v126 h125 => ?_)
      obtain ⟨rfl, b127, x128⟩ := h125
      refine mw_iconst dX10_maySing_44 ki_2 ?_
      refine mw_icmp_ge (tgt := 52) dX10_maySing_45 (by decide) (fun q129 => ?_) (fun q129 => ?_)
      · skip
        have b130 : mm_b (2) (2147483647) v126 := bd_le_r q129 n_2 b127 (by decide)
        refine mw_iconst dX10_maySing_52 ki_0 ?_
        exact mw_zret rfl (bd_nar n_0 (by decide)) dX10_maySing_53 rfl rfl ⟨S, _, rfl, rfl, rfl, bd_w n_0 (by decide), Or.inl ⟨rfl, fun h => absurd q129 (fun hz => lt_no (by have h2 := h.2.2; rw [← ev101, ← ev103, ← ev116, ← ev118, ← ev119, ← ev121, ← ev123, ← x128] at h2; exact h2) hz)⟩⟩
      · skip
        have b131 : mm_b (-2147483648) (1) v126 := bd_lt_l (bd_nle q129) b127 n_2 (by decide)
        refine mw_iconst dX10_maySing_48 ki_1 ?_
        refine mw_goto (tgt := 53) dX10_maySing_49 (by decide) ?_
        exact mw_zret rfl (bd_nar n_1 (by decide)) dX10_maySing_53 rfl rfl ⟨S, _, rfl, rfl, rfl, bd_w n_1 (by decide), Or.inr ⟨rfl, al_yes x109 b112, by rw [← ev101, ← ev103]; exact q113, by rw [← ev101, ← ev103, ← ev116, ← ev118, ← ev119, ← ev121, ← ev123, ← x128]; exact bd_nle q129⟩⟩
set_option maxRecDepth 100000 in
set_option maxHeartbeats 4000000 in
theorem c_X10_sungBy {g : mm_G} (S : mm_S) (hI : JM S) (x1 : Int32) (h1 : mm_b (0) (5) x1) (x2 : Int32) (h2 : mm_b (0) (127) x2) (x3 : Int32) (h3 : mm_b (0) (7) x3) (hp : x3.toInt ≤ (S.1 1 0).toInt) : mc g yX10_sungBy cX10_sungBy 4 (some .int) (mm_rm 3) [.ref 0, .int x1, .int x2, .int x3] (mm_enc shM S) (qi shM (fun S1 v => S = S1 ∧ mm_b (-2147483648) (2147483647) v ∧ (v = sbF S x1 x2 x3))) := by
  refine mc_of2 (own := RX10) (ini := false) (ls := [(0, .ref 0), (1, .int x1), (2, .int x2), (3, .int x3)]) (by decide) (Nat.le_of_ble_eq_true rfl) rfl (by decide) rfl ?_
  refine mw_iload_n dX10_sungBy_0 rfl 3 rfl ?_
  refine mw_aload_n dX10_sungBy_1 rfl 0 rfl ?_
  refine tw_getr (j := 0) dX10_sungBy_2 shM_0 rfl rfl (by decide) fX10_7 ?_
  refine mw_iconst dX10_sungBy_5 ki_0 ?_
  refine tw_iald dX10_sungBy_6 shM_1 (bd_in n_0 (by decide)) (fun v101 ev101 => ?_)
  rw [cl_0] at ev101
  have b102 : mm_b (0) (7) v101 := JIM_fld hI ev101 tbM_16 (by decide)
  refine mw_icmp_ne (tgt := 25) dX10_sungBy_7 (by decide) (fun q103 => ?_) (fun q103 => ?_)
  · skip
    have b104 : mm_b 0 6 x3 := sb_p hp q103 ev101 h3 b102
    refine mw_iload_n dX10_sungBy_25 rfl 2 rfl ?_
    refine mw_iload_n dX10_sungBy_26 rfl 3 rfl ?_
    refine tc_Si (as := [.int x2, .int x3]) (st := []) dX10_sungBy_27 rfl mX10_134 t_X10_isIn rfl (Nat.le_of_ble_eq_true rfl) (by decide) (by decide) (c_X10_isIn (g := g) S hI x2 x3) (fun S105 v107 h106 => ?_)
    obtain ⟨rfl, b108, x109⟩ := h106
    refine mw_if_ne (tgt := 42) dX10_sungBy_30 (by decide) (fun q110 => ?_) (fun q110 => ?_)
    · skip
      have b111 : mm_b (1) (1) v107 := bd_ne_l q110 b108 n_0 (by decide)
      refine mw_ldc dX10_sungBy_42 kX10_254 ?_
      refine mw_goto (tgt := 67) dX10_sungBy_44 (by decide) ?_
      exact mw_iret rfl dX10_sungBy_67 rfl rfl ⟨S, _, rfl, rfl, rfl, bd_w n_m1000000 (by decide), sb_2 (fun h => q103 (h.trans ev101.symm)) (Or.inl (is_yes x109 b111)) rfl⟩
    · skip
      have b112 : mm_b (0) (0) v107 := bd_eq_l q110 b108 n_0 (by decide)
      refine mw_aload_n dX10_sungBy_33 rfl 0 rfl ?_
      refine mw_iload_n dX10_sungBy_34 rfl 3 rfl ?_
      refine mw_iload_n dX10_sungBy_35 rfl 1 rfl ?_
      refine tc_Vi (as := [.int x3, .int x1]) (st := []) dX10_sungBy_36 rfl shM_0 rfl rfl mX10_251 t_X10_maySing rfl (Nat.le_of_ble_eq_true rfl) (by decide) (by decide) (c_X10_maySing (g := g) S hI x3 b104 x1 h1) (fun S113 v115 h114 => ?_)
      obtain ⟨rfl, b116, x117⟩ := h114
      refine mw_if_ne (tgt := 47) dX10_sungBy_39 (by decide) (fun q118 => ?_) (fun q118 => ?_)
      · skip
        have b119 : mm_b (1) (1) v115 := bd_ne_l q118 b116 n_0 (by decide)
        refine mw_iconst dX10_sungBy_47 ki_1 ?_
        refine mw_aload_n dX10_sungBy_48 rfl 0 rfl ?_
        refine tw_getr (j := 24) dX10_sungBy_49 shM_0 rfl rfl (by decide) fX10_48 ?_
        refine mw_sipush dX10_sungBy_52 ks_128 ?_
        refine mw_iload_n dX10_sungBy_55 rfl 1 rfl ?_
        refine mw_iconst dX10_sungBy_56 ki_1 ?_
        refine mw_iadd dX10_sungBy_57 (fun v120 ev120 => ?_)
        have b121 : mm_b (1) (6) v120 := bd_add ev120 h1 n_1 (by decide)
        refine mw_imul dX10_sungBy_58 (fun v122 ev122 => ?_)
        have b123 : mm_b (128) (768) v122 := bd_mul ev122 n_128 b121 (by decide)
        refine mw_iload_n dX10_sungBy_59 rfl 2 rfl ?_
        refine mw_iconst dX10_sungBy_60 ki_1 ?_
        refine mw_iload_n dX10_sungBy_61 rfl 3 rfl ?_
        refine mw_ishl dX10_sungBy_62 (fun v124 ev124 => ?_)
        have b125 : mm_b (1) (64) v124 := bd_shl 6 ev124 b104 (by decide)
        refine mw_ior dX10_sungBy_63 (fun v126 ev126 => ?_)
        have b127 : mm_b (0) (127) v126 := bd_or 7 ev126 h2 b125 (by decide)
        refine mw_iadd dX10_sungBy_64 (fun v128 ev128 => ?_)
        have b129 : mm_b (128) (895) v128 := bd_add ev128 b123 b127 (by decide)
        refine tw_iald dX10_sungBy_65 shM_12 (bd_in b129 (by decide)) (fun v130 ev130 => ?_)
        have b131 : mm_b (0) (2147483647) v130 := JIM_elt hI ev130 b129 tbM_0 (by decide)
        refine mw_iadd dX10_sungBy_66 (fun v132 ev132 => ?_)
        exact mw_iret rfl dX10_sungBy_67 rfl rfl ⟨S, _, rfl, rfl, rfl, (bd_all v132), sb_3 (fun h => q103 (h.trans ev101.symm)) (is_no x109 b112) (al_yes x117 b119) (by rw [ev132, ev130, ev128, ev126, ev124, ev122, ev120])⟩
      · skip
        have b133 : mm_b (0) (0) v115 := bd_eq_l q118 b116 n_0 (by decide)
        refine mw_ldc dX10_sungBy_42 kX10_254 ?_
        refine mw_goto (tgt := 67) dX10_sungBy_44 (by decide) ?_
        exact mw_iret rfl dX10_sungBy_67 rfl rfl ⟨S, _, rfl, rfl, rfl, bd_w n_m1000000 (by decide), sb_2 (fun h => q103 (h.trans ev101.symm)) (Or.inr (al_no x117 b133)) rfl⟩
  · skip
    refine mw_aload_n dX10_sungBy_10 rfl 0 rfl ?_
    refine tw_getr (j := 24) dX10_sungBy_11 shM_0 rfl rfl (by decide) fX10_48 ?_
    refine mw_sipush dX10_sungBy_14 ks_128 ?_
    refine mw_iload_n dX10_sungBy_17 rfl 1 rfl ?_
    refine mw_iconst dX10_sungBy_18 ki_1 ?_
    refine mw_iadd dX10_sungBy_19 (fun v134 ev134 => ?_)
    have b135 : mm_b (1) (6) v134 := bd_add ev134 h1 n_1 (by decide)
    refine mw_imul dX10_sungBy_20 (fun v136 ev136 => ?_)
    have b137 : mm_b (128) (768) v136 := bd_mul ev136 n_128 b135 (by decide)
    refine mw_iload_n dX10_sungBy_21 rfl 2 rfl ?_
    refine mw_iadd dX10_sungBy_22 (fun v138 ev138 => ?_)
    have b139 : mm_b (128) (895) v138 := bd_add ev138 b137 h2 (by decide)
    refine tw_iald dX10_sungBy_23 shM_12 (bd_in b139 (by decide)) (fun v140 ev140 => ?_)
    have b141 : mm_b (0) (2147483647) v140 := JIM_elt hI ev140 b139 tbM_0 (by decide)
    exact mw_iret rfl dX10_sungBy_24 rfl rfl ⟨S, _, rfl, rfl, rfl, bd_w b141 (by decide), sb_1 (q103.trans ev101) (by rw [ev140, ev138, ev136, ev134])⟩
