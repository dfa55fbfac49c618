set_option maxRecDepth 100000 in
set_option maxHeartbeats 4000000 in
theorem c_X10_canBe {g : mm_G} (S : mm_S) (hI : JM S) (x1 : Int32) (x2 : Int32) (h2 : mm_b (0) (6) x2) (x3 : Int32) (x4 : Int32) (h4 : mm_b (-1) (6) x4) (x5 : Int32) (h5 : mm_b (-1) (6) x5) (hd : dgZ x1) : mc g yX10_canBe cX10_canBe 12 (some .boolean) (mm_rm 4) [.ref 0, .int x1, .int x2, .int x3, .int x4, .int x5] (mm_enc shM S) (qi shM (fun S1 v => JM S1 ∧ fr [4] [] true true S S1 ∧ mm_b (0) (1) v ∧ (v = 0 ∨ (mm_b (0) (9) x3)))) := by
  refine mc_of2 (own := RX10) (ini := false) (ls := [(0, .ref 0), (1, .int x1), (2, .int x2), (3, .int x3), (4, .int x4), (5, .int x5)]) (by decide) (Nat.le_of_ble_eq_true rfl) rfl (by decide) rfl ?_
  have hF : fr [4] [] true true S S := fr_rf
  refine mw_aload_n dX10_canBe_0 rfl 0 rfl ?_
  refine tw_getr (j := 0) dX10_canBe_1 shM_0 rfl rfl (by decide) fX10_7 ?_
  refine mw_iconst dX10_canBe_4 ki_0 ?_
  refine tw_iald dX10_canBe_5 shM_1 (bd_in n_0 (by decide)) (fun v101 ev101 => ?_)
  rw [cl_0] at ev101
  have b102 : mm_b (0) (7) v101 := JIM_fld hI ev101 tbM_16 (by decide)
  refine mw_iconst dX10_canBe_6 ki_1 ?_
  refine mw_iadd dX10_canBe_7 (fun v103 ev103 => ?_)
  have b104 : mm_b (1) (8) v103 := bd_add ev103 b102 n_1 (by decide)
  refine mw_istore (ls' := [(6, .int v103), (0, .ref 0), (1, .int x1), (2, .int x2), (3, .int x3), (4, .int x4), (5, .int x5)]) dX10_canBe_8 (by decide) rfl ?_
  refine mw_iload dX10_canBe_10 5 rfl ?_
  refine mw_iconst dX10_canBe_12 ki_m1 ?_
  refine mw_icmp_ne (tgt := 20) dX10_canBe_13 (by decide) (fun q105 => ?_) (fun q105 => ?_)
  · skip
    have b106 : mm_b (0) (6) x4 := bd_ne_l q105 h4 n_m1 (by decide)
    refine mw_iload dX10_canBe_20 6 rfl ?_
    refine mw_iconst dX10_canBe_22 ki_m1 ?_
    refine mw_icmp_ne (tgt := 31) dX10_canBe_23 (by decide) (fun q107 => ?_) (fun q107 => ?_)
    · skip
      have b108 : mm_b (0) (6) x5 := bd_ne_l q107 h5 n_m1 (by decide)
      refine mw_iload dX10_canBe_31 0 rfl ?_
      refine mw_iload dX10_canBe_33 0 rfl ?_
      refine mw_imul dX10_canBe_35 (fun v109 ev109 => ?_)
      have b110 : mm_b (1) (64) v109 := bd_mul ev109 b104 b104 (by decide)
      refine mw_istore (ls' := [(7, .int v109), (6, .int v103), (0, .ref 0), (1, .int x1), (2, .int x2), (3, .int x3), (4, .int x4), (5, .int x5)]) dX10_canBe_36 (by decide) rfl ?_
      refine mw_iconst dX10_canBe_38 ki_0 ?_
      refine mw_istore (ls' := [(8, .int 0), (7, .int v109), (6, .int v103), (0, .ref 0), (1, .int x1), (2, .int x2), (3, .int x3), (4, .int x4), (5, .int x5)]) dX10_canBe_39 (by decide) rfl ?_
      have cut41 : ∀ (N41 : Nat) (S111 : mm_S) (y114 y116 y118 : Int32), ((65 : Int) - y118.toInt).toNat < N41 → JM S111 → fr [4] [] true true S S111 → mm_b (1) (8) y114 → mm_b (1) (64) y116 → mm_b (0) (64) y118 → dgZ x1 ∧ y116.toInt ≤ y114.toInt * y114.toInt → mw g RX10 cX10_canBe 12 (some .boolean) false (mm_rm 4) (qi shM (fun S1 v => JM S1 ∧ fr [4] [] true true S S1 ∧ mm_b (0) (1) v ∧ (v = 0 ∨ (mm_b (0) (9) x3)))) 0 0 (mm_enc shM S111) 41 [(0, .ref 0), (1, .int x1), (2, .int x2), (3, .int x3), (4, .int x4), (5, .int x5), (6, .int y114), (7, .int y116), (8, .int y118)] [] := by
        intro N41
        induction N41 with
        | zero =>
          intro S111 y114 y116 y118 hm121 hI112 hF113 b115 b117 b119 hx120
          exact absurd hm121 (Nat.not_lt_zero _)
        | succ N41 ih41 =>
          intro S111 y114 y116 y118 hm121 hI112 hF113 b115 b117 b119 hx120
          refine mw_iload dX10_canBe_41 8 rfl ?_
          refine mw_iload dX10_canBe_43 7 rfl ?_
          refine mw_icmp_ge (tgt := 197) dX10_canBe_45 (by decide) (fun q122 => ?_) (fun q122 => ?_)
          · skip
            have b123 : mm_b (1) (64) y118 := bd_le_r q122 b117 b119 (by decide)
            refine mw_iconst dX10_canBe_197 ki_0 ?_
            exact mw_zret rfl (bd_nar n_0 (by decide)) dX10_canBe_198 rfl rfl ⟨S111, _, rfl, rfl, hI112, hF113, bd_w n_0 (by decide), Or.inl rfl⟩
          · skip
            have b124 : mm_b (0) (63) y118 := bd_lt_l (bd_nle q122) b119 b117 (by decide)
            refine mw_aload_n dX10_canBe_48 rfl 0 rfl ?_
            refine mw_iload dX10_canBe_49 8 rfl ?_
            refine mw_iload dX10_canBe_51 6 rfl ?_
            refine mw_irem dX10_canBe_53 (bd_ne0 b115 (by decide)) (fun v125 ev125 => ?_)
            have b126 : mm_b (0) (7) v125 := bd_rem ev125 b124 b115 (by decide)
            refine tc_Vi (as := [.int v125]) (st := []) dX10_canBe_54 rfl shM_0 rfl rfl mX10_238 t_X10_heirOf rfl (Nat.le_of_ble_eq_true rfl) (by decide) (by decide) (c_X10_heirOf (g := g) S111 hI112 v125 b126) (fun S127 v129 h128 => ?_)
            obtain ⟨rfl, b130, x131⟩ := h128
            refine mw_istore (ls' := [(9, .int v129), (0, .ref 0), (1, .int x1), (2, .int x2), (3, .int x3), (4, .int x4), (5, .int x5), (6, .int y114), (7, .int y116), (8, .int y118)]) dX10_canBe_57 (by decide) rfl ?_
            refine mw_aload_n dX10_canBe_59 rfl 1 rfl ?_
            refine mw_iload dX10_canBe_60 9 rfl ?_
            refine mw_iload dX10_canBe_62 7 rfl ?_
            refine mw_idiv dX10_canBe_64 (bd_ne0 b115 (by decide)) (fun v132 ev132 => ?_)
            have b133 : mm_b (0) (63) v132 := bd_div ev132 b124 b115 (by decide)
            have b134 : mm_b 0 7 v132 := cb_div ev132 b124 b115 (by decide) (bd_nle q122) hx120.2
            refine tc_Vi (as := [.int v132]) (st := []) dX10_canBe_65 rfl shM_0 rfl rfl mX10_238 t_X10_heirOf rfl (Nat.le_of_ble_eq_true rfl) (by decide) (by decide) (c_X10_heirOf (g := g) S111 hI112 v132 b134) (fun S135 v137 h136 => ?_)
            obtain ⟨rfl, b138, x139⟩ := h136
            refine mw_istore (ls' := [(10, .int v137), (9, .int v129), (0, .ref 0), (1, .int x1), (2, .int x2), (3, .int x3), (4, .int x4), (5, .int x5), (6, .int y114), (7, .int y116), (8, .int y118)]) dX10_canBe_68 (by decide) rfl ?_
            refine mw_iload dX10_canBe_70 6 rfl ?_
            refine mw_iconst dX10_canBe_72 ki_m1 ?_
            refine mw_icmp_eq (tgt := 83) dX10_canBe_73 (by decide) (fun q140 => ?_) (fun q140 => ?_)
            · skip
              exact bd_feq q140 b106 n_m1 (by decide)
            · skip
              refine mw_iload dX10_canBe_76 1 rfl ?_
              refine mw_iload dX10_canBe_78 6 rfl ?_
              refine mw_icmp_eq (tgt := 100) dX10_canBe_80 (by decide) (fun q141 => ?_) (fun q141 => ?_)
              · skip
                have b142 : mm_b (0) (6) v129 := bd_eq_l q141 b130 b106 (by decide)
                refine mw_iconst dX10_canBe_100 ki_0 ?_
                refine mw_istore (ls' := [(11, .int 0), (10, .int v137), (9, .int v129), (0, .ref 0), (1, .int x1), (2, .int x2), (3, .int x3), (4, .int x4), (5, .int x5), (6, .int y114), (7, .int y116), (8, .int y118)]) dX10_canBe_101 (by decide) rfl ?_
                refine mw_iload dX10_canBe_103 0 rfl ?_
                refine mw_if_eq (tgt := 191) dX10_canBe_105 (by decide) (fun q143 => ?_) (fun q143 => ?_)
                · skip
                  refine mw_iinc (ls' := fun v => [(8, .int v), (11, .int 0), (10, .int v137), (9, .int v129), (0, .ref 0), (1, .int x1), (2, .int x2), (3, .int x3), (4, .int x4), (5, .int x5), (6, .int y114), (7, .int y116)]) dX10_canBe_191 11 rfl (by decide) (fun _ => rfl) (fun v144 ev144 => ?_)
                  have b145 : mm_b (1) (64) v144 := bd_inc ev144 b124 (by decide)
                  refine mw_goto (tgt := 41) dX10_canBe_194 (by decide) ?_
                  refine mw_ls [4, 5, 6, 7, 8, 9, 10, 11, 0] rfl ?_
                  exact ih41 S111 y114 y116 v144 (ms_inc ev144 b124 (by decide) hm121) hI112 hF113 b115 b117 (bd_w b145 (by decide)) ⟨hx120.1, hx120.2⟩
                · skip
                  exact bd_fne q143 n_0 n_0
              · skip
                refine mw_iload dX10_canBe_83 7 rfl ?_
                refine mw_iconst dX10_canBe_85 ki_m1 ?_
                refine mw_icmp_eq (tgt := 96) dX10_canBe_86 (by decide) (fun q146 => ?_) (fun q146 => ?_)
                · skip
                  exact bd_feq q146 b108 n_m1 (by decide)
                · skip
                  refine mw_iload dX10_canBe_89 0 rfl ?_
                  refine mw_iload dX10_canBe_91 7 rfl ?_
                  refine mw_icmp_eq (tgt := 100) dX10_canBe_93 (by decide) (fun q147 => ?_) (fun q147 => ?_)
                  · skip
                    have b148 : mm_b (0) (6) v137 := bd_eq_l q147 b138 b108 (by decide)
                    refine mw_iconst dX10_canBe_100 ki_0 ?_
                    refine mw_istore (ls' := [(11, .int 0), (10, .int v137), (9, .int v129), (0, .ref 0), (1, .int x1), (2, .int x2), (3, .int x3), (4, .int x4), (5, .int x5), (6, .int y114), (7, .int y116), (8, .int y118)]) dX10_canBe_101 (by decide) rfl ?_
                    refine mw_iload dX10_canBe_103 0 rfl ?_
                    refine mw_if_eq (tgt := 191) dX10_canBe_105 (by decide) (fun q149 => ?_) (fun q149 => ?_)
                    · skip
                      refine mw_iinc (ls' := fun v => [(8, .int v), (11, .int 0), (10, .int v137), (9, .int v129), (0, .ref 0), (1, .int x1), (2, .int x2), (3, .int x3), (4, .int x4), (5, .int x5), (6, .int y114), (7, .int y116)]) dX10_canBe_191 11 rfl (by decide) (fun _ => rfl) (fun v150 ev150 => ?_)
                      have b151 : mm_b (1) (64) v150 := bd_inc ev150 b124 (by decide)
                      refine mw_goto (tgt := 41) dX10_canBe_194 (by decide) ?_
                      refine mw_ls [4, 5, 6, 7, 8, 9, 10, 11, 0] rfl ?_
                      exact ih41 S111 y114 y116 v150 (ms_inc ev150 b124 (by decide) hm121) hI112 hF113 b115 b117 (bd_w b151 (by decide)) ⟨hx120.1, hx120.2⟩
                    · skip
                      exact bd_fne q149 n_0 n_0
                  · skip
                    refine mw_iconst dX10_canBe_96 ki_1 ?_
                    refine mw_goto (tgt := 101) dX10_canBe_97 (by decide) ?_
                    refine mw_istore (ls' := [(11, .int 1), (10, .int v137), (9, .int v129), (0, .ref 0), (1, .int x1), (2, .int x2), (3, .int x3), (4, .int x4), (5, .int x5), (6, .int y114), (7, .int y116), (8, .int y118)]) dX10_canBe_101 (by decide) rfl ?_
                    refine mw_iload dX10_canBe_103 0 rfl ?_
                    refine mw_if_eq (tgt := 191) dX10_canBe_105 (by decide) (fun q152 => ?_) (fun q152 => ?_)
                    · skip
                      exact bd_feq q152 n_1 n_0 (by decide)
                    · skip
                      refine mw_aload_n dX10_canBe_108 rfl 3 rfl ?_
                      refine tc_Vv (as := []) (st := []) dX10_canBe_109 rfl shM_0 rfl rfl mX10_231 t_X10_layAside rfl (Nat.le_of_ble_eq_true rfl) (by decide) (by decide) (c_X10_layAside (g := g) S111 hI112) (fun S153 h154 => ?_)
                      obtain ⟨hI156, hf157, x155⟩ := h154
                      have hF158 := fr_tr hF113 hf157 (by decide) (by decide) (by decide) (by decide)
                      refine mw_iload dX10_canBe_112 7 rfl ?_
                      refine mw_iconst dX10_canBe_114 ki_m1 ?_
                      refine mw_icmp_eq (tgt := 142) dX10_canBe_115 (by decide) (fun q159 => ?_) (fun q159 => ?_)
                      · skip
                        exact bd_feq q159 b106 n_m1 (by decide)
                      · skip
                        refine mw_aload_n dX10_canBe_118 rfl 3 rfl ?_
                        refine tw_getr (j := 3) dX10_canBe_119 shM_0 rfl rfl (by decide) fX10_19 ?_
                        refine mw_bipush dX10_canBe_122 kb_14 ?_
                        refine mw_iload dX10_canBe_124 7 rfl ?_
                        refine mw_iadd dX10_canBe_126 (fun v160 ev160 => ?_)
                        have b161 : mm_b (14) (20) v160 := bd_add ev160 n_14 b106 (by decide)
                        refine mw_iload dX10_canBe_127 2 rfl ?_
                        refine tw_iast dX10_canBe_129 shM_4 (bd_in b161 (by decide)) ?_
                        have hI162 : JM (mm_up S153 4 v160.toNatClampNeg v129) := JIM_puta hI156 b130 b161 (by decide) (by decide +kernel)
                        generalize hS163 : (mm_up S153 4 v160.toNatClampNeg v129) = S163 at hI162 ⊢
                        have hF164 := fr_upA hF158 hS163 (by decide)
                        refine mw_aload_n dX10_canBe_130 rfl 3 rfl ?_
                        refine tw_getr (j := 3) dX10_canBe_131 shM_0 rfl rfl (by decide) fX10_19 ?_
                        refine mw_bipush dX10_canBe_134 kb_21 ?_
                        refine mw_iload dX10_canBe_136 7 rfl ?_
                        refine mw_iadd dX10_canBe_138 (fun v165 ev165 => ?_)
                        have b166 : mm_b (21) (27) v165 := bd_add ev165 n_21 b106 (by decide)
                        refine mw_bipush dX10_canBe_139 kb_9 ?_
                        refine tw_iast dX10_canBe_141 shM_4 (bd_in b166 (by decide)) ?_
                        have hI167 : JM (mm_up S163 4 v165.toNatClampNeg 9) := JIM_puta hI162 n_9 b166 (by decide) (by decide +kernel)
                        generalize hS168 : (mm_up S163 4 v165.toNatClampNeg 9) = S168 at hI167 ⊢
                        have hF169 := fr_upA hF164 hS168 (by decide)
                        refine mw_iload dX10_canBe_142 8 rfl ?_
                        refine mw_iconst dX10_canBe_144 ki_m1 ?_
                        refine mw_icmp_eq (tgt := 172) dX10_canBe_145 (by decide) (fun q170 => ?_) (fun q170 => ?_)
                        · skip
                          exact bd_feq q170 b108 n_m1 (by decide)
                        · skip
                          refine mw_aload_n dX10_canBe_148 rfl 3 rfl ?_
                          refine tw_getr (j := 3) dX10_canBe_149 shM_0 rfl rfl (by decide) fX10_19 ?_
                          refine mw_bipush dX10_canBe_152 kb_14 ?_
                          refine mw_iload dX10_canBe_154 8 rfl ?_
                          refine mw_iadd dX10_canBe_156 (fun v171 ev171 => ?_)
                          have b172 : mm_b (14) (20) v171 := bd_add ev171 n_14 b108 (by decide)
                          refine mw_iload dX10_canBe_157 1 rfl ?_
                          refine tw_iast dX10_canBe_159 shM_4 (bd_in b172 (by decide)) ?_
                          have hI173 : JM (mm_up S168 4 v171.toNatClampNeg v137) := JIM_puta hI167 b138 b172 (by decide) (by decide +kernel)
                          generalize hS174 : (mm_up S168 4 v171.toNatClampNeg v137) = S174 at hI173 ⊢
                          have hF175 := fr_upA hF169 hS174 (by decide)
                          refine mw_aload_n dX10_canBe_160 rfl 3 rfl ?_
                          refine tw_getr (j := 3) dX10_canBe_161 shM_0 rfl rfl (by decide) fX10_19 ?_
                          refine mw_bipush dX10_canBe_164 kb_21 ?_
                          refine mw_iload dX10_canBe_166 8 rfl ?_
                          refine mw_iadd dX10_canBe_168 (fun v176 ev176 => ?_)
                          have b177 : mm_b (21) (27) v176 := bd_add ev176 n_21 b108 (by decide)
                          refine mw_bipush dX10_canBe_169 kb_9 ?_
                          refine tw_iast dX10_canBe_171 shM_4 (bd_in b177 (by decide)) ?_
                          have hI178 : JM (mm_up S174 4 v176.toNatClampNeg 9) := JIM_puta hI173 n_9 b177 (by decide) (by decide +kernel)
                          generalize hS179 : (mm_up S174 4 v176.toNatClampNeg 9) = S179 at hI178 ⊢
                          have hF180 := fr_upA hF175 hS179 (by decide)
                          refine mw_aload_n dX10_canBe_172 rfl 3 rfl ?_
                          refine mw_iload_n dX10_canBe_173 rfl 4 rfl ?_
                          refine tc_Vv (as := [.int x1]) (st := []) dX10_canBe_174 rfl shM_0 rfl rfl mX10_234 t_X10_allDie rfl (Nat.le_of_ble_eq_true rfl) (by decide) (by decide) (c_X10_allDie (g := g) S179 hI178 x1 hx120.1) (fun S181 h182 => ?_)
                          obtain ⟨hI184, hf185, x183⟩ := h182
                          have hF186 := fr_tr hF180 hf185 (by decide) (by decide) (by decide) (by decide)
                          refine mw_aload_n dX10_canBe_177 rfl 3 rfl ?_
                          refine tw_getr (j := 3) dX10_canBe_178 shM_0 rfl rfl (by decide) fX10_19 ?_
                          refine mw_iconst dX10_canBe_181 ki_0 ?_
                          refine mw_iload_n dX10_canBe_182 rfl 5 rfl ?_
                          refine mw_iadd dX10_canBe_183 (fun v187 ev187 => ?_)
                          have b188 : mm_b (0) (6) v187 := bd_add ev187 n_0 h2 (by decide)
                          refine tw_iald dX10_canBe_184 shM_4 (bd_in b188 (by decide)) (fun v189 ev189 => ?_)
                          have b190 : mm_b (0) (9) v189 := JIM_elt hI184 ev189 b188 tbM_33 (by decide)
                          refine mw_iload_n dX10_canBe_185 rfl 6 rfl ?_
                          refine mw_icmp_ne (tgt := 191) dX10_canBe_186 (by decide) (fun q191 => ?_) (fun q191 => ?_)
                          · skip
                            refine mw_iinc (ls' := fun v => [(8, .int v), (11, .int 1), (10, .int v137), (9, .int v129), (0, .ref 0), (1, .int x1), (2, .int x2), (3, .int x3), (4, .int x4), (5, .int x5), (6, .int y114), (7, .int y116)]) dX10_canBe_191 11 rfl (by decide) (fun _ => rfl) (fun v192 ev192 => ?_)
                            have b193 : mm_b (1) (64) v192 := bd_inc ev192 b124 (by decide)
                            refine mw_goto (tgt := 41) dX10_canBe_194 (by decide) ?_
                            refine mw_ls [4, 5, 6, 7, 8, 9, 10, 11, 0] rfl ?_
                            exact ih41 S181 y114 y116 v192 (ms_inc ev192 b124 (by decide) hm121) hI184 hF186 b115 b117 (bd_w b193 (by decide)) ⟨hx120.1, hx120.2⟩
                          · skip
                            have b194 : mm_b (0) (9) x3 := bd_eq_l (Eq.symm q191) (bd_all x3) b190 (by decide)
                            refine mw_iconst dX10_canBe_189 ki_1 ?_
                            exact mw_zret rfl (bd_nar n_1 (by decide)) dX10_canBe_190 rfl rfl ⟨S181, _, rfl, rfl, hI184, hF186, bd_w n_1 (by decide), Or.inr (bd_w b194 (by decide))⟩
      refine mw_ls [3, 4, 5, 6, 7, 8, 2, 1, 0] rfl ?_
      exact cut41 _ S v103 v109 (0 : Int32) (Nat.lt_succ_self _) hI hF b104 b110 (bd_w n_0 (by decide)) ⟨hd, cb_nn ev109 b104 (by decide)⟩
    · skip
      have b195 : mm_b (-1) (-1) x5 := bd_eq_l q107 h5 n_m1 (by decide)
      refine mw_iload dX10_canBe_26 0 rfl ?_
      refine mw_goto (tgt := 36) dX10_canBe_28 (by decide) ?_
      refine mw_istore (ls' := [(7, .int v103), (6, .int v103), (0, .ref 0), (1, .int x1), (2, .int x2), (3, .int x3), (4, .int x4), (5, .int x5)]) dX10_canBe_36 (by decide) rfl ?_
      refine mw_iconst dX10_canBe_38 ki_0 ?_
      refine mw_istore (ls' := [(8, .int 0), (7, .int v103), (6, .int v103), (0, .ref 0), (1, .int x1), (2, .int x2), (3, .int x3), (4, .int x4), (5, .int x5)]) dX10_canBe_39 (by decide) rfl ?_
      have cut41 : ∀ (N41 : Nat) (S196 : mm_S) (y199 y201 y203 : Int32), ((65 : Int) - y203.toInt).toNat < N41 → JM S196 → fr [4] [] true true S S196 → mm_b (1) (8) y199 → mm_b (1) (64) y201 → mm_b (0) (64) y203 → dgZ x1 ∧ y201.toInt ≤ y199.toInt * y199.toInt → mw g RX10 cX10_canBe 12 (some .boolean) false (mm_rm 4) (qi shM (fun S1 v => JM S1 ∧ fr [4] [] true true S S1 ∧ mm_b (0) (1) v ∧ (v = 0 ∨ (mm_b (0) (9) x3)))) 0 0 (mm_enc shM S196) 41 [(0, .ref 0), (1, .int x1), (2, .int x2), (3, .int x3), (4, .int x4), (5, .int x5), (6, .int y199), (7, .int y201), (8, .int y203)] [] := by
        intro N41
        induction N41 with
        | zero =>
          intro S196 y199 y201 y203 hm206 hI197 hF198 b200 b202 b204 hx205
          exact absurd hm206 (Nat.not_lt_zero _)
        | succ N41 ih41 =>
          intro S196 y199 y201 y203 hm206 hI197 hF198 b200 b202 b204 hx205
          refine mw_iload dX10_canBe_41 8 rfl ?_
          refine mw_iload dX10_canBe_43 7 rfl ?_
          refine mw_icmp_ge (tgt := 197) dX10_canBe_45 (by decide) (fun q207 => ?_) (fun q207 => ?_)
          · skip
            have b208 : mm_b (1) (64) y203 := bd_le_r q207 b202 b204 (by decide)
            refine mw_iconst dX10_canBe_197 ki_0 ?_
            exact mw_zret rfl (bd_nar n_0 (by decide)) dX10_canBe_198 rfl rfl ⟨S196, _, rfl, rfl, hI197, hF198, bd_w n_0 (by decide), Or.inl rfl⟩
          · skip
            have b209 : mm_b (0) (63) y203 := bd_lt_l (bd_nle q207) b204 b202 (by decide)
            refine mw_aload_n dX10_canBe_48 rfl 0 rfl ?_
            refine mw_iload dX10_canBe_49 8 rfl ?_
            refine mw_iload dX10_canBe_51 6 rfl ?_
            refine mw_irem dX10_canBe_53 (bd_ne0 b200 (by decide)) (fun v210 ev210 => ?_)
            have b211 : mm_b (0) (7) v210 := bd_rem ev210 b209 b200 (by decide)
            refine tc_Vi (as := [.int v210]) (st := []) dX10_canBe_54 rfl shM_0 rfl rfl mX10_238 t_X10_heirOf rfl (Nat.le_of_ble_eq_true rfl) (by decide) (by decide) (c_X10_heirOf (g := g) S196 hI197 v210 b211) (fun S212 v214 h213 => ?_)
            obtain ⟨rfl, b215, x216⟩ := h213
            refine mw_istore (ls' := [(9, .int v214), (0, .ref 0), (1, .int x1), (2, .int x2), (3, .int x3), (4, .int x4), (5, .int x5), (6, .int y199), (7, .int y201), (8, .int y203)]) dX10_canBe_57 (by decide) rfl ?_
            refine mw_aload_n dX10_canBe_59 rfl 1 rfl ?_
            refine mw_iload dX10_canBe_60 9 rfl ?_
            refine mw_iload dX10_canBe_62 7 rfl ?_
            refine mw_idiv dX10_canBe_64 (bd_ne0 b200 (by decide)) (fun v217 ev217 => ?_)
            have b218 : mm_b (0) (63) v217 := bd_div ev217 b209 b200 (by decide)
            have b219 : mm_b 0 7 v217 := cb_div ev217 b209 b200 (by decide) (bd_nle q207) hx205.2
            refine tc_Vi (as := [.int v217]) (st := []) dX10_canBe_65 rfl shM_0 rfl rfl mX10_238 t_X10_heirOf rfl (Nat.le_of_ble_eq_true rfl) (by decide) (by decide) (c_X10_heirOf (g := g) S196 hI197 v217 b219) (fun S220 v222 h221 => ?_)
            obtain ⟨rfl, b223, x224⟩ := h221
            refine mw_istore (ls' := [(10, .int v222), (9, .int v214), (0, .ref 0), (1, .int x1), (2, .int x2), (3, .int x3), (4, .int x4), (5, .int x5), (6, .int y199), (7, .int y201), (8, .int y203)]) dX10_canBe_68 (by decide) rfl ?_
            refine mw_iload dX10_canBe_70 6 rfl ?_
            refine mw_iconst dX10_canBe_72 ki_m1 ?_
            refine mw_icmp_eq (tgt := 83) dX10_canBe_73 (by decide) (fun q225 => ?_) (fun q225 => ?_)
            · skip
              exact bd_feq q225 b106 n_m1 (by decide)
            · skip
              refine mw_iload dX10_canBe_76 1 rfl ?_
              refine mw_iload dX10_canBe_78 6 rfl ?_
              refine mw_icmp_eq (tgt := 100) dX10_canBe_80 (by decide) (fun q226 => ?_) (fun q226 => ?_)
              · skip
                have b227 : mm_b (0) (6) v214 := bd_eq_l q226 b215 b106 (by decide)
                refine mw_iconst dX10_canBe_100 ki_0 ?_
                refine mw_istore (ls' := [(11, .int 0), (10, .int v222), (9, .int v214), (0, .ref 0), (1, .int x1), (2, .int x2), (3, .int x3), (4, .int x4), (5, .int x5), (6, .int y199), (7, .int y201), (8, .int y203)]) dX10_canBe_101 (by decide) rfl ?_
                refine mw_iload dX10_canBe_103 0 rfl ?_
                refine mw_if_eq (tgt := 191) dX10_canBe_105 (by decide) (fun q228 => ?_) (fun q228 => ?_)
                · skip
                  refine mw_iinc (ls' := fun v => [(8, .int v), (11, .int 0), (10, .int v222), (9, .int v214), (0, .ref 0), (1, .int x1), (2, .int x2), (3, .int x3), (4, .int x4), (5, .int x5), (6, .int y199), (7, .int y201)]) dX10_canBe_191 11 rfl (by decide) (fun _ => rfl) (fun v229 ev229 => ?_)
                  have b230 : mm_b (1) (64) v229 := bd_inc ev229 b209 (by decide)
                  refine mw_goto (tgt := 41) dX10_canBe_194 (by decide) ?_
                  refine mw_ls [4, 5, 6, 7, 8, 9, 10, 11, 0] rfl ?_
                  exact ih41 S196 y199 y201 v229 (ms_inc ev229 b209 (by decide) hm206) hI197 hF198 b200 b202 (bd_w b230 (by decide)) ⟨hx205.1, hx205.2⟩
                · skip
                  exact bd_fne q228 n_0 n_0
              · skip
                refine mw_iload dX10_canBe_83 7 rfl ?_
                refine mw_iconst dX10_canBe_85 ki_m1 ?_
                refine mw_icmp_eq (tgt := 96) dX10_canBe_86 (by decide) (fun q231 => ?_) (fun q231 => ?_)
                · skip
                  refine mw_iconst dX10_canBe_96 ki_1 ?_
                  refine mw_goto (tgt := 101) dX10_canBe_97 (by decide) ?_
                  refine mw_istore (ls' := [(11, .int 1), (10, .int v222), (9, .int v214), (0, .ref 0), (1, .int x1), (2, .int x2), (3, .int x3), (4, .int x4), (5, .int x5), (6, .int y199), (7, .int y201), (8, .int y203)]) dX10_canBe_101 (by decide) rfl ?_
                  refine mw_iload dX10_canBe_103 0 rfl ?_
                  refine mw_if_eq (tgt := 191) dX10_canBe_105 (by decide) (fun q232 => ?_) (fun q232 => ?_)
                  · skip
                    exact bd_feq q232 n_1 n_0 (by decide)
                  · skip
                    refine mw_aload_n dX10_canBe_108 rfl 3 rfl ?_
                    refine tc_Vv (as := []) (st := []) dX10_canBe_109 rfl shM_0 rfl rfl mX10_231 t_X10_layAside rfl (Nat.le_of_ble_eq_true rfl) (by decide) (by decide) (c_X10_layAside (g := g) S196 hI197) (fun S233 h234 => ?_)
                    obtain ⟨hI236, hf237, x235⟩ := h234
                    have hF238 := fr_tr hF198 hf237 (by decide) (by decide) (by decide) (by decide)
                    refine mw_iload dX10_canBe_112 7 rfl ?_
                    refine mw_iconst dX10_canBe_114 ki_m1 ?_
                    refine mw_icmp_eq (tgt := 142) dX10_canBe_115 (by decide) (fun q239 => ?_) (fun q239 => ?_)
                    · skip
                      exact bd_feq q239 b106 n_m1 (by decide)
                    · skip
                      refine mw_aload_n dX10_canBe_118 rfl 3 rfl ?_
                      refine tw_getr (j := 3) dX10_canBe_119 shM_0 rfl rfl (by decide) fX10_19 ?_
                      refine mw_bipush dX10_canBe_122 kb_14 ?_
                      refine mw_iload dX10_canBe_124 7 rfl ?_
                      refine mw_iadd dX10_canBe_126 (fun v240 ev240 => ?_)
                      have b241 : mm_b (14) (20) v240 := bd_add ev240 n_14 b106 (by decide)
                      refine mw_iload dX10_canBe_127 2 rfl ?_
                      refine tw_iast dX10_canBe_129 shM_4 (bd_in b241 (by decide)) ?_
                      have hI242 : JM (mm_up S233 4 v240.toNatClampNeg v214) := JIM_puta hI236 b215 b241 (by decide) (by decide +kernel)
                      generalize hS243 : (mm_up S233 4 v240.toNatClampNeg v214) = S243 at hI242 ⊢
                      have hF244 := fr_upA hF238 hS243 (by decide)
                      refine mw_aload_n dX10_canBe_130 rfl 3 rfl ?_
                      refine tw_getr (j := 3) dX10_canBe_131 shM_0 rfl rfl (by decide) fX10_19 ?_
                      refine mw_bipush dX10_canBe_134 kb_21 ?_
                      refine mw_iload dX10_canBe_136 7 rfl ?_
                      refine mw_iadd dX10_canBe_138 (fun v245 ev245 => ?_)
                      have b246 : mm_b (21) (27) v245 := bd_add ev245 n_21 b106 (by decide)
                      refine mw_bipush dX10_canBe_139 kb_9 ?_
                      refine tw_iast dX10_canBe_141 shM_4 (bd_in b246 (by decide)) ?_
                      have hI247 : JM (mm_up S243 4 v245.toNatClampNeg 9) := JIM_puta hI242 n_9 b246 (by decide) (by decide +kernel)
                      generalize hS248 : (mm_up S243 4 v245.toNatClampNeg 9) = S248 at hI247 ⊢
                      have hF249 := fr_upA hF244 hS248 (by decide)
                      refine mw_iload dX10_canBe_142 8 rfl ?_
                      refine mw_iconst dX10_canBe_144 ki_m1 ?_
                      refine mw_icmp_eq (tgt := 172) dX10_canBe_145 (by decide) (fun q250 => ?_) (fun q250 => ?_)
                      · skip
                        refine mw_aload_n dX10_canBe_172 rfl 3 rfl ?_
                        refine mw_iload_n dX10_canBe_173 rfl 4 rfl ?_
                        refine tc_Vv (as := [.int x1]) (st := []) dX10_canBe_174 rfl shM_0 rfl rfl mX10_234 t_X10_allDie rfl (Nat.le_of_ble_eq_true rfl) (by decide) (by decide) (c_X10_allDie (g := g) S248 hI247 x1 hx205.1) (fun S251 h252 => ?_)
                        obtain ⟨hI254, hf255, x253⟩ := h252
                        have hF256 := fr_tr hF249 hf255 (by decide) (by decide) (by decide) (by decide)
                        refine mw_aload_n dX10_canBe_177 rfl 3 rfl ?_
                        refine tw_getr (j := 3) dX10_canBe_178 shM_0 rfl rfl (by decide) fX10_19 ?_
                        refine mw_iconst dX10_canBe_181 ki_0 ?_
                        refine mw_iload_n dX10_canBe_182 rfl 5 rfl ?_
                        refine mw_iadd dX10_canBe_183 (fun v257 ev257 => ?_)
                        have b258 : mm_b (0) (6) v257 := bd_add ev257 n_0 h2 (by decide)
                        refine tw_iald dX10_canBe_184 shM_4 (bd_in b258 (by decide)) (fun v259 ev259 => ?_)
                        have b260 : mm_b (0) (9) v259 := JIM_elt hI254 ev259 b258 tbM_33 (by decide)
                        refine mw_iload_n dX10_canBe_185 rfl 6 rfl ?_
                        refine mw_icmp_ne (tgt := 191) dX10_canBe_186 (by decide) (fun q261 => ?_) (fun q261 => ?_)
                        · skip
                          refine mw_iinc (ls' := fun v => [(8, .int v), (11, .int 1), (10, .int v222), (9, .int v214), (0, .ref 0), (1, .int x1), (2, .int x2), (3, .int x3), (4, .int x4), (5, .int x5), (6, .int y199), (7, .int y201)]) dX10_canBe_191 11 rfl (by decide) (fun _ => rfl) (fun v262 ev262 => ?_)
                          have b263 : mm_b (1) (64) v262 := bd_inc ev262 b209 (by decide)
                          refine mw_goto (tgt := 41) dX10_canBe_194 (by decide) ?_
                          refine mw_ls [4, 5, 6, 7, 8, 9, 10, 11, 0] rfl ?_
                          exact ih41 S251 y199 y201 v262 (ms_inc ev262 b209 (by decide) hm206) hI254 hF256 b200 b202 (bd_w b263 (by decide)) ⟨hx205.1, hx205.2⟩
                        · skip
                          have b264 : mm_b (0) (9) x3 := bd_eq_l (Eq.symm q261) (bd_all x3) b260 (by decide)
                          refine mw_iconst dX10_canBe_189 ki_1 ?_
                          exact mw_zret rfl (bd_nar n_1 (by decide)) dX10_canBe_190 rfl rfl ⟨S251, _, rfl, rfl, hI254, hF256, bd_w n_1 (by decide), Or.inr (bd_w b264 (by decide))⟩
                      · skip
                        exact bd_fne q250 b195 n_m1
                · skip
                  exact bd_fne q231 b195 n_m1
      refine mw_ls [3, 4, 5, 6, 7, 8, 2, 1, 0] rfl ?_
      exact cut41 _ S v103 v103 (0 : Int32) (Nat.lt_succ_self _) hI hF b104 (bd_w b104 (by decide)) (bd_w n_0 (by decide)) ⟨hd, cb_n b104 (by decide)⟩
  · skip
    have b265 : mm_b (-1) (-1) x4 := bd_eq_l q105 h4 n_m1 (by decide)
    refine mw_iconst dX10_canBe_16 ki_1 ?_
    refine mw_goto (tgt := 36) dX10_canBe_17 (by decide) ?_
    refine mw_istore (ls' := [(7, .int 1), (6, .int v103), (0, .ref 0), (1, .int x1), (2, .int x2), (3, .int x3), (4, .int x4), (5, .int x5)]) dX10_canBe_36 (by decide) rfl ?_
    refine mw_iconst dX10_canBe_38 ki_0 ?_
    refine mw_istore (ls' := [(8, .int 0), (7, .int 1), (6, .int v103), (0, .ref 0), (1, .int x1), (2, .int x2), (3, .int x3), (4, .int x4), (5, .int x5)]) dX10_canBe_39 (by decide) rfl ?_
    have cut41 : ∀ (N41 : Nat) (S266 : mm_S) (y269 y271 y273 : Int32), ((65 : Int) - y273.toInt).toNat < N41 → JM S266 → fr [4] [] true true S S266 → mm_b (1) (8) y269 → mm_b (1) (64) y271 → mm_b (0) (64) y273 → dgZ x1 ∧ y271.toInt ≤ y269.toInt * y269.toInt → mw g RX10 cX10_canBe 12 (some .boolean) false (mm_rm 4) (qi shM (fun S1 v => JM S1 ∧ fr [4] [] true true S S1 ∧ mm_b (0) (1) v ∧ (v = 0 ∨ (mm_b (0) (9) x3)))) 0 0 (mm_enc shM S266) 41 [(0, .ref 0), (1, .int x1), (2, .int x2), (3, .int x3), (4, .int x4), (5, .int x5), (6, .int y269), (7, .int y271), (8, .int y273)] [] := by
      intro N41
      induction N41 with
      | zero =>
        intro S266 y269 y271 y273 hm276 hI267 hF268 b270 b272 b274 hx275
        exact absurd hm276 (Nat.not_lt_zero _)
      | succ N41 ih41 =>
        intro S266 y269 y271 y273 hm276 hI267 hF268 b270 b272 b274 hx275
        refine mw_iload dX10_canBe_41 8 rfl ?_
        refine mw_iload dX10_canBe_43 7 rfl ?_
        refine mw_icmp_ge (tgt := 197) dX10_canBe_45 (by decide) (fun q277 => ?_) (fun q277 => ?_)
        · skip
          have b278 : mm_b (1) (64) y273 := bd_le_r q277 b272 b274 (by decide)
          refine mw_iconst dX10_canBe_197 ki_0 ?_
          exact mw_zret rfl (bd_nar n_0 (by decide)) dX10_canBe_198 rfl rfl ⟨S266, _, rfl, rfl, hI267, hF268, bd_w n_0 (by decide), Or.inl rfl⟩
        · skip
          have b279 : mm_b (0) (63) y273 := bd_lt_l (bd_nle q277) b274 b272 (by decide)
          refine mw_aload_n dX10_canBe_48 rfl 0 rfl ?_
          refine mw_iload dX10_canBe_49 8 rfl ?_
          refine mw_iload dX10_canBe_51 6 rfl ?_
          refine mw_irem dX10_canBe_53 (bd_ne0 b270 (by decide)) (fun v280 ev280 => ?_)
          have b281 : mm_b (0) (7) v280 := bd_rem ev280 b279 b270 (by decide)
          refine tc_Vi (as := [.int v280]) (st := []) dX10_canBe_54 rfl shM_0 rfl rfl mX10_238 t_X10_heirOf rfl (Nat.le_of_ble_eq_true rfl) (by decide) (by decide) (c_X10_heirOf (g := g) S266 hI267 v280 b281) (fun S282 v284 h283 => ?_)
          obtain ⟨rfl, b285, x286⟩ := h283
          refine mw_istore (ls' := [(9, .int v284), (0, .ref 0), (1, .int x1), (2, .int x2), (3, .int x3), (4, .int x4), (5, .int x5), (6, .int y269), (7, .int y271), (8, .int y273)]) dX10_canBe_57 (by decide) rfl ?_
          refine mw_aload_n dX10_canBe_59 rfl 1 rfl ?_
          refine mw_iload dX10_canBe_60 9 rfl ?_
          refine mw_iload dX10_canBe_62 7 rfl ?_
          refine mw_idiv dX10_canBe_64 (bd_ne0 b270 (by decide)) (fun v287 ev287 => ?_)
          have b288 : mm_b (0) (63) v287 := bd_div ev287 b279 b270 (by decide)
          have b289 : mm_b 0 7 v287 := cb_div ev287 b279 b270 (by decide) (bd_nle q277) hx275.2
          refine tc_Vi (as := [.int v287]) (st := []) dX10_canBe_65 rfl shM_0 rfl rfl mX10_238 t_X10_heirOf rfl (Nat.le_of_ble_eq_true rfl) (by decide) (by decide) (c_X10_heirOf (g := g) S266 hI267 v287 b289) (fun S290 v292 h291 => ?_)
          obtain ⟨rfl, b293, x294⟩ := h291
          refine mw_istore (ls' := [(10, .int v292), (9, .int v284), (0, .ref 0), (1, .int x1), (2, .int x2), (3, .int x3), (4, .int x4), (5, .int x5), (6, .int y269), (7, .int y271), (8, .int y273)]) dX10_canBe_68 (by decide) rfl ?_
          refine mw_iload dX10_canBe_70 6 rfl ?_
          refine mw_iconst dX10_canBe_72 ki_m1 ?_
          refine mw_icmp_eq (tgt := 83) dX10_canBe_73 (by decide) (fun q295 => ?_) (fun q295 => ?_)
          · skip
            refine mw_iload dX10_canBe_83 7 rfl ?_
            refine mw_iconst dX10_canBe_85 ki_m1 ?_
            refine mw_icmp_eq (tgt := 96) dX10_canBe_86 (by decide) (fun q296 => ?_) (fun q296 => ?_)
            · skip
              have b297 : mm_b (-1) (-1) x5 := bd_eq_l q296 h5 n_m1 (by decide)
              refine mw_iconst dX10_canBe_96 ki_1 ?_
              refine mw_goto (tgt := 101) dX10_canBe_97 (by decide) ?_
              refine mw_istore (ls' := [(11, .int 1), (10, .int v292), (9, .int v284), (0, .ref 0), (1, .int x1), (2, .int x2), (3, .int x3), (4, .int x4), (5, .int x5), (6, .int y269), (7, .int y271), (8, .int y273)]) dX10_canBe_101 (by decide) rfl ?_
              refine mw_iload dX10_canBe_103 0 rfl ?_
              refine mw_if_eq (tgt := 191) dX10_canBe_105 (by decide) (fun q298 => ?_) (fun q298 => ?_)
              · skip
                exact bd_feq q298 n_1 n_0 (by decide)
              · skip
                refine mw_aload_n dX10_canBe_108 rfl 3 rfl ?_
                refine tc_Vv (as := []) (st := []) dX10_canBe_109 rfl shM_0 rfl rfl mX10_231 t_X10_layAside rfl (Nat.le_of_ble_eq_true rfl) (by decide) (by decide) (c_X10_layAside (g := g) S266 hI267) (fun S299 h300 => ?_)
                obtain ⟨hI302, hf303, x301⟩ := h300
                have hF304 := fr_tr hF268 hf303 (by decide) (by decide) (by decide) (by decide)
                refine mw_iload dX10_canBe_112 7 rfl ?_
                refine mw_iconst dX10_canBe_114 ki_m1 ?_
                refine mw_icmp_eq (tgt := 142) dX10_canBe_115 (by decide) (fun q305 => ?_) (fun q305 => ?_)
                · skip
                  refine mw_iload dX10_canBe_142 8 rfl ?_
                  refine mw_iconst dX10_canBe_144 ki_m1 ?_
                  refine mw_icmp_eq (tgt := 172) dX10_canBe_145 (by decide) (fun q306 => ?_) (fun q306 => ?_)
                  · skip
                    refine mw_aload_n dX10_canBe_172 rfl 3 rfl ?_
                    refine mw_iload_n dX10_canBe_173 rfl 4 rfl ?_
                    refine tc_Vv (as := [.int x1]) (st := []) dX10_canBe_174 rfl shM_0 rfl rfl mX10_234 t_X10_allDie rfl (Nat.le_of_ble_eq_true rfl) (by decide) (by decide) (c_X10_allDie (g := g) S299 hI302 x1 hx275.1) (fun S307 h308 => ?_)
                    obtain ⟨hI310, hf311, x309⟩ := h308
                    have hF312 := fr_tr hF304 hf311 (by decide) (by decide) (by decide) (by decide)
                    refine mw_aload_n dX10_canBe_177 rfl 3 rfl ?_
                    refine tw_getr (j := 3) dX10_canBe_178 shM_0 rfl rfl (by decide) fX10_19 ?_
                    refine mw_iconst dX10_canBe_181 ki_0 ?_
                    refine mw_iload_n dX10_canBe_182 rfl 5 rfl ?_
                    refine mw_iadd dX10_canBe_183 (fun v313 ev313 => ?_)
                    have b314 : mm_b (0) (6) v313 := bd_add ev313 n_0 h2 (by decide)
                    refine tw_iald dX10_canBe_184 shM_4 (bd_in b314 (by decide)) (fun v315 ev315 => ?_)
                    have b316 : mm_b (0) (9) v315 := JIM_elt hI310 ev315 b314 tbM_33 (by decide)
                    refine mw_iload_n dX10_canBe_185 rfl 6 rfl ?_
                    refine mw_icmp_ne (tgt := 191) dX10_canBe_186 (by decide) (fun q317 => ?_) (fun q317 => ?_)
                    · skip
                      refine mw_iinc (ls' := fun v => [(8, .int v), (11, .int 1), (10, .int v292), (9, .int v284), (0, .ref 0), (1, .int x1), (2, .int x2), (3, .int x3), (4, .int x4), (5, .int x5), (6, .int y269), (7, .int y271)]) dX10_canBe_191 11 rfl (by decide) (fun _ => rfl) (fun v318 ev318 => ?_)
                      have b319 : mm_b (1) (64) v318 := bd_inc ev318 b279 (by decide)
                      refine mw_goto (tgt := 41) dX10_canBe_194 (by decide) ?_
                      refine mw_ls [4, 5, 6, 7, 8, 9, 10, 11, 0] rfl ?_
                      exact ih41 S307 y269 y271 v318 (ms_inc ev318 b279 (by decide) hm276) hI310 hF312 b270 b272 (bd_w b319 (by decide)) ⟨hx275.1, hx275.2⟩
                    · skip
                      have b320 : mm_b (0) (9) x3 := bd_eq_l (Eq.symm q317) (bd_all x3) b316 (by decide)
                      refine mw_iconst dX10_canBe_189 ki_1 ?_
                      exact mw_zret rfl (bd_nar n_1 (by decide)) dX10_canBe_190 rfl rfl ⟨S307, _, rfl, rfl, hI310, hF312, bd_w n_1 (by decide), Or.inr (bd_w b320 (by decide))⟩
                  · skip
                    exact bd_fne q306 b297 n_m1
                · skip
                  exact bd_fne q305 b265 n_m1
            · skip
              have b321 : mm_b (0) (6) x5 := bd_ne_l q296 h5 n_m1 (by decide)
              refine mw_iload dX10_canBe_89 0 rfl ?_
              refine mw_iload dX10_canBe_91 7 rfl ?_
              refine mw_icmp_eq (tgt := 100) dX10_canBe_93 (by decide) (fun q322 => ?_) (fun q322 => ?_)
              · skip
                have b323 : mm_b (0) (6) v292 := bd_eq_l q322 b293 b321 (by decide)
                refine mw_iconst dX10_canBe_100 ki_0 ?_
                refine mw_istore (ls' := [(11, .int 0), (10, .int v292), (9, .int v284), (0, .ref 0), (1, .int x1), (2, .int x2), (3, .int x3), (4, .int x4), (5, .int x5), (6, .int y269), (7, .int y271), (8, .int y273)]) dX10_canBe_101 (by decide) rfl ?_
                refine mw_iload dX10_canBe_103 0 rfl ?_
                refine mw_if_eq (tgt := 191) dX10_canBe_105 (by decide) (fun q324 => ?_) (fun q324 => ?_)
                · skip
                  refine mw_iinc (ls' := fun v => [(8, .int v), (11, .int 0), (10, .int v292), (9, .int v284), (0, .ref 0), (1, .int x1), (2, .int x2), (3, .int x3), (4, .int x4), (5, .int x5), (6, .int y269), (7, .int y271)]) dX10_canBe_191 11 rfl (by decide) (fun _ => rfl) (fun v325 ev325 => ?_)
                  have b326 : mm_b (1) (64) v325 := bd_inc ev325 b279 (by decide)
                  refine mw_goto (tgt := 41) dX10_canBe_194 (by decide) ?_
                  refine mw_ls [4, 5, 6, 7, 8, 9, 10, 11, 0] rfl ?_
                  exact ih41 S266 y269 y271 v325 (ms_inc ev325 b279 (by decide) hm276) hI267 hF268 b270 b272 (bd_w b326 (by decide)) ⟨hx275.1, hx275.2⟩
                · skip
                  exact bd_fne q324 n_0 n_0
              · skip
                refine mw_iconst dX10_canBe_96 ki_1 ?_
                refine mw_goto (tgt := 101) dX10_canBe_97 (by decide) ?_
                refine mw_istore (ls' := [(11, .int 1), (10, .int v292), (9, .int v284), (0, .ref 0), (1, .int x1), (2, .int x2), (3, .int x3), (4, .int x4), (5, .int x5), (6, .int y269), (7, .int y271), (8, .int y273)]) dX10_canBe_101 (by decide) rfl ?_
                refine mw_iload dX10_canBe_103 0 rfl ?_
                refine mw_if_eq (tgt := 191) dX10_canBe_105 (by decide) (fun q327 => ?_) (fun q327 => ?_)
                · skip
                  exact bd_feq q327 n_1 n_0 (by decide)
                · skip
                  refine mw_aload_n dX10_canBe_108 rfl 3 rfl ?_
                  refine tc_Vv (as := []) (st := []) dX10_canBe_109 rfl shM_0 rfl rfl mX10_231 t_X10_layAside rfl (Nat.le_of_ble_eq_true rfl) (by decide) (by decide) (c_X10_layAside (g := g) S266 hI267) (fun S328 h329 => ?_)
                  obtain ⟨hI331, hf332, x330⟩ := h329
                  have hF333 := fr_tr hF268 hf332 (by decide) (by decide) (by decide) (by decide)
                  refine mw_iload dX10_canBe_112 7 rfl ?_
                  refine mw_iconst dX10_canBe_114 ki_m1 ?_
                  refine mw_icmp_eq (tgt := 142) dX10_canBe_115 (by decide) (fun q334 => ?_) (fun q334 => ?_)
                  · skip
                    refine mw_iload dX10_canBe_142 8 rfl ?_
                    refine mw_iconst dX10_canBe_144 ki_m1 ?_
                    refine mw_icmp_eq (tgt := 172) dX10_canBe_145 (by decide) (fun q335 => ?_) (fun q335 => ?_)
                    · skip
                      exact bd_feq q335 b321 n_m1 (by decide)
                    · skip
                      refine mw_aload_n dX10_canBe_148 rfl 3 rfl ?_
                      refine tw_getr (j := 3) dX10_canBe_149 shM_0 rfl rfl (by decide) fX10_19 ?_
                      refine mw_bipush dX10_canBe_152 kb_14 ?_
                      refine mw_iload dX10_canBe_154 8 rfl ?_
                      refine mw_iadd dX10_canBe_156 (fun v336 ev336 => ?_)
                      have b337 : mm_b (14) (20) v336 := bd_add ev336 n_14 b321 (by decide)
                      refine mw_iload dX10_canBe_157 1 rfl ?_
                      refine tw_iast dX10_canBe_159 shM_4 (bd_in b337 (by decide)) ?_
                      have hI338 : JM (mm_up S328 4 v336.toNatClampNeg v292) := JIM_puta hI331 b293 b337 (by decide) (by decide +kernel)
                      generalize hS339 : (mm_up S328 4 v336.toNatClampNeg v292) = S339 at hI338 ⊢
                      have hF340 := fr_upA hF333 hS339 (by decide)
                      refine mw_aload_n dX10_canBe_160 rfl 3 rfl ?_
                      refine tw_getr (j := 3) dX10_canBe_161 shM_0 rfl rfl (by decide) fX10_19 ?_
                      refine mw_bipush dX10_canBe_164 kb_21 ?_
                      refine mw_iload dX10_canBe_166 8 rfl ?_
                      refine mw_iadd dX10_canBe_168 (fun v341 ev341 => ?_)
                      have b342 : mm_b (21) (27) v341 := bd_add ev341 n_21 b321 (by decide)
                      refine mw_bipush dX10_canBe_169 kb_9 ?_
                      refine tw_iast dX10_canBe_171 shM_4 (bd_in b342 (by decide)) ?_
                      have hI343 : JM (mm_up S339 4 v341.toNatClampNeg 9) := JIM_puta hI338 n_9 b342 (by decide) (by decide +kernel)
                      generalize hS344 : (mm_up S339 4 v341.toNatClampNeg 9) = S344 at hI343 ⊢
                      have hF345 := fr_upA hF340 hS344 (by decide)
                      refine mw_aload_n dX10_canBe_172 rfl 3 rfl ?_
                      refine mw_iload_n dX10_canBe_173 rfl 4 rfl ?_
                      refine tc_Vv (as := [.int x1]) (st := []) dX10_canBe_174 rfl shM_0 rfl rfl mX10_234 t_X10_allDie rfl (Nat.le_of_ble_eq_true rfl) (by decide) (by decide) (c_X10_allDie (g := g) S344 hI343 x1 hx275.1) (fun S346 h347 => ?_)
                      obtain ⟨hI349, hf350, x348⟩ := h347
                      have hF351 := fr_tr hF345 hf350 (by decide) (by decide) (by decide) (by decide)
                      refine mw_aload_n dX10_canBe_177 rfl 3 rfl ?_
                      refine tw_getr (j := 3) dX10_canBe_178 shM_0 rfl rfl (by decide) fX10_19 ?_
                      refine mw_iconst dX10_canBe_181 ki_0 ?_
                      refine mw_iload_n dX10_canBe_182 rfl 5 rfl ?_
                      refine mw_iadd dX10_canBe_183 (fun v352 ev352 => ?_)
                      have b353 : mm_b (0) (6) v352 := bd_add ev352 n_0 h2 (by decide)
                      refine tw_iald dX10_canBe_184 shM_4 (bd_in b353 (by decide)) (fun v354 ev354 => ?_)
                      have b355 : mm_b (0) (9) v354 := JIM_elt hI349 ev354 b353 tbM_33 (by decide)
                      refine mw_iload_n dX10_canBe_185 rfl 6 rfl ?_
                      refine mw_icmp_ne (tgt := 191) dX10_canBe_186 (by decide) (fun q356 => ?_) (fun q356 => ?_)
                      · skip
                        refine mw_iinc (ls' := fun v => [(8, .int v), (11, .int 1), (10, .int v292), (9, .int v284), (0, .ref 0), (1, .int x1), (2, .int x2), (3, .int x3), (4, .int x4), (5, .int x5), (6, .int y269), (7, .int y271)]) dX10_canBe_191 11 rfl (by decide) (fun _ => rfl) (fun v357 ev357 => ?_)
                        have b358 : mm_b (1) (64) v357 := bd_inc ev357 b279 (by decide)
                        refine mw_goto (tgt := 41) dX10_canBe_194 (by decide) ?_
                        refine mw_ls [4, 5, 6, 7, 8, 9, 10, 11, 0] rfl ?_
                        exact ih41 S346 y269 y271 v357 (ms_inc ev357 b279 (by decide) hm276) hI349 hF351 b270 b272 (bd_w b358 (by decide)) ⟨hx275.1, hx275.2⟩
                      · skip
                        have b359 : mm_b (0) (9) x3 := bd_eq_l (Eq.symm q356) (bd_all x3) b355 (by decide)
                        refine mw_iconst dX10_canBe_189 ki_1 ?_
                        exact mw_zret rfl (bd_nar n_1 (by decide)) dX10_canBe_190 rfl rfl ⟨S346, _, rfl, rfl, hI349, hF351, bd_w n_1 (by decide), Or.inr (bd_w b359 (by decide))⟩
                  · skip
                    exact bd_fne q334 b265 n_m1
          · skip
            exact bd_fne q295 b265 n_m1
    refine mw_ls [3, 4, 5, 6, 7, 8, 2, 1, 0] rfl ?_
    exact cut41 _ S v103 (1 : Int32) (0 : Int32) (Nat.lt_succ_self _) hI hF b104 (bd_w n_1 (by decide)) (bd_w n_0 (by decide)) ⟨hd, cb_1 b104 (by decide)⟩
set_option maxRecDepth 100000 in
set_option maxHeartbeats 4000000 in
theorem c_X10_wills {g : mm_G} (S : mm_S) (hI : JM S) (x1 : Int32) (x2 : Int32) (x3 : Int32) (x4 : Int32) : mc g yX10_wills cX10_wills 10 (some .int) (mm_rm 5) [.ref 0, .int x1, .int x2, .int x3, .int x4] (mm_enc shM S) (qi shM (fun S1 v => JM S1 ∧ fr [4] [] true true S S1 ∧ mm_b (-1000000002) (127) v ∧ (True))) := by
  refine mc_of2 (own := RX10) (ini := false) (ls := [(0, .ref 0), (1, .int x1), (2, .int x2), (3, .int x3), (4, .int x4)]) (by decide) (Nat.le_of_ble_eq_true rfl) rfl (by decide) rfl ?_
  have hF : fr [4] [] true true S S := fr_rf
  refine mw_aload_n dX10_wills_0 rfl 0 rfl ?_
  refine mw_iload_n dX10_wills_1 rfl 2 rfl ?_
  refine tc_Vi (as := [.int x2]) (st := []) dX10_wills_2 rfl shM_0 rfl rfl mX10_179 t_X10_isPerson rfl (Nat.le_of_ble_eq_true rfl) (by decide) (by decide) (c_X10_isPerson (g := g) S hI x2) (fun S101 v103 h102 => ?_)
  obtain ⟨rfl, b104, x105⟩ := h102
  refine mw_if_eq (tgt := 15) dX10_wills_5 (by decide) (fun q106 => ?_) (fun q106 => ?_)
  · skip
    have b107 : mm_b (0) (0) v103 := bd_eq_l q106 b104 n_0 (by decide)
    refine mw_ldc dX10_wills_15 kX10_182 ?_
    exact mw_iret rfl dX10_wills_17 rfl rfl ⟨S, _, rfl, rfl, hI, hF, bd_w n_m1000000001 (by decide), trivial⟩
  · skip
    have b108 : mm_b (1) (1) v103 := bd_ne_l q106 b104 n_0 (by decide)
    have b109 := Or.resolve_left x105 q106
    refine mw_iload_n dX10_wills_8 rfl 3 rfl ?_
    refine tc_Si (as := [.int x3]) (st := []) dX10_wills_9 rfl mX10_205 t_X10_isVoice rfl (Nat.le_of_ble_eq_true rfl) (by decide) (by decide) (c_X10_isVoice (g := g) S hI x3) (fun S110 v112 h111 => ?_)
    obtain ⟨rfl, b113, x114⟩ := h111
    refine mw_if_ne (tgt := 18) dX10_wills_12 (by decide) (fun q115 => ?_) (fun q115 => ?_)
    · skip
      have b116 : mm_b (1) (1) v112 := bd_ne_l q115 b113 n_0 (by decide)
      have b117 := Or.resolve_left x114 q115
      refine mw_aload_n dX10_wills_18 rfl 0 rfl ?_
      refine mw_iload_n dX10_wills_19 rfl 1 rfl ?_
      refine tc_Vi (as := [.int x1]) (st := []) dX10_wills_20 rfl shM_0 rfl rfl mX10_228 t_X10_isOrder rfl (Nat.le_of_ble_eq_true rfl) (by decide) (by decide) (c_X10_isOrder (g := g) S hI x1) (fun S118 v120 h119 => ?_)
      obtain ⟨rfl, b121, x122⟩ := h119
      refine mw_if_eq (tgt := 37) dX10_wills_23 (by decide) (fun q123 => ?_) (fun q123 => ?_)
      · skip
        have b124 : mm_b (0) (0) v120 := bd_eq_l q123 b121 n_0 (by decide)
        refine mw_ldc dX10_wills_37 kX10_84 ?_
        exact mw_iret rfl dX10_wills_39 rfl rfl ⟨S, _, rfl, rfl, hI, hF, bd_w n_m1000000002 (by decide), trivial⟩
      · skip
        have b125 : mm_b (1) (1) v120 := bd_ne_l q123 b121 n_0 (by decide)
        have dg126 := Or.resolve_left x122 q123
        refine mw_iload dX10_wills_26 4 rfl ?_
        refine mw_i2l dX10_wills_28 (fun w127 ew127 => ?_)
        have b128 : mm_bl (-2147483648) (2147483647) w127 := bl_i2l ew127 (bd_all x4)
        refine mw_lconst (v := 0) dX10_wills_29 (by decide) ?_
        refine mw_lconst (v := 1) dX10_wills_30 (by decide) ?_
        refine tc_Si (as := [.long w127, .long 0, .long 1]) (st := []) dX10_wills_31 rfl mX10_62 t_X10_in rfl (Nat.le_of_ble_eq_true rfl) (by decide) (by decide) (c_X10_in (g := g) S hI w127 (0 : Int64) (1 : Int64)) (fun S129 v131 h130 => ?_)
        obtain ⟨rfl, b132, x133⟩ := h130
        have x134 := in_use (lo := 0) (hi := 1) x133 ew127 L_0 L_1 (by decide)
        refine mw_if_ne (tgt := 40) dX10_wills_34 (by decide) (fun q135 => ?_) (fun q135 => ?_)
        · skip
          have b136 : mm_b (1) (1) v131 := bd_ne_l q135 b132 n_0 (by decide)
          have b137 := Or.resolve_left x134 q135
          refine mw_iconst dX10_wills_40 ki_m1 ?_
          refine mw_istore (ls' := [(5, .int (-1)), (0, .ref 0), (1, .int x1), (2, .int x2), (3, .int x3), (4, .int x4)]) dX10_wills_41 (by decide) rfl ?_
          refine mw_iconst dX10_wills_43 ki_0 ?_
          refine mw_istore (ls' := [(6, .int 0), (5, .int (-1)), (0, .ref 0), (1, .int x1), (2, .int x2), (3, .int x3), (4, .int x4)]) dX10_wills_44 (by decide) rfl ?_
          have cut46 : ∀ (N46 : Nat) (S138 : mm_S) (y141 y143 : Int32), ((129 : Int) - y143.toInt).toNat < N46 → JM S138 → fr [4] [] true true S S138 → mm_b (-1) (127) y141 → mm_b (0) (128) y143 → dgZ x1 → mw g RX10 cX10_wills 10 (some .int) false (mm_rm 5) (qi shM (fun S1 v => JM S1 ∧ fr [4] [] true true S S1 ∧ mm_b (-1000000002) (127) v ∧ (True))) 0 0 (mm_enc shM S138) 46 [(0, .ref 0), (1, .int x1), (2, .int x2), (3, .int x3), (4, .int x4), (5, .int y141), (6, .int y143)] [] := by
            intro N46
            induction N46 with
            | zero =>
              intro S138 y141 y143 hm146 hI139 hF140 b142 b144 hx145
              exact absurd hm146 (Nat.not_lt_zero _)
            | succ N46 ih46 =>
              intro S138 y141 y143 hm146 hI139 hF140 b142 b144 hx145
              refine mw_iload dX10_wills_46 6 rfl ?_
              refine mw_iconst dX10_wills_48 ki_1 ?_
              refine mw_aload_n dX10_wills_49 rfl 0 rfl ?_
              refine tw_getr (j := 0) dX10_wills_50 shM_0 rfl rfl (by decide) fX10_7 ?_
              refine mw_iconst dX10_wills_53 ki_0 ?_
              refine tw_iald dX10_wills_54 shM_1 (bd_in n_0 (by decide)) (fun v147 ev147 => ?_)
              rw [cl_0] at ev147
              have b148 : mm_b (0) (7) v147 := JIM_fld hI139 ev147 tbM_16 (by decide)
              refine mw_ishl dX10_wills_55 (fun v149 ev149 => ?_)
              have b150 : mm_b (1) (128) v149 := bd_shl 7 ev149 b148 (by decide)
              refine mw_icmp_ge (tgt := 171) dX10_wills_56 (by decide) (fun q151 => ?_) (fun q151 => ?_)
              · skip
                have b152 : mm_b (1) (128) y143 := bd_le_r q151 b150 b144 (by decide)
                refine mw_iload dX10_wills_171 5 rfl ?_
                refine mw_iconst dX10_wills_173 ki_m1 ?_
                refine mw_icmp_eq (tgt := 183) dX10_wills_174 (by decide) (fun q153 => ?_) (fun q153 => ?_)
                · skip
                  have b154 : mm_b (-1) (-1) y141 := bd_eq_l q153 b142 n_m1 (by decide)
                  refine mw_iload dX10_wills_183 5 rfl ?_
                  refine mw_goto (tgt := 193) dX10_wills_185 (by decide) ?_
                  exact mw_iret rfl dX10_wills_193 rfl rfl ⟨S138, _, rfl, rfl, hI139, hF140, bd_w b154 (by decide), trivial⟩
                · skip
                  have b155 : mm_b (0) (127) y141 := bd_ne_l q153 b142 n_m1 (by decide)
                  refine mw_iload dX10_wills_177 4 rfl ?_
                  refine mw_iconst dX10_wills_179 ki_1 ?_
                  refine mw_icmp_ne (tgt := 188) dX10_wills_180 (by decide) (fun q156 => ?_) (fun q156 => ?_)
                  · skip
                    have b157 : mm_b (0) (0) x4 := bd_ne_l q156 b137 n_1 (by decide)
                    refine mw_iload dX10_wills_188 5 rfl ?_
                    refine tc_Si (as := [.int y141]) (st := []) dX10_wills_190 rfl mX10_241 t_X10_bits rfl (Nat.le_of_ble_eq_true rfl) (by decide) (by decide) (c_X10_bits (g := g) S138 hI139 y141) (fun S158 v160 h159 => ?_)
                    obtain ⟨rfl, b161, x162⟩ := h159
                    have b163 : mm_b 0 7 v160 := bits_b x162 (bd_w b155 (by decide))
                    exact mw_iret rfl dX10_wills_193 rfl rfl ⟨S138, _, rfl, rfl, hI139, hF140, bd_w b163 (by decide), trivial⟩
                  · skip
                    have b164 : mm_b (1) (1) x4 := bd_eq_l q156 b137 n_1 (by decide)
                    refine mw_iload dX10_wills_183 5 rfl ?_
                    refine mw_goto (tgt := 193) dX10_wills_185 (by decide) ?_
                    exact mw_iret rfl dX10_wills_193 rfl rfl ⟨S138, _, rfl, rfl, hI139, hF140, bd_w b155 (by decide), trivial⟩
              · skip
                have b165 : mm_b (0) (127) y143 := bd_lt_l (bd_nle q151) b144 b150 (by decide)
                refine mw_iload dX10_wills_59 6 rfl ?_
                refine tc_Si (as := [.int y143]) (st := []) dX10_wills_61 rfl mX10_241 t_X10_bits rfl (Nat.le_of_ble_eq_true rfl) (by decide) (by decide) (c_X10_bits (g := g) S138 hI139 y143) (fun S166 v168 h167 => ?_)
                obtain ⟨rfl, b169, x170⟩ := h167
                have b171 : mm_b 0 7 v168 := bits_b x170 (bd_w b165 (by decide))
                refine mw_iconst dX10_wills_64 ki_3 ?_
                refine mw_icmp_ge (tgt := 91) dX10_wills_65 (by decide) (fun q172 => ?_) (fun q172 => ?_)
                · skip
                  have b173 : mm_b (3) (7) v168 := bd_le_r q172 n_3 b171 (by decide)
                  refine mw_iconst dX10_wills_91 ki_0 ?_
                  refine mw_istore (ls' := [(7, .int 0), (0, .ref 0), (1, .int x1), (2, .int x2), (3, .int x3), (4, .int x4), (5, .int y141), (6, .int y143)]) dX10_wills_92 (by decide) rfl ?_
                  refine mw_iload dX10_wills_94 0 rfl ?_
                  refine mw_if_eq (tgt := 165) dX10_wills_96 (by decide) (fun q174 => ?_) (fun q174 => ?_)
                  · skip
                    refine mw_iinc (ls' := fun v => [(6, .int v), (7, .int 0), (0, .ref 0), (1, .int x1), (2, .int x2), (3, .int x3), (4, .int x4), (5, .int y141)]) dX10_wills_165 7 rfl (by decide) (fun _ => rfl) (fun v175 ev175 => ?_)
                    have b176 : mm_b (1) (128) v175 := bd_inc ev175 b165 (by decide)
                    refine mw_goto (tgt := 46) dX10_wills_168 (by decide) ?_
                    refine mw_ls [2, 3, 4, 5, 6, 7, 0] rfl ?_
                    exact ih46 S138 y141 v175 (ms_inc ev175 b165 (by decide) hm146) hI139 hF140 b142 (bd_w b176 (by decide)) hx145
                  · skip
                    exact bd_fne q174 n_0 n_0
                · skip
                  have b177 : mm_b (0) (2) v168 := bd_lt_l (bd_nle q172) b171 n_3 (by decide)
                  refine mw_iload dX10_wills_68 5 rfl ?_
                  refine mw_iconst dX10_wills_70 ki_m1 ?_
                  refine mw_icmp_eq (tgt := 87) dX10_wills_71 (by decide) (fun q178 => ?_) (fun q178 => ?_)
                  · skip
                    have b179 : mm_b (-1) (-1) y141 := bd_eq_l q178 b142 n_m1 (by decide)
                    refine mw_iconst dX10_wills_87 ki_1 ?_
                    refine mw_goto (tgt := 92) dX10_wills_88 (by decide) ?_
                    refine mw_istore (ls' := [(7, .int 1), (0, .ref 0), (1, .int x1), (2, .int x2), (3, .int x3), (4, .int x4), (5, .int y141), (6, .int y143)]) dX10_wills_92 (by decide) rfl ?_
                    refine mw_iload dX10_wills_94 0 rfl ?_
                    refine mw_if_eq (tgt := 165) dX10_wills_96 (by decide) (fun q180 => ?_) (fun q180 => ?_)
                    · skip
                      exact bd_feq q180 n_1 n_0 (by decide)
                    · skip
                      refine mw_iload dX10_wills_99 7 rfl ?_
                      refine mw_if_ne (tgt := 108) dX10_wills_101 (by decide) (fun q181 => ?_) (fun q181 => ?_)
                      · skip
                        have b182 : mm_b (1) (127) y143 := bd_ne_l q181 b165 n_0 (by decide)
                        refine mw_iload dX10_wills_108 7 rfl ?_
                        refine tc_Si (as := [.int y143]) (st := []) dX10_wills_110 rfl mX10_195 t_X10_leastOf rfl (Nat.le_of_ble_eq_true rfl) (by decide) (by decide) (c_X10_leastOf (g := g) S138 hI139 y143) (fun S183 v185 h184 => ?_)
                        obtain ⟨rfl, b186, x187⟩ := h184
                        have b188 : mm_b 0 6 v185 := ls_b x187 b182 (by decide)
                        refine mw_istore (ls' := [(8, .int v185), (7, .int 1), (0, .ref 0), (1, .int x1), (2, .int x2), (3, .int x3), (4, .int x4), (5, .int y141), (6, .int y143)]) dX10_wills_113 (by decide) rfl ?_
                        refine mw_iload dX10_wills_115 8 rfl ?_
                        refine tc_Si (as := [.int y143]) (st := []) dX10_wills_117 rfl mX10_241 t_X10_bits rfl (Nat.le_of_ble_eq_true rfl) (by decide) (by decide) (c_X10_bits (g := g) S138 hI139 y143) (fun S189 v191 h190 => ?_)
                        obtain ⟨rfl, b192, x193⟩ := h190
                        have cv191 : v168 = v191 := bits_eq x170 x193
                        subst cv191
                        refine mw_iconst dX10_wills_120 ki_2 ?_
                        refine mw_icmp_ge (tgt := 128) dX10_wills_121 (by decide) (fun q194 => ?_) (fun q194 => ?_)
                        · skip
                          have b195 : mm_b (2) (2) v168 := bd_le_r q194 n_2 b177 (by decide)
                          refine mw_iload dX10_wills_128 8 rfl ?_
                          refine mw_iconst dX10_wills_130 ki_1 ?_
                          refine mw_iload dX10_wills_131 0 rfl ?_
                          refine mw_ishl dX10_wills_133 (fun v196 ev196 => ?_)
                          have b197 : mm_b (1) (64) v196 := bd_shl 6 ev196 b188 (by decide)
                          refine mw_iconst dX10_wills_134 ki_m1 ?_
                          refine mw_ixor dX10_wills_135 (fun v198 ev198 => ?_)
                          refine mw_iand dX10_wills_136 (fun v199 ev199 => ?_)
                          have b200 : mm_b (0) (127) v199 := bd_and ev199 b182 (by decide)
                          have b201 : mm_b 1 127 v199 := two_b x170 (bd_w b195 (by decide)) b182 (by decide) b188 ev196 ev198 rfl ev199
                          refine tc_Si (as := [.int v199]) (st := []) dX10_wills_137 rfl mX10_195 t_X10_leastOf rfl (Nat.le_of_ble_eq_true rfl) (by decide) (by decide) (c_X10_leastOf (g := g) S138 hI139 v199) (fun S202 v204 h203 => ?_)
                          obtain ⟨rfl, b205, x206⟩ := h203
                          have b207 : mm_b 0 6 v204 := ls_b x206 b201 (by decide)
                          refine mw_istore (ls' := [(9, .int v204), (8, .int v185), (7, .int 1), (0, .ref 0), (1, .int x1), (2, .int x2), (3, .int x3), (4, .int x4), (5, .int y141), (6, .int y143)]) dX10_wills_140 (by decide) rfl ?_
                          refine mw_aload_n dX10_wills_142 rfl 3 rfl ?_
                          refine mw_iload_n dX10_wills_143 rfl 4 rfl ?_
                          refine mw_iload_n dX10_wills_144 rfl 5 rfl ?_
                          refine mw_iload_n dX10_wills_145 rfl 6 rfl ?_
                          refine mw_iload dX10_wills_146 1 rfl ?_
                          refine mw_iload dX10_wills_148 0 rfl ?_
                          refine tc_Vi (as := [.int x1, .int x2, .int x3, .int v185, .int v204]) (st := []) dX10_wills_150 rfl shM_0 rfl rfl mX10_244 t_X10_canBe rfl (Nat.le_of_ble_eq_true rfl) (by decide) (by decide) (c_X10_canBe (g := g) S138 hI139 x1 x2 b109 x3 v185 (bd_w b188 (by decide)) v204 (bd_w b207 (by decide)) hx145) (fun S208 v210 h209 => ?_)
                          obtain ⟨hI214, hf215, b211, x212⟩ := h209
                          have hF216 := fr_tr hF140 hf215 (by decide) (by decide) (by decide) (by decide)
                          refine mw_if_eq (tgt := 161) dX10_wills_153 (by decide) (fun q217 => ?_) (fun q217 => ?_)
                          · skip
                            have b218 : mm_b (0) (0) v210 := bd_eq_l q217 b211 n_0 (by decide)
                            refine mw_iload dX10_wills_161 8 rfl ?_
                            refine mw_istore (ls' := [(5, .int y141), (9, .int v204), (8, .int v185), (7, .int 1), (0, .ref 0), (1, .int x1), (2, .int x2), (3, .int x3), (4, .int x4), (6, .int y143)]) dX10_wills_163 (by decide) rfl ?_
                            refine mw_iinc (ls' := fun v => [(6, .int v), (5, .int y141), (9, .int v204), (8, .int v185), (7, .int 1), (0, .ref 0), (1, .int x1), (2, .int x2), (3, .int x3), (4, .int x4)]) dX10_wills_165 9 rfl (by decide) (fun _ => rfl) (fun v219 ev219 => ?_)
                            have b220 : mm_b (2) (128) v219 := bd_inc ev219 b182 (by decide)
                            refine mw_goto (tgt := 46) dX10_wills_168 (by decide) ?_
                            refine mw_ls [5, 6, 7, 8, 9, 1, 0] rfl ?_
                            exact ih46 S208 y141 v219 (ms_inc ev219 b182 (by decide) hm146) hI214 hF216 (bd_w b179 (by decide)) (bd_w b220 (by decide)) hx145
                          · skip
                            have b221 : mm_b (1) (1) v210 := bd_ne_l q217 b211 n_0 (by decide)
                            have b222 := Or.resolve_left x212 q217
                            have b223 : mm_b (0) (6) x3 := bd_both b117 b222 (by decide)
                            refine mw_iload dX10_wills_156 9 rfl ?_
                            refine mw_goto (tgt := 163) dX10_wills_158 (by decide) ?_
                            refine mw_istore (ls' := [(5, .int y143), (9, .int v204), (8, .int v185), (7, .int 1), (0, .ref 0), (1, .int x1), (2, .int x2), (3, .int x3), (4, .int x4), (6, .int y143)]) dX10_wills_163 (by decide) rfl ?_
                            refine mw_iinc (ls' := fun v => [(6, .int v), (5, .int y143), (9, .int v204), (8, .int v185), (7, .int 1), (0, .ref 0), (1, .int x1), (2, .int x2), (3, .int x3), (4, .int x4)]) dX10_wills_165 9 rfl (by decide) (fun _ => rfl) (fun v224 ev224 => ?_)
                            have b225 : mm_b (2) (128) v224 := bd_inc ev224 b182 (by decide)
                            refine mw_goto (tgt := 46) dX10_wills_168 (by decide) ?_
                            refine mw_ls [5, 6, 7, 8, 9, 1, 0] rfl ?_
                            exact ih46 S208 y143 v224 (ms_inc ev224 b182 (by decide) hm146) hI214 hF216 (bd_w b182 (by decide)) (bd_w b225 (by decide)) hx145
                        · skip
                          have b226 : mm_b (0) (1) v168 := bd_lt_l (bd_nle q194) b177 n_2 (by decide)
                          refine mw_iconst dX10_wills_124 ki_m1 ?_
                          refine mw_goto (tgt := 140) dX10_wills_125 (by decide) ?_
                          refine mw_istore (ls' := [(9, .int (-1)), (8, .int v185), (7, .int 1), (0, .ref 0), (1, .int x1), (2, .int x2), (3, .int x3), (4, .int x4), (5, .int y141), (6, .int y143)]) dX10_wills_140 (by decide) rfl ?_
                          refine mw_aload_n dX10_wills_142 rfl 3 rfl ?_
                          refine mw_iload_n dX10_wills_143 rfl 4 rfl ?_
                          refine mw_iload_n dX10_wills_144 rfl 5 rfl ?_
                          refine mw_iload_n dX10_wills_145 rfl 6 rfl ?_
                          refine mw_iload dX10_wills_146 1 rfl ?_
                          refine mw_iload dX10_wills_148 0 rfl ?_
                          refine tc_Vi (as := [.int x1, .int x2, .int x3, .int v185, .int (-1)]) (st := []) dX10_wills_150 rfl shM_0 rfl rfl mX10_244 t_X10_canBe rfl (Nat.le_of_ble_eq_true rfl) (by decide) (by decide) (c_X10_canBe (g := g) S138 hI139 x1 x2 b109 x3 v185 (bd_w b188 (by decide)) (-1 : Int32) (bd_w n_m1 (by decide)) hx145) (fun S227 v229 h228 => ?_)
                          obtain ⟨hI233, hf234, b230, x231⟩ := h228
                          have hF235 := fr_tr hF140 hf234 (by decide) (by decide) (by decide) (by decide)
                          refine mw_if_eq (tgt := 161) dX10_wills_153 (by decide) (fun q236 => ?_) (fun q236 => ?_)
                          · skip
                            have b237 : mm_b (0) (0) v229 := bd_eq_l q236 b230 n_0 (by decide)
                            refine mw_iload dX10_wills_161 8 rfl ?_
                            refine mw_istore (ls' := [(5, .int y141), (9, .int (-1)), (8, .int v185), (7, .int 1), (0, .ref 0), (1, .int x1), (2, .int x2), (3, .int x3), (4, .int x4), (6, .int y143)]) dX10_wills_163 (by decide) rfl ?_
                            refine mw_iinc (ls' := fun v => [(6, .int v), (5, .int y141), (9, .int (-1)), (8, .int v185), (7, .int 1), (0, .ref 0), (1, .int x1), (2, .int x2), (3, .int x3), (4, .int x4)]) dX10_wills_165 9 rfl (by decide) (fun _ => rfl) (fun v238 ev238 => ?_)
                            have b239 : mm_b (2) (128) v238 := bd_inc ev238 b182 (by decide)
                            refine mw_goto (tgt := 46) dX10_wills_168 (by decide) ?_
                            refine mw_ls [5, 6, 7, 8, 9, 1, 0] rfl ?_
                            exact ih46 S227 y141 v238 (ms_inc ev238 b182 (by decide) hm146) hI233 hF235 (bd_w b179 (by decide)) (bd_w b239 (by decide)) hx145
                          · skip
                            have b240 : mm_b (1) (1) v229 := bd_ne_l q236 b230 n_0 (by decide)
                            have b241 := Or.resolve_left x231 q236
                            have b242 : mm_b (0) (6) x3 := bd_both b117 b241 (by decide)
                            refine mw_iload dX10_wills_156 9 rfl ?_
                            refine mw_goto (tgt := 163) dX10_wills_158 (by decide) ?_
                            refine mw_istore (ls' := [(5, .int y143), (9, .int (-1)), (8, .int v185), (7, .int 1), (0, .ref 0), (1, .int x1), (2, .int x2), (3, .int x3), (4, .int x4), (6, .int y143)]) dX10_wills_163 (by decide) rfl ?_
                            refine mw_iinc (ls' := fun v => [(6, .int v), (5, .int y143), (9, .int (-1)), (8, .int v185), (7, .int 1), (0, .ref 0), (1, .int x1), (2, .int x2), (3, .int x3), (4, .int x4)]) dX10_wills_165 9 rfl (by decide) (fun _ => rfl) (fun v243 ev243 => ?_)
                            have b244 : mm_b (2) (128) v243 := bd_inc ev243 b182 (by decide)
                            refine mw_goto (tgt := 46) dX10_wills_168 (by decide) ?_
                            refine mw_ls [5, 6, 7, 8, 9, 1, 0] rfl ?_
                            exact ih46 S227 y143 v243 (ms_inc ev243 b182 (by decide) hm146) hI233 hF235 (bd_w b182 (by decide)) (bd_w b244 (by decide)) hx145
                      · skip
                        have b245 : mm_b (0) (0) y143 := bd_eq_l q181 b165 n_0 (by decide)
                        refine mw_iconst dX10_wills_104 ki_m1 ?_
                        refine mw_goto (tgt := 113) dX10_wills_105 (by decide) ?_
                        refine mw_istore (ls' := [(8, .int (-1)), (7, .int 1), (0, .ref 0), (1, .int x1), (2, .int x2), (3, .int x3), (4, .int x4), (5, .int y141), (6, .int y143)]) dX10_wills_113 (by decide) rfl ?_
                        refine mw_iload dX10_wills_115 8 rfl ?_
                        refine tc_Si (as := [.int y143]) (st := []) dX10_wills_117 rfl mX10_241 t_X10_bits rfl (Nat.le_of_ble_eq_true rfl) (by decide) (by decide) (c_X10_bits (g := g) S138 hI139 y143) (fun S246 v248 h247 => ?_)
                        obtain ⟨rfl, b249, x250⟩ := h247
                        have cv248 : v168 = v248 := bits_eq x170 x250
                        subst cv248
                        have b251 : mm_b 0 0 v168 := bits_0 x170 b245
                        refine mw_iconst dX10_wills_120 ki_2 ?_
                        refine mw_icmp_ge (tgt := 128) dX10_wills_121 (by decide) (fun q252 => ?_) (fun q252 => ?_)
                        · skip
                          exact bd_fle q252 n_2 b251 (by decide)
                        · skip
                          refine mw_iconst dX10_wills_124 ki_m1 ?_
                          refine mw_goto (tgt := 140) dX10_wills_125 (by decide) ?_
                          refine mw_istore (ls' := [(9, .int (-1)), (8, .int (-1)), (7, .int 1), (0, .ref 0), (1, .int x1), (2, .int x2), (3, .int x3), (4, .int x4), (5, .int y141), (6, .int y143)]) dX10_wills_140 (by decide) rfl ?_
                          refine mw_aload_n dX10_wills_142 rfl 3 rfl ?_
                          refine mw_iload_n dX10_wills_143 rfl 4 rfl ?_
                          refine mw_iload_n dX10_wills_144 rfl 5 rfl ?_
                          refine mw_iload_n dX10_wills_145 rfl 6 rfl ?_
                          refine mw_iload dX10_wills_146 1 rfl ?_
                          refine mw_iload dX10_wills_148 0 rfl ?_
                          refine tc_Vi (as := [.int x1, .int x2, .int x3, .int (-1), .int (-1)]) (st := []) dX10_wills_150 rfl shM_0 rfl rfl mX10_244 t_X10_canBe rfl (Nat.le_of_ble_eq_true rfl) (by decide) (by decide) (c_X10_canBe (g := g) S138 hI139 x1 x2 b109 x3 (-1 : Int32) (bd_w n_m1 (by decide)) (-1 : Int32) (bd_w n_m1 (by decide)) hx145) (fun S253 v255 h254 => ?_)
                          obtain ⟨hI259, hf260, b256, x257⟩ := h254
                          have hF261 := fr_tr hF140 hf260 (by decide) (by decide) (by decide) (by decide)
                          refine mw_if_eq (tgt := 161) dX10_wills_153 (by decide) (fun q262 => ?_) (fun q262 => ?_)
                          · skip
                            have b263 : mm_b (0) (0) v255 := bd_eq_l q262 b256 n_0 (by decide)
                            refine mw_iload dX10_wills_161 8 rfl ?_
                            refine mw_istore (ls' := [(5, .int y141), (9, .int (-1)), (8, .int (-1)), (7, .int 1), (0, .ref 0), (1, .int x1), (2, .int x2), (3, .int x3), (4, .int x4), (6, .int y143)]) dX10_wills_163 (by decide) rfl ?_
                            refine mw_iinc (ls' := fun v => [(6, .int v), (5, .int y141), (9, .int (-1)), (8, .int (-1)), (7, .int 1), (0, .ref 0), (1, .int x1), (2, .int x2), (3, .int x3), (4, .int x4)]) dX10_wills_165 9 rfl (by decide) (fun _ => rfl) (fun v264 ev264 => ?_)
                            have b265 : mm_b (1) (1) v264 := bd_inc ev264 b245 (by decide)
                            refine mw_goto (tgt := 46) dX10_wills_168 (by decide) ?_
                            refine mw_ls [5, 6, 7, 8, 9, 1, 0] rfl ?_
                            exact ih46 S253 y141 v264 (ms_inc ev264 b245 (by decide) hm146) hI259 hF261 (bd_w b179 (by decide)) (bd_w b265 (by decide)) hx145
                          · skip
                            have b266 : mm_b (1) (1) v255 := bd_ne_l q262 b256 n_0 (by decide)
                            have b267 := Or.resolve_left x257 q262
                            have b268 : mm_b (0) (6) x3 := bd_both b117 b267 (by decide)
                            refine mw_iload dX10_wills_156 9 rfl ?_
                            refine mw_goto (tgt := 163) dX10_wills_158 (by decide) ?_
                            refine mw_istore (ls' := [(5, .int y143), (9, .int (-1)), (8, .int (-1)), (7, .int 1), (0, .ref 0), (1, .int x1), (2, .int x2), (3, .int x3), (4, .int x4), (6, .int y143)]) dX10_wills_163 (by decide) rfl ?_
                            refine mw_iinc (ls' := fun v => [(6, .int v), (5, .int y143), (9, .int (-1)), (8, .int (-1)), (7, .int 1), (0, .ref 0), (1, .int x1), (2, .int x2), (3, .int x3), (4, .int x4)]) dX10_wills_165 9 rfl (by decide) (fun _ => rfl) (fun v269 ev269 => ?_)
                            have b270 : mm_b (1) (1) v269 := bd_inc ev269 b245 (by decide)
                            refine mw_goto (tgt := 46) dX10_wills_168 (by decide) ?_
                            refine mw_ls [5, 6, 7, 8, 9, 1, 0] rfl ?_
                            exact ih46 S253 y143 v269 (ms_inc ev269 b245 (by decide) hm146) hI259 hF261 (bd_w b245 (by decide)) (bd_w b270 (by decide)) hx145
                  · skip
                    have b271 : mm_b (0) (127) y141 := bd_ne_l q178 b142 n_m1 (by decide)
                    refine mw_iload dX10_wills_74 6 rfl ?_
                    refine tc_Si (as := [.int y143]) (st := []) dX10_wills_76 rfl mX10_241 t_X10_bits rfl (Nat.le_of_ble_eq_true rfl) (by decide) (by decide) (c_X10_bits (g := g) S138 hI139 y143) (fun S272 v274 h273 => ?_)
                    obtain ⟨rfl, b275, x276⟩ := h273
                    have cv274 : v168 = v274 := bits_eq x170 x276
                    subst cv274
                    refine mw_iload dX10_wills_79 5 rfl ?_
                    refine tc_Si (as := [.int y141]) (st := [.int v168]) dX10_wills_81 rfl mX10_241 t_X10_bits rfl (Nat.le_of_ble_eq_true rfl) (by decide) (by decide) (c_X10_bits (g := g) S138 hI139 y141) (fun S277 v279 h278 => ?_)
                    obtain ⟨rfl, b280, x281⟩ := h278
                    have b282 : mm_b 0 7 v279 := bits_b x281 (bd_w b271 (by decide))
                    refine mw_icmp_ge (tgt := 91) dX10_wills_84 (by decide) (fun q283 => ?_) (fun q283 => ?_)
                    · skip
                      have b284 : mm_b (0) (2) v279 := bd_le_l q283 b282 b177 (by decide)
                      refine mw_iconst dX10_wills_91 ki_0 ?_
                      refine mw_istore (ls' := [(7, .int 0), (0, .ref 0), (1, .int x1), (2, .int x2), (3, .int x3), (4, .int x4), (5, .int y141), (6, .int y143)]) dX10_wills_92 (by decide) rfl ?_
                      refine mw_iload dX10_wills_94 0 rfl ?_
                      refine mw_if_eq (tgt := 165) dX10_wills_96 (by decide) (fun q285 => ?_) (fun q285 => ?_)
                      · skip
                        refine mw_iinc (ls' := fun v => [(6, .int v), (7, .int 0), (0, .ref 0), (1, .int x1), (2, .int x2), (3, .int x3), (4, .int x4), (5, .int y141)]) dX10_wills_165 7 rfl (by decide) (fun _ => rfl) (fun v286 ev286 => ?_)
                        have b287 : mm_b (1) (128) v286 := bd_inc ev286 b165 (by decide)
                        refine mw_goto (tgt := 46) dX10_wills_168 (by decide) ?_
                        refine mw_ls [2, 3, 4, 5, 6, 7, 0] rfl ?_
                        exact ih46 S138 y141 v286 (ms_inc ev286 b165 (by decide) hm146) hI139 hF140 (bd_w b271 (by decide)) (bd_w b287 (by decide)) hx145
                      · skip
                        exact bd_fne q285 n_0 n_0
                    · skip
                      have b288 : mm_b (1) (7) v279 := bd_lt_r (bd_nle q283) b177 b282 (by decide)
                      refine mw_iconst dX10_wills_87 ki_1 ?_
                      refine mw_goto (tgt := 92) dX10_wills_88 (by decide) ?_
                      refine mw_istore (ls' := [(7, .int 1), (0, .ref 0), (1, .int x1), (2, .int x2), (3, .int x3), (4, .int x4), (5, .int y141), (6, .int y143)]) dX10_wills_92 (by decide) rfl ?_
                      refine mw_iload dX10_wills_94 0 rfl ?_
                      refine mw_if_eq (tgt := 165) dX10_wills_96 (by decide) (fun q289 => ?_) (fun q289 => ?_)
                      · skip
                        exact bd_feq q289 n_1 n_0 (by decide)
                      · skip
                        refine mw_iload dX10_wills_99 7 rfl ?_
                        refine mw_if_ne (tgt := 108) dX10_wills_101 (by decide) (fun q290 => ?_) (fun q290 => ?_)
                        · skip
                          have b291 : mm_b (1) (127) y143 := bd_ne_l q290 b165 n_0 (by decide)
                          refine mw_iload dX10_wills_108 7 rfl ?_
                          refine tc_Si (as := [.int y143]) (st := []) dX10_wills_110 rfl mX10_195 t_X10_leastOf rfl (Nat.le_of_ble_eq_true rfl) (by decide) (by decide) (c_X10_leastOf (g := g) S138 hI139 y143) (fun S292 v294 h293 => ?_)
                          obtain ⟨rfl, b295, x296⟩ := h293
                          have b297 : mm_b 0 6 v294 := ls_b x296 b291 (by decide)
                          refine mw_istore (ls' := [(8, .int v294), (7, .int 1), (0, .ref 0), (1, .int x1), (2, .int x2), (3, .int x3), (4, .int x4), (5, .int y141), (6, .int y143)]) dX10_wills_113 (by decide) rfl ?_
                          refine mw_iload dX10_wills_115 8 rfl ?_
                          refine tc_Si (as := [.int y143]) (st := []) dX10_wills_117 rfl mX10_241 t_X10_bits rfl (Nat.le_of_ble_eq_true rfl) (by decide) (by decide) (c_X10_bits (g := g) S138 hI139 y143) (fun S298 v300 h299 => ?_)
                          obtain ⟨rfl, b301, x302⟩ := h299
                          have cv300 : v168 = v300 := bits_eq x170 x302
                          subst cv300
                          refine mw_iconst dX10_wills_120 ki_2 ?_
                          refine mw_icmp_ge (tgt := 128) dX10_wills_121 (by decide) (fun q303 => ?_) (fun q303 => ?_)
                          · skip
                            have b304 : mm_b (2) (2) v168 := bd_le_r q303 n_2 b177 (by decide)
                            refine mw_iload dX10_wills_128 8 rfl ?_
                            refine mw_iconst dX10_wills_130 ki_1 ?_
                            refine mw_iload dX10_wills_131 0 rfl ?_
                            refine mw_ishl dX10_wills_133 (fun v305 ev305 => ?_)
                            have b306 : mm_b (1) (64) v305 := bd_shl 6 ev305 b297 (by decide)
                            refine mw_iconst dX10_wills_134 ki_m1 ?_
                            refine mw_ixor dX10_wills_135 (fun v307 ev307 => ?_)
                            refine mw_iand dX10_wills_136 (fun v308 ev308 => ?_)
                            have b309 : mm_b (0) (127) v308 := bd_and ev308 b291 (by decide)
                            have b310 : mm_b 1 127 v308 := two_b x170 (bd_w b304 (by decide)) b291 (by decide) b297 ev305 ev307 rfl ev308
                            refine tc_Si (as := [.int v308]) (st := []) dX10_wills_137 rfl mX10_195 t_X10_leastOf rfl (Nat.le_of_ble_eq_true rfl) (by decide) (by decide) (c_X10_leastOf (g := g) S138 hI139 v308) (fun S311 v313 h312 => ?_)
                            obtain ⟨rfl, b314, x315⟩ := h312
                            have b316 : mm_b 0 6 v313 := ls_b x315 b310 (by decide)
                            refine mw_istore (ls' := [(9, .int v313), (8, .int v294), (7, .int 1), (0, .ref 0), (1, .int x1), (2, .int x2), (3, .int x3), (4, .int x4), (5, .int y141), (6, .int y143)]) dX10_wills_140 (by decide) rfl ?_
                            refine mw_aload_n dX10_wills_142 rfl 3 rfl ?_
                            refine mw_iload_n dX10_wills_143 rfl 4 rfl ?_
                            refine mw_iload_n dX10_wills_144 rfl 5 rfl ?_
                            refine mw_iload_n dX10_wills_145 rfl 6 rfl ?_
                            refine mw_iload dX10_wills_146 1 rfl ?_
                            refine mw_iload dX10_wills_148 0 rfl ?_
                            refine tc_Vi (as := [.int x1, .int x2, .int x3, .int v294, .int v313]) (st := []) dX10_wills_150 rfl shM_0 rfl rfl mX10_244 t_X10_canBe rfl (Nat.le_of_ble_eq_true rfl) (by decide) (by decide) (c_X10_canBe (g := g) S138 hI139 x1 x2 b109 x3 v294 (bd_w b297 (by decide)) v313 (bd_w b316 (by decide)) hx145) (fun S317 v319 h318 => ?_)
                            obtain ⟨hI323, hf324, b320, x321⟩ := h318
                            have hF325 := fr_tr hF140 hf324 (by decide) (by decide) (by decide) (by decide)
                            refine mw_if_eq (tgt := 161) dX10_wills_153 (by decide) (fun q326 => ?_) (fun q326 => ?_)
                            · skip
                              have b327 : mm_b (0) (0) v319 := bd_eq_l q326 b320 n_0 (by decide)
                              refine mw_iload dX10_wills_161 8 rfl ?_
                              refine mw_istore (ls' := [(5, .int y141), (9, .int v313), (8, .int v294), (7, .int 1), (0, .ref 0), (1, .int x1), (2, .int x2), (3, .int x3), (4, .int x4), (6, .int y143)]) dX10_wills_163 (by decide) rfl ?_
                              refine mw_iinc (ls' := fun v => [(6, .int v), (5, .int y141), (9, .int v313), (8, .int v294), (7, .int 1), (0, .ref 0), (1, .int x1), (2, .int x2), (3, .int x3), (4, .int x4)]) dX10_wills_165 9 rfl (by decide) (fun _ => rfl) (fun v328 ev328 => ?_)
                              have b329 : mm_b (2) (128) v328 := bd_inc ev328 b291 (by decide)
                              refine mw_goto (tgt := 46) dX10_wills_168 (by decide) ?_
                              refine mw_ls [5, 6, 7, 8, 9, 1, 0] rfl ?_
                              exact ih46 S317 y141 v328 (ms_inc ev328 b291 (by decide) hm146) hI323 hF325 (bd_w b271 (by decide)) (bd_w b329 (by decide)) hx145
                            · skip
                              have b330 : mm_b (1) (1) v319 := bd_ne_l q326 b320 n_0 (by decide)
                              have b331 := Or.resolve_left x321 q326
                              have b332 : mm_b (0) (6) x3 := bd_both b117 b331 (by decide)
                              refine mw_iload dX10_wills_156 9 rfl ?_
                              refine mw_goto (tgt := 163) dX10_wills_158 (by decide) ?_
                              refine mw_istore (ls' := [(5, .int y143), (9, .int v313), (8, .int v294), (7, .int 1), (0, .ref 0), (1, .int x1), (2, .int x2), (3, .int x3), (4, .int x4), (6, .int y143)]) dX10_wills_163 (by decide) rfl ?_
                              refine mw_iinc (ls' := fun v => [(6, .int v), (5, .int y143), (9, .int v313), (8, .int v294), (7, .int 1), (0, .ref 0), (1, .int x1), (2, .int x2), (3, .int x3), (4, .int x4)]) dX10_wills_165 9 rfl (by decide) (fun _ => rfl) (fun v333 ev333 => ?_)
                              have b334 : mm_b (2) (128) v333 := bd_inc ev333 b291 (by decide)
                              refine mw_goto (tgt := 46) dX10_wills_168 (by decide) ?_
                              refine mw_ls [5, 6, 7, 8, 9, 1, 0] rfl ?_
                              exact ih46 S317 y143 v333 (ms_inc ev333 b291 (by decide) hm146) hI323 hF325 (bd_w b291 (by decide)) (bd_w b334 (by decide)) hx145
                          · skip
                            have b335 : mm_b (0) (1) v168 := bd_lt_l (bd_nle q303) b177 n_2 (by decide)
                            refine mw_iconst dX10_wills_124 ki_m1 ?_
                            refine mw_goto (tgt := 140) dX10_wills_125 (by decide) ?_
                            refine mw_istore (ls' := [(9, .int (-1)), (8, .int v294), (7, .int 1), (0, .ref 0), (1, .int x1), (2, .int x2), (3, .int x3), (4, .int x4), (5, .int y141), (6, .int y143)]) dX10_wills_140 (by decide) rfl ?_
                            refine mw_aload_n dX10_wills_142 rfl 3 rfl ?_
                            refine mw_iload_n dX10_wills_143 rfl 4 rfl ?_
                            refine mw_iload_n dX10_wills_144 rfl 5 rfl ?_
                            refine mw_iload_n dX10_wills_145 rfl 6 rfl ?_
                            refine mw_iload dX10_wills_146 1 rfl ?_
                            refine mw_iload dX10_wills_148 0 rfl ?_
                            refine tc_Vi (as := [.int x1, .int x2, .int x3, .int v294, .int (-1)]) (st := []) dX10_wills_150 rfl shM_0 rfl rfl mX10_244 t_X10_canBe rfl (Nat.le_of_ble_eq_true rfl) (by decide) (by decide) (c_X10_canBe (g := g) S138 hI139 x1 x2 b109 x3 v294 (bd_w b297 (by decide)) (-1 : Int32) (bd_w n_m1 (by decide)) hx145) (fun S336 v338 h337 => ?_)
                            obtain ⟨hI342, hf343, b339, x340⟩ := h337
                            have hF344 := fr_tr hF140 hf343 (by decide) (by decide) (by decide) (by decide)
                            refine mw_if_eq (tgt := 161) dX10_wills_153 (by decide) (fun q345 => ?_) (fun q345 => ?_)
                            · skip
                              have b346 : mm_b (0) (0) v338 := bd_eq_l q345 b339 n_0 (by decide)
                              refine mw_iload dX10_wills_161 8 rfl ?_
                              refine mw_istore (ls' := [(5, .int y141), (9, .int (-1)), (8, .int v294), (7, .int 1), (0, .ref 0), (1, .int x1), (2, .int x2), (3, .int x3), (4, .int x4), (6, .int y143)]) dX10_wills_163 (by decide) rfl ?_
                              refine mw_iinc (ls' := fun v => [(6, .int v), (5, .int y141), (9, .int (-1)), (8, .int v294), (7, .int 1), (0, .ref 0), (1, .int x1), (2, .int x2), (3, .int x3), (4, .int x4)]) dX10_wills_165 9 rfl (by decide) (fun _ => rfl) (fun v347 ev347 => ?_)
                              have b348 : mm_b (2) (128) v347 := bd_inc ev347 b291 (by decide)
                              refine mw_goto (tgt := 46) dX10_wills_168 (by decide) ?_
                              refine mw_ls [5, 6, 7, 8, 9, 1, 0] rfl ?_
                              exact ih46 S336 y141 v347 (ms_inc ev347 b291 (by decide) hm146) hI342 hF344 (bd_w b271 (by decide)) (bd_w b348 (by decide)) hx145
                            · skip
                              have b349 : mm_b (1) (1) v338 := bd_ne_l q345 b339 n_0 (by decide)
                              have b350 := Or.resolve_left x340 q345
                              have b351 : mm_b (0) (6) x3 := bd_both b117 b350 (by decide)
                              refine mw_iload dX10_wills_156 9 rfl ?_
                              refine mw_goto (tgt := 163) dX10_wills_158 (by decide) ?_
                              refine mw_istore (ls' := [(5, .int y143), (9, .int (-1)), (8, .int v294), (7, .int 1), (0, .ref 0), (1, .int x1), (2, .int x2), (3, .int x3), (4, .int x4), (6, .int y143)]) dX10_wills_163 (by decide) rfl ?_
                              refine mw_iinc (ls' := fun v => [(6, .int v), (5, .int y143), (9, .int (-1)), (8, .int v294), (7, .int 1), (0, .ref 0), (1, .int x1), (2, .int x2), (3, .int x3), (4, .int x4)]) dX10_wills_165 9 rfl (by decide) (fun _ => rfl) (fun v352 ev352 => ?_)
                              have b353 : mm_b (2) (128) v352 := bd_inc ev352 b291 (by decide)
                              refine mw_goto (tgt := 46) dX10_wills_168 (by decide) ?_
                              refine mw_ls [5, 6, 7, 8, 9, 1, 0] rfl ?_
                              exact ih46 S336 y143 v352 (ms_inc ev352 b291 (by decide) hm146) hI342 hF344 (bd_w b291 (by decide)) (bd_w b353 (by decide)) hx145
                        · skip
                          have b354 : mm_b (0) (0) y143 := bd_eq_l q290 b165 n_0 (by decide)
                          refine mw_iconst dX10_wills_104 ki_m1 ?_
                          refine mw_goto (tgt := 113) dX10_wills_105 (by decide) ?_
                          refine mw_istore (ls' := [(8, .int (-1)), (7, .int 1), (0, .ref 0), (1, .int x1), (2, .int x2), (3, .int x3), (4, .int x4), (5, .int y141), (6, .int y143)]) dX10_wills_113 (by decide) rfl ?_
                          refine mw_iload dX10_wills_115 8 rfl ?_
                          refine tc_Si (as := [.int y143]) (st := []) dX10_wills_117 rfl mX10_241 t_X10_bits rfl (Nat.le_of_ble_eq_true rfl) (by decide) (by decide) (c_X10_bits (g := g) S138 hI139 y143) (fun S355 v357 h356 => ?_)
                          obtain ⟨rfl, b358, x359⟩ := h356
                          have cv357 : v168 = v357 := bits_eq x170 x359
                          subst cv357
                          have b360 : mm_b 0 0 v168 := bits_0 x170 b354
                          refine mw_iconst dX10_wills_120 ki_2 ?_
                          refine mw_icmp_ge (tgt := 128) dX10_wills_121 (by decide) (fun q361 => ?_) (fun q361 => ?_)
                          · skip
                            exact bd_fle q361 n_2 b360 (by decide)
                          · skip
                            refine mw_iconst dX10_wills_124 ki_m1 ?_
                            refine mw_goto (tgt := 140) dX10_wills_125 (by decide) ?_
                            refine mw_istore (ls' := [(9, .int (-1)), (8, .int (-1)), (7, .int 1), (0, .ref 0), (1, .int x1), (2, .int x2), (3, .int x3), (4, .int x4), (5, .int y141), (6, .int y143)]) dX10_wills_140 (by decide) rfl ?_
                            refine mw_aload_n dX10_wills_142 rfl 3 rfl ?_
                            refine mw_iload_n dX10_wills_143 rfl 4 rfl ?_
                            refine mw_iload_n dX10_wills_144 rfl 5 rfl ?_
                            refine mw_iload_n dX10_wills_145 rfl 6 rfl ?_
                            refine mw_iload dX10_wills_146 1 rfl ?_
                            refine mw_iload dX10_wills_148 0 rfl ?_
                            refine tc_Vi (as := [.int x1, .int x2, .int x3, .int (-1), .int (-1)]) (st := []) dX10_wills_150 rfl shM_0 rfl rfl mX10_244 t_X10_canBe rfl (Nat.le_of_ble_eq_true rfl) (by decide) (by decide) (c_X10_canBe (g := g) S138 hI139 x1 x2 b109 x3 (-1 : Int32) (bd_w n_m1 (by decide)) (-1 : Int32) (bd_w n_m1 (by decide)) hx145) (fun S362 v364 h363 => ?_)
                            obtain ⟨hI368, hf369, b365, x366⟩ := h363
                            have hF370 := fr_tr hF140 hf369 (by decide) (by decide) (by decide) (by decide)
                            refine mw_if_eq (tgt := 161) dX10_wills_153 (by decide) (fun q371 => ?_) (fun q371 => ?_)
                            · skip
                              have b372 : mm_b (0) (0) v364 := bd_eq_l q371 b365 n_0 (by decide)
                              refine mw_iload dX10_wills_161 8 rfl ?_
                              refine mw_istore (ls' := [(5, .int y141), (9, .int (-1)), (8, .int (-1)), (7, .int 1), (0, .ref 0), (1, .int x1), (2, .int x2), (3, .int x3), (4, .int x4), (6, .int y143)]) dX10_wills_163 (by decide) rfl ?_
                              refine mw_iinc (ls' := fun v => [(6, .int v), (5, .int y141), (9, .int (-1)), (8, .int (-1)), (7, .int 1), (0, .ref 0), (1, .int x1), (2, .int x2), (3, .int x3), (4, .int x4)]) dX10_wills_165 9 rfl (by decide) (fun _ => rfl) (fun v373 ev373 => ?_)
                              have b374 : mm_b (1) (1) v373 := bd_inc ev373 b354 (by decide)
                              refine mw_goto (tgt := 46) dX10_wills_168 (by decide) ?_
                              refine mw_ls [5, 6, 7, 8, 9, 1, 0] rfl ?_
                              exact ih46 S362 y141 v373 (ms_inc ev373 b354 (by decide) hm146) hI368 hF370 (bd_w b271 (by decide)) (bd_w b374 (by decide)) hx145
                            · skip
                              have b375 : mm_b (1) (1) v364 := bd_ne_l q371 b365 n_0 (by decide)
                              have b376 := Or.resolve_left x366 q371
                              have b377 : mm_b (0) (6) x3 := bd_both b117 b376 (by decide)
                              refine mw_iload dX10_wills_156 9 rfl ?_
                              refine mw_goto (tgt := 163) dX10_wills_158 (by decide) ?_
                              refine mw_istore (ls' := [(5, .int y143), (9, .int (-1)), (8, .int (-1)), (7, .int 1), (0, .ref 0), (1, .int x1), (2, .int x2), (3, .int x3), (4, .int x4), (6, .int y143)]) dX10_wills_163 (by decide) rfl ?_
                              refine mw_iinc (ls' := fun v => [(6, .int v), (5, .int y143), (9, .int (-1)), (8, .int (-1)), (7, .int 1), (0, .ref 0), (1, .int x1), (2, .int x2), (3, .int x3), (4, .int x4)]) dX10_wills_165 9 rfl (by decide) (fun _ => rfl) (fun v378 ev378 => ?_)
                              have b379 : mm_b (1) (1) v378 := bd_inc ev378 b354 (by decide)
                              refine mw_goto (tgt := 46) dX10_wills_168 (by decide) ?_
                              refine mw_ls [5, 6, 7, 8, 9, 1, 0] rfl ?_
                              exact ih46 S362 y143 v378 (ms_inc ev378 b354 (by decide) hm146) hI368 hF370 (bd_w b354 (by decide)) (bd_w b379 (by decide)) hx145
          refine mw_ls [2, 3, 4, 5, 6, 1, 0] rfl ?_
          exact cut46 _ S (-1 : Int32) (0 : Int32) (Nat.lt_succ_self _) hI hF (bd_w n_m1 (by decide)) (bd_w n_0 (by decide)) dg126
        · skip
          have b380 : mm_b (0) (0) v131 := bd_eq_l q135 b132 n_0 (by decide)
          refine mw_ldc dX10_wills_37 kX10_84 ?_
          exact mw_iret rfl dX10_wills_39 rfl rfl ⟨S, _, rfl, rfl, hI, hF, bd_w n_m1000000002 (by decide), trivial⟩
    · skip
      have b381 : mm_b (0) (0) v112 := bd_eq_l q115 b113 n_0 (by decide)
      refine mw_ldc dX10_wills_15 kX10_182 ?_
      exact mw_iret rfl dX10_wills_17 rfl rfl ⟨S, _, rfl, rfl, hI, hF, bd_w n_m1000000001 (by decide), trivial⟩
set_option maxRecDepth 100000 in
set_option maxHeartbeats 4000000 in
theorem c_X10_orders_a {g : mm_G} (S : mm_S) (hI : JM S) (x1 : Int32) (h1 : mm_b (-2147483648) (-1) x1) (x2 : Int32) : mc g yX10_orders cX10_orders 8 (some .int) (mm_rm 5) [.ref 0, .int x1, .int x2] (mm_enc shM S) (qi shM (fun S1 v => JM S1 ∧ fr [] [] true true S S1 ∧ mm_b (-1000000001) (-1000000001) v ∧ (True))) := by
  refine mc_of2 (own := RX10) (ini := false) (ls := [(0, .ref 0), (1, .int x1), (2, .int x2)]) (by decide) (Nat.le_of_ble_eq_true rfl) rfl (by decide) rfl ?_
  have hF : fr [] [] true true S S := fr_rf
  refine mw_aload_n dX10_orders_0 rfl 0 rfl ?_
  refine mw_iload_n dX10_orders_1 rfl 1 rfl ?_
  refine tc_Vi (as := [.int x1]) (st := []) dX10_orders_2 rfl shM_0 rfl rfl mX10_264 t_X10_isSet rfl (Nat.le_of_ble_eq_true rfl) (by decide) (by decide) (c_X10_isSet (g := g) S hI x1) (fun S101 v103 h102 => ?_)
  obtain ⟨rfl, b104, x105⟩ := h102
  refine mw_if_ne (tgt := 11) dX10_orders_5 (by decide) (fun q106 => ?_) (fun q106 => ?_)
  · skip
    have b107 : mm_b (1) (1) v103 := bd_ne_l q106 b104 n_0 (by decide)
    have b108 := Or.resolve_left x105 q106
    exfalso
    have hz1 := h1
    have hz2 := b108
    omega
  · skip
    have b109 : mm_b (0) (0) v103 := bd_eq_l q106 b104 n_0 (by decide)
    refine mw_ldc dX10_orders_8 kX10_182 ?_
    exact mw_iret rfl dX10_orders_10 rfl rfl ⟨S, _, rfl, rfl, hI, hF, n_m1000000001, trivial⟩
set_option maxRecDepth 100000 in
set_option maxHeartbeats 4000000 in
theorem c_X10_orders_b {g : mm_G} (S : mm_S) (hI : JM S) (x1 : Int32) (h1 : mm_b (0) (0) x1) (x2 : Int32) : mc g yX10_orders cX10_orders 8 (some .int) (mm_rm 5) [.ref 0, .int x1, .int x2] (mm_enc shM S) (qi shM (fun S1 v => JM S1 ∧ fr [4] [] true true S S1 ∧ mm_b (-2147483648) (2147483647) v ∧ (True))) := by
  refine mc_of2 (own := RX10) (ini := false) (ls := [(0, .ref 0), (1, .int x1), (2, .int x2)]) (by decide) (Nat.le_of_ble_eq_true rfl) rfl (by decide) rfl ?_
  have hF : fr [4] [] true true S S := fr_rf
  refine mw_aload_n dX10_orders_0 rfl 0 rfl ?_
  refine mw_iload_n dX10_orders_1 rfl 1 rfl ?_
  refine tc_Vi (as := [.int x1]) (st := []) dX10_orders_2 rfl shM_0 rfl rfl mX10_264 t_X10_isSet rfl (Nat.le_of_ble_eq_true rfl) (by decide) (by decide) (c_X10_isSet (g := g) S hI x1) (fun S101 v103 h102 => ?_)
  obtain ⟨rfl, b104, x105⟩ := h102
  refine mw_if_ne (tgt := 11) dX10_orders_5 (by decide) (fun q106 => ?_) (fun q106 => ?_)
  · skip
    have b107 : mm_b (1) (1) v103 := bd_ne_l q106 b104 n_0 (by decide)
    have b108 := Or.resolve_left x105 q106
    have b109 : mm_b (0) (0) x1 := bd_both h1 b108 (by decide)
    refine mw_iload_n dX10_orders_11 rfl 1 rfl ?_
    refine tc_Si (as := [.int x1]) (st := []) dX10_orders_12 rfl mX10_241 t_X10_bits rfl (Nat.le_of_ble_eq_true rfl) (by decide) (by decide) (c_X10_bits (g := g) S hI x1) (fun S110 v112 h111 => ?_)
    obtain ⟨rfl, b113, x114⟩ := h111
    have b115 : mm_b 0 0 v112 := bits_0 x114 b109
    refine mw_iconst dX10_orders_15 ki_4 ?_
    refine mw_icmp_le (tgt := 22) dX10_orders_16 (by decide) (fun q116 => ?_) (fun q116 => ?_)
    · skip
      refine mw_iload_n dX10_orders_22 rfl 1 rfl ?_
      refine mw_aload_n dX10_orders_23 rfl 0 rfl ?_
      refine tw_getr (j := 2) dX10_orders_24 shM_0 rfl rfl (by decide) fX10_16 ?_
      refine mw_bipush dX10_orders_27 kb_28 ?_
      refine tw_iald dX10_orders_29 shM_3 (bd_in n_28 (by decide)) (fun v117 ev117 => ?_)
      rw [cl_28] at ev117
      have b118 : mm_b (0) (127) v117 := JIM_fld hI ev117 tbM_32 (by decide)
      refine mw_iconst dX10_orders_30 ki_m1 ?_
      refine mw_ixor dX10_orders_31 (fun v119 ev119 => ?_)
      refine mw_iand dX10_orders_32 (fun v120 ev120 => ?_)
      have b121 : mm_b (0) (0) v120 := bd_and ev120 b109 (by decide)
      refine mw_if_eq (tgt := 39) dX10_orders_33 (by decide) (fun q122 => ?_) (fun q122 => ?_)
      · skip
        refine mw_iconst dX10_orders_39 ki_1 ?_
        refine mw_istore_n (ls' := [(3, .int 1), (0, .ref 0), (1, .int x1), (2, .int x2)]) dX10_orders_40 rfl (by decide) rfl ?_
        refine mw_iload_n dX10_orders_41 rfl 2 rfl ?_
        refine tc_Si (as := [.int x1]) (st := []) dX10_orders_42 rfl mX10_241 t_X10_bits rfl (Nat.le_of_ble_eq_true rfl) (by decide) (by decide) (c_X10_bits (g := g) S hI x1) (fun S123 v125 h124 => ?_)
        obtain ⟨rfl, b126, x127⟩ := h124
        have cv125 : v112 = v125 := bits_eq x114 x127
        subst cv125
        have b128 : mm_b 0 0 v112 := bits_0 x114 b109
        refine mw_istore (ls' := [(4, .int v112), (3, .int 1), (0, .ref 0), (1, .int x1), (2, .int x2)]) dX10_orders_45 (by decide) rfl ?_
        refine mw_iload dX10_orders_47 0 rfl ?_
        refine mw_if_le (tgt := 63) dX10_orders_49 (by decide) (fun q129 => ?_) (fun q129 => ?_)
        · skip
          refine mw_iconst dX10_orders_63 ki_0 ?_
          refine mw_istore (ls' := [(4, .int 0), (3, .int 1), (0, .ref 0), (1, .int x1), (2, .int x2)]) dX10_orders_64 (by decide) rfl ?_
          refine mw_iconst dX10_orders_66 ki_0 ?_
          refine mw_istore (ls' := [(5, .int 0), (4, .int 0), (3, .int 1), (0, .ref 0), (1, .int x1), (2, .int x2)]) dX10_orders_67 (by decide) rfl ?_
          refine mw_iconst dX10_orders_69 ki_m1 ?_
          refine mw_istore (ls' := [(6, .int (-1)), (5, .int 0), (4, .int 0), (3, .int 1), (0, .ref 0), (1, .int x1), (2, .int x2)]) dX10_orders_70 (by decide) rfl ?_
          refine mw_iload_n dX10_orders_72 rfl 5 rfl ?_
          refine mw_if_ne (tgt := 80) dX10_orders_73 (by decide) (fun q130 => ?_) (fun q130 => ?_)
          · skip
            exact bd_fne q130 b109 n_0
          · skip
            refine mw_iconst dX10_orders_76 ki_0 ?_
            refine mw_goto (tgt := 84) dX10_orders_77 (by decide) ?_
            refine mw_istore (ls' := [(7, .int 0), (6, .int (-1)), (5, .int 0), (4, .int 0), (3, .int 1), (0, .ref 0), (1, .int x1), (2, .int x2)]) dX10_orders_84 (by decide) rfl ?_
            have cut86 : ∀ (N86 : Nat) (S131 : mm_S) (y134 y136 y138 y140 y142 : Int32), ((2 : Int) - y142.toInt).toNat < N86 → JM S131 → fr [4] [] true true S S131 → mm_b (1) (1) y134 → mm_b (-2147483648) (2147483647) y136 → mm_b (0) (0) y138 → mm_b (-1) (0) y140 → mm_b (0) (1) y142 → mw g RX10 cX10_orders 8 (some .int) false (mm_rm 5) (qi shM (fun S1 v => JM S1 ∧ fr [4] [] true true S S1 ∧ mm_b (-2147483648) (2147483647) v ∧ (True))) 0 0 (mm_enc shM S131) 86 [(0, .ref 0), (1, .int x1), (2, .int x2), (3, .int y134), (4, .int y136), (5, .int y138), (6, .int y140), (7, .int y142)] [] := by
              intro N86
              induction N86 with
              | zero =>
                intro S131 y134 y136 y138 y140 y142 hm144 hI132 hF133 b135 b137 b139 b141 b143
                exact absurd hm144 (Nat.not_lt_zero _)
              | succ N86 ih86 =>
                intro S131 y134 y136 y138 y140 y142 hm144 hI132 hF133 b135 b137 b139 b141 b143
                refine mw_iload dX10_orders_86 7 rfl ?_
                refine mw_iload_n dX10_orders_88 rfl 3 rfl ?_
                refine mw_icmp_ge (tgt := 150) dX10_orders_89 (by decide) (fun q145 => ?_) (fun q145 => ?_)
                · skip
                  have b146 : mm_b (1) (1) y142 := bd_le_r q145 b135 b143 (by decide)
                  refine mw_iload_n dX10_orders_150 rfl 2 rfl ?_
                  refine mw_bipush dX10_orders_151 kb_m2 ?_
                  refine mw_icmp_ne (tgt := 175) dX10_orders_153 (by decide) (fun q147 => ?_) (fun q147 => ?_)
                  · skip
                    refine mw_iload_n dX10_orders_175 rfl 2 rfl ?_
                    refine mw_iconst dX10_orders_176 ki_m1 ?_
                    refine mw_icmp_ne (tgt := 185) dX10_orders_177 (by decide) (fun q148 => ?_) (fun q148 => ?_)
                    · skip
                      refine mw_iload dX10_orders_185 6 rfl ?_
                      exact mw_iret rfl dX10_orders_187 rfl rfl ⟨S131, _, rfl, rfl, hI132, hF133, bd_w b141 (by decide), trivial⟩
                    · skip
                      have b149 : mm_b (-1) (-1) x2 := bd_eq_l q148 (bd_all x2) n_m1 (by decide)
                      refine mw_iload dX10_orders_180 4 rfl ?_
                      refine mw_goto (tgt := 187) dX10_orders_182 (by decide) ?_
                      exact mw_iret rfl dX10_orders_187 rfl rfl ⟨S131, _, rfl, rfl, hI132, hF133, b137, trivial⟩
                  · skip
                    have b150 : mm_b (-2) (-2) x2 := bd_eq_l q147 (bd_all x2) n_m2 (by decide)
                    refine mw_iload dX10_orders_156 5 rfl ?_
                    refine tc_Si (as := [.int y138]) (st := []) dX10_orders_158 rfl mX10_241 t_X10_bits rfl (Nat.le_of_ble_eq_true rfl) (by decide) (by decide) (c_X10_bits (g := g) S131 hI132 y138) (fun S151 v153 h152 => ?_)
                    obtain ⟨rfl, b154, x155⟩ := h152
                    have b156 : mm_b 0 0 v153 := bits_0 x155 b139
                    refine mw_iconst dX10_orders_161 ki_1 ?_
                    refine mw_icmp_ne (tgt := 173) dX10_orders_162 (by decide) (fun q157 => ?_) (fun q157 => ?_)
                    · skip
                      refine mw_iconst dX10_orders_173 ki_m1 ?_
                      exact mw_iret rfl dX10_orders_174 rfl rfl ⟨S131, _, rfl, rfl, hI132, hF133, bd_w n_m1 (by decide), trivial⟩
                    · skip
                      exact bd_feq q157 b156 n_1 (by decide)
                · skip
                  have b158 : mm_b (0) (0) y142 := bd_lt_l (bd_nle q145) b143 b135 (by decide)
                  refine mw_aload_n dX10_orders_92 rfl 0 rfl ?_
                  refine mw_iload dX10_orders_93 7 rfl ?_
                  refine mw_iload_n dX10_orders_95 rfl 1 rfl ?_
                  refine tc_Vi (as := [.int y142, .int x1]) (st := []) dX10_orders_96 rfl shM_0 rfl rfl mX10_277 t_X10_isSo rfl (Nat.le_of_ble_eq_true rfl) (by decide) (by decide) (c_X10_isSo (g := g) S131 hI132 y142 (bd_w b158 (by decide)) x1 (bd_w b109 (by decide))) (fun S159 v161 h160 => ?_)
                  obtain ⟨hI165, hf166, b162, x163⟩ := h160
                  have hF167 := fr_tr hF133 hf166 (by decide) (by decide) (by decide) (by decide)
                  refine mw_if_eq (tgt := 144) dX10_orders_99 (by decide) (fun q168 => ?_) (fun q168 => ?_)
                  · skip
                    have b169 : mm_b (0) (0) v161 := bd_eq_l q168 b162 n_0 (by decide)
                    refine mw_iinc (ls' := fun v => [(7, .int v), (0, .ref 0), (1, .int x1), (2, .int x2), (3, .int y134), (4, .int y136), (5, .int y138), (6, .int y140)]) dX10_orders_144 7 rfl (by decide) (fun _ => rfl) (fun v170 ev170 => ?_)
                    have b171 : mm_b (1) (1) v170 := bd_inc ev170 b158 (by decide)
                    refine mw_goto (tgt := 86) dX10_orders_147 (by decide) ?_
                    refine mw_ls [1, 2, 3, 4, 5, 6, 7, 0] rfl ?_
                    exact ih86 S159 y134 y136 y138 y140 v170 (ms_inc ev170 b158 (by decide) hm144) hI165 hF167 b135 b137 b139 b141 (bd_w b171 (by decide))
                  · skip
                    have b172 : mm_b (1) (1) v161 := bd_ne_l q168 b162 n_0 (by decide)
                    refine mw_iload dX10_orders_102 4 rfl ?_
                    refine mw_iload_n dX10_orders_104 rfl 2 rfl ?_
                    refine mw_icmp_ne (tgt := 113) dX10_orders_105 (by decide) (fun q173 => ?_) (fun q173 => ?_)
                    · skip
                      refine mw_iload dX10_orders_113 6 rfl ?_
                      refine mw_istore (ls' := [(6, .int y140), (0, .ref 0), (1, .int x1), (2, .int x2), (3, .int y134), (4, .int y136), (5, .int y138), (7, .int y142)]) dX10_orders_115 (by decide) rfl ?_
                      refine mw_iload dX10_orders_117 6 rfl ?_
                      refine mw_iload_n dX10_orders_119 rfl 2 rfl ?_
                      refine mw_if_ne (tgt := 127) dX10_orders_120 (by decide) (fun q174 => ?_) (fun q174 => ?_)
                      · skip
                        exact bd_fne q174 b109 n_0
                      · skip
                        refine mw_iconst dX10_orders_123 ki_0 ?_
                        refine mw_goto (tgt := 138) dX10_orders_124 (by decide) ?_
                        refine mw_ior dX10_orders_138 (fun v175 ev175 => ?_)
                        have b176 : mm_b (0) (0) v175 := bd_or 0 ev175 b139 n_0 (by decide)
                        refine mw_istore (ls' := [(5, .int v175), (6, .int y140), (0, .ref 0), (1, .int x1), (2, .int x2), (3, .int y134), (4, .int y136), (7, .int y142)]) dX10_orders_139 (by decide) rfl ?_
                        refine mw_iinc (ls' := fun v => [(4, .int v), (5, .int v175), (6, .int y140), (0, .ref 0), (1, .int x1), (2, .int x2), (3, .int y134), (7, .int y142)]) dX10_orders_141 6 rfl (by decide) (fun _ => rfl) (fun v177 ev177 => ?_)
                        refine mw_iinc (ls' := fun v => [(7, .int v), (4, .int v177), (5, .int v175), (6, .int y140), (0, .ref 0), (1, .int x1), (2, .int x2), (3, .int y134)]) dX10_orders_144 7 rfl (by decide) (fun _ => rfl) (fun v178 ev178 => ?_)
                        have b179 : mm_b (1) (1) v178 := bd_inc ev178 b158 (by decide)
                        refine mw_goto (tgt := 86) dX10_orders_147 (by decide) ?_
                        refine mw_ls [4, 5, 6, 7, 1, 2, 3, 0] rfl ?_
                        exact ih86 S159 y134 v177 v175 y140 v178 (ms_inc ev178 b158 (by decide) hm144) hI165 hF167 b135 (bd_all v177) b176 b141 (bd_w b179 (by decide))
                    · skip
                      refine mw_iload dX10_orders_108 7 rfl ?_
                      refine mw_goto (tgt := 115) dX10_orders_110 (by decide) ?_
                      refine mw_istore (ls' := [(6, .int y142), (0, .ref 0), (1, .int x1), (2, .int x2), (3, .int y134), (4, .int y136), (5, .int y138), (7, .int y142)]) dX10_orders_115 (by decide) rfl ?_
                      refine mw_iload dX10_orders_117 6 rfl ?_
                      refine mw_iload_n dX10_orders_119 rfl 2 rfl ?_
                      refine mw_if_ne (tgt := 127) dX10_orders_120 (by decide) (fun q180 => ?_) (fun q180 => ?_)
                      · skip
                        exact bd_fne q180 b109 n_0
                      · skip
                        refine mw_iconst dX10_orders_123 ki_0 ?_
                        refine mw_goto (tgt := 138) dX10_orders_124 (by decide) ?_
                        refine mw_ior dX10_orders_138 (fun v181 ev181 => ?_)
                        have b182 : mm_b (0) (0) v181 := bd_or 0 ev181 b139 n_0 (by decide)
                        refine mw_istore (ls' := [(5, .int v181), (6, .int y142), (0, .ref 0), (1, .int x1), (2, .int x2), (3, .int y134), (4, .int y136), (7, .int y142)]) dX10_orders_139 (by decide) rfl ?_
                        refine mw_iinc (ls' := fun v => [(4, .int v), (5, .int v181), (6, .int y142), (0, .ref 0), (1, .int x1), (2, .int x2), (3, .int y134), (7, .int y142)]) dX10_orders_141 6 rfl (by decide) (fun _ => rfl) (fun v183 ev183 => ?_)
                        refine mw_iinc (ls' := fun v => [(7, .int v), (4, .int v183), (5, .int v181), (6, .int y142), (0, .ref 0), (1, .int x1), (2, .int x2), (3, .int y134)]) dX10_orders_144 7 rfl (by decide) (fun _ => rfl) (fun v184 ev184 => ?_)
                        have b185 : mm_b (1) (1) v184 := bd_inc ev184 b158 (by decide)
                        refine mw_goto (tgt := 86) dX10_orders_147 (by decide) ?_
                        refine mw_ls [4, 5, 6, 7, 1, 2, 3, 0] rfl ?_
                        exact ih86 S159 y134 v183 v181 y142 v184 (ms_inc ev184 b158 (by decide) hm144) hI165 hF167 b135 (bd_all v183) b182 (bd_w b158 (by decide)) (bd_w b185 (by decide))
            refine mw_ls [5, 6, 7, 4, 3, 2, 1, 0] rfl ?_
            exact cut86 _ S (1 : Int32) (0 : Int32) (0 : Int32) (-1 : Int32) (0 : Int32) (Nat.lt_succ_self _) hI hF n_1 (bd_w n_0 (by decide)) n_0 (bd_w n_m1 (by decide)) (bd_w n_0 (by decide))
        · skip
          exact bd_flt (bd_nle q129) n_0 b128 (by decide)
      · skip
        exact bd_fne q122 b121 n_0
    · skip
      exact bd_flt (bd_nle q116) n_4 b115 (by decide)
  · skip
    have b186 : mm_b (0) (0) v103 := bd_eq_l q106 b104 n_0 (by decide)
    refine mw_ldc dX10_orders_8 kX10_182 ?_
    exact mw_iret rfl dX10_orders_10 rfl rfl ⟨S, _, rfl, rfl, hI, hF, bd_w n_m1000000001 (by decide), trivial⟩
set_option maxRecDepth 100000 in
set_option maxHeartbeats 4000000 in
theorem c_X10_orders_c {g : mm_G} (S : mm_S) (hI : JM S) (x1 : Int32) (h1 : mm_b (1) (127) x1) (x2 : Int32) : mc g yX10_orders cX10_orders 8 (some .int) (mm_rm 5) [.ref 0, .int x1, .int x2] (mm_enc shM S) (qi shM (fun S1 v => JM S1 ∧ fr [4] [] true true S S1 ∧ mm_b (-2147483648) (2147483647) v ∧ (True))) := by
  refine mc_of2 (own := RX10) (ini := false) (ls := [(0, .ref 0), (1, .int x1), (2, .int x2)]) (by decide) (Nat.le_of_ble_eq_true rfl) rfl (by decide) rfl ?_
  have hF : fr [4] [] true true S S := fr_rf
  refine mw_aload_n dX10_orders_0 rfl 0 rfl ?_
  refine mw_iload_n dX10_orders_1 rfl 1 rfl ?_
  refine tc_Vi (as := [.int x1]) (st := []) dX10_orders_2 rfl shM_0 rfl rfl mX10_264 t_X10_isSet rfl (Nat.le_of_ble_eq_true rfl) (by decide) (by decide) (c_X10_isSet (g := g) S hI x1) (fun S101 v103 h102 => ?_)
  obtain ⟨rfl, b104, x105⟩ := h102
  refine mw_if_ne (tgt := 11) dX10_orders_5 (by decide) (fun q106 => ?_) (fun q106 => ?_)
  · skip
    have b107 : mm_b (1) (1) v103 := bd_ne_l q106 b104 n_0 (by decide)
    have b108 := Or.resolve_left x105 q106
    have b109 : mm_b (1) (127) x1 := bd_both h1 b108 (by decide)
    refine mw_iload_n dX10_orders_11 rfl 1 rfl ?_
    refine tc_Si (as := [.int x1]) (st := []) dX10_orders_12 rfl mX10_241 t_X10_bits rfl (Nat.le_of_ble_eq_true rfl) (by decide) (by decide) (c_X10_bits (g := g) S hI x1) (fun S110 v112 h111 => ?_)
    obtain ⟨rfl, b113, x114⟩ := h111
    have b115 : mm_b 1 7 v112 := bits_1 x114 b109 (by decide)
    refine mw_iconst dX10_orders_15 ki_4 ?_
    refine mw_icmp_le (tgt := 22) dX10_orders_16 (by decide) (fun q116 => ?_) (fun q116 => ?_)
    · skip
      have b117 : mm_b (1) (4) v112 := bd_le_l q116 b115 n_4 (by decide)
      refine mw_iload_n dX10_orders_22 rfl 1 rfl ?_
      refine mw_aload_n dX10_orders_23 rfl 0 rfl ?_
      refine tw_getr (j := 2) dX10_orders_24 shM_0 rfl rfl (by decide) fX10_16 ?_
      refine mw_bipush dX10_orders_27 kb_28 ?_
      refine tw_iald dX10_orders_29 shM_3 (bd_in n_28 (by decide)) (fun v118 ev118 => ?_)
      rw [cl_28] at ev118
      have b119 : mm_b (0) (127) v118 := JIM_fld hI ev118 tbM_32 (by decide)
      refine mw_iconst dX10_orders_30 ki_m1 ?_
      refine mw_ixor dX10_orders_31 (fun v120 ev120 => ?_)
      refine mw_iand dX10_orders_32 (fun v121 ev121 => ?_)
      have b122 : mm_b (0) (127) v121 := bd_and ev121 b109 (by decide)
      refine mw_if_eq (tgt := 39) dX10_orders_33 (by decide) (fun q123 => ?_) (fun q123 => ?_)
      · skip
        have b124 : mm_b (0) (0) v121 := bd_eq_l q123 b122 n_0 (by decide)
        refine mw_iconst dX10_orders_39 ki_1 ?_
        refine mw_istore_n (ls' := [(3, .int 1), (0, .ref 0), (1, .int x1), (2, .int x2)]) dX10_orders_40 rfl (by decide) rfl ?_
        refine mw_iload_n dX10_orders_41 rfl 2 rfl ?_
        refine tc_Si (as := [.int x1]) (st := []) dX10_orders_42 rfl mX10_241 t_X10_bits rfl (Nat.le_of_ble_eq_true rfl) (by decide) (by decide) (c_X10_bits (g := g) S hI x1) (fun S125 v127 h126 => ?_)
        obtain ⟨rfl, b128, x129⟩ := h126
        have cv127 : v112 = v127 := bits_eq x114 x129
        subst cv127
        refine mw_istore (ls' := [(4, .int v112), (3, .int 1), (0, .ref 0), (1, .int x1), (2, .int x2)]) dX10_orders_45 (by decide) rfl ?_
        refine mw_iload dX10_orders_47 0 rfl ?_
        refine mw_if_le (tgt := 63) dX10_orders_49 (by decide) (fun q130 => ?_) (fun q130 => ?_)
        · skip
          exact bd_fle q130 b117 n_0 (by decide)
        · skip
          refine mw_iload_n dX10_orders_52 rfl 1 rfl ?_
          refine mw_bipush dX10_orders_53 kb_10 ?_
          refine mw_imul dX10_orders_55 (fun v131 ev131 => ?_)
          have b132 : mm_b (10) (10) v131 := bd_mul ev131 n_1 n_10 (by decide)
          refine mw_istore_n (ls' := [(3, .int v131), (4, .int v112), (0, .ref 0), (1, .int x1), (2, .int x2)]) dX10_orders_56 rfl (by decide) rfl ?_
          refine mw_iinc (ls' := fun v => [(4, .int v), (3, .int v131), (0, .ref 0), (1, .int x1), (2, .int x2)]) dX10_orders_57 1 rfl (by decide) (fun _ => rfl) (fun v133 ev133 => ?_)
          have b134 : mm_b (0) (3) v133 := bd_inc ev133 b117 (by decide)
          refine mw_goto (tgt := 47) dX10_orders_60 (by decide) ?_
          refine mw_iload dX10_orders_47 0 rfl ?_
          refine mw_if_le (tgt := 63) dX10_orders_49 (by decide) (fun q135 => ?_) (fun q135 => ?_)
          · skip
            have b136 : mm_b (0) (0) v133 := bd_le_l q135 b134 n_0 (by decide)
            refine mw_iconst dX10_orders_63 ki_0 ?_
            refine mw_istore (ls' := [(4, .int 0), (3, .int v131), (0, .ref 0), (1, .int x1), (2, .int x2)]) dX10_orders_64 (by decide) rfl ?_
            refine mw_iconst dX10_orders_66 ki_0 ?_
            refine mw_istore (ls' := [(5, .int 0), (4, .int 0), (3, .int v131), (0, .ref 0), (1, .int x1), (2, .int x2)]) dX10_orders_67 (by decide) rfl ?_
            refine mw_iconst dX10_orders_69 ki_m1 ?_
            refine mw_istore (ls' := [(6, .int (-1)), (5, .int 0), (4, .int 0), (3, .int v131), (0, .ref 0), (1, .int x1), (2, .int x2)]) dX10_orders_70 (by decide) rfl ?_
            refine mw_iload_n dX10_orders_72 rfl 5 rfl ?_
            refine mw_if_ne (tgt := 80) dX10_orders_73 (by decide) (fun q137 => ?_) (fun q137 => ?_)
            · skip
              refine mw_iload_n dX10_orders_80 rfl 3 rfl ?_
              refine mw_bipush dX10_orders_81 kb_10 ?_
              refine mw_idiv dX10_orders_83 (bd_ne0 n_10 (by decide)) (fun v138 ev138 => ?_)
              have b139 : mm_b (1) (1) v138 := bd_div ev138 b132 n_10 (by decide)
              refine mw_istore (ls' := [(7, .int v138), (6, .int (-1)), (5, .int 0), (4, .int 0), (3, .int v131), (0, .ref 0), (1, .int x1), (2, .int x2)]) dX10_orders_84 (by decide) rfl ?_
              have cut86 : ∀ (N86 : Nat) (S140 : mm_S) (y143 y145 y147 y149 y151 : Int32), ((10001 : Int) - y151.toInt).toNat < N86 → JM S140 → fr [4] [] true true S S140 → mm_b (10) (10000) y143 → mm_b (-2147483648) (2147483647) y145 → mm_b (-2147483648) (2147483647) y147 → mm_b (-1) (9999) y149 → mm_b (1) (10000) y151 → mw g RX10 cX10_orders 8 (some .int) false (mm_rm 5) (qi shM (fun S1 v => JM S1 ∧ fr [4] [] true true S S1 ∧ mm_b (-2147483648) (2147483647) v ∧ (True))) 0 0 (mm_enc shM S140) 86 [(0, .ref 0), (1, .int x1), (2, .int x2), (3, .int y143), (4, .int y145), (5, .int y147), (6, .int y149), (7, .int y151)] [] := by
                intro N86
                induction N86 with
                | zero =>
                  intro S140 y143 y145 y147 y149 y151 hm153 hI141 hF142 b144 b146 b148 b150 b152
                  exact absurd hm153 (Nat.not_lt_zero _)
                | succ N86 ih86 =>
                  intro S140 y143 y145 y147 y149 y151 hm153 hI141 hF142 b144 b146 b148 b150 b152
                  refine mw_iload dX10_orders_86 7 rfl ?_
                  refine mw_iload_n dX10_orders_88 rfl 3 rfl ?_
                  refine mw_icmp_ge (tgt := 150) dX10_orders_89 (by decide) (fun q154 => ?_) (fun q154 => ?_)
                  · skip
                    have b155 : mm_b (10) (10000) y151 := bd_le_r q154 b144 b152 (by decide)
                    refine mw_iload_n dX10_orders_150 rfl 2 rfl ?_
                    refine mw_bipush dX10_orders_151 kb_m2 ?_
                    refine mw_icmp_ne (tgt := 175) dX10_orders_153 (by decide) (fun q156 => ?_) (fun q156 => ?_)
                    · skip
                      refine mw_iload_n dX10_orders_175 rfl 2 rfl ?_
                      refine mw_iconst dX10_orders_176 ki_m1 ?_
                      refine mw_icmp_ne (tgt := 185) dX10_orders_177 (by decide) (fun q157 => ?_) (fun q157 => ?_)
                      · skip
                        refine mw_iload dX10_orders_185 6 rfl ?_
                        exact mw_iret rfl dX10_orders_187 rfl rfl ⟨S140, _, rfl, rfl, hI141, hF142, bd_w b150 (by decide), trivial⟩
                      · skip
                        have b158 : mm_b (-1) (-1) x2 := bd_eq_l q157 (bd_all x2) n_m1 (by decide)
                        refine mw_iload dX10_orders_180 4 rfl ?_
                        refine mw_goto (tgt := 187) dX10_orders_182 (by decide) ?_
                        exact mw_iret rfl dX10_orders_187 rfl rfl ⟨S140, _, rfl, rfl, hI141, hF142, b146, trivial⟩
                    · skip
                      have b159 : mm_b (-2) (-2) x2 := bd_eq_l q156 (bd_all x2) n_m2 (by decide)
                      refine mw_iload dX10_orders_156 5 rfl ?_
                      refine tc_Si (as := [.int y147]) (st := []) dX10_orders_158 rfl mX10_241 t_X10_bits rfl (Nat.le_of_ble_eq_true rfl) (by decide) (by decide) (c_X10_bits (g := g) S140 hI141 y147) (fun S160 v162 h161 => ?_)
                      obtain ⟨rfl, b163, x164⟩ := h161
                      refine mw_iconst dX10_orders_161 ki_1 ?_
                      refine mw_icmp_ne (tgt := 173) dX10_orders_162 (by decide) (fun q165 => ?_) (fun q165 => ?_)
                      · skip
                        refine mw_iconst dX10_orders_173 ki_m1 ?_
                        exact mw_iret rfl dX10_orders_174 rfl rfl ⟨S140, _, rfl, rfl, hI141, hF142, bd_w n_m1 (by decide), trivial⟩
                      · skip
                        have b166 : mm_b (1) (1) v162 := bd_eq_l q165 b163 n_1 (by decide)
                        refine mw_iload dX10_orders_165 5 rfl ?_
                        refine tc_Si (as := [.int y147]) (st := []) dX10_orders_167 rfl mX10_195 t_X10_leastOf rfl (Nat.le_of_ble_eq_true rfl) (by decide) (by decide) (c_X10_leastOf (g := g) S140 hI141 y147) (fun S167 v169 h168 => ?_)
                        obtain ⟨rfl, b170, x171⟩ := h168
                        refine mw_goto (tgt := 174) dX10_orders_170 (by decide) ?_
                        exact mw_iret rfl dX10_orders_174 rfl rfl ⟨S140, _, rfl, rfl, hI141, hF142, bd_w b170 (by decide), trivial⟩
                  · skip
                    have b172 : mm_b (1) (9999) y151 := bd_lt_l (bd_nle q154) b152 b144 (by decide)
                    refine mw_aload_n dX10_orders_92 rfl 0 rfl ?_
                    refine mw_iload dX10_orders_93 7 rfl ?_
                    refine mw_iload_n dX10_orders_95 rfl 1 rfl ?_
                    refine tc_Vi (as := [.int y151, .int x1]) (st := []) dX10_orders_96 rfl shM_0 rfl rfl mX10_277 t_X10_isSo rfl (Nat.le_of_ble_eq_true rfl) (by decide) (by decide) (c_X10_isSo (g := g) S140 hI141 y151 (bd_w b172 (by decide)) x1 (bd_w b109 (by decide))) (fun S173 v175 h174 => ?_)
                    obtain ⟨hI179, hf180, b176, x177⟩ := h174
                    have hF181 := fr_tr hF142 hf180 (by decide) (by decide) (by decide) (by decide)
                    refine mw_if_eq (tgt := 144) dX10_orders_99 (by decide) (fun q182 => ?_) (fun q182 => ?_)
                    · skip
                      have b183 : mm_b (0) (0) v175 := bd_eq_l q182 b176 n_0 (by decide)
                      refine mw_iinc (ls' := fun v => [(7, .int v), (0, .ref 0), (1, .int x1), (2, .int x2), (3, .int y143), (4, .int y145), (5, .int y147), (6, .int y149)]) dX10_orders_144 7 rfl (by decide) (fun _ => rfl) (fun v184 ev184 => ?_)
                      have b185 : mm_b (2) (10000) v184 := bd_inc ev184 b172 (by decide)
                      refine mw_goto (tgt := 86) dX10_orders_147 (by decide) ?_
                      refine mw_ls [1, 2, 3, 4, 5, 6, 7, 0] rfl ?_
                      exact ih86 S173 y143 y145 y147 y149 v184 (ms_inc ev184 b172 (by decide) hm153) hI179 hF181 b144 b146 b148 b150 (bd_w b185 (by decide))
                    · skip
                      have b186 : mm_b (1) (1) v175 := bd_ne_l q182 b176 n_0 (by decide)
                      refine mw_iload dX10_orders_102 4 rfl ?_
                      refine mw_iload_n dX10_orders_104 rfl 2 rfl ?_
                      refine mw_icmp_ne (tgt := 113) dX10_orders_105 (by decide) (fun q187 => ?_) (fun q187 => ?_)
                      · skip
                        refine mw_iload dX10_orders_113 6 rfl ?_
                        refine mw_istore (ls' := [(6, .int y149), (0, .ref 0), (1, .int x1), (2, .int x2), (3, .int y143), (4, .int y145), (5, .int y147), (7, .int y151)]) dX10_orders_115 (by decide) rfl ?_
                        refine mw_iload dX10_orders_117 6 rfl ?_
                        refine mw_iload_n dX10_orders_119 rfl 2 rfl ?_
                        refine mw_if_ne (tgt := 127) dX10_orders_120 (by decide) (fun q188 => ?_) (fun q188 => ?_)
                        · skip
                          refine mw_iconst dX10_orders_127 ki_1 ?_
                          refine mw_iload dX10_orders_128 7 rfl ?_
                          refine mw_iload_n dX10_orders_130 rfl 4 rfl ?_
                          refine mw_bipush dX10_orders_131 kb_10 ?_
                          refine mw_idiv dX10_orders_133 (bd_ne0 n_10 (by decide)) (fun v189 ev189 => ?_)
                          have b190 : mm_b (1) (1000) v189 := bd_div ev189 b144 n_10 (by decide)
                          refine mw_idiv dX10_orders_134 (bd_ne0 b190 (by decide)) (fun v191 ev191 => ?_)
                          have b192 : mm_b (0) (9999) v191 := bd_div ev191 b172 b190 (by decide)
                          refine mw_iconst dX10_orders_135 ki_1 ?_
                          refine mw_isub dX10_orders_136 (fun v193 ev193 => ?_)
                          have b194 : mm_b (-1) (9998) v193 := bd_sub ev193 b192 n_1 (by decide)
                          refine mw_ishl dX10_orders_137 (fun v195 ev195 => ?_)
                          refine mw_ior dX10_orders_138 (fun v196 ev196 => ?_)
                          refine mw_istore (ls' := [(5, .int v196), (6, .int y149), (0, .ref 0), (1, .int x1), (2, .int x2), (3, .int y143), (4, .int y145), (7, .int y151)]) dX10_orders_139 (by decide) rfl ?_
                          refine mw_iinc (ls' := fun v => [(4, .int v), (5, .int v196), (6, .int y149), (0, .ref 0), (1, .int x1), (2, .int x2), (3, .int y143), (7, .int y151)]) dX10_orders_141 6 rfl (by decide) (fun _ => rfl) (fun v197 ev197 => ?_)
                          refine mw_iinc (ls' := fun v => [(7, .int v), (4, .int v197), (5, .int v196), (6, .int y149), (0, .ref 0), (1, .int x1), (2, .int x2), (3, .int y143)]) dX10_orders_144 7 rfl (by decide) (fun _ => rfl) (fun v198 ev198 => ?_)
                          have b199 : mm_b (2) (10000) v198 := bd_inc ev198 b172 (by decide)
                          refine mw_goto (tgt := 86) dX10_orders_147 (by decide) ?_
                          refine mw_ls [4, 5, 6, 7, 1, 2, 3, 0] rfl ?_
                          exact ih86 S173 y143 v197 v196 y149 v198 (ms_inc ev198 b172 (by decide) hm153) hI179 hF181 b144 (bd_all v197) (bd_all v196) b150 (bd_w b199 (by decide))
                        · skip
                          exact bd_feq q188 b109 n_0 (by decide)
                      · skip
                        refine mw_iload dX10_orders_108 7 rfl ?_
                        refine mw_goto (tgt := 115) dX10_orders_110 (by decide) ?_
                        refine mw_istore (ls' := [(6, .int y151), (0, .ref 0), (1, .int x1), (2, .int x2), (3, .int y143), (4, .int y145), (5, .int y147), (7, .int y151)]) dX10_orders_115 (by decide) rfl ?_
                        refine mw_iload dX10_orders_117 6 rfl ?_
                        refine mw_iload_n dX10_orders_119 rfl 2 rfl ?_
                        refine mw_if_ne (tgt := 127) dX10_orders_120 (by decide) (fun q200 => ?_) (fun q200 => ?_)
                        · skip
                          refine mw_iconst dX10_orders_127 ki_1 ?_
                          refine mw_iload dX10_orders_128 7 rfl ?_
                          refine mw_iload_n dX10_orders_130 rfl 4 rfl ?_
                          refine mw_bipush dX10_orders_131 kb_10 ?_
                          refine mw_idiv dX10_orders_133 (bd_ne0 n_10 (by decide)) (fun v201 ev201 => ?_)
                          have b202 : mm_b (1) (1000) v201 := bd_div ev201 b144 n_10 (by decide)
                          refine mw_idiv dX10_orders_134 (bd_ne0 b202 (by decide)) (fun v203 ev203 => ?_)
                          have b204 : mm_b (0) (9999) v203 := bd_div ev203 b172 b202 (by decide)
                          refine mw_iconst dX10_orders_135 ki_1 ?_
                          refine mw_isub dX10_orders_136 (fun v205 ev205 => ?_)
                          have b206 : mm_b (-1) (9998) v205 := bd_sub ev205 b204 n_1 (by decide)
                          refine mw_ishl dX10_orders_137 (fun v207 ev207 => ?_)
                          refine mw_ior dX10_orders_138 (fun v208 ev208 => ?_)
                          refine mw_istore (ls' := [(5, .int v208), (6, .int y151), (0, .ref 0), (1, .int x1), (2, .int x2), (3, .int y143), (4, .int y145), (7, .int y151)]) dX10_orders_139 (by decide) rfl ?_
                          refine mw_iinc (ls' := fun v => [(4, .int v), (5, .int v208), (6, .int y151), (0, .ref 0), (1, .int x1), (2, .int x2), (3, .int y143), (7, .int y151)]) dX10_orders_141 6 rfl (by decide) (fun _ => rfl) (fun v209 ev209 => ?_)
                          refine mw_iinc (ls' := fun v => [(7, .int v), (4, .int v209), (5, .int v208), (6, .int y151), (0, .ref 0), (1, .int x1), (2, .int x2), (3, .int y143)]) dX10_orders_144 7 rfl (by decide) (fun _ => rfl) (fun v210 ev210 => ?_)
                          have b211 : mm_b (2) (10000) v210 := bd_inc ev210 b172 (by decide)
                          refine mw_goto (tgt := 86) dX10_orders_147 (by decide) ?_
                          refine mw_ls [4, 5, 6, 7, 1, 2, 3, 0] rfl ?_
                          exact ih86 S173 y143 v209 v208 y151 v210 (ms_inc ev210 b172 (by decide) hm153) hI179 hF181 b144 (bd_all v209) (bd_all v208) (bd_w b172 (by decide)) (bd_w b211 (by decide))
                        · skip
                          exact bd_feq q200 b109 n_0 (by decide)
              refine mw_ls [5, 6, 7, 4, 3, 2, 1, 0] rfl ?_
              exact cut86 _ S v131 (0 : Int32) (0 : Int32) (-1 : Int32) v138 (Nat.lt_succ_self _) hI hF (bd_w b132 (by decide)) (bd_w n_0 (by decide)) (bd_w n_0 (by decide)) (bd_w n_m1 (by decide)) (bd_w b139 (by decide))
            · skip
              exact bd_feq q137 b109 n_0 (by decide)
          · skip
            have b212 : mm_b (1) (3) v133 := bd_lt_r (bd_nle q135) n_0 b134 (by decide)
            refine mw_iload_n dX10_orders_52 rfl 1 rfl ?_
            refine mw_bipush dX10_orders_53 kb_10 ?_
            refine mw_imul dX10_orders_55 (fun v213 ev213 => ?_)
            have b214 : mm_b (100) (100) v213 := bd_mul ev213 b132 n_10 (by decide)
            refine mw_istore_n (ls' := [(3, .int v213), (4, .int v133), (0, .ref 0), (1, .int x1), (2, .int x2)]) dX10_orders_56 rfl (by decide) rfl ?_
            refine mw_iinc (ls' := fun v => [(4, .int v), (3, .int v213), (0, .ref 0), (1, .int x1), (2, .int x2)]) dX10_orders_57 1 rfl (by decide) (fun _ => rfl) (fun v215 ev215 => ?_)
            have b216 : mm_b (0) (2) v215 := bd_inc ev215 b212 (by decide)
            refine mw_goto (tgt := 47) dX10_orders_60 (by decide) ?_
            refine mw_iload dX10_orders_47 0 rfl ?_
            refine mw_if_le (tgt := 63) dX10_orders_49 (by decide) (fun q217 => ?_) (fun q217 => ?_)
            · skip
              have b218 : mm_b (0) (0) v215 := bd_le_l q217 b216 n_0 (by decide)
              refine mw_iconst dX10_orders_63 ki_0 ?_
              refine mw_istore (ls' := [(4, .int 0), (3, .int v213), (0, .ref 0), (1, .int x1), (2, .int x2)]) dX10_orders_64 (by decide) rfl ?_
              refine mw_iconst dX10_orders_66 ki_0 ?_
              refine mw_istore (ls' := [(5, .int 0), (4, .int 0), (3, .int v213), (0, .ref 0), (1, .int x1), (2, .int x2)]) dX10_orders_67 (by decide) rfl ?_
              refine mw_iconst dX10_orders_69 ki_m1 ?_
              refine mw_istore (ls' := [(6, .int (-1)), (5, .int 0), (4, .int 0), (3, .int v213), (0, .ref 0), (1, .int x1), (2, .int x2)]) dX10_orders_70 (by decide) rfl ?_
              refine mw_iload_n dX10_orders_72 rfl 5 rfl ?_
              refine mw_if_ne (tgt := 80) dX10_orders_73 (by decide) (fun q219 => ?_) (fun q219 => ?_)
              · skip
                refine mw_iload_n dX10_orders_80 rfl 3 rfl ?_
                refine mw_bipush dX10_orders_81 kb_10 ?_
                refine mw_idiv dX10_orders_83 (bd_ne0 n_10 (by decide)) (fun v220 ev220 => ?_)
                have b221 : mm_b (10) (10) v220 := bd_div ev220 b214 n_10 (by decide)
                refine mw_istore (ls' := [(7, .int v220), (6, .int (-1)), (5, .int 0), (4, .int 0), (3, .int v213), (0, .ref 0), (1, .int x1), (2, .int x2)]) dX10_orders_84 (by decide) rfl ?_
                have cut86 : ∀ (N86 : Nat) (S222 : mm_S) (y225 y227 y229 y231 y233 : Int32), ((10001 : Int) - y233.toInt).toNat < N86 → JM S222 → fr [4] [] true true S S222 → mm_b (10) (10000) y225 → mm_b (-2147483648) (2147483647) y227 → mm_b (-2147483648) (2147483647) y229 → mm_b (-1) (9999) y231 → mm_b (1) (10000) y233 → mw g RX10 cX10_orders 8 (some .int) false (mm_rm 5) (qi shM (fun S1 v => JM S1 ∧ fr [4] [] true true S S1 ∧ mm_b (-2147483648) (2147483647) v ∧ (True))) 0 0 (mm_enc shM S222) 86 [(0, .ref 0), (1, .int x1), (2, .int x2), (3, .int y225), (4, .int y227), (5, .int y229), (6, .int y231), (7, .int y233)] [] := by
                  intro N86
                  induction N86 with
                  | zero =>
                    intro S222 y225 y227 y229 y231 y233 hm235 hI223 hF224 b226 b228 b230 b232 b234
                    exact absurd hm235 (Nat.not_lt_zero _)
                  | succ N86 ih86 =>
                    intro S222 y225 y227 y229 y231 y233 hm235 hI223 hF224 b226 b228 b230 b232 b234
                    refine mw_iload dX10_orders_86 7 rfl ?_
                    refine mw_iload_n dX10_orders_88 rfl 3 rfl ?_
                    refine mw_icmp_ge (tgt := 150) dX10_orders_89 (by decide) (fun q236 => ?_) (fun q236 => ?_)
                    · skip
                      have b237 : mm_b (10) (10000) y233 := bd_le_r q236 b226 b234 (by decide)
                      refine mw_iload_n dX10_orders_150 rfl 2 rfl ?_
                      refine mw_bipush dX10_orders_151 kb_m2 ?_
                      refine mw_icmp_ne (tgt := 175) dX10_orders_153 (by decide) (fun q238 => ?_) (fun q238 => ?_)
                      · skip
                        refine mw_iload_n dX10_orders_175 rfl 2 rfl ?_
                        refine mw_iconst dX10_orders_176 ki_m1 ?_
                        refine mw_icmp_ne (tgt := 185) dX10_orders_177 (by decide) (fun q239 => ?_) (fun q239 => ?_)
                        · skip
                          refine mw_iload dX10_orders_185 6 rfl ?_
                          exact mw_iret rfl dX10_orders_187 rfl rfl ⟨S222, _, rfl, rfl, hI223, hF224, bd_w b232 (by decide), trivial⟩
                        · skip
                          have b240 : mm_b (-1) (-1) x2 := bd_eq_l q239 (bd_all x2) n_m1 (by decide)
                          refine mw_iload dX10_orders_180 4 rfl ?_
                          refine mw_goto (tgt := 187) dX10_orders_182 (by decide) ?_
                          exact mw_iret rfl dX10_orders_187 rfl rfl ⟨S222, _, rfl, rfl, hI223, hF224, b228, trivial⟩
                      · skip
                        have b241 : mm_b (-2) (-2) x2 := bd_eq_l q238 (bd_all x2) n_m2 (by decide)
                        refine mw_iload dX10_orders_156 5 rfl ?_
                        refine tc_Si (as := [.int y229]) (st := []) dX10_orders_158 rfl mX10_241 t_X10_bits rfl (Nat.le_of_ble_eq_true rfl) (by decide) (by decide) (c_X10_bits (g := g) S222 hI223 y229) (fun S242 v244 h243 => ?_)
                        obtain ⟨rfl, b245, x246⟩ := h243
                        refine mw_iconst dX10_orders_161 ki_1 ?_
                        refine mw_icmp_ne (tgt := 173) dX10_orders_162 (by decide) (fun q247 => ?_) (fun q247 => ?_)
                        · skip
                          refine mw_iconst dX10_orders_173 ki_m1 ?_
                          exact mw_iret rfl dX10_orders_174 rfl rfl ⟨S222, _, rfl, rfl, hI223, hF224, bd_w n_m1 (by decide), trivial⟩
                        · skip
                          have b248 : mm_b (1) (1) v244 := bd_eq_l q247 b245 n_1 (by decide)
                          refine mw_iload dX10_orders_165 5 rfl ?_
                          refine tc_Si (as := [.int y229]) (st := []) dX10_orders_167 rfl mX10_195 t_X10_leastOf rfl (Nat.le_of_ble_eq_true rfl) (by decide) (by decide) (c_X10_leastOf (g := g) S222 hI223 y229) (fun S249 v251 h250 => ?_)
                          obtain ⟨rfl, b252, x253⟩ := h250
                          refine mw_goto (tgt := 174) dX10_orders_170 (by decide) ?_
                          exact mw_iret rfl dX10_orders_174 rfl rfl ⟨S222, _, rfl, rfl, hI223, hF224, bd_w b252 (by decide), trivial⟩
                    · skip
                      have b254 : mm_b (1) (9999) y233 := bd_lt_l (bd_nle q236) b234 b226 (by decide)
                      refine mw_aload_n dX10_orders_92 rfl 0 rfl ?_
                      refine mw_iload dX10_orders_93 7 rfl ?_
                      refine mw_iload_n dX10_orders_95 rfl 1 rfl ?_
                      refine tc_Vi (as := [.int y233, .int x1]) (st := []) dX10_orders_96 rfl shM_0 rfl rfl mX10_277 t_X10_isSo rfl (Nat.le_of_ble_eq_true rfl) (by decide) (by decide) (c_X10_isSo (g := g) S222 hI223 y233 (bd_w b254 (by decide)) x1 (bd_w b109 (by decide))) (fun S255 v257 h256 => ?_)
                      obtain ⟨hI261, hf262, b258, x259⟩ := h256
                      have hF263 := fr_tr hF224 hf262 (by decide) (by decide) (by decide) (by decide)
                      refine mw_if_eq (tgt := 144) dX10_orders_99 (by decide) (fun q264 => ?_) (fun q264 => ?_)
                      · skip
                        have b265 : mm_b (0) (0) v257 := bd_eq_l q264 b258 n_0 (by decide)
                        refine mw_iinc (ls' := fun v => [(7, .int v), (0, .ref 0), (1, .int x1), (2, .int x2), (3, .int y225), (4, .int y227), (5, .int y229), (6, .int y231)]) dX10_orders_144 7 rfl (by decide) (fun _ => rfl) (fun v266 ev266 => ?_)
                        have b267 : mm_b (2) (10000) v266 := bd_inc ev266 b254 (by decide)
                        refine mw_goto (tgt := 86) dX10_orders_147 (by decide) ?_
                        refine mw_ls [1, 2, 3, 4, 5, 6, 7, 0] rfl ?_
                        exact ih86 S255 y225 y227 y229 y231 v266 (ms_inc ev266 b254 (by decide) hm235) hI261 hF263 b226 b228 b230 b232 (bd_w b267 (by decide))
                      · skip
                        have b268 : mm_b (1) (1) v257 := bd_ne_l q264 b258 n_0 (by decide)
                        refine mw_iload dX10_orders_102 4 rfl ?_
                        refine mw_iload_n dX10_orders_104 rfl 2 rfl ?_
                        refine mw_icmp_ne (tgt := 113) dX10_orders_105 (by decide) (fun q269 => ?_) (fun q269 => ?_)
                        · skip
                          refine mw_iload dX10_orders_113 6 rfl ?_
                          refine mw_istore (ls' := [(6, .int y231), (0, .ref 0), (1, .int x1), (2, .int x2), (3, .int y225), (4, .int y227), (5, .int y229), (7, .int y233)]) dX10_orders_115 (by decide) rfl ?_
                          refine mw_iload dX10_orders_117 6 rfl ?_
                          refine mw_iload_n dX10_orders_119 rfl 2 rfl ?_
                          refine mw_if_ne (tgt := 127) dX10_orders_120 (by decide) (fun q270 => ?_) (fun q270 => ?_)
                          · skip
                            refine mw_iconst dX10_orders_127 ki_1 ?_
                            refine mw_iload dX10_orders_128 7 rfl ?_
                            refine mw_iload_n dX10_orders_130 rfl 4 rfl ?_
                            refine mw_bipush dX10_orders_131 kb_10 ?_
                            refine mw_idiv dX10_orders_133 (bd_ne0 n_10 (by decide)) (fun v271 ev271 => ?_)
                            have b272 : mm_b (1) (1000) v271 := bd_div ev271 b226 n_10 (by decide)
                            refine mw_idiv dX10_orders_134 (bd_ne0 b272 (by decide)) (fun v273 ev273 => ?_)
                            have b274 : mm_b (0) (9999) v273 := bd_div ev273 b254 b272 (by decide)
                            refine mw_iconst dX10_orders_135 ki_1 ?_
                            refine mw_isub dX10_orders_136 (fun v275 ev275 => ?_)
                            have b276 : mm_b (-1) (9998) v275 := bd_sub ev275 b274 n_1 (by decide)
                            refine mw_ishl dX10_orders_137 (fun v277 ev277 => ?_)
                            refine mw_ior dX10_orders_138 (fun v278 ev278 => ?_)
                            refine mw_istore (ls' := [(5, .int v278), (6, .int y231), (0, .ref 0), (1, .int x1), (2, .int x2), (3, .int y225), (4, .int y227), (7, .int y233)]) dX10_orders_139 (by decide) rfl ?_
                            refine mw_iinc (ls' := fun v => [(4, .int v), (5, .int v278), (6, .int y231), (0, .ref 0), (1, .int x1), (2, .int x2), (3, .int y225), (7, .int y233)]) dX10_orders_141 6 rfl (by decide) (fun _ => rfl) (fun v279 ev279 => ?_)
                            refine mw_iinc (ls' := fun v => [(7, .int v), (4, .int v279), (5, .int v278), (6, .int y231), (0, .ref 0), (1, .int x1), (2, .int x2), (3, .int y225)]) dX10_orders_144 7 rfl (by decide) (fun _ => rfl) (fun v280 ev280 => ?_)
                            have b281 : mm_b (2) (10000) v280 := bd_inc ev280 b254 (by decide)
                            refine mw_goto (tgt := 86) dX10_orders_147 (by decide) ?_
                            refine mw_ls [4, 5, 6, 7, 1, 2, 3, 0] rfl ?_
                            exact ih86 S255 y225 v279 v278 y231 v280 (ms_inc ev280 b254 (by decide) hm235) hI261 hF263 b226 (bd_all v279) (bd_all v278) b232 (bd_w b281 (by decide))
                          · skip
                            exact bd_feq q270 b109 n_0 (by decide)
                        · skip
                          refine mw_iload dX10_orders_108 7 rfl ?_
                          refine mw_goto (tgt := 115) dX10_orders_110 (by decide) ?_
                          refine mw_istore (ls' := [(6, .int y233), (0, .ref 0), (1, .int x1), (2, .int x2), (3, .int y225), (4, .int y227), (5, .int y229), (7, .int y233)]) dX10_orders_115 (by decide) rfl ?_
                          refine mw_iload dX10_orders_117 6 rfl ?_
                          refine mw_iload_n dX10_orders_119 rfl 2 rfl ?_
                          refine mw_if_ne (tgt := 127) dX10_orders_120 (by decide) (fun q282 => ?_) (fun q282 => ?_)
                          · skip
                            refine mw_iconst dX10_orders_127 ki_1 ?_
                            refine mw_iload dX10_orders_128 7 rfl ?_
                            refine mw_iload_n dX10_orders_130 rfl 4 rfl ?_
                            refine mw_bipush dX10_orders_131 kb_10 ?_
                            refine mw_idiv dX10_orders_133 (bd_ne0 n_10 (by decide)) (fun v283 ev283 => ?_)
                            have b284 : mm_b (1) (1000) v283 := bd_div ev283 b226 n_10 (by decide)
                            refine mw_idiv dX10_orders_134 (bd_ne0 b284 (by decide)) (fun v285 ev285 => ?_)
                            have b286 : mm_b (0) (9999) v285 := bd_div ev285 b254 b284 (by decide)
                            refine mw_iconst dX10_orders_135 ki_1 ?_
                            refine mw_isub dX10_orders_136 (fun v287 ev287 => ?_)
                            have b288 : mm_b (-1) (9998) v287 := bd_sub ev287 b286 n_1 (by decide)
                            refine mw_ishl dX10_orders_137 (fun v289 ev289 => ?_)
                            refine mw_ior dX10_orders_138 (fun v290 ev290 => ?_)
                            refine mw_istore (ls' := [(5, .int v290), (6, .int y233), (0, .ref 0), (1, .int x1), (2, .int x2), (3, .int y225), (4, .int y227), (7, .int y233)]) dX10_orders_139 (by decide) rfl ?_
                            refine mw_iinc (ls' := fun v => [(4, .int v), (5, .int v290), (6, .int y233), (0, .ref 0), (1, .int x1), (2, .int x2), (3, .int y225), (7, .int y233)]) dX10_orders_141 6 rfl (by decide) (fun _ => rfl) (fun v291 ev291 => ?_)
                            refine mw_iinc (ls' := fun v => [(7, .int v), (4, .int v291), (5, .int v290), (6, .int y233), (0, .ref 0), (1, .int x1), (2, .int x2), (3, .int y225)]) dX10_orders_144 7 rfl (by decide) (fun _ => rfl) (fun v292 ev292 => ?_)
                            have b293 : mm_b (2) (10000) v292 := bd_inc ev292 b254 (by decide)
                            refine mw_goto (tgt := 86) dX10_orders_147 (by decide) ?_
                            refine mw_ls [4, 5, 6, 7, 1, 2, 3, 0] rfl ?_
                            exact ih86 S255 y225 v291 v290 y233 v292 (ms_inc ev292 b254 (by decide) hm235) hI261 hF263 b226 (bd_all v291) (bd_all v290) (bd_w b254 (by decide)) (bd_w b293 (by decide))
                          · skip
                            exact bd_feq q282 b109 n_0 (by decide)
                refine mw_ls [5, 6, 7, 4, 3, 2, 1, 0] rfl ?_
                exact cut86 _ S v213 (0 : Int32) (0 : Int32) (-1 : Int32) v220 (Nat.lt_succ_self _) hI hF (bd_w b214 (by decide)) (bd_w n_0 (by decide)) (bd_w n_0 (by decide)) (bd_w n_m1 (by decide)) (bd_w b221 (by decide))
              · skip
                exact bd_feq q219 b109 n_0 (by decide)
            · skip
              have b294 : mm_b (1) (2) v215 := bd_lt_r (bd_nle q217) n_0 b216 (by decide)
              refine mw_iload_n dX10_orders_52 rfl 1 rfl ?_
              refine mw_bipush dX10_orders_53 kb_10 ?_
              refine mw_imul dX10_orders_55 (fun v295 ev295 => ?_)
              have b296 : mm_b (1000) (1000) v295 := bd_mul ev295 b214 n_10 (by decide)
              refine mw_istore_n (ls' := [(3, .int v295), (4, .int v215), (0, .ref 0), (1, .int x1), (2, .int x2)]) dX10_orders_56 rfl (by decide) rfl ?_
              refine mw_iinc (ls' := fun v => [(4, .int v), (3, .int v295), (0, .ref 0), (1, .int x1), (2, .int x2)]) dX10_orders_57 1 rfl (by decide) (fun _ => rfl) (fun v297 ev297 => ?_)
              have b298 : mm_b (0) (1) v297 := bd_inc ev297 b294 (by decide)
              refine mw_goto (tgt := 47) dX10_orders_60 (by decide) ?_
              refine mw_iload dX10_orders_47 0 rfl ?_
              refine mw_if_le (tgt := 63) dX10_orders_49 (by decide) (fun q299 => ?_) (fun q299 => ?_)
              · skip
                have b300 : mm_b (0) (0) v297 := bd_le_l q299 b298 n_0 (by decide)
                refine mw_iconst dX10_orders_63 ki_0 ?_
                refine mw_istore (ls' := [(4, .int 0), (3, .int v295), (0, .ref 0), (1, .int x1), (2, .int x2)]) dX10_orders_64 (by decide) rfl ?_
                refine mw_iconst dX10_orders_66 ki_0 ?_
                refine mw_istore (ls' := [(5, .int 0), (4, .int 0), (3, .int v295), (0, .ref 0), (1, .int x1), (2, .int x2)]) dX10_orders_67 (by decide) rfl ?_
                refine mw_iconst dX10_orders_69 ki_m1 ?_
                refine mw_istore (ls' := [(6, .int (-1)), (5, .int 0), (4, .int 0), (3, .int v295), (0, .ref 0), (1, .int x1), (2, .int x2)]) dX10_orders_70 (by decide) rfl ?_
                refine mw_iload_n dX10_orders_72 rfl 5 rfl ?_
                refine mw_if_ne (tgt := 80) dX10_orders_73 (by decide) (fun q301 => ?_) (fun q301 => ?_)
                · skip
                  refine mw_iload_n dX10_orders_80 rfl 3 rfl ?_
                  refine mw_bipush dX10_orders_81 kb_10 ?_
                  refine mw_idiv dX10_orders_83 (bd_ne0 n_10 (by decide)) (fun v302 ev302 => ?_)
                  have b303 : mm_b (100) (100) v302 := bd_div ev302 b296 n_10 (by decide)
                  refine mw_istore (ls' := [(7, .int v302), (6, .int (-1)), (5, .int 0), (4, .int 0), (3, .int v295), (0, .ref 0), (1, .int x1), (2, .int x2)]) dX10_orders_84 (by decide) rfl ?_
                  have cut86 : ∀ (N86 : Nat) (S304 : mm_S) (y307 y309 y311 y313 y315 : Int32), ((10001 : Int) - y315.toInt).toNat < N86 → JM S304 → fr [4] [] true true S S304 → mm_b (10) (10000) y307 → mm_b (-2147483648) (2147483647) y309 → mm_b (-2147483648) (2147483647) y311 → mm_b (-1) (9999) y313 → mm_b (1) (10000) y315 → mw g RX10 cX10_orders 8 (some .int) false (mm_rm 5) (qi shM (fun S1 v => JM S1 ∧ fr [4] [] true true S S1 ∧ mm_b (-2147483648) (2147483647) v ∧ (True))) 0 0 (mm_enc shM S304) 86 [(0, .ref 0), (1, .int x1), (2, .int x2), (3, .int y307), (4, .int y309), (5, .int y311), (6, .int y313), (7, .int y315)] [] := by
                    intro N86
                    induction N86 with
                    | zero =>
                      intro S304 y307 y309 y311 y313 y315 hm317 hI305 hF306 b308 b310 b312 b314 b316
                      exact absurd hm317 (Nat.not_lt_zero _)
                    | succ N86 ih86 =>
                      intro S304 y307 y309 y311 y313 y315 hm317 hI305 hF306 b308 b310 b312 b314 b316
                      refine mw_iload dX10_orders_86 7 rfl ?_
                      refine mw_iload_n dX10_orders_88 rfl 3 rfl ?_
                      refine mw_icmp_ge (tgt := 150) dX10_orders_89 (by decide) (fun q318 => ?_) (fun q318 => ?_)
                      · skip
                        have b319 : mm_b (10) (10000) y315 := bd_le_r q318 b308 b316 (by decide)
                        refine mw_iload_n dX10_orders_150 rfl 2 rfl ?_
                        refine mw_bipush dX10_orders_151 kb_m2 ?_
                        refine mw_icmp_ne (tgt := 175) dX10_orders_153 (by decide) (fun q320 => ?_) (fun q320 => ?_)
                        · skip
                          refine mw_iload_n dX10_orders_175 rfl 2 rfl ?_
                          refine mw_iconst dX10_orders_176 ki_m1 ?_
                          refine mw_icmp_ne (tgt := 185) dX10_orders_177 (by decide) (fun q321 => ?_) (fun q321 => ?_)
                          · skip
                            refine mw_iload dX10_orders_185 6 rfl ?_
                            exact mw_iret rfl dX10_orders_187 rfl rfl ⟨S304, _, rfl, rfl, hI305, hF306, bd_w b314 (by decide), trivial⟩
                          · skip
                            have b322 : mm_b (-1) (-1) x2 := bd_eq_l q321 (bd_all x2) n_m1 (by decide)
                            refine mw_iload dX10_orders_180 4 rfl ?_
                            refine mw_goto (tgt := 187) dX10_orders_182 (by decide) ?_
                            exact mw_iret rfl dX10_orders_187 rfl rfl ⟨S304, _, rfl, rfl, hI305, hF306, b310, trivial⟩
                        · skip
                          have b323 : mm_b (-2) (-2) x2 := bd_eq_l q320 (bd_all x2) n_m2 (by decide)
                          refine mw_iload dX10_orders_156 5 rfl ?_
                          refine tc_Si (as := [.int y311]) (st := []) dX10_orders_158 rfl mX10_241 t_X10_bits rfl (Nat.le_of_ble_eq_true rfl) (by decide) (by decide) (c_X10_bits (g := g) S304 hI305 y311) (fun S324 v326 h325 => ?_)
                          obtain ⟨rfl, b327, x328⟩ := h325
                          refine mw_iconst dX10_orders_161 ki_1 ?_
                          refine mw_icmp_ne (tgt := 173) dX10_orders_162 (by decide) (fun q329 => ?_) (fun q329 => ?_)
                          · skip
                            refine mw_iconst dX10_orders_173 ki_m1 ?_
                            exact mw_iret rfl dX10_orders_174 rfl rfl ⟨S304, _, rfl, rfl, hI305, hF306, bd_w n_m1 (by decide), trivial⟩
                          · skip
                            have b330 : mm_b (1) (1) v326 := bd_eq_l q329 b327 n_1 (by decide)
                            refine mw_iload dX10_orders_165 5 rfl ?_
                            refine tc_Si (as := [.int y311]) (st := []) dX10_orders_167 rfl mX10_195 t_X10_leastOf rfl (Nat.le_of_ble_eq_true rfl) (by decide) (by decide) (c_X10_leastOf (g := g) S304 hI305 y311) (fun S331 v333 h332 => ?_)
                            obtain ⟨rfl, b334, x335⟩ := h332
                            refine mw_goto (tgt := 174) dX10_orders_170 (by decide) ?_
                            exact mw_iret rfl dX10_orders_174 rfl rfl ⟨S304, _, rfl, rfl, hI305, hF306, bd_w b334 (by decide), trivial⟩
                      · skip
                        have b336 : mm_b (1) (9999) y315 := bd_lt_l (bd_nle q318) b316 b308 (by decide)
                        refine mw_aload_n dX10_orders_92 rfl 0 rfl ?_
                        refine mw_iload dX10_orders_93 7 rfl ?_
                        refine mw_iload_n dX10_orders_95 rfl 1 rfl ?_
                        refine tc_Vi (as := [.int y315, .int x1]) (st := []) dX10_orders_96 rfl shM_0 rfl rfl mX10_277 t_X10_isSo rfl (Nat.le_of_ble_eq_true rfl) (by decide) (by decide) (c_X10_isSo (g := g) S304 hI305 y315 (bd_w b336 (by decide)) x1 (bd_w b109 (by decide))) (fun S337 v339 h338 => ?_)
                        obtain ⟨hI343, hf344, b340, x341⟩ := h338
                        have hF345 := fr_tr hF306 hf344 (by decide) (by decide) (by decide) (by decide)
                        refine mw_if_eq (tgt := 144) dX10_orders_99 (by decide) (fun q346 => ?_) (fun q346 => ?_)
                        · skip
                          have b347 : mm_b (0) (0) v339 := bd_eq_l q346 b340 n_0 (by decide)
                          refine mw_iinc (ls' := fun v => [(7, .int v), (0, .ref 0), (1, .int x1), (2, .int x2), (3, .int y307), (4, .int y309), (5, .int y311), (6, .int y313)]) dX10_orders_144 7 rfl (by decide) (fun _ => rfl) (fun v348 ev348 => ?_)
                          have b349 : mm_b (2) (10000) v348 := bd_inc ev348 b336 (by decide)
                          refine mw_goto (tgt := 86) dX10_orders_147 (by decide) ?_
                          refine mw_ls [1, 2, 3, 4, 5, 6, 7, 0] rfl ?_
                          exact ih86 S337 y307 y309 y311 y313 v348 (ms_inc ev348 b336 (by decide) hm317) hI343 hF345 b308 b310 b312 b314 (bd_w b349 (by decide))
                        · skip
                          have b350 : mm_b (1) (1) v339 := bd_ne_l q346 b340 n_0 (by decide)
                          refine mw_iload dX10_orders_102 4 rfl ?_
                          refine mw_iload_n dX10_orders_104 rfl 2 rfl ?_
                          refine mw_icmp_ne (tgt := 113) dX10_orders_105 (by decide) (fun q351 => ?_) (fun q351 => ?_)
                          · skip
                            refine mw_iload dX10_orders_113 6 rfl ?_
                            refine mw_istore (ls' := [(6, .int y313), (0, .ref 0), (1, .int x1), (2, .int x2), (3, .int y307), (4, .int y309), (5, .int y311), (7, .int y315)]) dX10_orders_115 (by decide) rfl ?_
                            refine mw_iload dX10_orders_117 6 rfl ?_
                            refine mw_iload_n dX10_orders_119 rfl 2 rfl ?_
                            refine mw_if_ne (tgt := 127) dX10_orders_120 (by decide) (fun q352 => ?_) (fun q352 => ?_)
                            · skip
                              refine mw_iconst dX10_orders_127 ki_1 ?_
                              refine mw_iload dX10_orders_128 7 rfl ?_
                              refine mw_iload_n dX10_orders_130 rfl 4 rfl ?_
                              refine mw_bipush dX10_orders_131 kb_10 ?_
                              refine mw_idiv dX10_orders_133 (bd_ne0 n_10 (by decide)) (fun v353 ev353 => ?_)
                              have b354 : mm_b (1) (1000) v353 := bd_div ev353 b308 n_10 (by decide)
                              refine mw_idiv dX10_orders_134 (bd_ne0 b354 (by decide)) (fun v355 ev355 => ?_)
                              have b356 : mm_b (0) (9999) v355 := bd_div ev355 b336 b354 (by decide)
                              refine mw_iconst dX10_orders_135 ki_1 ?_
                              refine mw_isub dX10_orders_136 (fun v357 ev357 => ?_)
                              have b358 : mm_b (-1) (9998) v357 := bd_sub ev357 b356 n_1 (by decide)
                              refine mw_ishl dX10_orders_137 (fun v359 ev359 => ?_)
                              refine mw_ior dX10_orders_138 (fun v360 ev360 => ?_)
                              refine mw_istore (ls' := [(5, .int v360), (6, .int y313), (0, .ref 0), (1, .int x1), (2, .int x2), (3, .int y307), (4, .int y309), (7, .int y315)]) dX10_orders_139 (by decide) rfl ?_
                              refine mw_iinc (ls' := fun v => [(4, .int v), (5, .int v360), (6, .int y313), (0, .ref 0), (1, .int x1), (2, .int x2), (3, .int y307), (7, .int y315)]) dX10_orders_141 6 rfl (by decide) (fun _ => rfl) (fun v361 ev361 => ?_)
                              refine mw_iinc (ls' := fun v => [(7, .int v), (4, .int v361), (5, .int v360), (6, .int y313), (0, .ref 0), (1, .int x1), (2, .int x2), (3, .int y307)]) dX10_orders_144 7 rfl (by decide) (fun _ => rfl) (fun v362 ev362 => ?_)
                              have b363 : mm_b (2) (10000) v362 := bd_inc ev362 b336 (by decide)
                              refine mw_goto (tgt := 86) dX10_orders_147 (by decide) ?_
                              refine mw_ls [4, 5, 6, 7, 1, 2, 3, 0] rfl ?_
                              exact ih86 S337 y307 v361 v360 y313 v362 (ms_inc ev362 b336 (by decide) hm317) hI343 hF345 b308 (bd_all v361) (bd_all v360) b314 (bd_w b363 (by decide))
                            · skip
                              exact bd_feq q352 b109 n_0 (by decide)
                          · skip
                            refine mw_iload dX10_orders_108 7 rfl ?_
                            refine mw_goto (tgt := 115) dX10_orders_110 (by decide) ?_
                            refine mw_istore (ls' := [(6, .int y315), (0, .ref 0), (1, .int x1), (2, .int x2), (3, .int y307), (4, .int y309), (5, .int y311), (7, .int y315)]) dX10_orders_115 (by decide) rfl ?_
                            refine mw_iload dX10_orders_117 6 rfl ?_
                            refine mw_iload_n dX10_orders_119 rfl 2 rfl ?_
                            refine mw_if_ne (tgt := 127) dX10_orders_120 (by decide) (fun q364 => ?_) (fun q364 => ?_)
                            · skip
                              refine mw_iconst dX10_orders_127 ki_1 ?_
                              refine mw_iload dX10_orders_128 7 rfl ?_
                              refine mw_iload_n dX10_orders_130 rfl 4 rfl ?_
                              refine mw_bipush dX10_orders_131 kb_10 ?_
                              refine mw_idiv dX10_orders_133 (bd_ne0 n_10 (by decide)) (fun v365 ev365 => ?_)
                              have b366 : mm_b (1) (1000) v365 := bd_div ev365 b308 n_10 (by decide)
                              refine mw_idiv dX10_orders_134 (bd_ne0 b366 (by decide)) (fun v367 ev367 => ?_)
                              have b368 : mm_b (0) (9999) v367 := bd_div ev367 b336 b366 (by decide)
                              refine mw_iconst dX10_orders_135 ki_1 ?_
                              refine mw_isub dX10_orders_136 (fun v369 ev369 => ?_)
                              have b370 : mm_b (-1) (9998) v369 := bd_sub ev369 b368 n_1 (by decide)
                              refine mw_ishl dX10_orders_137 (fun v371 ev371 => ?_)
                              refine mw_ior dX10_orders_138 (fun v372 ev372 => ?_)
                              refine mw_istore (ls' := [(5, .int v372), (6, .int y315), (0, .ref 0), (1, .int x1), (2, .int x2), (3, .int y307), (4, .int y309), (7, .int y315)]) dX10_orders_139 (by decide) rfl ?_
                              refine mw_iinc (ls' := fun v => [(4, .int v), (5, .int v372), (6, .int y315), (0, .ref 0), (1, .int x1), (2, .int x2), (3, .int y307), (7, .int y315)]) dX10_orders_141 6 rfl (by decide) (fun _ => rfl) (fun v373 ev373 => ?_)
                              refine mw_iinc (ls' := fun v => [(7, .int v), (4, .int v373), (5, .int v372), (6, .int y315), (0, .ref 0), (1, .int x1), (2, .int x2), (3, .int y307)]) dX10_orders_144 7 rfl (by decide) (fun _ => rfl) (fun v374 ev374 => ?_)
                              have b375 : mm_b (2) (10000) v374 := bd_inc ev374 b336 (by decide)
                              refine mw_goto (tgt := 86) dX10_orders_147 (by decide) ?_
                              refine mw_ls [4, 5, 6, 7, 1, 2, 3, 0] rfl ?_
                              exact ih86 S337 y307 v373 v372 y315 v374 (ms_inc ev374 b336 (by decide) hm317) hI343 hF345 b308 (bd_all v373) (bd_all v372) (bd_w b336 (by decide)) (bd_w b375 (by decide))
                            · skip
                              exact bd_feq q364 b109 n_0 (by decide)
                  refine mw_ls [5, 6, 7, 4, 3, 2, 1, 0] rfl ?_
                  exact cut86 _ S v295 (0 : Int32) (0 : Int32) (-1 : Int32) v302 (Nat.lt_succ_self _) hI hF (bd_w b296 (by decide)) (bd_w n_0 (by decide)) (bd_w n_0 (by decide)) (bd_w n_m1 (by decide)) (bd_w b303 (by decide))
                · skip
                  exact bd_feq q301 b109 n_0 (by decide)
              · skip
                have b376 : mm_b (1) (1) v297 := bd_lt_r (bd_nle q299) n_0 b298 (by decide)
                refine mw_iload_n dX10_orders_52 rfl 1 rfl ?_
                refine mw_bipush dX10_orders_53 kb_10 ?_
                refine mw_imul dX10_orders_55 (fun v377 ev377 => ?_)
                have b378 : mm_b (10000) (10000) v377 := bd_mul ev377 b296 n_10 (by decide)
                refine mw_istore_n (ls' := [(3, .int v377), (4, .int v297), (0, .ref 0), (1, .int x1), (2, .int x2)]) dX10_orders_56 rfl (by decide) rfl ?_
                refine mw_iinc (ls' := fun v => [(4, .int v), (3, .int v377), (0, .ref 0), (1, .int x1), (2, .int x2)]) dX10_orders_57 1 rfl (by decide) (fun _ => rfl) (fun v379 ev379 => ?_)
                have b380 : mm_b (0) (0) v379 := bd_inc ev379 b376 (by decide)
                refine mw_goto (tgt := 47) dX10_orders_60 (by decide) ?_
                refine mw_iload dX10_orders_47 0 rfl ?_
                refine mw_if_le (tgt := 63) dX10_orders_49 (by decide) (fun q381 => ?_) (fun q381 => ?_)
                · skip
                  refine mw_iconst dX10_orders_63 ki_0 ?_
                  refine mw_istore (ls' := [(4, .int 0), (3, .int v377), (0, .ref 0), (1, .int x1), (2, .int x2)]) dX10_orders_64 (by decide) rfl ?_
                  refine mw_iconst dX10_orders_66 ki_0 ?_
                  refine mw_istore (ls' := [(5, .int 0), (4, .int 0), (3, .int v377), (0, .ref 0), (1, .int x1), (2, .int x2)]) dX10_orders_67 (by decide) rfl ?_
                  refine mw_iconst dX10_orders_69 ki_m1 ?_
                  refine mw_istore (ls' := [(6, .int (-1)), (5, .int 0), (4, .int 0), (3, .int v377), (0, .ref 0), (1, .int x1), (2, .int x2)]) dX10_orders_70 (by decide) rfl ?_
                  refine mw_iload_n dX10_orders_72 rfl 5 rfl ?_
                  refine mw_if_ne (tgt := 80) dX10_orders_73 (by decide) (fun q382 => ?_) (fun q382 => ?_)
                  · skip
                    refine mw_iload_n dX10_orders_80 rfl 3 rfl ?_
                    refine mw_bipush dX10_orders_81 kb_10 ?_
                    refine mw_idiv dX10_orders_83 (bd_ne0 n_10 (by decide)) (fun v383 ev383 => ?_)
                    have b384 : mm_b (1000) (1000) v383 := bd_div ev383 b378 n_10 (by decide)
                    refine mw_istore (ls' := [(7, .int v383), (6, .int (-1)), (5, .int 0), (4, .int 0), (3, .int v377), (0, .ref 0), (1, .int x1), (2, .int x2)]) dX10_orders_84 (by decide) rfl ?_
                    have cut86 : ∀ (N86 : Nat) (S385 : mm_S) (y388 y390 y392 y394 y396 : Int32), ((10001 : Int) - y396.toInt).toNat < N86 → JM S385 → fr [4] [] true true S S385 → mm_b (10) (10000) y388 → mm_b (-2147483648) (2147483647) y390 → mm_b (-2147483648) (2147483647) y392 → mm_b (-1) (9999) y394 → mm_b (1) (10000) y396 → mw g RX10 cX10_orders 8 (some .int) false (mm_rm 5) (qi shM (fun S1 v => JM S1 ∧ fr [4] [] true true S S1 ∧ mm_b (-2147483648) (2147483647) v ∧ (True))) 0 0 (mm_enc shM S385) 86 [(0, .ref 0), (1, .int x1), (2, .int x2), (3, .int y388), (4, .int y390), (5, .int y392), (6, .int y394), (7, .int y396)] [] := by
                      intro N86
                      induction N86 with
                      | zero =>
                        intro S385 y388 y390 y392 y394 y396 hm398 hI386 hF387 b389 b391 b393 b395 b397
                        exact absurd hm398 (Nat.not_lt_zero _)
                      | succ N86 ih86 =>
                        intro S385 y388 y390 y392 y394 y396 hm398 hI386 hF387 b389 b391 b393 b395 b397
                        refine mw_iload dX10_orders_86 7 rfl ?_
                        refine mw_iload_n dX10_orders_88 rfl 3 rfl ?_
                        refine mw_icmp_ge (tgt := 150) dX10_orders_89 (by decide) (fun q399 => ?_) (fun q399 => ?_)
                        · skip
                          have b400 : mm_b (10) (10000) y396 := bd_le_r q399 b389 b397 (by decide)
                          refine mw_iload_n dX10_orders_150 rfl 2 rfl ?_
                          refine mw_bipush dX10_orders_151 kb_m2 ?_
                          refine mw_icmp_ne (tgt := 175) dX10_orders_153 (by decide) (fun q401 => ?_) (fun q401 => ?_)
                          · skip
                            refine mw_iload_n dX10_orders_175 rfl 2 rfl ?_
                            refine mw_iconst dX10_orders_176 ki_m1 ?_
                            refine mw_icmp_ne (tgt := 185) dX10_orders_177 (by decide) (fun q402 => ?_) (fun q402 => ?_)
                            · skip
                              refine mw_iload dX10_orders_185 6 rfl ?_
                              exact mw_iret rfl dX10_orders_187 rfl rfl ⟨S385, _, rfl, rfl, hI386, hF387, bd_w b395 (by decide), trivial⟩
                            · skip
                              have b403 : mm_b (-1) (-1) x2 := bd_eq_l q402 (bd_all x2) n_m1 (by decide)
                              refine mw_iload dX10_orders_180 4 rfl ?_
                              refine mw_goto (tgt := 187) dX10_orders_182 (by decide) ?_
                              exact mw_iret rfl dX10_orders_187 rfl rfl ⟨S385, _, rfl, rfl, hI386, hF387, b391, trivial⟩
                          · skip
                            have b404 : mm_b (-2) (-2) x2 := bd_eq_l q401 (bd_all x2) n_m2 (by decide)
                            refine mw_iload dX10_orders_156 5 rfl ?_
                            refine tc_Si (as := [.int y392]) (st := []) dX10_orders_158 rfl mX10_241 t_X10_bits rfl (Nat.le_of_ble_eq_true rfl) (by decide) (by decide) (c_X10_bits (g := g) S385 hI386 y392) (fun S405 v407 h406 => ?_)
                            obtain ⟨rfl, b408, x409⟩ := h406
                            refine mw_iconst dX10_orders_161 ki_1 ?_
                            refine mw_icmp_ne (tgt := 173) dX10_orders_162 (by decide) (fun q410 => ?_) (fun q410 => ?_)
                            · skip
                              refine mw_iconst dX10_orders_173 ki_m1 ?_
                              exact mw_iret rfl dX10_orders_174 rfl rfl ⟨S385, _, rfl, rfl, hI386, hF387, bd_w n_m1 (by decide), trivial⟩
                            · skip
                              have b411 : mm_b (1) (1) v407 := bd_eq_l q410 b408 n_1 (by decide)
                              refine mw_iload dX10_orders_165 5 rfl ?_
                              refine tc_Si (as := [.int y392]) (st := []) dX10_orders_167 rfl mX10_195 t_X10_leastOf rfl (Nat.le_of_ble_eq_true rfl) (by decide) (by decide) (c_X10_leastOf (g := g) S385 hI386 y392) (fun S412 v414 h413 => ?_)
                              obtain ⟨rfl, b415, x416⟩ := h413
                              refine mw_goto (tgt := 174) dX10_orders_170 (by decide) ?_
                              exact mw_iret rfl dX10_orders_174 rfl rfl ⟨S385, _, rfl, rfl, hI386, hF387, bd_w b415 (by decide), trivial⟩
                        · skip
                          have b417 : mm_b (1) (9999) y396 := bd_lt_l (bd_nle q399) b397 b389 (by decide)
                          refine mw_aload_n dX10_orders_92 rfl 0 rfl ?_
                          refine mw_iload dX10_orders_93 7 rfl ?_
                          refine mw_iload_n dX10_orders_95 rfl 1 rfl ?_
                          refine tc_Vi (as := [.int y396, .int x1]) (st := []) dX10_orders_96 rfl shM_0 rfl rfl mX10_277 t_X10_isSo rfl (Nat.le_of_ble_eq_true rfl) (by decide) (by decide) (c_X10_isSo (g := g) S385 hI386 y396 (bd_w b417 (by decide)) x1 (bd_w b109 (by decide))) (fun S418 v420 h419 => ?_)
                          obtain ⟨hI424, hf425, b421, x422⟩ := h419
                          have hF426 := fr_tr hF387 hf425 (by decide) (by decide) (by decide) (by decide)
                          refine mw_if_eq (tgt := 144) dX10_orders_99 (by decide) (fun q427 => ?_) (fun q427 => ?_)
                          · skip
                            have b428 : mm_b (0) (0) v420 := bd_eq_l q427 b421 n_0 (by decide)
                            refine mw_iinc (ls' := fun v => [(7, .int v), (0, .ref 0), (1, .int x1), (2, .int x2), (3, .int y388), (4, .int y390), (5, .int y392), (6, .int y394)]) dX10_orders_144 7 rfl (by decide) (fun _ => rfl) (fun v429 ev429 => ?_)
                            have b430 : mm_b (2) (10000) v429 := bd_inc ev429 b417 (by decide)
                            refine mw_goto (tgt := 86) dX10_orders_147 (by decide) ?_
                            refine mw_ls [1, 2, 3, 4, 5, 6, 7, 0] rfl ?_
                            exact ih86 S418 y388 y390 y392 y394 v429 (ms_inc ev429 b417 (by decide) hm398) hI424 hF426 b389 b391 b393 b395 (bd_w b430 (by decide))
                          · skip
                            have b431 : mm_b (1) (1) v420 := bd_ne_l q427 b421 n_0 (by decide)
                            refine mw_iload dX10_orders_102 4 rfl ?_
                            refine mw_iload_n dX10_orders_104 rfl 2 rfl ?_
                            refine mw_icmp_ne (tgt := 113) dX10_orders_105 (by decide) (fun q432 => ?_) (fun q432 => ?_)
                            · skip
                              refine mw_iload dX10_orders_113 6 rfl ?_
                              refine mw_istore (ls' := [(6, .int y394), (0, .ref 0), (1, .int x1), (2, .int x2), (3, .int y388), (4, .int y390), (5, .int y392), (7, .int y396)]) dX10_orders_115 (by decide) rfl ?_
                              refine mw_iload dX10_orders_117 6 rfl ?_
                              refine mw_iload_n dX10_orders_119 rfl 2 rfl ?_
                              refine mw_if_ne (tgt := 127) dX10_orders_120 (by decide) (fun q433 => ?_) (fun q433 => ?_)
                              · skip
                                refine mw_iconst dX10_orders_127 ki_1 ?_
                                refine mw_iload dX10_orders_128 7 rfl ?_
                                refine mw_iload_n dX10_orders_130 rfl 4 rfl ?_
                                refine mw_bipush dX10_orders_131 kb_10 ?_
                                refine mw_idiv dX10_orders_133 (bd_ne0 n_10 (by decide)) (fun v434 ev434 => ?_)
                                have b435 : mm_b (1) (1000) v434 := bd_div ev434 b389 n_10 (by decide)
                                refine mw_idiv dX10_orders_134 (bd_ne0 b435 (by decide)) (fun v436 ev436 => ?_)
                                have b437 : mm_b (0) (9999) v436 := bd_div ev436 b417 b435 (by decide)
                                refine mw_iconst dX10_orders_135 ki_1 ?_
                                refine mw_isub dX10_orders_136 (fun v438 ev438 => ?_)
                                have b439 : mm_b (-1) (9998) v438 := bd_sub ev438 b437 n_1 (by decide)
                                refine mw_ishl dX10_orders_137 (fun v440 ev440 => ?_)
                                refine mw_ior dX10_orders_138 (fun v441 ev441 => ?_)
                                refine mw_istore (ls' := [(5, .int v441), (6, .int y394), (0, .ref 0), (1, .int x1), (2, .int x2), (3, .int y388), (4, .int y390), (7, .int y396)]) dX10_orders_139 (by decide) rfl ?_
                                refine mw_iinc (ls' := fun v => [(4, .int v), (5, .int v441), (6, .int y394), (0, .ref 0), (1, .int x1), (2, .int x2), (3, .int y388), (7, .int y396)]) dX10_orders_141 6 rfl (by decide) (fun _ => rfl) (fun v442 ev442 => ?_)
                                refine mw_iinc (ls' := fun v => [(7, .int v), (4, .int v442), (5, .int v441), (6, .int y394), (0, .ref 0), (1, .int x1), (2, .int x2), (3, .int y388)]) dX10_orders_144 7 rfl (by decide) (fun _ => rfl) (fun v443 ev443 => ?_)
                                have b444 : mm_b (2) (10000) v443 := bd_inc ev443 b417 (by decide)
                                refine mw_goto (tgt := 86) dX10_orders_147 (by decide) ?_
                                refine mw_ls [4, 5, 6, 7, 1, 2, 3, 0] rfl ?_
                                exact ih86 S418 y388 v442 v441 y394 v443 (ms_inc ev443 b417 (by decide) hm398) hI424 hF426 b389 (bd_all v442) (bd_all v441) b395 (bd_w b444 (by decide))
                              · skip
                                exact bd_feq q433 b109 n_0 (by decide)
                            · skip
                              refine mw_iload dX10_orders_108 7 rfl ?_
                              refine mw_goto (tgt := 115) dX10_orders_110 (by decide) ?_
                              refine mw_istore (ls' := [(6, .int y396), (0, .ref 0), (1, .int x1), (2, .int x2), (3, .int y388), (4, .int y390), (5, .int y392), (7, .int y396)]) dX10_orders_115 (by decide) rfl ?_
                              refine mw_iload dX10_orders_117 6 rfl ?_
                              refine mw_iload_n dX10_orders_119 rfl 2 rfl ?_
                              refine mw_if_ne (tgt := 127) dX10_orders_120 (by decide) (fun q445 => ?_) (fun q445 => ?_)
                              · skip
                                refine mw_iconst dX10_orders_127 ki_1 ?_
                                refine mw_iload dX10_orders_128 7 rfl ?_
                                refine mw_iload_n dX10_orders_130 rfl 4 rfl ?_
                                refine mw_bipush dX10_orders_131 kb_10 ?_
                                refine mw_idiv dX10_orders_133 (bd_ne0 n_10 (by decide)) (fun v446 ev446 => ?_)
                                have b447 : mm_b (1) (1000) v446 := bd_div ev446 b389 n_10 (by decide)
                                refine mw_idiv dX10_orders_134 (bd_ne0 b447 (by decide)) (fun v448 ev448 => ?_)
                                have b449 : mm_b (0) (9999) v448 := bd_div ev448 b417 b447 (by decide)
                                refine mw_iconst dX10_orders_135 ki_1 ?_
                                refine mw_isub dX10_orders_136 (fun v450 ev450 => ?_)
                                have b451 : mm_b (-1) (9998) v450 := bd_sub ev450 b449 n_1 (by decide)
                                refine mw_ishl dX10_orders_137 (fun v452 ev452 => ?_)
                                refine mw_ior dX10_orders_138 (fun v453 ev453 => ?_)
                                refine mw_istore (ls' := [(5, .int v453), (6, .int y396), (0, .ref 0), (1, .int x1), (2, .int x2), (3, .int y388), (4, .int y390), (7, .int y396)]) dX10_orders_139 (by decide) rfl ?_
                                refine mw_iinc (ls' := fun v => [(4, .int v), (5, .int v453), (6, .int y396), (0, .ref 0), (1, .int x1), (2, .int x2), (3, .int y388), (7, .int y396)]) dX10_orders_141 6 rfl (by decide) (fun _ => rfl) (fun v454 ev454 => ?_)
                                refine mw_iinc (ls' := fun v => [(7, .int v), (4, .int v454), (5, .int v453), (6, .int y396), (0, .ref 0), (1, .int x1), (2, .int x2), (3, .int y388)]) dX10_orders_144 7 rfl (by decide) (fun _ => rfl) (fun v455 ev455 => ?_)
                                have b456 : mm_b (2) (10000) v455 := bd_inc ev455 b417 (by decide)
                                refine mw_goto (tgt := 86) dX10_orders_147 (by decide) ?_
                                refine mw_ls [4, 5, 6, 7, 1, 2, 3, 0] rfl ?_
                                exact ih86 S418 y388 v454 v453 y396 v455 (ms_inc ev455 b417 (by decide) hm398) hI424 hF426 b389 (bd_all v454) (bd_all v453) (bd_w b417 (by decide)) (bd_w b456 (by decide))
                              · skip
                                exact bd_feq q445 b109 n_0 (by decide)
                    refine mw_ls [5, 6, 7, 4, 3, 2, 1, 0] rfl ?_
                    exact cut86 _ S v377 (0 : Int32) (0 : Int32) (-1 : Int32) v383 (Nat.lt_succ_self _) hI hF (bd_w b378 (by decide)) (bd_w n_0 (by decide)) (bd_w n_0 (by decide)) (bd_w n_m1 (by decide)) (bd_w b384 (by decide))
                  · skip
                    exact bd_feq q382 b109 n_0 (by decide)
                · skip
                  exact bd_flt (bd_nle q381) n_0 b380 (by decide)
      · skip
        have b457 : mm_b (1) (127) v121 := bd_ne_l q123 b122 n_0 (by decide)
        refine mw_ldc dX10_orders_36 kX10_187 ?_
        exact mw_iret rfl dX10_orders_38 rfl rfl ⟨S, _, rfl, rfl, hI, hF, bd_w n_m1000000003 (by decide), trivial⟩
    · skip
      have b458 : mm_b (5) (7) v112 := bd_lt_r (bd_nle q116) n_4 b115 (by decide)
      refine mw_ldc dX10_orders_19 kX10_84 ?_
      exact mw_iret rfl dX10_orders_21 rfl rfl ⟨S, _, rfl, rfl, hI, hF, bd_w n_m1000000002 (by decide), trivial⟩
  · skip
    have b459 : mm_b (0) (0) v103 := bd_eq_l q106 b104 n_0 (by decide)
    refine mw_ldc dX10_orders_8 kX10_182 ?_
    exact mw_iret rfl dX10_orders_10 rfl rfl ⟨S, _, rfl, rfl, hI, hF, bd_w n_m1000000001 (by decide), trivial⟩
set_option maxRecDepth 100000 in
set_option maxHeartbeats 4000000 in
theorem c_X10_orders_d {g : mm_G} (S : mm_S) (hI : JM S) (x1 : Int32) (h1 : mm_b (128) (2147483647) x1) (x2 : Int32) : mc g yX10_orders cX10_orders 8 (some .int) (mm_rm 5) [.ref 0, .int x1, .int x2] (mm_enc shM S) (qi shM (fun S1 v => JM S1 ∧ fr [] [] true true S S1 ∧ mm_b (-1000000001) (-1000000001) v ∧ (True))) := by
  refine mc_of2 (own := RX10) (ini := false) (ls := [(0, .ref 0), (1, .int x1), (2, .int x2)]) (by decide) (Nat.le_of_ble_eq_true rfl) rfl (by decide) rfl ?_
  have hF : fr [] [] true true S S := fr_rf
  refine mw_aload_n dX10_orders_0 rfl 0 rfl ?_
  refine mw_iload_n dX10_orders_1 rfl 1 rfl ?_
  refine tc_Vi (as := [.int x1]) (st := []) dX10_orders_2 rfl shM_0 rfl rfl mX10_264 t_X10_isSet rfl (Nat.le_of_ble_eq_true rfl) (by decide) (by decide) (c_X10_isSet (g := g) S hI x1) (fun S101 v103 h102 => ?_)
  obtain ⟨rfl, b104, x105⟩ := h102
  refine mw_if_ne (tgt := 11) dX10_orders_5 (by decide) (fun q106 => ?_) (fun q106 => ?_)
  · skip
    have b107 : mm_b (1) (1) v103 := bd_ne_l q106 b104 n_0 (by decide)
    have b108 := Or.resolve_left x105 q106
    exfalso
    have hz1 := h1
    have hz2 := b108
    omega
  · skip
    have b109 : mm_b (0) (0) v103 := bd_eq_l q106 b104 n_0 (by decide)
    refine mw_ldc dX10_orders_8 kX10_182 ?_
    exact mw_iret rfl dX10_orders_10 rfl rfl ⟨S, _, rfl, rfl, hI, hF, n_m1000000001, trivial⟩
