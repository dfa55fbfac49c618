set_option maxRecDepth 100000 in
set_option maxHeartbeats 4000000 in
theorem c_X10_isSo {g : mm_G} (S : mm_S) (hI : JM S) (x1 : Int32) (h1 : mm_b (0) (9999) x1) (x2 : Int32) (h2 : mm_b (0) (127) x2) : mc g yX10_isSo cX10_isSo 6 (some .boolean) (mm_rm 4) [.ref 0, .int x1, .int x2] (mm_enc shM S) (qi shM (fun S1 v => JM S1 ∧ fr [4] [] true true S S1 ∧ mm_b (0) (1) v ∧ (True))) := by
  refine mc_of2 (own := RX10) (ini := false) (ls := [(0, .ref 0), (1, .int x1), (2, .int x2)]) (by decide) (Nat.le_of_ble_eq_true rfl) rfl (by decide) rfl ?_
  have hF : fr [4] [] true true S S := fr_rf
  refine mw_iconst dX10_isSo_0 ki_0 ?_
  refine mw_istore_n (ls' := [(3, .int 0), (0, .ref 0), (1, .int x1), (2, .int x2)]) dX10_isSo_1 rfl (by decide) rfl ?_
  refine mw_iload_n dX10_isSo_2 rfl 2 rfl ?_
  refine mw_istore (ls' := [(4, .int x1), (3, .int 0), (0, .ref 0), (1, .int x1), (2, .int x2)]) dX10_isSo_3 (by decide) rfl ?_
  have cut5 : ∀ (N5 : Nat) (S101 : mm_S) (y104 y106 y108 y110 : Int32), y110.toInt.toNat < N5 → JM S101 → fr [4] [] true true S S101 → mm_b (0) (9999) y104 → mm_b (0) (127) y106 → mm_b (0) (127) y108 → mm_b (0) (9999) y110 → dgA y104 y110 → mw g RX10 cX10_isSo 6 (some .boolean) false (mm_rm 4) (qi shM (fun S1 v => JM S1 ∧ fr [4] [] true true S S1 ∧ mm_b (0) (1) v ∧ (True))) 0 0 (mm_enc shM S101) 5 [(0, .ref 0), (1, .int y104), (2, .int y106), (3, .int y108), (4, .int y110)] [] := by
    intro N5
    induction N5 with
    | zero =>
      intro S101 y104 y106 y108 y110 hm113 hI102 hF103 b105 b107 b109 b111 hx112
      exact absurd hm113 (Nat.not_lt_zero _)
    | succ N5 ih5 =>
      intro S101 y104 y106 y108 y110 hm113 hI102 hF103 b105 b107 b109 b111 hx112
      refine mw_iload dX10_isSo_5 4 rfl ?_
      refine mw_if_le (tgt := 61) dX10_isSo_7 (by decide) (fun q114 => ?_) (fun q114 => ?_)
      · skip
        have b115 : mm_b (0) (0) y110 := bd_le_l q114 b111 n_0 (by decide)
        refine mw_iload_n dX10_isSo_61 rfl 3 rfl ?_
        refine mw_iload_n dX10_isSo_62 rfl 2 rfl ?_
        refine mw_icmp_eq (tgt := 68) dX10_isSo_63 (by decide) (fun q116 => ?_) (fun q116 => ?_)
        · skip
          refine mw_aload_n dX10_isSo_68 rfl 0 rfl ?_
          refine tc_Vv (as := []) (st := []) dX10_isSo_69 rfl shM_0 rfl rfl mX10_231 t_X10_layAside rfl (Nat.le_of_ble_eq_true rfl) (by decide) (by decide) (c_X10_layAside (g := g) S101 hI102) (fun S117 h118 => ?_)
          obtain ⟨hI120, hf121, x119⟩ := h118
          have hF122 := fr_tr hF103 hf121 (by decide) (by decide) (by decide) (by decide)
          refine mw_aload_n dX10_isSo_72 rfl 0 rfl ?_
          refine mw_iload_n dX10_isSo_73 rfl 1 rfl ?_
          refine tc_Vv (as := [.int y104]) (st := []) dX10_isSo_74 rfl shM_0 rfl rfl mX10_234 t_X10_allDie rfl (Nat.le_of_ble_eq_true rfl) (by decide) (by decide) (c_X10_allDie (g := g) S117 hI120 y104 (dgA_e hx112 b115 (by decide))) (fun S123 h124 => ?_)
          obtain ⟨hI126, hf127, x125⟩ := h124
          have hF128 := fr_tr hF122 hf127 (by decide) (by decide) (by decide) (by decide)
          refine mw_iconst dX10_isSo_77 ki_1 ?_
          refine mw_istore (ls' := [(4, .int 1), (0, .ref 0), (1, .int y104), (2, .int y106), (3, .int y108)]) dX10_isSo_78 (by decide) rfl ?_
          refine mw_iconst dX10_isSo_80 ki_0 ?_
          refine mw_istore (ls' := [(5, .int 0), (4, .int 1), (0, .ref 0), (1, .int y104), (2, .int y106), (3, .int y108)]) dX10_isSo_81 (by decide) rfl ?_
          have cut83 : ∀ (N83 : Nat) (S129 : mm_S) (y132 y134 : Int32), ((7 : Int) - y134.toInt).toNat < N83 → JM S129 → fr [4] [] true true S S129 → mm_b (0) (1) y132 → mm_b (0) (6) y134 → mw g RX10 cX10_isSo 6 (some .boolean) false (mm_rm 4) (qi shM (fun S1 v => JM S1 ∧ fr [4] [] true true S S1 ∧ mm_b (0) (1) v ∧ (True))) 0 0 (mm_enc shM S129) 83 [(0, .ref 0), (4, .int y132), (5, .int y134)] [] := by
            intro N83
            induction N83 with
            | zero =>
              intro S129 y132 y134 hm136 hI130 hF131 b133 b135
              exact absurd hm136 (Nat.not_lt_zero _)
            | succ N83 ih83 =>
              intro S129 y132 y134 hm136 hI130 hF131 b133 b135
              refine mw_iload dX10_isSo_83 2 rfl ?_
              refine mw_aload_n dX10_isSo_85 rfl 0 rfl ?_
              refine tw_geti (j := 15) dX10_isSo_86 shM_0 rfl rfl (by decide) fX10_76 (fun v137 ev137 => ?_)
              have b138 : mm_b (0) (6) v137 := JIM_fld hI130 ev137 tbM_3 (by decide)
              refine mw_icmp_ge (tgt := 140) dX10_isSo_89 (by decide) (fun q139 => ?_) (fun q139 => ?_)
              · skip
                refine mw_iload dX10_isSo_140 1 rfl ?_
                exact mw_zret rfl (bd_nar b133 (by decide)) dX10_isSo_142 rfl rfl ⟨S129, _, rfl, rfl, hI130, hF131, b133, trivial⟩
              · skip
                have b140 : mm_b (0) (5) y134 := bd_lt_l (bd_nle q139) b135 b138 (by decide)
                have b141 : mm_b (1) (6) v137 := bd_lt_r (bd_nle q139) b135 b138 (by decide)
                refine mw_iload dX10_isSo_92 1 rfl ?_
                refine mw_if_eq (tgt := 131) dX10_isSo_94 (by decide) (fun q142 => ?_) (fun q142 => ?_)
                · skip
                  have b143 : mm_b (0) (0) y132 := bd_eq_l q142 b133 n_0 (by decide)
                  refine mw_iconst dX10_isSo_131 ki_0 ?_
                  refine mw_istore (ls' := [(4, .int 0), (0, .ref 0), (5, .int y134)]) dX10_isSo_132 (by decide) rfl ?_
                  refine mw_iinc (ls' := fun v => [(5, .int v), (4, .int 0), (0, .ref 0)]) dX10_isSo_134 2 rfl (by decide) (fun _ => rfl) (fun v144 ev144 => ?_)
                  have b145 : mm_b (1) (6) v144 := bd_inc ev144 b140 (by decide)
                  refine mw_goto (tgt := 83) dX10_isSo_137 (by decide) ?_
                  refine mw_ls [2, 1, 0] rfl ?_
                  exact ih83 S129 (0 : Int32) v144 (ms_inc ev144 b140 (by decide) hm136) hI130 hF131 (bd_w n_0 (by decide)) (bd_w b145 (by decide))
                · skip
                  have b146 : mm_b (1) (1) y132 := bd_ne_l q142 b133 n_0 (by decide)
                  refine mw_aload_n dX10_isSo_97 rfl 0 rfl ?_
                  refine tw_getr (j := 3) dX10_isSo_98 shM_0 rfl rfl (by decide) fX10_19 ?_
                  refine mw_iconst dX10_isSo_101 ki_0 ?_
                  refine mw_aload_n dX10_isSo_102 rfl 0 rfl ?_
                  refine tw_getr (j := 14) dX10_isSo_103 shM_0 rfl rfl (by decide) fX10_42 ?_
                  refine mw_iconst dX10_isSo_106 ki_2 ?_
                  refine mw_iload dX10_isSo_107 2 rfl ?_
                  refine mw_imul dX10_isSo_109 (fun v147 ev147 => ?_)
                  have b148 : mm_b (0) (10) v147 := bd_mul ev147 n_2 b140 (by decide)
                  refine tw_iald dX10_isSo_110 shM_10 (bd_in b148 (by decide)) (fun v149 ev149 => ?_)
                  have b150 : mm_b (0) (9) v149 := JIM_elt hI130 ev149 b148 tbM_10 (by decide)
                  refine mw_iadd dX10_isSo_111 (fun v151 ev151 => ?_)
                  have b152 : mm_b (0) (9) v151 := bd_add ev151 n_0 b150 (by decide)
                  refine tw_iald dX10_isSo_112 shM_4 (bd_in b152 (by decide)) (fun v153 ev153 => ?_)
                  refine mw_aload_n dX10_isSo_113 rfl 0 rfl ?_
                  refine tw_getr (j := 14) dX10_isSo_114 shM_0 rfl rfl (by decide) fX10_42 ?_
                  refine mw_iconst dX10_isSo_117 ki_2 ?_
                  refine mw_iload dX10_isSo_118 2 rfl ?_
                  refine mw_imul dX10_isSo_120 (fun v154 ev154 => ?_)
                  have cv154 : v147 = v154 := ev147.trans ev154.symm
                  subst cv154
                  refine mw_iconst dX10_isSo_121 ki_1 ?_
                  refine mw_iadd dX10_isSo_122 (fun v155 ev155 => ?_)
                  have b156 : mm_b (1) (11) v155 := bd_add ev155 b148 n_1 (by decide)
                  refine tw_iald dX10_isSo_123 shM_10 (bd_in b156 (by decide)) (fun v157 ev157 => ?_)
                  have b158 : mm_b (0) (9) v157 := JIM_elt hI130 ev157 b156 tbM_10 (by decide)
                  refine mw_icmp_ne (tgt := 131) dX10_isSo_124 (by decide) (fun q159 => ?_) (fun q159 => ?_)
                  · skip
                    refine mw_iconst dX10_isSo_131 ki_0 ?_
                    refine mw_istore (ls' := [(4, .int 0), (0, .ref 0), (5, .int y134)]) dX10_isSo_132 (by decide) rfl ?_
                    refine mw_iinc (ls' := fun v => [(5, .int v), (4, .int 0), (0, .ref 0)]) dX10_isSo_134 2 rfl (by decide) (fun _ => rfl) (fun v160 ev160 => ?_)
                    have b161 : mm_b (1) (6) v160 := bd_inc ev160 b140 (by decide)
                    refine mw_goto (tgt := 83) dX10_isSo_137 (by decide) ?_
                    refine mw_ls [2, 1, 0] rfl ?_
                    exact ih83 S129 (0 : Int32) v160 (ms_inc ev160 b140 (by decide) hm136) hI130 hF131 (bd_w n_0 (by decide)) (bd_w b161 (by decide))
                  · skip
                    have b162 : mm_b (0) (9) v153 := bd_eq_l q159 (bd_all v153) b158 (by decide)
                    refine mw_iconst dX10_isSo_127 ki_1 ?_
                    refine mw_goto (tgt := 132) dX10_isSo_128 (by decide) ?_
                    refine mw_istore (ls' := [(4, .int 1), (0, .ref 0), (5, .int y134)]) dX10_isSo_132 (by decide) rfl ?_
                    refine mw_iinc (ls' := fun v => [(5, .int v), (4, .int 1), (0, .ref 0)]) dX10_isSo_134 2 rfl (by decide) (fun _ => rfl) (fun v163 ev163 => ?_)
                    have b164 : mm_b (1) (6) v163 := bd_inc ev163 b140 (by decide)
                    refine mw_goto (tgt := 83) dX10_isSo_137 (by decide) ?_
                    refine mw_ls [2, 1, 0] rfl ?_
                    exact ih83 S129 (1 : Int32) v163 (ms_inc ev163 b140 (by decide) hm136) hI130 hF131 (bd_w n_1 (by decide)) (bd_w b164 (by decide))
          refine mw_ls [2, 1, 0] rfl ?_
          exact cut83 _ S123 (1 : Int32) (0 : Int32) (Nat.lt_succ_self _) hI126 hF128 (bd_w n_1 (by decide)) (bd_w n_0 (by decide))
        · skip
          refine mw_iconst dX10_isSo_66 ki_0 ?_
          exact mw_zret rfl (bd_nar n_0 (by decide)) dX10_isSo_67 rfl rfl ⟨S101, _, rfl, rfl, hI102, hF103, bd_w n_0 (by decide), trivial⟩
      · skip
        have b165 : mm_b (1) (9999) y110 := bd_lt_r (bd_nle q114) n_0 b111 (by decide)
        refine mw_iload dX10_isSo_10 4 rfl ?_
        refine mw_bipush dX10_isSo_12 kb_10 ?_
        refine mw_irem dX10_isSo_14 (bd_ne0 n_10 (by decide)) (fun v166 ev166 => ?_)
        have b167 : mm_b (0) (9) v166 := bd_rem ev166 b165 n_10 (by decide)
        refine mw_iconst dX10_isSo_15 ki_1 ?_
        refine mw_isub dX10_isSo_16 (fun v168 ev168 => ?_)
        have b169 : mm_b (-1) (8) v168 := bd_sub ev168 b167 n_1 (by decide)
        refine mw_istore (ls' := [(5, .int v168), (0, .ref 0), (1, .int y104), (2, .int y106), (3, .int y108), (4, .int y110)]) dX10_isSo_17 (by decide) rfl ?_
        refine mw_iload dX10_isSo_19 0 rfl ?_
        refine mw_if_lt (tgt := 42) dX10_isSo_21 (by decide) (fun q170 => ?_) (fun q170 => ?_)
        · skip
          have b171 : mm_b (-1) (-1) v168 := bd_lt_l q170 b169 n_0 (by decide)
          refine mw_iconst dX10_isSo_42 ki_0 ?_
          exact mw_zret rfl (bd_nar n_0 (by decide)) dX10_isSo_43 rfl rfl ⟨S101, _, rfl, rfl, hI102, hF103, bd_w n_0 (by decide), trivial⟩
        · skip
          have b172 : mm_b (0) (8) v168 := bd_le_r (bd_nlt q170) n_0 b169 (by decide)
          refine mw_iload_n dX10_isSo_24 rfl 3 rfl ?_
          refine mw_iload dX10_isSo_25 0 rfl ?_
          refine tc_Si (as := [.int y106, .int v168]) (st := []) dX10_isSo_27 rfl mX10_134 t_X10_isIn rfl (Nat.le_of_ble_eq_true rfl) (by decide) (by decide) (c_X10_isIn (g := g) S101 hI102 y106 v168) (fun S173 v175 h174 => ?_)
          obtain ⟨rfl, b176, x177⟩ := h174
          have x178 := isIn_b x177 b107 b172 (by decide)
          refine mw_if_eq (tgt := 42) dX10_isSo_30 (by decide) (fun q179 => ?_) (fun q179 => ?_)
          · skip
            have b180 : mm_b (0) (0) v175 := bd_eq_l q179 b176 n_0 (by decide)
            refine mw_iconst dX10_isSo_42 ki_0 ?_
            exact mw_zret rfl (bd_nar n_0 (by decide)) dX10_isSo_43 rfl rfl ⟨S101, _, rfl, rfl, hI102, hF103, bd_w n_0 (by decide), trivial⟩
          · skip
            have b181 : mm_b (1) (1) v175 := bd_ne_l q179 b176 n_0 (by decide)
            have b182 := Or.resolve_left x178 q179
            refine mw_iload_n dX10_isSo_33 rfl 4 rfl ?_
            refine mw_iload dX10_isSo_34 0 rfl ?_
            refine tc_Si (as := [.int y108, .int v168]) (st := []) dX10_isSo_36 rfl mX10_134 t_X10_isIn rfl (Nat.le_of_ble_eq_true rfl) (by decide) (by decide) (c_X10_isIn (g := g) S101 hI102 y108 v168) (fun S183 v185 h184 => ?_)
            obtain ⟨rfl, b186, x187⟩ := h184
            refine mw_if_eq (tgt := 44) dX10_isSo_39 (by decide) (fun q188 => ?_) (fun q188 => ?_)
            · skip
              have b189 : mm_b (0) (0) v185 := bd_eq_l q188 b186 n_0 (by decide)
              refine mw_iload_n dX10_isSo_44 rfl 4 rfl ?_
              refine mw_iconst dX10_isSo_45 ki_1 ?_
              refine mw_iload dX10_isSo_46 0 rfl ?_
              refine mw_ishl dX10_isSo_48 (fun v190 ev190 => ?_)
              have b191 : mm_b (1) (64) v190 := bd_shl 6 ev190 b182 (by decide)
              refine mw_ior dX10_isSo_49 (fun v192 ev192 => ?_)
              have b193 : mm_b (0) (127) v192 := bd_or 7 ev192 b109 b191 (by decide)
              refine mw_istore_n (ls' := [(3, .int v192), (5, .int v168), (0, .ref 0), (1, .int y104), (2, .int y106), (4, .int y110)]) dX10_isSo_50 rfl (by decide) rfl ?_
              refine mw_iload dX10_isSo_51 5 rfl ?_
              refine mw_bipush dX10_isSo_53 kb_10 ?_
              refine mw_idiv dX10_isSo_55 (bd_ne0 n_10 (by decide)) (fun v194 ev194 => ?_)
              have b195 : mm_b (0) (999) v194 := bd_div ev194 b165 n_10 (by decide)
              refine mw_istore (ls' := [(4, .int v194), (3, .int v192), (5, .int v168), (0, .ref 0), (1, .int y104), (2, .int y106)]) dX10_isSo_56 (by decide) rfl ?_
              refine mw_goto (tgt := 5) dX10_isSo_58 (by decide) ?_
              refine mw_ls [3, 4, 5, 1, 0] rfl ?_
              exact ih5 S101 y104 y106 v192 v194 (ms_div ev194 b165 n_10 (by decide) hm113) hI102 hF103 b105 b107 b193 (bd_w b195 (by decide)) (dgA_s hx112 b165 (by decide) ev166 n_10 ev168 n_1 (bd_w b182 (by decide)) ev194)
            · skip
              have b196 : mm_b (1) (1) v185 := bd_ne_l q188 b186 n_0 (by decide)
              refine mw_iconst dX10_isSo_42 ki_0 ?_
              exact mw_zret rfl (bd_nar n_0 (by decide)) dX10_isSo_43 rfl rfl ⟨S101, _, rfl, rfl, hI102, hF103, bd_w n_0 (by decide), trivial⟩
  refine mw_ls [2, 3, 4, 1, 0] rfl ?_
  exact cut5 _ S x1 x2 (0 : Int32) x1 (Nat.lt_succ_self _) hI hF h1 h2 (bd_w n_0 (by decide)) h1 (dgA_0 h1 (by decide))
