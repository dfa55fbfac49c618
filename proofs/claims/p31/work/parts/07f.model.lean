set_option maxRecDepth 100000 in
set_option maxHeartbeats 4000000 in
theorem c_X10_isOrder {g : mm_G} (S : mm_S) (hI : JM S) (x1 : Int32) : mc g yX10_isOrder cX10_isOrder 6 (some .boolean) (mm_rm 2) [.ref 0, .int x1] (mm_enc shM S) (qi shM (fun S1 v => S = S1 ∧ mm_b (0) (1) v ∧ (v = 0 ∨ dgZ x1))) := by
  refine mc_of2 (own := RX10) (ini := false) (ls := [(0, .ref 0), (1, .int x1)]) (by decide) (Nat.le_of_ble_eq_true rfl) rfl (by decide) rfl ?_
  refine mw_iconst dX10_isOrder_0 ki_0 ?_
  refine mw_istore_n (ls' := [(2, .int 0), (0, .ref 0), (1, .int x1)]) dX10_isOrder_1 rfl (by decide) rfl ?_
  refine mw_iload_n dX10_isOrder_2 rfl 2 rfl ?_
  refine mw_if_le (tgt := 10) dX10_isOrder_3 (by decide) (fun q101 => ?_) (fun q101 => ?_)
  · skip
    have b102 : mm_b (-2147483648) (0) x1 := bd_le_l q101 (bd_all x1) n_0 (by decide)
    refine mw_iconst dX10_isOrder_10 ki_0 ?_
    refine mw_istore_n (ls' := [(3, .int 0), (2, .int 0), (0, .ref 0), (1, .int x1)]) dX10_isOrder_11 rfl (by decide) rfl ?_
    refine mw_iload_n dX10_isOrder_12 rfl 3 rfl ?_
    refine mw_istore (ls' := [(4, .int x1), (3, .int 0), (2, .int 0), (0, .ref 0), (1, .int x1)]) dX10_isOrder_13 (by decide) rfl ?_
    have cut15 : ∀ (N15 : Nat) (y103 y105 y107 : Int32), y107.toInt.toNat < N15 → mm_b (0) (127) y103 → mm_b (0) (1) y105 → mm_b (-2147483648) (2147483647) y107 → y105 = 0 ∨ dgA x1 y107 → mw g RX10 cX10_isOrder 6 (some .boolean) false (mm_rm 2) (qi shM (fun S1 v => S = S1 ∧ mm_b (0) (1) v ∧ (v = 0 ∨ dgZ x1))) 0 0 (mm_enc shM S) 15 [(0, .ref 0), (2, .int y103), (3, .int y105), (4, .int y107)] [] := by
      intro N15
      induction N15 with
      | zero =>
        intro y103 y105 y107 hm110 b104 b106 b108 hx109
        exact absurd hm110 (Nat.not_lt_zero _)
      | succ N15 ih15 =>
        intro y103 y105 y107 hm110 b104 b106 b108 hx109
        refine mw_iload dX10_isOrder_15 3 rfl ?_
        refine mw_if_le (tgt := 91) dX10_isOrder_17 (by decide) (fun q111 => ?_) (fun q111 => ?_)
        · skip
          have b112 : mm_b (-2147483648) (0) y107 := bd_le_l q111 b108 n_0 (by decide)
          refine mw_iload_n dX10_isOrder_91 rfl 2 rfl ?_
          exact mw_zret rfl (bd_nar b106 (by decide)) dX10_isOrder_92 rfl rfl ⟨S, _, rfl, rfl, rfl, b106, Or.imp_right (fun h => dgA_e h b112 (by decide)) hx109⟩
        · skip
          have b113 : mm_b (1) (2147483647) y107 := bd_lt_r (bd_nle q111) n_0 b108 (by decide)
          refine mw_iload_n dX10_isOrder_20 rfl 2 rfl ?_
          refine mw_if_eq (tgt := 91) dX10_isOrder_21 (by decide) (fun q114 => ?_) (fun q114 => ?_)
          · skip
            have b115 : mm_b (0) (0) y105 := bd_eq_l q114 b106 n_0 (by decide)
            refine mw_iload_n dX10_isOrder_91 rfl 2 rfl ?_
            exact mw_zret rfl (bd_nar b115 (by decide)) dX10_isOrder_92 rfl rfl ⟨S, _, rfl, rfl, rfl, bd_w b115 (by decide), Or.inl (bd_zero b115)⟩
          · skip
            have b116 : mm_b (1) (1) y105 := bd_ne_l q114 b106 n_0 (by decide)
            refine mw_iload dX10_isOrder_24 3 rfl ?_
            refine mw_bipush dX10_isOrder_26 kb_10 ?_
            refine mw_irem dX10_isOrder_28 (bd_ne0 n_10 (by decide)) (fun v117 ev117 => ?_)
            have b118 : mm_b (0) (9) v117 := bd_rem ev117 b113 n_10 (by decide)
            refine mw_iconst dX10_isOrder_29 ki_1 ?_
            refine mw_isub dX10_isOrder_30 (fun v119 ev119 => ?_)
            have b120 : mm_b (-1) (8) v119 := bd_sub ev119 b118 n_1 (by decide)
            refine mw_istore (ls' := [(5, .int v119), (0, .ref 0), (2, .int y103), (3, .int y105), (4, .int y107)]) dX10_isOrder_31 (by decide) rfl ?_
            refine mw_aload_n dX10_isOrder_33 rfl 1 rfl ?_
            refine mw_iload dX10_isOrder_34 0 rfl ?_
            refine tc_Vi (as := [.int v119]) (st := []) dX10_isOrder_36 rfl shM_0 rfl rfl mX10_179 t_X10_isPerson rfl (Nat.le_of_ble_eq_true rfl) (by decide) (by decide) (c_X10_isPerson (g := g) S hI v119) (fun S121 v123 h122 => ?_)
            obtain ⟨rfl, b124, x125⟩ := h122
            refine mw_if_eq (tgt := 64) dX10_isOrder_39 (by decide) (fun q126 => ?_) (fun q126 => ?_)
            · skip
              have b127 : mm_b (0) (0) v123 := bd_eq_l q126 b124 n_0 (by decide)
              refine mw_iconst dX10_isOrder_64 ki_0 ?_
              refine mw_istore_n (ls' := [(3, .int 0), (5, .int v119), (0, .ref 0), (2, .int y103), (4, .int y107)]) dX10_isOrder_65 rfl (by decide) rfl ?_
              refine mw_iload_n dX10_isOrder_66 rfl 3 rfl ?_
              refine mw_iload_n dX10_isOrder_67 rfl 0 rfl ?_
              refine mw_if_eq (tgt := 78) dX10_isOrder_68 (by decide) (fun q128 => ?_) (fun q128 => ?_)
              · skip
                refine mw_iconst dX10_isOrder_78 ki_0 ?_
                refine mw_ior dX10_isOrder_79 (fun v129 ev129 => ?_)
                have b130 : mm_b (0) (127) v129 := bd_or 7 ev129 b104 n_0 (by decide)
                refine mw_istore_n (ls' := [(2, .int v129), (3, .int 0), (5, .int v119), (0, .ref 0), (4, .int y107)]) dX10_isOrder_80 rfl (by decide) rfl ?_
                refine mw_iload dX10_isOrder_81 4 rfl ?_
                refine mw_bipush dX10_isOrder_83 kb_10 ?_
                refine mw_idiv dX10_isOrder_85 (bd_ne0 n_10 (by decide)) (fun v131 ev131 => ?_)
                have b132 : mm_b (0) (214748364) v131 := bd_div ev131 b113 n_10 (by decide)
                refine mw_istore (ls' := [(4, .int v131), (2, .int v129), (3, .int 0), (5, .int v119), (0, .ref 0)]) dX10_isOrder_86 (by decide) rfl ?_
                refine mw_goto (tgt := 15) dX10_isOrder_88 (by decide) ?_
                refine mw_ls [4, 1, 2, 0] rfl ?_
                exact ih15 v129 (0 : Int32) v131 (ms_div ev131 b113 n_10 (by decide) hm110) b130 (bd_w n_0 (by decide)) (bd_w b132 (by decide)) (Or.inl rfl)
              · skip
                exact bd_fne q128 n_0 n_0
            · skip
              have b133 : mm_b (1) (1) v123 := bd_ne_l q126 b124 n_0 (by decide)
              have b134 := Or.resolve_left x125 q126
              refine mw_aload_n dX10_isOrder_42 rfl 1 rfl ?_
              refine mw_iload dX10_isOrder_43 0 rfl ?_
              refine tc_Vi (as := [.int v119]) (st := []) dX10_isOrder_45 rfl shM_0 rfl rfl mX10_167 t_X10_isAlive rfl (Nat.le_of_ble_eq_true rfl) (by decide) (by decide) (c_X10_isAlive (g := g) S hI v119) (fun S135 v137 h136 => ?_)
              obtain ⟨rfl, b138, x139⟩ := h136
              refine mw_if_eq (tgt := 64) dX10_isOrder_48 (by decide) (fun q140 => ?_) (fun q140 => ?_)
              · skip
                have b141 : mm_b (0) (0) v137 := bd_eq_l q140 b138 n_0 (by decide)
                refine mw_iconst dX10_isOrder_64 ki_0 ?_
                refine mw_istore_n (ls' := [(3, .int 0), (5, .int v119), (0, .ref 0), (2, .int y103), (4, .int y107)]) dX10_isOrder_65 rfl (by decide) rfl ?_
                refine mw_iload_n dX10_isOrder_66 rfl 3 rfl ?_
                refine mw_iload_n dX10_isOrder_67 rfl 0 rfl ?_
                refine mw_if_eq (tgt := 78) dX10_isOrder_68 (by decide) (fun q142 => ?_) (fun q142 => ?_)
                · skip
                  refine mw_iconst dX10_isOrder_78 ki_0 ?_
                  refine mw_ior dX10_isOrder_79 (fun v143 ev143 => ?_)
                  have b144 : mm_b (0) (127) v143 := bd_or 7 ev143 b104 n_0 (by decide)
                  refine mw_istore_n (ls' := [(2, .int v143), (3, .int 0), (5, .int v119), (0, .ref 0), (4, .int y107)]) dX10_isOrder_80 rfl (by decide) rfl ?_
                  refine mw_iload dX10_isOrder_81 4 rfl ?_
                  refine mw_bipush dX10_isOrder_83 kb_10 ?_
                  refine mw_idiv dX10_isOrder_85 (bd_ne0 n_10 (by decide)) (fun v145 ev145 => ?_)
                  have b146 : mm_b (0) (214748364) v145 := bd_div ev145 b113 n_10 (by decide)
                  refine mw_istore (ls' := [(4, .int v145), (2, .int v143), (3, .int 0), (5, .int v119), (0, .ref 0)]) dX10_isOrder_86 (by decide) rfl ?_
                  refine mw_goto (tgt := 15) dX10_isOrder_88 (by decide) ?_
                  refine mw_ls [4, 1, 2, 0] rfl ?_
                  exact ih15 v143 (0 : Int32) v145 (ms_div ev145 b113 n_10 (by decide) hm110) b144 (bd_w n_0 (by decide)) (bd_w b146 (by decide)) (Or.inl rfl)
                · skip
                  exact bd_fne q142 n_0 n_0
              · skip
                have b147 : mm_b (1) (1) v137 := bd_ne_l q140 b138 n_0 (by decide)
                refine mw_iload_n dX10_isOrder_51 rfl 2 rfl ?_
                refine mw_iload dX10_isOrder_52 0 rfl ?_
                refine tc_Si (as := [.int y103, .int v119]) (st := []) dX10_isOrder_54 rfl mX10_134 t_X10_isIn rfl (Nat.le_of_ble_eq_true rfl) (by decide) (by decide) (c_X10_isIn (g := g) S hI y103 v119) (fun S148 v150 h149 => ?_)
                obtain ⟨rfl, b151, x152⟩ := h149
                refine mw_if_ne (tgt := 64) dX10_isOrder_57 (by decide) (fun q153 => ?_) (fun q153 => ?_)
                · skip
                  have b154 : mm_b (1) (1) v150 := bd_ne_l q153 b151 n_0 (by decide)
                  refine mw_iconst dX10_isOrder_64 ki_0 ?_
                  refine mw_istore_n (ls' := [(3, .int 0), (5, .int v119), (0, .ref 0), (2, .int y103), (4, .int y107)]) dX10_isOrder_65 rfl (by decide) rfl ?_
                  refine mw_iload_n dX10_isOrder_66 rfl 3 rfl ?_
                  refine mw_iload_n dX10_isOrder_67 rfl 0 rfl ?_
                  refine mw_if_eq (tgt := 78) dX10_isOrder_68 (by decide) (fun q155 => ?_) (fun q155 => ?_)
                  · skip
                    refine mw_iconst dX10_isOrder_78 ki_0 ?_
                    refine mw_ior dX10_isOrder_79 (fun v156 ev156 => ?_)
                    have b157 : mm_b (0) (127) v156 := bd_or 7 ev156 b104 n_0 (by decide)
                    refine mw_istore_n (ls' := [(2, .int v156), (3, .int 0), (5, .int v119), (0, .ref 0), (4, .int y107)]) dX10_isOrder_80 rfl (by decide) rfl ?_
                    refine mw_iload dX10_isOrder_81 4 rfl ?_
                    refine mw_bipush dX10_isOrder_83 kb_10 ?_
                    refine mw_idiv dX10_isOrder_85 (bd_ne0 n_10 (by decide)) (fun v158 ev158 => ?_)
                    have b159 : mm_b (0) (214748364) v158 := bd_div ev158 b113 n_10 (by decide)
                    refine mw_istore (ls' := [(4, .int v158), (2, .int v156), (3, .int 0), (5, .int v119), (0, .ref 0)]) dX10_isOrder_86 (by decide) rfl ?_
                    refine mw_goto (tgt := 15) dX10_isOrder_88 (by decide) ?_
                    refine mw_ls [4, 1, 2, 0] rfl ?_
                    exact ih15 v156 (0 : Int32) v158 (ms_div ev158 b113 n_10 (by decide) hm110) b157 (bd_w n_0 (by decide)) (bd_w b159 (by decide)) (Or.inl rfl)
                  · skip
                    exact bd_fne q155 n_0 n_0
                · skip
                  have b160 : mm_b (0) (0) v150 := bd_eq_l q153 b151 n_0 (by decide)
                  refine mw_iconst dX10_isOrder_60 ki_1 ?_
                  refine mw_goto (tgt := 65) dX10_isOrder_61 (by decide) ?_
                  refine mw_istore_n (ls' := [(3, .int 1), (5, .int v119), (0, .ref 0), (2, .int y103), (4, .int y107)]) dX10_isOrder_65 rfl (by decide) rfl ?_
                  refine mw_iload_n dX10_isOrder_66 rfl 3 rfl ?_
                  refine mw_iload_n dX10_isOrder_67 rfl 0 rfl ?_
                  refine mw_if_eq (tgt := 78) dX10_isOrder_68 (by decide) (fun q161 => ?_) (fun q161 => ?_)
                  · skip
                    exact bd_feq q161 n_1 n_0 (by decide)
                  · skip
                    refine mw_iconst dX10_isOrder_71 ki_1 ?_
                    refine mw_iload dX10_isOrder_72 1 rfl ?_
                    refine mw_ishl dX10_isOrder_74 (fun v162 ev162 => ?_)
                    have b163 : mm_b (1) (64) v162 := bd_shl 6 ev162 b134 (by decide)
                    refine mw_goto (tgt := 79) dX10_isOrder_75 (by decide) ?_
                    refine mw_ior dX10_isOrder_79 (fun v164 ev164 => ?_)
                    have b165 : mm_b (0) (127) v164 := bd_or 7 ev164 b104 b163 (by decide)
                    refine mw_istore_n (ls' := [(2, .int v164), (3, .int 1), (5, .int v119), (0, .ref 0), (4, .int y107)]) dX10_isOrder_80 rfl (by decide) rfl ?_
                    refine mw_iload dX10_isOrder_81 4 rfl ?_
                    refine mw_bipush dX10_isOrder_83 kb_10 ?_
                    refine mw_idiv dX10_isOrder_85 (bd_ne0 n_10 (by decide)) (fun v166 ev166 => ?_)
                    have b167 : mm_b (0) (214748364) v166 := bd_div ev166 b113 n_10 (by decide)
                    refine mw_istore (ls' := [(4, .int v166), (2, .int v164), (3, .int 1), (5, .int v119), (0, .ref 0)]) dX10_isOrder_86 (by decide) rfl ?_
                    refine mw_goto (tgt := 15) dX10_isOrder_88 (by decide) ?_
                    refine mw_ls [4, 1, 2, 0] rfl ?_
                    exact ih15 v164 (1 : Int32) v166 (ms_div ev166 b113 n_10 (by decide) hm110) b165 (bd_w n_1 (by decide)) (bd_w b167 (by decide)) (Or.inr (dgA_s (Or.resolve_left hx109 (bd_nec b116 (by decide))) b113 (by decide) ev117 n_10 ev119 n_1 (bd_w b134 (by decide)) ev166))
    refine mw_ls [3, 2, 1, 0] rfl ?_
    exact cut15 _ (0 : Int32) (0 : Int32) x1 (Nat.lt_succ_self _) (bd_w n_0 (by decide)) (bd_w n_0 (by decide)) (bd_w b102 (by decide)) (Or.inl rfl)
  · skip
    have b168 : mm_b (1) (2147483647) x1 := bd_lt_r (bd_nle q101) n_0 (bd_all x1) (by decide)
    refine mw_iconst dX10_isOrder_6 ki_1 ?_
    refine mw_goto (tgt := 11) dX10_isOrder_7 (by decide) ?_
    refine mw_istore_n (ls' := [(3, .int 1), (2, .int 0), (0, .ref 0), (1, .int x1)]) dX10_isOrder_11 rfl (by decide) rfl ?_
    refine mw_iload_n dX10_isOrder_12 rfl 3 rfl ?_
    refine mw_istore (ls' := [(4, .int x1), (3, .int 1), (2, .int 0), (0, .ref 0), (1, .int x1)]) dX10_isOrder_13 (by decide) rfl ?_
    have cut15 : ∀ (N15 : Nat) (y169 y171 y173 : Int32), y173.toInt.toNat < N15 → mm_b (0) (127) y169 → mm_b (0) (1) y171 → mm_b (-2147483648) (2147483647) y173 → y171 = 0 ∨ dgA x1 y173 → mw g RX10 cX10_isOrder 6 (some .boolean) false (mm_rm 2) (qi shM (fun S1 v => S = S1 ∧ mm_b (0) (1) v ∧ (v = 0 ∨ dgZ x1))) 0 0 (mm_enc shM S) 15 [(0, .ref 0), (2, .int y169), (3, .int y171), (4, .int y173)] [] := by
      intro N15
      induction N15 with
      | zero =>
        intro y169 y171 y173 hm176 b170 b172 b174 hx175
        exact absurd hm176 (Nat.not_lt_zero _)
      | succ N15 ih15 =>
        intro y169 y171 y173 hm176 b170 b172 b174 hx175
        refine mw_iload dX10_isOrder_15 3 rfl ?_
        refine mw_if_le (tgt := 91) dX10_isOrder_17 (by decide) (fun q177 => ?_) (fun q177 => ?_)
        · skip
          have b178 : mm_b (-2147483648) (0) y173 := bd_le_l q177 b174 n_0 (by decide)
          refine mw_iload_n dX10_isOrder_91 rfl 2 rfl ?_
          exact mw_zret rfl (bd_nar b172 (by decide)) dX10_isOrder_92 rfl rfl ⟨S, _, rfl, rfl, rfl, b172, Or.imp_right (fun h => dgA_e h b178 (by decide)) hx175⟩
        · skip
          have b179 : mm_b (1) (2147483647) y173 := bd_lt_r (bd_nle q177) n_0 b174 (by decide)
          refine mw_iload_n dX10_isOrder_20 rfl 2 rfl ?_
          refine mw_if_eq (tgt := 91) dX10_isOrder_21 (by decide) (fun q180 => ?_) (fun q180 => ?_)
          · skip
            have b181 : mm_b (0) (0) y171 := bd_eq_l q180 b172 n_0 (by decide)
            refine mw_iload_n dX10_isOrder_91 rfl 2 rfl ?_
            exact mw_zret rfl (bd_nar b181 (by decide)) dX10_isOrder_92 rfl rfl ⟨S, _, rfl, rfl, rfl, bd_w b181 (by decide), Or.inl (bd_zero b181)⟩
          · skip
            have b182 : mm_b (1) (1) y171 := bd_ne_l q180 b172 n_0 (by decide)
            refine mw_iload dX10_isOrder_24 3 rfl ?_
            refine mw_bipush dX10_isOrder_26 kb_10 ?_
            refine mw_irem dX10_isOrder_28 (bd_ne0 n_10 (by decide)) (fun v183 ev183 => ?_)
            have b184 : mm_b (0) (9) v183 := bd_rem ev183 b179 n_10 (by decide)
            refine mw_iconst dX10_isOrder_29 ki_1 ?_
            refine mw_isub dX10_isOrder_30 (fun v185 ev185 => ?_)
            have b186 : mm_b (-1) (8) v185 := bd_sub ev185 b184 n_1 (by decide)
            refine mw_istore (ls' := [(5, .int v185), (0, .ref 0), (2, .int y169), (3, .int y171), (4, .int y173)]) dX10_isOrder_31 (by decide) rfl ?_
            refine mw_aload_n dX10_isOrder_33 rfl 1 rfl ?_
            refine mw_iload dX10_isOrder_34 0 rfl ?_
            refine tc_Vi (as := [.int v185]) (st := []) dX10_isOrder_36 rfl shM_0 rfl rfl mX10_179 t_X10_isPerson rfl (Nat.le_of_ble_eq_true rfl) (by decide) (by decide) (c_X10_isPerson (g := g) S hI v185) (fun S187 v189 h188 => ?_)
            obtain ⟨rfl, b190, x191⟩ := h188
            refine mw_if_eq (tgt := 64) dX10_isOrder_39 (by decide) (fun q192 => ?_) (fun q192 => ?_)
            · skip
              have b193 : mm_b (0) (0) v189 := bd_eq_l q192 b190 n_0 (by decide)
              refine mw_iconst dX10_isOrder_64 ki_0 ?_
              refine mw_istore_n (ls' := [(3, .int 0), (5, .int v185), (0, .ref 0), (2, .int y169), (4, .int y173)]) dX10_isOrder_65 rfl (by decide) rfl ?_
              refine mw_iload_n dX10_isOrder_66 rfl 3 rfl ?_
              refine mw_iload_n dX10_isOrder_67 rfl 0 rfl ?_
              refine mw_if_eq (tgt := 78) dX10_isOrder_68 (by decide) (fun q194 => ?_) (fun q194 => ?_)
              · skip
                refine mw_iconst dX10_isOrder_78 ki_0 ?_
                refine mw_ior dX10_isOrder_79 (fun v195 ev195 => ?_)
                have b196 : mm_b (0) (127) v195 := bd_or 7 ev195 b170 n_0 (by decide)
                refine mw_istore_n (ls' := [(2, .int v195), (3, .int 0), (5, .int v185), (0, .ref 0), (4, .int y173)]) dX10_isOrder_80 rfl (by decide) rfl ?_
                refine mw_iload dX10_isOrder_81 4 rfl ?_
                refine mw_bipush dX10_isOrder_83 kb_10 ?_
                refine mw_idiv dX10_isOrder_85 (bd_ne0 n_10 (by decide)) (fun v197 ev197 => ?_)
                have b198 : mm_b (0) (214748364) v197 := bd_div ev197 b179 n_10 (by decide)
                refine mw_istore (ls' := [(4, .int v197), (2, .int v195), (3, .int 0), (5, .int v185), (0, .ref 0)]) dX10_isOrder_86 (by decide) rfl ?_
                refine mw_goto (tgt := 15) dX10_isOrder_88 (by decide) ?_
                refine mw_ls [4, 1, 2, 0] rfl ?_
                exact ih15 v195 (0 : Int32) v197 (ms_div ev197 b179 n_10 (by decide) hm176) b196 (bd_w n_0 (by decide)) (bd_w b198 (by decide)) (Or.inl rfl)
              · skip
                exact bd_fne q194 n_0 n_0
            · skip
              have b199 : mm_b (1) (1) v189 := bd_ne_l q192 b190 n_0 (by decide)
              have b200 := Or.resolve_left x191 q192
              refine mw_aload_n dX10_isOrder_42 rfl 1 rfl ?_
              refine mw_iload dX10_isOrder_43 0 rfl ?_
              refine tc_Vi (as := [.int v185]) (st := []) dX10_isOrder_45 rfl shM_0 rfl rfl mX10_167 t_X10_isAlive rfl (Nat.le_of_ble_eq_true rfl) (by decide) (by decide) (c_X10_isAlive (g := g) S hI v185) (fun S201 v203 h202 => ?_)
              obtain ⟨rfl, b204, x205⟩ := h202
              refine mw_if_eq (tgt := 64) dX10_isOrder_48 (by decide) (fun q206 => ?_) (fun q206 => ?_)
              · skip
                have b207 : mm_b (0) (0) v203 := bd_eq_l q206 b204 n_0 (by decide)
                refine mw_iconst dX10_isOrder_64 ki_0 ?_
                refine mw_istore_n (ls' := [(3, .int 0), (5, .int v185), (0, .ref 0), (2, .int y169), (4, .int y173)]) dX10_isOrder_65 rfl (by decide) rfl ?_
                refine mw_iload_n dX10_isOrder_66 rfl 3 rfl ?_
                refine mw_iload_n dX10_isOrder_67 rfl 0 rfl ?_
                refine mw_if_eq (tgt := 78) dX10_isOrder_68 (by decide) (fun q208 => ?_) (fun q208 => ?_)
                · skip
                  refine mw_iconst dX10_isOrder_78 ki_0 ?_
                  refine mw_ior dX10_isOrder_79 (fun v209 ev209 => ?_)
                  have b210 : mm_b (0) (127) v209 := bd_or 7 ev209 b170 n_0 (by decide)
                  refine mw_istore_n (ls' := [(2, .int v209), (3, .int 0), (5, .int v185), (0, .ref 0), (4, .int y173)]) dX10_isOrder_80 rfl (by decide) rfl ?_
                  refine mw_iload dX10_isOrder_81 4 rfl ?_
                  refine mw_bipush dX10_isOrder_83 kb_10 ?_
                  refine mw_idiv dX10_isOrder_85 (bd_ne0 n_10 (by decide)) (fun v211 ev211 => ?_)
                  have b212 : mm_b (0) (214748364) v211 := bd_div ev211 b179 n_10 (by decide)
                  refine mw_istore (ls' := [(4, .int v211), (2, .int v209), (3, .int 0), (5, .int v185), (0, .ref 0)]) dX10_isOrder_86 (by decide) rfl ?_
                  refine mw_goto (tgt := 15) dX10_isOrder_88 (by decide) ?_
                  refine mw_ls [4, 1, 2, 0] rfl ?_
                  exact ih15 v209 (0 : Int32) v211 (ms_div ev211 b179 n_10 (by decide) hm176) b210 (bd_w n_0 (by decide)) (bd_w b212 (by decide)) (Or.inl rfl)
                · skip
                  exact bd_fne q208 n_0 n_0
              · skip
                have b213 : mm_b (1) (1) v203 := bd_ne_l q206 b204 n_0 (by decide)
                refine mw_iload_n dX10_isOrder_51 rfl 2 rfl ?_
                refine mw_iload dX10_isOrder_52 0 rfl ?_
                refine tc_Si (as := [.int y169, .int v185]) (st := []) dX10_isOrder_54 rfl mX10_134 t_X10_isIn rfl (Nat.le_of_ble_eq_true rfl) (by decide) (by decide) (c_X10_isIn (g := g) S hI y169 v185) (fun S214 v216 h215 => ?_)
                obtain ⟨rfl, b217, x218⟩ := h215
                refine mw_if_ne (tgt := 64) dX10_isOrder_57 (by decide) (fun q219 => ?_) (fun q219 => ?_)
                · skip
                  have b220 : mm_b (1) (1) v216 := bd_ne_l q219 b217 n_0 (by decide)
                  refine mw_iconst dX10_isOrder_64 ki_0 ?_
                  refine mw_istore_n (ls' := [(3, .int 0), (5, .int v185), (0, .ref 0), (2, .int y169), (4, .int y173)]) dX10_isOrder_65 rfl (by decide) rfl ?_
                  refine mw_iload_n dX10_isOrder_66 rfl 3 rfl ?_
                  refine mw_iload_n dX10_isOrder_67 rfl 0 rfl ?_
                  refine mw_if_eq (tgt := 78) dX10_isOrder_68 (by decide) (fun q221 => ?_) (fun q221 => ?_)
                  · skip
                    refine mw_iconst dX10_isOrder_78 ki_0 ?_
                    refine mw_ior dX10_isOrder_79 (fun v222 ev222 => ?_)
                    have b223 : mm_b (0) (127) v222 := bd_or 7 ev222 b170 n_0 (by decide)
                    refine mw_istore_n (ls' := [(2, .int v222), (3, .int 0), (5, .int v185), (0, .ref 0), (4, .int y173)]) dX10_isOrder_80 rfl (by decide) rfl ?_
                    refine mw_iload dX10_isOrder_81 4 rfl ?_
                    refine mw_bipush dX10_isOrder_83 kb_10 ?_
                    refine mw_idiv dX10_isOrder_85 (bd_ne0 n_10 (by decide)) (fun v224 ev224 => ?_)
                    have b225 : mm_b (0) (214748364) v224 := bd_div ev224 b179 n_10 (by decide)
                    refine mw_istore (ls' := [(4, .int v224), (2, .int v222), (3, .int 0), (5, .int v185), (0, .ref 0)]) dX10_isOrder_86 (by decide) rfl ?_
                    refine mw_goto (tgt := 15) dX10_isOrder_88 (by decide) ?_
                    refine mw_ls [4, 1, 2, 0] rfl ?_
                    exact ih15 v222 (0 : Int32) v224 (ms_div ev224 b179 n_10 (by decide) hm176) b223 (bd_w n_0 (by decide)) (bd_w b225 (by decide)) (Or.inl rfl)
                  · skip
                    exact bd_fne q221 n_0 n_0
                · skip
                  have b226 : mm_b (0) (0) v216 := bd_eq_l q219 b217 n_0 (by decide)
                  refine mw_iconst dX10_isOrder_60 ki_1 ?_
                  refine mw_goto (tgt := 65) dX10_isOrder_61 (by decide) ?_
                  refine mw_istore_n (ls' := [(3, .int 1), (5, .int v185), (0, .ref 0), (2, .int y169), (4, .int y173)]) dX10_isOrder_65 rfl (by decide) rfl ?_
                  refine mw_iload_n dX10_isOrder_66 rfl 3 rfl ?_
                  refine mw_iload_n dX10_isOrder_67 rfl 0 rfl ?_
                  refine mw_if_eq (tgt := 78) dX10_isOrder_68 (by decide) (fun q227 => ?_) (fun q227 => ?_)
                  · skip
                    exact bd_feq q227 n_1 n_0 (by decide)
                  · skip
                    refine mw_iconst dX10_isOrder_71 ki_1 ?_
                    refine mw_iload dX10_isOrder_72 1 rfl ?_
                    refine mw_ishl dX10_isOrder_74 (fun v228 ev228 => ?_)
                    have b229 : mm_b (1) (64) v228 := bd_shl 6 ev228 b200 (by decide)
                    refine mw_goto (tgt := 79) dX10_isOrder_75 (by decide) ?_
                    refine mw_ior dX10_isOrder_79 (fun v230 ev230 => ?_)
                    have b231 : mm_b (0) (127) v230 := bd_or 7 ev230 b170 b229 (by decide)
                    refine mw_istore_n (ls' := [(2, .int v230), (3, .int 1), (5, .int v185), (0, .ref 0), (4, .int y173)]) dX10_isOrder_80 rfl (by decide) rfl ?_
                    refine mw_iload dX10_isOrder_81 4 rfl ?_
                    refine mw_bipush dX10_isOrder_83 kb_10 ?_
                    refine mw_idiv dX10_isOrder_85 (bd_ne0 n_10 (by decide)) (fun v232 ev232 => ?_)
                    have b233 : mm_b (0) (214748364) v232 := bd_div ev232 b179 n_10 (by decide)
                    refine mw_istore (ls' := [(4, .int v232), (2, .int v230), (3, .int 1), (5, .int v185), (0, .ref 0)]) dX10_isOrder_86 (by decide) rfl ?_
                    refine mw_goto (tgt := 15) dX10_isOrder_88 (by decide) ?_
                    refine mw_ls [4, 1, 2, 0] rfl ?_
                    exact ih15 v230 (1 : Int32) v232 (ms_div ev232 b179 n_10 (by decide) hm176) b231 (bd_w n_1 (by decide)) (bd_w b233 (by decide)) (Or.inr (dgA_s (Or.resolve_left hx175 (bd_nec b182 (by decide))) b179 (by decide) ev183 n_10 ev185 n_1 (bd_w b200 (by decide)) ev232))
    refine mw_ls [3, 2, 1, 0] rfl ?_
    exact cut15 _ (0 : Int32) (1 : Int32) x1 (Nat.lt_succ_self _) (bd_w n_0 (by decide)) (bd_w n_1 (by decide)) (bd_w b168 (by decide)) (Or.inr (dgA_0 b168 (by decide)))
set_option maxRecDepth 100000 in
set_option maxHeartbeats 4000000 in
theorem c_X10_after {g : mm_G} (S : mm_S) (hI : JM S) (x1 : Int32) (x2 : Int32) : mc g yX10_after cX10_after 3 (some .int) (mm_rm 4) [.ref 0, .int x1, .int x2] (mm_enc shM S) (qi shM (fun S1 v => JM S1 ∧ fr [4] [] true true S S1 ∧ mm_b (-1000000002) (9) v ∧ (True))) := by
  refine mc_of2 (own := RX10) (ini := false) (ls := [(0, .ref 0), (1, .int x1), (2, .int x2)]) (by decide) (Nat.le_of_ble_eq_true rfl) rfl (by decide) rfl ?_
  have hF : fr [4] [] true true S S := fr_rf
  refine mw_aload_n dX10_after_0 rfl 0 rfl ?_
  refine mw_iload_n dX10_after_1 rfl 2 rfl ?_
  refine tc_Vi (as := [.int x2]) (st := []) dX10_after_2 rfl shM_0 rfl rfl mX10_179 t_X10_isPerson rfl (Nat.le_of_ble_eq_true rfl) (by decide) (by decide) (c_X10_isPerson (g := g) S hI x2) (fun S101 v103 h102 => ?_)
  obtain ⟨rfl, b104, x105⟩ := h102
  refine mw_if_ne (tgt := 11) dX10_after_5 (by decide) (fun q106 => ?_) (fun q106 => ?_)
  · skip
    have b107 : mm_b (1) (1) v103 := bd_ne_l q106 b104 n_0 (by decide)
    have b108 := Or.resolve_left x105 q106
    refine mw_aload_n dX10_after_11 rfl 0 rfl ?_
    refine mw_iload_n dX10_after_12 rfl 1 rfl ?_
    refine tc_Vi (as := [.int x1]) (st := []) dX10_after_13 rfl shM_0 rfl rfl mX10_228 t_X10_isOrder rfl (Nat.le_of_ble_eq_true rfl) (by decide) (by decide) (c_X10_isOrder (g := g) S hI x1) (fun S109 v111 h110 => ?_)
    obtain ⟨rfl, b112, x113⟩ := h110
    refine mw_if_ne (tgt := 22) dX10_after_16 (by decide) (fun q114 => ?_) (fun q114 => ?_)
    · skip
      have b115 : mm_b (1) (1) v111 := bd_ne_l q114 b112 n_0 (by decide)
      have dg116 := Or.resolve_left x113 q114
      refine mw_aload_n dX10_after_22 rfl 0 rfl ?_
      refine tc_Vv (as := []) (st := []) dX10_after_23 rfl shM_0 rfl rfl mX10_231 t_X10_layAside rfl (Nat.le_of_ble_eq_true rfl) (by decide) (by decide) (c_X10_layAside (g := g) S hI) (fun S117 h118 => ?_)
      obtain ⟨hI120, hf121, x119⟩ := h118
      have hF122 := fr_tr hF hf121 (by decide) (by decide) (by decide) (by decide)
      refine mw_aload_n dX10_after_26 rfl 0 rfl ?_
      refine mw_iload_n dX10_after_27 rfl 1 rfl ?_
      refine tc_Vv (as := [.int x1]) (st := []) dX10_after_28 rfl shM_0 rfl rfl mX10_234 t_X10_allDie rfl (Nat.le_of_ble_eq_true rfl) (by decide) (by decide) (c_X10_allDie (g := g) S117 hI120 x1 dg116) (fun S123 h124 => ?_)
      obtain ⟨hI126, hf127, x125⟩ := h124
      have hF128 := fr_tr hF122 hf127 (by decide) (by decide) (by decide) (by decide)
      refine mw_aload_n dX10_after_31 rfl 0 rfl ?_
      refine tw_getr (j := 3) dX10_after_32 shM_0 rfl rfl (by decide) fX10_19 ?_
      refine mw_iconst dX10_after_35 ki_0 ?_
      refine mw_iload_n dX10_after_36 rfl 2 rfl ?_
      refine mw_iadd dX10_after_37 (fun v129 ev129 => ?_)
      have b130 : mm_b (0) (6) v129 := bd_add ev129 n_0 b108 (by decide)
      refine tw_iald dX10_after_38 shM_4 (bd_in b130 (by decide)) (fun v131 ev131 => ?_)
      have b132 : mm_b (0) (9) v131 := JIM_elt hI126 ev131 b130 tbM_33 (by decide)
      exact mw_iret rfl dX10_after_39 rfl rfl ⟨S123, _, rfl, rfl, hI126, hF128, bd_w b132 (by decide), trivial⟩
    · skip
      have b133 : mm_b (0) (0) v111 := bd_eq_l q114 b112 n_0 (by decide)
      refine mw_ldc dX10_after_19 kX10_84 ?_
      exact mw_iret rfl dX10_after_21 rfl rfl ⟨S, _, rfl, rfl, hI, hF, bd_w n_m1000000002 (by decide), trivial⟩
  · skip
    have b134 : mm_b (0) (0) v103 := bd_eq_l q106 b104 n_0 (by decide)
    refine mw_ldc dX10_after_8 kX10_182 ?_
    exact mw_iret rfl dX10_after_10 rfl rfl ⟨S, _, rfl, rfl, hI, hF, bd_w n_m1000000001 (by decide), trivial⟩
set_option maxRecDepth 100000 in
set_option maxHeartbeats 4000000 in
theorem c_X10_whose {g : mm_G} (S : mm_S) (hI : JM S) (x1 : Int32) (x2 : Int32) : mc g yX10_whose cX10_whose 4 (some .int) (mm_rm 4) [.ref 0, .int x1, .int x2] (mm_enc shM S) (qi shM (fun S1 v => JM S1 ∧ fr [4] [] true true S S1 ∧ mm_b (-1000000002) (6) v ∧ (True))) := by
  refine mc_of2 (own := RX10) (ini := false) (ls := [(0, .ref 0), (1, .int x1), (2, .int x2)]) (by decide) (Nat.le_of_ble_eq_true rfl) rfl (by decide) rfl ?_
  have hF : fr [4] [] true true S S := fr_rf
  refine mw_iload_n dX10_whose_0 rfl 2 rfl ?_
  refine tc_Si (as := [.int x2]) (st := []) dX10_whose_1 rfl mX10_205 t_X10_isVoice rfl (Nat.le_of_ble_eq_true rfl) (by decide) (by decide) (c_X10_isVoice (g := g) S hI x2) (fun S101 v103 h102 => ?_)
  obtain ⟨rfl, b104, x105⟩ := h102
  refine mw_if_ne (tgt := 10) dX10_whose_4 (by decide) (fun q106 => ?_) (fun q106 => ?_)
  · skip
    have b107 : mm_b (1) (1) v103 := bd_ne_l q106 b104 n_0 (by decide)
    have b108 := Or.resolve_left x105 q106
    refine mw_aload_n dX10_whose_10 rfl 0 rfl ?_
    refine mw_iload_n dX10_whose_11 rfl 1 rfl ?_
    refine tc_Vi (as := [.int x1]) (st := []) dX10_whose_12 rfl shM_0 rfl rfl mX10_228 t_X10_isOrder rfl (Nat.le_of_ble_eq_true rfl) (by decide) (by decide) (c_X10_isOrder (g := g) S hI x1) (fun S109 v111 h110 => ?_)
    obtain ⟨rfl, b112, x113⟩ := h110
    refine mw_if_ne (tgt := 21) dX10_whose_15 (by decide) (fun q114 => ?_) (fun q114 => ?_)
    · skip
      have b115 : mm_b (1) (1) v111 := bd_ne_l q114 b112 n_0 (by decide)
      have dg116 := Or.resolve_left x113 q114
      refine mw_aload_n dX10_whose_21 rfl 0 rfl ?_
      refine tc_Vv (as := []) (st := []) dX10_whose_22 rfl shM_0 rfl rfl mX10_231 t_X10_layAside rfl (Nat.le_of_ble_eq_true rfl) (by decide) (by decide) (c_X10_layAside (g := g) S hI) (fun S117 h118 => ?_)
      obtain ⟨hI120, hf121, x119⟩ := h118
      have hF122 := fr_tr hF hf121 (by decide) (by decide) (by decide) (by decide)
      refine mw_aload_n dX10_whose_25 rfl 0 rfl ?_
      refine mw_iload_n dX10_whose_26 rfl 1 rfl ?_
      refine tc_Vv (as := [.int x1]) (st := []) dX10_whose_27 rfl shM_0 rfl rfl mX10_234 t_X10_allDie rfl (Nat.le_of_ble_eq_true rfl) (by decide) (by decide) (c_X10_allDie (g := g) S117 hI120 x1 dg116) (fun S123 h124 => ?_)
      obtain ⟨hI126, hf127, x125⟩ := h124
      have hF128 := fr_tr hF122 hf127 (by decide) (by decide) (by decide) (by decide)
      refine mw_iconst dX10_whose_30 ki_0 ?_
      refine mw_istore_n (ls' := [(3, .int 0), (0, .ref 0), (1, .int x1), (2, .int x2)]) dX10_whose_31 rfl (by decide) rfl ?_
      have cut32 : ∀ (N32 : Nat) (S129 : mm_S) (y132 : Int32), ((8 : Int) - y132.toInt).toNat < N32 → JM S129 → fr [4] [] true true S S129 → mm_b (0) (7) y132 → mw g RX10 cX10_whose 4 (some .int) false (mm_rm 4) (qi shM (fun S1 v => JM S1 ∧ fr [4] [] true true S S1 ∧ mm_b (-1000000002) (6) v ∧ (True))) 0 0 (mm_enc shM S129) 32 [(0, .ref 0), (2, .int x2), (3, .int y132)] [] := by
        intro N32
        induction N32 with
        | zero =>
          intro S129 y132 hm134 hI130 hF131 b133
          exact absurd hm134 (Nat.not_lt_zero _)
        | succ N32 ih32 =>
          intro S129 y132 hm134 hI130 hF131 b133
          refine mw_iload_n dX10_whose_32 rfl 2 rfl ?_
          refine mw_aload_n dX10_whose_33 rfl 0 rfl ?_
          refine tw_getr (j := 0) dX10_whose_34 shM_0 rfl rfl (by decide) fX10_7 ?_
          refine mw_iconst dX10_whose_37 ki_0 ?_
          refine tw_iald dX10_whose_38 shM_1 (bd_in n_0 (by decide)) (fun v135 ev135 => ?_)
          rw [cl_0] at ev135
          have b136 : mm_b (0) (7) v135 := JIM_fld hI130 ev135 tbM_16 (by decide)
          refine mw_icmp_ge (tgt := 62) dX10_whose_39 (by decide) (fun q137 => ?_) (fun q137 => ?_)
          · skip
            refine mw_iconst dX10_whose_62 ki_m1 ?_
            exact mw_iret rfl dX10_whose_63 rfl rfl ⟨S129, _, rfl, rfl, hI130, hF131, bd_w n_m1 (by decide), trivial⟩
          · skip
            have b138 : mm_b (0) (6) y132 := bd_lt_l (bd_nle q137) b133 b136 (by decide)
            have b139 : mm_b (1) (7) v135 := bd_lt_r (bd_nle q137) b133 b136 (by decide)
            refine mw_aload_n dX10_whose_42 rfl 0 rfl ?_
            refine tw_getr (j := 3) dX10_whose_43 shM_0 rfl rfl (by decide) fX10_19 ?_
            refine mw_iconst dX10_whose_46 ki_0 ?_
            refine mw_iload_n dX10_whose_47 rfl 2 rfl ?_
            refine mw_iadd dX10_whose_48 (fun v140 ev140 => ?_)
            have b141 : mm_b (0) (6) v140 := bd_add ev140 n_0 b138 (by decide)
            refine tw_iald dX10_whose_49 shM_4 (bd_in b141 (by decide)) (fun v142 ev142 => ?_)
            have b143 : mm_b (0) (9) v142 := JIM_elt hI130 ev142 b141 tbM_33 (by decide)
            refine mw_iload_n dX10_whose_50 rfl 1 rfl ?_
            refine mw_icmp_ne (tgt := 56) dX10_whose_51 (by decide) (fun q144 => ?_) (fun q144 => ?_)
            · skip
              refine mw_iinc (ls' := fun v => [(3, .int v), (0, .ref 0), (2, .int x2)]) dX10_whose_56 2 rfl (by decide) (fun _ => rfl) (fun v145 ev145 => ?_)
              have b146 : mm_b (1) (7) v145 := bd_inc ev145 b138 (by decide)
              refine mw_goto (tgt := 32) dX10_whose_59 (by decide) ?_
              refine mw_ls [1, 2, 0] rfl ?_
              exact ih32 S129 v145 (ms_inc ev145 b138 (by decide) hm134) hI130 hF131 (bd_w b146 (by decide))
            · skip
              have b147 : mm_b (0) (6) v142 := bd_eq_l q144 b143 b108 (by decide)
              refine mw_iload_n dX10_whose_54 rfl 2 rfl ?_
              exact mw_iret rfl dX10_whose_55 rfl rfl ⟨S129, _, rfl, rfl, hI130, hF131, bd_w b138 (by decide), trivial⟩
      refine mw_ls [1, 3, 0] rfl ?_
      exact cut32 _ S123 (0 : Int32) (Nat.lt_succ_self _) hI126 hF128 (bd_w n_0 (by decide))
    · skip
      have b148 : mm_b (0) (0) v111 := bd_eq_l q114 b112 n_0 (by decide)
      refine mw_ldc dX10_whose_18 kX10_84 ?_
      exact mw_iret rfl dX10_whose_20 rfl rfl ⟨S, _, rfl, rfl, hI, hF, bd_w n_m1000000002 (by decide), trivial⟩
  · skip
    have b149 : mm_b (0) (0) v103 := bd_eq_l q106 b104 n_0 (by decide)
    refine mw_ldc dX10_whose_7 kX10_182 ?_
    exact mw_iret rfl dX10_whose_9 rfl rfl ⟨S, _, rfl, rfl, hI, hF, bd_w n_m1000000001 (by decide), trivial⟩
set_option maxRecDepth 100000 in
set_option maxHeartbeats 4000000 in
theorem c_X10_isSo {g : mm_G} (S : mm_S) (hI : JM S) (x1 : Int32) (h1 : mm_b (0) (9999) x1) (x2 : Int32) (h2 : mm_b (0) (127) x2) : mc g yX10_isSo cX10_isSo 6 (some .boolean) (mm_rm 4) [.ref 0, .int x1, .int x2] (mm_enc shM S) (qi shM (fun S1 v => JM S1 ∧ fr [4] [] true true S S1 ∧ mm_b (0) (1) v ∧ (True))) := by
  refine mc_of2 (own := RX10) (ini := false) (ls := [(0, .ref 0), (1, .int x1), (2, .int x2)]) (by decide) (Nat.le_of_ble_eq_true rfl) rfl (by decide) rfl ?_
  have hF : fr [4] [] true true S S := fr_rf
  refine mw_iconst dX10_isSo_0 ki_0 ?_
  refine mw_istore_n (ls' := [(3, .int 0), (0, .ref 0), (1, .int x1), (2, .int x2)]) dX10_isSo_1 rfl (by decide) rfl ?_
  refine mw_iload_n dX10_isSo_2 rfl 2 rfl ?_
  refine mw_istore (ls' := [(4, .int x1), (3, .int 0), (0, .ref 0), (1, .int x1), (2, .int x2)]) dX10_isSo_3 (by decide) rfl ?_
  have cut5 : ∀ (N5 : Nat) (S101 : mm_S) (y104 y106 : Int32), y106.toInt.toNat < N5 → JM S101 → fr [4] [] true true S S101 → mm_b (0) (127) y104 → mm_b (0) (9999) y106 → dgA x1 y106 → mw g RX10 cX10_isSo 6 (some .boolean) false (mm_rm 4) (qi shM (fun S1 v => JM S1 ∧ fr [4] [] true true S S1 ∧ mm_b (0) (1) v ∧ (True))) 0 0 (mm_enc shM S101) 5 [(0, .ref 0), (1, .int x1), (2, .int x2), (3, .int y104), (4, .int y106)] [] := by
    intro N5
    induction N5 with
    | zero =>
      intro S101 y104 y106 hm109 hI102 hF103 b105 b107 hx108
      exact absurd hm109 (Nat.not_lt_zero _)
    | succ N5 ih5 =>
      intro S101 y104 y106 hm109 hI102 hF103 b105 b107 hx108
      refine mw_iload dX10_isSo_5 4 rfl ?_
      refine mw_if_le (tgt := 61) dX10_isSo_7 (by decide) (fun q110 => ?_) (fun q110 => ?_)
      · skip
        have b111 : mm_b (0) (0) y106 := bd_le_l q110 b107 n_0 (by decide)
        refine mw_iload_n dX10_isSo_61 rfl 3 rfl ?_
        refine mw_iload_n dX10_isSo_62 rfl 2 rfl ?_
        refine mw_icmp_eq (tgt := 68) dX10_isSo_63 (by decide) (fun q112 => ?_) (fun q112 => ?_)
        · skip
          refine mw_aload_n dX10_isSo_68 rfl 0 rfl ?_
          refine tc_Vv (as := []) (st := []) dX10_isSo_69 rfl shM_0 rfl rfl mX10_231 t_X10_layAside rfl (Nat.le_of_ble_eq_true rfl) (by decide) (by decide) (c_X10_layAside (g := g) S101 hI102) (fun S113 h114 => ?_)
          obtain ⟨hI116, hf117, x115⟩ := h114
          have hF118 := fr_tr hF103 hf117 (by decide) (by decide) (by decide) (by decide)
          refine mw_aload_n dX10_isSo_72 rfl 0 rfl ?_
          refine mw_iload_n dX10_isSo_73 rfl 1 rfl ?_
          refine tc_Vv (as := [.int x1]) (st := []) dX10_isSo_74 rfl shM_0 rfl rfl mX10_234 t_X10_allDie rfl (Nat.le_of_ble_eq_true rfl) (by decide) (by decide) (c_X10_allDie (g := g) S113 hI116 x1 (dgA_e hx108 b111 (by decide))) (fun S119 h120 => ?_)
          obtain ⟨hI122, hf123, x121⟩ := h120
          have hF124 := fr_tr hF118 hf123 (by decide) (by decide) (by decide) (by decide)
          refine mw_iconst dX10_isSo_77 ki_1 ?_
          refine mw_istore (ls' := [(4, .int 1), (0, .ref 0), (1, .int x1), (2, .int x2), (3, .int y104)]) dX10_isSo_78 (by decide) rfl ?_
          refine mw_iconst dX10_isSo_80 ki_0 ?_
          refine mw_istore (ls' := [(5, .int 0), (4, .int 1), (0, .ref 0), (1, .int x1), (2, .int x2), (3, .int y104)]) dX10_isSo_81 (by decide) rfl ?_
          have cut83 : ∀ (N83 : Nat) (S125 : mm_S) (y128 y130 : Int32), ((7 : Int) - y130.toInt).toNat < N83 → JM S125 → fr [4] [] true true S S125 → mm_b (0) (1) y128 → mm_b (0) (6) y130 → mw g RX10 cX10_isSo 6 (some .boolean) false (mm_rm 4) (qi shM (fun S1 v => JM S1 ∧ fr [4] [] true true S S1 ∧ mm_b (0) (1) v ∧ (True))) 0 0 (mm_enc shM S125) 83 [(0, .ref 0), (4, .int y128), (5, .int y130)] [] := by
            intro N83
            induction N83 with
            | zero =>
              intro S125 y128 y130 hm132 hI126 hF127 b129 b131
              exact absurd hm132 (Nat.not_lt_zero _)
            | succ N83 ih83 =>
              intro S125 y128 y130 hm132 hI126 hF127 b129 b131
              refine mw_iload dX10_isSo_83 2 rfl ?_
              refine mw_aload_n dX10_isSo_85 rfl 0 rfl ?_
              refine tw_geti (j := 15) dX10_isSo_86 shM_0 rfl rfl (by decide) fX10_76 (fun v133 ev133 => ?_)
              have b134 : mm_b (0) (6) v133 := JIM_fld hI126 ev133 tbM_4 (by decide)
              refine mw_icmp_ge (tgt := 140) dX10_isSo_89 (by decide) (fun q135 => ?_) (fun q135 => ?_)
              · skip
                refine mw_iload dX10_isSo_140 1 rfl ?_
                exact mw_zret rfl (bd_nar b129 (by decide)) dX10_isSo_142 rfl rfl ⟨S125, _, rfl, rfl, hI126, hF127, b129, trivial⟩
              · skip
                have b136 : mm_b (0) (5) y130 := bd_lt_l (bd_nle q135) b131 b134 (by decide)
                have b137 : mm_b (1) (6) v133 := bd_lt_r (bd_nle q135) b131 b134 (by decide)
                refine mw_iload dX10_isSo_92 1 rfl ?_
                refine mw_if_eq (tgt := 131) dX10_isSo_94 (by decide) (fun q138 => ?_) (fun q138 => ?_)
                · skip
                  have b139 : mm_b (0) (0) y128 := bd_eq_l q138 b129 n_0 (by decide)
                  refine mw_iconst dX10_isSo_131 ki_0 ?_
                  refine mw_istore (ls' := [(4, .int 0), (0, .ref 0), (5, .int y130)]) dX10_isSo_132 (by decide) rfl ?_
                  refine mw_iinc (ls' := fun v => [(5, .int v), (4, .int 0), (0, .ref 0)]) dX10_isSo_134 2 rfl (by decide) (fun _ => rfl) (fun v140 ev140 => ?_)
                  have b141 : mm_b (1) (6) v140 := bd_inc ev140 b136 (by decide)
                  refine mw_goto (tgt := 83) dX10_isSo_137 (by decide) ?_
                  refine mw_ls [2, 1, 0] rfl ?_
                  exact ih83 S125 (0 : Int32) v140 (ms_inc ev140 b136 (by decide) hm132) hI126 hF127 (bd_w n_0 (by decide)) (bd_w b141 (by decide))
                · skip
                  have b142 : mm_b (1) (1) y128 := bd_ne_l q138 b129 n_0 (by decide)
                  refine mw_aload_n dX10_isSo_97 rfl 0 rfl ?_
                  refine tw_getr (j := 3) dX10_isSo_98 shM_0 rfl rfl (by decide) fX10_19 ?_
                  refine mw_iconst dX10_isSo_101 ki_0 ?_
                  refine mw_aload_n dX10_isSo_102 rfl 0 rfl ?_
                  refine tw_getr (j := 14) dX10_isSo_103 shM_0 rfl rfl (by decide) fX10_42 ?_
                  refine mw_iconst dX10_isSo_106 ki_2 ?_
                  refine mw_iload dX10_isSo_107 2 rfl ?_
                  refine mw_imul dX10_isSo_109 (fun v143 ev143 => ?_)
                  have b144 : mm_b (0) (10) v143 := bd_mul ev143 n_2 b136 (by decide)
                  refine tw_iald dX10_isSo_110 shM_10 (bd_in b144 (by decide)) (fun v145 ev145 => ?_)
                  have b146 : mm_b (0) (9) v145 := JIM_elt hI126 ev145 b144 tbM_11 (by decide)
                  refine mw_iadd dX10_isSo_111 (fun v147 ev147 => ?_)
                  have b148 : mm_b (0) (9) v147 := bd_add ev147 n_0 b146 (by decide)
                  refine tw_iald dX10_isSo_112 shM_4 (bd_in b148 (by decide)) (fun v149 ev149 => ?_)
                  refine mw_aload_n dX10_isSo_113 rfl 0 rfl ?_
                  refine tw_getr (j := 14) dX10_isSo_114 shM_0 rfl rfl (by decide) fX10_42 ?_
                  refine mw_iconst dX10_isSo_117 ki_2 ?_
                  refine mw_iload dX10_isSo_118 2 rfl ?_
                  refine mw_imul dX10_isSo_120 (fun v150 ev150 => ?_)
                  have cv150 : v143 = v150 := ev143.trans ev150.symm
                  subst cv150
                  refine mw_iconst dX10_isSo_121 ki_1 ?_
                  refine mw_iadd dX10_isSo_122 (fun v151 ev151 => ?_)
                  have b152 : mm_b (1) (11) v151 := bd_add ev151 b144 n_1 (by decide)
                  refine tw_iald dX10_isSo_123 shM_10 (bd_in b152 (by decide)) (fun v153 ev153 => ?_)
                  have b154 : mm_b (0) (9) v153 := JIM_elt hI126 ev153 b152 tbM_11 (by decide)
                  refine mw_icmp_ne (tgt := 131) dX10_isSo_124 (by decide) (fun q155 => ?_) (fun q155 => ?_)
                  · skip
                    refine mw_iconst dX10_isSo_131 ki_0 ?_
                    refine mw_istore (ls' := [(4, .int 0), (0, .ref 0), (5, .int y130)]) dX10_isSo_132 (by decide) rfl ?_
                    refine mw_iinc (ls' := fun v => [(5, .int v), (4, .int 0), (0, .ref 0)]) dX10_isSo_134 2 rfl (by decide) (fun _ => rfl) (fun v156 ev156 => ?_)
                    have b157 : mm_b (1) (6) v156 := bd_inc ev156 b136 (by decide)
                    refine mw_goto (tgt := 83) dX10_isSo_137 (by decide) ?_
                    refine mw_ls [2, 1, 0] rfl ?_
                    exact ih83 S125 (0 : Int32) v156 (ms_inc ev156 b136 (by decide) hm132) hI126 hF127 (bd_w n_0 (by decide)) (bd_w b157 (by decide))
                  · skip
                    have b158 : mm_b (0) (9) v149 := bd_eq_l q155 (bd_all v149) b154 (by decide)
                    refine mw_iconst dX10_isSo_127 ki_1 ?_
                    refine mw_goto (tgt := 132) dX10_isSo_128 (by decide) ?_
                    refine mw_istore (ls' := [(4, .int 1), (0, .ref 0), (5, .int y130)]) dX10_isSo_132 (by decide) rfl ?_
                    refine mw_iinc (ls' := fun v => [(5, .int v), (4, .int 1), (0, .ref 0)]) dX10_isSo_134 2 rfl (by decide) (fun _ => rfl) (fun v159 ev159 => ?_)
                    have b160 : mm_b (1) (6) v159 := bd_inc ev159 b136 (by decide)
                    refine mw_goto (tgt := 83) dX10_isSo_137 (by decide) ?_
                    refine mw_ls [2, 1, 0] rfl ?_
                    exact ih83 S125 (1 : Int32) v159 (ms_inc ev159 b136 (by decide) hm132) hI126 hF127 (bd_w n_1 (by decide)) (bd_w b160 (by decide))
          refine mw_ls [2, 1, 0] rfl ?_
          exact cut83 _ S119 (1 : Int32) (0 : Int32) (Nat.lt_succ_self _) hI122 hF124 (bd_w n_1 (by decide)) (bd_w n_0 (by decide))
        · skip
          refine mw_iconst dX10_isSo_66 ki_0 ?_
          exact mw_zret rfl (bd_nar n_0 (by decide)) dX10_isSo_67 rfl rfl ⟨S101, _, rfl, rfl, hI102, hF103, bd_w n_0 (by decide), trivial⟩
      · skip
        have b161 : mm_b (1) (9999) y106 := bd_lt_r (bd_nle q110) n_0 b107 (by decide)
        refine mw_iload dX10_isSo_10 4 rfl ?_
        refine mw_bipush dX10_isSo_12 kb_10 ?_
        refine mw_irem dX10_isSo_14 (bd_ne0 n_10 (by decide)) (fun v162 ev162 => ?_)
        have b163 : mm_b (0) (9) v162 := bd_rem ev162 b161 n_10 (by decide)
        refine mw_iconst dX10_isSo_15 ki_1 ?_
        refine mw_isub dX10_isSo_16 (fun v164 ev164 => ?_)
        have b165 : mm_b (-1) (8) v164 := bd_sub ev164 b163 n_1 (by decide)
        refine mw_istore (ls' := [(5, .int v164), (0, .ref 0), (1, .int x1), (2, .int x2), (3, .int y104), (4, .int y106)]) dX10_isSo_17 (by decide) rfl ?_
        refine mw_iload dX10_isSo_19 0 rfl ?_
        refine mw_if_lt (tgt := 42) dX10_isSo_21 (by decide) (fun q166 => ?_) (fun q166 => ?_)
        · skip
          have b167 : mm_b (-1) (-1) v164 := bd_lt_l q166 b165 n_0 (by decide)
          refine mw_iconst dX10_isSo_42 ki_0 ?_
          exact mw_zret rfl (bd_nar n_0 (by decide)) dX10_isSo_43 rfl rfl ⟨S101, _, rfl, rfl, hI102, hF103, bd_w n_0 (by decide), trivial⟩
        · skip
          have b168 : mm_b (0) (8) v164 := bd_le_r (bd_nlt q166) n_0 b165 (by decide)
          refine mw_iload_n dX10_isSo_24 rfl 3 rfl ?_
          refine mw_iload dX10_isSo_25 0 rfl ?_
          refine tc_Si (as := [.int x2, .int v164]) (st := []) dX10_isSo_27 rfl mX10_134 t_X10_isIn rfl (Nat.le_of_ble_eq_true rfl) (by decide) (by decide) (c_X10_isIn (g := g) S101 hI102 x2 v164) (fun S169 v171 h170 => ?_)
          obtain ⟨rfl, b172, x173⟩ := h170
          have x174 := isIn_b x173 h2 b168 (by decide)
          refine mw_if_eq (tgt := 42) dX10_isSo_30 (by decide) (fun q175 => ?_) (fun q175 => ?_)
          · skip
            have b176 : mm_b (0) (0) v171 := bd_eq_l q175 b172 n_0 (by decide)
            refine mw_iconst dX10_isSo_42 ki_0 ?_
            exact mw_zret rfl (bd_nar n_0 (by decide)) dX10_isSo_43 rfl rfl ⟨S101, _, rfl, rfl, hI102, hF103, bd_w n_0 (by decide), trivial⟩
          · skip
            have b177 : mm_b (1) (1) v171 := bd_ne_l q175 b172 n_0 (by decide)
            have b178 := Or.resolve_left x174 q175
            refine mw_iload_n dX10_isSo_33 rfl 4 rfl ?_
            refine mw_iload dX10_isSo_34 0 rfl ?_
            refine tc_Si (as := [.int y104, .int v164]) (st := []) dX10_isSo_36 rfl mX10_134 t_X10_isIn rfl (Nat.le_of_ble_eq_true rfl) (by decide) (by decide) (c_X10_isIn (g := g) S101 hI102 y104 v164) (fun S179 v181 h180 => ?_)
            obtain ⟨rfl, b182, x183⟩ := h180
            refine mw_if_eq (tgt := 44) dX10_isSo_39 (by decide) (fun q184 => ?_) (fun q184 => ?_)
            · skip
              have b185 : mm_b (0) (0) v181 := bd_eq_l q184 b182 n_0 (by decide)
              refine mw_iload_n dX10_isSo_44 rfl 4 rfl ?_
              refine mw_iconst dX10_isSo_45 ki_1 ?_
              refine mw_iload dX10_isSo_46 0 rfl ?_
              refine mw_ishl dX10_isSo_48 (fun v186 ev186 => ?_)
              have b187 : mm_b (1) (64) v186 := bd_shl 6 ev186 b178 (by decide)
              refine mw_ior dX10_isSo_49 (fun v188 ev188 => ?_)
              have b189 : mm_b (0) (127) v188 := bd_or 7 ev188 b105 b187 (by decide)
              refine mw_istore_n (ls' := [(3, .int v188), (5, .int v164), (0, .ref 0), (1, .int x1), (2, .int x2), (4, .int y106)]) dX10_isSo_50 rfl (by decide) rfl ?_
              refine mw_iload dX10_isSo_51 5 rfl ?_
              refine mw_bipush dX10_isSo_53 kb_10 ?_
              refine mw_idiv dX10_isSo_55 (bd_ne0 n_10 (by decide)) (fun v190 ev190 => ?_)
              have b191 : mm_b (0) (999) v190 := bd_div ev190 b161 n_10 (by decide)
              refine mw_istore (ls' := [(4, .int v190), (3, .int v188), (5, .int v164), (0, .ref 0), (1, .int x1), (2, .int x2)]) dX10_isSo_56 (by decide) rfl ?_
              refine mw_goto (tgt := 5) dX10_isSo_58 (by decide) ?_
              refine mw_ls [3, 4, 5, 1, 0] rfl ?_
              exact ih5 S101 v188 v190 (ms_div ev190 b161 n_10 (by decide) hm109) hI102 hF103 b189 (bd_w b191 (by decide)) (dgA_s hx108 b161 (by decide) ev162 n_10 ev164 n_1 (bd_w b178 (by decide)) ev190)
            · skip
              have b192 : mm_b (1) (1) v181 := bd_ne_l q184 b182 n_0 (by decide)
              refine mw_iconst dX10_isSo_42 ki_0 ?_
              exact mw_zret rfl (bd_nar n_0 (by decide)) dX10_isSo_43 rfl rfl ⟨S101, _, rfl, rfl, hI102, hF103, bd_w n_0 (by decide), trivial⟩
  refine mw_ls [2, 3, 4, 1, 0] rfl ?_
  exact cut5 _ S (0 : Int32) x1 (Nat.lt_succ_self _) hI hF (bd_w n_0 (by decide)) h1 (dgA_0 h1 (by decide))
