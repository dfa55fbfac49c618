set_option maxRecDepth 100000 in
set_option maxHeartbeats 4000000 in
theorem c_X10_parish {g : mm_G} (S : mm_S) (hI : JM S)  : mc g yX10_parish cX10_parish 2 (some .int) (mm_rm 5) [.ref 0] (mm_enc shM S) (qi shM (fun S1 v => JM S1 ∧ fr [1, 2, 3, 7] [5, 10, 11, 13, 15, 17, 18, 19, 20, 21, 22, 23] true false S S1 ∧ mm_b (-2147483648) (2147483647) v ∧ (True))) := by
  refine mc_of2 (own := RX10) (ini := false) (ls := [(0, .ref 0)]) (by decide) (Nat.le_of_ble_eq_true rfl) rfl (by decide) rfl ?_
  have hF : fr [1, 2, 3, 7] [5, 10, 11, 13, 15, 17, 18, 19, 20, 21, 22, 23] true false S S := fr_rf
  refine mw_aload_n dX10_parish_0 rfl 0 rfl ?_
  refine tw_getr (j := 1) dX10_parish_1 shM_0 rfl rfl (by decide) fX10_13 ?_
  refine tc_Sv (as := [.ref 2]) (st := []) dX10_parish_4 rfl mX10_51 t_X10_blank rfl (Nat.le_of_ble_eq_true rfl) (by decide) (by decide) (c_X10_blank2 (g := g) S hI) (fun S101 h102 => ?_)
  obtain ⟨hI104, hf105, x103⟩ := h102
  have hF106 := fr_tr hF hf105 (by decide) (by decide) (by decide) (by decide)
  refine mw_aload_n dX10_parish_7 rfl 0 rfl ?_
  refine mw_iconst dX10_parish_8 ki_0 ?_
  refine tw_puti (j := 18) dX10_parish_9 shM_0 rfl rfl (by decide) fX10_89 rfl (by decide +kernel) ?_
  have hI107 : JM (mm_up S101 0 18 0) := JIM_put hI104 n_0 (by decide +kernel)
  generalize hS108 : (mm_up S101 0 18 0) = S108 at hI107 ⊢
  have hF109 := fr_upF hF106 hS108 (by decide)
  refine mw_aload_n dX10_parish_12 rfl 0 rfl ?_
  refine mw_iconst dX10_parish_13 ki_m1 ?_
  refine tw_puti (j := 11) dX10_parish_14 shM_0 rfl rfl (by decide) fX10_35 rfl (by decide +kernel) ?_
  have hI110 : JM (mm_up S108 0 11 (-1)) := JIM_put hI107 n_m1 (by decide +kernel)
  generalize hS111 : (mm_up S108 0 11 (-1)) = S111 at hI110 ⊢
  have hF112 := fr_upF hF109 hS111 (by decide)
  refine mw_iconst dX10_parish_17 ki_1 ?_
  refine mw_istore_n (ls' := [(1, .int 1), (0, .ref 0)]) dX10_parish_18 rfl (by decide) rfl ?_
  refine mw_aload_n dX10_parish_19 rfl 1 rfl ?_
  refine tc_Vv (as := []) (st := []) dX10_parish_20 rfl shM_0 rfl rfl mX10_115 t_X10_step rfl (Nat.le_of_ble_eq_true rfl) (by decide) (by decide) (c_X10_step (g := g) S111 hI110) (fun S113 h114 => ?_)
  obtain ⟨hI116, hf117, x115⟩ := h114
  have hF118 := fr_tr hF112 hf117 (by decide) (by decide) (by decide) (by decide)
  have cut23 : ∀ (N23 : Nat) (S119 : mm_S) (y122 : Int32), prM S119 y122 < N23 → JM S119 → fr [1, 2, 3, 7] [5, 10, 11, 13, 15, 17, 18, 19, 20, 21, 22, 23] true false S S119 → mm_b (0) (1) y122 → mw g RX10 cX10_parish 2 (some .int) false (mm_rm 5) (qi shM (fun S1 v => JM S1 ∧ fr [1, 2, 3, 7] [5, 10, 11, 13, 15, 17, 18, 19, 20, 21, 22, 23] true false S S1 ∧ mm_b (-2147483648) (2147483647) v ∧ (True))) 0 0 (mm_enc shM S119) 23 [(0, .ref 0), (1, .int y122)] [] := by
    intro N23
    induction N23 with
    | zero =>
      intro S119 y122 hm124 hI120 hF121 b123
      exact absurd hm124 (Nat.not_lt_zero _)
    | succ N23 ih23 =>
      intro S119 y122 hm124 hI120 hF121 b123
      refine mw_aload_n dX10_parish_23 rfl 0 rfl ?_
      refine tw_geti (j := 20) dX10_parish_24 shM_0 rfl rfl (by decide) fX10_99 (fun v125 ev125 => ?_)
      have b126 : mm_b (-1) (255) v125 := JIM_fld hI120 ev125 tbM_7 (by decide)
      refine mw_if_lt (tgt := 50) dX10_parish_27 (by decide) (fun q127 => ?_) (fun q127 => ?_)
      · skip
        have b128 : mm_b (-1) (-1) v125 := bd_lt_l q127 b126 n_0 (by decide)
        refine mw_aload_n dX10_parish_50 rfl 0 rfl ?_
        refine mw_iconst dX10_parish_51 ki_0 ?_
        refine tw_puti (j := 10) dX10_parish_52 shM_0 rfl rfl (by decide) fX10_85 rfl (by decide +kernel) ?_
        have hI129 : JM (mm_up S119 0 10 0) := JIM_put hI120 n_0 (by decide +kernel)
        generalize hS130 : (mm_up S119 0 10 0) = S130 at hI129 ⊢
        have hF131 := fr_upF hF121 hS130 (by decide)
        refine mw_iload_n dX10_parish_55 rfl 1 rfl ?_
        refine mw_if_ne (tgt := 75) dX10_parish_56 (by decide) (fun q132 => ?_) (fun q132 => ?_)
        · skip
          have b133 : mm_b (1) (1) y122 := bd_ne_l q132 b123 n_0 (by decide)
          refine mw_aload_n dX10_parish_75 rfl 0 rfl ?_
          refine tw_getr (j := 1) dX10_parish_76 shM_0 rfl rfl (by decide) fX10_13 ?_
          refine mw_iconst dX10_parish_79 ki_0 ?_
          refine mw_aload_n dX10_parish_80 rfl 0 rfl ?_
          refine tw_getr (j := 0) dX10_parish_81 shM_0 rfl rfl (by decide) fX10_7 ?_
          refine mw_iconst dX10_parish_84 ki_0 ?_
          refine mw_bipush dX10_parish_85 kb_37 ?_
          refine tc_Sv (as := [.ref 2, .int 0, .ref 1, .int 0, .int 37]) (st := []) dX10_parish_87 rfl mX10_66 t_X10_copies rfl (Nat.le_of_ble_eq_true rfl) (by decide) (by decide) (c_X10_copies_21 (g := g) S130 hI129 (0 : Int32) n_0 (0 : Int32) n_0 (37 : Int32) n_37) (fun S134 h135 => ?_)
          obtain ⟨hI137, hf138, x136⟩ := h135
          have hF139 := fr_tr hF131 hf138 (by decide) (by decide) (by decide) (by decide)
          refine mw_aload_n dX10_parish_90 rfl 0 rfl ?_
          refine tc_Vv (as := []) (st := []) dX10_parish_91 rfl shM_0 rfl rfl mX10_55 t_X10_begins rfl (Nat.le_of_ble_eq_true rfl) (by decide) (by decide) (c_X10_begins (g := g) S134 hI137) (fun S140 h141 => ?_)
          obtain ⟨hI143, hf144, x142⟩ := h141
          have hF145 := fr_tr hF139 hf144 (by decide) (by decide) (by decide) (by decide)
          refine mw_aload_n dX10_parish_94 rfl 0 rfl ?_
          refine tw_getr (j := 0) dX10_parish_95 shM_0 rfl rfl (by decide) fX10_7 ?_
          refine mw_iconst dX10_parish_98 ki_0 ?_
          refine tw_iald dX10_parish_99 shM_1 (bd_in n_0 (by decide)) (fun v146 ev146 => ?_)
          rw [cl_0] at ev146
          have b147 : mm_b (0) (7) v146 := JIM_fld hI143 ev146 tbM_16 (by decide)
          exact mw_iret rfl dX10_parish_100 rfl rfl ⟨S140, _, rfl, rfl, hI143, hF145, bd_w b147 (by decide), trivial⟩
        · skip
          have b148 : mm_b (0) (0) y122 := bd_eq_l q132 b123 n_0 (by decide)
          refine mw_aload_n dX10_parish_59 rfl 0 rfl ?_
          refine mw_aload_n dX10_parish_60 rfl 0 rfl ?_
          refine tw_geti (j := 19) dX10_parish_61 shM_0 rfl rfl (by decide) fX10_96 (fun v149 ev149 => ?_)
          refine tw_puti (j := 11) dX10_parish_64 shM_0 rfl rfl (by decide) fX10_35 rfl (by decide +kernel) ?_
          have hI150 : JM (mm_up S130 0 11 v149) := JIM_put hI129 (bd_all v149) (by decide +kernel)
          generalize hS151 : (mm_up S130 0 11 v149) = S151 at hI150 ⊢
          have hF152 := fr_upF hF131 hS151 (by decide)
          refine mw_bipush dX10_parish_67 kb_m10 ?_
          refine mw_aload_n dX10_parish_69 rfl 0 rfl ?_
          refine tw_geti (j := 23) dX10_parish_70 shM_0 rfl rfl (by decide) fX10_112 (fun v153 ev153 => ?_)
          refine mw_isub dX10_parish_73 (fun v154 ev154 => ?_)
          exact mw_iret rfl dX10_parish_74 rfl rfl ⟨S151, _, rfl, rfl, hI150, hF152, (bd_all v154), trivial⟩
      · skip
        have b155 : mm_b (0) (255) v125 := bd_le_r (bd_nlt q127) n_0 b126 (by decide)
        refine mw_iload_n dX10_parish_30 rfl 1 rfl ?_
        refine mw_if_eq (tgt := 50) dX10_parish_31 (by decide) (fun q156 => ?_) (fun q156 => ?_)
        · skip
          have b157 : mm_b (0) (0) y122 := bd_eq_l q156 b123 n_0 (by decide)
          refine mw_aload_n dX10_parish_50 rfl 0 rfl ?_
          refine mw_iconst dX10_parish_51 ki_0 ?_
          refine tw_puti (j := 10) dX10_parish_52 shM_0 rfl rfl (by decide) fX10_85 rfl (by decide +kernel) ?_
          have hI158 : JM (mm_up S119 0 10 0) := JIM_put hI120 n_0 (by decide +kernel)
          generalize hS159 : (mm_up S119 0 10 0) = S159 at hI158 ⊢
          have hF160 := fr_upF hF121 hS159 (by decide)
          refine mw_iload_n dX10_parish_55 rfl 1 rfl ?_
          refine mw_if_ne (tgt := 75) dX10_parish_56 (by decide) (fun q161 => ?_) (fun q161 => ?_)
          · skip
            exact bd_fne q161 b157 n_0
          · skip
            refine mw_aload_n dX10_parish_59 rfl 0 rfl ?_
            refine mw_aload_n dX10_parish_60 rfl 0 rfl ?_
            refine tw_geti (j := 19) dX10_parish_61 shM_0 rfl rfl (by decide) fX10_96 (fun v162 ev162 => ?_)
            refine tw_puti (j := 11) dX10_parish_64 shM_0 rfl rfl (by decide) fX10_35 rfl (by decide +kernel) ?_
            have hI163 : JM (mm_up S159 0 11 v162) := JIM_put hI158 (bd_all v162) (by decide +kernel)
            generalize hS164 : (mm_up S159 0 11 v162) = S164 at hI163 ⊢
            have hF165 := fr_upF hF160 hS164 (by decide)
            refine mw_bipush dX10_parish_67 kb_m10 ?_
            refine mw_aload_n dX10_parish_69 rfl 0 rfl ?_
            refine tw_geti (j := 23) dX10_parish_70 shM_0 rfl rfl (by decide) fX10_112 (fun v166 ev166 => ?_)
            refine mw_isub dX10_parish_73 (fun v167 ev167 => ?_)
            exact mw_iret rfl dX10_parish_74 rfl rfl ⟨S164, _, rfl, rfl, hI163, hF165, (bd_all v167), trivial⟩
        · skip
          have b168 : mm_b (1) (1) y122 := bd_ne_l q156 b123 n_0 (by decide)
          refine mw_aload_n dX10_parish_34 rfl 0 rfl ?_
          refine tc_Vi (as := []) (st := []) dX10_parish_35 rfl shM_0 rfl rfl mX10_150 t_X10_readsClause rfl (Nat.le_of_ble_eq_true rfl) (by decide) (by decide) (c_X10_readsClause (g := g) S119 hI120) (fun S169 v171 h170 => ?_)
          obtain ⟨hI175, hf176, b172, x173⟩ := h170
          have hF177 := fr_tr hF121 hf176 (by decide) (by decide) (by decide) (by decide)
          refine mw_istore_n (ls' := [(1, .int v171), (0, .ref 0)]) dX10_parish_38 rfl (by decide) rfl ?_
          refine mw_iload_n dX10_parish_39 rfl 0 rfl ?_
          refine mw_if_eq (tgt := 23) dX10_parish_40 (by decide) (fun q178 => ?_) (fun q178 => ?_)
          · skip
            have b179 : mm_b (0) (0) v171 := bd_eq_l q178 b172 n_0 (by decide)
            refine mw_ls [1, 0] rfl ?_
            exact ih23 S169 v171 (pr_1 hm124 ev125 (bd_w b155 (by decide)) b168 hI120 b179) hI175 hF177 (bd_w b179 (by decide))
          · skip
            have b180 : mm_b (1) (1) v171 := bd_ne_l q178 b172 n_0 (by decide)
            have b181 := Or.resolve_left x173 q178
            obtain ⟨v182, ev182⟩ : ∃ y : Int32, y = S119.1 0 20 := ⟨_, rfl⟩
            have b183 : mm_b (99) (119) v182 := by rw [ev182]; exact b181
            refine mw_aload_n dX10_parish_43 rfl 1 rfl ?_
            refine tc_Vv (as := []) (st := []) dX10_parish_44 rfl shM_0 rfl rfl mX10_115 t_X10_step rfl (Nat.le_of_ble_eq_true rfl) (by decide) (by decide) (c_X10_step (g := g) S169 hI175) (fun S184 h185 => ?_)
            obtain ⟨hI187, hf188, x186⟩ := h185
            have hF189 := fr_tr hF177 hf188 (by decide) (by decide) (by decide) (by decide)
            refine mw_goto (tgt := 23) dX10_parish_47 (by decide) ?_
            refine mw_ls [1, 0] rfl ?_
            exact ih23 S184 v171 (pr_2 hm124 ev182 (bd_w b183 (by decide)) b168 hI120 hf176 x186) hI187 hF189 (bd_w b180 (by decide))
  refine mw_ls [1, 0] rfl ?_
  exact cut23 _ S113 (1 : Int32) (Nat.lt_succ_self _) hI116 hF118 (bd_w n_1 (by decide))
