def F_X10_begins_L2tc68 (S110 : mm_S) : mm_S := (mm_up (mm_up (mm_up (mm_up (mm_up (mm_up (mm_up (mm_up S110 3 28 (((1 : Int32) <<< ((S110.1 1 0) &&& 31)) - (1 : Int32))) 3 29 (0 : Int32)) 0 5 (0 : Int32)) 0 13 (0 : Int32)) 0 15 (0 : Int32)) 0 17 (0 : Int32)) 7 0 (0 : Int32)) 7 1 (0 : Int32))
def F_X10_begins_L2  : Nat → mm_S → Int32 → mm_S
  | 0, S101, _ => S101
  | N + 1, S101, y104 => (if (7 : Int32) ≤ y104 then (F_X10_begins_L2tc68 (F_X10_copies_13 S101 (10 : Int32) (14 : Int32) (14 : Int32))) else (if (S101.1 1 (((3 : Int32) + y104)).toNatClampNeg) = (9 : Int32) then ((F_X10_begins_L2  N) (mm_up (mm_up S101 3 (((0 : Int32) + y104)).toNatClampNeg (9 : Int32)) 3 (((7 : Int32) + y104)).toNatClampNeg (0 : Int32)) (y104 + Int32.ofInt 1)) else ((F_X10_begins_L2  N) (mm_up (mm_up S101 3 (((0 : Int32) + y104)).toNatClampNeg y104) 3 (((7 : Int32) + y104)).toNatClampNeg (0 : Int32)) (y104 + Int32.ofInt 1))))
def F_X10_begins (S : mm_S)  : mm_S := (F_X10_begins_L2  9 S (0 : Int32))
set_option maxRecDepth 100000 in
set_option maxHeartbeats 4000000 in
theorem cx_X10_begins {g : mm_G} (S : mm_S) (hI : JM S)  : mc g yX10_begins cX10_begins 2 none (mm_rm 1) [.ref 0] (mm_enc shM S) (qv shM (fun S1 => JM S1 ∧ fr [3, 7] [5, 13, 15, 17] true true S S1 ∧ True ∧ F_X10_begins S = S1)) := by
  refine mc_of2 (own := RX10) (ini := false) (ls := [(0, .ref 0)]) (by decide) (Nat.le_of_ble_eq_true rfl) rfl (by decide) rfl ?_
  have hF : fr [3, 7] [5, 13, 15, 17] true true S S := fr_rf
  refine mw_iconst dX10_begins_0 ki_0 ?_
  refine mw_istore_n (ls' := [(1, .int 0), (0, .ref 0)]) dX10_begins_1 rfl (by decide) rfl ?_
  have cut2 : ∀ (N2 : Nat) (S101 : mm_S) (y104 : Int32), ((8 : Int) - y104.toInt).toNat < N2 → JM S101 → fr [3, 7] [5, 13, 15, 17] true true S S101 → mm_b (0) (7) y104 → F_X10_begins S = F_X10_begins_L2  N2 S101 y104 → mw g RX10 cX10_begins 2 none false (mm_rm 1) (qv shM (fun S1 => JM S1 ∧ fr [3, 7] [5, 13, 15, 17] true true S S1 ∧ True ∧ F_X10_begins S = S1)) 0 0 (mm_enc shM S101) 2 [(0, .ref 0), (1, .int y104)] [] := by
    intro N2
    induction N2 with
    | zero =>
      intro S101 y104 hm106 hI102 hF103 b105 hE107
      exact absurd hm106 (Nat.not_lt_zero _)
    | succ N2 ih2 =>
      intro S101 y104 hm106 hI102 hF103 b105 hE107
      refine mw_iload_n dX10_begins_2 rfl 1 rfl ?_
      refine mw_bipush dX10_begins_3 kb_7 ?_
      refine mw_icmp_ge (tgt := 51) dX10_begins_5 (by decide) (fun q108 => ?_) (fun q108 => ?_)
      · skip
        have b109 : mm_b (7) (7) y104 := bd_le_r q108 n_7 b105 (by decide)
        refine mw_aload_n dX10_begins_51 rfl 0 rfl ?_
        refine tw_getr (j := 0) dX10_begins_52 shM_0 rfl rfl (by decide) fX10_7 ?_
        refine mw_bipush dX10_begins_55 kb_10 ?_
        refine mw_aload_n dX10_begins_57 rfl 0 rfl ?_
        refine tw_getr (j := 2) dX10_begins_58 shM_0 rfl rfl (by decide) fX10_16 ?_
        refine mw_bipush dX10_begins_61 kb_14 ?_
        refine mw_bipush dX10_begins_63 kb_14 ?_
        refine tc_Sv (as := [.ref 1, .int 10, .ref 3, .int 14, .int 14]) (st := []) dX10_begins_65 rfl mX10_66 t_X10_copies rfl (Nat.le_of_ble_eq_true rfl) (by decide) (by decide) (cx_X10_copies_13 (g := g) S101 hI102 (10 : Int32) n_10 (14 : Int32) n_14 (14 : Int32) n_14) (fun S110 h111 => ?_)
        obtain ⟨hI114, hf115, x112, hx113⟩ := h111
        have hF116 := fr_tr hF103 hf115 (by decide) (by decide) (by decide) (by decide)
        have hE117 : F_X10_begins S = F_X10_begins_L2tc68 S110 := (by exact hE107.trans (by rw [F_X10_begins_L2, if_pos q108, hx113]))
        refine mw_aload_n dX10_begins_68 rfl 0 rfl ?_
        refine tw_getr (j := 2) dX10_begins_69 shM_0 rfl rfl (by decide) fX10_16 ?_
        refine mw_bipush dX10_begins_72 kb_28 ?_
        refine mw_iconst dX10_begins_74 ki_1 ?_
        refine mw_aload_n dX10_begins_75 rfl 0 rfl ?_
        refine tw_getr (j := 0) dX10_begins_76 shM_0 rfl rfl (by decide) fX10_7 ?_
        refine mw_iconst dX10_begins_79 ki_0 ?_
        refine tw_iald dX10_begins_80 shM_1 (bd_in n_0 (by decide)) (fun v118 ev118 => ?_)
        rw [cl_0] at ev118
        have b119 : mm_b (0) (7) v118 := JIM_fld hI114 ev118 tbM_16 (by decide)
        refine mw_ishl dX10_begins_81 (fun v120 ev120 => ?_)
        have b121 : mm_b (1) (128) v120 := bd_shl 7 ev120 b119 (by decide)
        refine mw_iconst dX10_begins_82 ki_1 ?_
        refine mw_isub dX10_begins_83 (fun v122 ev122 => ?_)
        have b123 : mm_b (0) (127) v122 := bd_sub ev122 b121 n_1 (by decide)
        refine tw_iast dX10_begins_84 shM_3 (bd_in n_28 (by decide)) ?_
        rw [cl_28]
        have hI124 : JM (mm_up S110 3 28 v122) := JIM_put hI114 b123 (by decide +kernel)
        generalize hS125 : (mm_up S110 3 28 v122) = S125 at hI124 ⊢
        have hF126 := fr_upA hF116 hS125 (by decide)
        refine mw_aload_n dX10_begins_85 rfl 0 rfl ?_
        refine tw_getr (j := 2) dX10_begins_86 shM_0 rfl rfl (by decide) fX10_16 ?_
        refine mw_bipush dX10_begins_89 kb_29 ?_
        refine mw_iconst dX10_begins_91 ki_0 ?_
        refine tw_iast dX10_begins_92 shM_3 (bd_in n_29 (by decide)) ?_
        rw [cl_29]
        have hI127 : JM (mm_up S125 3 29 0) := JIM_put hI124 n_0 (by decide +kernel)
        generalize hS128 : (mm_up S125 3 29 0) = S128 at hI127 ⊢
        have hF129 := fr_upA hF126 hS128 (by decide)
        refine mw_aload_n dX10_begins_93 rfl 0 rfl ?_
        refine mw_iconst dX10_begins_94 ki_0 ?_
        refine tw_puti (j := 5) dX10_begins_95 shM_0 rfl rfl (by decide) fX10_70 rfl (by decide +kernel) ?_
        have hI130 : JM (mm_up S128 0 5 0) := JIM_put hI127 n_0 (by decide +kernel)
        generalize hS131 : (mm_up S128 0 5 0) = S131 at hI130 ⊢
        have hF132 := fr_upF hF129 hS131 (by decide)
        refine mw_aload_n dX10_begins_98 rfl 0 rfl ?_
        refine mw_iconst dX10_begins_99 ki_0 ?_
        refine tw_puti (j := 13) dX10_begins_100 shM_0 rfl rfl (by decide) fX10_73 rfl (by decide +kernel) ?_
        have hI133 : JM (mm_up S131 0 13 0) := JIM_put hI130 n_0 (by decide +kernel)
        generalize hS134 : (mm_up S131 0 13 0) = S134 at hI133 ⊢
        have hF135 := fr_upF hF132 hS134 (by decide)
        refine mw_aload_n dX10_begins_103 rfl 0 rfl ?_
        refine mw_iconst dX10_begins_104 ki_0 ?_
        refine tw_puti (j := 15) dX10_begins_105 shM_0 rfl rfl (by decide) fX10_76 rfl (by decide +kernel) ?_
        have hI136 : JM (mm_up S134 0 15 0) := JIM_put hI133 n_0 (by decide +kernel)
        generalize hS137 : (mm_up S134 0 15 0) = S137 at hI136 ⊢
        have hF138 := fr_upF hF135 hS137 (by decide)
        refine mw_aload_n dX10_begins_108 rfl 0 rfl ?_
        refine mw_iconst dX10_begins_109 ki_0 ?_
        refine tw_puti (j := 17) dX10_begins_110 shM_0 rfl rfl (by decide) fX10_79 rfl (by decide +kernel) ?_
        have hI139 : JM (mm_up S137 0 17 0) := JIM_put hI136 n_0 (by decide +kernel)
        generalize hS140 : (mm_up S137 0 17 0) = S140 at hI139 ⊢
        have hF141 := fr_upF hF138 hS140 (by decide)
        refine mw_aload_n dX10_begins_113 rfl 0 rfl ?_
        refine tw_getr (j := 7) dX10_begins_114 shM_0 rfl rfl (by decide) fX10_28 ?_
        refine mw_iconst dX10_begins_117 ki_0 ?_
        refine mw_iconst dX10_begins_118 ki_0 ?_
        refine tw_zast dX10_begins_119 shM_7 (bd_in n_0 (by decide)) (bd_bool n_0 (by decide)) ?_
        rw [cl_0]
        have hI142 : JM (mm_up S140 7 0 0) := JIM_put hI139 n_0 (by decide +kernel)
        generalize hS143 : (mm_up S140 7 0 0) = S143 at hI142 ⊢
        have hF144 := fr_upA hF141 hS143 (by decide)
        refine mw_aload_n dX10_begins_120 rfl 0 rfl ?_
        refine tw_getr (j := 7) dX10_begins_121 shM_0 rfl rfl (by decide) fX10_28 ?_
        refine mw_iconst dX10_begins_124 ki_1 ?_
        refine mw_iconst dX10_begins_125 ki_0 ?_
        refine tw_zast dX10_begins_126 shM_7 (bd_in n_1 (by decide)) (bd_bool n_0 (by decide)) ?_
        rw [cl_1]
        have hI145 : JM (mm_up S143 7 1 0) := JIM_put hI142 n_0 (by decide +kernel)
        generalize hS146 : (mm_up S143 7 1 0) = S146 at hI145 ⊢
        have hF147 := fr_upA hF144 hS146 (by decide)
        exact mw_vret rfl dX10_begins_127 rfl rfl ⟨S146, rfl, rfl, ⟨hI145, hF147, trivial, (by subst hS146; subst hS143; subst hS140; subst hS137; subst hS134; subst hS131; subst hS128; subst hS125; subst ev122; subst ev120; subst ev118; exact hE117.trans (by rw [F_X10_begins_L2tc68]))⟩⟩
      · skip
        have b148 : mm_b (0) (6) y104 := bd_lt_l (bd_nle q108) b105 n_7 (by decide)
        refine mw_aload_n dX10_begins_8 rfl 0 rfl ?_
        refine tw_getr (j := 2) dX10_begins_9 shM_0 rfl rfl (by decide) fX10_16 ?_
        refine mw_iconst dX10_begins_12 ki_0 ?_
        refine mw_iload_n dX10_begins_13 rfl 1 rfl ?_
        refine mw_iadd dX10_begins_14 (fun v149 ev149 => ?_)
        have b150 : mm_b (0) (6) v149 := bd_add ev149 n_0 b148 (by decide)
        refine mw_aload_n dX10_begins_15 rfl 0 rfl ?_
        refine tw_getr (j := 0) dX10_begins_16 shM_0 rfl rfl (by decide) fX10_7 ?_
        refine mw_iconst dX10_begins_19 ki_3 ?_
        refine mw_iload_n dX10_begins_20 rfl 1 rfl ?_
        refine mw_iadd dX10_begins_21 (fun v151 ev151 => ?_)
        have b152 : mm_b (3) (9) v151 := bd_add ev151 n_3 b148 (by decide)
        refine tw_iald dX10_begins_22 shM_1 (bd_in b152 (by decide)) (fun v153 ev153 => ?_)
        have b154 : mm_b (0) (9) v153 := JIM_elt hI102 ev153 b152 tbM_19 (by decide)
        refine mw_bipush dX10_begins_23 kb_9 ?_
        refine mw_icmp_ne (tgt := 33) dX10_begins_25 (by decide) (fun q155 => ?_) (fun q155 => ?_)
        · skip
          have b156 : mm_b (0) (8) v153 := bd_ne_l q155 b154 n_9 (by decide)
          refine mw_iload_n dX10_begins_33 rfl 1 rfl ?_
          refine tw_iast dX10_begins_34 shM_3 (bd_in b150 (by decide)) ?_
          have hI157 : JM (mm_up S101 3 v149.toNatClampNeg y104) := JIM_puta hI102 b148 b150 (by decide) (by decide +kernel)
          generalize hS158 : (mm_up S101 3 v149.toNatClampNeg y104) = S158 at hI157 ⊢
          have hF159 := fr_upA hF103 hS158 (by decide)
          refine mw_aload_n dX10_begins_35 rfl 0 rfl ?_
          refine tw_getr (j := 2) dX10_begins_36 shM_0 rfl rfl (by decide) fX10_16 ?_
          refine mw_bipush dX10_begins_39 kb_7 ?_
          refine mw_iload_n dX10_begins_41 rfl 1 rfl ?_
          refine mw_iadd dX10_begins_42 (fun v160 ev160 => ?_)
          have b161 : mm_b (7) (13) v160 := bd_add ev160 n_7 b148 (by decide)
          refine mw_iconst dX10_begins_43 ki_0 ?_
          refine tw_iast dX10_begins_44 shM_3 (bd_in b161 (by decide)) ?_
          have hI162 : JM (mm_up S158 3 v160.toNatClampNeg 0) := JIM_puta hI157 n_0 b161 (by decide) (by decide +kernel)
          generalize hS163 : (mm_up S158 3 v160.toNatClampNeg 0) = S163 at hI162 ⊢
          have hF164 := fr_upA hF159 hS163 (by decide)
          refine mw_iinc (ls' := fun v => [(1, .int v), (0, .ref 0)]) dX10_begins_45 1 rfl (by decide) (fun _ => rfl) (fun v165 ev165 => ?_)
          have b166 : mm_b (1) (7) v165 := bd_inc ev165 b148 (by decide)
          refine mw_goto (tgt := 2) dX10_begins_48 (by decide) ?_
          refine mw_ls [1, 0] rfl ?_
          exact ih2 S163 v165 (ms_inc ev165 b148 (by decide) hm106) hI162 hF164 (bd_w b166 (by decide)) (by subst ev165; subst hS163; subst ev160; subst hS158; subst ev153; subst ev151; subst ev149; exact hE107.trans (by rw [F_X10_begins_L2, if_neg q108, if_neg q155]))
        · skip
          have b167 : mm_b (9) (9) v153 := bd_eq_l q155 b154 n_9 (by decide)
          refine mw_bipush dX10_begins_28 kb_9 ?_
          refine mw_goto (tgt := 34) dX10_begins_30 (by decide) ?_
          refine tw_iast dX10_begins_34 shM_3 (bd_in b150 (by decide)) ?_
          have hI168 : JM (mm_up S101 3 v149.toNatClampNeg 9) := JIM_puta hI102 n_9 b150 (by decide) (by decide +kernel)
          generalize hS169 : (mm_up S101 3 v149.toNatClampNeg 9) = S169 at hI168 ⊢
          have hF170 := fr_upA hF103 hS169 (by decide)
          refine mw_aload_n dX10_begins_35 rfl 0 rfl ?_
          refine tw_getr (j := 2) dX10_begins_36 shM_0 rfl rfl (by decide) fX10_16 ?_
          refine mw_bipush dX10_begins_39 kb_7 ?_
          refine mw_iload_n dX10_begins_41 rfl 1 rfl ?_
          refine mw_iadd dX10_begins_42 (fun v171 ev171 => ?_)
          have b172 : mm_b (7) (13) v171 := bd_add ev171 n_7 b148 (by decide)
          refine mw_iconst dX10_begins_43 ki_0 ?_
          refine tw_iast dX10_begins_44 shM_3 (bd_in b172 (by decide)) ?_
          have hI173 : JM (mm_up S169 3 v171.toNatClampNeg 0) := JIM_puta hI168 n_0 b172 (by decide) (by decide +kernel)
          generalize hS174 : (mm_up S169 3 v171.toNatClampNeg 0) = S174 at hI173 ⊢
          have hF175 := fr_upA hF170 hS174 (by decide)
          refine mw_iinc (ls' := fun v => [(1, .int v), (0, .ref 0)]) dX10_begins_45 1 rfl (by decide) (fun _ => rfl) (fun v176 ev176 => ?_)
          have b177 : mm_b (1) (7) v176 := bd_inc ev176 b148 (by decide)
          refine mw_goto (tgt := 2) dX10_begins_48 (by decide) ?_
          refine mw_ls [1, 0] rfl ?_
          exact ih2 S174 v176 (ms_inc ev176 b148 (by decide) hm106) hI173 hF175 (bd_w b177 (by decide)) (by subst ev176; subst hS174; subst ev171; subst hS169; subst ev153; subst ev151; subst ev149; exact hE107.trans (by rw [F_X10_begins_L2, if_neg q108, if_pos q155]))
  refine mw_ls [1, 0] rfl ?_
  exact cut2 9 S (0 : Int32) (by have hz := n_0; omega) hI hF (bd_w n_0 (by decide)) (by rw [F_X10_begins])
def F_X10_lives3 (S : mm_S) (x1 : Int32) : Int32 := (if x1 = (9 : Int32) then (0 : Int32) else (if (F_X10_isIn S (S.1 3 28) x1) = (0 : Int32) then (0 : Int32) else (1 : Int32)))
set_option maxRecDepth 100000 in
set_option maxHeartbeats 4000000 in
theorem cx_X10_lives3 {g : mm_G} (S : mm_S) (hI : JM S) (x1 : Int32) (h1 : mm_b (0) (9) x1) : mc g yX10_lives cX10_lives 2 (some .boolean) (mm_rm 1) [.ref 3, .int x1] (mm_enc shM S) (qi shM (fun S1 v => S = S1 ∧ mm_b (0) (1) v ∧ (v = 0 ∨ (mm_b (0) (6) x1)) ∧ F_X10_lives3 S x1 = v)) := by
  refine mc_of2 (own := RX10) (ini := false) (ls := [(0, .ref 3), (1, .int x1)]) (by decide) (Nat.le_of_ble_eq_true rfl) rfl (by decide) rfl ?_
  refine mw_iload_n dX10_lives_0 rfl 1 rfl ?_
  refine mw_bipush dX10_lives_1 kb_9 ?_
  refine mw_icmp_eq (tgt := 21) dX10_lives_3 (by decide) (fun q101 => ?_) (fun q101 => ?_)
  · skip
    have b102 : mm_b (9) (9) x1 := bd_eq_l q101 h1 n_9 (by decide)
    refine mw_iconst dX10_lives_21 ki_0 ?_
    exact mw_zret rfl (bd_nar n_0 (by decide)) dX10_lives_22 rfl rfl ⟨S, _, rfl, rfl, rfl, bd_w n_0 (by decide), Or.inl rfl, (by rw [F_X10_lives3, if_pos q101])⟩
  · skip
    have b103 : mm_b (0) (8) x1 := bd_ne_l q101 h1 n_9 (by decide)
    refine mw_aload_n dX10_lives_6 rfl 0 rfl ?_
    refine mw_bipush dX10_lives_7 kb_28 ?_
    refine tw_iald dX10_lives_9 shM_3 (bd_in n_28 (by decide)) (fun v104 ev104 => ?_)
    rw [cl_28] at ev104
    have b105 : mm_b (0) (127) v104 := JIM_fld hI ev104 tbM_32 (by decide)
    refine mw_iload_n dX10_lives_10 rfl 1 rfl ?_
    refine tc_Si (as := [.int v104, .int x1]) (st := []) dX10_lives_11 rfl mX10_134 t_X10_isIn rfl (Nat.le_of_ble_eq_true rfl) (by decide) (by decide) (cx_X10_isIn (g := g) S hI v104 x1) (fun S106 v108 h107 => ?_)
    obtain ⟨rfl, b109, x110, hx111⟩ := h107
    have x112 := isIn_b x110 b105 b103 (by decide)
    refine mw_if_eq (tgt := 21) dX10_lives_14 (by decide) (fun q113 => ?_) (fun q113 => ?_)
    · skip
      have b114 : mm_b (0) (0) v108 := bd_eq_l q113 b109 n_0 (by decide)
      refine mw_iconst dX10_lives_21 ki_0 ?_
      exact mw_zret rfl (bd_nar n_0 (by decide)) dX10_lives_22 rfl rfl ⟨S, _, rfl, rfl, rfl, bd_w n_0 (by decide), Or.inl rfl, (by subst hx111; subst ev104; rw [F_X10_lives3, if_neg q101, if_pos q113])⟩
    · skip
      have b115 : mm_b (1) (1) v108 := bd_ne_l q113 b109 n_0 (by decide)
      have b116 := Or.resolve_left x112 q113
      refine mw_iconst dX10_lives_17 ki_1 ?_
      refine mw_goto (tgt := 22) dX10_lives_18 (by decide) ?_
      exact mw_zret rfl (bd_nar n_1 (by decide)) dX10_lives_22 rfl rfl ⟨S, _, rfl, rfl, rfl, bd_w n_1 (by decide), Or.inr (bd_w b116 (by decide)), (by subst hx111; subst ev104; rw [F_X10_lives3, if_neg q101, if_neg q113])⟩
def F_X10_dies3_L125  : Nat → mm_S → Int32 → Int32 → Int32 → Int32 × mm_S
  | 0, S134, _, _, _ => (0, S134)
  | N + 1, S134, y137, y139, y141 => (if (7 : Int32) ≤ y141 then (y139, S134) else (if (F_X10_isIn S134 y137 y141) = (0 : Int32) then ((F_X10_dies3_L125  N) S134 y137 y139 (y141 + Int32.ofInt 1)) else (if (F_X10_leastMute3 S134) = (-1 : Int32) then ((F_X10_dies3_L125  N) S134 y137 y139 (y141 + Int32.ofInt 1)) else ((F_X10_dies3_L125  N) (mm_up S134 3 (((0 : Int32) + (F_X10_leastMute3 S134))).toNatClampNeg y141) y137 y139 (y141 + Int32.ofInt 1)))))
def F_X10_dies3_fu64ttfc122 (S256 : mm_S) (v107 : Int32) (v206 : Int32) : Int32 × mm_S := (F_X10_dies3_L125  9 S256 v107 v206 (0 : Int32))
def F_X10_dies3_fu64 (S130 : mm_S) (v180 : Int32) (x2 : Int32) (v107 : Int32) (v103 : Int32) : Int32 × mm_S := (if (F_X10_lives3 S130 v180) = (0 : Int32) then (if (F_X10_lives3 S130 (S130.1 3 (((21 : Int32) + x2)).toNatClampNeg)) = (0 : Int32) then (if (F_X10_leastMute3 S130) = (-1 : Int32) then (F_X10_dies3_L125  9 S130 v107 (F_X10_leastMute3 S130) (0 : Int32)) else (F_X10_dies3_fu64ttfc122 (F_X10_gets3 S130 (F_X10_leastMute3 S130) v103) v107 (F_X10_leastMute3 S130))) else (F_X10_dies3_fu64ttfc122 (F_X10_gets3 S130 (S130.1 3 (((21 : Int32) + x2)).toNatClampNeg) v103) v107 (S130.1 3 (((21 : Int32) + x2)).toNatClampNeg))) else (F_X10_dies3_fu64ttfc122 (F_X10_gets3 S130 v180 v103) v107 v180))
def F_X10_dies3 (S : mm_S) (x2 : Int32) : Int32 × mm_S := (if (S.1 3 (((0 : Int32) + x2)).toNatClampNeg) = (9 : Int32) then (F_X10_dies3_L125  9 (mm_up (mm_up (mm_up (mm_up S 3 28 ((S.1 3 28) &&& (((1 : Int32) <<< (x2 &&& 31)) ^^^ (-1 : Int32)))) 3 (((0 : Int32) + x2)).toNatClampNeg (9 : Int32)) 3 (((7 : Int32) + x2)).toNatClampNeg (0 : Int32)) 3 29 ((S.1 3 29) + (1 : Int32))) (S.1 3 (((7 : Int32) + x2)).toNatClampNeg) (-1 : Int32) (0 : Int32)) else (F_X10_dies3_fu64 (mm_up (mm_up (mm_up (mm_up S 3 28 ((S.1 3 28) &&& (((1 : Int32) <<< (x2 &&& 31)) ^^^ (-1 : Int32)))) 3 (((0 : Int32) + x2)).toNatClampNeg (9 : Int32)) 3 (((7 : Int32) + x2)).toNatClampNeg (0 : Int32)) 3 29 ((S.1 3 29) + (1 : Int32))) ((mm_up (mm_up (mm_up S 3 28 ((S.1 3 28) &&& (((1 : Int32) <<< (x2 &&& 31)) ^^^ (-1 : Int32)))) 3 (((0 : Int32) + x2)).toNatClampNeg (9 : Int32)) 3 (((7 : Int32) + x2)).toNatClampNeg (0 : Int32)).1 3 (((14 : Int32) + x2)).toNatClampNeg) x2 (S.1 3 (((7 : Int32) + x2)).toNatClampNeg) (S.1 3 (((0 : Int32) + x2)).toNatClampNeg)))
set_option maxRecDepth 100000 in
set_option maxHeartbeats 4000000 in
theorem cx_X10_dies3 {g : mm_G} (S : mm_S) (hI : JM S) (x2 : Int32) (h2 : mm_b (0) (6) x2) : mc g yX10_dies cX10_dies 8 (some .int) (mm_rm 2) [.ref 0, .ref 3, .int x2] (mm_enc shM S) (qi shM (fun S1 v => JM S1 ∧ fr [3] [] true true S S1 ∧ mm_b (-1) (6) v ∧ (True) ∧ F_X10_dies3 S x2 = (v, S1))) := by
  refine mc_of2 (own := RX10) (ini := false) (ls := [(0, .ref 0), (1, .ref 3), (2, .int x2)]) (by decide) (Nat.le_of_ble_eq_true rfl) rfl (by decide) rfl ?_
  have hF : fr [3] [] true true S S := fr_rf
  refine mw_aload_n dX10_dies_0 rfl 1 rfl ?_
  refine mw_iconst dX10_dies_1 ki_0 ?_
  refine mw_iload_n dX10_dies_2 rfl 2 rfl ?_
  refine mw_iadd dX10_dies_3 (fun v101 ev101 => ?_)
  have b102 : mm_b (0) (6) v101 := bd_add ev101 n_0 h2 (by decide)
  refine tw_iald dX10_dies_4 shM_3 (bd_in b102 (by decide)) (fun v103 ev103 => ?_)
  have b104 : mm_b (0) (9) v103 := JIM_elt hI ev103 b102 tbM_30 (by decide)
  refine mw_istore_n (ls' := [(3, .int v103), (0, .ref 0), (1, .ref 3), (2, .int x2)]) dX10_dies_5 rfl (by decide) rfl ?_
  refine mw_aload_n dX10_dies_6 rfl 2 rfl ?_
  refine mw_bipush dX10_dies_7 kb_7 ?_
  refine mw_iload_n dX10_dies_9 rfl 3 rfl ?_
  refine mw_iadd dX10_dies_10 (fun v105 ev105 => ?_)
  have b106 : mm_b (7) (13) v105 := bd_add ev105 n_7 h2 (by decide)
  refine tw_iald dX10_dies_11 shM_3 (bd_in b106 (by decide)) (fun v107 ev107 => ?_)
  refine mw_istore (ls' := [(4, .int v107), (3, .int v103), (0, .ref 0), (1, .ref 3), (2, .int x2)]) dX10_dies_12 (by decide) rfl ?_
  refine mw_iconst dX10_dies_14 ki_m1 ?_
  refine mw_istore (ls' := [(5, .int (-1)), (4, .int v107), (3, .int v103), (0, .ref 0), (1, .ref 3), (2, .int x2)]) dX10_dies_15 (by decide) rfl ?_
  refine mw_aload_n dX10_dies_17 rfl 4 rfl ?_
  refine mw_bipush dX10_dies_18 kb_28 ?_
  refine mw_dup2 dX10_dies_20 rfl rfl ?_
  refine tw_iald dX10_dies_21 shM_3 (bd_in n_28 (by decide)) (fun v108 ev108 => ?_)
  rw [cl_28] at ev108
  have b109 : mm_b (0) (127) v108 := JIM_fld hI ev108 tbM_32 (by decide)
  refine mw_iconst dX10_dies_22 ki_1 ?_
  refine mw_iload_n dX10_dies_23 rfl 5 rfl ?_
  refine mw_ishl dX10_dies_24 (fun v110 ev110 => ?_)
  have b111 : mm_b (1) (64) v110 := bd_shl 6 ev110 h2 (by decide)
  refine mw_iconst dX10_dies_25 ki_m1 ?_
  refine mw_ixor dX10_dies_26 (fun v112 ev112 => ?_)
  refine mw_iand dX10_dies_27 (fun v113 ev113 => ?_)
  have b114 : mm_b (0) (127) v113 := bd_and ev113 b109 (by decide)
  refine tw_iast dX10_dies_28 shM_3 (bd_in n_28 (by decide)) ?_
  rw [cl_28]
  have hI115 : JM (mm_up S 3 28 v113) := JIM_put hI b114 (by decide +kernel)
  generalize hS116 : (mm_up S 3 28 v113) = S116 at hI115 ⊢
  have hF117 := fr_upA hF hS116 (by decide)
  refine mw_aload_n dX10_dies_29 rfl 4 rfl ?_
  refine mw_iconst dX10_dies_30 ki_0 ?_
  refine mw_iload_n dX10_dies_31 rfl 5 rfl ?_
  refine mw_iadd dX10_dies_32 (fun v118 ev118 => ?_)
  have cv118 : v101 = v118 := ev101.trans ev118.symm
  subst cv118
  refine mw_bipush dX10_dies_33 kb_9 ?_
  refine tw_iast dX10_dies_35 shM_3 (bd_in b102 (by decide)) ?_
  have hI119 : JM (mm_up S116 3 v101.toNatClampNeg 9) := JIM_puta hI115 n_9 b102 (by decide) (by decide +kernel)
  generalize hS120 : (mm_up S116 3 v101.toNatClampNeg 9) = S120 at hI119 ⊢
  have hF121 := fr_upA hF117 hS120 (by decide)
  refine mw_aload_n dX10_dies_36 rfl 4 rfl ?_
  refine mw_bipush dX10_dies_37 kb_7 ?_
  refine mw_iload_n dX10_dies_39 rfl 5 rfl ?_
  refine mw_iadd dX10_dies_40 (fun v122 ev122 => ?_)
  have cv122 : v105 = v122 := ev105.trans ev122.symm
  subst cv122
  refine mw_iconst dX10_dies_41 ki_0 ?_
  refine tw_iast dX10_dies_42 shM_3 (bd_in b106 (by decide)) ?_
  have hI123 : JM (mm_up S120 3 v105.toNatClampNeg 0) := JIM_puta hI119 n_0 b106 (by decide) (by decide +kernel)
  generalize hS124 : (mm_up S120 3 v105.toNatClampNeg 0) = S124 at hI123 ⊢
  have hF125 := fr_upA hF121 hS124 (by decide)
  refine mw_aload_n dX10_dies_43 rfl 4 rfl ?_
  refine mw_bipush dX10_dies_44 kb_29 ?_
  refine mw_dup2 dX10_dies_46 rfl rfl ?_
  refine tw_iald dX10_dies_47 shM_3 (bd_in n_29 (by decide)) (fun v126 ev126 => ?_)
  rw [cl_29] at ev126
  have eb127 := ev126.trans (Eq.symm (((up_neF hS116 (by decide)).trans (up_neF hS120 (cl_ne b102 (by decide)))).trans (up_neF hS124 (cl_ne b106 (by decide)))))
  refine mw_iconst dX10_dies_48 ki_1 ?_
  refine mw_iadd dX10_dies_49 (fun v128 ev128 => ?_)
  refine tw_iast dX10_dies_50 shM_3 (bd_in n_29 (by decide)) ?_
  rw [cl_29]
  have hI129 : JM (mm_up S124 3 29 v128) := JIM_put hI123 (bd_all v128) (by decide +kernel)
  generalize hS130 : (mm_up S124 3 29 v128) = S130 at hI129 ⊢
  have hF131 := fr_upA hF125 hS130 (by decide)
  refine mw_iload_n dX10_dies_51 rfl 2 rfl ?_
  refine mw_bipush dX10_dies_52 kb_9 ?_
  refine mw_icmp_eq (tgt := 122) dX10_dies_54 (by decide) (fun q132 => ?_) (fun q132 => ?_)
  · skip
    have b133 : mm_b (9) (9) v103 := bd_eq_l q132 b104 n_9 (by decide)
    refine mw_iconst dX10_dies_122 ki_0 ?_
    refine mw_istore (ls' := [(6, .int 0), (5, .int (-1)), (4, .int v107), (3, .int v103), (0, .ref 0), (1, .ref 3), (2, .int x2)]) dX10_dies_123 (by decide) rfl ?_
    have cut125 : ∀ (N125 : Nat) (S134 : mm_S) (y137 y139 y141 : Int32), ((8 : Int) - y141.toInt).toNat < N125 → JM S134 → fr [3] [] true true S S134 → mm_b (-2147483648) (2147483647) y137 → mm_b (-1) (6) y139 → mm_b (0) (7) y141 → F_X10_dies3 S x2 = F_X10_dies3_L125  N125 S134 y137 y139 y141 → mw g RX10 cX10_dies 8 (some .int) false (mm_rm 2) (qi shM (fun S1 v => JM S1 ∧ fr [3] [] true true S S1 ∧ mm_b (-1) (6) v ∧ (True) ∧ F_X10_dies3 S x2 = (v, S1))) 0 0 (mm_enc shM S134) 125 [(0, .ref 0), (1, .ref 3), (4, .int y137), (5, .int y139), (6, .int y141)] [] := by
      intro N125
      induction N125 with
      | zero =>
        intro S134 y137 y139 y141 hm143 hI135 hF136 b138 b140 b142 hE144
        exact absurd hm143 (Nat.not_lt_zero _)
      | succ N125 ih125 =>
        intro S134 y137 y139 y141 hm143 hI135 hF136 b138 b140 b142 hE144
        refine mw_iload dX10_dies_125 4 rfl ?_
        refine mw_bipush dX10_dies_127 kb_7 ?_
        refine mw_icmp_ge (tgt := 169) dX10_dies_129 (by decide) (fun q145 => ?_) (fun q145 => ?_)
        · skip
          have b146 : mm_b (7) (7) y141 := bd_le_r q145 n_7 b142 (by decide)
          refine mw_iload dX10_dies_169 3 rfl ?_
          exact mw_iret rfl dX10_dies_171 rfl rfl ⟨S134, _, rfl, rfl, hI135, hF136, b140, trivial, (by exact hE144.trans (by rw [F_X10_dies3_L125, if_pos q145]))⟩
        · skip
          have b147 : mm_b (0) (6) y141 := bd_lt_l (bd_nle q145) b142 n_7 (by decide)
          refine mw_aload_n dX10_dies_132 rfl 0 rfl ?_
          refine mw_aload_n dX10_dies_133 rfl 1 rfl ?_
          refine tc_Vi (as := [.ref 3]) (st := []) dX10_dies_134 rfl shM_0 rfl rfl mX10_159 t_X10_leastMute rfl (Nat.le_of_ble_eq_true rfl) (by decide) (by decide) (cx_X10_leastMute3 (g := g) S134 hI135) (fun S148 v150 h149 => ?_)
          obtain ⟨rfl, b151, x152, hx153⟩ := h149
          refine mw_istore (ls' := [(7, .int v150), (0, .ref 0), (1, .ref 3), (4, .int y137), (5, .int y139), (6, .int y141)]) dX10_dies_137 (by decide) rfl ?_
          refine mw_iload dX10_dies_139 3 rfl ?_
          refine mw_iload dX10_dies_141 5 rfl ?_
          refine tc_Si (as := [.int y137, .int y141]) (st := []) dX10_dies_143 rfl mX10_134 t_X10_isIn rfl (Nat.le_of_ble_eq_true rfl) (by decide) (by decide) (cx_X10_isIn (g := g) S134 hI135 y137 y141) (fun S154 v156 h155 => ?_)
          obtain ⟨rfl, b157, x158, hx159⟩ := h155
          refine mw_if_eq (tgt := 163) dX10_dies_146 (by decide) (fun q160 => ?_) (fun q160 => ?_)
          · skip
            have b161 : mm_b (0) (0) v156 := bd_eq_l q160 b157 n_0 (by decide)
            refine mw_iinc (ls' := fun v => [(6, .int v), (7, .int v150), (0, .ref 0), (1, .ref 3), (4, .int y137), (5, .int y139)]) dX10_dies_163 5 rfl (by decide) (fun _ => rfl) (fun v162 ev162 => ?_)
            have b163 : mm_b (1) (7) v162 := bd_inc ev162 b147 (by decide)
            refine mw_goto (tgt := 125) dX10_dies_166 (by decide) ?_
            refine mw_ls [2, 3, 4, 5, 0] rfl ?_
            exact ih125 S134 y137 y139 v162 (ms_inc ev162 b147 (by decide) hm143) hI135 hF136 b138 b140 (bd_w b163 (by decide)) (by subst ev162; subst hx159; subst hx153; exact hE144.trans (by rw [F_X10_dies3_L125, if_neg q145, if_pos q160]))
          · skip
            have b164 : mm_b (1) (1) v156 := bd_ne_l q160 b157 n_0 (by decide)
            refine mw_iload dX10_dies_149 0 rfl ?_
            refine mw_iconst dX10_dies_151 ki_m1 ?_
            refine mw_icmp_eq (tgt := 163) dX10_dies_152 (by decide) (fun q165 => ?_) (fun q165 => ?_)
            · skip
              have b166 : mm_b (-1) (-1) v150 := bd_eq_l q165 b151 n_m1 (by decide)
              refine mw_iinc (ls' := fun v => [(6, .int v), (7, .int v150), (0, .ref 0), (1, .ref 3), (4, .int y137), (5, .int y139)]) dX10_dies_163 5 rfl (by decide) (fun _ => rfl) (fun v167 ev167 => ?_)
              have b168 : mm_b (1) (7) v167 := bd_inc ev167 b147 (by decide)
              refine mw_goto (tgt := 125) dX10_dies_166 (by decide) ?_
              refine mw_ls [2, 3, 4, 5, 0] rfl ?_
              exact ih125 S134 y137 y139 v167 (ms_inc ev167 b147 (by decide) hm143) hI135 hF136 b138 b140 (bd_w b168 (by decide)) (by subst ev167; subst hx159; subst hx153; exact hE144.trans (by rw [F_X10_dies3_L125, if_neg q145, if_neg q160, if_pos q165]))
            · skip
              have b169 : mm_b (0) (6) v150 := bd_ne_l q165 b151 n_m1 (by decide)
              refine mw_aload_n dX10_dies_155 rfl 2 rfl ?_
              refine mw_iconst dX10_dies_156 ki_0 ?_
              refine mw_iload dX10_dies_157 0 rfl ?_
              refine mw_iadd dX10_dies_159 (fun v170 ev170 => ?_)
              have b171 : mm_b (0) (6) v170 := bd_add ev170 n_0 b169 (by decide)
              refine mw_iload dX10_dies_160 5 rfl ?_
              refine tw_iast dX10_dies_162 shM_3 (bd_in b171 (by decide)) ?_
              have hI172 : JM (mm_up S134 3 v170.toNatClampNeg y141) := JIM_puta hI135 b147 b171 (by decide) (by decide +kernel)
              generalize hS173 : (mm_up S134 3 v170.toNatClampNeg y141) = S173 at hI172 ⊢
              have hF174 := fr_upA hF136 hS173 (by decide)
              refine mw_iinc (ls' := fun v => [(6, .int v), (7, .int v150), (0, .ref 0), (1, .ref 3), (4, .int y137), (5, .int y139)]) dX10_dies_163 5 rfl (by decide) (fun _ => rfl) (fun v175 ev175 => ?_)
              have b176 : mm_b (1) (7) v175 := bd_inc ev175 b147 (by decide)
              refine mw_goto (tgt := 125) dX10_dies_166 (by decide) ?_
              refine mw_ls [2, 3, 4, 5, 0] rfl ?_
              exact ih125 S173 y137 y139 v175 (ms_inc ev175 b147 (by decide) hm143) hI172 hF174 b138 b140 (bd_w b176 (by decide)) (by subst ev175; subst hS173; subst ev170; subst hx159; subst hx153; exact hE144.trans (by rw [F_X10_dies3_L125, if_neg q145, if_neg q160, if_neg q165]))
    refine mw_ls [4, 5, 2, 1, 0] rfl ?_
    exact cut125 9 S130 v107 (-1 : Int32) (0 : Int32) (by have hz := n_0; omega) hI129 hF131 (bd_all v107) (bd_w n_m1 (by decide)) (bd_w n_0 (by decide)) (by subst hS130; subst ev128; subst eb127; subst hS124; subst hS120; subst hS116; subst ev113; subst ev112; subst ev110; subst ev108; subst ev107; subst ev105; subst ev103; subst ev101; rw [F_X10_dies3, if_pos q132])
  · skip
    have b177 : mm_b (0) (8) v103 := bd_ne_l q132 b104 n_9 (by decide)
    refine mw_aload_n dX10_dies_57 rfl 4 rfl ?_
    refine mw_aload_n dX10_dies_58 rfl 4 rfl ?_
    refine mw_bipush dX10_dies_59 kb_14 ?_
    refine mw_iload_n dX10_dies_61 rfl 5 rfl ?_
    refine mw_iadd dX10_dies_62 (fun v178 ev178 => ?_)
    have b179 : mm_b (14) (20) v178 := bd_add ev178 n_14 h2 (by decide)
    refine tw_iald dX10_dies_63 shM_3 (bd_in b179 (by decide)) (fun v180 ev180 => ?_)
    have eb181 := ev180.trans (Eq.symm (up_neF hS130 (Ne.symm (cl_ne b179 (by decide)))))
    have b182 : mm_b (0) (9) v180 := JIM_elt hI129 ev180 b179 tbM_31 (by decide)
    have hE183 : F_X10_dies3 S x2 = F_X10_dies3_fu64 S130 v180 x2 v107 v103 := (by subst eb181; subst ev178; subst hS130; subst ev128; subst eb127; subst hS124; subst hS120; subst hS116; subst ev113; subst ev112; subst ev110; subst ev108; subst ev107; subst ev105; subst ev103; subst ev101; rw [F_X10_dies3, if_neg q132])
    refine tc_Si (as := [.ref 3, .int v180]) (st := []) dX10_dies_64 rfl mX10_155 t_X10_lives rfl (Nat.le_of_ble_eq_true rfl) (by decide) (by decide) (cx_X10_lives3 (g := g) S130 hI129 v180 b182) (fun S184 v186 h185 => ?_)
    obtain ⟨rfl, b187, x188, hx189⟩ := h185
    refine mw_if_eq (tgt := 79) dX10_dies_67 (by decide) (fun q190 => ?_) (fun q190 => ?_)
    · skip
      have b191 : mm_b (0) (0) v186 := bd_eq_l q190 b187 n_0 (by decide)
      refine mw_aload_n dX10_dies_79 rfl 4 rfl ?_
      refine mw_aload_n dX10_dies_80 rfl 4 rfl ?_
      refine mw_bipush dX10_dies_81 kb_21 ?_
      refine mw_iload_n dX10_dies_83 rfl 5 rfl ?_
      refine mw_iadd dX10_dies_84 (fun v192 ev192 => ?_)
      have b193 : mm_b (21) (27) v192 := bd_add ev192 n_21 h2 (by decide)
      refine tw_iald dX10_dies_85 shM_3 (bd_in b193 (by decide)) (fun v194 ev194 => ?_)
      have b195 : mm_b (0) (9) v194 := JIM_elt hI129 ev194 b193 tbM_31 (by decide)
      refine tc_Si (as := [.ref 3, .int v194]) (st := []) dX10_dies_86 rfl mX10_155 t_X10_lives rfl (Nat.le_of_ble_eq_true rfl) (by decide) (by decide) (cx_X10_lives3 (g := g) S130 hI129 v194 b195) (fun S196 v198 h197 => ?_)
      obtain ⟨rfl, b199, x200, hx201⟩ := h197
      refine mw_if_eq (tgt := 101) dX10_dies_89 (by decide) (fun q202 => ?_) (fun q202 => ?_)
      · skip
        have b203 : mm_b (0) (0) v198 := bd_eq_l q202 b199 n_0 (by decide)
        refine mw_aload_n dX10_dies_101 rfl 3 rfl ?_
        refine mw_aload_n dX10_dies_102 rfl 4 rfl ?_
        refine tc_Vi (as := [.ref 3]) (st := []) dX10_dies_103 rfl shM_0 rfl rfl mX10_159 t_X10_leastMute rfl (Nat.le_of_ble_eq_true rfl) (by decide) (by decide) (cx_X10_leastMute3 (g := g) S130 hI129) (fun S204 v206 h205 => ?_)
        obtain ⟨rfl, b207, x208, hx209⟩ := h205
        refine mw_istore (ls' := [(5, .int v206), (4, .int v107), (3, .int v103), (0, .ref 0), (1, .ref 3), (2, .int x2)]) dX10_dies_106 (by decide) rfl ?_
        refine mw_iload dX10_dies_108 0 rfl ?_
        refine mw_iconst dX10_dies_110 ki_m1 ?_
        refine mw_icmp_eq (tgt := 122) dX10_dies_111 (by decide) (fun q210 => ?_) (fun q210 => ?_)
        · skip
          have b211 : mm_b (-1) (-1) v206 := bd_eq_l q210 b207 n_m1 (by decide)
          refine mw_iconst dX10_dies_122 ki_0 ?_
          refine mw_istore (ls' := [(6, .int 0), (5, .int v206), (4, .int v107), (3, .int v103), (0, .ref 0), (1, .ref 3), (2, .int x2)]) dX10_dies_123 (by decide) rfl ?_
          have cut125 : ∀ (N125 : Nat) (S212 : mm_S) (y215 y217 y219 : Int32), ((8 : Int) - y219.toInt).toNat < N125 → JM S212 → fr [3] [] true true S S212 → mm_b (-2147483648) (2147483647) y215 → mm_b (-1) (6) y217 → mm_b (0) (7) y219 → F_X10_dies3 S x2 = F_X10_dies3_L125  N125 S212 y215 y217 y219 → mw g RX10 cX10_dies 8 (some .int) false (mm_rm 2) (qi shM (fun S1 v => JM S1 ∧ fr [3] [] true true S S1 ∧ mm_b (-1) (6) v ∧ (True) ∧ F_X10_dies3 S x2 = (v, S1))) 0 0 (mm_enc shM S212) 125 [(0, .ref 0), (1, .ref 3), (4, .int y215), (5, .int y217), (6, .int y219)] [] := by
            intro N125
            induction N125 with
            | zero =>
              intro S212 y215 y217 y219 hm221 hI213 hF214 b216 b218 b220 hE222
              exact absurd hm221 (Nat.not_lt_zero _)
            | succ N125 ih125 =>
              intro S212 y215 y217 y219 hm221 hI213 hF214 b216 b218 b220 hE222
              refine mw_iload dX10_dies_125 4 rfl ?_
              refine mw_bipush dX10_dies_127 kb_7 ?_
              refine mw_icmp_ge (tgt := 169) dX10_dies_129 (by decide) (fun q223 => ?_) (fun q223 => ?_)
              · skip
                have b224 : mm_b (7) (7) y219 := bd_le_r q223 n_7 b220 (by decide)
                refine mw_iload dX10_dies_169 3 rfl ?_
                exact mw_iret rfl dX10_dies_171 rfl rfl ⟨S212, _, rfl, rfl, hI213, hF214, b218, trivial, (by exact hE222.trans (by rw [F_X10_dies3_L125, if_pos q223]))⟩
              · skip
                have b225 : mm_b (0) (6) y219 := bd_lt_l (bd_nle q223) b220 n_7 (by decide)
                refine mw_aload_n dX10_dies_132 rfl 0 rfl ?_
                refine mw_aload_n dX10_dies_133 rfl 1 rfl ?_
                refine tc_Vi (as := [.ref 3]) (st := []) dX10_dies_134 rfl shM_0 rfl rfl mX10_159 t_X10_leastMute rfl (Nat.le_of_ble_eq_true rfl) (by decide) (by decide) (cx_X10_leastMute3 (g := g) S212 hI213) (fun S226 v228 h227 => ?_)
                obtain ⟨rfl, b229, x230, hx231⟩ := h227
                refine mw_istore (ls' := [(7, .int v228), (0, .ref 0), (1, .ref 3), (4, .int y215), (5, .int y217), (6, .int y219)]) dX10_dies_137 (by decide) rfl ?_
                refine mw_iload dX10_dies_139 3 rfl ?_
                refine mw_iload dX10_dies_141 5 rfl ?_
                refine tc_Si (as := [.int y215, .int y219]) (st := []) dX10_dies_143 rfl mX10_134 t_X10_isIn rfl (Nat.le_of_ble_eq_true rfl) (by decide) (by decide) (cx_X10_isIn (g := g) S212 hI213 y215 y219) (fun S232 v234 h233 => ?_)
                obtain ⟨rfl, b235, x236, hx237⟩ := h233
                refine mw_if_eq (tgt := 163) dX10_dies_146 (by decide) (fun q238 => ?_) (fun q238 => ?_)
                · skip
                  have b239 : mm_b (0) (0) v234 := bd_eq_l q238 b235 n_0 (by decide)
                  refine mw_iinc (ls' := fun v => [(6, .int v), (7, .int v228), (0, .ref 0), (1, .ref 3), (4, .int y215), (5, .int y217)]) dX10_dies_163 5 rfl (by decide) (fun _ => rfl) (fun v240 ev240 => ?_)
                  have b241 : mm_b (1) (7) v240 := bd_inc ev240 b225 (by decide)
                  refine mw_goto (tgt := 125) dX10_dies_166 (by decide) ?_
                  refine mw_ls [2, 3, 4, 5, 0] rfl ?_
                  exact ih125 S212 y215 y217 v240 (ms_inc ev240 b225 (by decide) hm221) hI213 hF214 b216 b218 (bd_w b241 (by decide)) (by subst ev240; subst hx237; subst hx231; exact hE222.trans (by rw [F_X10_dies3_L125, if_neg q223, if_pos q238]))
                · skip
                  have b242 : mm_b (1) (1) v234 := bd_ne_l q238 b235 n_0 (by decide)
                  refine mw_iload dX10_dies_149 0 rfl ?_
                  refine mw_iconst dX10_dies_151 ki_m1 ?_
                  refine mw_icmp_eq (tgt := 163) dX10_dies_152 (by decide) (fun q243 => ?_) (fun q243 => ?_)
                  · skip
                    have b244 : mm_b (-1) (-1) v228 := bd_eq_l q243 b229 n_m1 (by decide)
                    refine mw_iinc (ls' := fun v => [(6, .int v), (7, .int v228), (0, .ref 0), (1, .ref 3), (4, .int y215), (5, .int y217)]) dX10_dies_163 5 rfl (by decide) (fun _ => rfl) (fun v245 ev245 => ?_)
                    have b246 : mm_b (1) (7) v245 := bd_inc ev245 b225 (by decide)
                    refine mw_goto (tgt := 125) dX10_dies_166 (by decide) ?_
                    refine mw_ls [2, 3, 4, 5, 0] rfl ?_
                    exact ih125 S212 y215 y217 v245 (ms_inc ev245 b225 (by decide) hm221) hI213 hF214 b216 b218 (bd_w b246 (by decide)) (by subst ev245; subst hx237; subst hx231; exact hE222.trans (by rw [F_X10_dies3_L125, if_neg q223, if_neg q238, if_pos q243]))
                  · skip
                    have b247 : mm_b (0) (6) v228 := bd_ne_l q243 b229 n_m1 (by decide)
                    refine mw_aload_n dX10_dies_155 rfl 2 rfl ?_
                    refine mw_iconst dX10_dies_156 ki_0 ?_
                    refine mw_iload dX10_dies_157 0 rfl ?_
                    refine mw_iadd dX10_dies_159 (fun v248 ev248 => ?_)
                    have b249 : mm_b (0) (6) v248 := bd_add ev248 n_0 b247 (by decide)
                    refine mw_iload dX10_dies_160 5 rfl ?_
                    refine tw_iast dX10_dies_162 shM_3 (bd_in b249 (by decide)) ?_
                    have hI250 : JM (mm_up S212 3 v248.toNatClampNeg y219) := JIM_puta hI213 b225 b249 (by decide) (by decide +kernel)
                    generalize hS251 : (mm_up S212 3 v248.toNatClampNeg y219) = S251 at hI250 ⊢
                    have hF252 := fr_upA hF214 hS251 (by decide)
                    refine mw_iinc (ls' := fun v => [(6, .int v), (7, .int v228), (0, .ref 0), (1, .ref 3), (4, .int y215), (5, .int y217)]) dX10_dies_163 5 rfl (by decide) (fun _ => rfl) (fun v253 ev253 => ?_)
                    have b254 : mm_b (1) (7) v253 := bd_inc ev253 b225 (by decide)
                    refine mw_goto (tgt := 125) dX10_dies_166 (by decide) ?_
                    refine mw_ls [2, 3, 4, 5, 0] rfl ?_
                    exact ih125 S251 y215 y217 v253 (ms_inc ev253 b225 (by decide) hm221) hI250 hF252 b216 b218 (bd_w b254 (by decide)) (by subst ev253; subst hS251; subst ev248; subst hx237; subst hx231; exact hE222.trans (by rw [F_X10_dies3_L125, if_neg q223, if_neg q238, if_neg q243]))
          refine mw_ls [4, 5, 2, 1, 0] rfl ?_
          exact cut125 9 S130 v107 v206 (0 : Int32) (by have hz := n_0; omega) hI129 hF131 (bd_all v107) (bd_w b211 (by decide)) (bd_w n_0 (by decide)) (by subst hx209; subst hx201; subst ev194; subst ev192; subst hx189; exact hE183.trans (by rw [F_X10_dies3_fu64, if_pos q190, if_pos q202, if_pos q210]))
        · skip
          have b255 : mm_b (0) (6) v206 := bd_ne_l q210 b207 n_m1 (by decide)
          refine mw_aload_n dX10_dies_114 rfl 3 rfl ?_
          refine mw_aload_n dX10_dies_115 rfl 4 rfl ?_
          refine mw_iload dX10_dies_116 0 rfl ?_
          refine mw_iload_n dX10_dies_118 rfl 2 rfl ?_
          refine tc_Vv (as := [.ref 3, .int v206, .int v103]) (st := []) dX10_dies_119 rfl shM_0 rfl rfl mX10_163 t_X10_gets rfl (Nat.le_of_ble_eq_true rfl) (by decide) (by decide) (cx_X10_gets3 (g := g) S130 hI129 v206 b255 v103 (bd_w b177 (by decide))) (fun S256 h257 => ?_)
          obtain ⟨hI260, hf261, x258, hx259⟩ := h257
          have hF262 := fr_tr hF131 hf261 (by decide) (by decide) (by decide) (by decide)
          have hE263 : F_X10_dies3 S x2 = F_X10_dies3_fu64ttfc122 S256 v107 v206 := (by subst hx209; subst hx201; subst ev194; subst ev192; subst hx189; exact hE183.trans (by rw [F_X10_dies3_fu64, if_pos q190, if_pos q202, if_neg q210, hx259]))
          refine mw_iconst dX10_dies_122 ki_0 ?_
          refine mw_istore (ls' := [(6, .int 0), (5, .int v206), (4, .int v107), (3, .int v103), (0, .ref 0), (1, .ref 3), (2, .int x2)]) dX10_dies_123 (by decide) rfl ?_
          have cut125 : ∀ (N125 : Nat) (S264 : mm_S) (y267 y269 y271 : Int32), ((8 : Int) - y271.toInt).toNat < N125 → JM S264 → fr [3] [] true true S S264 → mm_b (-2147483648) (2147483647) y267 → mm_b (-1) (6) y269 → mm_b (0) (7) y271 → F_X10_dies3 S x2 = F_X10_dies3_L125  N125 S264 y267 y269 y271 → mw g RX10 cX10_dies 8 (some .int) false (mm_rm 2) (qi shM (fun S1 v => JM S1 ∧ fr [3] [] true true S S1 ∧ mm_b (-1) (6) v ∧ (True) ∧ F_X10_dies3 S x2 = (v, S1))) 0 0 (mm_enc shM S264) 125 [(0, .ref 0), (1, .ref 3), (4, .int y267), (5, .int y269), (6, .int y271)] [] := by
            intro N125
            induction N125 with
            | zero =>
              intro S264 y267 y269 y271 hm273 hI265 hF266 b268 b270 b272 hE274
              exact absurd hm273 (Nat.not_lt_zero _)
            | succ N125 ih125 =>
              intro S264 y267 y269 y271 hm273 hI265 hF266 b268 b270 b272 hE274
              refine mw_iload dX10_dies_125 4 rfl ?_
              refine mw_bipush dX10_dies_127 kb_7 ?_
              refine mw_icmp_ge (tgt := 169) dX10_dies_129 (by decide) (fun q275 => ?_) (fun q275 => ?_)
              · skip
                have b276 : mm_b (7) (7) y271 := bd_le_r q275 n_7 b272 (by decide)
                refine mw_iload dX10_dies_169 3 rfl ?_
                exact mw_iret rfl dX10_dies_171 rfl rfl ⟨S264, _, rfl, rfl, hI265, hF266, b270, trivial, (by exact hE274.trans (by rw [F_X10_dies3_L125, if_pos q275]))⟩
              · skip
                have b277 : mm_b (0) (6) y271 := bd_lt_l (bd_nle q275) b272 n_7 (by decide)
                refine mw_aload_n dX10_dies_132 rfl 0 rfl ?_
                refine mw_aload_n dX10_dies_133 rfl 1 rfl ?_
                refine tc_Vi (as := [.ref 3]) (st := []) dX10_dies_134 rfl shM_0 rfl rfl mX10_159 t_X10_leastMute rfl (Nat.le_of_ble_eq_true rfl) (by decide) (by decide) (cx_X10_leastMute3 (g := g) S264 hI265) (fun S278 v280 h279 => ?_)
                obtain ⟨rfl, b281, x282, hx283⟩ := h279
                refine mw_istore (ls' := [(7, .int v280), (0, .ref 0), (1, .ref 3), (4, .int y267), (5, .int y269), (6, .int y271)]) dX10_dies_137 (by decide) rfl ?_
                refine mw_iload dX10_dies_139 3 rfl ?_
                refine mw_iload dX10_dies_141 5 rfl ?_
                refine tc_Si (as := [.int y267, .int y271]) (st := []) dX10_dies_143 rfl mX10_134 t_X10_isIn rfl (Nat.le_of_ble_eq_true rfl) (by decide) (by decide) (cx_X10_isIn (g := g) S264 hI265 y267 y271) (fun S284 v286 h285 => ?_)
                obtain ⟨rfl, b287, x288, hx289⟩ := h285
                refine mw_if_eq (tgt := 163) dX10_dies_146 (by decide) (fun q290 => ?_) (fun q290 => ?_)
                · skip
                  have b291 : mm_b (0) (0) v286 := bd_eq_l q290 b287 n_0 (by decide)
                  refine mw_iinc (ls' := fun v => [(6, .int v), (7, .int v280), (0, .ref 0), (1, .ref 3), (4, .int y267), (5, .int y269)]) dX10_dies_163 5 rfl (by decide) (fun _ => rfl) (fun v292 ev292 => ?_)
                  have b293 : mm_b (1) (7) v292 := bd_inc ev292 b277 (by decide)
                  refine mw_goto (tgt := 125) dX10_dies_166 (by decide) ?_
                  refine mw_ls [2, 3, 4, 5, 0] rfl ?_
                  exact ih125 S264 y267 y269 v292 (ms_inc ev292 b277 (by decide) hm273) hI265 hF266 b268 b270 (bd_w b293 (by decide)) (by subst ev292; subst hx289; subst hx283; exact hE274.trans (by rw [F_X10_dies3_L125, if_neg q275, if_pos q290]))
                · skip
                  have b294 : mm_b (1) (1) v286 := bd_ne_l q290 b287 n_0 (by decide)
                  refine mw_iload dX10_dies_149 0 rfl ?_
                  refine mw_iconst dX10_dies_151 ki_m1 ?_
                  refine mw_icmp_eq (tgt := 163) dX10_dies_152 (by decide) (fun q295 => ?_) (fun q295 => ?_)
                  · skip
                    have b296 : mm_b (-1) (-1) v280 := bd_eq_l q295 b281 n_m1 (by decide)
                    refine mw_iinc (ls' := fun v => [(6, .int v), (7, .int v280), (0, .ref 0), (1, .ref 3), (4, .int y267), (5, .int y269)]) dX10_dies_163 5 rfl (by decide) (fun _ => rfl) (fun v297 ev297 => ?_)
                    have b298 : mm_b (1) (7) v297 := bd_inc ev297 b277 (by decide)
                    refine mw_goto (tgt := 125) dX10_dies_166 (by decide) ?_
                    refine mw_ls [2, 3, 4, 5, 0] rfl ?_
                    exact ih125 S264 y267 y269 v297 (ms_inc ev297 b277 (by decide) hm273) hI265 hF266 b268 b270 (bd_w b298 (by decide)) (by subst ev297; subst hx289; subst hx283; exact hE274.trans (by rw [F_X10_dies3_L125, if_neg q275, if_neg q290, if_pos q295]))
                  · skip
                    have b299 : mm_b (0) (6) v280 := bd_ne_l q295 b281 n_m1 (by decide)
                    refine mw_aload_n dX10_dies_155 rfl 2 rfl ?_
                    refine mw_iconst dX10_dies_156 ki_0 ?_
                    refine mw_iload dX10_dies_157 0 rfl ?_
                    refine mw_iadd dX10_dies_159 (fun v300 ev300 => ?_)
                    have b301 : mm_b (0) (6) v300 := bd_add ev300 n_0 b299 (by decide)
                    refine mw_iload dX10_dies_160 5 rfl ?_
                    refine tw_iast dX10_dies_162 shM_3 (bd_in b301 (by decide)) ?_
                    have hI302 : JM (mm_up S264 3 v300.toNatClampNeg y271) := JIM_puta hI265 b277 b301 (by decide) (by decide +kernel)
                    generalize hS303 : (mm_up S264 3 v300.toNatClampNeg y271) = S303 at hI302 ⊢
                    have hF304 := fr_upA hF266 hS303 (by decide)
                    refine mw_iinc (ls' := fun v => [(6, .int v), (7, .int v280), (0, .ref 0), (1, .ref 3), (4, .int y267), (5, .int y269)]) dX10_dies_163 5 rfl (by decide) (fun _ => rfl) (fun v305 ev305 => ?_)
                    have b306 : mm_b (1) (7) v305 := bd_inc ev305 b277 (by decide)
                    refine mw_goto (tgt := 125) dX10_dies_166 (by decide) ?_
                    refine mw_ls [2, 3, 4, 5, 0] rfl ?_
                    exact ih125 S303 y267 y269 v305 (ms_inc ev305 b277 (by decide) hm273) hI302 hF304 b268 b270 (bd_w b306 (by decide)) (by subst ev305; subst hS303; subst ev300; subst hx289; subst hx283; exact hE274.trans (by rw [F_X10_dies3_L125, if_neg q275, if_neg q290, if_neg q295]))
          refine mw_ls [4, 5, 2, 1, 0] rfl ?_
          exact cut125 9 S256 v107 v206 (0 : Int32) (by have hz := n_0; omega) hI260 hF262 (bd_all v107) (bd_w b255 (by decide)) (bd_w n_0 (by decide)) (by exact hE263.trans (by rw [F_X10_dies3_fu64ttfc122]))
      · skip
        have b307 : mm_b (1) (1) v198 := bd_ne_l q202 b199 n_0 (by decide)
        have b308 := Or.resolve_left x200 q202
        refine mw_aload_n dX10_dies_92 rfl 4 rfl ?_
        refine mw_bipush dX10_dies_93 kb_21 ?_
        refine mw_iload_n dX10_dies_95 rfl 5 rfl ?_
        refine mw_iadd dX10_dies_96 (fun v309 ev309 => ?_)
        have cv309 : v192 = v309 := ev192.trans ev309.symm
        subst cv309
        refine tw_iald dX10_dies_97 shM_3 (bd_in b193 (by decide)) (fun v310 ev310 => ?_)
        have cv310 : v194 = v310 := ev194.trans ev310.symm
        subst cv310
        refine mw_goto (tgt := 106) dX10_dies_98 (by decide) ?_
        refine mw_istore (ls' := [(5, .int v194), (4, .int v107), (3, .int v103), (0, .ref 0), (1, .ref 3), (2, .int x2)]) dX10_dies_106 (by decide) rfl ?_
        refine mw_iload dX10_dies_108 0 rfl ?_
        refine mw_iconst dX10_dies_110 ki_m1 ?_
        refine mw_icmp_eq (tgt := 122) dX10_dies_111 (by decide) (fun q311 => ?_) (fun q311 => ?_)
        · skip
          exact bd_feq q311 b308 n_m1 (by decide)
        · skip
          refine mw_aload_n dX10_dies_114 rfl 3 rfl ?_
          refine mw_aload_n dX10_dies_115 rfl 4 rfl ?_
          refine mw_iload dX10_dies_116 0 rfl ?_
          refine mw_iload_n dX10_dies_118 rfl 2 rfl ?_
          refine tc_Vv (as := [.ref 3, .int v194, .int v103]) (st := []) dX10_dies_119 rfl shM_0 rfl rfl mX10_163 t_X10_gets rfl (Nat.le_of_ble_eq_true rfl) (by decide) (by decide) (cx_X10_gets3 (g := g) S130 hI129 v194 b308 v103 (bd_w b177 (by decide))) (fun S312 h313 => ?_)
          obtain ⟨hI316, hf317, x314, hx315⟩ := h313
          have hF318 := fr_tr hF131 hf317 (by decide) (by decide) (by decide) (by decide)
          have hE319 : F_X10_dies3 S x2 = F_X10_dies3_fu64ttfc122 S312 v107 v194 := (by subst hx201; subst ev194; subst ev192; subst hx189; exact hE183.trans (by rw [F_X10_dies3_fu64, if_pos q190, if_neg q202, hx315]))
          refine mw_iconst dX10_dies_122 ki_0 ?_
          refine mw_istore (ls' := [(6, .int 0), (5, .int v194), (4, .int v107), (3, .int v103), (0, .ref 0), (1, .ref 3), (2, .int x2)]) dX10_dies_123 (by decide) rfl ?_
          have cut125 : ∀ (N125 : Nat) (S320 : mm_S) (y323 y325 y327 : Int32), ((8 : Int) - y327.toInt).toNat < N125 → JM S320 → fr [3] [] true true S S320 → mm_b (-2147483648) (2147483647) y323 → mm_b (-1) (6) y325 → mm_b (0) (7) y327 → F_X10_dies3 S x2 = F_X10_dies3_L125  N125 S320 y323 y325 y327 → mw g RX10 cX10_dies 8 (some .int) false (mm_rm 2) (qi shM (fun S1 v => JM S1 ∧ fr [3] [] true true S S1 ∧ mm_b (-1) (6) v ∧ (True) ∧ F_X10_dies3 S x2 = (v, S1))) 0 0 (mm_enc shM S320) 125 [(0, .ref 0), (1, .ref 3), (4, .int y323), (5, .int y325), (6, .int y327)] [] := by
            intro N125
            induction N125 with
            | zero =>
              intro S320 y323 y325 y327 hm329 hI321 hF322 b324 b326 b328 hE330
              exact absurd hm329 (Nat.not_lt_zero _)
            | succ N125 ih125 =>
              intro S320 y323 y325 y327 hm329 hI321 hF322 b324 b326 b328 hE330
              refine mw_iload dX10_dies_125 4 rfl ?_
              refine mw_bipush dX10_dies_127 kb_7 ?_
              refine mw_icmp_ge (tgt := 169) dX10_dies_129 (by decide) (fun q331 => ?_) (fun q331 => ?_)
              · skip
                have b332 : mm_b (7) (7) y327 := bd_le_r q331 n_7 b328 (by decide)
                refine mw_iload dX10_dies_169 3 rfl ?_
                exact mw_iret rfl dX10_dies_171 rfl rfl ⟨S320, _, rfl, rfl, hI321, hF322, b326, trivial, (by exact hE330.trans (by rw [F_X10_dies3_L125, if_pos q331]))⟩
              · skip
                have b333 : mm_b (0) (6) y327 := bd_lt_l (bd_nle q331) b328 n_7 (by decide)
                refine mw_aload_n dX10_dies_132 rfl 0 rfl ?_
                refine mw_aload_n dX10_dies_133 rfl 1 rfl ?_
                refine tc_Vi (as := [.ref 3]) (st := []) dX10_dies_134 rfl shM_0 rfl rfl mX10_159 t_X10_leastMute rfl (Nat.le_of_ble_eq_true rfl) (by decide) (by decide) (cx_X10_leastMute3 (g := g) S320 hI321) (fun S334 v336 h335 => ?_)
                obtain ⟨rfl, b337, x338, hx339⟩ := h335
                refine mw_istore (ls' := [(7, .int v336), (0, .ref 0), (1, .ref 3), (4, .int y323), (5, .int y325), (6, .int y327)]) dX10_dies_137 (by decide) rfl ?_
                refine mw_iload dX10_dies_139 3 rfl ?_
                refine mw_iload dX10_dies_141 5 rfl ?_
                refine tc_Si (as := [.int y323, .int y327]) (st := []) dX10_dies_143 rfl mX10_134 t_X10_isIn rfl (Nat.le_of_ble_eq_true rfl) (by decide) (by decide) (cx_X10_isIn (g := g) S320 hI321 y323 y327) (fun S340 v342 h341 => ?_)
                obtain ⟨rfl, b343, x344, hx345⟩ := h341
                refine mw_if_eq (tgt := 163) dX10_dies_146 (by decide) (fun q346 => ?_) (fun q346 => ?_)
                · skip
                  have b347 : mm_b (0) (0) v342 := bd_eq_l q346 b343 n_0 (by decide)
                  refine mw_iinc (ls' := fun v => [(6, .int v), (7, .int v336), (0, .ref 0), (1, .ref 3), (4, .int y323), (5, .int y325)]) dX10_dies_163 5 rfl (by decide) (fun _ => rfl) (fun v348 ev348 => ?_)
                  have b349 : mm_b (1) (7) v348 := bd_inc ev348 b333 (by decide)
                  refine mw_goto (tgt := 125) dX10_dies_166 (by decide) ?_
                  refine mw_ls [2, 3, 4, 5, 0] rfl ?_
                  exact ih125 S320 y323 y325 v348 (ms_inc ev348 b333 (by decide) hm329) hI321 hF322 b324 b326 (bd_w b349 (by decide)) (by subst ev348; subst hx345; subst hx339; exact hE330.trans (by rw [F_X10_dies3_L125, if_neg q331, if_pos q346]))
                · skip
                  have b350 : mm_b (1) (1) v342 := bd_ne_l q346 b343 n_0 (by decide)
                  refine mw_iload dX10_dies_149 0 rfl ?_
                  refine mw_iconst dX10_dies_151 ki_m1 ?_
                  refine mw_icmp_eq (tgt := 163) dX10_dies_152 (by decide) (fun q351 => ?_) (fun q351 => ?_)
                  · skip
                    have b352 : mm_b (-1) (-1) v336 := bd_eq_l q351 b337 n_m1 (by decide)
                    refine mw_iinc (ls' := fun v => [(6, .int v), (7, .int v336), (0, .ref 0), (1, .ref 3), (4, .int y323), (5, .int y325)]) dX10_dies_163 5 rfl (by decide) (fun _ => rfl) (fun v353 ev353 => ?_)
                    have b354 : mm_b (1) (7) v353 := bd_inc ev353 b333 (by decide)
                    refine mw_goto (tgt := 125) dX10_dies_166 (by decide) ?_
                    refine mw_ls [2, 3, 4, 5, 0] rfl ?_
                    exact ih125 S320 y323 y325 v353 (ms_inc ev353 b333 (by decide) hm329) hI321 hF322 b324 b326 (bd_w b354 (by decide)) (by subst ev353; subst hx345; subst hx339; exact hE330.trans (by rw [F_X10_dies3_L125, if_neg q331, if_neg q346, if_pos q351]))
                  · skip
                    have b355 : mm_b (0) (6) v336 := bd_ne_l q351 b337 n_m1 (by decide)
                    refine mw_aload_n dX10_dies_155 rfl 2 rfl ?_
                    refine mw_iconst dX10_dies_156 ki_0 ?_
                    refine mw_iload dX10_dies_157 0 rfl ?_
                    refine mw_iadd dX10_dies_159 (fun v356 ev356 => ?_)
                    have b357 : mm_b (0) (6) v356 := bd_add ev356 n_0 b355 (by decide)
                    refine mw_iload dX10_dies_160 5 rfl ?_
                    refine tw_iast dX10_dies_162 shM_3 (bd_in b357 (by decide)) ?_
                    have hI358 : JM (mm_up S320 3 v356.toNatClampNeg y327) := JIM_puta hI321 b333 b357 (by decide) (by decide +kernel)
                    generalize hS359 : (mm_up S320 3 v356.toNatClampNeg y327) = S359 at hI358 ⊢
                    have hF360 := fr_upA hF322 hS359 (by decide)
                    refine mw_iinc (ls' := fun v => [(6, .int v), (7, .int v336), (0, .ref 0), (1, .ref 3), (4, .int y323), (5, .int y325)]) dX10_dies_163 5 rfl (by decide) (fun _ => rfl) (fun v361 ev361 => ?_)
                    have b362 : mm_b (1) (7) v361 := bd_inc ev361 b333 (by decide)
                    refine mw_goto (tgt := 125) dX10_dies_166 (by decide) ?_
                    refine mw_ls [2, 3, 4, 5, 0] rfl ?_
                    exact ih125 S359 y323 y325 v361 (ms_inc ev361 b333 (by decide) hm329) hI358 hF360 b324 b326 (bd_w b362 (by decide)) (by subst ev361; subst hS359; subst ev356; subst hx345; subst hx339; exact hE330.trans (by rw [F_X10_dies3_L125, if_neg q331, if_neg q346, if_neg q351]))
          refine mw_ls [4, 5, 2, 1, 0] rfl ?_
          exact cut125 9 S312 v107 v194 (0 : Int32) (by have hz := n_0; omega) hI316 hF318 (bd_all v107) (bd_w b308 (by decide)) (bd_w n_0 (by decide)) (by exact hE319.trans (by rw [F_X10_dies3_fu64ttfc122]))
    · skip
      have b363 : mm_b (1) (1) v186 := bd_ne_l q190 b187 n_0 (by decide)
      have b364 := Or.resolve_left x188 q190
      refine mw_aload_n dX10_dies_70 rfl 4 rfl ?_
      refine mw_bipush dX10_dies_71 kb_14 ?_
      refine mw_iload_n dX10_dies_73 rfl 5 rfl ?_
      refine mw_iadd dX10_dies_74 (fun v365 ev365 => ?_)
      have cv365 : v178 = v365 := ev178.trans ev365.symm
      subst cv365
      refine tw_iald dX10_dies_75 shM_3 (bd_in b179 (by decide)) (fun v366 ev366 => ?_)
      have cv366 : v180 = v366 := ev180.trans ev366.symm
      subst cv366
      refine mw_goto (tgt := 106) dX10_dies_76 (by decide) ?_
      refine mw_istore (ls' := [(5, .int v180), (4, .int v107), (3, .int v103), (0, .ref 0), (1, .ref 3), (2, .int x2)]) dX10_dies_106 (by decide) rfl ?_
      refine mw_iload dX10_dies_108 0 rfl ?_
      refine mw_iconst dX10_dies_110 ki_m1 ?_
      refine mw_icmp_eq (tgt := 122) dX10_dies_111 (by decide) (fun q367 => ?_) (fun q367 => ?_)
      · skip
        exact bd_feq q367 b364 n_m1 (by decide)
      · skip
        refine mw_aload_n dX10_dies_114 rfl 3 rfl ?_
        refine mw_aload_n dX10_dies_115 rfl 4 rfl ?_
        refine mw_iload dX10_dies_116 0 rfl ?_
        refine mw_iload_n dX10_dies_118 rfl 2 rfl ?_
        refine tc_Vv (as := [.ref 3, .int v180, .int v103]) (st := []) dX10_dies_119 rfl shM_0 rfl rfl mX10_163 t_X10_gets rfl (Nat.le_of_ble_eq_true rfl) (by decide) (by decide) (cx_X10_gets3 (g := g) S130 hI129 v180 b364 v103 (bd_w b177 (by decide))) (fun S368 h369 => ?_)
        obtain ⟨hI372, hf373, x370, hx371⟩ := h369
        have hF374 := fr_tr hF131 hf373 (by decide) (by decide) (by decide) (by decide)
        have hE375 : F_X10_dies3 S x2 = F_X10_dies3_fu64ttfc122 S368 v107 v180 := (by subst hx189; exact hE183.trans (by rw [F_X10_dies3_fu64, if_neg q190, hx371]))
        refine mw_iconst dX10_dies_122 ki_0 ?_
        refine mw_istore (ls' := [(6, .int 0), (5, .int v180), (4, .int v107), (3, .int v103), (0, .ref 0), (1, .ref 3), (2, .int x2)]) dX10_dies_123 (by decide) rfl ?_
        have cut125 : ∀ (N125 : Nat) (S376 : mm_S) (y379 y381 y383 : Int32), ((8 : Int) - y383.toInt).toNat < N125 → JM S376 → fr [3] [] true true S S376 → mm_b (-2147483648) (2147483647) y379 → mm_b (-1) (6) y381 → mm_b (0) (7) y383 → F_X10_dies3 S x2 = F_X10_dies3_L125  N125 S376 y379 y381 y383 → mw g RX10 cX10_dies 8 (some .int) false (mm_rm 2) (qi shM (fun S1 v => JM S1 ∧ fr [3] [] true true S S1 ∧ mm_b (-1) (6) v ∧ (True) ∧ F_X10_dies3 S x2 = (v, S1))) 0 0 (mm_enc shM S376) 125 [(0, .ref 0), (1, .ref 3), (4, .int y379), (5, .int y381), (6, .int y383)] [] := by
          intro N125
          induction N125 with
          | zero =>
            intro S376 y379 y381 y383 hm385 hI377 hF378 b380 b382 b384 hE386
            exact absurd hm385 (Nat.not_lt_zero _)
          | succ N125 ih125 =>
            intro S376 y379 y381 y383 hm385 hI377 hF378 b380 b382 b384 hE386
            refine mw_iload dX10_dies_125 4 rfl ?_
            refine mw_bipush dX10_dies_127 kb_7 ?_
            refine mw_icmp_ge (tgt := 169) dX10_dies_129 (by decide) (fun q387 => ?_) (fun q387 => ?_)
            · skip
              have b388 : mm_b (7) (7) y383 := bd_le_r q387 n_7 b384 (by decide)
              refine mw_iload dX10_dies_169 3 rfl ?_
              exact mw_iret rfl dX10_dies_171 rfl rfl ⟨S376, _, rfl, rfl, hI377, hF378, b382, trivial, (by exact hE386.trans (by rw [F_X10_dies3_L125, if_pos q387]))⟩
            · skip
              have b389 : mm_b (0) (6) y383 := bd_lt_l (bd_nle q387) b384 n_7 (by decide)
              refine mw_aload_n dX10_dies_132 rfl 0 rfl ?_
              refine mw_aload_n dX10_dies_133 rfl 1 rfl ?_
              refine tc_Vi (as := [.ref 3]) (st := []) dX10_dies_134 rfl shM_0 rfl rfl mX10_159 t_X10_leastMute rfl (Nat.le_of_ble_eq_true rfl) (by decide) (by decide) (cx_X10_leastMute3 (g := g) S376 hI377) (fun S390 v392 h391 => ?_)
              obtain ⟨rfl, b393, x394, hx395⟩ := h391
              refine mw_istore (ls' := [(7, .int v392), (0, .ref 0), (1, .ref 3), (4, .int y379), (5, .int y381), (6, .int y383)]) dX10_dies_137 (by decide) rfl ?_
              refine mw_iload dX10_dies_139 3 rfl ?_
              refine mw_iload dX10_dies_141 5 rfl ?_
              refine tc_Si (as := [.int y379, .int y383]) (st := []) dX10_dies_143 rfl mX10_134 t_X10_isIn rfl (Nat.le_of_ble_eq_true rfl) (by decide) (by decide) (cx_X10_isIn (g := g) S376 hI377 y379 y383) (fun S396 v398 h397 => ?_)
              obtain ⟨rfl, b399, x400, hx401⟩ := h397
              refine mw_if_eq (tgt := 163) dX10_dies_146 (by decide) (fun q402 => ?_) (fun q402 => ?_)
              · skip
                have b403 : mm_b (0) (0) v398 := bd_eq_l q402 b399 n_0 (by decide)
                refine mw_iinc (ls' := fun v => [(6, .int v), (7, .int v392), (0, .ref 0), (1, .ref 3), (4, .int y379), (5, .int y381)]) dX10_dies_163 5 rfl (by decide) (fun _ => rfl) (fun v404 ev404 => ?_)
                have b405 : mm_b (1) (7) v404 := bd_inc ev404 b389 (by decide)
                refine mw_goto (tgt := 125) dX10_dies_166 (by decide) ?_
                refine mw_ls [2, 3, 4, 5, 0] rfl ?_
                exact ih125 S376 y379 y381 v404 (ms_inc ev404 b389 (by decide) hm385) hI377 hF378 b380 b382 (bd_w b405 (by decide)) (by subst ev404; subst hx401; subst hx395; exact hE386.trans (by rw [F_X10_dies3_L125, if_neg q387, if_pos q402]))
              · skip
                have b406 : mm_b (1) (1) v398 := bd_ne_l q402 b399 n_0 (by decide)
                refine mw_iload dX10_dies_149 0 rfl ?_
                refine mw_iconst dX10_dies_151 ki_m1 ?_
                refine mw_icmp_eq (tgt := 163) dX10_dies_152 (by decide) (fun q407 => ?_) (fun q407 => ?_)
                · skip
                  have b408 : mm_b (-1) (-1) v392 := bd_eq_l q407 b393 n_m1 (by decide)
                  refine mw_iinc (ls' := fun v => [(6, .int v), (7, .int v392), (0, .ref 0), (1, .ref 3), (4, .int y379), (5, .int y381)]) dX10_dies_163 5 rfl (by decide) (fun _ => rfl) (fun v409 ev409 => ?_)
                  have b410 : mm_b (1) (7) v409 := bd_inc ev409 b389 (by decide)
                  refine mw_goto (tgt := 125) dX10_dies_166 (by decide) ?_
                  refine mw_ls [2, 3, 4, 5, 0] rfl ?_
                  exact ih125 S376 y379 y381 v409 (ms_inc ev409 b389 (by decide) hm385) hI377 hF378 b380 b382 (bd_w b410 (by decide)) (by subst ev409; subst hx401; subst hx395; exact hE386.trans (by rw [F_X10_dies3_L125, if_neg q387, if_neg q402, if_pos q407]))
                · skip
                  have b411 : mm_b (0) (6) v392 := bd_ne_l q407 b393 n_m1 (by decide)
                  refine mw_aload_n dX10_dies_155 rfl 2 rfl ?_
                  refine mw_iconst dX10_dies_156 ki_0 ?_
                  refine mw_iload dX10_dies_157 0 rfl ?_
                  refine mw_iadd dX10_dies_159 (fun v412 ev412 => ?_)
                  have b413 : mm_b (0) (6) v412 := bd_add ev412 n_0 b411 (by decide)
                  refine mw_iload dX10_dies_160 5 rfl ?_
                  refine tw_iast dX10_dies_162 shM_3 (bd_in b413 (by decide)) ?_
                  have hI414 : JM (mm_up S376 3 v412.toNatClampNeg y383) := JIM_puta hI377 b389 b413 (by decide) (by decide +kernel)
                  generalize hS415 : (mm_up S376 3 v412.toNatClampNeg y383) = S415 at hI414 ⊢
                  have hF416 := fr_upA hF378 hS415 (by decide)
                  refine mw_iinc (ls' := fun v => [(6, .int v), (7, .int v392), (0, .ref 0), (1, .ref 3), (4, .int y379), (5, .int y381)]) dX10_dies_163 5 rfl (by decide) (fun _ => rfl) (fun v417 ev417 => ?_)
                  have b418 : mm_b (1) (7) v417 := bd_inc ev417 b389 (by decide)
                  refine mw_goto (tgt := 125) dX10_dies_166 (by decide) ?_
                  refine mw_ls [2, 3, 4, 5, 0] rfl ?_
                  exact ih125 S415 y379 y381 v417 (ms_inc ev417 b389 (by decide) hm385) hI414 hF416 b380 b382 (bd_w b418 (by decide)) (by subst ev417; subst hS415; subst ev412; subst hx401; subst hx395; exact hE386.trans (by rw [F_X10_dies3_L125, if_neg q387, if_neg q402, if_neg q407]))
        refine mw_ls [4, 5, 2, 1, 0] rfl ?_
        exact cut125 9 S368 v107 v180 (0 : Int32) (by have hz := n_0; omega) hI372 hF374 (bd_all v107) (bd_w b364 (by decide)) (bd_w n_0 (by decide)) (by exact hE375.trans (by rw [F_X10_dies3_fu64ttfc122]))
def F_X10_remember_tc70 (S108 : mm_S) (v101 : Int32) : mm_S := (mm_up S108 0 5 (v101 + (1 : Int32)))
def F_X10_remember_L11tu67 (S138 : mm_S) (v141 : Int32) (v135 : Int32) : mm_S := (F_X10_remember_tc70 (F_X10_copies_35 S138 (0 : Int32) v141 (30 : Int32)) v135)
def F_X10_remember_L11  : Nat → mm_S → Int32 → mm_S
  | 0, S123, _ => S123
  | N + 1, S123, y126 => (if (570 : Int32) ≤ y126 then (F_X10_remember_L11tu67 (mm_up S123 0 5 ((S123.1 0 5) - (1 : Int32))) ((30 : Int32) * ((S123.1 0 5) - (1 : Int32))) ((S123.1 0 5) - (1 : Int32))) else ((F_X10_remember_L11  N) (mm_up S123 5 (y126).toNatClampNeg (S123.1 5 ((y126 + (30 : Int32))).toNatClampNeg)) (y126 + Int32.ofInt 1)))
def F_X10_remember (S : mm_S)  : mm_S := (if (S.1 0 5) = (20 : Int32) then (F_X10_remember_L11  601 S (0 : Int32)) else (F_X10_remember_tc70 (F_X10_copies_35 S (0 : Int32) ((30 : Int32) * (S.1 0 5)) (30 : Int32)) (S.1 0 5)))
set_option maxRecDepth 100000 in
set_option maxHeartbeats 4000000 in
theorem cx_X10_remember {g : mm_G} (S : mm_S) (hI : JM S)  : mc g yX10_remember cX10_remember 2 none (mm_rm 1) [.ref 0] (mm_enc shM S) (qv shM (fun S1 => JM S1 ∧ fr [5] [5] true true S S1 ∧ True ∧ F_X10_remember S = S1)) := by
  refine mc_of2 (own := RX10) (ini := false) (ls := [(0, .ref 0)]) (by decide) (Nat.le_of_ble_eq_true rfl) rfl (by decide) rfl ?_
  have hF : fr [5] [5] true true S S := fr_rf
  refine mw_aload_n dX10_remember_0 rfl 0 rfl ?_
  refine tw_geti (j := 5) dX10_remember_1 shM_0 rfl rfl (by decide) fX10_70 (fun v101 ev101 => ?_)
  have b102 : mm_b (0) (20) v101 := JIM_fld hI ev101 tbM_1 (by decide)
  refine mw_bipush dX10_remember_4 kb_20 ?_
  refine mw_icmp_ne (tgt := 49) dX10_remember_6 (by decide) (fun q103 => ?_) (fun q103 => ?_)
  · skip
    have b104 : mm_b (0) (19) v101 := bd_ne_l q103 b102 n_20 (by decide)
    refine mw_aload_n dX10_remember_49 rfl 0 rfl ?_
    refine tw_getr (j := 2) dX10_remember_50 shM_0 rfl rfl (by decide) fX10_16 ?_
    refine mw_iconst dX10_remember_53 ki_0 ?_
    refine mw_aload_n dX10_remember_54 rfl 0 rfl ?_
    refine tw_getr (j := 4) dX10_remember_55 shM_0 rfl rfl (by decide) fX10_22 ?_
    refine mw_bipush dX10_remember_58 kb_30 ?_
    refine mw_aload_n dX10_remember_60 rfl 0 rfl ?_
    refine tw_geti (j := 5) dX10_remember_61 shM_0 rfl rfl (by decide) fX10_70 (fun v105 ev105 => ?_)
    have cv105 : v101 = v105 := ev101.trans ev105.symm
    subst cv105
    refine mw_imul dX10_remember_64 (fun v106 ev106 => ?_)
    have b107 : mm_b (0) (570) v106 := bd_mul ev106 n_30 b104 (by decide)
    refine mw_bipush dX10_remember_65 kb_30 ?_
    refine tc_Sv (as := [.ref 3, .int 0, .ref 5, .int v106, .int 30]) (st := []) dX10_remember_67 rfl mX10_66 t_X10_copies rfl (Nat.le_of_ble_eq_true rfl) (by decide) (by decide) (cx_X10_copies_35 (g := g) S hI (0 : Int32) n_0 v106 (30 : Int32) n_30 (cp_mul (C := 30) (M := 20) ev106 n_30 b104 (by decide))) (fun S108 h109 => ?_)
    obtain ⟨hI112, hf113, x110, hx111⟩ := h109
    have hF114 := fr_tr hF hf113 (by decide) (by decide) (by decide) (by decide)
    have hE115 : F_X10_remember S = F_X10_remember_tc70 S108 v101 := (by subst ev106; subst ev101; rw [F_X10_remember, if_neg q103, hx111])
    refine mw_aload_n dX10_remember_70 rfl 0 rfl ?_
    refine mw_dup dX10_remember_71 rfl ?_
    refine tw_geti (j := 5) dX10_remember_72 shM_0 rfl rfl (by decide) fX10_70 (fun v116 ev116 => ?_)
    have cv116 : v101 = v116 := (ev101.trans (fr_F hf113 (by decide))).trans ev116.symm
    subst cv116
    refine mw_iconst dX10_remember_75 ki_1 ?_
    refine mw_iadd dX10_remember_76 (fun v117 ev117 => ?_)
    have b118 : mm_b (1) (20) v117 := bd_add ev117 b104 n_1 (by decide)
    refine tw_puti (j := 5) dX10_remember_77 shM_0 rfl rfl (by decide) fX10_70 rfl (by decide +kernel) ?_
    have hI119 : JM (mm_up S108 0 5 v117) := JIM_put hI112 b118 (by decide +kernel)
    generalize hS120 : (mm_up S108 0 5 v117) = S120 at hI119 ⊢
    have hF121 := fr_upF hF114 hS120 (by decide)
    exact mw_vret rfl dX10_remember_80 rfl rfl ⟨S120, rfl, rfl, ⟨hI119, hF121, trivial, (by subst hS120; subst ev117; exact hE115.trans (by rw [F_X10_remember_tc70]))⟩⟩
  · skip
    have b122 : mm_b (20) (20) v101 := bd_eq_l q103 b102 n_20 (by decide)
    refine mw_iconst dX10_remember_9 ki_0 ?_
    refine mw_istore_n (ls' := [(1, .int 0), (0, .ref 0)]) dX10_remember_10 rfl (by decide) rfl ?_
    have cut11 : ∀ (N11 : Nat) (S123 : mm_S) (y126 y128 : Int32), ((600 : Int) - y126.toInt).toNat < N11 → JM S123 → fr [5] [5] true true S S123 → mm_b (0) (599) y126 → mm_b (20) (20) y128 → y128 = S123.1 0 5 → F_X10_remember S = F_X10_remember_L11  N11 S123 y126 → mw g RX10 cX10_remember 2 none false (mm_rm 1) (qv shM (fun S1 => JM S1 ∧ fr [5] [5] true true S S1 ∧ True ∧ F_X10_remember S = S1)) 0 0 (mm_enc shM S123) 11 [(0, .ref 0), (1, .int y126)] [] := by
      intro N11
      induction N11 with
      | zero =>
        intro S123 y126 y128 hm130 hI124 hF125 b127 b129 ey128 hE131
        exact absurd hm130 (Nat.not_lt_zero _)
      | succ N11 ih11 =>
        intro S123 y126 y128 hm130 hI124 hF125 b127 b129 ey128 hE131
        refine mw_iload_n dX10_remember_11 rfl 1 rfl ?_
        refine mw_sipush dX10_remember_12 ks_570 ?_
        refine mw_icmp_ge (tgt := 39) dX10_remember_15 (by decide) (fun q132 => ?_) (fun q132 => ?_)
        · skip
          have b133 : mm_b (570) (599) y126 := bd_le_r q132 n_570 b127 (by decide)
          refine mw_aload_n dX10_remember_39 rfl 0 rfl ?_
          refine mw_dup dX10_remember_40 rfl ?_
          refine tw_geti (j := 5) dX10_remember_41 shM_0 rfl rfl (by decide) fX10_70 (fun v134 ev134 => ?_)
          have cv134 : y128 = v134 := ey128.trans ev134.symm
          subst cv134
          refine mw_iconst dX10_remember_44 ki_1 ?_
          refine mw_isub dX10_remember_45 (fun v135 ev135 => ?_)
          have b136 : mm_b (19) (19) v135 := bd_sub ev135 b129 n_1 (by decide)
          refine tw_puti (j := 5) dX10_remember_46 shM_0 rfl rfl (by decide) fX10_70 rfl (by decide +kernel) ?_
          have hI137 : JM (mm_up S123 0 5 v135) := JIM_put hI124 b136 (by decide +kernel)
          generalize hS138 : (mm_up S123 0 5 v135) = S138 at hI137 ⊢
          have hF139 := fr_upF hF125 hS138 (by decide)
          refine mw_aload_n dX10_remember_49 rfl 0 rfl ?_
          refine tw_getr (j := 2) dX10_remember_50 shM_0 rfl rfl (by decide) fX10_16 ?_
          refine mw_iconst dX10_remember_53 ki_0 ?_
          refine mw_aload_n dX10_remember_54 rfl 0 rfl ?_
          refine tw_getr (j := 4) dX10_remember_55 shM_0 rfl rfl (by decide) fX10_22 ?_
          refine mw_bipush dX10_remember_58 kb_30 ?_
          refine mw_aload_n dX10_remember_60 rfl 0 rfl ?_
          refine tw_geti (j := 5) dX10_remember_61 shM_0 rfl rfl (by decide) fX10_70 (fun v140 ev140 => ?_)
          have cv140 : v135 = v140 := (up_eq hS138).trans ev140.symm
          subst cv140
          refine mw_imul dX10_remember_64 (fun v141 ev141 => ?_)
          have b142 : mm_b (570) (570) v141 := bd_mul ev141 n_30 b136 (by decide)
          refine mw_bipush dX10_remember_65 kb_30 ?_
          have hE143 : F_X10_remember S = F_X10_remember_L11tu67 S138 v141 v135 := (by subst ev141; subst hS138; subst ev135; subst ey128; exact hE131.trans (by rw [F_X10_remember_L11, if_pos q132]))
          refine tc_Sv (as := [.ref 3, .int 0, .ref 5, .int v141, .int 30]) (st := []) dX10_remember_67 rfl mX10_66 t_X10_copies rfl (Nat.le_of_ble_eq_true rfl) (by decide) (by decide) (cx_X10_copies_35 (g := g) S138 hI137 (0 : Int32) n_0 v141 (30 : Int32) n_30 (cp_mul (C := 30) (M := 20) ev141 n_30 b136 (by decide))) (fun S144 h145 => ?_)
          obtain ⟨hI148, hf149, x146, hx147⟩ := h145
          have hF150 := fr_tr hF139 hf149 (by decide) (by decide) (by decide) (by decide)
          have hE151 : F_X10_remember S = F_X10_remember_tc70 S144 v135 := (by exact hE143.trans (by rw [F_X10_remember_L11tu67, hx147]))
          refine mw_aload_n dX10_remember_70 rfl 0 rfl ?_
          refine mw_dup dX10_remember_71 rfl ?_
          refine tw_geti (j := 5) dX10_remember_72 shM_0 rfl rfl (by decide) fX10_70 (fun v152 ev152 => ?_)
          have cv152 : v135 = v152 := ((up_eq hS138).trans (fr_F hf149 (by decide))).trans ev152.symm
          subst cv152
          refine mw_iconst dX10_remember_75 ki_1 ?_
          refine mw_iadd dX10_remember_76 (fun v153 ev153 => ?_)
          have b154 : mm_b (20) (20) v153 := bd_add ev153 b136 n_1 (by decide)
          refine tw_puti (j := 5) dX10_remember_77 shM_0 rfl rfl (by decide) fX10_70 rfl (by decide +kernel) ?_
          have hI155 : JM (mm_up S144 0 5 v153) := JIM_put hI148 b154 (by decide +kernel)
          generalize hS156 : (mm_up S144 0 5 v153) = S156 at hI155 ⊢
          have hF157 := fr_upF hF150 hS156 (by decide)
          exact mw_vret rfl dX10_remember_80 rfl rfl ⟨S156, rfl, rfl, ⟨hI155, hF157, trivial, (by subst hS156; subst ev153; exact hE151.trans (by rw [F_X10_remember_tc70]))⟩⟩
        · skip
          have b158 : mm_b (0) (569) y126 := bd_lt_l (bd_nle q132) b127 n_570 (by decide)
          refine mw_aload_n dX10_remember_18 rfl 0 rfl ?_
          refine tw_getr (j := 4) dX10_remember_19 shM_0 rfl rfl (by decide) fX10_22 ?_
          refine mw_iload_n dX10_remember_22 rfl 1 rfl ?_
          refine mw_aload_n dX10_remember_23 rfl 0 rfl ?_
          refine tw_getr (j := 4) dX10_remember_24 shM_0 rfl rfl (by decide) fX10_22 ?_
          refine mw_iload_n dX10_remember_27 rfl 1 rfl ?_
          refine mw_bipush dX10_remember_28 kb_30 ?_
          refine mw_iadd dX10_remember_30 (fun v159 ev159 => ?_)
          have b160 : mm_b (30) (599) v159 := bd_add ev159 b158 n_30 (by decide)
          refine tw_iald dX10_remember_31 shM_5 (bd_in b160 (by decide)) (fun v161 ev161 => ?_)
          refine tw_iast dX10_remember_32 shM_5 (bd_in b158 (by decide)) ?_
          have hI162 : JM (mm_up S123 5 y126.toNatClampNeg v161) := JM_shift hI124 b158 ev159 ev161
          generalize hS163 : (mm_up S123 5 y126.toNatClampNeg v161) = S163 at hI162 ⊢
          have hF164 := fr_upA hF125 hS163 (by decide)
          refine mw_iinc (ls' := fun v => [(1, .int v), (0, .ref 0)]) dX10_remember_33 1 rfl (by decide) (fun _ => rfl) (fun v165 ev165 => ?_)
          have b166 : mm_b (1) (570) v165 := bd_inc ev165 b158 (by decide)
          refine mw_goto (tgt := 11) dX10_remember_36 (by decide) ?_
          refine mw_ls [1, 0] rfl ?_
          exact ih11 S163 v165 y128 (ms_inc ev165 b158 (by decide) hm130) hI162 hF164 (bd_w b166 (by decide)) b129 (ey128.trans (up_neA hS163 (by decide))) (by subst ev165; subst hS163; subst ev161; subst ev159; subst ey128; exact hE131.trans (by rw [F_X10_remember_L11, if_neg q132]))
    refine mw_ls [1, 0] rfl ?_
    exact cut11 601 S (0 : Int32) v101 (by have hz := n_0; omega) hI hF (bd_w n_0 (by decide)) b122 ev101 (by subst ev101; rw [F_X10_remember, if_pos q103])
def F_X10_die_ttc26c35 (v128 : Int32) (S126 : mm_S) : Int32 × mm_S := (v128, S126)
def F_X10_die_ttc26 (S118 : mm_S) (x1 : Int32) : Int32 × mm_S := (F_X10_die_ttc26c35 (F_X10_dies3 S118 x1).1 (F_X10_dies3 S118 x1).2)
def F_X10_die (S : mm_S) (x1 : Int32) : Int32 × mm_S := (if (F_X10_isPerson S x1) = (0 : Int32) then ((-1000000001 : Int32), S) else (if (F_X10_isAlive S x1) = (0 : Int32) then ((-1000000003 : Int32), S) else (F_X10_die_ttc26 (F_X10_remember S) x1)))
set_option maxRecDepth 100000 in
set_option maxHeartbeats 4000000 in
theorem cx_X10_die {g : mm_G} (S : mm_S) (hI : JM S) (x1 : Int32) : mc g yX10_die cX10_die 2 (some .int) (mm_rm 3) [.ref 0, .int x1] (mm_enc shM S) (qi shM (fun S1 v => JM S1 ∧ fr [3, 5] [5] true true S S1 ∧ mm_b (-1000000003) (6) v ∧ (True) ∧ F_X10_die S x1 = (v, S1))) := by
  refine mc_of2 (own := RX10) (ini := false) (ls := [(0, .ref 0), (1, .int x1)]) (by decide) (Nat.le_of_ble_eq_true rfl) rfl (by decide) rfl ?_
  have hF : fr [3, 5] [5] true true S S := fr_rf
  refine mw_aload_n dX10_die_0 rfl 0 rfl ?_
  refine mw_iload_n dX10_die_1 rfl 1 rfl ?_
  refine tc_Vi (as := [.int x1]) (st := []) dX10_die_2 rfl shM_0 rfl rfl mX10_179 t_X10_isPerson rfl (Nat.le_of_ble_eq_true rfl) (by decide) (by decide) (cx_X10_isPerson (g := g) S hI x1) (fun S101 v103 h102 => ?_)
  obtain ⟨rfl, b104, x105, hx106⟩ := h102
  refine mw_if_ne (tgt := 11) dX10_die_5 (by decide) (fun q107 => ?_) (fun q107 => ?_)
  · skip
    have b108 : mm_b (1) (1) v103 := bd_ne_l q107 b104 n_0 (by decide)
    have b109 := Or.resolve_left x105 q107
    refine mw_aload_n dX10_die_11 rfl 0 rfl ?_
    refine mw_iload_n dX10_die_12 rfl 1 rfl ?_
    refine tc_Vi (as := [.int x1]) (st := []) dX10_die_13 rfl shM_0 rfl rfl mX10_167 t_X10_isAlive rfl (Nat.le_of_ble_eq_true rfl) (by decide) (by decide) (cx_X10_isAlive (g := g) S hI x1) (fun S110 v112 h111 => ?_)
    obtain ⟨rfl, b113, x114, hx115⟩ := h111
    refine mw_if_ne (tgt := 22) dX10_die_16 (by decide) (fun q116 => ?_) (fun q116 => ?_)
    · skip
      have b117 : mm_b (1) (1) v112 := bd_ne_l q116 b113 n_0 (by decide)
      refine mw_aload_n dX10_die_22 rfl 0 rfl ?_
      refine tc_Vv (as := []) (st := []) dX10_die_23 rfl shM_0 rfl rfl mX10_188 t_X10_remember rfl (Nat.le_of_ble_eq_true rfl) (by decide) (by decide) (cx_X10_remember (g := g) S hI) (fun S118 h119 => ?_)
      obtain ⟨hI122, hf123, x120, hx121⟩ := h119
      have hF124 := fr_tr hF hf123 (by decide) (by decide) (by decide) (by decide)
      have hE125 : F_X10_die S x1 = F_X10_die_ttc26 S118 x1 := (by subst hx115; subst hx106; rw [F_X10_die, if_neg q107, if_neg q116, hx121])
      refine mw_aload_n dX10_die_26 rfl 0 rfl ?_
      refine mw_aload_n dX10_die_27 rfl 0 rfl ?_
      refine tw_getr (j := 2) dX10_die_28 shM_0 rfl rfl (by decide) fX10_16 ?_
      refine mw_iload_n dX10_die_31 rfl 1 rfl ?_
      refine tc_Vi (as := [.ref 3, .int x1]) (st := []) dX10_die_32 rfl shM_0 rfl rfl mX10_191 t_X10_dies rfl (Nat.le_of_ble_eq_true rfl) (by decide) (by decide) (cx_X10_dies3 (g := g) S118 hI122 x1 b109) (fun S126 v128 h127 => ?_)
      obtain ⟨hI133, hf134, b129, x130, hx131⟩ := h127
      have hF135 := fr_tr hF124 hf134 (by decide) (by decide) (by decide) (by decide)
      have hE136 : F_X10_die S x1 = F_X10_die_ttc26c35 v128 S126 := (by exact hE125.trans (by rw [F_X10_die_ttc26, hx131]))
      exact mw_iret rfl dX10_die_35 rfl rfl ⟨S126, _, rfl, rfl, hI133, hF135, bd_w b129 (by decide), trivial, (by exact hE136.trans (by rw [F_X10_die_ttc26c35]))⟩
    · skip
      have b137 : mm_b (0) (0) v112 := bd_eq_l q116 b113 n_0 (by decide)
      refine mw_ldc dX10_die_19 kX10_187 ?_
      exact mw_iret rfl dX10_die_21 rfl rfl ⟨S, _, rfl, rfl, hI, hF, bd_w n_m1000000003 (by decide), trivial, (by subst hx115; subst hx106; rw [F_X10_die, if_neg q107, if_pos q116])⟩
  · skip
    have b138 : mm_b (0) (0) v103 := bd_eq_l q107 b104 n_0 (by decide)
    refine mw_ldc dX10_die_8 kX10_182 ?_
    exact mw_iret rfl dX10_die_10 rfl rfl ⟨S, _, rfl, rfl, hI, hF, bd_w n_m1000000001 (by decide), trivial, (by subst hx106; rw [F_X10_die, if_pos q107])⟩
def F_X10_sell_ffttc40c46 (S138 : mm_S) (x1 : Int32) : Int32 × mm_S := ((S138.1 3 (((0 : Int32) + x1)).toNatClampNeg), S138)
def F_X10_sell_ffttc40 (S130 : mm_S) (x1 : Int32) (x2 : Int32) : Int32 × mm_S := (F_X10_sell_ffttc40c46 (F_X10_sells S130 x1 x2) x1)
def F_X10_sell (S : mm_S) (x1 : Int32) (x2 : Int32) : Int32 × mm_S := (if (F_X10_isPerson S x1) = (0 : Int32) then ((-1000000001 : Int32), S) else (if (F_X10_isPerson S x2) = (0 : Int32) then ((-1000000001 : Int32), S) else (if x1 = x2 then ((-1000000001 : Int32), S) else (if (F_X10_maySell S x1 x2) = (0 : Int32) then ((-1000000003 : Int32), S) else (F_X10_sell_ffttc40 (F_X10_remember S) x1 x2)))))
set_option maxRecDepth 100000 in
set_option maxHeartbeats 4000000 in
theorem cx_X10_sell {g : mm_G} (S : mm_S) (hI : JM S) (x1 : Int32) (x2 : Int32) : mc g yX10_sell cX10_sell 3 (some .int) (mm_rm 3) [.ref 0, .int x1, .int x2] (mm_enc shM S) (qi shM (fun S1 v => JM S1 ∧ fr [3, 5] [5] true true S S1 ∧ mm_b (-1000000003) (9) v ∧ (True) ∧ F_X10_sell S x1 x2 = (v, S1))) := by
  refine mc_of2 (own := RX10) (ini := false) (ls := [(0, .ref 0), (1, .int x1), (2, .int x2)]) (by decide) (Nat.le_of_ble_eq_true rfl) rfl (by decide) rfl ?_
  have hF : fr [3, 5] [5] true true S S := fr_rf
  refine mw_aload_n dX10_sell_0 rfl 0 rfl ?_
  refine mw_iload_n dX10_sell_1 rfl 1 rfl ?_
  refine tc_Vi (as := [.int x1]) (st := []) dX10_sell_2 rfl shM_0 rfl rfl mX10_179 t_X10_isPerson rfl (Nat.le_of_ble_eq_true rfl) (by decide) (by decide) (cx_X10_isPerson (g := g) S hI x1) (fun S101 v103 h102 => ?_)
  obtain ⟨rfl, b104, x105, hx106⟩ := h102
  refine mw_if_eq (tgt := 21) dX10_sell_5 (by decide) (fun q107 => ?_) (fun q107 => ?_)
  · skip
    have b108 : mm_b (0) (0) v103 := bd_eq_l q107 b104 n_0 (by decide)
    refine mw_ldc dX10_sell_21 kX10_182 ?_
    exact mw_iret rfl dX10_sell_23 rfl rfl ⟨S, _, rfl, rfl, hI, hF, bd_w n_m1000000001 (by decide), trivial, (by subst hx106; rw [F_X10_sell, if_pos q107])⟩
  · skip
    have b109 : mm_b (1) (1) v103 := bd_ne_l q107 b104 n_0 (by decide)
    have b110 := Or.resolve_left x105 q107
    refine mw_aload_n dX10_sell_8 rfl 0 rfl ?_
    refine mw_iload_n dX10_sell_9 rfl 2 rfl ?_
    refine tc_Vi (as := [.int x2]) (st := []) dX10_sell_10 rfl shM_0 rfl rfl mX10_179 t_X10_isPerson rfl (Nat.le_of_ble_eq_true rfl) (by decide) (by decide) (cx_X10_isPerson (g := g) S hI x2) (fun S111 v113 h112 => ?_)
    obtain ⟨rfl, b114, x115, hx116⟩ := h112
    refine mw_if_eq (tgt := 21) dX10_sell_13 (by decide) (fun q117 => ?_) (fun q117 => ?_)
    · skip
      have b118 : mm_b (0) (0) v113 := bd_eq_l q117 b114 n_0 (by decide)
      refine mw_ldc dX10_sell_21 kX10_182 ?_
      exact mw_iret rfl dX10_sell_23 rfl rfl ⟨S, _, rfl, rfl, hI, hF, bd_w n_m1000000001 (by decide), trivial, (by subst hx116; subst hx106; rw [F_X10_sell, if_neg q107, if_pos q117])⟩
    · skip
      have b119 : mm_b (1) (1) v113 := bd_ne_l q117 b114 n_0 (by decide)
      have b120 := Or.resolve_left x115 q117
      refine mw_iload_n dX10_sell_16 rfl 1 rfl ?_
      refine mw_iload_n dX10_sell_17 rfl 2 rfl ?_
      refine mw_icmp_ne (tgt := 24) dX10_sell_18 (by decide) (fun q121 => ?_) (fun q121 => ?_)
      · skip
        refine mw_aload_n dX10_sell_24 rfl 0 rfl ?_
        refine mw_iload_n dX10_sell_25 rfl 1 rfl ?_
        refine mw_iload_n dX10_sell_26 rfl 2 rfl ?_
        refine tc_Vi (as := [.int x1, .int x2]) (st := []) dX10_sell_27 rfl shM_0 rfl rfl mX10_198 t_X10_maySell rfl (Nat.le_of_ble_eq_true rfl) (by decide) (by decide) (cx_X10_maySell (g := g) S hI x1 b110 x2 b120) (fun S122 v124 h123 => ?_)
        obtain ⟨rfl, b125, x126, hx127⟩ := h123
        refine mw_if_ne (tgt := 36) dX10_sell_30 (by decide) (fun q128 => ?_) (fun q128 => ?_)
        · skip
          have b129 : mm_b (1) (1) v124 := bd_ne_l q128 b125 n_0 (by decide)
          refine mw_aload_n dX10_sell_36 rfl 0 rfl ?_
          refine tc_Vv (as := []) (st := []) dX10_sell_37 rfl shM_0 rfl rfl mX10_188 t_X10_remember rfl (Nat.le_of_ble_eq_true rfl) (by decide) (by decide) (cx_X10_remember (g := g) S hI) (fun S130 h131 => ?_)
          obtain ⟨hI134, hf135, x132, hx133⟩ := h131
          have hF136 := fr_tr hF hf135 (by decide) (by decide) (by decide) (by decide)
          have hE137 : F_X10_sell S x1 x2 = F_X10_sell_ffttc40 S130 x1 x2 := (by subst hx127; subst hx116; subst hx106; rw [F_X10_sell, if_neg q107, if_neg q117, if_neg q121, if_neg q128, hx133])
          refine mw_aload_n dX10_sell_40 rfl 0 rfl ?_
          refine mw_iload_n dX10_sell_41 rfl 1 rfl ?_
          refine mw_iload_n dX10_sell_42 rfl 2 rfl ?_
          refine tc_Vv (as := [.int x1, .int x2]) (st := []) dX10_sell_43 rfl shM_0 rfl rfl mX10_201 t_X10_sells rfl (Nat.le_of_ble_eq_true rfl) (by decide) (by decide) (cx_X10_sells (g := g) S130 hI134 x1 b110 x2 b120) (fun S138 h139 => ?_)
          obtain ⟨hI142, hf143, x140, hx141⟩ := h139
          have hF144 := fr_tr hF136 hf143 (by decide) (by decide) (by decide) (by decide)
          have hE145 : F_X10_sell S x1 x2 = F_X10_sell_ffttc40c46 S138 x1 := (by exact hE137.trans (by rw [F_X10_sell_ffttc40, hx141]))
          refine mw_aload_n dX10_sell_46 rfl 0 rfl ?_
          refine tw_getr (j := 2) dX10_sell_47 shM_0 rfl rfl (by decide) fX10_16 ?_
          refine mw_iconst dX10_sell_50 ki_0 ?_
          refine mw_iload_n dX10_sell_51 rfl 1 rfl ?_
          refine mw_iadd dX10_sell_52 (fun v146 ev146 => ?_)
          have b147 : mm_b (0) (6) v146 := bd_add ev146 n_0 b110 (by decide)
          refine tw_iald dX10_sell_53 shM_3 (bd_in b147 (by decide)) (fun v148 ev148 => ?_)
          have b149 : mm_b (0) (9) v148 := JIM_elt hI142 ev148 b147 tbM_30 (by decide)
          exact mw_iret rfl dX10_sell_54 rfl rfl ⟨S138, _, rfl, rfl, hI142, hF144, bd_w b149 (by decide), trivial, (by subst ev148; subst ev146; exact hE145.trans (by rw [F_X10_sell_ffttc40c46]))⟩
        · skip
          have b150 : mm_b (0) (0) v124 := bd_eq_l q128 b125 n_0 (by decide)
          refine mw_ldc dX10_sell_33 kX10_187 ?_
          exact mw_iret rfl dX10_sell_35 rfl rfl ⟨S, _, rfl, rfl, hI, hF, bd_w n_m1000000003 (by decide), trivial, (by subst hx127; subst hx116; subst hx106; rw [F_X10_sell, if_neg q107, if_neg q117, if_neg q121, if_pos q128])⟩
      · skip
        refine mw_ldc dX10_sell_21 kX10_182 ?_
        exact mw_iret rfl dX10_sell_23 rfl rfl ⟨S, _, rfl, rfl, hI, hF, bd_w n_m1000000001 (by decide), trivial, (by subst hx116; subst hx106; rw [F_X10_sell, if_neg q107, if_neg q117, if_pos q121])⟩
def F_X10_putBy_ftftc49u82c85 (v150 : Int32) (S162 : mm_S) : Int32 × mm_S := (v150, S162)
def F_X10_putBy_ftftc49u82 (v150 : Int32) (S159 : mm_S) (x1 : Int32) (x2 : Int32) : Int32 × mm_S := (F_X10_putBy_ftftc49u82c85 v150 (F_X10_gets3 S159 x1 x2))
def F_X10_putBy_ftftc49 (S140 : mm_S) (x1 : Int32) (v129 : Int32) (v131 : Int32) (x2 : Int32) : Int32 × mm_S := (F_X10_putBy_ftftc49u82 (S140.1 3 (((0 : Int32) + x1)).toNatClampNeg) (mm_up S140 3 (v129).toNatClampNeg (v131 &&& (((1 : Int32) <<< (x2 &&& 31)) ^^^ (-1 : Int32)))) x1 x2)
def F_X10_putBy (S : mm_S) (x1 : Int32) (x2 : Int32) : Int32 × mm_S := (if (F_X10_isPerson S x1) = (0 : Int32) then ((-1000000001 : Int32), S) else (if (F_X10_isVoice S x2) = (0 : Int32) then ((-1000000001 : Int32), S) else (if (F_X10_isAlive S x1) = (0 : Int32) then ((-1000000003 : Int32), S) else (if (F_X10_isIn S (S.1 3 (((7 : Int32) + x1)).toNatClampNeg) x2) = (0 : Int32) then ((-1000000003 : Int32), S) else (F_X10_putBy_ftftc49 (F_X10_remember S) x1 ((7 : Int32) + x1) (S.1 3 (((7 : Int32) + x1)).toNatClampNeg) x2)))))
set_option maxRecDepth 100000 in
set_option maxHeartbeats 4000000 in
theorem cx_X10_putBy {g : mm_G} (S : mm_S) (hI : JM S) (x1 : Int32) (x2 : Int32) : mc g yX10_putBy cX10_putBy 4 (some .int) (mm_rm 2) [.ref 0, .int x1, .int x2] (mm_enc shM S) (qi shM (fun S1 v => JM S1 ∧ fr [3, 5] [5] true true S S1 ∧ mm_b (-1000000003) (9) v ∧ (True) ∧ F_X10_putBy S x1 x2 = (v, S1))) := by
  refine mc_of2 (own := RX10) (ini := false) (ls := [(0, .ref 0), (1, .int x1), (2, .int x2)]) (by decide) (Nat.le_of_ble_eq_true rfl) rfl (by decide) rfl ?_
  have hF : fr [3, 5] [5] true true S S := fr_rf
  refine mw_aload_n dX10_putBy_0 rfl 0 rfl ?_
  refine mw_iload_n dX10_putBy_1 rfl 1 rfl ?_
  refine tc_Vi (as := [.int x1]) (st := []) dX10_putBy_2 rfl shM_0 rfl rfl mX10_179 t_X10_isPerson rfl (Nat.le_of_ble_eq_true rfl) (by decide) (by decide) (cx_X10_isPerson (g := g) S hI x1) (fun S101 v103 h102 => ?_)
  obtain ⟨rfl, b104, x105, hx106⟩ := h102
  refine mw_if_eq (tgt := 15) dX10_putBy_5 (by decide) (fun q107 => ?_) (fun q107 => ?_)
  · skip
    have b108 : mm_b (0) (0) v103 := bd_eq_l q107 b104 n_0 (by decide)
    refine mw_ldc dX10_putBy_15 kX10_182 ?_
    exact mw_iret rfl dX10_putBy_17 rfl rfl ⟨S, _, rfl, rfl, hI, hF, bd_w n_m1000000001 (by decide), trivial, (by subst hx106; rw [F_X10_putBy, if_pos q107])⟩
  · skip
    have b109 : mm_b (1) (1) v103 := bd_ne_l q107 b104 n_0 (by decide)
    have b110 := Or.resolve_left x105 q107
    refine mw_iload_n dX10_putBy_8 rfl 2 rfl ?_
    refine tc_Si (as := [.int x2]) (st := []) dX10_putBy_9 rfl mX10_205 t_X10_isVoice rfl (Nat.le_of_ble_eq_true rfl) (by decide) (by decide) (cx_X10_isVoice (g := g) S hI x2) (fun S111 v113 h112 => ?_)
    obtain ⟨rfl, b114, x115, hx116⟩ := h112
    refine mw_if_ne (tgt := 18) dX10_putBy_12 (by decide) (fun q117 => ?_) (fun q117 => ?_)
    · skip
      have b118 : mm_b (1) (1) v113 := bd_ne_l q117 b114 n_0 (by decide)
      have b119 := Or.resolve_left x115 q117
      refine mw_aload_n dX10_putBy_18 rfl 0 rfl ?_
      refine mw_iload_n dX10_putBy_19 rfl 1 rfl ?_
      refine tc_Vi (as := [.int x1]) (st := []) dX10_putBy_20 rfl shM_0 rfl rfl mX10_167 t_X10_isAlive rfl (Nat.le_of_ble_eq_true rfl) (by decide) (by decide) (cx_X10_isAlive (g := g) S hI x1) (fun S120 v122 h121 => ?_)
      obtain ⟨rfl, b123, x124, hx125⟩ := h121
      refine mw_if_eq (tgt := 42) dX10_putBy_23 (by decide) (fun q126 => ?_) (fun q126 => ?_)
      · skip
        have b127 : mm_b (0) (0) v122 := bd_eq_l q126 b123 n_0 (by decide)
        refine mw_ldc dX10_putBy_42 kX10_187 ?_
        exact mw_iret rfl dX10_putBy_44 rfl rfl ⟨S, _, rfl, rfl, hI, hF, bd_w n_m1000000003 (by decide), trivial, (by subst hx125; subst hx116; subst hx106; rw [F_X10_putBy, if_neg q107, if_neg q117, if_pos q126])⟩
      · skip
        have b128 : mm_b (1) (1) v122 := bd_ne_l q126 b123 n_0 (by decide)
        refine mw_aload_n dX10_putBy_26 rfl 0 rfl ?_
        refine tw_getr (j := 2) dX10_putBy_27 shM_0 rfl rfl (by decide) fX10_16 ?_
        refine mw_bipush dX10_putBy_30 kb_7 ?_
        refine mw_iload_n dX10_putBy_32 rfl 1 rfl ?_
        refine mw_iadd dX10_putBy_33 (fun v129 ev129 => ?_)
        have b130 : mm_b (7) (13) v129 := bd_add ev129 n_7 b110 (by decide)
        refine tw_iald dX10_putBy_34 shM_3 (bd_in b130 (by decide)) (fun v131 ev131 => ?_)
        refine mw_iload_n dX10_putBy_35 rfl 2 rfl ?_
        refine tc_Si (as := [.int v131, .int x2]) (st := []) dX10_putBy_36 rfl mX10_134 t_X10_isIn rfl (Nat.le_of_ble_eq_true rfl) (by decide) (by decide) (cx_X10_isIn (g := g) S hI v131 x2) (fun S132 v134 h133 => ?_)
        obtain ⟨rfl, b135, x136, hx137⟩ := h133
        refine mw_if_ne (tgt := 45) dX10_putBy_39 (by decide) (fun q138 => ?_) (fun q138 => ?_)
        · skip
          have b139 : mm_b (1) (1) v134 := bd_ne_l q138 b135 n_0 (by decide)
          refine mw_aload_n dX10_putBy_45 rfl 0 rfl ?_
          refine tc_Vv (as := []) (st := []) dX10_putBy_46 rfl shM_0 rfl rfl mX10_188 t_X10_remember rfl (Nat.le_of_ble_eq_true rfl) (by decide) (by decide) (cx_X10_remember (g := g) S hI) (fun S140 h141 => ?_)
          obtain ⟨hI144, hf145, x142, hx143⟩ := h141
          have hF146 := fr_tr hF hf145 (by decide) (by decide) (by decide) (by decide)
          have hE147 : F_X10_putBy S x1 x2 = F_X10_putBy_ftftc49 S140 x1 v129 v131 x2 := (by subst hx137; subst ev131; subst ev129; subst hx125; subst hx116; subst hx106; rw [F_X10_putBy, if_neg q107, if_neg q117, if_neg q126, if_neg q138, hx143])
          refine mw_aload_n dX10_putBy_49 rfl 0 rfl ?_
          refine tw_getr (j := 2) dX10_putBy_50 shM_0 rfl rfl (by decide) fX10_16 ?_
          refine mw_iconst dX10_putBy_53 ki_0 ?_
          refine mw_iload_n dX10_putBy_54 rfl 1 rfl ?_
          refine mw_iadd dX10_putBy_55 (fun v148 ev148 => ?_)
          have b149 : mm_b (0) (6) v148 := bd_add ev148 n_0 b110 (by decide)
          refine tw_iald dX10_putBy_56 shM_3 (bd_in b149 (by decide)) (fun v150 ev150 => ?_)
          have b151 : mm_b (0) (9) v150 := JIM_elt hI144 ev150 b149 tbM_30 (by decide)
          refine mw_istore_n (ls' := [(3, .int v150), (0, .ref 0), (1, .int x1), (2, .int x2)]) dX10_putBy_57 rfl (by decide) rfl ?_
          refine mw_aload_n dX10_putBy_58 rfl 1 rfl ?_
          refine tw_getr (j := 2) dX10_putBy_59 shM_0 rfl rfl (by decide) fX10_16 ?_
          refine mw_bipush dX10_putBy_62 kb_7 ?_
          refine mw_iload_n dX10_putBy_64 rfl 2 rfl ?_
          refine mw_iadd dX10_putBy_65 (fun v152 ev152 => ?_)
          have cv152 : v129 = v152 := ev129.trans ev152.symm
          subst cv152
          refine mw_dup2 dX10_putBy_66 rfl rfl ?_
          refine tw_iald dX10_putBy_67 shM_3 (bd_in b130 (by decide)) (fun v153 ev153 => ?_)
          have cv153 : v131 = v153 := (ev131.trans (fr_A hf145 (by decide) (by decide))).trans ev153.symm
          subst cv153
          refine mw_iconst dX10_putBy_68 ki_1 ?_
          refine mw_iload_n dX10_putBy_69 rfl 3 rfl ?_
          refine mw_ishl dX10_putBy_70 (fun v154 ev154 => ?_)
          have b155 : mm_b (1) (64) v154 := bd_shl 6 ev154 b119 (by decide)
          refine mw_iconst dX10_putBy_71 ki_m1 ?_
          refine mw_ixor dX10_putBy_72 (fun v156 ev156 => ?_)
          refine mw_iand dX10_putBy_73 (fun v157 ev157 => ?_)
          refine tw_iast dX10_putBy_74 shM_3 (bd_in b130 (by decide)) ?_
          have hI158 : JM (mm_up S140 3 v129.toNatClampNeg v157) := JIM_puta hI144 (bd_all v157) b130 (by decide) (by decide +kernel)
          generalize hS159 : (mm_up S140 3 v129.toNatClampNeg v157) = S159 at hI158 ⊢
          have hF160 := fr_upA hF146 hS159 (by decide)
          refine mw_aload_n dX10_putBy_75 rfl 1 rfl ?_
          refine mw_aload_n dX10_putBy_76 rfl 1 rfl ?_
          refine tw_getr (j := 2) dX10_putBy_77 shM_0 rfl rfl (by decide) fX10_16 ?_
          refine mw_iload_n dX10_putBy_80 rfl 2 rfl ?_
          refine mw_iload_n dX10_putBy_81 rfl 3 rfl ?_
          have hE161 : F_X10_putBy S x1 x2 = F_X10_putBy_ftftc49u82 v150 S159 x1 x2 := (by subst hS159; subst ev157; subst ev156; subst ev154; subst ev150; subst ev148; exact hE147.trans (by rw [F_X10_putBy_ftftc49]))
          refine tc_Vv (as := [.ref 3, .int x1, .int x2]) (st := []) dX10_putBy_82 rfl shM_0 rfl rfl mX10_163 t_X10_gets rfl (Nat.le_of_ble_eq_true rfl) (by decide) (by decide) (cx_X10_gets3 (g := g) S159 hI158 x1 b110 x2 (bd_w b119 (by decide))) (fun S162 h163 => ?_)
          obtain ⟨hI166, hf167, x164, hx165⟩ := h163
          have hF168 := fr_tr hF160 hf167 (by decide) (by decide) (by decide) (by decide)
          have hE169 : F_X10_putBy S x1 x2 = F_X10_putBy_ftftc49u82c85 v150 S162 := (by exact hE161.trans (by rw [F_X10_putBy_ftftc49u82, hx165]))
          refine mw_iload_n dX10_putBy_85 rfl 0 rfl ?_
          exact mw_iret rfl dX10_putBy_86 rfl rfl ⟨S162, _, rfl, rfl, hI166, hF168, bd_w b151 (by decide), trivial, (by exact hE169.trans (by rw [F_X10_putBy_ftftc49u82c85]))⟩
        · skip
          have b170 : mm_b (0) (0) v134 := bd_eq_l q138 b135 n_0 (by decide)
          refine mw_ldc dX10_putBy_42 kX10_187 ?_
          exact mw_iret rfl dX10_putBy_44 rfl rfl ⟨S, _, rfl, rfl, hI, hF, bd_w n_m1000000003 (by decide), trivial, (by subst hx137; subst ev131; subst ev129; subst hx125; subst hx116; subst hx106; rw [F_X10_putBy, if_neg q107, if_neg q117, if_neg q126, if_pos q138])⟩
    · skip
      have b171 : mm_b (0) (0) v113 := bd_eq_l q117 b114 n_0 (by decide)
      refine mw_ldc dX10_putBy_15 kX10_182 ?_
      exact mw_iret rfl dX10_putBy_17 rfl rfl ⟨S, _, rfl, rfl, hI, hF, bd_w n_m1000000001 (by decide), trivial, (by subst hx116; subst hx106; rw [F_X10_putBy, if_neg q107, if_pos q117])⟩
def F_X10_will_ffttc44 (S138 : mm_S) (x1 : Int32) (x2 : Int32) (x3 : Int32) : Int32 × mm_S := ((((10 : Int32) * (S138.1 3 (((14 : Int32) + x1)).toNatClampNeg)) + (S138.1 3 (((21 : Int32) + x1)).toNatClampNeg)), (mm_up (mm_up S138 3 (((14 : Int32) + x1)).toNatClampNeg x2) 3 (((21 : Int32) + x1)).toNatClampNeg x3))
def F_X10_will (S : mm_S) (x1 : Int32) (x2 : Int32) (x3 : Int32) : Int32 × mm_S := (if (F_X10_isPerson S x1) = (0 : Int32) then ((-1000000001 : Int32), S) else (if (F_X10_isHeir S x1 x2) = (0 : Int32) then ((-1000000001 : Int32), S) else (if (F_X10_isHeir S x1 x3) = (0 : Int32) then ((-1000000001 : Int32), S) else (if (F_X10_isAlive S x1) = (0 : Int32) then ((-1000000003 : Int32), S) else (F_X10_will_ffttc44 (F_X10_remember S) x1 x2 x3)))))
set_option maxRecDepth 100000 in
set_option maxHeartbeats 4000000 in
theorem cx_X10_will {g : mm_G} (S : mm_S) (hI : JM S) (x1 : Int32) (x2 : Int32) (x3 : Int32) : mc g yX10_will cX10_will 5 (some .int) (mm_rm 3) [.ref 0, .int x1, .int x2, .int x3] (mm_enc shM S) (qi shM (fun S1 v => JM S1 ∧ fr [3, 5] [5] true true S S1 ∧ mm_b (-1000000003) (99) v ∧ (True) ∧ F_X10_will S x1 x2 x3 = (v, S1))) := by
  refine mc_of2 (own := RX10) (ini := false) (ls := [(0, .ref 0), (1, .int x1), (2, .int x2), (3, .int x3)]) (by decide) (Nat.le_of_ble_eq_true rfl) rfl (by decide) rfl ?_
  have hF : fr [3, 5] [5] true true S S := fr_rf
  refine mw_aload_n dX10_will_0 rfl 0 rfl ?_
  refine mw_iload_n dX10_will_1 rfl 1 rfl ?_
  refine tc_Vi (as := [.int x1]) (st := []) dX10_will_2 rfl shM_0 rfl rfl mX10_179 t_X10_isPerson rfl (Nat.le_of_ble_eq_true rfl) (by decide) (by decide) (cx_X10_isPerson (g := g) S hI x1) (fun S101 v103 h102 => ?_)
  obtain ⟨rfl, b104, x105, hx106⟩ := h102
  refine mw_if_eq (tgt := 26) dX10_will_5 (by decide) (fun q107 => ?_) (fun q107 => ?_)
  · skip
    have b108 : mm_b (0) (0) v103 := bd_eq_l q107 b104 n_0 (by decide)
    refine mw_ldc dX10_will_26 kX10_182 ?_
    exact mw_iret rfl dX10_will_28 rfl rfl ⟨S, _, rfl, rfl, hI, hF, bd_w n_m1000000001 (by decide), trivial, (by subst hx106; rw [F_X10_will, if_pos q107])⟩
  · skip
    have b109 : mm_b (1) (1) v103 := bd_ne_l q107 b104 n_0 (by decide)
    have b110 := Or.resolve_left x105 q107
    refine mw_aload_n dX10_will_8 rfl 0 rfl ?_
    refine mw_iload_n dX10_will_9 rfl 1 rfl ?_
    refine mw_iload_n dX10_will_10 rfl 2 rfl ?_
    refine tc_Vi (as := [.int x1, .int x2]) (st := []) dX10_will_11 rfl shM_0 rfl rfl mX10_208 t_X10_isHeir rfl (Nat.le_of_ble_eq_true rfl) (by decide) (by decide) (cx_X10_isHeir (g := g) S hI x1 x2) (fun S111 v113 h112 => ?_)
    obtain ⟨rfl, b114, x115, hx116⟩ := h112
    refine mw_if_eq (tgt := 26) dX10_will_14 (by decide) (fun q117 => ?_) (fun q117 => ?_)
    · skip
      have b118 : mm_b (0) (0) v113 := bd_eq_l q117 b114 n_0 (by decide)
      refine mw_ldc dX10_will_26 kX10_182 ?_
      exact mw_iret rfl dX10_will_28 rfl rfl ⟨S, _, rfl, rfl, hI, hF, bd_w n_m1000000001 (by decide), trivial, (by subst hx116; subst hx106; rw [F_X10_will, if_neg q107, if_pos q117])⟩
    · skip
      have b119 : mm_b (1) (1) v113 := bd_ne_l q117 b114 n_0 (by decide)
      have b120 := Or.resolve_left x115 q117
      refine mw_aload_n dX10_will_17 rfl 0 rfl ?_
      refine mw_iload_n dX10_will_18 rfl 1 rfl ?_
      refine mw_iload_n dX10_will_19 rfl 3 rfl ?_
      refine tc_Vi (as := [.int x1, .int x3]) (st := []) dX10_will_20 rfl shM_0 rfl rfl mX10_208 t_X10_isHeir rfl (Nat.le_of_ble_eq_true rfl) (by decide) (by decide) (cx_X10_isHeir (g := g) S hI x1 x3) (fun S121 v123 h122 => ?_)
      obtain ⟨rfl, b124, x125, hx126⟩ := h122
      refine mw_if_ne (tgt := 29) dX10_will_23 (by decide) (fun q127 => ?_) (fun q127 => ?_)
      · skip
        have b128 : mm_b (1) (1) v123 := bd_ne_l q127 b124 n_0 (by decide)
        have b129 := Or.resolve_left x125 q127
        refine mw_aload_n dX10_will_29 rfl 0 rfl ?_
        refine mw_iload_n dX10_will_30 rfl 1 rfl ?_
        refine tc_Vi (as := [.int x1]) (st := []) dX10_will_31 rfl shM_0 rfl rfl mX10_167 t_X10_isAlive rfl (Nat.le_of_ble_eq_true rfl) (by decide) (by decide) (cx_X10_isAlive (g := g) S hI x1) (fun S130 v132 h131 => ?_)
        obtain ⟨rfl, b133, x134, hx135⟩ := h131
        refine mw_if_ne (tgt := 40) dX10_will_34 (by decide) (fun q136 => ?_) (fun q136 => ?_)
        · skip
          have b137 : mm_b (1) (1) v132 := bd_ne_l q136 b133 n_0 (by decide)
          refine mw_aload_n dX10_will_40 rfl 0 rfl ?_
          refine tc_Vv (as := []) (st := []) dX10_will_41 rfl shM_0 rfl rfl mX10_188 t_X10_remember rfl (Nat.le_of_ble_eq_true rfl) (by decide) (by decide) (cx_X10_remember (g := g) S hI) (fun S138 h139 => ?_)
          obtain ⟨hI142, hf143, x140, hx141⟩ := h139
          have hF144 := fr_tr hF hf143 (by decide) (by decide) (by decide) (by decide)
          have hE145 : F_X10_will S x1 x2 x3 = F_X10_will_ffttc44 S138 x1 x2 x3 := (by subst hx135; subst hx126; subst hx116; subst hx106; rw [F_X10_will, if_neg q107, if_neg q117, if_neg q127, if_neg q136, hx141])
          refine mw_bipush dX10_will_44 kb_10 ?_
          refine mw_aload_n dX10_will_46 rfl 0 rfl ?_
          refine tw_getr (j := 2) dX10_will_47 shM_0 rfl rfl (by decide) fX10_16 ?_
          refine mw_bipush dX10_will_50 kb_14 ?_
          refine mw_iload_n dX10_will_52 rfl 1 rfl ?_
          refine mw_iadd dX10_will_53 (fun v146 ev146 => ?_)
          have b147 : mm_b (14) (20) v146 := bd_add ev146 n_14 b110 (by decide)
          refine tw_iald dX10_will_54 shM_3 (bd_in b147 (by decide)) (fun v148 ev148 => ?_)
          have b149 : mm_b (0) (9) v148 := JIM_elt hI142 ev148 b147 tbM_31 (by decide)
          refine mw_imul dX10_will_55 (fun v150 ev150 => ?_)
          have b151 : mm_b (0) (90) v150 := bd_mul ev150 n_10 b149 (by decide)
          refine mw_aload_n dX10_will_56 rfl 0 rfl ?_
          refine tw_getr (j := 2) dX10_will_57 shM_0 rfl rfl (by decide) fX10_16 ?_
          refine mw_bipush dX10_will_60 kb_21 ?_
          refine mw_iload_n dX10_will_62 rfl 1 rfl ?_
          refine mw_iadd dX10_will_63 (fun v152 ev152 => ?_)
          have b153 : mm_b (21) (27) v152 := bd_add ev152 n_21 b110 (by decide)
          refine tw_iald dX10_will_64 shM_3 (bd_in b153 (by decide)) (fun v154 ev154 => ?_)
          have b155 : mm_b (0) (9) v154 := JIM_elt hI142 ev154 b153 tbM_31 (by decide)
          refine mw_iadd dX10_will_65 (fun v156 ev156 => ?_)
          have b157 : mm_b (0) (99) v156 := bd_add ev156 b151 b155 (by decide)
          refine mw_istore (ls' := [(4, .int v156), (0, .ref 0), (1, .int x1), (2, .int x2), (3, .int x3)]) dX10_will_66 (by decide) rfl ?_
          refine mw_aload_n dX10_will_68 rfl 1 rfl ?_
          refine tw_getr (j := 2) dX10_will_69 shM_0 rfl rfl (by decide) fX10_16 ?_
          refine mw_bipush dX10_will_72 kb_14 ?_
          refine mw_iload_n dX10_will_74 rfl 2 rfl ?_
          refine mw_iadd dX10_will_75 (fun v158 ev158 => ?_)
          have cv158 : v146 = v158 := ev146.trans ev158.symm
          subst cv158
          refine mw_iload_n dX10_will_76 rfl 3 rfl ?_
          refine tw_iast dX10_will_77 shM_3 (bd_in b147 (by decide)) ?_
          have hI159 : JM (mm_up S138 3 v146.toNatClampNeg x2) := JIM_puta hI142 b120 b147 (by decide) (by decide +kernel)
          generalize hS160 : (mm_up S138 3 v146.toNatClampNeg x2) = S160 at hI159 ⊢
          have hF161 := fr_upA hF144 hS160 (by decide)
          refine mw_aload_n dX10_will_78 rfl 1 rfl ?_
          refine tw_getr (j := 2) dX10_will_79 shM_0 rfl rfl (by decide) fX10_16 ?_
          refine mw_bipush dX10_will_82 kb_21 ?_
          refine mw_iload_n dX10_will_84 rfl 2 rfl ?_
          refine mw_iadd dX10_will_85 (fun v162 ev162 => ?_)
          have cv162 : v152 = v162 := ev152.trans ev162.symm
          subst cv162
          refine mw_iload_n dX10_will_86 rfl 4 rfl ?_
          refine tw_iast dX10_will_87 shM_3 (bd_in b153 (by decide)) ?_
          have hI163 : JM (mm_up S160 3 v152.toNatClampNeg x3) := JIM_puta hI159 b129 b153 (by decide) (by decide +kernel)
          generalize hS164 : (mm_up S160 3 v152.toNatClampNeg x3) = S164 at hI163 ⊢
          have hF165 := fr_upA hF161 hS164 (by decide)
          refine mw_iload dX10_will_88 0 rfl ?_
          exact mw_iret rfl dX10_will_90 rfl rfl ⟨S164, _, rfl, rfl, hI163, hF165, bd_w b157 (by decide), trivial, (by subst hS164; subst hS160; subst ev156; subst ev154; subst ev152; subst ev150; subst ev148; subst ev146; exact hE145.trans (by rw [F_X10_will_ffttc44]))⟩
        · skip
          have b166 : mm_b (0) (0) v132 := bd_eq_l q136 b133 n_0 (by decide)
          refine mw_ldc dX10_will_37 kX10_187 ?_
          exact mw_iret rfl dX10_will_39 rfl rfl ⟨S, _, rfl, rfl, hI, hF, bd_w n_m1000000003 (by decide), trivial, (by subst hx135; subst hx126; subst hx116; subst hx106; rw [F_X10_will, if_neg q107, if_neg q117, if_neg q127, if_pos q136])⟩
      · skip
        have b167 : mm_b (0) (0) v123 := bd_eq_l q127 b124 n_0 (by decide)
        refine mw_ldc dX10_will_26 kX10_182 ?_
        exact mw_iret rfl dX10_will_28 rfl rfl ⟨S, _, rfl, rfl, hI, hF, bd_w n_m1000000001 (by decide), trivial, (by subst hx126; subst hx116; subst hx106; rw [F_X10_will, if_neg q107, if_neg q117, if_pos q127])⟩
def F_X10_draw (S : mm_S) (x1 : Int32) : Int32 × mm_S := ((((((mm_upL S 0 8 ((((S.2.1 0 8) * (1103515245 : Int64)) + (12345 : Int64)) - (((S.2.1 0 8) * (1103515245 : Int64)) + (12345 : Int64)) / (2147483648 : Int64) * (2147483648 : Int64))).2.1 0 8) / (65536 : Int64)) - (((mm_upL S 0 8 ((((S.2.1 0 8) * (1103515245 : Int64)) + (12345 : Int64)) - (((S.2.1 0 8) * (1103515245 : Int64)) + (12345 : Int64)) / (2147483648 : Int64) * (2147483648 : Int64))).2.1 0 8) / (65536 : Int64)) / (x1).toInt64 * (x1).toInt64)).toInt32, (mm_upL S 0 8 ((((S.2.1 0 8) * (1103515245 : Int64)) + (12345 : Int64)) - (((S.2.1 0 8) * (1103515245 : Int64)) + (12345 : Int64)) / (2147483648 : Int64) * (2147483648 : Int64))))
set_option maxRecDepth 100000 in
set_option maxHeartbeats 4000000 in
theorem cx_X10_draw {g : mm_G} (S : mm_S) (hI : JM S) (x1 : Int32) (h1 : mm_b (1) (7) x1) : mc g yX10_draw cX10_draw 2 (some .int) (mm_rm 0) [.ref 0, .int x1] (mm_enc shM S) (qi shM (fun S1 v => JM S1 ∧ fr [] [] false true S S1 ∧ mm_b (0) (6) v ∧ (True) ∧ F_X10_draw S x1 = (v, S1))) := by
  refine mc_of2 (own := RX10) (ini := false) (ls := [(0, .ref 0), (1, .int x1)]) (by decide) (Nat.le_of_ble_eq_true rfl) rfl (by decide) rfl ?_
  have hF : fr [] [] false true S S := fr_rf
  refine mw_aload_n dX10_draw_0 rfl 0 rfl ?_
  refine mw_aload_n dX10_draw_1 rfl 0 rfl ?_
  refine tw_getl (j := 8) dX10_draw_2 shM_0 rfl rfl (by decide) fX10_211 (fun w101 ew101 => ?_)
  have b102 : mm_bl (0) (2147483647) w101 := by rw [ew101]; exact JM_long hI
  refine mw_ldc2 dX10_draw_5 kX10_215 ?_
  refine mw_lmul dX10_draw_8 (fun w103 ew103 => ?_)
  have b104 : mm_bl (0) (2369780942852698515) w103 := bl_mul ew103 b102 L_1103515245 (by decide)
  refine mw_ldc2 dX10_draw_9 kX10_217 ?_
  refine mw_ladd dX10_draw_12 (fun w105 ew105 => ?_)
  have b106 : mm_bl (12345) (2369780942852710860) w105 := bl_add ew105 b104 L_12345 (by decide)
  refine mw_ldc2 dX10_draw_13 kX10_219 ?_
  refine mw_lrem dX10_draw_16 (bl_ne0 L_2147483648 (by decide)) (fun w107 ew107 => ?_)
  have b108 : mm_bl (0) (2147483647) w107 := bl_rem ew107 b106 L_2147483648 (by decide)
  refine tw_putl (j := 8) dX10_draw_17 shM_0 rfl rfl (by decide) fX10_211 rfl (by decide +kernel) ?_
  have hI109 : JM (mm_upL S 0 8 w107) := JLM_put hI b108 (by decide)
  generalize hS110 : mm_upL S 0 8 w107 = S110 at hI109 ⊢
  have hF111 := fr_upL hF hS110
  refine mw_aload_n dX10_draw_20 rfl 0 rfl ?_
  refine tw_getl (j := 8) dX10_draw_21 shM_0 rfl rfl (by decide) fX10_211 (fun w112 ew112 => ?_)
  have b113 : mm_bl (0) (2147483647) w112 := by rw [ew112]; exact JM_long hI109
  refine mw_ldc2 dX10_draw_24 kX10_221 ?_
  refine mw_ldiv dX10_draw_27 (bl_ne0 L_65536 (by decide)) (fun w114 ew114 => ?_)
  have b115 : mm_bl (0) (32767) w114 := bl_div ew114 b113 L_65536 (by decide)
  refine mw_iload_n dX10_draw_28 rfl 1 rfl ?_
  refine mw_i2l dX10_draw_29 (fun w116 ew116 => ?_)
  have b117 : mm_bl (1) (7) w116 := bl_i2l ew116 h1
  refine mw_lrem dX10_draw_30 (bl_ne0 b117 (by decide)) (fun w118 ew118 => ?_)
  have b119 : mm_bl (0) (6) w118 := bl_rem ew118 b115 b117 (by decide)
  refine mw_l2i dX10_draw_31 (fun v120 ev120 => ?_)
  have b121 : mm_b (0) (6) v120 := bl_l2i ev120 b119 (by decide)
  exact mw_iret rfl dX10_draw_32 rfl rfl ⟨S110, _, rfl, rfl, hI109, hF111, b121, trivial, (by subst ev120; subst ew118; subst ew116; subst ew114; subst ew112; subst hS110; subst ew107; subst ew105; subst ew103; subst ew101; rw [F_X10_draw])⟩
def F_X10_drift_L33fc48c54tffc118 (k33 : mm_S → Int32 → Int32 × mm_S) (S185 : mm_S) (y128 : Int32) : Int32 × mm_S := (k33 S185 (y128 + Int32.ofInt 1))
def F_X10_drift_L33fc48c54 (v153 : Int32) (S151 : mm_S) (v142 : Int32) (k33 : mm_S → Int32 → Int32 × mm_S) (y128 : Int32) (y130 : Int32) : Int32 × mm_S := (if v153 = (0 : Int32) then (if (F_X10_isAlive S151 v142) = (0 : Int32) then (k33 S151 (y128 + Int32.ofInt 1)) else (F_X10_drift_L33fc48c54tffc118 k33 (F_X10_dies3 S151 v142).2 y128)) else (if v153 = (1 : Int32) then (if (F_X10_maySell S151 v142 ((v142 + (1 : Int32)) - (v142 + (1 : Int32)) / y130 * y130)) = (0 : Int32) then (k33 S151 (y128 + Int32.ofInt 1)) else (F_X10_drift_L33fc48c54tffc118 k33 (F_X10_sells S151 v142 ((v142 + (1 : Int32)) - (v142 + (1 : Int32)) / y130 * y130)) y128)) else (k33 S151 (y128 + Int32.ofInt 1))))
def F_X10_drift_L33fc48 (S140 : mm_S) (v142 : Int32) (k33 : mm_S → Int32 → Int32 × mm_S) (y128 : Int32) (y130 : Int32) : Int32 × mm_S := (F_X10_drift_L33fc48c54 (F_X10_draw S140 (3 : Int32)).1 (F_X10_draw S140 (3 : Int32)).2 v142 k33 y128 y130)
def F_X10_drift_L33 (x1 : Int32) : Nat → mm_S → Int32 → Int32 × mm_S
  | 0, S125, _ => (0, S125)
  | N + 1, S125, y128 => (if x1 ≤ y128 then ((S125.1 3 28), S125) else (F_X10_drift_L33fc48 (F_X10_draw S125 (S125.1 1 0)).2 (F_X10_draw S125 (S125.1 1 0)).1 (F_X10_drift_L33 x1 N) y128 (S125.1 1 0)))
def F_X10_drift_ttc31 (x1 : Int32) (S117 : mm_S) : Int32 × mm_S := (F_X10_drift_L33 x1 62 S117 (0 : Int32))
def F_X10_drift (S : mm_S) (x1 : Int32) : Int32 × mm_S := (if (F_X10_in S (x1).toInt64 (1 : Int64) (60 : Int64)) = (0 : Int32) then ((-1000000002 : Int32), S) else (if (S.1 1 0) = (0 : Int32) then ((-1000000003 : Int32), S) else (F_X10_drift_ttc31 x1 (F_X10_remember S))))
set_option maxRecDepth 100000 in
set_option maxHeartbeats 4000000 in
theorem cx_X10_drift {g : mm_G} (S : mm_S) (hI : JM S) (x1 : Int32) : mc g yX10_drift cX10_drift 7 (some .int) (mm_rm 3) [.ref 0, .int x1] (mm_enc shM S) (qi shM (fun S1 v => JM S1 ∧ fr [3, 5] [5] false true S S1 ∧ mm_b (-1000000003) (127) v ∧ (True) ∧ F_X10_drift S x1 = (v, S1))) := by
  refine mc_of2 (own := RX10) (ini := false) (ls := [(0, .ref 0), (1, .int x1)]) (by decide) (Nat.le_of_ble_eq_true rfl) rfl (by decide) rfl ?_
  have hF : fr [3, 5] [5] false true S S := fr_rf
  refine mw_iload_n dX10_drift_0 rfl 1 rfl ?_
  refine mw_i2l dX10_drift_1 (fun w101 ew101 => ?_)
  have b102 : mm_bl (-2147483648) (2147483647) w101 := bl_i2l ew101 (bd_all x1)
  refine mw_lconst (v := 1) dX10_drift_2 (by decide) ?_
  refine mw_ldc2 dX10_drift_3 kX10_223 ?_
  refine tc_Si (as := [.long w101, .long 1, .long 60]) (st := []) dX10_drift_6 rfl mX10_62 t_X10_in rfl (Nat.le_of_ble_eq_true rfl) (by decide) (by decide) (cx_X10_in (g := g) S hI w101 (1 : Int64) (60 : Int64)) (fun S103 v105 h104 => ?_)
  obtain ⟨rfl, b106, x107, hx108⟩ := h104
  have x109 := in_use (lo := 1) (hi := 60) x107 ew101 L_1 L_60 (by decide)
  refine mw_if_ne (tgt := 15) dX10_drift_9 (by decide) (fun q110 => ?_) (fun q110 => ?_)
  · skip
    have b111 : mm_b (1) (1) v105 := bd_ne_l q110 b106 n_0 (by decide)
    have b112 := Or.resolve_left x109 q110
    refine mw_aload_n dX10_drift_15 rfl 0 rfl ?_
    refine tw_getr (j := 0) dX10_drift_16 shM_0 rfl rfl (by decide) fX10_7 ?_
    refine mw_iconst dX10_drift_19 ki_0 ?_
    refine tw_iald dX10_drift_20 shM_1 (bd_in n_0 (by decide)) (fun v113 ev113 => ?_)
    rw [cl_0] at ev113
    have b114 : mm_b (0) (7) v113 := JIM_fld hI ev113 tbM_16 (by decide)
    refine mw_if_ne (tgt := 27) dX10_drift_21 (by decide) (fun q115 => ?_) (fun q115 => ?_)
    · skip
      have b116 : mm_b (1) (7) v113 := bd_ne_l q115 b114 n_0 (by decide)
      refine mw_aload_n dX10_drift_27 rfl 0 rfl ?_
      refine tc_Vv (as := []) (st := []) dX10_drift_28 rfl shM_0 rfl rfl mX10_188 t_X10_remember rfl (Nat.le_of_ble_eq_true rfl) (by decide) (by decide) (cx_X10_remember (g := g) S hI) (fun S117 h118 => ?_)
      obtain ⟨hI121, hf122, x119, hx120⟩ := h118
      have hF123 := fr_tr hF hf122 (by decide) (by decide) (by decide) (by decide)
      have hE124 : F_X10_drift S x1 = F_X10_drift_ttc31 x1 S117 := (by subst ev113; subst hx108; subst ew101; rw [F_X10_drift, if_neg q110, if_neg q115, hx120])
      refine mw_iconst dX10_drift_31 ki_0 ?_
      refine mw_istore_n (ls' := [(2, .int 0), (0, .ref 0), (1, .int x1)]) dX10_drift_32 rfl (by decide) rfl ?_
      have cut33 : ∀ (N33 : Nat) (S125 : mm_S) (y128 y130 : Int32), ((61 : Int) - y128.toInt).toNat < N33 → JM S125 → fr [3, 5] [5] false true S S125 → mm_b (0) (60) y128 → mm_b (1) (7) y130 → y130 = S125.1 1 0 → F_X10_drift S x1 = F_X10_drift_L33 x1 N33 S125 y128 → mw g RX10 cX10_drift 7 (some .int) false (mm_rm 3) (qi shM (fun S1 v => JM S1 ∧ fr [3, 5] [5] false true S S1 ∧ mm_b (-1000000003) (127) v ∧ (True) ∧ F_X10_drift S x1 = (v, S1))) 0 0 (mm_enc shM S125) 33 [(0, .ref 0), (1, .int x1), (2, .int y128)] [] := by
        intro N33
        induction N33 with
        | zero =>
          intro S125 y128 y130 hm132 hI126 hF127 b129 b131 ey130 hE133
          exact absurd hm132 (Nat.not_lt_zero _)
        | succ N33 ih33 =>
          intro S125 y128 y130 hm132 hI126 hF127 b129 b131 ey130 hE133
          refine mw_iload_n dX10_drift_33 rfl 2 rfl ?_
          refine mw_iload_n dX10_drift_34 rfl 1 rfl ?_
          refine mw_icmp_ge (tgt := 124) dX10_drift_35 (by decide) (fun q134 => ?_) (fun q134 => ?_)
          · skip
            have b135 : mm_b (1) (60) y128 := bd_le_r q134 b112 b129 (by decide)
            refine mw_aload_n dX10_drift_124 rfl 0 rfl ?_
            refine tw_getr (j := 2) dX10_drift_125 shM_0 rfl rfl (by decide) fX10_16 ?_
            refine mw_bipush dX10_drift_128 kb_28 ?_
            refine tw_iald dX10_drift_130 shM_3 (bd_in n_28 (by decide)) (fun v136 ev136 => ?_)
            rw [cl_28] at ev136
            have b137 : mm_b (0) (127) v136 := JIM_fld hI126 ev136 tbM_32 (by decide)
            exact mw_iret rfl dX10_drift_131 rfl rfl ⟨S125, _, rfl, rfl, hI126, hF127, bd_w b137 (by decide), trivial, (by subst ev136; subst ey130; exact hE133.trans (by rw [F_X10_drift_L33, if_pos q134]))⟩
          · skip
            have b138 : mm_b (0) (59) y128 := bd_lt_l (bd_nle q134) b129 b112 (by decide)
            refine mw_aload_n dX10_drift_38 rfl 0 rfl ?_
            refine mw_aload_n dX10_drift_39 rfl 0 rfl ?_
            refine tw_getr (j := 0) dX10_drift_40 shM_0 rfl rfl (by decide) fX10_7 ?_
            refine mw_iconst dX10_drift_43 ki_0 ?_
            refine tw_iald dX10_drift_44 shM_1 (bd_in n_0 (by decide)) (fun v139 ev139 => ?_)
            rw [cl_0] at ev139
            have cv139 : y130 = v139 := ey130.trans ev139.symm
            subst cv139
            refine tc_Vi (as := [.int y130]) (st := []) dX10_drift_45 rfl shM_0 rfl rfl mX10_225 t_X10_draw rfl (Nat.le_of_ble_eq_true rfl) (by decide) (by decide) (cx_X10_draw (g := g) S125 hI126 y130 b131) (fun S140 v142 h141 => ?_)
            obtain ⟨hI147, hf148, b143, x144, hx145⟩ := h141
            have hF149 := fr_tr hF127 hf148 (by decide) (by decide) (by decide) (by decide)
            have hE150 : F_X10_drift S x1 = F_X10_drift_L33fc48 S140 v142 (F_X10_drift_L33 x1 N33) y128 y130 := (by subst ey130; exact hE133.trans (by rw [F_X10_drift_L33, if_neg q134, hx145]))
            refine mw_istore_n (ls' := [(3, .int v142), (0, .ref 0), (1, .int x1), (2, .int y128)]) dX10_drift_48 rfl (by decide) rfl ?_
            refine mw_aload_n dX10_drift_49 rfl 1 rfl ?_
            refine mw_iconst dX10_drift_50 ki_3 ?_
            refine tc_Vi (as := [.int 3]) (st := []) dX10_drift_51 rfl shM_0 rfl rfl mX10_225 t_X10_draw rfl (Nat.le_of_ble_eq_true rfl) (by decide) (by decide) (cx_X10_draw (g := g) S140 hI147 (3 : Int32) (bd_w n_3 (by decide))) (fun S151 v153 h152 => ?_)
            obtain ⟨hI158, hf159, b154, x155, hx156⟩ := h152
            have hF160 := fr_tr hF149 hf159 (by decide) (by decide) (by decide) (by decide)
            have hE161 : F_X10_drift S x1 = F_X10_drift_L33fc48c54 v153 S151 v142 (F_X10_drift_L33 x1 N33) y128 y130 := (by exact hE150.trans (by rw [F_X10_drift_L33fc48, hx156]))
            refine mw_istore (ls' := [(4, .int v153), (3, .int v142), (0, .ref 0), (1, .int x1), (2, .int y128)]) dX10_drift_54 (by decide) rfl ?_
            refine mw_iload_n dX10_drift_56 rfl 1 rfl ?_
            refine mw_iconst dX10_drift_57 ki_1 ?_
            refine mw_iadd dX10_drift_58 (fun v162 ev162 => ?_)
            have b163 : mm_b (1) (7) v162 := bd_add ev162 b143 n_1 (by decide)
            refine mw_aload_n dX10_drift_59 rfl 2 rfl ?_
            refine tw_getr (j := 0) dX10_drift_60 shM_0 rfl rfl (by decide) fX10_7 ?_
            refine mw_iconst dX10_drift_63 ki_0 ?_
            refine tw_iald dX10_drift_64 shM_1 (bd_in n_0 (by decide)) (fun v164 ev164 => ?_)
            rw [cl_0] at ev164
            have cv164 : y130 = v164 := ((ey130.trans (fr_A hf148 (by decide) (by decide))).trans (fr_A hf159 (by decide) (by decide))).trans ev164.symm
            subst cv164
            refine mw_irem dX10_drift_65 (bd_ne0 b131 (by decide)) (fun v165 ev165 => ?_)
            have b166 : mm_b (0) (6) v165 := bd_rem ev165 b163 b131 (by decide)
            refine mw_istore (ls' := [(5, .int v165), (4, .int v153), (3, .int v142), (0, .ref 0), (1, .int x1), (2, .int y128)]) dX10_drift_66 (by decide) rfl ?_
            refine mw_iload dX10_drift_68 1 rfl ?_
            refine mw_if_ne (tgt := 95) dX10_drift_70 (by decide) (fun q167 => ?_) (fun q167 => ?_)
            · skip
              have b168 : mm_b (1) (6) v153 := bd_ne_l q167 b154 n_0 (by decide)
              refine mw_iload dX10_drift_95 1 rfl ?_
              refine mw_iconst dX10_drift_97 ki_1 ?_
              refine mw_icmp_ne (tgt := 118) dX10_drift_98 (by decide) (fun q169 => ?_) (fun q169 => ?_)
              · skip
                have b170 : mm_b (2) (6) v153 := bd_ne_l q169 b168 n_1 (by decide)
                refine mw_iinc (ls' := fun v => [(2, .int v), (5, .int v165), (4, .int v153), (3, .int v142), (0, .ref 0), (1, .int x1)]) dX10_drift_118 5 rfl (by decide) (fun _ => rfl) (fun v171 ev171 => ?_)
                have b172 : mm_b (1) (60) v171 := bd_inc ev171 b138 (by decide)
                refine mw_goto (tgt := 33) dX10_drift_121 (by decide) ?_
                refine mw_ls [4, 5, 0] rfl ?_
                exact ih33 S151 v171 y130 (ms_inc ev171 b138 (by decide) hm132) hI158 hF160 (bd_w b172 (by decide)) b131 ((ey130.trans (fr_A hf148 (by decide) (by decide))).trans (fr_A hf159 (by decide) (by decide))) (by subst ev171; subst ev165; subst ev162; exact hE161.trans (by rw [F_X10_drift_L33fc48c54, if_neg q167, if_neg q169]))
              · skip
                have b173 : mm_b (1) (1) v153 := bd_eq_l q169 b168 n_1 (by decide)
                refine mw_aload_n dX10_drift_101 rfl 3 rfl ?_
                refine mw_iload_n dX10_drift_102 rfl 2 rfl ?_
                refine mw_iload dX10_drift_103 0 rfl ?_
                refine tc_Vi (as := [.int v142, .int v165]) (st := []) dX10_drift_105 rfl shM_0 rfl rfl mX10_198 t_X10_maySell rfl (Nat.le_of_ble_eq_true rfl) (by decide) (by decide) (cx_X10_maySell (g := g) S151 hI158 v142 b143 v165 b166) (fun S174 v176 h175 => ?_)
                obtain ⟨rfl, b177, x178, hx179⟩ := h175
                refine mw_if_eq (tgt := 118) dX10_drift_108 (by decide) (fun q180 => ?_) (fun q180 => ?_)
                · skip
                  have b181 : mm_b (0) (0) v176 := bd_eq_l q180 b177 n_0 (by decide)
                  refine mw_iinc (ls' := fun v => [(2, .int v), (5, .int v165), (4, .int v153), (3, .int v142), (0, .ref 0), (1, .int x1)]) dX10_drift_118 5 rfl (by decide) (fun _ => rfl) (fun v182 ev182 => ?_)
                  have b183 : mm_b (1) (60) v182 := bd_inc ev182 b138 (by decide)
                  refine mw_goto (tgt := 33) dX10_drift_121 (by decide) ?_
                  refine mw_ls [4, 5, 0] rfl ?_
                  exact ih33 S151 v182 y130 (ms_inc ev182 b138 (by decide) hm132) hI158 hF160 (bd_w b183 (by decide)) b131 ((ey130.trans (fr_A hf148 (by decide) (by decide))).trans (fr_A hf159 (by decide) (by decide))) (by subst ev182; subst hx179; subst ev165; subst ev162; exact hE161.trans (by rw [F_X10_drift_L33fc48c54, if_neg q167, if_pos q169, if_pos q180]))
                · skip
                  have b184 : mm_b (1) (1) v176 := bd_ne_l q180 b177 n_0 (by decide)
                  refine mw_aload_n dX10_drift_111 rfl 3 rfl ?_
                  refine mw_iload_n dX10_drift_112 rfl 2 rfl ?_
                  refine mw_iload dX10_drift_113 0 rfl ?_
                  refine tc_Vv (as := [.int v142, .int v165]) (st := []) dX10_drift_115 rfl shM_0 rfl rfl mX10_201 t_X10_sells rfl (Nat.le_of_ble_eq_true rfl) (by decide) (by decide) (cx_X10_sells (g := g) S151 hI158 v142 b143 v165 b166) (fun S185 h186 => ?_)
                  obtain ⟨hI189, hf190, x187, hx188⟩ := h186
                  have hF191 := fr_tr hF160 hf190 (by decide) (by decide) (by decide) (by decide)
                  have hE192 : F_X10_drift S x1 = F_X10_drift_L33fc48c54tffc118 (F_X10_drift_L33 x1 N33) S185 y128 := (by subst hx179; subst ev165; subst ev162; exact hE161.trans (by rw [F_X10_drift_L33fc48c54, if_neg q167, if_pos q169, if_neg q180, hx188]))
                  refine mw_iinc (ls' := fun v => [(2, .int v), (5, .int v165), (4, .int v153), (3, .int v142), (0, .ref 0), (1, .int x1)]) dX10_drift_118 5 rfl (by decide) (fun _ => rfl) (fun v193 ev193 => ?_)
                  have b194 : mm_b (1) (60) v193 := bd_inc ev193 b138 (by decide)
                  refine mw_goto (tgt := 33) dX10_drift_121 (by decide) ?_
                  refine mw_ls [4, 5, 0] rfl ?_
                  exact ih33 S185 v193 y130 (ms_inc ev193 b138 (by decide) hm132) hI189 hF191 (bd_w b194 (by decide)) b131 (((ey130.trans (fr_A hf148 (by decide) (by decide))).trans (fr_A hf159 (by decide) (by decide))).trans (fr_A hf190 (by decide) (by decide))) (by subst ev193; exact hE192.trans (by rw [F_X10_drift_L33fc48c54tffc118]))
            · skip
              have b195 : mm_b (0) (0) v153 := bd_eq_l q167 b154 n_0 (by decide)
              refine mw_aload_n dX10_drift_73 rfl 3 rfl ?_
              refine mw_iload_n dX10_drift_74 rfl 2 rfl ?_
              refine tc_Vi (as := [.int v142]) (st := []) dX10_drift_75 rfl shM_0 rfl rfl mX10_167 t_X10_isAlive rfl (Nat.le_of_ble_eq_true rfl) (by decide) (by decide) (cx_X10_isAlive (g := g) S151 hI158 v142) (fun S196 v198 h197 => ?_)
              obtain ⟨rfl, b199, x200, hx201⟩ := h197
              refine mw_if_eq (tgt := 95) dX10_drift_78 (by decide) (fun q202 => ?_) (fun q202 => ?_)
              · skip
                have b203 : mm_b (0) (0) v198 := bd_eq_l q202 b199 n_0 (by decide)
                refine mw_iload dX10_drift_95 1 rfl ?_
                refine mw_iconst dX10_drift_97 ki_1 ?_
                refine mw_icmp_ne (tgt := 118) dX10_drift_98 (by decide) (fun q204 => ?_) (fun q204 => ?_)
                · skip
                  refine mw_iinc (ls' := fun v => [(2, .int v), (5, .int v165), (4, .int v153), (3, .int v142), (0, .ref 0), (1, .int x1)]) dX10_drift_118 5 rfl (by decide) (fun _ => rfl) (fun v205 ev205 => ?_)
                  have b206 : mm_b (1) (60) v205 := bd_inc ev205 b138 (by decide)
                  refine mw_goto (tgt := 33) dX10_drift_121 (by decide) ?_
                  refine mw_ls [4, 5, 0] rfl ?_
                  exact ih33 S151 v205 y130 (ms_inc ev205 b138 (by decide) hm132) hI158 hF160 (bd_w b206 (by decide)) b131 ((ey130.trans (fr_A hf148 (by decide) (by decide))).trans (fr_A hf159 (by decide) (by decide))) (by subst ev205; subst hx201; subst ev165; subst ev162; exact hE161.trans (by rw [F_X10_drift_L33fc48c54, if_pos q167, if_pos q202]))
                · skip
                  exact bd_feq q204 b195 n_1 (by decide)
              · skip
                have b207 : mm_b (1) (1) v198 := bd_ne_l q202 b199 n_0 (by decide)
                refine mw_aload_n dX10_drift_81 rfl 3 rfl ?_
                refine mw_aload_n dX10_drift_82 rfl 3 rfl ?_
                refine tw_getr (j := 2) dX10_drift_83 shM_0 rfl rfl (by decide) fX10_16 ?_
                refine mw_iload_n dX10_drift_86 rfl 2 rfl ?_
                refine tc_Vi (as := [.ref 3, .int v142]) (st := []) dX10_drift_87 rfl shM_0 rfl rfl mX10_191 t_X10_dies rfl (Nat.le_of_ble_eq_true rfl) (by decide) (by decide) (cx_X10_dies3 (g := g) S151 hI158 v142 b143) (fun S208 v210 h209 => ?_)
                obtain ⟨hI215, hf216, b211, x212, hx213⟩ := h209
                have hF217 := fr_tr hF160 hf216 (by decide) (by decide) (by decide) (by decide)
                have hE218 : F_X10_drift S x1 = F_X10_drift_L33fc48c54tffc118 (F_X10_drift_L33 x1 N33) S208 y128 := (by subst hx201; subst ev165; subst ev162; exact hE161.trans (by rw [F_X10_drift_L33fc48c54, if_pos q167, if_neg q202, hx213]))
                refine mw_istore (ls' := [(6, .int v210), (5, .int v165), (4, .int v153), (3, .int v142), (0, .ref 0), (1, .int x1), (2, .int y128)]) dX10_drift_90 (by decide) rfl ?_
                refine mw_goto (tgt := 118) dX10_drift_92 (by decide) ?_
                refine mw_iinc (ls' := fun v => [(2, .int v), (6, .int v210), (5, .int v165), (4, .int v153), (3, .int v142), (0, .ref 0), (1, .int x1)]) dX10_drift_118 6 rfl (by decide) (fun _ => rfl) (fun v219 ev219 => ?_)
                have b220 : mm_b (1) (60) v219 := bd_inc ev219 b138 (by decide)
                refine mw_goto (tgt := 33) dX10_drift_121 (by decide) ?_
                refine mw_ls [5, 6, 0] rfl ?_
                exact ih33 S208 v219 y130 (ms_inc ev219 b138 (by decide) hm132) hI215 hF217 (bd_w b220 (by decide)) b131 (((ey130.trans (fr_A hf148 (by decide) (by decide))).trans (fr_A hf159 (by decide) (by decide))).trans (fr_A hf216 (by decide) (by decide))) (by subst ev219; exact hE218.trans (by rw [F_X10_drift_L33fc48c54tffc118]))
      refine mw_ls [1, 2, 0] rfl ?_
      exact cut33 62 S117 (0 : Int32) v113 (by have hz := n_0; omega) hI121 hF123 (bd_w n_0 (by decide)) b116 (ev113.trans (fr_A hf122 (by decide) (by decide))) (by exact hE124.trans (by rw [F_X10_drift_ttc31]))
    · skip
      have b221 : mm_b (0) (0) v113 := bd_eq_l q115 b114 n_0 (by decide)
      refine mw_ldc dX10_drift_24 kX10_187 ?_
      exact mw_iret rfl dX10_drift_26 rfl rfl ⟨S, _, rfl, rfl, hI, hF, bd_w n_m1000000003 (by decide), trivial, (by subst ev113; subst hx108; subst ew101; rw [F_X10_drift, if_neg q110, if_pos q115])⟩
  · skip
    have b222 : mm_b (0) (0) v105 := bd_eq_l q110 b106 n_0 (by decide)
    refine mw_ldc dX10_drift_12 kX10_84 ?_
    exact mw_iret rfl dX10_drift_14 rfl rfl ⟨S, _, rfl, rfl, hI, hF, bd_w n_m1000000002 (by decide), trivial, (by subst hx108; subst ew101; rw [F_X10_drift, if_pos q110])⟩
def F_X10_undo_tu38c41 (v106 : Int32) (S115 : mm_S) : Int32 × mm_S := (v106, S115)
def F_X10_undo_tu38 (v106 : Int32) (S109 : mm_S) (v112 : Int32) : Int32 × mm_S := (F_X10_undo_tu38c41 v106 (F_X10_copies_53 S109 v112 (0 : Int32) (30 : Int32)))
def F_X10_undo (S : mm_S)  : Int32 × mm_S := (if (S.1 0 5) = (0 : Int32) then ((-1000000003 : Int32), S) else (F_X10_undo_tu38 ((S.1 0 5) - (1 : Int32)) (mm_up S 0 5 ((S.1 0 5) - (1 : Int32))) ((30 : Int32) * ((S.1 0 5) - (1 : Int32)))))
set_option maxRecDepth 100000 in
set_option maxHeartbeats 4000000 in
theorem cx_X10_undo {g : mm_G} (S : mm_S) (hI : JM S)  : mc g yX10_undo cX10_undo 1 (some .int) (mm_rm 1) [.ref 0] (mm_enc shM S) (qi shM (fun S1 v => JM S1 ∧ fr [3] [5] true true S S1 ∧ mm_b (-1000000003) (19) v ∧ (True) ∧ F_X10_undo S = (v, S1))) := by
  refine mc_of2 (own := RX10) (ini := false) (ls := [(0, .ref 0)]) (by decide) (Nat.le_of_ble_eq_true rfl) rfl (by decide) rfl ?_
  have hF : fr [3] [5] true true S S := fr_rf
  refine mw_aload_n dX10_undo_0 rfl 0 rfl ?_
  refine tw_geti (j := 5) dX10_undo_1 shM_0 rfl rfl (by decide) fX10_70 (fun v101 ev101 => ?_)
  have b102 : mm_b (0) (20) v101 := JIM_fld hI ev101 tbM_1 (by decide)
  refine mw_if_ne (tgt := 10) dX10_undo_4 (by decide) (fun q103 => ?_) (fun q103 => ?_)
  · skip
    have b104 : mm_b (1) (20) v101 := bd_ne_l q103 b102 n_0 (by decide)
    refine mw_aload_n dX10_undo_10 rfl 0 rfl ?_
    refine mw_dup dX10_undo_11 rfl ?_
    refine tw_geti (j := 5) dX10_undo_12 shM_0 rfl rfl (by decide) fX10_70 (fun v105 ev105 => ?_)
    have cv105 : v101 = v105 := ev101.trans ev105.symm
    subst cv105
    refine mw_iconst dX10_undo_15 ki_1 ?_
    refine mw_isub dX10_undo_16 (fun v106 ev106 => ?_)
    have b107 : mm_b (0) (19) v106 := bd_sub ev106 b104 n_1 (by decide)
    refine tw_puti (j := 5) dX10_undo_17 shM_0 rfl rfl (by decide) fX10_70 rfl (by decide +kernel) ?_
    have hI108 : JM (mm_up S 0 5 v106) := JIM_put hI b107 (by decide +kernel)
    generalize hS109 : (mm_up S 0 5 v106) = S109 at hI108 ⊢
    have hF110 := fr_upF hF hS109 (by decide)
    refine mw_aload_n dX10_undo_20 rfl 0 rfl ?_
    refine tw_getr (j := 4) dX10_undo_21 shM_0 rfl rfl (by decide) fX10_22 ?_
    refine mw_bipush dX10_undo_24 kb_30 ?_
    refine mw_aload_n dX10_undo_26 rfl 0 rfl ?_
    refine tw_geti (j := 5) dX10_undo_27 shM_0 rfl rfl (by decide) fX10_70 (fun v111 ev111 => ?_)
    have cv111 : v106 = v111 := (up_eq hS109).trans ev111.symm
    subst cv111
    refine mw_imul dX10_undo_30 (fun v112 ev112 => ?_)
    have b113 : mm_b (0) (570) v112 := bd_mul ev112 n_30 b107 (by decide)
    refine mw_aload_n dX10_undo_31 rfl 0 rfl ?_
    refine tw_getr (j := 2) dX10_undo_32 shM_0 rfl rfl (by decide) fX10_16 ?_
    refine mw_iconst dX10_undo_35 ki_0 ?_
    refine mw_bipush dX10_undo_36 kb_30 ?_
    have hE114 : F_X10_undo S = F_X10_undo_tu38 v106 S109 v112 := (by subst ev112; subst hS109; subst ev106; subst ev101; rw [F_X10_undo, if_neg q103])
    refine tc_Sv (as := [.ref 5, .int v112, .ref 3, .int 0, .int 30]) (st := []) dX10_undo_38 rfl mX10_66 t_X10_copies rfl (Nat.le_of_ble_eq_true rfl) (by decide) (by decide) (cx_X10_copies_53 (g := g) S109 hI108 v112 (0 : Int32) n_0 (30 : Int32) n_30 (cp_mul (C := 30) (M := 20) ev112 n_30 b107 (by decide))) (fun S115 h116 => ?_)
    obtain ⟨hI119, hf120, x117, hx118⟩ := h116
    have hF121 := fr_tr hF110 hf120 (by decide) (by decide) (by decide) (by decide)
    have hE122 : F_X10_undo S = F_X10_undo_tu38c41 v106 S115 := (by exact hE114.trans (by rw [F_X10_undo_tu38, hx118]))
    refine mw_aload_n dX10_undo_41 rfl 0 rfl ?_
    refine tw_geti (j := 5) dX10_undo_42 shM_0 rfl rfl (by decide) fX10_70 (fun v123 ev123 => ?_)
    have cv123 : v106 = v123 := ((up_eq hS109).trans (fr_F hf120 (by decide))).trans ev123.symm
    subst cv123
    exact mw_iret rfl dX10_undo_45 rfl rfl ⟨S115, _, rfl, rfl, hI119, hF121, bd_w b107 (by decide), trivial, (by exact hE122.trans (by rw [F_X10_undo_tu38c41]))⟩
  · skip
    have b124 : mm_b (0) (0) v101 := bd_eq_l q103 b102 n_0 (by decide)
    refine mw_ldc dX10_undo_7 kX10_187 ?_
    exact mw_iret rfl dX10_undo_9 rfl rfl ⟨S, _, rfl, rfl, hI, hF, bd_w n_m1000000003 (by decide), trivial, (by subst ev101; rw [F_X10_undo, if_pos q103])⟩
def F_X10_keep_tc31 (S115 : mm_S) (v113 : Int32) (x1 : Int32) : Int32 × mm_S := ((1 : Int32), (mm_up (mm_up (mm_up S115 6 ((v113 + (30 : Int32))).toNatClampNeg ((S115.2.1 0 8)).toInt32) 7 (x1).toNatClampNeg (1 : Int32)) 0 5 (0 : Int32)))
def F_X10_keep (S : mm_S) (x1 : Int32) : Int32 × mm_S := (if (F_X10_in S (x1).toInt64 (0 : Int64) (1 : Int64)) = (0 : Int32) then ((-1000000001 : Int32), S) else (F_X10_keep_tc31 (F_X10_copies_36 S (0 : Int32) ((31 : Int32) * x1) (30 : Int32)) ((31 : Int32) * x1) x1))
set_option maxRecDepth 100000 in
set_option maxHeartbeats 4000000 in
theorem cx_X10_keep {g : mm_G} (S : mm_S) (hI : JM S) (x1 : Int32) : mc g yX10_keep cX10_keep 2 (some .int) (mm_rm 1) [.ref 0, .int x1] (mm_enc shM S) (qi shM (fun S1 v => JM S1 ∧ fr [6, 7] [5] true true S S1 ∧ mm_b (-1000000001) (1) v ∧ (True) ∧ F_X10_keep S x1 = (v, S1))) := by
  refine mc_of2 (own := RX10) (ini := false) (ls := [(0, .ref 0), (1, .int x1)]) (by decide) (Nat.le_of_ble_eq_true rfl) rfl (by decide) rfl ?_
  have hF : fr [6, 7] [5] true true S S := fr_rf
  refine mw_iload_n dX10_keep_0 rfl 1 rfl ?_
  refine mw_i2l dX10_keep_1 (fun w101 ew101 => ?_)
  have b102 : mm_bl (-2147483648) (2147483647) w101 := bl_i2l ew101 (bd_all x1)
  refine mw_lconst (v := 0) dX10_keep_2 (by decide) ?_
  refine mw_lconst (v := 1) dX10_keep_3 (by decide) ?_
  refine tc_Si (as := [.long w101, .long 0, .long 1]) (st := []) dX10_keep_4 rfl mX10_62 t_X10_in rfl (Nat.le_of_ble_eq_true rfl) (by decide) (by decide) (cx_X10_in (g := g) S hI w101 (0 : Int64) (1 : Int64)) (fun S103 v105 h104 => ?_)
  obtain ⟨rfl, b106, x107, hx108⟩ := h104
  have x109 := in_use (lo := 0) (hi := 1) x107 ew101 L_0 L_1 (by decide)
  refine mw_if_ne (tgt := 13) dX10_keep_7 (by decide) (fun q110 => ?_) (fun q110 => ?_)
  · skip
    have b111 : mm_b (1) (1) v105 := bd_ne_l q110 b106 n_0 (by decide)
    have b112 := Or.resolve_left x109 q110
    refine mw_aload_n dX10_keep_13 rfl 0 rfl ?_
    refine tw_getr (j := 2) dX10_keep_14 shM_0 rfl rfl (by decide) fX10_16 ?_
    refine mw_iconst dX10_keep_17 ki_0 ?_
    refine mw_aload_n dX10_keep_18 rfl 0 rfl ?_
    refine tw_getr (j := 6) dX10_keep_19 shM_0 rfl rfl (by decide) fX10_25 ?_
    refine mw_bipush dX10_keep_22 kb_31 ?_
    refine mw_iload_n dX10_keep_24 rfl 1 rfl ?_
    refine mw_imul dX10_keep_25 (fun v113 ev113 => ?_)
    have b114 : mm_b (0) (31) v113 := bd_mul ev113 n_31 b112 (by decide)
    refine mw_bipush dX10_keep_26 kb_30 ?_
    refine tc_Sv (as := [.ref 3, .int 0, .ref 6, .int v113, .int 30]) (st := []) dX10_keep_28 rfl mX10_66 t_X10_copies rfl (Nat.le_of_ble_eq_true rfl) (by decide) (by decide) (cx_X10_copies_36 (g := g) S hI (0 : Int32) n_0 v113 (30 : Int32) n_30 (cp_mul (C := 31) (M := 2) ev113 n_31 b112 (by decide))) (fun S115 h116 => ?_)
    obtain ⟨hI119, hf120, x117, hx118⟩ := h116
    have hF121 := fr_tr hF hf120 (by decide) (by decide) (by decide) (by decide)
    have hE122 : F_X10_keep S x1 = F_X10_keep_tc31 S115 v113 x1 := (by subst ev113; subst hx108; subst ew101; rw [F_X10_keep, if_neg q110, hx118])
    refine mw_aload_n dX10_keep_31 rfl 0 rfl ?_
    refine tw_getr (j := 6) dX10_keep_32 shM_0 rfl rfl (by decide) fX10_25 ?_
    refine mw_bipush dX10_keep_35 kb_31 ?_
    refine mw_iload_n dX10_keep_37 rfl 1 rfl ?_
    refine mw_imul dX10_keep_38 (fun v123 ev123 => ?_)
    have cv123 : v113 = v123 := ev113.trans ev123.symm
    subst cv123
    refine mw_bipush dX10_keep_39 kb_30 ?_
    refine mw_iadd dX10_keep_41 (fun v124 ev124 => ?_)
    have b125 : mm_b (30) (61) v124 := bd_add ev124 b114 n_30 (by decide)
    refine mw_aload_n dX10_keep_42 rfl 0 rfl ?_
    refine tw_getl (j := 8) dX10_keep_43 shM_0 rfl rfl (by decide) fX10_211 (fun w126 ew126 => ?_)
    have b127 : mm_bl (0) (2147483647) w126 := by rw [ew126]; exact JM_long hI119
    refine mw_l2i dX10_keep_46 (fun v128 ev128 => ?_)
    have b129 : mm_b (0) (2147483647) v128 := bl_l2i ev128 b127 (by decide)
    refine tw_iast dX10_keep_47 shM_6 (bd_in b125 (by decide)) ?_
    have hI130 : JM (mm_up S115 6 v124.toNatClampNeg v128) := JM_img hI119 ev124 (cp_mul (C := 31) (M := 2) ev113 n_31 b112 (by decide)) (bd_w b129 (by decide))
    generalize hS131 : (mm_up S115 6 v124.toNatClampNeg v128) = S131 at hI130 ⊢
    have hF132 := fr_upA hF121 hS131 (by decide)
    refine mw_aload_n dX10_keep_48 rfl 0 rfl ?_
    refine tw_getr (j := 7) dX10_keep_49 shM_0 rfl rfl (by decide) fX10_28 ?_
    refine mw_iload_n dX10_keep_52 rfl 1 rfl ?_
    refine mw_iconst dX10_keep_53 ki_1 ?_
    refine tw_zast dX10_keep_54 shM_7 (bd_in b112 (by decide)) (bd_bool n_1 (by decide)) ?_
    have hI133 : JM (mm_up S131 7 x1.toNatClampNeg 1) := JIM_puta hI130 n_1 b112 (by decide) (by decide +kernel)
    generalize hS134 : (mm_up S131 7 x1.toNatClampNeg 1) = S134 at hI133 ⊢
    have hF135 := fr_upA hF132 hS134 (by decide)
    refine mw_aload_n dX10_keep_55 rfl 0 rfl ?_
    refine mw_iconst dX10_keep_56 ki_0 ?_
    refine tw_puti (j := 5) dX10_keep_57 shM_0 rfl rfl (by decide) fX10_70 rfl (by decide +kernel) ?_
    have hI136 : JM (mm_up S134 0 5 0) := JIM_put hI133 n_0 (by decide +kernel)
    generalize hS137 : (mm_up S134 0 5 0) = S137 at hI136 ⊢
    have hF138 := fr_upF hF135 hS137 (by decide)
    refine mw_iconst dX10_keep_60 ki_1 ?_
    exact mw_iret rfl dX10_keep_61 rfl rfl ⟨S137, _, rfl, rfl, hI136, hF138, bd_w n_1 (by decide), trivial, (by subst hS137; subst hS134; subst hS131; subst ev128; subst ew126; subst ev124; exact hE122.trans (by rw [F_X10_keep_tc31]))⟩
  · skip
    have b139 : mm_b (0) (0) v105 := bd_eq_l q110 b106 n_0 (by decide)
    refine mw_ldc dX10_keep_10 kX10_182 ?_
    exact mw_iret rfl dX10_keep_12 rfl rfl ⟨S, _, rfl, rfl, hI, hF, bd_w n_m1000000001 (by decide), trivial, (by subst hx108; subst ew101; rw [F_X10_keep, if_pos q110])⟩
def F_X10_goBack_ttc43 (S119 : mm_S) (v117 : Int32) : Int32 × mm_S := ((1 : Int32), (mm_up (mm_upL S119 0 8 ((S119.1 6 ((v117 + (30 : Int32))).toNatClampNeg)).toInt64) 0 5 (0 : Int32)))
def F_X10_goBack (S : mm_S) (x1 : Int32) : Int32 × mm_S := (if (F_X10_in S (x1).toInt64 (0 : Int64) (1 : Int64)) = (0 : Int32) then ((-1000000001 : Int32), S) else (if (S.1 7 (x1).toNatClampNeg) = (0 : Int32) then ((-1000000003 : Int32), S) else (F_X10_goBack_ttc43 (F_X10_copies_63 S ((31 : Int32) * x1) (0 : Int32) (30 : Int32)) ((31 : Int32) * x1))))
set_option maxRecDepth 100000 in
set_option maxHeartbeats 4000000 in
theorem cx_X10_goBack {g : mm_G} (S : mm_S) (hI : JM S) (x1 : Int32) : mc g yX10_goBack cX10_goBack 2 (some .int) (mm_rm 1) [.ref 0, .int x1] (mm_enc shM S) (qi shM (fun S1 v => JM S1 ∧ fr [3] [5] false true S S1 ∧ mm_b (-1000000003) (1) v ∧ (True) ∧ F_X10_goBack S x1 = (v, S1))) := by
  refine mc_of2 (own := RX10) (ini := false) (ls := [(0, .ref 0), (1, .int x1)]) (by decide) (Nat.le_of_ble_eq_true rfl) rfl (by decide) rfl ?_
  have hF : fr [3] [5] false true S S := fr_rf
  refine mw_iload_n dX10_goBack_0 rfl 1 rfl ?_
  refine mw_i2l dX10_goBack_1 (fun w101 ew101 => ?_)
  have b102 : mm_bl (-2147483648) (2147483647) w101 := bl_i2l ew101 (bd_all x1)
  refine mw_lconst (v := 0) dX10_goBack_2 (by decide) ?_
  refine mw_lconst (v := 1) dX10_goBack_3 (by decide) ?_
  refine tc_Si (as := [.long w101, .long 0, .long 1]) (st := []) dX10_goBack_4 rfl mX10_62 t_X10_in rfl (Nat.le_of_ble_eq_true rfl) (by decide) (by decide) (cx_X10_in (g := g) S hI w101 (0 : Int64) (1 : Int64)) (fun S103 v105 h104 => ?_)
  obtain ⟨rfl, b106, x107, hx108⟩ := h104
  have x109 := in_use (lo := 0) (hi := 1) x107 ew101 L_0 L_1 (by decide)
  refine mw_if_ne (tgt := 13) dX10_goBack_7 (by decide) (fun q110 => ?_) (fun q110 => ?_)
  · skip
    have b111 : mm_b (1) (1) v105 := bd_ne_l q110 b106 n_0 (by decide)
    have b112 := Or.resolve_left x109 q110
    refine mw_aload_n dX10_goBack_13 rfl 0 rfl ?_
    refine tw_getr (j := 7) dX10_goBack_14 shM_0 rfl rfl (by decide) fX10_28 ?_
    refine mw_iload_n dX10_goBack_17 rfl 1 rfl ?_
    refine tw_zald dX10_goBack_18 shM_7 (bd_in b112 (by decide)) (fun v113 ev113 => ?_)
    have b114 : mm_b (0) (1) v113 := JIM_elt hI ev113 b112 tbM_13 (by decide)
    refine mw_if_ne (tgt := 25) dX10_goBack_19 (by decide) (fun q115 => ?_) (fun q115 => ?_)
    · skip
      have b116 : mm_b (1) (1) v113 := bd_ne_l q115 b114 n_0 (by decide)
      refine mw_aload_n dX10_goBack_25 rfl 0 rfl ?_
      refine tw_getr (j := 6) dX10_goBack_26 shM_0 rfl rfl (by decide) fX10_25 ?_
      refine mw_bipush dX10_goBack_29 kb_31 ?_
      refine mw_iload_n dX10_goBack_31 rfl 1 rfl ?_
      refine mw_imul dX10_goBack_32 (fun v117 ev117 => ?_)
      have b118 : mm_b (0) (31) v117 := bd_mul ev117 n_31 b112 (by decide)
      refine mw_aload_n dX10_goBack_33 rfl 0 rfl ?_
      refine tw_getr (j := 2) dX10_goBack_34 shM_0 rfl rfl (by decide) fX10_16 ?_
      refine mw_iconst dX10_goBack_37 ki_0 ?_
      refine mw_bipush dX10_goBack_38 kb_30 ?_
      refine tc_Sv (as := [.ref 6, .int v117, .ref 3, .int 0, .int 30]) (st := []) dX10_goBack_40 rfl mX10_66 t_X10_copies rfl (Nat.le_of_ble_eq_true rfl) (by decide) (by decide) (cx_X10_copies_63 (g := g) S hI v117 (0 : Int32) n_0 (30 : Int32) n_30 (cp_mul (C := 31) (M := 2) ev117 n_31 b112 (by decide))) (fun S119 h120 => ?_)
      obtain ⟨hI123, hf124, x121, hx122⟩ := h120
      have hF125 := fr_tr hF hf124 (by decide) (by decide) (by decide) (by decide)
      have hE126 : F_X10_goBack S x1 = F_X10_goBack_ttc43 S119 v117 := (by subst ev117; subst ev113; subst hx108; subst ew101; rw [F_X10_goBack, if_neg q110, if_neg q115, hx122])
      refine mw_aload_n dX10_goBack_43 rfl 0 rfl ?_
      refine mw_aload_n dX10_goBack_44 rfl 0 rfl ?_
      refine tw_getr (j := 6) dX10_goBack_45 shM_0 rfl rfl (by decide) fX10_25 ?_
      refine mw_bipush dX10_goBack_48 kb_31 ?_
      refine mw_iload_n dX10_goBack_50 rfl 1 rfl ?_
      refine mw_imul dX10_goBack_51 (fun v127 ev127 => ?_)
      have cv127 : v117 = v127 := ev117.trans ev127.symm
      subst cv127
      refine mw_bipush dX10_goBack_52 kb_30 ?_
      refine mw_iadd dX10_goBack_54 (fun v128 ev128 => ?_)
      have b129 : mm_b (30) (61) v128 := bd_add ev128 b118 n_30 (by decide)
      refine tw_iald dX10_goBack_55 shM_6 (bd_in b129 (by decide)) (fun v130 ev130 => ?_)
      have b131 : mm_b 0 2147483647 v130 := JM_imgr hI123 ev128 (cp_mul (C := 31) (M := 2) ev117 n_31 b112 (by decide)) ev130
      refine mw_i2l dX10_goBack_56 (fun w132 ew132 => ?_)
      have b133 : mm_bl (0) (2147483647) w132 := bl_i2l ew132 b131
      refine tw_putl (j := 8) dX10_goBack_57 shM_0 rfl rfl (by decide) fX10_211 rfl (by decide +kernel) ?_
      have hI134 : JM (mm_upL S119 0 8 w132) := JLM_put hI123 b133 (by decide)
      generalize hS135 : mm_upL S119 0 8 w132 = S135 at hI134 ⊢
      have hF136 := fr_upL hF125 hS135
      refine mw_aload_n dX10_goBack_60 rfl 0 rfl ?_
      refine mw_iconst dX10_goBack_61 ki_0 ?_
      refine tw_puti (j := 5) dX10_goBack_62 shM_0 rfl rfl (by decide) fX10_70 rfl (by decide +kernel) ?_
      have hI137 : JM (mm_up S135 0 5 0) := JIM_put hI134 n_0 (by decide +kernel)
      generalize hS138 : (mm_up S135 0 5 0) = S138 at hI137 ⊢
      have hF139 := fr_upF hF136 hS138 (by decide)
      refine mw_iconst dX10_goBack_65 ki_1 ?_
      exact mw_iret rfl dX10_goBack_66 rfl rfl ⟨S138, _, rfl, rfl, hI137, hF139, bd_w n_1 (by decide), trivial, (by subst hS138; subst hS135; subst ew132; subst ev130; subst ev128; exact hE126.trans (by rw [F_X10_goBack_ttc43]))⟩
    · skip
      have b140 : mm_b (0) (0) v113 := bd_eq_l q115 b114 n_0 (by decide)
      refine mw_ldc dX10_goBack_22 kX10_187 ?_
      exact mw_iret rfl dX10_goBack_24 rfl rfl ⟨S, _, rfl, rfl, hI, hF, bd_w n_m1000000003 (by decide), trivial, (by subst ev113; subst hx108; subst ew101; rw [F_X10_goBack, if_neg q110, if_pos q115])⟩
  · skip
    have b141 : mm_b (0) (0) v105 := bd_eq_l q110 b106 n_0 (by decide)
    refine mw_ldc dX10_goBack_10 kX10_182 ?_
    exact mw_iret rfl dX10_goBack_12 rfl rfl ⟨S, _, rfl, rfl, hI, hF, bd_w n_m1000000001 (by decide), trivial, (by subst hx108; subst ew101; rw [F_X10_goBack, if_pos q110])⟩
