def F_X10_begins_L2tc68 (S110 : mm_S) : mm_S := (mm_up (mm_up (mm_up (mm_up (mm_up (mm_up (mm_up (mm_up S110 3 28 (((1 : Int32) <<< ((S110.1 1 0) &&& 31)) - (1 : Int32))) 3 29 (0 : Int32)) 0 5 (0 : Int32)) 0 13 (0 : Int32)) 0 15 (0 : Int32)) 0 17 (0 : Int32)) 7 0 (0 : Int32)) 7 1 (0 : Int32))
def F_X10_begins_L2  : Nat → mm_S → Int32 → mm_S
  | 0, S101, _ => S101
  | N + 1, S101, y104 => (if (7 : Int32) ≤ y104 then (F_X10_begins_L2tc68 (F_X10_copies_13 S101 (10 : Int32) (14 : Int32) (14 : Int32))) else (if (S101.1 1 (((3 : Int32) + y104)).toNatClampNeg) = (9 : Int32) then ((F_X10_begins_L2  N) (mm_up (mm_up S101 3 (((0 : Int32) + y104)).toNatClampNeg (9 : Int32)) 3 (((7 : Int32) + y104)).toNatClampNeg (0 : Int32)) (y104 + Int32.ofInt 1)) else ((F_X10_begins_L2  N) (mm_up (mm_up S101 3 (((0 : Int32) + y104)).toNatClampNeg y104) 3 (((7 : Int32) + y104)).toNatClampNeg (0 : Int32)) (y104 + Int32.ofInt 1))))
def F_X10_begins (S : mm_S)  : mm_S := (F_X10_begins_L2  9 S (0 : Int32))
set_option maxRecDepth 100000 in
set_option maxHeartbeats 4000000 in
theorem cx_X10_begins {g : mm_G} (S : mm_S) (hI : JM S)  : mc g yX10_begins cX10_begins 2 none (mm_rm 1) [.ref 0] (mm_enc shM S) (qv shM (fun S1 => JM S1 ∧ fr [3, 7] [5, 13, 15, 17] true true S S1 ∧ True ∧ F_X10_begins S = S1)) := by
  refine mc_of2 (own := RX10) (ini := false) (ls := [(0, .ref 0)]) (by decide) (Nat.le_of_ble_eq_true rfl) rfl (by decide) rfl ?_
  have hF : fr [3, 7] [5, 13, 15, 17] true true S S := fr_rf
  refine mw_iconst dX10_begins_0 ki_0 ?_
  refine mw_istore_n (ls' := [(1, .int 0), (0, .ref 0)]) dX10_begins_1 rfl (by decide) rfl ?_
  have cut2 : ∀ (N2 : Nat) (S101 : mm_S) (y104 : Int32), ((8 : Int) - y104.toInt).toNat < N2 → JM S101 → fr [3, 7] [5, 13, 15, 17] true true S S101 → mm_b (0) (7) y104 → F_X10_begins S = F_X10_begins_L2  N2 S101 y104 → mw g RX10 cX10_begins 2 none false (mm_rm 1) (qv shM (fun S1 => JM S1 ∧ fr [3, 7] [5, 13, 15, 17] true true S S1 ∧ True ∧ F_X10_begins S = S1)) 0 0 (mm_enc shM S101) 2 [(0, .ref 0), (1, .int y104)] [] := by
    intro N2
    induction N2 with
    | zero =>
      intro S101 y104 hm106 hI102 hF103 b105 hE107
      exact absurd hm106 (Nat.not_lt_zero _)
    | succ N2 ih2 =>
      intro S101 y104 hm106 hI102 hF103 b105 hE107
      refine mw_iload_n dX10_begins_2 rfl 1 rfl ?_
      refine mw_bipush dX10_begins_3 kb_7 ?_
      refine mw_icmp_ge (tgt := 51) dX10_begins_5 (by decide) (fun q108 => ?_) (fun q108 => ?_)
      · skip
        have b109 : mm_b (7) (7) y104 := bd_le_r q108 n_7 b105 (by decide)
        refine mw_aload_n dX10_begins_51 rfl 0 rfl ?_
        refine tw_getr (j := 0) dX10_begins_52 shM_0 rfl rfl (by decide) fX10_7 ?_
        refine mw_bipush dX10_begins_55 kb_10 ?_
        refine mw_aload_n dX10_begins_57 rfl 0 rfl ?_
        refine tw_getr (j := 2) dX10_begins_58 shM_0 rfl rfl (by decide) fX10_16 ?_
        refine mw_bipush dX10_begins_61 kb_14 ?_
        refine mw_bipush dX10_begins_63 kb_14 ?_
        refine tc_Sv (as := [.ref 1, .int 10, .ref 3, .int 14, .int 14]) (st := []) dX10_begins_65 rfl mX10_66 t_X10_copies rfl (Nat.le_of_ble_eq_true rfl) (by decide) (by decide) (cx_X10_copies_13 (g := g) S101 hI102 (10 : Int32) n_10 (14 : Int32) n_14 (14 : Int32) n_14) (fun S110 h111 => ?_)
        obtain ⟨hI114, hf115, x112, hx113⟩ := h111
        have hF116 := fr_tr hF103 hf115 (by decide) (by decide) (by decide) (by decide)
        have hE117 : F_X10_begins S = F_X10_begins_L2tc68 S110 := (by exact hE107.trans (by rw [F_X10_begins_L2, if_pos q108, hx113]))
        refine mw_aload_n dX10_begins_68 rfl 0 rfl ?_
        refine tw_getr (j := 2) dX10_begins_69 shM_0 rfl rfl (by decide) fX10_16 ?_
        refine mw_bipush dX10_begins_72 kb_28 ?_
        refine mw_iconst dX10_begins_74 ki_1 ?_
        refine mw_aload_n dX10_begins_75 rfl 0 rfl ?_
        refine tw_getr (j := 0) dX10_begins_76 shM_0 rfl rfl (by decide) fX10_7 ?_
        refine mw_iconst dX10_begins_79 ki_0 ?_
        refine tw_iald dX10_begins_80 shM_1 (bd_in n_0 (by decide)) (fun v118 ev118 => ?_)
        rw [cl_0] at ev118
        have b119 : mm_b (0) (7) v118 := JIM_fld hI114 ev118 tbM_16 (by decide)
        refine mw_ishl dX10_begins_81 (fun v120 ev120 => ?_)
        have b121 : mm_b (1) (128) v120 := bd_shl 7 ev120 b119 (by decide)
        refine mw_iconst dX10_begins_82 ki_1 ?_
        refine mw_isub dX10_begins_83 (fun v122 ev122 => ?_)
        have b123 : mm_b (0) (127) v122 := bd_sub ev122 b121 n_1 (by decide)
        refine tw_iast dX10_begins_84 shM_3 (bd_in n_28 (by decide)) ?_
        rw [cl_28]
        have hI124 : JM (mm_up S110 3 28 v122) := JIM_put hI114 b123 (by decide +kernel)
        generalize hS125 : (mm_up S110 3 28 v122) = S125 at hI124 ⊢
        have hF126 := fr_upA hF116 hS125 (by decide)
        refine mw_aload_n dX10_begins_85 rfl 0 rfl ?_
        refine tw_getr (j := 2) dX10_begins_86 shM_0 rfl rfl (by decide) fX10_16 ?_
        refine mw_bipush dX10_begins_89 kb_29 ?_
        refine mw_iconst dX10_begins_91 ki_0 ?_
        refine tw_iast dX10_begins_92 shM_3 (bd_in n_29 (by decide)) ?_
        rw [cl_29]
        have hI127 : JM (mm_up S125 3 29 0) := JIM_put hI124 n_0 (by decide +kernel)
        generalize hS128 : (mm_up S125 3 29 0) = S128 at hI127 ⊢
        have hF129 := fr_upA hF126 hS128 (by decide)
        refine mw_aload_n dX10_begins_93 rfl 0 rfl ?_
        refine mw_iconst dX10_begins_94 ki_0 ?_
        refine tw_puti (j := 5) dX10_begins_95 shM_0 rfl rfl (by decide) fX10_70 rfl (by decide +kernel) ?_
        have hI130 : JM (mm_up S128 0 5 0) := JIM_put hI127 n_0 (by decide +kernel)
        generalize hS131 : (mm_up S128 0 5 0) = S131 at hI130 ⊢
        have hF132 := fr_upF hF129 hS131 (by decide)
        refine mw_aload_n dX10_begins_98 rfl 0 rfl ?_
        refine mw_iconst dX10_begins_99 ki_0 ?_
        refine tw_puti (j := 13) dX10_begins_100 shM_0 rfl rfl (by decide) fX10_73 rfl (by decide +kernel) ?_
        have hI133 : JM (mm_up S131 0 13 0) := JIM_put hI130 n_0 (by decide +kernel)
        generalize hS134 : (mm_up S131 0 13 0) = S134 at hI133 ⊢
        have hF135 := fr_upF hF132 hS134 (by decide)
        refine mw_aload_n dX10_begins_103 rfl 0 rfl ?_
        refine mw_iconst dX10_begins_104 ki_0 ?_
        refine tw_puti (j := 15) dX10_begins_105 shM_0 rfl rfl (by decide) fX10_76 rfl (by decide +kernel) ?_
        have hI136 : JM (mm_up S134 0 15 0) := JIM_put hI133 n_0 (by decide +kernel)
        generalize hS137 : (mm_up S134 0 15 0) = S137 at hI136 ⊢
        have hF138 := fr_upF hF135 hS137 (by decide)
        refine mw_aload_n dX10_begins_108 rfl 0 rfl ?_
        refine mw_iconst dX10_begins_109 ki_0 ?_
        refine tw_puti (j := 17) dX10_begins_110 shM_0 rfl rfl (by decide) fX10_79 rfl (by decide +kernel) ?_
        have hI139 : JM (mm_up S137 0 17 0) := JIM_put hI136 n_0 (by decide +kernel)
        generalize hS140 : (mm_up S137 0 17 0) = S140 at hI139 ⊢
        have hF141 := fr_upF hF138 hS140 (by decide)
        refine mw_aload_n dX10_begins_113 rfl 0 rfl ?_
        refine tw_getr (j := 7) dX10_begins_114 shM_0 rfl rfl (by decide) fX10_28 ?_
        refine mw_iconst dX10_begins_117 ki_0 ?_
        refine mw_iconst dX10_begins_118 ki_0 ?_
        refine tw_zast dX10_begins_119 shM_7 (bd_in n_0 (by decide)) (bd_bool n_0 (by decide)) ?_
        rw [cl_0]
        have hI142 : JM (mm_up S140 7 0 0) := JIM_put hI139 n_0 (by decide +kernel)
        generalize hS143 : (mm_up S140 7 0 0) = S143 at hI142 ⊢
        have hF144 := fr_upA hF141 hS143 (by decide)
        refine mw_aload_n dX10_begins_120 rfl 0 rfl ?_
        refine tw_getr (j := 7) dX10_begins_121 shM_0 rfl rfl (by decide) fX10_28 ?_
        refine mw_iconst dX10_begins_124 ki_1 ?_
        refine mw_iconst dX10_begins_125 ki_0 ?_
        refine tw_zast dX10_begins_126 shM_7 (bd_in n_1 (by decide)) (bd_bool n_0 (by decide)) ?_
        rw [cl_1]
        have hI145 : JM (mm_up S143 7 1 0) := JIM_put hI142 n_0 (by decide +kernel)
        generalize hS146 : (mm_up S143 7 1 0) = S146 at hI145 ⊢
        have hF147 := fr_upA hF144 hS146 (by decide)
        exact mw_vret rfl dX10_begins_127 rfl rfl ⟨S146, rfl, rfl, ⟨hI145, hF147, trivial, (by subst hS146; subst hS143; subst hS140; subst hS137; subst hS134; subst hS131; subst hS128; subst hS125; subst ev122; subst ev120; subst ev118; exact hE117.trans (by rw [F_X10_begins_L2tc68]))⟩⟩
      · skip
        have b148 : mm_b (0) (6) y104 := bd_lt_l (bd_nle q108) b105 n_7 (by decide)
        refine mw_aload_n dX10_begins_8 rfl 0 rfl ?_
        refine tw_getr (j := 2) dX10_begins_9 shM_0 rfl rfl (by decide) fX10_16 ?_
        refine mw_iconst dX10_begins_12 ki_0 ?_
        refine mw_iload_n dX10_begins_13 rfl 1 rfl ?_
        refine mw_iadd dX10_begins_14 (fun v149 ev149 => ?_)
        have b150 : mm_b (0) (6) v149 := bd_add ev149 n_0 b148 (by decide)
        refine mw_aload_n dX10_begins_15 rfl 0 rfl ?_
        refine tw_getr (j := 0) dX10_begins_16 shM_0 rfl rfl (by decide) fX10_7 ?_
        refine mw_iconst dX10_begins_19 ki_3 ?_
        refine mw_iload_n dX10_begins_20 rfl 1 rfl ?_
        refine mw_iadd dX10_begins_21 (fun v151 ev151 => ?_)
        have b152 : mm_b (3) (9) v151 := bd_add ev151 n_3 b148 (by decide)
        refine tw_iald dX10_begins_22 shM_1 (bd_in b152 (by decide)) (fun v153 ev153 => ?_)
        have b154 : mm_b (0) (9) v153 := JIM_elt hI102 ev153 b152 tbM_19 (by decide)
        refine mw_bipush dX10_begins_23 kb_9 ?_
        refine mw_icmp_ne (tgt := 33) dX10_begins_25 (by decide) (fun q155 => ?_) (fun q155 => ?_)
        · skip
          have b156 : mm_b (0) (8) v153 := bd_ne_l q155 b154 n_9 (by decide)
          refine mw_iload_n dX10_begins_33 rfl 1 rfl ?_
          refine tw_iast dX10_begins_34 shM_3 (bd_in b150 (by decide)) ?_
          have hI157 : JM (mm_up S101 3 v149.toNatClampNeg y104) := JIM_puta hI102 b148 b150 (by decide) (by decide +kernel)
          generalize hS158 : (mm_up S101 3 v149.toNatClampNeg y104) = S158 at hI157 ⊢
          have hF159 := fr_upA hF103 hS158 (by decide)
          refine mw_aload_n dX10_begins_35 rfl 0 rfl ?_
          refine tw_getr (j := 2) dX10_begins_36 shM_0 rfl rfl (by decide) fX10_16 ?_
          refine mw_bipush dX10_begins_39 kb_7 ?_
          refine mw_iload_n dX10_begins_41 rfl 1 rfl ?_
          refine mw_iadd dX10_begins_42 (fun v160 ev160 => ?_)
          have b161 : mm_b (7) (13) v160 := bd_add ev160 n_7 b148 (by decide)
          refine mw_iconst dX10_begins_43 ki_0 ?_
          refine tw_iast dX10_begins_44 shM_3 (bd_in b161 (by decide)) ?_
          have hI162 : JM (mm_up S158 3 v160.toNatClampNeg 0) := JIM_puta hI157 n_0 b161 (by decide) (by decide +kernel)
          generalize hS163 : (mm_up S158 3 v160.toNatClampNeg 0) = S163 at hI162 ⊢
          have hF164 := fr_upA hF159 hS163 (by decide)
          refine mw_iinc (ls' := fun v => [(1, .int v), (0, .ref 0)]) dX10_begins_45 1 rfl (by decide) (fun _ => rfl) (fun v165 ev165 => ?_)
          have b166 : mm_b (1) (7) v165 := bd_inc ev165 b148 (by decide)
          refine mw_goto (tgt := 2) dX10_begins_48 (by decide) ?_
          refine mw_ls [1, 0] rfl ?_
          exact ih2 S163 v165 (ms_inc ev165 b148 (by decide) hm106) hI162 hF164 (bd_w b166 (by decide)) (by subst ev165; subst hS163; subst ev160; subst hS158; subst ev153; subst ev151; subst ev149; exact hE107.trans (by rw [F_X10_begins_L2, if_neg q108, if_neg q155]))
        · skip
          have b167 : mm_b (9) (9) v153 := bd_eq_l q155 b154 n_9 (by decide)
          refine mw_bipush dX10_begins_28 kb_9 ?_
          refine mw_goto (tgt := 34) dX10_begins_30 (by decide) ?_
          refine tw_iast dX10_begins_34 shM_3 (bd_in b150 (by decide)) ?_
          have hI168 : JM (mm_up S101 3 v149.toNatClampNeg 9) := JIM_puta hI102 n_9 b150 (by decide) (by decide +kernel)
          generalize hS169 : (mm_up S101 3 v149.toNatClampNeg 9) = S169 at hI168 ⊢
          have hF170 := fr_upA hF103 hS169 (by decide)
          refine mw_aload_n dX10_begins_35 rfl 0 rfl ?_
          refine tw_getr (j := 2) dX10_begins_36 shM_0 rfl rfl (by decide) fX10_16 ?_
          refine mw_bipush dX10_begins_39 kb_7 ?_
          refine mw_iload_n dX10_begins_41 rfl 1 rfl ?_
          refine mw_iadd dX10_begins_42 (fun v171 ev171 => ?_)
          have b172 : mm_b (7) (13) v171 := bd_add ev171 n_7 b148 (by decide)
          refine mw_iconst dX10_begins_43 ki_0 ?_
          refine tw_iast dX10_begins_44 shM_3 (bd_in b172 (by decide)) ?_
          have hI173 : JM (mm_up S169 3 v171.toNatClampNeg 0) := JIM_puta hI168 n_0 b172 (by decide) (by decide +kernel)
          generalize hS174 : (mm_up S169 3 v171.toNatClampNeg 0) = S174 at hI173 ⊢
          have hF175 := fr_upA hF170 hS174 (by decide)
          refine mw_iinc (ls' := fun v => [(1, .int v), (0, .ref 0)]) dX10_begins_45 1 rfl (by decide) (fun _ => rfl) (fun v176 ev176 => ?_)
          have b177 : mm_b (1) (7) v176 := bd_inc ev176 b148 (by decide)
          refine mw_goto (tgt := 2) dX10_begins_48 (by decide) ?_
          refine mw_ls [1, 0] rfl ?_
          exact ih2 S174 v176 (ms_inc ev176 b148 (by decide) hm106) hI173 hF175 (bd_w b177 (by decide)) (by subst ev176; subst hS174; subst ev171; subst hS169; subst ev153; subst ev151; subst ev149; exact hE107.trans (by rw [F_X10_begins_L2, if_neg q108, if_pos q155]))
  refine mw_ls [1, 0] rfl ?_
  exact cut2 9 S (0 : Int32) (by have hz := n_0; omega) hI hF (bd_w n_0 (by decide)) (by rw [F_X10_begins])
def F_X10_keep_tc31 (S115 : mm_S) (v113 : Int32) (x1 : Int32) : Int32 × mm_S := ((1 : Int32), (mm_up (mm_up (mm_up S115 6 ((v113 + (30 : Int32))).toNatClampNeg ((S115.2.1 0 8)).toInt32) 7 (x1).toNatClampNeg (1 : Int32)) 0 5 (0 : Int32)))
def F_X10_keep (S : mm_S) (x1 : Int32) : Int32 × mm_S := (if (F_X10_in S (x1).toInt64 (0 : Int64) (1 : Int64)) = (0 : Int32) then ((-1000000001 : Int32), S) else (F_X10_keep_tc31 (F_X10_copies_36 S (0 : Int32) ((31 : Int32) * x1) (30 : Int32)) ((31 : Int32) * x1) x1))
set_option maxRecDepth 100000 in
set_option maxHeartbeats 4000000 in
theorem cx_X10_keep {g : mm_G} (S : mm_S) (hI : JM S) (x1 : Int32) : mc g yX10_keep cX10_keep 2 (some .int) (mm_rm 1) [.ref 0, .int x1] (mm_enc shM S) (qi shM (fun S1 v => JM S1 ∧ fr [6, 7] [5] true true S S1 ∧ mm_b (-1000000001) (1) v ∧ (True) ∧ F_X10_keep S x1 = (v, S1))) := by
  refine mc_of2 (own := RX10) (ini := false) (ls := [(0, .ref 0), (1, .int x1)]) (by decide) (Nat.le_of_ble_eq_true rfl) rfl (by decide) rfl ?_
  have hF : fr [6, 7] [5] true true S S := fr_rf
  refine mw_iload_n dX10_keep_0 rfl 1 rfl ?_
  refine mw_i2l dX10_keep_1 (fun w101 ew101 => ?_)
  have b102 : mm_bl (-2147483648) (2147483647) w101 := bl_i2l ew101 (bd_all x1)
  refine mw_lconst (v := 0) dX10_keep_2 (by decide) ?_
  refine mw_lconst (v := 1) dX10_keep_3 (by decide) ?_
  refine tc_Si (as := [.long w101, .long 0, .long 1]) (st := []) dX10_keep_4 rfl mX10_62 t_X10_in rfl (Nat.le_of_ble_eq_true rfl) (by decide) (by decide) (cx_X10_in (g := g) S hI w101 (0 : Int64) (1 : Int64)) (fun S103 v105 h104 => ?_)
  obtain ⟨rfl, b106, x107, hx108⟩ := h104
  have x109 := in_use (lo := 0) (hi := 1) x107 ew101 L_0 L_1 (by decide)
  refine mw_if_ne (tgt := 13) dX10_keep_7 (by decide) (fun q110 => ?_) (fun q110 => ?_)
  · skip
    have b111 : mm_b (1) (1) v105 := bd_ne_l q110 b106 n_0 (by decide)
    have b112 := Or.resolve_left x109 q110
    refine mw_aload_n dX10_keep_13 rfl 0 rfl ?_
    refine tw_getr (j := 2) dX10_keep_14 shM_0 rfl rfl (by decide) fX10_16 ?_
    refine mw_iconst dX10_keep_17 ki_0 ?_
    refine mw_aload_n dX10_keep_18 rfl 0 rfl ?_
    refine tw_getr (j := 6) dX10_keep_19 shM_0 rfl rfl (by decide) fX10_25 ?_
    refine mw_bipush dX10_keep_22 kb_31 ?_
    refine mw_iload_n dX10_keep_24 rfl 1 rfl ?_
    refine mw_imul dX10_keep_25 (fun v113 ev113 => ?_)
    have b114 : mm_b (0) (31) v113 := bd_mul ev113 n_31 b112 (by decide)
    refine mw_bipush dX10_keep_26 kb_30 ?_
    refine tc_Sv (as := [.ref 3, .int 0, .ref 6, .int v113, .int 30]) (st := []) dX10_keep_28 rfl mX10_66 t_X10_copies rfl (Nat.le_of_ble_eq_true rfl) (by decide) (by decide) (cx_X10_copies_36 (g := g) S hI (0 : Int32) n_0 v113 (30 : Int32) n_30 (cp_mul (C := 31) (M := 2) ev113 n_31 b112 (by decide))) (fun S115 h116 => ?_)
    obtain ⟨hI119, hf120, x117, hx118⟩ := h116
    have hF121 := fr_tr hF hf120 (by decide) (by decide) (by decide) (by decide)
    have hE122 : F_X10_keep S x1 = F_X10_keep_tc31 S115 v113 x1 := (by subst ev113; subst hx108; subst ew101; rw [F_X10_keep, if_neg q110, hx118])
    refine mw_aload_n dX10_keep_31 rfl 0 rfl ?_
    refine tw_getr (j := 6) dX10_keep_32 shM_0 rfl rfl (by decide) fX10_25 ?_
    refine mw_bipush dX10_keep_35 kb_31 ?_
    refine mw_iload_n dX10_keep_37 rfl 1 rfl ?_
    refine mw_imul dX10_keep_38 (fun v123 ev123 => ?_)
    have cv123 : v113 = v123 := ev113.trans ev123.symm
    subst cv123
    refine mw_bipush dX10_keep_39 kb_30 ?_
    refine mw_iadd dX10_keep_41 (fun v124 ev124 => ?_)
    have b125 : mm_b (30) (61) v124 := bd_add ev124 b114 n_30 (by decide)
    refine mw_aload_n dX10_keep_42 rfl 0 rfl ?_
    refine tw_getl (j := 8) dX10_keep_43 shM_0 rfl rfl (by decide) fX10_211 (fun w126 ew126 => ?_)
    have b127 : mm_bl (0) (2147483647) w126 := by rw [ew126]; exact JM_long hI119
    refine mw_l2i dX10_keep_46 (fun v128 ev128 => ?_)
    have b129 : mm_b (0) (2147483647) v128 := bl_l2i ev128 b127 (by decide)
    refine tw_iast dX10_keep_47 shM_6 (bd_in b125 (by decide)) ?_
    have hI130 : JM (mm_up S115 6 v124.toNatClampNeg v128) := JM_img hI119 ev124 (cp_mul (C := 31) (M := 2) ev113 n_31 b112 (by decide)) (bd_w b129 (by decide))
    generalize hS131 : (mm_up S115 6 v124.toNatClampNeg v128) = S131 at hI130 ⊢
    have hF132 := fr_upA hF121 hS131 (by decide)
    refine mw_aload_n dX10_keep_48 rfl 0 rfl ?_
    refine tw_getr (j := 7) dX10_keep_49 shM_0 rfl rfl (by decide) fX10_28 ?_
    refine mw_iload_n dX10_keep_52 rfl 1 rfl ?_
    refine mw_iconst dX10_keep_53 ki_1 ?_
    refine tw_zast dX10_keep_54 shM_7 (bd_in b112 (by decide)) (bd_bool n_1 (by decide)) ?_
    have hI133 : JM (mm_up S131 7 x1.toNatClampNeg 1) := JIM_puta hI130 n_1 b112 (by decide) (by decide +kernel)
    generalize hS134 : (mm_up S131 7 x1.toNatClampNeg 1) = S134 at hI133 ⊢
    have hF135 := fr_upA hF132 hS134 (by decide)
    refine mw_aload_n dX10_keep_55 rfl 0 rfl ?_
    refine mw_iconst dX10_keep_56 ki_0 ?_
    refine tw_puti (j := 5) dX10_keep_57 shM_0 rfl rfl (by decide) fX10_70 rfl (by decide +kernel) ?_
    have hI136 : JM (mm_up S134 0 5 0) := JIM_put hI133 n_0 (by decide +kernel)
    generalize hS137 : (mm_up S134 0 5 0) = S137 at hI136 ⊢
    have hF138 := fr_upF hF135 hS137 (by decide)
    refine mw_iconst dX10_keep_60 ki_1 ?_
    exact mw_iret rfl dX10_keep_61 rfl rfl ⟨S137, _, rfl, rfl, hI136, hF138, bd_w n_1 (by decide), trivial, (by subst hS137; subst hS134; subst hS131; subst ev128; subst ew126; subst ev124; exact hE122.trans (by rw [F_X10_keep_tc31]))⟩
  · skip
    have b139 : mm_b (0) (0) v105 := bd_eq_l q110 b106 n_0 (by decide)
    refine mw_ldc dX10_keep_10 kX10_182 ?_
    exact mw_iret rfl dX10_keep_12 rfl rfl ⟨S, _, rfl, rfl, hI, hF, bd_w n_m1000000001 (by decide), trivial, (by subst hx108; subst ew101; rw [F_X10_keep, if_pos q110])⟩
def F_X10_goBack_ttc43 (S119 : mm_S) (v117 : Int32) : Int32 × mm_S := ((1 : Int32), (mm_up (mm_upL S119 0 8 ((S119.1 6 ((v117 + (30 : Int32))).toNatClampNeg)).toInt64) 0 5 (0 : Int32)))
def F_X10_goBack (S : mm_S) (x1 : Int32) : Int32 × mm_S := (if (F_X10_in S (x1).toInt64 (0 : Int64) (1 : Int64)) = (0 : Int32) then ((-1000000001 : Int32), S) else (if (S.1 7 (x1).toNatClampNeg) = (0 : Int32) then ((-1000000003 : Int32), S) else (F_X10_goBack_ttc43 (F_X10_copies_63 S ((31 : Int32) * x1) (0 : Int32) (30 : Int32)) ((31 : Int32) * x1))))
set_option maxRecDepth 100000 in
set_option maxHeartbeats 4000000 in
theorem cx_X10_goBack {g : mm_G} (S : mm_S) (hI : JM S) (x1 : Int32) : mc g yX10_goBack cX10_goBack 2 (some .int) (mm_rm 1) [.ref 0, .int x1] (mm_enc shM S) (qi shM (fun S1 v => JM S1 ∧ fr [3] [5] false true S S1 ∧ mm_b (-1000000003) (1) v ∧ (True) ∧ F_X10_goBack S x1 = (v, S1))) := by
  refine mc_of2 (own := RX10) (ini := false) (ls := [(0, .ref 0), (1, .int x1)]) (by decide) (Nat.le_of_ble_eq_true rfl) rfl (by decide) rfl ?_
  have hF : fr [3] [5] false true S S := fr_rf
  refine mw_iload_n dX10_goBack_0 rfl 1 rfl ?_
  refine mw_i2l dX10_goBack_1 (fun w101 ew101 => ?_)
  have b102 : mm_bl (-2147483648) (2147483647) w101 := bl_i2l ew101 (bd_all x1)
  refine mw_lconst (v := 0) dX10_goBack_2 (by decide) ?_
  refine mw_lconst (v := 1) dX10_goBack_3 (by decide) ?_
  refine tc_Si (as := [.long w101, .long 0, .long 1]) (st := []) dX10_goBack_4 rfl mX10_62 t_X10_in rfl (Nat.le_of_ble_eq_true rfl) (by decide) (by decide) (cx_X10_in (g := g) S hI w101 (0 : Int64) (1 : Int64)) (fun S103 v105 h104 => ?_)
  obtain ⟨rfl, b106, x107, hx108⟩ := h104
  have x109 := in_use (lo := 0) (hi := 1) x107 ew101 L_0 L_1 (by decide)
  refine mw_if_ne (tgt := 13) dX10_goBack_7 (by decide) (fun q110 => ?_) (fun q110 => ?_)
  · skip
    have b111 : mm_b (1) (1) v105 := bd_ne_l q110 b106 n_0 (by decide)
    have b112 := Or.resolve_left x109 q110
    refine mw_aload_n dX10_goBack_13 rfl 0 rfl ?_
    refine tw_getr (j := 7) dX10_goBack_14 shM_0 rfl rfl (by decide) fX10_28 ?_
    refine mw_iload_n dX10_goBack_17 rfl 1 rfl ?_
    refine tw_zald dX10_goBack_18 shM_7 (bd_in b112 (by decide)) (fun v113 ev113 => ?_)
    have b114 : mm_b (0) (1) v113 := JIM_elt hI ev113 b112 tbM_13 (by decide)
    refine mw_if_ne (tgt := 25) dX10_goBack_19 (by decide) (fun q115 => ?_) (fun q115 => ?_)
    · skip
      have b116 : mm_b (1) (1) v113 := bd_ne_l q115 b114 n_0 (by decide)
      refine mw_aload_n dX10_goBack_25 rfl 0 rfl ?_
      refine tw_getr (j := 6) dX10_goBack_26 shM_0 rfl rfl (by decide) fX10_25 ?_
      refine mw_bipush dX10_goBack_29 kb_31 ?_
      refine mw_iload_n dX10_goBack_31 rfl 1 rfl ?_
      refine mw_imul dX10_goBack_32 (fun v117 ev117 => ?_)
      have b118 : mm_b (0) (31) v117 := bd_mul ev117 n_31 b112 (by decide)
      refine mw_aload_n dX10_goBack_33 rfl 0 rfl ?_
      refine tw_getr (j := 2) dX10_goBack_34 shM_0 rfl rfl (by decide) fX10_16 ?_
      refine mw_iconst dX10_goBack_37 ki_0 ?_
      refine mw_bipush dX10_goBack_38 kb_30 ?_
      refine tc_Sv (as := [.ref 6, .int v117, .ref 3, .int 0, .int 30]) (st := []) dX10_goBack_40 rfl mX10_66 t_X10_copies rfl (Nat.le_of_ble_eq_true rfl) (by decide) (by decide) (cx_X10_copies_63 (g := g) S hI v117 (0 : Int32) n_0 (30 : Int32) n_30 (cp_mul (C := 31) (M := 2) ev117 n_31 b112 (by decide))) (fun S119 h120 => ?_)
      obtain ⟨hI123, hf124, x121, hx122⟩ := h120
      have hF125 := fr_tr hF hf124 (by decide) (by decide) (by decide) (by decide)
      have hE126 : F_X10_goBack S x1 = F_X10_goBack_ttc43 S119 v117 := (by subst ev117; subst ev113; subst hx108; subst ew101; rw [F_X10_goBack, if_neg q110, if_neg q115, hx122])
      refine mw_aload_n dX10_goBack_43 rfl 0 rfl ?_
      refine mw_aload_n dX10_goBack_44 rfl 0 rfl ?_
      refine tw_getr (j := 6) dX10_goBack_45 shM_0 rfl rfl (by decide) fX10_25 ?_
      refine mw_bipush dX10_goBack_48 kb_31 ?_
      refine mw_iload_n dX10_goBack_50 rfl 1 rfl ?_
      refine mw_imul dX10_goBack_51 (fun v127 ev127 => ?_)
      have cv127 : v117 = v127 := ev117.trans ev127.symm
      subst cv127
      refine mw_bipush dX10_goBack_52 kb_30 ?_
      refine mw_iadd dX10_goBack_54 (fun v128 ev128 => ?_)
      have b129 : mm_b (30) (61) v128 := bd_add ev128 b118 n_30 (by decide)
      refine tw_iald dX10_goBack_55 shM_6 (bd_in b129 (by decide)) (fun v130 ev130 => ?_)
      have b131 : mm_b 0 2147483647 v130 := JM_imgr hI123 ev128 (cp_mul (C := 31) (M := 2) ev117 n_31 b112 (by decide)) ev130
      refine mw_i2l dX10_goBack_56 (fun w132 ew132 => ?_)
      have b133 : mm_bl (0) (2147483647) w132 := bl_i2l ew132 b131
      refine tw_putl (j := 8) dX10_goBack_57 shM_0 rfl rfl (by decide) fX10_211 rfl (by decide +kernel) ?_
      have hI134 : JM (mm_upL S119 0 8 w132) := JLM_put hI123 b133 (by decide)
      generalize hS135 : mm_upL S119 0 8 w132 = S135 at hI134 ⊢
      have hF136 := fr_upL hF125 hS135
      refine mw_aload_n dX10_goBack_60 rfl 0 rfl ?_
      refine mw_iconst dX10_goBack_61 ki_0 ?_
      refine tw_puti (j := 5) dX10_goBack_62 shM_0 rfl rfl (by decide) fX10_70 rfl (by decide +kernel) ?_
      have hI137 : JM (mm_up S135 0 5 0) := JIM_put hI134 n_0 (by decide +kernel)
      generalize hS138 : (mm_up S135 0 5 0) = S138 at hI137 ⊢
      have hF139 := fr_upF hF136 hS138 (by decide)
      refine mw_iconst dX10_goBack_65 ki_1 ?_
      exact mw_iret rfl dX10_goBack_66 rfl rfl ⟨S138, _, rfl, rfl, hI137, hF139, bd_w n_1 (by decide), trivial, (by subst hS138; subst hS135; subst ew132; subst ev130; subst ev128; exact hE126.trans (by rw [F_X10_goBack_ttc43]))⟩
    · skip
      have b140 : mm_b (0) (0) v113 := bd_eq_l q115 b114 n_0 (by decide)
      refine mw_ldc dX10_goBack_22 kX10_187 ?_
      exact mw_iret rfl dX10_goBack_24 rfl rfl ⟨S, _, rfl, rfl, hI, hF, bd_w n_m1000000003 (by decide), trivial, (by subst ev113; subst hx108; subst ew101; rw [F_X10_goBack, if_neg q110, if_pos q115])⟩
  · skip
    have b141 : mm_b (0) (0) v105 := bd_eq_l q110 b106 n_0 (by decide)
    refine mw_ldc dX10_goBack_10 kX10_182 ?_
    exact mw_iret rfl dX10_goBack_12 rfl rfl ⟨S, _, rfl, rfl, hI, hF, bd_w n_m1000000001 (by decide), trivial, (by subst hx108; subst ew101; rw [F_X10_goBack, if_pos q110])⟩
