def F_X10_number_r_c4ttc47 (v118 : Int32) (S116 : mm_S) : Int32 × mm_S := (v118, S116)
def F_X10_number_r_c4 (S101 : mm_S) (x2 : Int32) (x3 : Int32) (x1 : Int32) : Int32 × mm_S := (if (S101.1 0 20) = (48 : Int32) then (if (3 : Int32) < (S101.1 0 21) then (F_X10_number_r_c4ttc47 (F_X10_fails S101 (2 : Int32)).1 (F_X10_fails S101 (2 : Int32)).2) else (if (F_X10_in S101 ((S101.1 0 22)).toInt64 (x2).toInt64 (x3).toInt64) = (0 : Int32) then (F_X10_number_r_c4ttc47 (F_X10_fails S101 (2 : Int32)).1 (F_X10_fails S101 (2 : Int32)).2) else ((1 : Int32), (mm_up S101 2 (x1).toNatClampNeg (S101.1 0 22))))) else (F_X10_number_r_c4ttc47 (F_X10_fails S101 (1 : Int32)).1 (F_X10_fails S101 (1 : Int32)).2))
def F_X10_number_r (S : mm_S) (x1 : Int32) (x2 : Int32) (x3 : Int32) : Int32 × mm_S := (F_X10_number_r_c4 (F_X10_step S) x2 x3 x1)
set_option maxRecDepth 100000 in
set_option maxHeartbeats 4000000 in
theorem cx_X10_number_r {g : mm_G} (S : mm_S) (hI : JM S) (x1 : Int32) (h1 : mm_b (3) (9) x1) (x2 : Int32) (h2 : mm_b (0) (0) x2) (x3 : Int32) (h3 : mm_b (9) (9) x3) : mc g yX10_number cX10_number 4 (some .boolean) (mm_rm 2) [.ref 0, .int x1, .int x2, .int x3] (mm_enc shM S) (qi shM (fun S1 v => JM S1 ∧ fr [2] [18, 19, 20, 21, 22, 23] true true S S1 ∧ mm_b (0) (1) v ∧ (True) ∧ F_X10_number_r S x1 x2 x3 = (v, S1) ∧ (S.1 2 0 = S1.1 2 0 ∧ S.1 2 1 = S1.1 2 1 ∧ S.1 2 2 = S1.1 2 2))) := by
  refine mc_of2 (own := RX10) (ini := false) (ls := [(0, .ref 0), (1, .int x1), (2, .int x2), (3, .int x3)]) (by decide) (Nat.le_of_ble_eq_true rfl) rfl (by decide) rfl ?_
  have hF : fr [2] [18, 19, 20, 21, 22, 23] true true S S := fr_rf
  refine mw_aload_n dX10_number_0 rfl 0 rfl ?_
  refine tc_Vv (as := []) (st := []) dX10_number_1 rfl shM_0 rfl rfl mX10_115 t_X10_step rfl (Nat.le_of_ble_eq_true rfl) (by decide) (by decide) (cx_X10_step (g := g) S hI) (fun S101 h102 => ?_)
  obtain ⟨hI105, hf106, x103, hx104⟩ := h102
  have hF107 := fr_tr hF hf106 (by decide) (by decide) (by decide) (by decide)
  have hE108 : F_X10_number_r S x1 x2 x3 = F_X10_number_r_c4 S101 x2 x3 x1 := (by rw [F_X10_number_r, hx104])
  refine mw_aload_n dX10_number_4 rfl 0 rfl ?_
  refine tw_geti (j := 20) dX10_number_5 shM_0 rfl rfl (by decide) fX10_99 (fun v109 ev109 => ?_)
  have b110 : mm_b (-1) (255) v109 := JIM_fld hI105 ev109 tbM_7 (by decide)
  refine mw_bipush dX10_number_8 kb_48 ?_
  refine mw_icmp_eq (tgt := 19) dX10_number_10 (by decide) (fun q111 => ?_) (fun q111 => ?_)
  · skip
    have b112 : mm_b (48) (48) v109 := bd_eq_l q111 b110 n_48 (by decide)
    refine mw_aload_n dX10_number_19 rfl 0 rfl ?_
    refine tw_geti (j := 21) dX10_number_20 shM_0 rfl rfl (by decide) fX10_102 (fun v113 ev113 => ?_)
    refine mw_iconst dX10_number_23 ki_3 ?_
    refine mw_icmp_gt (tgt := 42) dX10_number_24 (by decide) (fun q114 => ?_) (fun q114 => ?_)
    · skip
      have b115 : mm_b (4) (2147483647) v113 := bd_lt_r q114 n_3 (bd_all v113) (by decide)
      refine mw_aload_n dX10_number_42 rfl 0 rfl ?_
      refine mw_iconst dX10_number_43 ki_2 ?_
      refine tc_Vi (as := [.int 2]) (st := []) dX10_number_44 rfl shM_0 rfl rfl mX10_118 t_X10_fails rfl (Nat.le_of_ble_eq_true rfl) (by decide) (by decide) (cx_X10_fails (g := g) S101 hI105 (2 : Int32)) (fun S116 v118 h117 => ?_)
      obtain ⟨hI123, hf124, b119, x120, hx121⟩ := h117
      have hF125 := fr_tr hF107 hf124 (by decide) (by decide) (by decide) (by decide)
      have hE126 : F_X10_number_r S x1 x2 x3 = F_X10_number_r_c4ttc47 v118 S116 := (by subst ev113; subst ev109; exact hE108.trans (by rw [F_X10_number_r_c4, if_pos q111, if_pos q114, hx121]))
      exact mw_zret rfl (bd_nar b119 (by decide)) dX10_number_47 rfl rfl ⟨S116, _, rfl, rfl, hI123, hF125, bd_w b119 (by decide), trivial, (by exact hE126.trans (by rw [F_X10_number_r_c4ttc47])), (((Eq.refl (S.1 2 0)).trans (fr_A hf106 (by decide) (by decide))).trans (fr_A hf124 (by decide) (by decide))), (((Eq.refl (S.1 2 1)).trans (fr_A hf106 (by decide) (by decide))).trans (fr_A hf124 (by decide) (by decide))), (((Eq.refl (S.1 2 2)).trans (fr_A hf106 (by decide) (by decide))).trans (fr_A hf124 (by decide) (by decide)))⟩
    · skip
      have b127 : mm_b (-2147483648) (3) v113 := bd_le_l (bd_nlt q114) (bd_all v113) n_3 (by decide)
      refine mw_aload_n dX10_number_27 rfl 0 rfl ?_
      refine tw_geti (j := 22) dX10_number_28 shM_0 rfl rfl (by decide) fX10_105 (fun v128 ev128 => ?_)
      have b129 : mm_b (0) (999) v128 := JIM_fld hI105 ev128 tbM_8 (by decide)
      refine mw_i2l dX10_number_31 (fun w130 ew130 => ?_)
      have b131 : mm_bl (0) (999) w130 := bl_i2l ew130 b129
      refine mw_iload_n dX10_number_32 rfl 2 rfl ?_
      refine mw_i2l dX10_number_33 (fun w132 ew132 => ?_)
      have b133 : mm_bl (0) (0) w132 := bl_i2l ew132 h2
      refine mw_iload_n dX10_number_34 rfl 3 rfl ?_
      refine mw_i2l dX10_number_35 (fun w134 ew134 => ?_)
      have b135 : mm_bl (9) (9) w134 := bl_i2l ew134 h3
      refine tc_Si (as := [.long w130, .long w132, .long w134]) (st := []) dX10_number_36 rfl mX10_62 t_X10_in rfl (Nat.le_of_ble_eq_true rfl) (by decide) (by decide) (cx_X10_in (g := g) S101 hI105 w130 w132 w134) (fun S136 v138 h137 => ?_)
      obtain ⟨rfl, b139, x140, hx141⟩ := h137
      have x142 := in_use (lo := 0) (hi := 9) x140 ew130 b133 b135 (by decide)
      refine mw_if_ne (tgt := 48) dX10_number_39 (by decide) (fun q143 => ?_) (fun q143 => ?_)
      · skip
        have b144 : mm_b (1) (1) v138 := bd_ne_l q143 b139 n_0 (by decide)
        have b145 := Or.resolve_left x142 q143
        refine mw_aload_n dX10_number_48 rfl 0 rfl ?_
        refine tw_getr (j := 1) dX10_number_49 shM_0 rfl rfl (by decide) fX10_13 ?_
        refine mw_iload_n dX10_number_52 rfl 1 rfl ?_
        refine mw_aload_n dX10_number_53 rfl 0 rfl ?_
        refine tw_geti (j := 22) dX10_number_54 shM_0 rfl rfl (by decide) fX10_105 (fun v146 ev146 => ?_)
        have cv146 : v128 = v146 := ev128.trans ev146.symm
        subst cv146
        refine tw_iast dX10_number_57 shM_2 (bd_in h1 (by decide)) ?_
        have hI147 : JM (mm_up S101 2 x1.toNatClampNeg v128) := JIM_puta hI105 b145 h1 (by decide) (by decide +kernel)
        generalize hS148 : (mm_up S101 2 x1.toNatClampNeg v128) = S148 at hI147 ⊢
        have hF149 := fr_upA hF107 hS148 (by decide)
        refine mw_iconst dX10_number_58 ki_1 ?_
        exact mw_zret rfl (bd_nar n_1 (by decide)) dX10_number_59 rfl rfl ⟨S148, _, rfl, rfl, hI147, hF149, bd_w n_1 (by decide), trivial, (by subst hS148; subst hx141; subst ew134; subst ew132; subst ew130; subst ev128; subst ev113; subst ev109; exact hE108.trans (by rw [F_X10_number_r_c4, if_pos q111, if_neg q114, if_neg q143])), (((Eq.refl (S.1 2 0)).trans (fr_A hf106 (by decide) (by decide))).trans (up_neF hS148 (cl_ne h1 (by decide)))), (((Eq.refl (S.1 2 1)).trans (fr_A hf106 (by decide) (by decide))).trans (up_neF hS148 (cl_ne h1 (by decide)))), (((Eq.refl (S.1 2 2)).trans (fr_A hf106 (by decide) (by decide))).trans (up_neF hS148 (cl_ne h1 (by decide))))⟩
      · skip
        have b150 : mm_b (0) (0) v138 := bd_eq_l q143 b139 n_0 (by decide)
        refine mw_aload_n dX10_number_42 rfl 0 rfl ?_
        refine mw_iconst dX10_number_43 ki_2 ?_
        refine tc_Vi (as := [.int 2]) (st := []) dX10_number_44 rfl shM_0 rfl rfl mX10_118 t_X10_fails rfl (Nat.le_of_ble_eq_true rfl) (by decide) (by decide) (cx_X10_fails (g := g) S101 hI105 (2 : Int32)) (fun S151 v153 h152 => ?_)
        obtain ⟨hI158, hf159, b154, x155, hx156⟩ := h152
        have hF160 := fr_tr hF107 hf159 (by decide) (by decide) (by decide) (by decide)
        have hE161 : F_X10_number_r S x1 x2 x3 = F_X10_number_r_c4ttc47 v153 S151 := (by subst hx141; subst ew134; subst ew132; subst ew130; subst ev128; subst ev113; subst ev109; exact hE108.trans (by rw [F_X10_number_r_c4, if_pos q111, if_neg q114, if_pos q143, hx156]))
        exact mw_zret rfl (bd_nar b154 (by decide)) dX10_number_47 rfl rfl ⟨S151, _, rfl, rfl, hI158, hF160, bd_w b154 (by decide), trivial, (by exact hE161.trans (by rw [F_X10_number_r_c4ttc47])), (((Eq.refl (S.1 2 0)).trans (fr_A hf106 (by decide) (by decide))).trans (fr_A hf159 (by decide) (by decide))), (((Eq.refl (S.1 2 1)).trans (fr_A hf106 (by decide) (by decide))).trans (fr_A hf159 (by decide) (by decide))), (((Eq.refl (S.1 2 2)).trans (fr_A hf106 (by decide) (by decide))).trans (fr_A hf159 (by decide) (by decide)))⟩
  · skip
    refine mw_aload_n dX10_number_13 rfl 0 rfl ?_
    refine mw_iconst dX10_number_14 ki_1 ?_
    refine tc_Vi (as := [.int 1]) (st := []) dX10_number_15 rfl shM_0 rfl rfl mX10_118 t_X10_fails rfl (Nat.le_of_ble_eq_true rfl) (by decide) (by decide) (cx_X10_fails (g := g) S101 hI105 (1 : Int32)) (fun S162 v164 h163 => ?_)
    obtain ⟨hI169, hf170, b165, x166, hx167⟩ := h163
    have hF171 := fr_tr hF107 hf170 (by decide) (by decide) (by decide) (by decide)
    have hE172 : F_X10_number_r S x1 x2 x3 = F_X10_number_r_c4ttc47 v164 S162 := (by subst ev109; exact hE108.trans (by rw [F_X10_number_r_c4, if_neg q111, hx167]))
    exact mw_zret rfl (bd_nar b165 (by decide)) dX10_number_18 rfl rfl ⟨S162, _, rfl, rfl, hI169, hF171, bd_w b165 (by decide), trivial, (by exact hE172.trans (by rw [F_X10_number_r_c4ttc47])), (((Eq.refl (S.1 2 0)).trans (fr_A hf106 (by decide) (by decide))).trans (fr_A hf170 (by decide) (by decide))), (((Eq.refl (S.1 2 1)).trans (fr_A hf106 (by decide) (by decide))).trans (fr_A hf170 (by decide) (by decide))), (((Eq.refl (S.1 2 2)).trans (fr_A hf106 (by decide) (by decide))).trans (fr_A hf170 (by decide) (by decide)))⟩
def F_X10_number_d_c4ttc47 (v118 : Int32) (S116 : mm_S) : Int32 × mm_S := (v118, S116)
def F_X10_number_d_c4 (S101 : mm_S) (x2 : Int32) (x3 : Int32) (x1 : Int32) : Int32 × mm_S := (if (S101.1 0 20) = (48 : Int32) then (if (3 : Int32) < (S101.1 0 21) then (F_X10_number_d_c4ttc47 (F_X10_fails S101 (2 : Int32)).1 (F_X10_fails S101 (2 : Int32)).2) else (if (F_X10_in S101 ((S101.1 0 22)).toInt64 (x2).toInt64 (x3).toInt64) = (0 : Int32) then (F_X10_number_d_c4ttc47 (F_X10_fails S101 (2 : Int32)).1 (F_X10_fails S101 (2 : Int32)).2) else ((1 : Int32), (mm_up S101 2 (x1).toNatClampNeg (S101.1 0 22))))) else (F_X10_number_d_c4ttc47 (F_X10_fails S101 (1 : Int32)).1 (F_X10_fails S101 (1 : Int32)).2))
def F_X10_number_d (S : mm_S) (x1 : Int32) (x2 : Int32) (x3 : Int32) : Int32 × mm_S := (F_X10_number_d_c4 (F_X10_step S) x2 x3 x1)
set_option maxRecDepth 100000 in
set_option maxHeartbeats 4000000 in
theorem cx_X10_number_d {g : mm_G} (S : mm_S) (hI : JM S) (x1 : Int32) (h1 : mm_b (25) (30) x1) (x2 : Int32) (h2 : mm_b (0) (0) x2) (x3 : Int32) (h3 : mm_b (127) (127) x3) : mc g yX10_number cX10_number 4 (some .boolean) (mm_rm 2) [.ref 0, .int x1, .int x2, .int x3] (mm_enc shM S) (qi shM (fun S1 v => JM S1 ∧ fr [2] [18, 19, 20, 21, 22, 23] true true S S1 ∧ mm_b (0) (1) v ∧ (True) ∧ F_X10_number_d S x1 x2 x3 = (v, S1) ∧ (S.1 2 0 = S1.1 2 0 ∧ S.1 2 1 = S1.1 2 1 ∧ S.1 2 2 = S1.1 2 2))) := by
  refine mc_of2 (own := RX10) (ini := false) (ls := [(0, .ref 0), (1, .int x1), (2, .int x2), (3, .int x3)]) (by decide) (Nat.le_of_ble_eq_true rfl) rfl (by decide) rfl ?_
  have hF : fr [2] [18, 19, 20, 21, 22, 23] true true S S := fr_rf
  refine mw_aload_n dX10_number_0 rfl 0 rfl ?_
  refine tc_Vv (as := []) (st := []) dX10_number_1 rfl shM_0 rfl rfl mX10_115 t_X10_step rfl (Nat.le_of_ble_eq_true rfl) (by decide) (by decide) (cx_X10_step (g := g) S hI) (fun S101 h102 => ?_)
  obtain ⟨hI105, hf106, x103, hx104⟩ := h102
  have hF107 := fr_tr hF hf106 (by decide) (by decide) (by decide) (by decide)
  have hE108 : F_X10_number_d S x1 x2 x3 = F_X10_number_d_c4 S101 x2 x3 x1 := (by rw [F_X10_number_d, hx104])
  refine mw_aload_n dX10_number_4 rfl 0 rfl ?_
  refine tw_geti (j := 20) dX10_number_5 shM_0 rfl rfl (by decide) fX10_99 (fun v109 ev109 => ?_)
  have b110 : mm_b (-1) (255) v109 := JIM_fld hI105 ev109 tbM_7 (by decide)
  refine mw_bipush dX10_number_8 kb_48 ?_
  refine mw_icmp_eq (tgt := 19) dX10_number_10 (by decide) (fun q111 => ?_) (fun q111 => ?_)
  · skip
    have b112 : mm_b (48) (48) v109 := bd_eq_l q111 b110 n_48 (by decide)
    refine mw_aload_n dX10_number_19 rfl 0 rfl ?_
    refine tw_geti (j := 21) dX10_number_20 shM_0 rfl rfl (by decide) fX10_102 (fun v113 ev113 => ?_)
    refine mw_iconst dX10_number_23 ki_3 ?_
    refine mw_icmp_gt (tgt := 42) dX10_number_24 (by decide) (fun q114 => ?_) (fun q114 => ?_)
    · skip
      have b115 : mm_b (4) (2147483647) v113 := bd_lt_r q114 n_3 (bd_all v113) (by decide)
      refine mw_aload_n dX10_number_42 rfl 0 rfl ?_
      refine mw_iconst dX10_number_43 ki_2 ?_
      refine tc_Vi (as := [.int 2]) (st := []) dX10_number_44 rfl shM_0 rfl rfl mX10_118 t_X10_fails rfl (Nat.le_of_ble_eq_true rfl) (by decide) (by decide) (cx_X10_fails (g := g) S101 hI105 (2 : Int32)) (fun S116 v118 h117 => ?_)
      obtain ⟨hI123, hf124, b119, x120, hx121⟩ := h117
      have hF125 := fr_tr hF107 hf124 (by decide) (by decide) (by decide) (by decide)
      have hE126 : F_X10_number_d S x1 x2 x3 = F_X10_number_d_c4ttc47 v118 S116 := (by subst ev113; subst ev109; exact hE108.trans (by rw [F_X10_number_d_c4, if_pos q111, if_pos q114, hx121]))
      exact mw_zret rfl (bd_nar b119 (by decide)) dX10_number_47 rfl rfl ⟨S116, _, rfl, rfl, hI123, hF125, bd_w b119 (by decide), trivial, (by exact hE126.trans (by rw [F_X10_number_d_c4ttc47])), (((Eq.refl (S.1 2 0)).trans (fr_A hf106 (by decide) (by decide))).trans (fr_A hf124 (by decide) (by decide))), (((Eq.refl (S.1 2 1)).trans (fr_A hf106 (by decide) (by decide))).trans (fr_A hf124 (by decide) (by decide))), (((Eq.refl (S.1 2 2)).trans (fr_A hf106 (by decide) (by decide))).trans (fr_A hf124 (by decide) (by decide)))⟩
    · skip
      have b127 : mm_b (-2147483648) (3) v113 := bd_le_l (bd_nlt q114) (bd_all v113) n_3 (by decide)
      refine mw_aload_n dX10_number_27 rfl 0 rfl ?_
      refine tw_geti (j := 22) dX10_number_28 shM_0 rfl rfl (by decide) fX10_105 (fun v128 ev128 => ?_)
      have b129 : mm_b (0) (999) v128 := JIM_fld hI105 ev128 tbM_8 (by decide)
      refine mw_i2l dX10_number_31 (fun w130 ew130 => ?_)
      have b131 : mm_bl (0) (999) w130 := bl_i2l ew130 b129
      refine mw_iload_n dX10_number_32 rfl 2 rfl ?_
      refine mw_i2l dX10_number_33 (fun w132 ew132 => ?_)
      have b133 : mm_bl (0) (0) w132 := bl_i2l ew132 h2
      refine mw_iload_n dX10_number_34 rfl 3 rfl ?_
      refine mw_i2l dX10_number_35 (fun w134 ew134 => ?_)
      have b135 : mm_bl (127) (127) w134 := bl_i2l ew134 h3
      refine tc_Si (as := [.long w130, .long w132, .long w134]) (st := []) dX10_number_36 rfl mX10_62 t_X10_in rfl (Nat.le_of_ble_eq_true rfl) (by decide) (by decide) (cx_X10_in (g := g) S101 hI105 w130 w132 w134) (fun S136 v138 h137 => ?_)
      obtain ⟨rfl, b139, x140, hx141⟩ := h137
      have x142 := in_use (lo := 0) (hi := 127) x140 ew130 b133 b135 (by decide)
      refine mw_if_ne (tgt := 48) dX10_number_39 (by decide) (fun q143 => ?_) (fun q143 => ?_)
      · skip
        have b144 : mm_b (1) (1) v138 := bd_ne_l q143 b139 n_0 (by decide)
        have b145 := Or.resolve_left x142 q143
        refine mw_aload_n dX10_number_48 rfl 0 rfl ?_
        refine tw_getr (j := 1) dX10_number_49 shM_0 rfl rfl (by decide) fX10_13 ?_
        refine mw_iload_n dX10_number_52 rfl 1 rfl ?_
        refine mw_aload_n dX10_number_53 rfl 0 rfl ?_
        refine tw_geti (j := 22) dX10_number_54 shM_0 rfl rfl (by decide) fX10_105 (fun v146 ev146 => ?_)
        have cv146 : v128 = v146 := ev128.trans ev146.symm
        subst cv146
        refine tw_iast dX10_number_57 shM_2 (bd_in h1 (by decide)) ?_
        have hI147 : JM (mm_up S101 2 x1.toNatClampNeg v128) := JIM_puta hI105 b145 h1 (by decide) (by decide +kernel)
        generalize hS148 : (mm_up S101 2 x1.toNatClampNeg v128) = S148 at hI147 ⊢
        have hF149 := fr_upA hF107 hS148 (by decide)
        refine mw_iconst dX10_number_58 ki_1 ?_
        exact mw_zret rfl (bd_nar n_1 (by decide)) dX10_number_59 rfl rfl ⟨S148, _, rfl, rfl, hI147, hF149, bd_w n_1 (by decide), trivial, (by subst hS148; subst hx141; subst ew134; subst ew132; subst ew130; subst ev128; subst ev113; subst ev109; exact hE108.trans (by rw [F_X10_number_d_c4, if_pos q111, if_neg q114, if_neg q143])), (((Eq.refl (S.1 2 0)).trans (fr_A hf106 (by decide) (by decide))).trans (up_neF hS148 (cl_ne h1 (by decide)))), (((Eq.refl (S.1 2 1)).trans (fr_A hf106 (by decide) (by decide))).trans (up_neF hS148 (cl_ne h1 (by decide)))), (((Eq.refl (S.1 2 2)).trans (fr_A hf106 (by decide) (by decide))).trans (up_neF hS148 (cl_ne h1 (by decide))))⟩
      · skip
        have b150 : mm_b (0) (0) v138 := bd_eq_l q143 b139 n_0 (by decide)
        refine mw_aload_n dX10_number_42 rfl 0 rfl ?_
        refine mw_iconst dX10_number_43 ki_2 ?_
        refine tc_Vi (as := [.int 2]) (st := []) dX10_number_44 rfl shM_0 rfl rfl mX10_118 t_X10_fails rfl (Nat.le_of_ble_eq_true rfl) (by decide) (by decide) (cx_X10_fails (g := g) S101 hI105 (2 : Int32)) (fun S151 v153 h152 => ?_)
        obtain ⟨hI158, hf159, b154, x155, hx156⟩ := h152
        have hF160 := fr_tr hF107 hf159 (by decide) (by decide) (by decide) (by decide)
        have hE161 : F_X10_number_d S x1 x2 x3 = F_X10_number_d_c4ttc47 v153 S151 := (by subst hx141; subst ew134; subst ew132; subst ew130; subst ev128; subst ev113; subst ev109; exact hE108.trans (by rw [F_X10_number_d_c4, if_pos q111, if_neg q114, if_pos q143, hx156]))
        exact mw_zret rfl (bd_nar b154 (by decide)) dX10_number_47 rfl rfl ⟨S151, _, rfl, rfl, hI158, hF160, bd_w b154 (by decide), trivial, (by exact hE161.trans (by rw [F_X10_number_d_c4ttc47])), (((Eq.refl (S.1 2 0)).trans (fr_A hf106 (by decide) (by decide))).trans (fr_A hf159 (by decide) (by decide))), (((Eq.refl (S.1 2 1)).trans (fr_A hf106 (by decide) (by decide))).trans (fr_A hf159 (by decide) (by decide))), (((Eq.refl (S.1 2 2)).trans (fr_A hf106 (by decide) (by decide))).trans (fr_A hf159 (by decide) (by decide)))⟩
  · skip
    refine mw_aload_n dX10_number_13 rfl 0 rfl ?_
    refine mw_iconst dX10_number_14 ki_1 ?_
    refine tc_Vi (as := [.int 1]) (st := []) dX10_number_15 rfl shM_0 rfl rfl mX10_118 t_X10_fails rfl (Nat.le_of_ble_eq_true rfl) (by decide) (by decide) (cx_X10_fails (g := g) S101 hI105 (1 : Int32)) (fun S162 v164 h163 => ?_)
    obtain ⟨hI169, hf170, b165, x166, hx167⟩ := h163
    have hF171 := fr_tr hF107 hf170 (by decide) (by decide) (by decide) (by decide)
    have hE172 : F_X10_number_d S x1 x2 x3 = F_X10_number_d_c4ttc47 v164 S162 := (by subst ev109; exact hE108.trans (by rw [F_X10_number_d_c4, if_neg q111, hx167]))
    exact mw_zret rfl (bd_nar b165 (by decide)) dX10_number_18 rfl rfl ⟨S162, _, rfl, rfl, hI169, hF171, bd_w b165 (by decide), trivial, (by exact hE172.trans (by rw [F_X10_number_d_c4ttc47])), (((Eq.refl (S.1 2 0)).trans (fr_A hf106 (by decide) (by decide))).trans (fr_A hf170 (by decide) (by decide))), (((Eq.refl (S.1 2 1)).trans (fr_A hf106 (by decide) (by decide))).trans (fr_A hf170 (by decide) (by decide))), (((Eq.refl (S.1 2 2)).trans (fr_A hf106 (by decide) (by decide))).trans (fr_A hf170 (by decide) (by decide)))⟩
def F_X10_number_p_c4ttc47 (v118 : Int32) (S116 : mm_S) : Int32 × mm_S := (v118, S116)
def F_X10_number_p_c4 (S101 : mm_S) (x2 : Int32) (x3 : Int32) (x1 : Int32) : Int32 × mm_S := (if (S101.1 0 20) = (48 : Int32) then (if (3 : Int32) < (S101.1 0 21) then (F_X10_number_p_c4ttc47 (F_X10_fails S101 (2 : Int32)).1 (F_X10_fails S101 (2 : Int32)).2) else (if (F_X10_in S101 ((S101.1 0 22)).toInt64 (x2).toInt64 (x3).toInt64) = (0 : Int32) then (F_X10_number_p_c4ttc47 (F_X10_fails S101 (2 : Int32)).1 (F_X10_fails S101 (2 : Int32)).2) else ((1 : Int32), (mm_up S101 2 (x1).toNatClampNeg (S101.1 0 22))))) else (F_X10_number_p_c4ttc47 (F_X10_fails S101 (1 : Int32)).1 (F_X10_fails S101 (1 : Int32)).2))
def F_X10_number_p (S : mm_S) (x1 : Int32) (x2 : Int32) (x3 : Int32) : Int32 × mm_S := (F_X10_number_p_c4 (F_X10_step S) x2 x3 x1)
set_option maxRecDepth 100000 in
set_option maxHeartbeats 4000000 in
theorem cx_X10_number_p {g : mm_G} (S : mm_S) (hI : JM S) (x1 : Int32) (h1 : mm_b (31) (36) x1) (x2 : Int32) (h2 : mm_b (0) (0) x2) (x3 : Int32) (h3 : mm_b (8) (8) x3) : mc g yX10_number cX10_number 4 (some .boolean) (mm_rm 2) [.ref 0, .int x1, .int x2, .int x3] (mm_enc shM S) (qi shM (fun S1 v => JM S1 ∧ fr [2] [18, 19, 20, 21, 22, 23] true true S S1 ∧ mm_b (0) (1) v ∧ (True) ∧ F_X10_number_p S x1 x2 x3 = (v, S1) ∧ (S.1 2 0 = S1.1 2 0 ∧ S.1 2 1 = S1.1 2 1 ∧ S.1 2 2 = S1.1 2 2))) := by
  refine mc_of2 (own := RX10) (ini := false) (ls := [(0, .ref 0), (1, .int x1), (2, .int x2), (3, .int x3)]) (by decide) (Nat.le_of_ble_eq_true rfl) rfl (by decide) rfl ?_
  have hF : fr [2] [18, 19, 20, 21, 22, 23] true true S S := fr_rf
  refine mw_aload_n dX10_number_0 rfl 0 rfl ?_
  refine tc_Vv (as := []) (st := []) dX10_number_1 rfl shM_0 rfl rfl mX10_115 t_X10_step rfl (Nat.le_of_ble_eq_true rfl) (by decide) (by decide) (cx_X10_step (g := g) S hI) (fun S101 h102 => ?_)
  obtain ⟨hI105, hf106, x103, hx104⟩ := h102
  have hF107 := fr_tr hF hf106 (by decide) (by decide) (by decide) (by decide)
  have hE108 : F_X10_number_p S x1 x2 x3 = F_X10_number_p_c4 S101 x2 x3 x1 := (by rw [F_X10_number_p, hx104])
  refine mw_aload_n dX10_number_4 rfl 0 rfl ?_
  refine tw_geti (j := 20) dX10_number_5 shM_0 rfl rfl (by decide) fX10_99 (fun v109 ev109 => ?_)
  have b110 : mm_b (-1) (255) v109 := JIM_fld hI105 ev109 tbM_7 (by decide)
  refine mw_bipush dX10_number_8 kb_48 ?_
  refine mw_icmp_eq (tgt := 19) dX10_number_10 (by decide) (fun q111 => ?_) (fun q111 => ?_)
  · skip
    have b112 : mm_b (48) (48) v109 := bd_eq_l q111 b110 n_48 (by decide)
    refine mw_aload_n dX10_number_19 rfl 0 rfl ?_
    refine tw_geti (j := 21) dX10_number_20 shM_0 rfl rfl (by decide) fX10_102 (fun v113 ev113 => ?_)
    refine mw_iconst dX10_number_23 ki_3 ?_
    refine mw_icmp_gt (tgt := 42) dX10_number_24 (by decide) (fun q114 => ?_) (fun q114 => ?_)
    · skip
      have b115 : mm_b (4) (2147483647) v113 := bd_lt_r q114 n_3 (bd_all v113) (by decide)
      refine mw_aload_n dX10_number_42 rfl 0 rfl ?_
      refine mw_iconst dX10_number_43 ki_2 ?_
      refine tc_Vi (as := [.int 2]) (st := []) dX10_number_44 rfl shM_0 rfl rfl mX10_118 t_X10_fails rfl (Nat.le_of_ble_eq_true rfl) (by decide) (by decide) (cx_X10_fails (g := g) S101 hI105 (2 : Int32)) (fun S116 v118 h117 => ?_)
      obtain ⟨hI123, hf124, b119, x120, hx121⟩ := h117
      have hF125 := fr_tr hF107 hf124 (by decide) (by decide) (by decide) (by decide)
      have hE126 : F_X10_number_p S x1 x2 x3 = F_X10_number_p_c4ttc47 v118 S116 := (by subst ev113; subst ev109; exact hE108.trans (by rw [F_X10_number_p_c4, if_pos q111, if_pos q114, hx121]))
      exact mw_zret rfl (bd_nar b119 (by decide)) dX10_number_47 rfl rfl ⟨S116, _, rfl, rfl, hI123, hF125, bd_w b119 (by decide), trivial, (by exact hE126.trans (by rw [F_X10_number_p_c4ttc47])), (((Eq.refl (S.1 2 0)).trans (fr_A hf106 (by decide) (by decide))).trans (fr_A hf124 (by decide) (by decide))), (((Eq.refl (S.1 2 1)).trans (fr_A hf106 (by decide) (by decide))).trans (fr_A hf124 (by decide) (by decide))), (((Eq.refl (S.1 2 2)).trans (fr_A hf106 (by decide) (by decide))).trans (fr_A hf124 (by decide) (by decide)))⟩
    · skip
      have b127 : mm_b (-2147483648) (3) v113 := bd_le_l (bd_nlt q114) (bd_all v113) n_3 (by decide)
      refine mw_aload_n dX10_number_27 rfl 0 rfl ?_
      refine tw_geti (j := 22) dX10_number_28 shM_0 rfl rfl (by decide) fX10_105 (fun v128 ev128 => ?_)
      have b129 : mm_b (0) (999) v128 := JIM_fld hI105 ev128 tbM_8 (by decide)
      refine mw_i2l dX10_number_31 (fun w130 ew130 => ?_)
      have b131 : mm_bl (0) (999) w130 := bl_i2l ew130 b129
      refine mw_iload_n dX10_number_32 rfl 2 rfl ?_
      refine mw_i2l dX10_number_33 (fun w132 ew132 => ?_)
      have b133 : mm_bl (0) (0) w132 := bl_i2l ew132 h2
      refine mw_iload_n dX10_number_34 rfl 3 rfl ?_
      refine mw_i2l dX10_number_35 (fun w134 ew134 => ?_)
      have b135 : mm_bl (8) (8) w134 := bl_i2l ew134 h3
      refine tc_Si (as := [.long w130, .long w132, .long w134]) (st := []) dX10_number_36 rfl mX10_62 t_X10_in rfl (Nat.le_of_ble_eq_true rfl) (by decide) (by decide) (cx_X10_in (g := g) S101 hI105 w130 w132 w134) (fun S136 v138 h137 => ?_)
      obtain ⟨rfl, b139, x140, hx141⟩ := h137
      have x142 := in_use (lo := 0) (hi := 8) x140 ew130 b133 b135 (by decide)
      refine mw_if_ne (tgt := 48) dX10_number_39 (by decide) (fun q143 => ?_) (fun q143 => ?_)
      · skip
        have b144 : mm_b (1) (1) v138 := bd_ne_l q143 b139 n_0 (by decide)
        have b145 := Or.resolve_left x142 q143
        refine mw_aload_n dX10_number_48 rfl 0 rfl ?_
        refine tw_getr (j := 1) dX10_number_49 shM_0 rfl rfl (by decide) fX10_13 ?_
        refine mw_iload_n dX10_number_52 rfl 1 rfl ?_
        refine mw_aload_n dX10_number_53 rfl 0 rfl ?_
        refine tw_geti (j := 22) dX10_number_54 shM_0 rfl rfl (by decide) fX10_105 (fun v146 ev146 => ?_)
        have cv146 : v128 = v146 := ev128.trans ev146.symm
        subst cv146
        refine tw_iast dX10_number_57 shM_2 (bd_in h1 (by decide)) ?_
        have hI147 : JM (mm_up S101 2 x1.toNatClampNeg v128) := JIM_puta hI105 b145 h1 (by decide) (by decide +kernel)
        generalize hS148 : (mm_up S101 2 x1.toNatClampNeg v128) = S148 at hI147 ⊢
        have hF149 := fr_upA hF107 hS148 (by decide)
        refine mw_iconst dX10_number_58 ki_1 ?_
        exact mw_zret rfl (bd_nar n_1 (by decide)) dX10_number_59 rfl rfl ⟨S148, _, rfl, rfl, hI147, hF149, bd_w n_1 (by decide), trivial, (by subst hS148; subst hx141; subst ew134; subst ew132; subst ew130; subst ev128; subst ev113; subst ev109; exact hE108.trans (by rw [F_X10_number_p_c4, if_pos q111, if_neg q114, if_neg q143])), (((Eq.refl (S.1 2 0)).trans (fr_A hf106 (by decide) (by decide))).trans (up_neF hS148 (cl_ne h1 (by decide)))), (((Eq.refl (S.1 2 1)).trans (fr_A hf106 (by decide) (by decide))).trans (up_neF hS148 (cl_ne h1 (by decide)))), (((Eq.refl (S.1 2 2)).trans (fr_A hf106 (by decide) (by decide))).trans (up_neF hS148 (cl_ne h1 (by decide))))⟩
      · skip
        have b150 : mm_b (0) (0) v138 := bd_eq_l q143 b139 n_0 (by decide)
        refine mw_aload_n dX10_number_42 rfl 0 rfl ?_
        refine mw_iconst dX10_number_43 ki_2 ?_
        refine tc_Vi (as := [.int 2]) (st := []) dX10_number_44 rfl shM_0 rfl rfl mX10_118 t_X10_fails rfl (Nat.le_of_ble_eq_true rfl) (by decide) (by decide) (cx_X10_fails (g := g) S101 hI105 (2 : Int32)) (fun S151 v153 h152 => ?_)
        obtain ⟨hI158, hf159, b154, x155, hx156⟩ := h152
        have hF160 := fr_tr hF107 hf159 (by decide) (by decide) (by decide) (by decide)
        have hE161 : F_X10_number_p S x1 x2 x3 = F_X10_number_p_c4ttc47 v153 S151 := (by subst hx141; subst ew134; subst ew132; subst ew130; subst ev128; subst ev113; subst ev109; exact hE108.trans (by rw [F_X10_number_p_c4, if_pos q111, if_neg q114, if_pos q143, hx156]))
        exact mw_zret rfl (bd_nar b154 (by decide)) dX10_number_47 rfl rfl ⟨S151, _, rfl, rfl, hI158, hF160, bd_w b154 (by decide), trivial, (by exact hE161.trans (by rw [F_X10_number_p_c4ttc47])), (((Eq.refl (S.1 2 0)).trans (fr_A hf106 (by decide) (by decide))).trans (fr_A hf159 (by decide) (by decide))), (((Eq.refl (S.1 2 1)).trans (fr_A hf106 (by decide) (by decide))).trans (fr_A hf159 (by decide) (by decide))), (((Eq.refl (S.1 2 2)).trans (fr_A hf106 (by decide) (by decide))).trans (fr_A hf159 (by decide) (by decide)))⟩
  · skip
    refine mw_aload_n dX10_number_13 rfl 0 rfl ?_
    refine mw_iconst dX10_number_14 ki_1 ?_
    refine tc_Vi (as := [.int 1]) (st := []) dX10_number_15 rfl shM_0 rfl rfl mX10_118 t_X10_fails rfl (Nat.le_of_ble_eq_true rfl) (by decide) (by decide) (cx_X10_fails (g := g) S101 hI105 (1 : Int32)) (fun S162 v164 h163 => ?_)
    obtain ⟨hI169, hf170, b165, x166, hx167⟩ := h163
    have hF171 := fr_tr hF107 hf170 (by decide) (by decide) (by decide) (by decide)
    have hE172 : F_X10_number_p S x1 x2 x3 = F_X10_number_p_c4ttc47 v164 S162 := (by subst ev109; exact hE108.trans (by rw [F_X10_number_p_c4, if_neg q111, hx167]))
    exact mw_zret rfl (bd_nar b165 (by decide)) dX10_number_18 rfl rfl ⟨S162, _, rfl, rfl, hI169, hF171, bd_w b165 (by decide), trivial, (by exact hE172.trans (by rw [F_X10_number_p_c4ttc47])), (((Eq.refl (S.1 2 0)).trans (fr_A hf106 (by decide) (by decide))).trans (fr_A hf170 (by decide) (by decide))), (((Eq.refl (S.1 2 1)).trans (fr_A hf106 (by decide) (by decide))).trans (fr_A hf170 (by decide) (by decide))), (((Eq.refl (S.1 2 2)).trans (fr_A hf106 (by decide) (by decide))).trans (fr_A hf170 (by decide) (by decide)))⟩
def F_X10_ends_c4fc18 (S113 : mm_S) : Int32 × mm_S := ((0 : Int32), S113)
def F_X10_ends_c4 (S101 : mm_S) : Int32 × mm_S := (if (S101.1 0 20) = (59 : Int32) then ((1 : Int32), S101) else (F_X10_ends_c4fc18 (F_X10_fails S101 (1 : Int32)).2))
def F_X10_ends (S : mm_S)  : Int32 × mm_S := (F_X10_ends_c4 (F_X10_step S))
set_option maxRecDepth 100000 in
set_option maxHeartbeats 4000000 in
theorem cx_X10_ends {g : mm_G} (S : mm_S) (hI : JM S)  : mc g yX10_ends cX10_ends 1 (some .boolean) (mm_rm 2) [.ref 0] (mm_enc shM S) (qi shM (fun S1 v => JM S1 ∧ fr [] [18, 19, 20, 21, 22, 23] true true S S1 ∧ mm_b (0) (1) v ∧ (True) ∧ F_X10_ends S = (v, S1))) := by
  refine mc_of2 (own := RX10) (ini := false) (ls := [(0, .ref 0)]) (by decide) (Nat.le_of_ble_eq_true rfl) rfl (by decide) rfl ?_
  have hF : fr [] [18, 19, 20, 21, 22, 23] true true S S := fr_rf
  refine mw_aload_n dX10_ends_0 rfl 0 rfl ?_
  refine tc_Vv (as := []) (st := []) dX10_ends_1 rfl shM_0 rfl rfl mX10_115 t_X10_step rfl (Nat.le_of_ble_eq_true rfl) (by decide) (by decide) (cx_X10_step (g := g) S hI) (fun S101 h102 => ?_)
  obtain ⟨hI105, hf106, x103, hx104⟩ := h102
  have hF107 := fr_tr hF hf106 (by decide) (by decide) (by decide) (by decide)
  have hE108 : F_X10_ends S = F_X10_ends_c4 S101 := (by rw [F_X10_ends, hx104])
  refine mw_aload_n dX10_ends_4 rfl 0 rfl ?_
  refine tw_geti (j := 20) dX10_ends_5 shM_0 rfl rfl (by decide) fX10_99 (fun v109 ev109 => ?_)
  have b110 : mm_b (-1) (255) v109 := JIM_fld hI105 ev109 tbM_7 (by decide)
  refine mw_bipush dX10_ends_8 kb_59 ?_
  refine mw_icmp_eq (tgt := 21) dX10_ends_10 (by decide) (fun q111 => ?_) (fun q111 => ?_)
  · skip
    have b112 : mm_b (59) (59) v109 := bd_eq_l q111 b110 n_59 (by decide)
    refine mw_iconst dX10_ends_21 ki_1 ?_
    refine mw_goto (tgt := 26) dX10_ends_22 (by decide) ?_
    exact mw_zret rfl (bd_nar n_1 (by decide)) dX10_ends_26 rfl rfl ⟨S101, _, rfl, rfl, hI105, hF107, bd_w n_1 (by decide), trivial, (by subst ev109; exact hE108.trans (by rw [F_X10_ends_c4, if_pos q111]))⟩
  · skip
    refine mw_aload_n dX10_ends_13 rfl 0 rfl ?_
    refine mw_iconst dX10_ends_14 ki_1 ?_
    refine tc_Vi (as := [.int 1]) (st := []) dX10_ends_15 rfl shM_0 rfl rfl mX10_118 t_X10_fails rfl (Nat.le_of_ble_eq_true rfl) (by decide) (by decide) (cx_X10_fails (g := g) S101 hI105 (1 : Int32)) (fun S113 v115 h114 => ?_)
    obtain ⟨hI120, hf121, b116, x117, hx118⟩ := h114
    have hF122 := fr_tr hF107 hf121 (by decide) (by decide) (by decide) (by decide)
    have hE123 : F_X10_ends S = F_X10_ends_c4fc18 S113 := (by subst ev109; exact hE108.trans (by rw [F_X10_ends_c4, if_neg q111, hx118]))
    refine mw_if_eq (tgt := 25) dX10_ends_18 (by decide) (fun q124 => ?_) (fun q124 => ?_)
    · skip
      refine mw_iconst dX10_ends_25 ki_0 ?_
      exact mw_zret rfl (bd_nar n_0 (by decide)) dX10_ends_26 rfl rfl ⟨S113, _, rfl, rfl, hI120, hF122, bd_w n_0 (by decide), trivial, (by exact hE123.trans (by rw [F_X10_ends_c4fc18]))⟩
    · skip
      exact bd_fne q124 b116 n_0
def F_X10_readsPerson_tu36c39fc46 (v130 : Int32) (S128 : mm_S) : Int32 × mm_S := (if v130 = (0 : Int32) then ((0 : Int32), S128) else ((1 : Int32), S128))
def F_X10_readsPerson_tu36c39 (v116 : Int32) (S114 : mm_S) : Int32 × mm_S := (if v116 = (0 : Int32) then ((0 : Int32), S114) else (F_X10_readsPerson_tu36c39fc46 (F_X10_ends S114).1 (F_X10_ends S114).2))
def F_X10_readsPerson_tu36 (S109 : mm_S) (v111 : Int32) : Int32 × mm_S := (F_X10_readsPerson_tu36c39 (F_X10_number_r S109 v111 (0 : Int32) (9 : Int32)).1 (F_X10_number_r S109 v111 (0 : Int32) (9 : Int32)).2)
def F_X10_readsPerson_fc18 (v145 : Int32) (S143 : mm_S) : Int32 × mm_S := (v145, S143)
def F_X10_readsPerson (S : mm_S)  : Int32 × mm_S := (if (S.1 2 0) = (7 : Int32) then (F_X10_readsPerson_fc18 (F_X10_fails S (3 : Int32)).1 (F_X10_fails S (3 : Int32)).2) else (F_X10_readsPerson_tu36 (mm_up S 2 0 ((S.1 2 0) + (1 : Int32))) ((3 : Int32) + (S.1 2 0))))
set_option maxRecDepth 100000 in
set_option maxHeartbeats 4000000 in
theorem cx_X10_readsPerson {g : mm_G} (S : mm_S) (hI : JM S)  : mc g yX10_readsPerson cX10_readsPerson 2 (some .boolean) (mm_rm 3) [.ref 0] (mm_enc shM S) (qi shM (fun S1 v => JM S1 ∧ fr [2] [18, 19, 20, 21, 22, 23] true true S S1 ∧ mm_b (0) (1) v ∧ (True) ∧ F_X10_readsPerson S = (v, S1))) := by
  refine mc_of2 (own := RX10) (ini := false) (ls := [(0, .ref 0)]) (by decide) (Nat.le_of_ble_eq_true rfl) rfl (by decide) rfl ?_
  have hF : fr [2] [18, 19, 20, 21, 22, 23] true true S S := fr_rf
  refine mw_aload_n dX10_readsPerson_0 rfl 0 rfl ?_
  refine tw_getr (j := 1) dX10_readsPerson_1 shM_0 rfl rfl (by decide) fX10_13 ?_
  refine mw_iconst dX10_readsPerson_4 ki_0 ?_
  refine tw_iald dX10_readsPerson_5 shM_2 (bd_in n_0 (by decide)) (fun v101 ev101 => ?_)
  rw [cl_0] at ev101
  have b102 : mm_b (0) (7) v101 := JIM_fld hI ev101 tbM_23 (by decide)
  refine mw_istore_n (ls' := [(1, .int v101), (0, .ref 0)]) dX10_readsPerson_6 rfl (by decide) rfl ?_
  refine mw_iload_n dX10_readsPerson_7 rfl 0 rfl ?_
  refine mw_bipush dX10_readsPerson_8 kb_7 ?_
  refine mw_icmp_ne (tgt := 19) dX10_readsPerson_10 (by decide) (fun q103 => ?_) (fun q103 => ?_)
  · skip
    have b104 : mm_b (0) (6) v101 := bd_ne_l q103 b102 n_7 (by decide)
    refine mw_aload_n dX10_readsPerson_19 rfl 1 rfl ?_
    refine tw_getr (j := 1) dX10_readsPerson_20 shM_0 rfl rfl (by decide) fX10_13 ?_
    refine mw_iconst dX10_readsPerson_23 ki_0 ?_
    refine mw_dup2 dX10_readsPerson_24 rfl rfl ?_
    refine tw_iald dX10_readsPerson_25 shM_2 (bd_in n_0 (by decide)) (fun v105 ev105 => ?_)
    rw [cl_0] at ev105
    have cv105 : v101 = v105 := ev101.trans ev105.symm
    subst cv105
    refine mw_iconst dX10_readsPerson_26 ki_1 ?_
    refine mw_iadd dX10_readsPerson_27 (fun v106 ev106 => ?_)
    have b107 : mm_b (1) (7) v106 := bd_add ev106 b104 n_1 (by decide)
    refine tw_iast dX10_readsPerson_28 shM_2 (bd_in n_0 (by decide)) ?_
    rw [cl_0]
    have hI108 : JM (mm_up S 2 0 v106) := JIM_put hI b107 (by decide +kernel)
    generalize hS109 : (mm_up S 2 0 v106) = S109 at hI108 ⊢
    have hF110 := fr_upA hF hS109 (by decide)
    refine mw_aload_n dX10_readsPerson_29 rfl 1 rfl ?_
    refine mw_iconst dX10_readsPerson_30 ki_3 ?_
    refine mw_iload_n dX10_readsPerson_31 rfl 0 rfl ?_
    refine mw_iadd dX10_readsPerson_32 (fun v111 ev111 => ?_)
    have b112 : mm_b (3) (9) v111 := bd_add ev111 n_3 b104 (by decide)
    refine mw_iconst dX10_readsPerson_33 ki_0 ?_
    refine mw_bipush dX10_readsPerson_34 kb_9 ?_
    have hE113 : F_X10_readsPerson S = F_X10_readsPerson_tu36 S109 v111 := (by subst ev111; subst hS109; subst ev106; subst ev101; rw [F_X10_readsPerson, if_neg q103])
    refine tc_Vi (as := [.int v111, .int 0, .int 9]) (st := []) dX10_readsPerson_36 rfl shM_0 rfl rfl mX10_122 t_X10_number rfl (Nat.le_of_ble_eq_true rfl) (by decide) (by decide) (cx_X10_number_r (g := g) S109 hI108 v111 b112 (0 : Int32) n_0 (9 : Int32) n_9) (fun S114 v116 h115 => ?_)
    obtain ⟨hI121, hf122, b117, x118, hx119, kp120⟩ := h115
    have hF123 := fr_tr hF110 hf122 (by decide) (by decide) (by decide) (by decide)
    have hE124 : F_X10_readsPerson S = F_X10_readsPerson_tu36c39 v116 S114 := (by exact hE113.trans (by rw [F_X10_readsPerson_tu36, hx119]))
    refine mw_if_eq (tgt := 53) dX10_readsPerson_39 (by decide) (fun q125 => ?_) (fun q125 => ?_)
    · skip
      have b126 : mm_b (0) (0) v116 := bd_eq_l q125 b117 n_0 (by decide)
      refine mw_iconst dX10_readsPerson_53 ki_0 ?_
      exact mw_zret rfl (bd_nar n_0 (by decide)) dX10_readsPerson_54 rfl rfl ⟨S114, _, rfl, rfl, hI121, hF123, bd_w n_0 (by decide), trivial, (by exact hE124.trans (by rw [F_X10_readsPerson_tu36c39, if_pos q125]))⟩
    · skip
      have b127 : mm_b (1) (1) v116 := bd_ne_l q125 b117 n_0 (by decide)
      refine mw_aload_n dX10_readsPerson_42 rfl 1 rfl ?_
      refine tc_Vi (as := []) (st := []) dX10_readsPerson_43 rfl shM_0 rfl rfl mX10_126 t_X10_ends rfl (Nat.le_of_ble_eq_true rfl) (by decide) (by decide) (cx_X10_ends (g := g) S114 hI121) (fun S128 v130 h129 => ?_)
      obtain ⟨hI135, hf136, b131, x132, hx133⟩ := h129
      have hF137 := fr_tr hF123 hf136 (by decide) (by decide) (by decide) (by decide)
      have hE138 : F_X10_readsPerson S = F_X10_readsPerson_tu36c39fc46 v130 S128 := (by exact hE124.trans (by rw [F_X10_readsPerson_tu36c39, if_neg q125, hx133]))
      refine mw_if_eq (tgt := 53) dX10_readsPerson_46 (by decide) (fun q139 => ?_) (fun q139 => ?_)
      · skip
        have b140 : mm_b (0) (0) v130 := bd_eq_l q139 b131 n_0 (by decide)
        refine mw_iconst dX10_readsPerson_53 ki_0 ?_
        exact mw_zret rfl (bd_nar n_0 (by decide)) dX10_readsPerson_54 rfl rfl ⟨S128, _, rfl, rfl, hI135, hF137, bd_w n_0 (by decide), trivial, (by exact hE138.trans (by rw [F_X10_readsPerson_tu36c39fc46, if_pos q139]))⟩
      · skip
        have b141 : mm_b (1) (1) v130 := bd_ne_l q139 b131 n_0 (by decide)
        refine mw_iconst dX10_readsPerson_49 ki_1 ?_
        refine mw_goto (tgt := 54) dX10_readsPerson_50 (by decide) ?_
        exact mw_zret rfl (bd_nar n_1 (by decide)) dX10_readsPerson_54 rfl rfl ⟨S128, _, rfl, rfl, hI135, hF137, bd_w n_1 (by decide), trivial, (by exact hE138.trans (by rw [F_X10_readsPerson_tu36c39fc46, if_neg q139]))⟩
  · skip
    have b142 : mm_b (7) (7) v101 := bd_eq_l q103 b102 n_7 (by decide)
    refine mw_aload_n dX10_readsPerson_13 rfl 1 rfl ?_
    refine mw_iconst dX10_readsPerson_14 ki_3 ?_
    refine tc_Vi (as := [.int 3]) (st := []) dX10_readsPerson_15 rfl shM_0 rfl rfl mX10_118 t_X10_fails rfl (Nat.le_of_ble_eq_true rfl) (by decide) (by decide) (cx_X10_fails (g := g) S hI (3 : Int32)) (fun S143 v145 h144 => ?_)
    obtain ⟨hI150, hf151, b146, x147, hx148⟩ := h144
    have hF152 := fr_tr hF hf151 (by decide) (by decide) (by decide) (by decide)
    have hE153 : F_X10_readsPerson S = F_X10_readsPerson_fc18 v145 S143 := (by subst ev101; rw [F_X10_readsPerson, if_pos q103, hx148])
    exact mw_zret rfl (bd_nar b146 (by decide)) dX10_readsPerson_18 rfl rfl ⟨S143, _, rfl, rfl, hI150, hF152, bd_w b146 (by decide), trivial, (by exact hE153.trans (by rw [F_X10_readsPerson_fc18]))⟩
def F_X10_isTold_0_c4ttc68 (S117 : mm_S) : Int32 × mm_S := ((0 : Int32), S117)
def F_X10_isTold_0_c4fc18 (v154 : Int32) (S152 : mm_S) : Int32 × mm_S := (v154, S152)
def F_X10_isTold_0_c4 (S101 : mm_S) : Int32 × mm_S := (if (S101.1 0 20) = (48 : Int32) then (if (4 : Int32) ≤ (S101.1 0 21) then (F_X10_isTold_0_c4ttc68 (F_X10_fails S101 (2 : Int32)).2) else (if (S101.1 0 22) < (S101.1 2 0) then ((1 : Int32), S101) else (F_X10_isTold_0_c4ttc68 (F_X10_fails S101 (2 : Int32)).2))) else (F_X10_isTold_0_c4fc18 (F_X10_fails S101 (1 : Int32)).1 (F_X10_fails S101 (1 : Int32)).2))
def F_X10_isTold_0 (S : mm_S) (x1 : Int32) : Int32 × mm_S := (F_X10_isTold_0_c4 (F_X10_step S))
set_option maxRecDepth 100000 in
set_option maxHeartbeats 4000000 in
theorem cx_X10_isTold_0 {g : mm_G} (S : mm_S) (hI : JM S) (x1 : Int32) (h1 : mm_b (0) (0) x1) : mc g yX10_isTold cX10_isTold 3 (some .boolean) (mm_rm 2) [.ref 0, .int x1] (mm_enc shM S) (qi shM (fun S1 v => JM S1 ∧ fr [] [18, 19, 20, 21, 22, 23] true true S S1 ∧ mm_b (0) (1) v ∧ (v = 0 ∨ (mm_b (0) (6) (S1.1 0 22))) ∧ F_X10_isTold_0 S x1 = (v, S1))) := by
  refine mc_of2 (own := RX10) (ini := false) (ls := [(0, .ref 0), (1, .int x1)]) (by decide) (Nat.le_of_ble_eq_true rfl) rfl (by decide) rfl ?_
  have hF : fr [] [18, 19, 20, 21, 22, 23] true true S S := fr_rf
  refine mw_aload_n dX10_isTold_0 rfl 0 rfl ?_
  refine tc_Vv (as := []) (st := []) dX10_isTold_1 rfl shM_0 rfl rfl mX10_115 t_X10_step rfl (Nat.le_of_ble_eq_true rfl) (by decide) (by decide) (cx_X10_step (g := g) S hI) (fun S101 h102 => ?_)
  obtain ⟨hI105, hf106, x103, hx104⟩ := h102
  have hF107 := fr_tr hF hf106 (by decide) (by decide) (by decide) (by decide)
  have hE108 : F_X10_isTold_0 S x1 = F_X10_isTold_0_c4 S101 := (by rw [F_X10_isTold_0, hx104])
  refine mw_aload_n dX10_isTold_4 rfl 0 rfl ?_
  refine tw_geti (j := 20) dX10_isTold_5 shM_0 rfl rfl (by decide) fX10_99 (fun v109 ev109 => ?_)
  have b110 : mm_b (-1) (255) v109 := JIM_fld hI105 ev109 tbM_7 (by decide)
  refine mw_bipush dX10_isTold_8 kb_48 ?_
  refine mw_icmp_eq (tgt := 19) dX10_isTold_10 (by decide) (fun q111 => ?_) (fun q111 => ?_)
  · skip
    have b112 : mm_b (48) (48) v109 := bd_eq_l q111 b110 n_48 (by decide)
    refine mw_aload_n dX10_isTold_19 rfl 0 rfl ?_
    refine tw_geti (j := 21) dX10_isTold_20 shM_0 rfl rfl (by decide) fX10_102 (fun v113 ev113 => ?_)
    refine mw_iconst dX10_isTold_23 ki_4 ?_
    refine mw_icmp_ge (tgt := 57) dX10_isTold_24 (by decide) (fun q114 => ?_) (fun q114 => ?_)
    · skip
      have b115 : mm_b (4) (2147483647) v113 := bd_le_r q114 n_4 (bd_all v113) (by decide)
      refine mw_iconst dX10_isTold_57 ki_0 ?_
      refine mw_istore_n (ls' := [(2, .int 0), (0, .ref 0), (1, .int x1)]) dX10_isTold_58 rfl (by decide) rfl ?_
      refine mw_iload_n dX10_isTold_59 rfl 0 rfl ?_
      refine mw_if_ne (tgt := 71) dX10_isTold_60 (by decide) (fun q116 => ?_) (fun q116 => ?_)
      · skip
        exact bd_fne q116 n_0 n_0
      · skip
        refine mw_aload_n dX10_isTold_63 rfl 1 rfl ?_
        refine mw_iconst dX10_isTold_64 ki_2 ?_
        refine tc_Vi (as := [.int 2]) (st := []) dX10_isTold_65 rfl shM_0 rfl rfl mX10_118 t_X10_fails rfl (Nat.le_of_ble_eq_true rfl) (by decide) (by decide) (cx_X10_fails (g := g) S101 hI105 (2 : Int32)) (fun S117 v119 h118 => ?_)
        obtain ⟨hI124, hf125, b120, x121, hx122⟩ := h118
        have hF126 := fr_tr hF107 hf125 (by decide) (by decide) (by decide) (by decide)
        have hE127 : F_X10_isTold_0 S x1 = F_X10_isTold_0_c4ttc68 S117 := (by subst ev113; subst ev109; exact hE108.trans (by rw [F_X10_isTold_0_c4, if_pos q111, if_pos q114, hx122]))
        refine mw_if_eq (tgt := 75) dX10_isTold_68 (by decide) (fun q128 => ?_) (fun q128 => ?_)
        · skip
          refine mw_iconst dX10_isTold_75 ki_0 ?_
          exact mw_zret rfl (bd_nar n_0 (by decide)) dX10_isTold_76 rfl rfl ⟨S117, _, rfl, rfl, hI124, hF126, bd_w n_0 (by decide), Or.inl rfl, (by exact hE127.trans (by rw [F_X10_isTold_0_c4ttc68]))⟩
        · skip
          exact bd_fne q128 b120 n_0
    · skip
      have b129 : mm_b (-2147483648) (3) v113 := bd_lt_l (bd_nle q114) (bd_all v113) n_4 (by decide)
      refine mw_aload_n dX10_isTold_27 rfl 0 rfl ?_
      refine tw_geti (j := 22) dX10_isTold_28 shM_0 rfl rfl (by decide) fX10_105 (fun v130 ev130 => ?_)
      have b131 : mm_b (0) (999) v130 := JIM_fld hI105 ev130 tbM_8 (by decide)
      refine mw_aload_n dX10_isTold_31 rfl 0 rfl ?_
      refine tw_getr (j := 1) dX10_isTold_32 shM_0 rfl rfl (by decide) fX10_13 ?_
      refine mw_iconst dX10_isTold_35 ki_0 ?_
      refine tw_iald dX10_isTold_36 shM_2 (bd_in n_0 (by decide)) (fun v132 ev132 => ?_)
      rw [cl_0] at ev132
      have b133 : mm_b (0) (7) v132 := JIM_fld hI105 ev132 tbM_23 (by decide)
      refine mw_icmp_lt (tgt := 53) dX10_isTold_37 (by decide) (fun q134 => ?_) (fun q134 => ?_)
      · skip
        have b135 : mm_b (0) (6) v130 := bd_lt_l q134 b131 b133 (by decide)
        have b136 : mm_b (1) (7) v132 := bd_lt_r q134 b131 b133 (by decide)
        refine mw_iconst dX10_isTold_53 ki_1 ?_
        refine mw_goto (tgt := 58) dX10_isTold_54 (by decide) ?_
        refine mw_istore_n (ls' := [(2, .int 1), (0, .ref 0), (1, .int x1)]) dX10_isTold_58 rfl (by decide) rfl ?_
        refine mw_iload_n dX10_isTold_59 rfl 0 rfl ?_
        refine mw_if_ne (tgt := 71) dX10_isTold_60 (by decide) (fun q137 => ?_) (fun q137 => ?_)
        · skip
          refine mw_iconst dX10_isTold_71 ki_1 ?_
          refine mw_goto (tgt := 76) dX10_isTold_72 (by decide) ?_
          exact mw_zret rfl (bd_nar n_1 (by decide)) dX10_isTold_76 rfl rfl ⟨S101, _, rfl, rfl, hI105, hF107, bd_w n_1 (by decide), Or.inr (by rw [← ev130]; exact bd_w b135 (by decide)), (by subst ev132; subst ev130; subst ev113; subst ev109; exact hE108.trans (by rw [F_X10_isTold_0_c4, if_pos q111, if_neg q114, if_pos q134]))⟩
        · skip
          exact bd_feq q137 n_1 n_0 (by decide)
      · skip
        refine mw_iload_n dX10_isTold_40 rfl 1 rfl ?_
        refine mw_if_eq (tgt := 57) dX10_isTold_41 (by decide) (fun q138 => ?_) (fun q138 => ?_)
        · skip
          refine mw_iconst dX10_isTold_57 ki_0 ?_
          refine mw_istore_n (ls' := [(2, .int 0), (0, .ref 0), (1, .int x1)]) dX10_isTold_58 rfl (by decide) rfl ?_
          refine mw_iload_n dX10_isTold_59 rfl 0 rfl ?_
          refine mw_if_ne (tgt := 71) dX10_isTold_60 (by decide) (fun q139 => ?_) (fun q139 => ?_)
          · skip
            exact bd_fne q139 n_0 n_0
          · skip
            refine mw_aload_n dX10_isTold_63 rfl 1 rfl ?_
            refine mw_iconst dX10_isTold_64 ki_2 ?_
            refine tc_Vi (as := [.int 2]) (st := []) dX10_isTold_65 rfl shM_0 rfl rfl mX10_118 t_X10_fails rfl (Nat.le_of_ble_eq_true rfl) (by decide) (by decide) (cx_X10_fails (g := g) S101 hI105 (2 : Int32)) (fun S140 v142 h141 => ?_)
            obtain ⟨hI147, hf148, b143, x144, hx145⟩ := h141
            have hF149 := fr_tr hF107 hf148 (by decide) (by decide) (by decide) (by decide)
            have hE150 : F_X10_isTold_0 S x1 = F_X10_isTold_0_c4ttc68 S140 := (by subst ev132; subst ev130; subst ev113; subst ev109; exact hE108.trans (by rw [F_X10_isTold_0_c4, if_pos q111, if_neg q114, if_neg q134, hx145]))
            refine mw_if_eq (tgt := 75) dX10_isTold_68 (by decide) (fun q151 => ?_) (fun q151 => ?_)
            · skip
              refine mw_iconst dX10_isTold_75 ki_0 ?_
              exact mw_zret rfl (bd_nar n_0 (by decide)) dX10_isTold_76 rfl rfl ⟨S140, _, rfl, rfl, hI147, hF149, bd_w n_0 (by decide), Or.inl rfl, (by exact hE150.trans (by rw [F_X10_isTold_0_c4ttc68]))⟩
            · skip
              exact bd_fne q151 b143 n_0
        · skip
          exact bd_fne q138 h1 n_0
  · skip
    refine mw_aload_n dX10_isTold_13 rfl 0 rfl ?_
    refine mw_iconst dX10_isTold_14 ki_1 ?_
    refine tc_Vi (as := [.int 1]) (st := []) dX10_isTold_15 rfl shM_0 rfl rfl mX10_118 t_X10_fails rfl (Nat.le_of_ble_eq_true rfl) (by decide) (by decide) (cx_X10_fails (g := g) S101 hI105 (1 : Int32)) (fun S152 v154 h153 => ?_)
    obtain ⟨hI159, hf160, b155, x156, hx157⟩ := h153
    have hF161 := fr_tr hF107 hf160 (by decide) (by decide) (by decide) (by decide)
    have hE162 : F_X10_isTold_0 S x1 = F_X10_isTold_0_c4fc18 v154 S152 := (by subst ev109; exact hE108.trans (by rw [F_X10_isTold_0_c4, if_neg q111, hx157]))
    exact mw_zret rfl (bd_nar b155 (by decide)) dX10_isTold_18 rfl rfl ⟨S152, _, rfl, rfl, hI159, hF161, bd_w b155 (by decide), Or.inl (bd_zero b155), (by exact hE162.trans (by rw [F_X10_isTold_0_c4fc18]))⟩
def F_X10_isTold_1_c4ttc68 (S117 : mm_S) : Int32 × mm_S := ((0 : Int32), S117)
def F_X10_isTold_1_c4fc18 (v158 : Int32) (S156 : mm_S) : Int32 × mm_S := (v158, S156)
def F_X10_isTold_1_c4 (S101 : mm_S) : Int32 × mm_S := (if (S101.1 0 20) = (48 : Int32) then (if (4 : Int32) ≤ (S101.1 0 21) then (F_X10_isTold_1_c4ttc68 (F_X10_fails S101 (2 : Int32)).2) else (if (S101.1 0 22) < (S101.1 2 0) then ((1 : Int32), S101) else (if (S101.1 0 22) = (9 : Int32) then ((1 : Int32), S101) else (F_X10_isTold_1_c4ttc68 (F_X10_fails S101 (2 : Int32)).2)))) else (F_X10_isTold_1_c4fc18 (F_X10_fails S101 (1 : Int32)).1 (F_X10_fails S101 (1 : Int32)).2))
def F_X10_isTold_1 (S : mm_S) (x1 : Int32) : Int32 × mm_S := (F_X10_isTold_1_c4 (F_X10_step S))
set_option maxRecDepth 100000 in
set_option maxHeartbeats 4000000 in
theorem cx_X10_isTold_1 {g : mm_G} (S : mm_S) (hI : JM S) (x1 : Int32) (h1 : mm_b (1) (1) x1) : mc g yX10_isTold cX10_isTold 3 (some .boolean) (mm_rm 2) [.ref 0, .int x1] (mm_enc shM S) (qi shM (fun S1 v => JM S1 ∧ fr [] [18, 19, 20, 21, 22, 23] true true S S1 ∧ mm_b (0) (1) v ∧ (v = 0 ∨ (mm_b (0) (9) (S1.1 0 22))) ∧ F_X10_isTold_1 S x1 = (v, S1))) := by
  refine mc_of2 (own := RX10) (ini := false) (ls := [(0, .ref 0), (1, .int x1)]) (by decide) (Nat.le_of_ble_eq_true rfl) rfl (by decide) rfl ?_
  have hF : fr [] [18, 19, 20, 21, 22, 23] true true S S := fr_rf
  refine mw_aload_n dX10_isTold_0 rfl 0 rfl ?_
  refine tc_Vv (as := []) (st := []) dX10_isTold_1 rfl shM_0 rfl rfl mX10_115 t_X10_step rfl (Nat.le_of_ble_eq_true rfl) (by decide) (by decide) (cx_X10_step (g := g) S hI) (fun S101 h102 => ?_)
  obtain ⟨hI105, hf106, x103, hx104⟩ := h102
  have hF107 := fr_tr hF hf106 (by decide) (by decide) (by decide) (by decide)
  have hE108 : F_X10_isTold_1 S x1 = F_X10_isTold_1_c4 S101 := (by rw [F_X10_isTold_1, hx104])
  refine mw_aload_n dX10_isTold_4 rfl 0 rfl ?_
  refine tw_geti (j := 20) dX10_isTold_5 shM_0 rfl rfl (by decide) fX10_99 (fun v109 ev109 => ?_)
  have b110 : mm_b (-1) (255) v109 := JIM_fld hI105 ev109 tbM_7 (by decide)
  refine mw_bipush dX10_isTold_8 kb_48 ?_
  refine mw_icmp_eq (tgt := 19) dX10_isTold_10 (by decide) (fun q111 => ?_) (fun q111 => ?_)
  · skip
    have b112 : mm_b (48) (48) v109 := bd_eq_l q111 b110 n_48 (by decide)
    refine mw_aload_n dX10_isTold_19 rfl 0 rfl ?_
    refine tw_geti (j := 21) dX10_isTold_20 shM_0 rfl rfl (by decide) fX10_102 (fun v113 ev113 => ?_)
    refine mw_iconst dX10_isTold_23 ki_4 ?_
    refine mw_icmp_ge (tgt := 57) dX10_isTold_24 (by decide) (fun q114 => ?_) (fun q114 => ?_)
    · skip
      have b115 : mm_b (4) (2147483647) v113 := bd_le_r q114 n_4 (bd_all v113) (by decide)
      refine mw_iconst dX10_isTold_57 ki_0 ?_
      refine mw_istore_n (ls' := [(2, .int 0), (0, .ref 0), (1, .int x1)]) dX10_isTold_58 rfl (by decide) rfl ?_
      refine mw_iload_n dX10_isTold_59 rfl 0 rfl ?_
      refine mw_if_ne (tgt := 71) dX10_isTold_60 (by decide) (fun q116 => ?_) (fun q116 => ?_)
      · skip
        exact bd_fne q116 n_0 n_0
      · skip
        refine mw_aload_n dX10_isTold_63 rfl 1 rfl ?_
        refine mw_iconst dX10_isTold_64 ki_2 ?_
        refine tc_Vi (as := [.int 2]) (st := []) dX10_isTold_65 rfl shM_0 rfl rfl mX10_118 t_X10_fails rfl (Nat.le_of_ble_eq_true rfl) (by decide) (by decide) (cx_X10_fails (g := g) S101 hI105 (2 : Int32)) (fun S117 v119 h118 => ?_)
        obtain ⟨hI124, hf125, b120, x121, hx122⟩ := h118
        have hF126 := fr_tr hF107 hf125 (by decide) (by decide) (by decide) (by decide)
        have hE127 : F_X10_isTold_1 S x1 = F_X10_isTold_1_c4ttc68 S117 := (by subst ev113; subst ev109; exact hE108.trans (by rw [F_X10_isTold_1_c4, if_pos q111, if_pos q114, hx122]))
        refine mw_if_eq (tgt := 75) dX10_isTold_68 (by decide) (fun q128 => ?_) (fun q128 => ?_)
        · skip
          refine mw_iconst dX10_isTold_75 ki_0 ?_
          exact mw_zret rfl (bd_nar n_0 (by decide)) dX10_isTold_76 rfl rfl ⟨S117, _, rfl, rfl, hI124, hF126, bd_w n_0 (by decide), Or.inl rfl, (by exact hE127.trans (by rw [F_X10_isTold_1_c4ttc68]))⟩
        · skip
          exact bd_fne q128 b120 n_0
    · skip
      have b129 : mm_b (-2147483648) (3) v113 := bd_lt_l (bd_nle q114) (bd_all v113) n_4 (by decide)
      refine mw_aload_n dX10_isTold_27 rfl 0 rfl ?_
      refine tw_geti (j := 22) dX10_isTold_28 shM_0 rfl rfl (by decide) fX10_105 (fun v130 ev130 => ?_)
      have b131 : mm_b (0) (999) v130 := JIM_fld hI105 ev130 tbM_8 (by decide)
      refine mw_aload_n dX10_isTold_31 rfl 0 rfl ?_
      refine tw_getr (j := 1) dX10_isTold_32 shM_0 rfl rfl (by decide) fX10_13 ?_
      refine mw_iconst dX10_isTold_35 ki_0 ?_
      refine tw_iald dX10_isTold_36 shM_2 (bd_in n_0 (by decide)) (fun v132 ev132 => ?_)
      rw [cl_0] at ev132
      have b133 : mm_b (0) (7) v132 := JIM_fld hI105 ev132 tbM_23 (by decide)
      refine mw_icmp_lt (tgt := 53) dX10_isTold_37 (by decide) (fun q134 => ?_) (fun q134 => ?_)
      · skip
        have b135 : mm_b (0) (6) v130 := bd_lt_l q134 b131 b133 (by decide)
        have b136 : mm_b (1) (7) v132 := bd_lt_r q134 b131 b133 (by decide)
        refine mw_iconst dX10_isTold_53 ki_1 ?_
        refine mw_goto (tgt := 58) dX10_isTold_54 (by decide) ?_
        refine mw_istore_n (ls' := [(2, .int 1), (0, .ref 0), (1, .int x1)]) dX10_isTold_58 rfl (by decide) rfl ?_
        refine mw_iload_n dX10_isTold_59 rfl 0 rfl ?_
        refine mw_if_ne (tgt := 71) dX10_isTold_60 (by decide) (fun q137 => ?_) (fun q137 => ?_)
        · skip
          refine mw_iconst dX10_isTold_71 ki_1 ?_
          refine mw_goto (tgt := 76) dX10_isTold_72 (by decide) ?_
          exact mw_zret rfl (bd_nar n_1 (by decide)) dX10_isTold_76 rfl rfl ⟨S101, _, rfl, rfl, hI105, hF107, bd_w n_1 (by decide), Or.inr (by rw [← ev130]; exact bd_w b135 (by decide)), (by subst ev132; subst ev130; subst ev113; subst ev109; exact hE108.trans (by rw [F_X10_isTold_1_c4, if_pos q111, if_neg q114, if_pos q134]))⟩
        · skip
          exact bd_feq q137 n_1 n_0 (by decide)
      · skip
        refine mw_iload_n dX10_isTold_40 rfl 1 rfl ?_
        refine mw_if_eq (tgt := 57) dX10_isTold_41 (by decide) (fun q138 => ?_) (fun q138 => ?_)
        · skip
          exact bd_feq q138 h1 n_0 (by decide)
        · skip
          refine mw_aload_n dX10_isTold_44 rfl 0 rfl ?_
          refine tw_geti (j := 22) dX10_isTold_45 shM_0 rfl rfl (by decide) fX10_105 (fun v139 ev139 => ?_)
          have cv139 : v130 = v139 := ev130.trans ev139.symm
          subst cv139
          refine mw_bipush dX10_isTold_48 kb_9 ?_
          refine mw_icmp_ne (tgt := 57) dX10_isTold_50 (by decide) (fun q140 => ?_) (fun q140 => ?_)
          · skip
            refine mw_iconst dX10_isTold_57 ki_0 ?_
            refine mw_istore_n (ls' := [(2, .int 0), (0, .ref 0), (1, .int x1)]) dX10_isTold_58 rfl (by decide) rfl ?_
            refine mw_iload_n dX10_isTold_59 rfl 0 rfl ?_
            refine mw_if_ne (tgt := 71) dX10_isTold_60 (by decide) (fun q141 => ?_) (fun q141 => ?_)
            · skip
              exact bd_fne q141 n_0 n_0
            · skip
              refine mw_aload_n dX10_isTold_63 rfl 1 rfl ?_
              refine mw_iconst dX10_isTold_64 ki_2 ?_
              refine tc_Vi (as := [.int 2]) (st := []) dX10_isTold_65 rfl shM_0 rfl rfl mX10_118 t_X10_fails rfl (Nat.le_of_ble_eq_true rfl) (by decide) (by decide) (cx_X10_fails (g := g) S101 hI105 (2 : Int32)) (fun S142 v144 h143 => ?_)
              obtain ⟨hI149, hf150, b145, x146, hx147⟩ := h143
              have hF151 := fr_tr hF107 hf150 (by decide) (by decide) (by decide) (by decide)
              have hE152 : F_X10_isTold_1 S x1 = F_X10_isTold_1_c4ttc68 S142 := (by subst ev132; subst ev130; subst ev113; subst ev109; exact hE108.trans (by rw [F_X10_isTold_1_c4, if_pos q111, if_neg q114, if_neg q134, if_neg q140, hx147]))
              refine mw_if_eq (tgt := 75) dX10_isTold_68 (by decide) (fun q153 => ?_) (fun q153 => ?_)
              · skip
                refine mw_iconst dX10_isTold_75 ki_0 ?_
                exact mw_zret rfl (bd_nar n_0 (by decide)) dX10_isTold_76 rfl rfl ⟨S142, _, rfl, rfl, hI149, hF151, bd_w n_0 (by decide), Or.inl rfl, (by exact hE152.trans (by rw [F_X10_isTold_1_c4ttc68]))⟩
              · skip
                exact bd_fne q153 b145 n_0
          · skip
            have b154 : mm_b (9) (9) v130 := bd_eq_l q140 b131 n_9 (by decide)
            refine mw_iconst dX10_isTold_53 ki_1 ?_
            refine mw_goto (tgt := 58) dX10_isTold_54 (by decide) ?_
            refine mw_istore_n (ls' := [(2, .int 1), (0, .ref 0), (1, .int x1)]) dX10_isTold_58 rfl (by decide) rfl ?_
            refine mw_iload_n dX10_isTold_59 rfl 0 rfl ?_
            refine mw_if_ne (tgt := 71) dX10_isTold_60 (by decide) (fun q155 => ?_) (fun q155 => ?_)
            · skip
              refine mw_iconst dX10_isTold_71 ki_1 ?_
              refine mw_goto (tgt := 76) dX10_isTold_72 (by decide) ?_
              exact mw_zret rfl (bd_nar n_1 (by decide)) dX10_isTold_76 rfl rfl ⟨S101, _, rfl, rfl, hI105, hF107, bd_w n_1 (by decide), Or.inr (by rw [← ev130]; exact bd_w b154 (by decide)), (by subst ev132; subst ev130; subst ev113; subst ev109; exact hE108.trans (by rw [F_X10_isTold_1_c4, if_pos q111, if_neg q114, if_neg q134, if_pos q140]))⟩
            · skip
              exact bd_feq q155 n_1 n_0 (by decide)
  · skip
    refine mw_aload_n dX10_isTold_13 rfl 0 rfl ?_
    refine mw_iconst dX10_isTold_14 ki_1 ?_
    refine tc_Vi (as := [.int 1]) (st := []) dX10_isTold_15 rfl shM_0 rfl rfl mX10_118 t_X10_fails rfl (Nat.le_of_ble_eq_true rfl) (by decide) (by decide) (cx_X10_fails (g := g) S101 hI105 (1 : Int32)) (fun S156 v158 h157 => ?_)
    obtain ⟨hI163, hf164, b159, x160, hx161⟩ := h157
    have hF165 := fr_tr hF107 hf164 (by decide) (by decide) (by decide) (by decide)
    have hE166 : F_X10_isTold_1 S x1 = F_X10_isTold_1_c4fc18 v158 S156 := (by subst ev109; exact hE108.trans (by rw [F_X10_isTold_1_c4, if_neg q111, hx161]))
    exact mw_zret rfl (bd_nar b159 (by decide)) dX10_isTold_18 rfl rfl ⟨S156, _, rfl, rfl, hI163, hF165, bd_w b159 (by decide), Or.inl (bd_zero b159), (by exact hE166.trans (by rw [F_X10_isTold_1_c4fc18]))⟩
def F_X10_readsWill_L50tc107 (v147 : Int32) (S145 : mm_S) : Int32 × mm_S := (v147, S145)
def F_X10_readsWill_L50fc60 (v159 : Int32) (S157 : mm_S) (y137 : Int32) (k50 : mm_S → Int32 → Int32 → Int32 × mm_S) (y139 : Int32) : Int32 × mm_S := (if v159 = (0 : Int32) then ((0 : Int32), S157) else (if (S157.1 0 22) = y137 then (F_X10_readsWill_L50tc107 (F_X10_fails S157 (4 : Int32)).1 (F_X10_fails S157 (4 : Int32)).2) else (k50 (mm_up S157 2 ((((10 : Int32) + ((7 : Int32) * y139)) + y137)).toNatClampNeg (S157.1 0 22)) y137 (y139 + Int32.ofInt 1))))
def F_X10_readsWill_L50  : Nat → mm_S → Int32 → Int32 → Int32 × mm_S
  | 0, S134, _, _ => (0, S134)
  | N + 1, S134, y137, y139 => (if (2 : Int32) ≤ y139 then (F_X10_readsWill_L50tc107 (F_X10_ends S134).1 (F_X10_ends S134).2) else (F_X10_readsWill_L50fc60 (F_X10_isTold_1 S134 (1 : Int32)).1 (F_X10_isTold_1 S134 (1 : Int32)).2 y137 (F_X10_readsWill_L50  N) y139))
def F_X10_readsWill_c5 (v103 : Int32) (S101 : mm_S) : Int32 × mm_S := (if v103 = (0 : Int32) then ((0 : Int32), S101) else (if (F_X10_isIn S101 (S101.1 2 24) (S101.1 0 22)) = (0 : Int32) then (F_X10_readsWill_L50  4 (mm_up S101 2 24 ((S101.1 2 24) ||| ((1 : Int32) <<< ((S101.1 0 22) &&& 31)))) (S101.1 0 22) (0 : Int32)) else (F_X10_readsWill_L50tc107 (F_X10_fails S101 (4 : Int32)).1 (F_X10_fails S101 (4 : Int32)).2)))
def F_X10_readsWill (S : mm_S)  : Int32 × mm_S := (F_X10_readsWill_c5 (F_X10_isTold_0 S (0 : Int32)).1 (F_X10_isTold_0 S (0 : Int32)).2)
set_option maxRecDepth 100000 in
set_option maxHeartbeats 4000000 in
theorem cx_X10_readsWill {g : mm_G} (S : mm_S) (hI : JM S)  : mc g yX10_readsWill cX10_readsWill 3 (some .boolean) (mm_rm 3) [.ref 0] (mm_enc shM S) (qi shM (fun S1 v => JM S1 ∧ fr [2] [18, 19, 20, 21, 22, 23] true true S S1 ∧ mm_b (0) (1) v ∧ (True) ∧ F_X10_readsWill S = (v, S1))) := by
  refine mc_of2 (own := RX10) (ini := false) (ls := [(0, .ref 0)]) (by decide) (Nat.le_of_ble_eq_true rfl) rfl (by decide) rfl ?_
  have hF : fr [2] [18, 19, 20, 21, 22, 23] true true S S := fr_rf
  refine mw_aload_n dX10_readsWill_0 rfl 0 rfl ?_
  refine mw_iconst dX10_readsWill_1 ki_0 ?_
  refine tc_Vi (as := [.int 0]) (st := []) dX10_readsWill_2 rfl shM_0 rfl rfl mX10_130 t_X10_isTold rfl (Nat.le_of_ble_eq_true rfl) (by decide) (by decide) (cx_X10_isTold_0 (g := g) S hI (0 : Int32) n_0) (fun S101 v103 h102 => ?_)
  obtain ⟨hI108, hf109, b104, x105, hx106⟩ := h102
  have hF110 := fr_tr hF hf109 (by decide) (by decide) (by decide) (by decide)
  have hE111 : F_X10_readsWill S = F_X10_readsWill_c5 v103 S101 := (by rw [F_X10_readsWill, hx106])
  refine mw_if_ne (tgt := 10) dX10_readsWill_5 (by decide) (fun q112 => ?_) (fun q112 => ?_)
  · skip
    have b113 : mm_b (1) (1) v103 := bd_ne_l q112 b104 n_0 (by decide)
    have b114 := Or.resolve_left x105 q112
    obtain ⟨v115, ev115⟩ : ∃ y : Int32, y = S101.1 0 22 := ⟨_, rfl⟩
    have b116 : mm_b (0) (6) v115 := by rw [ev115]; exact b114
    refine mw_aload_n dX10_readsWill_10 rfl 0 rfl ?_
    refine tw_geti (j := 22) dX10_readsWill_11 shM_0 rfl rfl (by decide) fX10_105 (fun v117 ev117 => ?_)
    have cv117 : v115 = v117 := ev115.trans ev117.symm
    subst cv117
    refine mw_istore_n (ls' := [(1, .int v115), (0, .ref 0)]) dX10_readsWill_14 rfl (by decide) rfl ?_
    refine mw_aload_n dX10_readsWill_15 rfl 1 rfl ?_
    refine tw_getr (j := 1) dX10_readsWill_16 shM_0 rfl rfl (by decide) fX10_13 ?_
    refine mw_bipush dX10_readsWill_19 kb_24 ?_
    refine tw_iald dX10_readsWill_21 shM_2 (bd_in n_24 (by decide)) (fun v118 ev118 => ?_)
    rw [cl_24] at ev118
    refine mw_iload_n dX10_readsWill_22 rfl 0 rfl ?_
    refine tc_Si (as := [.int v118, .int v115]) (st := []) dX10_readsWill_23 rfl mX10_134 t_X10_isIn rfl (Nat.le_of_ble_eq_true rfl) (by decide) (by decide) (cx_X10_isIn (g := g) S101 hI108 v118 v115) (fun S119 v121 h120 => ?_)
    obtain ⟨rfl, b122, x123, hx124⟩ := h120
    refine mw_if_eq (tgt := 35) dX10_readsWill_26 (by decide) (fun q125 => ?_) (fun q125 => ?_)
    · skip
      have b126 : mm_b (0) (0) v121 := bd_eq_l q125 b122 n_0 (by decide)
      refine mw_aload_n dX10_readsWill_35 rfl 1 rfl ?_
      refine tw_getr (j := 1) dX10_readsWill_36 shM_0 rfl rfl (by decide) fX10_13 ?_
      refine mw_bipush dX10_readsWill_39 kb_24 ?_
      refine mw_dup2 dX10_readsWill_41 rfl rfl ?_
      refine tw_iald dX10_readsWill_42 shM_2 (bd_in n_24 (by decide)) (fun v127 ev127 => ?_)
      rw [cl_24] at ev127
      have cv127 : v118 = v127 := ev118.trans ev127.symm
      subst cv127
      refine mw_iconst dX10_readsWill_43 ki_1 ?_
      refine mw_iload_n dX10_readsWill_44 rfl 0 rfl ?_
      refine mw_ishl dX10_readsWill_45 (fun v128 ev128 => ?_)
      have b129 : mm_b (1) (64) v128 := bd_shl 6 ev128 b116 (by decide)
      refine mw_ior dX10_readsWill_46 (fun v130 ev130 => ?_)
      refine tw_iast dX10_readsWill_47 shM_2 (bd_in n_24 (by decide)) ?_
      rw [cl_24]
      have hI131 : JM (mm_up S101 2 24 v130) := JIM_put hI108 (bd_all v130) (by decide +kernel)
      generalize hS132 : (mm_up S101 2 24 v130) = S132 at hI131 ⊢
      have hF133 := fr_upA hF110 hS132 (by decide)
      refine mw_iconst dX10_readsWill_48 ki_0 ?_
      refine mw_istore_n (ls' := [(2, .int 0), (1, .int v115), (0, .ref 0)]) dX10_readsWill_49 rfl (by decide) rfl ?_
      have cut50 : ∀ (N50 : Nat) (S134 : mm_S) (y137 y139 : Int32), ((3 : Int) - y139.toInt).toNat < N50 → JM S134 → fr [2] [18, 19, 20, 21, 22, 23] true true S S134 → mm_b (0) (6) y137 → mm_b (0) (2) y139 → F_X10_readsWill S = F_X10_readsWill_L50  N50 S134 y137 y139 → mw g RX10 cX10_readsWill 3 (some .boolean) false (mm_rm 3) (qi shM (fun S1 v => JM S1 ∧ fr [2] [18, 19, 20, 21, 22, 23] true true S S1 ∧ mm_b (0) (1) v ∧ (True) ∧ F_X10_readsWill S = (v, S1))) 0 0 (mm_enc shM S134) 50 [(0, .ref 0), (1, .int y137), (2, .int y139)] [] := by
        intro N50
        induction N50 with
        | zero =>
          intro S134 y137 y139 hm141 hI135 hF136 b138 b140 hE142
          exact absurd hm141 (Nat.not_lt_zero _)
        | succ N50 ih50 =>
          intro S134 y137 y139 hm141 hI135 hF136 b138 b140 hE142
          refine mw_iload_n dX10_readsWill_50 rfl 2 rfl ?_
          refine mw_iconst dX10_readsWill_51 ki_2 ?_
          refine mw_icmp_ge (tgt := 103) dX10_readsWill_52 (by decide) (fun q143 => ?_) (fun q143 => ?_)
          · skip
            have b144 : mm_b (2) (2) y139 := bd_le_r q143 n_2 b140 (by decide)
            refine mw_aload_n dX10_readsWill_103 rfl 0 rfl ?_
            refine tc_Vi (as := []) (st := []) dX10_readsWill_104 rfl shM_0 rfl rfl mX10_126 t_X10_ends rfl (Nat.le_of_ble_eq_true rfl) (by decide) (by decide) (cx_X10_ends (g := g) S134 hI135) (fun S145 v147 h146 => ?_)
            obtain ⟨hI152, hf153, b148, x149, hx150⟩ := h146
            have hF154 := fr_tr hF136 hf153 (by decide) (by decide) (by decide) (by decide)
            have hE155 : F_X10_readsWill S = F_X10_readsWill_L50tc107 v147 S145 := (by exact hE142.trans (by rw [F_X10_readsWill_L50, if_pos q143, hx150]))
            exact mw_zret rfl (bd_nar b148 (by decide)) dX10_readsWill_107 rfl rfl ⟨S145, _, rfl, rfl, hI152, hF154, b148, trivial, (by exact hE155.trans (by rw [F_X10_readsWill_L50tc107]))⟩
          · skip
            have b156 : mm_b (0) (1) y139 := bd_lt_l (bd_nle q143) b140 n_2 (by decide)
            refine mw_aload_n dX10_readsWill_55 rfl 0 rfl ?_
            refine mw_iconst dX10_readsWill_56 ki_1 ?_
            refine tc_Vi (as := [.int 1]) (st := []) dX10_readsWill_57 rfl shM_0 rfl rfl mX10_130 t_X10_isTold rfl (Nat.le_of_ble_eq_true rfl) (by decide) (by decide) (cx_X10_isTold_1 (g := g) S134 hI135 (1 : Int32) n_1) (fun S157 v159 h158 => ?_)
            obtain ⟨hI164, hf165, b160, x161, hx162⟩ := h158
            have hF166 := fr_tr hF136 hf165 (by decide) (by decide) (by decide) (by decide)
            have hE167 : F_X10_readsWill S = F_X10_readsWill_L50fc60 v159 S157 y137 (F_X10_readsWill_L50  N50) y139 := (by exact hE142.trans (by rw [F_X10_readsWill_L50, if_neg q143, hx162]))
            refine mw_if_ne (tgt := 65) dX10_readsWill_60 (by decide) (fun q168 => ?_) (fun q168 => ?_)
            · skip
              have b169 : mm_b (1) (1) v159 := bd_ne_l q168 b160 n_0 (by decide)
              have b170 := Or.resolve_left x161 q168
              obtain ⟨v171, ev171⟩ : ∃ y : Int32, y = S157.1 0 22 := ⟨_, rfl⟩
              have b172 : mm_b (0) (9) v171 := by rw [ev171]; exact b170
              refine mw_aload_n dX10_readsWill_65 rfl 0 rfl ?_
              refine tw_geti (j := 22) dX10_readsWill_66 shM_0 rfl rfl (by decide) fX10_105 (fun v173 ev173 => ?_)
              have cv173 : v171 = v173 := ev171.trans ev173.symm
              subst cv173
              refine mw_iload_n dX10_readsWill_69 rfl 1 rfl ?_
              refine mw_icmp_ne (tgt := 79) dX10_readsWill_70 (by decide) (fun q174 => ?_) (fun q174 => ?_)
              · skip
                refine mw_aload_n dX10_readsWill_79 rfl 0 rfl ?_
                refine tw_getr (j := 1) dX10_readsWill_80 shM_0 rfl rfl (by decide) fX10_13 ?_
                refine mw_bipush dX10_readsWill_83 kb_10 ?_
                refine mw_bipush dX10_readsWill_85 kb_7 ?_
                refine mw_iload_n dX10_readsWill_87 rfl 2 rfl ?_
                refine mw_imul dX10_readsWill_88 (fun v175 ev175 => ?_)
                have b176 : mm_b (0) (7) v175 := bd_mul ev175 n_7 b156 (by decide)
                refine mw_iadd dX10_readsWill_89 (fun v177 ev177 => ?_)
                have b178 : mm_b (10) (17) v177 := bd_add ev177 n_10 b176 (by decide)
                refine mw_iload_n dX10_readsWill_90 rfl 1 rfl ?_
                refine mw_iadd dX10_readsWill_91 (fun v179 ev179 => ?_)
                have b180 : mm_b (10) (23) v179 := bd_add ev179 b178 b138 (by decide)
                refine mw_aload_n dX10_readsWill_92 rfl 0 rfl ?_
                refine tw_geti (j := 22) dX10_readsWill_93 shM_0 rfl rfl (by decide) fX10_105 (fun v181 ev181 => ?_)
                have cv181 : v171 = v181 := ev171.trans ev181.symm
                subst cv181
                refine tw_iast dX10_readsWill_96 shM_2 (bd_in b180 (by decide)) ?_
                have hI182 : JM (mm_up S157 2 v179.toNatClampNeg v171) := JIM_puta hI164 b172 b180 (by decide) (by decide +kernel)
                generalize hS183 : (mm_up S157 2 v179.toNatClampNeg v171) = S183 at hI182 ⊢
                have hF184 := fr_upA hF166 hS183 (by decide)
                refine mw_iinc (ls' := fun v => [(2, .int v), (0, .ref 0), (1, .int y137)]) dX10_readsWill_97 2 rfl (by decide) (fun _ => rfl) (fun v185 ev185 => ?_)
                have b186 : mm_b (1) (2) v185 := bd_inc ev185 b156 (by decide)
                refine mw_goto (tgt := 50) dX10_readsWill_100 (by decide) ?_
                refine mw_ls [1, 2, 0] rfl ?_
                exact ih50 S183 y137 v185 (ms_inc ev185 b156 (by decide) hm141) hI182 hF184 b138 (bd_w b186 (by decide)) (by subst ev185; subst hS183; subst ev179; subst ev177; subst ev175; subst ev171; exact hE167.trans (by rw [F_X10_readsWill_L50fc60, if_neg q168, if_neg q174]))
              · skip
                have b187 : mm_b (0) (6) v171 := bd_eq_l q174 b172 b138 (by decide)
                refine mw_aload_n dX10_readsWill_73 rfl 0 rfl ?_
                refine mw_iconst dX10_readsWill_74 ki_4 ?_
                refine tc_Vi (as := [.int 4]) (st := []) dX10_readsWill_75 rfl shM_0 rfl rfl mX10_118 t_X10_fails rfl (Nat.le_of_ble_eq_true rfl) (by decide) (by decide) (cx_X10_fails (g := g) S157 hI164 (4 : Int32)) (fun S188 v190 h189 => ?_)
                obtain ⟨hI195, hf196, b191, x192, hx193⟩ := h189
                have hF197 := fr_tr hF166 hf196 (by decide) (by decide) (by decide) (by decide)
                have hE198 : F_X10_readsWill S = F_X10_readsWill_L50tc107 v190 S188 := (by subst ev171; exact hE167.trans (by rw [F_X10_readsWill_L50fc60, if_neg q168, if_pos q174, hx193]))
                exact mw_zret rfl (bd_nar b191 (by decide)) dX10_readsWill_78 rfl rfl ⟨S188, _, rfl, rfl, hI195, hF197, bd_w b191 (by decide), trivial, (by exact hE198.trans (by rw [F_X10_readsWill_L50tc107]))⟩
            · skip
              have b199 : mm_b (0) (0) v159 := bd_eq_l q168 b160 n_0 (by decide)
              refine mw_iconst dX10_readsWill_63 ki_0 ?_
              exact mw_zret rfl (bd_nar n_0 (by decide)) dX10_readsWill_64 rfl rfl ⟨S157, _, rfl, rfl, hI164, hF166, bd_w n_0 (by decide), trivial, (by exact hE167.trans (by rw [F_X10_readsWill_L50fc60, if_pos q168]))⟩
      refine mw_ls [2, 1, 0] rfl ?_
      exact cut50 4 S132 v115 (0 : Int32) (by have hz := n_0; omega) hI131 hF133 b116 (bd_w n_0 (by decide)) (by subst hS132; subst ev130; subst ev128; subst hx124; subst ev118; subst ev115; exact hE111.trans (by rw [F_X10_readsWill_c5, if_neg q112, if_pos q125]))
    · skip
      have b200 : mm_b (1) (1) v121 := bd_ne_l q125 b122 n_0 (by decide)
      refine mw_aload_n dX10_readsWill_29 rfl 1 rfl ?_
      refine mw_iconst dX10_readsWill_30 ki_4 ?_
      refine tc_Vi (as := [.int 4]) (st := []) dX10_readsWill_31 rfl shM_0 rfl rfl mX10_118 t_X10_fails rfl (Nat.le_of_ble_eq_true rfl) (by decide) (by decide) (cx_X10_fails (g := g) S101 hI108 (4 : Int32)) (fun S201 v203 h202 => ?_)
      obtain ⟨hI208, hf209, b204, x205, hx206⟩ := h202
      have hF210 := fr_tr hF110 hf209 (by decide) (by decide) (by decide) (by decide)
      have hE211 : F_X10_readsWill S = F_X10_readsWill_L50tc107 v203 S201 := (by subst hx124; subst ev118; subst ev115; exact hE111.trans (by rw [F_X10_readsWill_c5, if_neg q112, if_neg q125, hx206]))
      exact mw_zret rfl (bd_nar b204 (by decide)) dX10_readsWill_34 rfl rfl ⟨S201, _, rfl, rfl, hI208, hF210, bd_w b204 (by decide), trivial, (by exact hE211.trans (by rw [F_X10_readsWill_L50tc107]))⟩
  · skip
    have b212 : mm_b (0) (0) v103 := bd_eq_l q112 b104 n_0 (by decide)
    refine mw_iconst dX10_readsWill_8 ki_0 ?_
    exact mw_zret rfl (bd_nar n_0 (by decide)) dX10_readsWill_9 rfl rfl ⟨S101, _, rfl, rfl, hI108, hF110, bd_w n_0 (by decide), trivial, (by exact hE111.trans (by rw [F_X10_readsWill_c5, if_pos q112]))⟩
def F_X10_readsDoor_tu37c40fc47 (v130 : Int32) (S128 : mm_S) : Int32 × mm_S := (if v130 = (0 : Int32) then ((0 : Int32), S128) else ((1 : Int32), S128))
def F_X10_readsDoor_tu37c40 (v116 : Int32) (S114 : mm_S) : Int32 × mm_S := (if v116 = (0 : Int32) then ((0 : Int32), S114) else (F_X10_readsDoor_tu37c40fc47 (F_X10_ends S114).1 (F_X10_ends S114).2))
def F_X10_readsDoor_tu37 (S109 : mm_S) (v111 : Int32) : Int32 × mm_S := (F_X10_readsDoor_tu37c40 (F_X10_number_d S109 v111 (0 : Int32) (127 : Int32)).1 (F_X10_number_d S109 v111 (0 : Int32) (127 : Int32)).2)
def F_X10_readsDoor_fc18 (v145 : Int32) (S143 : mm_S) : Int32 × mm_S := (v145, S143)
def F_X10_readsDoor (S : mm_S)  : Int32 × mm_S := (if (S.1 2 1) = (6 : Int32) then (F_X10_readsDoor_fc18 (F_X10_fails S (3 : Int32)).1 (F_X10_fails S (3 : Int32)).2) else (F_X10_readsDoor_tu37 (mm_up S 2 1 ((S.1 2 1) + (1 : Int32))) ((25 : Int32) + (S.1 2 1))))
set_option maxRecDepth 100000 in
set_option maxHeartbeats 4000000 in
theorem cx_X10_readsDoor {g : mm_G} (S : mm_S) (hI : JM S)  : mc g yX10_readsDoor cX10_readsDoor 2 (some .boolean) (mm_rm 3) [.ref 0] (mm_enc shM S) (qi shM (fun S1 v => JM S1 ∧ fr [2] [18, 19, 20, 21, 22, 23] true true S S1 ∧ mm_b (0) (1) v ∧ (True) ∧ F_X10_readsDoor S = (v, S1))) := by
  refine mc_of2 (own := RX10) (ini := false) (ls := [(0, .ref 0)]) (by decide) (Nat.le_of_ble_eq_true rfl) rfl (by decide) rfl ?_
  have hF : fr [2] [18, 19, 20, 21, 22, 23] true true S S := fr_rf
  refine mw_aload_n dX10_readsDoor_0 rfl 0 rfl ?_
  refine tw_getr (j := 1) dX10_readsDoor_1 shM_0 rfl rfl (by decide) fX10_13 ?_
  refine mw_iconst dX10_readsDoor_4 ki_1 ?_
  refine tw_iald dX10_readsDoor_5 shM_2 (bd_in n_1 (by decide)) (fun v101 ev101 => ?_)
  rw [cl_1] at ev101
  have b102 : mm_b (0) (6) v101 := JIM_fld hI ev101 tbM_24 (by decide)
  refine mw_istore_n (ls' := [(1, .int v101), (0, .ref 0)]) dX10_readsDoor_6 rfl (by decide) rfl ?_
  refine mw_iload_n dX10_readsDoor_7 rfl 0 rfl ?_
  refine mw_bipush dX10_readsDoor_8 kb_6 ?_
  refine mw_icmp_ne (tgt := 19) dX10_readsDoor_10 (by decide) (fun q103 => ?_) (fun q103 => ?_)
  · skip
    have b104 : mm_b (0) (5) v101 := bd_ne_l q103 b102 n_6 (by decide)
    refine mw_aload_n dX10_readsDoor_19 rfl 1 rfl ?_
    refine tw_getr (j := 1) dX10_readsDoor_20 shM_0 rfl rfl (by decide) fX10_13 ?_
    refine mw_iconst dX10_readsDoor_23 ki_1 ?_
    refine mw_dup2 dX10_readsDoor_24 rfl rfl ?_
    refine tw_iald dX10_readsDoor_25 shM_2 (bd_in n_1 (by decide)) (fun v105 ev105 => ?_)
    rw [cl_1] at ev105
    have cv105 : v101 = v105 := ev101.trans ev105.symm
    subst cv105
    refine mw_iconst dX10_readsDoor_26 ki_1 ?_
    refine mw_iadd dX10_readsDoor_27 (fun v106 ev106 => ?_)
    have b107 : mm_b (1) (6) v106 := bd_add ev106 b104 n_1 (by decide)
    refine tw_iast dX10_readsDoor_28 shM_2 (bd_in n_1 (by decide)) ?_
    rw [cl_1]
    have hI108 : JM (mm_up S 2 1 v106) := JIM_put hI b107 (by decide +kernel)
    generalize hS109 : (mm_up S 2 1 v106) = S109 at hI108 ⊢
    have hF110 := fr_upA hF hS109 (by decide)
    refine mw_aload_n dX10_readsDoor_29 rfl 1 rfl ?_
    refine mw_bipush dX10_readsDoor_30 kb_25 ?_
    refine mw_iload_n dX10_readsDoor_32 rfl 0 rfl ?_
    refine mw_iadd dX10_readsDoor_33 (fun v111 ev111 => ?_)
    have b112 : mm_b (25) (30) v111 := bd_add ev111 n_25 b104 (by decide)
    refine mw_iconst dX10_readsDoor_34 ki_0 ?_
    refine mw_bipush dX10_readsDoor_35 kb_127 ?_
    have hE113 : F_X10_readsDoor S = F_X10_readsDoor_tu37 S109 v111 := (by subst ev111; subst hS109; subst ev106; subst ev101; rw [F_X10_readsDoor, if_neg q103])
    refine tc_Vi (as := [.int v111, .int 0, .int 127]) (st := []) dX10_readsDoor_37 rfl shM_0 rfl rfl mX10_122 t_X10_number rfl (Nat.le_of_ble_eq_true rfl) (by decide) (by decide) (cx_X10_number_d (g := g) S109 hI108 v111 b112 (0 : Int32) n_0 (127 : Int32) n_127) (fun S114 v116 h115 => ?_)
    obtain ⟨hI121, hf122, b117, x118, hx119, kp120⟩ := h115
    have hF123 := fr_tr hF110 hf122 (by decide) (by decide) (by decide) (by decide)
    have hE124 : F_X10_readsDoor S = F_X10_readsDoor_tu37c40 v116 S114 := (by exact hE113.trans (by rw [F_X10_readsDoor_tu37, hx119]))
    refine mw_if_eq (tgt := 54) dX10_readsDoor_40 (by decide) (fun q125 => ?_) (fun q125 => ?_)
    · skip
      have b126 : mm_b (0) (0) v116 := bd_eq_l q125 b117 n_0 (by decide)
      refine mw_iconst dX10_readsDoor_54 ki_0 ?_
      exact mw_zret rfl (bd_nar n_0 (by decide)) dX10_readsDoor_55 rfl rfl ⟨S114, _, rfl, rfl, hI121, hF123, bd_w n_0 (by decide), trivial, (by exact hE124.trans (by rw [F_X10_readsDoor_tu37c40, if_pos q125]))⟩
    · skip
      have b127 : mm_b (1) (1) v116 := bd_ne_l q125 b117 n_0 (by decide)
      refine mw_aload_n dX10_readsDoor_43 rfl 1 rfl ?_
      refine tc_Vi (as := []) (st := []) dX10_readsDoor_44 rfl shM_0 rfl rfl mX10_126 t_X10_ends rfl (Nat.le_of_ble_eq_true rfl) (by decide) (by decide) (cx_X10_ends (g := g) S114 hI121) (fun S128 v130 h129 => ?_)
      obtain ⟨hI135, hf136, b131, x132, hx133⟩ := h129
      have hF137 := fr_tr hF123 hf136 (by decide) (by decide) (by decide) (by decide)
      have hE138 : F_X10_readsDoor S = F_X10_readsDoor_tu37c40fc47 v130 S128 := (by exact hE124.trans (by rw [F_X10_readsDoor_tu37c40, if_neg q125, hx133]))
      refine mw_if_eq (tgt := 54) dX10_readsDoor_47 (by decide) (fun q139 => ?_) (fun q139 => ?_)
      · skip
        have b140 : mm_b (0) (0) v130 := bd_eq_l q139 b131 n_0 (by decide)
        refine mw_iconst dX10_readsDoor_54 ki_0 ?_
        exact mw_zret rfl (bd_nar n_0 (by decide)) dX10_readsDoor_55 rfl rfl ⟨S128, _, rfl, rfl, hI135, hF137, bd_w n_0 (by decide), trivial, (by exact hE138.trans (by rw [F_X10_readsDoor_tu37c40fc47, if_pos q139]))⟩
      · skip
        have b141 : mm_b (1) (1) v130 := bd_ne_l q139 b131 n_0 (by decide)
        refine mw_iconst dX10_readsDoor_50 ki_1 ?_
        refine mw_goto (tgt := 55) dX10_readsDoor_51 (by decide) ?_
        exact mw_zret rfl (bd_nar n_1 (by decide)) dX10_readsDoor_55 rfl rfl ⟨S128, _, rfl, rfl, hI135, hF137, bd_w n_1 (by decide), trivial, (by exact hE138.trans (by rw [F_X10_readsDoor_tu37c40fc47, if_neg q139]))⟩
  · skip
    have b142 : mm_b (6) (6) v101 := bd_eq_l q103 b102 n_6 (by decide)
    refine mw_aload_n dX10_readsDoor_13 rfl 1 rfl ?_
    refine mw_iconst dX10_readsDoor_14 ki_3 ?_
    refine tc_Vi (as := [.int 3]) (st := []) dX10_readsDoor_15 rfl shM_0 rfl rfl mX10_118 t_X10_fails rfl (Nat.le_of_ble_eq_true rfl) (by decide) (by decide) (cx_X10_fails (g := g) S hI (3 : Int32)) (fun S143 v145 h144 => ?_)
    obtain ⟨hI150, hf151, b146, x147, hx148⟩ := h144
    have hF152 := fr_tr hF hf151 (by decide) (by decide) (by decide) (by decide)
    have hE153 : F_X10_readsDoor S = F_X10_readsDoor_fc18 v145 S143 := (by subst ev101; rw [F_X10_readsDoor, if_pos q103, hx148])
    exact mw_zret rfl (bd_nar b146 (by decide)) dX10_readsDoor_18 rfl rfl ⟨S143, _, rfl, rfl, hI150, hF152, bd_w b146 (by decide), trivial, (by exact hE153.trans (by rw [F_X10_readsDoor_fc18]))⟩
def F_X10_readsParts_L15c31fu45c48ttc84 (v151 : Int32) (S149 : mm_S) : Int32 × mm_S := (v151, S149)
def F_X10_readsParts_L15c31fu45c48 (S136 : mm_S) (v130 : Int32) (k15 : mm_S → Int32 × mm_S) : Int32 × mm_S := (if (S136.1 0 20) = (59 : Int32) then ((1 : Int32), S136) else (if (S136.1 0 20) = (44 : Int32) then (if v130 = (6 : Int32) then (F_X10_readsParts_L15c31fu45c48ttc84 (F_X10_fails S136 (1 : Int32)).1 (F_X10_fails S136 (1 : Int32)).2) else (k15 S136)) else (F_X10_readsParts_L15c31fu45c48ttc84 (F_X10_fails S136 (1 : Int32)).1 (F_X10_fails S136 (1 : Int32)).2)))
def F_X10_readsParts_L15c31fu45 (S133 : mm_S) (v130 : Int32) (k15 : mm_S → Int32 × mm_S) : Int32 × mm_S := (F_X10_readsParts_L15c31fu45c48 (F_X10_step S133) v130 k15)
def F_X10_readsParts_L15c31 (v117 : Int32) (S115 : mm_S) (y108 : Int32) (k15 : mm_S → Int32 × mm_S) : Int32 × mm_S := (if v117 = (0 : Int32) then ((0 : Int32), S115) else (F_X10_readsParts_L15c31fu45 (mm_up S115 2 2 (y108 + (1 : Int32))) (y108 + (1 : Int32)) k15))
def F_X10_readsParts_L15  : Nat → mm_S → Int32 × mm_S
  | 0, S105 => (0, S105)
  | N + 1, S105 => (F_X10_readsParts_L15c31 (F_X10_number_p S105 ((31 : Int32) + (S105.1 2 2)) (0 : Int32) (8 : Int32)).1 (F_X10_number_p S105 ((31 : Int32) + (S105.1 2 2)) (0 : Int32) (8 : Int32)).2 (S105.1 2 2) (F_X10_readsParts_L15  N))
def F_X10_readsParts (S : mm_S)  : Int32 × mm_S := (if (S.1 2 2) ≤ (0 : Int32) then (F_X10_readsParts_L15  7 S) else (F_X10_readsParts_L15c31fu45c48ttc84 (F_X10_fails S (3 : Int32)).1 (F_X10_fails S (3 : Int32)).2))
set_option maxRecDepth 100000 in
set_option maxHeartbeats 4000000 in
theorem cx_X10_readsParts {g : mm_G} (S : mm_S) (hI : JM S)  : mc g yX10_readsParts cX10_readsParts 1 (some .boolean) (mm_rm 3) [.ref 0] (mm_enc shM S) (qi shM (fun S1 v => JM S1 ∧ fr [2] [18, 19, 20, 21, 22, 23] true true S S1 ∧ mm_b (0) (1) v ∧ (True) ∧ F_X10_readsParts S = (v, S1))) := by
  refine mc_of2 (own := RX10) (ini := false) (ls := [(0, .ref 0)]) (by decide) (Nat.le_of_ble_eq_true rfl) rfl (by decide) rfl ?_
  have hF : fr [2] [18, 19, 20, 21, 22, 23] true true S S := fr_rf
  refine mw_aload_n dX10_readsParts_0 rfl 0 rfl ?_
  refine tw_getr (j := 1) dX10_readsParts_1 shM_0 rfl rfl (by decide) fX10_13 ?_
  refine mw_iconst dX10_readsParts_4 ki_2 ?_
  refine tw_iald dX10_readsParts_5 shM_2 (bd_in n_2 (by decide)) (fun v101 ev101 => ?_)
  rw [cl_2] at ev101
  have b102 : mm_b (0) (6) v101 := JIM_fld hI ev101 tbM_25 (by decide)
  refine mw_if_le (tgt := 15) dX10_readsParts_6 (by decide) (fun q103 => ?_) (fun q103 => ?_)
  · skip
    have b104 : mm_b (0) (0) v101 := bd_le_l q103 b102 n_0 (by decide)
    have cut15 : ∀ (N15 : Nat) (S105 : mm_S) (y108 : Int32), ((6 : Int) - y108.toInt).toNat < N15 → JM S105 → fr [2] [18, 19, 20, 21, 22, 23] true true S S105 → mm_b (0) (5) y108 → y108 = S105.1 2 2 → F_X10_readsParts S = F_X10_readsParts_L15  N15 S105 → mw g RX10 cX10_readsParts 1 (some .boolean) false (mm_rm 3) (qi shM (fun S1 v => JM S1 ∧ fr [2] [18, 19, 20, 21, 22, 23] true true S S1 ∧ mm_b (0) (1) v ∧ (True) ∧ F_X10_readsParts S = (v, S1))) 0 0 (mm_enc shM S105) 15 [(0, .ref 0)] [] := by
      intro N15
      induction N15 with
      | zero =>
        intro S105 y108 hm110 hI106 hF107 b109 ey108 hE111
        exact absurd hm110 (Nat.not_lt_zero _)
      | succ N15 ih15 =>
        intro S105 y108 hm110 hI106 hF107 b109 ey108 hE111
        refine mw_aload_n dX10_readsParts_15 rfl 0 rfl ?_
        refine mw_bipush dX10_readsParts_16 kb_31 ?_
        refine mw_aload_n dX10_readsParts_18 rfl 0 rfl ?_
        refine tw_getr (j := 1) dX10_readsParts_19 shM_0 rfl rfl (by decide) fX10_13 ?_
        refine mw_iconst dX10_readsParts_22 ki_2 ?_
        refine tw_iald dX10_readsParts_23 shM_2 (bd_in n_2 (by decide)) (fun v112 ev112 => ?_)
        rw [cl_2] at ev112
        have cv112 : y108 = v112 := ey108.trans ev112.symm
        subst cv112
        refine mw_iadd dX10_readsParts_24 (fun v113 ev113 => ?_)
        have b114 : mm_b (31) (36) v113 := bd_add ev113 n_31 b109 (by decide)
        refine mw_iconst dX10_readsParts_25 ki_0 ?_
        refine mw_bipush dX10_readsParts_26 kb_8 ?_
        refine tc_Vi (as := [.int v113, .int 0, .int 8]) (st := []) dX10_readsParts_28 rfl shM_0 rfl rfl mX10_122 t_X10_number rfl (Nat.le_of_ble_eq_true rfl) (by decide) (by decide) (cx_X10_number_p (g := g) S105 hI106 v113 b114 (0 : Int32) n_0 (8 : Int32) n_8) (fun S115 v117 h116 => ?_)
        obtain ⟨hI122, hf123, b118, x119, hx120, kp121⟩ := h116
        have hF124 := fr_tr hF107 hf123 (by decide) (by decide) (by decide) (by decide)
        have hE125 : F_X10_readsParts S = F_X10_readsParts_L15c31 v117 S115 y108 (F_X10_readsParts_L15  N15) := (by subst ev113; subst ey108; exact hE111.trans (by rw [F_X10_readsParts_L15, hx120]))
        refine mw_if_eq (tgt := 85) dX10_readsParts_31 (by decide) (fun q126 => ?_) (fun q126 => ?_)
        · skip
          have b127 : mm_b (0) (0) v117 := bd_eq_l q126 b118 n_0 (by decide)
          refine mw_iconst dX10_readsParts_85 ki_0 ?_
          exact mw_zret rfl (bd_nar n_0 (by decide)) dX10_readsParts_86 rfl rfl ⟨S115, _, rfl, rfl, hI122, hF124, bd_w n_0 (by decide), trivial, (by exact hE125.trans (by rw [F_X10_readsParts_L15c31, if_pos q126]))⟩
        · skip
          have b128 : mm_b (1) (1) v117 := bd_ne_l q126 b118 n_0 (by decide)
          refine mw_aload_n dX10_readsParts_34 rfl 0 rfl ?_
          refine tw_getr (j := 1) dX10_readsParts_35 shM_0 rfl rfl (by decide) fX10_13 ?_
          refine mw_iconst dX10_readsParts_38 ki_2 ?_
          refine mw_dup2 dX10_readsParts_39 rfl rfl ?_
          refine tw_iald dX10_readsParts_40 shM_2 (bd_in n_2 (by decide)) (fun v129 ev129 => ?_)
          rw [cl_2] at ev129
          have cv129 : y108 = v129 := (ey108.trans kp121.2.2).trans ev129.symm
          subst cv129
          refine mw_iconst dX10_readsParts_41 ki_1 ?_
          refine mw_iadd dX10_readsParts_42 (fun v130 ev130 => ?_)
          have b131 : mm_b (1) (6) v130 := bd_add ev130 b109 n_1 (by decide)
          refine tw_iast dX10_readsParts_43 shM_2 (bd_in n_2 (by decide)) ?_
          rw [cl_2]
          have hI132 : JM (mm_up S115 2 2 v130) := JIM_put hI122 b131 (by decide +kernel)
          generalize hS133 : (mm_up S115 2 2 v130) = S133 at hI132 ⊢
          have hF134 := fr_upA hF124 hS133 (by decide)
          refine mw_aload_n dX10_readsParts_44 rfl 0 rfl ?_
          have hE135 : F_X10_readsParts S = F_X10_readsParts_L15c31fu45 S133 v130 (F_X10_readsParts_L15  N15) := (by subst hS133; subst ev130; exact hE125.trans (by rw [F_X10_readsParts_L15c31, if_neg q126]))
          refine tc_Vv (as := []) (st := []) dX10_readsParts_45 rfl shM_0 rfl rfl mX10_115 t_X10_step rfl (Nat.le_of_ble_eq_true rfl) (by decide) (by decide) (cx_X10_step (g := g) S133 hI132) (fun S136 h137 => ?_)
          obtain ⟨hI140, hf141, x138, hx139⟩ := h137
          have hF142 := fr_tr hF134 hf141 (by decide) (by decide) (by decide) (by decide)
          have hE143 : F_X10_readsParts S = F_X10_readsParts_L15c31fu45c48 S136 v130 (F_X10_readsParts_L15  N15) := (by exact hE135.trans (by rw [F_X10_readsParts_L15c31fu45, hx139]))
          refine mw_aload_n dX10_readsParts_48 rfl 0 rfl ?_
          refine tw_geti (j := 20) dX10_readsParts_49 shM_0 rfl rfl (by decide) fX10_99 (fun v144 ev144 => ?_)
          have b145 : mm_b (-1) (255) v144 := JIM_fld hI140 ev144 tbM_7 (by decide)
          refine mw_bipush dX10_readsParts_52 kb_59 ?_
          refine mw_icmp_ne (tgt := 59) dX10_readsParts_54 (by decide) (fun q146 => ?_) (fun q146 => ?_)
          · skip
            refine mw_aload_n dX10_readsParts_59 rfl 0 rfl ?_
            refine tw_geti (j := 20) dX10_readsParts_60 shM_0 rfl rfl (by decide) fX10_99 (fun v147 ev147 => ?_)
            have cv147 : v144 = v147 := ev144.trans ev147.symm
            subst cv147
            refine mw_bipush dX10_readsParts_63 kb_44 ?_
            refine mw_icmp_ne (tgt := 79) dX10_readsParts_65 (by decide) (fun q148 => ?_) (fun q148 => ?_)
            · skip
              refine mw_aload_n dX10_readsParts_79 rfl 0 rfl ?_
              refine mw_iconst dX10_readsParts_80 ki_1 ?_
              refine tc_Vi (as := [.int 1]) (st := []) dX10_readsParts_81 rfl shM_0 rfl rfl mX10_118 t_X10_fails rfl (Nat.le_of_ble_eq_true rfl) (by decide) (by decide) (cx_X10_fails (g := g) S136 hI140 (1 : Int32)) (fun S149 v151 h150 => ?_)
              obtain ⟨hI156, hf157, b152, x153, hx154⟩ := h150
              have hF158 := fr_tr hF142 hf157 (by decide) (by decide) (by decide) (by decide)
              have hE159 : F_X10_readsParts S = F_X10_readsParts_L15c31fu45c48ttc84 v151 S149 := (by subst ev144; exact hE143.trans (by rw [F_X10_readsParts_L15c31fu45c48, if_neg q146, if_neg q148, hx154]))
              exact mw_zret rfl (bd_nar b152 (by decide)) dX10_readsParts_84 rfl rfl ⟨S149, _, rfl, rfl, hI156, hF158, bd_w b152 (by decide), trivial, (by exact hE159.trans (by rw [F_X10_readsParts_L15c31fu45c48ttc84]))⟩
            · skip
              have b160 : mm_b (44) (44) v144 := bd_eq_l q148 b145 n_44 (by decide)
              refine mw_aload_n dX10_readsParts_68 rfl 0 rfl ?_
              refine tw_getr (j := 1) dX10_readsParts_69 shM_0 rfl rfl (by decide) fX10_13 ?_
              refine mw_iconst dX10_readsParts_72 ki_2 ?_
              refine tw_iald dX10_readsParts_73 shM_2 (bd_in n_2 (by decide)) (fun v161 ev161 => ?_)
              rw [cl_2] at ev161
              have cv161 : v130 = v161 := ((up_eq hS133).trans (fr_A hf141 (by decide) (by decide))).trans ev161.symm
              subst cv161
              refine mw_bipush dX10_readsParts_74 kb_6 ?_
              refine mw_icmp_ne (tgt := 15) dX10_readsParts_76 (by decide) (fun q162 => ?_) (fun q162 => ?_)
              · skip
                have b163 : mm_b (1) (5) v130 := bd_ne_l q162 b131 n_6 (by decide)
                exact ih15 S136 v130 (ms_add ev130 b109 n_1 (by decide) hm110) hI140 hF142 (bd_w b163 (by decide)) ((up_eq hS133).trans (fr_A hf141 (by decide) (by decide))) (by subst ev144; exact hE143.trans (by rw [F_X10_readsParts_L15c31fu45c48, if_neg q146, if_pos q148, if_neg q162]))
              · skip
                have b164 : mm_b (6) (6) v130 := bd_eq_l q162 b131 n_6 (by decide)
                refine mw_aload_n dX10_readsParts_79 rfl 0 rfl ?_
                refine mw_iconst dX10_readsParts_80 ki_1 ?_
                refine tc_Vi (as := [.int 1]) (st := []) dX10_readsParts_81 rfl shM_0 rfl rfl mX10_118 t_X10_fails rfl (Nat.le_of_ble_eq_true rfl) (by decide) (by decide) (cx_X10_fails (g := g) S136 hI140 (1 : Int32)) (fun S165 v167 h166 => ?_)
                obtain ⟨hI172, hf173, b168, x169, hx170⟩ := h166
                have hF174 := fr_tr hF142 hf173 (by decide) (by decide) (by decide) (by decide)
                have hE175 : F_X10_readsParts S = F_X10_readsParts_L15c31fu45c48ttc84 v167 S165 := (by subst ev144; exact hE143.trans (by rw [F_X10_readsParts_L15c31fu45c48, if_neg q146, if_pos q148, if_pos q162, hx170]))
                exact mw_zret rfl (bd_nar b168 (by decide)) dX10_readsParts_84 rfl rfl ⟨S165, _, rfl, rfl, hI172, hF174, bd_w b168 (by decide), trivial, (by exact hE175.trans (by rw [F_X10_readsParts_L15c31fu45c48ttc84]))⟩
          · skip
            have b176 : mm_b (59) (59) v144 := bd_eq_l q146 b145 n_59 (by decide)
            refine mw_iconst dX10_readsParts_57 ki_1 ?_
            exact mw_zret rfl (bd_nar n_1 (by decide)) dX10_readsParts_58 rfl rfl ⟨S136, _, rfl, rfl, hI140, hF142, bd_w n_1 (by decide), trivial, (by subst ev144; exact hE143.trans (by rw [F_X10_readsParts_L15c31fu45c48, if_pos q146]))⟩
    exact cut15 7 S v101 (by have hz := b104; omega) hI hF (bd_w b104 (by decide)) ev101 (by subst ev101; rw [F_X10_readsParts, if_pos q103])
  · skip
    have b177 : mm_b (1) (6) v101 := bd_lt_r (bd_nle q103) n_0 b102 (by decide)
    refine mw_aload_n dX10_readsParts_9 rfl 0 rfl ?_
    refine mw_iconst dX10_readsParts_10 ki_3 ?_
    refine tc_Vi (as := [.int 3]) (st := []) dX10_readsParts_11 rfl shM_0 rfl rfl mX10_118 t_X10_fails rfl (Nat.le_of_ble_eq_true rfl) (by decide) (by decide) (cx_X10_fails (g := g) S hI (3 : Int32)) (fun S178 v180 h179 => ?_)
    obtain ⟨hI185, hf186, b181, x182, hx183⟩ := h179
    have hF187 := fr_tr hF hf186 (by decide) (by decide) (by decide) (by decide)
    have hE188 : F_X10_readsParts S = F_X10_readsParts_L15c31fu45c48ttc84 v180 S178 := (by subst ev101; rw [F_X10_readsParts, if_neg q103, hx183])
    exact mw_zret rfl (bd_nar b181 (by decide)) dX10_readsParts_14 rfl rfl ⟨S178, _, rfl, rfl, hI185, hF187, bd_w b181 (by decide), trivial, (by exact hE188.trans (by rw [F_X10_readsParts_L15c31fu45c48ttc84]))⟩
def F_X10_readsClause_dc73 (v110 : Int32) (S108 : mm_S) : Int32 × mm_S := (v110, S108)
def F_X10_readsClause (S : mm_S)  : Int32 × mm_S := (if ((S.1 0 20)).toInt = 99 then (F_X10_readsClause_dc73 (F_X10_readsParts S).1 (F_X10_readsParts S).2) else (if ((S.1 0 20)).toInt = 100 then (F_X10_readsClause_dc73 (F_X10_readsDoor S).1 (F_X10_readsDoor S).2) else (if ((S.1 0 20)).toInt = 112 then (F_X10_readsClause_dc73 (F_X10_readsPerson S).1 (F_X10_readsPerson S).2) else (if ((S.1 0 20)).toInt = 119 then (F_X10_readsClause_dc73 (F_X10_readsWill S).1 (F_X10_readsWill S).2) else (F_X10_readsClause_dc73 (F_X10_fails S (1 : Int32)).1 (F_X10_fails S (1 : Int32)).2)))))
set_option maxRecDepth 100000 in
set_option maxHeartbeats 4000000 in
theorem cx_X10_readsClause {g : mm_G} (S : mm_S) (hI : JM S)  : mc g yX10_readsClause cX10_readsClause 1 (some .boolean) (mm_rm 4) [.ref 0] (mm_enc shM S) (qi shM (fun S1 v => JM S1 ∧ fr [2] [18, 19, 20, 21, 22, 23] true true S S1 ∧ mm_b (0) (1) v ∧ (v = 0 ∨ (mm_b (99) (119) (S.1 0 20))) ∧ F_X10_readsClause S = (v, S1))) := by
  refine mc_of2 (own := RX10) (ini := false) (ls := [(0, .ref 0)]) (by decide) (Nat.le_of_ble_eq_true rfl) rfl (by decide) rfl ?_
  have hF : fr [2] [18, 19, 20, 21, 22, 23] true true S S := fr_rf
  refine mw_aload_n dX10_readsClause_0 rfl 0 rfl ?_
  refine tw_geti (j := 20) dX10_readsClause_1 shM_0 rfl rfl (by decide) fX10_99 (fun v101 ev101 => ?_)
  have b102 : mm_b (-1) (255) v101 := JIM_fld hI ev101 tbM_7 (by decide)
  rcases (by omega : (v101.toInt ≠ 99 ∧ v101.toInt ≠ 100 ∧ v101.toInt ≠ 112 ∧ v101.toInt ≠ 119) ∨ v101.toInt = 99 ∨ v101.toInt = 100 ∨ v101.toInt = 112 ∨ v101.toInt = 119) with q103 | q103 | q103 | q103 | q103
  · refine mw_lookup (off := 64) (tgt := 68) dX10_readsClause_4 (by decide) (by simp [Op.lookupswitch.offset_cons, Op.lookupswitch.offset, q103, Ne.symm, eq_comm] <;> omega) (by decide) ?_
    have q104 : ¬ v101.toInt = 99 := by omega
    have q105 : ¬ v101.toInt = 100 := by omega
    have q106 : ¬ v101.toInt = 112 := by omega
    have q107 : ¬ v101.toInt = 119 := by omega
    refine mw_aload_n dX10_readsClause_68 rfl 0 rfl ?_
    refine mw_iconst dX10_readsClause_69 ki_1 ?_
    refine tc_Vi (as := [.int 1]) (st := []) dX10_readsClause_70 rfl shM_0 rfl rfl mX10_118 t_X10_fails rfl (Nat.le_of_ble_eq_true rfl) (by decide) (by decide) (cx_X10_fails (g := g) S hI (1 : Int32)) (fun S108 v110 h109 => ?_)
    obtain ⟨hI115, hf116, b111, x112, hx113⟩ := h109
    have hF117 := fr_tr hF hf116 (by decide) (by decide) (by decide) (by decide)
    have hE118 : F_X10_readsClause S = F_X10_readsClause_dc73 v110 S108 := (by subst ev101; rw [F_X10_readsClause, if_neg q104, if_neg q105, if_neg q106, if_neg q107, hx113])
    exact mw_zret rfl (bd_nar b111 (by decide)) dX10_readsClause_73 rfl rfl ⟨S108, _, rfl, rfl, hI115, hF117, bd_w b111 (by decide), Or.inl (bd_zero b111), (by exact hE118.trans (by rw [F_X10_readsClause_dc73]))⟩
  · refine mw_lookup (off := 59) (tgt := 63) dX10_readsClause_4 (by decide) (by rw [q103]; rfl) (by decide) ?_
    have b119 : mm_b (99) (99) v101 := ⟨by omega, by omega⟩
    refine mw_aload_n dX10_readsClause_63 rfl 0 rfl ?_
    refine tc_Vi (as := []) (st := []) dX10_readsClause_64 rfl shM_0 rfl rfl mX10_147 t_X10_readsParts rfl (Nat.le_of_ble_eq_true rfl) (by decide) (by decide) (cx_X10_readsParts (g := g) S hI) (fun S120 v122 h121 => ?_)
    obtain ⟨hI127, hf128, b123, x124, hx125⟩ := h121
    have hF129 := fr_tr hF hf128 (by decide) (by decide) (by decide) (by decide)
    have hE130 : F_X10_readsClause S = F_X10_readsClause_dc73 v122 S120 := (by subst ev101; rw [F_X10_readsClause, if_pos q103, hx125])
    exact mw_zret rfl (bd_nar b123 (by decide)) dX10_readsClause_67 rfl rfl ⟨S120, _, rfl, rfl, hI127, hF129, b123, Or.inr (by rw [← ev101]; exact bd_w b119 (by decide)), (by exact hE130.trans (by rw [F_X10_readsClause_dc73]))⟩
  · refine mw_lookup (off := 54) (tgt := 58) dX10_readsClause_4 (by decide) (by rw [q103]; rfl) (by decide) ?_
    have b131 : mm_b (100) (100) v101 := ⟨by omega, by omega⟩
    have q132 : ¬ v101.toInt = 99 := by omega
    refine mw_aload_n dX10_readsClause_58 rfl 0 rfl ?_
    refine tc_Vi (as := []) (st := []) dX10_readsClause_59 rfl shM_0 rfl rfl mX10_144 t_X10_readsDoor rfl (Nat.le_of_ble_eq_true rfl) (by decide) (by decide) (cx_X10_readsDoor (g := g) S hI) (fun S133 v135 h134 => ?_)
    obtain ⟨hI140, hf141, b136, x137, hx138⟩ := h134
    have hF142 := fr_tr hF hf141 (by decide) (by decide) (by decide) (by decide)
    have hE143 : F_X10_readsClause S = F_X10_readsClause_dc73 v135 S133 := (by subst ev101; rw [F_X10_readsClause, if_neg q132, if_pos q103, hx138])
    exact mw_zret rfl (bd_nar b136 (by decide)) dX10_readsClause_62 rfl rfl ⟨S133, _, rfl, rfl, hI140, hF142, b136, Or.inr (by rw [← ev101]; exact bd_w b131 (by decide)), (by exact hE143.trans (by rw [F_X10_readsClause_dc73]))⟩
  · refine mw_lookup (off := 44) (tgt := 48) dX10_readsClause_4 (by decide) (by rw [q103]; rfl) (by decide) ?_
    have b144 : mm_b (112) (112) v101 := ⟨by omega, by omega⟩
    have q145 : ¬ v101.toInt = 99 := by omega
    have q146 : ¬ v101.toInt = 100 := by omega
    refine mw_aload_n dX10_readsClause_48 rfl 0 rfl ?_
    refine tc_Vi (as := []) (st := []) dX10_readsClause_49 rfl shM_0 rfl rfl mX10_138 t_X10_readsPerson rfl (Nat.le_of_ble_eq_true rfl) (by decide) (by decide) (cx_X10_readsPerson (g := g) S hI) (fun S147 v149 h148 => ?_)
    obtain ⟨hI154, hf155, b150, x151, hx152⟩ := h148
    have hF156 := fr_tr hF hf155 (by decide) (by decide) (by decide) (by decide)
    have hE157 : F_X10_readsClause S = F_X10_readsClause_dc73 v149 S147 := (by subst ev101; rw [F_X10_readsClause, if_neg q145, if_neg q146, if_pos q103, hx152])
    exact mw_zret rfl (bd_nar b150 (by decide)) dX10_readsClause_52 rfl rfl ⟨S147, _, rfl, rfl, hI154, hF156, b150, Or.inr (by rw [← ev101]; exact bd_w b144 (by decide)), (by exact hE157.trans (by rw [F_X10_readsClause_dc73]))⟩
  · refine mw_lookup (off := 49) (tgt := 53) dX10_readsClause_4 (by decide) (by rw [q103]; rfl) (by decide) ?_
    have b158 : mm_b (119) (119) v101 := ⟨by omega, by omega⟩
    have q159 : ¬ v101.toInt = 99 := by omega
    have q160 : ¬ v101.toInt = 100 := by omega
    have q161 : ¬ v101.toInt = 112 := by omega
    refine mw_aload_n dX10_readsClause_53 rfl 0 rfl ?_
    refine tc_Vi (as := []) (st := []) dX10_readsClause_54 rfl shM_0 rfl rfl mX10_141 t_X10_readsWill rfl (Nat.le_of_ble_eq_true rfl) (by decide) (by decide) (cx_X10_readsWill (g := g) S hI) (fun S162 v164 h163 => ?_)
    obtain ⟨hI169, hf170, b165, x166, hx167⟩ := h163
    have hF171 := fr_tr hF hf170 (by decide) (by decide) (by decide) (by decide)
    have hE172 : F_X10_readsClause S = F_X10_readsClause_dc73 v164 S162 := (by subst ev101; rw [F_X10_readsClause, if_neg q159, if_neg q160, if_neg q161, if_pos q103, hx167])
    exact mw_zret rfl (bd_nar b165 (by decide)) dX10_readsClause_57 rfl rfl ⟨S162, _, rfl, rfl, hI169, hF171, b165, Or.inr (by rw [← ev101]; exact bd_w b158 (by decide)), (by exact hE172.trans (by rw [F_X10_readsClause_dc73]))⟩
def F_X10_parish_L23ttu87c90c94 (S149 : mm_S) : Int32 × mm_S := ((S149.1 1 0), S149)
def F_X10_parish_L23ttu87c90 (S141 : mm_S) : Int32 × mm_S := (F_X10_parish_L23ttu87c90c94 (F_X10_begins S141))
def F_X10_parish_L23ttu87 (S136 : mm_S) : Int32 × mm_S := (F_X10_parish_L23ttu87c90 (F_X10_copies_21 S136 (0 : Int32) (0 : Int32) (37 : Int32)))
def F_X10_parish_L23ffc38fc47 (k23 : mm_S → Int32 → Int32 × mm_S) (S201 : mm_S) (v186 : Int32) : Int32 × mm_S := (k23 S201 v186)
def F_X10_parish_L23ffc38 (v186 : Int32) (k23 : mm_S → Int32 → Int32 × mm_S) (S184 : mm_S) : Int32 × mm_S := (if v186 = (0 : Int32) then (k23 S184 v186) else (F_X10_parish_L23ffc38fc47 k23 (F_X10_step S184) v186))
def F_X10_parish_L23  : Nat → mm_S → Int32 → Int32 × mm_S
  | 0, S124, _ => (0, S124)
  | N + 1, S124, y127 => (if (S124.1 0 20) < (0 : Int32) then (if y127 = (0 : Int32) then (((-10 : Int32) - (S124.1 0 23)), (mm_up (mm_up S124 0 10 (0 : Int32)) 0 11 (S124.1 0 19))) else (F_X10_parish_L23ttu87 (mm_up S124 0 10 (0 : Int32)))) else (if y127 = (0 : Int32) then (((-10 : Int32) - (S124.1 0 23)), (mm_up (mm_up S124 0 10 (0 : Int32)) 0 11 (S124.1 0 19))) else (F_X10_parish_L23ffc38 (F_X10_readsClause S124).1 (F_X10_parish_L23  N) (F_X10_readsClause S124).2)))
def F_X10_parish_c7u20c23 (S116 : mm_S) : Int32 × mm_S := (F_X10_parish_L23  245 S116 (1 : Int32))
def F_X10_parish_c7u20 (S113 : mm_S) : Int32 × mm_S := (F_X10_parish_c7u20c23 (F_X10_step S113))
def F_X10_parish_c7 (S101 : mm_S) : Int32 × mm_S := (F_X10_parish_c7u20 (mm_up (mm_up S101 0 18 (0 : Int32)) 0 11 (-1 : Int32)))
def F_X10_parish (S : mm_S)  : Int32 × mm_S := (F_X10_parish_c7 (F_X10_blank2 S))
set_option maxRecDepth 100000 in
set_option maxHeartbeats 4000000 in
theorem cx_X10_parish {g : mm_G} (S : mm_S) (hI : JM S)  : mc g yX10_parish cX10_parish 2 (some .int) (mm_rm 5) [.ref 0] (mm_enc shM S) (qi shM (fun S1 v => JM S1 ∧ fr [1, 2, 3, 7] [5, 10, 11, 13, 15, 17, 18, 19, 20, 21, 22, 23] true false S S1 ∧ mm_b (-2147483648) (2147483647) v ∧ (True) ∧ F_X10_parish S = (v, S1))) := by
  refine mc_of2 (own := RX10) (ini := false) (ls := [(0, .ref 0)]) (by decide) (Nat.le_of_ble_eq_true rfl) rfl (by decide) rfl ?_
  have hF : fr [1, 2, 3, 7] [5, 10, 11, 13, 15, 17, 18, 19, 20, 21, 22, 23] true false S S := fr_rf
  refine mw_aload_n dX10_parish_0 rfl 0 rfl ?_
  refine tw_getr (j := 1) dX10_parish_1 shM_0 rfl rfl (by decide) fX10_13 ?_
  refine tc_Sv (as := [.ref 2]) (st := []) dX10_parish_4 rfl mX10_51 t_X10_blank rfl (Nat.le_of_ble_eq_true rfl) (by decide) (by decide) (cx_X10_blank2 (g := g) S hI) (fun S101 h102 => ?_)
  obtain ⟨hI105, hf106, x103, hx104⟩ := h102
  have hF107 := fr_tr hF hf106 (by decide) (by decide) (by decide) (by decide)
  have hE108 : F_X10_parish S = F_X10_parish_c7 S101 := (by rw [F_X10_parish, hx104])
  refine mw_aload_n dX10_parish_7 rfl 0 rfl ?_
  refine mw_iconst dX10_parish_8 ki_0 ?_
  refine tw_puti (j := 18) dX10_parish_9 shM_0 rfl rfl (by decide) fX10_89 rfl (by decide +kernel) ?_
  have hI109 : JM (mm_up S101 0 18 0) := JIM_put hI105 n_0 (by decide +kernel)
  generalize hS110 : (mm_up S101 0 18 0) = S110 at hI109 ⊢
  have hF111 := fr_upF hF107 hS110 (by decide)
  refine mw_aload_n dX10_parish_12 rfl 0 rfl ?_
  refine mw_iconst dX10_parish_13 ki_m1 ?_
  refine tw_puti (j := 11) dX10_parish_14 shM_0 rfl rfl (by decide) fX10_35 rfl (by decide +kernel) ?_
  have hI112 : JM (mm_up S110 0 11 (-1)) := JIM_put hI109 n_m1 (by decide +kernel)
  generalize hS113 : (mm_up S110 0 11 (-1)) = S113 at hI112 ⊢
  have hF114 := fr_upF hF111 hS113 (by decide)
  refine mw_iconst dX10_parish_17 ki_1 ?_
  refine mw_istore_n (ls' := [(1, .int 1), (0, .ref 0)]) dX10_parish_18 rfl (by decide) rfl ?_
  refine mw_aload_n dX10_parish_19 rfl 1 rfl ?_
  have hE115 : F_X10_parish S = F_X10_parish_c7u20 S113 := (by subst hS113; subst hS110; exact hE108.trans (by rw [F_X10_parish_c7]))
  refine tc_Vv (as := []) (st := []) dX10_parish_20 rfl shM_0 rfl rfl mX10_115 t_X10_step rfl (Nat.le_of_ble_eq_true rfl) (by decide) (by decide) (cx_X10_step (g := g) S113 hI112) (fun S116 h117 => ?_)
  obtain ⟨hI120, hf121, x118, hx119⟩ := h117
  have hF122 := fr_tr hF114 hf121 (by decide) (by decide) (by decide) (by decide)
  have hE123 : F_X10_parish S = F_X10_parish_c7u20c23 S116 := (by exact hE115.trans (by rw [F_X10_parish_c7u20, hx119]))
  have cut23 : ∀ (N23 : Nat) (S124 : mm_S) (y127 : Int32), prM S124 y127 < N23 → JM S124 → fr [1, 2, 3, 7] [5, 10, 11, 13, 15, 17, 18, 19, 20, 21, 22, 23] true false S S124 → mm_b (0) (1) y127 → F_X10_parish S = F_X10_parish_L23  N23 S124 y127 → mw g RX10 cX10_parish 2 (some .int) false (mm_rm 5) (qi shM (fun S1 v => JM S1 ∧ fr [1, 2, 3, 7] [5, 10, 11, 13, 15, 17, 18, 19, 20, 21, 22, 23] true false S S1 ∧ mm_b (-2147483648) (2147483647) v ∧ (True) ∧ F_X10_parish S = (v, S1))) 0 0 (mm_enc shM S124) 23 [(0, .ref 0), (1, .int y127)] [] := by
    intro N23
    induction N23 with
    | zero =>
      intro S124 y127 hm129 hI125 hF126 b128 hE130
      exact absurd hm129 (Nat.not_lt_zero _)
    | succ N23 ih23 =>
      intro S124 y127 hm129 hI125 hF126 b128 hE130
      refine mw_aload_n dX10_parish_23 rfl 0 rfl ?_
      refine tw_geti (j := 20) dX10_parish_24 shM_0 rfl rfl (by decide) fX10_99 (fun v131 ev131 => ?_)
      have b132 : mm_b (-1) (255) v131 := JIM_fld hI125 ev131 tbM_7 (by decide)
      refine mw_if_lt (tgt := 50) dX10_parish_27 (by decide) (fun q133 => ?_) (fun q133 => ?_)
      · skip
        have b134 : mm_b (-1) (-1) v131 := bd_lt_l q133 b132 n_0 (by decide)
        refine mw_aload_n dX10_parish_50 rfl 0 rfl ?_
        refine mw_iconst dX10_parish_51 ki_0 ?_
        refine tw_puti (j := 10) dX10_parish_52 shM_0 rfl rfl (by decide) fX10_85 rfl (by decide +kernel) ?_
        have hI135 : JM (mm_up S124 0 10 0) := JIM_put hI125 n_0 (by decide +kernel)
        generalize hS136 : (mm_up S124 0 10 0) = S136 at hI135 ⊢
        have hF137 := fr_upF hF126 hS136 (by decide)
        refine mw_iload_n dX10_parish_55 rfl 1 rfl ?_
        refine mw_if_ne (tgt := 75) dX10_parish_56 (by decide) (fun q138 => ?_) (fun q138 => ?_)
        · skip
          have b139 : mm_b (1) (1) y127 := bd_ne_l q138 b128 n_0 (by decide)
          refine mw_aload_n dX10_parish_75 rfl 0 rfl ?_
          refine tw_getr (j := 1) dX10_parish_76 shM_0 rfl rfl (by decide) fX10_13 ?_
          refine mw_iconst dX10_parish_79 ki_0 ?_
          refine mw_aload_n dX10_parish_80 rfl 0 rfl ?_
          refine tw_getr (j := 0) dX10_parish_81 shM_0 rfl rfl (by decide) fX10_7 ?_
          refine mw_iconst dX10_parish_84 ki_0 ?_
          refine mw_bipush dX10_parish_85 kb_37 ?_
          have hE140 : F_X10_parish S = F_X10_parish_L23ttu87 S136 := (by subst hS136; subst ev131; exact hE130.trans (by rw [F_X10_parish_L23, if_pos q133, if_neg q138]))
          refine tc_Sv (as := [.ref 2, .int 0, .ref 1, .int 0, .int 37]) (st := []) dX10_parish_87 rfl mX10_66 t_X10_copies rfl (Nat.le_of_ble_eq_true rfl) (by decide) (by decide) (cx_X10_copies_21 (g := g) S136 hI135 (0 : Int32) n_0 (0 : Int32) n_0 (37 : Int32) n_37) (fun S141 h142 => ?_)
          obtain ⟨hI145, hf146, x143, hx144⟩ := h142
          have hF147 := fr_tr hF137 hf146 (by decide) (by decide) (by decide) (by decide)
          have hE148 : F_X10_parish S = F_X10_parish_L23ttu87c90 S141 := (by exact hE140.trans (by rw [F_X10_parish_L23ttu87, hx144]))
          refine mw_aload_n dX10_parish_90 rfl 0 rfl ?_
          refine tc_Vv (as := []) (st := []) dX10_parish_91 rfl shM_0 rfl rfl mX10_55 t_X10_begins rfl (Nat.le_of_ble_eq_true rfl) (by decide) (by decide) (cx_X10_begins (g := g) S141 hI145) (fun S149 h150 => ?_)
          obtain ⟨hI153, hf154, x151, hx152⟩ := h150
          have hF155 := fr_tr hF147 hf154 (by decide) (by decide) (by decide) (by decide)
          have hE156 : F_X10_parish S = F_X10_parish_L23ttu87c90c94 S149 := (by exact hE148.trans (by rw [F_X10_parish_L23ttu87c90, hx152]))
          refine mw_aload_n dX10_parish_94 rfl 0 rfl ?_
          refine tw_getr (j := 0) dX10_parish_95 shM_0 rfl rfl (by decide) fX10_7 ?_
          refine mw_iconst dX10_parish_98 ki_0 ?_
          refine tw_iald dX10_parish_99 shM_1 (bd_in n_0 (by decide)) (fun v157 ev157 => ?_)
          rw [cl_0] at ev157
          have b158 : mm_b (0) (7) v157 := JIM_fld hI153 ev157 tbM_16 (by decide)
          exact mw_iret rfl dX10_parish_100 rfl rfl ⟨S149, _, rfl, rfl, hI153, hF155, bd_w b158 (by decide), trivial, (by subst ev157; exact hE156.trans (by rw [F_X10_parish_L23ttu87c90c94]))⟩
        · skip
          have b159 : mm_b (0) (0) y127 := bd_eq_l q138 b128 n_0 (by decide)
          refine mw_aload_n dX10_parish_59 rfl 0 rfl ?_
          refine mw_aload_n dX10_parish_60 rfl 0 rfl ?_
          refine tw_geti (j := 19) dX10_parish_61 shM_0 rfl rfl (by decide) fX10_96 (fun v160 ev160 => ?_)
          have eb161 := ev160.trans (Eq.symm (up_neF hS136 (by decide)))
          refine tw_puti (j := 11) dX10_parish_64 shM_0 rfl rfl (by decide) fX10_35 rfl (by decide +kernel) ?_
          have hI162 : JM (mm_up S136 0 11 v160) := JIM_put hI135 (bd_all v160) (by decide +kernel)
          generalize hS163 : (mm_up S136 0 11 v160) = S163 at hI162 ⊢
          have hF164 := fr_upF hF137 hS163 (by decide)
          refine mw_bipush dX10_parish_67 kb_m10 ?_
          refine mw_aload_n dX10_parish_69 rfl 0 rfl ?_
          refine tw_geti (j := 23) dX10_parish_70 shM_0 rfl rfl (by decide) fX10_112 (fun v165 ev165 => ?_)
          have eb166 := ev165.trans (Eq.symm ((up_neF hS136 (by decide)).trans (up_neF hS163 (by decide))))
          refine mw_isub dX10_parish_73 (fun v167 ev167 => ?_)
          exact mw_iret rfl dX10_parish_74 rfl rfl ⟨S163, _, rfl, rfl, hI162, hF164, (bd_all v167), trivial, (by subst ev167; subst eb166; subst hS163; subst eb161; subst hS136; subst ev131; exact hE130.trans (by rw [F_X10_parish_L23, if_pos q133, if_pos q138]))⟩
      · skip
        have b168 : mm_b (0) (255) v131 := bd_le_r (bd_nlt q133) n_0 b132 (by decide)
        refine mw_iload_n dX10_parish_30 rfl 1 rfl ?_
        refine mw_if_eq (tgt := 50) dX10_parish_31 (by decide) (fun q169 => ?_) (fun q169 => ?_)
        · skip
          have b170 : mm_b (0) (0) y127 := bd_eq_l q169 b128 n_0 (by decide)
          refine mw_aload_n dX10_parish_50 rfl 0 rfl ?_
          refine mw_iconst dX10_parish_51 ki_0 ?_
          refine tw_puti (j := 10) dX10_parish_52 shM_0 rfl rfl (by decide) fX10_85 rfl (by decide +kernel) ?_
          have hI171 : JM (mm_up S124 0 10 0) := JIM_put hI125 n_0 (by decide +kernel)
          generalize hS172 : (mm_up S124 0 10 0) = S172 at hI171 ⊢
          have hF173 := fr_upF hF126 hS172 (by decide)
          refine mw_iload_n dX10_parish_55 rfl 1 rfl ?_
          refine mw_if_ne (tgt := 75) dX10_parish_56 (by decide) (fun q174 => ?_) (fun q174 => ?_)
          · skip
            exact bd_fne q174 b170 n_0
          · skip
            refine mw_aload_n dX10_parish_59 rfl 0 rfl ?_
            refine mw_aload_n dX10_parish_60 rfl 0 rfl ?_
            refine tw_geti (j := 19) dX10_parish_61 shM_0 rfl rfl (by decide) fX10_96 (fun v175 ev175 => ?_)
            have eb176 := ev175.trans (Eq.symm (up_neF hS172 (by decide)))
            refine tw_puti (j := 11) dX10_parish_64 shM_0 rfl rfl (by decide) fX10_35 rfl (by decide +kernel) ?_
            have hI177 : JM (mm_up S172 0 11 v175) := JIM_put hI171 (bd_all v175) (by decide +kernel)
            generalize hS178 : (mm_up S172 0 11 v175) = S178 at hI177 ⊢
            have hF179 := fr_upF hF173 hS178 (by decide)
            refine mw_bipush dX10_parish_67 kb_m10 ?_
            refine mw_aload_n dX10_parish_69 rfl 0 rfl ?_
            refine tw_geti (j := 23) dX10_parish_70 shM_0 rfl rfl (by decide) fX10_112 (fun v180 ev180 => ?_)
            have eb181 := ev180.trans (Eq.symm ((up_neF hS172 (by decide)).trans (up_neF hS178 (by decide))))
            refine mw_isub dX10_parish_73 (fun v182 ev182 => ?_)
            exact mw_iret rfl dX10_parish_74 rfl rfl ⟨S178, _, rfl, rfl, hI177, hF179, (bd_all v182), trivial, (by subst ev182; subst eb181; subst hS178; subst eb176; subst hS172; subst ev131; exact hE130.trans (by rw [F_X10_parish_L23, if_neg q133, if_pos q169]))⟩
        · skip
          have b183 : mm_b (1) (1) y127 := bd_ne_l q169 b128 n_0 (by decide)
          refine mw_aload_n dX10_parish_34 rfl 0 rfl ?_
          refine tc_Vi (as := []) (st := []) dX10_parish_35 rfl shM_0 rfl rfl mX10_150 t_X10_readsClause rfl (Nat.le_of_ble_eq_true rfl) (by decide) (by decide) (cx_X10_readsClause (g := g) S124 hI125) (fun S184 v186 h185 => ?_)
          obtain ⟨hI191, hf192, b187, x188, hx189⟩ := h185
          have hF193 := fr_tr hF126 hf192 (by decide) (by decide) (by decide) (by decide)
          have hE194 : F_X10_parish S = F_X10_parish_L23ffc38 v186 (F_X10_parish_L23  N23) S184 := (by subst ev131; exact hE130.trans (by rw [F_X10_parish_L23, if_neg q133, if_neg q169, hx189]))
          refine mw_istore_n (ls' := [(1, .int v186), (0, .ref 0)]) dX10_parish_38 rfl (by decide) rfl ?_
          refine mw_iload_n dX10_parish_39 rfl 0 rfl ?_
          refine mw_if_eq (tgt := 23) dX10_parish_40 (by decide) (fun q195 => ?_) (fun q195 => ?_)
          · skip
            have b196 : mm_b (0) (0) v186 := bd_eq_l q195 b187 n_0 (by decide)
            refine mw_ls [1, 0] rfl ?_
            exact ih23 S184 v186 (pr_1 hm129 ev131 (bd_w b168 (by decide)) b183 hI125 b196) hI191 hF193 (bd_w b196 (by decide)) (by exact hE194.trans (by rw [F_X10_parish_L23ffc38, if_pos q195]))
          · skip
            have b197 : mm_b (1) (1) v186 := bd_ne_l q195 b187 n_0 (by decide)
            have b198 := Or.resolve_left x188 q195
            obtain ⟨v199, ev199⟩ : ∃ y : Int32, y = S124.1 0 20 := ⟨_, rfl⟩
            have b200 : mm_b (99) (119) v199 := by rw [ev199]; exact b198
            refine mw_aload_n dX10_parish_43 rfl 1 rfl ?_
            refine tc_Vv (as := []) (st := []) dX10_parish_44 rfl shM_0 rfl rfl mX10_115 t_X10_step rfl (Nat.le_of_ble_eq_true rfl) (by decide) (by decide) (cx_X10_step (g := g) S184 hI191) (fun S201 h202 => ?_)
            obtain ⟨hI205, hf206, x203, hx204⟩ := h202
            have hF207 := fr_tr hF193 hf206 (by decide) (by decide) (by decide) (by decide)
            have hE208 : F_X10_parish S = F_X10_parish_L23ffc38fc47 (F_X10_parish_L23  N23) S201 v186 := (by exact hE194.trans (by rw [F_X10_parish_L23ffc38, if_neg q195, hx204]))
            refine mw_goto (tgt := 23) dX10_parish_47 (by decide) ?_
            refine mw_ls [1, 0] rfl ?_
            exact ih23 S201 v186 (pr_2 hm129 ev199 (bd_w b200 (by decide)) b183 hI125 hf192 x203) hI205 hF207 (bd_w b197 (by decide)) (by exact hE208.trans (by rw [F_X10_parish_L23ffc38fc47]))
  refine mw_ls [1, 0] rfl ?_
  exact cut23 245 S116 (1 : Int32) (prM_lt hI120) hI120 hF122 (bd_w n_1 (by decide)) (by exact hE123.trans (by rw [F_X10_parish_c7u20c23]))
