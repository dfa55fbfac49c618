set_option maxRecDepth 100000 in
set_option maxHeartbeats 4000000 in
theorem c_X10_number_r {g : mm_G} (S : mm_S) (hI : JM S) (x1 : Int32) (h1 : mm_b (3) (9) x1) (x2 : Int32) (h2 : mm_b (0) (0) x2) (x3 : Int32) (h3 : mm_b (9) (9) x3) : mc g yX10_number cX10_number 4 (some .boolean) (mm_rm 2) [.ref 0, .int x1, .int x2, .int x3] (mm_enc shM S) (qi shM (fun S1 v => JM S1 ∧ fr [2] [18, 19, 20, 21, 22, 23] true true S S1 ∧ mm_b (0) (1) v ∧ (True) ∧ (S.1 2 0 = S1.1 2 0 ∧ S.1 2 1 = S1.1 2 1 ∧ S.1 2 2 = S1.1 2 2))) := by
  refine mc_of2 (own := RX10) (ini := false) (ls := [(0, .ref 0), (1, .int x1), (2, .int x2), (3, .int x3)]) (by decide) (Nat.le_of_ble_eq_true rfl) rfl (by decide) rfl ?_
  have hF : fr [2] [18, 19, 20, 21, 22, 23] true true S S := fr_rf
  refine mw_aload_n dX10_number_0 rfl 0 rfl ?_
  refine tc_Vv (as := []) (st := []) dX10_number_1 rfl shM_0 rfl rfl mX10_115 t_X10_step rfl (Nat.le_of_ble_eq_true rfl) (by decide) (by decide) (c_X10_step (g := g) S hI) (fun S101 h102 => ?_)
  obtain ⟨hI104, hf105, x103⟩ := h102
  have hF106 := fr_tr hF hf105 (by decide) (by decide) (by decide) (by decide)
  refine mw_aload_n dX10_number_4 rfl 0 rfl ?_
  refine tw_geti (j := 20) dX10_number_5 shM_0 rfl rfl (by decide) fX10_99 (fun v107 ev107 => ?_)
  have b108 : mm_b (-1) (255) v107 := JIM_fld hI104 ev107 tbM_7 (by decide)
  refine mw_bipush dX10_number_8 kb_48 ?_
  refine mw_icmp_eq (tgt := 19) dX10_number_10 (by decide) (fun q109 => ?_) (fun q109 => ?_)
  · skip
    have b110 : mm_b (48) (48) v107 := bd_eq_l q109 b108 n_48 (by decide)
    refine mw_aload_n dX10_number_19 rfl 0 rfl ?_
    refine tw_geti (j := 21) dX10_number_20 shM_0 rfl rfl (by decide) fX10_102 (fun v111 ev111 => ?_)
    refine mw_iconst dX10_number_23 ki_3 ?_
    refine mw_icmp_gt (tgt := 42) dX10_number_24 (by decide) (fun q112 => ?_) (fun q112 => ?_)
    · skip
      have b113 : mm_b (4) (2147483647) v111 := bd_lt_r q112 n_3 (bd_all v111) (by decide)
      refine mw_aload_n dX10_number_42 rfl 0 rfl ?_
      refine mw_iconst dX10_number_43 ki_2 ?_
      refine tc_Vi (as := [.int 2]) (st := []) dX10_number_44 rfl shM_0 rfl rfl mX10_118 t_X10_fails rfl (Nat.le_of_ble_eq_true rfl) (by decide) (by decide) (c_X10_fails (g := g) S101 hI104 (2 : Int32)) (fun S114 v116 h115 => ?_)
      obtain ⟨hI120, hf121, b117, x118⟩ := h115
      have hF122 := fr_tr hF106 hf121 (by decide) (by decide) (by decide) (by decide)
      exact mw_zret rfl (bd_nar b117 (by decide)) dX10_number_47 rfl rfl ⟨S114, _, rfl, rfl, hI120, hF122, bd_w b117 (by decide), trivial, (((Eq.refl (S.1 2 0)).trans (fr_A hf105 (by decide) (by decide))).trans (fr_A hf121 (by decide) (by decide))), (((Eq.refl (S.1 2 1)).trans (fr_A hf105 (by decide) (by decide))).trans (fr_A hf121 (by decide) (by decide))), (((Eq.refl (S.1 2 2)).trans (fr_A hf105 (by decide) (by decide))).trans (fr_A hf121 (by decide) (by decide)))⟩
    · skip
      have b123 : mm_b (-2147483648) (3) v111 := bd_le_l (bd_nlt q112) (bd_all v111) n_3 (by decide)
      refine mw_aload_n dX10_number_27 rfl 0 rfl ?_
      refine tw_geti (j := 22) dX10_number_28 shM_0 rfl rfl (by decide) fX10_105 (fun v124 ev124 => ?_)
      have b125 : mm_b (0) (999) v124 := JIM_fld hI104 ev124 tbM_8 (by decide)
      refine mw_i2l dX10_number_31 (fun w126 ew126 => ?_)
      have b127 : mm_bl (0) (999) w126 := bl_i2l ew126 b125
      refine mw_iload_n dX10_number_32 rfl 2 rfl ?_
      refine mw_i2l dX10_number_33 (fun w128 ew128 => ?_)
      have b129 : mm_bl (0) (0) w128 := bl_i2l ew128 h2
      refine mw_iload_n dX10_number_34 rfl 3 rfl ?_
      refine mw_i2l dX10_number_35 (fun w130 ew130 => ?_)
      have b131 : mm_bl (9) (9) w130 := bl_i2l ew130 h3
      refine tc_Si (as := [.long w126, .long w128, .long w130]) (st := []) dX10_number_36 rfl mX10_62 t_X10_in rfl (Nat.le_of_ble_eq_true rfl) (by decide) (by decide) (c_X10_in (g := g) S101 hI104 w126 w128 w130) (fun S132 v134 h133 => ?_)
      obtain ⟨rfl, b135, x136⟩ := h133
      have x137 := in_use (lo := 0) (hi := 9) x136 ew126 b129 b131 (by decide)
      refine mw_if_ne (tgt := 48) dX10_number_39 (by decide) (fun q138 => ?_) (fun q138 => ?_)
      · skip
        have b139 : mm_b (1) (1) v134 := bd_ne_l q138 b135 n_0 (by decide)
        have b140 := Or.resolve_left x137 q138
        refine mw_aload_n dX10_number_48 rfl 0 rfl ?_
        refine tw_getr (j := 1) dX10_number_49 shM_0 rfl rfl (by decide) fX10_13 ?_
        refine mw_iload_n dX10_number_52 rfl 1 rfl ?_
        refine mw_aload_n dX10_number_53 rfl 0 rfl ?_
        refine tw_geti (j := 22) dX10_number_54 shM_0 rfl rfl (by decide) fX10_105 (fun v141 ev141 => ?_)
        have cv141 : v124 = v141 := ev124.trans ev141.symm
        subst cv141
        refine tw_iast dX10_number_57 shM_2 (bd_in h1 (by decide)) ?_
        have hI142 : JM (mm_up S101 2 x1.toNatClampNeg v124) := JIM_puta hI104 b140 h1 (by decide) (by decide +kernel)
        generalize hS143 : (mm_up S101 2 x1.toNatClampNeg v124) = S143 at hI142 ⊢
        have hF144 := fr_upA hF106 hS143 (by decide)
        refine mw_iconst dX10_number_58 ki_1 ?_
        exact mw_zret rfl (bd_nar n_1 (by decide)) dX10_number_59 rfl rfl ⟨S143, _, rfl, rfl, hI142, hF144, bd_w n_1 (by decide), trivial, (((Eq.refl (S.1 2 0)).trans (fr_A hf105 (by decide) (by decide))).trans (up_neF hS143 (cl_ne h1 (by decide)))), (((Eq.refl (S.1 2 1)).trans (fr_A hf105 (by decide) (by decide))).trans (up_neF hS143 (cl_ne h1 (by decide)))), (((Eq.refl (S.1 2 2)).trans (fr_A hf105 (by decide) (by decide))).trans (up_neF hS143 (cl_ne h1 (by decide))))⟩
      · skip
        have b145 : mm_b (0) (0) v134 := bd_eq_l q138 b135 n_0 (by decide)
        refine mw_aload_n dX10_number_42 rfl 0 rfl ?_
        refine mw_iconst dX10_number_43 ki_2 ?_
        refine tc_Vi (as := [.int 2]) (st := []) dX10_number_44 rfl shM_0 rfl rfl mX10_118 t_X10_fails rfl (Nat.le_of_ble_eq_true rfl) (by decide) (by decide) (c_X10_fails (g := g) S101 hI104 (2 : Int32)) (fun S146 v148 h147 => ?_)
        obtain ⟨hI152, hf153, b149, x150⟩ := h147
        have hF154 := fr_tr hF106 hf153 (by decide) (by decide) (by decide) (by decide)
        exact mw_zret rfl (bd_nar b149 (by decide)) dX10_number_47 rfl rfl ⟨S146, _, rfl, rfl, hI152, hF154, bd_w b149 (by decide), trivial, (((Eq.refl (S.1 2 0)).trans (fr_A hf105 (by decide) (by decide))).trans (fr_A hf153 (by decide) (by decide))), (((Eq.refl (S.1 2 1)).trans (fr_A hf105 (by decide) (by decide))).trans (fr_A hf153 (by decide) (by decide))), (((Eq.refl (S.1 2 2)).trans (fr_A hf105 (by decide) (by decide))).trans (fr_A hf153 (by decide) (by decide)))⟩
  · skip
    refine mw_aload_n dX10_number_13 rfl 0 rfl ?_
    refine mw_iconst dX10_number_14 ki_1 ?_
    refine tc_Vi (as := [.int 1]) (st := []) dX10_number_15 rfl shM_0 rfl rfl mX10_118 t_X10_fails rfl (Nat.le_of_ble_eq_true rfl) (by decide) (by decide) (c_X10_fails (g := g) S101 hI104 (1 : Int32)) (fun S155 v157 h156 => ?_)
    obtain ⟨hI161, hf162, b158, x159⟩ := h156
    have hF163 := fr_tr hF106 hf162 (by decide) (by decide) (by decide) (by decide)
    exact mw_zret rfl (bd_nar b158 (by decide)) dX10_number_18 rfl rfl ⟨S155, _, rfl, rfl, hI161, hF163, bd_w b158 (by decide), trivial, (((Eq.refl (S.1 2 0)).trans (fr_A hf105 (by decide) (by decide))).trans (fr_A hf162 (by decide) (by decide))), (((Eq.refl (S.1 2 1)).trans (fr_A hf105 (by decide) (by decide))).trans (fr_A hf162 (by decide) (by decide))), (((Eq.refl (S.1 2 2)).trans (fr_A hf105 (by decide) (by decide))).trans (fr_A hf162 (by decide) (by decide)))⟩
set_option maxRecDepth 100000 in
set_option maxHeartbeats 4000000 in
theorem c_X10_number_d {g : mm_G} (S : mm_S) (hI : JM S) (x1 : Int32) (h1 : mm_b (25) (30) x1) (x2 : Int32) (h2 : mm_b (0) (0) x2) (x3 : Int32) (h3 : mm_b (127) (127) x3) : mc g yX10_number cX10_number 4 (some .boolean) (mm_rm 2) [.ref 0, .int x1, .int x2, .int x3] (mm_enc shM S) (qi shM (fun S1 v => JM S1 ∧ fr [2] [18, 19, 20, 21, 22, 23] true true S S1 ∧ mm_b (0) (1) v ∧ (True) ∧ (S.1 2 0 = S1.1 2 0 ∧ S.1 2 1 = S1.1 2 1 ∧ S.1 2 2 = S1.1 2 2))) := by
  refine mc_of2 (own := RX10) (ini := false) (ls := [(0, .ref 0), (1, .int x1), (2, .int x2), (3, .int x3)]) (by decide) (Nat.le_of_ble_eq_true rfl) rfl (by decide) rfl ?_
  have hF : fr [2] [18, 19, 20, 21, 22, 23] true true S S := fr_rf
  refine mw_aload_n dX10_number_0 rfl 0 rfl ?_
  refine tc_Vv (as := []) (st := []) dX10_number_1 rfl shM_0 rfl rfl mX10_115 t_X10_step rfl (Nat.le_of_ble_eq_true rfl) (by decide) (by decide) (c_X10_step (g := g) S hI) (fun S101 h102 => ?_)
  obtain ⟨hI104, hf105, x103⟩ := h102
  have hF106 := fr_tr hF hf105 (by decide) (by decide) (by decide) (by decide)
  refine mw_aload_n dX10_number_4 rfl 0 rfl ?_
  refine tw_geti (j := 20) dX10_number_5 shM_0 rfl rfl (by decide) fX10_99 (fun v107 ev107 => ?_)
  have b108 : mm_b (-1) (255) v107 := JIM_fld hI104 ev107 tbM_7 (by decide)
  refine mw_bipush dX10_number_8 kb_48 ?_
  refine mw_icmp_eq (tgt := 19) dX10_number_10 (by decide) (fun q109 => ?_) (fun q109 => ?_)
  · skip
    have b110 : mm_b (48) (48) v107 := bd_eq_l q109 b108 n_48 (by decide)
    refine mw_aload_n dX10_number_19 rfl 0 rfl ?_
    refine tw_geti (j := 21) dX10_number_20 shM_0 rfl rfl (by decide) fX10_102 (fun v111 ev111 => ?_)
    refine mw_iconst dX10_number_23 ki_3 ?_
    refine mw_icmp_gt (tgt := 42) dX10_number_24 (by decide) (fun q112 => ?_) (fun q112 => ?_)
    · skip
      have b113 : mm_b (4) (2147483647) v111 := bd_lt_r q112 n_3 (bd_all v111) (by decide)
      refine mw_aload_n dX10_number_42 rfl 0 rfl ?_
      refine mw_iconst dX10_number_43 ki_2 ?_
      refine tc_Vi (as := [.int 2]) (st := []) dX10_number_44 rfl shM_0 rfl rfl mX10_118 t_X10_fails rfl (Nat.le_of_ble_eq_true rfl) (by decide) (by decide) (c_X10_fails (g := g) S101 hI104 (2 : Int32)) (fun S114 v116 h115 => ?_)
      obtain ⟨hI120, hf121, b117, x118⟩ := h115
      have hF122 := fr_tr hF106 hf121 (by decide) (by decide) (by decide) (by decide)
      exact mw_zret rfl (bd_nar b117 (by decide)) dX10_number_47 rfl rfl ⟨S114, _, rfl, rfl, hI120, hF122, bd_w b117 (by decide), trivial, (((Eq.refl (S.1 2 0)).trans (fr_A hf105 (by decide) (by decide))).trans (fr_A hf121 (by decide) (by decide))), (((Eq.refl (S.1 2 1)).trans (fr_A hf105 (by decide) (by decide))).trans (fr_A hf121 (by decide) (by decide))), (((Eq.refl (S.1 2 2)).trans (fr_A hf105 (by decide) (by decide))).trans (fr_A hf121 (by decide) (by decide)))⟩
    · skip
      have b123 : mm_b (-2147483648) (3) v111 := bd_le_l (bd_nlt q112) (bd_all v111) n_3 (by decide)
      refine mw_aload_n dX10_number_27 rfl 0 rfl ?_
      refine tw_geti (j := 22) dX10_number_28 shM_0 rfl rfl (by decide) fX10_105 (fun v124 ev124 => ?_)
      have b125 : mm_b (0) (999) v124 := JIM_fld hI104 ev124 tbM_8 (by decide)
      refine mw_i2l dX10_number_31 (fun w126 ew126 => ?_)
      have b127 : mm_bl (0) (999) w126 := bl_i2l ew126 b125
      refine mw_iload_n dX10_number_32 rfl 2 rfl ?_
      refine mw_i2l dX10_number_33 (fun w128 ew128 => ?_)
      have b129 : mm_bl (0) (0) w128 := bl_i2l ew128 h2
      refine mw_iload_n dX10_number_34 rfl 3 rfl ?_
      refine mw_i2l dX10_number_35 (fun w130 ew130 => ?_)
      have b131 : mm_bl (127) (127) w130 := bl_i2l ew130 h3
      refine tc_Si (as := [.long w126, .long w128, .long w130]) (st := []) dX10_number_36 rfl mX10_62 t_X10_in rfl (Nat.le_of_ble_eq_true rfl) (by decide) (by decide) (c_X10_in (g := g) S101 hI104 w126 w128 w130) (fun S132 v134 h133 => ?_)
      obtain ⟨rfl, b135, x136⟩ := h133
      have x137 := in_use (lo := 0) (hi := 127) x136 ew126 b129 b131 (by decide)
      refine mw_if_ne (tgt := 48) dX10_number_39 (by decide) (fun q138 => ?_) (fun q138 => ?_)
      · skip
        have b139 : mm_b (1) (1) v134 := bd_ne_l q138 b135 n_0 (by decide)
        have b140 := Or.resolve_left x137 q138
        refine mw_aload_n dX10_number_48 rfl 0 rfl ?_
        refine tw_getr (j := 1) dX10_number_49 shM_0 rfl rfl (by decide) fX10_13 ?_
        refine mw_iload_n dX10_number_52 rfl 1 rfl ?_
        refine mw_aload_n dX10_number_53 rfl 0 rfl ?_
        refine tw_geti (j := 22) dX10_number_54 shM_0 rfl rfl (by decide) fX10_105 (fun v141 ev141 => ?_)
        have cv141 : v124 = v141 := ev124.trans ev141.symm
        subst cv141
        refine tw_iast dX10_number_57 shM_2 (bd_in h1 (by decide)) ?_
        have hI142 : JM (mm_up S101 2 x1.toNatClampNeg v124) := JIM_puta hI104 b140 h1 (by decide) (by decide +kernel)
        generalize hS143 : (mm_up S101 2 x1.toNatClampNeg v124) = S143 at hI142 ⊢
        have hF144 := fr_upA hF106 hS143 (by decide)
        refine mw_iconst dX10_number_58 ki_1 ?_
        exact mw_zret rfl (bd_nar n_1 (by decide)) dX10_number_59 rfl rfl ⟨S143, _, rfl, rfl, hI142, hF144, bd_w n_1 (by decide), trivial, (((Eq.refl (S.1 2 0)).trans (fr_A hf105 (by decide) (by decide))).trans (up_neF hS143 (cl_ne h1 (by decide)))), (((Eq.refl (S.1 2 1)).trans (fr_A hf105 (by decide) (by decide))).trans (up_neF hS143 (cl_ne h1 (by decide)))), (((Eq.refl (S.1 2 2)).trans (fr_A hf105 (by decide) (by decide))).trans (up_neF hS143 (cl_ne h1 (by decide))))⟩
      · skip
        have b145 : mm_b (0) (0) v134 := bd_eq_l q138 b135 n_0 (by decide)
        refine mw_aload_n dX10_number_42 rfl 0 rfl ?_
        refine mw_iconst dX10_number_43 ki_2 ?_
        refine tc_Vi (as := [.int 2]) (st := []) dX10_number_44 rfl shM_0 rfl rfl mX10_118 t_X10_fails rfl (Nat.le_of_ble_eq_true rfl) (by decide) (by decide) (c_X10_fails (g := g) S101 hI104 (2 : Int32)) (fun S146 v148 h147 => ?_)
        obtain ⟨hI152, hf153, b149, x150⟩ := h147
        have hF154 := fr_tr hF106 hf153 (by decide) (by decide) (by decide) (by decide)
        exact mw_zret rfl (bd_nar b149 (by decide)) dX10_number_47 rfl rfl ⟨S146, _, rfl, rfl, hI152, hF154, bd_w b149 (by decide), trivial, (((Eq.refl (S.1 2 0)).trans (fr_A hf105 (by decide) (by decide))).trans (fr_A hf153 (by decide) (by decide))), (((Eq.refl (S.1 2 1)).trans (fr_A hf105 (by decide) (by decide))).trans (fr_A hf153 (by decide) (by decide))), (((Eq.refl (S.1 2 2)).trans (fr_A hf105 (by decide) (by decide))).trans (fr_A hf153 (by decide) (by decide)))⟩
  · skip
    refine mw_aload_n dX10_number_13 rfl 0 rfl ?_
    refine mw_iconst dX10_number_14 ki_1 ?_
    refine tc_Vi (as := [.int 1]) (st := []) dX10_number_15 rfl shM_0 rfl rfl mX10_118 t_X10_fails rfl (Nat.le_of_ble_eq_true rfl) (by decide) (by decide) (c_X10_fails (g := g) S101 hI104 (1 : Int32)) (fun S155 v157 h156 => ?_)
    obtain ⟨hI161, hf162, b158, x159⟩ := h156
    have hF163 := fr_tr hF106 hf162 (by decide) (by decide) (by decide) (by decide)
    exact mw_zret rfl (bd_nar b158 (by decide)) dX10_number_18 rfl rfl ⟨S155, _, rfl, rfl, hI161, hF163, bd_w b158 (by decide), trivial, (((Eq.refl (S.1 2 0)).trans (fr_A hf105 (by decide) (by decide))).trans (fr_A hf162 (by decide) (by decide))), (((Eq.refl (S.1 2 1)).trans (fr_A hf105 (by decide) (by decide))).trans (fr_A hf162 (by decide) (by decide))), (((Eq.refl (S.1 2 2)).trans (fr_A hf105 (by decide) (by decide))).trans (fr_A hf162 (by decide) (by decide)))⟩
set_option maxRecDepth 100000 in
set_option maxHeartbeats 4000000 in
theorem c_X10_number_p {g : mm_G} (S : mm_S) (hI : JM S) (x1 : Int32) (h1 : mm_b (31) (36) x1) (x2 : Int32) (h2 : mm_b (0) (0) x2) (x3 : Int32) (h3 : mm_b (8) (8) x3) : mc g yX10_number cX10_number 4 (some .boolean) (mm_rm 2) [.ref 0, .int x1, .int x2, .int x3] (mm_enc shM S) (qi shM (fun S1 v => JM S1 ∧ fr [2] [18, 19, 20, 21, 22, 23] true true S S1 ∧ mm_b (0) (1) v ∧ (True) ∧ (S.1 2 0 = S1.1 2 0 ∧ S.1 2 1 = S1.1 2 1 ∧ S.1 2 2 = S1.1 2 2))) := by
  refine mc_of2 (own := RX10) (ini := false) (ls := [(0, .ref 0), (1, .int x1), (2, .int x2), (3, .int x3)]) (by decide) (Nat.le_of_ble_eq_true rfl) rfl (by decide) rfl ?_
  have hF : fr [2] [18, 19, 20, 21, 22, 23] true true S S := fr_rf
  refine mw_aload_n dX10_number_0 rfl 0 rfl ?_
  refine tc_Vv (as := []) (st := []) dX10_number_1 rfl shM_0 rfl rfl mX10_115 t_X10_step rfl (Nat.le_of_ble_eq_true rfl) (by decide) (by decide) (c_X10_step (g := g) S hI) (fun S101 h102 => ?_)
  obtain ⟨hI104, hf105, x103⟩ := h102
  have hF106 := fr_tr hF hf105 (by decide) (by decide) (by decide) (by decide)
  refine mw_aload_n dX10_number_4 rfl 0 rfl ?_
  refine tw_geti (j := 20) dX10_number_5 shM_0 rfl rfl (by decide) fX10_99 (fun v107 ev107 => ?_)
  have b108 : mm_b (-1) (255) v107 := JIM_fld hI104 ev107 tbM_7 (by decide)
  refine mw_bipush dX10_number_8 kb_48 ?_
  refine mw_icmp_eq (tgt := 19) dX10_number_10 (by decide) (fun q109 => ?_) (fun q109 => ?_)
  · skip
    have b110 : mm_b (48) (48) v107 := bd_eq_l q109 b108 n_48 (by decide)
    refine mw_aload_n dX10_number_19 rfl 0 rfl ?_
    refine tw_geti (j := 21) dX10_number_20 shM_0 rfl rfl (by decide) fX10_102 (fun v111 ev111 => ?_)
    refine mw_iconst dX10_number_23 ki_3 ?_
    refine mw_icmp_gt (tgt := 42) dX10_number_24 (by decide) (fun q112 => ?_) (fun q112 => ?_)
    · skip
      have b113 : mm_b (4) (2147483647) v111 := bd_lt_r q112 n_3 (bd_all v111) (by decide)
      refine mw_aload_n dX10_number_42 rfl 0 rfl ?_
      refine mw_iconst dX10_number_43 ki_2 ?_
      refine tc_Vi (as := [.int 2]) (st := []) dX10_number_44 rfl shM_0 rfl rfl mX10_118 t_X10_fails rfl (Nat.le_of_ble_eq_true rfl) (by decide) (by decide) (c_X10_fails (g := g) S101 hI104 (2 : Int32)) (fun S114 v116 h115 => ?_)
      obtain ⟨hI120, hf121, b117, x118⟩ := h115
      have hF122 := fr_tr hF106 hf121 (by decide) (by decide) (by decide) (by decide)
      exact mw_zret rfl (bd_nar b117 (by decide)) dX10_number_47 rfl rfl ⟨S114, _, rfl, rfl, hI120, hF122, bd_w b117 (by decide), trivial, (((Eq.refl (S.1 2 0)).trans (fr_A hf105 (by decide) (by decide))).trans (fr_A hf121 (by decide) (by decide))), (((Eq.refl (S.1 2 1)).trans (fr_A hf105 (by decide) (by decide))).trans (fr_A hf121 (by decide) (by decide))), (((Eq.refl (S.1 2 2)).trans (fr_A hf105 (by decide) (by decide))).trans (fr_A hf121 (by decide) (by decide)))⟩
    · skip
      have b123 : mm_b (-2147483648) (3) v111 := bd_le_l (bd_nlt q112) (bd_all v111) n_3 (by decide)
      refine mw_aload_n dX10_number_27 rfl 0 rfl ?_
      refine tw_geti (j := 22) dX10_number_28 shM_0 rfl rfl (by decide) fX10_105 (fun v124 ev124 => ?_)
      have b125 : mm_b (0) (999) v124 := JIM_fld hI104 ev124 tbM_8 (by decide)
      refine mw_i2l dX10_number_31 (fun w126 ew126 => ?_)
      have b127 : mm_bl (0) (999) w126 := bl_i2l ew126 b125
      refine mw_iload_n dX10_number_32 rfl 2 rfl ?_
      refine mw_i2l dX10_number_33 (fun w128 ew128 => ?_)
      have b129 : mm_bl (0) (0) w128 := bl_i2l ew128 h2
      refine mw_iload_n dX10_number_34 rfl 3 rfl ?_
      refine mw_i2l dX10_number_35 (fun w130 ew130 => ?_)
      have b131 : mm_bl (8) (8) w130 := bl_i2l ew130 h3
      refine tc_Si (as := [.long w126, .long w128, .long w130]) (st := []) dX10_number_36 rfl mX10_62 t_X10_in rfl (Nat.le_of_ble_eq_true rfl) (by decide) (by decide) (c_X10_in (g := g) S101 hI104 w126 w128 w130) (fun S132 v134 h133 => ?_)
      obtain ⟨rfl, b135, x136⟩ := h133
      have x137 := in_use (lo := 0) (hi := 8) x136 ew126 b129 b131 (by decide)
      refine mw_if_ne (tgt := 48) dX10_number_39 (by decide) (fun q138 => ?_) (fun q138 => ?_)
      · skip
        have b139 : mm_b (1) (1) v134 := bd_ne_l q138 b135 n_0 (by decide)
        have b140 := Or.resolve_left x137 q138
        refine mw_aload_n dX10_number_48 rfl 0 rfl ?_
        refine tw_getr (j := 1) dX10_number_49 shM_0 rfl rfl (by decide) fX10_13 ?_
        refine mw_iload_n dX10_number_52 rfl 1 rfl ?_
        refine mw_aload_n dX10_number_53 rfl 0 rfl ?_
        refine tw_geti (j := 22) dX10_number_54 shM_0 rfl rfl (by decide) fX10_105 (fun v141 ev141 => ?_)
        have cv141 : v124 = v141 := ev124.trans ev141.symm
        subst cv141
        refine tw_iast dX10_number_57 shM_2 (bd_in h1 (by decide)) ?_
        have hI142 : JM (mm_up S101 2 x1.toNatClampNeg v124) := JIM_puta hI104 b140 h1 (by decide) (by decide +kernel)
        generalize hS143 : (mm_up S101 2 x1.toNatClampNeg v124) = S143 at hI142 ⊢
        have hF144 := fr_upA hF106 hS143 (by decide)
        refine mw_iconst dX10_number_58 ki_1 ?_
        exact mw_zret rfl (bd_nar n_1 (by decide)) dX10_number_59 rfl rfl ⟨S143, _, rfl, rfl, hI142, hF144, bd_w n_1 (by decide), trivial, (((Eq.refl (S.1 2 0)).trans (fr_A hf105 (by decide) (by decide))).trans (up_neF hS143 (cl_ne h1 (by decide)))), (((Eq.refl (S.1 2 1)).trans (fr_A hf105 (by decide) (by decide))).trans (up_neF hS143 (cl_ne h1 (by decide)))), (((Eq.refl (S.1 2 2)).trans (fr_A hf105 (by decide) (by decide))).trans (up_neF hS143 (cl_ne h1 (by decide))))⟩
      · skip
        have b145 : mm_b (0) (0) v134 := bd_eq_l q138 b135 n_0 (by decide)
        refine mw_aload_n dX10_number_42 rfl 0 rfl ?_
        refine mw_iconst dX10_number_43 ki_2 ?_
        refine tc_Vi (as := [.int 2]) (st := []) dX10_number_44 rfl shM_0 rfl rfl mX10_118 t_X10_fails rfl (Nat.le_of_ble_eq_true rfl) (by decide) (by decide) (c_X10_fails (g := g) S101 hI104 (2 : Int32)) (fun S146 v148 h147 => ?_)
        obtain ⟨hI152, hf153, b149, x150⟩ := h147
        have hF154 := fr_tr hF106 hf153 (by decide) (by decide) (by decide) (by decide)
        exact mw_zret rfl (bd_nar b149 (by decide)) dX10_number_47 rfl rfl ⟨S146, _, rfl, rfl, hI152, hF154, bd_w b149 (by decide), trivial, (((Eq.refl (S.1 2 0)).trans (fr_A hf105 (by decide) (by decide))).trans (fr_A hf153 (by decide) (by decide))), (((Eq.refl (S.1 2 1)).trans (fr_A hf105 (by decide) (by decide))).trans (fr_A hf153 (by decide) (by decide))), (((Eq.refl (S.1 2 2)).trans (fr_A hf105 (by decide) (by decide))).trans (fr_A hf153 (by decide) (by decide)))⟩
  · skip
    refine mw_aload_n dX10_number_13 rfl 0 rfl ?_
    refine mw_iconst dX10_number_14 ki_1 ?_
    refine tc_Vi (as := [.int 1]) (st := []) dX10_number_15 rfl shM_0 rfl rfl mX10_118 t_X10_fails rfl (Nat.le_of_ble_eq_true rfl) (by decide) (by decide) (c_X10_fails (g := g) S101 hI104 (1 : Int32)) (fun S155 v157 h156 => ?_)
    obtain ⟨hI161, hf162, b158, x159⟩ := h156
    have hF163 := fr_tr hF106 hf162 (by decide) (by decide) (by decide) (by decide)
    exact mw_zret rfl (bd_nar b158 (by decide)) dX10_number_18 rfl rfl ⟨S155, _, rfl, rfl, hI161, hF163, bd_w b158 (by decide), trivial, (((Eq.refl (S.1 2 0)).trans (fr_A hf105 (by decide) (by decide))).trans (fr_A hf162 (by decide) (by decide))), (((Eq.refl (S.1 2 1)).trans (fr_A hf105 (by decide) (by decide))).trans (fr_A hf162 (by decide) (by decide))), (((Eq.refl (S.1 2 2)).trans (fr_A hf105 (by decide) (by decide))).trans (fr_A hf162 (by decide) (by decide)))⟩
set_option maxRecDepth 100000 in
set_option maxHeartbeats 4000000 in
theorem c_X10_ends {g : mm_G} (S : mm_S) (hI : JM S)  : mc g yX10_ends cX10_ends 1 (some .boolean) (mm_rm 2) [.ref 0] (mm_enc shM S) (qi shM (fun S1 v => JM S1 ∧ fr [] [18, 19, 20, 21, 22, 23] true true S S1 ∧ mm_b (0) (1) v ∧ (True))) := by
  refine mc_of2 (own := RX10) (ini := false) (ls := [(0, .ref 0)]) (by decide) (Nat.le_of_ble_eq_true rfl) rfl (by decide) rfl ?_
  have hF : fr [] [18, 19, 20, 21, 22, 23] true true S S := fr_rf
  refine mw_aload_n dX10_ends_0 rfl 0 rfl ?_
  refine tc_Vv (as := []) (st := []) dX10_ends_1 rfl shM_0 rfl rfl mX10_115 t_X10_step rfl (Nat.le_of_ble_eq_true rfl) (by decide) (by decide) (c_X10_step (g := g) S hI) (fun S101 h102 => ?_)
  obtain ⟨hI104, hf105, x103⟩ := h102
  have hF106 := fr_tr hF hf105 (by decide) (by decide) (by decide) (by decide)
  refine mw_aload_n dX10_ends_4 rfl 0 rfl ?_
  refine tw_geti (j := 20) dX10_ends_5 shM_0 rfl rfl (by decide) fX10_99 (fun v107 ev107 => ?_)
  have b108 : mm_b (-1) (255) v107 := JIM_fld hI104 ev107 tbM_7 (by decide)
  refine mw_bipush dX10_ends_8 kb_59 ?_
  refine mw_icmp_eq (tgt := 21) dX10_ends_10 (by decide) (fun q109 => ?_) (fun q109 => ?_)
  · skip
    have b110 : mm_b (59) (59) v107 := bd_eq_l q109 b108 n_59 (by decide)
    refine mw_iconst dX10_ends_21 ki_1 ?_
    refine mw_goto (tgt := 26) dX10_ends_22 (by decide) ?_
    exact mw_zret rfl (bd_nar n_1 (by decide)) dX10_ends_26 rfl rfl ⟨S101, _, rfl, rfl, hI104, hF106, bd_w n_1 (by decide), trivial⟩
  · skip
    refine mw_aload_n dX10_ends_13 rfl 0 rfl ?_
    refine mw_iconst dX10_ends_14 ki_1 ?_
    refine tc_Vi (as := [.int 1]) (st := []) dX10_ends_15 rfl shM_0 rfl rfl mX10_118 t_X10_fails rfl (Nat.le_of_ble_eq_true rfl) (by decide) (by decide) (c_X10_fails (g := g) S101 hI104 (1 : Int32)) (fun S111 v113 h112 => ?_)
    obtain ⟨hI117, hf118, b114, x115⟩ := h112
    have hF119 := fr_tr hF106 hf118 (by decide) (by decide) (by decide) (by decide)
    refine mw_if_eq (tgt := 25) dX10_ends_18 (by decide) (fun q120 => ?_) (fun q120 => ?_)
    · skip
      refine mw_iconst dX10_ends_25 ki_0 ?_
      exact mw_zret rfl (bd_nar n_0 (by decide)) dX10_ends_26 rfl rfl ⟨S111, _, rfl, rfl, hI117, hF119, bd_w n_0 (by decide), trivial⟩
    · skip
      exact bd_fne q120 b114 n_0
set_option maxRecDepth 100000 in
set_option maxHeartbeats 4000000 in
theorem c_X10_readsPerson {g : mm_G} (S : mm_S) (hI : JM S)  : mc g yX10_readsPerson cX10_readsPerson 2 (some .boolean) (mm_rm 3) [.ref 0] (mm_enc shM S) (qi shM (fun S1 v => JM S1 ∧ fr [2] [18, 19, 20, 21, 22, 23] true true S S1 ∧ mm_b (0) (1) v ∧ (True))) := by
  refine mc_of2 (own := RX10) (ini := false) (ls := [(0, .ref 0)]) (by decide) (Nat.le_of_ble_eq_true rfl) rfl (by decide) rfl ?_
  have hF : fr [2] [18, 19, 20, 21, 22, 23] true true S S := fr_rf
  refine mw_aload_n dX10_readsPerson_0 rfl 0 rfl ?_
  refine tw_getr (j := 1) dX10_readsPerson_1 shM_0 rfl rfl (by decide) fX10_13 ?_
  refine mw_iconst dX10_readsPerson_4 ki_0 ?_
  refine tw_iald dX10_readsPerson_5 shM_2 (bd_in n_0 (by decide)) (fun v101 ev101 => ?_)
  rw [cl_0] at ev101
  have b102 : mm_b (0) (7) v101 := JIM_fld hI ev101 tbM_23 (by decide)
  refine mw_istore_n (ls' := [(1, .int v101), (0, .ref 0)]) dX10_readsPerson_6 rfl (by decide) rfl ?_
  refine mw_iload_n dX10_readsPerson_7 rfl 0 rfl ?_
  refine mw_bipush dX10_readsPerson_8 kb_7 ?_
  refine mw_icmp_ne (tgt := 19) dX10_readsPerson_10 (by decide) (fun q103 => ?_) (fun q103 => ?_)
  · skip
    have b104 : mm_b (0) (6) v101 := bd_ne_l q103 b102 n_7 (by decide)
    refine mw_aload_n dX10_readsPerson_19 rfl 1 rfl ?_
    refine tw_getr (j := 1) dX10_readsPerson_20 shM_0 rfl rfl (by decide) fX10_13 ?_
    refine mw_iconst dX10_readsPerson_23 ki_0 ?_
    refine mw_dup2 dX10_readsPerson_24 rfl rfl ?_
    refine tw_iald dX10_readsPerson_25 shM_2 (bd_in n_0 (by decide)) (fun v105 ev105 => ?_)
    rw [cl_0] at ev105
    have cv105 : v101 = v105 := ev101.trans ev105.symm
    subst cv105
    refine mw_iconst dX10_readsPerson_26 ki_1 ?_
    refine mw_iadd dX10_readsPerson_27 (fun v106 ev106 => ?_)
    have b107 : mm_b (1) (7) v106 := bd_add ev106 b104 n_1 (by decide)
    refine tw_iast dX10_readsPerson_28 shM_2 (bd_in n_0 (by decide)) ?_
    rw [cl_0]
    have hI108 : JM (mm_up S 2 0 v106) := JIM_put hI b107 (by decide +kernel)
    generalize hS109 : (mm_up S 2 0 v106) = S109 at hI108 ⊢
    have hF110 := fr_upA hF hS109 (by decide)
    refine mw_aload_n dX10_readsPerson_29 rfl 1 rfl ?_
    refine mw_iconst dX10_readsPerson_30 ki_3 ?_
    refine mw_iload_n dX10_readsPerson_31 rfl 0 rfl ?_
    refine mw_iadd dX10_readsPerson_32 (fun v111 ev111 => ?_)
    have b112 : mm_b (3) (9) v111 := bd_add ev111 n_3 b104 (by decide)
    refine mw_iconst dX10_readsPerson_33 ki_0 ?_
    refine mw_bipush dX10_readsPerson_34 kb_9 ?_
    refine tc_Vi (as := [.int v111, .int 0, .int 9]) (st := []) dX10_readsPerson_36 rfl shM_0 rfl rfl mX10_122 t_X10_number rfl (Nat.le_of_ble_eq_true rfl) (by decide) (by decide) (c_X10_number_r (g := g) S109 hI108 v111 b112 (0 : Int32) n_0 (9 : Int32) n_9) (fun S113 v115 h114 => ?_)
    obtain ⟨hI119, hf120, b116, x117, kp118⟩ := h114
    have hF121 := fr_tr hF110 hf120 (by decide) (by decide) (by decide) (by decide)
    refine mw_if_eq (tgt := 53) dX10_readsPerson_39 (by decide) (fun q122 => ?_) (fun q122 => ?_)
    · skip
      have b123 : mm_b (0) (0) v115 := bd_eq_l q122 b116 n_0 (by decide)
      refine mw_iconst dX10_readsPerson_53 ki_0 ?_
      exact mw_zret rfl (bd_nar n_0 (by decide)) dX10_readsPerson_54 rfl rfl ⟨S113, _, rfl, rfl, hI119, hF121, bd_w n_0 (by decide), trivial⟩
    · skip
      have b124 : mm_b (1) (1) v115 := bd_ne_l q122 b116 n_0 (by decide)
      refine mw_aload_n dX10_readsPerson_42 rfl 1 rfl ?_
      refine tc_Vi (as := []) (st := []) dX10_readsPerson_43 rfl shM_0 rfl rfl mX10_126 t_X10_ends rfl (Nat.le_of_ble_eq_true rfl) (by decide) (by decide) (c_X10_ends (g := g) S113 hI119) (fun S125 v127 h126 => ?_)
      obtain ⟨hI131, hf132, b128, x129⟩ := h126
      have hF133 := fr_tr hF121 hf132 (by decide) (by decide) (by decide) (by decide)
      refine mw_if_eq (tgt := 53) dX10_readsPerson_46 (by decide) (fun q134 => ?_) (fun q134 => ?_)
      · skip
        have b135 : mm_b (0) (0) v127 := bd_eq_l q134 b128 n_0 (by decide)
        refine mw_iconst dX10_readsPerson_53 ki_0 ?_
        exact mw_zret rfl (bd_nar n_0 (by decide)) dX10_readsPerson_54 rfl rfl ⟨S125, _, rfl, rfl, hI131, hF133, bd_w n_0 (by decide), trivial⟩
      · skip
        have b136 : mm_b (1) (1) v127 := bd_ne_l q134 b128 n_0 (by decide)
        refine mw_iconst dX10_readsPerson_49 ki_1 ?_
        refine mw_goto (tgt := 54) dX10_readsPerson_50 (by decide) ?_
        exact mw_zret rfl (bd_nar n_1 (by decide)) dX10_readsPerson_54 rfl rfl ⟨S125, _, rfl, rfl, hI131, hF133, bd_w n_1 (by decide), trivial⟩
  · skip
    have b137 : mm_b (7) (7) v101 := bd_eq_l q103 b102 n_7 (by decide)
    refine mw_aload_n dX10_readsPerson_13 rfl 1 rfl ?_
    refine mw_iconst dX10_readsPerson_14 ki_3 ?_
    refine tc_Vi (as := [.int 3]) (st := []) dX10_readsPerson_15 rfl shM_0 rfl rfl mX10_118 t_X10_fails rfl (Nat.le_of_ble_eq_true rfl) (by decide) (by decide) (c_X10_fails (g := g) S hI (3 : Int32)) (fun S138 v140 h139 => ?_)
    obtain ⟨hI144, hf145, b141, x142⟩ := h139
    have hF146 := fr_tr hF hf145 (by decide) (by decide) (by decide) (by decide)
    exact mw_zret rfl (bd_nar b141 (by decide)) dX10_readsPerson_18 rfl rfl ⟨S138, _, rfl, rfl, hI144, hF146, bd_w b141 (by decide), trivial⟩
set_option maxRecDepth 100000 in
set_option maxHeartbeats 4000000 in
theorem c_X10_isTold_0 {g : mm_G} (S : mm_S) (hI : JM S) (x1 : Int32) (h1 : mm_b (0) (0) x1) : mc g yX10_isTold cX10_isTold 3 (some .boolean) (mm_rm 2) [.ref 0, .int x1] (mm_enc shM S) (qi shM (fun S1 v => JM S1 ∧ fr [] [18, 19, 20, 21, 22, 23] true true S S1 ∧ mm_b (0) (1) v ∧ (v = 0 ∨ (mm_b (0) (6) (S1.1 0 22))))) := by
  refine mc_of2 (own := RX10) (ini := false) (ls := [(0, .ref 0), (1, .int x1)]) (by decide) (Nat.le_of_ble_eq_true rfl) rfl (by decide) rfl ?_
  have hF : fr [] [18, 19, 20, 21, 22, 23] true true S S := fr_rf
  refine mw_aload_n dX10_isTold_0 rfl 0 rfl ?_
  refine tc_Vv (as := []) (st := []) dX10_isTold_1 rfl shM_0 rfl rfl mX10_115 t_X10_step rfl (Nat.le_of_ble_eq_true rfl) (by decide) (by decide) (c_X10_step (g := g) S hI) (fun S101 h102 => ?_)
  obtain ⟨hI104, hf105, x103⟩ := h102
  have hF106 := fr_tr hF hf105 (by decide) (by decide) (by decide) (by decide)
  refine mw_aload_n dX10_isTold_4 rfl 0 rfl ?_
  refine tw_geti (j := 20) dX10_isTold_5 shM_0 rfl rfl (by decide) fX10_99 (fun v107 ev107 => ?_)
  have b108 : mm_b (-1) (255) v107 := JIM_fld hI104 ev107 tbM_7 (by decide)
  refine mw_bipush dX10_isTold_8 kb_48 ?_
  refine mw_icmp_eq (tgt := 19) dX10_isTold_10 (by decide) (fun q109 => ?_) (fun q109 => ?_)
  · skip
    have b110 : mm_b (48) (48) v107 := bd_eq_l q109 b108 n_48 (by decide)
    refine mw_aload_n dX10_isTold_19 rfl 0 rfl ?_
    refine tw_geti (j := 21) dX10_isTold_20 shM_0 rfl rfl (by decide) fX10_102 (fun v111 ev111 => ?_)
    refine mw_iconst dX10_isTold_23 ki_4 ?_
    refine mw_icmp_ge (tgt := 57) dX10_isTold_24 (by decide) (fun q112 => ?_) (fun q112 => ?_)
    · skip
      have b113 : mm_b (4) (2147483647) v111 := bd_le_r q112 n_4 (bd_all v111) (by decide)
      refine mw_iconst dX10_isTold_57 ki_0 ?_
      refine mw_istore_n (ls' := [(2, .int 0), (0, .ref 0), (1, .int x1)]) dX10_isTold_58 rfl (by decide) rfl ?_
      refine mw_iload_n dX10_isTold_59 rfl 0 rfl ?_
      refine mw_if_ne (tgt := 71) dX10_isTold_60 (by decide) (fun q114 => ?_) (fun q114 => ?_)
      · skip
        exact bd_fne q114 n_0 n_0
      · skip
        refine mw_aload_n dX10_isTold_63 rfl 1 rfl ?_
        refine mw_iconst dX10_isTold_64 ki_2 ?_
        refine tc_Vi (as := [.int 2]) (st := []) dX10_isTold_65 rfl shM_0 rfl rfl mX10_118 t_X10_fails rfl (Nat.le_of_ble_eq_true rfl) (by decide) (by decide) (c_X10_fails (g := g) S101 hI104 (2 : Int32)) (fun S115 v117 h116 => ?_)
        obtain ⟨hI121, hf122, b118, x119⟩ := h116
        have hF123 := fr_tr hF106 hf122 (by decide) (by decide) (by decide) (by decide)
        refine mw_if_eq (tgt := 75) dX10_isTold_68 (by decide) (fun q124 => ?_) (fun q124 => ?_)
        · skip
          refine mw_iconst dX10_isTold_75 ki_0 ?_
          exact mw_zret rfl (bd_nar n_0 (by decide)) dX10_isTold_76 rfl rfl ⟨S115, _, rfl, rfl, hI121, hF123, bd_w n_0 (by decide), Or.inl rfl⟩
        · skip
          exact bd_fne q124 b118 n_0
    · skip
      have b125 : mm_b (-2147483648) (3) v111 := bd_lt_l (bd_nle q112) (bd_all v111) n_4 (by decide)
      refine mw_aload_n dX10_isTold_27 rfl 0 rfl ?_
      refine tw_geti (j := 22) dX10_isTold_28 shM_0 rfl rfl (by decide) fX10_105 (fun v126 ev126 => ?_)
      have b127 : mm_b (0) (999) v126 := JIM_fld hI104 ev126 tbM_8 (by decide)
      refine mw_aload_n dX10_isTold_31 rfl 0 rfl ?_
      refine tw_getr (j := 1) dX10_isTold_32 shM_0 rfl rfl (by decide) fX10_13 ?_
      refine mw_iconst dX10_isTold_35 ki_0 ?_
      refine tw_iald dX10_isTold_36 shM_2 (bd_in n_0 (by decide)) (fun v128 ev128 => ?_)
      rw [cl_0] at ev128
      have b129 : mm_b (0) (7) v128 := JIM_fld hI104 ev128 tbM_23 (by decide)
      refine mw_icmp_lt (tgt := 53) dX10_isTold_37 (by decide) (fun q130 => ?_) (fun q130 => ?_)
      · skip
        have b131 : mm_b (0) (6) v126 := bd_lt_l q130 b127 b129 (by decide)
        have b132 : mm_b (1) (7) v128 := bd_lt_r q130 b127 b129 (by decide)
        refine mw_iconst dX10_isTold_53 ki_1 ?_
        refine mw_goto (tgt := 58) dX10_isTold_54 (by decide) ?_
        refine mw_istore_n (ls' := [(2, .int 1), (0, .ref 0), (1, .int x1)]) dX10_isTold_58 rfl (by decide) rfl ?_
        refine mw_iload_n dX10_isTold_59 rfl 0 rfl ?_
        refine mw_if_ne (tgt := 71) dX10_isTold_60 (by decide) (fun q133 => ?_) (fun q133 => ?_)
        · skip
          refine mw_iconst dX10_isTold_71 ki_1 ?_
          refine mw_goto (tgt := 76) dX10_isTold_72 (by decide) ?_
          exact mw_zret rfl (bd_nar n_1 (by decide)) dX10_isTold_76 rfl rfl ⟨S101, _, rfl, rfl, hI104, hF106, bd_w n_1 (by decide), Or.inr (by rw [← ev126]; exact bd_w b131 (by decide))⟩
        · skip
          exact bd_feq q133 n_1 n_0 (by decide)
      · skip
        refine mw_iload_n dX10_isTold_40 rfl 1 rfl ?_
        refine mw_if_eq (tgt := 57) dX10_isTold_41 (by decide) (fun q134 => ?_) (fun q134 => ?_)
        · skip
          refine mw_iconst dX10_isTold_57 ki_0 ?_
          refine mw_istore_n (ls' := [(2, .int 0), (0, .ref 0), (1, .int x1)]) dX10_isTold_58 rfl (by decide) rfl ?_
          refine mw_iload_n dX10_isTold_59 rfl 0 rfl ?_
          refine mw_if_ne (tgt := 71) dX10_isTold_60 (by decide) (fun q135 => ?_) (fun q135 => ?_)
          · skip
            exact bd_fne q135 n_0 n_0
          · skip
            refine mw_aload_n dX10_isTold_63 rfl 1 rfl ?_
            refine mw_iconst dX10_isTold_64 ki_2 ?_
            refine tc_Vi (as := [.int 2]) (st := []) dX10_isTold_65 rfl shM_0 rfl rfl mX10_118 t_X10_fails rfl (Nat.le_of_ble_eq_true rfl) (by decide) (by decide) (c_X10_fails (g := g) S101 hI104 (2 : Int32)) (fun S136 v138 h137 => ?_)
            obtain ⟨hI142, hf143, b139, x140⟩ := h137
            have hF144 := fr_tr hF106 hf143 (by decide) (by decide) (by decide) (by decide)
            refine mw_if_eq (tgt := 75) dX10_isTold_68 (by decide) (fun q145 => ?_) (fun q145 => ?_)
            · skip
              refine mw_iconst dX10_isTold_75 ki_0 ?_
              exact mw_zret rfl (bd_nar n_0 (by decide)) dX10_isTold_76 rfl rfl ⟨S136, _, rfl, rfl, hI142, hF144, bd_w n_0 (by decide), Or.inl rfl⟩
            · skip
              exact bd_fne q145 b139 n_0
        · skip
          exact bd_fne q134 h1 n_0
  · skip
    refine mw_aload_n dX10_isTold_13 rfl 0 rfl ?_
    refine mw_iconst dX10_isTold_14 ki_1 ?_
    refine tc_Vi (as := [.int 1]) (st := []) dX10_isTold_15 rfl shM_0 rfl rfl mX10_118 t_X10_fails rfl (Nat.le_of_ble_eq_true rfl) (by decide) (by decide) (c_X10_fails (g := g) S101 hI104 (1 : Int32)) (fun S146 v148 h147 => ?_)
    obtain ⟨hI152, hf153, b149, x150⟩ := h147
    have hF154 := fr_tr hF106 hf153 (by decide) (by decide) (by decide) (by decide)
    exact mw_zret rfl (bd_nar b149 (by decide)) dX10_isTold_18 rfl rfl ⟨S146, _, rfl, rfl, hI152, hF154, bd_w b149 (by decide), Or.inl (bd_zero b149)⟩
set_option maxRecDepth 100000 in
set_option maxHeartbeats 4000000 in
theorem c_X10_isTold_1 {g : mm_G} (S : mm_S) (hI : JM S) (x1 : Int32) (h1 : mm_b (1) (1) x1) : mc g yX10_isTold cX10_isTold 3 (some .boolean) (mm_rm 2) [.ref 0, .int x1] (mm_enc shM S) (qi shM (fun S1 v => JM S1 ∧ fr [] [18, 19, 20, 21, 22, 23] true true S S1 ∧ mm_b (0) (1) v ∧ (v = 0 ∨ (mm_b (0) (9) (S1.1 0 22))))) := by
  refine mc_of2 (own := RX10) (ini := false) (ls := [(0, .ref 0), (1, .int x1)]) (by decide) (Nat.le_of_ble_eq_true rfl) rfl (by decide) rfl ?_
  have hF : fr [] [18, 19, 20, 21, 22, 23] true true S S := fr_rf
  refine mw_aload_n dX10_isTold_0 rfl 0 rfl ?_
  refine tc_Vv (as := []) (st := []) dX10_isTold_1 rfl shM_0 rfl rfl mX10_115 t_X10_step rfl (Nat.le_of_ble_eq_true rfl) (by decide) (by decide) (c_X10_step (g := g) S hI) (fun S101 h102 => ?_)
  obtain ⟨hI104, hf105, x103⟩ := h102
  have hF106 := fr_tr hF hf105 (by decide) (by decide) (by decide) (by decide)
  refine mw_aload_n dX10_isTold_4 rfl 0 rfl ?_
  refine tw_geti (j := 20) dX10_isTold_5 shM_0 rfl rfl (by decide) fX10_99 (fun v107 ev107 => ?_)
  have b108 : mm_b (-1) (255) v107 := JIM_fld hI104 ev107 tbM_7 (by decide)
  refine mw_bipush dX10_isTold_8 kb_48 ?_
  refine mw_icmp_eq (tgt := 19) dX10_isTold_10 (by decide) (fun q109 => ?_) (fun q109 => ?_)
  · skip
    have b110 : mm_b (48) (48) v107 := bd_eq_l q109 b108 n_48 (by decide)
    refine mw_aload_n dX10_isTold_19 rfl 0 rfl ?_
    refine tw_geti (j := 21) dX10_isTold_20 shM_0 rfl rfl (by decide) fX10_102 (fun v111 ev111 => ?_)
    refine mw_iconst dX10_isTold_23 ki_4 ?_
    refine mw_icmp_ge (tgt := 57) dX10_isTold_24 (by decide) (fun q112 => ?_) (fun q112 => ?_)
    · skip
      have b113 : mm_b (4) (2147483647) v111 := bd_le_r q112 n_4 (bd_all v111) (by decide)
      refine mw_iconst dX10_isTold_57 ki_0 ?_
      refine mw_istore_n (ls' := [(2, .int 0), (0, .ref 0), (1, .int x1)]) dX10_isTold_58 rfl (by decide) rfl ?_
      refine mw_iload_n dX10_isTold_59 rfl 0 rfl ?_
      refine mw_if_ne (tgt := 71) dX10_isTold_60 (by decide) (fun q114 => ?_) (fun q114 => ?_)
      · skip
        exact bd_fne q114 n_0 n_0
      · skip
        refine mw_aload_n dX10_isTold_63 rfl 1 rfl ?_
        refine mw_iconst dX10_isTold_64 ki_2 ?_
        refine tc_Vi (as := [.int 2]) (st := []) dX10_isTold_65 rfl shM_0 rfl rfl mX10_118 t_X10_fails rfl (Nat.le_of_ble_eq_true rfl) (by decide) (by decide) (c_X10_fails (g := g) S101 hI104 (2 : Int32)) (fun S115 v117 h116 => ?_)
        obtain ⟨hI121, hf122, b118, x119⟩ := h116
        have hF123 := fr_tr hF106 hf122 (by decide) (by decide) (by decide) (by decide)
        refine mw_if_eq (tgt := 75) dX10_isTold_68 (by decide) (fun q124 => ?_) (fun q124 => ?_)
        · skip
          refine mw_iconst dX10_isTold_75 ki_0 ?_
          exact mw_zret rfl (bd_nar n_0 (by decide)) dX10_isTold_76 rfl rfl ⟨S115, _, rfl, rfl, hI121, hF123, bd_w n_0 (by decide), Or.inl rfl⟩
        · skip
          exact bd_fne q124 b118 n_0
    · skip
      have b125 : mm_b (-2147483648) (3) v111 := bd_lt_l (bd_nle q112) (bd_all v111) n_4 (by decide)
      refine mw_aload_n dX10_isTold_27 rfl 0 rfl ?_
      refine tw_geti (j := 22) dX10_isTold_28 shM_0 rfl rfl (by decide) fX10_105 (fun v126 ev126 => ?_)
      have b127 : mm_b (0) (999) v126 := JIM_fld hI104 ev126 tbM_8 (by decide)
      refine mw_aload_n dX10_isTold_31 rfl 0 rfl ?_
      refine tw_getr (j := 1) dX10_isTold_32 shM_0 rfl rfl (by decide) fX10_13 ?_
      refine mw_iconst dX10_isTold_35 ki_0 ?_
      refine tw_iald dX10_isTold_36 shM_2 (bd_in n_0 (by decide)) (fun v128 ev128 => ?_)
      rw [cl_0] at ev128
      have b129 : mm_b (0) (7) v128 := JIM_fld hI104 ev128 tbM_23 (by decide)
      refine mw_icmp_lt (tgt := 53) dX10_isTold_37 (by decide) (fun q130 => ?_) (fun q130 => ?_)
      · skip
        have b131 : mm_b (0) (6) v126 := bd_lt_l q130 b127 b129 (by decide)
        have b132 : mm_b (1) (7) v128 := bd_lt_r q130 b127 b129 (by decide)
        refine mw_iconst dX10_isTold_53 ki_1 ?_
        refine mw_goto (tgt := 58) dX10_isTold_54 (by decide) ?_
        refine mw_istore_n (ls' := [(2, .int 1), (0, .ref 0), (1, .int x1)]) dX10_isTold_58 rfl (by decide) rfl ?_
        refine mw_iload_n dX10_isTold_59 rfl 0 rfl ?_
        refine mw_if_ne (tgt := 71) dX10_isTold_60 (by decide) (fun q133 => ?_) (fun q133 => ?_)
        · skip
          refine mw_iconst dX10_isTold_71 ki_1 ?_
          refine mw_goto (tgt := 76) dX10_isTold_72 (by decide) ?_
          exact mw_zret rfl (bd_nar n_1 (by decide)) dX10_isTold_76 rfl rfl ⟨S101, _, rfl, rfl, hI104, hF106, bd_w n_1 (by decide), Or.inr (by rw [← ev126]; exact bd_w b131 (by decide))⟩
        · skip
          exact bd_feq q133 n_1 n_0 (by decide)
      · skip
        refine mw_iload_n dX10_isTold_40 rfl 1 rfl ?_
        refine mw_if_eq (tgt := 57) dX10_isTold_41 (by decide) (fun q134 => ?_) (fun q134 => ?_)
        · skip
          exact bd_feq q134 h1 n_0 (by decide)
        · skip
          refine mw_aload_n dX10_isTold_44 rfl 0 rfl ?_
          refine tw_geti (j := 22) dX10_isTold_45 shM_0 rfl rfl (by decide) fX10_105 (fun v135 ev135 => ?_)
          have cv135 : v126 = v135 := ev126.trans ev135.symm
          subst cv135
          refine mw_bipush dX10_isTold_48 kb_9 ?_
          refine mw_icmp_ne (tgt := 57) dX10_isTold_50 (by decide) (fun q136 => ?_) (fun q136 => ?_)
          · skip
            refine mw_iconst dX10_isTold_57 ki_0 ?_
            refine mw_istore_n (ls' := [(2, .int 0), (0, .ref 0), (1, .int x1)]) dX10_isTold_58 rfl (by decide) rfl ?_
            refine mw_iload_n dX10_isTold_59 rfl 0 rfl ?_
            refine mw_if_ne (tgt := 71) dX10_isTold_60 (by decide) (fun q137 => ?_) (fun q137 => ?_)
            · skip
              exact bd_fne q137 n_0 n_0
            · skip
              refine mw_aload_n dX10_isTold_63 rfl 1 rfl ?_
              refine mw_iconst dX10_isTold_64 ki_2 ?_
              refine tc_Vi (as := [.int 2]) (st := []) dX10_isTold_65 rfl shM_0 rfl rfl mX10_118 t_X10_fails rfl (Nat.le_of_ble_eq_true rfl) (by decide) (by decide) (c_X10_fails (g := g) S101 hI104 (2 : Int32)) (fun S138 v140 h139 => ?_)
              obtain ⟨hI144, hf145, b141, x142⟩ := h139
              have hF146 := fr_tr hF106 hf145 (by decide) (by decide) (by decide) (by decide)
              refine mw_if_eq (tgt := 75) dX10_isTold_68 (by decide) (fun q147 => ?_) (fun q147 => ?_)
              · skip
                refine mw_iconst dX10_isTold_75 ki_0 ?_
                exact mw_zret rfl (bd_nar n_0 (by decide)) dX10_isTold_76 rfl rfl ⟨S138, _, rfl, rfl, hI144, hF146, bd_w n_0 (by decide), Or.inl rfl⟩
              · skip
                exact bd_fne q147 b141 n_0
          · skip
            have b148 : mm_b (9) (9) v126 := bd_eq_l q136 b127 n_9 (by decide)
            refine mw_iconst dX10_isTold_53 ki_1 ?_
            refine mw_goto (tgt := 58) dX10_isTold_54 (by decide) ?_
            refine mw_istore_n (ls' := [(2, .int 1), (0, .ref 0), (1, .int x1)]) dX10_isTold_58 rfl (by decide) rfl ?_
            refine mw_iload_n dX10_isTold_59 rfl 0 rfl ?_
            refine mw_if_ne (tgt := 71) dX10_isTold_60 (by decide) (fun q149 => ?_) (fun q149 => ?_)
            · skip
              refine mw_iconst dX10_isTold_71 ki_1 ?_
              refine mw_goto (tgt := 76) dX10_isTold_72 (by decide) ?_
              exact mw_zret rfl (bd_nar n_1 (by decide)) dX10_isTold_76 rfl rfl ⟨S101, _, rfl, rfl, hI104, hF106, bd_w n_1 (by decide), Or.inr (by rw [← ev126]; exact bd_w b148 (by decide))⟩
            · skip
              exact bd_feq q149 n_1 n_0 (by decide)
  · skip
    refine mw_aload_n dX10_isTold_13 rfl 0 rfl ?_
    refine mw_iconst dX10_isTold_14 ki_1 ?_
    refine tc_Vi (as := [.int 1]) (st := []) dX10_isTold_15 rfl shM_0 rfl rfl mX10_118 t_X10_fails rfl (Nat.le_of_ble_eq_true rfl) (by decide) (by decide) (c_X10_fails (g := g) S101 hI104 (1 : Int32)) (fun S150 v152 h151 => ?_)
    obtain ⟨hI156, hf157, b153, x154⟩ := h151
    have hF158 := fr_tr hF106 hf157 (by decide) (by decide) (by decide) (by decide)
    exact mw_zret rfl (bd_nar b153 (by decide)) dX10_isTold_18 rfl rfl ⟨S150, _, rfl, rfl, hI156, hF158, bd_w b153 (by decide), Or.inl (bd_zero b153)⟩
set_option maxRecDepth 100000 in
set_option maxHeartbeats 4000000 in
theorem c_X10_readsWill {g : mm_G} (S : mm_S) (hI : JM S)  : mc g yX10_readsWill cX10_readsWill 3 (some .boolean) (mm_rm 3) [.ref 0] (mm_enc shM S) (qi shM (fun S1 v => JM S1 ∧ fr [2] [18, 19, 20, 21, 22, 23] true true S S1 ∧ mm_b (0) (1) v ∧ (True))) := by
  refine mc_of2 (own := RX10) (ini := false) (ls := [(0, .ref 0)]) (by decide) (Nat.le_of_ble_eq_true rfl) rfl (by decide) rfl ?_
  have hF : fr [2] [18, 19, 20, 21, 22, 23] true true S S := fr_rf
  refine mw_aload_n dX10_readsWill_0 rfl 0 rfl ?_
  refine mw_iconst dX10_readsWill_1 ki_0 ?_
  refine tc_Vi (as := [.int 0]) (st := []) dX10_readsWill_2 rfl shM_0 rfl rfl mX10_130 t_X10_isTold rfl (Nat.le_of_ble_eq_true rfl) (by decide) (by decide) (c_X10_isTold_0 (g := g) S hI (0 : Int32) n_0) (fun S101 v103 h102 => ?_)
  obtain ⟨hI107, hf108, b104, x105⟩ := h102
  have hF109 := fr_tr hF hf108 (by decide) (by decide) (by decide) (by decide)
  refine mw_if_ne (tgt := 10) dX10_readsWill_5 (by decide) (fun q110 => ?_) (fun q110 => ?_)
  · skip
    have b111 : mm_b (1) (1) v103 := bd_ne_l q110 b104 n_0 (by decide)
    have b112 := Or.resolve_left x105 q110
    obtain ⟨v113, ev113⟩ : ∃ y : Int32, y = S101.1 0 22 := ⟨_, rfl⟩
    have b114 : mm_b (0) (6) v113 := by rw [ev113]; exact b112
    refine mw_aload_n dX10_readsWill_10 rfl 0 rfl ?_
    refine tw_geti (j := 22) dX10_readsWill_11 shM_0 rfl rfl (by decide) fX10_105 (fun v115 ev115 => ?_)
    have cv115 : v113 = v115 := ev113.trans ev115.symm
    subst cv115
    refine mw_istore_n (ls' := [(1, .int v113), (0, .ref 0)]) dX10_readsWill_14 rfl (by decide) rfl ?_
    refine mw_aload_n dX10_readsWill_15 rfl 1 rfl ?_
    refine tw_getr (j := 1) dX10_readsWill_16 shM_0 rfl rfl (by decide) fX10_13 ?_
    refine mw_bipush dX10_readsWill_19 kb_24 ?_
    refine tw_iald dX10_readsWill_21 shM_2 (bd_in n_24 (by decide)) (fun v116 ev116 => ?_)
    rw [cl_24] at ev116
    refine mw_iload_n dX10_readsWill_22 rfl 0 rfl ?_
    refine tc_Si (as := [.int v116, .int v113]) (st := []) dX10_readsWill_23 rfl mX10_134 t_X10_isIn rfl (Nat.le_of_ble_eq_true rfl) (by decide) (by decide) (c_X10_isIn (g := g) S101 hI107 v116 v113) (fun S117 v119 h118 => ?_)
    obtain ⟨rfl, b120, x121⟩ := h118
    refine mw_if_eq (tgt := 35) dX10_readsWill_26 (by decide) (fun q122 => ?_) (fun q122 => ?_)
    · skip
      have b123 : mm_b (0) (0) v119 := bd_eq_l q122 b120 n_0 (by decide)
      refine mw_aload_n dX10_readsWill_35 rfl 1 rfl ?_
      refine tw_getr (j := 1) dX10_readsWill_36 shM_0 rfl rfl (by decide) fX10_13 ?_
      refine mw_bipush dX10_readsWill_39 kb_24 ?_
      refine mw_dup2 dX10_readsWill_41 rfl rfl ?_
      refine tw_iald dX10_readsWill_42 shM_2 (bd_in n_24 (by decide)) (fun v124 ev124 => ?_)
      rw [cl_24] at ev124
      have cv124 : v116 = v124 := ev116.trans ev124.symm
      subst cv124
      refine mw_iconst dX10_readsWill_43 ki_1 ?_
      refine mw_iload_n dX10_readsWill_44 rfl 0 rfl ?_
      refine mw_ishl dX10_readsWill_45 (fun v125 ev125 => ?_)
      have b126 : mm_b (1) (64) v125 := bd_shl 6 ev125 b114 (by decide)
      refine mw_ior dX10_readsWill_46 (fun v127 ev127 => ?_)
      refine tw_iast dX10_readsWill_47 shM_2 (bd_in n_24 (by decide)) ?_
      rw [cl_24]
      have hI128 : JM (mm_up S101 2 24 v127) := JIM_put hI107 (bd_all v127) (by decide +kernel)
      generalize hS129 : (mm_up S101 2 24 v127) = S129 at hI128 ⊢
      have hF130 := fr_upA hF109 hS129 (by decide)
      refine mw_iconst dX10_readsWill_48 ki_0 ?_
      refine mw_istore_n (ls' := [(2, .int 0), (1, .int v113), (0, .ref 0)]) dX10_readsWill_49 rfl (by decide) rfl ?_
      have cut50 : ∀ (N50 : Nat) (S131 : mm_S) (y134 y136 : Int32), ((3 : Int) - y136.toInt).toNat < N50 → JM S131 → fr [2] [18, 19, 20, 21, 22, 23] true true S S131 → mm_b (0) (6) y134 → mm_b (0) (2) y136 → mw g RX10 cX10_readsWill 3 (some .boolean) false (mm_rm 3) (qi shM (fun S1 v => JM S1 ∧ fr [2] [18, 19, 20, 21, 22, 23] true true S S1 ∧ mm_b (0) (1) v ∧ (True))) 0 0 (mm_enc shM S131) 50 [(0, .ref 0), (1, .int y134), (2, .int y136)] [] := by
        intro N50
        induction N50 with
        | zero =>
          intro S131 y134 y136 hm138 hI132 hF133 b135 b137
          exact absurd hm138 (Nat.not_lt_zero _)
        | succ N50 ih50 =>
          intro S131 y134 y136 hm138 hI132 hF133 b135 b137
          refine mw_iload_n dX10_readsWill_50 rfl 2 rfl ?_
          refine mw_iconst dX10_readsWill_51 ki_2 ?_
          refine mw_icmp_ge (tgt := 103) dX10_readsWill_52 (by decide) (fun q139 => ?_) (fun q139 => ?_)
          · skip
            have b140 : mm_b (2) (2) y136 := bd_le_r q139 n_2 b137 (by decide)
            refine mw_aload_n dX10_readsWill_103 rfl 0 rfl ?_
            refine tc_Vi (as := []) (st := []) dX10_readsWill_104 rfl shM_0 rfl rfl mX10_126 t_X10_ends rfl (Nat.le_of_ble_eq_true rfl) (by decide) (by decide) (c_X10_ends (g := g) S131 hI132) (fun S141 v143 h142 => ?_)
            obtain ⟨hI147, hf148, b144, x145⟩ := h142
            have hF149 := fr_tr hF133 hf148 (by decide) (by decide) (by decide) (by decide)
            exact mw_zret rfl (bd_nar b144 (by decide)) dX10_readsWill_107 rfl rfl ⟨S141, _, rfl, rfl, hI147, hF149, b144, trivial⟩
          · skip
            have b150 : mm_b (0) (1) y136 := bd_lt_l (bd_nle q139) b137 n_2 (by decide)
            refine mw_aload_n dX10_readsWill_55 rfl 0 rfl ?_
            refine mw_iconst dX10_readsWill_56 ki_1 ?_
            refine tc_Vi (as := [.int 1]) (st := []) dX10_readsWill_57 rfl shM_0 rfl rfl mX10_130 t_X10_isTold rfl (Nat.le_of_ble_eq_true rfl) (by decide) (by decide) (c_X10_isTold_1 (g := g) S131 hI132 (1 : Int32) n_1) (fun S151 v153 h152 => ?_)
            obtain ⟨hI157, hf158, b154, x155⟩ := h152
            have hF159 := fr_tr hF133 hf158 (by decide) (by decide) (by decide) (by decide)
            refine mw_if_ne (tgt := 65) dX10_readsWill_60 (by decide) (fun q160 => ?_) (fun q160 => ?_)
            · skip
              have b161 : mm_b (1) (1) v153 := bd_ne_l q160 b154 n_0 (by decide)
              have b162 := Or.resolve_left x155 q160
              obtain ⟨v163, ev163⟩ : ∃ y : Int32, y = S151.1 0 22 := ⟨_, rfl⟩
              have b164 : mm_b (0) (9) v163 := by rw [ev163]; exact b162
              refine mw_aload_n dX10_readsWill_65 rfl 0 rfl ?_
              refine tw_geti (j := 22) dX10_readsWill_66 shM_0 rfl rfl (by decide) fX10_105 (fun v165 ev165 => ?_)
              have cv165 : v163 = v165 := ev163.trans ev165.symm
              subst cv165
              refine mw_iload_n dX10_readsWill_69 rfl 1 rfl ?_
              refine mw_icmp_ne (tgt := 79) dX10_readsWill_70 (by decide) (fun q166 => ?_) (fun q166 => ?_)
              · skip
                refine mw_aload_n dX10_readsWill_79 rfl 0 rfl ?_
                refine tw_getr (j := 1) dX10_readsWill_80 shM_0 rfl rfl (by decide) fX10_13 ?_
                refine mw_bipush dX10_readsWill_83 kb_10 ?_
                refine mw_bipush dX10_readsWill_85 kb_7 ?_
                refine mw_iload_n dX10_readsWill_87 rfl 2 rfl ?_
                refine mw_imul dX10_readsWill_88 (fun v167 ev167 => ?_)
                have b168 : mm_b (0) (7) v167 := bd_mul ev167 n_7 b150 (by decide)
                refine mw_iadd dX10_readsWill_89 (fun v169 ev169 => ?_)
                have b170 : mm_b (10) (17) v169 := bd_add ev169 n_10 b168 (by decide)
                refine mw_iload_n dX10_readsWill_90 rfl 1 rfl ?_
                refine mw_iadd dX10_readsWill_91 (fun v171 ev171 => ?_)
                have b172 : mm_b (10) (23) v171 := bd_add ev171 b170 b135 (by decide)
                refine mw_aload_n dX10_readsWill_92 rfl 0 rfl ?_
                refine tw_geti (j := 22) dX10_readsWill_93 shM_0 rfl rfl (by decide) fX10_105 (fun v173 ev173 => ?_)
                have cv173 : v163 = v173 := ev163.trans ev173.symm
                subst cv173
                refine tw_iast dX10_readsWill_96 shM_2 (bd_in b172 (by decide)) ?_
                have hI174 : JM (mm_up S151 2 v171.toNatClampNeg v163) := JIM_puta hI157 b164 b172 (by decide) (by decide +kernel)
                generalize hS175 : (mm_up S151 2 v171.toNatClampNeg v163) = S175 at hI174 ⊢
                have hF176 := fr_upA hF159 hS175 (by decide)
                refine mw_iinc (ls' := fun v => [(2, .int v), (0, .ref 0), (1, .int y134)]) dX10_readsWill_97 2 rfl (by decide) (fun _ => rfl) (fun v177 ev177 => ?_)
                have b178 : mm_b (1) (2) v177 := bd_inc ev177 b150 (by decide)
                refine mw_goto (tgt := 50) dX10_readsWill_100 (by decide) ?_
                refine mw_ls [1, 2, 0] rfl ?_
                exact ih50 S175 y134 v177 (ms_inc ev177 b150 (by decide) hm138) hI174 hF176 b135 (bd_w b178 (by decide))
              · skip
                have b179 : mm_b (0) (6) v163 := bd_eq_l q166 b164 b135 (by decide)
                refine mw_aload_n dX10_readsWill_73 rfl 0 rfl ?_
                refine mw_iconst dX10_readsWill_74 ki_4 ?_
                refine tc_Vi (as := [.int 4]) (st := []) dX10_readsWill_75 rfl shM_0 rfl rfl mX10_118 t_X10_fails rfl (Nat.le_of_ble_eq_true rfl) (by decide) (by decide) (c_X10_fails (g := g) S151 hI157 (4 : Int32)) (fun S180 v182 h181 => ?_)
                obtain ⟨hI186, hf187, b183, x184⟩ := h181
                have hF188 := fr_tr hF159 hf187 (by decide) (by decide) (by decide) (by decide)
                exact mw_zret rfl (bd_nar b183 (by decide)) dX10_readsWill_78 rfl rfl ⟨S180, _, rfl, rfl, hI186, hF188, bd_w b183 (by decide), trivial⟩
            · skip
              have b189 : mm_b (0) (0) v153 := bd_eq_l q160 b154 n_0 (by decide)
              refine mw_iconst dX10_readsWill_63 ki_0 ?_
              exact mw_zret rfl (bd_nar n_0 (by decide)) dX10_readsWill_64 rfl rfl ⟨S151, _, rfl, rfl, hI157, hF159, bd_w n_0 (by decide), trivial⟩
      refine mw_ls [2, 1, 0] rfl ?_
      exact cut50 _ S129 v113 (0 : Int32) (Nat.lt_succ_self _) hI128 hF130 b114 (bd_w n_0 (by decide))
    · skip
      have b190 : mm_b (1) (1) v119 := bd_ne_l q122 b120 n_0 (by decide)
      refine mw_aload_n dX10_readsWill_29 rfl 1 rfl ?_
      refine mw_iconst dX10_readsWill_30 ki_4 ?_
      refine tc_Vi (as := [.int 4]) (st := []) dX10_readsWill_31 rfl shM_0 rfl rfl mX10_118 t_X10_fails rfl (Nat.le_of_ble_eq_true rfl) (by decide) (by decide) (c_X10_fails (g := g) S101 hI107 (4 : Int32)) (fun S191 v193 h192 => ?_)
      obtain ⟨hI197, hf198, b194, x195⟩ := h192
      have hF199 := fr_tr hF109 hf198 (by decide) (by decide) (by decide) (by decide)
      exact mw_zret rfl (bd_nar b194 (by decide)) dX10_readsWill_34 rfl rfl ⟨S191, _, rfl, rfl, hI197, hF199, bd_w b194 (by decide), trivial⟩
  · skip
    have b200 : mm_b (0) (0) v103 := bd_eq_l q110 b104 n_0 (by decide)
    refine mw_iconst dX10_readsWill_8 ki_0 ?_
    exact mw_zret rfl (bd_nar n_0 (by decide)) dX10_readsWill_9 rfl rfl ⟨S101, _, rfl, rfl, hI107, hF109, bd_w n_0 (by decide), trivial⟩
set_option maxRecDepth 100000 in
set_option maxHeartbeats 4000000 in
theorem c_X10_readsDoor {g : mm_G} (S : mm_S) (hI : JM S)  : mc g yX10_readsDoor cX10_readsDoor 2 (some .boolean) (mm_rm 3) [.ref 0] (mm_enc shM S) (qi shM (fun S1 v => JM S1 ∧ fr [2] [18, 19, 20, 21, 22, 23] true true S S1 ∧ mm_b (0) (1) v ∧ (True))) := by
  refine mc_of2 (own := RX10) (ini := false) (ls := [(0, .ref 0)]) (by decide) (Nat.le_of_ble_eq_true rfl) rfl (by decide) rfl ?_
  have hF : fr [2] [18, 19, 20, 21, 22, 23] true true S S := fr_rf
  refine mw_aload_n dX10_readsDoor_0 rfl 0 rfl ?_
  refine tw_getr (j := 1) dX10_readsDoor_1 shM_0 rfl rfl (by decide) fX10_13 ?_
  refine mw_iconst dX10_readsDoor_4 ki_1 ?_
  refine tw_iald dX10_readsDoor_5 shM_2 (bd_in n_1 (by decide)) (fun v101 ev101 => ?_)
  rw [cl_1] at ev101
  have b102 : mm_b (0) (6) v101 := JIM_fld hI ev101 tbM_24 (by decide)
  refine mw_istore_n (ls' := [(1, .int v101), (0, .ref 0)]) dX10_readsDoor_6 rfl (by decide) rfl ?_
  refine mw_iload_n dX10_readsDoor_7 rfl 0 rfl ?_
  refine mw_bipush dX10_readsDoor_8 kb_6 ?_
  refine mw_icmp_ne (tgt := 19) dX10_readsDoor_10 (by decide) (fun q103 => ?_) (fun q103 => ?_)
  · skip
    have b104 : mm_b (0) (5) v101 := bd_ne_l q103 b102 n_6 (by decide)
    refine mw_aload_n dX10_readsDoor_19 rfl 1 rfl ?_
    refine tw_getr (j := 1) dX10_readsDoor_20 shM_0 rfl rfl (by decide) fX10_13 ?_
    refine mw_iconst dX10_readsDoor_23 ki_1 ?_
    refine mw_dup2 dX10_readsDoor_24 rfl rfl ?_
    refine tw_iald dX10_readsDoor_25 shM_2 (bd_in n_1 (by decide)) (fun v105 ev105 => ?_)
    rw [cl_1] at ev105
    have cv105 : v101 = v105 := ev101.trans ev105.symm
    subst cv105
    refine mw_iconst dX10_readsDoor_26 ki_1 ?_
    refine mw_iadd dX10_readsDoor_27 (fun v106 ev106 => ?_)
    have b107 : mm_b (1) (6) v106 := bd_add ev106 b104 n_1 (by decide)
    refine tw_iast dX10_readsDoor_28 shM_2 (bd_in n_1 (by decide)) ?_
    rw [cl_1]
    have hI108 : JM (mm_up S 2 1 v106) := JIM_put hI b107 (by decide +kernel)
    generalize hS109 : (mm_up S 2 1 v106) = S109 at hI108 ⊢
    have hF110 := fr_upA hF hS109 (by decide)
    refine mw_aload_n dX10_readsDoor_29 rfl 1 rfl ?_
    refine mw_bipush dX10_readsDoor_30 kb_25 ?_
    refine mw_iload_n dX10_readsDoor_32 rfl 0 rfl ?_
    refine mw_iadd dX10_readsDoor_33 (fun v111 ev111 => ?_)
    have b112 : mm_b (25) (30) v111 := bd_add ev111 n_25 b104 (by decide)
    refine mw_iconst dX10_readsDoor_34 ki_0 ?_
    refine mw_bipush dX10_readsDoor_35 kb_127 ?_
    refine tc_Vi (as := [.int v111, .int 0, .int 127]) (st := []) dX10_readsDoor_37 rfl shM_0 rfl rfl mX10_122 t_X10_number rfl (Nat.le_of_ble_eq_true rfl) (by decide) (by decide) (c_X10_number_d (g := g) S109 hI108 v111 b112 (0 : Int32) n_0 (127 : Int32) n_127) (fun S113 v115 h114 => ?_)
    obtain ⟨hI119, hf120, b116, x117, kp118⟩ := h114
    have hF121 := fr_tr hF110 hf120 (by decide) (by decide) (by decide) (by decide)
    refine mw_if_eq (tgt := 54) dX10_readsDoor_40 (by decide) (fun q122 => ?_) (fun q122 => ?_)
    · skip
      have b123 : mm_b (0) (0) v115 := bd_eq_l q122 b116 n_0 (by decide)
      refine mw_iconst dX10_readsDoor_54 ki_0 ?_
      exact mw_zret rfl (bd_nar n_0 (by decide)) dX10_readsDoor_55 rfl rfl ⟨S113, _, rfl, rfl, hI119, hF121, bd_w n_0 (by decide), trivial⟩
    · skip
      have b124 : mm_b (1) (1) v115 := bd_ne_l q122 b116 n_0 (by decide)
      refine mw_aload_n dX10_readsDoor_43 rfl 1 rfl ?_
      refine tc_Vi (as := []) (st := []) dX10_readsDoor_44 rfl shM_0 rfl rfl mX10_126 t_X10_ends rfl (Nat.le_of_ble_eq_true rfl) (by decide) (by decide) (c_X10_ends (g := g) S113 hI119) (fun S125 v127 h126 => ?_)
      obtain ⟨hI131, hf132, b128, x129⟩ := h126
      have hF133 := fr_tr hF121 hf132 (by decide) (by decide) (by decide) (by decide)
      refine mw_if_eq (tgt := 54) dX10_readsDoor_47 (by decide) (fun q134 => ?_) (fun q134 => ?_)
      · skip
        have b135 : mm_b (0) (0) v127 := bd_eq_l q134 b128 n_0 (by decide)
        refine mw_iconst dX10_readsDoor_54 ki_0 ?_
        exact mw_zret rfl (bd_nar n_0 (by decide)) dX10_readsDoor_55 rfl rfl ⟨S125, _, rfl, rfl, hI131, hF133, bd_w n_0 (by decide), trivial⟩
      · skip
        have b136 : mm_b (1) (1) v127 := bd_ne_l q134 b128 n_0 (by decide)
        refine mw_iconst dX10_readsDoor_50 ki_1 ?_
        refine mw_goto (tgt := 55) dX10_readsDoor_51 (by decide) ?_
        exact mw_zret rfl (bd_nar n_1 (by decide)) dX10_readsDoor_55 rfl rfl ⟨S125, _, rfl, rfl, hI131, hF133, bd_w n_1 (by decide), trivial⟩
  · skip
    have b137 : mm_b (6) (6) v101 := bd_eq_l q103 b102 n_6 (by decide)
    refine mw_aload_n dX10_readsDoor_13 rfl 1 rfl ?_
    refine mw_iconst dX10_readsDoor_14 ki_3 ?_
    refine tc_Vi (as := [.int 3]) (st := []) dX10_readsDoor_15 rfl shM_0 rfl rfl mX10_118 t_X10_fails rfl (Nat.le_of_ble_eq_true rfl) (by decide) (by decide) (c_X10_fails (g := g) S hI (3 : Int32)) (fun S138 v140 h139 => ?_)
    obtain ⟨hI144, hf145, b141, x142⟩ := h139
    have hF146 := fr_tr hF hf145 (by decide) (by decide) (by decide) (by decide)
    exact mw_zret rfl (bd_nar b141 (by decide)) dX10_readsDoor_18 rfl rfl ⟨S138, _, rfl, rfl, hI144, hF146, bd_w b141 (by decide), trivial⟩
set_option maxRecDepth 100000 in
set_option maxHeartbeats 4000000 in
theorem c_X10_readsParts {g : mm_G} (S : mm_S) (hI : JM S)  : mc g yX10_readsParts cX10_readsParts 1 (some .boolean) (mm_rm 3) [.ref 0] (mm_enc shM S) (qi shM (fun S1 v => JM S1 ∧ fr [2] [18, 19, 20, 21, 22, 23] true true S S1 ∧ mm_b (0) (1) v ∧ (True))) := by
  refine mc_of2 (own := RX10) (ini := false) (ls := [(0, .ref 0)]) (by decide) (Nat.le_of_ble_eq_true rfl) rfl (by decide) rfl ?_
  have hF : fr [2] [18, 19, 20, 21, 22, 23] true true S S := fr_rf
  refine mw_aload_n dX10_readsParts_0 rfl 0 rfl ?_
  refine tw_getr (j := 1) dX10_readsParts_1 shM_0 rfl rfl (by decide) fX10_13 ?_
  refine mw_iconst dX10_readsParts_4 ki_2 ?_
  refine tw_iald dX10_readsParts_5 shM_2 (bd_in n_2 (by decide)) (fun v101 ev101 => ?_)
  rw [cl_2] at ev101
  have b102 : mm_b (0) (6) v101 := JIM_fld hI ev101 tbM_25 (by decide)
  refine mw_if_le (tgt := 15) dX10_readsParts_6 (by decide) (fun q103 => ?_) (fun q103 => ?_)
  · skip
    have b104 : mm_b (0) (0) v101 := bd_le_l q103 b102 n_0 (by decide)
    have cut15 : ∀ (N15 : Nat) (S105 : mm_S) (y108 : Int32), ((6 : Int) - y108.toInt).toNat < N15 → JM S105 → fr [2] [18, 19, 20, 21, 22, 23] true true S S105 → mm_b (0) (5) y108 → y108 = S105.1 2 2 → mw g RX10 cX10_readsParts 1 (some .boolean) false (mm_rm 3) (qi shM (fun S1 v => JM S1 ∧ fr [2] [18, 19, 20, 21, 22, 23] true true S S1 ∧ mm_b (0) (1) v ∧ (True))) 0 0 (mm_enc shM S105) 15 [(0, .ref 0)] [] := by
      intro N15
      induction N15 with
      | zero =>
        intro S105 y108 hm110 hI106 hF107 b109 ey108
        exact absurd hm110 (Nat.not_lt_zero _)
      | succ N15 ih15 =>
        intro S105 y108 hm110 hI106 hF107 b109 ey108
        refine mw_aload_n dX10_readsParts_15 rfl 0 rfl ?_
        refine mw_bipush dX10_readsParts_16 kb_31 ?_
        refine mw_aload_n dX10_readsParts_18 rfl 0 rfl ?_
        refine tw_getr (j := 1) dX10_readsParts_19 shM_0 rfl rfl (by decide) fX10_13 ?_
        refine mw_iconst dX10_readsParts_22 ki_2 ?_
        refine tw_iald dX10_readsParts_23 shM_2 (bd_in n_2 (by decide)) (fun v111 ev111 => ?_)
        rw [cl_2] at ev111
        have cv111 : y108 = v111 := ey108.trans ev111.symm
        subst cv111
        refine mw_iadd dX10_readsParts_24 (fun v112 ev112 => ?_)
        have b113 : mm_b (31) (36) v112 := bd_add ev112 n_31 b109 (by decide)
        refine mw_iconst dX10_readsParts_25 ki_0 ?_
        refine mw_bipush dX10_readsParts_26 kb_8 ?_
        refine tc_Vi (as := [.int v112, .int 0, .int 8]) (st := []) dX10_readsParts_28 rfl shM_0 rfl rfl mX10_122 t_X10_number rfl (Nat.le_of_ble_eq_true rfl) (by decide) (by decide) (c_X10_number_p (g := g) S105 hI106 v112 b113 (0 : Int32) n_0 (8 : Int32) n_8) (fun S114 v116 h115 => ?_)
        obtain ⟨hI120, hf121, b117, x118, kp119⟩ := h115
        have hF122 := fr_tr hF107 hf121 (by decide) (by decide) (by decide) (by decide)
        refine mw_if_eq (tgt := 85) dX10_readsParts_31 (by decide) (fun q123 => ?_) (fun q123 => ?_)
        · skip
          have b124 : mm_b (0) (0) v116 := bd_eq_l q123 b117 n_0 (by decide)
          refine mw_iconst dX10_readsParts_85 ki_0 ?_
          exact mw_zret rfl (bd_nar n_0 (by decide)) dX10_readsParts_86 rfl rfl ⟨S114, _, rfl, rfl, hI120, hF122, bd_w n_0 (by decide), trivial⟩
        · skip
          have b125 : mm_b (1) (1) v116 := bd_ne_l q123 b117 n_0 (by decide)
          refine mw_aload_n dX10_readsParts_34 rfl 0 rfl ?_
          refine tw_getr (j := 1) dX10_readsParts_35 shM_0 rfl rfl (by decide) fX10_13 ?_
          refine mw_iconst dX10_readsParts_38 ki_2 ?_
          refine mw_dup2 dX10_readsParts_39 rfl rfl ?_
          refine tw_iald dX10_readsParts_40 shM_2 (bd_in n_2 (by decide)) (fun v126 ev126 => ?_)
          rw [cl_2] at ev126
          have cv126 : y108 = v126 := (ey108.trans kp119.2.2).trans ev126.symm
          subst cv126
          refine mw_iconst dX10_readsParts_41 ki_1 ?_
          refine mw_iadd dX10_readsParts_42 (fun v127 ev127 => ?_)
          have b128 : mm_b (1) (6) v127 := bd_add ev127 b109 n_1 (by decide)
          refine tw_iast dX10_readsParts_43 shM_2 (bd_in n_2 (by decide)) ?_
          rw [cl_2]
          have hI129 : JM (mm_up S114 2 2 v127) := JIM_put hI120 b128 (by decide +kernel)
          generalize hS130 : (mm_up S114 2 2 v127) = S130 at hI129 ⊢
          have hF131 := fr_upA hF122 hS130 (by decide)
          refine mw_aload_n dX10_readsParts_44 rfl 0 rfl ?_
          refine tc_Vv (as := []) (st := []) dX10_readsParts_45 rfl shM_0 rfl rfl mX10_115 t_X10_step rfl (Nat.le_of_ble_eq_true rfl) (by decide) (by decide) (c_X10_step (g := g) S130 hI129) (fun S132 h133 => ?_)
          obtain ⟨hI135, hf136, x134⟩ := h133
          have hF137 := fr_tr hF131 hf136 (by decide) (by decide) (by decide) (by decide)
          refine mw_aload_n dX10_readsParts_48 rfl 0 rfl ?_
          refine tw_geti (j := 20) dX10_readsParts_49 shM_0 rfl rfl (by decide) fX10_99 (fun v138 ev138 => ?_)
          have b139 : mm_b (-1) (255) v138 := JIM_fld hI135 ev138 tbM_7 (by decide)
          refine mw_bipush dX10_readsParts_52 kb_59 ?_
          refine mw_icmp_ne (tgt := 59) dX10_readsParts_54 (by decide) (fun q140 => ?_) (fun q140 => ?_)
          · skip
            refine mw_aload_n dX10_readsParts_59 rfl 0 rfl ?_
            refine tw_geti (j := 20) dX10_readsParts_60 shM_0 rfl rfl (by decide) fX10_99 (fun v141 ev141 => ?_)
            have cv141 : v138 = v141 := ev138.trans ev141.symm
            subst cv141
            refine mw_bipush dX10_readsParts_63 kb_44 ?_
            refine mw_icmp_ne (tgt := 79) dX10_readsParts_65 (by decide) (fun q142 => ?_) (fun q142 => ?_)
            · skip
              refine mw_aload_n dX10_readsParts_79 rfl 0 rfl ?_
              refine mw_iconst dX10_readsParts_80 ki_1 ?_
              refine tc_Vi (as := [.int 1]) (st := []) dX10_readsParts_81 rfl shM_0 rfl rfl mX10_118 t_X10_fails rfl (Nat.le_of_ble_eq_true rfl) (by decide) (by decide) (c_X10_fails (g := g) S132 hI135 (1 : Int32)) (fun S143 v145 h144 => ?_)
              obtain ⟨hI149, hf150, b146, x147⟩ := h144
              have hF151 := fr_tr hF137 hf150 (by decide) (by decide) (by decide) (by decide)
              exact mw_zret rfl (bd_nar b146 (by decide)) dX10_readsParts_84 rfl rfl ⟨S143, _, rfl, rfl, hI149, hF151, bd_w b146 (by decide), trivial⟩
            · skip
              have b152 : mm_b (44) (44) v138 := bd_eq_l q142 b139 n_44 (by decide)
              refine mw_aload_n dX10_readsParts_68 rfl 0 rfl ?_
              refine tw_getr (j := 1) dX10_readsParts_69 shM_0 rfl rfl (by decide) fX10_13 ?_
              refine mw_iconst dX10_readsParts_72 ki_2 ?_
              refine tw_iald dX10_readsParts_73 shM_2 (bd_in n_2 (by decide)) (fun v153 ev153 => ?_)
              rw [cl_2] at ev153
              have cv153 : v127 = v153 := ((up_eq hS130).trans (fr_A hf136 (by decide) (by decide))).trans ev153.symm
              subst cv153
              refine mw_bipush dX10_readsParts_74 kb_6 ?_
              refine mw_icmp_ne (tgt := 15) dX10_readsParts_76 (by decide) (fun q154 => ?_) (fun q154 => ?_)
              · skip
                have b155 : mm_b (1) (5) v127 := bd_ne_l q154 b128 n_6 (by decide)
                exact ih15 S132 v127 (ms_add ev127 b109 n_1 (by decide) hm110) hI135 hF137 (bd_w b155 (by decide)) ((up_eq hS130).trans (fr_A hf136 (by decide) (by decide)))
              · skip
                have b156 : mm_b (6) (6) v127 := bd_eq_l q154 b128 n_6 (by decide)
                refine mw_aload_n dX10_readsParts_79 rfl 0 rfl ?_
                refine mw_iconst dX10_readsParts_80 ki_1 ?_
                refine tc_Vi (as := [.int 1]) (st := []) dX10_readsParts_81 rfl shM_0 rfl rfl mX10_118 t_X10_fails rfl (Nat.le_of_ble_eq_true rfl) (by decide) (by decide) (c_X10_fails (g := g) S132 hI135 (1 : Int32)) (fun S157 v159 h158 => ?_)
                obtain ⟨hI163, hf164, b160, x161⟩ := h158
                have hF165 := fr_tr hF137 hf164 (by decide) (by decide) (by decide) (by decide)
                exact mw_zret rfl (bd_nar b160 (by decide)) dX10_readsParts_84 rfl rfl ⟨S157, _, rfl, rfl, hI163, hF165, bd_w b160 (by decide), trivial⟩
          · skip
            have b166 : mm_b (59) (59) v138 := bd_eq_l q140 b139 n_59 (by decide)
            refine mw_iconst dX10_readsParts_57 ki_1 ?_
            exact mw_zret rfl (bd_nar n_1 (by decide)) dX10_readsParts_58 rfl rfl ⟨S132, _, rfl, rfl, hI135, hF137, bd_w n_1 (by decide), trivial⟩
    exact cut15 _ S v101 (Nat.lt_succ_self _) hI hF (bd_w b104 (by decide)) ev101
  · skip
    have b167 : mm_b (1) (6) v101 := bd_lt_r (bd_nle q103) n_0 b102 (by decide)
    refine mw_aload_n dX10_readsParts_9 rfl 0 rfl ?_
    refine mw_iconst dX10_readsParts_10 ki_3 ?_
    refine tc_Vi (as := [.int 3]) (st := []) dX10_readsParts_11 rfl shM_0 rfl rfl mX10_118 t_X10_fails rfl (Nat.le_of_ble_eq_true rfl) (by decide) (by decide) (c_X10_fails (g := g) S hI (3 : Int32)) (fun S168 v170 h169 => ?_)
    obtain ⟨hI174, hf175, b171, x172⟩ := h169
    have hF176 := fr_tr hF hf175 (by decide) (by decide) (by decide) (by decide)
    exact mw_zret rfl (bd_nar b171 (by decide)) dX10_readsParts_14 rfl rfl ⟨S168, _, rfl, rfl, hI174, hF176, bd_w b171 (by decide), trivial⟩
set_option maxRecDepth 100000 in
set_option maxHeartbeats 4000000 in
theorem c_X10_readsClause {g : mm_G} (S : mm_S) (hI : JM S)  : mc g yX10_readsClause cX10_readsClause 1 (some .boolean) (mm_rm 4) [.ref 0] (mm_enc shM S) (qi shM (fun S1 v => JM S1 ∧ fr [2] [18, 19, 20, 21, 22, 23] true true S S1 ∧ mm_b (0) (1) v ∧ (v = 0 ∨ (mm_b (99) (119) (S.1 0 20))))) := by
  refine mc_of2 (own := RX10) (ini := false) (ls := [(0, .ref 0)]) (by decide) (Nat.le_of_ble_eq_true rfl) rfl (by decide) rfl ?_
  have hF : fr [2] [18, 19, 20, 21, 22, 23] true true S S := fr_rf
  refine mw_aload_n dX10_readsClause_0 rfl 0 rfl ?_
  refine tw_geti (j := 20) dX10_readsClause_1 shM_0 rfl rfl (by decide) fX10_99 (fun v101 ev101 => ?_)
  have b102 : mm_b (-1) (255) v101 := JIM_fld hI ev101 tbM_7 (by decide)
  rcases (by omega : (v101.toInt ≠ 99 ∧ v101.toInt ≠ 100 ∧ v101.toInt ≠ 112 ∧ v101.toInt ≠ 119) ∨ v101.toInt = 99 ∨ v101.toInt = 100 ∨ v101.toInt = 112 ∨ v101.toInt = 119) with q103 | q103 | q103 | q103 | q103
  · refine mw_lookup (off := 64) (tgt := 68) dX10_readsClause_4 (by decide) (by simp [Op.lookupswitch.offset_cons, Op.lookupswitch.offset, q103, Ne.symm, eq_comm] <;> omega) (by decide) ?_
    refine mw_aload_n dX10_readsClause_68 rfl 0 rfl ?_
    refine mw_iconst dX10_readsClause_69 ki_1 ?_
    refine tc_Vi (as := [.int 1]) (st := []) dX10_readsClause_70 rfl shM_0 rfl rfl mX10_118 t_X10_fails rfl (Nat.le_of_ble_eq_true rfl) (by decide) (by decide) (c_X10_fails (g := g) S hI (1 : Int32)) (fun S104 v106 h105 => ?_)
    obtain ⟨hI110, hf111, b107, x108⟩ := h105
    have hF112 := fr_tr hF hf111 (by decide) (by decide) (by decide) (by decide)
    exact mw_zret rfl (bd_nar b107 (by decide)) dX10_readsClause_73 rfl rfl ⟨S104, _, rfl, rfl, hI110, hF112, bd_w b107 (by decide), Or.inl (bd_zero b107)⟩
  · refine mw_lookup (off := 59) (tgt := 63) dX10_readsClause_4 (by decide) (by rw [q103]; rfl) (by decide) ?_
    have b113 : mm_b (99) (99) v101 := ⟨by omega, by omega⟩
    refine mw_aload_n dX10_readsClause_63 rfl 0 rfl ?_
    refine tc_Vi (as := []) (st := []) dX10_readsClause_64 rfl shM_0 rfl rfl mX10_147 t_X10_readsParts rfl (Nat.le_of_ble_eq_true rfl) (by decide) (by decide) (c_X10_readsParts (g := g) S hI) (fun S114 v116 h115 => ?_)
    obtain ⟨hI120, hf121, b117, x118⟩ := h115
    have hF122 := fr_tr hF hf121 (by decide) (by decide) (by decide) (by decide)
    exact mw_zret rfl (bd_nar b117 (by decide)) dX10_readsClause_67 rfl rfl ⟨S114, _, rfl, rfl, hI120, hF122, b117, Or.inr (by rw [← ev101]; exact bd_w b113 (by decide))⟩
  · refine mw_lookup (off := 54) (tgt := 58) dX10_readsClause_4 (by decide) (by rw [q103]; rfl) (by decide) ?_
    have b123 : mm_b (100) (100) v101 := ⟨by omega, by omega⟩
    refine mw_aload_n dX10_readsClause_58 rfl 0 rfl ?_
    refine tc_Vi (as := []) (st := []) dX10_readsClause_59 rfl shM_0 rfl rfl mX10_144 t_X10_readsDoor rfl (Nat.le_of_ble_eq_true rfl) (by decide) (by decide) (c_X10_readsDoor (g := g) S hI) (fun S124 v126 h125 => ?_)
    obtain ⟨hI130, hf131, b127, x128⟩ := h125
    have hF132 := fr_tr hF hf131 (by decide) (by decide) (by decide) (by decide)
    exact mw_zret rfl (bd_nar b127 (by decide)) dX10_readsClause_62 rfl rfl ⟨S124, _, rfl, rfl, hI130, hF132, b127, Or.inr (by rw [← ev101]; exact bd_w b123 (by decide))⟩
  · refine mw_lookup (off := 44) (tgt := 48) dX10_readsClause_4 (by decide) (by rw [q103]; rfl) (by decide) ?_
    have b133 : mm_b (112) (112) v101 := ⟨by omega, by omega⟩
    refine mw_aload_n dX10_readsClause_48 rfl 0 rfl ?_
    refine tc_Vi (as := []) (st := []) dX10_readsClause_49 rfl shM_0 rfl rfl mX10_138 t_X10_readsPerson rfl (Nat.le_of_ble_eq_true rfl) (by decide) (by decide) (c_X10_readsPerson (g := g) S hI) (fun S134 v136 h135 => ?_)
    obtain ⟨hI140, hf141, b137, x138⟩ := h135
    have hF142 := fr_tr hF hf141 (by decide) (by decide) (by decide) (by decide)
    exact mw_zret rfl (bd_nar b137 (by decide)) dX10_readsClause_52 rfl rfl ⟨S134, _, rfl, rfl, hI140, hF142, b137, Or.inr (by rw [← ev101]; exact bd_w b133 (by decide))⟩
  · refine mw_lookup (off := 49) (tgt := 53) dX10_readsClause_4 (by decide) (by rw [q103]; rfl) (by decide) ?_
    have b143 : mm_b (119) (119) v101 := ⟨by omega, by omega⟩
    refine mw_aload_n dX10_readsClause_53 rfl 0 rfl ?_
    refine tc_Vi (as := []) (st := []) dX10_readsClause_54 rfl shM_0 rfl rfl mX10_141 t_X10_readsWill rfl (Nat.le_of_ble_eq_true rfl) (by decide) (by decide) (c_X10_readsWill (g := g) S hI) (fun S144 v146 h145 => ?_)
    obtain ⟨hI150, hf151, b147, x148⟩ := h145
    have hF152 := fr_tr hF hf151 (by decide) (by decide) (by decide) (by decide)
    exact mw_zret rfl (bd_nar b147 (by decide)) dX10_readsClause_57 rfl rfl ⟨S144, _, rfl, rfl, hI150, hF152, b147, Or.inr (by rw [← ev101]; exact bd_w b143 (by decide))⟩
