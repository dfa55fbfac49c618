set_option maxRecDepth 100000 in
set_option maxHeartbeats 4000000 in
theorem c_X10_number_r {g : mm_G} (S : mm_S) (hI : JM S) (x1 : Int32) (h1 : mm_b (3) (9) x1) (x2 : Int32) (h2 : mm_b (0) (0) x2) (x3 : Int32) (h3 : mm_b (9) (9) x3) : mc g yX10_number cX10_number 4 (some .boolean) (mm_rm 2) [.ref 0, .int x1, .int x2, .int x3] (mm_enc shM S) (qi shM (fun S1 v => JM S1 ∧ fr [2] [18, 19, 20, 21, 22, 23] true true S S1 ∧ mm_b (0) (1) v ∧ (True) ∧ (S.1 2 0 = S1.1 2 0 ∧ S.1 2 1 = S1.1 2 1 ∧ S.1 2 2 = S1.1 2 2))) := by
  refine mc_of2 (own := RX10) (ini := false) (ls := [(0, .ref 0), (1, .int x1), (2, .int x2), (3, .int x3)]) (by decide) (Nat.le_of_ble_eq_true rfl) rfl (by decide) rfl ?_
  have hF : fr [2] [18, 19, 20, 21, 22, 23] true true S S := fr_rf
  refine mw_aload_n dX10_number_0 rfl 0 rfl ?_
  refine tc_Vv (as := []) (st := []) dX10_number_1 rfl shM_0 rfl rfl mX10_115 t_X10_step rfl (Nat.le_of_ble_eq_true rfl) (by decide) (by decide) (c_X10_step (g := g) S hI) (fun S101 h102 => ?_)
  obtain ⟨hI103, hf104, -⟩ := h102
  have hF105 := fr_tr hF hf104 (by decide) (by decide) (by decide) (by decide)
  refine mw_aload_n dX10_number_4 rfl 0 rfl ?_
  refine tw_geti (j := 20) dX10_number_5 shM_0 rfl rfl (by decide) fX10_99 (fun v106 ev106 => ?_)
  have b107 : mm_b (-1) (255) v106 := JIM_fld hI103 ev106 tbM_6 (by decide)
  refine mw_bipush dX10_number_8 kb_48 ?_
  refine mw_icmp_eq (tgt := 19) dX10_number_10 (by decide) (fun q108 => ?_) (fun q108 => ?_)
  · skip
    have b109 : mm_b (48) (48) v106 := bd_eq_l q108 b107 n_48 (by decide)
    refine mw_aload_n dX10_number_19 rfl 0 rfl ?_
    refine tw_geti (j := 21) dX10_number_20 shM_0 rfl rfl (by decide) fX10_102 (fun v110 ev110 => ?_)
    refine mw_iconst dX10_number_23 ki_3 ?_
    refine mw_icmp_gt (tgt := 42) dX10_number_24 (by decide) (fun q111 => ?_) (fun q111 => ?_)
    · skip
      have b112 : mm_b (4) (2147483647) v110 := bd_lt_r q111 n_3 (bd_all v110) (by decide)
      refine mw_aload_n dX10_number_42 rfl 0 rfl ?_
      refine mw_iconst dX10_number_43 ki_2 ?_
      refine tc_Vi (as := [.int 2]) (st := []) dX10_number_44 rfl shM_0 rfl rfl mX10_118 t_X10_fails rfl (Nat.le_of_ble_eq_true rfl) (by decide) (by decide) (c_X10_fails (g := g) S101 hI103 (2 : Int32)) (fun S113 v115 h114 => ?_)
      obtain ⟨hI119, hf120, b116, x117⟩ := h114
      have hF121 := fr_tr hF105 hf120 (by decide) (by decide) (by decide) (by decide)
      exact mw_zret rfl (bd_nar b116 (by decide)) dX10_number_47 rfl rfl ⟨S113, _, rfl, rfl, hI119, hF121, bd_w b116 (by decide), trivial, (((Eq.refl (S.1 2 0)).trans (fr_A hf104 (by decide) (by decide))).trans (fr_A hf120 (by decide) (by decide))), (((Eq.refl (S.1 2 1)).trans (fr_A hf104 (by decide) (by decide))).trans (fr_A hf120 (by decide) (by decide))), (((Eq.refl (S.1 2 2)).trans (fr_A hf104 (by decide) (by decide))).trans (fr_A hf120 (by decide) (by decide)))⟩
    · skip
      have b122 : mm_b (-2147483648) (3) v110 := bd_le_l (bd_nlt q111) (bd_all v110) n_3 (by decide)
      refine mw_aload_n dX10_number_27 rfl 0 rfl ?_
      refine tw_geti (j := 22) dX10_number_28 shM_0 rfl rfl (by decide) fX10_105 (fun v123 ev123 => ?_)
      have b124 : mm_b (0) (999) v123 := JIM_fld hI103 ev123 tbM_7 (by decide)
      refine mw_i2l dX10_number_31 (fun w125 ew125 => ?_)
      have b126 : mm_bl (0) (999) w125 := bl_i2l ew125 b124
      refine mw_iload_n dX10_number_32 rfl 2 rfl ?_
      refine mw_i2l dX10_number_33 (fun w127 ew127 => ?_)
      have b128 : mm_bl (0) (0) w127 := bl_i2l ew127 h2
      refine mw_iload_n dX10_number_34 rfl 3 rfl ?_
      refine mw_i2l dX10_number_35 (fun w129 ew129 => ?_)
      have b130 : mm_bl (9) (9) w129 := bl_i2l ew129 h3
      refine tc_Si (as := [.long w125, .long w127, .long w129]) (st := []) dX10_number_36 rfl mX10_62 t_X10_in rfl (Nat.le_of_ble_eq_true rfl) (by decide) (by decide) (c_X10_in (g := g) S101 hI103 w125 w127 w129) (fun S131 v133 h132 => ?_)
      obtain ⟨rfl, b134, x135⟩ := h132
      have x136 := in_use (lo := 0) (hi := 9) x135 ew125 b128 b130 (by decide)
      refine mw_if_ne (tgt := 48) dX10_number_39 (by decide) (fun q137 => ?_) (fun q137 => ?_)
      · skip
        have b138 : mm_b (1) (1) v133 := bd_ne_l q137 b134 n_0 (by decide)
        have b139 := Or.resolve_left x136 q137
        refine mw_aload_n dX10_number_48 rfl 0 rfl ?_
        refine tw_getr (j := 1) dX10_number_49 shM_0 rfl rfl (by decide) fX10_13 ?_
        refine mw_iload_n dX10_number_52 rfl 1 rfl ?_
        refine mw_aload_n dX10_number_53 rfl 0 rfl ?_
        refine tw_geti (j := 22) dX10_number_54 shM_0 rfl rfl (by decide) fX10_105 (fun v140 ev140 => ?_)
        have cv140 : v123 = v140 := ev123.trans ev140.symm
        subst cv140
        refine tw_iast dX10_number_57 shM_2 (bd_in h1 (by decide)) ?_
        have hI141 : JM (mm_up S101 2 x1.toNatClampNeg v123) := JIM_puta hI103 b139 h1 (by decide) (by decide +kernel)
        generalize hS142 : (mm_up S101 2 x1.toNatClampNeg v123) = S142 at hI141 ⊢
        have hF143 := fr_upA hF105 hS142 (by decide)
        refine mw_iconst dX10_number_58 ki_1 ?_
        exact mw_zret rfl (bd_nar n_1 (by decide)) dX10_number_59 rfl rfl ⟨S142, _, rfl, rfl, hI141, hF143, bd_w n_1 (by decide), trivial, (((Eq.refl (S.1 2 0)).trans (fr_A hf104 (by decide) (by decide))).trans (up_neF hS142 (cl_ne h1 (by decide)))), (((Eq.refl (S.1 2 1)).trans (fr_A hf104 (by decide) (by decide))).trans (up_neF hS142 (cl_ne h1 (by decide)))), (((Eq.refl (S.1 2 2)).trans (fr_A hf104 (by decide) (by decide))).trans (up_neF hS142 (cl_ne h1 (by decide))))⟩
      · skip
        have b144 : mm_b (0) (0) v133 := bd_eq_l q137 b134 n_0 (by decide)
        refine mw_aload_n dX10_number_42 rfl 0 rfl ?_
        refine mw_iconst dX10_number_43 ki_2 ?_
        refine tc_Vi (as := [.int 2]) (st := []) dX10_number_44 rfl shM_0 rfl rfl mX10_118 t_X10_fails rfl (Nat.le_of_ble_eq_true rfl) (by decide) (by decide) (c_X10_fails (g := g) S101 hI103 (2 : Int32)) (fun S145 v147 h146 => ?_)
        obtain ⟨hI151, hf152, b148, x149⟩ := h146
        have hF153 := fr_tr hF105 hf152 (by decide) (by decide) (by decide) (by decide)
        exact mw_zret rfl (bd_nar b148 (by decide)) dX10_number_47 rfl rfl ⟨S145, _, rfl, rfl, hI151, hF153, bd_w b148 (by decide), trivial, (((Eq.refl (S.1 2 0)).trans (fr_A hf104 (by decide) (by decide))).trans (fr_A hf152 (by decide) (by decide))), (((Eq.refl (S.1 2 1)).trans (fr_A hf104 (by decide) (by decide))).trans (fr_A hf152 (by decide) (by decide))), (((Eq.refl (S.1 2 2)).trans (fr_A hf104 (by decide) (by decide))).trans (fr_A hf152 (by decide) (by decide)))⟩
  · skip
    refine mw_aload_n dX10_number_13 rfl 0 rfl ?_
    refine mw_iconst dX10_number_14 ki_1 ?_
    refine tc_Vi (as := [.int 1]) (st := []) dX10_number_15 rfl shM_0 rfl rfl mX10_118 t_X10_fails rfl (Nat.le_of_ble_eq_true rfl) (by decide) (by decide) (c_X10_fails (g := g) S101 hI103 (1 : Int32)) (fun S154 v156 h155 => ?_)
    obtain ⟨hI160, hf161, b157, x158⟩ := h155
    have hF162 := fr_tr hF105 hf161 (by decide) (by decide) (by decide) (by decide)
    exact mw_zret rfl (bd_nar b157 (by decide)) dX10_number_18 rfl rfl ⟨S154, _, rfl, rfl, hI160, hF162, bd_w b157 (by decide), trivial, (((Eq.refl (S.1 2 0)).trans (fr_A hf104 (by decide) (by decide))).trans (fr_A hf161 (by decide) (by decide))), (((Eq.refl (S.1 2 1)).trans (fr_A hf104 (by decide) (by decide))).trans (fr_A hf161 (by decide) (by decide))), (((Eq.refl (S.1 2 2)).trans (fr_A hf104 (by decide) (by decide))).trans (fr_A hf161 (by decide) (by decide)))⟩
set_option maxRecDepth 100000 in
set_option maxHeartbeats 4000000 in
theorem c_X10_number_d {g : mm_G} (S : mm_S) (hI : JM S) (x1 : Int32) (h1 : mm_b (25) (30) x1) (x2 : Int32) (h2 : mm_b (0) (0) x2) (x3 : Int32) (h3 : mm_b (127) (127) x3) : mc g yX10_number cX10_number 4 (some .boolean) (mm_rm 2) [.ref 0, .int x1, .int x2, .int x3] (mm_enc shM S) (qi shM (fun S1 v => JM S1 ∧ fr [2] [18, 19, 20, 21, 22, 23] true true S S1 ∧ mm_b (0) (1) v ∧ (True) ∧ (S.1 2 0 = S1.1 2 0 ∧ S.1 2 1 = S1.1 2 1 ∧ S.1 2 2 = S1.1 2 2))) := by
  refine mc_of2 (own := RX10) (ini := false) (ls := [(0, .ref 0), (1, .int x1), (2, .int x2), (3, .int x3)]) (by decide) (Nat.le_of_ble_eq_true rfl) rfl (by decide) rfl ?_
  have hF : fr [2] [18, 19, 20, 21, 22, 23] true true S S := fr_rf
  refine mw_aload_n dX10_number_0 rfl 0 rfl ?_
  refine tc_Vv (as := []) (st := []) dX10_number_1 rfl shM_0 rfl rfl mX10_115 t_X10_step rfl (Nat.le_of_ble_eq_true rfl) (by decide) (by decide) (c_X10_step (g := g) S hI) (fun S101 h102 => ?_)
  obtain ⟨hI103, hf104, -⟩ := h102
  have hF105 := fr_tr hF hf104 (by decide) (by decide) (by decide) (by decide)
  refine mw_aload_n dX10_number_4 rfl 0 rfl ?_
  refine tw_geti (j := 20) dX10_number_5 shM_0 rfl rfl (by decide) fX10_99 (fun v106 ev106 => ?_)
  have b107 : mm_b (-1) (255) v106 := JIM_fld hI103 ev106 tbM_6 (by decide)
  refine mw_bipush dX10_number_8 kb_48 ?_
  refine mw_icmp_eq (tgt := 19) dX10_number_10 (by decide) (fun q108 => ?_) (fun q108 => ?_)
  · skip
    have b109 : mm_b (48) (48) v106 := bd_eq_l q108 b107 n_48 (by decide)
    refine mw_aload_n dX10_number_19 rfl 0 rfl ?_
    refine tw_geti (j := 21) dX10_number_20 shM_0 rfl rfl (by decide) fX10_102 (fun v110 ev110 => ?_)
    refine mw_iconst dX10_number_23 ki_3 ?_
    refine mw_icmp_gt (tgt := 42) dX10_number_24 (by decide) (fun q111 => ?_) (fun q111 => ?_)
    · skip
      have b112 : mm_b (4) (2147483647) v110 := bd_lt_r q111 n_3 (bd_all v110) (by decide)
      refine mw_aload_n dX10_number_42 rfl 0 rfl ?_
      refine mw_iconst dX10_number_43 ki_2 ?_
      refine tc_Vi (as := [.int 2]) (st := []) dX10_number_44 rfl shM_0 rfl rfl mX10_118 t_X10_fails rfl (Nat.le_of_ble_eq_true rfl) (by decide) (by decide) (c_X10_fails (g := g) S101 hI103 (2 : Int32)) (fun S113 v115 h114 => ?_)
      obtain ⟨hI119, hf120, b116, x117⟩ := h114
      have hF121 := fr_tr hF105 hf120 (by decide) (by decide) (by decide) (by decide)
      exact mw_zret rfl (bd_nar b116 (by decide)) dX10_number_47 rfl rfl ⟨S113, _, rfl, rfl, hI119, hF121, bd_w b116 (by decide), trivial, (((Eq.refl (S.1 2 0)).trans (fr_A hf104 (by decide) (by decide))).trans (fr_A hf120 (by decide) (by decide))), (((Eq.refl (S.1 2 1)).trans (fr_A hf104 (by decide) (by decide))).trans (fr_A hf120 (by decide) (by decide))), (((Eq.refl (S.1 2 2)).trans (fr_A hf104 (by decide) (by decide))).trans (fr_A hf120 (by decide) (by decide)))⟩
    · skip
      have b122 : mm_b (-2147483648) (3) v110 := bd_le_l (bd_nlt q111) (bd_all v110) n_3 (by decide)
      refine mw_aload_n dX10_number_27 rfl 0 rfl ?_
      refine tw_geti (j := 22) dX10_number_28 shM_0 rfl rfl (by decide) fX10_105 (fun v123 ev123 => ?_)
      have b124 : mm_b (0) (999) v123 := JIM_fld hI103 ev123 tbM_7 (by decide)
      refine mw_i2l dX10_number_31 (fun w125 ew125 => ?_)
      have b126 : mm_bl (0) (999) w125 := bl_i2l ew125 b124
      refine mw_iload_n dX10_number_32 rfl 2 rfl ?_
      refine mw_i2l dX10_number_33 (fun w127 ew127 => ?_)
      have b128 : mm_bl (0) (0) w127 := bl_i2l ew127 h2
      refine mw_iload_n dX10_number_34 rfl 3 rfl ?_
      refine mw_i2l dX10_number_35 (fun w129 ew129 => ?_)
      have b130 : mm_bl (127) (127) w129 := bl_i2l ew129 h3
      refine tc_Si (as := [.long w125, .long w127, .long w129]) (st := []) dX10_number_36 rfl mX10_62 t_X10_in rfl (Nat.le_of_ble_eq_true rfl) (by decide) (by decide) (c_X10_in (g := g) S101 hI103 w125 w127 w129) (fun S131 v133 h132 => ?_)
      obtain ⟨rfl, b134, x135⟩ := h132
      have x136 := in_use (lo := 0) (hi := 127) x135 ew125 b128 b130 (by decide)
      refine mw_if_ne (tgt := 48) dX10_number_39 (by decide) (fun q137 => ?_) (fun q137 => ?_)
      · skip
        have b138 : mm_b (1) (1) v133 := bd_ne_l q137 b134 n_0 (by decide)
        have b139 := Or.resolve_left x136 q137
        refine mw_aload_n dX10_number_48 rfl 0 rfl ?_
        refine tw_getr (j := 1) dX10_number_49 shM_0 rfl rfl (by decide) fX10_13 ?_
        refine mw_iload_n dX10_number_52 rfl 1 rfl ?_
        refine mw_aload_n dX10_number_53 rfl 0 rfl ?_
        refine tw_geti (j := 22) dX10_number_54 shM_0 rfl rfl (by decide) fX10_105 (fun v140 ev140 => ?_)
        have cv140 : v123 = v140 := ev123.trans ev140.symm
        subst cv140
        refine tw_iast dX10_number_57 shM_2 (bd_in h1 (by decide)) ?_
        have hI141 : JM (mm_up S101 2 x1.toNatClampNeg v123) := JIM_puta hI103 b139 h1 (by decide) (by decide +kernel)
        generalize hS142 : (mm_up S101 2 x1.toNatClampNeg v123) = S142 at hI141 ⊢
        have hF143 := fr_upA hF105 hS142 (by decide)
        refine mw_iconst dX10_number_58 ki_1 ?_
        exact mw_zret rfl (bd_nar n_1 (by decide)) dX10_number_59 rfl rfl ⟨S142, _, rfl, rfl, hI141, hF143, bd_w n_1 (by decide), trivial, (((Eq.refl (S.1 2 0)).trans (fr_A hf104 (by decide) (by decide))).trans (up_neF hS142 (cl_ne h1 (by decide)))), (((Eq.refl (S.1 2 1)).trans (fr_A hf104 (by decide) (by decide))).trans (up_neF hS142 (cl_ne h1 (by decide)))), (((Eq.refl (S.1 2 2)).trans (fr_A hf104 (by decide) (by decide))).trans (up_neF hS142 (cl_ne h1 (by decide))))⟩
      · skip
        have b144 : mm_b (0) (0) v133 := bd_eq_l q137 b134 n_0 (by decide)
        refine mw_aload_n dX10_number_42 rfl 0 rfl ?_
        refine mw_iconst dX10_number_43 ki_2 ?_
        refine tc_Vi (as := [.int 2]) (st := []) dX10_number_44 rfl shM_0 rfl rfl mX10_118 t_X10_fails rfl (Nat.le_of_ble_eq_true rfl) (by decide) (by decide) (c_X10_fails (g := g) S101 hI103 (2 : Int32)) (fun S145 v147 h146 => ?_)
        obtain ⟨hI151, hf152, b148, x149⟩ := h146
        have hF153 := fr_tr hF105 hf152 (by decide) (by decide) (by decide) (by decide)
        exact mw_zret rfl (bd_nar b148 (by decide)) dX10_number_47 rfl rfl ⟨S145, _, rfl, rfl, hI151, hF153, bd_w b148 (by decide), trivial, (((Eq.refl (S.1 2 0)).trans (fr_A hf104 (by decide) (by decide))).trans (fr_A hf152 (by decide) (by decide))), (((Eq.refl (S.1 2 1)).trans (fr_A hf104 (by decide) (by decide))).trans (fr_A hf152 (by decide) (by decide))), (((Eq.refl (S.1 2 2)).trans (fr_A hf104 (by decide) (by decide))).trans (fr_A hf152 (by decide) (by decide)))⟩
  · skip
    refine mw_aload_n dX10_number_13 rfl 0 rfl ?_
    refine mw_iconst dX10_number_14 ki_1 ?_
    refine tc_Vi (as := [.int 1]) (st := []) dX10_number_15 rfl shM_0 rfl rfl mX10_118 t_X10_fails rfl (Nat.le_of_ble_eq_true rfl) (by decide) (by decide) (c_X10_fails (g := g) S101 hI103 (1 : Int32)) (fun S154 v156 h155 => ?_)
    obtain ⟨hI160, hf161, b157, x158⟩ := h155
    have hF162 := fr_tr hF105 hf161 (by decide) (by decide) (by decide) (by decide)
    exact mw_zret rfl (bd_nar b157 (by decide)) dX10_number_18 rfl rfl ⟨S154, _, rfl, rfl, hI160, hF162, bd_w b157 (by decide), trivial, (((Eq.refl (S.1 2 0)).trans (fr_A hf104 (by decide) (by decide))).trans (fr_A hf161 (by decide) (by decide))), (((Eq.refl (S.1 2 1)).trans (fr_A hf104 (by decide) (by decide))).trans (fr_A hf161 (by decide) (by decide))), (((Eq.refl (S.1 2 2)).trans (fr_A hf104 (by decide) (by decide))).trans (fr_A hf161 (by decide) (by decide)))⟩
set_option maxRecDepth 100000 in
set_option maxHeartbeats 4000000 in
theorem c_X10_number_p {g : mm_G} (S : mm_S) (hI : JM S) (x1 : Int32) (h1 : mm_b (31) (36) x1) (x2 : Int32) (h2 : mm_b (0) (0) x2) (x3 : Int32) (h3 : mm_b (8) (8) x3) : mc g yX10_number cX10_number 4 (some .boolean) (mm_rm 2) [.ref 0, .int x1, .int x2, .int x3] (mm_enc shM S) (qi shM (fun S1 v => JM S1 ∧ fr [2] [18, 19, 20, 21, 22, 23] true true S S1 ∧ mm_b (0) (1) v ∧ (True) ∧ (S.1 2 0 = S1.1 2 0 ∧ S.1 2 1 = S1.1 2 1 ∧ S.1 2 2 = S1.1 2 2))) := by
  refine mc_of2 (own := RX10) (ini := false) (ls := [(0, .ref 0), (1, .int x1), (2, .int x2), (3, .int x3)]) (by decide) (Nat.le_of_ble_eq_true rfl) rfl (by decide) rfl ?_
  have hF : fr [2] [18, 19, 20, 21, 22, 23] true true S S := fr_rf
  refine mw_aload_n dX10_number_0 rfl 0 rfl ?_
  refine tc_Vv (as := []) (st := []) dX10_number_1 rfl shM_0 rfl rfl mX10_115 t_X10_step rfl (Nat.le_of_ble_eq_true rfl) (by decide) (by decide) (c_X10_step (g := g) S hI) (fun S101 h102 => ?_)
  obtain ⟨hI103, hf104, -⟩ := h102
  have hF105 := fr_tr hF hf104 (by decide) (by decide) (by decide) (by decide)
  refine mw_aload_n dX10_number_4 rfl 0 rfl ?_
  refine tw_geti (j := 20) dX10_number_5 shM_0 rfl rfl (by decide) fX10_99 (fun v106 ev106 => ?_)
  have b107 : mm_b (-1) (255) v106 := JIM_fld hI103 ev106 tbM_6 (by decide)
  refine mw_bipush dX10_number_8 kb_48 ?_
  refine mw_icmp_eq (tgt := 19) dX10_number_10 (by decide) (fun q108 => ?_) (fun q108 => ?_)
  · skip
    have b109 : mm_b (48) (48) v106 := bd_eq_l q108 b107 n_48 (by decide)
    refine mw_aload_n dX10_number_19 rfl 0 rfl ?_
    refine tw_geti (j := 21) dX10_number_20 shM_0 rfl rfl (by decide) fX10_102 (fun v110 ev110 => ?_)
    refine mw_iconst dX10_number_23 ki_3 ?_
    refine mw_icmp_gt (tgt := 42) dX10_number_24 (by decide) (fun q111 => ?_) (fun q111 => ?_)
    · skip
      have b112 : mm_b (4) (2147483647) v110 := bd_lt_r q111 n_3 (bd_all v110) (by decide)
      refine mw_aload_n dX10_number_42 rfl 0 rfl ?_
      refine mw_iconst dX10_number_43 ki_2 ?_
      refine tc_Vi (as := [.int 2]) (st := []) dX10_number_44 rfl shM_0 rfl rfl mX10_118 t_X10_fails rfl (Nat.le_of_ble_eq_true rfl) (by decide) (by decide) (c_X10_fails (g := g) S101 hI103 (2 : Int32)) (fun S113 v115 h114 => ?_)
      obtain ⟨hI119, hf120, b116, x117⟩ := h114
      have hF121 := fr_tr hF105 hf120 (by decide) (by decide) (by decide) (by decide)
      exact mw_zret rfl (bd_nar b116 (by decide)) dX10_number_47 rfl rfl ⟨S113, _, rfl, rfl, hI119, hF121, bd_w b116 (by decide), trivial, (((Eq.refl (S.1 2 0)).trans (fr_A hf104 (by decide) (by decide))).trans (fr_A hf120 (by decide) (by decide))), (((Eq.refl (S.1 2 1)).trans (fr_A hf104 (by decide) (by decide))).trans (fr_A hf120 (by decide) (by decide))), (((Eq.refl (S.1 2 2)).trans (fr_A hf104 (by decide) (by decide))).trans (fr_A hf120 (by decide) (by decide)))⟩
    · skip
      have b122 : mm_b (-2147483648) (3) v110 := bd_le_l (bd_nlt q111) (bd_all v110) n_3 (by decide)
      refine mw_aload_n dX10_number_27 rfl 0 rfl ?_
      refine tw_geti (j := 22) dX10_number_28 shM_0 rfl rfl (by decide) fX10_105 (fun v123 ev123 => ?_)
      have b124 : mm_b (0) (999) v123 := JIM_fld hI103 ev123 tbM_7 (by decide)
      refine mw_i2l dX10_number_31 (fun w125 ew125 => ?_)
      have b126 : mm_bl (0) (999) w125 := bl_i2l ew125 b124
      refine mw_iload_n dX10_number_32 rfl 2 rfl ?_
      refine mw_i2l dX10_number_33 (fun w127 ew127 => ?_)
      have b128 : mm_bl (0) (0) w127 := bl_i2l ew127 h2
      refine mw_iload_n dX10_number_34 rfl 3 rfl ?_
      refine mw_i2l dX10_number_35 (fun w129 ew129 => ?_)
      have b130 : mm_bl (8) (8) w129 := bl_i2l ew129 h3
      refine tc_Si (as := [.long w125, .long w127, .long w129]) (st := []) dX10_number_36 rfl mX10_62 t_X10_in rfl (Nat.le_of_ble_eq_true rfl) (by decide) (by decide) (c_X10_in (g := g) S101 hI103 w125 w127 w129) (fun S131 v133 h132 => ?_)
      obtain ⟨rfl, b134, x135⟩ := h132
      have x136 := in_use (lo := 0) (hi := 8) x135 ew125 b128 b130 (by decide)
      refine mw_if_ne (tgt := 48) dX10_number_39 (by decide) (fun q137 => ?_) (fun q137 => ?_)
      · skip
        have b138 : mm_b (1) (1) v133 := bd_ne_l q137 b134 n_0 (by decide)
        have b139 := Or.resolve_left x136 q137
        refine mw_aload_n dX10_number_48 rfl 0 rfl ?_
        refine tw_getr (j := 1) dX10_number_49 shM_0 rfl rfl (by decide) fX10_13 ?_
        refine mw_iload_n dX10_number_52 rfl 1 rfl ?_
        refine mw_aload_n dX10_number_53 rfl 0 rfl ?_
        refine tw_geti (j := 22) dX10_number_54 shM_0 rfl rfl (by decide) fX10_105 (fun v140 ev140 => ?_)
        have cv140 : v123 = v140 := ev123.trans ev140.symm
        subst cv140
        refine tw_iast dX10_number_57 shM_2 (bd_in h1 (by decide)) ?_
        have hI141 : JM (mm_up S101 2 x1.toNatClampNeg v123) := JIM_puta hI103 b139 h1 (by decide) (by decide +kernel)
        generalize hS142 : (mm_up S101 2 x1.toNatClampNeg v123) = S142 at hI141 ⊢
        have hF143 := fr_upA hF105 hS142 (by decide)
        refine mw_iconst dX10_number_58 ki_1 ?_
        exact mw_zret rfl (bd_nar n_1 (by decide)) dX10_number_59 rfl rfl ⟨S142, _, rfl, rfl, hI141, hF143, bd_w n_1 (by decide), trivial, (((Eq.refl (S.1 2 0)).trans (fr_A hf104 (by decide) (by decide))).trans (up_neF hS142 (cl_ne h1 (by decide)))), (((Eq.refl (S.1 2 1)).trans (fr_A hf104 (by decide) (by decide))).trans (up_neF hS142 (cl_ne h1 (by decide)))), (((Eq.refl (S.1 2 2)).trans (fr_A hf104 (by decide) (by decide))).trans (up_neF hS142 (cl_ne h1 (by decide))))⟩
      · skip
        have b144 : mm_b (0) (0) v133 := bd_eq_l q137 b134 n_0 (by decide)
        refine mw_aload_n dX10_number_42 rfl 0 rfl ?_
        refine mw_iconst dX10_number_43 ki_2 ?_
        refine tc_Vi (as := [.int 2]) (st := []) dX10_number_44 rfl shM_0 rfl rfl mX10_118 t_X10_fails rfl (Nat.le_of_ble_eq_true rfl) (by decide) (by decide) (c_X10_fails (g := g) S101 hI103 (2 : Int32)) (fun S145 v147 h146 => ?_)
        obtain ⟨hI151, hf152, b148, x149⟩ := h146
        have hF153 := fr_tr hF105 hf152 (by decide) (by decide) (by decide) (by decide)
        exact mw_zret rfl (bd_nar b148 (by decide)) dX10_number_47 rfl rfl ⟨S145, _, rfl, rfl, hI151, hF153, bd_w b148 (by decide), trivial, (((Eq.refl (S.1 2 0)).trans (fr_A hf104 (by decide) (by decide))).trans (fr_A hf152 (by decide) (by decide))), (((Eq.refl (S.1 2 1)).trans (fr_A hf104 (by decide) (by decide))).trans (fr_A hf152 (by decide) (by decide))), (((Eq.refl (S.1 2 2)).trans (fr_A hf104 (by decide) (by decide))).trans (fr_A hf152 (by decide) (by decide)))⟩
  · skip
    refine mw_aload_n dX10_number_13 rfl 0 rfl ?_
    refine mw_iconst dX10_number_14 ki_1 ?_
    refine tc_Vi (as := [.int 1]) (st := []) dX10_number_15 rfl shM_0 rfl rfl mX10_118 t_X10_fails rfl (Nat.le_of_ble_eq_true rfl) (by decide) (by decide) (c_X10_fails (g := g) S101 hI103 (1 : Int32)) (fun S154 v156 h155 => ?_)
    obtain ⟨hI160, hf161, b157, x158⟩ := h155
    have hF162 := fr_tr hF105 hf161 (by decide) (by decide) (by decide) (by decide)
    exact mw_zret rfl (bd_nar b157 (by decide)) dX10_number_18 rfl rfl ⟨S154, _, rfl, rfl, hI160, hF162, bd_w b157 (by decide), trivial, (((Eq.refl (S.1 2 0)).trans (fr_A hf104 (by decide) (by decide))).trans (fr_A hf161 (by decide) (by decide))), (((Eq.refl (S.1 2 1)).trans (fr_A hf104 (by decide) (by decide))).trans (fr_A hf161 (by decide) (by decide))), (((Eq.refl (S.1 2 2)).trans (fr_A hf104 (by decide) (by decide))).trans (fr_A hf161 (by decide) (by decide)))⟩
set_option maxRecDepth 100000 in
set_option maxHeartbeats 4000000 in
theorem c_X10_ends {g : mm_G} (S : mm_S) (hI : JM S)  : mc g yX10_ends cX10_ends 1 (some .boolean) (mm_rm 2) [.ref 0] (mm_enc shM S) (qi shM (fun S1 v => JM S1 ∧ fr [] [18, 19, 20, 21, 22, 23] true true S S1 ∧ mm_b (0) (1) v ∧ (True))) := by
  refine mc_of2 (own := RX10) (ini := false) (ls := [(0, .ref 0)]) (by decide) (Nat.le_of_ble_eq_true rfl) rfl (by decide) rfl ?_
  have hF : fr [] [18, 19, 20, 21, 22, 23] true true S S := fr_rf
  refine mw_aload_n dX10_ends_0 rfl 0 rfl ?_
  refine tc_Vv (as := []) (st := []) dX10_ends_1 rfl shM_0 rfl rfl mX10_115 t_X10_step rfl (Nat.le_of_ble_eq_true rfl) (by decide) (by decide) (c_X10_step (g := g) S hI) (fun S101 h102 => ?_)
  obtain ⟨hI103, hf104, -⟩ := h102
  have hF105 := fr_tr hF hf104 (by decide) (by decide) (by decide) (by decide)
  refine mw_aload_n dX10_ends_4 rfl 0 rfl ?_
  refine tw_geti (j := 20) dX10_ends_5 shM_0 rfl rfl (by decide) fX10_99 (fun v106 ev106 => ?_)
  have b107 : mm_b (-1) (255) v106 := JIM_fld hI103 ev106 tbM_6 (by decide)
  refine mw_bipush dX10_ends_8 kb_59 ?_
  refine mw_icmp_eq (tgt := 21) dX10_ends_10 (by decide) (fun q108 => ?_) (fun q108 => ?_)
  · skip
    have b109 : mm_b (59) (59) v106 := bd_eq_l q108 b107 n_59 (by decide)
    refine mw_iconst dX10_ends_21 ki_1 ?_
    refine mw_goto (tgt := 26) dX10_ends_22 (by decide) ?_
    exact mw_zret rfl (bd_nar n_1 (by decide)) dX10_ends_26 rfl rfl ⟨S101, _, rfl, rfl, hI103, hF105, bd_w n_1 (by decide), trivial⟩
  · skip
    refine mw_aload_n dX10_ends_13 rfl 0 rfl ?_
    refine mw_iconst dX10_ends_14 ki_1 ?_
    refine tc_Vi (as := [.int 1]) (st := []) dX10_ends_15 rfl shM_0 rfl rfl mX10_118 t_X10_fails rfl (Nat.le_of_ble_eq_true rfl) (by decide) (by decide) (c_X10_fails (g := g) S101 hI103 (1 : Int32)) (fun S110 v112 h111 => ?_)
    obtain ⟨hI116, hf117, b113, x114⟩ := h111
    have hF118 := fr_tr hF105 hf117 (by decide) (by decide) (by decide) (by decide)
    refine mw_if_eq (tgt := 25) dX10_ends_18 (by decide) (fun q119 => ?_) (fun q119 => ?_)
    · skip
      refine mw_iconst dX10_ends_25 ki_0 ?_
      exact mw_zret rfl (bd_nar n_0 (by decide)) dX10_ends_26 rfl rfl ⟨S110, _, rfl, rfl, hI116, hF118, bd_w n_0 (by decide), trivial⟩
    · skip
      exact bd_fne q119 b113 n_0
set_option maxRecDepth 100000 in
set_option maxHeartbeats 4000000 in
theorem c_X10_readsPerson {g : mm_G} (S : mm_S) (hI : JM S)  : mc g yX10_readsPerson cX10_readsPerson 2 (some .boolean) (mm_rm 3) [.ref 0] (mm_enc shM S) (qi shM (fun S1 v => JM S1 ∧ fr [2] [18, 19, 20, 21, 22, 23] true true S S1 ∧ mm_b (0) (1) v ∧ (True))) := by
  refine mc_of2 (own := RX10) (ini := false) (ls := [(0, .ref 0)]) (by decide) (Nat.le_of_ble_eq_true rfl) rfl (by decide) rfl ?_
  have hF : fr [2] [18, 19, 20, 21, 22, 23] true true S S := fr_rf
  refine mw_aload_n dX10_readsPerson_0 rfl 0 rfl ?_
  refine tw_getr (j := 1) dX10_readsPerson_1 shM_0 rfl rfl (by decide) fX10_13 ?_
  refine mw_iconst dX10_readsPerson_4 ki_0 ?_
  refine tw_iald dX10_readsPerson_5 shM_2 (bd_in n_0 (by decide)) (fun v101 ev101 => ?_)
  rw [cl_0] at ev101
  have b102 : mm_b (0) (7) v101 := JIM_fld hI ev101 tbM_22 (by decide)
  refine mw_istore_n (ls' := [(1, .int v101), (0, .ref 0)]) dX10_readsPerson_6 rfl (by decide) rfl ?_
  refine mw_iload_n dX10_readsPerson_7 rfl 0 rfl ?_
  refine mw_bipush dX10_readsPerson_8 kb_7 ?_
  refine mw_icmp_ne (tgt := 19) dX10_readsPerson_10 (by decide) (fun q103 => ?_) (fun q103 => ?_)
  · skip
    have b104 : mm_b (0) (6) v101 := bd_ne_l q103 b102 n_7 (by decide)
    refine mw_aload_n dX10_readsPerson_19 rfl 1 rfl ?_
    refine tw_getr (j := 1) dX10_readsPerson_20 shM_0 rfl rfl (by decide) fX10_13 ?_
    refine mw_iconst dX10_readsPerson_23 ki_0 ?_
    refine mw_dup2 dX10_readsPerson_24 rfl rfl ?_
    refine tw_iald dX10_readsPerson_25 shM_2 (bd_in n_0 (by decide)) (fun v105 ev105 => ?_)
    rw [cl_0] at ev105
    have cv105 : v101 = v105 := ev101.trans ev105.symm
    subst cv105
    refine mw_iconst dX10_readsPerson_26 ki_1 ?_
    refine mw_iadd dX10_readsPerson_27 (fun v106 ev106 => ?_)
    have b107 : mm_b (1) (7) v106 := bd_add ev106 b104 n_1 (by decide)
    refine tw_iast dX10_readsPerson_28 shM_2 (bd_in n_0 (by decide)) ?_
    rw [cl_0]
    have hI108 : JM (mm_up S 2 0 v106) := JIM_put hI b107 (by decide +kernel)
    generalize hS109 : (mm_up S 2 0 v106) = S109 at hI108 ⊢
    have hF110 := fr_upA hF hS109 (by decide)
    refine mw_aload_n dX10_readsPerson_29 rfl 1 rfl ?_
    refine mw_iconst dX10_readsPerson_30 ki_3 ?_
    refine mw_iload_n dX10_readsPerson_31 rfl 0 rfl ?_
    refine mw_iadd dX10_readsPerson_32 (fun v111 ev111 => ?_)
    have b112 : mm_b (3) (9) v111 := bd_add ev111 n_3 b104 (by decide)
    refine mw_iconst dX10_readsPerson_33 ki_0 ?_
    refine mw_bipush dX10_readsPerson_34 kb_9 ?_
    refine tc_Vi (as := [.int v111, .int 0, .int 9]) (st := []) dX10_readsPerson_36 rfl shM_0 rfl rfl mX10_122 t_X10_number rfl (Nat.le_of_ble_eq_true rfl) (by decide) (by decide) (c_X10_number_r (g := g) S109 hI108 v111 b112 (0 : Int32) n_0 (9 : Int32) n_9) (fun S113 v115 h114 => ?_)
    obtain ⟨hI119, hf120, b116, x117, kp118⟩ := h114
    have hF121 := fr_tr hF110 hf120 (by decide) (by decide) (by decide) (by decide)
    refine mw_if_eq (tgt := 53) dX10_readsPerson_39 (by decide) (fun q122 => ?_) (fun q122 => ?_)
    · skip
      have b123 : mm_b (0) (0) v115 := bd_eq_l q122 b116 n_0 (by decide)
      refine mw_iconst dX10_readsPerson_53 ki_0 ?_
      exact mw_zret rfl (bd_nar n_0 (by decide)) dX10_readsPerson_54 rfl rfl ⟨S113, _, rfl, rfl, hI119, hF121, bd_w n_0 (by decide), trivial⟩
    · skip
      have b124 : mm_b (1) (1) v115 := bd_ne_l q122 b116 n_0 (by decide)
      refine mw_aload_n dX10_readsPerson_42 rfl 1 rfl ?_
      refine tc_Vi (as := []) (st := []) dX10_readsPerson_43 rfl shM_0 rfl rfl mX10_126 t_X10_ends rfl (Nat.le_of_ble_eq_true rfl) (by decide) (by decide) (c_X10_ends (g := g) S113 hI119) (fun S125 v127 h126 => ?_)
      obtain ⟨hI131, hf132, b128, x129⟩ := h126
      have hF133 := fr_tr hF121 hf132 (by decide) (by decide) (by decide) (by decide)
      refine mw_if_eq (tgt := 53) dX10_readsPerson_46 (by decide) (fun q134 => ?_) (fun q134 => ?_)
      · skip
        have b135 : mm_b (0) (0) v127 := bd_eq_l q134 b128 n_0 (by decide)
        refine mw_iconst dX10_readsPerson_53 ki_0 ?_
        exact mw_zret rfl (bd_nar n_0 (by decide)) dX10_readsPerson_54 rfl rfl ⟨S125, _, rfl, rfl, hI131, hF133, bd_w n_0 (by decide), trivial⟩
      · skip
        have b136 : mm_b (1) (1) v127 := bd_ne_l q134 b128 n_0 (by decide)
        refine mw_iconst dX10_readsPerson_49 ki_1 ?_
        refine mw_goto (tgt := 54) dX10_readsPerson_50 (by decide) ?_
        exact mw_zret rfl (bd_nar n_1 (by decide)) dX10_readsPerson_54 rfl rfl ⟨S125, _, rfl, rfl, hI131, hF133, bd_w n_1 (by decide), trivial⟩
  · skip
    have b137 : mm_b (7) (7) v101 := bd_eq_l q103 b102 n_7 (by decide)
    refine mw_aload_n dX10_readsPerson_13 rfl 1 rfl ?_
    refine mw_iconst dX10_readsPerson_14 ki_3 ?_
    refine tc_Vi (as := [.int 3]) (st := []) dX10_readsPerson_15 rfl shM_0 rfl rfl mX10_118 t_X10_fails rfl (Nat.le_of_ble_eq_true rfl) (by decide) (by decide) (c_X10_fails (g := g) S hI (3 : Int32)) (fun S138 v140 h139 => ?_)
    obtain ⟨hI144, hf145, b141, x142⟩ := h139
    have hF146 := fr_tr hF hf145 (by decide) (by decide) (by decide) (by decide)
    exact mw_zret rfl (bd_nar b141 (by decide)) dX10_readsPerson_18 rfl rfl ⟨S138, _, rfl, rfl, hI144, hF146, bd_w b141 (by decide), trivial⟩
set_option maxRecDepth 100000 in
set_option maxHeartbeats 4000000 in
theorem c_X10_isTold_0 {g : mm_G} (S : mm_S) (hI : JM S) (x1 : Int32) (h1 : mm_b (0) (0) x1) : mc g yX10_isTold cX10_isTold 3 (some .boolean) (mm_rm 2) [.ref 0, .int x1] (mm_enc shM S) (qi shM (fun S1 v => JM S1 ∧ fr [] [18, 19, 20, 21, 22, 23] true true S S1 ∧ mm_b (0) (1) v ∧ (v = 0 ∨ (mm_b (0) (6) (S1.1 0 22))))) := by
  refine mc_of2 (own := RX10) (ini := false) (ls := [(0, .ref 0), (1, .int x1)]) (by decide) (Nat.le_of_ble_eq_true rfl) rfl (by decide) rfl ?_
  have hF : fr [] [18, 19, 20, 21, 22, 23] true true S S := fr_rf
  refine mw_aload_n dX10_isTold_0 rfl 0 rfl ?_
  refine tc_Vv (as := []) (st := []) dX10_isTold_1 rfl shM_0 rfl rfl mX10_115 t_X10_step rfl (Nat.le_of_ble_eq_true rfl) (by decide) (by decide) (c_X10_step (g := g) S hI) (fun S101 h102 => ?_)
  obtain ⟨hI103, hf104, -⟩ := h102
  have hF105 := fr_tr hF hf104 (by decide) (by decide) (by decide) (by decide)
  refine mw_aload_n dX10_isTold_4 rfl 0 rfl ?_
  refine tw_geti (j := 20) dX10_isTold_5 shM_0 rfl rfl (by decide) fX10_99 (fun v106 ev106 => ?_)
  have b107 : mm_b (-1) (255) v106 := JIM_fld hI103 ev106 tbM_6 (by decide)
  refine mw_bipush dX10_isTold_8 kb_48 ?_
  refine mw_icmp_eq (tgt := 19) dX10_isTold_10 (by decide) (fun q108 => ?_) (fun q108 => ?_)
  · skip
    have b109 : mm_b (48) (48) v106 := bd_eq_l q108 b107 n_48 (by decide)
    refine mw_aload_n dX10_isTold_19 rfl 0 rfl ?_
    refine tw_geti (j := 21) dX10_isTold_20 shM_0 rfl rfl (by decide) fX10_102 (fun v110 ev110 => ?_)
    refine mw_iconst dX10_isTold_23 ki_4 ?_
    refine mw_icmp_ge (tgt := 57) dX10_isTold_24 (by decide) (fun q111 => ?_) (fun q111 => ?_)
    · skip
      have b112 : mm_b (4) (2147483647) v110 := bd_le_r q111 n_4 (bd_all v110) (by decide)
      refine mw_iconst dX10_isTold_57 ki_0 ?_
      refine mw_istore_n (ls' := [(2, .int 0), (0, .ref 0), (1, .int x1)]) dX10_isTold_58 rfl (by decide) rfl ?_
      refine mw_iload_n dX10_isTold_59 rfl 0 rfl ?_
      refine mw_if_ne (tgt := 71) dX10_isTold_60 (by decide) (fun q113 => ?_) (fun q113 => ?_)
      · skip
        exact bd_fne q113 n_0 n_0
      · skip
        refine mw_aload_n dX10_isTold_63 rfl 1 rfl ?_
        refine mw_iconst dX10_isTold_64 ki_2 ?_
        refine tc_Vi (as := [.int 2]) (st := []) dX10_isTold_65 rfl shM_0 rfl rfl mX10_118 t_X10_fails rfl (Nat.le_of_ble_eq_true rfl) (by decide) (by decide) (c_X10_fails (g := g) S101 hI103 (2 : Int32)) (fun S114 v116 h115 => ?_)
        obtain ⟨hI120, hf121, b117, x118⟩ := h115
        have hF122 := fr_tr hF105 hf121 (by decide) (by decide) (by decide) (by decide)
        refine mw_if_eq (tgt := 75) dX10_isTold_68 (by decide) (fun q123 => ?_) (fun q123 => ?_)
        · skip
          refine mw_iconst dX10_isTold_75 ki_0 ?_
          exact mw_zret rfl (bd_nar n_0 (by decide)) dX10_isTold_76 rfl rfl ⟨S114, _, rfl, rfl, hI120, hF122, bd_w n_0 (by decide), Or.inl rfl⟩
        · skip
          exact bd_fne q123 b117 n_0
    · skip
      have b124 : mm_b (-2147483648) (3) v110 := bd_lt_l (bd_nle q111) (bd_all v110) n_4 (by decide)
      refine mw_aload_n dX10_isTold_27 rfl 0 rfl ?_
      refine tw_geti (j := 22) dX10_isTold_28 shM_0 rfl rfl (by decide) fX10_105 (fun v125 ev125 => ?_)
      have b126 : mm_b (0) (999) v125 := JIM_fld hI103 ev125 tbM_7 (by decide)
      refine mw_aload_n dX10_isTold_31 rfl 0 rfl ?_
      refine tw_getr (j := 1) dX10_isTold_32 shM_0 rfl rfl (by decide) fX10_13 ?_
      refine mw_iconst dX10_isTold_35 ki_0 ?_
      refine tw_iald dX10_isTold_36 shM_2 (bd_in n_0 (by decide)) (fun v127 ev127 => ?_)
      rw [cl_0] at ev127
      have b128 : mm_b (0) (7) v127 := JIM_fld hI103 ev127 tbM_22 (by decide)
      refine mw_icmp_lt (tgt := 53) dX10_isTold_37 (by decide) (fun q129 => ?_) (fun q129 => ?_)
      · skip
        have b130 : mm_b (0) (6) v125 := bd_lt_l q129 b126 b128 (by decide)
        have b131 : mm_b (1) (7) v127 := bd_lt_r q129 b126 b128 (by decide)
        refine mw_iconst dX10_isTold_53 ki_1 ?_
        refine mw_goto (tgt := 58) dX10_isTold_54 (by decide) ?_
        refine mw_istore_n (ls' := [(2, .int 1), (0, .ref 0), (1, .int x1)]) dX10_isTold_58 rfl (by decide) rfl ?_
        refine mw_iload_n dX10_isTold_59 rfl 0 rfl ?_
        refine mw_if_ne (tgt := 71) dX10_isTold_60 (by decide) (fun q132 => ?_) (fun q132 => ?_)
        · skip
          refine mw_iconst dX10_isTold_71 ki_1 ?_
          refine mw_goto (tgt := 76) dX10_isTold_72 (by decide) ?_
          exact mw_zret rfl (bd_nar n_1 (by decide)) dX10_isTold_76 rfl rfl ⟨S101, _, rfl, rfl, hI103, hF105, bd_w n_1 (by decide), Or.inr (by rw [← ev125]; exact bd_w b130 (by decide))⟩
        · skip
          exact bd_feq q132 n_1 n_0 (by decide)
      · skip
        refine mw_iload_n dX10_isTold_40 rfl 1 rfl ?_
        refine mw_if_eq (tgt := 57) dX10_isTold_41 (by decide) (fun q133 => ?_) (fun q133 => ?_)
        · skip
          refine mw_iconst dX10_isTold_57 ki_0 ?_
          refine mw_istore_n (ls' := [(2, .int 0), (0, .ref 0), (1, .int x1)]) dX10_isTold_58 rfl (by decide) rfl ?_
          refine mw_iload_n dX10_isTold_59 rfl 0 rfl ?_
          refine mw_if_ne (tgt := 71) dX10_isTold_60 (by decide) (fun q134 => ?_) (fun q134 => ?_)
          · skip
            exact bd_fne q134 n_0 n_0
          · skip
            refine mw_aload_n dX10_isTold_63 rfl 1 rfl ?_
            refine mw_iconst dX10_isTold_64 ki_2 ?_
            refine tc_Vi (as := [.int 2]) (st := []) dX10_isTold_65 rfl shM_0 rfl rfl mX10_118 t_X10_fails rfl (Nat.le_of_ble_eq_true rfl) (by decide) (by decide) (c_X10_fails (g := g) S101 hI103 (2 : Int32)) (fun S135 v137 h136 => ?_)
            obtain ⟨hI141, hf142, b138, x139⟩ := h136
            have hF143 := fr_tr hF105 hf142 (by decide) (by decide) (by decide) (by decide)
            refine mw_if_eq (tgt := 75) dX10_isTold_68 (by decide) (fun q144 => ?_) (fun q144 => ?_)
            · skip
              refine mw_iconst dX10_isTold_75 ki_0 ?_
              exact mw_zret rfl (bd_nar n_0 (by decide)) dX10_isTold_76 rfl rfl ⟨S135, _, rfl, rfl, hI141, hF143, bd_w n_0 (by decide), Or.inl rfl⟩
            · skip
              exact bd_fne q144 b138 n_0
        · skip
          exact bd_fne q133 h1 n_0
  · skip
    refine mw_aload_n dX10_isTold_13 rfl 0 rfl ?_
    refine mw_iconst dX10_isTold_14 ki_1 ?_
    refine tc_Vi (as := [.int 1]) (st := []) dX10_isTold_15 rfl shM_0 rfl rfl mX10_118 t_X10_fails rfl (Nat.le_of_ble_eq_true rfl) (by decide) (by decide) (c_X10_fails (g := g) S101 hI103 (1 : Int32)) (fun S145 v147 h146 => ?_)
    obtain ⟨hI151, hf152, b148, x149⟩ := h146
    have hF153 := fr_tr hF105 hf152 (by decide) (by decide) (by decide) (by decide)
    exact mw_zret rfl (bd_nar b148 (by decide)) dX10_isTold_18 rfl rfl ⟨S145, _, rfl, rfl, hI151, hF153, bd_w b148 (by decide), Or.inl (bd_zero b148)⟩
set_option maxRecDepth 100000 in
set_option maxHeartbeats 4000000 in
theorem c_X10_isTold_1 {g : mm_G} (S : mm_S) (hI : JM S) (x1 : Int32) (h1 : mm_b (1) (1) x1) : mc g yX10_isTold cX10_isTold 3 (some .boolean) (mm_rm 2) [.ref 0, .int x1] (mm_enc shM S) (qi shM (fun S1 v => JM S1 ∧ fr [] [18, 19, 20, 21, 22, 23] true true S S1 ∧ mm_b (0) (1) v ∧ (v = 0 ∨ (mm_b (0) (9) (S1.1 0 22))))) := by
  refine mc_of2 (own := RX10) (ini := false) (ls := [(0, .ref 0), (1, .int x1)]) (by decide) (Nat.le_of_ble_eq_true rfl) rfl (by decide) rfl ?_
  have hF : fr [] [18, 19, 20, 21, 22, 23] true true S S := fr_rf
  refine mw_aload_n dX10_isTold_0 rfl 0 rfl ?_
  refine tc_Vv (as := []) (st := []) dX10_isTold_1 rfl shM_0 rfl rfl mX10_115 t_X10_step rfl (Nat.le_of_ble_eq_true rfl) (by decide) (by decide) (c_X10_step (g := g) S hI) (fun S101 h102 => ?_)
  obtain ⟨hI103, hf104, -⟩ := h102
  have hF105 := fr_tr hF hf104 (by decide) (by decide) (by decide) (by decide)
  refine mw_aload_n dX10_isTold_4 rfl 0 rfl ?_
  refine tw_geti (j := 20) dX10_isTold_5 shM_0 rfl rfl (by decide) fX10_99 (fun v106 ev106 => ?_)
  have b107 : mm_b (-1) (255) v106 := JIM_fld hI103 ev106 tbM_6 (by decide)
  refine mw_bipush dX10_isTold_8 kb_48 ?_
  refine mw_icmp_eq (tgt := 19) dX10_isTold_10 (by decide) (fun q108 => ?_) (fun q108 => ?_)
  · skip
    have b109 : mm_b (48) (48) v106 := bd_eq_l q108 b107 n_48 (by decide)
    refine mw_aload_n dX10_isTold_19 rfl 0 rfl ?_
    refine tw_geti (j := 21) dX10_isTold_20 shM_0 rfl rfl (by decide) fX10_102 (fun v110 ev110 => ?_)
    refine mw_iconst dX10_isTold_23 ki_4 ?_
    refine mw_icmp_ge (tgt := 57) dX10_isTold_24 (by decide) (fun q111 => ?_) (fun q111 => ?_)
    · skip
      have b112 : mm_b (4) (2147483647) v110 := bd_le_r q111 n_4 (bd_all v110) (by decide)
      refine mw_iconst dX10_isTold_57 ki_0 ?_
      refine mw_istore_n (ls' := [(2, .int 0), (0, .ref 0), (1, .int x1)]) dX10_isTold_58 rfl (by decide) rfl ?_
      refine mw_iload_n dX10_isTold_59 rfl 0 rfl ?_
      refine mw_if_ne (tgt := 71) dX10_isTold_60 (by decide) (fun q113 => ?_) (fun q113 => ?_)
      · skip
        exact bd_fne q113 n_0 n_0
      · skip
        refine mw_aload_n dX10_isTold_63 rfl 1 rfl ?_
        refine mw_iconst dX10_isTold_64 ki_2 ?_
        refine tc_Vi (as := [.int 2]) (st := []) dX10_isTold_65 rfl shM_0 rfl rfl mX10_118 t_X10_fails rfl (Nat.le_of_ble_eq_true rfl) (by decide) (by decide) (c_X10_fails (g := g) S101 hI103 (2 : Int32)) (fun S114 v116 h115 => ?_)
        obtain ⟨hI120, hf121, b117, x118⟩ := h115
        have hF122 := fr_tr hF105 hf121 (by decide) (by decide) (by decide) (by decide)
        refine mw_if_eq (tgt := 75) dX10_isTold_68 (by decide) (fun q123 => ?_) (fun q123 => ?_)
        · skip
          refine mw_iconst dX10_isTold_75 ki_0 ?_
          exact mw_zret rfl (bd_nar n_0 (by decide)) dX10_isTold_76 rfl rfl ⟨S114, _, rfl, rfl, hI120, hF122, bd_w n_0 (by decide), Or.inl rfl⟩
        · skip
          exact bd_fne q123 b117 n_0
    · skip
      have b124 : mm_b (-2147483648) (3) v110 := bd_lt_l (bd_nle q111) (bd_all v110) n_4 (by decide)
      refine mw_aload_n dX10_isTold_27 rfl 0 rfl ?_
      refine tw_geti (j := 22) dX10_isTold_28 shM_0 rfl rfl (by decide) fX10_105 (fun v125 ev125 => ?_)
      have b126 : mm_b (0) (999) v125 := JIM_fld hI103 ev125 tbM_7 (by decide)
      refine mw_aload_n dX10_isTold_31 rfl 0 rfl ?_
      refine tw_getr (j := 1) dX10_isTold_32 shM_0 rfl rfl (by decide) fX10_13 ?_
      refine mw_iconst dX10_isTold_35 ki_0 ?_
      refine tw_iald dX10_isTold_36 shM_2 (bd_in n_0 (by decide)) (fun v127 ev127 => ?_)
      rw [cl_0] at ev127
      have b128 : mm_b (0) (7) v127 := JIM_fld hI103 ev127 tbM_22 (by decide)
      refine mw_icmp_lt (tgt := 53) dX10_isTold_37 (by decide) (fun q129 => ?_) (fun q129 => ?_)
      · skip
        have b130 : mm_b (0) (6) v125 := bd_lt_l q129 b126 b128 (by decide)
        have b131 : mm_b (1) (7) v127 := bd_lt_r q129 b126 b128 (by decide)
        refine mw_iconst dX10_isTold_53 ki_1 ?_
        refine mw_goto (tgt := 58) dX10_isTold_54 (by decide) ?_
        refine mw_istore_n (ls' := [(2, .int 1), (0, .ref 0), (1, .int x1)]) dX10_isTold_58 rfl (by decide) rfl ?_
        refine mw_iload_n dX10_isTold_59 rfl 0 rfl ?_
        refine mw_if_ne (tgt := 71) dX10_isTold_60 (by decide) (fun q132 => ?_) (fun q132 => ?_)
        · skip
          refine mw_iconst dX10_isTold_71 ki_1 ?_
          refine mw_goto (tgt := 76) dX10_isTold_72 (by decide) ?_
          exact mw_zret rfl (bd_nar n_1 (by decide)) dX10_isTold_76 rfl rfl ⟨S101, _, rfl, rfl, hI103, hF105, bd_w n_1 (by decide), Or.inr (by rw [← ev125]; exact bd_w b130 (by decide))⟩
        · skip
          exact bd_feq q132 n_1 n_0 (by decide)
      · skip
        refine mw_iload_n dX10_isTold_40 rfl 1 rfl ?_
        refine mw_if_eq (tgt := 57) dX10_isTold_41 (by decide) (fun q133 => ?_) (fun q133 => ?_)
        · skip
          exact bd_feq q133 h1 n_0 (by decide)
        · skip
          refine mw_aload_n dX10_isTold_44 rfl 0 rfl ?_
          refine tw_geti (j := 22) dX10_isTold_45 shM_0 rfl rfl (by decide) fX10_105 (fun v134 ev134 => ?_)
          have cv134 : v125 = v134 := ev125.trans ev134.symm
          subst cv134
          refine mw_bipush dX10_isTold_48 kb_9 ?_
          refine mw_icmp_ne (tgt := 57) dX10_isTold_50 (by decide) (fun q135 => ?_) (fun q135 => ?_)
          · skip
            refine mw_iconst dX10_isTold_57 ki_0 ?_
            refine mw_istore_n (ls' := [(2, .int 0), (0, .ref 0), (1, .int x1)]) dX10_isTold_58 rfl (by decide) rfl ?_
            refine mw_iload_n dX10_isTold_59 rfl 0 rfl ?_
            refine mw_if_ne (tgt := 71) dX10_isTold_60 (by decide) (fun q136 => ?_) (fun q136 => ?_)
            · skip
              exact bd_fne q136 n_0 n_0
            · skip
              refine mw_aload_n dX10_isTold_63 rfl 1 rfl ?_
              refine mw_iconst dX10_isTold_64 ki_2 ?_
              refine tc_Vi (as := [.int 2]) (st := []) dX10_isTold_65 rfl shM_0 rfl rfl mX10_118 t_X10_fails rfl (Nat.le_of_ble_eq_true rfl) (by decide) (by decide) (c_X10_fails (g := g) S101 hI103 (2 : Int32)) (fun S137 v139 h138 => ?_)
              obtain ⟨hI143, hf144, b140, x141⟩ := h138
              have hF145 := fr_tr hF105 hf144 (by decide) (by decide) (by decide) (by decide)
              refine mw_if_eq (tgt := 75) dX10_isTold_68 (by decide) (fun q146 => ?_) (fun q146 => ?_)
              · skip
                refine mw_iconst dX10_isTold_75 ki_0 ?_
                exact mw_zret rfl (bd_nar n_0 (by decide)) dX10_isTold_76 rfl rfl ⟨S137, _, rfl, rfl, hI143, hF145, bd_w n_0 (by decide), Or.inl rfl⟩
              · skip
                exact bd_fne q146 b140 n_0
          · skip
            have b147 : mm_b (9) (9) v125 := bd_eq_l q135 b126 n_9 (by decide)
            refine mw_iconst dX10_isTold_53 ki_1 ?_
            refine mw_goto (tgt := 58) dX10_isTold_54 (by decide) ?_
            refine mw_istore_n (ls' := [(2, .int 1), (0, .ref 0), (1, .int x1)]) dX10_isTold_58 rfl (by decide) rfl ?_
            refine mw_iload_n dX10_isTold_59 rfl 0 rfl ?_
            refine mw_if_ne (tgt := 71) dX10_isTold_60 (by decide) (fun q148 => ?_) (fun q148 => ?_)
            · skip
              refine mw_iconst dX10_isTold_71 ki_1 ?_
              refine mw_goto (tgt := 76) dX10_isTold_72 (by decide) ?_
              exact mw_zret rfl (bd_nar n_1 (by decide)) dX10_isTold_76 rfl rfl ⟨S101, _, rfl, rfl, hI103, hF105, bd_w n_1 (by decide), Or.inr (by rw [← ev125]; exact bd_w b147 (by decide))⟩
            · skip
              exact bd_feq q148 n_1 n_0 (by decide)
  · skip
    refine mw_aload_n dX10_isTold_13 rfl 0 rfl ?_
    refine mw_iconst dX10_isTold_14 ki_1 ?_
    refine tc_Vi (as := [.int 1]) (st := []) dX10_isTold_15 rfl shM_0 rfl rfl mX10_118 t_X10_fails rfl (Nat.le_of_ble_eq_true rfl) (by decide) (by decide) (c_X10_fails (g := g) S101 hI103 (1 : Int32)) (fun S149 v151 h150 => ?_)
    obtain ⟨hI155, hf156, b152, x153⟩ := h150
    have hF157 := fr_tr hF105 hf156 (by decide) (by decide) (by decide) (by decide)
    exact mw_zret rfl (bd_nar b152 (by decide)) dX10_isTold_18 rfl rfl ⟨S149, _, rfl, rfl, hI155, hF157, bd_w b152 (by decide), Or.inl (bd_zero b152)⟩
set_option maxRecDepth 100000 in
set_option maxHeartbeats 4000000 in
theorem c_X10_readsWill {g : mm_G} (S : mm_S) (hI : JM S)  : mc g yX10_readsWill cX10_readsWill 3 (some .boolean) (mm_rm 3) [.ref 0] (mm_enc shM S) (qi shM (fun S1 v => JM S1 ∧ fr [2] [18, 19, 20, 21, 22, 23] true true S S1 ∧ mm_b (0) (1) v ∧ (True))) := by
  refine mc_of2 (own := RX10) (ini := false) (ls := [(0, .ref 0)]) (by decide) (Nat.le_of_ble_eq_true rfl) rfl (by decide) rfl ?_
  have hF : fr [2] [18, 19, 20, 21, 22, 23] true true S S := fr_rf
  refine mw_aload_n dX10_readsWill_0 rfl 0 rfl ?_
  refine mw_iconst dX10_readsWill_1 ki_0 ?_
  refine tc_Vi (as := [.int 0]) (st := []) dX10_readsWill_2 rfl shM_0 rfl rfl mX10_130 t_X10_isTold rfl (Nat.le_of_ble_eq_true rfl) (by decide) (by decide) (c_X10_isTold_0 (g := g) S hI (0 : Int32) n_0) (fun S101 v103 h102 => ?_)
  obtain ⟨hI107, hf108, b104, x105⟩ := h102
  have hF109 := fr_tr hF hf108 (by decide) (by decide) (by decide) (by decide)
  refine mw_if_ne (tgt := 10) dX10_readsWill_5 (by decide) (fun q110 => ?_) (fun q110 => ?_)
  · skip
    have b111 : mm_b (1) (1) v103 := bd_ne_l q110 b104 n_0 (by decide)
    have b112 := Or.resolve_left x105 q110
    obtain ⟨v113, ev113⟩ : ∃ y : Int32, y = S101.1 0 22 := ⟨_, rfl⟩
    have b114 : mm_b (0) (6) v113 := by rw [ev113]; exact b112
    refine mw_aload_n dX10_readsWill_10 rfl 0 rfl ?_
    refine tw_geti (j := 22) dX10_readsWill_11 shM_0 rfl rfl (by decide) fX10_105 (fun v115 ev115 => ?_)
    have cv115 : v113 = v115 := ev113.trans ev115.symm
    subst cv115
    refine mw_istore_n (ls' := [(1, .int v113), (0, .ref 0)]) dX10_readsWill_14 rfl (by decide) rfl ?_
    refine mw_aload_n dX10_readsWill_15 rfl 1 rfl ?_
    refine tw_getr (j := 1) dX10_readsWill_16 shM_0 rfl rfl (by decide) fX10_13 ?_
    refine mw_bipush dX10_readsWill_19 kb_24 ?_
    refine tw_iald dX10_readsWill_21 shM_2 (bd_in n_24 (by decide)) (fun v116 ev116 => ?_)
    rw [cl_24] at ev116
    refine mw_iload_n dX10_readsWill_22 rfl 0 rfl ?_
    refine tc_Si (as := [.int v116, .int v113]) (st := []) dX10_readsWill_23 rfl mX10_134 t_X10_isIn rfl (Nat.le_of_ble_eq_true rfl) (by decide) (by decide) (c_X10_isIn (g := g) S101 hI107 v116 v113) (fun S117 v119 h118 => ?_)
    obtain ⟨rfl, b120, x121⟩ := h118
    refine mw_if_eq (tgt := 35) dX10_readsWill_26 (by decide) (fun q122 => ?_) (fun q122 => ?_)
    · skip
      have b123 : mm_b (0) (0) v119 := bd_eq_l q122 b120 n_0 (by decide)
      refine mw_aload_n dX10_readsWill_35 rfl 1 rfl ?_
      refine tw_getr (j := 1) dX10_readsWill_36 shM_0 rfl rfl (by decide) fX10_13 ?_
      refine mw_bipush dX10_readsWill_39 kb_24 ?_
      refine mw_dup2 dX10_readsWill_41 rfl rfl ?_
      refine tw_iald dX10_readsWill_42 shM_2 (bd_in n_24 (by decide)) (fun v124 ev124 => ?_)
      rw [cl_24] at ev124
      have cv124 : v116 = v124 := ev116.trans ev124.symm
      subst cv124
      refine mw_iconst dX10_readsWill_43 ki_1 ?_
      refine mw_iload_n dX10_readsWill_44 rfl 0 rfl ?_
      refine mw_ishl dX10_readsWill_45 (fun v125 ev125 => ?_)
      have b126 : mm_b (1) (64) v125 := bd_shl 6 ev125 b114 (by decide)
      refine mw_ior dX10_readsWill_46 (fun v127 ev127 => ?_)
      refine tw_iast dX10_readsWill_47 shM_2 (bd_in n_24 (by decide)) ?_
      rw [cl_24]
      have hI128 : JM (mm_up S101 2 24 v127) := JIM_put hI107 (bd_all v127) (by decide +kernel)
      generalize hS129 : (mm_up S101 2 24 v127) = S129 at hI128 ⊢
      have hF130 := fr_upA hF109 hS129 (by decide)
      refine mw_iconst dX10_readsWill_48 ki_0 ?_
      refine mw_istore_n (ls' := [(2, .int 0), (1, .int v113), (0, .ref 0)]) dX10_readsWill_49 rfl (by decide) rfl ?_
      have cut50 : ∀ (N50 : Nat) (S131 : mm_S) (y134 y136 : Int32), ((3 : Int) - y136.toInt).toNat < N50 → JM S131 → fr [2] [18, 19, 20, 21, 22, 23] true true S S131 → mm_b (0) (6) y134 → mm_b (0) (2) y136 → mw g RX10 cX10_readsWill 3 (some .boolean) false (mm_rm 3) (qi shM (fun S1 v => JM S1 ∧ fr [2] [18, 19, 20, 21, 22, 23] true true S S1 ∧ mm_b (0) (1) v ∧ (True))) 0 0 (mm_enc shM S131) 50 [(0, .ref 0), (1, .int y134), (2, .int y136)] [] := by
        intro N50
        induction N50 with
        | zero =>
          intro S131 y134 y136 hm138 hI132 hF133 b135 b137
          exact absurd hm138 (Nat.not_lt_zero _)
        | succ N50 ih50 =>
          intro S131 y134 y136 hm138 hI132 hF133 b135 b137
          refine mw_iload_n dX10_readsWill_50 rfl 2 rfl ?_
          refine mw_iconst dX10_readsWill_51 ki_2 ?_
          refine mw_icmp_ge (tgt := 103) dX10_readsWill_52 (by decide) (fun q139 => ?_) (fun q139 => ?_)
          · skip
            have b140 : mm_b (2) (2) y136 := bd_le_r q139 n_2 b137 (by decide)
            refine mw_aload_n dX10_readsWill_103 rfl 0 rfl ?_
            refine tc_Vi (as := []) (st := []) dX10_readsWill_104 rfl shM_0 rfl rfl mX10_126 t_X10_ends rfl (Nat.le_of_ble_eq_true rfl) (by decide) (by decide) (c_X10_ends (g := g) S131 hI132) (fun S141 v143 h142 => ?_)
            obtain ⟨hI147, hf148, b144, x145⟩ := h142
            have hF149 := fr_tr hF133 hf148 (by decide) (by decide) (by decide) (by decide)
            exact mw_zret rfl (bd_nar b144 (by decide)) dX10_readsWill_107 rfl rfl ⟨S141, _, rfl, rfl, hI147, hF149, b144, trivial⟩
          · skip
            have b150 : mm_b (0) (1) y136 := bd_lt_l (bd_nle q139) b137 n_2 (by decide)
            refine mw_aload_n dX10_readsWill_55 rfl 0 rfl ?_
            refine mw_iconst dX10_readsWill_56 ki_1 ?_
            refine tc_Vi (as := [.int 1]) (st := []) dX10_readsWill_57 rfl shM_0 rfl rfl mX10_130 t_X10_isTold rfl (Nat.le_of_ble_eq_true rfl) (by decide) (by decide) (c_X10_isTold_1 (g := g) S131 hI132 (1 : Int32) n_1) (fun S151 v153 h152 => ?_)
            obtain ⟨hI157, hf158, b154, x155⟩ := h152
            have hF159 := fr_tr hF133 hf158 (by decide) (by decide) (by decide) (by decide)
            refine mw_if_ne (tgt := 65) dX10_readsWill_60 (by decide) (fun q160 => ?_) (fun q160 => ?_)
            · skip
              have b161 : mm_b (1) (1) v153 := bd_ne_l q160 b154 n_0 (by decide)
              have b162 := Or.resolve_left x155 q160
              obtain ⟨v163, ev163⟩ : ∃ y : Int32, y = S151.1 0 22 := ⟨_, rfl⟩
              have b164 : mm_b (0) (9) v163 := by rw [ev163]; exact b162
              refine mw_aload_n dX10_readsWill_65 rfl 0 rfl ?_
              refine tw_geti (j := 22) dX10_readsWill_66 shM_0 rfl rfl (by decide) fX10_105 (fun v165 ev165 => ?_)
              have cv165 : v163 = v165 := ev163.trans ev165.symm
              subst cv165
              refine mw_iload_n dX10_readsWill_69 rfl 1 rfl ?_
              refine mw_icmp_ne (tgt := 79) dX10_readsWill_70 (by decide) (fun q166 => ?_) (fun q166 => ?_)
              · skip
                refine mw_aload_n dX10_readsWill_79 rfl 0 rfl ?_
                refine tw_getr (j := 1) dX10_readsWill_80 shM_0 rfl rfl (by decide) fX10_13 ?_
                refine mw_bipush dX10_readsWill_83 kb_10 ?_
                refine mw_bipush dX10_readsWill_85 kb_7 ?_
                refine mw_iload_n dX10_readsWill_87 rfl 2 rfl ?_
                refine mw_imul dX10_readsWill_88 (fun v167 ev167 => ?_)
                have b168 : mm_b (0) (7) v167 := bd_mul ev167 n_7 b150 (by decide)
                refine mw_iadd dX10_readsWill_89 (fun v169 ev169 => ?_)
                have b170 : mm_b (10) (17) v169 := bd_add ev169 n_10 b168 (by decide)
                refine mw_iload_n dX10_readsWill_90 rfl 1 rfl ?_
                refine mw_iadd dX10_readsWill_91 (fun v171 ev171 => ?_)
                have b172 : mm_b (10) (23) v171 := bd_add ev171 b170 b135 (by decide)
                refine mw_aload_n dX10_readsWill_92 rfl 0 rfl ?_
                refine tw_geti (j := 22) dX10_readsWill_93 shM_0 rfl rfl (by decide) fX10_105 (fun v173 ev173 => ?_)
                have cv173 : v163 = v173 := ev163.trans ev173.symm
                subst cv173
                refine tw_iast dX10_readsWill_96 shM_2 (bd_in b172 (by decide)) ?_
                have hI174 : JM (mm_up S151 2 v171.toNatClampNeg v163) := JIM_puta hI157 b164 b172 (by decide) (by decide +kernel)
                generalize hS175 : (mm_up S151 2 v171.toNatClampNeg v163) = S175 at hI174 ⊢
                have hF176 := fr_upA hF159 hS175 (by decide)
                refine mw_iinc (ls' := fun v => [(2, .int v), (0, .ref 0), (1, .int y134)]) dX10_readsWill_97 2 rfl (by decide) (fun _ => rfl) (fun v177 ev177 => ?_)
                have b178 : mm_b (1) (2) v177 := bd_inc ev177 b150 (by decide)
                refine mw_goto (tgt := 50) dX10_readsWill_100 (by decide) ?_
                refine mw_ls [1, 2, 0] rfl ?_
                exact ih50 S175 y134 v177 (ms_inc ev177 b150 (by decide) hm138) hI174 hF176 b135 (bd_w b178 (by decide))
              · skip
                have b179 : mm_b (0) (6) v163 := bd_eq_l q166 b164 b135 (by decide)
                refine mw_aload_n dX10_readsWill_73 rfl 0 rfl ?_
                refine mw_iconst dX10_readsWill_74 ki_4 ?_
                refine tc_Vi (as := [.int 4]) (st := []) dX10_readsWill_75 rfl shM_0 rfl rfl mX10_118 t_X10_fails rfl (Nat.le_of_ble_eq_true rfl) (by decide) (by decide) (c_X10_fails (g := g) S151 hI157 (4 : Int32)) (fun S180 v182 h181 => ?_)
                obtain ⟨hI186, hf187, b183, x184⟩ := h181
                have hF188 := fr_tr hF159 hf187 (by decide) (by decide) (by decide) (by decide)
                exact mw_zret rfl (bd_nar b183 (by decide)) dX10_readsWill_78 rfl rfl ⟨S180, _, rfl, rfl, hI186, hF188, bd_w b183 (by decide), trivial⟩
            · skip
              have b189 : mm_b (0) (0) v153 := bd_eq_l q160 b154 n_0 (by decide)
              refine mw_iconst dX10_readsWill_63 ki_0 ?_
              exact mw_zret rfl (bd_nar n_0 (by decide)) dX10_readsWill_64 rfl rfl ⟨S151, _, rfl, rfl, hI157, hF159, bd_w n_0 (by decide), trivial⟩
      refine mw_ls [2, 1, 0] rfl ?_
      exact cut50 _ S129 v113 (0 : Int32) (Nat.lt_succ_self _) hI128 hF130 b114 (bd_w n_0 (by decide))
    · skip
      have b190 : mm_b (1) (1) v119 := bd_ne_l q122 b120 n_0 (by decide)
      refine mw_aload_n dX10_readsWill_29 rfl 1 rfl ?_
      refine mw_iconst dX10_readsWill_30 ki_4 ?_
      refine tc_Vi (as := [.int 4]) (st := []) dX10_readsWill_31 rfl shM_0 rfl rfl mX10_118 t_X10_fails rfl (Nat.le_of_ble_eq_true rfl) (by decide) (by decide) (c_X10_fails (g := g) S101 hI107 (4 : Int32)) (fun S191 v193 h192 => ?_)
      obtain ⟨hI197, hf198, b194, x195⟩ := h192
      have hF199 := fr_tr hF109 hf198 (by decide) (by decide) (by decide) (by decide)
      exact mw_zret rfl (bd_nar b194 (by decide)) dX10_readsWill_34 rfl rfl ⟨S191, _, rfl, rfl, hI197, hF199, bd_w b194 (by decide), trivial⟩
  · skip
    have b200 : mm_b (0) (0) v103 := bd_eq_l q110 b104 n_0 (by decide)
    refine mw_iconst dX10_readsWill_8 ki_0 ?_
    exact mw_zret rfl (bd_nar n_0 (by decide)) dX10_readsWill_9 rfl rfl ⟨S101, _, rfl, rfl, hI107, hF109, bd_w n_0 (by decide), trivial⟩
set_option maxRecDepth 100000 in
set_option maxHeartbeats 4000000 in
theorem c_X10_readsDoor {g : mm_G} (S : mm_S) (hI : JM S)  : mc g yX10_readsDoor cX10_readsDoor 2 (some .boolean) (mm_rm 3) [.ref 0] (mm_enc shM S) (qi shM (fun S1 v => JM S1 ∧ fr [2] [18, 19, 20, 21, 22, 23] true true S S1 ∧ mm_b (0) (1) v ∧ (True))) := by
  refine mc_of2 (own := RX10) (ini := false) (ls := [(0, .ref 0)]) (by decide) (Nat.le_of_ble_eq_true rfl) rfl (by decide) rfl ?_
  have hF : fr [2] [18, 19, 20, 21, 22, 23] true true S S := fr_rf
  refine mw_aload_n dX10_readsDoor_0 rfl 0 rfl ?_
  refine tw_getr (j := 1) dX10_readsDoor_1 shM_0 rfl rfl (by decide) fX10_13 ?_
  refine mw_iconst dX10_readsDoor_4 ki_1 ?_
  refine tw_iald dX10_readsDoor_5 shM_2 (bd_in n_1 (by decide)) (fun v101 ev101 => ?_)
  rw [cl_1] at ev101
  have b102 : mm_b (0) (6) v101 := JIM_fld hI ev101 tbM_23 (by decide)
  refine mw_istore_n (ls' := [(1, .int v101), (0, .ref 0)]) dX10_readsDoor_6 rfl (by decide) rfl ?_
  refine mw_iload_n dX10_readsDoor_7 rfl 0 rfl ?_
  refine mw_bipush dX10_readsDoor_8 kb_6 ?_
  refine mw_icmp_ne (tgt := 19) dX10_readsDoor_10 (by decide) (fun q103 => ?_) (fun q103 => ?_)
  · skip
    have b104 : mm_b (0) (5) v101 := bd_ne_l q103 b102 n_6 (by decide)
    refine mw_aload_n dX10_readsDoor_19 rfl 1 rfl ?_
    refine tw_getr (j := 1) dX10_readsDoor_20 shM_0 rfl rfl (by decide) fX10_13 ?_
    refine mw_iconst dX10_readsDoor_23 ki_1 ?_
    refine mw_dup2 dX10_readsDoor_24 rfl rfl ?_
    refine tw_iald dX10_readsDoor_25 shM_2 (bd_in n_1 (by decide)) (fun v105 ev105 => ?_)
    rw [cl_1] at ev105
    have cv105 : v101 = v105 := ev101.trans ev105.symm
    subst cv105
    refine mw_iconst dX10_readsDoor_26 ki_1 ?_
    refine mw_iadd dX10_readsDoor_27 (fun v106 ev106 => ?_)
    have b107 : mm_b (1) (6) v106 := bd_add ev106 b104 n_1 (by decide)
    refine tw_iast dX10_readsDoor_28 shM_2 (bd_in n_1 (by decide)) ?_
    rw [cl_1]
    have hI108 : JM (mm_up S 2 1 v106) := JIM_put hI b107 (by decide +kernel)
    generalize hS109 : (mm_up S 2 1 v106) = S109 at hI108 ⊢
    have hF110 := fr_upA hF hS109 (by decide)
    refine mw_aload_n dX10_readsDoor_29 rfl 1 rfl ?_
    refine mw_bipush dX10_readsDoor_30 kb_25 ?_
    refine mw_iload_n dX10_readsDoor_32 rfl 0 rfl ?_
    refine mw_iadd dX10_readsDoor_33 (fun v111 ev111 => ?_)
    have b112 : mm_b (25) (30) v111 := bd_add ev111 n_25 b104 (by decide)
    refine mw_iconst dX10_readsDoor_34 ki_0 ?_
    refine mw_bipush dX10_readsDoor_35 kb_127 ?_
    refine tc_Vi (as := [.int v111, .int 0, .int 127]) (st := []) dX10_readsDoor_37 rfl shM_0 rfl rfl mX10_122 t_X10_number rfl (Nat.le_of_ble_eq_true rfl) (by decide) (by decide) (c_X10_number_d (g := g) S109 hI108 v111 b112 (0 : Int32) n_0 (127 : Int32) n_127) (fun S113 v115 h114 => ?_)
    obtain ⟨hI119, hf120, b116, x117, kp118⟩ := h114
    have hF121 := fr_tr hF110 hf120 (by decide) (by decide) (by decide) (by decide)
    refine mw_if_eq (tgt := 54) dX10_readsDoor_40 (by decide) (fun q122 => ?_) (fun q122 => ?_)
    · skip
      have b123 : mm_b (0) (0) v115 := bd_eq_l q122 b116 n_0 (by decide)
      refine mw_iconst dX10_readsDoor_54 ki_0 ?_
      exact mw_zret rfl (bd_nar n_0 (by decide)) dX10_readsDoor_55 rfl rfl ⟨S113, _, rfl, rfl, hI119, hF121, bd_w n_0 (by decide), trivial⟩
    · skip
      have b124 : mm_b (1) (1) v115 := bd_ne_l q122 b116 n_0 (by decide)
      refine mw_aload_n dX10_readsDoor_43 rfl 1 rfl ?_
      refine tc_Vi (as := []) (st := []) dX10_readsDoor_44 rfl shM_0 rfl rfl mX10_126 t_X10_ends rfl (Nat.le_of_ble_eq_true rfl) (by decide) (by decide) (c_X10_ends (g := g) S113 hI119) (fun S125 v127 h126 => ?_)
      obtain ⟨hI131, hf132, b128, x129⟩ := h126
      have hF133 := fr_tr hF121 hf132 (by decide) (by decide) (by decide) (by decide)
      refine mw_if_eq (tgt := 54) dX10_readsDoor_47 (by decide) (fun q134 => ?_) (fun q134 => ?_)
      · skip
        have b135 : mm_b (0) (0) v127 := bd_eq_l q134 b128 n_0 (by decide)
        refine mw_iconst dX10_readsDoor_54 ki_0 ?_
        exact mw_zret rfl (bd_nar n_0 (by decide)) dX10_readsDoor_55 rfl rfl ⟨S125, _, rfl, rfl, hI131, hF133, bd_w n_0 (by decide), trivial⟩
      · skip
        have b136 : mm_b (1) (1) v127 := bd_ne_l q134 b128 n_0 (by decide)
        refine mw_iconst dX10_readsDoor_50 ki_1 ?_
        refine mw_goto (tgt := 55) dX10_readsDoor_51 (by decide) ?_
        exact mw_zret rfl (bd_nar n_1 (by decide)) dX10_readsDoor_55 rfl rfl ⟨S125, _, rfl, rfl, hI131, hF133, bd_w n_1 (by decide), trivial⟩
  · skip
    have b137 : mm_b (6) (6) v101 := bd_eq_l q103 b102 n_6 (by decide)
    refine mw_aload_n dX10_readsDoor_13 rfl 1 rfl ?_
    refine mw_iconst dX10_readsDoor_14 ki_3 ?_
    refine tc_Vi (as := [.int 3]) (st := []) dX10_readsDoor_15 rfl shM_0 rfl rfl mX10_118 t_X10_fails rfl (Nat.le_of_ble_eq_true rfl) (by decide) (by decide) (c_X10_fails (g := g) S hI (3 : Int32)) (fun S138 v140 h139 => ?_)
    obtain ⟨hI144, hf145, b141, x142⟩ := h139
    have hF146 := fr_tr hF hf145 (by decide) (by decide) (by decide) (by decide)
    exact mw_zret rfl (bd_nar b141 (by decide)) dX10_readsDoor_18 rfl rfl ⟨S138, _, rfl, rfl, hI144, hF146, bd_w b141 (by decide), trivial⟩
set_option maxRecDepth 100000 in
set_option maxHeartbeats 4000000 in
theorem c_X10_readsParts {g : mm_G} (S : mm_S) (hI : JM S)  : mc g yX10_readsParts cX10_readsParts 1 (some .boolean) (mm_rm 3) [.ref 0] (mm_enc shM S) (qi shM (fun S1 v => JM S1 ∧ fr [2] [18, 19, 20, 21, 22, 23] true true S S1 ∧ mm_b (0) (1) v ∧ (True))) := by
  refine mc_of2 (own := RX10) (ini := false) (ls := [(0, .ref 0)]) (by decide) (Nat.le_of_ble_eq_true rfl) rfl (by decide) rfl ?_
  have hF : fr [2] [18, 19, 20, 21, 22, 23] true true S S := fr_rf
  refine mw_aload_n dX10_readsParts_0 rfl 0 rfl ?_
  refine tw_getr (j := 1) dX10_readsParts_1 shM_0 rfl rfl (by decide) fX10_13 ?_
  refine mw_iconst dX10_readsParts_4 ki_2 ?_
  refine tw_iald dX10_readsParts_5 shM_2 (bd_in n_2 (by decide)) (fun v101 ev101 => ?_)
  rw [cl_2] at ev101
  have b102 : mm_b (0) (6) v101 := JIM_fld hI ev101 tbM_24 (by decide)
  refine mw_if_le (tgt := 15) dX10_readsParts_6 (by decide) (fun q103 => ?_) (fun q103 => ?_)
  · skip
    have b104 : mm_b (0) (0) v101 := bd_le_l q103 b102 n_0 (by decide)
    have cut15 : ∀ (N15 : Nat) (S105 : mm_S) (y108 : Int32), ((6 : Int) - y108.toInt).toNat < N15 → JM S105 → fr [2] [18, 19, 20, 21, 22, 23] true true S S105 → mm_b (0) (5) y108 → y108 = S105.1 2 2 → mw g RX10 cX10_readsParts 1 (some .boolean) false (mm_rm 3) (qi shM (fun S1 v => JM S1 ∧ fr [2] [18, 19, 20, 21, 22, 23] true true S S1 ∧ mm_b (0) (1) v ∧ (True))) 0 0 (mm_enc shM S105) 15 [(0, .ref 0)] [] := by
      intro N15
      induction N15 with
      | zero =>
        intro S105 y108 hm110 hI106 hF107 b109 ey108
        exact absurd hm110 (Nat.not_lt_zero _)
      | succ N15 ih15 =>
        intro S105 y108 hm110 hI106 hF107 b109 ey108
        refine mw_aload_n dX10_readsParts_15 rfl 0 rfl ?_
        refine mw_bipush dX10_readsParts_16 kb_31 ?_
        refine mw_aload_n dX10_readsParts_18 rfl 0 rfl ?_
        refine tw_getr (j := 1) dX10_readsParts_19 shM_0 rfl rfl (by decide) fX10_13 ?_
        refine mw_iconst dX10_readsParts_22 ki_2 ?_
        refine tw_iald dX10_readsParts_23 shM_2 (bd_in n_2 (by decide)) (fun v111 ev111 => ?_)
        rw [cl_2] at ev111
        have cv111 : y108 = v111 := ey108.trans ev111.symm
        subst cv111
        refine mw_iadd dX10_readsParts_24 (fun v112 ev112 => ?_)
        have b113 : mm_b (31) (36) v112 := bd_add ev112 n_31 b109 (by decide)
        refine mw_iconst dX10_readsParts_25 ki_0 ?_
        refine mw_bipush dX10_readsParts_26 kb_8 ?_
        refine tc_Vi (as := [.int v112, .int 0, .int 8]) (st := []) dX10_readsParts_28 rfl shM_0 rfl rfl mX10_122 t_X10_number rfl (Nat.le_of_ble_eq_true rfl) (by decide) (by decide) (c_X10_number_p (g := g) S105 hI106 v112 b113 (0 : Int32) n_0 (8 : Int32) n_8) (fun S114 v116 h115 => ?_)
        obtain ⟨hI120, hf121, b117, x118, kp119⟩ := h115
        have hF122 := fr_tr hF107 hf121 (by decide) (by decide) (by decide) (by decide)
        refine mw_if_eq (tgt := 85) dX10_readsParts_31 (by decide) (fun q123 => ?_) (fun q123 => ?_)
        · skip
          have b124 : mm_b (0) (0) v116 := bd_eq_l q123 b117 n_0 (by decide)
          refine mw_iconst dX10_readsParts_85 ki_0 ?_
          exact mw_zret rfl (bd_nar n_0 (by decide)) dX10_readsParts_86 rfl rfl ⟨S114, _, rfl, rfl, hI120, hF122, bd_w n_0 (by decide), trivial⟩
        · skip
          have b125 : mm_b (1) (1) v116 := bd_ne_l q123 b117 n_0 (by decide)
          refine mw_aload_n dX10_readsParts_34 rfl 0 rfl ?_
          refine tw_getr (j := 1) dX10_readsParts_35 shM_0 rfl rfl (by decide) fX10_13 ?_
          refine mw_iconst dX10_readsParts_38 ki_2 ?_
          refine mw_dup2 dX10_readsParts_39 rfl rfl ?_
          refine tw_iald dX10_readsParts_40 shM_2 (bd_in n_2 (by decide)) (fun v126 ev126 => ?_)
          rw [cl_2] at ev126
          have cv126 : y108 = v126 := (ey108.trans kp119.2.2).trans ev126.symm
          subst cv126
          refine mw_iconst dX10_readsParts_41 ki_1 ?_
          refine mw_iadd dX10_readsParts_42 (fun v127 ev127 => ?_)
          have b128 : mm_b (1) (6) v127 := bd_add ev127 b109 n_1 (by decide)
          refine tw_iast dX10_readsParts_43 shM_2 (bd_in n_2 (by decide)) ?_
          rw [cl_2]
          have hI129 : JM (mm_up S114 2 2 v127) := JIM_put hI120 b128 (by decide +kernel)
          generalize hS130 : (mm_up S114 2 2 v127) = S130 at hI129 ⊢
          have hF131 := fr_upA hF122 hS130 (by decide)
          refine mw_aload_n dX10_readsParts_44 rfl 0 rfl ?_
          refine tc_Vv (as := []) (st := []) dX10_readsParts_45 rfl shM_0 rfl rfl mX10_115 t_X10_step rfl (Nat.le_of_ble_eq_true rfl) (by decide) (by decide) (c_X10_step (g := g) S130 hI129) (fun S132 h133 => ?_)
          obtain ⟨hI134, hf135, -⟩ := h133
          have hF136 := fr_tr hF131 hf135 (by decide) (by decide) (by decide) (by decide)
          refine mw_aload_n dX10_readsParts_48 rfl 0 rfl ?_
          refine tw_geti (j := 20) dX10_readsParts_49 shM_0 rfl rfl (by decide) fX10_99 (fun v137 ev137 => ?_)
          have b138 : mm_b (-1) (255) v137 := JIM_fld hI134 ev137 tbM_6 (by decide)
          refine mw_bipush dX10_readsParts_52 kb_59 ?_
          refine mw_icmp_ne (tgt := 59) dX10_readsParts_54 (by decide) (fun q139 => ?_) (fun q139 => ?_)
          · skip
            refine mw_aload_n dX10_readsParts_59 rfl 0 rfl ?_
            refine tw_geti (j := 20) dX10_readsParts_60 shM_0 rfl rfl (by decide) fX10_99 (fun v140 ev140 => ?_)
            have cv140 : v137 = v140 := ev137.trans ev140.symm
            subst cv140
            refine mw_bipush dX10_readsParts_63 kb_44 ?_
            refine mw_icmp_ne (tgt := 79) dX10_readsParts_65 (by decide) (fun q141 => ?_) (fun q141 => ?_)
            · skip
              refine mw_aload_n dX10_readsParts_79 rfl 0 rfl ?_
              refine mw_iconst dX10_readsParts_80 ki_1 ?_
              refine tc_Vi (as := [.int 1]) (st := []) dX10_readsParts_81 rfl shM_0 rfl rfl mX10_118 t_X10_fails rfl (Nat.le_of_ble_eq_true rfl) (by decide) (by decide) (c_X10_fails (g := g) S132 hI134 (1 : Int32)) (fun S142 v144 h143 => ?_)
              obtain ⟨hI148, hf149, b145, x146⟩ := h143
              have hF150 := fr_tr hF136 hf149 (by decide) (by decide) (by decide) (by decide)
              exact mw_zret rfl (bd_nar b145 (by decide)) dX10_readsParts_84 rfl rfl ⟨S142, _, rfl, rfl, hI148, hF150, bd_w b145 (by decide), trivial⟩
            · skip
              have b151 : mm_b (44) (44) v137 := bd_eq_l q141 b138 n_44 (by decide)
              refine mw_aload_n dX10_readsParts_68 rfl 0 rfl ?_
              refine tw_getr (j := 1) dX10_readsParts_69 shM_0 rfl rfl (by decide) fX10_13 ?_
              refine mw_iconst dX10_readsParts_72 ki_2 ?_
              refine tw_iald dX10_readsParts_73 shM_2 (bd_in n_2 (by decide)) (fun v152 ev152 => ?_)
              rw [cl_2] at ev152
              have cv152 : v127 = v152 := ((up_eq hS130).trans (fr_A hf135 (by decide) (by decide))).trans ev152.symm
              subst cv152
              refine mw_bipush dX10_readsParts_74 kb_6 ?_
              refine mw_icmp_ne (tgt := 15) dX10_readsParts_76 (by decide) (fun q153 => ?_) (fun q153 => ?_)
              · skip
                have b154 : mm_b (1) (5) v127 := bd_ne_l q153 b128 n_6 (by decide)
                exact ih15 S132 v127 (ms_add ev127 b109 n_1 (by decide) hm110) hI134 hF136 (bd_w b154 (by decide)) ((up_eq hS130).trans (fr_A hf135 (by decide) (by decide)))
              · skip
                have b155 : mm_b (6) (6) v127 := bd_eq_l q153 b128 n_6 (by decide)
                refine mw_aload_n dX10_readsParts_79 rfl 0 rfl ?_
                refine mw_iconst dX10_readsParts_80 ki_1 ?_
                refine tc_Vi (as := [.int 1]) (st := []) dX10_readsParts_81 rfl shM_0 rfl rfl mX10_118 t_X10_fails rfl (Nat.le_of_ble_eq_true rfl) (by decide) (by decide) (c_X10_fails (g := g) S132 hI134 (1 : Int32)) (fun S156 v158 h157 => ?_)
                obtain ⟨hI162, hf163, b159, x160⟩ := h157
                have hF164 := fr_tr hF136 hf163 (by decide) (by decide) (by decide) (by decide)
                exact mw_zret rfl (bd_nar b159 (by decide)) dX10_readsParts_84 rfl rfl ⟨S156, _, rfl, rfl, hI162, hF164, bd_w b159 (by decide), trivial⟩
          · skip
            have b165 : mm_b (59) (59) v137 := bd_eq_l q139 b138 n_59 (by decide)
            refine mw_iconst dX10_readsParts_57 ki_1 ?_
            exact mw_zret rfl (bd_nar n_1 (by decide)) dX10_readsParts_58 rfl rfl ⟨S132, _, rfl, rfl, hI134, hF136, bd_w n_1 (by decide), trivial⟩
    exact cut15 _ S v101 (Nat.lt_succ_self _) hI hF (bd_w b104 (by decide)) ev101
  · skip
    have b166 : mm_b (1) (6) v101 := bd_lt_r (bd_nle q103) n_0 b102 (by decide)
    refine mw_aload_n dX10_readsParts_9 rfl 0 rfl ?_
    refine mw_iconst dX10_readsParts_10 ki_3 ?_
    refine tc_Vi (as := [.int 3]) (st := []) dX10_readsParts_11 rfl shM_0 rfl rfl mX10_118 t_X10_fails rfl (Nat.le_of_ble_eq_true rfl) (by decide) (by decide) (c_X10_fails (g := g) S hI (3 : Int32)) (fun S167 v169 h168 => ?_)
    obtain ⟨hI173, hf174, b170, x171⟩ := h168
    have hF175 := fr_tr hF hf174 (by decide) (by decide) (by decide) (by decide)
    exact mw_zret rfl (bd_nar b170 (by decide)) dX10_readsParts_14 rfl rfl ⟨S167, _, rfl, rfl, hI173, hF175, bd_w b170 (by decide), trivial⟩
set_option maxRecDepth 100000 in
set_option maxHeartbeats 4000000 in
theorem c_X10_readsClause {g : mm_G} (S : mm_S) (hI : JM S)  : mc g yX10_readsClause cX10_readsClause 1 (some .boolean) (mm_rm 4) [.ref 0] (mm_enc shM S) (qi shM (fun S1 v => JM S1 ∧ fr [2] [18, 19, 20, 21, 22, 23] true true S S1 ∧ mm_b (0) (1) v ∧ (v = 0 ∨ (mm_b (99) (119) (S.1 0 20))))) := by
  refine mc_of2 (own := RX10) (ini := false) (ls := [(0, .ref 0)]) (by decide) (Nat.le_of_ble_eq_true rfl) rfl (by decide) rfl ?_
  have hF : fr [2] [18, 19, 20, 21, 22, 23] true true S S := fr_rf
  refine mw_aload_n dX10_readsClause_0 rfl 0 rfl ?_
  refine tw_geti (j := 20) dX10_readsClause_1 shM_0 rfl rfl (by decide) fX10_99 (fun v101 ev101 => ?_)
  have b102 : mm_b (-1) (255) v101 := JIM_fld hI ev101 tbM_6 (by decide)
  rcases (by omega : (v101.toInt ≠ 99 ∧ v101.toInt ≠ 100 ∧ v101.toInt ≠ 112 ∧ v101.toInt ≠ 119) ∨ v101.toInt = 99 ∨ v101.toInt = 100 ∨ v101.toInt = 112 ∨ v101.toInt = 119) with q103 | q103 | q103 | q103 | q103
  · refine mw_lookup (off := 64) (tgt := 68) dX10_readsClause_4 (by decide) (by simp [Op.lookupswitch.offset_cons, Op.lookupswitch.offset, q103, Ne.symm, eq_comm] <;> omega) (by decide) ?_
    refine mw_aload_n dX10_readsClause_68 rfl 0 rfl ?_
    refine mw_iconst dX10_readsClause_69 ki_1 ?_
    refine tc_Vi (as := [.int 1]) (st := []) dX10_readsClause_70 rfl shM_0 rfl rfl mX10_118 t_X10_fails rfl (Nat.le_of_ble_eq_true rfl) (by decide) (by decide) (c_X10_fails (g := g) S hI (1 : Int32)) (fun S104 v106 h105 => ?_)
    obtain ⟨hI110, hf111, b107, x108⟩ := h105
    have hF112 := fr_tr hF hf111 (by decide) (by decide) (by decide) (by decide)
    exact mw_zret rfl (bd_nar b107 (by decide)) dX10_readsClause_73 rfl rfl ⟨S104, _, rfl, rfl, hI110, hF112, bd_w b107 (by decide), Or.inl (bd_zero b107)⟩
  · refine mw_lookup (off := 59) (tgt := 63) dX10_readsClause_4 (by decide) (by rw [q103]; rfl) (by decide) ?_
    have b113 : mm_b (99) (99) v101 := ⟨by omega, by omega⟩
    refine mw_aload_n dX10_readsClause_63 rfl 0 rfl ?_
    refine tc_Vi (as := []) (st := []) dX10_readsClause_64 rfl shM_0 rfl rfl mX10_147 t_X10_readsParts rfl (Nat.le_of_ble_eq_true rfl) (by decide) (by decide) (c_X10_readsParts (g := g) S hI) (fun S114 v116 h115 => ?_)
    obtain ⟨hI120, hf121, b117, x118⟩ := h115
    have hF122 := fr_tr hF hf121 (by decide) (by decide) (by decide) (by decide)
    exact mw_zret rfl (bd_nar b117 (by decide)) dX10_readsClause_67 rfl rfl ⟨S114, _, rfl, rfl, hI120, hF122, b117, Or.inr (by rw [← ev101]; exact bd_w b113 (by decide))⟩
  · refine mw_lookup (off := 54) (tgt := 58) dX10_readsClause_4 (by decide) (by rw [q103]; rfl) (by decide) ?_
    have b123 : mm_b (100) (100) v101 := ⟨by omega, by omega⟩
    refine mw_aload_n dX10_readsClause_58 rfl 0 rfl ?_
    refine tc_Vi (as := []) (st := []) dX10_readsClause_59 rfl shM_0 rfl rfl mX10_144 t_X10_readsDoor rfl (Nat.le_of_ble_eq_true rfl) (by decide) (by decide) (c_X10_readsDoor (g := g) S hI) (fun S124 v126 h125 => ?_)
    obtain ⟨hI130, hf131, b127, x128⟩ := h125
    have hF132 := fr_tr hF hf131 (by decide) (by decide) (by decide) (by decide)
    exact mw_zret rfl (bd_nar b127 (by decide)) dX10_readsClause_62 rfl rfl ⟨S124, _, rfl, rfl, hI130, hF132, b127, Or.inr (by rw [← ev101]; exact bd_w b123 (by decide))⟩
  · refine mw_lookup (off := 44) (tgt := 48) dX10_readsClause_4 (by decide) (by rw [q103]; rfl) (by decide) ?_
    have b133 : mm_b (112) (112) v101 := ⟨by omega, by omega⟩
    refine mw_aload_n dX10_readsClause_48 rfl 0 rfl ?_
    refine tc_Vi (as := []) (st := []) dX10_readsClause_49 rfl shM_0 rfl rfl mX10_138 t_X10_readsPerson rfl (Nat.le_of_ble_eq_true rfl) (by decide) (by decide) (c_X10_readsPerson (g := g) S hI) (fun S134 v136 h135 => ?_)
    obtain ⟨hI140, hf141, b137, x138⟩ := h135
    have hF142 := fr_tr hF hf141 (by decide) (by decide) (by decide) (by decide)
    exact mw_zret rfl (bd_nar b137 (by decide)) dX10_readsClause_52 rfl rfl ⟨S134, _, rfl, rfl, hI140, hF142, b137, Or.inr (by rw [← ev101]; exact bd_w b133 (by decide))⟩
  · refine mw_lookup (off := 49) (tgt := 53) dX10_readsClause_4 (by decide) (by rw [q103]; rfl) (by decide) ?_
    have b143 : mm_b (119) (119) v101 := ⟨by omega, by omega⟩
    refine mw_aload_n dX10_readsClause_53 rfl 0 rfl ?_
    refine tc_Vi (as := []) (st := []) dX10_readsClause_54 rfl shM_0 rfl rfl mX10_141 t_X10_readsWill rfl (Nat.le_of_ble_eq_true rfl) (by decide) (by decide) (c_X10_readsWill (g := g) S hI) (fun S144 v146 h145 => ?_)
    obtain ⟨hI150, hf151, b147, x148⟩ := h145
    have hF152 := fr_tr hF hf151 (by decide) (by decide) (by decide) (by decide)
    exact mw_zret rfl (bd_nar b147 (by decide)) dX10_readsClause_57 rfl rfl ⟨S144, _, rfl, rfl, hI150, hF152, b147, Or.inr (by rw [← ev101]; exact bd_w b143 (by decide))⟩
