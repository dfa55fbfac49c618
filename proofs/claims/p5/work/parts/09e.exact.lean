/-! ===== the reference: in, keep told exactly; orders joined ===== -/
set_option maxRecDepth 100000 in
set_option maxHeartbeats 4000000 in
theorem c_X10_inx {g : mm_G} (S : mm_S) (hI : JM S) (x0 x1 x2 : Int64) : mc g yX10_in cX10_in 6 (some .boolean) (mm_rm 0) [.long x0, .long x1, .long x2] (mm_enc shM S) (qi shM (fun S1 v => S = S1 ∧ mm_b 0 1 v ∧ ((v = 0 ∧ ¬ (x1.toInt ≤ x0.toInt ∧ x0.toInt ≤ x2.toInt)) ∨ (v = 1 ∧ x1.toInt ≤ x0.toInt ∧ x0.toInt ≤ x2.toInt)))) := by
  refine mc_of2 (own := RX10) (ini := false) (ls := [(0, .long x0), (2, .long x1), (4, .long x2)]) (by decide) (Nat.le_of_ble_eq_true rfl) rfl (by decide) rfl ?_
  refine mw_lload_n dX10_in_0 rfl 0 rfl ?_
  refine mw_lload_n dX10_in_1 rfl 1 rfl ?_
  refine mw_lcmp dX10_in_2 (fun z1 e1 => ?_)
  refine mw_if_lt (tgt := 17) dX10_in_3 (by decide) (fun q => ?_) (fun q => ?_)
  · refine mw_iconst dX10_in_17 ki_0 ?_
    refine mw_zret rfl (bd_nar n_0 (by decide)) dX10_in_18 rfl rfl ⟨S, _, rfl, rfl, rfl, bd_w n_0 (by decide), Or.inl ⟨rfl, fun h => ?_⟩⟩
    have h1 : 0 ≤ lg_cmp x0 x1 := (lg_cmp_ge x0 x1).mpr (Int64.le_iff_toInt_le.mpr h.1)
    rw [← e1] at h1
    have h2 := Int32.lt_iff_toInt_lt.mp q
    have h3 := Int32.le_iff_toInt_le.mp h1
    omega
  · have h1 : x1 ≤ x0 := (lg_cmp_ge x0 x1).mp (by rw [← e1]; exact bd_nlt q)
    refine mw_lload_n dX10_in_6 rfl 0 rfl ?_
    refine mw_lload dX10_in_7 2 rfl ?_
    refine mw_lcmp dX10_in_9 (fun z2 e2 => ?_)
    refine mw_if_gt (tgt := 17) dX10_in_10 (by decide) (fun q => ?_) (fun q => ?_)
    · refine mw_iconst dX10_in_17 ki_0 ?_
      refine mw_zret rfl (bd_nar n_0 (by decide)) dX10_in_18 rfl rfl ⟨S, _, rfl, rfl, rfl, bd_w n_0 (by decide), Or.inl ⟨rfl, fun h => ?_⟩⟩
      have h4 : lg_cmp x0 x2 ≤ 0 := (lg_cmp_le x0 x2).mpr (Int64.le_iff_toInt_le.mpr h.2)
      rw [← e2] at h4
      have h2 := Int32.lt_iff_toInt_lt.mp q
      have h3 := Int32.le_iff_toInt_le.mp h4
      omega
    · have h2 : x0 ≤ x2 := (lg_cmp_le x0 x2).mp (by rw [← e2]; exact bd_nlt q)
      refine mw_iconst dX10_in_13 ki_1 ?_
      refine mw_goto (tgt := 18) dX10_in_14 (by decide) ?_
      exact mw_zret rfl (bd_nar n_1 (by decide)) dX10_in_18 rfl rfl ⟨S, _, rfl, rfl, rfl, bd_w n_1 (by decide), Or.inr ⟨rfl, Int64.le_iff_toInt_le.mp h1, Int64.le_iff_toInt_le.mp h2⟩⟩
theorem kx_no {v x1 : Int32} {w : Int64} (x : (v = 0 ∧ ¬ ((0 : Int64).toInt ≤ w.toInt ∧ w.toInt ≤ (1 : Int64).toInt)) ∨ (v = 1 ∧ (0 : Int64).toInt ≤ w.toInt ∧ w.toInt ≤ (1 : Int64).toInt)) (e : w = x1.toInt64) (q : v = 0) : ¬ mm_b 0 1 x1 := by
  intro h
  rw [e, Int32.toInt_toInt64] at x
  rcases x with x | x
  · exact x.2 ⟨h.1, h.2⟩
  · exact absurd (x.1.symm.trans q) (by decide)
set_option maxRecDepth 100000 in
set_option maxHeartbeats 4000000 in
theorem c_X10_keepx {g : mm_G} (S : mm_S) (hI : JM S) (x1 : Int32) : mc g yX10_keep cX10_keep 2 (some .int) (mm_rm 1) [.ref 0, .int x1] (mm_enc shM S) (qi shM (fun S1 v => JM S1 ∧ fr [6, 7] [5] true true S S1 ∧ mm_b (-1000000001) (1) v ∧ ((mm_b 0 1 x1 → v = 1) ∧ (¬ mm_b 0 1 x1 → v = -1000000001)))) := by
  refine mc_of2 (own := RX10) (ini := false) (ls := [(0, .ref 0), (1, .int x1)]) (by decide) (Nat.le_of_ble_eq_true rfl) rfl (by decide) rfl ?_
  have hF : fr [6, 7] [5] true true S S := fr_rf
  refine mw_iload_n dX10_keep_0 rfl 1 rfl ?_
  refine mw_i2l dX10_keep_1 (fun w101 ew101 => ?_)
  have b102 : mm_bl (-2147483648) (2147483647) w101 := bl_i2l ew101 (bd_all x1)
  refine mw_lconst (v := 0) dX10_keep_2 (by decide) ?_
  refine mw_lconst (v := 1) dX10_keep_3 (by decide) ?_
  refine tc_Si (as := [.long w101, .long 0, .long 1]) (st := []) dX10_keep_4 rfl mX10_62 t_X10_in rfl (Nat.le_of_ble_eq_true rfl) (by decide) (by decide) (c_X10_inx (g := g) S hI w101 (0 : Int64) (1 : Int64)) (fun S103 v105 h104 => ?_)
  obtain ⟨rfl, b106, x107⟩ := h104
  have x108 : v105 = 0 ∨ mm_b 0 1 x1 := in_use (lo := 0) (hi := 1) (x107.imp id And.right) ew101 L_0 L_1 (by decide)
  refine mw_if_ne (tgt := 13) dX10_keep_7 (by decide) (fun q109 => ?_) (fun q109 => ?_)
  · skip
    have b110 : mm_b (1) (1) v105 := bd_ne_l q109 b106 n_0 (by decide)
    have b111 := Or.resolve_left x108 q109
    refine mw_aload_n dX10_keep_13 rfl 0 rfl ?_
    refine tw_getr (j := 2) dX10_keep_14 shM_0 rfl rfl (by decide) fX10_16 ?_
    refine mw_iconst dX10_keep_17 ki_0 ?_
    refine mw_aload_n dX10_keep_18 rfl 0 rfl ?_
    refine tw_getr (j := 6) dX10_keep_19 shM_0 rfl rfl (by decide) fX10_25 ?_
    refine mw_bipush dX10_keep_22 kb_31 ?_
    refine mw_iload_n dX10_keep_24 rfl 1 rfl ?_
    refine mw_imul dX10_keep_25 (fun v112 ev112 => ?_)
    have b113 : mm_b (0) (31) v112 := bd_mul ev112 n_31 b111 (by decide)
    refine mw_bipush dX10_keep_26 kb_30 ?_
    refine tc_Sv (as := [.ref 3, .int 0, .ref 6, .int v112, .int 30]) (st := []) dX10_keep_28 rfl mX10_66 t_X10_copies rfl (Nat.le_of_ble_eq_true rfl) (by decide) (by decide) (c_X10_copies_36 (g := g) S hI (0 : Int32) n_0 v112 (30 : Int32) n_30 (cp_mul (C := 31) (M := 2) ev112 n_31 b111 (by decide))) (fun S114 h115 => ?_)
    obtain ⟨hI117, hf118, x116⟩ := h115
    have hF119 := fr_tr hF hf118 (by decide) (by decide) (by decide) (by decide)
    refine mw_aload_n dX10_keep_31 rfl 0 rfl ?_
    refine tw_getr (j := 6) dX10_keep_32 shM_0 rfl rfl (by decide) fX10_25 ?_
    refine mw_bipush dX10_keep_35 kb_31 ?_
    refine mw_iload_n dX10_keep_37 rfl 1 rfl ?_
    refine mw_imul dX10_keep_38 (fun v120 ev120 => ?_)
    have cv120 : v112 = v120 := ev112.trans ev120.symm
    subst cv120
    refine mw_bipush dX10_keep_39 kb_30 ?_
    refine mw_iadd dX10_keep_41 (fun v121 ev121 => ?_)
    have b122 : mm_b (30) (61) v121 := bd_add ev121 b113 n_30 (by decide)
    refine mw_aload_n dX10_keep_42 rfl 0 rfl ?_
    refine tw_getl (j := 8) dX10_keep_43 shM_0 rfl rfl (by decide) fX10_211 (fun w123 ew123 => ?_)
    have b124 : mm_bl (0) (2147483647) w123 := by rw [ew123]; exact JM_long hI117
    refine mw_l2i dX10_keep_46 (fun v125 ev125 => ?_)
    have b126 : mm_b (0) (2147483647) v125 := bl_l2i ev125 b124 (by decide)
    refine tw_iast dX10_keep_47 shM_6 (bd_in b122 (by decide)) ?_
    have hI127 : JM (mm_up S114 6 v121.toNatClampNeg v125) := JM_img hI117 ev121 (cp_mul (C := 31) (M := 2) ev112 n_31 b111 (by decide)) (bd_w b126 (by decide))
    generalize hS128 : (mm_up S114 6 v121.toNatClampNeg v125) = S128 at hI127 ⊢
    have hF129 := fr_upA hF119 hS128 (by decide)
    refine mw_aload_n dX10_keep_48 rfl 0 rfl ?_
    refine tw_getr (j := 7) dX10_keep_49 shM_0 rfl rfl (by decide) fX10_28 ?_
    refine mw_iload_n dX10_keep_52 rfl 1 rfl ?_
    refine mw_iconst dX10_keep_53 ki_1 ?_
    refine tw_zast dX10_keep_54 shM_7 (bd_in b111 (by decide)) (bd_bool n_1 (by decide)) ?_
    have hI130 : JM (mm_up S128 7 x1.toNatClampNeg 1) := JIM_puta hI127 n_1 b111 (by decide) (by decide +kernel)
    generalize hS131 : (mm_up S128 7 x1.toNatClampNeg 1) = S131 at hI130 ⊢
    have hF132 := fr_upA hF129 hS131 (by decide)
    refine mw_aload_n dX10_keep_55 rfl 0 rfl ?_
    refine mw_iconst dX10_keep_56 ki_0 ?_
    refine tw_puti (j := 5) dX10_keep_57 shM_0 rfl rfl (by decide) fX10_70 rfl (by decide +kernel) ?_
    have hI133 : JM (mm_up S131 0 5 0) := JIM_put hI130 n_0 (by decide +kernel)
    generalize hS134 : (mm_up S131 0 5 0) = S134 at hI133 ⊢
    have hF135 := fr_upF hF132 hS134 (by decide)
    refine mw_iconst dX10_keep_60 ki_1 ?_
    exact mw_iret rfl dX10_keep_61 rfl rfl ⟨S134, _, rfl, rfl, hI133, hF135, bd_w n_1 (by decide), fun _ => rfl, fun h => absurd b111 h⟩
  · skip
    have b136 : mm_b (0) (0) v105 := bd_eq_l q109 b106 n_0 (by decide)
    refine mw_ldc dX10_keep_10 kX10_182 ?_
    exact mw_iret rfl dX10_keep_12 rfl rfl ⟨S, _, rfl, rfl, hI, hF, bd_w n_m1000000001 (by decide), fun h => absurd h (kx_no x107 ew101 q109), fun _ => rfl⟩
theorem c_X10_ordersx {g : mm_G} (S : mm_S) (hI : JM S) (x1 x2 : Int32) : mc g yX10_orders cX10_orders 8 (some .int) (mm_rm 5) [.ref 0, .int x1, .int x2] (mm_enc shM S) (qi shM (fun S1 _ => JM S1 ∧ True)) := by
  have h := bd_all x1
  by_cases a : x1.toInt ≤ -1
  · exact mc_wk (c_X10_orders_a S hI x1 ⟨h.1, a⟩ x2) (fun _ _ ⟨S1, v, q1, q2, q3⟩ => ⟨S1, v, q1, q2, q3.1, trivial⟩)
  by_cases a1 : x1.toInt ≤ 0
  · exact mc_wk (c_X10_orders_b S hI x1 ⟨by omega, a1⟩ x2) (fun _ _ ⟨S1, v, q1, q2, q3⟩ => ⟨S1, v, q1, q2, q3.1, trivial⟩)
  by_cases a2 : x1.toInt ≤ 127
  · exact mc_wk (c_X10_orders_c S hI x1 ⟨by omega, a2⟩ x2) (fun _ _ ⟨S1, v, q1, q2, q3⟩ => ⟨S1, v, q1, q2, q3.1, trivial⟩)
  · exact mc_wk (c_X10_orders_d S hI x1 ⟨by omega, h.2⟩ x2) (fun _ _ ⟨S1, v, q1, q2, q3⟩ => ⟨S1, v, q1, q2, q3.1, trivial⟩)
