/-! ===== feed, parish: the size of THE TEXT ===== -/
def feedR (n n' v x : Int32) : Prop := (¬ mm_b 0 255 x → v = -1000000002 ∧ n' = n) ∧ (mm_b 0 255 x → mm_b 0 239 n → v = n + 1 ∧ n' = n + 1) ∧ (mm_b 0 255 x → ¬ mm_b 0 239 n → v = -1000000004 ∧ n' = n)
theorem feedR_det {n a b v w x : Int32} (h1 : feedR n a v x) (h2 : feedR n b w x) : v = w ∧ a = b := by
  by_cases hx : mm_b 0 255 x
  · by_cases hn : mm_b 0 239 n
    · have p := h1.2.1 hx hn
      have q := h2.2.1 hx hn
      exact ⟨p.1.trans q.1.symm, p.2.trans q.2.symm⟩
    · have p := h1.2.2 hx hn
      have q := h2.2.2 hx hn
      exact ⟨p.1.trans q.1.symm, p.2.trans q.2.symm⟩
  · have p := h1.1 hx
    have q := h2.1 hx
    exact ⟨p.1.trans q.1.symm, p.2.trans q.2.symm⟩
theorem fd_out {n x : Int32} (h : ¬ mm_b 0 255 x) : feedR n n (-1000000002) x := ⟨fun _ => ⟨rfl, rfl⟩, fun q => absurd q h, fun q => absurd q h⟩
theorem fd_full {n x : Int32} (hx : mm_b 0 255 x) (hn : ¬ mm_b 0 239 n) : feedR n n (-1000000004) x := ⟨fun q => absurd hx q, fun _ q => absurd q hn, fun _ _ => ⟨rfl, rfl⟩⟩
theorem fd_ok {n n' v x : Int32} (hx : mm_b 0 255 x) (hn : mm_b 0 239 n) (hv : v = n + 1) (hw : n' = n + 1) : feedR n n' v x := ⟨fun q => absurd hx q, fun _ _ => ⟨hv, hw⟩, fun _ q => absurd hn q⟩
theorem fd_lt {x : Int32} (h : mm_b (-2147483648) (-1) x) : ¬ mm_b 0 255 x := by intro q; omega
theorem fd_gt {x : Int32} (h : mm_b 256 2147483647 x) : ¬ mm_b 0 255 x := by intro q; omega
theorem fd_240 {v n : Int32} (e : v = n) (h : mm_b 240 240 v) : ¬ mm_b 0 239 n := by
  subst e
  intro q
  omega
theorem fd_no {v x1 : Int32} {w : Int64} (x : (v = 0 ∧ ¬ ((0 : Int64).toInt ≤ w.toInt ∧ w.toInt ≤ (255 : Int64).toInt)) ∨ (v = 1 ∧ (0 : Int64).toInt ≤ w.toInt ∧ w.toInt ≤ (255 : Int64).toInt)) (e : w = x1.toInt64) (q : v = 0) : ¬ mm_b 0 255 x1 := by
  intro h
  rw [e, Int32.toInt_toInt64] at x
  rcases x with x | x
  · exact x.2 ⟨h.1, h.2⟩
  · exact absurd (x.1.symm.trans q) (by decide)
def addR (n n' v : Int32) : Prop := (v = 1 ∧ mm_b 0 239 n ∧ n' = n + 1) ∨ (v = 0 ∧ ¬ mm_b 0 239 n ∧ n' = n)
theorem ad_f {n n' v x : Int32} (hx : mm_b 0 255 x) (h : addR n n' v) (q : v = 0) : feedR n n' (-1000000004) x := by
  rcases h with h | h
  · exact absurd (h.1.symm.trans q) (by decide)
  · rw [h.2.2]
    exact fd_full hx h.2.1
theorem ad_k {n n' v w x : Int32} (hx : mm_b 0 255 x) (h : addR n n' v) (q : ¬ v = 0) (e : w = n') : feedR n n' w x := by
  rcases h with h | h
  · exact fd_ok hx h.2.1 (e.trans h.2.2) h.2.2
  · exact absurd h.1 q
set_option maxRecDepth 100000 in
set_option maxHeartbeats 4000000 in
theorem c_X8_addx {g : mm_G} (S : mm_S) (hI : JC S) (x1 : Int32) (h1 : mm_b (0) (255) x1) : mc g yX8_add cX8_add 2 (some .boolean) (mm_rm 0) [.ref 1, .int x1] (mm_enc shC S) (qi shC (fun S1 v => JC S1 ∧ fr [1, 2] [] true true S S1 ∧ mm_b (0) (1) v ∧ (addR (S.1 1 0) (S1.1 1 0) v))) := by
  refine mc_of2 (own := RX8) (ini := false) (ls := [(0, .ref 1), (1, .int x1)]) (by decide) (Nat.le_of_ble_eq_true rfl) rfl (by decide) rfl ?_
  have hF : fr [1, 2] [] true true S S := fr_rf
  refine mw_aload_n dX8_add_0 rfl 0 rfl ?_
  refine tw_geti (j := 0) dX8_add_1 shC_1 rfl rfl (by decide) fX8_19 (fun v101 ev101 => ?_)
  have b102 : mm_b (0) (240) v101 := JIC_fld hI ev101 tbC_0 (by decide)
  refine mw_aload_n dX8_add_4 rfl 0 rfl ?_
  refine tw_getr (j := 5) dX8_add_5 shC_1 rfl rfl (by decide) fX8_15 ?_
  refine tw_aleni (v := 240) dX8_add_8 shC_2 rfl (by decide) ?_
  refine mw_icmp_lt (tgt := 14) dX8_add_9 (by decide) (fun q103 => ?_) (fun q103 => ?_)
  · skip
    have b104 : mm_b (0) (239) v101 := bd_lt_l q103 b102 n_240 (by decide)
    refine mw_aload_n dX8_add_14 rfl 0 rfl ?_
    refine tw_getr (j := 5) dX8_add_15 shC_1 rfl rfl (by decide) fX8_15 ?_
    refine mw_aload_n dX8_add_18 rfl 0 rfl ?_
    refine tw_geti (j := 0) dX8_add_19 shC_1 rfl rfl (by decide) fX8_19 (fun v105 ev105 => ?_)
    have cv105 : v101 = v105 := ev101.trans ev105.symm
    subst cv105
    refine mw_iload_n dX8_add_22 rfl 1 rfl ?_
    refine tw_iast dX8_add_23 shC_2 (bd_in b104 (by decide)) ?_
    have hI106 : JC (mm_up S 2 v101.toNatClampNeg x1) := JIC_puta hI h1 b104 (by decide) (by decide +kernel)
    generalize hS107 : (mm_up S 2 v101.toNatClampNeg x1) = S107 at hI106 ⊢
    have hF108 := fr_upA hF hS107 (by decide)
    refine mw_aload_n dX8_add_24 rfl 0 rfl ?_
    refine mw_dup dX8_add_25 rfl ?_
    refine tw_geti (j := 0) dX8_add_26 shC_1 rfl rfl (by decide) fX8_19 (fun v109 ev109 => ?_)
    have cv109 : v101 = v109 := (ev101.trans (up_neA hS107 (by decide))).trans ev109.symm
    subst cv109
    refine mw_iconst dX8_add_29 ki_1 ?_
    refine mw_iadd dX8_add_30 (fun v110 ev110 => ?_)
    have b111 : mm_b (1) (240) v110 := bd_add ev110 b104 n_1 (by decide)
    refine tw_puti (j := 0) dX8_add_31 shC_1 rfl rfl (by decide) fX8_19 rfl (by decide +kernel) ?_
    have hI112 : JC (mm_up S107 1 0 v110) := JIC_put hI106 b111 (by decide +kernel)
    generalize hS113 : (mm_up S107 1 0 v110) = S113 at hI112 ⊢
    have hF114 := fr_upA hF108 hS113 (by decide)
    refine mw_iconst dX8_add_34 ki_1 ?_
    exact mw_zret rfl (bd_nar n_1 (by decide)) dX8_add_35 rfl rfl ⟨S113, _, rfl, rfl, hI112, hF114, bd_w n_1 (by decide), Or.inl ⟨rfl, by rw [← ev101]; exact b104, (up_eq hS113).symm.trans (ev110.trans (by rw [ev101]))⟩⟩
  · skip
    have b115 : mm_b (240) (240) v101 := bd_le_r (bd_nlt q103) n_240 b102 (by decide)
    refine mw_iconst dX8_add_12 ki_0 ?_
    exact mw_zret rfl (bd_nar n_0 (by decide)) dX8_add_13 rfl rfl ⟨S, _, rfl, rfl, hI, hF, bd_w n_0 (by decide), Or.inr ⟨rfl, fd_240 ev101 b115, rfl⟩⟩
set_option maxRecDepth 100000 in
set_option maxHeartbeats 4000000 in
theorem c_X9_feedx {g : mm_G} (S : mm_S) (hI : JC S) (x1 : Int32) : mc g yX9_feed cX9_feed 2 (some .int) (mm_rm 1) [.ref 0, .int x1] (mm_enc shC S) (qi shC (fun S1 v => JC S1 ∧ fr [1, 2] [] true true S S1 ∧ mm_b (-1000000004) (240) v ∧ (feedR (S.1 1 0) (S1.1 1 0) v x1))) := by
  refine mc_of2 (own := RX9) (ini := false) (ls := [(0, .ref 0), (1, .int x1)]) (by decide) (Nat.le_of_ble_eq_true rfl) rfl (by decide) rfl ?_
  have hF : fr [1, 2] [] true true S S := fr_rf
  refine mw_iload_n dX9_feed_0 rfl 1 rfl ?_
  refine mw_if_lt (tgt := 11) dX9_feed_1 (by decide) (fun q101 => ?_) (fun q101 => ?_)
  · skip
    have b102 : mm_b (-2147483648) (-1) x1 := bd_lt_l q101 (bd_all x1) n_0 (by decide)
    refine mw_ldc dX9_feed_11 kX9_86 ?_
    exact mw_iret rfl dX9_feed_13 rfl rfl ⟨S, _, rfl, rfl, hI, hF, bd_w n_m1000000002 (by decide), fd_out (fd_lt b102)⟩
  · skip
    have b103 : mm_b (0) (2147483647) x1 := bd_le_r (bd_nlt q101) n_0 (bd_all x1) (by decide)
    refine mw_iload_n dX9_feed_4 rfl 1 rfl ?_
    refine mw_sipush dX9_feed_5 ks_255 ?_
    refine mw_icmp_le (tgt := 14) dX9_feed_8 (by decide) (fun q104 => ?_) (fun q104 => ?_)
    · skip
      have b105 : mm_b (0) (255) x1 := bd_le_l q104 b103 n_255 (by decide)
      refine mw_aload_n dX9_feed_14 rfl 0 rfl ?_
      refine tw_getr (j := 0) dX9_feed_15 shC_0 rfl rfl (by decide) fX9_10 ?_
      refine mw_iload_n dX9_feed_18 rfl 1 rfl ?_
      refine tc_Vi (as := [.int x1]) (st := []) dX9_feed_19 rfl shC_1 rfl rfl mX9_87 t_X8_add rfl (Nat.le_of_ble_eq_true rfl) (by decide) (by decide) (c_X8_addx (g := g) S hI x1 b105) (fun S106 v108 h107 => ?_)
      obtain ⟨hI112, hf113, b109, x110⟩ := h107
      have hF114 := fr_tr hF hf113 (by decide) (by decide) (by decide) (by decide)
      refine mw_if_eq (tgt := 35) dX9_feed_22 (by decide) (fun q115 => ?_) (fun q115 => ?_)
      · skip
        have b116 : mm_b (0) (0) v108 := bd_eq_l q115 b109 n_0 (by decide)
        refine mw_ldc dX9_feed_35 kX9_95 ?_
        exact mw_iret rfl dX9_feed_37 rfl rfl ⟨S106, _, rfl, rfl, hI112, hF114, bd_w n_m1000000004 (by decide), ad_f b105 x110 q115⟩
      · skip
        have b117 : mm_b (1) (1) v108 := bd_ne_l q115 b109 n_0 (by decide)
        refine mw_aload_n dX9_feed_25 rfl 0 rfl ?_
        refine tw_getr (j := 0) dX9_feed_26 shC_0 rfl rfl (by decide) fX9_10 ?_
        refine tw_geti (j := 0) dX9_feed_29 shC_1 rfl rfl (by decide) fX9_91 (fun v118 ev118 => ?_)
        have b119 : mm_b (0) (240) v118 := JIC_fld hI112 ev118 tbC_0 (by decide)
        refine mw_goto (tgt := 37) dX9_feed_32 (by decide) ?_
        exact mw_iret rfl dX9_feed_37 rfl rfl ⟨S106, _, rfl, rfl, hI112, hF114, bd_w b119 (by decide), ad_k b105 x110 q115 ev118⟩
    · skip
      have b120 : mm_b (256) (2147483647) x1 := bd_lt_r (bd_nle q104) n_255 b103 (by decide)
      refine mw_ldc dX9_feed_11 kX9_86 ?_
      exact mw_iret rfl dX9_feed_13 rfl rfl ⟨S, _, rfl, rfl, hI, hF, bd_w n_m1000000002 (by decide), fd_out (fd_gt b120)⟩
set_option maxRecDepth 100000 in
set_option maxHeartbeats 4000000 in
theorem c_X10_feedx {g : mm_G} (S : mm_S) (hI : JM S) (x1 : Int32) : mc g yX10_feed cX10_feed 2 (some .int) (mm_rm 1) [.ref 0, .int x1] (mm_enc shM S) (qi shM (fun S1 v => JM S1 ∧ fr [8] [10] true true S S1 ∧ mm_b (-1000000004) (240) v ∧ (feedR (S.1 0 10) (S1.1 0 10) v x1))) := by
  refine mc_of2 (own := RX10) (ini := false) (ls := [(0, .ref 0), (1, .int x1)]) (by decide) (Nat.le_of_ble_eq_true rfl) rfl (by decide) rfl ?_
  have hF : fr [8] [10] true true S S := fr_rf
  refine mw_iload_n dX10_feed_0 rfl 1 rfl ?_
  refine mw_i2l dX10_feed_1 (fun w101 ew101 => ?_)
  have b102 : mm_bl (-2147483648) (2147483647) w101 := bl_i2l ew101 (bd_all x1)
  refine mw_lconst (v := 0) dX10_feed_2 (by decide) ?_
  refine mw_ldc2 dX10_feed_3 kX10_82 ?_
  refine tc_Si (as := [.long w101, .long 0, .long 255]) (st := []) dX10_feed_6 rfl mX10_62 t_X10_in rfl (Nat.le_of_ble_eq_true rfl) (by decide) (by decide) (c_X10_inx (g := g) S hI w101 (0 : Int64) (255 : Int64)) (fun S103 v105 h104 => ?_)
  obtain ⟨rfl, b106, x107⟩ := h104
  have x108 : v105 = 0 ∨ mm_b 0 255 x1 := in_use (lo := 0) (hi := 255) (x107.imp id And.right) ew101 L_0 L_255 (by decide)
  refine mw_if_ne (tgt := 15) dX10_feed_9 (by decide) (fun q109 => ?_) (fun q109 => ?_)
  · skip
    have b110 : mm_b (1) (1) v105 := bd_ne_l q109 b106 n_0 (by decide)
    have b111 := Or.resolve_left x108 q109
    refine mw_aload_n dX10_feed_15 rfl 0 rfl ?_
    refine tw_geti (j := 10) dX10_feed_16 shM_0 rfl rfl (by decide) fX10_85 (fun v112 ev112 => ?_)
    have b113 : mm_b (0) (240) v112 := JIM_fld hI ev112 tbM_2 (by decide)
    refine mw_sipush dX10_feed_19 ks_240 ?_
    refine mw_icmp_ne (tgt := 28) dX10_feed_22 (by decide) (fun q114 => ?_) (fun q114 => ?_)
    · skip
      have b115 : mm_b (0) (239) v112 := bd_ne_l q114 b113 n_240 (by decide)
      refine mw_aload_n dX10_feed_28 rfl 0 rfl ?_
      refine tw_getr (j := 9) dX10_feed_29 shM_0 rfl rfl (by decide) fX10_32 ?_
      refine mw_aload_n dX10_feed_32 rfl 0 rfl ?_
      refine tw_geti (j := 10) dX10_feed_33 shM_0 rfl rfl (by decide) fX10_85 (fun v116 ev116 => ?_)
      have cv116 : v112 = v116 := ev112.trans ev116.symm
      subst cv116
      refine mw_iload_n dX10_feed_36 rfl 1 rfl ?_
      refine tw_iast dX10_feed_37 shM_8 (bd_in b115 (by decide)) ?_
      have hI117 : JM (mm_up S 8 v112.toNatClampNeg x1) := JIM_puta hI b111 b115 (by decide) (by decide +kernel)
      generalize hS118 : (mm_up S 8 v112.toNatClampNeg x1) = S118 at hI117 ⊢
      have hF119 := fr_upA hF hS118 (by decide)
      refine mw_aload_n dX10_feed_38 rfl 0 rfl ?_
      refine mw_dup dX10_feed_39 rfl ?_
      refine tw_geti (j := 10) dX10_feed_40 shM_0 rfl rfl (by decide) fX10_85 (fun v120 ev120 => ?_)
      have cv120 : v112 = v120 := (ev112.trans (up_neA hS118 (by decide))).trans ev120.symm
      subst cv120
      refine mw_iconst dX10_feed_43 ki_1 ?_
      refine mw_iadd dX10_feed_44 (fun v121 ev121 => ?_)
      have b122 : mm_b (1) (240) v121 := bd_add ev121 b115 n_1 (by decide)
      refine tw_puti (j := 10) dX10_feed_45 shM_0 rfl rfl (by decide) fX10_85 rfl (by decide +kernel) ?_
      have hI123 : JM (mm_up S118 0 10 v121) := JIM_put hI117 b122 (by decide +kernel)
      generalize hS124 : (mm_up S118 0 10 v121) = S124 at hI123 ⊢
      have hF125 := fr_upF hF119 hS124 (by decide)
      refine mw_aload_n dX10_feed_48 rfl 0 rfl ?_
      refine tw_geti (j := 10) dX10_feed_49 shM_0 rfl rfl (by decide) fX10_85 (fun v126 ev126 => ?_)
      have cv126 : v121 = v126 := (up_eq hS124).trans ev126.symm
      subst cv126
      exact mw_iret rfl dX10_feed_52 rfl rfl ⟨S124, _, rfl, rfl, hI123, hF125, bd_w b122 (by decide), fd_ok b111 (by rw [← ev112]; exact b115) (ev121.trans (by rw [ev112])) ((up_eq hS124).symm.trans (ev121.trans (by rw [ev112])))⟩
    · skip
      have b127 : mm_b (240) (240) v112 := bd_eq_l q114 b113 n_240 (by decide)
      refine mw_ldc dX10_feed_25 kX10_88 ?_
      exact mw_iret rfl dX10_feed_27 rfl rfl ⟨S, _, rfl, rfl, hI, hF, bd_w n_m1000000004 (by decide), fd_full b111 (fd_240 ev112 b127)⟩
  · skip
    have b128 : mm_b (0) (0) v105 := bd_eq_l q109 b106 n_0 (by decide)
    refine mw_ldc dX10_feed_12 kX10_84 ?_
    exact mw_iret rfl dX10_feed_14 rfl rfl ⟨S, _, rfl, rfl, hI, hF, bd_w n_m1000000002 (by decide), fd_out (fd_no x107 ew101 q109)⟩
set_option maxRecDepth 100000 in
set_option maxHeartbeats 4000000 in
theorem c_X8_readIntox {g : mm_G} (S : mm_S) (hI : JC S) (a1 : Nat) (ha1 : a1 ∈ LC_parish) : mc g yX8_readInto cX8_readInto 3 (some .boolean) (mm_rm 5) [.ref 1, .ref a1] (mm_enc shC S) (qi shC (fun S1 v => JC S1 ∧ fr [1, 3, 4, 5, 6, 7, 8, 9, 10, 11, 12, 13, 14] [] true true S S1 ∧ mm_b (0) (1) v ∧ (S1.1 1 0 = 0))) := by
  refine mc_of2 (own := RX8) (ini := false) (ls := [(0, .ref 1), (1, .ref a1)]) (by decide) (Nat.le_of_ble_eq_true rfl) rfl (by decide) rfl ?_
  have hF : fr [1, 3, 4, 5, 6, 7, 8, 9, 10, 11, 12, 13, 14] [] true true S S := fr_rf
  refine mw_aload_n dX8_readInto_0 rfl 1 rfl ?_
  refine tc_Vv (as := []) (st := []) dX8_readInto_1 rfl (shC_parish_0 a1 ha1) rfl rfl mX8_22 t_X6_empty rfl (Nat.le_of_ble_eq_true rfl) (by decide) (by decide) (c_X6_empty (g := g) S hI a1 ha1) (fun S101 h102 => ?_)
  obtain ⟨hI104, hf105, x103⟩ := h102
  have hF106 := fr_tr hF hf105 (by decide) (by decide) (by decide) (by decide)
  refine mw_aload_n dX8_readInto_4 rfl 0 rfl ?_
  refine mw_iconst dX8_readInto_5 ki_0 ?_
  refine tw_puti (j := 3) dX8_readInto_6 shC_1 rfl rfl (by decide) fX8_27 rfl (by decide +kernel) ?_
  have hI107 : JC (mm_up S101 1 3 0) := JIC_put hI104 n_0 (by decide +kernel)
  generalize hS108 : (mm_up S101 1 3 0) = S108 at hI107 ⊢
  have hF109 := fr_upA hF106 hS108 (by decide)
  refine mw_aload_n dX8_readInto_9 rfl 0 rfl ?_
  refine mw_iconst dX8_readInto_10 ki_0 ?_
  refine tw_puti (j := 1) dX8_readInto_11 shC_1 rfl rfl (by decide) fX8_30 rfl (by decide +kernel) ?_
  have hI110 : JC (mm_up S108 1 1 0) := JIC_put hI107 n_0 (by decide +kernel)
  generalize hS111 : (mm_up S108 1 1 0) = S111 at hI110 ⊢
  have hF112 := fr_upA hF109 hS111 (by decide)
  refine mw_aload_n dX8_readInto_14 rfl 0 rfl ?_
  refine mw_iconst dX8_readInto_15 ki_m1 ?_
  refine tw_puti (j := 2) dX8_readInto_16 shC_1 rfl rfl (by decide) fX8_9 rfl (by decide +kernel) ?_
  have hI113 : JC (mm_up S111 1 2 (-1)) := JIC_put hI110 n_m1 (by decide +kernel)
  generalize hS114 : (mm_up S111 1 2 (-1)) = S114 at hI113 ⊢
  have hF115 := fr_upA hF112 hS114 (by decide)
  refine mw_aload_n dX8_readInto_19 rfl 0 rfl ?_
  refine tc_Vv (as := []) (st := []) dX8_readInto_20 rfl shC_1 rfl rfl mX8_33 t_X8_skipBlanks rfl (Nat.le_of_ble_eq_true rfl) (by decide) (by decide) (c_X8_skipBlanks (g := g) S114 hI113) (fun S116 h117 => ?_)
  obtain ⟨hI119, hf120, x118⟩ := h117
  have hF121 := fr_tr hF115 hf120 (by decide) (by decide) (by decide) (by decide)
  refine mw_iconst dX8_readInto_23 ki_0 ?_
  refine mw_istore_n (ls' := [(2, .int 0), (0, .ref 1), (1, .ref a1)]) dX8_readInto_24 rfl (by decide) rfl ?_
  have cut25 : ∀ (N25 : Nat) (S122 : mm_S) (y125 : Int32), ((241 : Int) - y125.toInt).toNat < N25 → JC S122 → fr [1, 3, 4, 5, 6, 7, 8, 9, 10, 11, 12, 13, 14] [] true true S S122 → mm_b (0) (240) y125 → mw g RX8 cX8_readInto 3 (some .boolean) false (mm_rm 5) (qi shC (fun S1 v => JC S1 ∧ fr [1, 3, 4, 5, 6, 7, 8, 9, 10, 11, 12, 13, 14] [] true true S S1 ∧ mm_b (0) (1) v ∧ (S1.1 1 0 = 0))) 0 0 (mm_enc shC S122) 25 [(0, .ref 1), (1, .ref a1), (2, .int y125)] [] := by
    intro N25
    induction N25 with
    | zero =>
      intro S122 y125 hm127 hI123 hF124 b126
      exact absurd hm127 (Nat.not_lt_zero _)
    | succ N25 ih25 =>
      intro S122 y125 hm127 hI123 hF124 b126
      refine mw_iload_n dX8_readInto_25 rfl 2 rfl ?_
      refine mw_sipush dX8_readInto_26 ks_240 ?_
      refine mw_icmp_ge (tgt := 65) dX8_readInto_29 (by decide) (fun q128 => ?_) (fun q128 => ?_)
      · skip
        have b129 : mm_b (240) (240) y125 := bd_le_r q128 n_240 b126 (by decide)
        refine mw_aload_n dX8_readInto_65 rfl 0 rfl ?_
        refine mw_iconst dX8_readInto_66 ki_0 ?_
        refine tw_puti (j := 0) dX8_readInto_67 shC_1 rfl rfl (by decide) fX8_19 rfl (by decide +kernel) ?_
        have hI130 : JC (mm_up S122 1 0 0) := JIC_put hI123 n_0 (by decide +kernel)
        generalize hS131 : (mm_up S122 1 0 0) = S131 at hI130 ⊢
        have hF132 := fr_upA hF124 hS131 (by decide)
        refine mw_aload_n dX8_readInto_70 rfl 0 rfl ?_
        refine tc_Vi (as := []) (st := []) dX8_readInto_71 rfl shC_1 rfl rfl mX8_36 t_X8_isSound rfl (Nat.le_of_ble_eq_true rfl) (by decide) (by decide) (c_X8_isSound (g := g) S131 hI130) (fun S133 v135 h134 => ?_)
        obtain ⟨rfl, b136, x137⟩ := h134
        exact mw_zret rfl (bd_nar b136 (by decide)) dX8_readInto_74 rfl rfl ⟨S131, _, rfl, rfl, hI130, hF132, b136, (up_eq hS131).symm⟩
      · skip
        have b138 : mm_b (0) (239) y125 := bd_lt_l (bd_nle q128) b126 n_240 (by decide)
        refine mw_aload_n dX8_readInto_32 rfl 0 rfl ?_
        refine tw_geti (j := 3) dX8_readInto_33 shC_1 rfl rfl (by decide) fX8_27 (fun v139 ev139 => ?_)
        have b140 : mm_b (0) (240) v139 := JIC_fld hI123 ev139 tbC_1 (by decide)
        refine mw_aload_n dX8_readInto_36 rfl 0 rfl ?_
        refine tw_geti (j := 0) dX8_readInto_37 shC_1 rfl rfl (by decide) fX8_19 (fun v141 ev141 => ?_)
        have b142 : mm_b (0) (240) v141 := JIC_fld hI123 ev141 tbC_0 (by decide)
        refine mw_icmp_ge (tgt := 65) dX8_readInto_40 (by decide) (fun q143 => ?_) (fun q143 => ?_)
        · skip
          refine mw_aload_n dX8_readInto_65 rfl 0 rfl ?_
          refine mw_iconst dX8_readInto_66 ki_0 ?_
          refine tw_puti (j := 0) dX8_readInto_67 shC_1 rfl rfl (by decide) fX8_19 rfl (by decide +kernel) ?_
          have hI144 : JC (mm_up S122 1 0 0) := JIC_put hI123 n_0 (by decide +kernel)
          generalize hS145 : (mm_up S122 1 0 0) = S145 at hI144 ⊢
          have hF146 := fr_upA hF124 hS145 (by decide)
          refine mw_aload_n dX8_readInto_70 rfl 0 rfl ?_
          refine tc_Vi (as := []) (st := []) dX8_readInto_71 rfl shC_1 rfl rfl mX8_36 t_X8_isSound rfl (Nat.le_of_ble_eq_true rfl) (by decide) (by decide) (c_X8_isSound (g := g) S145 hI144) (fun S147 v149 h148 => ?_)
          obtain ⟨rfl, b150, x151⟩ := h148
          exact mw_zret rfl (bd_nar b150 (by decide)) dX8_readInto_74 rfl rfl ⟨S145, _, rfl, rfl, hI144, hF146, b150, (up_eq hS145).symm⟩
        · skip
          have b152 : mm_b (0) (239) v139 := bd_lt_l (bd_nle q143) b140 b142 (by decide)
          have b153 : mm_b (1) (240) v141 := bd_lt_r (bd_nle q143) b140 b142 (by decide)
          refine mw_aload_n dX8_readInto_43 rfl 0 rfl ?_
          refine tc_Vi (as := []) (st := []) dX8_readInto_44 rfl shC_1 rfl rfl mX8_36 t_X8_isSound rfl (Nat.le_of_ble_eq_true rfl) (by decide) (by decide) (c_X8_isSound (g := g) S122 hI123) (fun S154 v156 h155 => ?_)
          obtain ⟨rfl, b157, x158⟩ := h155
          refine mw_if_eq (tgt := 65) dX8_readInto_47 (by decide) (fun q159 => ?_) (fun q159 => ?_)
          · skip
            have b160 : mm_b (0) (0) v156 := bd_eq_l q159 b157 n_0 (by decide)
            refine mw_aload_n dX8_readInto_65 rfl 0 rfl ?_
            refine mw_iconst dX8_readInto_66 ki_0 ?_
            refine tw_puti (j := 0) dX8_readInto_67 shC_1 rfl rfl (by decide) fX8_19 rfl (by decide +kernel) ?_
            have hI161 : JC (mm_up S122 1 0 0) := JIC_put hI123 n_0 (by decide +kernel)
            generalize hS162 : (mm_up S122 1 0 0) = S162 at hI161 ⊢
            have hF163 := fr_upA hF124 hS162 (by decide)
            refine mw_aload_n dX8_readInto_70 rfl 0 rfl ?_
            refine tc_Vi (as := []) (st := []) dX8_readInto_71 rfl shC_1 rfl rfl mX8_36 t_X8_isSound rfl (Nat.le_of_ble_eq_true rfl) (by decide) (by decide) (c_X8_isSound (g := g) S162 hI161) (fun S164 v166 h165 => ?_)
            obtain ⟨rfl, b167, x168⟩ := h165
            exact mw_zret rfl (bd_nar b167 (by decide)) dX8_readInto_74 rfl rfl ⟨S162, _, rfl, rfl, hI161, hF163, b167, (up_eq hS162).symm⟩
          · skip
            have b169 : mm_b (1) (1) v156 := bd_ne_l q159 b157 n_0 (by decide)
            refine mw_aload_n dX8_readInto_50 rfl 0 rfl ?_
            refine mw_aload_n dX8_readInto_51 rfl 1 rfl ?_
            refine tc_Vv (as := [.ref a1]) (st := []) dX8_readInto_52 rfl shC_1 rfl rfl mX8_40 t_X8_readClause rfl (Nat.le_of_ble_eq_true rfl) (by decide) (by decide) (c_X8_readClause (g := g) S122 hI123 a1 ha1) (fun S170 h171 => ?_)
            obtain ⟨hI173, hf174, x172⟩ := h171
            have hF175 := fr_tr hF124 hf174 (by decide) (by decide) (by decide) (by decide)
            refine mw_aload_n dX8_readInto_55 rfl 0 rfl ?_
            refine tc_Vv (as := []) (st := []) dX8_readInto_56 rfl shC_1 rfl rfl mX8_33 t_X8_skipBlanks rfl (Nat.le_of_ble_eq_true rfl) (by decide) (by decide) (c_X8_skipBlanks (g := g) S170 hI173) (fun S176 h177 => ?_)
            obtain ⟨hI179, hf180, x178⟩ := h177
            have hF181 := fr_tr hF175 hf180 (by decide) (by decide) (by decide) (by decide)
            refine mw_iinc (ls' := fun v => [(2, .int v), (0, .ref 1), (1, .ref a1)]) dX8_readInto_59 2 rfl (by decide) (fun _ => rfl) (fun v182 ev182 => ?_)
            have b183 : mm_b (1) (240) v182 := bd_inc ev182 b138 (by decide)
            refine mw_goto (tgt := 25) dX8_readInto_62 (by decide) ?_
            refine mw_ls [1, 2, 0] rfl ?_
            exact ih25 S176 v182 (ms_inc ev182 b138 (by decide) hm127) hI179 hF181 (bd_w b183 (by decide))
  refine mw_ls [1, 2, 0] rfl ?_
  exact cut25 _ S116 (0 : Int32) (Nat.lt_succ_self _) hI119 hF121 (bd_w n_0 (by decide))
set_option maxRecDepth 100000 in
set_option maxHeartbeats 4000000 in
theorem c_X9_parishx {g : mm_G} (S : mm_S) (hI : JC S)  : mc g yX9_parish cX9_parish 3 (some .int) (mm_rm 6) [.ref 0] (mm_enc shC S) (qi shC (fun S1 v => JC S1 ∧ fr [1, 3, 4, 5, 6, 7, 8, 9, 10, 11, 12, 13, 14, 15, 16, 17, 18, 19, 25, 129, 132, 135, 151, 157] [] false true S S1 ∧ mm_b (-2147483648) (2147483647) v ∧ (S1.1 1 0 = 0))) := by
  refine mc_of2 (own := RX9) (ini := false) (ls := [(0, .ref 0)]) (by decide) (Nat.le_of_ble_eq_true rfl) rfl (by decide) rfl ?_
  have hF : fr [1, 3, 4, 5, 6, 7, 8, 9, 10, 11, 12, 13, 14, 15, 16, 17, 18, 19, 25, 129, 132, 135, 151, 157] [] false true S S := fr_rf
  refine mw_aload_n dX9_parish_0 rfl 0 rfl ?_
  refine tw_getr (j := 0) dX9_parish_1 shC_0 rfl rfl (by decide) fX9_10 ?_
  refine mw_aload_n dX9_parish_4 rfl 0 rfl ?_
  refine tw_getm (j := 2) dX9_parish_5 shC_0 rfl rfl (by decide) fX9_23 (fun a101 ea101 => ?_)
  have ha102 : a101 ∈ LC_parish := by rw [ea101]; exact JRC_2 hI
  refine tc_Vi (as := [.ref a101]) (st := []) dX9_parish_8 rfl shC_1 rfl rfl mX9_96 t_X8_readInto rfl (Nat.le_of_ble_eq_true rfl) (by decide) (by decide) (c_X8_readIntox (g := g) S hI a101 ha102) (fun S103 v105 h104 => ?_)
  obtain ⟨hI109, hf110, b106, x107⟩ := h104
  have hF111 := fr_tr hF hf110 (by decide) (by decide) (by decide) (by decide)
  refine mw_if_ne (tgt := 25) dX9_parish_11 (by decide) (fun q112 => ?_) (fun q112 => ?_)
  · skip
    have b113 : mm_b (1) (1) v105 := bd_ne_l q112 b106 n_0 (by decide)
    refine mw_aload_n dX9_parish_25 rfl 0 rfl ?_
    refine tw_getm (j := 1) dX9_parish_26 shC_0 rfl rfl (by decide) fX9_19 (fun a114 ea114 => ?_)
    have ha115 : a114 ∈ LC_parish := by rw [ea114]; exact JRC_1 hI109
    refine mw_astore_n (ls' := [(1, .ref a114), (0, .ref 0)]) dX9_parish_29 rfl (by decide) rfl ?_
    refine mw_aload_n dX9_parish_30 rfl 1 rfl ?_
    refine mw_aload_n dX9_parish_31 rfl 1 rfl ?_
    refine tw_getm (j := 2) dX9_parish_32 shC_0 rfl rfl (by decide) fX9_23 (fun a116 ea116 => ?_)
    have ha117 : a116 ∈ LC_parish := by rw [ea116]; exact JRC_2 hI109
    refine tw_putm (D := "VoiceWills$Parish") (j := 1) dX9_parish_35 shC_0 rfl rfl (by decide) fX9_19 rfl (by decide +kernel) ?_
    have hI118 : JC (mm_upR S103 0 1 a116) := JRC_put1 hI109 ha117
    generalize hS119 : mm_upR S103 0 1 a116 = S119 at hI118 ⊢
    have hF120 := fr_upR hF111 hS119
    refine mw_aload_n dX9_parish_38 rfl 1 rfl ?_
    refine mw_aload_n dX9_parish_39 rfl 0 rfl ?_
    refine tw_putm (D := "VoiceWills$Parish") (j := 2) dX9_parish_40 shC_0 rfl rfl (by decide) fX9_23 rfl (by decide +kernel) ?_
    have hI121 : JC (mm_upR S119 0 2 a114) := JRC_put2 hI118 ha115
    generalize hS122 : mm_upR S119 0 2 a114 = S122 at hI121 ⊢
    have hF123 := fr_upR hF120 hS122
    refine mw_aload_n dX9_parish_43 rfl 1 rfl ?_
    refine tw_getr (j := 3) dX9_parish_44 shC_0 rfl rfl (by decide) fX9_29 ?_
    refine mw_aload_n dX9_parish_47 rfl 1 rfl ?_
    refine tw_getm (j := 1) dX9_parish_48 shC_0 rfl rfl (by decide) fX9_19 (fun a124 ea124 => ?_)
    have ha125 : a124 ∈ LC_parish := by rw [ea124]; exact JRC_1 hI121
    refine tc_Vv (as := [.ref a124]) (st := []) dX9_parish_51 rfl shC_15 rfl rfl mX9_103 t_X3_begin rfl (Nat.le_of_ble_eq_true rfl) (by decide) (by decide) (c_X3_begin (g := g) S122 hI121 a124 ha125) (fun S126 h127 => ?_)
    obtain ⟨hI129, hf130, x128⟩ := h127
    have hF131 := fr_tr hF123 hf130 (by decide) (by decide) (by decide) (by decide)
    refine mw_aload_n dX9_parish_54 rfl 1 rfl ?_
    refine tw_getr (j := 8) dX9_parish_55 shC_0 rfl rfl (by decide) fX9_61 ?_
    refine tc_Vv (as := []) (st := []) dX9_parish_58 rfl shC_129 rfl rfl mX9_107 t_X2_clear rfl (Nat.le_of_ble_eq_true rfl) (by decide) (by decide) (c_X2_clear_129 (g := g) S126 hI129) (fun S132 h133 => ?_)
    obtain ⟨hI135, hf136, x134⟩ := h133
    have hF137 := fr_tr hF131 hf136 (by decide) (by decide) (by decide) (by decide)
    refine mw_aload_n dX9_parish_61 rfl 1 rfl ?_
    refine tw_getr (j := 9) dX9_parish_62 shC_0 rfl rfl (by decide) fX9_65 ?_
    refine tc_Vv (as := []) (st := []) dX9_parish_65 rfl shC_132 rfl rfl mX9_107 t_X2_clear rfl (Nat.le_of_ble_eq_true rfl) (by decide) (by decide) (c_X2_clear_132 (g := g) S132 hI135) (fun S138 h139 => ?_)
    obtain ⟨hI141, hf142, x140⟩ := h139
    have hF143 := fr_tr hF137 hf142 (by decide) (by decide) (by decide) (by decide)
    refine mw_aload_n dX9_parish_68 rfl 1 rfl ?_
    refine tw_getr (j := 10) dX9_parish_69 shC_0 rfl rfl (by decide) fX9_68 ?_
    refine tc_Vv (as := []) (st := []) dX9_parish_72 rfl shC_135 rfl rfl mX9_107 t_X2_clear rfl (Nat.le_of_ble_eq_true rfl) (by decide) (by decide) (c_X2_clear_135 (g := g) S138 hI141) (fun S144 h145 => ?_)
    obtain ⟨hI147, hf148, x146⟩ := h145
    have hF149 := fr_tr hF143 hf148 (by decide) (by decide) (by decide) (by decide)
    refine mw_aload_n dX9_parish_75 rfl 1 rfl ?_
    refine tw_getr (j := 5) dX9_parish_76 shC_0 rfl rfl (by decide) fX9_39 ?_
    refine tc_Vv (as := []) (st := []) dX9_parish_79 rfl shC_25 rfl rfl mX9_110 t_X7_forget rfl (Nat.le_of_ble_eq_true rfl) (by decide) (by decide) (c_X7_forget (g := g) S144 hI147) (fun S150 h151 => ?_)
    obtain ⟨hI153, hf154, x152⟩ := h151
    have hF155 := fr_tr hF149 hf154 (by decide) (by decide) (by decide) (by decide)
    refine mw_iconst dX9_parish_82 ki_0 ?_
    refine mw_istore_n (ls' := [(2, .int 0), (1, .ref a114), (0, .ref 0)]) dX9_parish_83 rfl (by decide) rfl ?_
    have cut84 : ∀ (N84 : Nat) (S156 : mm_S) (y159 : Int32), ((3 : Int) - y159.toInt).toNat < N84 → JC S156 → fr [1, 3, 4, 5, 6, 7, 8, 9, 10, 11, 12, 13, 14, 15, 16, 17, 18, 19, 25, 129, 132, 135, 151, 157] [] false true S S156 ∧ S156.1 1 0 = 0 → mm_b (0) (2) y159 → mw g RX9 cX9_parish 3 (some .int) false (mm_rm 6) (qi shC (fun S1 v => JC S1 ∧ fr [1, 3, 4, 5, 6, 7, 8, 9, 10, 11, 12, 13, 14, 15, 16, 17, 18, 19, 25, 129, 132, 135, 151, 157] [] false true S S1 ∧ mm_b (-2147483648) (2147483647) v ∧ (S1.1 1 0 = 0))) 0 0 (mm_enc shC S156) 84 [(0, .ref 0), (2, .int y159)] [] := by
      intro N84
      induction N84 with
      | zero =>
        intro S156 y159 hm161 hI157 hG158 b160
        obtain ⟨hF158, hz158⟩ := hG158
        exact absurd hm161 (Nat.not_lt_zero _)
      | succ N84 ih84 =>
        intro S156 y159 hm161 hI157 hG158 b160
        obtain ⟨hF158, hz158⟩ := hG158
        refine mw_iload_n dX9_parish_84 rfl 1 rfl ?_
        refine mw_aload_n dX9_parish_85 rfl 0 rfl ?_
        refine tw_getr (j := 6) dX9_parish_86 shC_0 rfl rfl (by decide) fX9_45 ?_
        refine tw_alenr (v := 2) dX9_parish_89 shC_127 rfl (by decide) ?_
        refine mw_icmp_ge (tgt := 109) dX9_parish_90 (by decide) (fun q162 => ?_) (fun q162 => ?_)
        · skip
          have b163 : mm_b (2) (2) y159 := bd_le_r q162 n_2 b160 (by decide)
          refine mw_aload_n dX9_parish_109 rfl 0 rfl ?_
          refine tw_getm (j := 1) dX9_parish_110 shC_0 rfl rfl (by decide) fX9_19 (fun a164 ea164 => ?_)
          have ha165 : a164 ∈ LC_parish := by rw [ea164]; exact JRC_1 hI157
          refine tw_geti (j := 0) dX9_parish_113 (shC_parish_0 a164 ha165) rfl rfl (by decide) fX9_117 (fun v166 ev166 => ?_)
          have b167 : mm_b (0) (7) v166 := JIC_fld hI157 ev166 (tbC_parish_0_0 a164 ha165) (by decide)
          exact mw_iret rfl dX9_parish_116 rfl rfl ⟨S156, _, rfl, rfl, hI157, hF158, bd_w b167 (by decide), hz158⟩
        · skip
          have b168 : mm_b (0) (1) y159 := bd_lt_l (bd_nle q162) b160 n_2 (by decide)
          refine mw_aload_n dX9_parish_93 rfl 0 rfl ?_
          refine tw_getr (j := 6) dX9_parish_94 shC_0 rfl rfl (by decide) fX9_45 ?_
          refine mw_iload_n dX9_parish_97 rfl 1 rfl ?_
          obtain ⟨a169, ea169, ha170⟩ := AAC_127 b168 (by decide)
          refine tw_aald dX9_parish_98 shC_127 rfl rfl (bd_in b168 (by decide)) ea169 (LC_image_lt ha170) ?_
          refine mw_iconst dX9_parish_99 ki_0 ?_
          refine tw_putz (j := 0) dX9_parish_100 (shC_image_0 a169 ha170) rfl rfl (by decide) fX9_113 rfl (by decide +kernel) (bd_bool n_0 (by decide)) ?_
          have hI171 : JC (mm_up S156 a169 0 0) := JIC_put hI157 n_0 (ckZ ha170 (by decide +kernel))
          generalize hS172 : (mm_up S156 a169 0 0) = S172 at hI171 ⊢
          have hF173 := fr_upA hF158 hS172 (memZ ha170 (by decide))
          refine mw_iinc (ls' := fun v => [(2, .int v), (0, .ref 0)]) dX9_parish_103 1 rfl (by decide) (fun _ => rfl) (fun v174 ev174 => ?_)
          have b175 : mm_b (1) (2) v174 := bd_inc ev174 b168 (by decide)
          refine mw_goto (tgt := 84) dX9_parish_106 (by decide) ?_
          refine mw_ls [1, 0] rfl ?_
          exact ih84 S172 v174 (ms_inc ev174 b168 (by decide) hm161) hI171 ⟨hF173, (up_neA hS172 (fun e => absurd (e ▸ ha170 : 1 ∈ _) (by decide))).symm.trans hz158⟩ (bd_w b175 (by decide))
    refine mw_ls [2, 0] rfl ?_
    exact cut84 _ S150 (0 : Int32) (Nat.lt_succ_self _) hI153 ⟨hF155, (hf154.1 1 0 (by decide) (by decide)).trans ((hf148.1 1 0 (by decide) (by decide)).trans ((hf142.1 1 0 (by decide) (by decide)).trans ((hf136.1 1 0 (by decide) (by decide)).trans ((hf130.1 1 0 (by decide) (by decide)).trans (by rw [← hS122, ← hS119]; exact x107)))))⟩ (bd_w n_0 (by decide))
  · skip
    have b176 : mm_b (0) (0) v105 := bd_eq_l q112 b106 n_0 (by decide)
    refine mw_bipush dX9_parish_14 kb_m10 ?_
    refine mw_aload_n dX9_parish_16 rfl 0 rfl ?_
    refine tw_getr (j := 0) dX9_parish_17 shC_0 rfl rfl (by decide) fX9_10 ?_
    refine tw_geti (j := 1) dX9_parish_20 shC_1 rfl rfl (by decide) fX9_100 (fun v177 ev177 => ?_)
    refine mw_isub dX9_parish_23 (fun v178 ev178 => ?_)
    exact mw_iret rfl dX9_parish_24 rfl rfl ⟨S103, _, rfl, rfl, hI109, hF111, (bd_all v178), x107⟩
set_option maxRecDepth 100000 in
set_option maxHeartbeats 4000000 in
theorem c_X10_parishx {g : mm_G} (S : mm_S) (hI : JM S)  : mc g yX10_parish cX10_parish 2 (some .int) (mm_rm 5) [.ref 0] (mm_enc shM S) (qi shM (fun S1 v => JM S1 ∧ fr [1, 2, 3, 7] [5, 10, 11, 13, 15, 17, 18, 19, 20, 21, 22, 23] true false S S1 ∧ mm_b (-2147483648) (2147483647) v ∧ (S1.1 0 10 = 0))) := by
  refine mc_of2 (own := RX10) (ini := false) (ls := [(0, .ref 0)]) (by decide) (Nat.le_of_ble_eq_true rfl) rfl (by decide) rfl ?_
  have hF : fr [1, 2, 3, 7] [5, 10, 11, 13, 15, 17, 18, 19, 20, 21, 22, 23] true false S S := fr_rf
  refine mw_aload_n dX10_parish_0 rfl 0 rfl ?_
  refine tw_getr (j := 1) dX10_parish_1 shM_0 rfl rfl (by decide) fX10_13 ?_
  refine tc_Sv (as := [.ref 2]) (st := []) dX10_parish_4 rfl mX10_51 t_X10_blank rfl (Nat.le_of_ble_eq_true rfl) (by decide) (by decide) (c_X10_blank2 (g := g) S hI) (fun S101 h102 => ?_)
  obtain ⟨hI104, hf105, x103⟩ := h102
  have hF106 := fr_tr hF hf105 (by decide) (by decide) (by decide) (by decide)
  refine mw_aload_n dX10_parish_7 rfl 0 rfl ?_
  refine mw_iconst dX10_parish_8 ki_0 ?_
  refine tw_puti (j := 18) dX10_parish_9 shM_0 rfl rfl (by decide) fX10_89 rfl (by decide +kernel) ?_
  have hI107 : JM (mm_up S101 0 18 0) := JIM_put hI104 n_0 (by decide +kernel)
  generalize hS108 : (mm_up S101 0 18 0) = S108 at hI107 ⊢
  have hF109 := fr_upF hF106 hS108 (by decide)
  refine mw_aload_n dX10_parish_12 rfl 0 rfl ?_
  refine mw_iconst dX10_parish_13 ki_m1 ?_
  refine tw_puti (j := 11) dX10_parish_14 shM_0 rfl rfl (by decide) fX10_35 rfl (by decide +kernel) ?_
  have hI110 : JM (mm_up S108 0 11 (-1)) := JIM_put hI107 n_m1 (by decide +kernel)
  generalize hS111 : (mm_up S108 0 11 (-1)) = S111 at hI110 ⊢
  have hF112 := fr_upF hF109 hS111 (by decide)
  refine mw_iconst dX10_parish_17 ki_1 ?_
  refine mw_istore_n (ls' := [(1, .int 1), (0, .ref 0)]) dX10_parish_18 rfl (by decide) rfl ?_
  refine mw_aload_n dX10_parish_19 rfl 1 rfl ?_
  refine tc_Vv (as := []) (st := []) dX10_parish_20 rfl shM_0 rfl rfl mX10_115 t_X10_step rfl (Nat.le_of_ble_eq_true rfl) (by decide) (by decide) (c_X10_step (g := g) S111 hI110) (fun S113 h114 => ?_)
  obtain ⟨hI116, hf117, x115⟩ := h114
  have hF118 := fr_tr hF112 hf117 (by decide) (by decide) (by decide) (by decide)
  have cut23 : ∀ (N23 : Nat) (S119 : mm_S) (y122 : Int32), prM S119 y122 < N23 → JM S119 → fr [1, 2, 3, 7] [5, 10, 11, 13, 15, 17, 18, 19, 20, 21, 22, 23] true false S S119 → mm_b (0) (1) y122 → mw g RX10 cX10_parish 2 (some .int) false (mm_rm 5) (qi shM (fun S1 v => JM S1 ∧ fr [1, 2, 3, 7] [5, 10, 11, 13, 15, 17, 18, 19, 20, 21, 22, 23] true false S S1 ∧ mm_b (-2147483648) (2147483647) v ∧ (S1.1 0 10 = 0))) 0 0 (mm_enc shM S119) 23 [(0, .ref 0), (1, .int y122)] [] := by
    intro N23
    induction N23 with
    | zero =>
      intro S119 y122 hm124 hI120 hF121 b123
      exact absurd hm124 (Nat.not_lt_zero _)
    | succ N23 ih23 =>
      intro S119 y122 hm124 hI120 hF121 b123
      refine mw_aload_n dX10_parish_23 rfl 0 rfl ?_
      refine tw_geti (j := 20) dX10_parish_24 shM_0 rfl rfl (by decide) fX10_99 (fun v125 ev125 => ?_)
      have b126 : mm_b (-1) (255) v125 := JIM_fld hI120 ev125 tbM_7 (by decide)
      refine mw_if_lt (tgt := 50) dX10_parish_27 (by decide) (fun q127 => ?_) (fun q127 => ?_)
      · skip
        have b128 : mm_b (-1) (-1) v125 := bd_lt_l q127 b126 n_0 (by decide)
        refine mw_aload_n dX10_parish_50 rfl 0 rfl ?_
        refine mw_iconst dX10_parish_51 ki_0 ?_
        refine tw_puti (j := 10) dX10_parish_52 shM_0 rfl rfl (by decide) fX10_85 rfl (by decide +kernel) ?_
        have hI129 : JM (mm_up S119 0 10 0) := JIM_put hI120 n_0 (by decide +kernel)
        generalize hS130 : (mm_up S119 0 10 0) = S130 at hI129 ⊢
        have hF131 := fr_upF hF121 hS130 (by decide)
        refine mw_iload_n dX10_parish_55 rfl 1 rfl ?_
        refine mw_if_ne (tgt := 75) dX10_parish_56 (by decide) (fun q132 => ?_) (fun q132 => ?_)
        · skip
          have b133 : mm_b (1) (1) y122 := bd_ne_l q132 b123 n_0 (by decide)
          refine mw_aload_n dX10_parish_75 rfl 0 rfl ?_
          refine tw_getr (j := 1) dX10_parish_76 shM_0 rfl rfl (by decide) fX10_13 ?_
          refine mw_iconst dX10_parish_79 ki_0 ?_
          refine mw_aload_n dX10_parish_80 rfl 0 rfl ?_
          refine tw_getr (j := 0) dX10_parish_81 shM_0 rfl rfl (by decide) fX10_7 ?_
          refine mw_iconst dX10_parish_84 ki_0 ?_
          refine mw_bipush dX10_parish_85 kb_37 ?_
          refine tc_Sv (as := [.ref 2, .int 0, .ref 1, .int 0, .int 37]) (st := []) dX10_parish_87 rfl mX10_66 t_X10_copies rfl (Nat.le_of_ble_eq_true rfl) (by decide) (by decide) (c_X10_copies_21 (g := g) S130 hI129 (0 : Int32) n_0 (0 : Int32) n_0 (37 : Int32) n_37) (fun S134 h135 => ?_)
          obtain ⟨hI137, hf138, x136⟩ := h135
          have hF139 := fr_tr hF131 hf138 (by decide) (by decide) (by decide) (by decide)
          refine mw_aload_n dX10_parish_90 rfl 0 rfl ?_
          refine tc_Vv (as := []) (st := []) dX10_parish_91 rfl shM_0 rfl rfl mX10_55 t_X10_begins rfl (Nat.le_of_ble_eq_true rfl) (by decide) (by decide) (c_X10_begins (g := g) S134 hI137) (fun S140 h141 => ?_)
          obtain ⟨hI143, hf144, x142⟩ := h141
          have hF145 := fr_tr hF139 hf144 (by decide) (by decide) (by decide) (by decide)
          refine mw_aload_n dX10_parish_94 rfl 0 rfl ?_
          refine tw_getr (j := 0) dX10_parish_95 shM_0 rfl rfl (by decide) fX10_7 ?_
          refine mw_iconst dX10_parish_98 ki_0 ?_
          refine tw_iald dX10_parish_99 shM_1 (bd_in n_0 (by decide)) (fun v146 ev146 => ?_)
          rw [cl_0] at ev146
          have b147 : mm_b (0) (7) v146 := JIM_fld hI143 ev146 tbM_16 (by decide)
          exact mw_iret rfl dX10_parish_100 rfl rfl ⟨S140, _, rfl, rfl, hI143, hF145, bd_w b147 (by decide), (hf144.2.1 10 (by decide)).trans ((hf138.2.1 10 (by decide)).trans (up_eq hS130).symm)⟩
        · skip
          have b148 : mm_b (0) (0) y122 := bd_eq_l q132 b123 n_0 (by decide)
          refine mw_aload_n dX10_parish_59 rfl 0 rfl ?_
          refine mw_aload_n dX10_parish_60 rfl 0 rfl ?_
          refine tw_geti (j := 19) dX10_parish_61 shM_0 rfl rfl (by decide) fX10_96 (fun v149 ev149 => ?_)
          refine tw_puti (j := 11) dX10_parish_64 shM_0 rfl rfl (by decide) fX10_35 rfl (by decide +kernel) ?_
          have hI150 : JM (mm_up S130 0 11 v149) := JIM_put hI129 (bd_all v149) (by decide +kernel)
          generalize hS151 : (mm_up S130 0 11 v149) = S151 at hI150 ⊢
          have hF152 := fr_upF hF131 hS151 (by decide)
          refine mw_bipush dX10_parish_67 kb_m10 ?_
          refine mw_aload_n dX10_parish_69 rfl 0 rfl ?_
          refine tw_geti (j := 23) dX10_parish_70 shM_0 rfl rfl (by decide) fX10_112 (fun v153 ev153 => ?_)
          refine mw_isub dX10_parish_73 (fun v154 ev154 => ?_)
          exact mw_iret rfl dX10_parish_74 rfl rfl ⟨S151, _, rfl, rfl, hI150, hF152, (bd_all v154), (up_neF hS151 (by decide)).symm.trans (up_eq hS130).symm⟩
      · skip
        have b155 : mm_b (0) (255) v125 := bd_le_r (bd_nlt q127) n_0 b126 (by decide)
        refine mw_iload_n dX10_parish_30 rfl 1 rfl ?_
        refine mw_if_eq (tgt := 50) dX10_parish_31 (by decide) (fun q156 => ?_) (fun q156 => ?_)
        · skip
          have b157 : mm_b (0) (0) y122 := bd_eq_l q156 b123 n_0 (by decide)
          refine mw_aload_n dX10_parish_50 rfl 0 rfl ?_
          refine mw_iconst dX10_parish_51 ki_0 ?_
          refine tw_puti (j := 10) dX10_parish_52 shM_0 rfl rfl (by decide) fX10_85 rfl (by decide +kernel) ?_
          have hI158 : JM (mm_up S119 0 10 0) := JIM_put hI120 n_0 (by decide +kernel)
          generalize hS159 : (mm_up S119 0 10 0) = S159 at hI158 ⊢
          have hF160 := fr_upF hF121 hS159 (by decide)
          refine mw_iload_n dX10_parish_55 rfl 1 rfl ?_
          refine mw_if_ne (tgt := 75) dX10_parish_56 (by decide) (fun q161 => ?_) (fun q161 => ?_)
          · skip
            exact bd_fne q161 b157 n_0
          · skip
            refine mw_aload_n dX10_parish_59 rfl 0 rfl ?_
            refine mw_aload_n dX10_parish_60 rfl 0 rfl ?_
            refine tw_geti (j := 19) dX10_parish_61 shM_0 rfl rfl (by decide) fX10_96 (fun v162 ev162 => ?_)
            refine tw_puti (j := 11) dX10_parish_64 shM_0 rfl rfl (by decide) fX10_35 rfl (by decide +kernel) ?_
            have hI163 : JM (mm_up S159 0 11 v162) := JIM_put hI158 (bd_all v162) (by decide +kernel)
            generalize hS164 : (mm_up S159 0 11 v162) = S164 at hI163 ⊢
            have hF165 := fr_upF hF160 hS164 (by decide)
            refine mw_bipush dX10_parish_67 kb_m10 ?_
            refine mw_aload_n dX10_parish_69 rfl 0 rfl ?_
            refine tw_geti (j := 23) dX10_parish_70 shM_0 rfl rfl (by decide) fX10_112 (fun v166 ev166 => ?_)
            refine mw_isub dX10_parish_73 (fun v167 ev167 => ?_)
            exact mw_iret rfl dX10_parish_74 rfl rfl ⟨S164, _, rfl, rfl, hI163, hF165, (bd_all v167), (up_neF hS164 (by decide)).symm.trans (up_eq hS159).symm⟩
        · skip
          have b168 : mm_b (1) (1) y122 := bd_ne_l q156 b123 n_0 (by decide)
          refine mw_aload_n dX10_parish_34 rfl 0 rfl ?_
          refine tc_Vi (as := []) (st := []) dX10_parish_35 rfl shM_0 rfl rfl mX10_150 t_X10_readsClause rfl (Nat.le_of_ble_eq_true rfl) (by decide) (by decide) (c_X10_readsClause (g := g) S119 hI120) (fun S169 v171 h170 => ?_)
          obtain ⟨hI175, hf176, b172, x173⟩ := h170
          have hF177 := fr_tr hF121 hf176 (by decide) (by decide) (by decide) (by decide)
          refine mw_istore_n (ls' := [(1, .int v171), (0, .ref 0)]) dX10_parish_38 rfl (by decide) rfl ?_
          refine mw_iload_n dX10_parish_39 rfl 0 rfl ?_
          refine mw_if_eq (tgt := 23) dX10_parish_40 (by decide) (fun q178 => ?_) (fun q178 => ?_)
          · skip
            have b179 : mm_b (0) (0) v171 := bd_eq_l q178 b172 n_0 (by decide)
            refine mw_ls [1, 0] rfl ?_
            exact ih23 S169 v171 (pr_1 hm124 ev125 (bd_w b155 (by decide)) b168 hI120 b179) hI175 hF177 (bd_w b179 (by decide))
          · skip
            have b180 : mm_b (1) (1) v171 := bd_ne_l q178 b172 n_0 (by decide)
            have b181 := Or.resolve_left x173 q178
            obtain ⟨v182, ev182⟩ : ∃ y : Int32, y = S119.1 0 20 := ⟨_, rfl⟩
            have b183 : mm_b (99) (119) v182 := by rw [ev182]; exact b181
            refine mw_aload_n dX10_parish_43 rfl 1 rfl ?_
            refine tc_Vv (as := []) (st := []) dX10_parish_44 rfl shM_0 rfl rfl mX10_115 t_X10_step rfl (Nat.le_of_ble_eq_true rfl) (by decide) (by decide) (c_X10_step (g := g) S169 hI175) (fun S184 h185 => ?_)
            obtain ⟨hI187, hf188, x186⟩ := h185
            have hF189 := fr_tr hF177 hf188 (by decide) (by decide) (by decide) (by decide)
            refine mw_goto (tgt := 23) dX10_parish_47 (by decide) ?_
            refine mw_ls [1, 0] rfl ?_
            exact ih23 S184 v171 (pr_2 hm124 ev182 (bd_w b183 (by decide)) b168 hI120 hf176 x186) hI187 hF189 (bd_w b180 (by decide))
  refine mw_ls [1, 0] rfl ?_
  exact cut23 _ S113 (1 : Int32) (Nat.lt_succ_self _) hI116 hF118 (bd_w n_1 (by decide))
