set_option maxRecDepth 100000 in
set_option maxHeartbeats 4000000 in
theorem c_X8_add {g : mm_G} (S : mm_S) (hI : JC S) (x1 : Int32) (h1 : mm_b (0) (255) x1) : mc g yX8_add cX8_add 2 (some .boolean) (mm_rm 0) [.ref 1, .int x1] (mm_enc shC S) (qi shC (fun S1 v => JC S1 ∧ fr [1, 2] [] true true S S1 ∧ mm_b (0) (1) v ∧ (True))) := by
  refine mc_of2 (own := RX8) (ini := false) (ls := [(0, .ref 1), (1, .int x1)]) (by decide) (Nat.le_of_ble_eq_true rfl) rfl (by decide) rfl ?_
  have hF : fr [1, 2] [] true true S S := fr_rf
  refine mw_aload_n dX8_add_0 rfl 0 rfl ?_
  refine tw_geti (j := 0) dX8_add_1 shC_1 rfl rfl (by decide) fX8_19 (fun v101 ev101 => ?_)
  have b102 : mm_b (0) (240) v101 := JIC_fld hI ev101 tbC_0 (by decide)
  refine mw_aload_n dX8_add_4 rfl 0 rfl ?_
  refine tw_getr (j := 5) dX8_add_5 shC_1 rfl rfl (by decide) fX8_15 ?_
  refine tw_aleni (v := 240) dX8_add_8 shC_2 rfl (by decide) ?_
  refine mw_icmp_lt (tgt := 14) dX8_add_9 (by decide) (fun q103 => ?_) (fun q103 => ?_)
  · skip
    have b104 : mm_b (0) (239) v101 := bd_lt_l q103 b102 n_240 (by decide)
    refine mw_aload_n dX8_add_14 rfl 0 rfl ?_
    refine tw_getr (j := 5) dX8_add_15 shC_1 rfl rfl (by decide) fX8_15 ?_
    refine mw_aload_n dX8_add_18 rfl 0 rfl ?_
    refine tw_geti (j := 0) dX8_add_19 shC_1 rfl rfl (by decide) fX8_19 (fun v105 ev105 => ?_)
    have cv105 : v101 = v105 := ev101.trans ev105.symm
    subst cv105
    refine mw_iload_n dX8_add_22 rfl 1 rfl ?_
    refine tw_iast dX8_add_23 shC_2 (bd_in b104 (by decide)) ?_
    have hI106 : JC (mm_up S 2 v101.toNatClampNeg x1) := JIC_puta hI h1 b104 (by decide) (by decide +kernel)
    generalize hS107 : (mm_up S 2 v101.toNatClampNeg x1) = S107 at hI106 ⊢
    have hF108 := fr_upA hF hS107 (by decide)
    refine mw_aload_n dX8_add_24 rfl 0 rfl ?_
    refine mw_dup dX8_add_25 rfl ?_
    refine tw_geti (j := 0) dX8_add_26 shC_1 rfl rfl (by decide) fX8_19 (fun v109 ev109 => ?_)
    have cv109 : v101 = v109 := (ev101.trans (up_neA hS107 (by decide))).trans ev109.symm
    subst cv109
    refine mw_iconst dX8_add_29 ki_1 ?_
    refine mw_iadd dX8_add_30 (fun v110 ev110 => ?_)
    have b111 : mm_b (1) (240) v110 := bd_add ev110 b104 n_1 (by decide)
    refine tw_puti (j := 0) dX8_add_31 shC_1 rfl rfl (by decide) fX8_19 rfl (by decide +kernel) ?_
    have hI112 : JC (mm_up S107 1 0 v110) := JIC_put hI106 b111 (by decide +kernel)
    generalize hS113 : (mm_up S107 1 0 v110) = S113 at hI112 ⊢
    have hF114 := fr_upA hF108 hS113 (by decide)
    refine mw_iconst dX8_add_34 ki_1 ?_
    exact mw_zret rfl (bd_nar n_1 (by decide)) dX8_add_35 rfl rfl ⟨S113, _, rfl, rfl, hI112, hF114, bd_w n_1 (by decide), trivial⟩
  · skip
    have b115 : mm_b (240) (240) v101 := bd_le_r (bd_nlt q103) n_240 b102 (by decide)
    refine mw_iconst dX8_add_12 ki_0 ?_
    exact mw_zret rfl (bd_nar n_0 (by decide)) dX8_add_13 rfl rfl ⟨S, _, rfl, rfl, hI, hF, bd_w n_0 (by decide), trivial⟩
set_option maxRecDepth 100000 in
set_option maxHeartbeats 4000000 in
theorem c_X8_isSound {g : mm_G} (S : mm_S) (hI : JC S)  : mc g yX8_isSound cX8_isSound 1 (some .boolean) (mm_rm 0) [.ref 1] (mm_enc shC S) (qi shC (fun S1 v => S = S1 ∧ mm_b (0) (1) v ∧ (True))) := by
  refine mc_of2 (own := RX8) (ini := false) (ls := [(0, .ref 1)]) (by decide) (Nat.le_of_ble_eq_true rfl) rfl (by decide) rfl ?_
  refine mw_aload_n dX8_isSound_0 rfl 0 rfl ?_
  refine tw_geti (j := 1) dX8_isSound_1 shC_1 rfl rfl (by decide) fX8_30 (fun v101 ev101 => ?_)
  refine mw_if_ne (tgt := 11) dX8_isSound_4 (by decide) (fun q102 => ?_) (fun q102 => ?_)
  · skip
    refine mw_iconst dX8_isSound_11 ki_0 ?_
    exact mw_zret rfl (bd_nar n_0 (by decide)) dX8_isSound_12 rfl rfl ⟨S, _, rfl, rfl, rfl, bd_w n_0 (by decide), trivial⟩
  · skip
    have b103 : mm_b (0) (0) v101 := bd_eq_l q102 (bd_all v101) n_0 (by decide)
    refine mw_iconst dX8_isSound_7 ki_1 ?_
    refine mw_goto (tgt := 12) dX8_isSound_8 (by decide) ?_
    exact mw_zret rfl (bd_nar n_1 (by decide)) dX8_isSound_12 rfl rfl ⟨S, _, rfl, rfl, rfl, bd_w n_1 (by decide), trivial⟩
set_option maxRecDepth 100000 in
set_option maxHeartbeats 4000000 in
theorem c_X8_isFigure {g : mm_G} (S : mm_S) (hI : JC S) (x0 : Int32) : mc g yX8_isFigure cX8_isFigure 1 (some .boolean) (mm_rm 0) [.int x0] (mm_enc shC S) (qi shC (fun S1 v => S = S1 ∧ mm_b (0) (1) v ∧ (v = 0 ∨ (mm_b (48) (57) x0)))) := by
  refine mc_of2 (own := RX8) (ini := false) (ls := [(0, .int x0)]) (by decide) (Nat.le_of_ble_eq_true rfl) rfl (by decide) rfl ?_
  refine mw_iload_n dX8_isFigure_0 rfl 0 rfl ?_
  refine mw_bipush dX8_isFigure_1 kb_48 ?_
  refine mw_icmp_lt (tgt := 16) dX8_isFigure_3 (by decide) (fun q101 => ?_) (fun q101 => ?_)
  · skip
    have b102 : mm_b (-2147483648) (47) x0 := bd_lt_l q101 (bd_all x0) n_48 (by decide)
    refine mw_iconst dX8_isFigure_16 ki_0 ?_
    exact mw_zret rfl (bd_nar n_0 (by decide)) dX8_isFigure_17 rfl rfl ⟨S, _, rfl, rfl, rfl, bd_w n_0 (by decide), Or.inl rfl⟩
  · skip
    have b103 : mm_b (48) (2147483647) x0 := bd_le_r (bd_nlt q101) n_48 (bd_all x0) (by decide)
    refine mw_iload_n dX8_isFigure_6 rfl 0 rfl ?_
    refine mw_bipush dX8_isFigure_7 kb_57 ?_
    refine mw_icmp_gt (tgt := 16) dX8_isFigure_9 (by decide) (fun q104 => ?_) (fun q104 => ?_)
    · skip
      have b105 : mm_b (58) (2147483647) x0 := bd_lt_r q104 n_57 b103 (by decide)
      refine mw_iconst dX8_isFigure_16 ki_0 ?_
      exact mw_zret rfl (bd_nar n_0 (by decide)) dX8_isFigure_17 rfl rfl ⟨S, _, rfl, rfl, rfl, bd_w n_0 (by decide), Or.inl rfl⟩
    · skip
      have b106 : mm_b (48) (57) x0 := bd_le_l (bd_nlt q104) b103 n_57 (by decide)
      refine mw_iconst dX8_isFigure_12 ki_1 ?_
      refine mw_goto (tgt := 17) dX8_isFigure_13 (by decide) ?_
      exact mw_zret rfl (bd_nar n_1 (by decide)) dX8_isFigure_17 rfl rfl ⟨S, _, rfl, rfl, rfl, bd_w n_1 (by decide), Or.inr (bd_w b106 (by decide))⟩
set_option maxRecDepth 100000 in
set_option maxHeartbeats 4000000 in
theorem c_X8_blame {g : mm_G} (S : mm_S) (hI : JC S) (x1 : Int32) (x2 : Int32) : mc g yX8_blame cX8_blame 3 none (mm_rm 0) [.ref 1, .int x1, .int x2] (mm_enc shC S) (qv shC (fun S1 => JC S1 ∧ fr [1] [] true true S S1 ∧ True)) := by
  refine mc_of2 (own := RX8) (ini := false) (ls := [(0, .ref 1), (1, .int x1), (2, .int x2)]) (by decide) (Nat.le_of_ble_eq_true rfl) rfl (by decide) rfl ?_
  have hF : fr [1] [] true true S S := fr_rf
  refine mw_aload_n dX8_blame_0 rfl 0 rfl ?_
  refine tw_geti (j := 1) dX8_blame_1 shC_1 rfl rfl (by decide) fX8_30 (fun v101 ev101 => ?_)
  refine mw_if_ne (tgt := 17) dX8_blame_4 (by decide) (fun q102 => ?_) (fun q102 => ?_)
  · skip
    exact mw_vret rfl dX8_blame_17 rfl rfl ⟨S, rfl, rfl, ⟨hI, hF, trivial⟩⟩
  · skip
    have b103 : mm_b (0) (0) v101 := bd_eq_l q102 (bd_all v101) n_0 (by decide)
    refine mw_aload_n dX8_blame_7 rfl 0 rfl ?_
    refine mw_iload_n dX8_blame_8 rfl 1 rfl ?_
    refine tw_puti (j := 1) dX8_blame_9 shC_1 rfl rfl (by decide) fX8_30 rfl (by decide +kernel) ?_
    have hI104 : JC (mm_up S 1 1 x1) := JIC_put hI (bd_all x1) (by decide +kernel)
    generalize hS105 : (mm_up S 1 1 x1) = S105 at hI104 ⊢
    have hF106 := fr_upA hF hS105 (by decide)
    refine mw_aload_n dX8_blame_12 rfl 0 rfl ?_
    refine mw_iload_n dX8_blame_13 rfl 2 rfl ?_
    refine tw_puti (j := 2) dX8_blame_14 shC_1 rfl rfl (by decide) fX8_9 rfl (by decide +kernel) ?_
    have hI107 : JC (mm_up S105 1 2 x2) := JIC_put hI104 (bd_all x2) (by decide +kernel)
    generalize hS108 : (mm_up S105 1 2 x2) = S108 at hI107 ⊢
    have hF109 := fr_upA hF106 hS108 (by decide)
    exact mw_vret rfl dX8_blame_17 rfl rfl ⟨S108, rfl, rfl, ⟨hI107, hF109, trivial⟩⟩
set_option maxRecDepth 100000 in
set_option maxHeartbeats 4000000 in
theorem c_X8_skipBlanks {g : mm_G} (S : mm_S) (hI : JC S)  : mc g yX8_skipBlanks cX8_skipBlanks 1 none (mm_rm 0) [.ref 1] (mm_enc shC S) (qv shC (fun S1 => JC S1 ∧ fr [1] [] true true S S1 ∧ True)) := by
  refine mc_of2 (own := RX8) (ini := false) (ls := [(0, .ref 1)]) (by decide) (Nat.le_of_ble_eq_true rfl) rfl (by decide) rfl ?_
  have hF : fr [1] [] true true S S := fr_rf
  have cut0 : ∀ (N0 : Nat) (S101 : mm_S) (y104 : Int32), ((241 : Int) - y104.toInt).toNat < N0 → JC S101 → fr [1] [] true true S S101 → mm_b (0) (240) y104 → y104 = S101.1 1 3 → mw g RX8 cX8_skipBlanks 1 none false (mm_rm 0) (qv shC (fun S1 => JC S1 ∧ fr [1] [] true true S S1 ∧ True)) 0 0 (mm_enc shC S101) 0 [(0, .ref 1)] [] := by
    intro N0
    induction N0 with
    | zero =>
      intro S101 y104 hm106 hI102 hF103 b105 ey104
      exact absurd hm106 (Nat.not_lt_zero _)
    | succ N0 ih0 =>
      intro S101 y104 hm106 hI102 hF103 b105 ey104
      refine mw_aload_n dX8_skipBlanks_0 rfl 0 rfl ?_
      refine tw_geti (j := 3) dX8_skipBlanks_1 shC_1 rfl rfl (by decide) fX8_27 (fun v107 ev107 => ?_)
      have cv107 : y104 = v107 := ey104.trans ev107.symm
      subst cv107
      refine mw_aload_n dX8_skipBlanks_4 rfl 0 rfl ?_
      refine tw_geti (j := 0) dX8_skipBlanks_5 shC_1 rfl rfl (by decide) fX8_19 (fun v108 ev108 => ?_)
      have b109 : mm_b (0) (240) v108 := JIC_fld hI102 ev108 tbC_0 (by decide)
      refine mw_icmp_ge (tgt := 50) dX8_skipBlanks_8 (by decide) (fun q110 => ?_) (fun q110 => ?_)
      · skip
        exact mw_vret rfl dX8_skipBlanks_50 rfl rfl ⟨S101, rfl, rfl, ⟨hI102, hF103, trivial⟩⟩
      · skip
        have b111 : mm_b (0) (239) y104 := bd_lt_l (bd_nle q110) b105 b109 (by decide)
        have b112 : mm_b (1) (240) v108 := bd_lt_r (bd_nle q110) b105 b109 (by decide)
        refine mw_aload_n dX8_skipBlanks_11 rfl 0 rfl ?_
        refine tw_geti (j := 3) dX8_skipBlanks_12 shC_1 rfl rfl (by decide) fX8_27 (fun v113 ev113 => ?_)
        have cv113 : y104 = v113 := ey104.trans ev113.symm
        subst cv113
        refine mw_aload_n dX8_skipBlanks_15 rfl 0 rfl ?_
        refine tw_getr (j := 5) dX8_skipBlanks_16 shC_1 rfl rfl (by decide) fX8_15 ?_
        refine tw_aleni (v := 240) dX8_skipBlanks_19 shC_2 rfl (by decide) ?_
        refine mw_icmp_ge (tgt := 50) dX8_skipBlanks_20 (by decide) (fun q114 => ?_) (fun q114 => ?_)
        · skip
          exact bd_fle q114 n_240 b111 (by decide)
        · skip
          refine mw_aload_n dX8_skipBlanks_23 rfl 0 rfl ?_
          refine tw_getr (j := 5) dX8_skipBlanks_24 shC_1 rfl rfl (by decide) fX8_15 ?_
          refine mw_aload_n dX8_skipBlanks_27 rfl 0 rfl ?_
          refine tw_geti (j := 3) dX8_skipBlanks_28 shC_1 rfl rfl (by decide) fX8_27 (fun v115 ev115 => ?_)
          have cv115 : y104 = v115 := ey104.trans ev115.symm
          subst cv115
          refine tw_iald dX8_skipBlanks_31 shC_2 (bd_in b111 (by decide)) (fun v116 ev116 => ?_)
          have b117 : mm_b (0) (255) v116 := JIC_elt hI102 ev116 b111 tbC_2 (by decide)
          refine mw_bipush dX8_skipBlanks_32 kb_32 ?_
          refine mw_icmp_ne (tgt := 50) dX8_skipBlanks_34 (by decide) (fun q118 => ?_) (fun q118 => ?_)
          · skip
            exact mw_vret rfl dX8_skipBlanks_50 rfl rfl ⟨S101, rfl, rfl, ⟨hI102, hF103, trivial⟩⟩
          · skip
            have b119 : mm_b (32) (32) v116 := bd_eq_l q118 b117 n_32 (by decide)
            refine mw_aload_n dX8_skipBlanks_37 rfl 0 rfl ?_
            refine mw_dup dX8_skipBlanks_38 rfl ?_
            refine tw_geti (j := 3) dX8_skipBlanks_39 shC_1 rfl rfl (by decide) fX8_27 (fun v120 ev120 => ?_)
            have cv120 : y104 = v120 := ey104.trans ev120.symm
            subst cv120
            refine mw_iconst dX8_skipBlanks_42 ki_1 ?_
            refine mw_iadd dX8_skipBlanks_43 (fun v121 ev121 => ?_)
            have b122 : mm_b (1) (240) v121 := bd_add ev121 b111 n_1 (by decide)
            refine tw_puti (j := 3) dX8_skipBlanks_44 shC_1 rfl rfl (by decide) fX8_27 rfl (by decide +kernel) ?_
            have hI123 : JC (mm_up S101 1 3 v121) := JIC_put hI102 b122 (by decide +kernel)
            generalize hS124 : (mm_up S101 1 3 v121) = S124 at hI123 ⊢
            have hF125 := fr_upA hF103 hS124 (by decide)
            refine mw_goto (tgt := 0) dX8_skipBlanks_47 (by decide) ?_
            exact ih0 S124 v121 (ms_add ev121 b111 n_1 (by decide) hm106) hI123 hF125 (bd_w b122 (by decide)) (up_eq hS124)
  obtain ⟨v126, ev126⟩ : ∃ y : Int32, y = S.1 1 3 := ⟨_, rfl⟩
  have b127 : mm_b (0) (240) v126 := JIC_fld hI ev126 tbC_1 (by decide)
  exact cut0 _ S v126 (Nat.lt_succ_self _) hI hF b127 ev126
set_option maxRecDepth 100000 in
set_option maxHeartbeats 4000000 in
theorem c_X8_isNext {g : mm_G} (S : mm_S) (hI : JC S) (x1 : Int32) (h1 : mm_b (44) (59) x1) : mc g yX8_isNext cX8_isNext 2 (some .boolean) (mm_rm 1) [.ref 1, .int x1] (mm_enc shC S) (qi shC (fun S1 v => JC S1 ∧ fr [1] [] true true S S1 ∧ mm_b (0) (1) v ∧ (v = 0 ∨ (mm_b (0) (239) (S1.1 1 3))))) := by
  refine mc_of2 (own := RX8) (ini := false) (ls := [(0, .ref 1), (1, .int x1)]) (by decide) (Nat.le_of_ble_eq_true rfl) rfl (by decide) rfl ?_
  have hF : fr [1] [] true true S S := fr_rf
  refine mw_aload_n dX8_isNext_0 rfl 0 rfl ?_
  refine tc_Vi (as := []) (st := []) dX8_isNext_1 rfl shC_1 rfl rfl mX8_36 t_X8_isSound rfl (Nat.le_of_ble_eq_true rfl) (by decide) (by decide) (c_X8_isSound (g := g) S hI) (fun S101 v103 h102 => ?_)
  obtain ⟨rfl, b104, x105⟩ := h102
  refine mw_if_ne (tgt := 9) dX8_isNext_4 (by decide) (fun q106 => ?_) (fun q106 => ?_)
  · skip
    have b107 : mm_b (1) (1) v103 := bd_ne_l q106 b104 n_0 (by decide)
    refine mw_aload_n dX8_isNext_9 rfl 0 rfl ?_
    refine tc_Vv (as := []) (st := []) dX8_isNext_10 rfl shC_1 rfl rfl mX8_33 t_X8_skipBlanks rfl (Nat.le_of_ble_eq_true rfl) (by decide) (by decide) (c_X8_skipBlanks (g := g) S hI) (fun S108 h109 => ?_)
    obtain ⟨hI111, hf112, x110⟩ := h109
    have hF113 := fr_tr hF hf112 (by decide) (by decide) (by decide) (by decide)
    refine mw_aload_n dX8_isNext_13 rfl 0 rfl ?_
    refine tc_Vi (as := []) (st := []) dX8_isNext_14 rfl shC_1 rfl rfl mX8_44 t_X8_letterHere rfl (Nat.le_of_ble_eq_true rfl) (by decide) (by decide) (c_X8_letterHere (g := g) S108 hI111) (fun S114 v116 h115 => ?_)
    obtain ⟨rfl, b117, x118⟩ := h115
    refine mw_iload_n dX8_isNext_17 rfl 1 rfl ?_
    refine mw_icmp_ne (tgt := 25) dX8_isNext_18 (by decide) (fun q119 => ?_) (fun q119 => ?_)
    · skip
      refine mw_iconst dX8_isNext_25 ki_0 ?_
      exact mw_zret rfl (bd_nar n_0 (by decide)) dX8_isNext_26 rfl rfl ⟨S108, _, rfl, rfl, hI111, hF113, bd_w n_0 (by decide), Or.inl rfl⟩
    · skip
      have b120 : mm_b (44) (59) v116 := bd_eq_l q119 b117 h1 (by decide)
      obtain ⟨v121, ev121⟩ : ∃ y : Int32, y = S108.1 1 3 := ⟨_, rfl⟩
      have b122 : mm_b (0) (239) v121 := by rw [ev121]; exact Or.resolve_left x118 (bd_nec b120 (by decide))
      refine mw_iconst dX8_isNext_21 ki_1 ?_
      refine mw_goto (tgt := 26) dX8_isNext_22 (by decide) ?_
      exact mw_zret rfl (bd_nar n_1 (by decide)) dX8_isNext_26 rfl rfl ⟨S108, _, rfl, rfl, hI111, hF113, bd_w n_1 (by decide), Or.inr (by rw [← ev121]; exact bd_w b122 (by decide))⟩
  · skip
    have b123 : mm_b (0) (0) v103 := bd_eq_l q106 b104 n_0 (by decide)
    refine mw_iconst dX8_isNext_7 ki_0 ?_
    exact mw_zret rfl (bd_nar n_0 (by decide)) dX8_isNext_8 rfl rfl ⟨S, _, rfl, rfl, hI, hF, bd_w n_0 (by decide), Or.inl rfl⟩
set_option maxRecDepth 100000 in
set_option maxHeartbeats 4000000 in
theorem c_X8_readSign {g : mm_G} (S : mm_S) (hI : JC S) (x1 : Int32) (h1 : mm_b (44) (59) x1) : mc g yX8_readSign cX8_readSign 2 (some .boolean) (mm_rm 2) [.ref 1, .int x1] (mm_enc shC S) (qi shC (fun S1 v => JC S1 ∧ fr [1] [] true true S S1 ∧ mm_b (0) (1) v ∧ (True))) := by
  refine mc_of2 (own := RX8) (ini := false) (ls := [(0, .ref 1), (1, .int x1)]) (by decide) (Nat.le_of_ble_eq_true rfl) rfl (by decide) rfl ?_
  have hF : fr [1] [] true true S S := fr_rf
  refine mw_aload_n dX8_readSign_0 rfl 0 rfl ?_
  refine mw_iload_n dX8_readSign_1 rfl 1 rfl ?_
  refine tc_Vi (as := [.int x1]) (st := []) dX8_readSign_2 rfl shC_1 rfl rfl mX8_108 t_X8_isNext rfl (Nat.le_of_ble_eq_true rfl) (by decide) (by decide) (c_X8_isNext (g := g) S hI x1 h1) (fun S101 v103 h102 => ?_)
  obtain ⟨hI107, hf108, b104, x105⟩ := h102
  have hF109 := fr_tr hF hf108 (by decide) (by decide) (by decide) (by decide)
  refine mw_if_eq (tgt := 20) dX8_readSign_5 (by decide) (fun q110 => ?_) (fun q110 => ?_)
  · skip
    have b111 : mm_b (0) (0) v103 := bd_eq_l q110 b104 n_0 (by decide)
    refine mw_aload_n dX8_readSign_20 rfl 0 rfl ?_
    refine mw_iconst dX8_readSign_21 ki_1 ?_
    refine mw_aload_n dX8_readSign_22 rfl 0 rfl ?_
    refine tw_geti (j := 3) dX8_readSign_23 shC_1 rfl rfl (by decide) fX8_27 (fun v112 ev112 => ?_)
    have b113 : mm_b (0) (240) v112 := JIC_fld hI107 ev112 tbC_1 (by decide)
    refine tc_Vv (as := [.int 1, .int v112]) (st := []) dX8_readSign_26 rfl shC_1 rfl rfl mX8_60 t_X8_blame rfl (Nat.le_of_ble_eq_true rfl) (by decide) (by decide) (c_X8_blame (g := g) S101 hI107 (1 : Int32) v112) (fun S114 h115 => ?_)
    obtain ⟨hI117, hf118, x116⟩ := h115
    have hF119 := fr_tr hF109 hf118 (by decide) (by decide) (by decide) (by decide)
    refine mw_iconst dX8_readSign_29 ki_0 ?_
    exact mw_zret rfl (bd_nar n_0 (by decide)) dX8_readSign_30 rfl rfl ⟨S114, _, rfl, rfl, hI117, hF119, bd_w n_0 (by decide), trivial⟩
  · skip
    have b120 : mm_b (1) (1) v103 := bd_ne_l q110 b104 n_0 (by decide)
    have b121 := Or.resolve_left x105 q110
    obtain ⟨v122, ev122⟩ : ∃ y : Int32, y = S101.1 1 3 := ⟨_, rfl⟩
    have b123 : mm_b (0) (239) v122 := by rw [ev122]; exact b121
    refine mw_aload_n dX8_readSign_8 rfl 0 rfl ?_
    refine mw_dup dX8_readSign_9 rfl ?_
    refine tw_geti (j := 3) dX8_readSign_10 shC_1 rfl rfl (by decide) fX8_27 (fun v124 ev124 => ?_)
    have cv124 : v122 = v124 := ev122.trans ev124.symm
    subst cv124
    refine mw_iconst dX8_readSign_13 ki_1 ?_
    refine mw_iadd dX8_readSign_14 (fun v125 ev125 => ?_)
    have b126 : mm_b (1) (240) v125 := bd_add ev125 b123 n_1 (by decide)
    refine tw_puti (j := 3) dX8_readSign_15 shC_1 rfl rfl (by decide) fX8_27 rfl (by decide +kernel) ?_
    have hI127 : JC (mm_up S101 1 3 v125) := JIC_put hI107 b126 (by decide +kernel)
    generalize hS128 : (mm_up S101 1 3 v125) = S128 at hI127 ⊢
    have hF129 := fr_upA hF109 hS128 (by decide)
    refine mw_iconst dX8_readSign_18 ki_1 ?_
    exact mw_zret rfl (bd_nar n_1 (by decide)) dX8_readSign_19 rfl rfl ⟨S128, _, rfl, rfl, hI127, hF129, bd_w n_1 (by decide), trivial⟩
set_option maxRecDepth 100000 in
set_option maxHeartbeats 4000000 in
theorem c_X8_readNumber {g : mm_G} (S : mm_S) (hI : JC S) (x1 : Int32) : mc g yX8_readNumber cX8_readNumber 4 (some .int) (mm_rm 1) [.ref 1, .int x1] (mm_enc shC S) (qi shC (fun S1 v => JC S1 ∧ fr [1] [] true true S S1 ∧ mm_b (-2147483648) (2147483647) v ∧ (True))) := by
  refine mc_of2 (own := RX8) (ini := false) (ls := [(0, .ref 1), (1, .int x1)]) (by decide) (Nat.le_of_ble_eq_true rfl) rfl (by decide) rfl ?_
  have hF : fr [1] [] true true S S := fr_rf
  refine mw_aload_n dX8_readNumber_0 rfl 0 rfl ?_
  refine tc_Vi (as := []) (st := []) dX8_readNumber_1 rfl shC_1 rfl rfl mX8_36 t_X8_isSound rfl (Nat.le_of_ble_eq_true rfl) (by decide) (by decide) (c_X8_isSound (g := g) S hI) (fun S101 v103 h102 => ?_)
  obtain ⟨rfl, b104, x105⟩ := h102
  refine mw_if_ne (tgt := 9) dX8_readNumber_4 (by decide) (fun q106 => ?_) (fun q106 => ?_)
  · skip
    have b107 : mm_b (1) (1) v103 := bd_ne_l q106 b104 n_0 (by decide)
    refine mw_aload_n dX8_readNumber_9 rfl 0 rfl ?_
    refine tc_Vv (as := []) (st := []) dX8_readNumber_10 rfl shC_1 rfl rfl mX8_33 t_X8_skipBlanks rfl (Nat.le_of_ble_eq_true rfl) (by decide) (by decide) (c_X8_skipBlanks (g := g) S hI) (fun S108 h109 => ?_)
    obtain ⟨hI111, hf112, x110⟩ := h109
    have hF113 := fr_tr hF hf112 (by decide) (by decide) (by decide) (by decide)
    refine mw_aload_n dX8_readNumber_13 rfl 0 rfl ?_
    refine mw_aload_n dX8_readNumber_14 rfl 0 rfl ?_
    refine tw_geti (j := 3) dX8_readNumber_15 shC_1 rfl rfl (by decide) fX8_27 (fun v114 ev114 => ?_)
    have b115 : mm_b (0) (240) v114 := JIC_fld hI111 ev114 tbC_1 (by decide)
    refine tw_puti (j := 4) dX8_readNumber_18 shC_1 rfl rfl (by decide) fX8_82 rfl (by decide +kernel) ?_
    have hI116 : JC (mm_up S108 1 4 v114) := JIC_put hI111 b115 (by decide +kernel)
    generalize hS117 : (mm_up S108 1 4 v114) = S117 at hI116 ⊢
    have hF118 := fr_upA hF113 hS117 (by decide)
    refine mw_iconst dX8_readNumber_21 ki_0 ?_
    refine mw_istore_n (ls' := [(2, .int 0), (0, .ref 1), (1, .int x1)]) dX8_readNumber_22 rfl (by decide) rfl ?_
    refine mw_iconst dX8_readNumber_23 ki_0 ?_
    refine mw_istore_n (ls' := [(3, .int 0), (2, .int 0), (0, .ref 1), (1, .int x1)]) dX8_readNumber_24 rfl (by decide) rfl ?_
    have cut25 : ∀ (N25 : Nat) (S119 : mm_S) (y122 y124 y126 : Int32), ((241 : Int) - y126.toInt).toNat < N25 → JC S119 → fr [1] [] true true S S119 → mm_b (-2147483648) (2147483647) y122 → mm_b (-2147483648) (2147483647) y124 → mm_b (0) (240) y126 → y126 = S119.1 1 3 → mw g RX8 cX8_readNumber 4 (some .int) false (mm_rm 1) (qi shC (fun S1 v => JC S1 ∧ fr [1] [] true true S S1 ∧ mm_b (-2147483648) (2147483647) v ∧ (True))) 0 0 (mm_enc shC S119) 25 [(0, .ref 1), (1, .int x1), (2, .int y122), (3, .int y124)] [] := by
      intro N25
      induction N25 with
      | zero =>
        intro S119 y122 y124 y126 hm128 hI120 hF121 b123 b125 b127 ey126
        exact absurd hm128 (Nat.not_lt_zero _)
      | succ N25 ih25 =>
        intro S119 y122 y124 y126 hm128 hI120 hF121 b123 b125 b127 ey126
        refine mw_aload_n dX8_readNumber_25 rfl 0 rfl ?_
        refine tw_geti (j := 3) dX8_readNumber_26 shC_1 rfl rfl (by decide) fX8_27 (fun v129 ev129 => ?_)
        have cv129 : y126 = v129 := ey126.trans ev129.symm
        subst cv129
        refine mw_aload_n dX8_readNumber_29 rfl 0 rfl ?_
        refine tw_geti (j := 0) dX8_readNumber_30 shC_1 rfl rfl (by decide) fX8_19 (fun v130 ev130 => ?_)
        have b131 : mm_b (0) (240) v130 := JIC_fld hI120 ev130 tbC_0 (by decide)
        have cut84 : ∀ (S132 : mm_S) (y135 y137 : Int32), JC S132 → fr [1] [] true true S S132 → mm_b (-2147483648) (2147483647) y135 → mm_b (-2147483648) (2147483647) y137 → mw g RX8 cX8_readNumber 4 (some .int) false (mm_rm 1) (qi shC (fun S1 v => JC S1 ∧ fr [1] [] true true S S1 ∧ mm_b (-2147483648) (2147483647) v ∧ (True))) 0 0 (mm_enc shC S132) 84 [(0, .ref 1), (1, .int x1), (2, .int y135), (3, .int y137)] [] := by
          intro S132 y135 y137 hI133 hF134 b136 b138
          refine mw_iload_n dX8_readNumber_84 rfl 2 rfl ?_
          refine mw_if_ne (tgt := 100) dX8_readNumber_85 (by decide) (fun q139 => ?_) (fun q139 => ?_)
          · skip
            refine mw_iload_n dX8_readNumber_100 rfl 2 rfl ?_
            refine mw_iconst dX8_readNumber_101 ki_3 ?_
            have cut110 : ∀ (S140 : mm_S) (y143 : Int32), JC S140 → fr [1] [] true true S S140 → mm_b (-2147483648) (2147483647) y143 → mw g RX8 cX8_readNumber 4 (some .int) false (mm_rm 1) (qi shC (fun S1 v => JC S1 ∧ fr [1] [] true true S S1 ∧ mm_b (-2147483648) (2147483647) v ∧ (True))) 0 0 (mm_enc shC S140) 110 [(0, .ref 1), (3, .int y143)] [] := by
              intro S140 y143 hI141 hF142 b144
              refine mw_aload_n dX8_readNumber_110 rfl 0 rfl ?_
              refine mw_iconst dX8_readNumber_111 ki_2 ?_
              refine mw_aload_n dX8_readNumber_112 rfl 0 rfl ?_
              refine tw_geti (j := 4) dX8_readNumber_113 shC_1 rfl rfl (by decide) fX8_82 (fun v145 ev145 => ?_)
              refine tc_Vv (as := [.int 2, .int v145]) (st := []) dX8_readNumber_116 rfl shC_1 rfl rfl mX8_60 t_X8_blame rfl (Nat.le_of_ble_eq_true rfl) (by decide) (by decide) (c_X8_blame (g := g) S140 hI141 (2 : Int32) v145) (fun S146 h147 => ?_)
              obtain ⟨hI149, hf150, x148⟩ := h147
              have hF151 := fr_tr hF142 hf150 (by decide) (by decide) (by decide) (by decide)
              refine mw_aload_n dX8_readNumber_119 rfl 0 rfl ?_
              refine tc_Vi (as := []) (st := []) dX8_readNumber_120 rfl shC_1 rfl rfl mX8_36 t_X8_isSound rfl (Nat.le_of_ble_eq_true rfl) (by decide) (by decide) (c_X8_isSound (g := g) S146 hI149) (fun S152 v154 h153 => ?_)
              obtain ⟨rfl, b155, x156⟩ := h153
              refine mw_if_eq (tgt := 130) dX8_readNumber_123 (by decide) (fun q157 => ?_) (fun q157 => ?_)
              · skip
                have b158 : mm_b (0) (0) v154 := bd_eq_l q157 b155 n_0 (by decide)
                refine mw_iconst dX8_readNumber_130 ki_m1 ?_
                exact mw_iret rfl dX8_readNumber_131 rfl rfl ⟨S146, _, rfl, rfl, hI149, hF151, bd_w n_m1 (by decide), trivial⟩
              · skip
                have b159 : mm_b (1) (1) v154 := bd_ne_l q157 b155 n_0 (by decide)
                refine mw_iload_n dX8_readNumber_126 rfl 1 rfl ?_
                refine mw_goto (tgt := 131) dX8_readNumber_127 (by decide) ?_
                exact mw_iret rfl dX8_readNumber_131 rfl rfl ⟨S146, _, rfl, rfl, hI149, hF151, b144, trivial⟩
            refine mw_icmp_gt (tgt := 110) dX8_readNumber_102 (by decide) (fun q160 => ?_) (fun q160 => ?_)
            · skip
              have b161 : mm_b (4) (2147483647) y135 := bd_lt_r q160 n_3 b136 (by decide)
              refine mw_ls [0, 3] rfl ?_
              exact cut110 S132 y137 hI133 hF134 b138
            · skip
              have b162 : mm_b (-2147483648) (3) y135 := bd_le_l (bd_nlt q160) b136 n_3 (by decide)
              refine mw_iload_n dX8_readNumber_105 rfl 3 rfl ?_
              refine mw_iload_n dX8_readNumber_106 rfl 1 rfl ?_
              refine mw_icmp_le (tgt := 119) dX8_readNumber_107 (by decide) (fun q163 => ?_) (fun q163 => ?_)
              · skip
                refine mw_aload_n dX8_readNumber_119 rfl 0 rfl ?_
                refine tc_Vi (as := []) (st := []) dX8_readNumber_120 rfl shC_1 rfl rfl mX8_36 t_X8_isSound rfl (Nat.le_of_ble_eq_true rfl) (by decide) (by decide) (c_X8_isSound (g := g) S132 hI133) (fun S164 v166 h165 => ?_)
                obtain ⟨rfl, b167, x168⟩ := h165
                refine mw_if_eq (tgt := 130) dX8_readNumber_123 (by decide) (fun q169 => ?_) (fun q169 => ?_)
                · skip
                  have b170 : mm_b (0) (0) v166 := bd_eq_l q169 b167 n_0 (by decide)
                  refine mw_iconst dX8_readNumber_130 ki_m1 ?_
                  exact mw_iret rfl dX8_readNumber_131 rfl rfl ⟨S132, _, rfl, rfl, hI133, hF134, bd_w n_m1 (by decide), trivial⟩
                · skip
                  have b171 : mm_b (1) (1) v166 := bd_ne_l q169 b167 n_0 (by decide)
                  refine mw_iload_n dX8_readNumber_126 rfl 3 rfl ?_
                  refine mw_goto (tgt := 131) dX8_readNumber_127 (by decide) ?_
                  exact mw_iret rfl dX8_readNumber_131 rfl rfl ⟨S132, _, rfl, rfl, hI133, hF134, b138, trivial⟩
              · skip
                have b172 : mm_b (-2147483648) (2147483646) x1 := bd_lt_l (bd_nle q163) (bd_all x1) b138 (by decide)
                have b173 : mm_b (-2147483647) (2147483647) y137 := bd_lt_r (bd_nle q163) (bd_all x1) b138 (by decide)
                refine mw_ls [0, 3] rfl ?_
                exact cut110 S132 y137 hI133 hF134 (bd_w b173 (by decide))
          · skip
            have b174 : mm_b (0) (0) y135 := bd_eq_l q139 b136 n_0 (by decide)
            refine mw_aload_n dX8_readNumber_88 rfl 0 rfl ?_
            refine mw_iconst dX8_readNumber_89 ki_1 ?_
            refine mw_aload_n dX8_readNumber_90 rfl 0 rfl ?_
            refine tw_geti (j := 3) dX8_readNumber_91 shC_1 rfl rfl (by decide) fX8_27 (fun v175 ev175 => ?_)
            have b176 : mm_b (0) (240) v175 := JIC_fld hI133 ev175 tbC_1 (by decide)
            refine tc_Vv (as := [.int 1, .int v175]) (st := []) dX8_readNumber_94 rfl shC_1 rfl rfl mX8_60 t_X8_blame rfl (Nat.le_of_ble_eq_true rfl) (by decide) (by decide) (c_X8_blame (g := g) S132 hI133 (1 : Int32) v175) (fun S177 h178 => ?_)
            obtain ⟨hI180, hf181, x179⟩ := h178
            have hF182 := fr_tr hF134 hf181 (by decide) (by decide) (by decide) (by decide)
            refine mw_goto (tgt := 119) dX8_readNumber_97 (by decide) ?_
            refine mw_aload_n dX8_readNumber_119 rfl 0 rfl ?_
            refine tc_Vi (as := []) (st := []) dX8_readNumber_120 rfl shC_1 rfl rfl mX8_36 t_X8_isSound rfl (Nat.le_of_ble_eq_true rfl) (by decide) (by decide) (c_X8_isSound (g := g) S177 hI180) (fun S183 v185 h184 => ?_)
            obtain ⟨rfl, b186, x187⟩ := h184
            refine mw_if_eq (tgt := 130) dX8_readNumber_123 (by decide) (fun q188 => ?_) (fun q188 => ?_)
            · skip
              have b189 : mm_b (0) (0) v185 := bd_eq_l q188 b186 n_0 (by decide)
              refine mw_iconst dX8_readNumber_130 ki_m1 ?_
              exact mw_iret rfl dX8_readNumber_131 rfl rfl ⟨S177, _, rfl, rfl, hI180, hF182, bd_w n_m1 (by decide), trivial⟩
            · skip
              have b190 : mm_b (1) (1) v185 := bd_ne_l q188 b186 n_0 (by decide)
              refine mw_iload_n dX8_readNumber_126 rfl 3 rfl ?_
              refine mw_goto (tgt := 131) dX8_readNumber_127 (by decide) ?_
              exact mw_iret rfl dX8_readNumber_131 rfl rfl ⟨S177, _, rfl, rfl, hI180, hF182, b138, trivial⟩
        refine mw_icmp_ge (tgt := 84) dX8_readNumber_33 (by decide) (fun q191 => ?_) (fun q191 => ?_)
        · skip
          exact cut84 S119 y122 y124 hI120 hF121 b123 b125
        · skip
          have b192 : mm_b (0) (239) y126 := bd_lt_l (bd_nle q191) b127 b131 (by decide)
          have b193 : mm_b (1) (240) v130 := bd_lt_r (bd_nle q191) b127 b131 (by decide)
          refine mw_aload_n dX8_readNumber_36 rfl 0 rfl ?_
          refine tc_Vi (as := []) (st := []) dX8_readNumber_37 rfl shC_1 rfl rfl mX8_44 t_X8_letterHere rfl (Nat.le_of_ble_eq_true rfl) (by decide) (by decide) (c_X8_letterHere (g := g) S119 hI120) (fun S194 v196 h195 => ?_)
          obtain ⟨rfl, b197, x198⟩ := h195
          refine tc_Si (as := [.int v196]) (st := []) dX8_readNumber_40 rfl mX8_111 t_X8_isFigure rfl (Nat.le_of_ble_eq_true rfl) (by decide) (by decide) (c_X8_isFigure (g := g) S119 hI120 v196) (fun S199 v201 h200 => ?_)
          obtain ⟨rfl, b202, x203⟩ := h200
          refine mw_if_eq (tgt := 84) dX8_readNumber_43 (by decide) (fun q204 => ?_) (fun q204 => ?_)
          · skip
            have b205 : mm_b (0) (0) v201 := bd_eq_l q204 b202 n_0 (by decide)
            exact cut84 S119 y122 y124 hI120 hF121 b123 b125
          · skip
            have b206 : mm_b (1) (1) v201 := bd_ne_l q204 b202 n_0 (by decide)
            have b207 := Or.resolve_left x203 q204
            refine mw_iinc (ls' := fun v => [(2, .int v), (0, .ref 1), (1, .int x1), (3, .int y124)]) dX8_readNumber_46 2 rfl (by decide) (fun _ => rfl) (fun v208 ev208 => ?_)
            refine mw_iload_n dX8_readNumber_49 rfl 0 rfl ?_
            refine mw_iconst dX8_readNumber_50 ki_3 ?_
            refine mw_icmp_le (tgt := 58) dX8_readNumber_51 (by decide) (fun q209 => ?_) (fun q209 => ?_)
            · skip
              have b210 : mm_b (-2147483648) (3) v208 := bd_le_l q209 (bd_all v208) n_3 (by decide)
              refine mw_bipush dX8_readNumber_58 kb_10 ?_
              refine mw_iload_n dX8_readNumber_60 rfl 3 rfl ?_
              refine mw_imul dX8_readNumber_61 (fun v211 ev211 => ?_)
              refine mw_aload_n dX8_readNumber_62 rfl 1 rfl ?_
              refine tc_Vi (as := []) (st := [.int v211]) dX8_readNumber_63 rfl shC_1 rfl rfl mX8_44 t_X8_letterHere rfl (Nat.le_of_ble_eq_true rfl) (by decide) (by decide) (c_X8_letterHere (g := g) S119 hI120) (fun S212 v214 h213 => ?_)
              obtain ⟨rfl, b215, x216⟩ := h213
              refine mw_iadd dX8_readNumber_66 (fun v217 ev217 => ?_)
              refine mw_bipush dX8_readNumber_67 kb_48 ?_
              refine mw_isub dX8_readNumber_69 (fun v218 ev218 => ?_)
              refine mw_istore_n (ls' := [(3, .int v218), (2, .int v208), (0, .ref 1), (1, .int x1)]) dX8_readNumber_70 rfl (by decide) rfl ?_
              refine mw_aload_n dX8_readNumber_71 rfl 2 rfl ?_
              refine mw_dup dX8_readNumber_72 rfl ?_
              refine tw_geti (j := 3) dX8_readNumber_73 shC_1 rfl rfl (by decide) fX8_27 (fun v219 ev219 => ?_)
              have cv219 : y126 = v219 := ey126.trans ev219.symm
              subst cv219
              refine mw_iconst dX8_readNumber_76 ki_1 ?_
              refine mw_iadd dX8_readNumber_77 (fun v220 ev220 => ?_)
              have b221 : mm_b (1) (240) v220 := bd_add ev220 b192 n_1 (by decide)
              refine tw_puti (j := 3) dX8_readNumber_78 shC_1 rfl rfl (by decide) fX8_27 rfl (by decide +kernel) ?_
              have hI222 : JC (mm_up S119 1 3 v220) := JIC_put hI120 b221 (by decide +kernel)
              generalize hS223 : (mm_up S119 1 3 v220) = S223 at hI222 ⊢
              have hF224 := fr_upA hF121 hS223 (by decide)
              refine mw_goto (tgt := 25) dX8_readNumber_81 (by decide) ?_
              refine mw_ls [2, 3, 1, 0] rfl ?_
              exact ih25 S223 v208 v218 v220 (ms_add ev220 b192 n_1 (by decide) hm128) hI222 hF224 (bd_w b210 (by decide)) (bd_all v218) (bd_w b221 (by decide)) (up_eq hS223)
            · skip
              have b225 : mm_b (4) (2147483647) v208 := bd_lt_r (bd_nle q209) n_3 (bd_all v208) (by decide)
              refine mw_iload_n dX8_readNumber_54 rfl 3 rfl ?_
              refine mw_goto (tgt := 70) dX8_readNumber_55 (by decide) ?_
              refine mw_istore_n (ls' := [(3, .int y124), (2, .int v208), (0, .ref 1), (1, .int x1)]) dX8_readNumber_70 rfl (by decide) rfl ?_
              refine mw_aload_n dX8_readNumber_71 rfl 2 rfl ?_
              refine mw_dup dX8_readNumber_72 rfl ?_
              refine tw_geti (j := 3) dX8_readNumber_73 shC_1 rfl rfl (by decide) fX8_27 (fun v226 ev226 => ?_)
              have cv226 : y126 = v226 := ey126.trans ev226.symm
              subst cv226
              refine mw_iconst dX8_readNumber_76 ki_1 ?_
              refine mw_iadd dX8_readNumber_77 (fun v227 ev227 => ?_)
              have b228 : mm_b (1) (240) v227 := bd_add ev227 b192 n_1 (by decide)
              refine tw_puti (j := 3) dX8_readNumber_78 shC_1 rfl rfl (by decide) fX8_27 rfl (by decide +kernel) ?_
              have hI229 : JC (mm_up S119 1 3 v227) := JIC_put hI120 b228 (by decide +kernel)
              generalize hS230 : (mm_up S119 1 3 v227) = S230 at hI229 ⊢
              have hF231 := fr_upA hF121 hS230 (by decide)
              refine mw_goto (tgt := 25) dX8_readNumber_81 (by decide) ?_
              refine mw_ls [2, 3, 1, 0] rfl ?_
              exact ih25 S230 v208 y124 v227 (ms_add ev227 b192 n_1 (by decide) hm128) hI229 hF231 (bd_w b225 (by decide)) b125 (bd_w b228 (by decide)) (up_eq hS230)
    refine mw_ls [2, 3, 1, 0] rfl ?_
    exact cut25 _ S117 (0 : Int32) (0 : Int32) v114 (Nat.lt_succ_self _) hI116 hF118 (bd_w n_0 (by decide)) (bd_w n_0 (by decide)) b115 (ev114.trans (up_neF hS117 (by decide)))
  · skip
    have b232 : mm_b (0) (0) v103 := bd_eq_l q106 b104 n_0 (by decide)
    refine mw_iconst dX8_readNumber_7 ki_m1 ?_
    exact mw_iret rfl dX8_readNumber_8 rfl rfl ⟨S, _, rfl, rfl, hI, hF, bd_w n_m1 (by decide), trivial⟩
set_option maxRecDepth 100000 in
set_option maxHeartbeats 4000000 in
theorem c_X8_readPerson {g : mm_G} (S : mm_S) (hI : JC S) (a1 : Nat) (ha1 : a1 ∈ LC_parish) (hp0 : mm_b (0) (239) (S.1 1 3)) : mc g yX8_readPerson cX8_readPerson 3 none (mm_rm 3) [.ref 1, .ref a1] (mm_enc shC S) (qv shC (fun S1 => JC S1 ∧ fr [1, 3, 4, 5, 6, 9, 10, 11, 12] [] true true S S1 ∧ True)) := by
  refine mc_of2 (own := RX8) (ini := false) (ls := [(0, .ref 1), (1, .ref a1)]) (by decide) (Nat.le_of_ble_eq_true rfl) rfl (by decide) rfl ?_
  have hF : fr [1, 3, 4, 5, 6, 9, 10, 11, 12] [] true true S S := fr_rf
  obtain ⟨hy0, ehy0⟩ : ∃ y : Int32, y = S.1 1 3 := ⟨_, rfl⟩
  have bhy0 : mm_b (0) (239) hy0 := by rw [ehy0]; exact hp0
  refine mw_aload_n dX8_readPerson_0 rfl 1 rfl ?_
  refine tw_geti (j := 0) dX8_readPerson_1 (shC_parish_0 a1 ha1) rfl rfl (by decide) fX8_64 (fun v101 ev101 => ?_)
  have b102 : mm_b (0) (7) v101 := JIC_fld hI ev101 (tbC_parish_0_0 a1 ha1) (by decide)
  refine mw_bipush dX8_readPerson_4 kb_7 ?_
  refine mw_icmp_lt (tgt := 19) dX8_readPerson_6 (by decide) (fun q103 => ?_) (fun q103 => ?_)
  · skip
    have b104 : mm_b (0) (6) v101 := bd_lt_l q103 b102 n_7 (by decide)
    refine mw_aload_n dX8_readPerson_19 rfl 0 rfl ?_
    refine mw_dup dX8_readPerson_20 rfl ?_
    refine tw_geti (j := 3) dX8_readPerson_21 shC_1 rfl rfl (by decide) fX8_27 (fun v105 ev105 => ?_)
    have cv105 : hy0 = v105 := ehy0.trans ev105.symm
    subst cv105
    refine mw_iconst dX8_readPerson_24 ki_1 ?_
    refine mw_iadd dX8_readPerson_25 (fun v106 ev106 => ?_)
    have b107 : mm_b (1) (240) v106 := bd_add ev106 bhy0 n_1 (by decide)
    refine tw_puti (j := 3) dX8_readPerson_26 shC_1 rfl rfl (by decide) fX8_27 rfl (by decide +kernel) ?_
    have hI108 : JC (mm_up S 1 3 v106) := JIC_put hI b107 (by decide +kernel)
    generalize hS109 : (mm_up S 1 3 v106) = S109 at hI108 ⊢
    have hF110 := fr_upA hF hS109 (by decide)
    refine mw_aload_n dX8_readPerson_29 rfl 0 rfl ?_
    refine mw_bipush dX8_readPerson_30 kb_9 ?_
    refine tc_Vi (as := [.int 9]) (st := []) dX8_readPerson_32 rfl shC_1 rfl rfl mX8_67 t_X8_readNumber rfl (Nat.le_of_ble_eq_true rfl) (by decide) (by decide) (c_X8_readNumber (g := g) S109 hI108 (9 : Int32)) (fun S111 v113 h112 => ?_)
    obtain ⟨hI117, hf118, b114, x115⟩ := h112
    have hF119 := fr_tr hF110 hf118 (by decide) (by decide) (by decide) (by decide)
    refine mw_istore_n (ls' := [(2, .int v113), (0, .ref 1), (1, .ref a1)]) dX8_readPerson_35 rfl (by decide) rfl ?_
    refine mw_aload_n dX8_readPerson_36 rfl 1 rfl ?_
    refine mw_bipush dX8_readPerson_37 kb_59 ?_
    refine tc_Vi (as := [.int 59]) (st := []) dX8_readPerson_39 rfl shC_1 rfl rfl mX8_71 t_X8_readSign rfl (Nat.le_of_ble_eq_true rfl) (by decide) (by decide) (c_X8_readSign (g := g) S111 hI117 (59 : Int32) (bd_w n_59 (by decide))) (fun S120 v122 h121 => ?_)
    obtain ⟨hI126, hf127, b123, x124⟩ := h121
    have hF128 := fr_tr hF119 hf127 (by decide) (by decide) (by decide) (by decide)
    refine mw_if_eq (tgt := 50) dX8_readPerson_42 (by decide) (fun q129 => ?_) (fun q129 => ?_)
    · skip
      have b130 : mm_b (0) (0) v122 := bd_eq_l q129 b123 n_0 (by decide)
      exact mw_vret rfl dX8_readPerson_50 rfl rfl ⟨S120, rfl, rfl, ⟨hI126, hF128, trivial⟩⟩
    · skip
      have b131 : mm_b (1) (1) v122 := bd_ne_l q129 b123 n_0 (by decide)
      refine mw_aload_n dX8_readPerson_45 rfl 2 rfl ?_
      refine mw_iload_n dX8_readPerson_46 rfl 0 rfl ?_
      refine tc_Vv (as := [.int v113]) (st := []) dX8_readPerson_47 rfl (shC_parish_0 a1 ha1) rfl rfl mX8_75 t_X6_addPerson rfl (Nat.le_of_ble_eq_true rfl) (by decide) (by decide) (c_X6_addPerson (g := g) S120 hI126 a1 ha1 v113) (fun S132 h133 => ?_)
      obtain ⟨hI135, hf136, x134⟩ := h133
      have hF137 := fr_tr hF128 hf136 (by decide) (by decide) (by decide) (by decide)
      exact mw_vret rfl dX8_readPerson_50 rfl rfl ⟨S132, rfl, rfl, ⟨hI135, hF137, trivial⟩⟩
  · skip
    have b138 : mm_b (7) (7) v101 := bd_le_r (bd_nlt q103) n_7 b102 (by decide)
    refine mw_aload_n dX8_readPerson_9 rfl 0 rfl ?_
    refine mw_iconst dX8_readPerson_10 ki_3 ?_
    refine mw_aload_n dX8_readPerson_11 rfl 0 rfl ?_
    refine tw_geti (j := 3) dX8_readPerson_12 shC_1 rfl rfl (by decide) fX8_27 (fun v139 ev139 => ?_)
    have cv139 : hy0 = v139 := ehy0.trans ev139.symm
    subst cv139
    refine tc_Vv (as := [.int 3, .int hy0]) (st := []) dX8_readPerson_15 rfl shC_1 rfl rfl mX8_60 t_X8_blame rfl (Nat.le_of_ble_eq_true rfl) (by decide) (by decide) (c_X8_blame (g := g) S hI (3 : Int32) hy0) (fun S140 h141 => ?_)
    obtain ⟨hI143, hf144, x142⟩ := h141
    have hF145 := fr_tr hF hf144 (by decide) (by decide) (by decide) (by decide)
    exact mw_vret rfl dX8_readPerson_18 rfl rfl ⟨S140, rfl, rfl, ⟨hI143, hF145, trivial⟩⟩
set_option maxRecDepth 100000 in
set_option maxHeartbeats 4000000 in
theorem c_X8_readHeir {g : mm_G} (S : mm_S) (hI : JC S) (a1 : Nat) (ha1 : a1 ∈ LC_parish) (x2 : Int32) : mc g yX8_readHeir cX8_readHeir 4 (some .int) (mm_rm 2) [.ref 1, .ref a1, .int x2] (mm_enc shC S) (qi shC (fun S1 v => JC S1 ∧ fr [1] [] true true S S1 ∧ mm_b (-2147483648) (2147483647) v ∧ (True))) := by
  refine mc_of2 (own := RX8) (ini := false) (ls := [(0, .ref 1), (1, .ref a1), (2, .int x2)]) (by decide) (Nat.le_of_ble_eq_true rfl) rfl (by decide) rfl ?_
  have hF : fr [1] [] true true S S := fr_rf
  refine mw_aload_n dX8_readHeir_0 rfl 0 rfl ?_
  refine mw_bipush dX8_readHeir_1 kb_9 ?_
  refine tc_Vi (as := [.int 9]) (st := []) dX8_readHeir_3 rfl shC_1 rfl rfl mX8_67 t_X8_readNumber rfl (Nat.le_of_ble_eq_true rfl) (by decide) (by decide) (c_X8_readNumber (g := g) S hI (9 : Int32)) (fun S101 v103 h102 => ?_)
  obtain ⟨hI107, hf108, b104, x105⟩ := h102
  have hF109 := fr_tr hF hf108 (by decide) (by decide) (by decide) (by decide)
  refine mw_istore_n (ls' := [(3, .int v103), (0, .ref 1), (1, .ref a1), (2, .int x2)]) dX8_readHeir_6 rfl (by decide) rfl ?_
  refine mw_aload_n dX8_readHeir_7 rfl 1 rfl ?_
  refine tc_Vi (as := []) (st := []) dX8_readHeir_8 rfl shC_1 rfl rfl mX8_36 t_X8_isSound rfl (Nat.le_of_ble_eq_true rfl) (by decide) (by decide) (c_X8_isSound (g := g) S101 hI107) (fun S110 v112 h111 => ?_)
  obtain ⟨rfl, b113, x114⟩ := h111
  refine mw_if_eq (tgt := 54) dX8_readHeir_11 (by decide) (fun q115 => ?_) (fun q115 => ?_)
  · skip
    have b116 : mm_b (0) (0) v112 := bd_eq_l q115 b113 n_0 (by decide)
    refine mw_iload_n dX8_readHeir_54 rfl 0 rfl ?_
    exact mw_iret rfl dX8_readHeir_55 rfl rfl ⟨S101, _, rfl, rfl, hI107, hF109, b104, trivial⟩
  · skip
    have b117 : mm_b (1) (1) v112 := bd_ne_l q115 b113 n_0 (by decide)
    refine mw_iload_n dX8_readHeir_14 rfl 0 rfl ?_
    refine mw_bipush dX8_readHeir_15 kb_9 ?_
    refine mw_icmp_eq (tgt := 54) dX8_readHeir_17 (by decide) (fun q118 => ?_) (fun q118 => ?_)
    · skip
      have b119 : mm_b (9) (9) v103 := bd_eq_l q118 b104 n_9 (by decide)
      refine mw_iload_n dX8_readHeir_54 rfl 0 rfl ?_
      exact mw_iret rfl dX8_readHeir_55 rfl rfl ⟨S101, _, rfl, rfl, hI107, hF109, bd_w b119 (by decide), trivial⟩
    · skip
      refine mw_aload_n dX8_readHeir_20 rfl 2 rfl ?_
      refine mw_iload_n dX8_readHeir_21 rfl 0 rfl ?_
      refine tc_Vi (as := [.int v103]) (st := []) dX8_readHeir_22 rfl (shC_parish_0 a1 ha1) rfl rfl mX8_93 t_X6_hasPerson rfl (Nat.le_of_ble_eq_true rfl) (by decide) (by decide) (c_X6_hasPerson (g := g) S101 hI107 a1 ha1 v103) (fun S120 v122 h121 => ?_)
      obtain ⟨rfl, b123, x124⟩ := h121
      refine mw_if_ne (tgt := 40) dX8_readHeir_25 (by decide) (fun q125 => ?_) (fun q125 => ?_)
      · skip
        have b126 : mm_b (1) (1) v122 := bd_ne_l q125 b123 n_0 (by decide)
        have b127 := Or.resolve_left x124 q125
        refine mw_iload_n dX8_readHeir_40 rfl 0 rfl ?_
        refine mw_iload_n dX8_readHeir_41 rfl 3 rfl ?_
        refine mw_icmp_ne (tgt := 54) dX8_readHeir_42 (by decide) (fun q128 => ?_) (fun q128 => ?_)
        · skip
          refine mw_iload_n dX8_readHeir_54 rfl 0 rfl ?_
          exact mw_iret rfl dX8_readHeir_55 rfl rfl ⟨S101, _, rfl, rfl, hI107, hF109, bd_w b127 (by decide), trivial⟩
        · skip
          have b129 : mm_b (0) (6) x2 := bd_eq_l (Eq.symm q128) (bd_all x2) b127 (by decide)
          refine mw_aload_n dX8_readHeir_45 rfl 1 rfl ?_
          refine mw_iconst dX8_readHeir_46 ki_4 ?_
          refine mw_aload_n dX8_readHeir_47 rfl 1 rfl ?_
          refine tw_geti (j := 4) dX8_readHeir_48 shC_1 rfl rfl (by decide) fX8_82 (fun v130 ev130 => ?_)
          refine tc_Vv (as := [.int 4, .int v130]) (st := []) dX8_readHeir_51 rfl shC_1 rfl rfl mX8_60 t_X8_blame rfl (Nat.le_of_ble_eq_true rfl) (by decide) (by decide) (c_X8_blame (g := g) S101 hI107 (4 : Int32) v130) (fun S131 h132 => ?_)
          obtain ⟨hI134, hf135, x133⟩ := h132
          have hF136 := fr_tr hF109 hf135 (by decide) (by decide) (by decide) (by decide)
          refine mw_iload_n dX8_readHeir_54 rfl 0 rfl ?_
          exact mw_iret rfl dX8_readHeir_55 rfl rfl ⟨S131, _, rfl, rfl, hI134, hF136, bd_w b127 (by decide), trivial⟩
      · skip
        have b137 : mm_b (0) (0) v122 := bd_eq_l q125 b123 n_0 (by decide)
        refine mw_aload_n dX8_readHeir_28 rfl 1 rfl ?_
        refine mw_iconst dX8_readHeir_29 ki_2 ?_
        refine mw_aload_n dX8_readHeir_30 rfl 1 rfl ?_
        refine tw_geti (j := 4) dX8_readHeir_31 shC_1 rfl rfl (by decide) fX8_82 (fun v138 ev138 => ?_)
        refine tc_Vv (as := [.int 2, .int v138]) (st := []) dX8_readHeir_34 rfl shC_1 rfl rfl mX8_60 t_X8_blame rfl (Nat.le_of_ble_eq_true rfl) (by decide) (by decide) (c_X8_blame (g := g) S101 hI107 (2 : Int32) v138) (fun S139 h140 => ?_)
        obtain ⟨hI142, hf143, x141⟩ := h140
        have hF144 := fr_tr hF109 hf143 (by decide) (by decide) (by decide) (by decide)
        refine mw_goto (tgt := 54) dX8_readHeir_37 (by decide) ?_
        refine mw_iload_n dX8_readHeir_54 rfl 0 rfl ?_
        exact mw_iret rfl dX8_readHeir_55 rfl rfl ⟨S139, _, rfl, rfl, hI142, hF144, b104, trivial⟩
set_option maxRecDepth 100000 in
set_option maxHeartbeats 4000000 in
theorem c_X8_readWill {g : mm_G} (S : mm_S) (hI : JC S) (a1 : Nat) (ha1 : a1 ∈ LC_parish) (hp0 : mm_b (0) (239) (S.1 1 3)) : mc g yX8_readWill cX8_readWill 5 none (mm_rm 3) [.ref 1, .ref a1] (mm_enc shC S) (qv shC (fun S1 => JC S1 ∧ fr [1, 3, 5, 6, 9, 11, 12] [] true true S S1 ∧ True)) := by
  refine mc_of2 (own := RX8) (ini := false) (ls := [(0, .ref 1), (1, .ref a1)]) (by decide) (Nat.le_of_ble_eq_true rfl) rfl (by decide) rfl ?_
  have hF : fr [1, 3, 5, 6, 9, 11, 12] [] true true S S := fr_rf
  obtain ⟨hy0, ehy0⟩ : ∃ y : Int32, y = S.1 1 3 := ⟨_, rfl⟩
  have bhy0 : mm_b (0) (239) hy0 := by rw [ehy0]; exact hp0
  refine mw_aload_n dX8_readWill_0 rfl 0 rfl ?_
  refine mw_dup dX8_readWill_1 rfl ?_
  refine tw_geti (j := 3) dX8_readWill_2 shC_1 rfl rfl (by decide) fX8_27 (fun v101 ev101 => ?_)
  have cv101 : hy0 = v101 := ehy0.trans ev101.symm
  subst cv101
  refine mw_iconst dX8_readWill_5 ki_1 ?_
  refine mw_iadd dX8_readWill_6 (fun v102 ev102 => ?_)
  have b103 : mm_b (1) (240) v102 := bd_add ev102 bhy0 n_1 (by decide)
  refine tw_puti (j := 3) dX8_readWill_7 shC_1 rfl rfl (by decide) fX8_27 rfl (by decide +kernel) ?_
  have hI104 : JC (mm_up S 1 3 v102) := JIC_put hI b103 (by decide +kernel)
  generalize hS105 : (mm_up S 1 3 v102) = S105 at hI104 ⊢
  have hF106 := fr_upA hF hS105 (by decide)
  refine mw_aload_n dX8_readWill_10 rfl 0 rfl ?_
  refine mw_aload_n dX8_readWill_11 rfl 1 rfl ?_
  refine tw_geti (j := 0) dX8_readWill_12 (shC_parish_0 a1 ha1) rfl rfl (by decide) fX8_64 (fun v107 ev107 => ?_)
  have b108 : mm_b (0) (7) v107 := JIC_fld hI104 ev107 (tbC_parish_0_0 a1 ha1) (by decide)
  refine mw_iconst dX8_readWill_15 ki_1 ?_
  refine mw_isub dX8_readWill_16 (fun v109 ev109 => ?_)
  have b110 : mm_b (-1) (6) v109 := bd_sub ev109 b108 n_1 (by decide)
  refine tc_Vi (as := [.int v109]) (st := []) dX8_readWill_17 rfl shC_1 rfl rfl mX8_67 t_X8_readNumber rfl (Nat.le_of_ble_eq_true rfl) (by decide) (by decide) (c_X8_readNumber (g := g) S105 hI104 v109) (fun S111 v113 h112 => ?_)
  obtain ⟨hI117, hf118, b114, x115⟩ := h112
  have hF119 := fr_tr hF106 hf118 (by decide) (by decide) (by decide) (by decide)
  refine mw_istore_n (ls' := [(2, .int v113), (0, .ref 1), (1, .ref a1)]) dX8_readWill_20 rfl (by decide) rfl ?_
  refine mw_aload_n dX8_readWill_21 rfl 1 rfl ?_
  refine tc_Vi (as := []) (st := []) dX8_readWill_22 rfl shC_1 rfl rfl mX8_36 t_X8_isSound rfl (Nat.le_of_ble_eq_true rfl) (by decide) (by decide) (c_X8_isSound (g := g) S111 hI117) (fun S120 v122 h121 => ?_)
  obtain ⟨rfl, b123, x124⟩ := h121
  have cut45 : ∀ (S125 : mm_S) (y128 : Int32), JC S125 → fr [1, 3, 5, 6, 9, 11, 12] [] true true S S125 → mm_b (-2147483648) (2147483647) y128 → mw g RX8 cX8_readWill 5 none false (mm_rm 3) (qv shC (fun S1 => JC S1 ∧ fr [1, 3, 5, 6, 9, 11, 12] [] true true S S1 ∧ True)) 0 0 (mm_enc shC S125) 45 [(0, .ref 1), (1, .ref a1), (2, .int y128)] [] := by
    intro S125 y128 hI126 hF127 b129
    refine mw_aload_n dX8_readWill_45 rfl 0 rfl ?_
    refine mw_aload_n dX8_readWill_46 rfl 1 rfl ?_
    refine mw_iload_n dX8_readWill_47 rfl 2 rfl ?_
    refine tc_Vi (as := [.ref a1, .int y128]) (st := []) dX8_readWill_48 rfl shC_1 rfl rfl mX8_85 t_X8_readHeir rfl (Nat.le_of_ble_eq_true rfl) (by decide) (by decide) (c_X8_readHeir (g := g) S125 hI126 a1 ha1 y128) (fun S130 v132 h131 => ?_)
    obtain ⟨hI136, hf137, b133, x134⟩ := h131
    have hF138 := fr_tr hF127 hf137 (by decide) (by decide) (by decide) (by decide)
    refine mw_istore_n (ls' := [(3, .int v132), (0, .ref 1), (1, .ref a1), (2, .int y128)]) dX8_readWill_51 rfl (by decide) rfl ?_
    refine mw_aload_n dX8_readWill_52 rfl 1 rfl ?_
    refine mw_aload_n dX8_readWill_53 rfl 2 rfl ?_
    refine mw_iload_n dX8_readWill_54 rfl 3 rfl ?_
    refine tc_Vi (as := [.ref a1, .int y128]) (st := []) dX8_readWill_55 rfl shC_1 rfl rfl mX8_85 t_X8_readHeir rfl (Nat.le_of_ble_eq_true rfl) (by decide) (by decide) (c_X8_readHeir (g := g) S130 hI136 a1 ha1 y128) (fun S139 v141 h140 => ?_)
    obtain ⟨hI145, hf146, b142, x143⟩ := h140
    have hF147 := fr_tr hF138 hf146 (by decide) (by decide) (by decide) (by decide)
    refine mw_istore (ls' := [(4, .int v141), (3, .int v132), (0, .ref 1), (1, .ref a1), (2, .int y128)]) dX8_readWill_58 (by decide) rfl ?_
    refine mw_aload_n dX8_readWill_60 rfl 2 rfl ?_
    refine mw_bipush dX8_readWill_61 kb_59 ?_
    refine tc_Vi (as := [.int 59]) (st := []) dX8_readWill_63 rfl shC_1 rfl rfl mX8_71 t_X8_readSign rfl (Nat.le_of_ble_eq_true rfl) (by decide) (by decide) (c_X8_readSign (g := g) S139 hI145 (59 : Int32) (bd_w n_59 (by decide))) (fun S148 v150 h149 => ?_)
    obtain ⟨hI154, hf155, b151, x152⟩ := h149
    have hF156 := fr_tr hF147 hf155 (by decide) (by decide) (by decide) (by decide)
    refine mw_if_eq (tgt := 77) dX8_readWill_66 (by decide) (fun q157 => ?_) (fun q157 => ?_)
    · skip
      have b158 : mm_b (0) (0) v150 := bd_eq_l q157 b151 n_0 (by decide)
      exact mw_vret rfl dX8_readWill_77 rfl rfl ⟨S148, rfl, rfl, ⟨hI154, hF156, trivial⟩⟩
    · skip
      have b159 : mm_b (1) (1) v150 := bd_ne_l q157 b151 n_0 (by decide)
      refine mw_aload_n dX8_readWill_69 rfl 3 rfl ?_
      refine mw_iload_n dX8_readWill_70 rfl 4 rfl ?_
      refine mw_iload_n dX8_readWill_71 rfl 1 rfl ?_
      refine mw_iload dX8_readWill_72 0 rfl ?_
      refine tc_Vv (as := [.int y128, .int v132, .int v141]) (st := []) dX8_readWill_74 rfl (shC_parish_0 a1 ha1) rfl rfl mX8_89 t_X6_addWill rfl (Nat.le_of_ble_eq_true rfl) (by decide) (by decide) (c_X6_addWill (g := g) S148 hI154 a1 ha1 y128 v132 v141) (fun S160 h161 => ?_)
      obtain ⟨hI163, hf164, x162⟩ := h161
      have hF165 := fr_tr hF156 hf164 (by decide) (by decide) (by decide) (by decide)
      exact mw_vret rfl dX8_readWill_77 rfl rfl ⟨S160, rfl, rfl, ⟨hI163, hF165, trivial⟩⟩
  refine mw_if_eq (tgt := 45) dX8_readWill_25 (by decide) (fun q166 => ?_) (fun q166 => ?_)
  · skip
    have b167 : mm_b (0) (0) v122 := bd_eq_l q166 b123 n_0 (by decide)
    refine mw_ls [1, 2, 0] rfl ?_
    exact cut45 S111 v113 hI117 hF119 b114
  · skip
    have b168 : mm_b (1) (1) v122 := bd_ne_l q166 b123 n_0 (by decide)
    refine mw_aload_n dX8_readWill_28 rfl 2 rfl ?_
    refine mw_iload_n dX8_readWill_29 rfl 0 rfl ?_
    refine tc_Vi (as := [.int v113]) (st := []) dX8_readWill_30 rfl (shC_parish_0 a1 ha1) rfl rfl mX8_79 t_X6_hasWill rfl (Nat.le_of_ble_eq_true rfl) (by decide) (by decide) (c_X6_hasWill (g := g) S111 hI117 a1 ha1 v113) (fun S169 v171 h170 => ?_)
    obtain ⟨rfl, b172, x173⟩ := h170
    refine mw_if_eq (tgt := 45) dX8_readWill_33 (by decide) (fun q174 => ?_) (fun q174 => ?_)
    · skip
      have b175 : mm_b (0) (0) v171 := bd_eq_l q174 b172 n_0 (by decide)
      refine mw_ls [1, 2, 0] rfl ?_
      exact cut45 S111 v113 hI117 hF119 b114
    · skip
      have b176 : mm_b (1) (1) v171 := bd_ne_l q174 b172 n_0 (by decide)
      have b177 := Or.resolve_left x173 q174
      refine mw_aload_n dX8_readWill_36 rfl 1 rfl ?_
      refine mw_iconst dX8_readWill_37 ki_4 ?_
      refine mw_aload_n dX8_readWill_38 rfl 1 rfl ?_
      refine tw_geti (j := 4) dX8_readWill_39 shC_1 rfl rfl (by decide) fX8_82 (fun v178 ev178 => ?_)
      refine tc_Vv (as := [.int 4, .int v178]) (st := []) dX8_readWill_42 rfl shC_1 rfl rfl mX8_60 t_X8_blame rfl (Nat.le_of_ble_eq_true rfl) (by decide) (by decide) (c_X8_blame (g := g) S111 hI117 (4 : Int32) v178) (fun S179 h180 => ?_)
      obtain ⟨hI182, hf183, x181⟩ := h180
      have hF184 := fr_tr hF119 hf183 (by decide) (by decide) (by decide) (by decide)
      refine mw_ls [1, 2, 0] rfl ?_
      exact cut45 S179 v113 hI182 hF184 (bd_w b177 (by decide))
set_option maxRecDepth 100000 in
set_option maxHeartbeats 4000000 in
theorem c_X8_readDoor {g : mm_G} (S : mm_S) (hI : JC S) (a1 : Nat) (ha1 : a1 ∈ LC_parish) (hp0 : mm_b (0) (239) (S.1 1 3)) : mc g yX8_readDoor cX8_readDoor 3 none (mm_rm 3) [.ref 1, .ref a1] (mm_enc shC S) (qv shC (fun S1 => JC S1 ∧ fr [1, 3, 7, 9, 13] [] true true S S1 ∧ True)) := by
  refine mc_of2 (own := RX8) (ini := false) (ls := [(0, .ref 1), (1, .ref a1)]) (by decide) (Nat.le_of_ble_eq_true rfl) rfl (by decide) rfl ?_
  have hF : fr [1, 3, 7, 9, 13] [] true true S S := fr_rf
  obtain ⟨hy0, ehy0⟩ : ∃ y : Int32, y = S.1 1 3 := ⟨_, rfl⟩
  have bhy0 : mm_b (0) (239) hy0 := by rw [ehy0]; exact hp0
  refine mw_aload_n dX8_readDoor_0 rfl 1 rfl ?_
  refine tw_geti (j := 1) dX8_readDoor_1 (shC_parish_0 a1 ha1) rfl rfl (by decide) fX8_96 (fun v101 ev101 => ?_)
  have b102 : mm_b (0) (6) v101 := JIC_fld hI ev101 (tbC_parish_0_1 a1 ha1) (by decide)
  refine mw_bipush dX8_readDoor_4 kb_6 ?_
  refine mw_icmp_lt (tgt := 19) dX8_readDoor_6 (by decide) (fun q103 => ?_) (fun q103 => ?_)
  · skip
    have b104 : mm_b (0) (5) v101 := bd_lt_l q103 b102 n_6 (by decide)
    refine mw_aload_n dX8_readDoor_19 rfl 0 rfl ?_
    refine mw_dup dX8_readDoor_20 rfl ?_
    refine tw_geti (j := 3) dX8_readDoor_21 shC_1 rfl rfl (by decide) fX8_27 (fun v105 ev105 => ?_)
    have cv105 : hy0 = v105 := ehy0.trans ev105.symm
    subst cv105
    refine mw_iconst dX8_readDoor_24 ki_1 ?_
    refine mw_iadd dX8_readDoor_25 (fun v106 ev106 => ?_)
    have b107 : mm_b (1) (240) v106 := bd_add ev106 bhy0 n_1 (by decide)
    refine tw_puti (j := 3) dX8_readDoor_26 shC_1 rfl rfl (by decide) fX8_27 rfl (by decide +kernel) ?_
    have hI108 : JC (mm_up S 1 3 v106) := JIC_put hI b107 (by decide +kernel)
    generalize hS109 : (mm_up S 1 3 v106) = S109 at hI108 ⊢
    have hF110 := fr_upA hF hS109 (by decide)
    refine mw_aload_n dX8_readDoor_29 rfl 0 rfl ?_
    refine mw_bipush dX8_readDoor_30 kb_127 ?_
    refine tc_Vi (as := [.int 127]) (st := []) dX8_readDoor_32 rfl shC_1 rfl rfl mX8_67 t_X8_readNumber rfl (Nat.le_of_ble_eq_true rfl) (by decide) (by decide) (c_X8_readNumber (g := g) S109 hI108 (127 : Int32)) (fun S111 v113 h112 => ?_)
    obtain ⟨hI117, hf118, b114, x115⟩ := h112
    have hF119 := fr_tr hF110 hf118 (by decide) (by decide) (by decide) (by decide)
    refine mw_istore_n (ls' := [(2, .int v113), (0, .ref 1), (1, .ref a1)]) dX8_readDoor_35 rfl (by decide) rfl ?_
    refine mw_aload_n dX8_readDoor_36 rfl 1 rfl ?_
    refine mw_bipush dX8_readDoor_37 kb_59 ?_
    refine tc_Vi (as := [.int 59]) (st := []) dX8_readDoor_39 rfl shC_1 rfl rfl mX8_71 t_X8_readSign rfl (Nat.le_of_ble_eq_true rfl) (by decide) (by decide) (c_X8_readSign (g := g) S111 hI117 (59 : Int32) (bd_w n_59 (by decide))) (fun S120 v122 h121 => ?_)
    obtain ⟨hI126, hf127, b123, x124⟩ := h121
    have hF128 := fr_tr hF119 hf127 (by decide) (by decide) (by decide) (by decide)
    refine mw_if_eq (tgt := 50) dX8_readDoor_42 (by decide) (fun q129 => ?_) (fun q129 => ?_)
    · skip
      have b130 : mm_b (0) (0) v122 := bd_eq_l q129 b123 n_0 (by decide)
      exact mw_vret rfl dX8_readDoor_50 rfl rfl ⟨S120, rfl, rfl, ⟨hI126, hF128, trivial⟩⟩
    · skip
      have b131 : mm_b (1) (1) v122 := bd_ne_l q129 b123 n_0 (by decide)
      refine mw_aload_n dX8_readDoor_45 rfl 2 rfl ?_
      refine mw_iload_n dX8_readDoor_46 rfl 0 rfl ?_
      refine tc_Vv (as := [.int v113]) (st := []) dX8_readDoor_47 rfl (shC_parish_0 a1 ha1) rfl rfl mX8_99 t_X6_addDoor rfl (Nat.le_of_ble_eq_true rfl) (by decide) (by decide) (c_X6_addDoor (g := g) S120 hI126 a1 ha1 v113) (fun S132 h133 => ?_)
      obtain ⟨hI135, hf136, x134⟩ := h133
      have hF137 := fr_tr hF128 hf136 (by decide) (by decide) (by decide) (by decide)
      exact mw_vret rfl dX8_readDoor_50 rfl rfl ⟨S132, rfl, rfl, ⟨hI135, hF137, trivial⟩⟩
  · skip
    have b138 : mm_b (6) (6) v101 := bd_le_r (bd_nlt q103) n_6 b102 (by decide)
    refine mw_aload_n dX8_readDoor_9 rfl 0 rfl ?_
    refine mw_iconst dX8_readDoor_10 ki_3 ?_
    refine mw_aload_n dX8_readDoor_11 rfl 0 rfl ?_
    refine tw_geti (j := 3) dX8_readDoor_12 shC_1 rfl rfl (by decide) fX8_27 (fun v139 ev139 => ?_)
    have cv139 : hy0 = v139 := ehy0.trans ev139.symm
    subst cv139
    refine tc_Vv (as := [.int 3, .int hy0]) (st := []) dX8_readDoor_15 rfl shC_1 rfl rfl mX8_60 t_X8_blame rfl (Nat.le_of_ble_eq_true rfl) (by decide) (by decide) (c_X8_blame (g := g) S hI (3 : Int32) hy0) (fun S140 h141 => ?_)
    obtain ⟨hI143, hf144, x142⟩ := h141
    have hF145 := fr_tr hF hf144 (by decide) (by decide) (by decide) (by decide)
    exact mw_vret rfl dX8_readDoor_18 rfl rfl ⟨S140, rfl, rfl, ⟨hI143, hF145, trivial⟩⟩
set_option maxRecDepth 100000 in
set_option maxHeartbeats 4000000 in
theorem c_X8_readChoir {g : mm_G} (S : mm_S) (hI : JC S) (a1 : Nat) (ha1 : a1 ∈ LC_parish) (hp0 : mm_b (0) (239) (S.1 1 3)) : mc g yX8_readChoir cX8_readChoir 3 none (mm_rm 3) [.ref 1, .ref a1] (mm_enc shC S) (qv shC (fun S1 => JC S1 ∧ fr [1, 3, 8, 9, 14] [] true true S S1 ∧ True)) := by
  refine mc_of2 (own := RX8) (ini := false) (ls := [(0, .ref 1), (1, .ref a1)]) (by decide) (Nat.le_of_ble_eq_true rfl) rfl (by decide) rfl ?_
  have hF : fr [1, 3, 8, 9, 14] [] true true S S := fr_rf
  obtain ⟨hy0, ehy0⟩ : ∃ y : Int32, y = S.1 1 3 := ⟨_, rfl⟩
  have bhy0 : mm_b (0) (239) hy0 := by rw [ehy0]; exact hp0
  refine mw_aload_n dX8_readChoir_0 rfl 1 rfl ?_
  refine tw_geti (j := 2) dX8_readChoir_1 (shC_parish_0 a1 ha1) rfl rfl (by decide) fX8_102 (fun v101 ev101 => ?_)
  have b102 : mm_b (0) (6) v101 := JIC_fld hI ev101 (tbC_parish_0_2 a1 ha1) (by decide)
  refine mw_if_le (tgt := 17) dX8_readChoir_4 (by decide) (fun q103 => ?_) (fun q103 => ?_)
  · skip
    have b104 : mm_b (0) (0) v101 := bd_le_l q103 b102 n_0 (by decide)
    refine mw_aload_n dX8_readChoir_17 rfl 0 rfl ?_
    refine mw_dup dX8_readChoir_18 rfl ?_
    refine tw_geti (j := 3) dX8_readChoir_19 shC_1 rfl rfl (by decide) fX8_27 (fun v105 ev105 => ?_)
    have cv105 : hy0 = v105 := ehy0.trans ev105.symm
    subst cv105
    refine mw_iconst dX8_readChoir_22 ki_1 ?_
    refine mw_iadd dX8_readChoir_23 (fun v106 ev106 => ?_)
    have b107 : mm_b (1) (240) v106 := bd_add ev106 bhy0 n_1 (by decide)
    refine tw_puti (j := 3) dX8_readChoir_24 shC_1 rfl rfl (by decide) fX8_27 rfl (by decide +kernel) ?_
    have hI108 : JC (mm_up S 1 3 v106) := JIC_put hI b107 (by decide +kernel)
    generalize hS109 : (mm_up S 1 3 v106) = S109 at hI108 ⊢
    have hF110 := fr_upA hF hS109 (by decide)
    refine mw_aload_n dX8_readChoir_27 rfl 1 rfl ?_
    refine mw_aload_n dX8_readChoir_28 rfl 0 rfl ?_
    refine mw_bipush dX8_readChoir_29 kb_8 ?_
    refine tc_Vi (as := [.int 8]) (st := [.ref a1]) dX8_readChoir_31 rfl shC_1 rfl rfl mX8_67 t_X8_readNumber rfl (Nat.le_of_ble_eq_true rfl) (by decide) (by decide) (c_X8_readNumber (g := g) S109 hI108 (8 : Int32)) (fun S111 v113 h112 => ?_)
    obtain ⟨hI117, hf118, b114, x115⟩ := h112
    have hF119 := fr_tr hF110 hf118 (by decide) (by decide) (by decide) (by decide)
    refine tc_Vv (as := [.int v113]) (st := []) dX8_readChoir_34 rfl (shC_parish_0 a1 ha1) rfl rfl mX8_105 t_X6_addPart rfl (Nat.le_of_ble_eq_true rfl) (by decide) (by decide) (c_X6_addPart (g := g) S111 hI117 a1 ha1 v113) (fun S120 h121 => ?_)
    obtain ⟨hI123, hf124, x122⟩ := h121
    have hF125 := fr_tr hF119 hf124 (by decide) (by decide) (by decide) (by decide)
    refine mw_iconst dX8_readChoir_37 ki_1 ?_
    refine mw_istore_n (ls' := [(2, .int 1), (0, .ref 1), (1, .ref a1)]) dX8_readChoir_38 rfl (by decide) rfl ?_
    have cut39 : ∀ (N39 : Nat) (S126 : mm_S) (y129 : Int32), ((7 : Int) - y129.toInt).toNat < N39 → JC S126 → fr [1, 3, 8, 9, 14] [] true true S S126 → mm_b (1) (6) y129 → mw g RX8 cX8_readChoir 3 none false (mm_rm 3) (qv shC (fun S1 => JC S1 ∧ fr [1, 3, 8, 9, 14] [] true true S S1 ∧ True)) 0 0 (mm_enc shC S126) 39 [(0, .ref 1), (1, .ref a1), (2, .int y129)] [] := by
      intro N39
      induction N39 with
      | zero =>
        intro S126 y129 hm131 hI127 hF128 b130
        exact absurd hm131 (Nat.not_lt_zero _)
      | succ N39 ih39 =>
        intro S126 y129 hm131 hI127 hF128 b130
        refine mw_iload_n dX8_readChoir_39 rfl 2 rfl ?_
        refine mw_bipush dX8_readChoir_40 kb_6 ?_
        refine mw_icmp_ge (tgt := 80) dX8_readChoir_42 (by decide) (fun q132 => ?_) (fun q132 => ?_)
        · skip
          have b133 : mm_b (6) (6) y129 := bd_le_r q132 n_6 b130 (by decide)
          refine mw_aload_n dX8_readChoir_80 rfl 0 rfl ?_
          refine mw_bipush dX8_readChoir_81 kb_59 ?_
          refine tc_Vi (as := [.int 59]) (st := []) dX8_readChoir_83 rfl shC_1 rfl rfl mX8_71 t_X8_readSign rfl (Nat.le_of_ble_eq_true rfl) (by decide) (by decide) (c_X8_readSign (g := g) S126 hI127 (59 : Int32) (bd_w n_59 (by decide))) (fun S134 v136 h135 => ?_)
          obtain ⟨hI140, hf141, b137, x138⟩ := h135
          have hF142 := fr_tr hF128 hf141 (by decide) (by decide) (by decide) (by decide)
          refine mw_pop dX8_readChoir_86 rfl ?_
          exact mw_vret rfl dX8_readChoir_87 rfl rfl ⟨S134, rfl, rfl, ⟨hI140, hF142, trivial⟩⟩
        · skip
          have b143 : mm_b (1) (5) y129 := bd_lt_l (bd_nle q132) b130 n_6 (by decide)
          refine mw_aload_n dX8_readChoir_45 rfl 0 rfl ?_
          refine mw_bipush dX8_readChoir_46 kb_44 ?_
          refine tc_Vi (as := [.int 44]) (st := []) dX8_readChoir_48 rfl shC_1 rfl rfl mX8_108 t_X8_isNext rfl (Nat.le_of_ble_eq_true rfl) (by decide) (by decide) (c_X8_isNext (g := g) S126 hI127 (44 : Int32) (bd_w n_44 (by decide))) (fun S144 v146 h145 => ?_)
          obtain ⟨hI150, hf151, b147, x148⟩ := h145
          have hF152 := fr_tr hF128 hf151 (by decide) (by decide) (by decide) (by decide)
          refine mw_if_eq (tgt := 80) dX8_readChoir_51 (by decide) (fun q153 => ?_) (fun q153 => ?_)
          · skip
            have b154 : mm_b (0) (0) v146 := bd_eq_l q153 b147 n_0 (by decide)
            refine mw_aload_n dX8_readChoir_80 rfl 0 rfl ?_
            refine mw_bipush dX8_readChoir_81 kb_59 ?_
            refine tc_Vi (as := [.int 59]) (st := []) dX8_readChoir_83 rfl shC_1 rfl rfl mX8_71 t_X8_readSign rfl (Nat.le_of_ble_eq_true rfl) (by decide) (by decide) (c_X8_readSign (g := g) S144 hI150 (59 : Int32) (bd_w n_59 (by decide))) (fun S155 v157 h156 => ?_)
            obtain ⟨hI161, hf162, b158, x159⟩ := h156
            have hF163 := fr_tr hF152 hf162 (by decide) (by decide) (by decide) (by decide)
            refine mw_pop dX8_readChoir_86 rfl ?_
            exact mw_vret rfl dX8_readChoir_87 rfl rfl ⟨S155, rfl, rfl, ⟨hI161, hF163, trivial⟩⟩
          · skip
            have b164 : mm_b (1) (1) v146 := bd_ne_l q153 b147 n_0 (by decide)
            have b165 := Or.resolve_left x148 q153
            obtain ⟨v166, ev166⟩ : ∃ y : Int32, y = S144.1 1 3 := ⟨_, rfl⟩
            have b167 : mm_b (0) (239) v166 := by rw [ev166]; exact b165
            refine mw_aload_n dX8_readChoir_54 rfl 0 rfl ?_
            refine mw_dup dX8_readChoir_55 rfl ?_
            refine tw_geti (j := 3) dX8_readChoir_56 shC_1 rfl rfl (by decide) fX8_27 (fun v168 ev168 => ?_)
            have cv168 : v166 = v168 := ev166.trans ev168.symm
            subst cv168
            refine mw_iconst dX8_readChoir_59 ki_1 ?_
            refine mw_iadd dX8_readChoir_60 (fun v169 ev169 => ?_)
            have b170 : mm_b (1) (240) v169 := bd_add ev169 b167 n_1 (by decide)
            refine tw_puti (j := 3) dX8_readChoir_61 shC_1 rfl rfl (by decide) fX8_27 rfl (by decide +kernel) ?_
            have hI171 : JC (mm_up S144 1 3 v169) := JIC_put hI150 b170 (by decide +kernel)
            generalize hS172 : (mm_up S144 1 3 v169) = S172 at hI171 ⊢
            have hF173 := fr_upA hF152 hS172 (by decide)
            refine mw_aload_n dX8_readChoir_64 rfl 1 rfl ?_
            refine mw_aload_n dX8_readChoir_65 rfl 0 rfl ?_
            refine mw_bipush dX8_readChoir_66 kb_8 ?_
            refine tc_Vi (as := [.int 8]) (st := [.ref a1]) dX8_readChoir_68 rfl shC_1 rfl rfl mX8_67 t_X8_readNumber rfl (Nat.le_of_ble_eq_true rfl) (by decide) (by decide) (c_X8_readNumber (g := g) S172 hI171 (8 : Int32)) (fun S174 v176 h175 => ?_)
            obtain ⟨hI180, hf181, b177, x178⟩ := h175
            have hF182 := fr_tr hF173 hf181 (by decide) (by decide) (by decide) (by decide)
            refine tc_Vv (as := [.int v176]) (st := []) dX8_readChoir_71 rfl (shC_parish_0 a1 ha1) rfl rfl mX8_105 t_X6_addPart rfl (Nat.le_of_ble_eq_true rfl) (by decide) (by decide) (c_X6_addPart (g := g) S174 hI180 a1 ha1 v176) (fun S183 h184 => ?_)
            obtain ⟨hI186, hf187, x185⟩ := h184
            have hF188 := fr_tr hF182 hf187 (by decide) (by decide) (by decide) (by decide)
            refine mw_iinc (ls' := fun v => [(2, .int v), (0, .ref 1), (1, .ref a1)]) dX8_readChoir_74 2 rfl (by decide) (fun _ => rfl) (fun v189 ev189 => ?_)
            have b190 : mm_b (2) (6) v189 := bd_inc ev189 b143 (by decide)
            refine mw_goto (tgt := 39) dX8_readChoir_77 (by decide) ?_
            refine mw_ls [1, 2, 0] rfl ?_
            exact ih39 S183 v189 (ms_inc ev189 b143 (by decide) hm131) hI186 hF188 (bd_w b190 (by decide))
    refine mw_ls [1, 2, 0] rfl ?_
    exact cut39 _ S120 (1 : Int32) (Nat.lt_succ_self _) hI123 hF125 (bd_w n_1 (by decide))
  · skip
    have b191 : mm_b (1) (6) v101 := bd_lt_r (bd_nle q103) n_0 b102 (by decide)
    refine mw_aload_n dX8_readChoir_7 rfl 0 rfl ?_
    refine mw_iconst dX8_readChoir_8 ki_3 ?_
    refine mw_aload_n dX8_readChoir_9 rfl 0 rfl ?_
    refine tw_geti (j := 3) dX8_readChoir_10 shC_1 rfl rfl (by decide) fX8_27 (fun v192 ev192 => ?_)
    have cv192 : hy0 = v192 := ehy0.trans ev192.symm
    subst cv192
    refine tc_Vv (as := [.int 3, .int hy0]) (st := []) dX8_readChoir_13 rfl shC_1 rfl rfl mX8_60 t_X8_blame rfl (Nat.le_of_ble_eq_true rfl) (by decide) (by decide) (c_X8_blame (g := g) S hI (3 : Int32) hy0) (fun S193 h194 => ?_)
    obtain ⟨hI196, hf197, x195⟩ := h194
    have hF198 := fr_tr hF hf197 (by decide) (by decide) (by decide) (by decide)
    exact mw_vret rfl dX8_readChoir_16 rfl rfl ⟨S193, rfl, rfl, ⟨hI196, hF198, trivial⟩⟩
set_option maxRecDepth 100000 in
set_option maxHeartbeats 4000000 in
theorem c_X8_readClause {g : mm_G} (S : mm_S) (hI : JC S) (a1 : Nat) (ha1 : a1 ∈ LC_parish) : mc g yX8_readClause cX8_readClause 2 none (mm_rm 4) [.ref 1, .ref a1] (mm_enc shC S) (qv shC (fun S1 => JC S1 ∧ fr [1, 3, 4, 5, 6, 7, 8, 9, 10, 11, 12, 13, 14] [] true true S S1 ∧ True)) := by
  refine mc_of2 (own := RX8) (ini := false) (ls := [(0, .ref 1), (1, .ref a1)]) (by decide) (Nat.le_of_ble_eq_true rfl) rfl (by decide) rfl ?_
  have hF : fr [1, 3, 4, 5, 6, 7, 8, 9, 10, 11, 12, 13, 14] [] true true S S := fr_rf
  refine mw_aload_n dX8_readClause_0 rfl 0 rfl ?_
  refine tc_Vi (as := []) (st := []) dX8_readClause_1 rfl shC_1 rfl rfl mX8_44 t_X8_letterHere rfl (Nat.le_of_ble_eq_true rfl) (by decide) (by decide) (c_X8_letterHere (g := g) S hI) (fun S101 v103 h102 => ?_)
  obtain ⟨rfl, b104, x105⟩ := h102
  rcases (by omega : (v103.toInt ≠ 99 ∧ v103.toInt ≠ 100 ∧ v103.toInt ≠ 112 ∧ v103.toInt ≠ 119) ∨ v103.toInt = 99 ∨ v103.toInt = 100 ∨ v103.toInt = 112 ∨ v103.toInt = 119) with q106 | q106 | q106 | q106 | q106
  · refine mw_lookup (off := 76) (tgt := 80) dX8_readClause_4 (by decide) (by simp [Op.lookupswitch.offset_cons, Op.lookupswitch.offset, q106, Ne.symm, eq_comm] <;> omega) (by decide) ?_
    refine mw_aload_n dX8_readClause_80 rfl 0 rfl ?_
    refine mw_iconst dX8_readClause_81 ki_1 ?_
    refine mw_aload_n dX8_readClause_82 rfl 0 rfl ?_
    refine tw_geti (j := 3) dX8_readClause_83 shC_1 rfl rfl (by decide) fX8_27 (fun v107 ev107 => ?_)
    have b108 : mm_b (0) (240) v107 := JIC_fld hI ev107 tbC_1 (by decide)
    refine tc_Vv (as := [.int 1, .int v107]) (st := []) dX8_readClause_86 rfl shC_1 rfl rfl mX8_60 t_X8_blame rfl (Nat.le_of_ble_eq_true rfl) (by decide) (by decide) (c_X8_blame (g := g) S hI (1 : Int32) v107) (fun S109 h110 => ?_)
    obtain ⟨hI112, hf113, x111⟩ := h110
    have hF114 := fr_tr hF hf113 (by decide) (by decide) (by decide) (by decide)
    exact mw_vret rfl dX8_readClause_89 rfl rfl ⟨S109, rfl, rfl, ⟨hI112, hF114, trivial⟩⟩
  · refine mw_lookup (off := 68) (tgt := 72) dX8_readClause_4 (by decide) (by rw [q106]; rfl) (by decide) ?_
    have b115 : mm_b (99) (99) v103 := ⟨by omega, by omega⟩
    obtain ⟨v116, ev116⟩ : ∃ y : Int32, y = S.1 1 3 := ⟨_, rfl⟩
    have b117 : mm_b (0) (239) v116 := by rw [ev116]; exact Or.resolve_left x105 (bd_nec b115 (by decide))
    refine mw_aload_n dX8_readClause_72 rfl 0 rfl ?_
    refine mw_aload_n dX8_readClause_73 rfl 1 rfl ?_
    refine tc_Vv (as := [.ref a1]) (st := []) dX8_readClause_74 rfl shC_1 rfl rfl mX8_57 t_X8_readChoir rfl (Nat.le_of_ble_eq_true rfl) (by decide) (by decide) (c_X8_readChoir (g := g) S hI a1 ha1 (by rw [← ev116]; exact bd_w b117 (by decide))) (fun S118 h119 => ?_)
    obtain ⟨hI121, hf122, x120⟩ := h119
    have hF123 := fr_tr hF hf122 (by decide) (by decide) (by decide) (by decide)
    refine mw_goto (tgt := 89) dX8_readClause_77 (by decide) ?_
    exact mw_vret rfl dX8_readClause_89 rfl rfl ⟨S118, rfl, rfl, ⟨hI121, hF123, trivial⟩⟩
  · refine mw_lookup (off := 60) (tgt := 64) dX8_readClause_4 (by decide) (by rw [q106]; rfl) (by decide) ?_
    have b124 : mm_b (100) (100) v103 := ⟨by omega, by omega⟩
    obtain ⟨v125, ev125⟩ : ∃ y : Int32, y = S.1 1 3 := ⟨_, rfl⟩
    have b126 : mm_b (0) (239) v125 := by rw [ev125]; exact Or.resolve_left x105 (bd_nec b124 (by decide))
    refine mw_aload_n dX8_readClause_64 rfl 0 rfl ?_
    refine mw_aload_n dX8_readClause_65 rfl 1 rfl ?_
    refine tc_Vv (as := [.ref a1]) (st := []) dX8_readClause_66 rfl shC_1 rfl rfl mX8_54 t_X8_readDoor rfl (Nat.le_of_ble_eq_true rfl) (by decide) (by decide) (c_X8_readDoor (g := g) S hI a1 ha1 (by rw [← ev125]; exact bd_w b126 (by decide))) (fun S127 h128 => ?_)
    obtain ⟨hI130, hf131, x129⟩ := h128
    have hF132 := fr_tr hF hf131 (by decide) (by decide) (by decide) (by decide)
    refine mw_goto (tgt := 89) dX8_readClause_69 (by decide) ?_
    exact mw_vret rfl dX8_readClause_89 rfl rfl ⟨S127, rfl, rfl, ⟨hI130, hF132, trivial⟩⟩
  · refine mw_lookup (off := 44) (tgt := 48) dX8_readClause_4 (by decide) (by rw [q106]; rfl) (by decide) ?_
    have b133 : mm_b (112) (112) v103 := ⟨by omega, by omega⟩
    obtain ⟨v134, ev134⟩ : ∃ y : Int32, y = S.1 1 3 := ⟨_, rfl⟩
    have b135 : mm_b (0) (239) v134 := by rw [ev134]; exact Or.resolve_left x105 (bd_nec b133 (by decide))
    refine mw_aload_n dX8_readClause_48 rfl 0 rfl ?_
    refine mw_aload_n dX8_readClause_49 rfl 1 rfl ?_
    refine tc_Vv (as := [.ref a1]) (st := []) dX8_readClause_50 rfl shC_1 rfl rfl mX8_48 t_X8_readPerson rfl (Nat.le_of_ble_eq_true rfl) (by decide) (by decide) (c_X8_readPerson (g := g) S hI a1 ha1 (by rw [← ev134]; exact bd_w b135 (by decide))) (fun S136 h137 => ?_)
    obtain ⟨hI139, hf140, x138⟩ := h137
    have hF141 := fr_tr hF hf140 (by decide) (by decide) (by decide) (by decide)
    refine mw_goto (tgt := 89) dX8_readClause_53 (by decide) ?_
    exact mw_vret rfl dX8_readClause_89 rfl rfl ⟨S136, rfl, rfl, ⟨hI139, hF141, trivial⟩⟩
  · refine mw_lookup (off := 52) (tgt := 56) dX8_readClause_4 (by decide) (by rw [q106]; rfl) (by decide) ?_
    have b142 : mm_b (119) (119) v103 := ⟨by omega, by omega⟩
    obtain ⟨v143, ev143⟩ : ∃ y : Int32, y = S.1 1 3 := ⟨_, rfl⟩
    have b144 : mm_b (0) (239) v143 := by rw [ev143]; exact Or.resolve_left x105 (bd_nec b142 (by decide))
    refine mw_aload_n dX8_readClause_56 rfl 0 rfl ?_
    refine mw_aload_n dX8_readClause_57 rfl 1 rfl ?_
    refine tc_Vv (as := [.ref a1]) (st := []) dX8_readClause_58 rfl shC_1 rfl rfl mX8_51 t_X8_readWill rfl (Nat.le_of_ble_eq_true rfl) (by decide) (by decide) (c_X8_readWill (g := g) S hI a1 ha1 (by rw [← ev143]; exact bd_w b144 (by decide))) (fun S145 h146 => ?_)
    obtain ⟨hI148, hf149, x147⟩ := h146
    have hF150 := fr_tr hF hf149 (by decide) (by decide) (by decide) (by decide)
    refine mw_goto (tgt := 89) dX8_readClause_61 (by decide) ?_
    exact mw_vret rfl dX8_readClause_89 rfl rfl ⟨S145, rfl, rfl, ⟨hI148, hF150, trivial⟩⟩
set_option maxRecDepth 100000 in
set_option maxHeartbeats 4000000 in
theorem c_X8_readInto {g : mm_G} (S : mm_S) (hI : JC S) (a1 : Nat) (ha1 : a1 ∈ LC_parish) : mc g yX8_readInto cX8_readInto 3 (some .boolean) (mm_rm 5) [.ref 1, .ref a1] (mm_enc shC S) (qi shC (fun S1 v => JC S1 ∧ fr [1, 3, 4, 5, 6, 7, 8, 9, 10, 11, 12, 13, 14] [] true true S S1 ∧ mm_b (0) (1) v ∧ (True))) := by
  refine mc_of2 (own := RX8) (ini := false) (ls := [(0, .ref 1), (1, .ref a1)]) (by decide) (Nat.le_of_ble_eq_true rfl) rfl (by decide) rfl ?_
  have hF : fr [1, 3, 4, 5, 6, 7, 8, 9, 10, 11, 12, 13, 14] [] true true S S := fr_rf
  refine mw_aload_n dX8_readInto_0 rfl 1 rfl ?_
  refine tc_Vv (as := []) (st := []) dX8_readInto_1 rfl (shC_parish_0 a1 ha1) rfl rfl mX8_22 t_X6_empty rfl (Nat.le_of_ble_eq_true rfl) (by decide) (by decide) (c_X6_empty (g := g) S hI a1 ha1) (fun S101 h102 => ?_)
  obtain ⟨hI104, hf105, x103⟩ := h102
  have hF106 := fr_tr hF hf105 (by decide) (by decide) (by decide) (by decide)
  refine mw_aload_n dX8_readInto_4 rfl 0 rfl ?_
  refine mw_iconst dX8_readInto_5 ki_0 ?_
  refine tw_puti (j := 3) dX8_readInto_6 shC_1 rfl rfl (by decide) fX8_27 rfl (by decide +kernel) ?_
  have hI107 : JC (mm_up S101 1 3 0) := JIC_put hI104 n_0 (by decide +kernel)
  generalize hS108 : (mm_up S101 1 3 0) = S108 at hI107 ⊢
  have hF109 := fr_upA hF106 hS108 (by decide)
  refine mw_aload_n dX8_readInto_9 rfl 0 rfl ?_
  refine mw_iconst dX8_readInto_10 ki_0 ?_
  refine tw_puti (j := 1) dX8_readInto_11 shC_1 rfl rfl (by decide) fX8_30 rfl (by decide +kernel) ?_
  have hI110 : JC (mm_up S108 1 1 0) := JIC_put hI107 n_0 (by decide +kernel)
  generalize hS111 : (mm_up S108 1 1 0) = S111 at hI110 ⊢
  have hF112 := fr_upA hF109 hS111 (by decide)
  refine mw_aload_n dX8_readInto_14 rfl 0 rfl ?_
  refine mw_iconst dX8_readInto_15 ki_m1 ?_
  refine tw_puti (j := 2) dX8_readInto_16 shC_1 rfl rfl (by decide) fX8_9 rfl (by decide +kernel) ?_
  have hI113 : JC (mm_up S111 1 2 (-1)) := JIC_put hI110 n_m1 (by decide +kernel)
  generalize hS114 : (mm_up S111 1 2 (-1)) = S114 at hI113 ⊢
  have hF115 := fr_upA hF112 hS114 (by decide)
  refine mw_aload_n dX8_readInto_19 rfl 0 rfl ?_
  refine tc_Vv (as := []) (st := []) dX8_readInto_20 rfl shC_1 rfl rfl mX8_33 t_X8_skipBlanks rfl (Nat.le_of_ble_eq_true rfl) (by decide) (by decide) (c_X8_skipBlanks (g := g) S114 hI113) (fun S116 h117 => ?_)
  obtain ⟨hI119, hf120, x118⟩ := h117
  have hF121 := fr_tr hF115 hf120 (by decide) (by decide) (by decide) (by decide)
  refine mw_iconst dX8_readInto_23 ki_0 ?_
  refine mw_istore_n (ls' := [(2, .int 0), (0, .ref 1), (1, .ref a1)]) dX8_readInto_24 rfl (by decide) rfl ?_
  have cut25 : ∀ (N25 : Nat) (S122 : mm_S) (y125 : Int32), ((241 : Int) - y125.toInt).toNat < N25 → JC S122 → fr [1, 3, 4, 5, 6, 7, 8, 9, 10, 11, 12, 13, 14] [] true true S S122 → mm_b (0) (240) y125 → mw g RX8 cX8_readInto 3 (some .boolean) false (mm_rm 5) (qi shC (fun S1 v => JC S1 ∧ fr [1, 3, 4, 5, 6, 7, 8, 9, 10, 11, 12, 13, 14] [] true true S S1 ∧ mm_b (0) (1) v ∧ (True))) 0 0 (mm_enc shC S122) 25 [(0, .ref 1), (1, .ref a1), (2, .int y125)] [] := by
    intro N25
    induction N25 with
    | zero =>
      intro S122 y125 hm127 hI123 hF124 b126
      exact absurd hm127 (Nat.not_lt_zero _)
    | succ N25 ih25 =>
      intro S122 y125 hm127 hI123 hF124 b126
      refine mw_iload_n dX8_readInto_25 rfl 2 rfl ?_
      refine mw_sipush dX8_readInto_26 ks_240 ?_
      refine mw_icmp_ge (tgt := 65) dX8_readInto_29 (by decide) (fun q128 => ?_) (fun q128 => ?_)
      · skip
        have b129 : mm_b (240) (240) y125 := bd_le_r q128 n_240 b126 (by decide)
        refine mw_aload_n dX8_readInto_65 rfl 0 rfl ?_
        refine mw_iconst dX8_readInto_66 ki_0 ?_
        refine tw_puti (j := 0) dX8_readInto_67 shC_1 rfl rfl (by decide) fX8_19 rfl (by decide +kernel) ?_
        have hI130 : JC (mm_up S122 1 0 0) := JIC_put hI123 n_0 (by decide +kernel)
        generalize hS131 : (mm_up S122 1 0 0) = S131 at hI130 ⊢
        have hF132 := fr_upA hF124 hS131 (by decide)
        refine mw_aload_n dX8_readInto_70 rfl 0 rfl ?_
        refine tc_Vi (as := []) (st := []) dX8_readInto_71 rfl shC_1 rfl rfl mX8_36 t_X8_isSound rfl (Nat.le_of_ble_eq_true rfl) (by decide) (by decide) (c_X8_isSound (g := g) S131 hI130) (fun S133 v135 h134 => ?_)
        obtain ⟨rfl, b136, x137⟩ := h134
        exact mw_zret rfl (bd_nar b136 (by decide)) dX8_readInto_74 rfl rfl ⟨S131, _, rfl, rfl, hI130, hF132, b136, trivial⟩
      · skip
        have b138 : mm_b (0) (239) y125 := bd_lt_l (bd_nle q128) b126 n_240 (by decide)
        refine mw_aload_n dX8_readInto_32 rfl 0 rfl ?_
        refine tw_geti (j := 3) dX8_readInto_33 shC_1 rfl rfl (by decide) fX8_27 (fun v139 ev139 => ?_)
        have b140 : mm_b (0) (240) v139 := JIC_fld hI123 ev139 tbC_1 (by decide)
        refine mw_aload_n dX8_readInto_36 rfl 0 rfl ?_
        refine tw_geti (j := 0) dX8_readInto_37 shC_1 rfl rfl (by decide) fX8_19 (fun v141 ev141 => ?_)
        have b142 : mm_b (0) (240) v141 := JIC_fld hI123 ev141 tbC_0 (by decide)
        refine mw_icmp_ge (tgt := 65) dX8_readInto_40 (by decide) (fun q143 => ?_) (fun q143 => ?_)
        · skip
          refine mw_aload_n dX8_readInto_65 rfl 0 rfl ?_
          refine mw_iconst dX8_readInto_66 ki_0 ?_
          refine tw_puti (j := 0) dX8_readInto_67 shC_1 rfl rfl (by decide) fX8_19 rfl (by decide +kernel) ?_
          have hI144 : JC (mm_up S122 1 0 0) := JIC_put hI123 n_0 (by decide +kernel)
          generalize hS145 : (mm_up S122 1 0 0) = S145 at hI144 ⊢
          have hF146 := fr_upA hF124 hS145 (by decide)
          refine mw_aload_n dX8_readInto_70 rfl 0 rfl ?_
          refine tc_Vi (as := []) (st := []) dX8_readInto_71 rfl shC_1 rfl rfl mX8_36 t_X8_isSound rfl (Nat.le_of_ble_eq_true rfl) (by decide) (by decide) (c_X8_isSound (g := g) S145 hI144) (fun S147 v149 h148 => ?_)
          obtain ⟨rfl, b150, x151⟩ := h148
          exact mw_zret rfl (bd_nar b150 (by decide)) dX8_readInto_74 rfl rfl ⟨S145, _, rfl, rfl, hI144, hF146, b150, trivial⟩
        · skip
          have b152 : mm_b (0) (239) v139 := bd_lt_l (bd_nle q143) b140 b142 (by decide)
          have b153 : mm_b (1) (240) v141 := bd_lt_r (bd_nle q143) b140 b142 (by decide)
          refine mw_aload_n dX8_readInto_43 rfl 0 rfl ?_
          refine tc_Vi (as := []) (st := []) dX8_readInto_44 rfl shC_1 rfl rfl mX8_36 t_X8_isSound rfl (Nat.le_of_ble_eq_true rfl) (by decide) (by decide) (c_X8_isSound (g := g) S122 hI123) (fun S154 v156 h155 => ?_)
          obtain ⟨rfl, b157, x158⟩ := h155
          refine mw_if_eq (tgt := 65) dX8_readInto_47 (by decide) (fun q159 => ?_) (fun q159 => ?_)
          · skip
            have b160 : mm_b (0) (0) v156 := bd_eq_l q159 b157 n_0 (by decide)
            refine mw_aload_n dX8_readInto_65 rfl 0 rfl ?_
            refine mw_iconst dX8_readInto_66 ki_0 ?_
            refine tw_puti (j := 0) dX8_readInto_67 shC_1 rfl rfl (by decide) fX8_19 rfl (by decide +kernel) ?_
            have hI161 : JC (mm_up S122 1 0 0) := JIC_put hI123 n_0 (by decide +kernel)
            generalize hS162 : (mm_up S122 1 0 0) = S162 at hI161 ⊢
            have hF163 := fr_upA hF124 hS162 (by decide)
            refine mw_aload_n dX8_readInto_70 rfl 0 rfl ?_
            refine tc_Vi (as := []) (st := []) dX8_readInto_71 rfl shC_1 rfl rfl mX8_36 t_X8_isSound rfl (Nat.le_of_ble_eq_true rfl) (by decide) (by decide) (c_X8_isSound (g := g) S162 hI161) (fun S164 v166 h165 => ?_)
            obtain ⟨rfl, b167, x168⟩ := h165
            exact mw_zret rfl (bd_nar b167 (by decide)) dX8_readInto_74 rfl rfl ⟨S162, _, rfl, rfl, hI161, hF163, b167, trivial⟩
          · skip
            have b169 : mm_b (1) (1) v156 := bd_ne_l q159 b157 n_0 (by decide)
            refine mw_aload_n dX8_readInto_50 rfl 0 rfl ?_
            refine mw_aload_n dX8_readInto_51 rfl 1 rfl ?_
            refine tc_Vv (as := [.ref a1]) (st := []) dX8_readInto_52 rfl shC_1 rfl rfl mX8_40 t_X8_readClause rfl (Nat.le_of_ble_eq_true rfl) (by decide) (by decide) (c_X8_readClause (g := g) S122 hI123 a1 ha1) (fun S170 h171 => ?_)
            obtain ⟨hI173, hf174, x172⟩ := h171
            have hF175 := fr_tr hF124 hf174 (by decide) (by decide) (by decide) (by decide)
            refine mw_aload_n dX8_readInto_55 rfl 0 rfl ?_
            refine tc_Vv (as := []) (st := []) dX8_readInto_56 rfl shC_1 rfl rfl mX8_33 t_X8_skipBlanks rfl (Nat.le_of_ble_eq_true rfl) (by decide) (by decide) (c_X8_skipBlanks (g := g) S170 hI173) (fun S176 h177 => ?_)
            obtain ⟨hI179, hf180, x178⟩ := h177
            have hF181 := fr_tr hF175 hf180 (by decide) (by decide) (by decide) (by decide)
            refine mw_iinc (ls' := fun v => [(2, .int v), (0, .ref 1), (1, .ref a1)]) dX8_readInto_59 2 rfl (by decide) (fun _ => rfl) (fun v182 ev182 => ?_)
            have b183 : mm_b (1) (240) v182 := bd_inc ev182 b138 (by decide)
            refine mw_goto (tgt := 25) dX8_readInto_62 (by decide) ?_
            refine mw_ls [1, 2, 0] rfl ?_
            exact ih25 S176 v182 (ms_inc ev182 b138 (by decide) hm127) hI179 hF181 (bd_w b183 (by decide))
  refine mw_ls [1, 2, 0] rfl ?_
  exact cut25 _ S116 (0 : Int32) (Nat.lt_succ_self _) hI119 hF121 (bd_w n_0 (by decide))
