def F_X8_add (S : mm_S) (x1 : Int32) : Int32 × mm_S := (if (S.1 1 0) < (240 : Int32) then ((1 : Int32), (mm_up (mm_up S 2 ((S.1 1 0)).toNatClampNeg x1) 1 0 ((S.1 1 0) + (1 : Int32)))) else ((0 : Int32), S))
set_option maxRecDepth 100000 in
set_option maxHeartbeats 4000000 in
theorem cx_X8_add {g : mm_G} (S : mm_S) (hI : JC S) (x1 : Int32) (h1 : mm_b (0) (255) x1) : mc g yX8_add cX8_add 2 (some .boolean) (mm_rm 0) [.ref 1, .int x1] (mm_enc shC S) (qi shC (fun S1 v => JC S1 ∧ fr [1, 2] [] true true S S1 ∧ mm_b (0) (1) v ∧ (True) ∧ F_X8_add S x1 = (v, S1))) := by
  refine mc_of2 (own := RX8) (ini := false) (ls := [(0, .ref 1), (1, .int x1)]) (by decide) (Nat.le_of_ble_eq_true rfl) rfl (by decide) rfl ?_
  have hF : fr [1, 2] [] true true S S := fr_rf
  refine mw_aload_n dX8_add_0 rfl 0 rfl ?_
  refine tw_geti (j := 0) dX8_add_1 shC_1 rfl rfl (by decide) fX8_19 (fun v101 ev101 => ?_)
  have b102 : mm_b (0) (240) v101 := JIC_fld hI ev101 tbC_0 (by decide)
  refine mw_aload_n dX8_add_4 rfl 0 rfl ?_
  refine tw_getr (j := 5) dX8_add_5 shC_1 rfl rfl (by decide) fX8_15 ?_
  refine tw_aleni (v := 240) dX8_add_8 shC_2 rfl (by decide) ?_
  refine mw_icmp_lt (tgt := 14) dX8_add_9 (by decide) (fun q103 => ?_) (fun q103 => ?_)
  · skip
    have b104 : mm_b (0) (239) v101 := bd_lt_l q103 b102 n_240 (by decide)
    refine mw_aload_n dX8_add_14 rfl 0 rfl ?_
    refine tw_getr (j := 5) dX8_add_15 shC_1 rfl rfl (by decide) fX8_15 ?_
    refine mw_aload_n dX8_add_18 rfl 0 rfl ?_
    refine tw_geti (j := 0) dX8_add_19 shC_1 rfl rfl (by decide) fX8_19 (fun v105 ev105 => ?_)
    have cv105 : v101 = v105 := ev101.trans ev105.symm
    subst cv105
    refine mw_iload_n dX8_add_22 rfl 1 rfl ?_
    refine tw_iast dX8_add_23 shC_2 (bd_in b104 (by decide)) ?_
    have hI106 : JC (mm_up S 2 v101.toNatClampNeg x1) := JIC_puta hI h1 b104 (by decide) (by decide +kernel)
    generalize hS107 : (mm_up S 2 v101.toNatClampNeg x1) = S107 at hI106 ⊢
    have hF108 := fr_upA hF hS107 (by decide)
    refine mw_aload_n dX8_add_24 rfl 0 rfl ?_
    refine mw_dup dX8_add_25 rfl ?_
    refine tw_geti (j := 0) dX8_add_26 shC_1 rfl rfl (by decide) fX8_19 (fun v109 ev109 => ?_)
    have cv109 : v101 = v109 := (ev101.trans (up_neA hS107 (by decide))).trans ev109.symm
    subst cv109
    refine mw_iconst dX8_add_29 ki_1 ?_
    refine mw_iadd dX8_add_30 (fun v110 ev110 => ?_)
    have b111 : mm_b (1) (240) v110 := bd_add ev110 b104 n_1 (by decide)
    refine tw_puti (j := 0) dX8_add_31 shC_1 rfl rfl (by decide) fX8_19 rfl (by decide +kernel) ?_
    have hI112 : JC (mm_up S107 1 0 v110) := JIC_put hI106 b111 (by decide +kernel)
    generalize hS113 : (mm_up S107 1 0 v110) = S113 at hI112 ⊢
    have hF114 := fr_upA hF108 hS113 (by decide)
    refine mw_iconst dX8_add_34 ki_1 ?_
    exact mw_zret rfl (bd_nar n_1 (by decide)) dX8_add_35 rfl rfl ⟨S113, _, rfl, rfl, hI112, hF114, bd_w n_1 (by decide), trivial, (by subst hS113; subst ev110; subst hS107; subst ev101; rw [F_X8_add, if_pos q103])⟩
  · skip
    have b115 : mm_b (240) (240) v101 := bd_le_r (bd_nlt q103) n_240 b102 (by decide)
    refine mw_iconst dX8_add_12 ki_0 ?_
    exact mw_zret rfl (bd_nar n_0 (by decide)) dX8_add_13 rfl rfl ⟨S, _, rfl, rfl, hI, hF, bd_w n_0 (by decide), trivial, (by subst ev101; rw [F_X8_add, if_neg q103])⟩
def F_X8_isSound (S : mm_S)  : Int32 := (if (S.1 1 1) = (0 : Int32) then (1 : Int32) else (0 : Int32))
set_option maxRecDepth 100000 in
set_option maxHeartbeats 4000000 in
theorem cx_X8_isSound {g : mm_G} (S : mm_S) (hI : JC S)  : mc g yX8_isSound cX8_isSound 1 (some .boolean) (mm_rm 0) [.ref 1] (mm_enc shC S) (qi shC (fun S1 v => S = S1 ∧ mm_b (0) (1) v ∧ (True) ∧ F_X8_isSound S = v)) := by
  refine mc_of2 (own := RX8) (ini := false) (ls := [(0, .ref 1)]) (by decide) (Nat.le_of_ble_eq_true rfl) rfl (by decide) rfl ?_
  refine mw_aload_n dX8_isSound_0 rfl 0 rfl ?_
  refine tw_geti (j := 1) dX8_isSound_1 shC_1 rfl rfl (by decide) fX8_30 (fun v101 ev101 => ?_)
  refine mw_if_ne (tgt := 11) dX8_isSound_4 (by decide) (fun q102 => ?_) (fun q102 => ?_)
  · skip
    refine mw_iconst dX8_isSound_11 ki_0 ?_
    exact mw_zret rfl (bd_nar n_0 (by decide)) dX8_isSound_12 rfl rfl ⟨S, _, rfl, rfl, rfl, bd_w n_0 (by decide), trivial, (by subst ev101; rw [F_X8_isSound, if_neg q102])⟩
  · skip
    have b103 : mm_b (0) (0) v101 := bd_eq_l q102 (bd_all v101) n_0 (by decide)
    refine mw_iconst dX8_isSound_7 ki_1 ?_
    refine mw_goto (tgt := 12) dX8_isSound_8 (by decide) ?_
    exact mw_zret rfl (bd_nar n_1 (by decide)) dX8_isSound_12 rfl rfl ⟨S, _, rfl, rfl, rfl, bd_w n_1 (by decide), trivial, (by subst ev101; rw [F_X8_isSound, if_pos q102])⟩
def F_X8_isFigure (S : mm_S) (x0 : Int32) : Int32 := (if x0 < (48 : Int32) then (0 : Int32) else (if (57 : Int32) < x0 then (0 : Int32) else (1 : Int32)))
set_option maxRecDepth 100000 in
set_option maxHeartbeats 4000000 in
theorem cx_X8_isFigure {g : mm_G} (S : mm_S) (hI : JC S) (x0 : Int32) : mc g yX8_isFigure cX8_isFigure 1 (some .boolean) (mm_rm 0) [.int x0] (mm_enc shC S) (qi shC (fun S1 v => S = S1 ∧ mm_b (0) (1) v ∧ (v = 0 ∨ (mm_b (48) (57) x0)) ∧ F_X8_isFigure S x0 = v)) := by
  refine mc_of2 (own := RX8) (ini := false) (ls := [(0, .int x0)]) (by decide) (Nat.le_of_ble_eq_true rfl) rfl (by decide) rfl ?_
  refine mw_iload_n dX8_isFigure_0 rfl 0 rfl ?_
  refine mw_bipush dX8_isFigure_1 kb_48 ?_
  refine mw_icmp_lt (tgt := 16) dX8_isFigure_3 (by decide) (fun q101 => ?_) (fun q101 => ?_)
  · skip
    have b102 : mm_b (-2147483648) (47) x0 := bd_lt_l q101 (bd_all x0) n_48 (by decide)
    refine mw_iconst dX8_isFigure_16 ki_0 ?_
    exact mw_zret rfl (bd_nar n_0 (by decide)) dX8_isFigure_17 rfl rfl ⟨S, _, rfl, rfl, rfl, bd_w n_0 (by decide), Or.inl rfl, (by rw [F_X8_isFigure, if_pos q101])⟩
  · skip
    have b103 : mm_b (48) (2147483647) x0 := bd_le_r (bd_nlt q101) n_48 (bd_all x0) (by decide)
    refine mw_iload_n dX8_isFigure_6 rfl 0 rfl ?_
    refine mw_bipush dX8_isFigure_7 kb_57 ?_
    refine mw_icmp_gt (tgt := 16) dX8_isFigure_9 (by decide) (fun q104 => ?_) (fun q104 => ?_)
    · skip
      have b105 : mm_b (58) (2147483647) x0 := bd_lt_r q104 n_57 b103 (by decide)
      refine mw_iconst dX8_isFigure_16 ki_0 ?_
      exact mw_zret rfl (bd_nar n_0 (by decide)) dX8_isFigure_17 rfl rfl ⟨S, _, rfl, rfl, rfl, bd_w n_0 (by decide), Or.inl rfl, (by rw [F_X8_isFigure, if_neg q101, if_pos q104])⟩
    · skip
      have b106 : mm_b (48) (57) x0 := bd_le_l (bd_nlt q104) b103 n_57 (by decide)
      refine mw_iconst dX8_isFigure_12 ki_1 ?_
      refine mw_goto (tgt := 17) dX8_isFigure_13 (by decide) ?_
      exact mw_zret rfl (bd_nar n_1 (by decide)) dX8_isFigure_17 rfl rfl ⟨S, _, rfl, rfl, rfl, bd_w n_1 (by decide), Or.inr (bd_w b106 (by decide)), (by rw [F_X8_isFigure, if_neg q101, if_neg q104])⟩
def F_X8_blame (S : mm_S) (x1 : Int32) (x2 : Int32) : mm_S := (if (S.1 1 1) = (0 : Int32) then (mm_up (mm_up S 1 1 x1) 1 2 x2) else S)
set_option maxRecDepth 100000 in
set_option maxHeartbeats 4000000 in
theorem cx_X8_blame {g : mm_G} (S : mm_S) (hI : JC S) (x1 : Int32) (x2 : Int32) : mc g yX8_blame cX8_blame 3 none (mm_rm 0) [.ref 1, .int x1, .int x2] (mm_enc shC S) (qv shC (fun S1 => JC S1 ∧ fr [1] [] true true S S1 ∧ True ∧ F_X8_blame S x1 x2 = S1)) := by
  refine mc_of2 (own := RX8) (ini := false) (ls := [(0, .ref 1), (1, .int x1), (2, .int x2)]) (by decide) (Nat.le_of_ble_eq_true rfl) rfl (by decide) rfl ?_
  have hF : fr [1] [] true true S S := fr_rf
  refine mw_aload_n dX8_blame_0 rfl 0 rfl ?_
  refine tw_geti (j := 1) dX8_blame_1 shC_1 rfl rfl (by decide) fX8_30 (fun v101 ev101 => ?_)
  refine mw_if_ne (tgt := 17) dX8_blame_4 (by decide) (fun q102 => ?_) (fun q102 => ?_)
  · skip
    exact mw_vret rfl dX8_blame_17 rfl rfl ⟨S, rfl, rfl, ⟨hI, hF, trivial, (by subst ev101; rw [F_X8_blame, if_neg q102])⟩⟩
  · skip
    have b103 : mm_b (0) (0) v101 := bd_eq_l q102 (bd_all v101) n_0 (by decide)
    refine mw_aload_n dX8_blame_7 rfl 0 rfl ?_
    refine mw_iload_n dX8_blame_8 rfl 1 rfl ?_
    refine tw_puti (j := 1) dX8_blame_9 shC_1 rfl rfl (by decide) fX8_30 rfl (by decide +kernel) ?_
    have hI104 : JC (mm_up S 1 1 x1) := JIC_put hI (bd_all x1) (by decide +kernel)
    generalize hS105 : (mm_up S 1 1 x1) = S105 at hI104 ⊢
    have hF106 := fr_upA hF hS105 (by decide)
    refine mw_aload_n dX8_blame_12 rfl 0 rfl ?_
    refine mw_iload_n dX8_blame_13 rfl 2 rfl ?_
    refine tw_puti (j := 2) dX8_blame_14 shC_1 rfl rfl (by decide) fX8_9 rfl (by decide +kernel) ?_
    have hI107 : JC (mm_up S105 1 2 x2) := JIC_put hI104 (bd_all x2) (by decide +kernel)
    generalize hS108 : (mm_up S105 1 2 x2) = S108 at hI107 ⊢
    have hF109 := fr_upA hF106 hS108 (by decide)
    exact mw_vret rfl dX8_blame_17 rfl rfl ⟨S108, rfl, rfl, ⟨hI107, hF109, trivial, (by subst hS108; subst hS105; subst ev101; rw [F_X8_blame, if_pos q102])⟩⟩
def F_X8_skipBlanks_L0  : Nat → mm_S → mm_S
  | 0, S101 => S101
  | N + 1, S101 => (if (S101.1 1 0) ≤ (S101.1 1 3) then S101 else (if (S101.1 2 ((S101.1 1 3)).toNatClampNeg) = (32 : Int32) then ((F_X8_skipBlanks_L0  N) (mm_up S101 1 3 ((S101.1 1 3) + (1 : Int32)))) else S101))
def F_X8_skipBlanks (S : mm_S)  : mm_S := (F_X8_skipBlanks_L0  242 S)
set_option maxRecDepth 100000 in
set_option maxHeartbeats 4000000 in
theorem cx_X8_skipBlanks {g : mm_G} (S : mm_S) (hI : JC S)  : mc g yX8_skipBlanks cX8_skipBlanks 1 none (mm_rm 0) [.ref 1] (mm_enc shC S) (qv shC (fun S1 => JC S1 ∧ fr [1] [] true true S S1 ∧ True ∧ F_X8_skipBlanks S = S1)) := by
  refine mc_of2 (own := RX8) (ini := false) (ls := [(0, .ref 1)]) (by decide) (Nat.le_of_ble_eq_true rfl) rfl (by decide) rfl ?_
  have hF : fr [1] [] true true S S := fr_rf
  have cut0 : ∀ (N0 : Nat) (S101 : mm_S) (y104 : Int32), ((241 : Int) - y104.toInt).toNat < N0 → JC S101 → fr [1] [] true true S S101 → mm_b (0) (240) y104 → y104 = S101.1 1 3 → F_X8_skipBlanks S = F_X8_skipBlanks_L0  N0 S101 → mw g RX8 cX8_skipBlanks 1 none false (mm_rm 0) (qv shC (fun S1 => JC S1 ∧ fr [1] [] true true S S1 ∧ True ∧ F_X8_skipBlanks S = S1)) 0 0 (mm_enc shC S101) 0 [(0, .ref 1)] [] := by
    intro N0
    induction N0 with
    | zero =>
      intro S101 y104 hm106 hI102 hF103 b105 ey104 hE107
      exact absurd hm106 (Nat.not_lt_zero _)
    | succ N0 ih0 =>
      intro S101 y104 hm106 hI102 hF103 b105 ey104 hE107
      refine mw_aload_n dX8_skipBlanks_0 rfl 0 rfl ?_
      refine tw_geti (j := 3) dX8_skipBlanks_1 shC_1 rfl rfl (by decide) fX8_27 (fun v108 ev108 => ?_)
      have cv108 : y104 = v108 := ey104.trans ev108.symm
      subst cv108
      refine mw_aload_n dX8_skipBlanks_4 rfl 0 rfl ?_
      refine tw_geti (j := 0) dX8_skipBlanks_5 shC_1 rfl rfl (by decide) fX8_19 (fun v109 ev109 => ?_)
      have b110 : mm_b (0) (240) v109 := JIC_fld hI102 ev109 tbC_0 (by decide)
      refine mw_icmp_ge (tgt := 50) dX8_skipBlanks_8 (by decide) (fun q111 => ?_) (fun q111 => ?_)
      · skip
        exact mw_vret rfl dX8_skipBlanks_50 rfl rfl ⟨S101, rfl, rfl, ⟨hI102, hF103, trivial, (by subst ev109; subst ey104; exact hE107.trans (by rw [F_X8_skipBlanks_L0, if_pos q111]))⟩⟩
      · skip
        have b112 : mm_b (0) (239) y104 := bd_lt_l (bd_nle q111) b105 b110 (by decide)
        have b113 : mm_b (1) (240) v109 := bd_lt_r (bd_nle q111) b105 b110 (by decide)
        refine mw_aload_n dX8_skipBlanks_11 rfl 0 rfl ?_
        refine tw_geti (j := 3) dX8_skipBlanks_12 shC_1 rfl rfl (by decide) fX8_27 (fun v114 ev114 => ?_)
        have cv114 : y104 = v114 := ey104.trans ev114.symm
        subst cv114
        refine mw_aload_n dX8_skipBlanks_15 rfl 0 rfl ?_
        refine tw_getr (j := 5) dX8_skipBlanks_16 shC_1 rfl rfl (by decide) fX8_15 ?_
        refine tw_aleni (v := 240) dX8_skipBlanks_19 shC_2 rfl (by decide) ?_
        refine mw_icmp_ge (tgt := 50) dX8_skipBlanks_20 (by decide) (fun q115 => ?_) (fun q115 => ?_)
        · skip
          exact bd_fle q115 n_240 b112 (by decide)
        · skip
          refine mw_aload_n dX8_skipBlanks_23 rfl 0 rfl ?_
          refine tw_getr (j := 5) dX8_skipBlanks_24 shC_1 rfl rfl (by decide) fX8_15 ?_
          refine mw_aload_n dX8_skipBlanks_27 rfl 0 rfl ?_
          refine tw_geti (j := 3) dX8_skipBlanks_28 shC_1 rfl rfl (by decide) fX8_27 (fun v116 ev116 => ?_)
          have cv116 : y104 = v116 := ey104.trans ev116.symm
          subst cv116
          refine tw_iald dX8_skipBlanks_31 shC_2 (bd_in b112 (by decide)) (fun v117 ev117 => ?_)
          have b118 : mm_b (0) (255) v117 := JIC_elt hI102 ev117 b112 tbC_2 (by decide)
          refine mw_bipush dX8_skipBlanks_32 kb_32 ?_
          refine mw_icmp_ne (tgt := 50) dX8_skipBlanks_34 (by decide) (fun q119 => ?_) (fun q119 => ?_)
          · skip
            exact mw_vret rfl dX8_skipBlanks_50 rfl rfl ⟨S101, rfl, rfl, ⟨hI102, hF103, trivial, (by subst ev117; subst ev109; subst ey104; exact hE107.trans (by rw [F_X8_skipBlanks_L0, if_neg q111, if_neg q119]))⟩⟩
          · skip
            have b120 : mm_b (32) (32) v117 := bd_eq_l q119 b118 n_32 (by decide)
            refine mw_aload_n dX8_skipBlanks_37 rfl 0 rfl ?_
            refine mw_dup dX8_skipBlanks_38 rfl ?_
            refine tw_geti (j := 3) dX8_skipBlanks_39 shC_1 rfl rfl (by decide) fX8_27 (fun v121 ev121 => ?_)
            have cv121 : y104 = v121 := ey104.trans ev121.symm
            subst cv121
            refine mw_iconst dX8_skipBlanks_42 ki_1 ?_
            refine mw_iadd dX8_skipBlanks_43 (fun v122 ev122 => ?_)
            have b123 : mm_b (1) (240) v122 := bd_add ev122 b112 n_1 (by decide)
            refine tw_puti (j := 3) dX8_skipBlanks_44 shC_1 rfl rfl (by decide) fX8_27 rfl (by decide +kernel) ?_
            have hI124 : JC (mm_up S101 1 3 v122) := JIC_put hI102 b123 (by decide +kernel)
            generalize hS125 : (mm_up S101 1 3 v122) = S125 at hI124 ⊢
            have hF126 := fr_upA hF103 hS125 (by decide)
            refine mw_goto (tgt := 0) dX8_skipBlanks_47 (by decide) ?_
            exact ih0 S125 v122 (ms_add ev122 b112 n_1 (by decide) hm106) hI124 hF126 (bd_w b123 (by decide)) (up_eq hS125) (by subst hS125; subst ev122; subst ev117; subst ev109; subst ey104; exact hE107.trans (by rw [F_X8_skipBlanks_L0, if_neg q111, if_pos q119]))
  obtain ⟨v127, ev127⟩ : ∃ y : Int32, y = S.1 1 3 := ⟨_, rfl⟩
  have b128 : mm_b (0) (240) v127 := JIC_fld hI ev127 tbC_1 (by decide)
  exact cut0 242 S v127 (by have hz := b128; omega) hI hF b128 ev127 (by subst ev127; rw [F_X8_skipBlanks])
def F_X8_isNext_tc13 (S109 : mm_S) (x1 : Int32) : Int32 × mm_S := (if (F_X8_letterHere S109) = x1 then ((1 : Int32), S109) else ((0 : Int32), S109))
def F_X8_isNext (S : mm_S) (x1 : Int32) : Int32 × mm_S := (if (F_X8_isSound S) = (0 : Int32) then ((0 : Int32), S) else (F_X8_isNext_tc13 (F_X8_skipBlanks S) x1))
set_option maxRecDepth 100000 in
set_option maxHeartbeats 4000000 in
theorem cx_X8_isNext {g : mm_G} (S : mm_S) (hI : JC S) (x1 : Int32) (h1 : mm_b (44) (59) x1) : mc g yX8_isNext cX8_isNext 2 (some .boolean) (mm_rm 1) [.ref 1, .int x1] (mm_enc shC S) (qi shC (fun S1 v => JC S1 ∧ fr [1] [] true true S S1 ∧ mm_b (0) (1) v ∧ (v = 0 ∨ (mm_b (0) (239) (S1.1 1 3))) ∧ F_X8_isNext S x1 = (v, S1))) := by
  refine mc_of2 (own := RX8) (ini := false) (ls := [(0, .ref 1), (1, .int x1)]) (by decide) (Nat.le_of_ble_eq_true rfl) rfl (by decide) rfl ?_
  have hF : fr [1] [] true true S S := fr_rf
  refine mw_aload_n dX8_isNext_0 rfl 0 rfl ?_
  refine tc_Vi (as := []) (st := []) dX8_isNext_1 rfl shC_1 rfl rfl mX8_36 t_X8_isSound rfl (Nat.le_of_ble_eq_true rfl) (by decide) (by decide) (cx_X8_isSound (g := g) S hI) (fun S101 v103 h102 => ?_)
  obtain ⟨rfl, b104, x105, hx106⟩ := h102
  refine mw_if_ne (tgt := 9) dX8_isNext_4 (by decide) (fun q107 => ?_) (fun q107 => ?_)
  · skip
    have b108 : mm_b (1) (1) v103 := bd_ne_l q107 b104 n_0 (by decide)
    refine mw_aload_n dX8_isNext_9 rfl 0 rfl ?_
    refine tc_Vv (as := []) (st := []) dX8_isNext_10 rfl shC_1 rfl rfl mX8_33 t_X8_skipBlanks rfl (Nat.le_of_ble_eq_true rfl) (by decide) (by decide) (cx_X8_skipBlanks (g := g) S hI) (fun S109 h110 => ?_)
    obtain ⟨hI113, hf114, x111, hx112⟩ := h110
    have hF115 := fr_tr hF hf114 (by decide) (by decide) (by decide) (by decide)
    have hE116 : F_X8_isNext S x1 = F_X8_isNext_tc13 S109 x1 := (by subst hx106; rw [F_X8_isNext, if_neg q107, hx112])
    refine mw_aload_n dX8_isNext_13 rfl 0 rfl ?_
    refine tc_Vi (as := []) (st := []) dX8_isNext_14 rfl shC_1 rfl rfl mX8_44 t_X8_letterHere rfl (Nat.le_of_ble_eq_true rfl) (by decide) (by decide) (cx_X8_letterHere (g := g) S109 hI113) (fun S117 v119 h118 => ?_)
    obtain ⟨rfl, b120, x121, hx122⟩ := h118
    refine mw_iload_n dX8_isNext_17 rfl 1 rfl ?_
    refine mw_icmp_ne (tgt := 25) dX8_isNext_18 (by decide) (fun q123 => ?_) (fun q123 => ?_)
    · skip
      refine mw_iconst dX8_isNext_25 ki_0 ?_
      exact mw_zret rfl (bd_nar n_0 (by decide)) dX8_isNext_26 rfl rfl ⟨S109, _, rfl, rfl, hI113, hF115, bd_w n_0 (by decide), Or.inl rfl, (by subst hx122; exact hE116.trans (by rw [F_X8_isNext_tc13, if_neg q123]))⟩
    · skip
      have b124 : mm_b (44) (59) v119 := bd_eq_l q123 b120 h1 (by decide)
      obtain ⟨v125, ev125⟩ : ∃ y : Int32, y = S109.1 1 3 := ⟨_, rfl⟩
      have b126 : mm_b (0) (239) v125 := by rw [ev125]; exact Or.resolve_left x121 (bd_nec b124 (by decide))
      refine mw_iconst dX8_isNext_21 ki_1 ?_
      refine mw_goto (tgt := 26) dX8_isNext_22 (by decide) ?_
      exact mw_zret rfl (bd_nar n_1 (by decide)) dX8_isNext_26 rfl rfl ⟨S109, _, rfl, rfl, hI113, hF115, bd_w n_1 (by decide), Or.inr (by rw [← ev125]; exact bd_w b126 (by decide)), (by subst ev125; subst hx122; exact hE116.trans (by rw [F_X8_isNext_tc13, if_pos q123]))⟩
  · skip
    have b127 : mm_b (0) (0) v103 := bd_eq_l q107 b104 n_0 (by decide)
    refine mw_iconst dX8_isNext_7 ki_0 ?_
    exact mw_zret rfl (bd_nar n_0 (by decide)) dX8_isNext_8 rfl rfl ⟨S, _, rfl, rfl, hI, hF, bd_w n_0 (by decide), Or.inl rfl, (by subst hx106; rw [F_X8_isNext, if_pos q107])⟩
def F_X8_readSign_c5tc29 (S116 : mm_S) : Int32 × mm_S := ((0 : Int32), S116)
def F_X8_readSign_c5 (v103 : Int32) (S101 : mm_S) : Int32 × mm_S := (if v103 = (0 : Int32) then (F_X8_readSign_c5tc29 (F_X8_blame S101 (1 : Int32) (S101.1 1 3))) else ((1 : Int32), (mm_up S101 1 3 ((S101.1 1 3) + (1 : Int32)))))
def F_X8_readSign (S : mm_S) (x1 : Int32) : Int32 × mm_S := (F_X8_readSign_c5 (F_X8_isNext S x1).1 (F_X8_isNext S x1).2)
set_option maxRecDepth 100000 in
set_option maxHeartbeats 4000000 in
theorem cx_X8_readSign {g : mm_G} (S : mm_S) (hI : JC S) (x1 : Int32) (h1 : mm_b (44) (59) x1) : mc g yX8_readSign cX8_readSign 2 (some .boolean) (mm_rm 2) [.ref 1, .int x1] (mm_enc shC S) (qi shC (fun S1 v => JC S1 ∧ fr [1] [] true true S S1 ∧ mm_b (0) (1) v ∧ (True) ∧ F_X8_readSign S x1 = (v, S1))) := by
  refine mc_of2 (own := RX8) (ini := false) (ls := [(0, .ref 1), (1, .int x1)]) (by decide) (Nat.le_of_ble_eq_true rfl) rfl (by decide) rfl ?_
  have hF : fr [1] [] true true S S := fr_rf
  refine mw_aload_n dX8_readSign_0 rfl 0 rfl ?_
  refine mw_iload_n dX8_readSign_1 rfl 1 rfl ?_
  refine tc_Vi (as := [.int x1]) (st := []) dX8_readSign_2 rfl shC_1 rfl rfl mX8_108 t_X8_isNext rfl (Nat.le_of_ble_eq_true rfl) (by decide) (by decide) (cx_X8_isNext (g := g) S hI x1 h1) (fun S101 v103 h102 => ?_)
  obtain ⟨hI108, hf109, b104, x105, hx106⟩ := h102
  have hF110 := fr_tr hF hf109 (by decide) (by decide) (by decide) (by decide)
  have hE111 : F_X8_readSign S x1 = F_X8_readSign_c5 v103 S101 := (by rw [F_X8_readSign, hx106])
  refine mw_if_eq (tgt := 20) dX8_readSign_5 (by decide) (fun q112 => ?_) (fun q112 => ?_)
  · skip
    have b113 : mm_b (0) (0) v103 := bd_eq_l q112 b104 n_0 (by decide)
    refine mw_aload_n dX8_readSign_20 rfl 0 rfl ?_
    refine mw_iconst dX8_readSign_21 ki_1 ?_
    refine mw_aload_n dX8_readSign_22 rfl 0 rfl ?_
    refine tw_geti (j := 3) dX8_readSign_23 shC_1 rfl rfl (by decide) fX8_27 (fun v114 ev114 => ?_)
    have b115 : mm_b (0) (240) v114 := JIC_fld hI108 ev114 tbC_1 (by decide)
    refine tc_Vv (as := [.int 1, .int v114]) (st := []) dX8_readSign_26 rfl shC_1 rfl rfl mX8_60 t_X8_blame rfl (Nat.le_of_ble_eq_true rfl) (by decide) (by decide) (cx_X8_blame (g := g) S101 hI108 (1 : Int32) v114) (fun S116 h117 => ?_)
    obtain ⟨hI120, hf121, x118, hx119⟩ := h117
    have hF122 := fr_tr hF110 hf121 (by decide) (by decide) (by decide) (by decide)
    have hE123 : F_X8_readSign S x1 = F_X8_readSign_c5tc29 S116 := (by subst ev114; exact hE111.trans (by rw [F_X8_readSign_c5, if_pos q112, hx119]))
    refine mw_iconst dX8_readSign_29 ki_0 ?_
    exact mw_zret rfl (bd_nar n_0 (by decide)) dX8_readSign_30 rfl rfl ⟨S116, _, rfl, rfl, hI120, hF122, bd_w n_0 (by decide), trivial, (by exact hE123.trans (by rw [F_X8_readSign_c5tc29]))⟩
  · skip
    have b124 : mm_b (1) (1) v103 := bd_ne_l q112 b104 n_0 (by decide)
    have b125 := Or.resolve_left x105 q112
    obtain ⟨v126, ev126⟩ : ∃ y : Int32, y = S101.1 1 3 := ⟨_, rfl⟩
    have b127 : mm_b (0) (239) v126 := by rw [ev126]; exact b125
    refine mw_aload_n dX8_readSign_8 rfl 0 rfl ?_
    refine mw_dup dX8_readSign_9 rfl ?_
    refine tw_geti (j := 3) dX8_readSign_10 shC_1 rfl rfl (by decide) fX8_27 (fun v128 ev128 => ?_)
    have cv128 : v126 = v128 := ev126.trans ev128.symm
    subst cv128
    refine mw_iconst dX8_readSign_13 ki_1 ?_
    refine mw_iadd dX8_readSign_14 (fun v129 ev129 => ?_)
    have b130 : mm_b (1) (240) v129 := bd_add ev129 b127 n_1 (by decide)
    refine tw_puti (j := 3) dX8_readSign_15 shC_1 rfl rfl (by decide) fX8_27 rfl (by decide +kernel) ?_
    have hI131 : JC (mm_up S101 1 3 v129) := JIC_put hI108 b130 (by decide +kernel)
    generalize hS132 : (mm_up S101 1 3 v129) = S132 at hI131 ⊢
    have hF133 := fr_upA hF110 hS132 (by decide)
    refine mw_iconst dX8_readSign_18 ki_1 ?_
    exact mw_zret rfl (bd_nar n_1 (by decide)) dX8_readSign_19 rfl rfl ⟨S132, _, rfl, rfl, hI131, hF133, bd_w n_1 (by decide), trivial, (by subst hS132; subst ev129; subst ev126; exact hE111.trans (by rw [F_X8_readSign_c5, if_neg q112]))⟩
def F_X8_readNumber_L25tttc119 (S141 : mm_S) (y127 : Int32) : Int32 × mm_S := (if (F_X8_isSound S141) = (0 : Int32) then ((-1 : Int32), S141) else (y127, S141))
def F_X8_readNumber_L25 (x1 : Int32) : Nat → mm_S → Int32 → Int32 → Int32 × mm_S
  | 0, S122, _, _ => (0, S122)
  | N + 1, S122, y125, y127 => (if (S122.1 1 0) ≤ (S122.1 1 3) then (if y125 = (0 : Int32) then (F_X8_readNumber_L25tttc119 (F_X8_blame S122 (1 : Int32) (S122.1 1 3)) y127) else (if (3 : Int32) < y125 then (F_X8_readNumber_L25tttc119 (F_X8_blame S122 (2 : Int32) (S122.1 1 4)) y127) else (if y127 ≤ x1 then (if (F_X8_isSound S122) = (0 : Int32) then ((-1 : Int32), S122) else (y127, S122)) else (F_X8_readNumber_L25tttc119 (F_X8_blame S122 (2 : Int32) (S122.1 1 4)) y127)))) else (if (F_X8_isFigure S122 (F_X8_letterHere S122)) = (0 : Int32) then (if y125 = (0 : Int32) then (F_X8_readNumber_L25tttc119 (F_X8_blame S122 (1 : Int32) (S122.1 1 3)) y127) else (if (3 : Int32) < y125 then (F_X8_readNumber_L25tttc119 (F_X8_blame S122 (2 : Int32) (S122.1 1 4)) y127) else (if y127 ≤ x1 then (if (F_X8_isSound S122) = (0 : Int32) then ((-1 : Int32), S122) else (y127, S122)) else (F_X8_readNumber_L25tttc119 (F_X8_blame S122 (2 : Int32) (S122.1 1 4)) y127)))) else (if (y125 + Int32.ofInt 1) ≤ (3 : Int32) then ((F_X8_readNumber_L25 x1 N) (mm_up S122 1 3 ((S122.1 1 3) + (1 : Int32))) (y125 + Int32.ofInt 1) ((((10 : Int32) * y127) + (F_X8_letterHere S122)) - (48 : Int32))) else ((F_X8_readNumber_L25 x1 N) (mm_up S122 1 3 ((S122.1 1 3) + (1 : Int32))) (y125 + Int32.ofInt 1) y127))))
def F_X8_readNumber_tc13 (x1 : Int32) (S109 : mm_S) : Int32 × mm_S := (F_X8_readNumber_L25 x1 242 (mm_up S109 1 4 (S109.1 1 3)) (0 : Int32) (0 : Int32))
def F_X8_readNumber (S : mm_S) (x1 : Int32) : Int32 × mm_S := (if (F_X8_isSound S) = (0 : Int32) then ((-1 : Int32), S) else (F_X8_readNumber_tc13 x1 (F_X8_skipBlanks S)))
set_option maxRecDepth 100000 in
set_option maxHeartbeats 4000000 in
theorem cx_X8_readNumber {g : mm_G} (S : mm_S) (hI : JC S) (x1 : Int32) : mc g yX8_readNumber cX8_readNumber 4 (some .int) (mm_rm 1) [.ref 1, .int x1] (mm_enc shC S) (qi shC (fun S1 v => JC S1 ∧ fr [1] [] true true S S1 ∧ mm_b (-2147483648) (2147483647) v ∧ (True) ∧ F_X8_readNumber S x1 = (v, S1))) := by
  refine mc_of2 (own := RX8) (ini := false) (ls := [(0, .ref 1), (1, .int x1)]) (by decide) (Nat.le_of_ble_eq_true rfl) rfl (by decide) rfl ?_
  have hF : fr [1] [] true true S S := fr_rf
  refine mw_aload_n dX8_readNumber_0 rfl 0 rfl ?_
  refine tc_Vi (as := []) (st := []) dX8_readNumber_1 rfl shC_1 rfl rfl mX8_36 t_X8_isSound rfl (Nat.le_of_ble_eq_true rfl) (by decide) (by decide) (cx_X8_isSound (g := g) S hI) (fun S101 v103 h102 => ?_)
  obtain ⟨rfl, b104, x105, hx106⟩ := h102
  refine mw_if_ne (tgt := 9) dX8_readNumber_4 (by decide) (fun q107 => ?_) (fun q107 => ?_)
  · skip
    have b108 : mm_b (1) (1) v103 := bd_ne_l q107 b104 n_0 (by decide)
    refine mw_aload_n dX8_readNumber_9 rfl 0 rfl ?_
    refine tc_Vv (as := []) (st := []) dX8_readNumber_10 rfl shC_1 rfl rfl mX8_33 t_X8_skipBlanks rfl (Nat.le_of_ble_eq_true rfl) (by decide) (by decide) (cx_X8_skipBlanks (g := g) S hI) (fun S109 h110 => ?_)
    obtain ⟨hI113, hf114, x111, hx112⟩ := h110
    have hF115 := fr_tr hF hf114 (by decide) (by decide) (by decide) (by decide)
    have hE116 : F_X8_readNumber S x1 = F_X8_readNumber_tc13 x1 S109 := (by subst hx106; rw [F_X8_readNumber, if_neg q107, hx112])
    refine mw_aload_n dX8_readNumber_13 rfl 0 rfl ?_
    refine mw_aload_n dX8_readNumber_14 rfl 0 rfl ?_
    refine tw_geti (j := 3) dX8_readNumber_15 shC_1 rfl rfl (by decide) fX8_27 (fun v117 ev117 => ?_)
    have b118 : mm_b (0) (240) v117 := JIC_fld hI113 ev117 tbC_1 (by decide)
    refine tw_puti (j := 4) dX8_readNumber_18 shC_1 rfl rfl (by decide) fX8_82 rfl (by decide +kernel) ?_
    have hI119 : JC (mm_up S109 1 4 v117) := JIC_put hI113 b118 (by decide +kernel)
    generalize hS120 : (mm_up S109 1 4 v117) = S120 at hI119 ⊢
    have hF121 := fr_upA hF115 hS120 (by decide)
    refine mw_iconst dX8_readNumber_21 ki_0 ?_
    refine mw_istore_n (ls' := [(2, .int 0), (0, .ref 1), (1, .int x1)]) dX8_readNumber_22 rfl (by decide) rfl ?_
    refine mw_iconst dX8_readNumber_23 ki_0 ?_
    refine mw_istore_n (ls' := [(3, .int 0), (2, .int 0), (0, .ref 1), (1, .int x1)]) dX8_readNumber_24 rfl (by decide) rfl ?_
    have cut25 : ∀ (N25 : Nat) (S122 : mm_S) (y125 y127 y129 : Int32), ((241 : Int) - y129.toInt).toNat < N25 → JC S122 → fr [1] [] true true S S122 → mm_b (-2147483648) (2147483647) y125 → mm_b (-2147483648) (2147483647) y127 → mm_b (0) (240) y129 → y129 = S122.1 1 3 → F_X8_readNumber S x1 = F_X8_readNumber_L25 x1 N25 S122 y125 y127 → mw g RX8 cX8_readNumber 4 (some .int) false (mm_rm 1) (qi shC (fun S1 v => JC S1 ∧ fr [1] [] true true S S1 ∧ mm_b (-2147483648) (2147483647) v ∧ (True) ∧ F_X8_readNumber S x1 = (v, S1))) 0 0 (mm_enc shC S122) 25 [(0, .ref 1), (1, .int x1), (2, .int y125), (3, .int y127)] [] := by
      intro N25
      induction N25 with
      | zero =>
        intro S122 y125 y127 y129 hm131 hI123 hF124 b126 b128 b130 ey129 hE132
        exact absurd hm131 (Nat.not_lt_zero _)
      | succ N25 ih25 =>
        intro S122 y125 y127 y129 hm131 hI123 hF124 b126 b128 b130 ey129 hE132
        refine mw_aload_n dX8_readNumber_25 rfl 0 rfl ?_
        refine tw_geti (j := 3) dX8_readNumber_26 shC_1 rfl rfl (by decide) fX8_27 (fun v133 ev133 => ?_)
        have cv133 : y129 = v133 := ey129.trans ev133.symm
        subst cv133
        refine mw_aload_n dX8_readNumber_29 rfl 0 rfl ?_
        refine tw_geti (j := 0) dX8_readNumber_30 shC_1 rfl rfl (by decide) fX8_19 (fun v134 ev134 => ?_)
        have b135 : mm_b (0) (240) v134 := JIC_fld hI123 ev134 tbC_0 (by decide)
        refine mw_icmp_ge (tgt := 84) dX8_readNumber_33 (by decide) (fun q136 => ?_) (fun q136 => ?_)
        · skip
          refine mw_iload_n dX8_readNumber_84 rfl 2 rfl ?_
          refine mw_if_ne (tgt := 100) dX8_readNumber_85 (by decide) (fun q137 => ?_) (fun q137 => ?_)
          · skip
            refine mw_iload_n dX8_readNumber_100 rfl 2 rfl ?_
            refine mw_iconst dX8_readNumber_101 ki_3 ?_
            refine mw_icmp_gt (tgt := 110) dX8_readNumber_102 (by decide) (fun q138 => ?_) (fun q138 => ?_)
            · skip
              have b139 : mm_b (4) (2147483647) y125 := bd_lt_r q138 n_3 b126 (by decide)
              refine mw_aload_n dX8_readNumber_110 rfl 0 rfl ?_
              refine mw_iconst dX8_readNumber_111 ki_2 ?_
              refine mw_aload_n dX8_readNumber_112 rfl 0 rfl ?_
              refine tw_geti (j := 4) dX8_readNumber_113 shC_1 rfl rfl (by decide) fX8_82 (fun v140 ev140 => ?_)
              refine tc_Vv (as := [.int 2, .int v140]) (st := []) dX8_readNumber_116 rfl shC_1 rfl rfl mX8_60 t_X8_blame rfl (Nat.le_of_ble_eq_true rfl) (by decide) (by decide) (cx_X8_blame (g := g) S122 hI123 (2 : Int32) v140) (fun S141 h142 => ?_)
              obtain ⟨hI145, hf146, x143, hx144⟩ := h142
              have hF147 := fr_tr hF124 hf146 (by decide) (by decide) (by decide) (by decide)
              have hE148 : F_X8_readNumber S x1 = F_X8_readNumber_L25tttc119 S141 y127 := (by subst ev140; subst ev134; subst ey129; exact hE132.trans (by rw [F_X8_readNumber_L25, if_pos q136, if_neg q137, if_pos q138, hx144]))
              refine mw_aload_n dX8_readNumber_119 rfl 0 rfl ?_
              refine tc_Vi (as := []) (st := []) dX8_readNumber_120 rfl shC_1 rfl rfl mX8_36 t_X8_isSound rfl (Nat.le_of_ble_eq_true rfl) (by decide) (by decide) (cx_X8_isSound (g := g) S141 hI145) (fun S149 v151 h150 => ?_)
              obtain ⟨rfl, b152, x153, hx154⟩ := h150
              refine mw_if_eq (tgt := 130) dX8_readNumber_123 (by decide) (fun q155 => ?_) (fun q155 => ?_)
              · skip
                have b156 : mm_b (0) (0) v151 := bd_eq_l q155 b152 n_0 (by decide)
                refine mw_iconst dX8_readNumber_130 ki_m1 ?_
                exact mw_iret rfl dX8_readNumber_131 rfl rfl ⟨S141, _, rfl, rfl, hI145, hF147, bd_w n_m1 (by decide), trivial, (by subst hx154; exact hE148.trans (by rw [F_X8_readNumber_L25tttc119, if_pos q155]))⟩
              · skip
                have b157 : mm_b (1) (1) v151 := bd_ne_l q155 b152 n_0 (by decide)
                refine mw_iload_n dX8_readNumber_126 rfl 3 rfl ?_
                refine mw_goto (tgt := 131) dX8_readNumber_127 (by decide) ?_
                exact mw_iret rfl dX8_readNumber_131 rfl rfl ⟨S141, _, rfl, rfl, hI145, hF147, b128, trivial, (by subst hx154; exact hE148.trans (by rw [F_X8_readNumber_L25tttc119, if_neg q155]))⟩
            · skip
              have b158 : mm_b (-2147483648) (3) y125 := bd_le_l (bd_nlt q138) b126 n_3 (by decide)
              refine mw_iload_n dX8_readNumber_105 rfl 3 rfl ?_
              refine mw_iload_n dX8_readNumber_106 rfl 1 rfl ?_
              refine mw_icmp_le (tgt := 119) dX8_readNumber_107 (by decide) (fun q159 => ?_) (fun q159 => ?_)
              · skip
                refine mw_aload_n dX8_readNumber_119 rfl 0 rfl ?_
                refine tc_Vi (as := []) (st := []) dX8_readNumber_120 rfl shC_1 rfl rfl mX8_36 t_X8_isSound rfl (Nat.le_of_ble_eq_true rfl) (by decide) (by decide) (cx_X8_isSound (g := g) S122 hI123) (fun S160 v162 h161 => ?_)
                obtain ⟨rfl, b163, x164, hx165⟩ := h161
                refine mw_if_eq (tgt := 130) dX8_readNumber_123 (by decide) (fun q166 => ?_) (fun q166 => ?_)
                · skip
                  have b167 : mm_b (0) (0) v162 := bd_eq_l q166 b163 n_0 (by decide)
                  refine mw_iconst dX8_readNumber_130 ki_m1 ?_
                  exact mw_iret rfl dX8_readNumber_131 rfl rfl ⟨S122, _, rfl, rfl, hI123, hF124, bd_w n_m1 (by decide), trivial, (by subst hx165; subst ev134; subst ey129; exact hE132.trans (by rw [F_X8_readNumber_L25, if_pos q136, if_neg q137, if_neg q138, if_pos q159, if_pos q166]))⟩
                · skip
                  have b168 : mm_b (1) (1) v162 := bd_ne_l q166 b163 n_0 (by decide)
                  refine mw_iload_n dX8_readNumber_126 rfl 3 rfl ?_
                  refine mw_goto (tgt := 131) dX8_readNumber_127 (by decide) ?_
                  exact mw_iret rfl dX8_readNumber_131 rfl rfl ⟨S122, _, rfl, rfl, hI123, hF124, b128, trivial, (by subst hx165; subst ev134; subst ey129; exact hE132.trans (by rw [F_X8_readNumber_L25, if_pos q136, if_neg q137, if_neg q138, if_pos q159, if_neg q166]))⟩
              · skip
                have b169 : mm_b (-2147483648) (2147483646) x1 := bd_lt_l (bd_nle q159) (bd_all x1) b128 (by decide)
                have b170 : mm_b (-2147483647) (2147483647) y127 := bd_lt_r (bd_nle q159) (bd_all x1) b128 (by decide)
                refine mw_aload_n dX8_readNumber_110 rfl 0 rfl ?_
                refine mw_iconst dX8_readNumber_111 ki_2 ?_
                refine mw_aload_n dX8_readNumber_112 rfl 0 rfl ?_
                refine tw_geti (j := 4) dX8_readNumber_113 shC_1 rfl rfl (by decide) fX8_82 (fun v171 ev171 => ?_)
                refine tc_Vv (as := [.int 2, .int v171]) (st := []) dX8_readNumber_116 rfl shC_1 rfl rfl mX8_60 t_X8_blame rfl (Nat.le_of_ble_eq_true rfl) (by decide) (by decide) (cx_X8_blame (g := g) S122 hI123 (2 : Int32) v171) (fun S172 h173 => ?_)
                obtain ⟨hI176, hf177, x174, hx175⟩ := h173
                have hF178 := fr_tr hF124 hf177 (by decide) (by decide) (by decide) (by decide)
                have hE179 : F_X8_readNumber S x1 = F_X8_readNumber_L25tttc119 S172 y127 := (by subst ev171; subst ev134; subst ey129; exact hE132.trans (by rw [F_X8_readNumber_L25, if_pos q136, if_neg q137, if_neg q138, if_neg q159, hx175]))
                refine mw_aload_n dX8_readNumber_119 rfl 0 rfl ?_
                refine tc_Vi (as := []) (st := []) dX8_readNumber_120 rfl shC_1 rfl rfl mX8_36 t_X8_isSound rfl (Nat.le_of_ble_eq_true rfl) (by decide) (by decide) (cx_X8_isSound (g := g) S172 hI176) (fun S180 v182 h181 => ?_)
                obtain ⟨rfl, b183, x184, hx185⟩ := h181
                refine mw_if_eq (tgt := 130) dX8_readNumber_123 (by decide) (fun q186 => ?_) (fun q186 => ?_)
                · skip
                  have b187 : mm_b (0) (0) v182 := bd_eq_l q186 b183 n_0 (by decide)
                  refine mw_iconst dX8_readNumber_130 ki_m1 ?_
                  exact mw_iret rfl dX8_readNumber_131 rfl rfl ⟨S172, _, rfl, rfl, hI176, hF178, bd_w n_m1 (by decide), trivial, (by subst hx185; exact hE179.trans (by rw [F_X8_readNumber_L25tttc119, if_pos q186]))⟩
                · skip
                  have b188 : mm_b (1) (1) v182 := bd_ne_l q186 b183 n_0 (by decide)
                  refine mw_iload_n dX8_readNumber_126 rfl 3 rfl ?_
                  refine mw_goto (tgt := 131) dX8_readNumber_127 (by decide) ?_
                  exact mw_iret rfl dX8_readNumber_131 rfl rfl ⟨S172, _, rfl, rfl, hI176, hF178, bd_w b170 (by decide), trivial, (by subst hx185; exact hE179.trans (by rw [F_X8_readNumber_L25tttc119, if_neg q186]))⟩
          · skip
            have b189 : mm_b (0) (0) y125 := bd_eq_l q137 b126 n_0 (by decide)
            refine mw_aload_n dX8_readNumber_88 rfl 0 rfl ?_
            refine mw_iconst dX8_readNumber_89 ki_1 ?_
            refine mw_aload_n dX8_readNumber_90 rfl 0 rfl ?_
            refine tw_geti (j := 3) dX8_readNumber_91 shC_1 rfl rfl (by decide) fX8_27 (fun v190 ev190 => ?_)
            have cv190 : y129 = v190 := ey129.trans ev190.symm
            subst cv190
            refine tc_Vv (as := [.int 1, .int y129]) (st := []) dX8_readNumber_94 rfl shC_1 rfl rfl mX8_60 t_X8_blame rfl (Nat.le_of_ble_eq_true rfl) (by decide) (by decide) (cx_X8_blame (g := g) S122 hI123 (1 : Int32) y129) (fun S191 h192 => ?_)
            obtain ⟨hI195, hf196, x193, hx194⟩ := h192
            have hF197 := fr_tr hF124 hf196 (by decide) (by decide) (by decide) (by decide)
            have hE198 : F_X8_readNumber S x1 = F_X8_readNumber_L25tttc119 S191 y127 := (by subst ev134; subst ey129; exact hE132.trans (by rw [F_X8_readNumber_L25, if_pos q136, if_pos q137, hx194]))
            refine mw_goto (tgt := 119) dX8_readNumber_97 (by decide) ?_
            refine mw_aload_n dX8_readNumber_119 rfl 0 rfl ?_
            refine tc_Vi (as := []) (st := []) dX8_readNumber_120 rfl shC_1 rfl rfl mX8_36 t_X8_isSound rfl (Nat.le_of_ble_eq_true rfl) (by decide) (by decide) (cx_X8_isSound (g := g) S191 hI195) (fun S199 v201 h200 => ?_)
            obtain ⟨rfl, b202, x203, hx204⟩ := h200
            refine mw_if_eq (tgt := 130) dX8_readNumber_123 (by decide) (fun q205 => ?_) (fun q205 => ?_)
            · skip
              have b206 : mm_b (0) (0) v201 := bd_eq_l q205 b202 n_0 (by decide)
              refine mw_iconst dX8_readNumber_130 ki_m1 ?_
              exact mw_iret rfl dX8_readNumber_131 rfl rfl ⟨S191, _, rfl, rfl, hI195, hF197, bd_w n_m1 (by decide), trivial, (by subst hx204; exact hE198.trans (by rw [F_X8_readNumber_L25tttc119, if_pos q205]))⟩
            · skip
              have b207 : mm_b (1) (1) v201 := bd_ne_l q205 b202 n_0 (by decide)
              refine mw_iload_n dX8_readNumber_126 rfl 3 rfl ?_
              refine mw_goto (tgt := 131) dX8_readNumber_127 (by decide) ?_
              exact mw_iret rfl dX8_readNumber_131 rfl rfl ⟨S191, _, rfl, rfl, hI195, hF197, b128, trivial, (by subst hx204; exact hE198.trans (by rw [F_X8_readNumber_L25tttc119, if_neg q205]))⟩
        · skip
          have b208 : mm_b (0) (239) y129 := bd_lt_l (bd_nle q136) b130 b135 (by decide)
          have b209 : mm_b (1) (240) v134 := bd_lt_r (bd_nle q136) b130 b135 (by decide)
          refine mw_aload_n dX8_readNumber_36 rfl 0 rfl ?_
          refine tc_Vi (as := []) (st := []) dX8_readNumber_37 rfl shC_1 rfl rfl mX8_44 t_X8_letterHere rfl (Nat.le_of_ble_eq_true rfl) (by decide) (by decide) (cx_X8_letterHere (g := g) S122 hI123) (fun S210 v212 h211 => ?_)
          obtain ⟨rfl, b213, x214, hx215⟩ := h211
          refine tc_Si (as := [.int v212]) (st := []) dX8_readNumber_40 rfl mX8_111 t_X8_isFigure rfl (Nat.le_of_ble_eq_true rfl) (by decide) (by decide) (cx_X8_isFigure (g := g) S122 hI123 v212) (fun S216 v218 h217 => ?_)
          obtain ⟨rfl, b219, x220, hx221⟩ := h217
          refine mw_if_eq (tgt := 84) dX8_readNumber_43 (by decide) (fun q222 => ?_) (fun q222 => ?_)
          · skip
            have b223 : mm_b (0) (0) v218 := bd_eq_l q222 b219 n_0 (by decide)
            refine mw_iload_n dX8_readNumber_84 rfl 2 rfl ?_
            refine mw_if_ne (tgt := 100) dX8_readNumber_85 (by decide) (fun q224 => ?_) (fun q224 => ?_)
            · skip
              refine mw_iload_n dX8_readNumber_100 rfl 2 rfl ?_
              refine mw_iconst dX8_readNumber_101 ki_3 ?_
              refine mw_icmp_gt (tgt := 110) dX8_readNumber_102 (by decide) (fun q225 => ?_) (fun q225 => ?_)
              · skip
                have b226 : mm_b (4) (2147483647) y125 := bd_lt_r q225 n_3 b126 (by decide)
                refine mw_aload_n dX8_readNumber_110 rfl 0 rfl ?_
                refine mw_iconst dX8_readNumber_111 ki_2 ?_
                refine mw_aload_n dX8_readNumber_112 rfl 0 rfl ?_
                refine tw_geti (j := 4) dX8_readNumber_113 shC_1 rfl rfl (by decide) fX8_82 (fun v227 ev227 => ?_)
                refine tc_Vv (as := [.int 2, .int v227]) (st := []) dX8_readNumber_116 rfl shC_1 rfl rfl mX8_60 t_X8_blame rfl (Nat.le_of_ble_eq_true rfl) (by decide) (by decide) (cx_X8_blame (g := g) S122 hI123 (2 : Int32) v227) (fun S228 h229 => ?_)
                obtain ⟨hI232, hf233, x230, hx231⟩ := h229
                have hF234 := fr_tr hF124 hf233 (by decide) (by decide) (by decide) (by decide)
                have hE235 : F_X8_readNumber S x1 = F_X8_readNumber_L25tttc119 S228 y127 := (by subst ev227; subst hx221; subst hx215; subst ev134; subst ey129; exact hE132.trans (by rw [F_X8_readNumber_L25, if_neg q136, if_pos q222, if_neg q224, if_pos q225, hx231]))
                refine mw_aload_n dX8_readNumber_119 rfl 0 rfl ?_
                refine tc_Vi (as := []) (st := []) dX8_readNumber_120 rfl shC_1 rfl rfl mX8_36 t_X8_isSound rfl (Nat.le_of_ble_eq_true rfl) (by decide) (by decide) (cx_X8_isSound (g := g) S228 hI232) (fun S236 v238 h237 => ?_)
                obtain ⟨rfl, b239, x240, hx241⟩ := h237
                refine mw_if_eq (tgt := 130) dX8_readNumber_123 (by decide) (fun q242 => ?_) (fun q242 => ?_)
                · skip
                  have b243 : mm_b (0) (0) v238 := bd_eq_l q242 b239 n_0 (by decide)
                  refine mw_iconst dX8_readNumber_130 ki_m1 ?_
                  exact mw_iret rfl dX8_readNumber_131 rfl rfl ⟨S228, _, rfl, rfl, hI232, hF234, bd_w n_m1 (by decide), trivial, (by subst hx241; exact hE235.trans (by rw [F_X8_readNumber_L25tttc119, if_pos q242]))⟩
                · skip
                  have b244 : mm_b (1) (1) v238 := bd_ne_l q242 b239 n_0 (by decide)
                  refine mw_iload_n dX8_readNumber_126 rfl 3 rfl ?_
                  refine mw_goto (tgt := 131) dX8_readNumber_127 (by decide) ?_
                  exact mw_iret rfl dX8_readNumber_131 rfl rfl ⟨S228, _, rfl, rfl, hI232, hF234, b128, trivial, (by subst hx241; exact hE235.trans (by rw [F_X8_readNumber_L25tttc119, if_neg q242]))⟩
              · skip
                have b245 : mm_b (-2147483648) (3) y125 := bd_le_l (bd_nlt q225) b126 n_3 (by decide)
                refine mw_iload_n dX8_readNumber_105 rfl 3 rfl ?_
                refine mw_iload_n dX8_readNumber_106 rfl 1 rfl ?_
                refine mw_icmp_le (tgt := 119) dX8_readNumber_107 (by decide) (fun q246 => ?_) (fun q246 => ?_)
                · skip
                  refine mw_aload_n dX8_readNumber_119 rfl 0 rfl ?_
                  refine tc_Vi (as := []) (st := []) dX8_readNumber_120 rfl shC_1 rfl rfl mX8_36 t_X8_isSound rfl (Nat.le_of_ble_eq_true rfl) (by decide) (by decide) (cx_X8_isSound (g := g) S122 hI123) (fun S247 v249 h248 => ?_)
                  obtain ⟨rfl, b250, x251, hx252⟩ := h248
                  refine mw_if_eq (tgt := 130) dX8_readNumber_123 (by decide) (fun q253 => ?_) (fun q253 => ?_)
                  · skip
                    have b254 : mm_b (0) (0) v249 := bd_eq_l q253 b250 n_0 (by decide)
                    refine mw_iconst dX8_readNumber_130 ki_m1 ?_
                    exact mw_iret rfl dX8_readNumber_131 rfl rfl ⟨S122, _, rfl, rfl, hI123, hF124, bd_w n_m1 (by decide), trivial, (by subst hx252; subst hx221; subst hx215; subst ev134; subst ey129; exact hE132.trans (by rw [F_X8_readNumber_L25, if_neg q136, if_pos q222, if_neg q224, if_neg q225, if_pos q246, if_pos q253]))⟩
                  · skip
                    have b255 : mm_b (1) (1) v249 := bd_ne_l q253 b250 n_0 (by decide)
                    refine mw_iload_n dX8_readNumber_126 rfl 3 rfl ?_
                    refine mw_goto (tgt := 131) dX8_readNumber_127 (by decide) ?_
                    exact mw_iret rfl dX8_readNumber_131 rfl rfl ⟨S122, _, rfl, rfl, hI123, hF124, b128, trivial, (by subst hx252; subst hx221; subst hx215; subst ev134; subst ey129; exact hE132.trans (by rw [F_X8_readNumber_L25, if_neg q136, if_pos q222, if_neg q224, if_neg q225, if_pos q246, if_neg q253]))⟩
                · skip
                  have b256 : mm_b (-2147483648) (2147483646) x1 := bd_lt_l (bd_nle q246) (bd_all x1) b128 (by decide)
                  have b257 : mm_b (-2147483647) (2147483647) y127 := bd_lt_r (bd_nle q246) (bd_all x1) b128 (by decide)
                  refine mw_aload_n dX8_readNumber_110 rfl 0 rfl ?_
                  refine mw_iconst dX8_readNumber_111 ki_2 ?_
                  refine mw_aload_n dX8_readNumber_112 rfl 0 rfl ?_
                  refine tw_geti (j := 4) dX8_readNumber_113 shC_1 rfl rfl (by decide) fX8_82 (fun v258 ev258 => ?_)
                  refine tc_Vv (as := [.int 2, .int v258]) (st := []) dX8_readNumber_116 rfl shC_1 rfl rfl mX8_60 t_X8_blame rfl (Nat.le_of_ble_eq_true rfl) (by decide) (by decide) (cx_X8_blame (g := g) S122 hI123 (2 : Int32) v258) (fun S259 h260 => ?_)
                  obtain ⟨hI263, hf264, x261, hx262⟩ := h260
                  have hF265 := fr_tr hF124 hf264 (by decide) (by decide) (by decide) (by decide)
                  have hE266 : F_X8_readNumber S x1 = F_X8_readNumber_L25tttc119 S259 y127 := (by subst ev258; subst hx221; subst hx215; subst ev134; subst ey129; exact hE132.trans (by rw [F_X8_readNumber_L25, if_neg q136, if_pos q222, if_neg q224, if_neg q225, if_neg q246, hx262]))
                  refine mw_aload_n dX8_readNumber_119 rfl 0 rfl ?_
                  refine tc_Vi (as := []) (st := []) dX8_readNumber_120 rfl shC_1 rfl rfl mX8_36 t_X8_isSound rfl (Nat.le_of_ble_eq_true rfl) (by decide) (by decide) (cx_X8_isSound (g := g) S259 hI263) (fun S267 v269 h268 => ?_)
                  obtain ⟨rfl, b270, x271, hx272⟩ := h268
                  refine mw_if_eq (tgt := 130) dX8_readNumber_123 (by decide) (fun q273 => ?_) (fun q273 => ?_)
                  · skip
                    have b274 : mm_b (0) (0) v269 := bd_eq_l q273 b270 n_0 (by decide)
                    refine mw_iconst dX8_readNumber_130 ki_m1 ?_
                    exact mw_iret rfl dX8_readNumber_131 rfl rfl ⟨S259, _, rfl, rfl, hI263, hF265, bd_w n_m1 (by decide), trivial, (by subst hx272; exact hE266.trans (by rw [F_X8_readNumber_L25tttc119, if_pos q273]))⟩
                  · skip
                    have b275 : mm_b (1) (1) v269 := bd_ne_l q273 b270 n_0 (by decide)
                    refine mw_iload_n dX8_readNumber_126 rfl 3 rfl ?_
                    refine mw_goto (tgt := 131) dX8_readNumber_127 (by decide) ?_
                    exact mw_iret rfl dX8_readNumber_131 rfl rfl ⟨S259, _, rfl, rfl, hI263, hF265, bd_w b257 (by decide), trivial, (by subst hx272; exact hE266.trans (by rw [F_X8_readNumber_L25tttc119, if_neg q273]))⟩
            · skip
              have b276 : mm_b (0) (0) y125 := bd_eq_l q224 b126 n_0 (by decide)
              refine mw_aload_n dX8_readNumber_88 rfl 0 rfl ?_
              refine mw_iconst dX8_readNumber_89 ki_1 ?_
              refine mw_aload_n dX8_readNumber_90 rfl 0 rfl ?_
              refine tw_geti (j := 3) dX8_readNumber_91 shC_1 rfl rfl (by decide) fX8_27 (fun v277 ev277 => ?_)
              have cv277 : y129 = v277 := ey129.trans ev277.symm
              subst cv277
              refine tc_Vv (as := [.int 1, .int y129]) (st := []) dX8_readNumber_94 rfl shC_1 rfl rfl mX8_60 t_X8_blame rfl (Nat.le_of_ble_eq_true rfl) (by decide) (by decide) (cx_X8_blame (g := g) S122 hI123 (1 : Int32) y129) (fun S278 h279 => ?_)
              obtain ⟨hI282, hf283, x280, hx281⟩ := h279
              have hF284 := fr_tr hF124 hf283 (by decide) (by decide) (by decide) (by decide)
              have hE285 : F_X8_readNumber S x1 = F_X8_readNumber_L25tttc119 S278 y127 := (by subst hx221; subst hx215; subst ev134; subst ey129; exact hE132.trans (by rw [F_X8_readNumber_L25, if_neg q136, if_pos q222, if_pos q224, hx281]))
              refine mw_goto (tgt := 119) dX8_readNumber_97 (by decide) ?_
              refine mw_aload_n dX8_readNumber_119 rfl 0 rfl ?_
              refine tc_Vi (as := []) (st := []) dX8_readNumber_120 rfl shC_1 rfl rfl mX8_36 t_X8_isSound rfl (Nat.le_of_ble_eq_true rfl) (by decide) (by decide) (cx_X8_isSound (g := g) S278 hI282) (fun S286 v288 h287 => ?_)
              obtain ⟨rfl, b289, x290, hx291⟩ := h287
              refine mw_if_eq (tgt := 130) dX8_readNumber_123 (by decide) (fun q292 => ?_) (fun q292 => ?_)
              · skip
                have b293 : mm_b (0) (0) v288 := bd_eq_l q292 b289 n_0 (by decide)
                refine mw_iconst dX8_readNumber_130 ki_m1 ?_
                exact mw_iret rfl dX8_readNumber_131 rfl rfl ⟨S278, _, rfl, rfl, hI282, hF284, bd_w n_m1 (by decide), trivial, (by subst hx291; exact hE285.trans (by rw [F_X8_readNumber_L25tttc119, if_pos q292]))⟩
              · skip
                have b294 : mm_b (1) (1) v288 := bd_ne_l q292 b289 n_0 (by decide)
                refine mw_iload_n dX8_readNumber_126 rfl 3 rfl ?_
                refine mw_goto (tgt := 131) dX8_readNumber_127 (by decide) ?_
                exact mw_iret rfl dX8_readNumber_131 rfl rfl ⟨S278, _, rfl, rfl, hI282, hF284, b128, trivial, (by subst hx291; exact hE285.trans (by rw [F_X8_readNumber_L25tttc119, if_neg q292]))⟩
          · skip
            have b295 : mm_b (1) (1) v218 := bd_ne_l q222 b219 n_0 (by decide)
            have b296 := Or.resolve_left x220 q222
            refine mw_iinc (ls' := fun v => [(2, .int v), (0, .ref 1), (1, .int x1), (3, .int y127)]) dX8_readNumber_46 2 rfl (by decide) (fun _ => rfl) (fun v297 ev297 => ?_)
            refine mw_iload_n dX8_readNumber_49 rfl 0 rfl ?_
            refine mw_iconst dX8_readNumber_50 ki_3 ?_
            refine mw_icmp_le (tgt := 58) dX8_readNumber_51 (by decide) (fun q298 => ?_) (fun q298 => ?_)
            · skip
              have b299 : mm_b (-2147483648) (3) v297 := bd_le_l q298 (bd_all v297) n_3 (by decide)
              refine mw_bipush dX8_readNumber_58 kb_10 ?_
              refine mw_iload_n dX8_readNumber_60 rfl 3 rfl ?_
              refine mw_imul dX8_readNumber_61 (fun v300 ev300 => ?_)
              refine mw_aload_n dX8_readNumber_62 rfl 1 rfl ?_
              refine tc_Vi (as := []) (st := [.int v300]) dX8_readNumber_63 rfl shC_1 rfl rfl mX8_44 t_X8_letterHere rfl (Nat.le_of_ble_eq_true rfl) (by decide) (by decide) (cx_X8_letterHere (g := g) S122 hI123) (fun S301 v303 h302 => ?_)
              obtain ⟨rfl, b304, x305, hx306⟩ := h302
              refine mw_iadd dX8_readNumber_66 (fun v307 ev307 => ?_)
              refine mw_bipush dX8_readNumber_67 kb_48 ?_
              refine mw_isub dX8_readNumber_69 (fun v308 ev308 => ?_)
              refine mw_istore_n (ls' := [(3, .int v308), (2, .int v297), (0, .ref 1), (1, .int x1)]) dX8_readNumber_70 rfl (by decide) rfl ?_
              refine mw_aload_n dX8_readNumber_71 rfl 2 rfl ?_
              refine mw_dup dX8_readNumber_72 rfl ?_
              refine tw_geti (j := 3) dX8_readNumber_73 shC_1 rfl rfl (by decide) fX8_27 (fun v309 ev309 => ?_)
              have cv309 : y129 = v309 := ey129.trans ev309.symm
              subst cv309
              refine mw_iconst dX8_readNumber_76 ki_1 ?_
              refine mw_iadd dX8_readNumber_77 (fun v310 ev310 => ?_)
              have b311 : mm_b (1) (240) v310 := bd_add ev310 b208 n_1 (by decide)
              refine tw_puti (j := 3) dX8_readNumber_78 shC_1 rfl rfl (by decide) fX8_27 rfl (by decide +kernel) ?_
              have hI312 : JC (mm_up S122 1 3 v310) := JIC_put hI123 b311 (by decide +kernel)
              generalize hS313 : (mm_up S122 1 3 v310) = S313 at hI312 ⊢
              have hF314 := fr_upA hF124 hS313 (by decide)
              refine mw_goto (tgt := 25) dX8_readNumber_81 (by decide) ?_
              refine mw_ls [2, 3, 1, 0] rfl ?_
              exact ih25 S313 v297 v308 v310 (ms_add ev310 b208 n_1 (by decide) hm131) hI312 hF314 (bd_w b299 (by decide)) (bd_all v308) (bd_w b311 (by decide)) (up_eq hS313) (by subst hS313; subst ev310; subst ev308; subst ev307; subst hx306; subst ev300; subst ev297; subst hx221; subst hx215; subst ev134; subst ey129; exact hE132.trans (by rw [F_X8_readNumber_L25, if_neg q136, if_neg q222, if_pos q298]))
            · skip
              have b315 : mm_b (4) (2147483647) v297 := bd_lt_r (bd_nle q298) n_3 (bd_all v297) (by decide)
              refine mw_iload_n dX8_readNumber_54 rfl 3 rfl ?_
              refine mw_goto (tgt := 70) dX8_readNumber_55 (by decide) ?_
              refine mw_istore_n (ls' := [(3, .int y127), (2, .int v297), (0, .ref 1), (1, .int x1)]) dX8_readNumber_70 rfl (by decide) rfl ?_
              refine mw_aload_n dX8_readNumber_71 rfl 2 rfl ?_
              refine mw_dup dX8_readNumber_72 rfl ?_
              refine tw_geti (j := 3) dX8_readNumber_73 shC_1 rfl rfl (by decide) fX8_27 (fun v316 ev316 => ?_)
              have cv316 : y129 = v316 := ey129.trans ev316.symm
              subst cv316
              refine mw_iconst dX8_readNumber_76 ki_1 ?_
              refine mw_iadd dX8_readNumber_77 (fun v317 ev317 => ?_)
              have b318 : mm_b (1) (240) v317 := bd_add ev317 b208 n_1 (by decide)
              refine tw_puti (j := 3) dX8_readNumber_78 shC_1 rfl rfl (by decide) fX8_27 rfl (by decide +kernel) ?_
              have hI319 : JC (mm_up S122 1 3 v317) := JIC_put hI123 b318 (by decide +kernel)
              generalize hS320 : (mm_up S122 1 3 v317) = S320 at hI319 ⊢
              have hF321 := fr_upA hF124 hS320 (by decide)
              refine mw_goto (tgt := 25) dX8_readNumber_81 (by decide) ?_
              refine mw_ls [2, 3, 1, 0] rfl ?_
              exact ih25 S320 v297 y127 v317 (ms_add ev317 b208 n_1 (by decide) hm131) hI319 hF321 (bd_w b315 (by decide)) b128 (bd_w b318 (by decide)) (up_eq hS320) (by subst hS320; subst ev317; subst ev297; subst hx221; subst hx215; subst ev134; subst ey129; exact hE132.trans (by rw [F_X8_readNumber_L25, if_neg q136, if_neg q222, if_neg q298]))
    refine mw_ls [2, 3, 1, 0] rfl ?_
    exact cut25 242 S120 (0 : Int32) (0 : Int32) v117 (by have hz := b118; omega) hI119 hF121 (bd_w n_0 (by decide)) (bd_w n_0 (by decide)) b118 (ev117.trans (up_neF hS120 (by decide))) (by subst hS120; subst ev117; exact hE116.trans (by rw [F_X8_readNumber_tc13]))
  · skip
    have b322 : mm_b (0) (0) v103 := bd_eq_l q107 b104 n_0 (by decide)
    refine mw_iconst dX8_readNumber_7 ki_m1 ?_
    exact mw_iret rfl dX8_readNumber_8 rfl rfl ⟨S, _, rfl, rfl, hI, hF, bd_w n_m1 (by decide), trivial, (by subst hx106; rw [F_X8_readNumber, if_pos q107])⟩
def F_X8_readPerson_tu32c35c42fc50 (S137 : mm_S) : mm_S := S137
def F_X8_readPerson_tu32c35c42 (v125 : Int32) (S123 : mm_S) (a1 : Nat) (v114 : Int32) : mm_S := (if v125 = (0 : Int32) then S123 else (F_X8_readPerson_tu32c35c42fc50 (F_X6_addPerson S123 a1 v114)))
def F_X8_readPerson_tu32c35 (S112 : mm_S) (a1 : Nat) (v114 : Int32) : mm_S := (F_X8_readPerson_tu32c35c42 (F_X8_readSign S112 (59 : Int32)).1 (F_X8_readSign S112 (59 : Int32)).2 a1 v114)
def F_X8_readPerson_tu32 (S109 : mm_S) (a1 : Nat) : mm_S := (F_X8_readPerson_tu32c35 (F_X8_readNumber S109 (9 : Int32)).2 a1 (F_X8_readNumber S109 (9 : Int32)).1)
def F_X8_readPerson (S : mm_S) (a1 : Nat) : mm_S := (if (S.1 a1 0) < (7 : Int32) then (F_X8_readPerson_tu32 (mm_up S 1 3 ((S.1 1 3) + (1 : Int32))) a1) else (F_X8_readPerson_tu32c35c42fc50 (F_X8_blame S (3 : Int32) (S.1 1 3))))
set_option maxRecDepth 100000 in
set_option maxHeartbeats 4000000 in
theorem cx_X8_readPerson {g : mm_G} (S : mm_S) (hI : JC S) (a1 : Nat) (ha1 : a1 ∈ LC_parish) (hp0 : mm_b (0) (239) (S.1 1 3)) : mc g yX8_readPerson cX8_readPerson 3 none (mm_rm 3) [.ref 1, .ref a1] (mm_enc shC S) (qv shC (fun S1 => JC S1 ∧ fr [1, 3, 4, 5, 6, 9, 10, 11, 12] [] true true S S1 ∧ True ∧ F_X8_readPerson S a1 = S1)) := by
  refine mc_of2 (own := RX8) (ini := false) (ls := [(0, .ref 1), (1, .ref a1)]) (by decide) (Nat.le_of_ble_eq_true rfl) rfl (by decide) rfl ?_
  have hF : fr [1, 3, 4, 5, 6, 9, 10, 11, 12] [] true true S S := fr_rf
  obtain ⟨hy0, ehy0⟩ : ∃ y : Int32, y = S.1 1 3 := ⟨_, rfl⟩
  have bhy0 : mm_b (0) (239) hy0 := by rw [ehy0]; exact hp0
  refine mw_aload_n dX8_readPerson_0 rfl 1 rfl ?_
  refine tw_geti (j := 0) dX8_readPerson_1 (shC_parish_0 a1 ha1) rfl rfl (by decide) fX8_64 (fun v101 ev101 => ?_)
  have b102 : mm_b (0) (7) v101 := JIC_fld hI ev101 (tbC_parish_0_0 a1 ha1) (by decide)
  refine mw_bipush dX8_readPerson_4 kb_7 ?_
  refine mw_icmp_lt (tgt := 19) dX8_readPerson_6 (by decide) (fun q103 => ?_) (fun q103 => ?_)
  · skip
    have b104 : mm_b (0) (6) v101 := bd_lt_l q103 b102 n_7 (by decide)
    refine mw_aload_n dX8_readPerson_19 rfl 0 rfl ?_
    refine mw_dup dX8_readPerson_20 rfl ?_
    refine tw_geti (j := 3) dX8_readPerson_21 shC_1 rfl rfl (by decide) fX8_27 (fun v105 ev105 => ?_)
    have cv105 : hy0 = v105 := ehy0.trans ev105.symm
    subst cv105
    refine mw_iconst dX8_readPerson_24 ki_1 ?_
    refine mw_iadd dX8_readPerson_25 (fun v106 ev106 => ?_)
    have b107 : mm_b (1) (240) v106 := bd_add ev106 bhy0 n_1 (by decide)
    refine tw_puti (j := 3) dX8_readPerson_26 shC_1 rfl rfl (by decide) fX8_27 rfl (by decide +kernel) ?_
    have hI108 : JC (mm_up S 1 3 v106) := JIC_put hI b107 (by decide +kernel)
    generalize hS109 : (mm_up S 1 3 v106) = S109 at hI108 ⊢
    have hF110 := fr_upA hF hS109 (by decide)
    refine mw_aload_n dX8_readPerson_29 rfl 0 rfl ?_
    refine mw_bipush dX8_readPerson_30 kb_9 ?_
    have hE111 : F_X8_readPerson S a1 = F_X8_readPerson_tu32 S109 a1 := (by subst hS109; subst ev106; subst ev101; subst ehy0; rw [F_X8_readPerson, if_pos q103])
    refine tc_Vi (as := [.int 9]) (st := []) dX8_readPerson_32 rfl shC_1 rfl rfl mX8_67 t_X8_readNumber rfl (Nat.le_of_ble_eq_true rfl) (by decide) (by decide) (cx_X8_readNumber (g := g) S109 hI108 (9 : Int32)) (fun S112 v114 h113 => ?_)
    obtain ⟨hI119, hf120, b115, x116, hx117⟩ := h113
    have hF121 := fr_tr hF110 hf120 (by decide) (by decide) (by decide) (by decide)
    have hE122 : F_X8_readPerson S a1 = F_X8_readPerson_tu32c35 S112 a1 v114 := (by exact hE111.trans (by rw [F_X8_readPerson_tu32, hx117]))
    refine mw_istore_n (ls' := [(2, .int v114), (0, .ref 1), (1, .ref a1)]) dX8_readPerson_35 rfl (by decide) rfl ?_
    refine mw_aload_n dX8_readPerson_36 rfl 1 rfl ?_
    refine mw_bipush dX8_readPerson_37 kb_59 ?_
    refine tc_Vi (as := [.int 59]) (st := []) dX8_readPerson_39 rfl shC_1 rfl rfl mX8_71 t_X8_readSign rfl (Nat.le_of_ble_eq_true rfl) (by decide) (by decide) (cx_X8_readSign (g := g) S112 hI119 (59 : Int32) (bd_w n_59 (by decide))) (fun S123 v125 h124 => ?_)
    obtain ⟨hI130, hf131, b126, x127, hx128⟩ := h124
    have hF132 := fr_tr hF121 hf131 (by decide) (by decide) (by decide) (by decide)
    have hE133 : F_X8_readPerson S a1 = F_X8_readPerson_tu32c35c42 v125 S123 a1 v114 := (by exact hE122.trans (by rw [F_X8_readPerson_tu32c35, hx128]))
    refine mw_if_eq (tgt := 50) dX8_readPerson_42 (by decide) (fun q134 => ?_) (fun q134 => ?_)
    · skip
      have b135 : mm_b (0) (0) v125 := bd_eq_l q134 b126 n_0 (by decide)
      exact mw_vret rfl dX8_readPerson_50 rfl rfl ⟨S123, rfl, rfl, ⟨hI130, hF132, trivial, (by exact hE133.trans (by rw [F_X8_readPerson_tu32c35c42, if_pos q134]))⟩⟩
    · skip
      have b136 : mm_b (1) (1) v125 := bd_ne_l q134 b126 n_0 (by decide)
      refine mw_aload_n dX8_readPerson_45 rfl 2 rfl ?_
      refine mw_iload_n dX8_readPerson_46 rfl 0 rfl ?_
      refine tc_Vv (as := [.int v114]) (st := []) dX8_readPerson_47 rfl (shC_parish_0 a1 ha1) rfl rfl mX8_75 t_X6_addPerson rfl (Nat.le_of_ble_eq_true rfl) (by decide) (by decide) (cx_X6_addPerson (g := g) S123 hI130 a1 ha1 v114) (fun S137 h138 => ?_)
      obtain ⟨hI141, hf142, x139, hx140⟩ := h138
      have hF143 := fr_tr hF132 hf142 (by decide) (by decide) (by decide) (by decide)
      have hE144 : F_X8_readPerson S a1 = F_X8_readPerson_tu32c35c42fc50 S137 := (by exact hE133.trans (by rw [F_X8_readPerson_tu32c35c42, if_neg q134, hx140]))
      exact mw_vret rfl dX8_readPerson_50 rfl rfl ⟨S137, rfl, rfl, ⟨hI141, hF143, trivial, (by exact hE144.trans (by rw [F_X8_readPerson_tu32c35c42fc50]))⟩⟩
  · skip
    have b145 : mm_b (7) (7) v101 := bd_le_r (bd_nlt q103) n_7 b102 (by decide)
    refine mw_aload_n dX8_readPerson_9 rfl 0 rfl ?_
    refine mw_iconst dX8_readPerson_10 ki_3 ?_
    refine mw_aload_n dX8_readPerson_11 rfl 0 rfl ?_
    refine tw_geti (j := 3) dX8_readPerson_12 shC_1 rfl rfl (by decide) fX8_27 (fun v146 ev146 => ?_)
    have cv146 : hy0 = v146 := ehy0.trans ev146.symm
    subst cv146
    refine tc_Vv (as := [.int 3, .int hy0]) (st := []) dX8_readPerson_15 rfl shC_1 rfl rfl mX8_60 t_X8_blame rfl (Nat.le_of_ble_eq_true rfl) (by decide) (by decide) (cx_X8_blame (g := g) S hI (3 : Int32) hy0) (fun S147 h148 => ?_)
    obtain ⟨hI151, hf152, x149, hx150⟩ := h148
    have hF153 := fr_tr hF hf152 (by decide) (by decide) (by decide) (by decide)
    have hE154 : F_X8_readPerson S a1 = F_X8_readPerson_tu32c35c42fc50 S147 := (by subst ev101; subst ehy0; rw [F_X8_readPerson, if_neg q103, hx150])
    exact mw_vret rfl dX8_readPerson_18 rfl rfl ⟨S147, rfl, rfl, ⟨hI151, hF153, trivial, (by exact hE154.trans (by rw [F_X8_readPerson_tu32c35c42fc50]))⟩⟩
def F_X8_readHeir_c6fftfc54 (v103 : Int32) (S135 : mm_S) : Int32 × mm_S := (v103, S135)
def F_X8_readHeir_c6 (S101 : mm_S) (v103 : Int32) (a1 : Nat) (x2 : Int32) : Int32 × mm_S := (if (F_X8_isSound S101) = (0 : Int32) then (v103, S101) else (if v103 = (9 : Int32) then (v103, S101) else (if (F_X6_hasPerson S101 a1 v103) = (0 : Int32) then (F_X8_readHeir_c6fftfc54 v103 (F_X8_blame S101 (2 : Int32) (S101.1 1 4))) else (if v103 = x2 then (F_X8_readHeir_c6fftfc54 v103 (F_X8_blame S101 (4 : Int32) (S101.1 1 4))) else (v103, S101)))))
def F_X8_readHeir (S : mm_S) (a1 : Nat) (x2 : Int32) : Int32 × mm_S := (F_X8_readHeir_c6 (F_X8_readNumber S (9 : Int32)).2 (F_X8_readNumber S (9 : Int32)).1 a1 x2)
set_option maxRecDepth 100000 in
set_option maxHeartbeats 4000000 in
theorem cx_X8_readHeir {g : mm_G} (S : mm_S) (hI : JC S) (a1 : Nat) (ha1 : a1 ∈ LC_parish) (x2 : Int32) : mc g yX8_readHeir cX8_readHeir 4 (some .int) (mm_rm 2) [.ref 1, .ref a1, .int x2] (mm_enc shC S) (qi shC (fun S1 v => JC S1 ∧ fr [1] [] true true S S1 ∧ mm_b (-2147483648) (2147483647) v ∧ (True) ∧ F_X8_readHeir S a1 x2 = (v, S1))) := by
  refine mc_of2 (own := RX8) (ini := false) (ls := [(0, .ref 1), (1, .ref a1), (2, .int x2)]) (by decide) (Nat.le_of_ble_eq_true rfl) rfl (by decide) rfl ?_
  have hF : fr [1] [] true true S S := fr_rf
  refine mw_aload_n dX8_readHeir_0 rfl 0 rfl ?_
  refine mw_bipush dX8_readHeir_1 kb_9 ?_
  refine tc_Vi (as := [.int 9]) (st := []) dX8_readHeir_3 rfl shC_1 rfl rfl mX8_67 t_X8_readNumber rfl (Nat.le_of_ble_eq_true rfl) (by decide) (by decide) (cx_X8_readNumber (g := g) S hI (9 : Int32)) (fun S101 v103 h102 => ?_)
  obtain ⟨hI108, hf109, b104, x105, hx106⟩ := h102
  have hF110 := fr_tr hF hf109 (by decide) (by decide) (by decide) (by decide)
  have hE111 : F_X8_readHeir S a1 x2 = F_X8_readHeir_c6 S101 v103 a1 x2 := (by rw [F_X8_readHeir, hx106])
  refine mw_istore_n (ls' := [(3, .int v103), (0, .ref 1), (1, .ref a1), (2, .int x2)]) dX8_readHeir_6 rfl (by decide) rfl ?_
  refine mw_aload_n dX8_readHeir_7 rfl 1 rfl ?_
  refine tc_Vi (as := []) (st := []) dX8_readHeir_8 rfl shC_1 rfl rfl mX8_36 t_X8_isSound rfl (Nat.le_of_ble_eq_true rfl) (by decide) (by decide) (cx_X8_isSound (g := g) S101 hI108) (fun S112 v114 h113 => ?_)
  obtain ⟨rfl, b115, x116, hx117⟩ := h113
  refine mw_if_eq (tgt := 54) dX8_readHeir_11 (by decide) (fun q118 => ?_) (fun q118 => ?_)
  · skip
    have b119 : mm_b (0) (0) v114 := bd_eq_l q118 b115 n_0 (by decide)
    refine mw_iload_n dX8_readHeir_54 rfl 0 rfl ?_
    exact mw_iret rfl dX8_readHeir_55 rfl rfl ⟨S101, _, rfl, rfl, hI108, hF110, b104, trivial, (by subst hx117; exact hE111.trans (by rw [F_X8_readHeir_c6, if_pos q118]))⟩
  · skip
    have b120 : mm_b (1) (1) v114 := bd_ne_l q118 b115 n_0 (by decide)
    refine mw_iload_n dX8_readHeir_14 rfl 0 rfl ?_
    refine mw_bipush dX8_readHeir_15 kb_9 ?_
    refine mw_icmp_eq (tgt := 54) dX8_readHeir_17 (by decide) (fun q121 => ?_) (fun q121 => ?_)
    · skip
      have b122 : mm_b (9) (9) v103 := bd_eq_l q121 b104 n_9 (by decide)
      refine mw_iload_n dX8_readHeir_54 rfl 0 rfl ?_
      exact mw_iret rfl dX8_readHeir_55 rfl rfl ⟨S101, _, rfl, rfl, hI108, hF110, bd_w b122 (by decide), trivial, (by subst hx117; exact hE111.trans (by rw [F_X8_readHeir_c6, if_neg q118, if_pos q121]))⟩
    · skip
      refine mw_aload_n dX8_readHeir_20 rfl 2 rfl ?_
      refine mw_iload_n dX8_readHeir_21 rfl 0 rfl ?_
      refine tc_Vi (as := [.int v103]) (st := []) dX8_readHeir_22 rfl (shC_parish_0 a1 ha1) rfl rfl mX8_93 t_X6_hasPerson rfl (Nat.le_of_ble_eq_true rfl) (by decide) (by decide) (cx_X6_hasPerson (g := g) S101 hI108 a1 ha1 v103) (fun S123 v125 h124 => ?_)
      obtain ⟨rfl, b126, x127, hx128⟩ := h124
      refine mw_if_ne (tgt := 40) dX8_readHeir_25 (by decide) (fun q129 => ?_) (fun q129 => ?_)
      · skip
        have b130 : mm_b (1) (1) v125 := bd_ne_l q129 b126 n_0 (by decide)
        have b131 := Or.resolve_left x127 q129
        refine mw_iload_n dX8_readHeir_40 rfl 0 rfl ?_
        refine mw_iload_n dX8_readHeir_41 rfl 3 rfl ?_
        refine mw_icmp_ne (tgt := 54) dX8_readHeir_42 (by decide) (fun q132 => ?_) (fun q132 => ?_)
        · skip
          refine mw_iload_n dX8_readHeir_54 rfl 0 rfl ?_
          exact mw_iret rfl dX8_readHeir_55 rfl rfl ⟨S101, _, rfl, rfl, hI108, hF110, bd_w b131 (by decide), trivial, (by subst hx128; subst hx117; exact hE111.trans (by rw [F_X8_readHeir_c6, if_neg q118, if_neg q121, if_neg q129, if_neg q132]))⟩
        · skip
          have b133 : mm_b (0) (6) x2 := bd_eq_l (Eq.symm q132) (bd_all x2) b131 (by decide)
          refine mw_aload_n dX8_readHeir_45 rfl 1 rfl ?_
          refine mw_iconst dX8_readHeir_46 ki_4 ?_
          refine mw_aload_n dX8_readHeir_47 rfl 1 rfl ?_
          refine tw_geti (j := 4) dX8_readHeir_48 shC_1 rfl rfl (by decide) fX8_82 (fun v134 ev134 => ?_)
          refine tc_Vv (as := [.int 4, .int v134]) (st := []) dX8_readHeir_51 rfl shC_1 rfl rfl mX8_60 t_X8_blame rfl (Nat.le_of_ble_eq_true rfl) (by decide) (by decide) (cx_X8_blame (g := g) S101 hI108 (4 : Int32) v134) (fun S135 h136 => ?_)
          obtain ⟨hI139, hf140, x137, hx138⟩ := h136
          have hF141 := fr_tr hF110 hf140 (by decide) (by decide) (by decide) (by decide)
          have hE142 : F_X8_readHeir S a1 x2 = F_X8_readHeir_c6fftfc54 v103 S135 := (by subst ev134; subst hx128; subst hx117; exact hE111.trans (by rw [F_X8_readHeir_c6, if_neg q118, if_neg q121, if_neg q129, if_pos q132, hx138]))
          refine mw_iload_n dX8_readHeir_54 rfl 0 rfl ?_
          exact mw_iret rfl dX8_readHeir_55 rfl rfl ⟨S135, _, rfl, rfl, hI139, hF141, bd_w b131 (by decide), trivial, (by exact hE142.trans (by rw [F_X8_readHeir_c6fftfc54]))⟩
      · skip
        have b143 : mm_b (0) (0) v125 := bd_eq_l q129 b126 n_0 (by decide)
        refine mw_aload_n dX8_readHeir_28 rfl 1 rfl ?_
        refine mw_iconst dX8_readHeir_29 ki_2 ?_
        refine mw_aload_n dX8_readHeir_30 rfl 1 rfl ?_
        refine tw_geti (j := 4) dX8_readHeir_31 shC_1 rfl rfl (by decide) fX8_82 (fun v144 ev144 => ?_)
        refine tc_Vv (as := [.int 2, .int v144]) (st := []) dX8_readHeir_34 rfl shC_1 rfl rfl mX8_60 t_X8_blame rfl (Nat.le_of_ble_eq_true rfl) (by decide) (by decide) (cx_X8_blame (g := g) S101 hI108 (2 : Int32) v144) (fun S145 h146 => ?_)
        obtain ⟨hI149, hf150, x147, hx148⟩ := h146
        have hF151 := fr_tr hF110 hf150 (by decide) (by decide) (by decide) (by decide)
        have hE152 : F_X8_readHeir S a1 x2 = F_X8_readHeir_c6fftfc54 v103 S145 := (by subst ev144; subst hx128; subst hx117; exact hE111.trans (by rw [F_X8_readHeir_c6, if_neg q118, if_neg q121, if_pos q129, hx148]))
        refine mw_goto (tgt := 54) dX8_readHeir_37 (by decide) ?_
        refine mw_iload_n dX8_readHeir_54 rfl 0 rfl ?_
        exact mw_iret rfl dX8_readHeir_55 rfl rfl ⟨S145, _, rfl, rfl, hI149, hF151, b104, trivial, (by exact hE152.trans (by rw [F_X8_readHeir_c6fftfc54]))⟩
def F_X8_readWill_u17c20tc51c58c66fc77 (S167 : mm_S) : mm_S := S167
def F_X8_readWill_u17c20tc51c58c66 (v155 : Int32) (S153 : mm_S) (a1 : Nat) (v114 : Int32) (v133 : Int32) (v144 : Int32) : mm_S := (if v155 = (0 : Int32) then S153 else (F_X8_readWill_u17c20tc51c58c66fc77 (F_X6_addWill S153 a1 v114 v133 v144)))
def F_X8_readWill_u17c20tc51c58 (S142 : mm_S) (a1 : Nat) (v114 : Int32) (v133 : Int32) (v144 : Int32) : mm_S := (F_X8_readWill_u17c20tc51c58c66 (F_X8_readSign S142 (59 : Int32)).1 (F_X8_readSign S142 (59 : Int32)).2 a1 v114 v133 v144)
def F_X8_readWill_u17c20tc51 (S131 : mm_S) (a1 : Nat) (v114 : Int32) (v133 : Int32) : mm_S := (F_X8_readWill_u17c20tc51c58 (F_X8_readHeir S131 a1 v114).2 a1 v114 v133 (F_X8_readHeir S131 a1 v114).1)
def F_X8_readWill_u17c20ffc45 (S231 : mm_S) (a1 : Nat) (v114 : Int32) : mm_S := (F_X8_readWill_u17c20tc51 (F_X8_readHeir S231 a1 v114).2 a1 v114 (F_X8_readHeir S231 a1 v114).1)
def F_X8_readWill_u17c20 (S112 : mm_S) (a1 : Nat) (v114 : Int32) : mm_S := (if (F_X8_isSound S112) = (0 : Int32) then (F_X8_readWill_u17c20tc51 (F_X8_readHeir S112 a1 v114).2 a1 v114 (F_X8_readHeir S112 a1 v114).1) else (if (F_X6_hasWill S112 a1 v114) = (0 : Int32) then (F_X8_readWill_u17c20tc51 (F_X8_readHeir S112 a1 v114).2 a1 v114 (F_X8_readHeir S112 a1 v114).1) else (F_X8_readWill_u17c20ffc45 (F_X8_blame S112 (4 : Int32) (S112.1 1 4)) a1 v114)))
def F_X8_readWill_u17 (S105 : mm_S) (v109 : Int32) (a1 : Nat) : mm_S := (F_X8_readWill_u17c20 (F_X8_readNumber S105 v109).2 a1 (F_X8_readNumber S105 v109).1)
def F_X8_readWill (S : mm_S) (a1 : Nat) : mm_S := (F_X8_readWill_u17 (mm_up S 1 3 ((S.1 1 3) + (1 : Int32))) (((mm_up S 1 3 ((S.1 1 3) + (1 : Int32))).1 a1 0) - (1 : Int32)) a1)
set_option maxRecDepth 100000 in
set_option maxHeartbeats 4000000 in
theorem cx_X8_readWill {g : mm_G} (S : mm_S) (hI : JC S) (a1 : Nat) (ha1 : a1 ∈ LC_parish) (hp0 : mm_b (0) (239) (S.1 1 3)) : mc g yX8_readWill cX8_readWill 5 none (mm_rm 3) [.ref 1, .ref a1] (mm_enc shC S) (qv shC (fun S1 => JC S1 ∧ fr [1, 3, 5, 6, 9, 11, 12] [] true true S S1 ∧ True ∧ F_X8_readWill S a1 = S1)) := by
  refine mc_of2 (own := RX8) (ini := false) (ls := [(0, .ref 1), (1, .ref a1)]) (by decide) (Nat.le_of_ble_eq_true rfl) rfl (by decide) rfl ?_
  have hF : fr [1, 3, 5, 6, 9, 11, 12] [] true true S S := fr_rf
  obtain ⟨hy0, ehy0⟩ : ∃ y : Int32, y = S.1 1 3 := ⟨_, rfl⟩
  have bhy0 : mm_b (0) (239) hy0 := by rw [ehy0]; exact hp0
  refine mw_aload_n dX8_readWill_0 rfl 0 rfl ?_
  refine mw_dup dX8_readWill_1 rfl ?_
  refine tw_geti (j := 3) dX8_readWill_2 shC_1 rfl rfl (by decide) fX8_27 (fun v101 ev101 => ?_)
  have cv101 : hy0 = v101 := ehy0.trans ev101.symm
  subst cv101
  refine mw_iconst dX8_readWill_5 ki_1 ?_
  refine mw_iadd dX8_readWill_6 (fun v102 ev102 => ?_)
  have b103 : mm_b (1) (240) v102 := bd_add ev102 bhy0 n_1 (by decide)
  refine tw_puti (j := 3) dX8_readWill_7 shC_1 rfl rfl (by decide) fX8_27 rfl (by decide +kernel) ?_
  have hI104 : JC (mm_up S 1 3 v102) := JIC_put hI b103 (by decide +kernel)
  generalize hS105 : (mm_up S 1 3 v102) = S105 at hI104 ⊢
  have hF106 := fr_upA hF hS105 (by decide)
  refine mw_aload_n dX8_readWill_10 rfl 0 rfl ?_
  refine mw_aload_n dX8_readWill_11 rfl 1 rfl ?_
  refine tw_geti (j := 0) dX8_readWill_12 (shC_parish_0 a1 ha1) rfl rfl (by decide) fX8_64 (fun v107 ev107 => ?_)
  have b108 : mm_b (0) (7) v107 := JIC_fld hI104 ev107 (tbC_parish_0_0 a1 ha1) (by decide)
  refine mw_iconst dX8_readWill_15 ki_1 ?_
  refine mw_isub dX8_readWill_16 (fun v109 ev109 => ?_)
  have b110 : mm_b (-1) (6) v109 := bd_sub ev109 b108 n_1 (by decide)
  have hE111 : F_X8_readWill S a1 = F_X8_readWill_u17 S105 v109 a1 := (by subst ev109; subst ev107; subst hS105; subst ev102; subst ehy0; rw [F_X8_readWill])
  refine tc_Vi (as := [.int v109]) (st := []) dX8_readWill_17 rfl shC_1 rfl rfl mX8_67 t_X8_readNumber rfl (Nat.le_of_ble_eq_true rfl) (by decide) (by decide) (cx_X8_readNumber (g := g) S105 hI104 v109) (fun S112 v114 h113 => ?_)
  obtain ⟨hI119, hf120, b115, x116, hx117⟩ := h113
  have hF121 := fr_tr hF106 hf120 (by decide) (by decide) (by decide) (by decide)
  have hE122 : F_X8_readWill S a1 = F_X8_readWill_u17c20 S112 a1 v114 := (by exact hE111.trans (by rw [F_X8_readWill_u17, hx117]))
  refine mw_istore_n (ls' := [(2, .int v114), (0, .ref 1), (1, .ref a1)]) dX8_readWill_20 rfl (by decide) rfl ?_
  refine mw_aload_n dX8_readWill_21 rfl 1 rfl ?_
  refine tc_Vi (as := []) (st := []) dX8_readWill_22 rfl shC_1 rfl rfl mX8_36 t_X8_isSound rfl (Nat.le_of_ble_eq_true rfl) (by decide) (by decide) (cx_X8_isSound (g := g) S112 hI119) (fun S123 v125 h124 => ?_)
  obtain ⟨rfl, b126, x127, hx128⟩ := h124
  refine mw_if_eq (tgt := 45) dX8_readWill_25 (by decide) (fun q129 => ?_) (fun q129 => ?_)
  · skip
    have b130 : mm_b (0) (0) v125 := bd_eq_l q129 b126 n_0 (by decide)
    refine mw_aload_n dX8_readWill_45 rfl 1 rfl ?_
    refine mw_aload_n dX8_readWill_46 rfl 2 rfl ?_
    refine mw_iload_n dX8_readWill_47 rfl 0 rfl ?_
    refine tc_Vi (as := [.ref a1, .int v114]) (st := []) dX8_readWill_48 rfl shC_1 rfl rfl mX8_85 t_X8_readHeir rfl (Nat.le_of_ble_eq_true rfl) (by decide) (by decide) (cx_X8_readHeir (g := g) S112 hI119 a1 ha1 v114) (fun S131 v133 h132 => ?_)
    obtain ⟨hI138, hf139, b134, x135, hx136⟩ := h132
    have hF140 := fr_tr hF121 hf139 (by decide) (by decide) (by decide) (by decide)
    have hE141 : F_X8_readWill S a1 = F_X8_readWill_u17c20tc51 S131 a1 v114 v133 := (by subst hx128; exact hE122.trans (by rw [F_X8_readWill_u17c20, if_pos q129, hx136]))
    refine mw_istore_n (ls' := [(3, .int v133), (2, .int v114), (0, .ref 1), (1, .ref a1)]) dX8_readWill_51 rfl (by decide) rfl ?_
    refine mw_aload_n dX8_readWill_52 rfl 2 rfl ?_
    refine mw_aload_n dX8_readWill_53 rfl 3 rfl ?_
    refine mw_iload_n dX8_readWill_54 rfl 1 rfl ?_
    refine tc_Vi (as := [.ref a1, .int v114]) (st := []) dX8_readWill_55 rfl shC_1 rfl rfl mX8_85 t_X8_readHeir rfl (Nat.le_of_ble_eq_true rfl) (by decide) (by decide) (cx_X8_readHeir (g := g) S131 hI138 a1 ha1 v114) (fun S142 v144 h143 => ?_)
    obtain ⟨hI149, hf150, b145, x146, hx147⟩ := h143
    have hF151 := fr_tr hF140 hf150 (by decide) (by decide) (by decide) (by decide)
    have hE152 : F_X8_readWill S a1 = F_X8_readWill_u17c20tc51c58 S142 a1 v114 v133 v144 := (by exact hE141.trans (by rw [F_X8_readWill_u17c20tc51, hx147]))
    refine mw_istore (ls' := [(4, .int v144), (3, .int v133), (2, .int v114), (0, .ref 1), (1, .ref a1)]) dX8_readWill_58 (by decide) rfl ?_
    refine mw_aload_n dX8_readWill_60 rfl 3 rfl ?_
    refine mw_bipush dX8_readWill_61 kb_59 ?_
    refine tc_Vi (as := [.int 59]) (st := []) dX8_readWill_63 rfl shC_1 rfl rfl mX8_71 t_X8_readSign rfl (Nat.le_of_ble_eq_true rfl) (by decide) (by decide) (cx_X8_readSign (g := g) S142 hI149 (59 : Int32) (bd_w n_59 (by decide))) (fun S153 v155 h154 => ?_)
    obtain ⟨hI160, hf161, b156, x157, hx158⟩ := h154
    have hF162 := fr_tr hF151 hf161 (by decide) (by decide) (by decide) (by decide)
    have hE163 : F_X8_readWill S a1 = F_X8_readWill_u17c20tc51c58c66 v155 S153 a1 v114 v133 v144 := (by exact hE152.trans (by rw [F_X8_readWill_u17c20tc51c58, hx158]))
    refine mw_if_eq (tgt := 77) dX8_readWill_66 (by decide) (fun q164 => ?_) (fun q164 => ?_)
    · skip
      have b165 : mm_b (0) (0) v155 := bd_eq_l q164 b156 n_0 (by decide)
      exact mw_vret rfl dX8_readWill_77 rfl rfl ⟨S153, rfl, rfl, ⟨hI160, hF162, trivial, (by exact hE163.trans (by rw [F_X8_readWill_u17c20tc51c58c66, if_pos q164]))⟩⟩
    · skip
      have b166 : mm_b (1) (1) v155 := bd_ne_l q164 b156 n_0 (by decide)
      refine mw_aload_n dX8_readWill_69 rfl 4 rfl ?_
      refine mw_iload_n dX8_readWill_70 rfl 2 rfl ?_
      refine mw_iload_n dX8_readWill_71 rfl 1 rfl ?_
      refine mw_iload dX8_readWill_72 0 rfl ?_
      refine tc_Vv (as := [.int v114, .int v133, .int v144]) (st := []) dX8_readWill_74 rfl (shC_parish_0 a1 ha1) rfl rfl mX8_89 t_X6_addWill rfl (Nat.le_of_ble_eq_true rfl) (by decide) (by decide) (cx_X6_addWill (g := g) S153 hI160 a1 ha1 v114 v133 v144) (fun S167 h168 => ?_)
      obtain ⟨hI171, hf172, x169, hx170⟩ := h168
      have hF173 := fr_tr hF162 hf172 (by decide) (by decide) (by decide) (by decide)
      have hE174 : F_X8_readWill S a1 = F_X8_readWill_u17c20tc51c58c66fc77 S167 := (by exact hE163.trans (by rw [F_X8_readWill_u17c20tc51c58c66, if_neg q164, hx170]))
      exact mw_vret rfl dX8_readWill_77 rfl rfl ⟨S167, rfl, rfl, ⟨hI171, hF173, trivial, (by exact hE174.trans (by rw [F_X8_readWill_u17c20tc51c58c66fc77]))⟩⟩
  · skip
    have b175 : mm_b (1) (1) v125 := bd_ne_l q129 b126 n_0 (by decide)
    refine mw_aload_n dX8_readWill_28 rfl 2 rfl ?_
    refine mw_iload_n dX8_readWill_29 rfl 0 rfl ?_
    refine tc_Vi (as := [.int v114]) (st := []) dX8_readWill_30 rfl (shC_parish_0 a1 ha1) rfl rfl mX8_79 t_X6_hasWill rfl (Nat.le_of_ble_eq_true rfl) (by decide) (by decide) (cx_X6_hasWill (g := g) S112 hI119 a1 ha1 v114) (fun S176 v178 h177 => ?_)
    obtain ⟨rfl, b179, x180, hx181⟩ := h177
    refine mw_if_eq (tgt := 45) dX8_readWill_33 (by decide) (fun q182 => ?_) (fun q182 => ?_)
    · skip
      have b183 : mm_b (0) (0) v178 := bd_eq_l q182 b179 n_0 (by decide)
      refine mw_aload_n dX8_readWill_45 rfl 1 rfl ?_
      refine mw_aload_n dX8_readWill_46 rfl 2 rfl ?_
      refine mw_iload_n dX8_readWill_47 rfl 0 rfl ?_
      refine tc_Vi (as := [.ref a1, .int v114]) (st := []) dX8_readWill_48 rfl shC_1 rfl rfl mX8_85 t_X8_readHeir rfl (Nat.le_of_ble_eq_true rfl) (by decide) (by decide) (cx_X8_readHeir (g := g) S112 hI119 a1 ha1 v114) (fun S184 v186 h185 => ?_)
      obtain ⟨hI191, hf192, b187, x188, hx189⟩ := h185
      have hF193 := fr_tr hF121 hf192 (by decide) (by decide) (by decide) (by decide)
      have hE194 : F_X8_readWill S a1 = F_X8_readWill_u17c20tc51 S184 a1 v114 v186 := (by subst hx181; subst hx128; exact hE122.trans (by rw [F_X8_readWill_u17c20, if_neg q129, if_pos q182, hx189]))
      refine mw_istore_n (ls' := [(3, .int v186), (2, .int v114), (0, .ref 1), (1, .ref a1)]) dX8_readWill_51 rfl (by decide) rfl ?_
      refine mw_aload_n dX8_readWill_52 rfl 2 rfl ?_
      refine mw_aload_n dX8_readWill_53 rfl 3 rfl ?_
      refine mw_iload_n dX8_readWill_54 rfl 1 rfl ?_
      refine tc_Vi (as := [.ref a1, .int v114]) (st := []) dX8_readWill_55 rfl shC_1 rfl rfl mX8_85 t_X8_readHeir rfl (Nat.le_of_ble_eq_true rfl) (by decide) (by decide) (cx_X8_readHeir (g := g) S184 hI191 a1 ha1 v114) (fun S195 v197 h196 => ?_)
      obtain ⟨hI202, hf203, b198, x199, hx200⟩ := h196
      have hF204 := fr_tr hF193 hf203 (by decide) (by decide) (by decide) (by decide)
      have hE205 : F_X8_readWill S a1 = F_X8_readWill_u17c20tc51c58 S195 a1 v114 v186 v197 := (by exact hE194.trans (by rw [F_X8_readWill_u17c20tc51, hx200]))
      refine mw_istore (ls' := [(4, .int v197), (3, .int v186), (2, .int v114), (0, .ref 1), (1, .ref a1)]) dX8_readWill_58 (by decide) rfl ?_
      refine mw_aload_n dX8_readWill_60 rfl 3 rfl ?_
      refine mw_bipush dX8_readWill_61 kb_59 ?_
      refine tc_Vi (as := [.int 59]) (st := []) dX8_readWill_63 rfl shC_1 rfl rfl mX8_71 t_X8_readSign rfl (Nat.le_of_ble_eq_true rfl) (by decide) (by decide) (cx_X8_readSign (g := g) S195 hI202 (59 : Int32) (bd_w n_59 (by decide))) (fun S206 v208 h207 => ?_)
      obtain ⟨hI213, hf214, b209, x210, hx211⟩ := h207
      have hF215 := fr_tr hF204 hf214 (by decide) (by decide) (by decide) (by decide)
      have hE216 : F_X8_readWill S a1 = F_X8_readWill_u17c20tc51c58c66 v208 S206 a1 v114 v186 v197 := (by exact hE205.trans (by rw [F_X8_readWill_u17c20tc51c58, hx211]))
      refine mw_if_eq (tgt := 77) dX8_readWill_66 (by decide) (fun q217 => ?_) (fun q217 => ?_)
      · skip
        have b218 : mm_b (0) (0) v208 := bd_eq_l q217 b209 n_0 (by decide)
        exact mw_vret rfl dX8_readWill_77 rfl rfl ⟨S206, rfl, rfl, ⟨hI213, hF215, trivial, (by exact hE216.trans (by rw [F_X8_readWill_u17c20tc51c58c66, if_pos q217]))⟩⟩
      · skip
        have b219 : mm_b (1) (1) v208 := bd_ne_l q217 b209 n_0 (by decide)
        refine mw_aload_n dX8_readWill_69 rfl 4 rfl ?_
        refine mw_iload_n dX8_readWill_70 rfl 2 rfl ?_
        refine mw_iload_n dX8_readWill_71 rfl 1 rfl ?_
        refine mw_iload dX8_readWill_72 0 rfl ?_
        refine tc_Vv (as := [.int v114, .int v186, .int v197]) (st := []) dX8_readWill_74 rfl (shC_parish_0 a1 ha1) rfl rfl mX8_89 t_X6_addWill rfl (Nat.le_of_ble_eq_true rfl) (by decide) (by decide) (cx_X6_addWill (g := g) S206 hI213 a1 ha1 v114 v186 v197) (fun S220 h221 => ?_)
        obtain ⟨hI224, hf225, x222, hx223⟩ := h221
        have hF226 := fr_tr hF215 hf225 (by decide) (by decide) (by decide) (by decide)
        have hE227 : F_X8_readWill S a1 = F_X8_readWill_u17c20tc51c58c66fc77 S220 := (by exact hE216.trans (by rw [F_X8_readWill_u17c20tc51c58c66, if_neg q217, hx223]))
        exact mw_vret rfl dX8_readWill_77 rfl rfl ⟨S220, rfl, rfl, ⟨hI224, hF226, trivial, (by exact hE227.trans (by rw [F_X8_readWill_u17c20tc51c58c66fc77]))⟩⟩
    · skip
      have b228 : mm_b (1) (1) v178 := bd_ne_l q182 b179 n_0 (by decide)
      have b229 := Or.resolve_left x180 q182
      refine mw_aload_n dX8_readWill_36 rfl 1 rfl ?_
      refine mw_iconst dX8_readWill_37 ki_4 ?_
      refine mw_aload_n dX8_readWill_38 rfl 1 rfl ?_
      refine tw_geti (j := 4) dX8_readWill_39 shC_1 rfl rfl (by decide) fX8_82 (fun v230 ev230 => ?_)
      refine tc_Vv (as := [.int 4, .int v230]) (st := []) dX8_readWill_42 rfl shC_1 rfl rfl mX8_60 t_X8_blame rfl (Nat.le_of_ble_eq_true rfl) (by decide) (by decide) (cx_X8_blame (g := g) S112 hI119 (4 : Int32) v230) (fun S231 h232 => ?_)
      obtain ⟨hI235, hf236, x233, hx234⟩ := h232
      have hF237 := fr_tr hF121 hf236 (by decide) (by decide) (by decide) (by decide)
      have hE238 : F_X8_readWill S a1 = F_X8_readWill_u17c20ffc45 S231 a1 v114 := (by subst ev230; subst hx181; subst hx128; exact hE122.trans (by rw [F_X8_readWill_u17c20, if_neg q129, if_neg q182, hx234]))
      refine mw_aload_n dX8_readWill_45 rfl 1 rfl ?_
      refine mw_aload_n dX8_readWill_46 rfl 2 rfl ?_
      refine mw_iload_n dX8_readWill_47 rfl 0 rfl ?_
      refine tc_Vi (as := [.ref a1, .int v114]) (st := []) dX8_readWill_48 rfl shC_1 rfl rfl mX8_85 t_X8_readHeir rfl (Nat.le_of_ble_eq_true rfl) (by decide) (by decide) (cx_X8_readHeir (g := g) S231 hI235 a1 ha1 v114) (fun S239 v241 h240 => ?_)
      obtain ⟨hI246, hf247, b242, x243, hx244⟩ := h240
      have hF248 := fr_tr hF237 hf247 (by decide) (by decide) (by decide) (by decide)
      have hE249 : F_X8_readWill S a1 = F_X8_readWill_u17c20tc51 S239 a1 v114 v241 := (by exact hE238.trans (by rw [F_X8_readWill_u17c20ffc45, hx244]))
      refine mw_istore_n (ls' := [(3, .int v241), (2, .int v114), (0, .ref 1), (1, .ref a1)]) dX8_readWill_51 rfl (by decide) rfl ?_
      refine mw_aload_n dX8_readWill_52 rfl 2 rfl ?_
      refine mw_aload_n dX8_readWill_53 rfl 3 rfl ?_
      refine mw_iload_n dX8_readWill_54 rfl 1 rfl ?_
      refine tc_Vi (as := [.ref a1, .int v114]) (st := []) dX8_readWill_55 rfl shC_1 rfl rfl mX8_85 t_X8_readHeir rfl (Nat.le_of_ble_eq_true rfl) (by decide) (by decide) (cx_X8_readHeir (g := g) S239 hI246 a1 ha1 v114) (fun S250 v252 h251 => ?_)
      obtain ⟨hI257, hf258, b253, x254, hx255⟩ := h251
      have hF259 := fr_tr hF248 hf258 (by decide) (by decide) (by decide) (by decide)
      have hE260 : F_X8_readWill S a1 = F_X8_readWill_u17c20tc51c58 S250 a1 v114 v241 v252 := (by exact hE249.trans (by rw [F_X8_readWill_u17c20tc51, hx255]))
      refine mw_istore (ls' := [(4, .int v252), (3, .int v241), (2, .int v114), (0, .ref 1), (1, .ref a1)]) dX8_readWill_58 (by decide) rfl ?_
      refine mw_aload_n dX8_readWill_60 rfl 3 rfl ?_
      refine mw_bipush dX8_readWill_61 kb_59 ?_
      refine tc_Vi (as := [.int 59]) (st := []) dX8_readWill_63 rfl shC_1 rfl rfl mX8_71 t_X8_readSign rfl (Nat.le_of_ble_eq_true rfl) (by decide) (by decide) (cx_X8_readSign (g := g) S250 hI257 (59 : Int32) (bd_w n_59 (by decide))) (fun S261 v263 h262 => ?_)
      obtain ⟨hI268, hf269, b264, x265, hx266⟩ := h262
      have hF270 := fr_tr hF259 hf269 (by decide) (by decide) (by decide) (by decide)
      have hE271 : F_X8_readWill S a1 = F_X8_readWill_u17c20tc51c58c66 v263 S261 a1 v114 v241 v252 := (by exact hE260.trans (by rw [F_X8_readWill_u17c20tc51c58, hx266]))
      refine mw_if_eq (tgt := 77) dX8_readWill_66 (by decide) (fun q272 => ?_) (fun q272 => ?_)
      · skip
        have b273 : mm_b (0) (0) v263 := bd_eq_l q272 b264 n_0 (by decide)
        exact mw_vret rfl dX8_readWill_77 rfl rfl ⟨S261, rfl, rfl, ⟨hI268, hF270, trivial, (by exact hE271.trans (by rw [F_X8_readWill_u17c20tc51c58c66, if_pos q272]))⟩⟩
      · skip
        have b274 : mm_b (1) (1) v263 := bd_ne_l q272 b264 n_0 (by decide)
        refine mw_aload_n dX8_readWill_69 rfl 4 rfl ?_
        refine mw_iload_n dX8_readWill_70 rfl 2 rfl ?_
        refine mw_iload_n dX8_readWill_71 rfl 1 rfl ?_
        refine mw_iload dX8_readWill_72 0 rfl ?_
        refine tc_Vv (as := [.int v114, .int v241, .int v252]) (st := []) dX8_readWill_74 rfl (shC_parish_0 a1 ha1) rfl rfl mX8_89 t_X6_addWill rfl (Nat.le_of_ble_eq_true rfl) (by decide) (by decide) (cx_X6_addWill (g := g) S261 hI268 a1 ha1 v114 v241 v252) (fun S275 h276 => ?_)
        obtain ⟨hI279, hf280, x277, hx278⟩ := h276
        have hF281 := fr_tr hF270 hf280 (by decide) (by decide) (by decide) (by decide)
        have hE282 : F_X8_readWill S a1 = F_X8_readWill_u17c20tc51c58c66fc77 S275 := (by exact hE271.trans (by rw [F_X8_readWill_u17c20tc51c58c66, if_neg q272, hx278]))
        exact mw_vret rfl dX8_readWill_77 rfl rfl ⟨S275, rfl, rfl, ⟨hI279, hF281, trivial, (by exact hE282.trans (by rw [F_X8_readWill_u17c20tc51c58c66fc77]))⟩⟩
def F_X8_readDoor_tu32c35c42fc50 (S137 : mm_S) : mm_S := S137
def F_X8_readDoor_tu32c35c42 (v125 : Int32) (S123 : mm_S) (a1 : Nat) (v114 : Int32) : mm_S := (if v125 = (0 : Int32) then S123 else (F_X8_readDoor_tu32c35c42fc50 (F_X6_addDoor S123 a1 v114)))
def F_X8_readDoor_tu32c35 (S112 : mm_S) (a1 : Nat) (v114 : Int32) : mm_S := (F_X8_readDoor_tu32c35c42 (F_X8_readSign S112 (59 : Int32)).1 (F_X8_readSign S112 (59 : Int32)).2 a1 v114)
def F_X8_readDoor_tu32 (S109 : mm_S) (a1 : Nat) : mm_S := (F_X8_readDoor_tu32c35 (F_X8_readNumber S109 (127 : Int32)).2 a1 (F_X8_readNumber S109 (127 : Int32)).1)
def F_X8_readDoor (S : mm_S) (a1 : Nat) : mm_S := (if (S.1 a1 1) < (6 : Int32) then (F_X8_readDoor_tu32 (mm_up S 1 3 ((S.1 1 3) + (1 : Int32))) a1) else (F_X8_readDoor_tu32c35c42fc50 (F_X8_blame S (3 : Int32) (S.1 1 3))))
set_option maxRecDepth 100000 in
set_option maxHeartbeats 4000000 in
theorem cx_X8_readDoor {g : mm_G} (S : mm_S) (hI : JC S) (a1 : Nat) (ha1 : a1 ∈ LC_parish) (hp0 : mm_b (0) (239) (S.1 1 3)) : mc g yX8_readDoor cX8_readDoor 3 none (mm_rm 3) [.ref 1, .ref a1] (mm_enc shC S) (qv shC (fun S1 => JC S1 ∧ fr [1, 3, 7, 9, 13] [] true true S S1 ∧ True ∧ F_X8_readDoor S a1 = S1)) := by
  refine mc_of2 (own := RX8) (ini := false) (ls := [(0, .ref 1), (1, .ref a1)]) (by decide) (Nat.le_of_ble_eq_true rfl) rfl (by decide) rfl ?_
  have hF : fr [1, 3, 7, 9, 13] [] true true S S := fr_rf
  obtain ⟨hy0, ehy0⟩ : ∃ y : Int32, y = S.1 1 3 := ⟨_, rfl⟩
  have bhy0 : mm_b (0) (239) hy0 := by rw [ehy0]; exact hp0
  refine mw_aload_n dX8_readDoor_0 rfl 1 rfl ?_
  refine tw_geti (j := 1) dX8_readDoor_1 (shC_parish_0 a1 ha1) rfl rfl (by decide) fX8_96 (fun v101 ev101 => ?_)
  have b102 : mm_b (0) (6) v101 := JIC_fld hI ev101 (tbC_parish_0_1 a1 ha1) (by decide)
  refine mw_bipush dX8_readDoor_4 kb_6 ?_
  refine mw_icmp_lt (tgt := 19) dX8_readDoor_6 (by decide) (fun q103 => ?_) (fun q103 => ?_)
  · skip
    have b104 : mm_b (0) (5) v101 := bd_lt_l q103 b102 n_6 (by decide)
    refine mw_aload_n dX8_readDoor_19 rfl 0 rfl ?_
    refine mw_dup dX8_readDoor_20 rfl ?_
    refine tw_geti (j := 3) dX8_readDoor_21 shC_1 rfl rfl (by decide) fX8_27 (fun v105 ev105 => ?_)
    have cv105 : hy0 = v105 := ehy0.trans ev105.symm
    subst cv105
    refine mw_iconst dX8_readDoor_24 ki_1 ?_
    refine mw_iadd dX8_readDoor_25 (fun v106 ev106 => ?_)
    have b107 : mm_b (1) (240) v106 := bd_add ev106 bhy0 n_1 (by decide)
    refine tw_puti (j := 3) dX8_readDoor_26 shC_1 rfl rfl (by decide) fX8_27 rfl (by decide +kernel) ?_
    have hI108 : JC (mm_up S 1 3 v106) := JIC_put hI b107 (by decide +kernel)
    generalize hS109 : (mm_up S 1 3 v106) = S109 at hI108 ⊢
    have hF110 := fr_upA hF hS109 (by decide)
    refine mw_aload_n dX8_readDoor_29 rfl 0 rfl ?_
    refine mw_bipush dX8_readDoor_30 kb_127 ?_
    have hE111 : F_X8_readDoor S a1 = F_X8_readDoor_tu32 S109 a1 := (by subst hS109; subst ev106; subst ev101; subst ehy0; rw [F_X8_readDoor, if_pos q103])
    refine tc_Vi (as := [.int 127]) (st := []) dX8_readDoor_32 rfl shC_1 rfl rfl mX8_67 t_X8_readNumber rfl (Nat.le_of_ble_eq_true rfl) (by decide) (by decide) (cx_X8_readNumber (g := g) S109 hI108 (127 : Int32)) (fun S112 v114 h113 => ?_)
    obtain ⟨hI119, hf120, b115, x116, hx117⟩ := h113
    have hF121 := fr_tr hF110 hf120 (by decide) (by decide) (by decide) (by decide)
    have hE122 : F_X8_readDoor S a1 = F_X8_readDoor_tu32c35 S112 a1 v114 := (by exact hE111.trans (by rw [F_X8_readDoor_tu32, hx117]))
    refine mw_istore_n (ls' := [(2, .int v114), (0, .ref 1), (1, .ref a1)]) dX8_readDoor_35 rfl (by decide) rfl ?_
    refine mw_aload_n dX8_readDoor_36 rfl 1 rfl ?_
    refine mw_bipush dX8_readDoor_37 kb_59 ?_
    refine tc_Vi (as := [.int 59]) (st := []) dX8_readDoor_39 rfl shC_1 rfl rfl mX8_71 t_X8_readSign rfl (Nat.le_of_ble_eq_true rfl) (by decide) (by decide) (cx_X8_readSign (g := g) S112 hI119 (59 : Int32) (bd_w n_59 (by decide))) (fun S123 v125 h124 => ?_)
    obtain ⟨hI130, hf131, b126, x127, hx128⟩ := h124
    have hF132 := fr_tr hF121 hf131 (by decide) (by decide) (by decide) (by decide)
    have hE133 : F_X8_readDoor S a1 = F_X8_readDoor_tu32c35c42 v125 S123 a1 v114 := (by exact hE122.trans (by rw [F_X8_readDoor_tu32c35, hx128]))
    refine mw_if_eq (tgt := 50) dX8_readDoor_42 (by decide) (fun q134 => ?_) (fun q134 => ?_)
    · skip
      have b135 : mm_b (0) (0) v125 := bd_eq_l q134 b126 n_0 (by decide)
      exact mw_vret rfl dX8_readDoor_50 rfl rfl ⟨S123, rfl, rfl, ⟨hI130, hF132, trivial, (by exact hE133.trans (by rw [F_X8_readDoor_tu32c35c42, if_pos q134]))⟩⟩
    · skip
      have b136 : mm_b (1) (1) v125 := bd_ne_l q134 b126 n_0 (by decide)
      refine mw_aload_n dX8_readDoor_45 rfl 2 rfl ?_
      refine mw_iload_n dX8_readDoor_46 rfl 0 rfl ?_
      refine tc_Vv (as := [.int v114]) (st := []) dX8_readDoor_47 rfl (shC_parish_0 a1 ha1) rfl rfl mX8_99 t_X6_addDoor rfl (Nat.le_of_ble_eq_true rfl) (by decide) (by decide) (cx_X6_addDoor (g := g) S123 hI130 a1 ha1 v114) (fun S137 h138 => ?_)
      obtain ⟨hI141, hf142, x139, hx140⟩ := h138
      have hF143 := fr_tr hF132 hf142 (by decide) (by decide) (by decide) (by decide)
      have hE144 : F_X8_readDoor S a1 = F_X8_readDoor_tu32c35c42fc50 S137 := (by exact hE133.trans (by rw [F_X8_readDoor_tu32c35c42, if_neg q134, hx140]))
      exact mw_vret rfl dX8_readDoor_50 rfl rfl ⟨S137, rfl, rfl, ⟨hI141, hF143, trivial, (by exact hE144.trans (by rw [F_X8_readDoor_tu32c35c42fc50]))⟩⟩
  · skip
    have b145 : mm_b (6) (6) v101 := bd_le_r (bd_nlt q103) n_6 b102 (by decide)
    refine mw_aload_n dX8_readDoor_9 rfl 0 rfl ?_
    refine mw_iconst dX8_readDoor_10 ki_3 ?_
    refine mw_aload_n dX8_readDoor_11 rfl 0 rfl ?_
    refine tw_geti (j := 3) dX8_readDoor_12 shC_1 rfl rfl (by decide) fX8_27 (fun v146 ev146 => ?_)
    have cv146 : hy0 = v146 := ehy0.trans ev146.symm
    subst cv146
    refine tc_Vv (as := [.int 3, .int hy0]) (st := []) dX8_readDoor_15 rfl shC_1 rfl rfl mX8_60 t_X8_blame rfl (Nat.le_of_ble_eq_true rfl) (by decide) (by decide) (cx_X8_blame (g := g) S hI (3 : Int32) hy0) (fun S147 h148 => ?_)
    obtain ⟨hI151, hf152, x149, hx150⟩ := h148
    have hF153 := fr_tr hF hf152 (by decide) (by decide) (by decide) (by decide)
    have hE154 : F_X8_readDoor S a1 = F_X8_readDoor_tu32c35c42fc50 S147 := (by subst ev101; subst ehy0; rw [F_X8_readDoor, if_neg q103, hx150])
    exact mw_vret rfl dX8_readDoor_18 rfl rfl ⟨S147, rfl, rfl, ⟨hI151, hF153, trivial, (by exact hE154.trans (by rw [F_X8_readDoor_tu32c35c42fc50]))⟩⟩
def F_X8_readChoir_L39tc86 (S140 : mm_S) : mm_S := S140
def F_X8_readChoir_L39fc51fu68c71c74 (k39 : mm_S → Int32 → mm_S) (S198 : mm_S) (y134 : Int32) : mm_S := (k39 S198 (y134 + Int32.ofInt 1))
def F_X8_readChoir_L39fc51fu68c71 (k39 : mm_S → Int32 → mm_S) (S187 : mm_S) (a1 : Nat) (v189 : Int32) (y134 : Int32) : mm_S := (F_X8_readChoir_L39fc51fu68c71c74 k39 (F_X6_addPart S187 a1 v189) y134)
def F_X8_readChoir_L39fc51fu68 (k39 : mm_S → Int32 → mm_S) (S184 : mm_S) (a1 : Nat) (y134 : Int32) : mm_S := (F_X8_readChoir_L39fc51fu68c71 k39 (F_X8_readNumber S184 (8 : Int32)).2 a1 (F_X8_readNumber S184 (8 : Int32)).1 y134)
def F_X8_readChoir_L39fc51 (v154 : Int32) (S152 : mm_S) (k39 : mm_S → Int32 → mm_S) (a1 : Nat) (y134 : Int32) : mm_S := (if v154 = (0 : Int32) then (F_X8_readChoir_L39tc86 (F_X8_readSign S152 (59 : Int32)).2) else (F_X8_readChoir_L39fc51fu68 k39 (mm_up S152 1 3 ((S152.1 1 3) + (1 : Int32))) a1 y134))
def F_X8_readChoir_L39 (a1 : Nat) : Nat → mm_S → Int32 → mm_S
  | 0, S131, _ => S131
  | N + 1, S131, y134 => (if (6 : Int32) ≤ y134 then (F_X8_readChoir_L39tc86 (F_X8_readSign S131 (59 : Int32)).2) else (F_X8_readChoir_L39fc51 (F_X8_isNext S131 (44 : Int32)).1 (F_X8_isNext S131 (44 : Int32)).2 (F_X8_readChoir_L39 a1 N) a1 y134))
def F_X8_readChoir_tu31c34c37 (a1 : Nat) (S123 : mm_S) : mm_S := (F_X8_readChoir_L39 a1 7 S123 (1 : Int32))
def F_X8_readChoir_tu31c34 (a1 : Nat) (S112 : mm_S) (v114 : Int32) : mm_S := (F_X8_readChoir_tu31c34c37 a1 (F_X6_addPart S112 a1 v114))
def F_X8_readChoir_tu31 (a1 : Nat) (S109 : mm_S) : mm_S := (F_X8_readChoir_tu31c34 a1 (F_X8_readNumber S109 (8 : Int32)).2 (F_X8_readNumber S109 (8 : Int32)).1)
def F_X8_readChoir (S : mm_S) (a1 : Nat) : mm_S := (if (S.1 a1 2) ≤ (0 : Int32) then (F_X8_readChoir_tu31 a1 (mm_up S 1 3 ((S.1 1 3) + (1 : Int32)))) else (F_X8_readChoir_L39tc86 (F_X8_blame S (3 : Int32) (S.1 1 3))))
set_option maxRecDepth 100000 in
set_option maxHeartbeats 4000000 in
theorem cx_X8_readChoir {g : mm_G} (S : mm_S) (hI : JC S) (a1 : Nat) (ha1 : a1 ∈ LC_parish) (hp0 : mm_b (0) (239) (S.1 1 3)) : mc g yX8_readChoir cX8_readChoir 3 none (mm_rm 3) [.ref 1, .ref a1] (mm_enc shC S) (qv shC (fun S1 => JC S1 ∧ fr [1, 3, 8, 9, 14] [] true true S S1 ∧ True ∧ F_X8_readChoir S a1 = S1)) := by
  refine mc_of2 (own := RX8) (ini := false) (ls := [(0, .ref 1), (1, .ref a1)]) (by decide) (Nat.le_of_ble_eq_true rfl) rfl (by decide) rfl ?_
  have hF : fr [1, 3, 8, 9, 14] [] true true S S := fr_rf
  obtain ⟨hy0, ehy0⟩ : ∃ y : Int32, y = S.1 1 3 := ⟨_, rfl⟩
  have bhy0 : mm_b (0) (239) hy0 := by rw [ehy0]; exact hp0
  refine mw_aload_n dX8_readChoir_0 rfl 1 rfl ?_
  refine tw_geti (j := 2) dX8_readChoir_1 (shC_parish_0 a1 ha1) rfl rfl (by decide) fX8_102 (fun v101 ev101 => ?_)
  have b102 : mm_b (0) (6) v101 := JIC_fld hI ev101 (tbC_parish_0_2 a1 ha1) (by decide)
  refine mw_if_le (tgt := 17) dX8_readChoir_4 (by decide) (fun q103 => ?_) (fun q103 => ?_)
  · skip
    have b104 : mm_b (0) (0) v101 := bd_le_l q103 b102 n_0 (by decide)
    refine mw_aload_n dX8_readChoir_17 rfl 0 rfl ?_
    refine mw_dup dX8_readChoir_18 rfl ?_
    refine tw_geti (j := 3) dX8_readChoir_19 shC_1 rfl rfl (by decide) fX8_27 (fun v105 ev105 => ?_)
    have cv105 : hy0 = v105 := ehy0.trans ev105.symm
    subst cv105
    refine mw_iconst dX8_readChoir_22 ki_1 ?_
    refine mw_iadd dX8_readChoir_23 (fun v106 ev106 => ?_)
    have b107 : mm_b (1) (240) v106 := bd_add ev106 bhy0 n_1 (by decide)
    refine tw_puti (j := 3) dX8_readChoir_24 shC_1 rfl rfl (by decide) fX8_27 rfl (by decide +kernel) ?_
    have hI108 : JC (mm_up S 1 3 v106) := JIC_put hI b107 (by decide +kernel)
    generalize hS109 : (mm_up S 1 3 v106) = S109 at hI108 ⊢
    have hF110 := fr_upA hF hS109 (by decide)
    refine mw_aload_n dX8_readChoir_27 rfl 1 rfl ?_
    refine mw_aload_n dX8_readChoir_28 rfl 0 rfl ?_
    refine mw_bipush dX8_readChoir_29 kb_8 ?_
    have hE111 : F_X8_readChoir S a1 = F_X8_readChoir_tu31 a1 S109 := (by subst hS109; subst ev106; subst ev101; subst ehy0; rw [F_X8_readChoir, if_pos q103])
    refine tc_Vi (as := [.int 8]) (st := [.ref a1]) dX8_readChoir_31 rfl shC_1 rfl rfl mX8_67 t_X8_readNumber rfl (Nat.le_of_ble_eq_true rfl) (by decide) (by decide) (cx_X8_readNumber (g := g) S109 hI108 (8 : Int32)) (fun S112 v114 h113 => ?_)
    obtain ⟨hI119, hf120, b115, x116, hx117⟩ := h113
    have hF121 := fr_tr hF110 hf120 (by decide) (by decide) (by decide) (by decide)
    have hE122 : F_X8_readChoir S a1 = F_X8_readChoir_tu31c34 a1 S112 v114 := (by exact hE111.trans (by rw [F_X8_readChoir_tu31, hx117]))
    refine tc_Vv (as := [.int v114]) (st := []) dX8_readChoir_34 rfl (shC_parish_0 a1 ha1) rfl rfl mX8_105 t_X6_addPart rfl (Nat.le_of_ble_eq_true rfl) (by decide) (by decide) (cx_X6_addPart (g := g) S112 hI119 a1 ha1 v114) (fun S123 h124 => ?_)
    obtain ⟨hI127, hf128, x125, hx126⟩ := h124
    have hF129 := fr_tr hF121 hf128 (by decide) (by decide) (by decide) (by decide)
    have hE130 : F_X8_readChoir S a1 = F_X8_readChoir_tu31c34c37 a1 S123 := (by exact hE122.trans (by rw [F_X8_readChoir_tu31c34, hx126]))
    refine mw_iconst dX8_readChoir_37 ki_1 ?_
    refine mw_istore_n (ls' := [(2, .int 1), (0, .ref 1), (1, .ref a1)]) dX8_readChoir_38 rfl (by decide) rfl ?_
    have cut39 : ∀ (N39 : Nat) (S131 : mm_S) (y134 : Int32), ((7 : Int) - y134.toInt).toNat < N39 → JC S131 → fr [1, 3, 8, 9, 14] [] true true S S131 → mm_b (1) (6) y134 → F_X8_readChoir S a1 = F_X8_readChoir_L39 a1 N39 S131 y134 → mw g RX8 cX8_readChoir 3 none false (mm_rm 3) (qv shC (fun S1 => JC S1 ∧ fr [1, 3, 8, 9, 14] [] true true S S1 ∧ True ∧ F_X8_readChoir S a1 = S1)) 0 0 (mm_enc shC S131) 39 [(0, .ref 1), (1, .ref a1), (2, .int y134)] [] := by
      intro N39
      induction N39 with
      | zero =>
        intro S131 y134 hm136 hI132 hF133 b135 hE137
        exact absurd hm136 (Nat.not_lt_zero _)
      | succ N39 ih39 =>
        intro S131 y134 hm136 hI132 hF133 b135 hE137
        refine mw_iload_n dX8_readChoir_39 rfl 2 rfl ?_
        refine mw_bipush dX8_readChoir_40 kb_6 ?_
        refine mw_icmp_ge (tgt := 80) dX8_readChoir_42 (by decide) (fun q138 => ?_) (fun q138 => ?_)
        · skip
          have b139 : mm_b (6) (6) y134 := bd_le_r q138 n_6 b135 (by decide)
          refine mw_aload_n dX8_readChoir_80 rfl 0 rfl ?_
          refine mw_bipush dX8_readChoir_81 kb_59 ?_
          refine tc_Vi (as := [.int 59]) (st := []) dX8_readChoir_83 rfl shC_1 rfl rfl mX8_71 t_X8_readSign rfl (Nat.le_of_ble_eq_true rfl) (by decide) (by decide) (cx_X8_readSign (g := g) S131 hI132 (59 : Int32) (bd_w n_59 (by decide))) (fun S140 v142 h141 => ?_)
          obtain ⟨hI147, hf148, b143, x144, hx145⟩ := h141
          have hF149 := fr_tr hF133 hf148 (by decide) (by decide) (by decide) (by decide)
          have hE150 : F_X8_readChoir S a1 = F_X8_readChoir_L39tc86 S140 := (by exact hE137.trans (by rw [F_X8_readChoir_L39, if_pos q138, hx145]))
          refine mw_pop dX8_readChoir_86 rfl ?_
          exact mw_vret rfl dX8_readChoir_87 rfl rfl ⟨S140, rfl, rfl, ⟨hI147, hF149, trivial, (by exact hE150.trans (by rw [F_X8_readChoir_L39tc86]))⟩⟩
        · skip
          have b151 : mm_b (1) (5) y134 := bd_lt_l (bd_nle q138) b135 n_6 (by decide)
          refine mw_aload_n dX8_readChoir_45 rfl 0 rfl ?_
          refine mw_bipush dX8_readChoir_46 kb_44 ?_
          refine tc_Vi (as := [.int 44]) (st := []) dX8_readChoir_48 rfl shC_1 rfl rfl mX8_108 t_X8_isNext rfl (Nat.le_of_ble_eq_true rfl) (by decide) (by decide) (cx_X8_isNext (g := g) S131 hI132 (44 : Int32) (bd_w n_44 (by decide))) (fun S152 v154 h153 => ?_)
          obtain ⟨hI159, hf160, b155, x156, hx157⟩ := h153
          have hF161 := fr_tr hF133 hf160 (by decide) (by decide) (by decide) (by decide)
          have hE162 : F_X8_readChoir S a1 = F_X8_readChoir_L39fc51 v154 S152 (F_X8_readChoir_L39 a1 N39) a1 y134 := (by exact hE137.trans (by rw [F_X8_readChoir_L39, if_neg q138, hx157]))
          refine mw_if_eq (tgt := 80) dX8_readChoir_51 (by decide) (fun q163 => ?_) (fun q163 => ?_)
          · skip
            have b164 : mm_b (0) (0) v154 := bd_eq_l q163 b155 n_0 (by decide)
            refine mw_aload_n dX8_readChoir_80 rfl 0 rfl ?_
            refine mw_bipush dX8_readChoir_81 kb_59 ?_
            refine tc_Vi (as := [.int 59]) (st := []) dX8_readChoir_83 rfl shC_1 rfl rfl mX8_71 t_X8_readSign rfl (Nat.le_of_ble_eq_true rfl) (by decide) (by decide) (cx_X8_readSign (g := g) S152 hI159 (59 : Int32) (bd_w n_59 (by decide))) (fun S165 v167 h166 => ?_)
            obtain ⟨hI172, hf173, b168, x169, hx170⟩ := h166
            have hF174 := fr_tr hF161 hf173 (by decide) (by decide) (by decide) (by decide)
            have hE175 : F_X8_readChoir S a1 = F_X8_readChoir_L39tc86 S165 := (by exact hE162.trans (by rw [F_X8_readChoir_L39fc51, if_pos q163, hx170]))
            refine mw_pop dX8_readChoir_86 rfl ?_
            exact mw_vret rfl dX8_readChoir_87 rfl rfl ⟨S165, rfl, rfl, ⟨hI172, hF174, trivial, (by exact hE175.trans (by rw [F_X8_readChoir_L39tc86]))⟩⟩
          · skip
            have b176 : mm_b (1) (1) v154 := bd_ne_l q163 b155 n_0 (by decide)
            have b177 := Or.resolve_left x156 q163
            obtain ⟨v178, ev178⟩ : ∃ y : Int32, y = S152.1 1 3 := ⟨_, rfl⟩
            have b179 : mm_b (0) (239) v178 := by rw [ev178]; exact b177
            refine mw_aload_n dX8_readChoir_54 rfl 0 rfl ?_
            refine mw_dup dX8_readChoir_55 rfl ?_
            refine tw_geti (j := 3) dX8_readChoir_56 shC_1 rfl rfl (by decide) fX8_27 (fun v180 ev180 => ?_)
            have cv180 : v178 = v180 := ev178.trans ev180.symm
            subst cv180
            refine mw_iconst dX8_readChoir_59 ki_1 ?_
            refine mw_iadd dX8_readChoir_60 (fun v181 ev181 => ?_)
            have b182 : mm_b (1) (240) v181 := bd_add ev181 b179 n_1 (by decide)
            refine tw_puti (j := 3) dX8_readChoir_61 shC_1 rfl rfl (by decide) fX8_27 rfl (by decide +kernel) ?_
            have hI183 : JC (mm_up S152 1 3 v181) := JIC_put hI159 b182 (by decide +kernel)
            generalize hS184 : (mm_up S152 1 3 v181) = S184 at hI183 ⊢
            have hF185 := fr_upA hF161 hS184 (by decide)
            refine mw_aload_n dX8_readChoir_64 rfl 1 rfl ?_
            refine mw_aload_n dX8_readChoir_65 rfl 0 rfl ?_
            refine mw_bipush dX8_readChoir_66 kb_8 ?_
            have hE186 : F_X8_readChoir S a1 = F_X8_readChoir_L39fc51fu68 (F_X8_readChoir_L39 a1 N39) S184 a1 y134 := (by subst hS184; subst ev181; subst ev178; exact hE162.trans (by rw [F_X8_readChoir_L39fc51, if_neg q163]))
            refine tc_Vi (as := [.int 8]) (st := [.ref a1]) dX8_readChoir_68 rfl shC_1 rfl rfl mX8_67 t_X8_readNumber rfl (Nat.le_of_ble_eq_true rfl) (by decide) (by decide) (cx_X8_readNumber (g := g) S184 hI183 (8 : Int32)) (fun S187 v189 h188 => ?_)
            obtain ⟨hI194, hf195, b190, x191, hx192⟩ := h188
            have hF196 := fr_tr hF185 hf195 (by decide) (by decide) (by decide) (by decide)
            have hE197 : F_X8_readChoir S a1 = F_X8_readChoir_L39fc51fu68c71 (F_X8_readChoir_L39 a1 N39) S187 a1 v189 y134 := (by exact hE186.trans (by rw [F_X8_readChoir_L39fc51fu68, hx192]))
            refine tc_Vv (as := [.int v189]) (st := []) dX8_readChoir_71 rfl (shC_parish_0 a1 ha1) rfl rfl mX8_105 t_X6_addPart rfl (Nat.le_of_ble_eq_true rfl) (by decide) (by decide) (cx_X6_addPart (g := g) S187 hI194 a1 ha1 v189) (fun S198 h199 => ?_)
            obtain ⟨hI202, hf203, x200, hx201⟩ := h199
            have hF204 := fr_tr hF196 hf203 (by decide) (by decide) (by decide) (by decide)
            have hE205 : F_X8_readChoir S a1 = F_X8_readChoir_L39fc51fu68c71c74 (F_X8_readChoir_L39 a1 N39) S198 y134 := (by exact hE197.trans (by rw [F_X8_readChoir_L39fc51fu68c71, hx201]))
            refine mw_iinc (ls' := fun v => [(2, .int v), (0, .ref 1), (1, .ref a1)]) dX8_readChoir_74 2 rfl (by decide) (fun _ => rfl) (fun v206 ev206 => ?_)
            have b207 : mm_b (2) (6) v206 := bd_inc ev206 b151 (by decide)
            refine mw_goto (tgt := 39) dX8_readChoir_77 (by decide) ?_
            refine mw_ls [1, 2, 0] rfl ?_
            exact ih39 S198 v206 (ms_inc ev206 b151 (by decide) hm136) hI202 hF204 (bd_w b207 (by decide)) (by subst ev206; exact hE205.trans (by rw [F_X8_readChoir_L39fc51fu68c71c74]))
    refine mw_ls [1, 2, 0] rfl ?_
    exact cut39 7 S123 (1 : Int32) (by have hz := n_1; omega) hI127 hF129 (bd_w n_1 (by decide)) (by exact hE130.trans (by rw [F_X8_readChoir_tu31c34c37]))
  · skip
    have b208 : mm_b (1) (6) v101 := bd_lt_r (bd_nle q103) n_0 b102 (by decide)
    refine mw_aload_n dX8_readChoir_7 rfl 0 rfl ?_
    refine mw_iconst dX8_readChoir_8 ki_3 ?_
    refine mw_aload_n dX8_readChoir_9 rfl 0 rfl ?_
    refine tw_geti (j := 3) dX8_readChoir_10 shC_1 rfl rfl (by decide) fX8_27 (fun v209 ev209 => ?_)
    have cv209 : hy0 = v209 := ehy0.trans ev209.symm
    subst cv209
    refine tc_Vv (as := [.int 3, .int hy0]) (st := []) dX8_readChoir_13 rfl shC_1 rfl rfl mX8_60 t_X8_blame rfl (Nat.le_of_ble_eq_true rfl) (by decide) (by decide) (cx_X8_blame (g := g) S hI (3 : Int32) hy0) (fun S210 h211 => ?_)
    obtain ⟨hI214, hf215, x212, hx213⟩ := h211
    have hF216 := fr_tr hF hf215 (by decide) (by decide) (by decide) (by decide)
    have hE217 : F_X8_readChoir S a1 = F_X8_readChoir_L39tc86 S210 := (by subst ev101; subst ehy0; rw [F_X8_readChoir, if_neg q103, hx213])
    exact mw_vret rfl dX8_readChoir_16 rfl rfl ⟨S210, rfl, rfl, ⟨hI214, hF216, trivial, (by exact hE217.trans (by rw [F_X8_readChoir_L39tc86]))⟩⟩
def F_X8_readClause_dc89 (S114 : mm_S) : mm_S := S114
def F_X8_readClause (S : mm_S) (a1 : Nat) : mm_S := (if ((F_X8_letterHere S)).toInt = 99 then (F_X8_readClause_dc89 (F_X8_readChoir S a1)) else (if ((F_X8_letterHere S)).toInt = 100 then (F_X8_readClause_dc89 (F_X8_readDoor S a1)) else (if ((F_X8_letterHere S)).toInt = 112 then (F_X8_readClause_dc89 (F_X8_readPerson S a1)) else (if ((F_X8_letterHere S)).toInt = 119 then (F_X8_readClause_dc89 (F_X8_readWill S a1)) else (F_X8_readClause_dc89 (F_X8_blame S (1 : Int32) (S.1 1 3)))))))
set_option maxRecDepth 100000 in
set_option maxHeartbeats 4000000 in
theorem cx_X8_readClause {g : mm_G} (S : mm_S) (hI : JC S) (a1 : Nat) (ha1 : a1 ∈ LC_parish) : mc g yX8_readClause cX8_readClause 2 none (mm_rm 4) [.ref 1, .ref a1] (mm_enc shC S) (qv shC (fun S1 => JC S1 ∧ fr [1, 3, 4, 5, 6, 7, 8, 9, 10, 11, 12, 13, 14] [] true true S S1 ∧ True ∧ F_X8_readClause S a1 = S1)) := by
  refine mc_of2 (own := RX8) (ini := false) (ls := [(0, .ref 1), (1, .ref a1)]) (by decide) (Nat.le_of_ble_eq_true rfl) rfl (by decide) rfl ?_
  have hF : fr [1, 3, 4, 5, 6, 7, 8, 9, 10, 11, 12, 13, 14] [] true true S S := fr_rf
  refine mw_aload_n dX8_readClause_0 rfl 0 rfl ?_
  refine tc_Vi (as := []) (st := []) dX8_readClause_1 rfl shC_1 rfl rfl mX8_44 t_X8_letterHere rfl (Nat.le_of_ble_eq_true rfl) (by decide) (by decide) (cx_X8_letterHere (g := g) S hI) (fun S101 v103 h102 => ?_)
  obtain ⟨rfl, b104, x105, hx106⟩ := h102
  rcases (by omega : (v103.toInt ≠ 99 ∧ v103.toInt ≠ 100 ∧ v103.toInt ≠ 112 ∧ v103.toInt ≠ 119) ∨ v103.toInt = 99 ∨ v103.toInt = 100 ∨ v103.toInt = 112 ∨ v103.toInt = 119) with q107 | q107 | q107 | q107 | q107
  · refine mw_lookup (off := 76) (tgt := 80) dX8_readClause_4 (by decide) (by simp [Op.lookupswitch.offset_cons, Op.lookupswitch.offset, q107, Ne.symm, eq_comm] <;> omega) (by decide) ?_
    have q108 : ¬ v103.toInt = 99 := by omega
    have q109 : ¬ v103.toInt = 100 := by omega
    have q110 : ¬ v103.toInt = 112 := by omega
    have q111 : ¬ v103.toInt = 119 := by omega
    refine mw_aload_n dX8_readClause_80 rfl 0 rfl ?_
    refine mw_iconst dX8_readClause_81 ki_1 ?_
    refine mw_aload_n dX8_readClause_82 rfl 0 rfl ?_
    refine tw_geti (j := 3) dX8_readClause_83 shC_1 rfl rfl (by decide) fX8_27 (fun v112 ev112 => ?_)
    have b113 : mm_b (0) (240) v112 := JIC_fld hI ev112 tbC_1 (by decide)
    refine tc_Vv (as := [.int 1, .int v112]) (st := []) dX8_readClause_86 rfl shC_1 rfl rfl mX8_60 t_X8_blame rfl (Nat.le_of_ble_eq_true rfl) (by decide) (by decide) (cx_X8_blame (g := g) S hI (1 : Int32) v112) (fun S114 h115 => ?_)
    obtain ⟨hI118, hf119, x116, hx117⟩ := h115
    have hF120 := fr_tr hF hf119 (by decide) (by decide) (by decide) (by decide)
    have hE121 : F_X8_readClause S a1 = F_X8_readClause_dc89 S114 := (by subst ev112; subst hx106; rw [F_X8_readClause, if_neg q108, if_neg q109, if_neg q110, if_neg q111, hx117])
    exact mw_vret rfl dX8_readClause_89 rfl rfl ⟨S114, rfl, rfl, ⟨hI118, hF120, trivial, (by exact hE121.trans (by rw [F_X8_readClause_dc89]))⟩⟩
  · refine mw_lookup (off := 68) (tgt := 72) dX8_readClause_4 (by decide) (by rw [q107]; rfl) (by decide) ?_
    have b122 : mm_b (99) (99) v103 := ⟨by omega, by omega⟩
    obtain ⟨v123, ev123⟩ : ∃ y : Int32, y = S.1 1 3 := ⟨_, rfl⟩
    have b124 : mm_b (0) (239) v123 := by rw [ev123]; exact Or.resolve_left x105 (bd_nec b122 (by decide))
    refine mw_aload_n dX8_readClause_72 rfl 0 rfl ?_
    refine mw_aload_n dX8_readClause_73 rfl 1 rfl ?_
    refine tc_Vv (as := [.ref a1]) (st := []) dX8_readClause_74 rfl shC_1 rfl rfl mX8_57 t_X8_readChoir rfl (Nat.le_of_ble_eq_true rfl) (by decide) (by decide) (cx_X8_readChoir (g := g) S hI a1 ha1 (by rw [← ev123]; exact bd_w b124 (by decide))) (fun S125 h126 => ?_)
    obtain ⟨hI129, hf130, x127, hx128⟩ := h126
    have hF131 := fr_tr hF hf130 (by decide) (by decide) (by decide) (by decide)
    have hE132 : F_X8_readClause S a1 = F_X8_readClause_dc89 S125 := (by subst ev123; subst hx106; rw [F_X8_readClause, if_pos q107, hx128])
    refine mw_goto (tgt := 89) dX8_readClause_77 (by decide) ?_
    exact mw_vret rfl dX8_readClause_89 rfl rfl ⟨S125, rfl, rfl, ⟨hI129, hF131, trivial, (by exact hE132.trans (by rw [F_X8_readClause_dc89]))⟩⟩
  · refine mw_lookup (off := 60) (tgt := 64) dX8_readClause_4 (by decide) (by rw [q107]; rfl) (by decide) ?_
    have b133 : mm_b (100) (100) v103 := ⟨by omega, by omega⟩
    obtain ⟨v134, ev134⟩ : ∃ y : Int32, y = S.1 1 3 := ⟨_, rfl⟩
    have b135 : mm_b (0) (239) v134 := by rw [ev134]; exact Or.resolve_left x105 (bd_nec b133 (by decide))
    have q136 : ¬ v103.toInt = 99 := by omega
    refine mw_aload_n dX8_readClause_64 rfl 0 rfl ?_
    refine mw_aload_n dX8_readClause_65 rfl 1 rfl ?_
    refine tc_Vv (as := [.ref a1]) (st := []) dX8_readClause_66 rfl shC_1 rfl rfl mX8_54 t_X8_readDoor rfl (Nat.le_of_ble_eq_true rfl) (by decide) (by decide) (cx_X8_readDoor (g := g) S hI a1 ha1 (by rw [← ev134]; exact bd_w b135 (by decide))) (fun S137 h138 => ?_)
    obtain ⟨hI141, hf142, x139, hx140⟩ := h138
    have hF143 := fr_tr hF hf142 (by decide) (by decide) (by decide) (by decide)
    have hE144 : F_X8_readClause S a1 = F_X8_readClause_dc89 S137 := (by subst ev134; subst hx106; rw [F_X8_readClause, if_neg q136, if_pos q107, hx140])
    refine mw_goto (tgt := 89) dX8_readClause_69 (by decide) ?_
    exact mw_vret rfl dX8_readClause_89 rfl rfl ⟨S137, rfl, rfl, ⟨hI141, hF143, trivial, (by exact hE144.trans (by rw [F_X8_readClause_dc89]))⟩⟩
  · refine mw_lookup (off := 44) (tgt := 48) dX8_readClause_4 (by decide) (by rw [q107]; rfl) (by decide) ?_
    have b145 : mm_b (112) (112) v103 := ⟨by omega, by omega⟩
    obtain ⟨v146, ev146⟩ : ∃ y : Int32, y = S.1 1 3 := ⟨_, rfl⟩
    have b147 : mm_b (0) (239) v146 := by rw [ev146]; exact Or.resolve_left x105 (bd_nec b145 (by decide))
    have q148 : ¬ v103.toInt = 99 := by omega
    have q149 : ¬ v103.toInt = 100 := by omega
    refine mw_aload_n dX8_readClause_48 rfl 0 rfl ?_
    refine mw_aload_n dX8_readClause_49 rfl 1 rfl ?_
    refine tc_Vv (as := [.ref a1]) (st := []) dX8_readClause_50 rfl shC_1 rfl rfl mX8_48 t_X8_readPerson rfl (Nat.le_of_ble_eq_true rfl) (by decide) (by decide) (cx_X8_readPerson (g := g) S hI a1 ha1 (by rw [← ev146]; exact bd_w b147 (by decide))) (fun S150 h151 => ?_)
    obtain ⟨hI154, hf155, x152, hx153⟩ := h151
    have hF156 := fr_tr hF hf155 (by decide) (by decide) (by decide) (by decide)
    have hE157 : F_X8_readClause S a1 = F_X8_readClause_dc89 S150 := (by subst ev146; subst hx106; rw [F_X8_readClause, if_neg q148, if_neg q149, if_pos q107, hx153])
    refine mw_goto (tgt := 89) dX8_readClause_53 (by decide) ?_
    exact mw_vret rfl dX8_readClause_89 rfl rfl ⟨S150, rfl, rfl, ⟨hI154, hF156, trivial, (by exact hE157.trans (by rw [F_X8_readClause_dc89]))⟩⟩
  · refine mw_lookup (off := 52) (tgt := 56) dX8_readClause_4 (by decide) (by rw [q107]; rfl) (by decide) ?_
    have b158 : mm_b (119) (119) v103 := ⟨by omega, by omega⟩
    obtain ⟨v159, ev159⟩ : ∃ y : Int32, y = S.1 1 3 := ⟨_, rfl⟩
    have b160 : mm_b (0) (239) v159 := by rw [ev159]; exact Or.resolve_left x105 (bd_nec b158 (by decide))
    have q161 : ¬ v103.toInt = 99 := by omega
    have q162 : ¬ v103.toInt = 100 := by omega
    have q163 : ¬ v103.toInt = 112 := by omega
    refine mw_aload_n dX8_readClause_56 rfl 0 rfl ?_
    refine mw_aload_n dX8_readClause_57 rfl 1 rfl ?_
    refine tc_Vv (as := [.ref a1]) (st := []) dX8_readClause_58 rfl shC_1 rfl rfl mX8_51 t_X8_readWill rfl (Nat.le_of_ble_eq_true rfl) (by decide) (by decide) (cx_X8_readWill (g := g) S hI a1 ha1 (by rw [← ev159]; exact bd_w b160 (by decide))) (fun S164 h165 => ?_)
    obtain ⟨hI168, hf169, x166, hx167⟩ := h165
    have hF170 := fr_tr hF hf169 (by decide) (by decide) (by decide) (by decide)
    have hE171 : F_X8_readClause S a1 = F_X8_readClause_dc89 S164 := (by subst ev159; subst hx106; rw [F_X8_readClause, if_neg q161, if_neg q162, if_neg q163, if_pos q107, hx167])
    refine mw_goto (tgt := 89) dX8_readClause_61 (by decide) ?_
    exact mw_vret rfl dX8_readClause_89 rfl rfl ⟨S164, rfl, rfl, ⟨hI168, hF170, trivial, (by exact hE171.trans (by rw [F_X8_readClause_dc89]))⟩⟩
def F_X8_readInto_L25tu71 (S137 : mm_S) : Int32 × mm_S := ((F_X8_isSound S137), S137)
def F_X8_readInto_L25fffc55c59 (k25 : mm_S → Int32 → Int32 × mm_S) (S191 : mm_S) (y130 : Int32) : Int32 × mm_S := (k25 S191 (y130 + Int32.ofInt 1))
def F_X8_readInto_L25fffc55 (k25 : mm_S → Int32 → Int32 × mm_S) (S183 : mm_S) (y130 : Int32) : Int32 × mm_S := (F_X8_readInto_L25fffc55c59 k25 (F_X8_skipBlanks S183) y130)
def F_X8_readInto_L25 (a1 : Nat) : Nat → mm_S → Int32 → Int32 × mm_S
  | 0, S127, _ => (0, S127)
  | N + 1, S127, y130 => (if (240 : Int32) ≤ y130 then (F_X8_readInto_L25tu71 (mm_up S127 1 0 (0 : Int32))) else (if (S127.1 1 0) ≤ (S127.1 1 3) then (F_X8_readInto_L25tu71 (mm_up S127 1 0 (0 : Int32))) else (if (F_X8_isSound S127) = (0 : Int32) then (F_X8_readInto_L25tu71 (mm_up S127 1 0 (0 : Int32))) else (F_X8_readInto_L25fffc55 (F_X8_readInto_L25 a1 N) (F_X8_readClause S127 a1) y130))))
def F_X8_readInto_c4u20c23 (a1 : Nat) (S119 : mm_S) : Int32 × mm_S := (F_X8_readInto_L25 a1 242 S119 (0 : Int32))
def F_X8_readInto_c4u20 (a1 : Nat) (S116 : mm_S) : Int32 × mm_S := (F_X8_readInto_c4u20c23 a1 (F_X8_skipBlanks S116))
def F_X8_readInto_c4 (a1 : Nat) (S101 : mm_S) : Int32 × mm_S := (F_X8_readInto_c4u20 a1 (mm_up (mm_up (mm_up S101 1 3 (0 : Int32)) 1 1 (0 : Int32)) 1 2 (-1 : Int32)))
def F_X8_readInto (S : mm_S) (a1 : Nat) : Int32 × mm_S := (F_X8_readInto_c4 a1 (F_X6_empty S a1))
set_option maxRecDepth 100000 in
set_option maxHeartbeats 4000000 in
theorem cx_X8_readInto {g : mm_G} (S : mm_S) (hI : JC S) (a1 : Nat) (ha1 : a1 ∈ LC_parish) : mc g yX8_readInto cX8_readInto 3 (some .boolean) (mm_rm 5) [.ref 1, .ref a1] (mm_enc shC S) (qi shC (fun S1 v => JC S1 ∧ fr [1, 3, 4, 5, 6, 7, 8, 9, 10, 11, 12, 13, 14] [] true true S S1 ∧ mm_b (0) (1) v ∧ (True) ∧ F_X8_readInto S a1 = (v, S1))) := by
  refine mc_of2 (own := RX8) (ini := false) (ls := [(0, .ref 1), (1, .ref a1)]) (by decide) (Nat.le_of_ble_eq_true rfl) rfl (by decide) rfl ?_
  have hF : fr [1, 3, 4, 5, 6, 7, 8, 9, 10, 11, 12, 13, 14] [] true true S S := fr_rf
  refine mw_aload_n dX8_readInto_0 rfl 1 rfl ?_
  refine tc_Vv (as := []) (st := []) dX8_readInto_1 rfl (shC_parish_0 a1 ha1) rfl rfl mX8_22 t_X6_empty rfl (Nat.le_of_ble_eq_true rfl) (by decide) (by decide) (cx_X6_empty (g := g) S hI a1 ha1) (fun S101 h102 => ?_)
  obtain ⟨hI105, hf106, x103, hx104⟩ := h102
  have hF107 := fr_tr hF hf106 (by decide) (by decide) (by decide) (by decide)
  have hE108 : F_X8_readInto S a1 = F_X8_readInto_c4 a1 S101 := (by rw [F_X8_readInto, hx104])
  refine mw_aload_n dX8_readInto_4 rfl 0 rfl ?_
  refine mw_iconst dX8_readInto_5 ki_0 ?_
  refine tw_puti (j := 3) dX8_readInto_6 shC_1 rfl rfl (by decide) fX8_27 rfl (by decide +kernel) ?_
  have hI109 : JC (mm_up S101 1 3 0) := JIC_put hI105 n_0 (by decide +kernel)
  generalize hS110 : (mm_up S101 1 3 0) = S110 at hI109 ⊢
  have hF111 := fr_upA hF107 hS110 (by decide)
  refine mw_aload_n dX8_readInto_9 rfl 0 rfl ?_
  refine mw_iconst dX8_readInto_10 ki_0 ?_
  refine tw_puti (j := 1) dX8_readInto_11 shC_1 rfl rfl (by decide) fX8_30 rfl (by decide +kernel) ?_
  have hI112 : JC (mm_up S110 1 1 0) := JIC_put hI109 n_0 (by decide +kernel)
  generalize hS113 : (mm_up S110 1 1 0) = S113 at hI112 ⊢
  have hF114 := fr_upA hF111 hS113 (by decide)
  refine mw_aload_n dX8_readInto_14 rfl 0 rfl ?_
  refine mw_iconst dX8_readInto_15 ki_m1 ?_
  refine tw_puti (j := 2) dX8_readInto_16 shC_1 rfl rfl (by decide) fX8_9 rfl (by decide +kernel) ?_
  have hI115 : JC (mm_up S113 1 2 (-1)) := JIC_put hI112 n_m1 (by decide +kernel)
  generalize hS116 : (mm_up S113 1 2 (-1)) = S116 at hI115 ⊢
  have hF117 := fr_upA hF114 hS116 (by decide)
  refine mw_aload_n dX8_readInto_19 rfl 0 rfl ?_
  have hE118 : F_X8_readInto S a1 = F_X8_readInto_c4u20 a1 S116 := (by subst hS116; subst hS113; subst hS110; exact hE108.trans (by rw [F_X8_readInto_c4]))
  refine tc_Vv (as := []) (st := []) dX8_readInto_20 rfl shC_1 rfl rfl mX8_33 t_X8_skipBlanks rfl (Nat.le_of_ble_eq_true rfl) (by decide) (by decide) (cx_X8_skipBlanks (g := g) S116 hI115) (fun S119 h120 => ?_)
  obtain ⟨hI123, hf124, x121, hx122⟩ := h120
  have hF125 := fr_tr hF117 hf124 (by decide) (by decide) (by decide) (by decide)
  have hE126 : F_X8_readInto S a1 = F_X8_readInto_c4u20c23 a1 S119 := (by exact hE118.trans (by rw [F_X8_readInto_c4u20, hx122]))
  refine mw_iconst dX8_readInto_23 ki_0 ?_
  refine mw_istore_n (ls' := [(2, .int 0), (0, .ref 1), (1, .ref a1)]) dX8_readInto_24 rfl (by decide) rfl ?_
  have cut25 : ∀ (N25 : Nat) (S127 : mm_S) (y130 : Int32), ((241 : Int) - y130.toInt).toNat < N25 → JC S127 → fr [1, 3, 4, 5, 6, 7, 8, 9, 10, 11, 12, 13, 14] [] true true S S127 → mm_b (0) (240) y130 → F_X8_readInto S a1 = F_X8_readInto_L25 a1 N25 S127 y130 → mw g RX8 cX8_readInto 3 (some .boolean) false (mm_rm 5) (qi shC (fun S1 v => JC S1 ∧ fr [1, 3, 4, 5, 6, 7, 8, 9, 10, 11, 12, 13, 14] [] true true S S1 ∧ mm_b (0) (1) v ∧ (True) ∧ F_X8_readInto S a1 = (v, S1))) 0 0 (mm_enc shC S127) 25 [(0, .ref 1), (1, .ref a1), (2, .int y130)] [] := by
    intro N25
    induction N25 with
    | zero =>
      intro S127 y130 hm132 hI128 hF129 b131 hE133
      exact absurd hm132 (Nat.not_lt_zero _)
    | succ N25 ih25 =>
      intro S127 y130 hm132 hI128 hF129 b131 hE133
      refine mw_iload_n dX8_readInto_25 rfl 2 rfl ?_
      refine mw_sipush dX8_readInto_26 ks_240 ?_
      refine mw_icmp_ge (tgt := 65) dX8_readInto_29 (by decide) (fun q134 => ?_) (fun q134 => ?_)
      · skip
        have b135 : mm_b (240) (240) y130 := bd_le_r q134 n_240 b131 (by decide)
        refine mw_aload_n dX8_readInto_65 rfl 0 rfl ?_
        refine mw_iconst dX8_readInto_66 ki_0 ?_
        refine tw_puti (j := 0) dX8_readInto_67 shC_1 rfl rfl (by decide) fX8_19 rfl (by decide +kernel) ?_
        have hI136 : JC (mm_up S127 1 0 0) := JIC_put hI128 n_0 (by decide +kernel)
        generalize hS137 : (mm_up S127 1 0 0) = S137 at hI136 ⊢
        have hF138 := fr_upA hF129 hS137 (by decide)
        refine mw_aload_n dX8_readInto_70 rfl 0 rfl ?_
        have hE139 : F_X8_readInto S a1 = F_X8_readInto_L25tu71 S137 := (by subst hS137; exact hE133.trans (by rw [F_X8_readInto_L25, if_pos q134]))
        refine tc_Vi (as := []) (st := []) dX8_readInto_71 rfl shC_1 rfl rfl mX8_36 t_X8_isSound rfl (Nat.le_of_ble_eq_true rfl) (by decide) (by decide) (cx_X8_isSound (g := g) S137 hI136) (fun S140 v142 h141 => ?_)
        obtain ⟨rfl, b143, x144, hx145⟩ := h141
        exact mw_zret rfl (bd_nar b143 (by decide)) dX8_readInto_74 rfl rfl ⟨S137, _, rfl, rfl, hI136, hF138, b143, trivial, (by subst hx145; exact hE139.trans (by rw [F_X8_readInto_L25tu71]))⟩
      · skip
        have b146 : mm_b (0) (239) y130 := bd_lt_l (bd_nle q134) b131 n_240 (by decide)
        refine mw_aload_n dX8_readInto_32 rfl 0 rfl ?_
        refine tw_geti (j := 3) dX8_readInto_33 shC_1 rfl rfl (by decide) fX8_27 (fun v147 ev147 => ?_)
        have b148 : mm_b (0) (240) v147 := JIC_fld hI128 ev147 tbC_1 (by decide)
        refine mw_aload_n dX8_readInto_36 rfl 0 rfl ?_
        refine tw_geti (j := 0) dX8_readInto_37 shC_1 rfl rfl (by decide) fX8_19 (fun v149 ev149 => ?_)
        have b150 : mm_b (0) (240) v149 := JIC_fld hI128 ev149 tbC_0 (by decide)
        refine mw_icmp_ge (tgt := 65) dX8_readInto_40 (by decide) (fun q151 => ?_) (fun q151 => ?_)
        · skip
          refine mw_aload_n dX8_readInto_65 rfl 0 rfl ?_
          refine mw_iconst dX8_readInto_66 ki_0 ?_
          refine tw_puti (j := 0) dX8_readInto_67 shC_1 rfl rfl (by decide) fX8_19 rfl (by decide +kernel) ?_
          have hI152 : JC (mm_up S127 1 0 0) := JIC_put hI128 n_0 (by decide +kernel)
          generalize hS153 : (mm_up S127 1 0 0) = S153 at hI152 ⊢
          have hF154 := fr_upA hF129 hS153 (by decide)
          refine mw_aload_n dX8_readInto_70 rfl 0 rfl ?_
          have hE155 : F_X8_readInto S a1 = F_X8_readInto_L25tu71 S153 := (by subst hS153; subst ev149; subst ev147; exact hE133.trans (by rw [F_X8_readInto_L25, if_neg q134, if_pos q151]))
          refine tc_Vi (as := []) (st := []) dX8_readInto_71 rfl shC_1 rfl rfl mX8_36 t_X8_isSound rfl (Nat.le_of_ble_eq_true rfl) (by decide) (by decide) (cx_X8_isSound (g := g) S153 hI152) (fun S156 v158 h157 => ?_)
          obtain ⟨rfl, b159, x160, hx161⟩ := h157
          exact mw_zret rfl (bd_nar b159 (by decide)) dX8_readInto_74 rfl rfl ⟨S153, _, rfl, rfl, hI152, hF154, b159, trivial, (by subst hx161; exact hE155.trans (by rw [F_X8_readInto_L25tu71]))⟩
        · skip
          have b162 : mm_b (0) (239) v147 := bd_lt_l (bd_nle q151) b148 b150 (by decide)
          have b163 : mm_b (1) (240) v149 := bd_lt_r (bd_nle q151) b148 b150 (by decide)
          refine mw_aload_n dX8_readInto_43 rfl 0 rfl ?_
          refine tc_Vi (as := []) (st := []) dX8_readInto_44 rfl shC_1 rfl rfl mX8_36 t_X8_isSound rfl (Nat.le_of_ble_eq_true rfl) (by decide) (by decide) (cx_X8_isSound (g := g) S127 hI128) (fun S164 v166 h165 => ?_)
          obtain ⟨rfl, b167, x168, hx169⟩ := h165
          refine mw_if_eq (tgt := 65) dX8_readInto_47 (by decide) (fun q170 => ?_) (fun q170 => ?_)
          · skip
            have b171 : mm_b (0) (0) v166 := bd_eq_l q170 b167 n_0 (by decide)
            refine mw_aload_n dX8_readInto_65 rfl 0 rfl ?_
            refine mw_iconst dX8_readInto_66 ki_0 ?_
            refine tw_puti (j := 0) dX8_readInto_67 shC_1 rfl rfl (by decide) fX8_19 rfl (by decide +kernel) ?_
            have hI172 : JC (mm_up S127 1 0 0) := JIC_put hI128 n_0 (by decide +kernel)
            generalize hS173 : (mm_up S127 1 0 0) = S173 at hI172 ⊢
            have hF174 := fr_upA hF129 hS173 (by decide)
            refine mw_aload_n dX8_readInto_70 rfl 0 rfl ?_
            have hE175 : F_X8_readInto S a1 = F_X8_readInto_L25tu71 S173 := (by subst hS173; subst hx169; subst ev149; subst ev147; exact hE133.trans (by rw [F_X8_readInto_L25, if_neg q134, if_neg q151, if_pos q170]))
            refine tc_Vi (as := []) (st := []) dX8_readInto_71 rfl shC_1 rfl rfl mX8_36 t_X8_isSound rfl (Nat.le_of_ble_eq_true rfl) (by decide) (by decide) (cx_X8_isSound (g := g) S173 hI172) (fun S176 v178 h177 => ?_)
            obtain ⟨rfl, b179, x180, hx181⟩ := h177
            exact mw_zret rfl (bd_nar b179 (by decide)) dX8_readInto_74 rfl rfl ⟨S173, _, rfl, rfl, hI172, hF174, b179, trivial, (by subst hx181; exact hE175.trans (by rw [F_X8_readInto_L25tu71]))⟩
          · skip
            have b182 : mm_b (1) (1) v166 := bd_ne_l q170 b167 n_0 (by decide)
            refine mw_aload_n dX8_readInto_50 rfl 0 rfl ?_
            refine mw_aload_n dX8_readInto_51 rfl 1 rfl ?_
            refine tc_Vv (as := [.ref a1]) (st := []) dX8_readInto_52 rfl shC_1 rfl rfl mX8_40 t_X8_readClause rfl (Nat.le_of_ble_eq_true rfl) (by decide) (by decide) (cx_X8_readClause (g := g) S127 hI128 a1 ha1) (fun S183 h184 => ?_)
            obtain ⟨hI187, hf188, x185, hx186⟩ := h184
            have hF189 := fr_tr hF129 hf188 (by decide) (by decide) (by decide) (by decide)
            have hE190 : F_X8_readInto S a1 = F_X8_readInto_L25fffc55 (F_X8_readInto_L25 a1 N25) S183 y130 := (by subst hx169; subst ev149; subst ev147; exact hE133.trans (by rw [F_X8_readInto_L25, if_neg q134, if_neg q151, if_neg q170, hx186]))
            refine mw_aload_n dX8_readInto_55 rfl 0 rfl ?_
            refine tc_Vv (as := []) (st := []) dX8_readInto_56 rfl shC_1 rfl rfl mX8_33 t_X8_skipBlanks rfl (Nat.le_of_ble_eq_true rfl) (by decide) (by decide) (cx_X8_skipBlanks (g := g) S183 hI187) (fun S191 h192 => ?_)
            obtain ⟨hI195, hf196, x193, hx194⟩ := h192
            have hF197 := fr_tr hF189 hf196 (by decide) (by decide) (by decide) (by decide)
            have hE198 : F_X8_readInto S a1 = F_X8_readInto_L25fffc55c59 (F_X8_readInto_L25 a1 N25) S191 y130 := (by exact hE190.trans (by rw [F_X8_readInto_L25fffc55, hx194]))
            refine mw_iinc (ls' := fun v => [(2, .int v), (0, .ref 1), (1, .ref a1)]) dX8_readInto_59 2 rfl (by decide) (fun _ => rfl) (fun v199 ev199 => ?_)
            have b200 : mm_b (1) (240) v199 := bd_inc ev199 b146 (by decide)
            refine mw_goto (tgt := 25) dX8_readInto_62 (by decide) ?_
            refine mw_ls [1, 2, 0] rfl ?_
            exact ih25 S191 v199 (ms_inc ev199 b146 (by decide) hm132) hI195 hF197 (bd_w b200 (by decide)) (by subst ev199; exact hE198.trans (by rw [F_X8_readInto_L25fffc55c59]))
  refine mw_ls [1, 2, 0] rfl ?_
  exact cut25 242 S119 (0 : Int32) (by have hz := n_0; omega) hI123 hF125 (bd_w n_0 (by decide)) (by exact hE126.trans (by rw [F_X8_readInto_c4u20c23]))
