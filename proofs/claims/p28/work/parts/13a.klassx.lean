def F_X9_isIn (S : mm_S) (x0 : Int32) (x1 : Int32) : Int32 := (if x1 < (0 : Int32) then (0 : Int32) else (if (7 : Int32) ≤ x1 then (0 : Int32) else (if ((x0 >>> (x1 &&& 31)) &&& (1 : Int32)) = (0 : Int32) then (0 : Int32) else (1 : Int32))))
set_option maxRecDepth 100000 in
set_option maxHeartbeats 4000000 in
theorem cx_X9_isIn {g : mm_G} (S : mm_S) (hI : JC S) (x0 : Int32) (x1 : Int32) : mc g yX9_isIn cX9_isIn 2 (some .boolean) (mm_rm 0) [.int x0, .int x1] (mm_enc shC S) (qi shC (fun S1 v => S = S1 ∧ mm_b (0) (1) v ∧ (v = 0 ∨ (mm_b (0) (6) x1)) ∧ F_X9_isIn S x0 x1 = v)) := by
  refine mc_of2 (own := RX9) (ini := false) (ls := [(0, .int x0), (1, .int x1)]) (by decide) (Nat.le_of_ble_eq_true rfl) rfl (by decide) rfl ?_
  refine mw_iload_n dX9_isIn_0 rfl 1 rfl ?_
  refine mw_if_lt (tgt := 22) dX9_isIn_1 (by decide) (fun q101 => ?_) (fun q101 => ?_)
  · skip
    have b102 : mm_b (-2147483648) (-1) x1 := bd_lt_l q101 (bd_all x1) n_0 (by decide)
    refine mw_iconst dX9_isIn_22 ki_0 ?_
    exact mw_zret rfl (bd_nar n_0 (by decide)) dX9_isIn_23 rfl rfl ⟨S, _, rfl, rfl, rfl, bd_w n_0 (by decide), Or.inl rfl, (by rw [F_X9_isIn, if_pos q101])⟩
  · skip
    have b103 : mm_b (0) (2147483647) x1 := bd_le_r (bd_nlt q101) n_0 (bd_all x1) (by decide)
    refine mw_iload_n dX9_isIn_4 rfl 1 rfl ?_
    refine mw_bipush dX9_isIn_5 kb_7 ?_
    refine mw_icmp_ge (tgt := 22) dX9_isIn_7 (by decide) (fun q104 => ?_) (fun q104 => ?_)
    · skip
      have b105 : mm_b (7) (2147483647) x1 := bd_le_r q104 n_7 b103 (by decide)
      refine mw_iconst dX9_isIn_22 ki_0 ?_
      exact mw_zret rfl (bd_nar n_0 (by decide)) dX9_isIn_23 rfl rfl ⟨S, _, rfl, rfl, rfl, bd_w n_0 (by decide), Or.inl rfl, (by rw [F_X9_isIn, if_neg q101, if_pos q104])⟩
    · skip
      have b106 : mm_b (0) (6) x1 := bd_lt_l (bd_nle q104) b103 n_7 (by decide)
      refine mw_iload_n dX9_isIn_10 rfl 0 rfl ?_
      refine mw_iload_n dX9_isIn_11 rfl 1 rfl ?_
      refine mw_ishr dX9_isIn_12 (fun v107 ev107 => ?_)
      refine mw_iconst dX9_isIn_13 ki_1 ?_
      refine mw_iand dX9_isIn_14 (fun v108 ev108 => ?_)
      have b109 : mm_b (0) (1) v108 := bd_andR ev108 n_1 (by decide)
      refine mw_if_eq (tgt := 22) dX9_isIn_15 (by decide) (fun q110 => ?_) (fun q110 => ?_)
      · skip
        have b111 : mm_b (0) (0) v108 := bd_eq_l q110 b109 n_0 (by decide)
        refine mw_iconst dX9_isIn_22 ki_0 ?_
        exact mw_zret rfl (bd_nar n_0 (by decide)) dX9_isIn_23 rfl rfl ⟨S, _, rfl, rfl, rfl, bd_w n_0 (by decide), Or.inl rfl, (by subst ev108; subst ev107; rw [F_X9_isIn, if_neg q101, if_neg q104, if_pos q110])⟩
      · skip
        have b112 : mm_b (1) (1) v108 := bd_ne_l q110 b109 n_0 (by decide)
        refine mw_iconst dX9_isIn_18 ki_1 ?_
        refine mw_goto (tgt := 23) dX9_isIn_19 (by decide) ?_
        exact mw_zret rfl (bd_nar n_1 (by decide)) dX9_isIn_23 rfl rfl ⟨S, _, rfl, rfl, rfl, bd_w n_1 (by decide), Or.inr (bd_w b106 (by decide)), (by subst ev108; subst ev107; rw [F_X9_isIn, if_neg q101, if_neg q104, if_neg q110])⟩
def F_X9_isVoiceNumber (S : mm_S) (x0 : Int32) : Int32 := (if x0 < (0 : Int32) then (0 : Int32) else (if (7 : Int32) ≤ x0 then (0 : Int32) else (1 : Int32)))
set_option maxRecDepth 100000 in
set_option maxHeartbeats 4000000 in
theorem cx_X9_isVoiceNumber {g : mm_G} (S : mm_S) (hI : JC S) (x0 : Int32) : mc g yX9_isVoiceNumber cX9_isVoiceNumber 1 (some .boolean) (mm_rm 0) [.int x0] (mm_enc shC S) (qi shC (fun S1 v => S = S1 ∧ mm_b (0) (1) v ∧ (v = 0 ∨ (mm_b (0) (6) x0)) ∧ F_X9_isVoiceNumber S x0 = v)) := by
  refine mc_of2 (own := RX9) (ini := false) (ls := [(0, .int x0)]) (by decide) (Nat.le_of_ble_eq_true rfl) rfl (by decide) rfl ?_
  refine mw_iload_n dX9_isVoiceNumber_0 rfl 0 rfl ?_
  refine mw_if_lt (tgt := 14) dX9_isVoiceNumber_1 (by decide) (fun q101 => ?_) (fun q101 => ?_)
  · skip
    have b102 : mm_b (-2147483648) (-1) x0 := bd_lt_l q101 (bd_all x0) n_0 (by decide)
    refine mw_iconst dX9_isVoiceNumber_14 ki_0 ?_
    exact mw_zret rfl (bd_nar n_0 (by decide)) dX9_isVoiceNumber_15 rfl rfl ⟨S, _, rfl, rfl, rfl, bd_w n_0 (by decide), Or.inl rfl, (by rw [F_X9_isVoiceNumber, if_pos q101])⟩
  · skip
    have b103 : mm_b (0) (2147483647) x0 := bd_le_r (bd_nlt q101) n_0 (bd_all x0) (by decide)
    refine mw_iload_n dX9_isVoiceNumber_4 rfl 0 rfl ?_
    refine mw_bipush dX9_isVoiceNumber_5 kb_7 ?_
    refine mw_icmp_ge (tgt := 14) dX9_isVoiceNumber_7 (by decide) (fun q104 => ?_) (fun q104 => ?_)
    · skip
      have b105 : mm_b (7) (2147483647) x0 := bd_le_r q104 n_7 b103 (by decide)
      refine mw_iconst dX9_isVoiceNumber_14 ki_0 ?_
      exact mw_zret rfl (bd_nar n_0 (by decide)) dX9_isVoiceNumber_15 rfl rfl ⟨S, _, rfl, rfl, rfl, bd_w n_0 (by decide), Or.inl rfl, (by rw [F_X9_isVoiceNumber, if_neg q101, if_pos q104])⟩
    · skip
      have b106 : mm_b (0) (6) x0 := bd_lt_l (bd_nle q104) b103 n_7 (by decide)
      refine mw_iconst dX9_isVoiceNumber_10 ki_1 ?_
      refine mw_goto (tgt := 15) dX9_isVoiceNumber_11 (by decide) ?_
      exact mw_zret rfl (bd_nar n_1 (by decide)) dX9_isVoiceNumber_15 rfl rfl ⟨S, _, rfl, rfl, rfl, bd_w n_1 (by decide), Or.inr (bd_w b106 (by decide)), (by rw [F_X9_isVoiceNumber, if_neg q101, if_neg q104])⟩
def F_X9_isVoiceOrNone (S : mm_S) (x0 : Int32) : Int32 := (if x0 = (9 : Int32) then (1 : Int32) else (if (F_X9_isVoiceNumber S x0) = (0 : Int32) then (0 : Int32) else (1 : Int32)))
set_option maxRecDepth 100000 in
set_option maxHeartbeats 4000000 in
theorem cx_X9_isVoiceOrNone {g : mm_G} (S : mm_S) (hI : JC S) (x0 : Int32) : mc g yX9_isVoiceOrNone cX9_isVoiceOrNone 1 (some .boolean) (mm_rm 1) [.int x0] (mm_enc shC S) (qi shC (fun S1 v => S = S1 ∧ mm_b (0) (1) v ∧ (v = 0 ∨ (mm_b (0) (9) x0)) ∧ F_X9_isVoiceOrNone S x0 = v)) := by
  refine mc_of2 (own := RX9) (ini := false) (ls := [(0, .int x0)]) (by decide) (Nat.le_of_ble_eq_true rfl) rfl (by decide) rfl ?_
  refine mw_iload_n dX9_isVoiceOrNone_0 rfl 0 rfl ?_
  refine mw_bipush dX9_isVoiceOrNone_1 kb_9 ?_
  refine mw_icmp_eq (tgt := 13) dX9_isVoiceOrNone_3 (by decide) (fun q101 => ?_) (fun q101 => ?_)
  · skip
    have b102 : mm_b (9) (9) x0 := bd_eq_l q101 (bd_all x0) n_9 (by decide)
    refine mw_iconst dX9_isVoiceOrNone_13 ki_1 ?_
    refine mw_goto (tgt := 18) dX9_isVoiceOrNone_14 (by decide) ?_
    exact mw_zret rfl (bd_nar n_1 (by decide)) dX9_isVoiceOrNone_18 rfl rfl ⟨S, _, rfl, rfl, rfl, bd_w n_1 (by decide), Or.inr (bd_w b102 (by decide)), (by rw [F_X9_isVoiceOrNone, if_pos q101])⟩
  · skip
    refine mw_iload_n dX9_isVoiceOrNone_6 rfl 0 rfl ?_
    refine tc_Si (as := [.int x0]) (st := []) dX9_isVoiceOrNone_7 rfl mX9_195 t_X9_isVoiceNumber rfl (Nat.le_of_ble_eq_true rfl) (by decide) (by decide) (cx_X9_isVoiceNumber (g := g) S hI x0) (fun S103 v105 h104 => ?_)
    obtain ⟨rfl, b106, x107, hx108⟩ := h104
    refine mw_if_eq (tgt := 17) dX9_isVoiceOrNone_10 (by decide) (fun q109 => ?_) (fun q109 => ?_)
    · skip
      have b110 : mm_b (0) (0) v105 := bd_eq_l q109 b106 n_0 (by decide)
      refine mw_iconst dX9_isVoiceOrNone_17 ki_0 ?_
      exact mw_zret rfl (bd_nar n_0 (by decide)) dX9_isVoiceOrNone_18 rfl rfl ⟨S, _, rfl, rfl, rfl, bd_w n_0 (by decide), Or.inl rfl, (by subst hx108; rw [F_X9_isVoiceOrNone, if_neg q101, if_pos q109])⟩
    · skip
      have b111 : mm_b (1) (1) v105 := bd_ne_l q109 b106 n_0 (by decide)
      have b112 := Or.resolve_left x107 q109
      refine mw_iconst dX9_isVoiceOrNone_13 ki_1 ?_
      refine mw_goto (tgt := 18) dX9_isVoiceOrNone_14 (by decide) ?_
      exact mw_zret rfl (bd_nar n_1 (by decide)) dX9_isVoiceOrNone_18 rfl rfl ⟨S, _, rfl, rfl, rfl, bd_w n_1 (by decide), Or.inr (bd_w b112 (by decide)), (by subst hx108; rw [F_X9_isVoiceOrNone, if_neg q101, if_neg q109])⟩
def F_X6_empty (S : mm_S) (a0 : Nat) : mm_S := (mm_up (mm_up (mm_up (mm_up S a0 0 (0 : Int32)) a0 1 (0 : Int32)) a0 2 (0 : Int32)) a0 3 (0 : Int32))
set_option maxRecDepth 100000 in
set_option maxHeartbeats 4000000 in
theorem cx_X6_empty {g : mm_G} (S : mm_S) (hI : JC S) (a0 : Nat) (ha0 : a0 ∈ LC_parish) : mc g yX6_empty cX6_empty 1 none (mm_rm 0) [.ref a0] (mm_enc shC S) (qv shC (fun S1 => JC S1 ∧ fr [3, 9] [] true true S S1 ∧ True ∧ F_X6_empty S a0 = S1)) := by
  refine mc_of2 (own := RX6) (ini := false) (ls := [(0, .ref a0)]) (by decide) (Nat.le_of_ble_eq_true rfl) rfl (by decide) rfl ?_
  have hF : fr [3, 9] [] true true S S := fr_rf
  refine mw_aload_n dX6_empty_0 rfl 0 rfl ?_
  refine mw_iconst dX6_empty_1 ki_0 ?_
  refine tw_puti (j := 0) dX6_empty_2 (shC_parish_0 a0 ha0) rfl rfl (by decide) fX6_27 rfl (by decide +kernel) ?_
  have hI101 : JC (mm_up S a0 0 0) := JIC_put hI n_0 (ckZ ha0 (by decide +kernel))
  generalize hS102 : (mm_up S a0 0 0) = S102 at hI101 ⊢
  have hF103 := fr_upA hF hS102 (memZ ha0 (by decide))
  refine mw_aload_n dX6_empty_5 rfl 0 rfl ?_
  refine mw_iconst dX6_empty_6 ki_0 ?_
  refine tw_puti (j := 1) dX6_empty_7 (shC_parish_0 a0 ha0) rfl rfl (by decide) fX6_31 rfl (by decide +kernel) ?_
  have hI104 : JC (mm_up S102 a0 1 0) := JIC_put hI101 n_0 (ckZ ha0 (by decide +kernel))
  generalize hS105 : (mm_up S102 a0 1 0) = S105 at hI104 ⊢
  have hF106 := fr_upA hF103 hS105 (memZ ha0 (by decide))
  refine mw_aload_n dX6_empty_10 rfl 0 rfl ?_
  refine mw_iconst dX6_empty_11 ki_0 ?_
  refine tw_puti (j := 2) dX6_empty_12 (shC_parish_0 a0 ha0) rfl rfl (by decide) fX6_34 rfl (by decide +kernel) ?_
  have hI107 : JC (mm_up S105 a0 2 0) := JIC_put hI104 n_0 (ckZ ha0 (by decide +kernel))
  generalize hS108 : (mm_up S105 a0 2 0) = S108 at hI107 ⊢
  have hF109 := fr_upA hF106 hS108 (memZ ha0 (by decide))
  refine mw_aload_n dX6_empty_15 rfl 0 rfl ?_
  refine mw_iconst dX6_empty_16 ki_0 ?_
  refine tw_puti (j := 3) dX6_empty_17 (shC_parish_0 a0 ha0) rfl rfl (by decide) fX6_37 rfl (by decide +kernel) ?_
  have hI110 : JC (mm_up S108 a0 3 0) := JIC_put hI107 n_0 (ckZ ha0 (by decide +kernel))
  generalize hS111 : (mm_up S108 a0 3 0) = S111 at hI110 ⊢
  have hF112 := fr_upA hF109 hS111 (memZ ha0 (by decide))
  exact mw_vret rfl dX6_empty_20 rfl rfl ⟨S111, rfl, rfl, ⟨hI110, hF112, trivial, (by subst hS111; subst hS108; subst hS105; subst hS102; rw [F_X6_empty])⟩⟩
def F_X6_addPerson (S : mm_S) (a0 : Nat) (x1 : Int32) : mm_S := (if (7 : Int32) ≤ (S.1 a0 0) then S else (mm_up (mm_up (mm_up (mm_up S (a0 + 1) ((S.1 a0 0)).toNatClampNeg x1) (a0 + 2) ((S.1 a0 0)).toNatClampNeg (9 : Int32)) (a0 + 3) ((S.1 a0 0)).toNatClampNeg (9 : Int32)) a0 0 ((S.1 a0 0) + (1 : Int32))))
set_option maxRecDepth 100000 in
set_option maxHeartbeats 4000000 in
theorem cx_X6_addPerson {g : mm_G} (S : mm_S) (hI : JC S) (a0 : Nat) (ha0 : a0 ∈ LC_parish) (x1 : Int32) : mc g yX6_addPerson cX6_addPerson 2 none (mm_rm 0) [.ref a0, .int x1] (mm_enc shC S) (qv shC (fun S1 => JC S1 ∧ fr [3, 4, 5, 6, 9, 10, 11, 12] [] true true S S1 ∧ True ∧ F_X6_addPerson S a0 x1 = S1)) := by
  refine mc_of2 (own := RX6) (ini := false) (ls := [(0, .ref a0), (1, .int x1)]) (by decide) (Nat.le_of_ble_eq_true rfl) rfl (by decide) rfl ?_
  have hF : fr [3, 4, 5, 6, 9, 10, 11, 12] [] true true S S := fr_rf
  refine mw_aload_n dX6_addPerson_0 rfl 0 rfl ?_
  refine tw_geti (j := 0) dX6_addPerson_1 (shC_parish_0 a0 ha0) rfl rfl (by decide) fX6_27 (fun v101 ev101 => ?_)
  have b102 : mm_b (0) (7) v101 := JIC_fld hI ev101 (tbC_parish_0_0 a0 ha0) (by decide)
  refine mw_aload_n dX6_addPerson_4 rfl 0 rfl ?_
  refine tw_getr (j := 4) dX6_addPerson_5 (shC_parish_0 a0 ha0) rfl rfl (by decide) fX6_9 ?_
  refine tw_aleni (v := 7) dX6_addPerson_8 (shC_parish_1 a0 ha0) rfl (by decide) ?_
  refine mw_icmp_ge (tgt := 54) dX6_addPerson_9 (by decide) (fun q103 => ?_) (fun q103 => ?_)
  · skip
    have b104 : mm_b (7) (7) v101 := bd_le_r q103 n_7 b102 (by decide)
    exact mw_vret rfl dX6_addPerson_54 rfl rfl ⟨S, rfl, rfl, ⟨hI, hF, trivial, (by subst ev101; rw [F_X6_addPerson, if_pos q103])⟩⟩
  · skip
    have b105 : mm_b (0) (6) v101 := bd_lt_l (bd_nle q103) b102 n_7 (by decide)
    refine mw_aload_n dX6_addPerson_12 rfl 0 rfl ?_
    refine tw_getr (j := 4) dX6_addPerson_13 (shC_parish_0 a0 ha0) rfl rfl (by decide) fX6_9 ?_
    refine mw_aload_n dX6_addPerson_16 rfl 0 rfl ?_
    refine tw_geti (j := 0) dX6_addPerson_17 (shC_parish_0 a0 ha0) rfl rfl (by decide) fX6_27 (fun v106 ev106 => ?_)
    have cv106 : v101 = v106 := ev101.trans ev106.symm
    subst cv106
    refine mw_iload_n dX6_addPerson_20 rfl 1 rfl ?_
    refine tw_iast dX6_addPerson_21 (shC_parish_1 a0 ha0) (bd_in b105 (by decide)) ?_
    have hI107 : JC (mm_up S (a0 + 1) v101.toNatClampNeg x1) := JIC_puta hI (bd_all x1) b105 (by decide) (ckS ha0 (by decide +kernel))
    generalize hS108 : (mm_up S (a0 + 1) v101.toNatClampNeg x1) = S108 at hI107 ⊢
    have hF109 := fr_upA hF hS108 (memS ha0 (by decide))
    refine mw_aload_n dX6_addPerson_22 rfl 0 rfl ?_
    refine tw_getr (j := 5) dX6_addPerson_23 (shC_parish_0 a0 ha0) rfl rfl (by decide) fX6_15 ?_
    refine mw_aload_n dX6_addPerson_26 rfl 0 rfl ?_
    refine tw_geti (j := 0) dX6_addPerson_27 (shC_parish_0 a0 ha0) rfl rfl (by decide) fX6_27 (fun v110 ev110 => ?_)
    have cv110 : v101 = v110 := (ev101.trans (up_neA hS108 (by omega))).trans ev110.symm
    subst cv110
    refine mw_bipush dX6_addPerson_30 kb_9 ?_
    refine tw_iast dX6_addPerson_32 (shC_parish_2 a0 ha0) (bd_in b105 (by decide)) ?_
    have hI111 : JC (mm_up S108 (a0 + 2) v101.toNatClampNeg 9) := JIC_puta hI107 n_9 b105 (by decide) (ckS ha0 (by decide +kernel))
    generalize hS112 : (mm_up S108 (a0 + 2) v101.toNatClampNeg 9) = S112 at hI111 ⊢
    have hF113 := fr_upA hF109 hS112 (memS ha0 (by decide))
    refine mw_aload_n dX6_addPerson_33 rfl 0 rfl ?_
    refine tw_getr (j := 6) dX6_addPerson_34 (shC_parish_0 a0 ha0) rfl rfl (by decide) fX6_18 ?_
    refine mw_aload_n dX6_addPerson_37 rfl 0 rfl ?_
    refine tw_geti (j := 0) dX6_addPerson_38 (shC_parish_0 a0 ha0) rfl rfl (by decide) fX6_27 (fun v114 ev114 => ?_)
    have cv114 : v101 = v114 := ((ev101.trans (up_neA hS108 (by omega))).trans (up_neA hS112 (by omega))).trans ev114.symm
    subst cv114
    refine mw_bipush dX6_addPerson_41 kb_9 ?_
    refine tw_iast dX6_addPerson_43 (shC_parish_3 a0 ha0) (bd_in b105 (by decide)) ?_
    have hI115 : JC (mm_up S112 (a0 + 3) v101.toNatClampNeg 9) := JIC_puta hI111 n_9 b105 (by decide) (ckS ha0 (by decide +kernel))
    generalize hS116 : (mm_up S112 (a0 + 3) v101.toNatClampNeg 9) = S116 at hI115 ⊢
    have hF117 := fr_upA hF113 hS116 (memS ha0 (by decide))
    refine mw_aload_n dX6_addPerson_44 rfl 0 rfl ?_
    refine mw_dup dX6_addPerson_45 rfl ?_
    refine tw_geti (j := 0) dX6_addPerson_46 (shC_parish_0 a0 ha0) rfl rfl (by decide) fX6_27 (fun v118 ev118 => ?_)
    have cv118 : v101 = v118 := (((ev101.trans (up_neA hS108 (by omega))).trans (up_neA hS112 (by omega))).trans (up_neA hS116 (by omega))).trans ev118.symm
    subst cv118
    refine mw_iconst dX6_addPerson_49 ki_1 ?_
    refine mw_iadd dX6_addPerson_50 (fun v119 ev119 => ?_)
    have b120 : mm_b (1) (7) v119 := bd_add ev119 b105 n_1 (by decide)
    refine tw_puti (j := 0) dX6_addPerson_51 (shC_parish_0 a0 ha0) rfl rfl (by decide) fX6_27 rfl (by decide +kernel) ?_
    have hI121 : JC (mm_up S116 a0 0 v119) := JIC_put hI115 b120 (ckZ ha0 (by decide +kernel))
    generalize hS122 : (mm_up S116 a0 0 v119) = S122 at hI121 ⊢
    have hF123 := fr_upA hF117 hS122 (memZ ha0 (by decide))
    exact mw_vret rfl dX6_addPerson_54 rfl rfl ⟨S122, rfl, rfl, ⟨hI121, hF123, trivial, (by subst hS122; subst ev119; subst hS116; subst hS112; subst hS108; subst ev101; rw [F_X6_addPerson, if_neg q103])⟩⟩
def F_X6_hasPerson (S : mm_S) (a0 : Nat) (x1 : Int32) : Int32 := (if x1 < (0 : Int32) then (0 : Int32) else (if (S.1 a0 0) ≤ x1 then (0 : Int32) else (1 : Int32)))
set_option maxRecDepth 100000 in
set_option maxHeartbeats 4000000 in
theorem cx_X6_hasPerson {g : mm_G} (S : mm_S) (hI : JC S) (a0 : Nat) (ha0 : a0 ∈ LC_parish) (x1 : Int32) : mc g yX6_hasPerson cX6_hasPerson 2 (some .boolean) (mm_rm 0) [.ref a0, .int x1] (mm_enc shC S) (qi shC (fun S1 v => S = S1 ∧ mm_b (0) (1) v ∧ (v = 0 ∨ (mm_b (0) (6) x1)) ∧ F_X6_hasPerson S a0 x1 = v)) := by
  refine mc_of2 (own := RX6) (ini := false) (ls := [(0, .ref a0), (1, .int x1)]) (by decide) (Nat.le_of_ble_eq_true rfl) rfl (by decide) rfl ?_
  refine mw_iload_n dX6_hasPerson_0 rfl 1 rfl ?_
  refine mw_if_lt (tgt := 16) dX6_hasPerson_1 (by decide) (fun q101 => ?_) (fun q101 => ?_)
  · skip
    have b102 : mm_b (-2147483648) (-1) x1 := bd_lt_l q101 (bd_all x1) n_0 (by decide)
    refine mw_iconst dX6_hasPerson_16 ki_0 ?_
    exact mw_zret rfl (bd_nar n_0 (by decide)) dX6_hasPerson_17 rfl rfl ⟨S, _, rfl, rfl, rfl, bd_w n_0 (by decide), Or.inl rfl, (by rw [F_X6_hasPerson, if_pos q101])⟩
  · skip
    have b103 : mm_b (0) (2147483647) x1 := bd_le_r (bd_nlt q101) n_0 (bd_all x1) (by decide)
    refine mw_iload_n dX6_hasPerson_4 rfl 1 rfl ?_
    refine mw_aload_n dX6_hasPerson_5 rfl 0 rfl ?_
    refine tw_geti (j := 0) dX6_hasPerson_6 (shC_parish_0 a0 ha0) rfl rfl (by decide) fX6_27 (fun v104 ev104 => ?_)
    have b105 : mm_b (0) (7) v104 := JIC_fld hI ev104 (tbC_parish_0_0 a0 ha0) (by decide)
    refine mw_icmp_ge (tgt := 16) dX6_hasPerson_9 (by decide) (fun q106 => ?_) (fun q106 => ?_)
    · skip
      refine mw_iconst dX6_hasPerson_16 ki_0 ?_
      exact mw_zret rfl (bd_nar n_0 (by decide)) dX6_hasPerson_17 rfl rfl ⟨S, _, rfl, rfl, rfl, bd_w n_0 (by decide), Or.inl rfl, (by subst ev104; rw [F_X6_hasPerson, if_neg q101, if_pos q106])⟩
    · skip
      have b107 : mm_b (0) (6) x1 := bd_lt_l (bd_nle q106) b103 b105 (by decide)
      have b108 : mm_b (1) (7) v104 := bd_lt_r (bd_nle q106) b103 b105 (by decide)
      refine mw_iconst dX6_hasPerson_12 ki_1 ?_
      refine mw_goto (tgt := 17) dX6_hasPerson_13 (by decide) ?_
      exact mw_zret rfl (bd_nar n_1 (by decide)) dX6_hasPerson_17 rfl rfl ⟨S, _, rfl, rfl, rfl, bd_w n_1 (by decide), Or.inr (bd_w b107 (by decide)), (by subst ev104; rw [F_X6_hasPerson, if_neg q101, if_neg q106])⟩
def F_X6_rangeOf (S : mm_S) (a0 : Nat) (x1 : Int32) : Int32 := (if (F_X6_hasPerson S a0 x1) = (0 : Int32) then (9 : Int32) else (S.1 (a0 + 1) (x1).toNatClampNeg))
set_option maxRecDepth 100000 in
set_option maxHeartbeats 4000000 in
theorem cx_X6_rangeOf {g : mm_G} (S : mm_S) (hI : JC S) (a0 : Nat) (ha0 : a0 ∈ LC_parish) (x1 : Int32) : mc g yX6_rangeOf cX6_rangeOf 2 (some .int) (mm_rm 1) [.ref a0, .int x1] (mm_enc shC S) (qi shC (fun S1 v => S = S1 ∧ mm_b (-2147483648) (2147483647) v ∧ (True) ∧ F_X6_rangeOf S a0 x1 = v)) := by
  refine mc_of2 (own := RX6) (ini := false) (ls := [(0, .ref a0), (1, .int x1)]) (by decide) (Nat.le_of_ble_eq_true rfl) rfl (by decide) rfl ?_
  refine mw_aload_n dX6_rangeOf_0 rfl 0 rfl ?_
  refine mw_iload_n dX6_rangeOf_1 rfl 1 rfl ?_
  refine tc_Vi (as := [.int x1]) (st := []) dX6_rangeOf_2 rfl (shC_parish_0 a0 ha0) rfl rfl mX6_40 t_X6_hasPerson rfl (Nat.le_of_ble_eq_true rfl) (by decide) (by decide) (cx_X6_hasPerson (g := g) S hI a0 ha0 x1) (fun S101 v103 h102 => ?_)
  obtain ⟨rfl, b104, x105, hx106⟩ := h102
  refine mw_if_eq (tgt := 17) dX6_rangeOf_5 (by decide) (fun q107 => ?_) (fun q107 => ?_)
  · skip
    have b108 : mm_b (0) (0) v103 := bd_eq_l q107 b104 n_0 (by decide)
    refine mw_bipush dX6_rangeOf_17 kb_9 ?_
    exact mw_iret rfl dX6_rangeOf_19 rfl rfl ⟨S, _, rfl, rfl, rfl, bd_w n_9 (by decide), trivial, (by subst hx106; rw [F_X6_rangeOf, if_pos q107])⟩
  · skip
    have b109 : mm_b (1) (1) v103 := bd_ne_l q107 b104 n_0 (by decide)
    have b110 := Or.resolve_left x105 q107
    refine mw_aload_n dX6_rangeOf_8 rfl 0 rfl ?_
    refine tw_getr (j := 4) dX6_rangeOf_9 (shC_parish_0 a0 ha0) rfl rfl (by decide) fX6_9 ?_
    refine mw_iload_n dX6_rangeOf_12 rfl 1 rfl ?_
    refine tw_iald dX6_rangeOf_13 (shC_parish_1 a0 ha0) (bd_in b110 (by decide)) (fun v111 ev111 => ?_)
    refine mw_goto (tgt := 19) dX6_rangeOf_14 (by decide) ?_
    exact mw_iret rfl dX6_rangeOf_19 rfl rfl ⟨S, _, rfl, rfl, rfl, (bd_all v111), trivial, (by subst ev111; subst hx106; rw [F_X6_rangeOf, if_neg q107])⟩
def F_X6_hasVoice (S : mm_S) (a0 : Nat) (x1 : Int32) : Int32 := (if (F_X6_rangeOf S a0 x1) = (9 : Int32) then (0 : Int32) else (1 : Int32))
set_option maxRecDepth 100000 in
set_option maxHeartbeats 4000000 in
theorem cx_X6_hasVoice {g : mm_G} (S : mm_S) (hI : JC S) (a0 : Nat) (ha0 : a0 ∈ LC_parish) (x1 : Int32) : mc g yX6_hasVoice cX6_hasVoice 2 (some .boolean) (mm_rm 2) [.ref a0, .int x1] (mm_enc shC S) (qi shC (fun S1 v => S = S1 ∧ mm_b (0) (1) v ∧ (True) ∧ F_X6_hasVoice S a0 x1 = v)) := by
  refine mc_of2 (own := RX6) (ini := false) (ls := [(0, .ref a0), (1, .int x1)]) (by decide) (Nat.le_of_ble_eq_true rfl) rfl (by decide) rfl ?_
  refine mw_aload_n dX6_hasVoice_0 rfl 0 rfl ?_
  refine mw_iload_n dX6_hasVoice_1 rfl 1 rfl ?_
  refine tc_Vi (as := [.int x1]) (st := []) dX6_hasVoice_2 rfl (shC_parish_0 a0 ha0) rfl rfl mX6_44 t_X6_rangeOf rfl (Nat.le_of_ble_eq_true rfl) (by decide) (by decide) (cx_X6_rangeOf (g := g) S hI a0 ha0 x1) (fun S101 v103 h102 => ?_)
  obtain ⟨rfl, b104, x105, hx106⟩ := h102
  refine mw_bipush dX6_hasVoice_5 kb_9 ?_
  refine mw_icmp_eq (tgt := 14) dX6_hasVoice_7 (by decide) (fun q107 => ?_) (fun q107 => ?_)
  · skip
    have b108 : mm_b (9) (9) v103 := bd_eq_l q107 b104 n_9 (by decide)
    refine mw_iconst dX6_hasVoice_14 ki_0 ?_
    exact mw_zret rfl (bd_nar n_0 (by decide)) dX6_hasVoice_15 rfl rfl ⟨S, _, rfl, rfl, rfl, bd_w n_0 (by decide), trivial, (by subst hx106; rw [F_X6_hasVoice, if_pos q107])⟩
  · skip
    refine mw_iconst dX6_hasVoice_10 ki_1 ?_
    refine mw_goto (tgt := 15) dX6_hasVoice_11 (by decide) ?_
    exact mw_zret rfl (bd_nar n_1 (by decide)) dX6_hasVoice_15 rfl rfl ⟨S, _, rfl, rfl, rfl, bd_w n_1 (by decide), trivial, (by subst hx106; rw [F_X6_hasVoice, if_neg q107])⟩
def F_X6_hasDoor (S : mm_S) (a0 : Nat) (x1 : Int32) : Int32 := (if x1 < (0 : Int32) then (0 : Int32) else (if (S.1 a0 1) ≤ x1 then (0 : Int32) else (1 : Int32)))
set_option maxRecDepth 100000 in
set_option maxHeartbeats 4000000 in
theorem cx_X6_hasDoor {g : mm_G} (S : mm_S) (hI : JC S) (a0 : Nat) (ha0 : a0 ∈ LC_parish) (x1 : Int32) : mc g yX6_hasDoor cX6_hasDoor 2 (some .boolean) (mm_rm 0) [.ref a0, .int x1] (mm_enc shC S) (qi shC (fun S1 v => S = S1 ∧ mm_b (0) (1) v ∧ (v = 0 ∨ (mm_b (0) (5) x1)) ∧ F_X6_hasDoor S a0 x1 = v)) := by
  refine mc_of2 (own := RX6) (ini := false) (ls := [(0, .ref a0), (1, .int x1)]) (by decide) (Nat.le_of_ble_eq_true rfl) rfl (by decide) rfl ?_
  refine mw_iload_n dX6_hasDoor_0 rfl 1 rfl ?_
  refine mw_if_lt (tgt := 16) dX6_hasDoor_1 (by decide) (fun q101 => ?_) (fun q101 => ?_)
  · skip
    have b102 : mm_b (-2147483648) (-1) x1 := bd_lt_l q101 (bd_all x1) n_0 (by decide)
    refine mw_iconst dX6_hasDoor_16 ki_0 ?_
    exact mw_zret rfl (bd_nar n_0 (by decide)) dX6_hasDoor_17 rfl rfl ⟨S, _, rfl, rfl, rfl, bd_w n_0 (by decide), Or.inl rfl, (by rw [F_X6_hasDoor, if_pos q101])⟩
  · skip
    have b103 : mm_b (0) (2147483647) x1 := bd_le_r (bd_nlt q101) n_0 (bd_all x1) (by decide)
    refine mw_iload_n dX6_hasDoor_4 rfl 1 rfl ?_
    refine mw_aload_n dX6_hasDoor_5 rfl 0 rfl ?_
    refine tw_geti (j := 1) dX6_hasDoor_6 (shC_parish_0 a0 ha0) rfl rfl (by decide) fX6_31 (fun v104 ev104 => ?_)
    have b105 : mm_b (0) (6) v104 := JIC_fld hI ev104 (tbC_parish_0_1 a0 ha0) (by decide)
    refine mw_icmp_ge (tgt := 16) dX6_hasDoor_9 (by decide) (fun q106 => ?_) (fun q106 => ?_)
    · skip
      refine mw_iconst dX6_hasDoor_16 ki_0 ?_
      exact mw_zret rfl (bd_nar n_0 (by decide)) dX6_hasDoor_17 rfl rfl ⟨S, _, rfl, rfl, rfl, bd_w n_0 (by decide), Or.inl rfl, (by subst ev104; rw [F_X6_hasDoor, if_neg q101, if_pos q106])⟩
    · skip
      have b107 : mm_b (0) (5) x1 := bd_lt_l (bd_nle q106) b103 b105 (by decide)
      have b108 : mm_b (1) (6) v104 := bd_lt_r (bd_nle q106) b103 b105 (by decide)
      refine mw_iconst dX6_hasDoor_12 ki_1 ?_
      refine mw_goto (tgt := 17) dX6_hasDoor_13 (by decide) ?_
      exact mw_zret rfl (bd_nar n_1 (by decide)) dX6_hasDoor_17 rfl rfl ⟨S, _, rfl, rfl, rfl, bd_w n_1 (by decide), Or.inr (bd_w b107 (by decide)), (by subst ev104; rw [F_X6_hasDoor, if_neg q101, if_neg q106])⟩
def F_X6_hasWill (S : mm_S) (a0 : Nat) (x1 : Int32) : Int32 := (F_X9_isIn S (S.1 a0 3) x1)
set_option maxRecDepth 100000 in
set_option maxHeartbeats 4000000 in
theorem cx_X6_hasWill {g : mm_G} (S : mm_S) (hI : JC S) (a0 : Nat) (ha0 : a0 ∈ LC_parish) (x1 : Int32) : mc g yX6_hasWill cX6_hasWill 2 (some .boolean) (mm_rm 1) [.ref a0, .int x1] (mm_enc shC S) (qi shC (fun S1 v => S = S1 ∧ mm_b (0) (1) v ∧ (v = 0 ∨ (mm_b (0) (6) x1)) ∧ F_X6_hasWill S a0 x1 = v)) := by
  refine mc_of2 (own := RX6) (ini := false) (ls := [(0, .ref a0), (1, .int x1)]) (by decide) (Nat.le_of_ble_eq_true rfl) rfl (by decide) rfl ?_
  refine mw_aload_n dX6_hasWill_0 rfl 0 rfl ?_
  refine tw_geti (j := 3) dX6_hasWill_1 (shC_parish_0 a0 ha0) rfl rfl (by decide) fX6_37 (fun v101 ev101 => ?_)
  refine mw_iload_n dX6_hasWill_4 rfl 1 rfl ?_
  refine tc_SiN (as := [.int v101, .int x1]) (st := []) dX6_hasWill_5 rfl mX6_48 t_X9_isIn rfl (Nat.le_of_ble_eq_true rfl) (by decide) (by decide) (cx_X9_isIn (g := g) S hI v101 x1) (fun S102 v104 h103 => ?_)
  obtain ⟨rfl, b105, x106, hx107⟩ := h103
  have xx := x106
  exact mw_zret rfl (bd_nar b105 (by decide)) dX6_hasWill_8 rfl rfl ⟨S, _, rfl, rfl, rfl, b105, Or.elim xx Or.inl (fun u108 => Or.inr (bd_w u108 (by decide))), (by subst hx107; subst ev101; rw [F_X6_hasWill])⟩
def F_X6_firstToldHeir (S : mm_S) (a0 : Nat) (x1 : Int32) : Int32 := (if (F_X6_hasPerson S a0 x1) = (0 : Int32) then (9 : Int32) else (S.1 (a0 + 2) (x1).toNatClampNeg))
set_option maxRecDepth 100000 in
set_option maxHeartbeats 4000000 in
theorem cx_X6_firstToldHeir {g : mm_G} (S : mm_S) (hI : JC S) (a0 : Nat) (ha0 : a0 ∈ LC_parish) (x1 : Int32) : mc g yX6_firstToldHeir cX6_firstToldHeir 2 (some .int) (mm_rm 1) [.ref a0, .int x1] (mm_enc shC S) (qi shC (fun S1 v => S = S1 ∧ mm_b (-2147483648) (2147483647) v ∧ (True) ∧ F_X6_firstToldHeir S a0 x1 = v)) := by
  refine mc_of2 (own := RX6) (ini := false) (ls := [(0, .ref a0), (1, .int x1)]) (by decide) (Nat.le_of_ble_eq_true rfl) rfl (by decide) rfl ?_
  refine mw_aload_n dX6_firstToldHeir_0 rfl 0 rfl ?_
  refine mw_iload_n dX6_firstToldHeir_1 rfl 1 rfl ?_
  refine tc_Vi (as := [.int x1]) (st := []) dX6_firstToldHeir_2 rfl (shC_parish_0 a0 ha0) rfl rfl mX6_40 t_X6_hasPerson rfl (Nat.le_of_ble_eq_true rfl) (by decide) (by decide) (cx_X6_hasPerson (g := g) S hI a0 ha0 x1) (fun S101 v103 h102 => ?_)
  obtain ⟨rfl, b104, x105, hx106⟩ := h102
  refine mw_if_eq (tgt := 17) dX6_firstToldHeir_5 (by decide) (fun q107 => ?_) (fun q107 => ?_)
  · skip
    have b108 : mm_b (0) (0) v103 := bd_eq_l q107 b104 n_0 (by decide)
    refine mw_bipush dX6_firstToldHeir_17 kb_9 ?_
    exact mw_iret rfl dX6_firstToldHeir_19 rfl rfl ⟨S, _, rfl, rfl, rfl, bd_w n_9 (by decide), trivial, (by subst hx106; rw [F_X6_firstToldHeir, if_pos q107])⟩
  · skip
    have b109 : mm_b (1) (1) v103 := bd_ne_l q107 b104 n_0 (by decide)
    have b110 := Or.resolve_left x105 q107
    refine mw_aload_n dX6_firstToldHeir_8 rfl 0 rfl ?_
    refine tw_getr (j := 5) dX6_firstToldHeir_9 (shC_parish_0 a0 ha0) rfl rfl (by decide) fX6_15 ?_
    refine mw_iload_n dX6_firstToldHeir_12 rfl 1 rfl ?_
    refine tw_iald dX6_firstToldHeir_13 (shC_parish_2 a0 ha0) (bd_in b110 (by decide)) (fun v111 ev111 => ?_)
    refine mw_goto (tgt := 19) dX6_firstToldHeir_14 (by decide) ?_
    exact mw_iret rfl dX6_firstToldHeir_19 rfl rfl ⟨S, _, rfl, rfl, rfl, (bd_all v111), trivial, (by subst ev111; subst hx106; rw [F_X6_firstToldHeir, if_neg q107])⟩
def F_X6_secondToldHeir (S : mm_S) (a0 : Nat) (x1 : Int32) : Int32 := (if (F_X6_hasPerson S a0 x1) = (0 : Int32) then (9 : Int32) else (S.1 (a0 + 3) (x1).toNatClampNeg))
set_option maxRecDepth 100000 in
set_option maxHeartbeats 4000000 in
theorem cx_X6_secondToldHeir {g : mm_G} (S : mm_S) (hI : JC S) (a0 : Nat) (ha0 : a0 ∈ LC_parish) (x1 : Int32) : mc g yX6_secondToldHeir cX6_secondToldHeir 2 (some .int) (mm_rm 1) [.ref a0, .int x1] (mm_enc shC S) (qi shC (fun S1 v => S = S1 ∧ mm_b (-2147483648) (2147483647) v ∧ (True) ∧ F_X6_secondToldHeir S a0 x1 = v)) := by
  refine mc_of2 (own := RX6) (ini := false) (ls := [(0, .ref a0), (1, .int x1)]) (by decide) (Nat.le_of_ble_eq_true rfl) rfl (by decide) rfl ?_
  refine mw_aload_n dX6_secondToldHeir_0 rfl 0 rfl ?_
  refine mw_iload_n dX6_secondToldHeir_1 rfl 1 rfl ?_
  refine tc_Vi (as := [.int x1]) (st := []) dX6_secondToldHeir_2 rfl (shC_parish_0 a0 ha0) rfl rfl mX6_40 t_X6_hasPerson rfl (Nat.le_of_ble_eq_true rfl) (by decide) (by decide) (cx_X6_hasPerson (g := g) S hI a0 ha0 x1) (fun S101 v103 h102 => ?_)
  obtain ⟨rfl, b104, x105, hx106⟩ := h102
  refine mw_if_eq (tgt := 17) dX6_secondToldHeir_5 (by decide) (fun q107 => ?_) (fun q107 => ?_)
  · skip
    have b108 : mm_b (0) (0) v103 := bd_eq_l q107 b104 n_0 (by decide)
    refine mw_bipush dX6_secondToldHeir_17 kb_9 ?_
    exact mw_iret rfl dX6_secondToldHeir_19 rfl rfl ⟨S, _, rfl, rfl, rfl, bd_w n_9 (by decide), trivial, (by subst hx106; rw [F_X6_secondToldHeir, if_pos q107])⟩
  · skip
    have b109 : mm_b (1) (1) v103 := bd_ne_l q107 b104 n_0 (by decide)
    have b110 := Or.resolve_left x105 q107
    refine mw_aload_n dX6_secondToldHeir_8 rfl 0 rfl ?_
    refine tw_getr (j := 6) dX6_secondToldHeir_9 (shC_parish_0 a0 ha0) rfl rfl (by decide) fX6_18 ?_
    refine mw_iload_n dX6_secondToldHeir_12 rfl 1 rfl ?_
    refine tw_iald dX6_secondToldHeir_13 (shC_parish_3 a0 ha0) (bd_in b110 (by decide)) (fun v111 ev111 => ?_)
    refine mw_goto (tgt := 19) dX6_secondToldHeir_14 (by decide) ?_
    exact mw_iret rfl dX6_secondToldHeir_19 rfl rfl ⟨S, _, rfl, rfl, rfl, (bd_all v111), trivial, (by subst ev111; subst hx106; rw [F_X6_secondToldHeir, if_neg q107])⟩
def F_X6_knownBy (S : mm_S) (a0 : Nat) (x1 : Int32) : Int32 := (if (F_X6_hasDoor S a0 x1) = (0 : Int32) then (0 : Int32) else (S.1 (a0 + 4) (x1).toNatClampNeg))
def F_X6_voices_L4 (a0 : Nat) : Nat → mm_S → Int32 → Int32 → Int32
  | 0, S, _, _ => 0
  | N + 1, S, y101, y103 => (if (S.1 a0 0) ≤ y103 then y101 else (if (F_X6_hasVoice S a0 y103) = (0 : Int32) then ((F_X6_voices_L4 a0 N) S y101 (y103 + Int32.ofInt 1)) else ((F_X6_voices_L4 a0 N) S (y101 ||| ((1 : Int32) <<< (y103 &&& 31))) (y103 + Int32.ofInt 1))))
def F_X6_voices (S : mm_S) (a0 : Nat) : Int32 := (F_X6_voices_L4 a0 9 S (0 : Int32) (0 : Int32))
def F_X6_addWill (S : mm_S) (a0 : Nat) (x1 : Int32) (x2 : Int32) (x3 : Int32) : mm_S := (if (F_X6_hasPerson S a0 x1) = (0 : Int32) then S else (mm_up (mm_up (mm_up S (a0 + 2) (x1).toNatClampNeg x2) (a0 + 3) (x1).toNatClampNeg x3) a0 3 ((S.1 a0 3) ||| ((1 : Int32) <<< (x1 &&& 31)))))
set_option maxRecDepth 100000 in
set_option maxHeartbeats 4000000 in
theorem cx_X6_addWill {g : mm_G} (S : mm_S) (hI : JC S) (a0 : Nat) (ha0 : a0 ∈ LC_parish) (x1 : Int32) (x2 : Int32) (x3 : Int32) : mc g yX6_addWill cX6_addWill 4 none (mm_rm 1) [.ref a0, .int x1, .int x2, .int x3] (mm_enc shC S) (qv shC (fun S1 => JC S1 ∧ fr [3, 5, 6, 9, 11, 12] [] true true S S1 ∧ True ∧ F_X6_addWill S a0 x1 x2 x3 = S1)) := by
  refine mc_of2 (own := RX6) (ini := false) (ls := [(0, .ref a0), (1, .int x1), (2, .int x2), (3, .int x3)]) (by decide) (Nat.le_of_ble_eq_true rfl) rfl (by decide) rfl ?_
  have hF : fr [3, 5, 6, 9, 11, 12] [] true true S S := fr_rf
  refine mw_aload_n dX6_addWill_0 rfl 0 rfl ?_
  refine mw_iload_n dX6_addWill_1 rfl 1 rfl ?_
  refine tc_Vi (as := [.int x1]) (st := []) dX6_addWill_2 rfl (shC_parish_0 a0 ha0) rfl rfl mX6_40 t_X6_hasPerson rfl (Nat.le_of_ble_eq_true rfl) (by decide) (by decide) (cx_X6_hasPerson (g := g) S hI a0 ha0 x1) (fun S101 v103 h102 => ?_)
  obtain ⟨rfl, b104, x105, hx106⟩ := h102
  refine mw_if_eq (tgt := 34) dX6_addWill_5 (by decide) (fun q107 => ?_) (fun q107 => ?_)
  · skip
    have b108 : mm_b (0) (0) v103 := bd_eq_l q107 b104 n_0 (by decide)
    exact mw_vret rfl dX6_addWill_34 rfl rfl ⟨S, rfl, rfl, ⟨hI, hF, trivial, (by subst hx106; rw [F_X6_addWill, if_pos q107])⟩⟩
  · skip
    have b109 : mm_b (1) (1) v103 := bd_ne_l q107 b104 n_0 (by decide)
    have b110 := Or.resolve_left x105 q107
    refine mw_aload_n dX6_addWill_8 rfl 0 rfl ?_
    refine tw_getr (j := 5) dX6_addWill_9 (shC_parish_0 a0 ha0) rfl rfl (by decide) fX6_15 ?_
    refine mw_iload_n dX6_addWill_12 rfl 1 rfl ?_
    refine mw_iload_n dX6_addWill_13 rfl 2 rfl ?_
    refine tw_iast dX6_addWill_14 (shC_parish_2 a0 ha0) (bd_in b110 (by decide)) ?_
    have hI111 : JC (mm_up S (a0 + 2) x1.toNatClampNeg x2) := JIC_puta hI (bd_all x2) b110 (by decide) (ckS ha0 (by decide +kernel))
    generalize hS112 : (mm_up S (a0 + 2) x1.toNatClampNeg x2) = S112 at hI111 ⊢
    have hF113 := fr_upA hF hS112 (memS ha0 (by decide))
    refine mw_aload_n dX6_addWill_15 rfl 0 rfl ?_
    refine tw_getr (j := 6) dX6_addWill_16 (shC_parish_0 a0 ha0) rfl rfl (by decide) fX6_18 ?_
    refine mw_iload_n dX6_addWill_19 rfl 1 rfl ?_
    refine mw_iload_n dX6_addWill_20 rfl 3 rfl ?_
    refine tw_iast dX6_addWill_21 (shC_parish_3 a0 ha0) (bd_in b110 (by decide)) ?_
    have hI114 : JC (mm_up S112 (a0 + 3) x1.toNatClampNeg x3) := JIC_puta hI111 (bd_all x3) b110 (by decide) (ckS ha0 (by decide +kernel))
    generalize hS115 : (mm_up S112 (a0 + 3) x1.toNatClampNeg x3) = S115 at hI114 ⊢
    have hF116 := fr_upA hF113 hS115 (memS ha0 (by decide))
    refine mw_aload_n dX6_addWill_22 rfl 0 rfl ?_
    refine mw_dup dX6_addWill_23 rfl ?_
    refine tw_geti (j := 3) dX6_addWill_24 (shC_parish_0 a0 ha0) rfl rfl (by decide) fX6_37 (fun v117 ev117 => ?_)
    have eb118 := ev117.trans (Eq.symm ((up_neA hS112 (by omega)).trans (up_neA hS115 (by omega))))
    refine mw_iconst dX6_addWill_27 ki_1 ?_
    refine mw_iload_n dX6_addWill_28 rfl 1 rfl ?_
    refine mw_ishl dX6_addWill_29 (fun v119 ev119 => ?_)
    have b120 : mm_b (1) (64) v119 := bd_shl 6 ev119 b110 (by decide)
    refine mw_ior dX6_addWill_30 (fun v121 ev121 => ?_)
    refine tw_puti (j := 3) dX6_addWill_31 (shC_parish_0 a0 ha0) rfl rfl (by decide) fX6_37 rfl (by decide +kernel) ?_
    have hI122 : JC (mm_up S115 a0 3 v121) := JIC_put hI114 (bd_all v121) (ckZ ha0 (by decide +kernel))
    generalize hS123 : (mm_up S115 a0 3 v121) = S123 at hI122 ⊢
    have hF124 := fr_upA hF116 hS123 (memZ ha0 (by decide))
    exact mw_vret rfl dX6_addWill_34 rfl rfl ⟨S123, rfl, rfl, ⟨hI122, hF124, trivial, (by subst hS123; subst ev121; subst ev119; subst eb118; subst hS115; subst hS112; subst hx106; rw [F_X6_addWill, if_neg q107])⟩⟩
def F_X6_addDoor (S : mm_S) (a0 : Nat) (x1 : Int32) : mm_S := (if (6 : Int32) ≤ (S.1 a0 1) then S else (mm_up (mm_up S (a0 + 4) ((S.1 a0 1)).toNatClampNeg x1) a0 1 ((S.1 a0 1) + (1 : Int32))))
set_option maxRecDepth 100000 in
set_option maxHeartbeats 4000000 in
theorem cx_X6_addDoor {g : mm_G} (S : mm_S) (hI : JC S) (a0 : Nat) (ha0 : a0 ∈ LC_parish) (x1 : Int32) : mc g yX6_addDoor cX6_addDoor 2 none (mm_rm 0) [.ref a0, .int x1] (mm_enc shC S) (qv shC (fun S1 => JC S1 ∧ fr [3, 7, 9, 13] [] true true S S1 ∧ True ∧ F_X6_addDoor S a0 x1 = S1)) := by
  refine mc_of2 (own := RX6) (ini := false) (ls := [(0, .ref a0), (1, .int x1)]) (by decide) (Nat.le_of_ble_eq_true rfl) rfl (by decide) rfl ?_
  have hF : fr [3, 7, 9, 13] [] true true S S := fr_rf
  refine mw_aload_n dX6_addDoor_0 rfl 0 rfl ?_
  refine tw_geti (j := 1) dX6_addDoor_1 (shC_parish_0 a0 ha0) rfl rfl (by decide) fX6_31 (fun v101 ev101 => ?_)
  have b102 : mm_b (0) (6) v101 := JIC_fld hI ev101 (tbC_parish_0_1 a0 ha0) (by decide)
  refine mw_aload_n dX6_addDoor_4 rfl 0 rfl ?_
  refine tw_getr (j := 7) dX6_addDoor_5 (shC_parish_0 a0 ha0) rfl rfl (by decide) fX6_21 ?_
  refine tw_aleni (v := 6) dX6_addDoor_8 (shC_parish_4 a0 ha0) rfl (by decide) ?_
  refine mw_icmp_ge (tgt := 32) dX6_addDoor_9 (by decide) (fun q103 => ?_) (fun q103 => ?_)
  · skip
    have b104 : mm_b (6) (6) v101 := bd_le_r q103 n_6 b102 (by decide)
    exact mw_vret rfl dX6_addDoor_32 rfl rfl ⟨S, rfl, rfl, ⟨hI, hF, trivial, (by subst ev101; rw [F_X6_addDoor, if_pos q103])⟩⟩
  · skip
    have b105 : mm_b (0) (5) v101 := bd_lt_l (bd_nle q103) b102 n_6 (by decide)
    refine mw_aload_n dX6_addDoor_12 rfl 0 rfl ?_
    refine tw_getr (j := 7) dX6_addDoor_13 (shC_parish_0 a0 ha0) rfl rfl (by decide) fX6_21 ?_
    refine mw_aload_n dX6_addDoor_16 rfl 0 rfl ?_
    refine tw_geti (j := 1) dX6_addDoor_17 (shC_parish_0 a0 ha0) rfl rfl (by decide) fX6_31 (fun v106 ev106 => ?_)
    have cv106 : v101 = v106 := ev101.trans ev106.symm
    subst cv106
    refine mw_iload_n dX6_addDoor_20 rfl 1 rfl ?_
    refine tw_iast dX6_addDoor_21 (shC_parish_4 a0 ha0) (bd_in b105 (by decide)) ?_
    have hI107 : JC (mm_up S (a0 + 4) v101.toNatClampNeg x1) := JIC_puta hI (bd_all x1) b105 (by decide) (ckS ha0 (by decide +kernel))
    generalize hS108 : (mm_up S (a0 + 4) v101.toNatClampNeg x1) = S108 at hI107 ⊢
    have hF109 := fr_upA hF hS108 (memS ha0 (by decide))
    refine mw_aload_n dX6_addDoor_22 rfl 0 rfl ?_
    refine mw_dup dX6_addDoor_23 rfl ?_
    refine tw_geti (j := 1) dX6_addDoor_24 (shC_parish_0 a0 ha0) rfl rfl (by decide) fX6_31 (fun v110 ev110 => ?_)
    have cv110 : v101 = v110 := (ev101.trans (up_neA hS108 (by omega))).trans ev110.symm
    subst cv110
    refine mw_iconst dX6_addDoor_27 ki_1 ?_
    refine mw_iadd dX6_addDoor_28 (fun v111 ev111 => ?_)
    have b112 : mm_b (1) (6) v111 := bd_add ev111 b105 n_1 (by decide)
    refine tw_puti (j := 1) dX6_addDoor_29 (shC_parish_0 a0 ha0) rfl rfl (by decide) fX6_31 rfl (by decide +kernel) ?_
    have hI113 : JC (mm_up S108 a0 1 v111) := JIC_put hI107 b112 (ckZ ha0 (by decide +kernel))
    generalize hS114 : (mm_up S108 a0 1 v111) = S114 at hI113 ⊢
    have hF115 := fr_upA hF109 hS114 (memZ ha0 (by decide))
    exact mw_vret rfl dX6_addDoor_32 rfl rfl ⟨S114, rfl, rfl, ⟨hI113, hF115, trivial, (by subst hS114; subst ev111; subst hS108; subst ev101; rw [F_X6_addDoor, if_neg q103])⟩⟩
def F_X6_addPart (S : mm_S) (a0 : Nat) (x1 : Int32) : mm_S := (if (6 : Int32) ≤ (S.1 a0 2) then S else (mm_up (mm_up S (a0 + 5) ((S.1 a0 2)).toNatClampNeg x1) a0 2 ((S.1 a0 2) + (1 : Int32))))
set_option maxRecDepth 100000 in
set_option maxHeartbeats 4000000 in
theorem cx_X6_addPart {g : mm_G} (S : mm_S) (hI : JC S) (a0 : Nat) (ha0 : a0 ∈ LC_parish) (x1 : Int32) : mc g yX6_addPart cX6_addPart 2 none (mm_rm 0) [.ref a0, .int x1] (mm_enc shC S) (qv shC (fun S1 => JC S1 ∧ fr [3, 8, 9, 14] [] true true S S1 ∧ True ∧ F_X6_addPart S a0 x1 = S1)) := by
  refine mc_of2 (own := RX6) (ini := false) (ls := [(0, .ref a0), (1, .int x1)]) (by decide) (Nat.le_of_ble_eq_true rfl) rfl (by decide) rfl ?_
  have hF : fr [3, 8, 9, 14] [] true true S S := fr_rf
  refine mw_aload_n dX6_addPart_0 rfl 0 rfl ?_
  refine tw_geti (j := 2) dX6_addPart_1 (shC_parish_0 a0 ha0) rfl rfl (by decide) fX6_34 (fun v101 ev101 => ?_)
  have b102 : mm_b (0) (6) v101 := JIC_fld hI ev101 (tbC_parish_0_2 a0 ha0) (by decide)
  refine mw_aload_n dX6_addPart_4 rfl 0 rfl ?_
  refine tw_getr (j := 8) dX6_addPart_5 (shC_parish_0 a0 ha0) rfl rfl (by decide) fX6_24 ?_
  refine tw_aleni (v := 6) dX6_addPart_8 (shC_parish_5 a0 ha0) rfl (by decide) ?_
  refine mw_icmp_ge (tgt := 32) dX6_addPart_9 (by decide) (fun q103 => ?_) (fun q103 => ?_)
  · skip
    have b104 : mm_b (6) (6) v101 := bd_le_r q103 n_6 b102 (by decide)
    exact mw_vret rfl dX6_addPart_32 rfl rfl ⟨S, rfl, rfl, ⟨hI, hF, trivial, (by subst ev101; rw [F_X6_addPart, if_pos q103])⟩⟩
  · skip
    have b105 : mm_b (0) (5) v101 := bd_lt_l (bd_nle q103) b102 n_6 (by decide)
    refine mw_aload_n dX6_addPart_12 rfl 0 rfl ?_
    refine tw_getr (j := 8) dX6_addPart_13 (shC_parish_0 a0 ha0) rfl rfl (by decide) fX6_24 ?_
    refine mw_aload_n dX6_addPart_16 rfl 0 rfl ?_
    refine tw_geti (j := 2) dX6_addPart_17 (shC_parish_0 a0 ha0) rfl rfl (by decide) fX6_34 (fun v106 ev106 => ?_)
    have cv106 : v101 = v106 := ev101.trans ev106.symm
    subst cv106
    refine mw_iload_n dX6_addPart_20 rfl 1 rfl ?_
    refine tw_iast dX6_addPart_21 (shC_parish_5 a0 ha0) (bd_in b105 (by decide)) ?_
    have hI107 : JC (mm_up S (a0 + 5) v101.toNatClampNeg x1) := JIC_puta hI (bd_all x1) b105 (by decide) (ckS ha0 (by decide +kernel))
    generalize hS108 : (mm_up S (a0 + 5) v101.toNatClampNeg x1) = S108 at hI107 ⊢
    have hF109 := fr_upA hF hS108 (memS ha0 (by decide))
    refine mw_aload_n dX6_addPart_22 rfl 0 rfl ?_
    refine mw_dup dX6_addPart_23 rfl ?_
    refine tw_geti (j := 2) dX6_addPart_24 (shC_parish_0 a0 ha0) rfl rfl (by decide) fX6_34 (fun v110 ev110 => ?_)
    have cv110 : v101 = v110 := (ev101.trans (up_neA hS108 (by omega))).trans ev110.symm
    subst cv110
    refine mw_iconst dX6_addPart_27 ki_1 ?_
    refine mw_iadd dX6_addPart_28 (fun v111 ev111 => ?_)
    have b112 : mm_b (1) (6) v111 := bd_add ev111 b105 n_1 (by decide)
    refine tw_puti (j := 2) dX6_addPart_29 (shC_parish_0 a0 ha0) rfl rfl (by decide) fX6_34 rfl (by decide +kernel) ?_
    have hI113 : JC (mm_up S108 a0 2 v111) := JIC_put hI107 b112 (ckZ ha0 (by decide +kernel))
    generalize hS114 : (mm_up S108 a0 2 v111) = S114 at hI113 ⊢
    have hF115 := fr_upA hF109 hS114 (memZ ha0 (by decide))
    exact mw_vret rfl dX6_addPart_32 rfl rfl ⟨S114, rfl, rfl, ⟨hI113, hF115, trivial, (by subst hS114; subst ev111; subst hS108; subst ev101; rw [F_X6_addPart, if_neg q103])⟩⟩
def F_X2_clear_129 (S : mm_S)  : mm_S := (mm_up S 129 0 (0 : Int32))
set_option maxRecDepth 100000 in
set_option maxHeartbeats 4000000 in
theorem cx_X2_clear_129 {g : mm_G} (S : mm_S) (hI : JC S)  : mc g yX2_clear cX2_clear 1 none (mm_rm 0) [.ref 129] (mm_enc shC S) (qv shC (fun S1 => JC S1 ∧ fr [129] [] true true S S1 ∧ True ∧ F_X2_clear_129 S = S1)) := by
  refine mc_of2 (own := RX2) (ini := false) (ls := [(0, .ref 129)]) (by decide) (Nat.le_of_ble_eq_true rfl) rfl (by decide) rfl ?_
  have hF : fr [129] [] true true S S := fr_rf
  refine mw_aload_n dX2_clear_0 rfl 0 rfl ?_
  refine mw_iconst dX2_clear_1 ki_0 ?_
  refine tw_puti (j := 0) dX2_clear_2 shC_129 rfl rfl (by decide) fX2_24 rfl (by decide +kernel) ?_
  have hI101 : JC (mm_up S 129 0 0) := JIC_put hI n_0 (by decide +kernel)
  generalize hS102 : (mm_up S 129 0 0) = S102 at hI101 ⊢
  have hF103 := fr_upA hF hS102 (by decide)
  exact mw_vret rfl dX2_clear_5 rfl rfl ⟨S102, rfl, rfl, ⟨hI101, hF103, trivial, (by subst hS102; rw [F_X2_clear_129])⟩⟩
def F_X2_clear_132 (S : mm_S)  : mm_S := (mm_up S 132 0 (0 : Int32))
set_option maxRecDepth 100000 in
set_option maxHeartbeats 4000000 in
theorem cx_X2_clear_132 {g : mm_G} (S : mm_S) (hI : JC S)  : mc g yX2_clear cX2_clear 1 none (mm_rm 0) [.ref 132] (mm_enc shC S) (qv shC (fun S1 => JC S1 ∧ fr [132] [] true true S S1 ∧ True ∧ F_X2_clear_132 S = S1)) := by
  refine mc_of2 (own := RX2) (ini := false) (ls := [(0, .ref 132)]) (by decide) (Nat.le_of_ble_eq_true rfl) rfl (by decide) rfl ?_
  have hF : fr [132] [] true true S S := fr_rf
  refine mw_aload_n dX2_clear_0 rfl 0 rfl ?_
  refine mw_iconst dX2_clear_1 ki_0 ?_
  refine tw_puti (j := 0) dX2_clear_2 shC_132 rfl rfl (by decide) fX2_24 rfl (by decide +kernel) ?_
  have hI101 : JC (mm_up S 132 0 0) := JIC_put hI n_0 (by decide +kernel)
  generalize hS102 : (mm_up S 132 0 0) = S102 at hI101 ⊢
  have hF103 := fr_upA hF hS102 (by decide)
  exact mw_vret rfl dX2_clear_5 rfl rfl ⟨S102, rfl, rfl, ⟨hI101, hF103, trivial, (by subst hS102; rw [F_X2_clear_132])⟩⟩
def F_X2_clear_135 (S : mm_S)  : mm_S := (mm_up S 135 0 (0 : Int32))
set_option maxRecDepth 100000 in
set_option maxHeartbeats 4000000 in
theorem cx_X2_clear_135 {g : mm_G} (S : mm_S) (hI : JC S)  : mc g yX2_clear cX2_clear 1 none (mm_rm 0) [.ref 135] (mm_enc shC S) (qv shC (fun S1 => JC S1 ∧ fr [135] [] true true S S1 ∧ True ∧ F_X2_clear_135 S = S1)) := by
  refine mc_of2 (own := RX2) (ini := false) (ls := [(0, .ref 135)]) (by decide) (Nat.le_of_ble_eq_true rfl) rfl (by decide) rfl ?_
  have hF : fr [135] [] true true S S := fr_rf
  refine mw_aload_n dX2_clear_0 rfl 0 rfl ?_
  refine mw_iconst dX2_clear_1 ki_0 ?_
  refine tw_puti (j := 0) dX2_clear_2 shC_135 rfl rfl (by decide) fX2_24 rfl (by decide +kernel) ?_
  have hI101 : JC (mm_up S 135 0 0) := JIC_put hI n_0 (by decide +kernel)
  generalize hS102 : (mm_up S 135 0 0) = S102 at hI101 ⊢
  have hF103 := fr_upA hF hS102 (by decide)
  exact mw_vret rfl dX2_clear_5 rfl rfl ⟨S102, rfl, rfl, ⟨hI101, hF103, trivial, (by subst hS102; rw [F_X2_clear_135])⟩⟩
def F_X2_add_129 (S : mm_S) (x1 : Int32) (x2 : Int32) : Int32 × mm_S := (if (6 : Int32) ≤ (S.1 129 0) then ((0 : Int32), S) else ((1 : Int32), (mm_up (mm_up (mm_up S 130 ((S.1 129 0)).toNatClampNeg x1) 131 ((S.1 129 0)).toNatClampNeg x2) 129 0 ((S.1 129 0) + (1 : Int32)))))
set_option maxRecDepth 100000 in
set_option maxHeartbeats 4000000 in
theorem cx_X2_add_129 {g : mm_G} (S : mm_S) (hI : JC S) (x1 : Int32) (x2 : Int32) : mc g yX2_add cX2_add 3 (some .boolean) (mm_rm 0) [.ref 129, .int x1, .int x2] (mm_enc shC S) (qi shC (fun S1 v => JC S1 ∧ fr [129, 130, 131] [] true true S S1 ∧ mm_b (0) (1) v ∧ (True) ∧ F_X2_add_129 S x1 x2 = (v, S1))) := by
  refine mc_of2 (own := RX2) (ini := false) (ls := [(0, .ref 129), (1, .int x1), (2, .int x2)]) (by decide) (Nat.le_of_ble_eq_true rfl) rfl (by decide) rfl ?_
  have hF : fr [129, 130, 131] [] true true S S := fr_rf
  refine mw_aload_n dX2_add_0 rfl 0 rfl ?_
  refine tw_geti (j := 0) dX2_add_1 shC_129 rfl rfl (by decide) fX2_24 (fun v101 ev101 => ?_)
  have b102 : mm_b (0) (6) v101 := JIC_fld hI ev101 tbC_34 (by decide)
  refine mw_aload_n dX2_add_4 rfl 0 rfl ?_
  refine tw_getr (j := 1) dX2_add_5 shC_129 rfl rfl (by decide) fX2_15 ?_
  refine tw_aleni (v := 6) dX2_add_8 shC_130 rfl (by decide) ?_
  refine mw_icmp_ge (tgt := 24) dX2_add_9 (by decide) (fun q103 => ?_) (fun q103 => ?_)
  · skip
    have b104 : mm_b (6) (6) v101 := bd_le_r q103 n_6 b102 (by decide)
    refine mw_iconst dX2_add_24 ki_0 ?_
    exact mw_zret rfl (bd_nar n_0 (by decide)) dX2_add_25 rfl rfl ⟨S, _, rfl, rfl, hI, hF, bd_w n_0 (by decide), trivial, (by subst ev101; rw [F_X2_add_129, if_pos q103])⟩
  · skip
    have b105 : mm_b (0) (5) v101 := bd_lt_l (bd_nle q103) b102 n_6 (by decide)
    refine mw_aload_n dX2_add_12 rfl 0 rfl ?_
    refine tw_geti (j := 0) dX2_add_13 shC_129 rfl rfl (by decide) fX2_24 (fun v106 ev106 => ?_)
    have cv106 : v101 = v106 := ev101.trans ev106.symm
    subst cv106
    refine mw_aload_n dX2_add_16 rfl 0 rfl ?_
    refine tw_getr (j := 2) dX2_add_17 shC_129 rfl rfl (by decide) fX2_21 ?_
    refine tw_aleni (v := 6) dX2_add_20 shC_131 rfl (by decide) ?_
    refine mw_icmp_lt (tgt := 26) dX2_add_21 (by decide) (fun q107 => ?_) (fun q107 => ?_)
    · skip
      refine mw_aload_n dX2_add_26 rfl 0 rfl ?_
      refine tw_getr (j := 1) dX2_add_27 shC_129 rfl rfl (by decide) fX2_15 ?_
      refine mw_aload_n dX2_add_30 rfl 0 rfl ?_
      refine tw_geti (j := 0) dX2_add_31 shC_129 rfl rfl (by decide) fX2_24 (fun v108 ev108 => ?_)
      have cv108 : v101 = v108 := ev101.trans ev108.symm
      subst cv108
      refine mw_iload_n dX2_add_34 rfl 1 rfl ?_
      refine tw_iast dX2_add_35 shC_130 (bd_in b105 (by decide)) ?_
      have hI109 : JC (mm_up S 130 v101.toNatClampNeg x1) := JIC_puta hI (bd_all x1) b105 (by decide) (by decide +kernel)
      generalize hS110 : (mm_up S 130 v101.toNatClampNeg x1) = S110 at hI109 ⊢
      have hF111 := fr_upA hF hS110 (by decide)
      refine mw_aload_n dX2_add_36 rfl 0 rfl ?_
      refine tw_getr (j := 2) dX2_add_37 shC_129 rfl rfl (by decide) fX2_21 ?_
      refine mw_aload_n dX2_add_40 rfl 0 rfl ?_
      refine tw_geti (j := 0) dX2_add_41 shC_129 rfl rfl (by decide) fX2_24 (fun v112 ev112 => ?_)
      have cv112 : v101 = v112 := (ev101.trans (up_neA hS110 (by decide))).trans ev112.symm
      subst cv112
      refine mw_iload_n dX2_add_44 rfl 2 rfl ?_
      refine tw_iast dX2_add_45 shC_131 (bd_in b105 (by decide)) ?_
      have hI113 : JC (mm_up S110 131 v101.toNatClampNeg x2) := JIC_puta hI109 (bd_all x2) b105 (by decide) (by decide +kernel)
      generalize hS114 : (mm_up S110 131 v101.toNatClampNeg x2) = S114 at hI113 ⊢
      have hF115 := fr_upA hF111 hS114 (by decide)
      refine mw_aload_n dX2_add_46 rfl 0 rfl ?_
      refine mw_dup dX2_add_47 rfl ?_
      refine tw_geti (j := 0) dX2_add_48 shC_129 rfl rfl (by decide) fX2_24 (fun v116 ev116 => ?_)
      have cv116 : v101 = v116 := ((ev101.trans (up_neA hS110 (by decide))).trans (up_neA hS114 (by decide))).trans ev116.symm
      subst cv116
      refine mw_iconst dX2_add_51 ki_1 ?_
      refine mw_iadd dX2_add_52 (fun v117 ev117 => ?_)
      have b118 : mm_b (1) (6) v117 := bd_add ev117 b105 n_1 (by decide)
      refine tw_puti (j := 0) dX2_add_53 shC_129 rfl rfl (by decide) fX2_24 rfl (by decide +kernel) ?_
      have hI119 : JC (mm_up S114 129 0 v117) := JIC_put hI113 b118 (by decide +kernel)
      generalize hS120 : (mm_up S114 129 0 v117) = S120 at hI119 ⊢
      have hF121 := fr_upA hF115 hS120 (by decide)
      refine mw_iconst dX2_add_56 ki_1 ?_
      exact mw_zret rfl (bd_nar n_1 (by decide)) dX2_add_57 rfl rfl ⟨S120, _, rfl, rfl, hI119, hF121, bd_w n_1 (by decide), trivial, (by subst hS120; subst ev117; subst hS114; subst hS110; subst ev101; rw [F_X2_add_129, if_neg q103])⟩
    · skip
      exact bd_fle (bd_nlt q107) n_6 b105 (by decide)
def F_X2_add_132 (S : mm_S) (x1 : Int32) (x2 : Int32) : Int32 × mm_S := (if (6 : Int32) ≤ (S.1 132 0) then ((0 : Int32), S) else ((1 : Int32), (mm_up (mm_up (mm_up S 133 ((S.1 132 0)).toNatClampNeg x1) 134 ((S.1 132 0)).toNatClampNeg x2) 132 0 ((S.1 132 0) + (1 : Int32)))))
set_option maxRecDepth 100000 in
set_option maxHeartbeats 4000000 in
theorem cx_X2_add_132 {g : mm_G} (S : mm_S) (hI : JC S) (x1 : Int32) (x2 : Int32) : mc g yX2_add cX2_add 3 (some .boolean) (mm_rm 0) [.ref 132, .int x1, .int x2] (mm_enc shC S) (qi shC (fun S1 v => JC S1 ∧ fr [132, 133, 134] [] true true S S1 ∧ mm_b (0) (1) v ∧ (True) ∧ F_X2_add_132 S x1 x2 = (v, S1))) := by
  refine mc_of2 (own := RX2) (ini := false) (ls := [(0, .ref 132), (1, .int x1), (2, .int x2)]) (by decide) (Nat.le_of_ble_eq_true rfl) rfl (by decide) rfl ?_
  have hF : fr [132, 133, 134] [] true true S S := fr_rf
  refine mw_aload_n dX2_add_0 rfl 0 rfl ?_
  refine tw_geti (j := 0) dX2_add_1 shC_132 rfl rfl (by decide) fX2_24 (fun v101 ev101 => ?_)
  have b102 : mm_b (0) (6) v101 := JIC_fld hI ev101 tbC_35 (by decide)
  refine mw_aload_n dX2_add_4 rfl 0 rfl ?_
  refine tw_getr (j := 1) dX2_add_5 shC_132 rfl rfl (by decide) fX2_15 ?_
  refine tw_aleni (v := 6) dX2_add_8 shC_133 rfl (by decide) ?_
  refine mw_icmp_ge (tgt := 24) dX2_add_9 (by decide) (fun q103 => ?_) (fun q103 => ?_)
  · skip
    have b104 : mm_b (6) (6) v101 := bd_le_r q103 n_6 b102 (by decide)
    refine mw_iconst dX2_add_24 ki_0 ?_
    exact mw_zret rfl (bd_nar n_0 (by decide)) dX2_add_25 rfl rfl ⟨S, _, rfl, rfl, hI, hF, bd_w n_0 (by decide), trivial, (by subst ev101; rw [F_X2_add_132, if_pos q103])⟩
  · skip
    have b105 : mm_b (0) (5) v101 := bd_lt_l (bd_nle q103) b102 n_6 (by decide)
    refine mw_aload_n dX2_add_12 rfl 0 rfl ?_
    refine tw_geti (j := 0) dX2_add_13 shC_132 rfl rfl (by decide) fX2_24 (fun v106 ev106 => ?_)
    have cv106 : v101 = v106 := ev101.trans ev106.symm
    subst cv106
    refine mw_aload_n dX2_add_16 rfl 0 rfl ?_
    refine tw_getr (j := 2) dX2_add_17 shC_132 rfl rfl (by decide) fX2_21 ?_
    refine tw_aleni (v := 6) dX2_add_20 shC_134 rfl (by decide) ?_
    refine mw_icmp_lt (tgt := 26) dX2_add_21 (by decide) (fun q107 => ?_) (fun q107 => ?_)
    · skip
      refine mw_aload_n dX2_add_26 rfl 0 rfl ?_
      refine tw_getr (j := 1) dX2_add_27 shC_132 rfl rfl (by decide) fX2_15 ?_
      refine mw_aload_n dX2_add_30 rfl 0 rfl ?_
      refine tw_geti (j := 0) dX2_add_31 shC_132 rfl rfl (by decide) fX2_24 (fun v108 ev108 => ?_)
      have cv108 : v101 = v108 := ev101.trans ev108.symm
      subst cv108
      refine mw_iload_n dX2_add_34 rfl 1 rfl ?_
      refine tw_iast dX2_add_35 shC_133 (bd_in b105 (by decide)) ?_
      have hI109 : JC (mm_up S 133 v101.toNatClampNeg x1) := JIC_puta hI (bd_all x1) b105 (by decide) (by decide +kernel)
      generalize hS110 : (mm_up S 133 v101.toNatClampNeg x1) = S110 at hI109 ⊢
      have hF111 := fr_upA hF hS110 (by decide)
      refine mw_aload_n dX2_add_36 rfl 0 rfl ?_
      refine tw_getr (j := 2) dX2_add_37 shC_132 rfl rfl (by decide) fX2_21 ?_
      refine mw_aload_n dX2_add_40 rfl 0 rfl ?_
      refine tw_geti (j := 0) dX2_add_41 shC_132 rfl rfl (by decide) fX2_24 (fun v112 ev112 => ?_)
      have cv112 : v101 = v112 := (ev101.trans (up_neA hS110 (by decide))).trans ev112.symm
      subst cv112
      refine mw_iload_n dX2_add_44 rfl 2 rfl ?_
      refine tw_iast dX2_add_45 shC_134 (bd_in b105 (by decide)) ?_
      have hI113 : JC (mm_up S110 134 v101.toNatClampNeg x2) := JIC_puta hI109 (bd_all x2) b105 (by decide) (by decide +kernel)
      generalize hS114 : (mm_up S110 134 v101.toNatClampNeg x2) = S114 at hI113 ⊢
      have hF115 := fr_upA hF111 hS114 (by decide)
      refine mw_aload_n dX2_add_46 rfl 0 rfl ?_
      refine mw_dup dX2_add_47 rfl ?_
      refine tw_geti (j := 0) dX2_add_48 shC_132 rfl rfl (by decide) fX2_24 (fun v116 ev116 => ?_)
      have cv116 : v101 = v116 := ((ev101.trans (up_neA hS110 (by decide))).trans (up_neA hS114 (by decide))).trans ev116.symm
      subst cv116
      refine mw_iconst dX2_add_51 ki_1 ?_
      refine mw_iadd dX2_add_52 (fun v117 ev117 => ?_)
      have b118 : mm_b (1) (6) v117 := bd_add ev117 b105 n_1 (by decide)
      refine tw_puti (j := 0) dX2_add_53 shC_132 rfl rfl (by decide) fX2_24 rfl (by decide +kernel) ?_
      have hI119 : JC (mm_up S114 132 0 v117) := JIC_put hI113 b118 (by decide +kernel)
      generalize hS120 : (mm_up S114 132 0 v117) = S120 at hI119 ⊢
      have hF121 := fr_upA hF115 hS120 (by decide)
      refine mw_iconst dX2_add_56 ki_1 ?_
      exact mw_zret rfl (bd_nar n_1 (by decide)) dX2_add_57 rfl rfl ⟨S120, _, rfl, rfl, hI119, hF121, bd_w n_1 (by decide), trivial, (by subst hS120; subst ev117; subst hS114; subst hS110; subst ev101; rw [F_X2_add_132, if_neg q103])⟩
    · skip
      exact bd_fle (bd_nlt q107) n_6 b105 (by decide)
def F_X2_add_135 (S : mm_S) (x1 : Int32) (x2 : Int32) : Int32 × mm_S := (if (15 : Int32) ≤ (S.1 135 0) then ((0 : Int32), S) else ((1 : Int32), (mm_up (mm_up (mm_up S 136 ((S.1 135 0)).toNatClampNeg x1) 137 ((S.1 135 0)).toNatClampNeg x2) 135 0 ((S.1 135 0) + (1 : Int32)))))
set_option maxRecDepth 100000 in
set_option maxHeartbeats 4000000 in
theorem cx_X2_add_135 {g : mm_G} (S : mm_S) (hI : JC S) (x1 : Int32) (x2 : Int32) : mc g yX2_add cX2_add 3 (some .boolean) (mm_rm 0) [.ref 135, .int x1, .int x2] (mm_enc shC S) (qi shC (fun S1 v => JC S1 ∧ fr [135, 136, 137] [] true true S S1 ∧ mm_b (0) (1) v ∧ (True) ∧ F_X2_add_135 S x1 x2 = (v, S1))) := by
  refine mc_of2 (own := RX2) (ini := false) (ls := [(0, .ref 135), (1, .int x1), (2, .int x2)]) (by decide) (Nat.le_of_ble_eq_true rfl) rfl (by decide) rfl ?_
  have hF : fr [135, 136, 137] [] true true S S := fr_rf
  refine mw_aload_n dX2_add_0 rfl 0 rfl ?_
  refine tw_geti (j := 0) dX2_add_1 shC_135 rfl rfl (by decide) fX2_24 (fun v101 ev101 => ?_)
  have b102 : mm_b (0) (15) v101 := JIC_fld hI ev101 tbC_36 (by decide)
  refine mw_aload_n dX2_add_4 rfl 0 rfl ?_
  refine tw_getr (j := 1) dX2_add_5 shC_135 rfl rfl (by decide) fX2_15 ?_
  refine tw_aleni (v := 15) dX2_add_8 shC_136 rfl (by decide) ?_
  refine mw_icmp_ge (tgt := 24) dX2_add_9 (by decide) (fun q103 => ?_) (fun q103 => ?_)
  · skip
    have b104 : mm_b (15) (15) v101 := bd_le_r q103 n_15 b102 (by decide)
    refine mw_iconst dX2_add_24 ki_0 ?_
    exact mw_zret rfl (bd_nar n_0 (by decide)) dX2_add_25 rfl rfl ⟨S, _, rfl, rfl, hI, hF, bd_w n_0 (by decide), trivial, (by subst ev101; rw [F_X2_add_135, if_pos q103])⟩
  · skip
    have b105 : mm_b (0) (14) v101 := bd_lt_l (bd_nle q103) b102 n_15 (by decide)
    refine mw_aload_n dX2_add_12 rfl 0 rfl ?_
    refine tw_geti (j := 0) dX2_add_13 shC_135 rfl rfl (by decide) fX2_24 (fun v106 ev106 => ?_)
    have cv106 : v101 = v106 := ev101.trans ev106.symm
    subst cv106
    refine mw_aload_n dX2_add_16 rfl 0 rfl ?_
    refine tw_getr (j := 2) dX2_add_17 shC_135 rfl rfl (by decide) fX2_21 ?_
    refine tw_aleni (v := 15) dX2_add_20 shC_137 rfl (by decide) ?_
    refine mw_icmp_lt (tgt := 26) dX2_add_21 (by decide) (fun q107 => ?_) (fun q107 => ?_)
    · skip
      refine mw_aload_n dX2_add_26 rfl 0 rfl ?_
      refine tw_getr (j := 1) dX2_add_27 shC_135 rfl rfl (by decide) fX2_15 ?_
      refine mw_aload_n dX2_add_30 rfl 0 rfl ?_
      refine tw_geti (j := 0) dX2_add_31 shC_135 rfl rfl (by decide) fX2_24 (fun v108 ev108 => ?_)
      have cv108 : v101 = v108 := ev101.trans ev108.symm
      subst cv108
      refine mw_iload_n dX2_add_34 rfl 1 rfl ?_
      refine tw_iast dX2_add_35 shC_136 (bd_in b105 (by decide)) ?_
      have hI109 : JC (mm_up S 136 v101.toNatClampNeg x1) := JIC_puta hI (bd_all x1) b105 (by decide) (by decide +kernel)
      generalize hS110 : (mm_up S 136 v101.toNatClampNeg x1) = S110 at hI109 ⊢
      have hF111 := fr_upA hF hS110 (by decide)
      refine mw_aload_n dX2_add_36 rfl 0 rfl ?_
      refine tw_getr (j := 2) dX2_add_37 shC_135 rfl rfl (by decide) fX2_21 ?_
      refine mw_aload_n dX2_add_40 rfl 0 rfl ?_
      refine tw_geti (j := 0) dX2_add_41 shC_135 rfl rfl (by decide) fX2_24 (fun v112 ev112 => ?_)
      have cv112 : v101 = v112 := (ev101.trans (up_neA hS110 (by decide))).trans ev112.symm
      subst cv112
      refine mw_iload_n dX2_add_44 rfl 2 rfl ?_
      refine tw_iast dX2_add_45 shC_137 (bd_in b105 (by decide)) ?_
      have hI113 : JC (mm_up S110 137 v101.toNatClampNeg x2) := JIC_puta hI109 (bd_all x2) b105 (by decide) (by decide +kernel)
      generalize hS114 : (mm_up S110 137 v101.toNatClampNeg x2) = S114 at hI113 ⊢
      have hF115 := fr_upA hF111 hS114 (by decide)
      refine mw_aload_n dX2_add_46 rfl 0 rfl ?_
      refine mw_dup dX2_add_47 rfl ?_
      refine tw_geti (j := 0) dX2_add_48 shC_135 rfl rfl (by decide) fX2_24 (fun v116 ev116 => ?_)
      have cv116 : v101 = v116 := ((ev101.trans (up_neA hS110 (by decide))).trans (up_neA hS114 (by decide))).trans ev116.symm
      subst cv116
      refine mw_iconst dX2_add_51 ki_1 ?_
      refine mw_iadd dX2_add_52 (fun v117 ev117 => ?_)
      have b118 : mm_b (1) (15) v117 := bd_add ev117 b105 n_1 (by decide)
      refine tw_puti (j := 0) dX2_add_53 shC_135 rfl rfl (by decide) fX2_24 rfl (by decide +kernel) ?_
      have hI119 : JC (mm_up S114 135 0 v117) := JIC_put hI113 b118 (by decide +kernel)
      generalize hS120 : (mm_up S114 135 0 v117) = S120 at hI119 ⊢
      have hF121 := fr_upA hF115 hS120 (by decide)
      refine mw_iconst dX2_add_56 ki_1 ?_
      exact mw_zret rfl (bd_nar n_1 (by decide)) dX2_add_57 rfl rfl ⟨S120, _, rfl, rfl, hI119, hF121, bd_w n_1 (by decide), trivial, (by subst hS120; subst ev117; subst hS114; subst hS110; subst ev101; rw [F_X2_add_135, if_neg q103])⟩
    · skip
      exact bd_fle (bd_nlt q107) n_15 b105 (by decide)
def F_X2_subjectAt_129 (S : mm_S) (x1 : Int32) : Int32 := (if x1 < (0 : Int32) then (-1 : Int32) else (if (S.1 129 0) ≤ x1 then (-1 : Int32) else (S.1 130 (x1).toNatClampNeg)))
def F_X2_valueAt_129 (S : mm_S) (x1 : Int32) : Int32 := (if x1 < (0 : Int32) then (-1 : Int32) else (if (S.1 129 0) ≤ x1 then (-1 : Int32) else (S.1 131 (x1).toNatClampNeg)))
def F_X1_next (S : mm_S) (x1 : Int32) : Int32 × mm_S := (if x1 ≤ (0 : Int32) then ((0 : Int32), (mm_up S 128 0 ((((((S.1 128 0)).toInt64 * (1103515245 : Int64)) + (12345 : Int64)) - ((((S.1 128 0)).toInt64 * (1103515245 : Int64)) + (12345 : Int64)) / (2147483648 : Int64) * (2147483648 : Int64))).toInt32)) else (((((((((S.1 128 0)).toInt64 * (1103515245 : Int64)) + (12345 : Int64)) - ((((S.1 128 0)).toInt64 * (1103515245 : Int64)) + (12345 : Int64)) / (2147483648 : Int64) * (2147483648 : Int64))).toInt32 / (65536 : Int32)) - (((((((S.1 128 0)).toInt64 * (1103515245 : Int64)) + (12345 : Int64)) - ((((S.1 128 0)).toInt64 * (1103515245 : Int64)) + (12345 : Int64)) / (2147483648 : Int64) * (2147483648 : Int64))).toInt32 / (65536 : Int32)) / x1 * x1), (mm_up S 128 0 ((((((S.1 128 0)).toInt64 * (1103515245 : Int64)) + (12345 : Int64)) - ((((S.1 128 0)).toInt64 * (1103515245 : Int64)) + (12345 : Int64)) / (2147483648 : Int64) * (2147483648 : Int64))).toInt32)))
set_option maxRecDepth 100000 in
set_option maxHeartbeats 4000000 in
theorem cx_X1_next {g : mm_G} (S : mm_S) (hI : JC S) (x1 : Int32) : mc g yX1_next cX1_next 2 (some .int) (mm_rm 0) [.ref 128, .int x1] (mm_enc shC S) (qi shC (fun S1 v => JC S1 ∧ fr [128] [] true true S S1 ∧ mm_b (-2147483648) (2147483647) v ∧ (True) ∧ F_X1_next S x1 = (v, S1))) := by
  refine mc_of2 (own := RX1) (ini := false) (ls := [(0, .ref 128), (1, .int x1)]) (by decide) (Nat.le_of_ble_eq_true rfl) rfl (by decide) rfl ?_
  have hF : fr [128] [] true true S S := fr_rf
  refine mw_aload_n dX1_next_0 rfl 0 rfl ?_
  refine mw_aload_n dX1_next_1 rfl 0 rfl ?_
  refine tw_geti (j := 0) dX1_next_2 shC_128 rfl rfl (by decide) fX1_7 (fun v101 ev101 => ?_)
  refine mw_i2l dX1_next_5 (fun w102 ew102 => ?_)
  have b103 : mm_bl (-2147483648) (2147483647) w102 := bl_i2l ew102 (bd_all v101)
  refine mw_ldc2 dX1_next_6 kX1_13 ?_
  refine mw_lmul dX1_next_9 (fun w104 ew104 => ?_)
  refine mw_ldc2 dX1_next_10 kX1_15 ?_
  refine mw_ladd dX1_next_13 (fun w105 ew105 => ?_)
  refine mw_ldc2 dX1_next_14 kX1_17 ?_
  refine mw_lrem dX1_next_17 (bl_ne0 L_2147483648 (by decide)) (fun w106 ew106 => ?_)
  refine mw_l2i dX1_next_18 (fun v107 ev107 => ?_)
  refine tw_puti (j := 0) dX1_next_19 shC_128 rfl rfl (by decide) fX1_7 rfl (by decide +kernel) ?_
  have hI108 : JC (mm_up S 128 0 v107) := JIC_put hI (bd_all v107) (by decide +kernel)
  generalize hS109 : (mm_up S 128 0 v107) = S109 at hI108 ⊢
  have hF110 := fr_upA hF hS109 (by decide)
  refine mw_iload_n dX1_next_22 rfl 1 rfl ?_
  refine mw_if_le (tgt := 38) dX1_next_23 (by decide) (fun q111 => ?_) (fun q111 => ?_)
  · skip
    have b112 : mm_b (-2147483648) (0) x1 := bd_le_l q111 (bd_all x1) n_0 (by decide)
    refine mw_iconst dX1_next_38 ki_0 ?_
    exact mw_iret rfl dX1_next_39 rfl rfl ⟨S109, _, rfl, rfl, hI108, hF110, bd_w n_0 (by decide), trivial, (by subst hS109; subst ev107; subst ew106; subst ew105; subst ew104; subst ew102; subst ev101; rw [F_X1_next, if_pos q111])⟩
  · skip
    have b113 : mm_b (1) (2147483647) x1 := bd_lt_r (bd_nle q111) n_0 (bd_all x1) (by decide)
    refine mw_aload_n dX1_next_26 rfl 0 rfl ?_
    refine tw_geti (j := 0) dX1_next_27 shC_128 rfl rfl (by decide) fX1_7 (fun v114 ev114 => ?_)
    have cv114 : v107 = v114 := (up_eq hS109).trans ev114.symm
    subst cv114
    refine mw_ldc dX1_next_30 kX1_19 ?_
    refine mw_idiv dX1_next_32 (bd_ne0 n_65536 (by decide)) (fun v115 ev115 => ?_)
    refine mw_iload_n dX1_next_33 rfl 1 rfl ?_
    refine mw_irem dX1_next_34 (bd_ne0 b113 (by decide)) (fun v116 ev116 => ?_)
    refine mw_goto (tgt := 39) dX1_next_35 (by decide) ?_
    exact mw_iret rfl dX1_next_39 rfl rfl ⟨S109, _, rfl, rfl, hI108, hF110, (bd_all v116), trivial, (by subst ev116; subst ev115; subst hS109; subst ev107; subst ew106; subst ew105; subst ew104; subst ew102; subst ev101; rw [F_X1_next, if_neg q111])⟩
def F_X3_copy_L26 (a0 : Nat) (a1 : Nat) : Nat → mm_S → Int32 → mm_S
  | 0, S114, _ => S114
  | N + 1, S114, y117 => (if (7 : Int32) ≤ y117 then S114 else ((F_X3_copy_L26 a0 a1 N) (mm_up (mm_up (mm_up (mm_up S114 (a0 + 1) (y117).toNatClampNeg (S114.1 (a1 + 1) (y117).toNatClampNeg)) (a0 + 2) (y117).toNatClampNeg ((mm_up S114 (a0 + 1) (y117).toNatClampNeg (S114.1 (a1 + 1) (y117).toNatClampNeg)).1 (a1 + 2) (y117).toNatClampNeg)) (a0 + 3) (y117).toNatClampNeg ((mm_up (mm_up S114 (a0 + 1) (y117).toNatClampNeg (S114.1 (a1 + 1) (y117).toNatClampNeg)) (a0 + 2) (y117).toNatClampNeg ((mm_up S114 (a0 + 1) (y117).toNatClampNeg (S114.1 (a1 + 1) (y117).toNatClampNeg)).1 (a1 + 2) (y117).toNatClampNeg)).1 (a1 + 3) (y117).toNatClampNeg)) (a0 + 4) (y117).toNatClampNeg ((mm_up (mm_up (mm_up S114 (a0 + 1) (y117).toNatClampNeg (S114.1 (a1 + 1) (y117).toNatClampNeg)) (a0 + 2) (y117).toNatClampNeg ((mm_up S114 (a0 + 1) (y117).toNatClampNeg (S114.1 (a1 + 1) (y117).toNatClampNeg)).1 (a1 + 2) (y117).toNatClampNeg)) (a0 + 3) (y117).toNatClampNeg ((mm_up (mm_up S114 (a0 + 1) (y117).toNatClampNeg (S114.1 (a1 + 1) (y117).toNatClampNeg)) (a0 + 2) (y117).toNatClampNeg ((mm_up S114 (a0 + 1) (y117).toNatClampNeg (S114.1 (a1 + 1) (y117).toNatClampNeg)).1 (a1 + 2) (y117).toNatClampNeg)).1 (a1 + 3) (y117).toNatClampNeg)).1 (a1 + 4) (y117).toNatClampNeg)) (y117 + Int32.ofInt 1)))
def F_X3_copy (S : mm_S) (a0 : Nat) (a1 : Nat) : mm_S := (F_X3_copy_L26 a0 a1 9 (mm_up (mm_up (mm_up S a0 2 (S.1 a1 2)) a0 0 ((mm_up S a0 2 (S.1 a1 2)).1 a1 0)) a0 1 ((mm_up (mm_up S a0 2 (S.1 a1 2)) a0 0 ((mm_up S a0 2 (S.1 a1 2)).1 a1 0)).1 a1 1)) (0 : Int32))
set_option maxRecDepth 100000 in
set_option maxHeartbeats 4000000 in
theorem cx_X3_copy {g : mm_G} (S : mm_S) (hI : JC S) (a0 : Nat) (ha0 : a0 ∈ LC_folk) (a1 : Nat) (ha1 : a1 ∈ LC_folk) : mc g yX3_copy cX3_copy 3 none (mm_rm 0) [.ref a0, .ref a1] (mm_enc shC S) (qv shC (fun S1 => JC S1 ∧ fr [15, 16, 17, 18, 19, 20, 21, 22, 23, 24, 27, 28, 29, 30, 31, 32, 33, 34, 35, 36, 37, 38, 39, 40, 41, 42, 43, 44, 45, 46, 47, 48, 49, 50, 51, 52, 53, 54, 55, 56, 57, 58, 59, 60, 61, 62, 63, 64, 65, 66, 67, 68, 69, 70, 71, 72, 73, 74, 75, 76, 77, 78, 79, 80, 81, 82, 83, 84, 85, 86, 87, 88, 89, 90, 91, 92, 93, 94, 95, 96, 97, 98, 99, 100, 101, 102, 103, 104, 105, 106, 107, 108, 109, 110, 111, 112, 113, 114, 115, 116, 117, 118, 119, 120, 121, 122, 123, 124, 125, 126, 152, 153, 154, 155, 156, 158, 159, 160, 161, 162] [] true true S S1 ∧ True ∧ F_X3_copy S a0 a1 = S1)) := by
  refine mc_of2 (own := RX3) (ini := false) (ls := [(0, .ref a0), (1, .ref a1)]) (by decide) (Nat.le_of_ble_eq_true rfl) rfl (by decide) rfl ?_
  have hF : fr [15, 16, 17, 18, 19, 20, 21, 22, 23, 24, 27, 28, 29, 30, 31, 32, 33, 34, 35, 36, 37, 38, 39, 40, 41, 42, 43, 44, 45, 46, 47, 48, 49, 50, 51, 52, 53, 54, 55, 56, 57, 58, 59, 60, 61, 62, 63, 64, 65, 66, 67, 68, 69, 70, 71, 72, 73, 74, 75, 76, 77, 78, 79, 80, 81, 82, 83, 84, 85, 86, 87, 88, 89, 90, 91, 92, 93, 94, 95, 96, 97, 98, 99, 100, 101, 102, 103, 104, 105, 106, 107, 108, 109, 110, 111, 112, 113, 114, 115, 116, 117, 118, 119, 120, 121, 122, 123, 124, 125, 126, 152, 153, 154, 155, 156, 158, 159, 160, 161, 162] [] true true S S := fr_rf
  refine mw_aload_n dX3_copy_0 rfl 0 rfl ?_
  refine mw_aload_n dX3_copy_1 rfl 1 rfl ?_
  refine tw_geti (j := 2) dX3_copy_2 (shC_folk_0 a1 ha1) rfl rfl (by decide) fX3_36 (fun v101 ev101 => ?_)
  have b102 : mm_b (0) (7) v101 := JIC_fld hI ev101 (tbC_folk_0_2 a1 ha1) (by decide)
  refine tw_puti (j := 2) dX3_copy_5 (shC_folk_0 a0 ha0) rfl rfl (by decide) fX3_36 rfl (by decide +kernel) ?_
  have hI103 : JC (mm_up S a0 2 v101) := JIC_put hI b102 (ckZ ha0 (by decide +kernel))
  generalize hS104 : (mm_up S a0 2 v101) = S104 at hI103 ⊢
  have hF105 := fr_upA hF hS104 (memZ ha0 (by decide))
  refine mw_aload_n dX3_copy_8 rfl 0 rfl ?_
  refine mw_aload_n dX3_copy_9 rfl 1 rfl ?_
  refine tw_geti (j := 0) dX3_copy_10 (shC_folk_0 a1 ha1) rfl rfl (by decide) fX3_39 (fun v106 ev106 => ?_)
  refine tw_puti (j := 0) dX3_copy_13 (shC_folk_0 a0 ha0) rfl rfl (by decide) fX3_39 rfl (by decide +kernel) ?_
  have hI107 : JC (mm_up S104 a0 0 v106) := JIC_put hI103 (bd_all v106) (ckZ ha0 (by decide +kernel))
  generalize hS108 : (mm_up S104 a0 0 v106) = S108 at hI107 ⊢
  have hF109 := fr_upA hF105 hS108 (memZ ha0 (by decide))
  refine mw_aload_n dX3_copy_16 rfl 0 rfl ?_
  refine mw_aload_n dX3_copy_17 rfl 1 rfl ?_
  refine tw_geti (j := 1) dX3_copy_18 (shC_folk_0 a1 ha1) rfl rfl (by decide) fX3_42 (fun v110 ev110 => ?_)
  refine tw_puti (j := 1) dX3_copy_21 (shC_folk_0 a0 ha0) rfl rfl (by decide) fX3_42 rfl (by decide +kernel) ?_
  have hI111 : JC (mm_up S108 a0 1 v110) := JIC_put hI107 (bd_all v110) (ckZ ha0 (by decide +kernel))
  generalize hS112 : (mm_up S108 a0 1 v110) = S112 at hI111 ⊢
  have hF113 := fr_upA hF109 hS112 (memZ ha0 (by decide))
  refine mw_iconst dX3_copy_24 ki_0 ?_
  refine mw_istore_n (ls' := [(2, .int 0), (0, .ref a0), (1, .ref a1)]) dX3_copy_25 rfl (by decide) rfl ?_
  have cut26 : ∀ (N26 : Nat) (S114 : mm_S) (y117 : Int32), ((8 : Int) - y117.toInt).toNat < N26 → JC S114 → fr [15, 16, 17, 18, 19, 20, 21, 22, 23, 24, 27, 28, 29, 30, 31, 32, 33, 34, 35, 36, 37, 38, 39, 40, 41, 42, 43, 44, 45, 46, 47, 48, 49, 50, 51, 52, 53, 54, 55, 56, 57, 58, 59, 60, 61, 62, 63, 64, 65, 66, 67, 68, 69, 70, 71, 72, 73, 74, 75, 76, 77, 78, 79, 80, 81, 82, 83, 84, 85, 86, 87, 88, 89, 90, 91, 92, 93, 94, 95, 96, 97, 98, 99, 100, 101, 102, 103, 104, 105, 106, 107, 108, 109, 110, 111, 112, 113, 114, 115, 116, 117, 118, 119, 120, 121, 122, 123, 124, 125, 126, 152, 153, 154, 155, 156, 158, 159, 160, 161, 162] [] true true S S114 → mm_b (0) (7) y117 → F_X3_copy S a0 a1 = F_X3_copy_L26 a0 a1 N26 S114 y117 → mw g RX3 cX3_copy 3 none false (mm_rm 0) (qv shC (fun S1 => JC S1 ∧ fr [15, 16, 17, 18, 19, 20, 21, 22, 23, 24, 27, 28, 29, 30, 31, 32, 33, 34, 35, 36, 37, 38, 39, 40, 41, 42, 43, 44, 45, 46, 47, 48, 49, 50, 51, 52, 53, 54, 55, 56, 57, 58, 59, 60, 61, 62, 63, 64, 65, 66, 67, 68, 69, 70, 71, 72, 73, 74, 75, 76, 77, 78, 79, 80, 81, 82, 83, 84, 85, 86, 87, 88, 89, 90, 91, 92, 93, 94, 95, 96, 97, 98, 99, 100, 101, 102, 103, 104, 105, 106, 107, 108, 109, 110, 111, 112, 113, 114, 115, 116, 117, 118, 119, 120, 121, 122, 123, 124, 125, 126, 152, 153, 154, 155, 156, 158, 159, 160, 161, 162] [] true true S S1 ∧ True ∧ F_X3_copy S a0 a1 = S1)) 0 0 (mm_enc shC S114) 26 [(0, .ref a0), (1, .ref a1), (2, .int y117)] [] := by
    intro N26
    induction N26 with
    | zero =>
      intro S114 y117 hm119 hI115 hF116 b118 hE120
      exact absurd hm119 (Nat.not_lt_zero _)
    | succ N26 ih26 =>
      intro S114 y117 hm119 hI115 hF116 b118 hE120
      refine mw_iload_n dX3_copy_26 rfl 2 rfl ?_
      refine mw_bipush dX3_copy_27 kb_7 ?_
      refine mw_icmp_ge (tgt := 86) dX3_copy_29 (by decide) (fun q121 => ?_) (fun q121 => ?_)
      · skip
        have b122 : mm_b (7) (7) y117 := bd_le_r q121 n_7 b118 (by decide)
        exact mw_vret rfl dX3_copy_86 rfl rfl ⟨S114, rfl, rfl, ⟨hI115, hF116, trivial, (by exact hE120.trans (by rw [F_X3_copy_L26, if_pos q121]))⟩⟩
      · skip
        have b123 : mm_b (0) (6) y117 := bd_lt_l (bd_nle q121) b118 n_7 (by decide)
        refine mw_aload_n dX3_copy_32 rfl 0 rfl ?_
        refine tw_getr (j := 3) dX3_copy_33 (shC_folk_0 a0 ha0) rfl rfl (by decide) fX3_9 ?_
        refine mw_iload_n dX3_copy_36 rfl 2 rfl ?_
        refine mw_aload_n dX3_copy_37 rfl 1 rfl ?_
        refine tw_getr (j := 3) dX3_copy_38 (shC_folk_0 a1 ha1) rfl rfl (by decide) fX3_9 ?_
        refine mw_iload_n dX3_copy_41 rfl 2 rfl ?_
        refine tw_iald dX3_copy_42 (shC_folk_1 a1 ha1) (bd_in b123 (by decide)) (fun v124 ev124 => ?_)
        refine tw_iast dX3_copy_43 (shC_folk_1 a0 ha0) (bd_in b123 (by decide)) ?_
        have hI125 : JC (mm_up S114 (a0 + 1) y117.toNatClampNeg v124) := JIC_puta hI115 (bd_all v124) b123 (by decide) (ckS ha0 (by decide +kernel))
        generalize hS126 : (mm_up S114 (a0 + 1) y117.toNatClampNeg v124) = S126 at hI125 ⊢
        have hF127 := fr_upA hF116 hS126 (memS ha0 (by decide))
        refine mw_aload_n dX3_copy_44 rfl 0 rfl ?_
        refine tw_getr (j := 4) dX3_copy_45 (shC_folk_0 a0 ha0) rfl rfl (by decide) fX3_15 ?_
        refine mw_iload_n dX3_copy_48 rfl 2 rfl ?_
        refine mw_aload_n dX3_copy_49 rfl 1 rfl ?_
        refine tw_getr (j := 4) dX3_copy_50 (shC_folk_0 a1 ha1) rfl rfl (by decide) fX3_15 ?_
        refine mw_iload_n dX3_copy_53 rfl 2 rfl ?_
        refine tw_iald dX3_copy_54 (shC_folk_2 a1 ha1) (bd_in b123 (by decide)) (fun v128 ev128 => ?_)
        refine tw_iast dX3_copy_55 (shC_folk_2 a0 ha0) (bd_in b123 (by decide)) ?_
        have hI129 : JC (mm_up S126 (a0 + 2) y117.toNatClampNeg v128) := JIC_puta hI125 (bd_all v128) b123 (by decide) (ckS ha0 (by decide +kernel))
        generalize hS130 : (mm_up S126 (a0 + 2) y117.toNatClampNeg v128) = S130 at hI129 ⊢
        have hF131 := fr_upA hF127 hS130 (memS ha0 (by decide))
        refine mw_aload_n dX3_copy_56 rfl 0 rfl ?_
        refine tw_getr (j := 5) dX3_copy_57 (shC_folk_0 a0 ha0) rfl rfl (by decide) fX3_18 ?_
        refine mw_iload_n dX3_copy_60 rfl 2 rfl ?_
        refine mw_aload_n dX3_copy_61 rfl 1 rfl ?_
        refine tw_getr (j := 5) dX3_copy_62 (shC_folk_0 a1 ha1) rfl rfl (by decide) fX3_18 ?_
        refine mw_iload_n dX3_copy_65 rfl 2 rfl ?_
        refine tw_iald dX3_copy_66 (shC_folk_3 a1 ha1) (bd_in b123 (by decide)) (fun v132 ev132 => ?_)
        refine tw_iast dX3_copy_67 (shC_folk_3 a0 ha0) (bd_in b123 (by decide)) ?_
        have hI133 : JC (mm_up S130 (a0 + 3) y117.toNatClampNeg v132) := JIC_puta hI129 (bd_all v132) b123 (by decide) (ckS ha0 (by decide +kernel))
        generalize hS134 : (mm_up S130 (a0 + 3) y117.toNatClampNeg v132) = S134 at hI133 ⊢
        have hF135 := fr_upA hF131 hS134 (memS ha0 (by decide))
        refine mw_aload_n dX3_copy_68 rfl 0 rfl ?_
        refine tw_getr (j := 6) dX3_copy_69 (shC_folk_0 a0 ha0) rfl rfl (by decide) fX3_21 ?_
        refine mw_iload_n dX3_copy_72 rfl 2 rfl ?_
        refine mw_aload_n dX3_copy_73 rfl 1 rfl ?_
        refine tw_getr (j := 6) dX3_copy_74 (shC_folk_0 a1 ha1) rfl rfl (by decide) fX3_21 ?_
        refine mw_iload_n dX3_copy_77 rfl 2 rfl ?_
        refine tw_iald dX3_copy_78 (shC_folk_4 a1 ha1) (bd_in b123 (by decide)) (fun v136 ev136 => ?_)
        refine tw_iast dX3_copy_79 (shC_folk_4 a0 ha0) (bd_in b123 (by decide)) ?_
        have hI137 : JC (mm_up S134 (a0 + 4) y117.toNatClampNeg v136) := JIC_puta hI133 (bd_all v136) b123 (by decide) (ckS ha0 (by decide +kernel))
        generalize hS138 : (mm_up S134 (a0 + 4) y117.toNatClampNeg v136) = S138 at hI137 ⊢
        have hF139 := fr_upA hF135 hS138 (memS ha0 (by decide))
        refine mw_iinc (ls' := fun v => [(2, .int v), (0, .ref a0), (1, .ref a1)]) dX3_copy_80 2 rfl (by decide) (fun _ => rfl) (fun v140 ev140 => ?_)
        have b141 : mm_b (1) (7) v140 := bd_inc ev140 b123 (by decide)
        refine mw_goto (tgt := 26) dX3_copy_83 (by decide) ?_
        refine mw_ls [1, 2, 0] rfl ?_
        exact ih26 S138 v140 (ms_inc ev140 b123 (by decide) hm119) hI137 hF139 (bd_w b141 (by decide)) (by subst ev140; subst hS138; subst ev136; subst hS134; subst ev132; subst hS130; subst ev128; subst hS126; subst ev124; exact hE120.trans (by rw [F_X3_copy_L26, if_neg q121]))
  refine mw_ls [1, 2, 0] rfl ?_
  exact cut26 9 S112 (0 : Int32) (by have hz := n_0; omega) hI111 hF113 (bd_w n_0 (by decide)) (by subst hS112; subst ev110; subst hS108; subst ev106; subst hS104; subst ev101; rw [F_X3_copy])
def F_X3_begin_L32ftu72u83 (k32 : mm_S → Int32 → mm_S) (S151 : mm_S) (y122 : Int32) (a1 : Nat) : mm_S := (k32 (mm_up S151 19 (y122).toNatClampNeg (F_X6_secondToldHeir S151 a1 y122)) (y122 + Int32.ofInt 1))
def F_X3_begin_L32ftu72 (k32 : mm_S → Int32 → mm_S) (S141 : mm_S) (y122 : Int32) (a1 : Nat) : mm_S := (F_X3_begin_L32ftu72u83 k32 (mm_up S141 18 (y122).toNatClampNeg (F_X6_firstToldHeir S141 a1 y122)) y122 a1)
def F_X3_begin_L32 (a1 : Nat) : Nat → mm_S → Int32 → mm_S
  | 0, S119, _ => S119
  | N + 1, S119, y122 => (if (7 : Int32) ≤ y122 then S119 else (if (F_X6_hasVoice S119 a1 y122) = (0 : Int32) then (F_X3_begin_L32ftu72 (F_X3_begin_L32 a1 N) (mm_up (mm_up S119 16 (y122).toNatClampNeg (9 : Int32)) 17 (y122).toNatClampNeg (0 : Int32)) y122 a1) else (F_X3_begin_L32ftu72 (F_X3_begin_L32 a1 N) (mm_up (mm_up S119 16 (y122).toNatClampNeg y122) 17 (y122).toNatClampNeg (0 : Int32)) y122 a1)))
def F_X3_begin (S : mm_S) (a1 : Nat) : mm_S := (F_X3_begin_L32 a1 9 (mm_up (mm_up (mm_up S 15 2 (if (7 : Int32) < (S.1 a1 0) then (7 : Int32) else (S.1 a1 0))) 15 0 (((1 : Int32) <<< ((if (7 : Int32) < (S.1 a1 0) then (7 : Int32) else (S.1 a1 0)) &&& 31)) - (1 : Int32))) 15 1 (0 : Int32)) (0 : Int32))
set_option maxRecDepth 100000 in
set_option maxHeartbeats 4000000 in
theorem cx_X3_begin {g : mm_G} (S : mm_S) (hI : JC S) (a1 : Nat) (ha1 : a1 ∈ LC_parish) : mc g yX3_begin cX3_begin 3 none (mm_rm 3) [.ref 15, .ref a1] (mm_enc shC S) (qv shC (fun S1 => JC S1 ∧ fr [15, 16, 17, 18, 19] [] true true S S1 ∧ True ∧ F_X3_begin S a1 = S1)) := by
  refine mc_of2 (own := RX3) (ini := false) (ls := [(0, .ref 15), (1, .ref a1)]) (by decide) (Nat.le_of_ble_eq_true rfl) rfl (by decide) rfl ?_
  have hF : fr [15, 16, 17, 18, 19] [] true true S S := fr_rf
  refine mw_aload_n dX3_begin_0 rfl 0 rfl ?_
  refine mw_aload_n dX3_begin_1 rfl 1 rfl ?_
  refine tw_geti (j := 0) dX3_begin_2 (shC_parish_0 a1 ha1) rfl rfl (by decide) fX3_24 (fun v101 ev101 => ?_)
  have b102 : mm_b (0) (7) v101 := JIC_fld hI ev101 (tbC_parish_0_0 a1 ha1) (by decide)
  refine mw_bipush dX3_begin_5 kb_7 ?_
  refine mw_min (st := [.ref 15]) dX3_begin_7 mX3_30 (Nat.le_of_ble_eq_true rfl) (by decide) (fun v103 ev103 => ?_)
  have b104 : mm_b (0) (7) v103 := min_b ev103 b102 n_7 (by decide)
  refine tw_puti (j := 2) dX3_begin_10 shC_15 rfl rfl (by decide) fX3_36 rfl (by decide +kernel) ?_
  have hI105 : JC (mm_up S 15 2 v103) := JIC_put hI b104 (by decide +kernel)
  generalize hS106 : (mm_up S 15 2 v103) = S106 at hI105 ⊢
  have hF107 := fr_upA hF hS106 (by decide)
  refine mw_aload_n dX3_begin_13 rfl 0 rfl ?_
  refine mw_iconst dX3_begin_14 ki_1 ?_
  refine mw_aload_n dX3_begin_15 rfl 0 rfl ?_
  refine tw_geti (j := 2) dX3_begin_16 shC_15 rfl rfl (by decide) fX3_36 (fun v108 ev108 => ?_)
  have cv108 : v103 = v108 := (up_eq hS106).trans ev108.symm
  subst cv108
  refine mw_ishl dX3_begin_19 (fun v109 ev109 => ?_)
  have b110 : mm_b (1) (128) v109 := bd_shl 7 ev109 b104 (by decide)
  refine mw_iconst dX3_begin_20 ki_1 ?_
  refine mw_isub dX3_begin_21 (fun v111 ev111 => ?_)
  have b112 : mm_b (0) (127) v111 := bd_sub ev111 b110 n_1 (by decide)
  refine tw_puti (j := 0) dX3_begin_22 shC_15 rfl rfl (by decide) fX3_39 rfl (by decide +kernel) ?_
  have hI113 : JC (mm_up S106 15 0 v111) := JIC_put hI105 b112 (by decide +kernel)
  generalize hS114 : (mm_up S106 15 0 v111) = S114 at hI113 ⊢
  have hF115 := fr_upA hF107 hS114 (by decide)
  refine mw_aload_n dX3_begin_25 rfl 0 rfl ?_
  refine mw_iconst dX3_begin_26 ki_0 ?_
  refine tw_puti (j := 1) dX3_begin_27 shC_15 rfl rfl (by decide) fX3_42 rfl (by decide +kernel) ?_
  have hI116 : JC (mm_up S114 15 1 0) := JIC_put hI113 n_0 (by decide +kernel)
  generalize hS117 : (mm_up S114 15 1 0) = S117 at hI116 ⊢
  have hF118 := fr_upA hF115 hS117 (by decide)
  refine mw_iconst dX3_begin_30 ki_0 ?_
  refine mw_istore_n (ls' := [(2, .int 0), (0, .ref 15), (1, .ref a1)]) dX3_begin_31 rfl (by decide) rfl ?_
  have cut32 : ∀ (N32 : Nat) (S119 : mm_S) (y122 : Int32), ((8 : Int) - y122.toInt).toNat < N32 → JC S119 → fr [15, 16, 17, 18, 19] [] true true S S119 → mm_b (0) (7) y122 → F_X3_begin S a1 = F_X3_begin_L32 a1 N32 S119 y122 → mw g RX3 cX3_begin 3 none false (mm_rm 3) (qv shC (fun S1 => JC S1 ∧ fr [15, 16, 17, 18, 19] [] true true S S1 ∧ True ∧ F_X3_begin S a1 = S1)) 0 0 (mm_enc shC S119) 32 [(0, .ref 15), (1, .ref a1), (2, .int y122)] [] := by
    intro N32
    induction N32 with
    | zero =>
      intro S119 y122 hm124 hI120 hF121 b123 hE125
      exact absurd hm124 (Nat.not_lt_zero _)
    | succ N32 ih32 =>
      intro S119 y122 hm124 hI120 hF121 b123 hE125
      refine mw_iload_n dX3_begin_32 rfl 2 rfl ?_
      refine mw_bipush dX3_begin_33 kb_7 ?_
      refine mw_icmp_ge (tgt := 93) dX3_begin_35 (by decide) (fun q126 => ?_) (fun q126 => ?_)
      · skip
        have b127 : mm_b (7) (7) y122 := bd_le_r q126 n_7 b123 (by decide)
        exact mw_vret rfl dX3_begin_93 rfl rfl ⟨S119, rfl, rfl, ⟨hI120, hF121, trivial, (by exact hE125.trans (by rw [F_X3_begin_L32, if_pos q126]))⟩⟩
      · skip
        have b128 : mm_b (0) (6) y122 := bd_lt_l (bd_nle q126) b123 n_7 (by decide)
        refine mw_aload_n dX3_begin_38 rfl 0 rfl ?_
        refine tw_getr (j := 3) dX3_begin_39 shC_15 rfl rfl (by decide) fX3_9 ?_
        refine mw_iload_n dX3_begin_42 rfl 2 rfl ?_
        refine mw_aload_n dX3_begin_43 rfl 1 rfl ?_
        refine mw_iload_n dX3_begin_44 rfl 2 rfl ?_
        refine tc_Vi (as := [.int y122]) (st := [.int y122, .ref 16]) dX3_begin_45 rfl (shC_parish_0 a1 ha1) rfl rfl mX3_45 t_X6_hasVoice rfl (Nat.le_of_ble_eq_true rfl) (by decide) (by decide) (cx_X6_hasVoice (g := g) S119 hI120 a1 ha1 y122) (fun S129 v131 h130 => ?_)
        obtain ⟨rfl, b132, x133, hx134⟩ := h130
        refine mw_if_eq (tgt := 55) dX3_begin_48 (by decide) (fun q135 => ?_) (fun q135 => ?_)
        · skip
          have b136 : mm_b (0) (0) v131 := bd_eq_l q135 b132 n_0 (by decide)
          refine mw_bipush dX3_begin_55 kb_9 ?_
          refine tw_iast dX3_begin_57 shC_16 (bd_in b128 (by decide)) ?_
          have hI137 : JC (mm_up S119 16 y122.toNatClampNeg 9) := JIC_puta hI120 n_9 b128 (by decide) (by decide +kernel)
          generalize hS138 : (mm_up S119 16 y122.toNatClampNeg 9) = S138 at hI137 ⊢
          have hF139 := fr_upA hF121 hS138 (by decide)
          refine mw_aload_n dX3_begin_58 rfl 0 rfl ?_
          refine tw_getr (j := 4) dX3_begin_59 shC_15 rfl rfl (by decide) fX3_15 ?_
          refine mw_iload_n dX3_begin_62 rfl 2 rfl ?_
          refine mw_iconst dX3_begin_63 ki_0 ?_
          refine tw_iast dX3_begin_64 shC_17 (bd_in b128 (by decide)) ?_
          have hI140 : JC (mm_up S138 17 y122.toNatClampNeg 0) := JIC_puta hI137 n_0 b128 (by decide) (by decide +kernel)
          generalize hS141 : (mm_up S138 17 y122.toNatClampNeg 0) = S141 at hI140 ⊢
          have hF142 := fr_upA hF139 hS141 (by decide)
          refine mw_aload_n dX3_begin_65 rfl 0 rfl ?_
          refine tw_getr (j := 5) dX3_begin_66 shC_15 rfl rfl (by decide) fX3_18 ?_
          refine mw_iload_n dX3_begin_69 rfl 2 rfl ?_
          refine mw_aload_n dX3_begin_70 rfl 1 rfl ?_
          refine mw_iload_n dX3_begin_71 rfl 2 rfl ?_
          have hE143 : F_X3_begin S a1 = F_X3_begin_L32ftu72 (F_X3_begin_L32 a1 N32) S141 y122 a1 := (by subst hS141; subst hS138; subst hx134; exact hE125.trans (by rw [F_X3_begin_L32, if_neg q126, if_pos q135]))
          refine tc_Vi (as := [.int y122]) (st := [.int y122, .ref 18]) dX3_begin_72 rfl (shC_parish_0 a1 ha1) rfl rfl mX3_49 t_X6_firstToldHeir rfl (Nat.le_of_ble_eq_true rfl) (by decide) (by decide) (cx_X6_firstToldHeir (g := g) S141 hI140 a1 ha1 y122) (fun S144 v146 h145 => ?_)
          obtain ⟨rfl, b147, x148, hx149⟩ := h145
          refine tw_iast dX3_begin_75 shC_18 (bd_in b128 (by decide)) ?_
          have hI150 : JC (mm_up S141 18 y122.toNatClampNeg v146) := JIC_puta hI140 b147 b128 (by decide) (by decide +kernel)
          generalize hS151 : (mm_up S141 18 y122.toNatClampNeg v146) = S151 at hI150 ⊢
          have hF152 := fr_upA hF142 hS151 (by decide)
          refine mw_aload_n dX3_begin_76 rfl 0 rfl ?_
          refine tw_getr (j := 6) dX3_begin_77 shC_15 rfl rfl (by decide) fX3_21 ?_
          refine mw_iload_n dX3_begin_80 rfl 2 rfl ?_
          refine mw_aload_n dX3_begin_81 rfl 1 rfl ?_
          refine mw_iload_n dX3_begin_82 rfl 2 rfl ?_
          have hE153 : F_X3_begin S a1 = F_X3_begin_L32ftu72u83 (F_X3_begin_L32 a1 N32) S151 y122 a1 := (by subst hS151; subst hx149; exact hE143.trans (by rw [F_X3_begin_L32ftu72]))
          refine tc_Vi (as := [.int y122]) (st := [.int y122, .ref 19]) dX3_begin_83 rfl (shC_parish_0 a1 ha1) rfl rfl mX3_53 t_X6_secondToldHeir rfl (Nat.le_of_ble_eq_true rfl) (by decide) (by decide) (cx_X6_secondToldHeir (g := g) S151 hI150 a1 ha1 y122) (fun S154 v156 h155 => ?_)
          obtain ⟨rfl, b157, x158, hx159⟩ := h155
          refine tw_iast dX3_begin_86 shC_19 (bd_in b128 (by decide)) ?_
          have hI160 : JC (mm_up S151 19 y122.toNatClampNeg v156) := JIC_puta hI150 b157 b128 (by decide) (by decide +kernel)
          generalize hS161 : (mm_up S151 19 y122.toNatClampNeg v156) = S161 at hI160 ⊢
          have hF162 := fr_upA hF152 hS161 (by decide)
          refine mw_iinc (ls' := fun v => [(2, .int v), (0, .ref 15), (1, .ref a1)]) dX3_begin_87 2 rfl (by decide) (fun _ => rfl) (fun v163 ev163 => ?_)
          have b164 : mm_b (1) (7) v163 := bd_inc ev163 b128 (by decide)
          refine mw_goto (tgt := 32) dX3_begin_90 (by decide) ?_
          refine mw_ls [1, 2, 0] rfl ?_
          exact ih32 S161 v163 (ms_inc ev163 b128 (by decide) hm124) hI160 hF162 (bd_w b164 (by decide)) (by subst ev163; subst hS161; subst hx159; exact hE153.trans (by rw [F_X3_begin_L32ftu72u83]))
        · skip
          have b165 : mm_b (1) (1) v131 := bd_ne_l q135 b132 n_0 (by decide)
          refine mw_iload_n dX3_begin_51 rfl 2 rfl ?_
          refine mw_goto (tgt := 57) dX3_begin_52 (by decide) ?_
          refine tw_iast dX3_begin_57 shC_16 (bd_in b128 (by decide)) ?_
          have hI166 : JC (mm_up S119 16 y122.toNatClampNeg y122) := JIC_puta hI120 b128 b128 (by decide) (by decide +kernel)
          generalize hS167 : (mm_up S119 16 y122.toNatClampNeg y122) = S167 at hI166 ⊢
          have hF168 := fr_upA hF121 hS167 (by decide)
          refine mw_aload_n dX3_begin_58 rfl 0 rfl ?_
          refine tw_getr (j := 4) dX3_begin_59 shC_15 rfl rfl (by decide) fX3_15 ?_
          refine mw_iload_n dX3_begin_62 rfl 2 rfl ?_
          refine mw_iconst dX3_begin_63 ki_0 ?_
          refine tw_iast dX3_begin_64 shC_17 (bd_in b128 (by decide)) ?_
          have hI169 : JC (mm_up S167 17 y122.toNatClampNeg 0) := JIC_puta hI166 n_0 b128 (by decide) (by decide +kernel)
          generalize hS170 : (mm_up S167 17 y122.toNatClampNeg 0) = S170 at hI169 ⊢
          have hF171 := fr_upA hF168 hS170 (by decide)
          refine mw_aload_n dX3_begin_65 rfl 0 rfl ?_
          refine tw_getr (j := 5) dX3_begin_66 shC_15 rfl rfl (by decide) fX3_18 ?_
          refine mw_iload_n dX3_begin_69 rfl 2 rfl ?_
          refine mw_aload_n dX3_begin_70 rfl 1 rfl ?_
          refine mw_iload_n dX3_begin_71 rfl 2 rfl ?_
          have hE172 : F_X3_begin S a1 = F_X3_begin_L32ftu72 (F_X3_begin_L32 a1 N32) S170 y122 a1 := (by subst hS170; subst hS167; subst hx134; exact hE125.trans (by rw [F_X3_begin_L32, if_neg q126, if_neg q135]))
          refine tc_Vi (as := [.int y122]) (st := [.int y122, .ref 18]) dX3_begin_72 rfl (shC_parish_0 a1 ha1) rfl rfl mX3_49 t_X6_firstToldHeir rfl (Nat.le_of_ble_eq_true rfl) (by decide) (by decide) (cx_X6_firstToldHeir (g := g) S170 hI169 a1 ha1 y122) (fun S173 v175 h174 => ?_)
          obtain ⟨rfl, b176, x177, hx178⟩ := h174
          refine tw_iast dX3_begin_75 shC_18 (bd_in b128 (by decide)) ?_
          have hI179 : JC (mm_up S170 18 y122.toNatClampNeg v175) := JIC_puta hI169 b176 b128 (by decide) (by decide +kernel)
          generalize hS180 : (mm_up S170 18 y122.toNatClampNeg v175) = S180 at hI179 ⊢
          have hF181 := fr_upA hF171 hS180 (by decide)
          refine mw_aload_n dX3_begin_76 rfl 0 rfl ?_
          refine tw_getr (j := 6) dX3_begin_77 shC_15 rfl rfl (by decide) fX3_21 ?_
          refine mw_iload_n dX3_begin_80 rfl 2 rfl ?_
          refine mw_aload_n dX3_begin_81 rfl 1 rfl ?_
          refine mw_iload_n dX3_begin_82 rfl 2 rfl ?_
          have hE182 : F_X3_begin S a1 = F_X3_begin_L32ftu72u83 (F_X3_begin_L32 a1 N32) S180 y122 a1 := (by subst hS180; subst hx178; exact hE172.trans (by rw [F_X3_begin_L32ftu72]))
          refine tc_Vi (as := [.int y122]) (st := [.int y122, .ref 19]) dX3_begin_83 rfl (shC_parish_0 a1 ha1) rfl rfl mX3_53 t_X6_secondToldHeir rfl (Nat.le_of_ble_eq_true rfl) (by decide) (by decide) (cx_X6_secondToldHeir (g := g) S180 hI179 a1 ha1 y122) (fun S183 v185 h184 => ?_)
          obtain ⟨rfl, b186, x187, hx188⟩ := h184
          refine tw_iast dX3_begin_86 shC_19 (bd_in b128 (by decide)) ?_
          have hI189 : JC (mm_up S180 19 y122.toNatClampNeg v185) := JIC_puta hI179 b186 b128 (by decide) (by decide +kernel)
          generalize hS190 : (mm_up S180 19 y122.toNatClampNeg v185) = S190 at hI189 ⊢
          have hF191 := fr_upA hF181 hS190 (by decide)
          refine mw_iinc (ls' := fun v => [(2, .int v), (0, .ref 15), (1, .ref a1)]) dX3_begin_87 2 rfl (by decide) (fun _ => rfl) (fun v192 ev192 => ?_)
          have b193 : mm_b (1) (7) v192 := bd_inc ev192 b128 (by decide)
          refine mw_goto (tgt := 32) dX3_begin_90 (by decide) ?_
          refine mw_ls [1, 2, 0] rfl ?_
          exact ih32 S190 v192 (ms_inc ev192 b128 (by decide) hm124) hI189 hF191 (bd_w b193 (by decide)) (by subst ev192; subst hS190; subst hx188; exact hE182.trans (by rw [F_X3_begin_L32ftu72u83]))
  refine mw_ls [1, 2, 0] rfl ?_
  exact cut32 9 S117 (0 : Int32) (by have hz := n_0; omega) hI116 hF118 (bd_w n_0 (by decide)) (by subst hS117; subst hS114; subst ev111; subst ev109; subst hS106; subst ev103; subst ev101; rw [F_X3_begin])
def F_X7_forget (S : mm_S)  : mm_S := (mm_up (mm_up S 25 0 (0 : Int32)) 25 1 (0 : Int32))
set_option maxRecDepth 100000 in
set_option maxHeartbeats 4000000 in
theorem cx_X7_forget {g : mm_G} (S : mm_S) (hI : JC S)  : mc g yX7_forget cX7_forget 1 none (mm_rm 0) [.ref 25] (mm_enc shC S) (qv shC (fun S1 => JC S1 ∧ fr [25] [] true true S S1 ∧ True ∧ F_X7_forget S = S1)) := by
  refine mc_of2 (own := RX7) (ini := false) (ls := [(0, .ref 25)]) (by decide) (Nat.le_of_ble_eq_true rfl) rfl (by decide) rfl ?_
  have hF : fr [25] [] true true S S := fr_rf
  refine mw_aload_n dX7_forget_0 rfl 0 rfl ?_
  refine mw_iconst dX7_forget_1 ki_0 ?_
  refine tw_puti (j := 0) dX7_forget_2 shC_25 rfl rfl (by decide) fX7_18 rfl (by decide +kernel) ?_
  have hI101 : JC (mm_up S 25 0 0) := JIC_put hI n_0 (by decide +kernel)
  generalize hS102 : (mm_up S 25 0 0) = S102 at hI101 ⊢
  have hF103 := fr_upA hF hS102 (by decide)
  refine mw_aload_n dX7_forget_5 rfl 0 rfl ?_
  refine mw_iconst dX7_forget_6 ki_0 ?_
  refine tw_puti (j := 1) dX7_forget_7 shC_25 rfl rfl (by decide) fX7_22 rfl (by decide +kernel) ?_
  have hI104 : JC (mm_up S102 25 1 0) := JIC_put hI101 n_0 (by decide +kernel)
  generalize hS105 : (mm_up S102 25 1 0) = S105 at hI104 ⊢
  have hF106 := fr_upA hF103 hS105 (by decide)
  exact mw_vret rfl dX7_forget_10 rfl rfl ⟨S105, rfl, rfl, ⟨hI104, hF106, trivial, (by subst hS105; subst hS102; rw [F_X7_forget])⟩⟩
def F_X7_remember_tu34c37u59 (S123 : mm_S) (v128 : Int32) : mm_S := (mm_up S123 25 0 (if (20 : Int32) < v128 then (20 : Int32) else v128))
def F_X7_remember_tu34c37 (S111 : mm_S) : mm_S := (F_X7_remember_tu34c37u59 (mm_up S111 25 1 ((0 : Int32) + (1 : Int32))) ((S111.1 25 0) + (1 : Int32)))
def F_X7_remember_tu34 (S105 : mm_S) (a108 : Nat) : mm_S := (F_X7_remember_tu34c37 (F_X3_copy S105 a108 15))
def F_X7_remember_ftc37 (S143 : mm_S) (v101 : Int32) : mm_S := (F_X7_remember_tu34c37u59 (mm_up S143 25 1 (v101 + (1 : Int32))) ((S143.1 25 0) + (1 : Int32)))
def F_X7_remember (S : mm_S)  : mm_S := (if (S.1 25 1) < (0 : Int32) then (F_X7_remember_tu34 (mm_up S 25 1 (0 : Int32)) (aaC_26 (0 : Int32))) else (if (S.1 25 1) < (20 : Int32) then (F_X7_remember_ftc37 (F_X3_copy S (aaC_26 (S.1 25 1)) 15) (S.1 25 1)) else (F_X7_remember_tu34 (mm_up S 25 1 (0 : Int32)) (aaC_26 (0 : Int32)))))
set_option maxRecDepth 100000 in
set_option maxHeartbeats 4000000 in
theorem cx_X7_remember {g : mm_G} (S : mm_S) (hI : JC S)  : mc g yX7_remember cX7_remember 2 none (mm_rm 1) [.ref 25, .ref 15] (mm_enc shC S) (qv shC (fun S1 => JC S1 ∧ fr [15, 16, 17, 18, 19, 20, 21, 22, 23, 24, 25, 27, 28, 29, 30, 31, 32, 33, 34, 35, 36, 37, 38, 39, 40, 41, 42, 43, 44, 45, 46, 47, 48, 49, 50, 51, 52, 53, 54, 55, 56, 57, 58, 59, 60, 61, 62, 63, 64, 65, 66, 67, 68, 69, 70, 71, 72, 73, 74, 75, 76, 77, 78, 79, 80, 81, 82, 83, 84, 85, 86, 87, 88, 89, 90, 91, 92, 93, 94, 95, 96, 97, 98, 99, 100, 101, 102, 103, 104, 105, 106, 107, 108, 109, 110, 111, 112, 113, 114, 115, 116, 117, 118, 119, 120, 121, 122, 123, 124, 125, 126, 152, 153, 154, 155, 156, 158, 159, 160, 161, 162] [] true true S S1 ∧ True ∧ F_X7_remember S = S1)) := by
  refine mc_of2 (own := RX7) (ini := false) (ls := [(0, .ref 25), (1, .ref 15)]) (by decide) (Nat.le_of_ble_eq_true rfl) rfl (by decide) rfl ?_
  have hF : fr [15, 16, 17, 18, 19, 20, 21, 22, 23, 24, 25, 27, 28, 29, 30, 31, 32, 33, 34, 35, 36, 37, 38, 39, 40, 41, 42, 43, 44, 45, 46, 47, 48, 49, 50, 51, 52, 53, 54, 55, 56, 57, 58, 59, 60, 61, 62, 63, 64, 65, 66, 67, 68, 69, 70, 71, 72, 73, 74, 75, 76, 77, 78, 79, 80, 81, 82, 83, 84, 85, 86, 87, 88, 89, 90, 91, 92, 93, 94, 95, 96, 97, 98, 99, 100, 101, 102, 103, 104, 105, 106, 107, 108, 109, 110, 111, 112, 113, 114, 115, 116, 117, 118, 119, 120, 121, 122, 123, 124, 125, 126, 152, 153, 154, 155, 156, 158, 159, 160, 161, 162] [] true true S S := fr_rf
  refine mw_aload_n dX7_remember_0 rfl 0 rfl ?_
  refine tw_geti (j := 1) dX7_remember_1 shC_25 rfl rfl (by decide) fX7_22 (fun v101 ev101 => ?_)
  refine mw_if_lt (tgt := 19) dX7_remember_4 (by decide) (fun q102 => ?_) (fun q102 => ?_)
  · skip
    have b103 : mm_b (-2147483648) (-1) v101 := bd_lt_l q102 (bd_all v101) n_0 (by decide)
    refine mw_aload_n dX7_remember_19 rfl 0 rfl ?_
    refine mw_iconst dX7_remember_20 ki_0 ?_
    refine tw_puti (j := 1) dX7_remember_21 shC_25 rfl rfl (by decide) fX7_22 rfl (by decide +kernel) ?_
    have hI104 : JC (mm_up S 25 1 0) := JIC_put hI n_0 (by decide +kernel)
    generalize hS105 : (mm_up S 25 1 0) = S105 at hI104 ⊢
    have hF106 := fr_upA hF hS105 (by decide)
    refine mw_aload_n dX7_remember_24 rfl 0 rfl ?_
    refine tw_getr (j := 2) dX7_remember_25 shC_25 rfl rfl (by decide) fX7_11 ?_
    refine mw_aload_n dX7_remember_28 rfl 0 rfl ?_
    refine tw_geti (j := 1) dX7_remember_29 shC_25 rfl rfl (by decide) fX7_22 (fun v107 ev107 => ?_)
    have cv107 : 0 = v107 := (up_eq hS105).trans ev107.symm
    subst cv107
    obtain ⟨a108, ea108, ha109⟩ := AAC_26 n_0 (by decide)
    refine tw_aald dX7_remember_32 shC_26 rfl rfl (bd_in n_0 (by decide)) ea108 (LC_folk_lt ha109) ?_
    have e2a108 := aaC_26_get ea108
    refine mw_aload_n dX7_remember_33 rfl 1 rfl ?_
    have hE110 : F_X7_remember S = F_X7_remember_tu34 S105 a108 := (by subst e2a108; subst hS105; subst ev101; rw [F_X7_remember, if_pos q102])
    refine tc_Vv (as := [.ref 15]) (st := []) dX7_remember_34 rfl (shC_folk_0 a108 ha109) rfl rfl mX7_25 t_X3_copy rfl (Nat.le_of_ble_eq_true rfl) (by decide) (by decide) (cx_X3_copy (g := g) S105 hI104 a108 ha109 15 (by decide)) (fun S111 h112 => ?_)
    obtain ⟨hI115, hf116, x113, hx114⟩ := h112
    have hF117 := fr_tr hF106 hf116 (by decide) (by decide) (by decide) (by decide)
    have hE118 : F_X7_remember S = F_X7_remember_tu34c37 S111 := (by exact hE110.trans (by rw [F_X7_remember_tu34, hx114]))
    refine mw_aload_n dX7_remember_37 rfl 0 rfl ?_
    refine mw_dup dX7_remember_38 rfl ?_
    refine tw_geti (j := 1) dX7_remember_39 shC_25 rfl rfl (by decide) fX7_22 (fun v119 ev119 => ?_)
    have cv119 : 0 = v119 := ((up_eq hS105).trans (fr_A hf116 (by decide) (by decide))).trans ev119.symm
    subst cv119
    refine mw_iconst dX7_remember_42 ki_1 ?_
    refine mw_iadd dX7_remember_43 (fun v120 ev120 => ?_)
    have b121 : mm_b (1) (1) v120 := bd_add ev120 n_0 n_1 (by decide)
    refine tw_puti (j := 1) dX7_remember_44 shC_25 rfl rfl (by decide) fX7_22 rfl (by decide +kernel) ?_
    have hI122 : JC (mm_up S111 25 1 v120) := JIC_put hI115 b121 (by decide +kernel)
    generalize hS123 : (mm_up S111 25 1 v120) = S123 at hI122 ⊢
    have hF124 := fr_upA hF117 hS123 (by decide)
    refine mw_aload_n dX7_remember_47 rfl 0 rfl ?_
    refine mw_aload_n dX7_remember_48 rfl 0 rfl ?_
    refine tw_geti (j := 0) dX7_remember_49 shC_25 rfl rfl (by decide) fX7_18 (fun v125 ev125 => ?_)
    have eb126 := ev125.trans (Eq.symm (up_neF hS123 (by decide)))
    have b127 : mm_b (0) (20) v125 := JIC_fld hI122 ev125 tbC_33 (by decide)
    refine mw_iconst dX7_remember_52 ki_1 ?_
    refine mw_iadd dX7_remember_53 (fun v128 ev128 => ?_)
    have b129 : mm_b (1) (21) v128 := bd_add ev128 b127 n_1 (by decide)
    refine mw_aload_n dX7_remember_54 rfl 0 rfl ?_
    refine tw_getr (j := 2) dX7_remember_55 shC_25 rfl rfl (by decide) fX7_11 ?_
    refine tw_alenr (v := 20) dX7_remember_58 shC_26 rfl (by decide) ?_
    have hE130 : F_X7_remember S = F_X7_remember_tu34c37u59 S123 v128 := (by subst ev128; subst eb126; subst hS123; subst ev120; exact hE118.trans (by rw [F_X7_remember_tu34c37]))
    refine mw_min (st := [.ref 25]) dX7_remember_59 mX7_29 (Nat.le_of_ble_eq_true rfl) (by decide) (fun v131 ev131 => ?_)
    have b132 : mm_b (1) (20) v131 := min_b ev131 b129 n_20 (by decide)
    refine tw_puti (j := 0) dX7_remember_62 shC_25 rfl rfl (by decide) fX7_18 rfl (by decide +kernel) ?_
    have hI133 : JC (mm_up S123 25 0 v131) := JIC_put hI122 b132 (by decide +kernel)
    generalize hS134 : (mm_up S123 25 0 v131) = S134 at hI133 ⊢
    have hF135 := fr_upA hF124 hS134 (by decide)
    exact mw_vret rfl dX7_remember_65 rfl rfl ⟨S134, rfl, rfl, ⟨hI133, hF135, trivial, (by subst hS134; subst ev131; exact hE130.trans (by rw [F_X7_remember_tu34c37u59]))⟩⟩
  · skip
    have b136 : mm_b (0) (2147483647) v101 := bd_le_r (bd_nlt q102) n_0 (bd_all v101) (by decide)
    refine mw_aload_n dX7_remember_7 rfl 0 rfl ?_
    refine tw_geti (j := 1) dX7_remember_8 shC_25 rfl rfl (by decide) fX7_22 (fun v137 ev137 => ?_)
    have cv137 : v101 = v137 := ev101.trans ev137.symm
    subst cv137
    refine mw_aload_n dX7_remember_11 rfl 0 rfl ?_
    refine tw_getr (j := 2) dX7_remember_12 shC_25 rfl rfl (by decide) fX7_11 ?_
    refine tw_alenr (v := 20) dX7_remember_15 shC_26 rfl (by decide) ?_
    refine mw_icmp_lt (tgt := 24) dX7_remember_16 (by decide) (fun q138 => ?_) (fun q138 => ?_)
    · skip
      have b139 : mm_b (0) (19) v101 := bd_lt_l q138 b136 n_20 (by decide)
      refine mw_aload_n dX7_remember_24 rfl 0 rfl ?_
      refine tw_getr (j := 2) dX7_remember_25 shC_25 rfl rfl (by decide) fX7_11 ?_
      refine mw_aload_n dX7_remember_28 rfl 0 rfl ?_
      refine tw_geti (j := 1) dX7_remember_29 shC_25 rfl rfl (by decide) fX7_22 (fun v140 ev140 => ?_)
      have cv140 : v101 = v140 := ev101.trans ev140.symm
      subst cv140
      obtain ⟨a141, ea141, ha142⟩ := AAC_26 b139 (by decide)
      refine tw_aald dX7_remember_32 shC_26 rfl rfl (bd_in b139 (by decide)) ea141 (LC_folk_lt ha142) ?_
      have e2a141 := aaC_26_get ea141
      refine mw_aload_n dX7_remember_33 rfl 1 rfl ?_
      refine tc_Vv (as := [.ref 15]) (st := []) dX7_remember_34 rfl (shC_folk_0 a141 ha142) rfl rfl mX7_25 t_X3_copy rfl (Nat.le_of_ble_eq_true rfl) (by decide) (by decide) (cx_X3_copy (g := g) S hI a141 ha142 15 (by decide)) (fun S143 h144 => ?_)
      obtain ⟨hI147, hf148, x145, hx146⟩ := h144
      have hF149 := fr_tr hF hf148 (by decide) (by decide) (by decide) (by decide)
      have hE150 : F_X7_remember S = F_X7_remember_ftc37 S143 v101 := (by subst e2a141; subst ev101; rw [F_X7_remember, if_neg q102, if_pos q138, hx146])
      refine mw_aload_n dX7_remember_37 rfl 0 rfl ?_
      refine mw_dup dX7_remember_38 rfl ?_
      refine tw_geti (j := 1) dX7_remember_39 shC_25 rfl rfl (by decide) fX7_22 (fun v151 ev151 => ?_)
      have cv151 : v101 = v151 := (ev101.trans (fr_A hf148 (by decide) (by decide))).trans ev151.symm
      subst cv151
      refine mw_iconst dX7_remember_42 ki_1 ?_
      refine mw_iadd dX7_remember_43 (fun v152 ev152 => ?_)
      have b153 : mm_b (1) (20) v152 := bd_add ev152 b139 n_1 (by decide)
      refine tw_puti (j := 1) dX7_remember_44 shC_25 rfl rfl (by decide) fX7_22 rfl (by decide +kernel) ?_
      have hI154 : JC (mm_up S143 25 1 v152) := JIC_put hI147 b153 (by decide +kernel)
      generalize hS155 : (mm_up S143 25 1 v152) = S155 at hI154 ⊢
      have hF156 := fr_upA hF149 hS155 (by decide)
      refine mw_aload_n dX7_remember_47 rfl 0 rfl ?_
      refine mw_aload_n dX7_remember_48 rfl 0 rfl ?_
      refine tw_geti (j := 0) dX7_remember_49 shC_25 rfl rfl (by decide) fX7_18 (fun v157 ev157 => ?_)
      have eb158 := ev157.trans (Eq.symm (up_neF hS155 (by decide)))
      have b159 : mm_b (0) (20) v157 := JIC_fld hI154 ev157 tbC_33 (by decide)
      refine mw_iconst dX7_remember_52 ki_1 ?_
      refine mw_iadd dX7_remember_53 (fun v160 ev160 => ?_)
      have b161 : mm_b (1) (21) v160 := bd_add ev160 b159 n_1 (by decide)
      refine mw_aload_n dX7_remember_54 rfl 0 rfl ?_
      refine tw_getr (j := 2) dX7_remember_55 shC_25 rfl rfl (by decide) fX7_11 ?_
      refine tw_alenr (v := 20) dX7_remember_58 shC_26 rfl (by decide) ?_
      have hE162 : F_X7_remember S = F_X7_remember_tu34c37u59 S155 v160 := (by subst ev160; subst eb158; subst hS155; subst ev152; exact hE150.trans (by rw [F_X7_remember_ftc37]))
      refine mw_min (st := [.ref 25]) dX7_remember_59 mX7_29 (Nat.le_of_ble_eq_true rfl) (by decide) (fun v163 ev163 => ?_)
      have b164 : mm_b (1) (20) v163 := min_b ev163 b161 n_20 (by decide)
      refine tw_puti (j := 0) dX7_remember_62 shC_25 rfl rfl (by decide) fX7_18 rfl (by decide +kernel) ?_
      have hI165 : JC (mm_up S155 25 0 v163) := JIC_put hI154 b164 (by decide +kernel)
      generalize hS166 : (mm_up S155 25 0 v163) = S166 at hI165 ⊢
      have hF167 := fr_upA hF156 hS166 (by decide)
      exact mw_vret rfl dX7_remember_65 rfl rfl ⟨S166, rfl, rfl, ⟨hI165, hF167, trivial, (by subst hS166; subst ev163; exact hE162.trans (by rw [F_X7_remember_tu34c37u59]))⟩⟩
    · skip
      have b168 : mm_b (20) (2147483647) v101 := bd_le_r (bd_nlt q138) n_20 b136 (by decide)
      refine mw_aload_n dX7_remember_19 rfl 0 rfl ?_
      refine mw_iconst dX7_remember_20 ki_0 ?_
      refine tw_puti (j := 1) dX7_remember_21 shC_25 rfl rfl (by decide) fX7_22 rfl (by decide +kernel) ?_
      have hI169 : JC (mm_up S 25 1 0) := JIC_put hI n_0 (by decide +kernel)
      generalize hS170 : (mm_up S 25 1 0) = S170 at hI169 ⊢
      have hF171 := fr_upA hF hS170 (by decide)
      refine mw_aload_n dX7_remember_24 rfl 0 rfl ?_
      refine tw_getr (j := 2) dX7_remember_25 shC_25 rfl rfl (by decide) fX7_11 ?_
      refine mw_aload_n dX7_remember_28 rfl 0 rfl ?_
      refine tw_geti (j := 1) dX7_remember_29 shC_25 rfl rfl (by decide) fX7_22 (fun v172 ev172 => ?_)
      have cv172 : 0 = v172 := (up_eq hS170).trans ev172.symm
      subst cv172
      obtain ⟨a173, ea173, ha174⟩ := AAC_26 n_0 (by decide)
      refine tw_aald dX7_remember_32 shC_26 rfl rfl (bd_in n_0 (by decide)) ea173 (LC_folk_lt ha174) ?_
      have e2a173 := aaC_26_get ea173
      refine mw_aload_n dX7_remember_33 rfl 1 rfl ?_
      have hE175 : F_X7_remember S = F_X7_remember_tu34 S170 a173 := (by subst e2a173; subst hS170; subst ev101; rw [F_X7_remember, if_neg q102, if_neg q138])
      refine tc_Vv (as := [.ref 15]) (st := []) dX7_remember_34 rfl (shC_folk_0 a173 ha174) rfl rfl mX7_25 t_X3_copy rfl (Nat.le_of_ble_eq_true rfl) (by decide) (by decide) (cx_X3_copy (g := g) S170 hI169 a173 ha174 15 (by decide)) (fun S176 h177 => ?_)
      obtain ⟨hI180, hf181, x178, hx179⟩ := h177
      have hF182 := fr_tr hF171 hf181 (by decide) (by decide) (by decide) (by decide)
      have hE183 : F_X7_remember S = F_X7_remember_tu34c37 S176 := (by exact hE175.trans (by rw [F_X7_remember_tu34, hx179]))
      refine mw_aload_n dX7_remember_37 rfl 0 rfl ?_
      refine mw_dup dX7_remember_38 rfl ?_
      refine tw_geti (j := 1) dX7_remember_39 shC_25 rfl rfl (by decide) fX7_22 (fun v184 ev184 => ?_)
      have cv184 : 0 = v184 := ((up_eq hS170).trans (fr_A hf181 (by decide) (by decide))).trans ev184.symm
      subst cv184
      refine mw_iconst dX7_remember_42 ki_1 ?_
      refine mw_iadd dX7_remember_43 (fun v185 ev185 => ?_)
      have b186 : mm_b (1) (1) v185 := bd_add ev185 n_0 n_1 (by decide)
      refine tw_puti (j := 1) dX7_remember_44 shC_25 rfl rfl (by decide) fX7_22 rfl (by decide +kernel) ?_
      have hI187 : JC (mm_up S176 25 1 v185) := JIC_put hI180 b186 (by decide +kernel)
      generalize hS188 : (mm_up S176 25 1 v185) = S188 at hI187 ⊢
      have hF189 := fr_upA hF182 hS188 (by decide)
      refine mw_aload_n dX7_remember_47 rfl 0 rfl ?_
      refine mw_aload_n dX7_remember_48 rfl 0 rfl ?_
      refine tw_geti (j := 0) dX7_remember_49 shC_25 rfl rfl (by decide) fX7_18 (fun v190 ev190 => ?_)
      have eb191 := ev190.trans (Eq.symm (up_neF hS188 (by decide)))
      have b192 : mm_b (0) (20) v190 := JIC_fld hI187 ev190 tbC_33 (by decide)
      refine mw_iconst dX7_remember_52 ki_1 ?_
      refine mw_iadd dX7_remember_53 (fun v193 ev193 => ?_)
      have b194 : mm_b (1) (21) v193 := bd_add ev193 b192 n_1 (by decide)
      refine mw_aload_n dX7_remember_54 rfl 0 rfl ?_
      refine tw_getr (j := 2) dX7_remember_55 shC_25 rfl rfl (by decide) fX7_11 ?_
      refine tw_alenr (v := 20) dX7_remember_58 shC_26 rfl (by decide) ?_
      have hE195 : F_X7_remember S = F_X7_remember_tu34c37u59 S188 v193 := (by subst ev193; subst eb191; subst hS188; subst ev185; exact hE183.trans (by rw [F_X7_remember_tu34c37]))
      refine mw_min (st := [.ref 25]) dX7_remember_59 mX7_29 (Nat.le_of_ble_eq_true rfl) (by decide) (fun v196 ev196 => ?_)
      have b197 : mm_b (1) (20) v196 := min_b ev196 b194 n_20 (by decide)
      refine tw_puti (j := 0) dX7_remember_62 shC_25 rfl rfl (by decide) fX7_18 rfl (by decide +kernel) ?_
      have hI198 : JC (mm_up S188 25 0 v196) := JIC_put hI187 b197 (by decide +kernel)
      generalize hS199 : (mm_up S188 25 0 v196) = S199 at hI198 ⊢
      have hF200 := fr_upA hF189 hS199 (by decide)
      exact mw_vret rfl dX7_remember_65 rfl rfl ⟨S199, rfl, rfl, ⟨hI198, hF200, trivial, (by subst hS199; subst ev196; exact hE195.trans (by rw [F_X7_remember_tu34c37u59]))⟩⟩
def F_X7_bringBack_ttu58c61 (S117 : mm_S) (v101 : Int32) : Int32 × mm_S := ((1 : Int32), (mm_up S117 25 0 (v101 - (1 : Int32))))
def F_X7_bringBack_ttu58 (S111 : mm_S) (a114 : Nat) (v101 : Int32) : Int32 × mm_S := (F_X7_bringBack_ttu58c61 (F_X3_copy S111 15 a114) v101)
def F_X7_bringBack (S : mm_S)  : Int32 × mm_S := (if (S.1 25 0) = (0 : Int32) then ((0 : Int32), S) else (if (S.1 25 1) ≤ (0 : Int32) then (F_X7_bringBack_ttu58 (mm_up S 25 1 ((20 : Int32) - (1 : Int32))) (aaC_26 ((20 : Int32) - (1 : Int32))) (S.1 25 0)) else (if (S.1 25 1) ≤ (20 : Int32) then (F_X7_bringBack_ttu58 (mm_up S 25 1 ((S.1 25 1) - (1 : Int32))) (aaC_26 ((S.1 25 1) - (1 : Int32))) (S.1 25 0)) else (F_X7_bringBack_ttu58 (mm_up S 25 1 ((20 : Int32) - (1 : Int32))) (aaC_26 ((20 : Int32) - (1 : Int32))) (S.1 25 0)))))
set_option maxRecDepth 100000 in
set_option maxHeartbeats 4000000 in
theorem cx_X7_bringBack {g : mm_G} (S : mm_S) (hI : JC S)  : mc g yX7_bringBack cX7_bringBack 2 (some .boolean) (mm_rm 1) [.ref 25, .ref 15] (mm_enc shC S) (qi shC (fun S1 v => JC S1 ∧ fr [15, 16, 17, 18, 19, 20, 21, 22, 23, 24, 25, 27, 28, 29, 30, 31, 32, 33, 34, 35, 36, 37, 38, 39, 40, 41, 42, 43, 44, 45, 46, 47, 48, 49, 50, 51, 52, 53, 54, 55, 56, 57, 58, 59, 60, 61, 62, 63, 64, 65, 66, 67, 68, 69, 70, 71, 72, 73, 74, 75, 76, 77, 78, 79, 80, 81, 82, 83, 84, 85, 86, 87, 88, 89, 90, 91, 92, 93, 94, 95, 96, 97, 98, 99, 100, 101, 102, 103, 104, 105, 106, 107, 108, 109, 110, 111, 112, 113, 114, 115, 116, 117, 118, 119, 120, 121, 122, 123, 124, 125, 126, 152, 153, 154, 155, 156, 158, 159, 160, 161, 162] [] true true S S1 ∧ mm_b (0) (1) v ∧ (True) ∧ F_X7_bringBack S = (v, S1))) := by
  refine mc_of2 (own := RX7) (ini := false) (ls := [(0, .ref 25), (1, .ref 15)]) (by decide) (Nat.le_of_ble_eq_true rfl) rfl (by decide) rfl ?_
  have hF : fr [15, 16, 17, 18, 19, 20, 21, 22, 23, 24, 25, 27, 28, 29, 30, 31, 32, 33, 34, 35, 36, 37, 38, 39, 40, 41, 42, 43, 44, 45, 46, 47, 48, 49, 50, 51, 52, 53, 54, 55, 56, 57, 58, 59, 60, 61, 62, 63, 64, 65, 66, 67, 68, 69, 70, 71, 72, 73, 74, 75, 76, 77, 78, 79, 80, 81, 82, 83, 84, 85, 86, 87, 88, 89, 90, 91, 92, 93, 94, 95, 96, 97, 98, 99, 100, 101, 102, 103, 104, 105, 106, 107, 108, 109, 110, 111, 112, 113, 114, 115, 116, 117, 118, 119, 120, 121, 122, 123, 124, 125, 126, 152, 153, 154, 155, 156, 158, 159, 160, 161, 162] [] true true S S := fr_rf
  refine mw_aload_n dX7_bringBack_0 rfl 0 rfl ?_
  refine tw_geti (j := 0) dX7_bringBack_1 shC_25 rfl rfl (by decide) fX7_18 (fun v101 ev101 => ?_)
  have b102 : mm_b (0) (20) v101 := JIC_fld hI ev101 tbC_33 (by decide)
  refine mw_if_ne (tgt := 9) dX7_bringBack_4 (by decide) (fun q103 => ?_) (fun q103 => ?_)
  · skip
    have b104 : mm_b (1) (20) v101 := bd_ne_l q103 b102 n_0 (by decide)
    refine mw_aload_n dX7_bringBack_9 rfl 0 rfl ?_
    refine mw_aload_n dX7_bringBack_10 rfl 0 rfl ?_
    refine tw_geti (j := 1) dX7_bringBack_11 shC_25 rfl rfl (by decide) fX7_22 (fun v105 ev105 => ?_)
    refine mw_if_le (tgt := 29) dX7_bringBack_14 (by decide) (fun q106 => ?_) (fun q106 => ?_)
    · skip
      have b107 : mm_b (-2147483648) (0) v105 := bd_le_l q106 (bd_all v105) n_0 (by decide)
      refine mw_aload_n dX7_bringBack_29 rfl 0 rfl ?_
      refine tw_getr (j := 2) dX7_bringBack_30 shC_25 rfl rfl (by decide) fX7_11 ?_
      refine tw_alenr (v := 20) dX7_bringBack_33 shC_26 rfl (by decide) ?_
      refine mw_iconst dX7_bringBack_34 ki_1 ?_
      refine mw_isub dX7_bringBack_35 (fun v108 ev108 => ?_)
      have b109 : mm_b (19) (19) v108 := bd_sub ev108 n_20 n_1 (by decide)
      refine mw_goto (tgt := 45) dX7_bringBack_36 (by decide) ?_
      refine tw_puti (j := 1) dX7_bringBack_45 shC_25 rfl rfl (by decide) fX7_22 rfl (by decide +kernel) ?_
      have hI110 : JC (mm_up S 25 1 v108) := JIC_put hI b109 (by decide +kernel)
      generalize hS111 : (mm_up S 25 1 v108) = S111 at hI110 ⊢
      have hF112 := fr_upA hF hS111 (by decide)
      refine mw_aload_n dX7_bringBack_48 rfl 1 rfl ?_
      refine mw_aload_n dX7_bringBack_49 rfl 0 rfl ?_
      refine tw_getr (j := 2) dX7_bringBack_50 shC_25 rfl rfl (by decide) fX7_11 ?_
      refine mw_aload_n dX7_bringBack_53 rfl 0 rfl ?_
      refine tw_geti (j := 1) dX7_bringBack_54 shC_25 rfl rfl (by decide) fX7_22 (fun v113 ev113 => ?_)
      have cv113 : v108 = v113 := (up_eq hS111).trans ev113.symm
      subst cv113
      obtain ⟨a114, ea114, ha115⟩ := AAC_26 b109 (by decide)
      refine tw_aald dX7_bringBack_57 shC_26 rfl rfl (bd_in b109 (by decide)) ea114 (LC_folk_lt ha115) ?_
      have e2a114 := aaC_26_get ea114
      have hE116 : F_X7_bringBack S = F_X7_bringBack_ttu58 S111 a114 v101 := (by subst e2a114; subst hS111; subst ev108; subst ev105; subst ev101; rw [F_X7_bringBack, if_neg q103, if_pos q106])
      refine tc_Vv (as := [.ref a114]) (st := []) dX7_bringBack_58 rfl shC_15 rfl rfl mX7_25 t_X3_copy rfl (Nat.le_of_ble_eq_true rfl) (by decide) (by decide) (cx_X3_copy (g := g) S111 hI110 15 (by decide) a114 ha115) (fun S117 h118 => ?_)
      obtain ⟨hI121, hf122, x119, hx120⟩ := h118
      have hF123 := fr_tr hF112 hf122 (by decide) (by decide) (by decide) (by decide)
      have hE124 : F_X7_bringBack S = F_X7_bringBack_ttu58c61 S117 v101 := (by exact hE116.trans (by rw [F_X7_bringBack_ttu58, hx120]))
      refine mw_aload_n dX7_bringBack_61 rfl 0 rfl ?_
      refine mw_dup dX7_bringBack_62 rfl ?_
      refine tw_geti (j := 0) dX7_bringBack_63 shC_25 rfl rfl (by decide) fX7_18 (fun v125 ev125 => ?_)
      have cv125 : v101 = v125 := ((ev101.trans (up_neF hS111 (by decide))).trans (fr_A hf122 (by decide) (by decide))).trans ev125.symm
      subst cv125
      refine mw_iconst dX7_bringBack_66 ki_1 ?_
      refine mw_isub dX7_bringBack_67 (fun v126 ev126 => ?_)
      have b127 : mm_b (0) (19) v126 := bd_sub ev126 b104 n_1 (by decide)
      refine tw_puti (j := 0) dX7_bringBack_68 shC_25 rfl rfl (by decide) fX7_18 rfl (by decide +kernel) ?_
      have hI128 : JC (mm_up S117 25 0 v126) := JIC_put hI121 b127 (by decide +kernel)
      generalize hS129 : (mm_up S117 25 0 v126) = S129 at hI128 ⊢
      have hF130 := fr_upA hF123 hS129 (by decide)
      refine mw_iconst dX7_bringBack_71 ki_1 ?_
      exact mw_zret rfl (bd_nar n_1 (by decide)) dX7_bringBack_72 rfl rfl ⟨S129, _, rfl, rfl, hI128, hF130, bd_w n_1 (by decide), trivial, (by subst hS129; subst ev126; exact hE124.trans (by rw [F_X7_bringBack_ttu58c61]))⟩
    · skip
      have b131 : mm_b (1) (2147483647) v105 := bd_lt_r (bd_nle q106) n_0 (bd_all v105) (by decide)
      refine mw_aload_n dX7_bringBack_17 rfl 0 rfl ?_
      refine tw_geti (j := 1) dX7_bringBack_18 shC_25 rfl rfl (by decide) fX7_22 (fun v132 ev132 => ?_)
      have cv132 : v105 = v132 := ev105.trans ev132.symm
      subst cv132
      refine mw_aload_n dX7_bringBack_21 rfl 0 rfl ?_
      refine tw_getr (j := 2) dX7_bringBack_22 shC_25 rfl rfl (by decide) fX7_11 ?_
      refine tw_alenr (v := 20) dX7_bringBack_25 shC_26 rfl (by decide) ?_
      refine mw_icmp_le (tgt := 39) dX7_bringBack_26 (by decide) (fun q133 => ?_) (fun q133 => ?_)
      · skip
        have b134 : mm_b (1) (20) v105 := bd_le_l q133 b131 n_20 (by decide)
        refine mw_aload_n dX7_bringBack_39 rfl 0 rfl ?_
        refine tw_geti (j := 1) dX7_bringBack_40 shC_25 rfl rfl (by decide) fX7_22 (fun v135 ev135 => ?_)
        have cv135 : v105 = v135 := ev105.trans ev135.symm
        subst cv135
        refine mw_iconst dX7_bringBack_43 ki_1 ?_
        refine mw_isub dX7_bringBack_44 (fun v136 ev136 => ?_)
        have b137 : mm_b (0) (19) v136 := bd_sub ev136 b134 n_1 (by decide)
        refine tw_puti (j := 1) dX7_bringBack_45 shC_25 rfl rfl (by decide) fX7_22 rfl (by decide +kernel) ?_
        have hI138 : JC (mm_up S 25 1 v136) := JIC_put hI b137 (by decide +kernel)
        generalize hS139 : (mm_up S 25 1 v136) = S139 at hI138 ⊢
        have hF140 := fr_upA hF hS139 (by decide)
        refine mw_aload_n dX7_bringBack_48 rfl 1 rfl ?_
        refine mw_aload_n dX7_bringBack_49 rfl 0 rfl ?_
        refine tw_getr (j := 2) dX7_bringBack_50 shC_25 rfl rfl (by decide) fX7_11 ?_
        refine mw_aload_n dX7_bringBack_53 rfl 0 rfl ?_
        refine tw_geti (j := 1) dX7_bringBack_54 shC_25 rfl rfl (by decide) fX7_22 (fun v141 ev141 => ?_)
        have cv141 : v136 = v141 := (up_eq hS139).trans ev141.symm
        subst cv141
        obtain ⟨a142, ea142, ha143⟩ := AAC_26 b137 (by decide)
        refine tw_aald dX7_bringBack_57 shC_26 rfl rfl (bd_in b137 (by decide)) ea142 (LC_folk_lt ha143) ?_
        have e2a142 := aaC_26_get ea142
        have hE144 : F_X7_bringBack S = F_X7_bringBack_ttu58 S139 a142 v101 := (by subst e2a142; subst hS139; subst ev136; subst ev105; subst ev101; rw [F_X7_bringBack, if_neg q103, if_neg q106, if_pos q133])
        refine tc_Vv (as := [.ref a142]) (st := []) dX7_bringBack_58 rfl shC_15 rfl rfl mX7_25 t_X3_copy rfl (Nat.le_of_ble_eq_true rfl) (by decide) (by decide) (cx_X3_copy (g := g) S139 hI138 15 (by decide) a142 ha143) (fun S145 h146 => ?_)
        obtain ⟨hI149, hf150, x147, hx148⟩ := h146
        have hF151 := fr_tr hF140 hf150 (by decide) (by decide) (by decide) (by decide)
        have hE152 : F_X7_bringBack S = F_X7_bringBack_ttu58c61 S145 v101 := (by exact hE144.trans (by rw [F_X7_bringBack_ttu58, hx148]))
        refine mw_aload_n dX7_bringBack_61 rfl 0 rfl ?_
        refine mw_dup dX7_bringBack_62 rfl ?_
        refine tw_geti (j := 0) dX7_bringBack_63 shC_25 rfl rfl (by decide) fX7_18 (fun v153 ev153 => ?_)
        have cv153 : v101 = v153 := ((ev101.trans (up_neF hS139 (by decide))).trans (fr_A hf150 (by decide) (by decide))).trans ev153.symm
        subst cv153
        refine mw_iconst dX7_bringBack_66 ki_1 ?_
        refine mw_isub dX7_bringBack_67 (fun v154 ev154 => ?_)
        have b155 : mm_b (0) (19) v154 := bd_sub ev154 b104 n_1 (by decide)
        refine tw_puti (j := 0) dX7_bringBack_68 shC_25 rfl rfl (by decide) fX7_18 rfl (by decide +kernel) ?_
        have hI156 : JC (mm_up S145 25 0 v154) := JIC_put hI149 b155 (by decide +kernel)
        generalize hS157 : (mm_up S145 25 0 v154) = S157 at hI156 ⊢
        have hF158 := fr_upA hF151 hS157 (by decide)
        refine mw_iconst dX7_bringBack_71 ki_1 ?_
        exact mw_zret rfl (bd_nar n_1 (by decide)) dX7_bringBack_72 rfl rfl ⟨S157, _, rfl, rfl, hI156, hF158, bd_w n_1 (by decide), trivial, (by subst hS157; subst ev154; exact hE152.trans (by rw [F_X7_bringBack_ttu58c61]))⟩
      · skip
        have b159 : mm_b (21) (2147483647) v105 := bd_lt_r (bd_nle q133) n_20 b131 (by decide)
        refine mw_aload_n dX7_bringBack_29 rfl 0 rfl ?_
        refine tw_getr (j := 2) dX7_bringBack_30 shC_25 rfl rfl (by decide) fX7_11 ?_
        refine tw_alenr (v := 20) dX7_bringBack_33 shC_26 rfl (by decide) ?_
        refine mw_iconst dX7_bringBack_34 ki_1 ?_
        refine mw_isub dX7_bringBack_35 (fun v160 ev160 => ?_)
        have b161 : mm_b (19) (19) v160 := bd_sub ev160 n_20 n_1 (by decide)
        refine mw_goto (tgt := 45) dX7_bringBack_36 (by decide) ?_
        refine tw_puti (j := 1) dX7_bringBack_45 shC_25 rfl rfl (by decide) fX7_22 rfl (by decide +kernel) ?_
        have hI162 : JC (mm_up S 25 1 v160) := JIC_put hI b161 (by decide +kernel)
        generalize hS163 : (mm_up S 25 1 v160) = S163 at hI162 ⊢
        have hF164 := fr_upA hF hS163 (by decide)
        refine mw_aload_n dX7_bringBack_48 rfl 1 rfl ?_
        refine mw_aload_n dX7_bringBack_49 rfl 0 rfl ?_
        refine tw_getr (j := 2) dX7_bringBack_50 shC_25 rfl rfl (by decide) fX7_11 ?_
        refine mw_aload_n dX7_bringBack_53 rfl 0 rfl ?_
        refine tw_geti (j := 1) dX7_bringBack_54 shC_25 rfl rfl (by decide) fX7_22 (fun v165 ev165 => ?_)
        have cv165 : v160 = v165 := (up_eq hS163).trans ev165.symm
        subst cv165
        obtain ⟨a166, ea166, ha167⟩ := AAC_26 b161 (by decide)
        refine tw_aald dX7_bringBack_57 shC_26 rfl rfl (bd_in b161 (by decide)) ea166 (LC_folk_lt ha167) ?_
        have e2a166 := aaC_26_get ea166
        have hE168 : F_X7_bringBack S = F_X7_bringBack_ttu58 S163 a166 v101 := (by subst e2a166; subst hS163; subst ev160; subst ev105; subst ev101; rw [F_X7_bringBack, if_neg q103, if_neg q106, if_neg q133])
        refine tc_Vv (as := [.ref a166]) (st := []) dX7_bringBack_58 rfl shC_15 rfl rfl mX7_25 t_X3_copy rfl (Nat.le_of_ble_eq_true rfl) (by decide) (by decide) (cx_X3_copy (g := g) S163 hI162 15 (by decide) a166 ha167) (fun S169 h170 => ?_)
        obtain ⟨hI173, hf174, x171, hx172⟩ := h170
        have hF175 := fr_tr hF164 hf174 (by decide) (by decide) (by decide) (by decide)
        have hE176 : F_X7_bringBack S = F_X7_bringBack_ttu58c61 S169 v101 := (by exact hE168.trans (by rw [F_X7_bringBack_ttu58, hx172]))
        refine mw_aload_n dX7_bringBack_61 rfl 0 rfl ?_
        refine mw_dup dX7_bringBack_62 rfl ?_
        refine tw_geti (j := 0) dX7_bringBack_63 shC_25 rfl rfl (by decide) fX7_18 (fun v177 ev177 => ?_)
        have cv177 : v101 = v177 := ((ev101.trans (up_neF hS163 (by decide))).trans (fr_A hf174 (by decide) (by decide))).trans ev177.symm
        subst cv177
        refine mw_iconst dX7_bringBack_66 ki_1 ?_
        refine mw_isub dX7_bringBack_67 (fun v178 ev178 => ?_)
        have b179 : mm_b (0) (19) v178 := bd_sub ev178 b104 n_1 (by decide)
        refine tw_puti (j := 0) dX7_bringBack_68 shC_25 rfl rfl (by decide) fX7_18 rfl (by decide +kernel) ?_
        have hI180 : JC (mm_up S169 25 0 v178) := JIC_put hI173 b179 (by decide +kernel)
        generalize hS181 : (mm_up S169 25 0 v178) = S181 at hI180 ⊢
        have hF182 := fr_upA hF175 hS181 (by decide)
        refine mw_iconst dX7_bringBack_71 ki_1 ?_
        exact mw_zret rfl (bd_nar n_1 (by decide)) dX7_bringBack_72 rfl rfl ⟨S181, _, rfl, rfl, hI180, hF182, bd_w n_1 (by decide), trivial, (by subst hS181; subst ev178; exact hE176.trans (by rw [F_X7_bringBack_ttu58c61]))⟩
  · skip
    have b183 : mm_b (0) (0) v101 := bd_eq_l q103 b102 n_0 (by decide)
    refine mw_iconst dX7_bringBack_7 ki_0 ?_
    exact mw_zret rfl (bd_nar n_0 (by decide)) dX7_bringBack_8 rfl rfl ⟨S, _, rfl, rfl, hI, hF, bd_w n_0 (by decide), trivial, (by subst ev101; rw [F_X7_bringBack, if_pos q103])⟩
def F_JbitCount (S : mm_S) (x0 : Int32) : Int32 := ((((((((x0 - (((x0).toUInt32 >>> (((1 : Int32)).toUInt32 &&& Int32.toUInt32 31)).toInt32 &&& (1431655765 : Int32))) &&& (858993459 : Int32)) + ((((x0 - (((x0).toUInt32 >>> (((1 : Int32)).toUInt32 &&& Int32.toUInt32 31)).toInt32 &&& (1431655765 : Int32)))).toUInt32 >>> (((2 : Int32)).toUInt32 &&& Int32.toUInt32 31)).toInt32 &&& (858993459 : Int32))) + (((((x0 - (((x0).toUInt32 >>> (((1 : Int32)).toUInt32 &&& Int32.toUInt32 31)).toInt32 &&& (1431655765 : Int32))) &&& (858993459 : Int32)) + ((((x0 - (((x0).toUInt32 >>> (((1 : Int32)).toUInt32 &&& Int32.toUInt32 31)).toInt32 &&& (1431655765 : Int32)))).toUInt32 >>> (((2 : Int32)).toUInt32 &&& Int32.toUInt32 31)).toInt32 &&& (858993459 : Int32)))).toUInt32 >>> (((4 : Int32)).toUInt32 &&& Int32.toUInt32 31)).toInt32) &&& (252645135 : Int32)) + (((((((x0 - (((x0).toUInt32 >>> (((1 : Int32)).toUInt32 &&& Int32.toUInt32 31)).toInt32 &&& (1431655765 : Int32))) &&& (858993459 : Int32)) + ((((x0 - (((x0).toUInt32 >>> (((1 : Int32)).toUInt32 &&& Int32.toUInt32 31)).toInt32 &&& (1431655765 : Int32)))).toUInt32 >>> (((2 : Int32)).toUInt32 &&& Int32.toUInt32 31)).toInt32 &&& (858993459 : Int32))) + (((((x0 - (((x0).toUInt32 >>> (((1 : Int32)).toUInt32 &&& Int32.toUInt32 31)).toInt32 &&& (1431655765 : Int32))) &&& (858993459 : Int32)) + ((((x0 - (((x0).toUInt32 >>> (((1 : Int32)).toUInt32 &&& Int32.toUInt32 31)).toInt32 &&& (1431655765 : Int32)))).toUInt32 >>> (((2 : Int32)).toUInt32 &&& Int32.toUInt32 31)).toInt32 &&& (858993459 : Int32)))).toUInt32 >>> (((4 : Int32)).toUInt32 &&& Int32.toUInt32 31)).toInt32) &&& (252645135 : Int32))).toUInt32 >>> (((8 : Int32)).toUInt32 &&& Int32.toUInt32 31)).toInt32) + ((((((((x0 - (((x0).toUInt32 >>> (((1 : Int32)).toUInt32 &&& Int32.toUInt32 31)).toInt32 &&& (1431655765 : Int32))) &&& (858993459 : Int32)) + ((((x0 - (((x0).toUInt32 >>> (((1 : Int32)).toUInt32 &&& Int32.toUInt32 31)).toInt32 &&& (1431655765 : Int32)))).toUInt32 >>> (((2 : Int32)).toUInt32 &&& Int32.toUInt32 31)).toInt32 &&& (858993459 : Int32))) + (((((x0 - (((x0).toUInt32 >>> (((1 : Int32)).toUInt32 &&& Int32.toUInt32 31)).toInt32 &&& (1431655765 : Int32))) &&& (858993459 : Int32)) + ((((x0 - (((x0).toUInt32 >>> (((1 : Int32)).toUInt32 &&& Int32.toUInt32 31)).toInt32 &&& (1431655765 : Int32)))).toUInt32 >>> (((2 : Int32)).toUInt32 &&& Int32.toUInt32 31)).toInt32 &&& (858993459 : Int32)))).toUInt32 >>> (((4 : Int32)).toUInt32 &&& Int32.toUInt32 31)).toInt32) &&& (252645135 : Int32)) + (((((((x0 - (((x0).toUInt32 >>> (((1 : Int32)).toUInt32 &&& Int32.toUInt32 31)).toInt32 &&& (1431655765 : Int32))) &&& (858993459 : Int32)) + ((((x0 - (((x0).toUInt32 >>> (((1 : Int32)).toUInt32 &&& Int32.toUInt32 31)).toInt32 &&& (1431655765 : Int32)))).toUInt32 >>> (((2 : Int32)).toUInt32 &&& Int32.toUInt32 31)).toInt32 &&& (858993459 : Int32))) + (((((x0 - (((x0).toUInt32 >>> (((1 : Int32)).toUInt32 &&& Int32.toUInt32 31)).toInt32 &&& (1431655765 : Int32))) &&& (858993459 : Int32)) + ((((x0 - (((x0).toUInt32 >>> (((1 : Int32)).toUInt32 &&& Int32.toUInt32 31)).toInt32 &&& (1431655765 : Int32)))).toUInt32 >>> (((2 : Int32)).toUInt32 &&& Int32.toUInt32 31)).toInt32 &&& (858993459 : Int32)))).toUInt32 >>> (((4 : Int32)).toUInt32 &&& Int32.toUInt32 31)).toInt32) &&& (252645135 : Int32))).toUInt32 >>> (((8 : Int32)).toUInt32 &&& Int32.toUInt32 31)).toInt32)).toUInt32 >>> (((16 : Int32)).toUInt32 &&& Int32.toUInt32 31)).toInt32) &&& (63 : Int32))
def F_Jntz (S : mm_S) (x0 : Int32) : Int32 := (if (0 : Int32) < ((x0 ^^^ (-1 : Int32)) &&& (x0 - (1 : Int32))) then (if ((x0 ^^^ (-1 : Int32)) &&& (x0 - (1 : Int32))) ≤ (65536 : Int32) then (if ((x0 ^^^ (-1 : Int32)) &&& (x0 - (1 : Int32))) ≤ (256 : Int32) then (if ((x0 ^^^ (-1 : Int32)) &&& (x0 - (1 : Int32))) ≤ (16 : Int32) then (if ((x0 ^^^ (-1 : Int32)) &&& (x0 - (1 : Int32))) ≤ (4 : Int32) then ((1 : Int32) + ((((x0 ^^^ (-1 : Int32)) &&& (x0 - (1 : Int32)))).toUInt32 >>> (((1 : Int32)).toUInt32 &&& Int32.toUInt32 31)).toInt32) else (((1 : Int32) + Int32.ofInt 2) + ((((((x0 ^^^ (-1 : Int32)) &&& (x0 - (1 : Int32)))).toUInt32 >>> (((2 : Int32)).toUInt32 &&& Int32.toUInt32 31)).toInt32).toUInt32 >>> (((1 : Int32)).toUInt32 &&& Int32.toUInt32 31)).toInt32)) else (if ((((x0 ^^^ (-1 : Int32)) &&& (x0 - (1 : Int32)))).toUInt32 >>> (((4 : Int32)).toUInt32 &&& Int32.toUInt32 31)).toInt32 ≤ (4 : Int32) then (((1 : Int32) + Int32.ofInt 4) + ((((((x0 ^^^ (-1 : Int32)) &&& (x0 - (1 : Int32)))).toUInt32 >>> (((4 : Int32)).toUInt32 &&& Int32.toUInt32 31)).toInt32).toUInt32 >>> (((1 : Int32)).toUInt32 &&& Int32.toUInt32 31)).toInt32) else ((((1 : Int32) + Int32.ofInt 4) + Int32.ofInt 2) + ((((((((x0 ^^^ (-1 : Int32)) &&& (x0 - (1 : Int32)))).toUInt32 >>> (((4 : Int32)).toUInt32 &&& Int32.toUInt32 31)).toInt32).toUInt32 >>> (((2 : Int32)).toUInt32 &&& Int32.toUInt32 31)).toInt32).toUInt32 >>> (((1 : Int32)).toUInt32 &&& Int32.toUInt32 31)).toInt32))) else (if ((((x0 ^^^ (-1 : Int32)) &&& (x0 - (1 : Int32)))).toUInt32 >>> (((8 : Int32)).toUInt32 &&& Int32.toUInt32 31)).toInt32 ≤ (16 : Int32) then (if ((((x0 ^^^ (-1 : Int32)) &&& (x0 - (1 : Int32)))).toUInt32 >>> (((8 : Int32)).toUInt32 &&& Int32.toUInt32 31)).toInt32 ≤ (4 : Int32) then (((1 : Int32) + Int32.ofInt 8) + ((((((x0 ^^^ (-1 : Int32)) &&& (x0 - (1 : Int32)))).toUInt32 >>> (((8 : Int32)).toUInt32 &&& Int32.toUInt32 31)).toInt32).toUInt32 >>> (((1 : Int32)).toUInt32 &&& Int32.toUInt32 31)).toInt32) else ((((1 : Int32) + Int32.ofInt 8) + Int32.ofInt 2) + ((((((((x0 ^^^ (-1 : Int32)) &&& (x0 - (1 : Int32)))).toUInt32 >>> (((8 : Int32)).toUInt32 &&& Int32.toUInt32 31)).toInt32).toUInt32 >>> (((2 : Int32)).toUInt32 &&& Int32.toUInt32 31)).toInt32).toUInt32 >>> (((1 : Int32)).toUInt32 &&& Int32.toUInt32 31)).toInt32)) else (if ((((((x0 ^^^ (-1 : Int32)) &&& (x0 - (1 : Int32)))).toUInt32 >>> (((8 : Int32)).toUInt32 &&& Int32.toUInt32 31)).toInt32).toUInt32 >>> (((4 : Int32)).toUInt32 &&& Int32.toUInt32 31)).toInt32 ≤ (4 : Int32) then ((((1 : Int32) + Int32.ofInt 8) + Int32.ofInt 4) + ((((((((x0 ^^^ (-1 : Int32)) &&& (x0 - (1 : Int32)))).toUInt32 >>> (((8 : Int32)).toUInt32 &&& Int32.toUInt32 31)).toInt32).toUInt32 >>> (((4 : Int32)).toUInt32 &&& Int32.toUInt32 31)).toInt32).toUInt32 >>> (((1 : Int32)).toUInt32 &&& Int32.toUInt32 31)).toInt32) else (((((1 : Int32) + Int32.ofInt 8) + Int32.ofInt 4) + Int32.ofInt 2) + ((((((((((x0 ^^^ (-1 : Int32)) &&& (x0 - (1 : Int32)))).toUInt32 >>> (((8 : Int32)).toUInt32 &&& Int32.toUInt32 31)).toInt32).toUInt32 >>> (((4 : Int32)).toUInt32 &&& Int32.toUInt32 31)).toInt32).toUInt32 >>> (((2 : Int32)).toUInt32 &&& Int32.toUInt32 31)).toInt32).toUInt32 >>> (((1 : Int32)).toUInt32 &&& Int32.toUInt32 31)).toInt32)))) else (if ((((x0 ^^^ (-1 : Int32)) &&& (x0 - (1 : Int32)))).toUInt32 >>> (((16 : Int32)).toUInt32 &&& Int32.toUInt32 31)).toInt32 ≤ (256 : Int32) then (if ((((x0 ^^^ (-1 : Int32)) &&& (x0 - (1 : Int32)))).toUInt32 >>> (((16 : Int32)).toUInt32 &&& Int32.toUInt32 31)).toInt32 ≤ (16 : Int32) then (if ((((x0 ^^^ (-1 : Int32)) &&& (x0 - (1 : Int32)))).toUInt32 >>> (((16 : Int32)).toUInt32 &&& Int32.toUInt32 31)).toInt32 ≤ (4 : Int32) then (((1 : Int32) + Int32.ofInt 16) + ((((((x0 ^^^ (-1 : Int32)) &&& (x0 - (1 : Int32)))).toUInt32 >>> (((16 : Int32)).toUInt32 &&& Int32.toUInt32 31)).toInt32).toUInt32 >>> (((1 : Int32)).toUInt32 &&& Int32.toUInt32 31)).toInt32) else ((((1 : Int32) + Int32.ofInt 16) + Int32.ofInt 2) + ((((((((x0 ^^^ (-1 : Int32)) &&& (x0 - (1 : Int32)))).toUInt32 >>> (((16 : Int32)).toUInt32 &&& Int32.toUInt32 31)).toInt32).toUInt32 >>> (((2 : Int32)).toUInt32 &&& Int32.toUInt32 31)).toInt32).toUInt32 >>> (((1 : Int32)).toUInt32 &&& Int32.toUInt32 31)).toInt32)) else (if ((((((x0 ^^^ (-1 : Int32)) &&& (x0 - (1 : Int32)))).toUInt32 >>> (((16 : Int32)).toUInt32 &&& Int32.toUInt32 31)).toInt32).toUInt32 >>> (((4 : Int32)).toUInt32 &&& Int32.toUInt32 31)).toInt32 ≤ (4 : Int32) then ((((1 : Int32) + Int32.ofInt 16) + Int32.ofInt 4) + ((((((((x0 ^^^ (-1 : Int32)) &&& (x0 - (1 : Int32)))).toUInt32 >>> (((16 : Int32)).toUInt32 &&& Int32.toUInt32 31)).toInt32).toUInt32 >>> (((4 : Int32)).toUInt32 &&& Int32.toUInt32 31)).toInt32).toUInt32 >>> (((1 : Int32)).toUInt32 &&& Int32.toUInt32 31)).toInt32) else (((((1 : Int32) + Int32.ofInt 16) + Int32.ofInt 4) + Int32.ofInt 2) + ((((((((((x0 ^^^ (-1 : Int32)) &&& (x0 - (1 : Int32)))).toUInt32 >>> (((16 : Int32)).toUInt32 &&& Int32.toUInt32 31)).toInt32).toUInt32 >>> (((4 : Int32)).toUInt32 &&& Int32.toUInt32 31)).toInt32).toUInt32 >>> (((2 : Int32)).toUInt32 &&& Int32.toUInt32 31)).toInt32).toUInt32 >>> (((1 : Int32)).toUInt32 &&& Int32.toUInt32 31)).toInt32))) else (if ((((((x0 ^^^ (-1 : Int32)) &&& (x0 - (1 : Int32)))).toUInt32 >>> (((16 : Int32)).toUInt32 &&& Int32.toUInt32 31)).toInt32).toUInt32 >>> (((8 : Int32)).toUInt32 &&& Int32.toUInt32 31)).toInt32 ≤ (16 : Int32) then (if ((((((x0 ^^^ (-1 : Int32)) &&& (x0 - (1 : Int32)))).toUInt32 >>> (((16 : Int32)).toUInt32 &&& Int32.toUInt32 31)).toInt32).toUInt32 >>> (((8 : Int32)).toUInt32 &&& Int32.toUInt32 31)).toInt32 ≤ (4 : Int32) then ((((1 : Int32) + Int32.ofInt 16) + Int32.ofInt 8) + ((((((((x0 ^^^ (-1 : Int32)) &&& (x0 - (1 : Int32)))).toUInt32 >>> (((16 : Int32)).toUInt32 &&& Int32.toUInt32 31)).toInt32).toUInt32 >>> (((8 : Int32)).toUInt32 &&& Int32.toUInt32 31)).toInt32).toUInt32 >>> (((1 : Int32)).toUInt32 &&& Int32.toUInt32 31)).toInt32) else (((((1 : Int32) + Int32.ofInt 16) + Int32.ofInt 8) + Int32.ofInt 2) + ((((((((((x0 ^^^ (-1 : Int32)) &&& (x0 - (1 : Int32)))).toUInt32 >>> (((16 : Int32)).toUInt32 &&& Int32.toUInt32 31)).toInt32).toUInt32 >>> (((8 : Int32)).toUInt32 &&& Int32.toUInt32 31)).toInt32).toUInt32 >>> (((2 : Int32)).toUInt32 &&& Int32.toUInt32 31)).toInt32).toUInt32 >>> (((1 : Int32)).toUInt32 &&& Int32.toUInt32 31)).toInt32)) else (if ((((((((x0 ^^^ (-1 : Int32)) &&& (x0 - (1 : Int32)))).toUInt32 >>> (((16 : Int32)).toUInt32 &&& Int32.toUInt32 31)).toInt32).toUInt32 >>> (((8 : Int32)).toUInt32 &&& Int32.toUInt32 31)).toInt32).toUInt32 >>> (((4 : Int32)).toUInt32 &&& Int32.toUInt32 31)).toInt32 ≤ (4 : Int32) then (((((1 : Int32) + Int32.ofInt 16) + Int32.ofInt 8) + Int32.ofInt 4) + ((((((((((x0 ^^^ (-1 : Int32)) &&& (x0 - (1 : Int32)))).toUInt32 >>> (((16 : Int32)).toUInt32 &&& Int32.toUInt32 31)).toInt32).toUInt32 >>> (((8 : Int32)).toUInt32 &&& Int32.toUInt32 31)).toInt32).toUInt32 >>> (((4 : Int32)).toUInt32 &&& Int32.toUInt32 31)).toInt32).toUInt32 >>> (((1 : Int32)).toUInt32 &&& Int32.toUInt32 31)).toInt32) else ((((((1 : Int32) + Int32.ofInt 16) + Int32.ofInt 8) + Int32.ofInt 4) + Int32.ofInt 2) + ((((((((((((x0 ^^^ (-1 : Int32)) &&& (x0 - (1 : Int32)))).toUInt32 >>> (((16 : Int32)).toUInt32 &&& Int32.toUInt32 31)).toInt32).toUInt32 >>> (((8 : Int32)).toUInt32 &&& Int32.toUInt32 31)).toInt32).toUInt32 >>> (((4 : Int32)).toUInt32 &&& Int32.toUInt32 31)).toInt32).toUInt32 >>> (((2 : Int32)).toUInt32 &&& Int32.toUInt32 31)).toInt32).toUInt32 >>> (((1 : Int32)).toUInt32 &&& Int32.toUInt32 31)).toInt32))))) else (((x0 ^^^ (-1 : Int32)) &&& (x0 - (1 : Int32))) &&& (32 : Int32)))
set_option maxRecDepth 100000 in
set_option maxHeartbeats 4000000 in
theorem cx_Jntz {g : mm_G} (S : mm_S) (hI : JC S) (x0 : Int32) : mc g yJ6_numberOfTrailingZeros_0f7a4 cJ6_numberOfTrailingZeros_0f7a4 2 (some .int) (mm_rm 0) [.int x0] (mm_enc shC S) (qi shC (fun S1 v => S = S1 ∧ mm_b (-2147483648) (2147483647) v ∧ (True) ∧ F_Jntz S x0 = v)) := by
  refine mc_of2 (own := RJ6) (ini := false) (ls := [(0, .int x0)]) (by decide) (Nat.le_of_ble_eq_true rfl) rfl (by decide) rfl ?_
  refine mw_iload_n dJ6_numberOfTrailingZeros_0f7a4_0 rfl 0 rfl ?_
  refine mw_iconst dJ6_numberOfTrailingZeros_0f7a4_1 ki_m1 ?_
  refine mw_ixor dJ6_numberOfTrailingZeros_0f7a4_2 (fun v101 ev101 => ?_)
  refine mw_iload_n dJ6_numberOfTrailingZeros_0f7a4_3 rfl 0 rfl ?_
  refine mw_iconst dJ6_numberOfTrailingZeros_0f7a4_4 ki_1 ?_
  refine mw_isub dJ6_numberOfTrailingZeros_0f7a4_5 (fun v102 ev102 => ?_)
  refine mw_iand dJ6_numberOfTrailingZeros_0f7a4_6 (fun v103 ev103 => ?_)
  refine mw_istore_n (ls' := [(0, .int v103)]) dJ6_numberOfTrailingZeros_0f7a4_7 rfl (by decide) rfl ?_
  refine mw_iload_n dJ6_numberOfTrailingZeros_0f7a4_8 rfl 0 rfl ?_
  refine mw_if_gt (tgt := 17) dJ6_numberOfTrailingZeros_0f7a4_9 (by decide) (fun q104 => ?_) (fun q104 => ?_)
  · skip
    have b105 : mm_b (1) (2147483647) v103 := bd_lt_r q104 n_0 (bd_all v103) (by decide)
    refine mw_iconst dJ6_numberOfTrailingZeros_0f7a4_17 ki_1 ?_
    refine mw_istore_n (ls' := [(1, .int 1), (0, .int v103)]) dJ6_numberOfTrailingZeros_0f7a4_18 rfl (by decide) rfl ?_
    refine mw_iload_n dJ6_numberOfTrailingZeros_0f7a4_19 rfl 1 rfl ?_
    refine mw_ldcw dJ6_numberOfTrailingZeros_0f7a4_20 kJ6_264 ?_
    refine mw_icmp_le (tgt := 34) dJ6_numberOfTrailingZeros_0f7a4_23 (by decide) (fun q106 => ?_) (fun q106 => ?_)
    · skip
      have b107 : mm_b (1) (65536) v103 := bd_le_l q106 b105 n_65536 (by decide)
      refine mw_iload_n dJ6_numberOfTrailingZeros_0f7a4_34 rfl 1 rfl ?_
      refine mw_sipush dJ6_numberOfTrailingZeros_0f7a4_35 ks_256 ?_
      refine mw_icmp_le (tgt := 49) dJ6_numberOfTrailingZeros_0f7a4_38 (by decide) (fun q108 => ?_) (fun q108 => ?_)
      · skip
        have b109 : mm_b (1) (256) v103 := bd_le_l q108 b107 n_256 (by decide)
        refine mw_iload_n dJ6_numberOfTrailingZeros_0f7a4_49 rfl 1 rfl ?_
        refine mw_bipush dJ6_numberOfTrailingZeros_0f7a4_50 kb_16 ?_
        refine mw_icmp_le (tgt := 62) dJ6_numberOfTrailingZeros_0f7a4_52 (by decide) (fun q110 => ?_) (fun q110 => ?_)
        · skip
          have b111 : mm_b (1) (16) v103 := bd_le_l q110 b109 n_16 (by decide)
          refine mw_iload_n dJ6_numberOfTrailingZeros_0f7a4_62 rfl 1 rfl ?_
          refine mw_iconst dJ6_numberOfTrailingZeros_0f7a4_63 ki_4 ?_
          refine mw_icmp_le (tgt := 74) dJ6_numberOfTrailingZeros_0f7a4_64 (by decide) (fun q112 => ?_) (fun q112 => ?_)
          · skip
            have b113 : mm_b (1) (4) v103 := bd_le_l q112 b111 n_4 (by decide)
            refine mw_iload_n dJ6_numberOfTrailingZeros_0f7a4_74 rfl 0 rfl ?_
            refine mw_iload_n dJ6_numberOfTrailingZeros_0f7a4_75 rfl 1 rfl ?_
            refine mw_iconst dJ6_numberOfTrailingZeros_0f7a4_76 ki_1 ?_
            refine mw_iushr dJ6_numberOfTrailingZeros_0f7a4_77 (fun v114 ev114 => ?_)
            refine mw_iadd dJ6_numberOfTrailingZeros_0f7a4_78 (fun v115 ev115 => ?_)
            exact mw_iret rfl dJ6_numberOfTrailingZeros_0f7a4_79 rfl rfl ⟨S, _, rfl, rfl, rfl, (bd_all v115), trivial, (by subst ev115; subst ev114; subst ev103; subst ev102; subst ev101; rw [F_Jntz, if_pos q104, if_pos q106, if_pos q108, if_pos q110, if_pos q112])⟩
          · skip
            have b116 : mm_b (5) (16) v103 := bd_lt_r (bd_nle q112) n_4 b111 (by decide)
            refine mw_iinc (ls' := fun v => [(1, .int v), (0, .int v103)]) dJ6_numberOfTrailingZeros_0f7a4_67 0 rfl (by decide) (fun _ => rfl) (fun v117 ev117 => ?_)
            have b118 : mm_b (3) (3) v117 := bd_inc ev117 n_1 (by decide)
            refine mw_iload_n dJ6_numberOfTrailingZeros_0f7a4_70 rfl 1 rfl ?_
            refine mw_iconst dJ6_numberOfTrailingZeros_0f7a4_71 ki_2 ?_
            refine mw_iushr dJ6_numberOfTrailingZeros_0f7a4_72 (fun v119 ev119 => ?_)
            refine mw_istore_n (ls' := [(0, .int v119), (1, .int v117)]) dJ6_numberOfTrailingZeros_0f7a4_73 rfl (by decide) rfl ?_
            refine mw_iload_n dJ6_numberOfTrailingZeros_0f7a4_74 rfl 1 rfl ?_
            refine mw_iload_n dJ6_numberOfTrailingZeros_0f7a4_75 rfl 0 rfl ?_
            refine mw_iconst dJ6_numberOfTrailingZeros_0f7a4_76 ki_1 ?_
            refine mw_iushr dJ6_numberOfTrailingZeros_0f7a4_77 (fun v120 ev120 => ?_)
            refine mw_iadd dJ6_numberOfTrailingZeros_0f7a4_78 (fun v121 ev121 => ?_)
            exact mw_iret rfl dJ6_numberOfTrailingZeros_0f7a4_79 rfl rfl ⟨S, _, rfl, rfl, rfl, (bd_all v121), trivial, (by subst ev121; subst ev120; subst ev119; subst ev117; subst ev103; subst ev102; subst ev101; rw [F_Jntz, if_pos q104, if_pos q106, if_pos q108, if_pos q110, if_neg q112])⟩
        · skip
          have b122 : mm_b (17) (256) v103 := bd_lt_r (bd_nle q110) n_16 b109 (by decide)
          refine mw_iinc (ls' := fun v => [(1, .int v), (0, .int v103)]) dJ6_numberOfTrailingZeros_0f7a4_55 0 rfl (by decide) (fun _ => rfl) (fun v123 ev123 => ?_)
          have b124 : mm_b (5) (5) v123 := bd_inc ev123 n_1 (by decide)
          refine mw_iload_n dJ6_numberOfTrailingZeros_0f7a4_58 rfl 1 rfl ?_
          refine mw_iconst dJ6_numberOfTrailingZeros_0f7a4_59 ki_4 ?_
          refine mw_iushr dJ6_numberOfTrailingZeros_0f7a4_60 (fun v125 ev125 => ?_)
          refine mw_istore_n (ls' := [(0, .int v125), (1, .int v123)]) dJ6_numberOfTrailingZeros_0f7a4_61 rfl (by decide) rfl ?_
          refine mw_iload_n dJ6_numberOfTrailingZeros_0f7a4_62 rfl 0 rfl ?_
          refine mw_iconst dJ6_numberOfTrailingZeros_0f7a4_63 ki_4 ?_
          refine mw_icmp_le (tgt := 74) dJ6_numberOfTrailingZeros_0f7a4_64 (by decide) (fun q126 => ?_) (fun q126 => ?_)
          · skip
            have b127 : mm_b (-2147483648) (4) v125 := bd_le_l q126 (bd_all v125) n_4 (by decide)
            refine mw_iload_n dJ6_numberOfTrailingZeros_0f7a4_74 rfl 1 rfl ?_
            refine mw_iload_n dJ6_numberOfTrailingZeros_0f7a4_75 rfl 0 rfl ?_
            refine mw_iconst dJ6_numberOfTrailingZeros_0f7a4_76 ki_1 ?_
            refine mw_iushr dJ6_numberOfTrailingZeros_0f7a4_77 (fun v128 ev128 => ?_)
            refine mw_iadd dJ6_numberOfTrailingZeros_0f7a4_78 (fun v129 ev129 => ?_)
            exact mw_iret rfl dJ6_numberOfTrailingZeros_0f7a4_79 rfl rfl ⟨S, _, rfl, rfl, rfl, (bd_all v129), trivial, (by subst ev129; subst ev128; subst ev125; subst ev123; subst ev103; subst ev102; subst ev101; rw [F_Jntz, if_pos q104, if_pos q106, if_pos q108, if_neg q110, if_pos q126])⟩
          · skip
            have b130 : mm_b (5) (2147483647) v125 := bd_lt_r (bd_nle q126) n_4 (bd_all v125) (by decide)
            refine mw_iinc (ls' := fun v => [(1, .int v), (0, .int v125)]) dJ6_numberOfTrailingZeros_0f7a4_67 1 rfl (by decide) (fun _ => rfl) (fun v131 ev131 => ?_)
            have b132 : mm_b (7) (7) v131 := bd_inc ev131 b124 (by decide)
            refine mw_iload_n dJ6_numberOfTrailingZeros_0f7a4_70 rfl 1 rfl ?_
            refine mw_iconst dJ6_numberOfTrailingZeros_0f7a4_71 ki_2 ?_
            refine mw_iushr dJ6_numberOfTrailingZeros_0f7a4_72 (fun v133 ev133 => ?_)
            refine mw_istore_n (ls' := [(0, .int v133), (1, .int v131)]) dJ6_numberOfTrailingZeros_0f7a4_73 rfl (by decide) rfl ?_
            refine mw_iload_n dJ6_numberOfTrailingZeros_0f7a4_74 rfl 1 rfl ?_
            refine mw_iload_n dJ6_numberOfTrailingZeros_0f7a4_75 rfl 0 rfl ?_
            refine mw_iconst dJ6_numberOfTrailingZeros_0f7a4_76 ki_1 ?_
            refine mw_iushr dJ6_numberOfTrailingZeros_0f7a4_77 (fun v134 ev134 => ?_)
            refine mw_iadd dJ6_numberOfTrailingZeros_0f7a4_78 (fun v135 ev135 => ?_)
            exact mw_iret rfl dJ6_numberOfTrailingZeros_0f7a4_79 rfl rfl ⟨S, _, rfl, rfl, rfl, (bd_all v135), trivial, (by subst ev135; subst ev134; subst ev133; subst ev131; subst ev125; subst ev123; subst ev103; subst ev102; subst ev101; rw [F_Jntz, if_pos q104, if_pos q106, if_pos q108, if_neg q110, if_neg q126])⟩
      · skip
        have b136 : mm_b (257) (65536) v103 := bd_lt_r (bd_nle q108) n_256 b107 (by decide)
        refine mw_iinc (ls' := fun v => [(1, .int v), (0, .int v103)]) dJ6_numberOfTrailingZeros_0f7a4_41 0 rfl (by decide) (fun _ => rfl) (fun v137 ev137 => ?_)
        have b138 : mm_b (9) (9) v137 := bd_inc ev137 n_1 (by decide)
        refine mw_iload_n dJ6_numberOfTrailingZeros_0f7a4_44 rfl 1 rfl ?_
        refine mw_bipush dJ6_numberOfTrailingZeros_0f7a4_45 kb_8 ?_
        refine mw_iushr dJ6_numberOfTrailingZeros_0f7a4_47 (fun v139 ev139 => ?_)
        refine mw_istore_n (ls' := [(0, .int v139), (1, .int v137)]) dJ6_numberOfTrailingZeros_0f7a4_48 rfl (by decide) rfl ?_
        refine mw_iload_n dJ6_numberOfTrailingZeros_0f7a4_49 rfl 0 rfl ?_
        refine mw_bipush dJ6_numberOfTrailingZeros_0f7a4_50 kb_16 ?_
        refine mw_icmp_le (tgt := 62) dJ6_numberOfTrailingZeros_0f7a4_52 (by decide) (fun q140 => ?_) (fun q140 => ?_)
        · skip
          have b141 : mm_b (-2147483648) (16) v139 := bd_le_l q140 (bd_all v139) n_16 (by decide)
          refine mw_iload_n dJ6_numberOfTrailingZeros_0f7a4_62 rfl 0 rfl ?_
          refine mw_iconst dJ6_numberOfTrailingZeros_0f7a4_63 ki_4 ?_
          refine mw_icmp_le (tgt := 74) dJ6_numberOfTrailingZeros_0f7a4_64 (by decide) (fun q142 => ?_) (fun q142 => ?_)
          · skip
            have b143 : mm_b (-2147483648) (4) v139 := bd_le_l q142 b141 n_4 (by decide)
            refine mw_iload_n dJ6_numberOfTrailingZeros_0f7a4_74 rfl 1 rfl ?_
            refine mw_iload_n dJ6_numberOfTrailingZeros_0f7a4_75 rfl 0 rfl ?_
            refine mw_iconst dJ6_numberOfTrailingZeros_0f7a4_76 ki_1 ?_
            refine mw_iushr dJ6_numberOfTrailingZeros_0f7a4_77 (fun v144 ev144 => ?_)
            refine mw_iadd dJ6_numberOfTrailingZeros_0f7a4_78 (fun v145 ev145 => ?_)
            exact mw_iret rfl dJ6_numberOfTrailingZeros_0f7a4_79 rfl rfl ⟨S, _, rfl, rfl, rfl, (bd_all v145), trivial, (by subst ev145; subst ev144; subst ev139; subst ev137; subst ev103; subst ev102; subst ev101; rw [F_Jntz, if_pos q104, if_pos q106, if_neg q108, if_pos q140, if_pos q142])⟩
          · skip
            have b146 : mm_b (5) (16) v139 := bd_lt_r (bd_nle q142) n_4 b141 (by decide)
            refine mw_iinc (ls' := fun v => [(1, .int v), (0, .int v139)]) dJ6_numberOfTrailingZeros_0f7a4_67 1 rfl (by decide) (fun _ => rfl) (fun v147 ev147 => ?_)
            have b148 : mm_b (11) (11) v147 := bd_inc ev147 b138 (by decide)
            refine mw_iload_n dJ6_numberOfTrailingZeros_0f7a4_70 rfl 1 rfl ?_
            refine mw_iconst dJ6_numberOfTrailingZeros_0f7a4_71 ki_2 ?_
            refine mw_iushr dJ6_numberOfTrailingZeros_0f7a4_72 (fun v149 ev149 => ?_)
            refine mw_istore_n (ls' := [(0, .int v149), (1, .int v147)]) dJ6_numberOfTrailingZeros_0f7a4_73 rfl (by decide) rfl ?_
            refine mw_iload_n dJ6_numberOfTrailingZeros_0f7a4_74 rfl 1 rfl ?_
            refine mw_iload_n dJ6_numberOfTrailingZeros_0f7a4_75 rfl 0 rfl ?_
            refine mw_iconst dJ6_numberOfTrailingZeros_0f7a4_76 ki_1 ?_
            refine mw_iushr dJ6_numberOfTrailingZeros_0f7a4_77 (fun v150 ev150 => ?_)
            refine mw_iadd dJ6_numberOfTrailingZeros_0f7a4_78 (fun v151 ev151 => ?_)
            exact mw_iret rfl dJ6_numberOfTrailingZeros_0f7a4_79 rfl rfl ⟨S, _, rfl, rfl, rfl, (bd_all v151), trivial, (by subst ev151; subst ev150; subst ev149; subst ev147; subst ev139; subst ev137; subst ev103; subst ev102; subst ev101; rw [F_Jntz, if_pos q104, if_pos q106, if_neg q108, if_pos q140, if_neg q142])⟩
        · skip
          have b152 : mm_b (17) (2147483647) v139 := bd_lt_r (bd_nle q140) n_16 (bd_all v139) (by decide)
          refine mw_iinc (ls' := fun v => [(1, .int v), (0, .int v139)]) dJ6_numberOfTrailingZeros_0f7a4_55 1 rfl (by decide) (fun _ => rfl) (fun v153 ev153 => ?_)
          have b154 : mm_b (13) (13) v153 := bd_inc ev153 b138 (by decide)
          refine mw_iload_n dJ6_numberOfTrailingZeros_0f7a4_58 rfl 1 rfl ?_
          refine mw_iconst dJ6_numberOfTrailingZeros_0f7a4_59 ki_4 ?_
          refine mw_iushr dJ6_numberOfTrailingZeros_0f7a4_60 (fun v155 ev155 => ?_)
          refine mw_istore_n (ls' := [(0, .int v155), (1, .int v153)]) dJ6_numberOfTrailingZeros_0f7a4_61 rfl (by decide) rfl ?_
          refine mw_iload_n dJ6_numberOfTrailingZeros_0f7a4_62 rfl 0 rfl ?_
          refine mw_iconst dJ6_numberOfTrailingZeros_0f7a4_63 ki_4 ?_
          refine mw_icmp_le (tgt := 74) dJ6_numberOfTrailingZeros_0f7a4_64 (by decide) (fun q156 => ?_) (fun q156 => ?_)
          · skip
            have b157 : mm_b (-2147483648) (4) v155 := bd_le_l q156 (bd_all v155) n_4 (by decide)
            refine mw_iload_n dJ6_numberOfTrailingZeros_0f7a4_74 rfl 1 rfl ?_
            refine mw_iload_n dJ6_numberOfTrailingZeros_0f7a4_75 rfl 0 rfl ?_
            refine mw_iconst dJ6_numberOfTrailingZeros_0f7a4_76 ki_1 ?_
            refine mw_iushr dJ6_numberOfTrailingZeros_0f7a4_77 (fun v158 ev158 => ?_)
            refine mw_iadd dJ6_numberOfTrailingZeros_0f7a4_78 (fun v159 ev159 => ?_)
            exact mw_iret rfl dJ6_numberOfTrailingZeros_0f7a4_79 rfl rfl ⟨S, _, rfl, rfl, rfl, (bd_all v159), trivial, (by subst ev159; subst ev158; subst ev155; subst ev153; subst ev139; subst ev137; subst ev103; subst ev102; subst ev101; rw [F_Jntz, if_pos q104, if_pos q106, if_neg q108, if_neg q140, if_pos q156])⟩
          · skip
            have b160 : mm_b (5) (2147483647) v155 := bd_lt_r (bd_nle q156) n_4 (bd_all v155) (by decide)
            refine mw_iinc (ls' := fun v => [(1, .int v), (0, .int v155)]) dJ6_numberOfTrailingZeros_0f7a4_67 1 rfl (by decide) (fun _ => rfl) (fun v161 ev161 => ?_)
            have b162 : mm_b (15) (15) v161 := bd_inc ev161 b154 (by decide)
            refine mw_iload_n dJ6_numberOfTrailingZeros_0f7a4_70 rfl 1 rfl ?_
            refine mw_iconst dJ6_numberOfTrailingZeros_0f7a4_71 ki_2 ?_
            refine mw_iushr dJ6_numberOfTrailingZeros_0f7a4_72 (fun v163 ev163 => ?_)
            refine mw_istore_n (ls' := [(0, .int v163), (1, .int v161)]) dJ6_numberOfTrailingZeros_0f7a4_73 rfl (by decide) rfl ?_
            refine mw_iload_n dJ6_numberOfTrailingZeros_0f7a4_74 rfl 1 rfl ?_
            refine mw_iload_n dJ6_numberOfTrailingZeros_0f7a4_75 rfl 0 rfl ?_
            refine mw_iconst dJ6_numberOfTrailingZeros_0f7a4_76 ki_1 ?_
            refine mw_iushr dJ6_numberOfTrailingZeros_0f7a4_77 (fun v164 ev164 => ?_)
            refine mw_iadd dJ6_numberOfTrailingZeros_0f7a4_78 (fun v165 ev165 => ?_)
            exact mw_iret rfl dJ6_numberOfTrailingZeros_0f7a4_79 rfl rfl ⟨S, _, rfl, rfl, rfl, (bd_all v165), trivial, (by subst ev165; subst ev164; subst ev163; subst ev161; subst ev155; subst ev153; subst ev139; subst ev137; subst ev103; subst ev102; subst ev101; rw [F_Jntz, if_pos q104, if_pos q106, if_neg q108, if_neg q140, if_neg q156])⟩
    · skip
      have b166 : mm_b (65537) (2147483647) v103 := bd_lt_r (bd_nle q106) n_65536 b105 (by decide)
      refine mw_iinc (ls' := fun v => [(1, .int v), (0, .int v103)]) dJ6_numberOfTrailingZeros_0f7a4_26 0 rfl (by decide) (fun _ => rfl) (fun v167 ev167 => ?_)
      have b168 : mm_b (17) (17) v167 := bd_inc ev167 n_1 (by decide)
      refine mw_iload_n dJ6_numberOfTrailingZeros_0f7a4_29 rfl 1 rfl ?_
      refine mw_bipush dJ6_numberOfTrailingZeros_0f7a4_30 kb_16 ?_
      refine mw_iushr dJ6_numberOfTrailingZeros_0f7a4_32 (fun v169 ev169 => ?_)
      refine mw_istore_n (ls' := [(0, .int v169), (1, .int v167)]) dJ6_numberOfTrailingZeros_0f7a4_33 rfl (by decide) rfl ?_
      refine mw_iload_n dJ6_numberOfTrailingZeros_0f7a4_34 rfl 0 rfl ?_
      refine mw_sipush dJ6_numberOfTrailingZeros_0f7a4_35 ks_256 ?_
      refine mw_icmp_le (tgt := 49) dJ6_numberOfTrailingZeros_0f7a4_38 (by decide) (fun q170 => ?_) (fun q170 => ?_)
      · skip
        have b171 : mm_b (-2147483648) (256) v169 := bd_le_l q170 (bd_all v169) n_256 (by decide)
        refine mw_iload_n dJ6_numberOfTrailingZeros_0f7a4_49 rfl 0 rfl ?_
        refine mw_bipush dJ6_numberOfTrailingZeros_0f7a4_50 kb_16 ?_
        refine mw_icmp_le (tgt := 62) dJ6_numberOfTrailingZeros_0f7a4_52 (by decide) (fun q172 => ?_) (fun q172 => ?_)
        · skip
          have b173 : mm_b (-2147483648) (16) v169 := bd_le_l q172 b171 n_16 (by decide)
          refine mw_iload_n dJ6_numberOfTrailingZeros_0f7a4_62 rfl 0 rfl ?_
          refine mw_iconst dJ6_numberOfTrailingZeros_0f7a4_63 ki_4 ?_
          refine mw_icmp_le (tgt := 74) dJ6_numberOfTrailingZeros_0f7a4_64 (by decide) (fun q174 => ?_) (fun q174 => ?_)
          · skip
            have b175 : mm_b (-2147483648) (4) v169 := bd_le_l q174 b173 n_4 (by decide)
            refine mw_iload_n dJ6_numberOfTrailingZeros_0f7a4_74 rfl 1 rfl ?_
            refine mw_iload_n dJ6_numberOfTrailingZeros_0f7a4_75 rfl 0 rfl ?_
            refine mw_iconst dJ6_numberOfTrailingZeros_0f7a4_76 ki_1 ?_
            refine mw_iushr dJ6_numberOfTrailingZeros_0f7a4_77 (fun v176 ev176 => ?_)
            refine mw_iadd dJ6_numberOfTrailingZeros_0f7a4_78 (fun v177 ev177 => ?_)
            exact mw_iret rfl dJ6_numberOfTrailingZeros_0f7a4_79 rfl rfl ⟨S, _, rfl, rfl, rfl, (bd_all v177), trivial, (by subst ev177; subst ev176; subst ev169; subst ev167; subst ev103; subst ev102; subst ev101; rw [F_Jntz, if_pos q104, if_neg q106, if_pos q170, if_pos q172, if_pos q174])⟩
          · skip
            have b178 : mm_b (5) (16) v169 := bd_lt_r (bd_nle q174) n_4 b173 (by decide)
            refine mw_iinc (ls' := fun v => [(1, .int v), (0, .int v169)]) dJ6_numberOfTrailingZeros_0f7a4_67 1 rfl (by decide) (fun _ => rfl) (fun v179 ev179 => ?_)
            have b180 : mm_b (19) (19) v179 := bd_inc ev179 b168 (by decide)
            refine mw_iload_n dJ6_numberOfTrailingZeros_0f7a4_70 rfl 1 rfl ?_
            refine mw_iconst dJ6_numberOfTrailingZeros_0f7a4_71 ki_2 ?_
            refine mw_iushr dJ6_numberOfTrailingZeros_0f7a4_72 (fun v181 ev181 => ?_)
            refine mw_istore_n (ls' := [(0, .int v181), (1, .int v179)]) dJ6_numberOfTrailingZeros_0f7a4_73 rfl (by decide) rfl ?_
            refine mw_iload_n dJ6_numberOfTrailingZeros_0f7a4_74 rfl 1 rfl ?_
            refine mw_iload_n dJ6_numberOfTrailingZeros_0f7a4_75 rfl 0 rfl ?_
            refine mw_iconst dJ6_numberOfTrailingZeros_0f7a4_76 ki_1 ?_
            refine mw_iushr dJ6_numberOfTrailingZeros_0f7a4_77 (fun v182 ev182 => ?_)
            refine mw_iadd dJ6_numberOfTrailingZeros_0f7a4_78 (fun v183 ev183 => ?_)
            exact mw_iret rfl dJ6_numberOfTrailingZeros_0f7a4_79 rfl rfl ⟨S, _, rfl, rfl, rfl, (bd_all v183), trivial, (by subst ev183; subst ev182; subst ev181; subst ev179; subst ev169; subst ev167; subst ev103; subst ev102; subst ev101; rw [F_Jntz, if_pos q104, if_neg q106, if_pos q170, if_pos q172, if_neg q174])⟩
        · skip
          have b184 : mm_b (17) (256) v169 := bd_lt_r (bd_nle q172) n_16 b171 (by decide)
          refine mw_iinc (ls' := fun v => [(1, .int v), (0, .int v169)]) dJ6_numberOfTrailingZeros_0f7a4_55 1 rfl (by decide) (fun _ => rfl) (fun v185 ev185 => ?_)
          have b186 : mm_b (21) (21) v185 := bd_inc ev185 b168 (by decide)
          refine mw_iload_n dJ6_numberOfTrailingZeros_0f7a4_58 rfl 1 rfl ?_
          refine mw_iconst dJ6_numberOfTrailingZeros_0f7a4_59 ki_4 ?_
          refine mw_iushr dJ6_numberOfTrailingZeros_0f7a4_60 (fun v187 ev187 => ?_)
          refine mw_istore_n (ls' := [(0, .int v187), (1, .int v185)]) dJ6_numberOfTrailingZeros_0f7a4_61 rfl (by decide) rfl ?_
          refine mw_iload_n dJ6_numberOfTrailingZeros_0f7a4_62 rfl 0 rfl ?_
          refine mw_iconst dJ6_numberOfTrailingZeros_0f7a4_63 ki_4 ?_
          refine mw_icmp_le (tgt := 74) dJ6_numberOfTrailingZeros_0f7a4_64 (by decide) (fun q188 => ?_) (fun q188 => ?_)
          · skip
            have b189 : mm_b (-2147483648) (4) v187 := bd_le_l q188 (bd_all v187) n_4 (by decide)
            refine mw_iload_n dJ6_numberOfTrailingZeros_0f7a4_74 rfl 1 rfl ?_
            refine mw_iload_n dJ6_numberOfTrailingZeros_0f7a4_75 rfl 0 rfl ?_
            refine mw_iconst dJ6_numberOfTrailingZeros_0f7a4_76 ki_1 ?_
            refine mw_iushr dJ6_numberOfTrailingZeros_0f7a4_77 (fun v190 ev190 => ?_)
            refine mw_iadd dJ6_numberOfTrailingZeros_0f7a4_78 (fun v191 ev191 => ?_)
            exact mw_iret rfl dJ6_numberOfTrailingZeros_0f7a4_79 rfl rfl ⟨S, _, rfl, rfl, rfl, (bd_all v191), trivial, (by subst ev191; subst ev190; subst ev187; subst ev185; subst ev169; subst ev167; subst ev103; subst ev102; subst ev101; rw [F_Jntz, if_pos q104, if_neg q106, if_pos q170, if_neg q172, if_pos q188])⟩
          · skip
            have b192 : mm_b (5) (2147483647) v187 := bd_lt_r (bd_nle q188) n_4 (bd_all v187) (by decide)
            refine mw_iinc (ls' := fun v => [(1, .int v), (0, .int v187)]) dJ6_numberOfTrailingZeros_0f7a4_67 1 rfl (by decide) (fun _ => rfl) (fun v193 ev193 => ?_)
            have b194 : mm_b (23) (23) v193 := bd_inc ev193 b186 (by decide)
            refine mw_iload_n dJ6_numberOfTrailingZeros_0f7a4_70 rfl 1 rfl ?_
            refine mw_iconst dJ6_numberOfTrailingZeros_0f7a4_71 ki_2 ?_
            refine mw_iushr dJ6_numberOfTrailingZeros_0f7a4_72 (fun v195 ev195 => ?_)
            refine mw_istore_n (ls' := [(0, .int v195), (1, .int v193)]) dJ6_numberOfTrailingZeros_0f7a4_73 rfl (by decide) rfl ?_
            refine mw_iload_n dJ6_numberOfTrailingZeros_0f7a4_74 rfl 1 rfl ?_
            refine mw_iload_n dJ6_numberOfTrailingZeros_0f7a4_75 rfl 0 rfl ?_
            refine mw_iconst dJ6_numberOfTrailingZeros_0f7a4_76 ki_1 ?_
            refine mw_iushr dJ6_numberOfTrailingZeros_0f7a4_77 (fun v196 ev196 => ?_)
            refine mw_iadd dJ6_numberOfTrailingZeros_0f7a4_78 (fun v197 ev197 => ?_)
            exact mw_iret rfl dJ6_numberOfTrailingZeros_0f7a4_79 rfl rfl ⟨S, _, rfl, rfl, rfl, (bd_all v197), trivial, (by subst ev197; subst ev196; subst ev195; subst ev193; subst ev187; subst ev185; subst ev169; subst ev167; subst ev103; subst ev102; subst ev101; rw [F_Jntz, if_pos q104, if_neg q106, if_pos q170, if_neg q172, if_neg q188])⟩
      · skip
        have b198 : mm_b (257) (2147483647) v169 := bd_lt_r (bd_nle q170) n_256 (bd_all v169) (by decide)
        refine mw_iinc (ls' := fun v => [(1, .int v), (0, .int v169)]) dJ6_numberOfTrailingZeros_0f7a4_41 1 rfl (by decide) (fun _ => rfl) (fun v199 ev199 => ?_)
        have b200 : mm_b (25) (25) v199 := bd_inc ev199 b168 (by decide)
        refine mw_iload_n dJ6_numberOfTrailingZeros_0f7a4_44 rfl 1 rfl ?_
        refine mw_bipush dJ6_numberOfTrailingZeros_0f7a4_45 kb_8 ?_
        refine mw_iushr dJ6_numberOfTrailingZeros_0f7a4_47 (fun v201 ev201 => ?_)
        refine mw_istore_n (ls' := [(0, .int v201), (1, .int v199)]) dJ6_numberOfTrailingZeros_0f7a4_48 rfl (by decide) rfl ?_
        refine mw_iload_n dJ6_numberOfTrailingZeros_0f7a4_49 rfl 0 rfl ?_
        refine mw_bipush dJ6_numberOfTrailingZeros_0f7a4_50 kb_16 ?_
        refine mw_icmp_le (tgt := 62) dJ6_numberOfTrailingZeros_0f7a4_52 (by decide) (fun q202 => ?_) (fun q202 => ?_)
        · skip
          have b203 : mm_b (-2147483648) (16) v201 := bd_le_l q202 (bd_all v201) n_16 (by decide)
          refine mw_iload_n dJ6_numberOfTrailingZeros_0f7a4_62 rfl 0 rfl ?_
          refine mw_iconst dJ6_numberOfTrailingZeros_0f7a4_63 ki_4 ?_
          refine mw_icmp_le (tgt := 74) dJ6_numberOfTrailingZeros_0f7a4_64 (by decide) (fun q204 => ?_) (fun q204 => ?_)
          · skip
            have b205 : mm_b (-2147483648) (4) v201 := bd_le_l q204 b203 n_4 (by decide)
            refine mw_iload_n dJ6_numberOfTrailingZeros_0f7a4_74 rfl 1 rfl ?_
            refine mw_iload_n dJ6_numberOfTrailingZeros_0f7a4_75 rfl 0 rfl ?_
            refine mw_iconst dJ6_numberOfTrailingZeros_0f7a4_76 ki_1 ?_
            refine mw_iushr dJ6_numberOfTrailingZeros_0f7a4_77 (fun v206 ev206 => ?_)
            refine mw_iadd dJ6_numberOfTrailingZeros_0f7a4_78 (fun v207 ev207 => ?_)
            exact mw_iret rfl dJ6_numberOfTrailingZeros_0f7a4_79 rfl rfl ⟨S, _, rfl, rfl, rfl, (bd_all v207), trivial, (by subst ev207; subst ev206; subst ev201; subst ev199; subst ev169; subst ev167; subst ev103; subst ev102; subst ev101; rw [F_Jntz, if_pos q104, if_neg q106, if_neg q170, if_pos q202, if_pos q204])⟩
          · skip
            have b208 : mm_b (5) (16) v201 := bd_lt_r (bd_nle q204) n_4 b203 (by decide)
            refine mw_iinc (ls' := fun v => [(1, .int v), (0, .int v201)]) dJ6_numberOfTrailingZeros_0f7a4_67 1 rfl (by decide) (fun _ => rfl) (fun v209 ev209 => ?_)
            have b210 : mm_b (27) (27) v209 := bd_inc ev209 b200 (by decide)
            refine mw_iload_n dJ6_numberOfTrailingZeros_0f7a4_70 rfl 1 rfl ?_
            refine mw_iconst dJ6_numberOfTrailingZeros_0f7a4_71 ki_2 ?_
            refine mw_iushr dJ6_numberOfTrailingZeros_0f7a4_72 (fun v211 ev211 => ?_)
            refine mw_istore_n (ls' := [(0, .int v211), (1, .int v209)]) dJ6_numberOfTrailingZeros_0f7a4_73 rfl (by decide) rfl ?_
            refine mw_iload_n dJ6_numberOfTrailingZeros_0f7a4_74 rfl 1 rfl ?_
            refine mw_iload_n dJ6_numberOfTrailingZeros_0f7a4_75 rfl 0 rfl ?_
            refine mw_iconst dJ6_numberOfTrailingZeros_0f7a4_76 ki_1 ?_
            refine mw_iushr dJ6_numberOfTrailingZeros_0f7a4_77 (fun v212 ev212 => ?_)
            refine mw_iadd dJ6_numberOfTrailingZeros_0f7a4_78 (fun v213 ev213 => ?_)
            exact mw_iret rfl dJ6_numberOfTrailingZeros_0f7a4_79 rfl rfl ⟨S, _, rfl, rfl, rfl, (bd_all v213), trivial, (by subst ev213; subst ev212; subst ev211; subst ev209; subst ev201; subst ev199; subst ev169; subst ev167; subst ev103; subst ev102; subst ev101; rw [F_Jntz, if_pos q104, if_neg q106, if_neg q170, if_pos q202, if_neg q204])⟩
        · skip
          have b214 : mm_b (17) (2147483647) v201 := bd_lt_r (bd_nle q202) n_16 (bd_all v201) (by decide)
          refine mw_iinc (ls' := fun v => [(1, .int v), (0, .int v201)]) dJ6_numberOfTrailingZeros_0f7a4_55 1 rfl (by decide) (fun _ => rfl) (fun v215 ev215 => ?_)
          have b216 : mm_b (29) (29) v215 := bd_inc ev215 b200 (by decide)
          refine mw_iload_n dJ6_numberOfTrailingZeros_0f7a4_58 rfl 1 rfl ?_
          refine mw_iconst dJ6_numberOfTrailingZeros_0f7a4_59 ki_4 ?_
          refine mw_iushr dJ6_numberOfTrailingZeros_0f7a4_60 (fun v217 ev217 => ?_)
          refine mw_istore_n (ls' := [(0, .int v217), (1, .int v215)]) dJ6_numberOfTrailingZeros_0f7a4_61 rfl (by decide) rfl ?_
          refine mw_iload_n dJ6_numberOfTrailingZeros_0f7a4_62 rfl 0 rfl ?_
          refine mw_iconst dJ6_numberOfTrailingZeros_0f7a4_63 ki_4 ?_
          refine mw_icmp_le (tgt := 74) dJ6_numberOfTrailingZeros_0f7a4_64 (by decide) (fun q218 => ?_) (fun q218 => ?_)
          · skip
            have b219 : mm_b (-2147483648) (4) v217 := bd_le_l q218 (bd_all v217) n_4 (by decide)
            refine mw_iload_n dJ6_numberOfTrailingZeros_0f7a4_74 rfl 1 rfl ?_
            refine mw_iload_n dJ6_numberOfTrailingZeros_0f7a4_75 rfl 0 rfl ?_
            refine mw_iconst dJ6_numberOfTrailingZeros_0f7a4_76 ki_1 ?_
            refine mw_iushr dJ6_numberOfTrailingZeros_0f7a4_77 (fun v220 ev220 => ?_)
            refine mw_iadd dJ6_numberOfTrailingZeros_0f7a4_78 (fun v221 ev221 => ?_)
            exact mw_iret rfl dJ6_numberOfTrailingZeros_0f7a4_79 rfl rfl ⟨S, _, rfl, rfl, rfl, (bd_all v221), trivial, (by subst ev221; subst ev220; subst ev217; subst ev215; subst ev201; subst ev199; subst ev169; subst ev167; subst ev103; subst ev102; subst ev101; rw [F_Jntz, if_pos q104, if_neg q106, if_neg q170, if_neg q202, if_pos q218])⟩
          · skip
            have b222 : mm_b (5) (2147483647) v217 := bd_lt_r (bd_nle q218) n_4 (bd_all v217) (by decide)
            refine mw_iinc (ls' := fun v => [(1, .int v), (0, .int v217)]) dJ6_numberOfTrailingZeros_0f7a4_67 1 rfl (by decide) (fun _ => rfl) (fun v223 ev223 => ?_)
            have b224 : mm_b (31) (31) v223 := bd_inc ev223 b216 (by decide)
            refine mw_iload_n dJ6_numberOfTrailingZeros_0f7a4_70 rfl 1 rfl ?_
            refine mw_iconst dJ6_numberOfTrailingZeros_0f7a4_71 ki_2 ?_
            refine mw_iushr dJ6_numberOfTrailingZeros_0f7a4_72 (fun v225 ev225 => ?_)
            refine mw_istore_n (ls' := [(0, .int v225), (1, .int v223)]) dJ6_numberOfTrailingZeros_0f7a4_73 rfl (by decide) rfl ?_
            refine mw_iload_n dJ6_numberOfTrailingZeros_0f7a4_74 rfl 1 rfl ?_
            refine mw_iload_n dJ6_numberOfTrailingZeros_0f7a4_75 rfl 0 rfl ?_
            refine mw_iconst dJ6_numberOfTrailingZeros_0f7a4_76 ki_1 ?_
            refine mw_iushr dJ6_numberOfTrailingZeros_0f7a4_77 (fun v226 ev226 => ?_)
            refine mw_iadd dJ6_numberOfTrailingZeros_0f7a4_78 (fun v227 ev227 => ?_)
            exact mw_iret rfl dJ6_numberOfTrailingZeros_0f7a4_79 rfl rfl ⟨S, _, rfl, rfl, rfl, (bd_all v227), trivial, (by subst ev227; subst ev226; subst ev225; subst ev223; subst ev217; subst ev215; subst ev201; subst ev199; subst ev169; subst ev167; subst ev103; subst ev102; subst ev101; rw [F_Jntz, if_pos q104, if_neg q106, if_neg q170, if_neg q202, if_neg q218])⟩
  · skip
    have b228 : mm_b (-2147483648) (0) v103 := bd_le_l (bd_nlt q104) (bd_all v103) n_0 (by decide)
    refine mw_iload_n dJ6_numberOfTrailingZeros_0f7a4_12 rfl 0 rfl ?_
    refine mw_bipush dJ6_numberOfTrailingZeros_0f7a4_13 kb_32 ?_
    refine mw_iand dJ6_numberOfTrailingZeros_0f7a4_15 (fun v229 ev229 => ?_)
    have b230 : mm_b (0) (32) v229 := bd_andR ev229 n_32 (by decide)
    exact mw_iret rfl dJ6_numberOfTrailingZeros_0f7a4_16 rfl rfl ⟨S, _, rfl, rfl, rfl, bd_w b230 (by decide), trivial, (by subst ev229; subst ev103; subst ev102; subst ev101; rw [F_Jntz, if_neg q104])⟩
