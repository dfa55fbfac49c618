def F_X9_isIn (S : mm_S) (x0 : Int32) (x1 : Int32) : Int32 := (if x1 < (0 : Int32) then (0 : Int32) else (if (7 : Int32) ≤ x1 then (0 : Int32) else (if ((x0 >>> (x1 &&& 31)) &&& (1 : Int32)) = (0 : Int32) then (0 : Int32) else (1 : Int32))))
set_option maxRecDepth 100000 in
set_option maxHeartbeats 4000000 in
theorem cx_X9_isIn {g : mm_G} (S : mm_S) (hI : JC S) (x0 : Int32) (x1 : Int32) : mc g yX9_isIn cX9_isIn 2 (some .boolean) (mm_rm 0) [.int x0, .int x1] (mm_enc shC S) (qi shC (fun S1 v => S = S1 ∧ mm_b (0) (1) v ∧ (v = 0 ∨ (mm_b (0) (6) x1)) ∧ F_X9_isIn S x0 x1 = v)) := by
  refine mc_of2 (own := RX9) (ini := false) (ls := [(0, .int x0), (1, .int x1)]) (by decide) (Nat.le_of_ble_eq_true rfl) rfl (by decide) rfl ?_
  refine mw_iload_n dX9_isIn_0 rfl 1 rfl ?_
  refine mw_if_lt (tgt := 22) dX9_isIn_1 (by decide) (fun q101 => ?_) (fun q101 => ?_)
  · skip
    have b102 : mm_b (-2147483648) (-1) x1 := bd_lt_l q101 (bd_all x1) n_0 (by decide)
    refine mw_iconst dX9_isIn_22 ki_0 ?_
    exact mw_zret rfl (bd_nar n_0 (by decide)) dX9_isIn_23 rfl rfl ⟨S, _, rfl, rfl, rfl, bd_w n_0 (by decide), Or.inl rfl, (by rw [F_X9_isIn, if_pos q101])⟩
  · skip
    have b103 : mm_b (0) (2147483647) x1 := bd_le_r (bd_nlt q101) n_0 (bd_all x1) (by decide)
    refine mw_iload_n dX9_isIn_4 rfl 1 rfl ?_
    refine mw_bipush dX9_isIn_5 kb_7 ?_
    refine mw_icmp_ge (tgt := 22) dX9_isIn_7 (by decide) (fun q104 => ?_) (fun q104 => ?_)
    · skip
      have b105 : mm_b (7) (2147483647) x1 := bd_le_r q104 n_7 b103 (by decide)
      refine mw_iconst dX9_isIn_22 ki_0 ?_
      exact mw_zret rfl (bd_nar n_0 (by decide)) dX9_isIn_23 rfl rfl ⟨S, _, rfl, rfl, rfl, bd_w n_0 (by decide), Or.inl rfl, (by rw [F_X9_isIn, if_neg q101, if_pos q104])⟩
    · skip
      have b106 : mm_b (0) (6) x1 := bd_lt_l (bd_nle q104) b103 n_7 (by decide)
      refine mw_iload_n dX9_isIn_10 rfl 0 rfl ?_
      refine mw_iload_n dX9_isIn_11 rfl 1 rfl ?_
      refine mw_ishr dX9_isIn_12 (fun v107 ev107 => ?_)
      refine mw_iconst dX9_isIn_13 ki_1 ?_
      refine mw_iand dX9_isIn_14 (fun v108 ev108 => ?_)
      have b109 : mm_b (0) (1) v108 := bd_andR ev108 n_1 (by decide)
      refine mw_if_eq (tgt := 22) dX9_isIn_15 (by decide) (fun q110 => ?_) (fun q110 => ?_)
      · skip
        have b111 : mm_b (0) (0) v108 := bd_eq_l q110 b109 n_0 (by decide)
        refine mw_iconst dX9_isIn_22 ki_0 ?_
        exact mw_zret rfl (bd_nar n_0 (by decide)) dX9_isIn_23 rfl rfl ⟨S, _, rfl, rfl, rfl, bd_w n_0 (by decide), Or.inl rfl, (by subst ev108; subst ev107; rw [F_X9_isIn, if_neg q101, if_neg q104, if_pos q110])⟩
      · skip
        have b112 : mm_b (1) (1) v108 := bd_ne_l q110 b109 n_0 (by decide)
        refine mw_iconst dX9_isIn_18 ki_1 ?_
        refine mw_goto (tgt := 23) dX9_isIn_19 (by decide) ?_
        exact mw_zret rfl (bd_nar n_1 (by decide)) dX9_isIn_23 rfl rfl ⟨S, _, rfl, rfl, rfl, bd_w n_1 (by decide), Or.inr (bd_w b106 (by decide)), (by subst ev108; subst ev107; rw [F_X9_isIn, if_neg q101, if_neg q104, if_neg q110])⟩
def F_X9_isVoiceNumber (S : mm_S) (x0 : Int32) : Int32 := (if x0 < (0 : Int32) then (0 : Int32) else (if (7 : Int32) ≤ x0 then (0 : Int32) else (1 : Int32)))
set_option maxRecDepth 100000 in
set_option maxHeartbeats 4000000 in
theorem cx_X9_isVoiceNumber {g : mm_G} (S : mm_S) (hI : JC S) (x0 : Int32) : mc g yX9_isVoiceNumber cX9_isVoiceNumber 1 (some .boolean) (mm_rm 0) [.int x0] (mm_enc shC S) (qi shC (fun S1 v => S = S1 ∧ mm_b (0) (1) v ∧ (v = 0 ∨ (mm_b (0) (6) x0)) ∧ F_X9_isVoiceNumber S x0 = v)) := by
  refine mc_of2 (own := RX9) (ini := false) (ls := [(0, .int x0)]) (by decide) (Nat.le_of_ble_eq_true rfl) rfl (by decide) rfl ?_
  refine mw_iload_n dX9_isVoiceNumber_0 rfl 0 rfl ?_
  refine mw_if_lt (tgt := 14) dX9_isVoiceNumber_1 (by decide) (fun q101 => ?_) (fun q101 => ?_)
  · skip
    have b102 : mm_b (-2147483648) (-1) x0 := bd_lt_l q101 (bd_all x0) n_0 (by decide)
    refine mw_iconst dX9_isVoiceNumber_14 ki_0 ?_
    exact mw_zret rfl (bd_nar n_0 (by decide)) dX9_isVoiceNumber_15 rfl rfl ⟨S, _, rfl, rfl, rfl, bd_w n_0 (by decide), Or.inl rfl, (by rw [F_X9_isVoiceNumber, if_pos q101])⟩
  · skip
    have b103 : mm_b (0) (2147483647) x0 := bd_le_r (bd_nlt q101) n_0 (bd_all x0) (by decide)
    refine mw_iload_n dX9_isVoiceNumber_4 rfl 0 rfl ?_
    refine mw_bipush dX9_isVoiceNumber_5 kb_7 ?_
    refine mw_icmp_ge (tgt := 14) dX9_isVoiceNumber_7 (by decide) (fun q104 => ?_) (fun q104 => ?_)
    · skip
      have b105 : mm_b (7) (2147483647) x0 := bd_le_r q104 n_7 b103 (by decide)
      refine mw_iconst dX9_isVoiceNumber_14 ki_0 ?_
      exact mw_zret rfl (bd_nar n_0 (by decide)) dX9_isVoiceNumber_15 rfl rfl ⟨S, _, rfl, rfl, rfl, bd_w n_0 (by decide), Or.inl rfl, (by rw [F_X9_isVoiceNumber, if_neg q101, if_pos q104])⟩
    · skip
      have b106 : mm_b (0) (6) x0 := bd_lt_l (bd_nle q104) b103 n_7 (by decide)
      refine mw_iconst dX9_isVoiceNumber_10 ki_1 ?_
      refine mw_goto (tgt := 15) dX9_isVoiceNumber_11 (by decide) ?_
      exact mw_zret rfl (bd_nar n_1 (by decide)) dX9_isVoiceNumber_15 rfl rfl ⟨S, _, rfl, rfl, rfl, bd_w n_1 (by decide), Or.inr (bd_w b106 (by decide)), (by rw [F_X9_isVoiceNumber, if_neg q101, if_neg q104])⟩
def F_X9_isVoiceOrNone (S : mm_S) (x0 : Int32) : Int32 := (if x0 = (9 : Int32) then (1 : Int32) else (if (F_X9_isVoiceNumber S x0) = (0 : Int32) then (0 : Int32) else (1 : Int32)))
set_option maxRecDepth 100000 in
set_option maxHeartbeats 4000000 in
theorem cx_X9_isVoiceOrNone {g : mm_G} (S : mm_S) (hI : JC S) (x0 : Int32) : mc g yX9_isVoiceOrNone cX9_isVoiceOrNone 1 (some .boolean) (mm_rm 1) [.int x0] (mm_enc shC S) (qi shC (fun S1 v => S = S1 ∧ mm_b (0) (1) v ∧ (v = 0 ∨ (mm_b (0) (9) x0)) ∧ F_X9_isVoiceOrNone S x0 = v)) := by
  refine mc_of2 (own := RX9) (ini := false) (ls := [(0, .int x0)]) (by decide) (Nat.le_of_ble_eq_true rfl) rfl (by decide) rfl ?_
  refine mw_iload_n dX9_isVoiceOrNone_0 rfl 0 rfl ?_
  refine mw_bipush dX9_isVoiceOrNone_1 kb_9 ?_
  refine mw_icmp_eq (tgt := 13) dX9_isVoiceOrNone_3 (by decide) (fun q101 => ?_) (fun q101 => ?_)
  · skip
    have b102 : mm_b (9) (9) x0 := bd_eq_l q101 (bd_all x0) n_9 (by decide)
    refine mw_iconst dX9_isVoiceOrNone_13 ki_1 ?_
    refine mw_goto (tgt := 18) dX9_isVoiceOrNone_14 (by decide) ?_
    exact mw_zret rfl (bd_nar n_1 (by decide)) dX9_isVoiceOrNone_18 rfl rfl ⟨S, _, rfl, rfl, rfl, bd_w n_1 (by decide), Or.inr (bd_w b102 (by decide)), (by rw [F_X9_isVoiceOrNone, if_pos q101])⟩
  · skip
    refine mw_iload_n dX9_isVoiceOrNone_6 rfl 0 rfl ?_
    refine tc_Si (as := [.int x0]) (st := []) dX9_isVoiceOrNone_7 rfl mX9_195 t_X9_isVoiceNumber rfl (Nat.le_of_ble_eq_true rfl) (by decide) (by decide) (cx_X9_isVoiceNumber (g := g) S hI x0) (fun S103 v105 h104 => ?_)
    obtain ⟨rfl, b106, x107, hx108⟩ := h104
    refine mw_if_eq (tgt := 17) dX9_isVoiceOrNone_10 (by decide) (fun q109 => ?_) (fun q109 => ?_)
    · skip
      have b110 : mm_b (0) (0) v105 := bd_eq_l q109 b106 n_0 (by decide)
      refine mw_iconst dX9_isVoiceOrNone_17 ki_0 ?_
      exact mw_zret rfl (bd_nar n_0 (by decide)) dX9_isVoiceOrNone_18 rfl rfl ⟨S, _, rfl, rfl, rfl, bd_w n_0 (by decide), Or.inl rfl, (by subst hx108; rw [F_X9_isVoiceOrNone, if_neg q101, if_pos q109])⟩
    · skip
      have b111 : mm_b (1) (1) v105 := bd_ne_l q109 b106 n_0 (by decide)
      have b112 := Or.resolve_left x107 q109
      refine mw_iconst dX9_isVoiceOrNone_13 ki_1 ?_
      refine mw_goto (tgt := 18) dX9_isVoiceOrNone_14 (by decide) ?_
      exact mw_zret rfl (bd_nar n_1 (by decide)) dX9_isVoiceOrNone_18 rfl rfl ⟨S, _, rfl, rfl, rfl, bd_w n_1 (by decide), Or.inr (bd_w b112 (by decide)), (by subst hx108; rw [F_X9_isVoiceOrNone, if_neg q101, if_neg q109])⟩
def F_X6_empty (S : mm_S) (a0 : Nat) : mm_S := (mm_up (mm_up (mm_up (mm_up S a0 0 (0 : Int32)) a0 1 (0 : Int32)) a0 2 (0 : Int32)) a0 3 (0 : Int32))
set_option maxRecDepth 100000 in
set_option maxHeartbeats 4000000 in
theorem cx_X6_empty {g : mm_G} (S : mm_S) (hI : JC S) (a0 : Nat) (ha0 : a0 ∈ LC_parish) : mc g yX6_empty cX6_empty 1 none (mm_rm 0) [.ref a0] (mm_enc shC S) (qv shC (fun S1 => JC S1 ∧ fr [3, 9] [] true true S S1 ∧ True ∧ F_X6_empty S a0 = S1)) := by
  refine mc_of2 (own := RX6) (ini := false) (ls := [(0, .ref a0)]) (by decide) (Nat.le_of_ble_eq_true rfl) rfl (by decide) rfl ?_
  have hF : fr [3, 9] [] true true S S := fr_rf
  refine mw_aload_n dX6_empty_0 rfl 0 rfl ?_
  refine mw_iconst dX6_empty_1 ki_0 ?_
  refine tw_puti (j := 0) dX6_empty_2 (shC_parish_0 a0 ha0) rfl rfl (by decide) fX6_27 rfl (by decide +kernel) ?_
  have hI101 : JC (mm_up S a0 0 0) := JIC_put hI n_0 (ckZ ha0 (by decide +kernel))
  generalize hS102 : (mm_up S a0 0 0) = S102 at hI101 ⊢
  have hF103 := fr_upA hF hS102 (memZ ha0 (by decide))
  refine mw_aload_n dX6_empty_5 rfl 0 rfl ?_
  refine mw_iconst dX6_empty_6 ki_0 ?_
  refine tw_puti (j := 1) dX6_empty_7 (shC_parish_0 a0 ha0) rfl rfl (by decide) fX6_31 rfl (by decide +kernel) ?_
  have hI104 : JC (mm_up S102 a0 1 0) := JIC_put hI101 n_0 (ckZ ha0 (by decide +kernel))
  generalize hS105 : (mm_up S102 a0 1 0) = S105 at hI104 ⊢
  have hF106 := fr_upA hF103 hS105 (memZ ha0 (by decide))
  refine mw_aload_n dX6_empty_10 rfl 0 rfl ?_
  refine mw_iconst dX6_empty_11 ki_0 ?_
  refine tw_puti (j := 2) dX6_empty_12 (shC_parish_0 a0 ha0) rfl rfl (by decide) fX6_34 rfl (by decide +kernel) ?_
  have hI107 : JC (mm_up S105 a0 2 0) := JIC_put hI104 n_0 (ckZ ha0 (by decide +kernel))
  generalize hS108 : (mm_up S105 a0 2 0) = S108 at hI107 ⊢
  have hF109 := fr_upA hF106 hS108 (memZ ha0 (by decide))
  refine mw_aload_n dX6_empty_15 rfl 0 rfl ?_
  refine mw_iconst dX6_empty_16 ki_0 ?_
  refine tw_puti (j := 3) dX6_empty_17 (shC_parish_0 a0 ha0) rfl rfl (by decide) fX6_37 rfl (by decide +kernel) ?_
  have hI110 : JC (mm_up S108 a0 3 0) := JIC_put hI107 n_0 (ckZ ha0 (by decide +kernel))
  generalize hS111 : (mm_up S108 a0 3 0) = S111 at hI110 ⊢
  have hF112 := fr_upA hF109 hS111 (memZ ha0 (by decide))
  exact mw_vret rfl dX6_empty_20 rfl rfl ⟨S111, rfl, rfl, ⟨hI110, hF112, trivial, (by subst hS111; subst hS108; subst hS105; subst hS102; rw [F_X6_empty])⟩⟩
def F_X6_addPerson (S : mm_S) (a0 : Nat) (x1 : Int32) : mm_S := (if (7 : Int32) ≤ (S.1 a0 0) then S else (mm_up (mm_up (mm_up (mm_up S (a0 + 1) ((S.1 a0 0)).toNatClampNeg x1) (a0 + 2) ((S.1 a0 0)).toNatClampNeg (9 : Int32)) (a0 + 3) ((S.1 a0 0)).toNatClampNeg (9 : Int32)) a0 0 ((S.1 a0 0) + (1 : Int32))))
set_option maxRecDepth 100000 in
set_option maxHeartbeats 4000000 in
theorem cx_X6_addPerson {g : mm_G} (S : mm_S) (hI : JC S) (a0 : Nat) (ha0 : a0 ∈ LC_parish) (x1 : Int32) : mc g yX6_addPerson cX6_addPerson 2 none (mm_rm 0) [.ref a0, .int x1] (mm_enc shC S) (qv shC (fun S1 => JC S1 ∧ fr [3, 4, 5, 6, 9, 10, 11, 12] [] true true S S1 ∧ True ∧ F_X6_addPerson S a0 x1 = S1)) := by
  refine mc_of2 (own := RX6) (ini := false) (ls := [(0, .ref a0), (1, .int x1)]) (by decide) (Nat.le_of_ble_eq_true rfl) rfl (by decide) rfl ?_
  have hF : fr [3, 4, 5, 6, 9, 10, 11, 12] [] true true S S := fr_rf
  refine mw_aload_n dX6_addPerson_0 rfl 0 rfl ?_
  refine tw_geti (j := 0) dX6_addPerson_1 (shC_parish_0 a0 ha0) rfl rfl (by decide) fX6_27 (fun v101 ev101 => ?_)
  have b102 : mm_b (0) (7) v101 := JIC_fld hI ev101 (tbC_parish_0_0 a0 ha0) (by decide)
  refine mw_aload_n dX6_addPerson_4 rfl 0 rfl ?_
  refine tw_getr (j := 4) dX6_addPerson_5 (shC_parish_0 a0 ha0) rfl rfl (by decide) fX6_9 ?_
  refine tw_aleni (v := 7) dX6_addPerson_8 (shC_parish_1 a0 ha0) rfl (by decide) ?_
  refine mw_icmp_ge (tgt := 54) dX6_addPerson_9 (by decide) (fun q103 => ?_) (fun q103 => ?_)
  · skip
    have b104 : mm_b (7) (7) v101 := bd_le_r q103 n_7 b102 (by decide)
    exact mw_vret rfl dX6_addPerson_54 rfl rfl ⟨S, rfl, rfl, ⟨hI, hF, trivial, (by subst ev101; rw [F_X6_addPerson, if_pos q103])⟩⟩
  · skip
    have b105 : mm_b (0) (6) v101 := bd_lt_l (bd_nle q103) b102 n_7 (by decide)
    refine mw_aload_n dX6_addPerson_12 rfl 0 rfl ?_
    refine tw_getr (j := 4) dX6_addPerson_13 (shC_parish_0 a0 ha0) rfl rfl (by decide) fX6_9 ?_
    refine mw_aload_n dX6_addPerson_16 rfl 0 rfl ?_
    refine tw_geti (j := 0) dX6_addPerson_17 (shC_parish_0 a0 ha0) rfl rfl (by decide) fX6_27 (fun v106 ev106 => ?_)
    have cv106 : v101 = v106 := ev101.trans ev106.symm
    subst cv106
    refine mw_iload_n dX6_addPerson_20 rfl 1 rfl ?_
    refine tw_iast dX6_addPerson_21 (shC_parish_1 a0 ha0) (bd_in b105 (by decide)) ?_
    have hI107 : JC (mm_up S (a0 + 1) v101.toNatClampNeg x1) := JIC_puta hI (bd_all x1) b105 (by decide) (ckS ha0 (by decide +kernel))
    generalize hS108 : (mm_up S (a0 + 1) v101.toNatClampNeg x1) = S108 at hI107 ⊢
    have hF109 := fr_upA hF hS108 (memS ha0 (by decide))
    refine mw_aload_n dX6_addPerson_22 rfl 0 rfl ?_
    refine tw_getr (j := 5) dX6_addPerson_23 (shC_parish_0 a0 ha0) rfl rfl (by decide) fX6_15 ?_
    refine mw_aload_n dX6_addPerson_26 rfl 0 rfl ?_
    refine tw_geti (j := 0) dX6_addPerson_27 (shC_parish_0 a0 ha0) rfl rfl (by decide) fX6_27 (fun v110 ev110 => ?_)
    have cv110 : v101 = v110 := (ev101.trans (up_neA hS108 (by omega))).trans ev110.symm
    subst cv110
    refine mw_bipush dX6_addPerson_30 kb_9 ?_
    refine tw_iast dX6_addPerson_32 (shC_parish_2 a0 ha0) (bd_in b105 (by decide)) ?_
    have hI111 : JC (mm_up S108 (a0 + 2) v101.toNatClampNeg 9) := JIC_puta hI107 n_9 b105 (by decide) (ckS ha0 (by decide +kernel))
    generalize hS112 : (mm_up S108 (a0 + 2) v101.toNatClampNeg 9) = S112 at hI111 ⊢
    have hF113 := fr_upA hF109 hS112 (memS ha0 (by decide))
    refine mw_aload_n dX6_addPerson_33 rfl 0 rfl ?_
    refine tw_getr (j := 6) dX6_addPerson_34 (shC_parish_0 a0 ha0) rfl rfl (by decide) fX6_18 ?_
    refine mw_aload_n dX6_addPerson_37 rfl 0 rfl ?_
    refine tw_geti (j := 0) dX6_addPerson_38 (shC_parish_0 a0 ha0) rfl rfl (by decide) fX6_27 (fun v114 ev114 => ?_)
    have cv114 : v101 = v114 := ((ev101.trans (up_neA hS108 (by omega))).trans (up_neA hS112 (by omega))).trans ev114.symm
    subst cv114
    refine mw_bipush dX6_addPerson_41 kb_9 ?_
    refine tw_iast dX6_addPerson_43 (shC_parish_3 a0 ha0) (bd_in b105 (by decide)) ?_
    have hI115 : JC (mm_up S112 (a0 + 3) v101.toNatClampNeg 9) := JIC_puta hI111 n_9 b105 (by decide) (ckS ha0 (by decide +kernel))
    generalize hS116 : (mm_up S112 (a0 + 3) v101.toNatClampNeg 9) = S116 at hI115 ⊢
    have hF117 := fr_upA hF113 hS116 (memS ha0 (by decide))
    refine mw_aload_n dX6_addPerson_44 rfl 0 rfl ?_
    refine mw_dup dX6_addPerson_45 rfl ?_
    refine tw_geti (j := 0) dX6_addPerson_46 (shC_parish_0 a0 ha0) rfl rfl (by decide) fX6_27 (fun v118 ev118 => ?_)
    have cv118 : v101 = v118 := (((ev101.trans (up_neA hS108 (by omega))).trans (up_neA hS112 (by omega))).trans (up_neA hS116 (by omega))).trans ev118.symm
    subst cv118
    refine mw_iconst dX6_addPerson_49 ki_1 ?_
    refine mw_iadd dX6_addPerson_50 (fun v119 ev119 => ?_)
    have b120 : mm_b (1) (7) v119 := bd_add ev119 b105 n_1 (by decide)
    refine tw_puti (j := 0) dX6_addPerson_51 (shC_parish_0 a0 ha0) rfl rfl (by decide) fX6_27 rfl (by decide +kernel) ?_
    have hI121 : JC (mm_up S116 a0 0 v119) := JIC_put hI115 b120 (ckZ ha0 (by decide +kernel))
    generalize hS122 : (mm_up S116 a0 0 v119) = S122 at hI121 ⊢
    have hF123 := fr_upA hF117 hS122 (memZ ha0 (by decide))
    exact mw_vret rfl dX6_addPerson_54 rfl rfl ⟨S122, rfl, rfl, ⟨hI121, hF123, trivial, (by subst hS122; subst ev119; subst hS116; subst hS112; subst hS108; subst ev101; rw [F_X6_addPerson, if_neg q103])⟩⟩
def F_X6_hasPerson (S : mm_S) (a0 : Nat) (x1 : Int32) : Int32 := (if x1 < (0 : Int32) then (0 : Int32) else (if (S.1 a0 0) ≤ x1 then (0 : Int32) else (1 : Int32)))
set_option maxRecDepth 100000 in
set_option maxHeartbeats 4000000 in
theorem cx_X6_hasPerson {g : mm_G} (S : mm_S) (hI : JC S) (a0 : Nat) (ha0 : a0 ∈ LC_parish) (x1 : Int32) : mc g yX6_hasPerson cX6_hasPerson 2 (some .boolean) (mm_rm 0) [.ref a0, .int x1] (mm_enc shC S) (qi shC (fun S1 v => S = S1 ∧ mm_b (0) (1) v ∧ (v = 0 ∨ (mm_b (0) (6) x1)) ∧ F_X6_hasPerson S a0 x1 = v)) := by
  refine mc_of2 (own := RX6) (ini := false) (ls := [(0, .ref a0), (1, .int x1)]) (by decide) (Nat.le_of_ble_eq_true rfl) rfl (by decide) rfl ?_
  refine mw_iload_n dX6_hasPerson_0 rfl 1 rfl ?_
  refine mw_if_lt (tgt := 16) dX6_hasPerson_1 (by decide) (fun q101 => ?_) (fun q101 => ?_)
  · skip
    have b102 : mm_b (-2147483648) (-1) x1 := bd_lt_l q101 (bd_all x1) n_0 (by decide)
    refine mw_iconst dX6_hasPerson_16 ki_0 ?_
    exact mw_zret rfl (bd_nar n_0 (by decide)) dX6_hasPerson_17 rfl rfl ⟨S, _, rfl, rfl, rfl, bd_w n_0 (by decide), Or.inl rfl, (by rw [F_X6_hasPerson, if_pos q101])⟩
  · skip
    have b103 : mm_b (0) (2147483647) x1 := bd_le_r (bd_nlt q101) n_0 (bd_all x1) (by decide)
    refine mw_iload_n dX6_hasPerson_4 rfl 1 rfl ?_
    refine mw_aload_n dX6_hasPerson_5 rfl 0 rfl ?_
    refine tw_geti (j := 0) dX6_hasPerson_6 (shC_parish_0 a0 ha0) rfl rfl (by decide) fX6_27 (fun v104 ev104 => ?_)
    have b105 : mm_b (0) (7) v104 := JIC_fld hI ev104 (tbC_parish_0_0 a0 ha0) (by decide)
    refine mw_icmp_ge (tgt := 16) dX6_hasPerson_9 (by decide) (fun q106 => ?_) (fun q106 => ?_)
    · skip
      refine mw_iconst dX6_hasPerson_16 ki_0 ?_
      exact mw_zret rfl (bd_nar n_0 (by decide)) dX6_hasPerson_17 rfl rfl ⟨S, _, rfl, rfl, rfl, bd_w n_0 (by decide), Or.inl rfl, (by subst ev104; rw [F_X6_hasPerson, if_neg q101, if_pos q106])⟩
    · skip
      have b107 : mm_b (0) (6) x1 := bd_lt_l (bd_nle q106) b103 b105 (by decide)
      have b108 : mm_b (1) (7) v104 := bd_lt_r (bd_nle q106) b103 b105 (by decide)
      refine mw_iconst dX6_hasPerson_12 ki_1 ?_
      refine mw_goto (tgt := 17) dX6_hasPerson_13 (by decide) ?_
      exact mw_zret rfl (bd_nar n_1 (by decide)) dX6_hasPerson_17 rfl rfl ⟨S, _, rfl, rfl, rfl, bd_w n_1 (by decide), Or.inr (bd_w b107 (by decide)), (by subst ev104; rw [F_X6_hasPerson, if_neg q101, if_neg q106])⟩
def F_X6_rangeOf (S : mm_S) (a0 : Nat) (x1 : Int32) : Int32 := (if (F_X6_hasPerson S a0 x1) = (0 : Int32) then (9 : Int32) else (S.1 (a0 + 1) (x1).toNatClampNeg))
set_option maxRecDepth 100000 in
set_option maxHeartbeats 4000000 in
theorem cx_X6_rangeOf {g : mm_G} (S : mm_S) (hI : JC S) (a0 : Nat) (ha0 : a0 ∈ LC_parish) (x1 : Int32) : mc g yX6_rangeOf cX6_rangeOf 2 (some .int) (mm_rm 1) [.ref a0, .int x1] (mm_enc shC S) (qi shC (fun S1 v => S = S1 ∧ mm_b (-2147483648) (2147483647) v ∧ (True) ∧ F_X6_rangeOf S a0 x1 = v)) := by
  refine mc_of2 (own := RX6) (ini := false) (ls := [(0, .ref a0), (1, .int x1)]) (by decide) (Nat.le_of_ble_eq_true rfl) rfl (by decide) rfl ?_
  refine mw_aload_n dX6_rangeOf_0 rfl 0 rfl ?_
  refine mw_iload_n dX6_rangeOf_1 rfl 1 rfl ?_
  refine tc_Vi (as := [.int x1]) (st := []) dX6_rangeOf_2 rfl (shC_parish_0 a0 ha0) rfl rfl mX6_40 t_X6_hasPerson rfl (Nat.le_of_ble_eq_true rfl) (by decide) (by decide) (cx_X6_hasPerson (g := g) S hI a0 ha0 x1) (fun S101 v103 h102 => ?_)
  obtain ⟨rfl, b104, x105, hx106⟩ := h102
  refine mw_if_eq (tgt := 17) dX6_rangeOf_5 (by decide) (fun q107 => ?_) (fun q107 => ?_)
  · skip
    have b108 : mm_b (0) (0) v103 := bd_eq_l q107 b104 n_0 (by decide)
    refine mw_bipush dX6_rangeOf_17 kb_9 ?_
    exact mw_iret rfl dX6_rangeOf_19 rfl rfl ⟨S, _, rfl, rfl, rfl, bd_w n_9 (by decide), trivial, (by subst hx106; rw [F_X6_rangeOf, if_pos q107])⟩
  · skip
    have b109 : mm_b (1) (1) v103 := bd_ne_l q107 b104 n_0 (by decide)
    have b110 := Or.resolve_left x105 q107
    refine mw_aload_n dX6_rangeOf_8 rfl 0 rfl ?_
    refine tw_getr (j := 4) dX6_rangeOf_9 (shC_parish_0 a0 ha0) rfl rfl (by decide) fX6_9 ?_
    refine mw_iload_n dX6_rangeOf_12 rfl 1 rfl ?_
    refine tw_iald dX6_rangeOf_13 (shC_parish_1 a0 ha0) (bd_in b110 (by decide)) (fun v111 ev111 => ?_)
    refine mw_goto (tgt := 19) dX6_rangeOf_14 (by decide) ?_
    exact mw_iret rfl dX6_rangeOf_19 rfl rfl ⟨S, _, rfl, rfl, rfl, (bd_all v111), trivial, (by subst ev111; subst hx106; rw [F_X6_rangeOf, if_neg q107])⟩
def F_X6_hasVoice (S : mm_S) (a0 : Nat) (x1 : Int32) : Int32 := (if (F_X6_rangeOf S a0 x1) = (9 : Int32) then (0 : Int32) else (1 : Int32))
set_option maxRecDepth 100000 in
set_option maxHeartbeats 4000000 in
theorem cx_X6_hasVoice {g : mm_G} (S : mm_S) (hI : JC S) (a0 : Nat) (ha0 : a0 ∈ LC_parish) (x1 : Int32) : mc g yX6_hasVoice cX6_hasVoice 2 (some .boolean) (mm_rm 2) [.ref a0, .int x1] (mm_enc shC S) (qi shC (fun S1 v => S = S1 ∧ mm_b (0) (1) v ∧ (True) ∧ F_X6_hasVoice S a0 x1 = v)) := by
  refine mc_of2 (own := RX6) (ini := false) (ls := [(0, .ref a0), (1, .int x1)]) (by decide) (Nat.le_of_ble_eq_true rfl) rfl (by decide) rfl ?_
  refine mw_aload_n dX6_hasVoice_0 rfl 0 rfl ?_
  refine mw_iload_n dX6_hasVoice_1 rfl 1 rfl ?_
  refine tc_Vi (as := [.int x1]) (st := []) dX6_hasVoice_2 rfl (shC_parish_0 a0 ha0) rfl rfl mX6_44 t_X6_rangeOf rfl (Nat.le_of_ble_eq_true rfl) (by decide) (by decide) (cx_X6_rangeOf (g := g) S hI a0 ha0 x1) (fun S101 v103 h102 => ?_)
  obtain ⟨rfl, b104, x105, hx106⟩ := h102
  refine mw_bipush dX6_hasVoice_5 kb_9 ?_
  refine mw_icmp_eq (tgt := 14) dX6_hasVoice_7 (by decide) (fun q107 => ?_) (fun q107 => ?_)
  · skip
    have b108 : mm_b (9) (9) v103 := bd_eq_l q107 b104 n_9 (by decide)
    refine mw_iconst dX6_hasVoice_14 ki_0 ?_
    exact mw_zret rfl (bd_nar n_0 (by decide)) dX6_hasVoice_15 rfl rfl ⟨S, _, rfl, rfl, rfl, bd_w n_0 (by decide), trivial, (by subst hx106; rw [F_X6_hasVoice, if_pos q107])⟩
  · skip
    refine mw_iconst dX6_hasVoice_10 ki_1 ?_
    refine mw_goto (tgt := 15) dX6_hasVoice_11 (by decide) ?_
    exact mw_zret rfl (bd_nar n_1 (by decide)) dX6_hasVoice_15 rfl rfl ⟨S, _, rfl, rfl, rfl, bd_w n_1 (by decide), trivial, (by subst hx106; rw [F_X6_hasVoice, if_neg q107])⟩
def F_X6_hasDoor (S : mm_S) (a0 : Nat) (x1 : Int32) : Int32 := (if x1 < (0 : Int32) then (0 : Int32) else (if (S.1 a0 1) ≤ x1 then (0 : Int32) else (1 : Int32)))
set_option maxRecDepth 100000 in
set_option maxHeartbeats 4000000 in
theorem cx_X6_hasDoor {g : mm_G} (S : mm_S) (hI : JC S) (a0 : Nat) (ha0 : a0 ∈ LC_parish) (x1 : Int32) : mc g yX6_hasDoor cX6_hasDoor 2 (some .boolean) (mm_rm 0) [.ref a0, .int x1] (mm_enc shC S) (qi shC (fun S1 v => S = S1 ∧ mm_b (0) (1) v ∧ (v = 0 ∨ (mm_b (0) (5) x1)) ∧ F_X6_hasDoor S a0 x1 = v)) := by
  refine mc_of2 (own := RX6) (ini := false) (ls := [(0, .ref a0), (1, .int x1)]) (by decide) (Nat.le_of_ble_eq_true rfl) rfl (by decide) rfl ?_
  refine mw_iload_n dX6_hasDoor_0 rfl 1 rfl ?_
  refine mw_if_lt (tgt := 16) dX6_hasDoor_1 (by decide) (fun q101 => ?_) (fun q101 => ?_)
  · skip
    have b102 : mm_b (-2147483648) (-1) x1 := bd_lt_l q101 (bd_all x1) n_0 (by decide)
    refine mw_iconst dX6_hasDoor_16 ki_0 ?_
    exact mw_zret rfl (bd_nar n_0 (by decide)) dX6_hasDoor_17 rfl rfl ⟨S, _, rfl, rfl, rfl, bd_w n_0 (by decide), Or.inl rfl, (by rw [F_X6_hasDoor, if_pos q101])⟩
  · skip
    have b103 : mm_b (0) (2147483647) x1 := bd_le_r (bd_nlt q101) n_0 (bd_all x1) (by decide)
    refine mw_iload_n dX6_hasDoor_4 rfl 1 rfl ?_
    refine mw_aload_n dX6_hasDoor_5 rfl 0 rfl ?_
    refine tw_geti (j := 1) dX6_hasDoor_6 (shC_parish_0 a0 ha0) rfl rfl (by decide) fX6_31 (fun v104 ev104 => ?_)
    have b105 : mm_b (0) (6) v104 := JIC_fld hI ev104 (tbC_parish_0_1 a0 ha0) (by decide)
    refine mw_icmp_ge (tgt := 16) dX6_hasDoor_9 (by decide) (fun q106 => ?_) (fun q106 => ?_)
    · skip
      refine mw_iconst dX6_hasDoor_16 ki_0 ?_
      exact mw_zret rfl (bd_nar n_0 (by decide)) dX6_hasDoor_17 rfl rfl ⟨S, _, rfl, rfl, rfl, bd_w n_0 (by decide), Or.inl rfl, (by subst ev104; rw [F_X6_hasDoor, if_neg q101, if_pos q106])⟩
    · skip
      have b107 : mm_b (0) (5) x1 := bd_lt_l (bd_nle q106) b103 b105 (by decide)
      have b108 : mm_b (1) (6) v104 := bd_lt_r (bd_nle q106) b103 b105 (by decide)
      refine mw_iconst dX6_hasDoor_12 ki_1 ?_
      refine mw_goto (tgt := 17) dX6_hasDoor_13 (by decide) ?_
      exact mw_zret rfl (bd_nar n_1 (by decide)) dX6_hasDoor_17 rfl rfl ⟨S, _, rfl, rfl, rfl, bd_w n_1 (by decide), Or.inr (bd_w b107 (by decide)), (by subst ev104; rw [F_X6_hasDoor, if_neg q101, if_neg q106])⟩
def F_X6_hasWill (S : mm_S) (a0 : Nat) (x1 : Int32) : Int32 := (F_X9_isIn S (S.1 a0 3) x1)
set_option maxRecDepth 100000 in
set_option maxHeartbeats 4000000 in
theorem cx_X6_hasWill {g : mm_G} (S : mm_S) (hI : JC S) (a0 : Nat) (ha0 : a0 ∈ LC_parish) (x1 : Int32) : mc g yX6_hasWill cX6_hasWill 2 (some .boolean) (mm_rm 1) [.ref a0, .int x1] (mm_enc shC S) (qi shC (fun S1 v => S = S1 ∧ mm_b (0) (1) v ∧ (v = 0 ∨ (mm_b (0) (6) x1)) ∧ F_X6_hasWill S a0 x1 = v)) := by
  refine mc_of2 (own := RX6) (ini := false) (ls := [(0, .ref a0), (1, .int x1)]) (by decide) (Nat.le_of_ble_eq_true rfl) rfl (by decide) rfl ?_
  refine mw_aload_n dX6_hasWill_0 rfl 0 rfl ?_
  refine tw_geti (j := 3) dX6_hasWill_1 (shC_parish_0 a0 ha0) rfl rfl (by decide) fX6_37 (fun v101 ev101 => ?_)
  refine mw_iload_n dX6_hasWill_4 rfl 1 rfl ?_
  refine tc_SiN (as := [.int v101, .int x1]) (st := []) dX6_hasWill_5 rfl mX6_48 t_X9_isIn rfl (Nat.le_of_ble_eq_true rfl) (by decide) (by decide) (cx_X9_isIn (g := g) S hI v101 x1) (fun S102 v104 h103 => ?_)
  obtain ⟨rfl, b105, x106, hx107⟩ := h103
  have xx := x106
  exact mw_zret rfl (bd_nar b105 (by decide)) dX6_hasWill_8 rfl rfl ⟨S, _, rfl, rfl, rfl, b105, Or.elim xx Or.inl (fun u108 => Or.inr (bd_w u108 (by decide))), (by subst hx107; subst ev101; rw [F_X6_hasWill])⟩
def F_X6_firstToldHeir (S : mm_S) (a0 : Nat) (x1 : Int32) : Int32 := (if (F_X6_hasPerson S a0 x1) = (0 : Int32) then (9 : Int32) else (S.1 (a0 + 2) (x1).toNatClampNeg))
set_option maxRecDepth 100000 in
set_option maxHeartbeats 4000000 in
theorem cx_X6_firstToldHeir {g : mm_G} (S : mm_S) (hI : JC S) (a0 : Nat) (ha0 : a0 ∈ LC_parish) (x1 : Int32) : mc g yX6_firstToldHeir cX6_firstToldHeir 2 (some .int) (mm_rm 1) [.ref a0, .int x1] (mm_enc shC S) (qi shC (fun S1 v => S = S1 ∧ mm_b (-2147483648) (2147483647) v ∧ (True) ∧ F_X6_firstToldHeir S a0 x1 = v)) := by
  refine mc_of2 (own := RX6) (ini := false) (ls := [(0, .ref a0), (1, .int x1)]) (by decide) (Nat.le_of_ble_eq_true rfl) rfl (by decide) rfl ?_
  refine mw_aload_n dX6_firstToldHeir_0 rfl 0 rfl ?_
  refine mw_iload_n dX6_firstToldHeir_1 rfl 1 rfl ?_
  refine tc_Vi (as := [.int x1]) (st := []) dX6_firstToldHeir_2 rfl (shC_parish_0 a0 ha0) rfl rfl mX6_40 t_X6_hasPerson rfl (Nat.le_of_ble_eq_true rfl) (by decide) (by decide) (cx_X6_hasPerson (g := g) S hI a0 ha0 x1) (fun S101 v103 h102 => ?_)
  obtain ⟨rfl, b104, x105, hx106⟩ := h102
  refine mw_if_eq (tgt := 17) dX6_firstToldHeir_5 (by decide) (fun q107 => ?_) (fun q107 => ?_)
  · skip
    have b108 : mm_b (0) (0) v103 := bd_eq_l q107 b104 n_0 (by decide)
    refine mw_bipush dX6_firstToldHeir_17 kb_9 ?_
    exact mw_iret rfl dX6_firstToldHeir_19 rfl rfl ⟨S, _, rfl, rfl, rfl, bd_w n_9 (by decide), trivial, (by subst hx106; rw [F_X6_firstToldHeir, if_pos q107])⟩
  · skip
    have b109 : mm_b (1) (1) v103 := bd_ne_l q107 b104 n_0 (by decide)
    have b110 := Or.resolve_left x105 q107
    refine mw_aload_n dX6_firstToldHeir_8 rfl 0 rfl ?_
    refine tw_getr (j := 5) dX6_firstToldHeir_9 (shC_parish_0 a0 ha0) rfl rfl (by decide) fX6_15 ?_
    refine mw_iload_n dX6_firstToldHeir_12 rfl 1 rfl ?_
    refine tw_iald dX6_firstToldHeir_13 (shC_parish_2 a0 ha0) (bd_in b110 (by decide)) (fun v111 ev111 => ?_)
    refine mw_goto (tgt := 19) dX6_firstToldHeir_14 (by decide) ?_
    exact mw_iret rfl dX6_firstToldHeir_19 rfl rfl ⟨S, _, rfl, rfl, rfl, (bd_all v111), trivial, (by subst ev111; subst hx106; rw [F_X6_firstToldHeir, if_neg q107])⟩
def F_X6_secondToldHeir (S : mm_S) (a0 : Nat) (x1 : Int32) : Int32 := (if (F_X6_hasPerson S a0 x1) = (0 : Int32) then (9 : Int32) else (S.1 (a0 + 3) (x1).toNatClampNeg))
set_option maxRecDepth 100000 in
set_option maxHeartbeats 4000000 in
theorem cx_X6_secondToldHeir {g : mm_G} (S : mm_S) (hI : JC S) (a0 : Nat) (ha0 : a0 ∈ LC_parish) (x1 : Int32) : mc g yX6_secondToldHeir cX6_secondToldHeir 2 (some .int) (mm_rm 1) [.ref a0, .int x1] (mm_enc shC S) (qi shC (fun S1 v => S = S1 ∧ mm_b (-2147483648) (2147483647) v ∧ (True) ∧ F_X6_secondToldHeir S a0 x1 = v)) := by
  refine mc_of2 (own := RX6) (ini := false) (ls := [(0, .ref a0), (1, .int x1)]) (by decide) (Nat.le_of_ble_eq_true rfl) rfl (by decide) rfl ?_
  refine mw_aload_n dX6_secondToldHeir_0 rfl 0 rfl ?_
  refine mw_iload_n dX6_secondToldHeir_1 rfl 1 rfl ?_
  refine tc_Vi (as := [.int x1]) (st := []) dX6_secondToldHeir_2 rfl (shC_parish_0 a0 ha0) rfl rfl mX6_40 t_X6_hasPerson rfl (Nat.le_of_ble_eq_true rfl) (by decide) (by decide) (cx_X6_hasPerson (g := g) S hI a0 ha0 x1) (fun S101 v103 h102 => ?_)
  obtain ⟨rfl, b104, x105, hx106⟩ := h102
  refine mw_if_eq (tgt := 17) dX6_secondToldHeir_5 (by decide) (fun q107 => ?_) (fun q107 => ?_)
  · skip
    have b108 : mm_b (0) (0) v103 := bd_eq_l q107 b104 n_0 (by decide)
    refine mw_bipush dX6_secondToldHeir_17 kb_9 ?_
    exact mw_iret rfl dX6_secondToldHeir_19 rfl rfl ⟨S, _, rfl, rfl, rfl, bd_w n_9 (by decide), trivial, (by subst hx106; rw [F_X6_secondToldHeir, if_pos q107])⟩
  · skip
    have b109 : mm_b (1) (1) v103 := bd_ne_l q107 b104 n_0 (by decide)
    have b110 := Or.resolve_left x105 q107
    refine mw_aload_n dX6_secondToldHeir_8 rfl 0 rfl ?_
    refine tw_getr (j := 6) dX6_secondToldHeir_9 (shC_parish_0 a0 ha0) rfl rfl (by decide) fX6_18 ?_
    refine mw_iload_n dX6_secondToldHeir_12 rfl 1 rfl ?_
    refine tw_iald dX6_secondToldHeir_13 (shC_parish_3 a0 ha0) (bd_in b110 (by decide)) (fun v111 ev111 => ?_)
    refine mw_goto (tgt := 19) dX6_secondToldHeir_14 (by decide) ?_
    exact mw_iret rfl dX6_secondToldHeir_19 rfl rfl ⟨S, _, rfl, rfl, rfl, (bd_all v111), trivial, (by subst ev111; subst hx106; rw [F_X6_secondToldHeir, if_neg q107])⟩
def F_X6_addWill (S : mm_S) (a0 : Nat) (x1 : Int32) (x2 : Int32) (x3 : Int32) : mm_S := (if (F_X6_hasPerson S a0 x1) = (0 : Int32) then S else (mm_up (mm_up (mm_up S (a0 + 2) (x1).toNatClampNeg x2) (a0 + 3) (x1).toNatClampNeg x3) a0 3 ((S.1 a0 3) ||| ((1 : Int32) <<< (x1 &&& 31)))))
set_option maxRecDepth 100000 in
set_option maxHeartbeats 4000000 in
theorem cx_X6_addWill {g : mm_G} (S : mm_S) (hI : JC S) (a0 : Nat) (ha0 : a0 ∈ LC_parish) (x1 : Int32) (x2 : Int32) (x3 : Int32) : mc g yX6_addWill cX6_addWill 4 none (mm_rm 1) [.ref a0, .int x1, .int x2, .int x3] (mm_enc shC S) (qv shC (fun S1 => JC S1 ∧ fr [3, 5, 6, 9, 11, 12] [] true true S S1 ∧ True ∧ F_X6_addWill S a0 x1 x2 x3 = S1)) := by
  refine mc_of2 (own := RX6) (ini := false) (ls := [(0, .ref a0), (1, .int x1), (2, .int x2), (3, .int x3)]) (by decide) (Nat.le_of_ble_eq_true rfl) rfl (by decide) rfl ?_
  have hF : fr [3, 5, 6, 9, 11, 12] [] true true S S := fr_rf
  refine mw_aload_n dX6_addWill_0 rfl 0 rfl ?_
  refine mw_iload_n dX6_addWill_1 rfl 1 rfl ?_
  refine tc_Vi (as := [.int x1]) (st := []) dX6_addWill_2 rfl (shC_parish_0 a0 ha0) rfl rfl mX6_40 t_X6_hasPerson rfl (Nat.le_of_ble_eq_true rfl) (by decide) (by decide) (cx_X6_hasPerson (g := g) S hI a0 ha0 x1) (fun S101 v103 h102 => ?_)
  obtain ⟨rfl, b104, x105, hx106⟩ := h102
  refine mw_if_eq (tgt := 34) dX6_addWill_5 (by decide) (fun q107 => ?_) (fun q107 => ?_)
  · skip
    have b108 : mm_b (0) (0) v103 := bd_eq_l q107 b104 n_0 (by decide)
    exact mw_vret rfl dX6_addWill_34 rfl rfl ⟨S, rfl, rfl, ⟨hI, hF, trivial, (by subst hx106; rw [F_X6_addWill, if_pos q107])⟩⟩
  · skip
    have b109 : mm_b (1) (1) v103 := bd_ne_l q107 b104 n_0 (by decide)
    have b110 := Or.resolve_left x105 q107
    refine mw_aload_n dX6_addWill_8 rfl 0 rfl ?_
    refine tw_getr (j := 5) dX6_addWill_9 (shC_parish_0 a0 ha0) rfl rfl (by decide) fX6_15 ?_
    refine mw_iload_n dX6_addWill_12 rfl 1 rfl ?_
    refine mw_iload_n dX6_addWill_13 rfl 2 rfl ?_
    refine tw_iast dX6_addWill_14 (shC_parish_2 a0 ha0) (bd_in b110 (by decide)) ?_
    have hI111 : JC (mm_up S (a0 + 2) x1.toNatClampNeg x2) := JIC_puta hI (bd_all x2) b110 (by decide) (ckS ha0 (by decide +kernel))
    generalize hS112 : (mm_up S (a0 + 2) x1.toNatClampNeg x2) = S112 at hI111 ⊢
    have hF113 := fr_upA hF hS112 (memS ha0 (by decide))
    refine mw_aload_n dX6_addWill_15 rfl 0 rfl ?_
    refine tw_getr (j := 6) dX6_addWill_16 (shC_parish_0 a0 ha0) rfl rfl (by decide) fX6_18 ?_
    refine mw_iload_n dX6_addWill_19 rfl 1 rfl ?_
    refine mw_iload_n dX6_addWill_20 rfl 3 rfl ?_
    refine tw_iast dX6_addWill_21 (shC_parish_3 a0 ha0) (bd_in b110 (by decide)) ?_
    have hI114 : JC (mm_up S112 (a0 + 3) x1.toNatClampNeg x3) := JIC_puta hI111 (bd_all x3) b110 (by decide) (ckS ha0 (by decide +kernel))
    generalize hS115 : (mm_up S112 (a0 + 3) x1.toNatClampNeg x3) = S115 at hI114 ⊢
    have hF116 := fr_upA hF113 hS115 (memS ha0 (by decide))
    refine mw_aload_n dX6_addWill_22 rfl 0 rfl ?_
    refine mw_dup dX6_addWill_23 rfl ?_
    refine tw_geti (j := 3) dX6_addWill_24 (shC_parish_0 a0 ha0) rfl rfl (by decide) fX6_37 (fun v117 ev117 => ?_)
    have eb118 := ev117.trans (Eq.symm ((up_neA hS112 (by omega)).trans (up_neA hS115 (by omega))))
    refine mw_iconst dX6_addWill_27 ki_1 ?_
    refine mw_iload_n dX6_addWill_28 rfl 1 rfl ?_
    refine mw_ishl dX6_addWill_29 (fun v119 ev119 => ?_)
    have b120 : mm_b (1) (64) v119 := bd_shl 6 ev119 b110 (by decide)
    refine mw_ior dX6_addWill_30 (fun v121 ev121 => ?_)
    refine tw_puti (j := 3) dX6_addWill_31 (shC_parish_0 a0 ha0) rfl rfl (by decide) fX6_37 rfl (by decide +kernel) ?_
    have hI122 : JC (mm_up S115 a0 3 v121) := JIC_put hI114 (bd_all v121) (ckZ ha0 (by decide +kernel))
    generalize hS123 : (mm_up S115 a0 3 v121) = S123 at hI122 ⊢
    have hF124 := fr_upA hF116 hS123 (memZ ha0 (by decide))
    exact mw_vret rfl dX6_addWill_34 rfl rfl ⟨S123, rfl, rfl, ⟨hI122, hF124, trivial, (by subst hS123; subst ev121; subst ev119; subst eb118; subst hS115; subst hS112; subst hx106; rw [F_X6_addWill, if_neg q107])⟩⟩
def F_X6_addDoor (S : mm_S) (a0 : Nat) (x1 : Int32) : mm_S := (if (6 : Int32) ≤ (S.1 a0 1) then S else (mm_up (mm_up S (a0 + 4) ((S.1 a0 1)).toNatClampNeg x1) a0 1 ((S.1 a0 1) + (1 : Int32))))
set_option maxRecDepth 100000 in
set_option maxHeartbeats 4000000 in
theorem cx_X6_addDoor {g : mm_G} (S : mm_S) (hI : JC S) (a0 : Nat) (ha0 : a0 ∈ LC_parish) (x1 : Int32) : mc g yX6_addDoor cX6_addDoor 2 none (mm_rm 0) [.ref a0, .int x1] (mm_enc shC S) (qv shC (fun S1 => JC S1 ∧ fr [3, 7, 9, 13] [] true true S S1 ∧ True ∧ F_X6_addDoor S a0 x1 = S1)) := by
  refine mc_of2 (own := RX6) (ini := false) (ls := [(0, .ref a0), (1, .int x1)]) (by decide) (Nat.le_of_ble_eq_true rfl) rfl (by decide) rfl ?_
  have hF : fr [3, 7, 9, 13] [] true true S S := fr_rf
  refine mw_aload_n dX6_addDoor_0 rfl 0 rfl ?_
  refine tw_geti (j := 1) dX6_addDoor_1 (shC_parish_0 a0 ha0) rfl rfl (by decide) fX6_31 (fun v101 ev101 => ?_)
  have b102 : mm_b (0) (6) v101 := JIC_fld hI ev101 (tbC_parish_0_1 a0 ha0) (by decide)
  refine mw_aload_n dX6_addDoor_4 rfl 0 rfl ?_
  refine tw_getr (j := 7) dX6_addDoor_5 (shC_parish_0 a0 ha0) rfl rfl (by decide) fX6_21 ?_
  refine tw_aleni (v := 6) dX6_addDoor_8 (shC_parish_4 a0 ha0) rfl (by decide) ?_
  refine mw_icmp_ge (tgt := 32) dX6_addDoor_9 (by decide) (fun q103 => ?_) (fun q103 => ?_)
  · skip
    have b104 : mm_b (6) (6) v101 := bd_le_r q103 n_6 b102 (by decide)
    exact mw_vret rfl dX6_addDoor_32 rfl rfl ⟨S, rfl, rfl, ⟨hI, hF, trivial, (by subst ev101; rw [F_X6_addDoor, if_pos q103])⟩⟩
  · skip
    have b105 : mm_b (0) (5) v101 := bd_lt_l (bd_nle q103) b102 n_6 (by decide)
    refine mw_aload_n dX6_addDoor_12 rfl 0 rfl ?_
    refine tw_getr (j := 7) dX6_addDoor_13 (shC_parish_0 a0 ha0) rfl rfl (by decide) fX6_21 ?_
    refine mw_aload_n dX6_addDoor_16 rfl 0 rfl ?_
    refine tw_geti (j := 1) dX6_addDoor_17 (shC_parish_0 a0 ha0) rfl rfl (by decide) fX6_31 (fun v106 ev106 => ?_)
    have cv106 : v101 = v106 := ev101.trans ev106.symm
    subst cv106
    refine mw_iload_n dX6_addDoor_20 rfl 1 rfl ?_
    refine tw_iast dX6_addDoor_21 (shC_parish_4 a0 ha0) (bd_in b105 (by decide)) ?_
    have hI107 : JC (mm_up S (a0 + 4) v101.toNatClampNeg x1) := JIC_puta hI (bd_all x1) b105 (by decide) (ckS ha0 (by decide +kernel))
    generalize hS108 : (mm_up S (a0 + 4) v101.toNatClampNeg x1) = S108 at hI107 ⊢
    have hF109 := fr_upA hF hS108 (memS ha0 (by decide))
    refine mw_aload_n dX6_addDoor_22 rfl 0 rfl ?_
    refine mw_dup dX6_addDoor_23 rfl ?_
    refine tw_geti (j := 1) dX6_addDoor_24 (shC_parish_0 a0 ha0) rfl rfl (by decide) fX6_31 (fun v110 ev110 => ?_)
    have cv110 : v101 = v110 := (ev101.trans (up_neA hS108 (by omega))).trans ev110.symm
    subst cv110
    refine mw_iconst dX6_addDoor_27 ki_1 ?_
    refine mw_iadd dX6_addDoor_28 (fun v111 ev111 => ?_)
    have b112 : mm_b (1) (6) v111 := bd_add ev111 b105 n_1 (by decide)
    refine tw_puti (j := 1) dX6_addDoor_29 (shC_parish_0 a0 ha0) rfl rfl (by decide) fX6_31 rfl (by decide +kernel) ?_
    have hI113 : JC (mm_up S108 a0 1 v111) := JIC_put hI107 b112 (ckZ ha0 (by decide +kernel))
    generalize hS114 : (mm_up S108 a0 1 v111) = S114 at hI113 ⊢
    have hF115 := fr_upA hF109 hS114 (memZ ha0 (by decide))
    exact mw_vret rfl dX6_addDoor_32 rfl rfl ⟨S114, rfl, rfl, ⟨hI113, hF115, trivial, (by subst hS114; subst ev111; subst hS108; subst ev101; rw [F_X6_addDoor, if_neg q103])⟩⟩
def F_X6_addPart (S : mm_S) (a0 : Nat) (x1 : Int32) : mm_S := (if (6 : Int32) ≤ (S.1 a0 2) then S else (mm_up (mm_up S (a0 + 5) ((S.1 a0 2)).toNatClampNeg x1) a0 2 ((S.1 a0 2) + (1 : Int32))))
set_option maxRecDepth 100000 in
set_option maxHeartbeats 4000000 in
theorem cx_X6_addPart {g : mm_G} (S : mm_S) (hI : JC S) (a0 : Nat) (ha0 : a0 ∈ LC_parish) (x1 : Int32) : mc g yX6_addPart cX6_addPart 2 none (mm_rm 0) [.ref a0, .int x1] (mm_enc shC S) (qv shC (fun S1 => JC S1 ∧ fr [3, 8, 9, 14] [] true true S S1 ∧ True ∧ F_X6_addPart S a0 x1 = S1)) := by
  refine mc_of2 (own := RX6) (ini := false) (ls := [(0, .ref a0), (1, .int x1)]) (by decide) (Nat.le_of_ble_eq_true rfl) rfl (by decide) rfl ?_
  have hF : fr [3, 8, 9, 14] [] true true S S := fr_rf
  refine mw_aload_n dX6_addPart_0 rfl 0 rfl ?_
  refine tw_geti (j := 2) dX6_addPart_1 (shC_parish_0 a0 ha0) rfl rfl (by decide) fX6_34 (fun v101 ev101 => ?_)
  have b102 : mm_b (0) (6) v101 := JIC_fld hI ev101 (tbC_parish_0_2 a0 ha0) (by decide)
  refine mw_aload_n dX6_addPart_4 rfl 0 rfl ?_
  refine tw_getr (j := 8) dX6_addPart_5 (shC_parish_0 a0 ha0) rfl rfl (by decide) fX6_24 ?_
  refine tw_aleni (v := 6) dX6_addPart_8 (shC_parish_5 a0 ha0) rfl (by decide) ?_
  refine mw_icmp_ge (tgt := 32) dX6_addPart_9 (by decide) (fun q103 => ?_) (fun q103 => ?_)
  · skip
    have b104 : mm_b (6) (6) v101 := bd_le_r q103 n_6 b102 (by decide)
    exact mw_vret rfl dX6_addPart_32 rfl rfl ⟨S, rfl, rfl, ⟨hI, hF, trivial, (by subst ev101; rw [F_X6_addPart, if_pos q103])⟩⟩
  · skip
    have b105 : mm_b (0) (5) v101 := bd_lt_l (bd_nle q103) b102 n_6 (by decide)
    refine mw_aload_n dX6_addPart_12 rfl 0 rfl ?_
    refine tw_getr (j := 8) dX6_addPart_13 (shC_parish_0 a0 ha0) rfl rfl (by decide) fX6_24 ?_
    refine mw_aload_n dX6_addPart_16 rfl 0 rfl ?_
    refine tw_geti (j := 2) dX6_addPart_17 (shC_parish_0 a0 ha0) rfl rfl (by decide) fX6_34 (fun v106 ev106 => ?_)
    have cv106 : v101 = v106 := ev101.trans ev106.symm
    subst cv106
    refine mw_iload_n dX6_addPart_20 rfl 1 rfl ?_
    refine tw_iast dX6_addPart_21 (shC_parish_5 a0 ha0) (bd_in b105 (by decide)) ?_
    have hI107 : JC (mm_up S (a0 + 5) v101.toNatClampNeg x1) := JIC_puta hI (bd_all x1) b105 (by decide) (ckS ha0 (by decide +kernel))
    generalize hS108 : (mm_up S (a0 + 5) v101.toNatClampNeg x1) = S108 at hI107 ⊢
    have hF109 := fr_upA hF hS108 (memS ha0 (by decide))
    refine mw_aload_n dX6_addPart_22 rfl 0 rfl ?_
    refine mw_dup dX6_addPart_23 rfl ?_
    refine tw_geti (j := 2) dX6_addPart_24 (shC_parish_0 a0 ha0) rfl rfl (by decide) fX6_34 (fun v110 ev110 => ?_)
    have cv110 : v101 = v110 := (ev101.trans (up_neA hS108 (by omega))).trans ev110.symm
    subst cv110
    refine mw_iconst dX6_addPart_27 ki_1 ?_
    refine mw_iadd dX6_addPart_28 (fun v111 ev111 => ?_)
    have b112 : mm_b (1) (6) v111 := bd_add ev111 b105 n_1 (by decide)
    refine tw_puti (j := 2) dX6_addPart_29 (shC_parish_0 a0 ha0) rfl rfl (by decide) fX6_34 rfl (by decide +kernel) ?_
    have hI113 : JC (mm_up S108 a0 2 v111) := JIC_put hI107 b112 (ckZ ha0 (by decide +kernel))
    generalize hS114 : (mm_up S108 a0 2 v111) = S114 at hI113 ⊢
    have hF115 := fr_upA hF109 hS114 (memZ ha0 (by decide))
    exact mw_vret rfl dX6_addPart_32 rfl rfl ⟨S114, rfl, rfl, ⟨hI113, hF115, trivial, (by subst hS114; subst ev111; subst hS108; subst ev101; rw [F_X6_addPart, if_neg q103])⟩⟩
def F_X2_clear_129 (S : mm_S)  : mm_S := (mm_up S 129 0 (0 : Int32))
set_option maxRecDepth 100000 in
set_option maxHeartbeats 4000000 in
theorem cx_X2_clear_129 {g : mm_G} (S : mm_S) (hI : JC S)  : mc g yX2_clear cX2_clear 1 none (mm_rm 0) [.ref 129] (mm_enc shC S) (qv shC (fun S1 => JC S1 ∧ fr [129] [] true true S S1 ∧ True ∧ F_X2_clear_129 S = S1)) := by
  refine mc_of2 (own := RX2) (ini := false) (ls := [(0, .ref 129)]) (by decide) (Nat.le_of_ble_eq_true rfl) rfl (by decide) rfl ?_
  have hF : fr [129] [] true true S S := fr_rf
  refine mw_aload_n dX2_clear_0 rfl 0 rfl ?_
  refine mw_iconst dX2_clear_1 ki_0 ?_
  refine tw_puti (j := 0) dX2_clear_2 shC_129 rfl rfl (by decide) fX2_24 rfl (by decide +kernel) ?_
  have hI101 : JC (mm_up S 129 0 0) := JIC_put hI n_0 (by decide +kernel)
  generalize hS102 : (mm_up S 129 0 0) = S102 at hI101 ⊢
  have hF103 := fr_upA hF hS102 (by decide)
  exact mw_vret rfl dX2_clear_5 rfl rfl ⟨S102, rfl, rfl, ⟨hI101, hF103, trivial, (by subst hS102; rw [F_X2_clear_129])⟩⟩
def F_X2_clear_132 (S : mm_S)  : mm_S := (mm_up S 132 0 (0 : Int32))
set_option maxRecDepth 100000 in
set_option maxHeartbeats 4000000 in
theorem cx_X2_clear_132 {g : mm_G} (S : mm_S) (hI : JC S)  : mc g yX2_clear cX2_clear 1 none (mm_rm 0) [.ref 132] (mm_enc shC S) (qv shC (fun S1 => JC S1 ∧ fr [132] [] true true S S1 ∧ True ∧ F_X2_clear_132 S = S1)) := by
  refine mc_of2 (own := RX2) (ini := false) (ls := [(0, .ref 132)]) (by decide) (Nat.le_of_ble_eq_true rfl) rfl (by decide) rfl ?_
  have hF : fr [132] [] true true S S := fr_rf
  refine mw_aload_n dX2_clear_0 rfl 0 rfl ?_
  refine mw_iconst dX2_clear_1 ki_0 ?_
  refine tw_puti (j := 0) dX2_clear_2 shC_132 rfl rfl (by decide) fX2_24 rfl (by decide +kernel) ?_
  have hI101 : JC (mm_up S 132 0 0) := JIC_put hI n_0 (by decide +kernel)
  generalize hS102 : (mm_up S 132 0 0) = S102 at hI101 ⊢
  have hF103 := fr_upA hF hS102 (by decide)
  exact mw_vret rfl dX2_clear_5 rfl rfl ⟨S102, rfl, rfl, ⟨hI101, hF103, trivial, (by subst hS102; rw [F_X2_clear_132])⟩⟩
def F_X2_clear_135 (S : mm_S)  : mm_S := (mm_up S 135 0 (0 : Int32))
set_option maxRecDepth 100000 in
set_option maxHeartbeats 4000000 in
theorem cx_X2_clear_135 {g : mm_G} (S : mm_S) (hI : JC S)  : mc g yX2_clear cX2_clear 1 none (mm_rm 0) [.ref 135] (mm_enc shC S) (qv shC (fun S1 => JC S1 ∧ fr [135] [] true true S S1 ∧ True ∧ F_X2_clear_135 S = S1)) := by
  refine mc_of2 (own := RX2) (ini := false) (ls := [(0, .ref 135)]) (by decide) (Nat.le_of_ble_eq_true rfl) rfl (by decide) rfl ?_
  have hF : fr [135] [] true true S S := fr_rf
  refine mw_aload_n dX2_clear_0 rfl 0 rfl ?_
  refine mw_iconst dX2_clear_1 ki_0 ?_
  refine tw_puti (j := 0) dX2_clear_2 shC_135 rfl rfl (by decide) fX2_24 rfl (by decide +kernel) ?_
  have hI101 : JC (mm_up S 135 0 0) := JIC_put hI n_0 (by decide +kernel)
  generalize hS102 : (mm_up S 135 0 0) = S102 at hI101 ⊢
  have hF103 := fr_upA hF hS102 (by decide)
  exact mw_vret rfl dX2_clear_5 rfl rfl ⟨S102, rfl, rfl, ⟨hI101, hF103, trivial, (by subst hS102; rw [F_X2_clear_135])⟩⟩
def F_X2_add_129 (S : mm_S) (x1 : Int32) (x2 : Int32) : Int32 × mm_S := (if (6 : Int32) ≤ (S.1 129 0) then ((0 : Int32), S) else ((1 : Int32), (mm_up (mm_up (mm_up S 130 ((S.1 129 0)).toNatClampNeg x1) 131 ((S.1 129 0)).toNatClampNeg x2) 129 0 ((S.1 129 0) + (1 : Int32)))))
set_option maxRecDepth 100000 in
set_option maxHeartbeats 4000000 in
theorem cx_X2_add_129 {g : mm_G} (S : mm_S) (hI : JC S) (x1 : Int32) (x2 : Int32) : mc g yX2_add cX2_add 3 (some .boolean) (mm_rm 0) [.ref 129, .int x1, .int x2] (mm_enc shC S) (qi shC (fun S1 v => JC S1 ∧ fr [129, 130, 131] [] true true S S1 ∧ mm_b (0) (1) v ∧ (True) ∧ F_X2_add_129 S x1 x2 = (v, S1))) := by
  refine mc_of2 (own := RX2) (ini := false) (ls := [(0, .ref 129), (1, .int x1), (2, .int x2)]) (by decide) (Nat.le_of_ble_eq_true rfl) rfl (by decide) rfl ?_
  have hF : fr [129, 130, 131] [] true true S S := fr_rf
  refine mw_aload_n dX2_add_0 rfl 0 rfl ?_
  refine tw_geti (j := 0) dX2_add_1 shC_129 rfl rfl (by decide) fX2_24 (fun v101 ev101 => ?_)
  have b102 : mm_b (0) (6) v101 := JIC_fld hI ev101 tbC_34 (by decide)
  refine mw_aload_n dX2_add_4 rfl 0 rfl ?_
  refine tw_getr (j := 1) dX2_add_5 shC_129 rfl rfl (by decide) fX2_15 ?_
  refine tw_aleni (v := 6) dX2_add_8 shC_130 rfl (by decide) ?_
  refine mw_icmp_ge (tgt := 24) dX2_add_9 (by decide) (fun q103 => ?_) (fun q103 => ?_)
  · skip
    have b104 : mm_b (6) (6) v101 := bd_le_r q103 n_6 b102 (by decide)
    refine mw_iconst dX2_add_24 ki_0 ?_
    exact mw_zret rfl (bd_nar n_0 (by decide)) dX2_add_25 rfl rfl ⟨S, _, rfl, rfl, hI, hF, bd_w n_0 (by decide), trivial, (by subst ev101; rw [F_X2_add_129, if_pos q103])⟩
  · skip
    have b105 : mm_b (0) (5) v101 := bd_lt_l (bd_nle q103) b102 n_6 (by decide)
    refine mw_aload_n dX2_add_12 rfl 0 rfl ?_
    refine tw_geti (j := 0) dX2_add_13 shC_129 rfl rfl (by decide) fX2_24 (fun v106 ev106 => ?_)
    have cv106 : v101 = v106 := ev101.trans ev106.symm
    subst cv106
    refine mw_aload_n dX2_add_16 rfl 0 rfl ?_
    refine tw_getr (j := 2) dX2_add_17 shC_129 rfl rfl (by decide) fX2_21 ?_
    refine tw_aleni (v := 6) dX2_add_20 shC_131 rfl (by decide) ?_
    refine mw_icmp_lt (tgt := 26) dX2_add_21 (by decide) (fun q107 => ?_) (fun q107 => ?_)
    · skip
      refine mw_aload_n dX2_add_26 rfl 0 rfl ?_
      refine tw_getr (j := 1) dX2_add_27 shC_129 rfl rfl (by decide) fX2_15 ?_
      refine mw_aload_n dX2_add_30 rfl 0 rfl ?_
      refine tw_geti (j := 0) dX2_add_31 shC_129 rfl rfl (by decide) fX2_24 (fun v108 ev108 => ?_)
      have cv108 : v101 = v108 := ev101.trans ev108.symm
      subst cv108
      refine mw_iload_n dX2_add_34 rfl 1 rfl ?_
      refine tw_iast dX2_add_35 shC_130 (bd_in b105 (by decide)) ?_
      have hI109 : JC (mm_up S 130 v101.toNatClampNeg x1) := JIC_puta hI (bd_all x1) b105 (by decide) (by decide +kernel)
      generalize hS110 : (mm_up S 130 v101.toNatClampNeg x1) = S110 at hI109 ⊢
      have hF111 := fr_upA hF hS110 (by decide)
      refine mw_aload_n dX2_add_36 rfl 0 rfl ?_
      refine tw_getr (j := 2) dX2_add_37 shC_129 rfl rfl (by decide) fX2_21 ?_
      refine mw_aload_n dX2_add_40 rfl 0 rfl ?_
      refine tw_geti (j := 0) dX2_add_41 shC_129 rfl rfl (by decide) fX2_24 (fun v112 ev112 => ?_)
      have cv112 : v101 = v112 := (ev101.trans (up_neA hS110 (by decide))).trans ev112.symm
      subst cv112
      refine mw_iload_n dX2_add_44 rfl 2 rfl ?_
      refine tw_iast dX2_add_45 shC_131 (bd_in b105 (by decide)) ?_
      have hI113 : JC (mm_up S110 131 v101.toNatClampNeg x2) := JIC_puta hI109 (bd_all x2) b105 (by decide) (by decide +kernel)
      generalize hS114 : (mm_up S110 131 v101.toNatClampNeg x2) = S114 at hI113 ⊢
      have hF115 := fr_upA hF111 hS114 (by decide)
      refine mw_aload_n dX2_add_46 rfl 0 rfl ?_
      refine mw_dup dX2_add_47 rfl ?_
      refine tw_geti (j := 0) dX2_add_48 shC_129 rfl rfl (by decide) fX2_24 (fun v116 ev116 => ?_)
      have cv116 : v101 = v116 := ((ev101.trans (up_neA hS110 (by decide))).trans (up_neA hS114 (by decide))).trans ev116.symm
      subst cv116
      refine mw_iconst dX2_add_51 ki_1 ?_
      refine mw_iadd dX2_add_52 (fun v117 ev117 => ?_)
      have b118 : mm_b (1) (6) v117 := bd_add ev117 b105 n_1 (by decide)
      refine tw_puti (j := 0) dX2_add_53 shC_129 rfl rfl (by decide) fX2_24 rfl (by decide +kernel) ?_
      have hI119 : JC (mm_up S114 129 0 v117) := JIC_put hI113 b118 (by decide +kernel)
      generalize hS120 : (mm_up S114 129 0 v117) = S120 at hI119 ⊢
      have hF121 := fr_upA hF115 hS120 (by decide)
      refine mw_iconst dX2_add_56 ki_1 ?_
      exact mw_zret rfl (bd_nar n_1 (by decide)) dX2_add_57 rfl rfl ⟨S120, _, rfl, rfl, hI119, hF121, bd_w n_1 (by decide), trivial, (by subst hS120; subst ev117; subst hS114; subst hS110; subst ev101; rw [F_X2_add_129, if_neg q103])⟩
    · skip
      exact bd_fle (bd_nlt q107) n_6 b105 (by decide)
def F_X2_add_132 (S : mm_S) (x1 : Int32) (x2 : Int32) : Int32 × mm_S := (if (6 : Int32) ≤ (S.1 132 0) then ((0 : Int32), S) else ((1 : Int32), (mm_up (mm_up (mm_up S 133 ((S.1 132 0)).toNatClampNeg x1) 134 ((S.1 132 0)).toNatClampNeg x2) 132 0 ((S.1 132 0) + (1 : Int32)))))
set_option maxRecDepth 100000 in
set_option maxHeartbeats 4000000 in
theorem cx_X2_add_132 {g : mm_G} (S : mm_S) (hI : JC S) (x1 : Int32) (x2 : Int32) : mc g yX2_add cX2_add 3 (some .boolean) (mm_rm 0) [.ref 132, .int x1, .int x2] (mm_enc shC S) (qi shC (fun S1 v => JC S1 ∧ fr [132, 133, 134] [] true true S S1 ∧ mm_b (0) (1) v ∧ (True) ∧ F_X2_add_132 S x1 x2 = (v, S1))) := by
  refine mc_of2 (own := RX2) (ini := false) (ls := [(0, .ref 132), (1, .int x1), (2, .int x2)]) (by decide) (Nat.le_of_ble_eq_true rfl) rfl (by decide) rfl ?_
  have hF : fr [132, 133, 134] [] true true S S := fr_rf
  refine mw_aload_n dX2_add_0 rfl 0 rfl ?_
  refine tw_geti (j := 0) dX2_add_1 shC_132 rfl rfl (by decide) fX2_24 (fun v101 ev101 => ?_)
  have b102 : mm_b (0) (6) v101 := JIC_fld hI ev101 tbC_35 (by decide)
  refine mw_aload_n dX2_add_4 rfl 0 rfl ?_
  refine tw_getr (j := 1) dX2_add_5 shC_132 rfl rfl (by decide) fX2_15 ?_
  refine tw_aleni (v := 6) dX2_add_8 shC_133 rfl (by decide) ?_
  refine mw_icmp_ge (tgt := 24) dX2_add_9 (by decide) (fun q103 => ?_) (fun q103 => ?_)
  · skip
    have b104 : mm_b (6) (6) v101 := bd_le_r q103 n_6 b102 (by decide)
    refine mw_iconst dX2_add_24 ki_0 ?_
    exact mw_zret rfl (bd_nar n_0 (by decide)) dX2_add_25 rfl rfl ⟨S, _, rfl, rfl, hI, hF, bd_w n_0 (by decide), trivial, (by subst ev101; rw [F_X2_add_132, if_pos q103])⟩
  · skip
    have b105 : mm_b (0) (5) v101 := bd_lt_l (bd_nle q103) b102 n_6 (by decide)
    refine mw_aload_n dX2_add_12 rfl 0 rfl ?_
    refine tw_geti (j := 0) dX2_add_13 shC_132 rfl rfl (by decide) fX2_24 (fun v106 ev106 => ?_)
    have cv106 : v101 = v106 := ev101.trans ev106.symm
    subst cv106
    refine mw_aload_n dX2_add_16 rfl 0 rfl ?_
    refine tw_getr (j := 2) dX2_add_17 shC_132 rfl rfl (by decide) fX2_21 ?_
    refine tw_aleni (v := 6) dX2_add_20 shC_134 rfl (by decide) ?_
    refine mw_icmp_lt (tgt := 26) dX2_add_21 (by decide) (fun q107 => ?_) (fun q107 => ?_)
    · skip
      refine mw_aload_n dX2_add_26 rfl 0 rfl ?_
      refine tw_getr (j := 1) dX2_add_27 shC_132 rfl rfl (by decide) fX2_15 ?_
      refine mw_aload_n dX2_add_30 rfl 0 rfl ?_
      refine tw_geti (j := 0) dX2_add_31 shC_132 rfl rfl (by decide) fX2_24 (fun v108 ev108 => ?_)
      have cv108 : v101 = v108 := ev101.trans ev108.symm
      subst cv108
      refine mw_iload_n dX2_add_34 rfl 1 rfl ?_
      refine tw_iast dX2_add_35 shC_133 (bd_in b105 (by decide)) ?_
      have hI109 : JC (mm_up S 133 v101.toNatClampNeg x1) := JIC_puta hI (bd_all x1) b105 (by decide) (by decide +kernel)
      generalize hS110 : (mm_up S 133 v101.toNatClampNeg x1) = S110 at hI109 ⊢
      have hF111 := fr_upA hF hS110 (by decide)
      refine mw_aload_n dX2_add_36 rfl 0 rfl ?_
      refine tw_getr (j := 2) dX2_add_37 shC_132 rfl rfl (by decide) fX2_21 ?_
      refine mw_aload_n dX2_add_40 rfl 0 rfl ?_
      refine tw_geti (j := 0) dX2_add_41 shC_132 rfl rfl (by decide) fX2_24 (fun v112 ev112 => ?_)
      have cv112 : v101 = v112 := (ev101.trans (up_neA hS110 (by decide))).trans ev112.symm
      subst cv112
      refine mw_iload_n dX2_add_44 rfl 2 rfl ?_
      refine tw_iast dX2_add_45 shC_134 (bd_in b105 (by decide)) ?_
      have hI113 : JC (mm_up S110 134 v101.toNatClampNeg x2) := JIC_puta hI109 (bd_all x2) b105 (by decide) (by decide +kernel)
      generalize hS114 : (mm_up S110 134 v101.toNatClampNeg x2) = S114 at hI113 ⊢
      have hF115 := fr_upA hF111 hS114 (by decide)
      refine mw_aload_n dX2_add_46 rfl 0 rfl ?_
      refine mw_dup dX2_add_47 rfl ?_
      refine tw_geti (j := 0) dX2_add_48 shC_132 rfl rfl (by decide) fX2_24 (fun v116 ev116 => ?_)
      have cv116 : v101 = v116 := ((ev101.trans (up_neA hS110 (by decide))).trans (up_neA hS114 (by decide))).trans ev116.symm
      subst cv116
      refine mw_iconst dX2_add_51 ki_1 ?_
      refine mw_iadd dX2_add_52 (fun v117 ev117 => ?_)
      have b118 : mm_b (1) (6) v117 := bd_add ev117 b105 n_1 (by decide)
      refine tw_puti (j := 0) dX2_add_53 shC_132 rfl rfl (by decide) fX2_24 rfl (by decide +kernel) ?_
      have hI119 : JC (mm_up S114 132 0 v117) := JIC_put hI113 b118 (by decide +kernel)
      generalize hS120 : (mm_up S114 132 0 v117) = S120 at hI119 ⊢
      have hF121 := fr_upA hF115 hS120 (by decide)
      refine mw_iconst dX2_add_56 ki_1 ?_
      exact mw_zret rfl (bd_nar n_1 (by decide)) dX2_add_57 rfl rfl ⟨S120, _, rfl, rfl, hI119, hF121, bd_w n_1 (by decide), trivial, (by subst hS120; subst ev117; subst hS114; subst hS110; subst ev101; rw [F_X2_add_132, if_neg q103])⟩
    · skip
      exact bd_fle (bd_nlt q107) n_6 b105 (by decide)
def F_X2_add_135 (S : mm_S) (x1 : Int32) (x2 : Int32) : Int32 × mm_S := (if (15 : Int32) ≤ (S.1 135 0) then ((0 : Int32), S) else ((1 : Int32), (mm_up (mm_up (mm_up S 136 ((S.1 135 0)).toNatClampNeg x1) 137 ((S.1 135 0)).toNatClampNeg x2) 135 0 ((S.1 135 0) + (1 : Int32)))))
set_option maxRecDepth 100000 in
set_option maxHeartbeats 4000000 in
theorem cx_X2_add_135 {g : mm_G} (S : mm_S) (hI : JC S) (x1 : Int32) (x2 : Int32) : mc g yX2_add cX2_add 3 (some .boolean) (mm_rm 0) [.ref 135, .int x1, .int x2] (mm_enc shC S) (qi shC (fun S1 v => JC S1 ∧ fr [135, 136, 137] [] true true S S1 ∧ mm_b (0) (1) v ∧ (True) ∧ F_X2_add_135 S x1 x2 = (v, S1))) := by
  refine mc_of2 (own := RX2) (ini := false) (ls := [(0, .ref 135), (1, .int x1), (2, .int x2)]) (by decide) (Nat.le_of_ble_eq_true rfl) rfl (by decide) rfl ?_
  have hF : fr [135, 136, 137] [] true true S S := fr_rf
  refine mw_aload_n dX2_add_0 rfl 0 rfl ?_
  refine tw_geti (j := 0) dX2_add_1 shC_135 rfl rfl (by decide) fX2_24 (fun v101 ev101 => ?_)
  have b102 : mm_b (0) (15) v101 := JIC_fld hI ev101 tbC_36 (by decide)
  refine mw_aload_n dX2_add_4 rfl 0 rfl ?_
  refine tw_getr (j := 1) dX2_add_5 shC_135 rfl rfl (by decide) fX2_15 ?_
  refine tw_aleni (v := 15) dX2_add_8 shC_136 rfl (by decide) ?_
  refine mw_icmp_ge (tgt := 24) dX2_add_9 (by decide) (fun q103 => ?_) (fun q103 => ?_)
  · skip
    have b104 : mm_b (15) (15) v101 := bd_le_r q103 n_15 b102 (by decide)
    refine mw_iconst dX2_add_24 ki_0 ?_
    exact mw_zret rfl (bd_nar n_0 (by decide)) dX2_add_25 rfl rfl ⟨S, _, rfl, rfl, hI, hF, bd_w n_0 (by decide), trivial, (by subst ev101; rw [F_X2_add_135, if_pos q103])⟩
  · skip
    have b105 : mm_b (0) (14) v101 := bd_lt_l (bd_nle q103) b102 n_15 (by decide)
    refine mw_aload_n dX2_add_12 rfl 0 rfl ?_
    refine tw_geti (j := 0) dX2_add_13 shC_135 rfl rfl (by decide) fX2_24 (fun v106 ev106 => ?_)
    have cv106 : v101 = v106 := ev101.trans ev106.symm
    subst cv106
    refine mw_aload_n dX2_add_16 rfl 0 rfl ?_
    refine tw_getr (j := 2) dX2_add_17 shC_135 rfl rfl (by decide) fX2_21 ?_
    refine tw_aleni (v := 15) dX2_add_20 shC_137 rfl (by decide) ?_
    refine mw_icmp_lt (tgt := 26) dX2_add_21 (by decide) (fun q107 => ?_) (fun q107 => ?_)
    · skip
      refine mw_aload_n dX2_add_26 rfl 0 rfl ?_
      refine tw_getr (j := 1) dX2_add_27 shC_135 rfl rfl (by decide) fX2_15 ?_
      refine mw_aload_n dX2_add_30 rfl 0 rfl ?_
      refine tw_geti (j := 0) dX2_add_31 shC_135 rfl rfl (by decide) fX2_24 (fun v108 ev108 => ?_)
      have cv108 : v101 = v108 := ev101.trans ev108.symm
      subst cv108
      refine mw_iload_n dX2_add_34 rfl 1 rfl ?_
      refine tw_iast dX2_add_35 shC_136 (bd_in b105 (by decide)) ?_
      have hI109 : JC (mm_up S 136 v101.toNatClampNeg x1) := JIC_puta hI (bd_all x1) b105 (by decide) (by decide +kernel)
      generalize hS110 : (mm_up S 136 v101.toNatClampNeg x1) = S110 at hI109 ⊢
      have hF111 := fr_upA hF hS110 (by decide)
      refine mw_aload_n dX2_add_36 rfl 0 rfl ?_
      refine tw_getr (j := 2) dX2_add_37 shC_135 rfl rfl (by decide) fX2_21 ?_
      refine mw_aload_n dX2_add_40 rfl 0 rfl ?_
      refine tw_geti (j := 0) dX2_add_41 shC_135 rfl rfl (by decide) fX2_24 (fun v112 ev112 => ?_)
      have cv112 : v101 = v112 := (ev101.trans (up_neA hS110 (by decide))).trans ev112.symm
      subst cv112
      refine mw_iload_n dX2_add_44 rfl 2 rfl ?_
      refine tw_iast dX2_add_45 shC_137 (bd_in b105 (by decide)) ?_
      have hI113 : JC (mm_up S110 137 v101.toNatClampNeg x2) := JIC_puta hI109 (bd_all x2) b105 (by decide) (by decide +kernel)
      generalize hS114 : (mm_up S110 137 v101.toNatClampNeg x2) = S114 at hI113 ⊢
      have hF115 := fr_upA hF111 hS114 (by decide)
      refine mw_aload_n dX2_add_46 rfl 0 rfl ?_
      refine mw_dup dX2_add_47 rfl ?_
      refine tw_geti (j := 0) dX2_add_48 shC_135 rfl rfl (by decide) fX2_24 (fun v116 ev116 => ?_)
      have cv116 : v101 = v116 := ((ev101.trans (up_neA hS110 (by decide))).trans (up_neA hS114 (by decide))).trans ev116.symm
      subst cv116
      refine mw_iconst dX2_add_51 ki_1 ?_
      refine mw_iadd dX2_add_52 (fun v117 ev117 => ?_)
      have b118 : mm_b (1) (15) v117 := bd_add ev117 b105 n_1 (by decide)
      refine tw_puti (j := 0) dX2_add_53 shC_135 rfl rfl (by decide) fX2_24 rfl (by decide +kernel) ?_
      have hI119 : JC (mm_up S114 135 0 v117) := JIC_put hI113 b118 (by decide +kernel)
      generalize hS120 : (mm_up S114 135 0 v117) = S120 at hI119 ⊢
      have hF121 := fr_upA hF115 hS120 (by decide)
      refine mw_iconst dX2_add_56 ki_1 ?_
      exact mw_zret rfl (bd_nar n_1 (by decide)) dX2_add_57 rfl rfl ⟨S120, _, rfl, rfl, hI119, hF121, bd_w n_1 (by decide), trivial, (by subst hS120; subst ev117; subst hS114; subst hS110; subst ev101; rw [F_X2_add_135, if_neg q103])⟩
    · skip
      exact bd_fle (bd_nlt q107) n_15 b105 (by decide)
def F_X3_copy_L26 (a0 : Nat) (a1 : Nat) : Nat → mm_S → Int32 → mm_S
  | 0, S114, _ => S114
  | N + 1, S114, y117 => (if (7 : Int32) ≤ y117 then S114 else ((F_X3_copy_L26 a0 a1 N) (mm_up (mm_up (mm_up (mm_up S114 (a0 + 1) (y117).toNatClampNeg (S114.1 (a1 + 1) (y117).toNatClampNeg)) (a0 + 2) (y117).toNatClampNeg ((mm_up S114 (a0 + 1) (y117).toNatClampNeg (S114.1 (a1 + 1) (y117).toNatClampNeg)).1 (a1 + 2) (y117).toNatClampNeg)) (a0 + 3) (y117).toNatClampNeg ((mm_up (mm_up S114 (a0 + 1) (y117).toNatClampNeg (S114.1 (a1 + 1) (y117).toNatClampNeg)) (a0 + 2) (y117).toNatClampNeg ((mm_up S114 (a0 + 1) (y117).toNatClampNeg (S114.1 (a1 + 1) (y117).toNatClampNeg)).1 (a1 + 2) (y117).toNatClampNeg)).1 (a1 + 3) (y117).toNatClampNeg)) (a0 + 4) (y117).toNatClampNeg ((mm_up (mm_up (mm_up S114 (a0 + 1) (y117).toNatClampNeg (S114.1 (a1 + 1) (y117).toNatClampNeg)) (a0 + 2) (y117).toNatClampNeg ((mm_up S114 (a0 + 1) (y117).toNatClampNeg (S114.1 (a1 + 1) (y117).toNatClampNeg)).1 (a1 + 2) (y117).toNatClampNeg)) (a0 + 3) (y117).toNatClampNeg ((mm_up (mm_up S114 (a0 + 1) (y117).toNatClampNeg (S114.1 (a1 + 1) (y117).toNatClampNeg)) (a0 + 2) (y117).toNatClampNeg ((mm_up S114 (a0 + 1) (y117).toNatClampNeg (S114.1 (a1 + 1) (y117).toNatClampNeg)).1 (a1 + 2) (y117).toNatClampNeg)).1 (a1 + 3) (y117).toNatClampNeg)).1 (a1 + 4) (y117).toNatClampNeg)) (y117 + Int32.ofInt 1)))
def F_X3_copy (S : mm_S) (a0 : Nat) (a1 : Nat) : mm_S := (F_X3_copy_L26 a0 a1 9 (mm_up (mm_up (mm_up S a0 2 (S.1 a1 2)) a0 0 ((mm_up S a0 2 (S.1 a1 2)).1 a1 0)) a0 1 ((mm_up (mm_up S a0 2 (S.1 a1 2)) a0 0 ((mm_up S a0 2 (S.1 a1 2)).1 a1 0)).1 a1 1)) (0 : Int32))
set_option maxRecDepth 100000 in
set_option maxHeartbeats 4000000 in
theorem cx_X3_copy {g : mm_G} (S : mm_S) (hI : JC S) (a0 : Nat) (ha0 : a0 ∈ LC_folk) (a1 : Nat) (ha1 : a1 ∈ LC_folk) : mc g yX3_copy cX3_copy 3 none (mm_rm 0) [.ref a0, .ref a1] (mm_enc shC S) (qv shC (fun S1 => JC S1 ∧ fr [15, 16, 17, 18, 19, 20, 21, 22, 23, 24, 27, 28, 29, 30, 31, 32, 33, 34, 35, 36, 37, 38, 39, 40, 41, 42, 43, 44, 45, 46, 47, 48, 49, 50, 51, 52, 53, 54, 55, 56, 57, 58, 59, 60, 61, 62, 63, 64, 65, 66, 67, 68, 69, 70, 71, 72, 73, 74, 75, 76, 77, 78, 79, 80, 81, 82, 83, 84, 85, 86, 87, 88, 89, 90, 91, 92, 93, 94, 95, 96, 97, 98, 99, 100, 101, 102, 103, 104, 105, 106, 107, 108, 109, 110, 111, 112, 113, 114, 115, 116, 117, 118, 119, 120, 121, 122, 123, 124, 125, 126, 152, 153, 154, 155, 156, 158, 159, 160, 161, 162] [] true true S S1 ∧ True ∧ F_X3_copy S a0 a1 = S1)) := by
  refine mc_of2 (own := RX3) (ini := false) (ls := [(0, .ref a0), (1, .ref a1)]) (by decide) (Nat.le_of_ble_eq_true rfl) rfl (by decide) rfl ?_
  have hF : fr [15, 16, 17, 18, 19, 20, 21, 22, 23, 24, 27, 28, 29, 30, 31, 32, 33, 34, 35, 36, 37, 38, 39, 40, 41, 42, 43, 44, 45, 46, 47, 48, 49, 50, 51, 52, 53, 54, 55, 56, 57, 58, 59, 60, 61, 62, 63, 64, 65, 66, 67, 68, 69, 70, 71, 72, 73, 74, 75, 76, 77, 78, 79, 80, 81, 82, 83, 84, 85, 86, 87, 88, 89, 90, 91, 92, 93, 94, 95, 96, 97, 98, 99, 100, 101, 102, 103, 104, 105, 106, 107, 108, 109, 110, 111, 112, 113, 114, 115, 116, 117, 118, 119, 120, 121, 122, 123, 124, 125, 126, 152, 153, 154, 155, 156, 158, 159, 160, 161, 162] [] true true S S := fr_rf
  refine mw_aload_n dX3_copy_0 rfl 0 rfl ?_
  refine mw_aload_n dX3_copy_1 rfl 1 rfl ?_
  refine tw_geti (j := 2) dX3_copy_2 (shC_folk_0 a1 ha1) rfl rfl (by decide) fX3_36 (fun v101 ev101 => ?_)
  have b102 : mm_b (0) (7) v101 := JIC_fld hI ev101 (tbC_folk_0_2 a1 ha1) (by decide)
  refine tw_puti (j := 2) dX3_copy_5 (shC_folk_0 a0 ha0) rfl rfl (by decide) fX3_36 rfl (by decide +kernel) ?_
  have hI103 : JC (mm_up S a0 2 v101) := JIC_put hI b102 (ckZ ha0 (by decide +kernel))
  generalize hS104 : (mm_up S a0 2 v101) = S104 at hI103 ⊢
  have hF105 := fr_upA hF hS104 (memZ ha0 (by decide))
  refine mw_aload_n dX3_copy_8 rfl 0 rfl ?_
  refine mw_aload_n dX3_copy_9 rfl 1 rfl ?_
  refine tw_geti (j := 0) dX3_copy_10 (shC_folk_0 a1 ha1) rfl rfl (by decide) fX3_39 (fun v106 ev106 => ?_)
  refine tw_puti (j := 0) dX3_copy_13 (shC_folk_0 a0 ha0) rfl rfl (by decide) fX3_39 rfl (by decide +kernel) ?_
  have hI107 : JC (mm_up S104 a0 0 v106) := JIC_put hI103 (bd_all v106) (ckZ ha0 (by decide +kernel))
  generalize hS108 : (mm_up S104 a0 0 v106) = S108 at hI107 ⊢
  have hF109 := fr_upA hF105 hS108 (memZ ha0 (by decide))
  refine mw_aload_n dX3_copy_16 rfl 0 rfl ?_
  refine mw_aload_n dX3_copy_17 rfl 1 rfl ?_
  refine tw_geti (j := 1) dX3_copy_18 (shC_folk_0 a1 ha1) rfl rfl (by decide) fX3_42 (fun v110 ev110 => ?_)
  refine tw_puti (j := 1) dX3_copy_21 (shC_folk_0 a0 ha0) rfl rfl (by decide) fX3_42 rfl (by decide +kernel) ?_
  have hI111 : JC (mm_up S108 a0 1 v110) := JIC_put hI107 (bd_all v110) (ckZ ha0 (by decide +kernel))
  generalize hS112 : (mm_up S108 a0 1 v110) = S112 at hI111 ⊢
  have hF113 := fr_upA hF109 hS112 (memZ ha0 (by decide))
  refine mw_iconst dX3_copy_24 ki_0 ?_
  refine mw_istore_n (ls' := [(2, .int 0), (0, .ref a0), (1, .ref a1)]) dX3_copy_25 rfl (by decide) rfl ?_
  have cut26 : ∀ (N26 : Nat) (S114 : mm_S) (y117 : Int32), ((8 : Int) - y117.toInt).toNat < N26 → JC S114 → fr [15, 16, 17, 18, 19, 20, 21, 22, 23, 24, 27, 28, 29, 30, 31, 32, 33, 34, 35, 36, 37, 38, 39, 40, 41, 42, 43, 44, 45, 46, 47, 48, 49, 50, 51, 52, 53, 54, 55, 56, 57, 58, 59, 60, 61, 62, 63, 64, 65, 66, 67, 68, 69, 70, 71, 72, 73, 74, 75, 76, 77, 78, 79, 80, 81, 82, 83, 84, 85, 86, 87, 88, 89, 90, 91, 92, 93, 94, 95, 96, 97, 98, 99, 100, 101, 102, 103, 104, 105, 106, 107, 108, 109, 110, 111, 112, 113, 114, 115, 116, 117, 118, 119, 120, 121, 122, 123, 124, 125, 126, 152, 153, 154, 155, 156, 158, 159, 160, 161, 162] [] true true S S114 → mm_b (0) (7) y117 → F_X3_copy S a0 a1 = F_X3_copy_L26 a0 a1 N26 S114 y117 → mw g RX3 cX3_copy 3 none false (mm_rm 0) (qv shC (fun S1 => JC S1 ∧ fr [15, 16, 17, 18, 19, 20, 21, 22, 23, 24, 27, 28, 29, 30, 31, 32, 33, 34, 35, 36, 37, 38, 39, 40, 41, 42, 43, 44, 45, 46, 47, 48, 49, 50, 51, 52, 53, 54, 55, 56, 57, 58, 59, 60, 61, 62, 63, 64, 65, 66, 67, 68, 69, 70, 71, 72, 73, 74, 75, 76, 77, 78, 79, 80, 81, 82, 83, 84, 85, 86, 87, 88, 89, 90, 91, 92, 93, 94, 95, 96, 97, 98, 99, 100, 101, 102, 103, 104, 105, 106, 107, 108, 109, 110, 111, 112, 113, 114, 115, 116, 117, 118, 119, 120, 121, 122, 123, 124, 125, 126, 152, 153, 154, 155, 156, 158, 159, 160, 161, 162] [] true true S S1 ∧ True ∧ F_X3_copy S a0 a1 = S1)) 0 0 (mm_enc shC S114) 26 [(0, .ref a0), (1, .ref a1), (2, .int y117)] [] := by
    intro N26
    induction N26 with
    | zero =>
      intro S114 y117 hm119 hI115 hF116 b118 hE120
      exact absurd hm119 (Nat.not_lt_zero _)
    | succ N26 ih26 =>
      intro S114 y117 hm119 hI115 hF116 b118 hE120
      refine mw_iload_n dX3_copy_26 rfl 2 rfl ?_
      refine mw_bipush dX3_copy_27 kb_7 ?_
      refine mw_icmp_ge (tgt := 86) dX3_copy_29 (by decide) (fun q121 => ?_) (fun q121 => ?_)
      · skip
        have b122 : mm_b (7) (7) y117 := bd_le_r q121 n_7 b118 (by decide)
        exact mw_vret rfl dX3_copy_86 rfl rfl ⟨S114, rfl, rfl, ⟨hI115, hF116, trivial, (by exact hE120.trans (by rw [F_X3_copy_L26, if_pos q121]))⟩⟩
      · skip
        have b123 : mm_b (0) (6) y117 := bd_lt_l (bd_nle q121) b118 n_7 (by decide)
        refine mw_aload_n dX3_copy_32 rfl 0 rfl ?_
        refine tw_getr (j := 3) dX3_copy_33 (shC_folk_0 a0 ha0) rfl rfl (by decide) fX3_9 ?_
        refine mw_iload_n dX3_copy_36 rfl 2 rfl ?_
        refine mw_aload_n dX3_copy_37 rfl 1 rfl ?_
        refine tw_getr (j := 3) dX3_copy_38 (shC_folk_0 a1 ha1) rfl rfl (by decide) fX3_9 ?_
        refine mw_iload_n dX3_copy_41 rfl 2 rfl ?_
        refine tw_iald dX3_copy_42 (shC_folk_1 a1 ha1) (bd_in b123 (by decide)) (fun v124 ev124 => ?_)
        refine tw_iast dX3_copy_43 (shC_folk_1 a0 ha0) (bd_in b123 (by decide)) ?_
        have hI125 : JC (mm_up S114 (a0 + 1) y117.toNatClampNeg v124) := JIC_puta hI115 (bd_all v124) b123 (by decide) (ckS ha0 (by decide +kernel))
        generalize hS126 : (mm_up S114 (a0 + 1) y117.toNatClampNeg v124) = S126 at hI125 ⊢
        have hF127 := fr_upA hF116 hS126 (memS ha0 (by decide))
        refine mw_aload_n dX3_copy_44 rfl 0 rfl ?_
        refine tw_getr (j := 4) dX3_copy_45 (shC_folk_0 a0 ha0) rfl rfl (by decide) fX3_15 ?_
        refine mw_iload_n dX3_copy_48 rfl 2 rfl ?_
        refine mw_aload_n dX3_copy_49 rfl 1 rfl ?_
        refine tw_getr (j := 4) dX3_copy_50 (shC_folk_0 a1 ha1) rfl rfl (by decide) fX3_15 ?_
        refine mw_iload_n dX3_copy_53 rfl 2 rfl ?_
        refine tw_iald dX3_copy_54 (shC_folk_2 a1 ha1) (bd_in b123 (by decide)) (fun v128 ev128 => ?_)
        refine tw_iast dX3_copy_55 (shC_folk_2 a0 ha0) (bd_in b123 (by decide)) ?_
        have hI129 : JC (mm_up S126 (a0 + 2) y117.toNatClampNeg v128) := JIC_puta hI125 (bd_all v128) b123 (by decide) (ckS ha0 (by decide +kernel))
        generalize hS130 : (mm_up S126 (a0 + 2) y117.toNatClampNeg v128) = S130 at hI129 ⊢
        have hF131 := fr_upA hF127 hS130 (memS ha0 (by decide))
        refine mw_aload_n dX3_copy_56 rfl 0 rfl ?_
        refine tw_getr (j := 5) dX3_copy_57 (shC_folk_0 a0 ha0) rfl rfl (by decide) fX3_18 ?_
        refine mw_iload_n dX3_copy_60 rfl 2 rfl ?_
        refine mw_aload_n dX3_copy_61 rfl 1 rfl ?_
        refine tw_getr (j := 5) dX3_copy_62 (shC_folk_0 a1 ha1) rfl rfl (by decide) fX3_18 ?_
        refine mw_iload_n dX3_copy_65 rfl 2 rfl ?_
        refine tw_iald dX3_copy_66 (shC_folk_3 a1 ha1) (bd_in b123 (by decide)) (fun v132 ev132 => ?_)
        refine tw_iast dX3_copy_67 (shC_folk_3 a0 ha0) (bd_in b123 (by decide)) ?_
        have hI133 : JC (mm_up S130 (a0 + 3) y117.toNatClampNeg v132) := JIC_puta hI129 (bd_all v132) b123 (by decide) (ckS ha0 (by decide +kernel))
        generalize hS134 : (mm_up S130 (a0 + 3) y117.toNatClampNeg v132) = S134 at hI133 ⊢
        have hF135 := fr_upA hF131 hS134 (memS ha0 (by decide))
        refine mw_aload_n dX3_copy_68 rfl 0 rfl ?_
        refine tw_getr (j := 6) dX3_copy_69 (shC_folk_0 a0 ha0) rfl rfl (by decide) fX3_21 ?_
        refine mw_iload_n dX3_copy_72 rfl 2 rfl ?_
        refine mw_aload_n dX3_copy_73 rfl 1 rfl ?_
        refine tw_getr (j := 6) dX3_copy_74 (shC_folk_0 a1 ha1) rfl rfl (by decide) fX3_21 ?_
        refine mw_iload_n dX3_copy_77 rfl 2 rfl ?_
        refine tw_iald dX3_copy_78 (shC_folk_4 a1 ha1) (bd_in b123 (by decide)) (fun v136 ev136 => ?_)
        refine tw_iast dX3_copy_79 (shC_folk_4 a0 ha0) (bd_in b123 (by decide)) ?_
        have hI137 : JC (mm_up S134 (a0 + 4) y117.toNatClampNeg v136) := JIC_puta hI133 (bd_all v136) b123 (by decide) (ckS ha0 (by decide +kernel))
        generalize hS138 : (mm_up S134 (a0 + 4) y117.toNatClampNeg v136) = S138 at hI137 ⊢
        have hF139 := fr_upA hF135 hS138 (memS ha0 (by decide))
        refine mw_iinc (ls' := fun v => [(2, .int v), (0, .ref a0), (1, .ref a1)]) dX3_copy_80 2 rfl (by decide) (fun _ => rfl) (fun v140 ev140 => ?_)
        have b141 : mm_b (1) (7) v140 := bd_inc ev140 b123 (by decide)
        refine mw_goto (tgt := 26) dX3_copy_83 (by decide) ?_
        refine mw_ls [1, 2, 0] rfl ?_
        exact ih26 S138 v140 (ms_inc ev140 b123 (by decide) hm119) hI137 hF139 (bd_w b141 (by decide)) (by subst ev140; subst hS138; subst ev136; subst hS134; subst ev132; subst hS130; subst ev128; subst hS126; subst ev124; exact hE120.trans (by rw [F_X3_copy_L26, if_neg q121]))
  refine mw_ls [1, 2, 0] rfl ?_
  exact cut26 9 S112 (0 : Int32) (by have hz := n_0; omega) hI111 hF113 (bd_w n_0 (by decide)) (by subst hS112; subst ev110; subst hS108; subst ev106; subst hS104; subst ev101; rw [F_X3_copy])
def F_X3_begin_L32ftu72u83 (k32 : mm_S → Int32 → mm_S) (S151 : mm_S) (y122 : Int32) (a1 : Nat) : mm_S := (k32 (mm_up S151 19 (y122).toNatClampNeg (F_X6_secondToldHeir S151 a1 y122)) (y122 + Int32.ofInt 1))
def F_X3_begin_L32ftu72 (k32 : mm_S → Int32 → mm_S) (S141 : mm_S) (y122 : Int32) (a1 : Nat) : mm_S := (F_X3_begin_L32ftu72u83 k32 (mm_up S141 18 (y122).toNatClampNeg (F_X6_firstToldHeir S141 a1 y122)) y122 a1)
def F_X3_begin_L32 (a1 : Nat) : Nat → mm_S → Int32 → mm_S
  | 0, S119, _ => S119
  | N + 1, S119, y122 => (if (7 : Int32) ≤ y122 then S119 else (if (F_X6_hasVoice S119 a1 y122) = (0 : Int32) then (F_X3_begin_L32ftu72 (F_X3_begin_L32 a1 N) (mm_up (mm_up S119 16 (y122).toNatClampNeg (9 : Int32)) 17 (y122).toNatClampNeg (0 : Int32)) y122 a1) else (F_X3_begin_L32ftu72 (F_X3_begin_L32 a1 N) (mm_up (mm_up S119 16 (y122).toNatClampNeg y122) 17 (y122).toNatClampNeg (0 : Int32)) y122 a1)))
def F_X3_begin (S : mm_S) (a1 : Nat) : mm_S := (F_X3_begin_L32 a1 9 (mm_up (mm_up (mm_up S 15 2 (if (7 : Int32) < (S.1 a1 0) then (7 : Int32) else (S.1 a1 0))) 15 0 (((1 : Int32) <<< ((if (7 : Int32) < (S.1 a1 0) then (7 : Int32) else (S.1 a1 0)) &&& 31)) - (1 : Int32))) 15 1 (0 : Int32)) (0 : Int32))
set_option maxRecDepth 100000 in
set_option maxHeartbeats 4000000 in
theorem cx_X3_begin {g : mm_G} (S : mm_S) (hI : JC S) (a1 : Nat) (ha1 : a1 ∈ LC_parish) : mc g yX3_begin cX3_begin 3 none (mm_rm 3) [.ref 15, .ref a1] (mm_enc shC S) (qv shC (fun S1 => JC S1 ∧ fr [15, 16, 17, 18, 19] [] true true S S1 ∧ True ∧ F_X3_begin S a1 = S1)) := by
  refine mc_of2 (own := RX3) (ini := false) (ls := [(0, .ref 15), (1, .ref a1)]) (by decide) (Nat.le_of_ble_eq_true rfl) rfl (by decide) rfl ?_
  have hF : fr [15, 16, 17, 18, 19] [] true true S S := fr_rf
  refine mw_aload_n dX3_begin_0 rfl 0 rfl ?_
  refine mw_aload_n dX3_begin_1 rfl 1 rfl ?_
  refine tw_geti (j := 0) dX3_begin_2 (shC_parish_0 a1 ha1) rfl rfl (by decide) fX3_24 (fun v101 ev101 => ?_)
  have b102 : mm_b (0) (7) v101 := JIC_fld hI ev101 (tbC_parish_0_0 a1 ha1) (by decide)
  refine mw_bipush dX3_begin_5 kb_7 ?_
  refine mw_min (st := [.ref 15]) dX3_begin_7 mX3_30 (Nat.le_of_ble_eq_true rfl) (by decide) (fun v103 ev103 => ?_)
  have b104 : mm_b (0) (7) v103 := min_b ev103 b102 n_7 (by decide)
  refine tw_puti (j := 2) dX3_begin_10 shC_15 rfl rfl (by decide) fX3_36 rfl (by decide +kernel) ?_
  have hI105 : JC (mm_up S 15 2 v103) := JIC_put hI b104 (by decide +kernel)
  generalize hS106 : (mm_up S 15 2 v103) = S106 at hI105 ⊢
  have hF107 := fr_upA hF hS106 (by decide)
  refine mw_aload_n dX3_begin_13 rfl 0 rfl ?_
  refine mw_iconst dX3_begin_14 ki_1 ?_
  refine mw_aload_n dX3_begin_15 rfl 0 rfl ?_
  refine tw_geti (j := 2) dX3_begin_16 shC_15 rfl rfl (by decide) fX3_36 (fun v108 ev108 => ?_)
  have cv108 : v103 = v108 := (up_eq hS106).trans ev108.symm
  subst cv108
  refine mw_ishl dX3_begin_19 (fun v109 ev109 => ?_)
  have b110 : mm_b (1) (128) v109 := bd_shl 7 ev109 b104 (by decide)
  refine mw_iconst dX3_begin_20 ki_1 ?_
  refine mw_isub dX3_begin_21 (fun v111 ev111 => ?_)
  have b112 : mm_b (0) (127) v111 := bd_sub ev111 b110 n_1 (by decide)
  refine tw_puti (j := 0) dX3_begin_22 shC_15 rfl rfl (by decide) fX3_39 rfl (by decide +kernel) ?_
  have hI113 : JC (mm_up S106 15 0 v111) := JIC_put hI105 b112 (by decide +kernel)
  generalize hS114 : (mm_up S106 15 0 v111) = S114 at hI113 ⊢
  have hF115 := fr_upA hF107 hS114 (by decide)
  refine mw_aload_n dX3_begin_25 rfl 0 rfl ?_
  refine mw_iconst dX3_begin_26 ki_0 ?_
  refine tw_puti (j := 1) dX3_begin_27 shC_15 rfl rfl (by decide) fX3_42 rfl (by decide +kernel) ?_
  have hI116 : JC (mm_up S114 15 1 0) := JIC_put hI113 n_0 (by decide +kernel)
  generalize hS117 : (mm_up S114 15 1 0) = S117 at hI116 ⊢
  have hF118 := fr_upA hF115 hS117 (by decide)
  refine mw_iconst dX3_begin_30 ki_0 ?_
  refine mw_istore_n (ls' := [(2, .int 0), (0, .ref 15), (1, .ref a1)]) dX3_begin_31 rfl (by decide) rfl ?_
  have cut32 : ∀ (N32 : Nat) (S119 : mm_S) (y122 : Int32), ((8 : Int) - y122.toInt).toNat < N32 → JC S119 → fr [15, 16, 17, 18, 19] [] true true S S119 → mm_b (0) (7) y122 → F_X3_begin S a1 = F_X3_begin_L32 a1 N32 S119 y122 → mw g RX3 cX3_begin 3 none false (mm_rm 3) (qv shC (fun S1 => JC S1 ∧ fr [15, 16, 17, 18, 19] [] true true S S1 ∧ True ∧ F_X3_begin S a1 = S1)) 0 0 (mm_enc shC S119) 32 [(0, .ref 15), (1, .ref a1), (2, .int y122)] [] := by
    intro N32
    induction N32 with
    | zero =>
      intro S119 y122 hm124 hI120 hF121 b123 hE125
      exact absurd hm124 (Nat.not_lt_zero _)
    | succ N32 ih32 =>
      intro S119 y122 hm124 hI120 hF121 b123 hE125
      refine mw_iload_n dX3_begin_32 rfl 2 rfl ?_
      refine mw_bipush dX3_begin_33 kb_7 ?_
      refine mw_icmp_ge (tgt := 93) dX3_begin_35 (by decide) (fun q126 => ?_) (fun q126 => ?_)
      · skip
        have b127 : mm_b (7) (7) y122 := bd_le_r q126 n_7 b123 (by decide)
        exact mw_vret rfl dX3_begin_93 rfl rfl ⟨S119, rfl, rfl, ⟨hI120, hF121, trivial, (by exact hE125.trans (by rw [F_X3_begin_L32, if_pos q126]))⟩⟩
      · skip
        have b128 : mm_b (0) (6) y122 := bd_lt_l (bd_nle q126) b123 n_7 (by decide)
        refine mw_aload_n dX3_begin_38 rfl 0 rfl ?_
        refine tw_getr (j := 3) dX3_begin_39 shC_15 rfl rfl (by decide) fX3_9 ?_
        refine mw_iload_n dX3_begin_42 rfl 2 rfl ?_
        refine mw_aload_n dX3_begin_43 rfl 1 rfl ?_
        refine mw_iload_n dX3_begin_44 rfl 2 rfl ?_
        refine tc_Vi (as := [.int y122]) (st := [.int y122, .ref 16]) dX3_begin_45 rfl (shC_parish_0 a1 ha1) rfl rfl mX3_45 t_X6_hasVoice rfl (Nat.le_of_ble_eq_true rfl) (by decide) (by decide) (cx_X6_hasVoice (g := g) S119 hI120 a1 ha1 y122) (fun S129 v131 h130 => ?_)
        obtain ⟨rfl, b132, x133, hx134⟩ := h130
        refine mw_if_eq (tgt := 55) dX3_begin_48 (by decide) (fun q135 => ?_) (fun q135 => ?_)
        · skip
          have b136 : mm_b (0) (0) v131 := bd_eq_l q135 b132 n_0 (by decide)
          refine mw_bipush dX3_begin_55 kb_9 ?_
          refine tw_iast dX3_begin_57 shC_16 (bd_in b128 (by decide)) ?_
          have hI137 : JC (mm_up S119 16 y122.toNatClampNeg 9) := JIC_puta hI120 n_9 b128 (by decide) (by decide +kernel)
          generalize hS138 : (mm_up S119 16 y122.toNatClampNeg 9) = S138 at hI137 ⊢
          have hF139 := fr_upA hF121 hS138 (by decide)
          refine mw_aload_n dX3_begin_58 rfl 0 rfl ?_
          refine tw_getr (j := 4) dX3_begin_59 shC_15 rfl rfl (by decide) fX3_15 ?_
          refine mw_iload_n dX3_begin_62 rfl 2 rfl ?_
          refine mw_iconst dX3_begin_63 ki_0 ?_
          refine tw_iast dX3_begin_64 shC_17 (bd_in b128 (by decide)) ?_
          have hI140 : JC (mm_up S138 17 y122.toNatClampNeg 0) := JIC_puta hI137 n_0 b128 (by decide) (by decide +kernel)
          generalize hS141 : (mm_up S138 17 y122.toNatClampNeg 0) = S141 at hI140 ⊢
          have hF142 := fr_upA hF139 hS141 (by decide)
          refine mw_aload_n dX3_begin_65 rfl 0 rfl ?_
          refine tw_getr (j := 5) dX3_begin_66 shC_15 rfl rfl (by decide) fX3_18 ?_
          refine mw_iload_n dX3_begin_69 rfl 2 rfl ?_
          refine mw_aload_n dX3_begin_70 rfl 1 rfl ?_
          refine mw_iload_n dX3_begin_71 rfl 2 rfl ?_
          have hE143 : F_X3_begin S a1 = F_X3_begin_L32ftu72 (F_X3_begin_L32 a1 N32) S141 y122 a1 := (by subst hS141; subst hS138; subst hx134; exact hE125.trans (by rw [F_X3_begin_L32, if_neg q126, if_pos q135]))
          refine tc_Vi (as := [.int y122]) (st := [.int y122, .ref 18]) dX3_begin_72 rfl (shC_parish_0 a1 ha1) rfl rfl mX3_49 t_X6_firstToldHeir rfl (Nat.le_of_ble_eq_true rfl) (by decide) (by decide) (cx_X6_firstToldHeir (g := g) S141 hI140 a1 ha1 y122) (fun S144 v146 h145 => ?_)
          obtain ⟨rfl, b147, x148, hx149⟩ := h145
          refine tw_iast dX3_begin_75 shC_18 (bd_in b128 (by decide)) ?_
          have hI150 : JC (mm_up S141 18 y122.toNatClampNeg v146) := JIC_puta hI140 b147 b128 (by decide) (by decide +kernel)
          generalize hS151 : (mm_up S141 18 y122.toNatClampNeg v146) = S151 at hI150 ⊢
          have hF152 := fr_upA hF142 hS151 (by decide)
          refine mw_aload_n dX3_begin_76 rfl 0 rfl ?_
          refine tw_getr (j := 6) dX3_begin_77 shC_15 rfl rfl (by decide) fX3_21 ?_
          refine mw_iload_n dX3_begin_80 rfl 2 rfl ?_
          refine mw_aload_n dX3_begin_81 rfl 1 rfl ?_
          refine mw_iload_n dX3_begin_82 rfl 2 rfl ?_
          have hE153 : F_X3_begin S a1 = F_X3_begin_L32ftu72u83 (F_X3_begin_L32 a1 N32) S151 y122 a1 := (by subst hS151; subst hx149; exact hE143.trans (by rw [F_X3_begin_L32ftu72]))
          refine tc_Vi (as := [.int y122]) (st := [.int y122, .ref 19]) dX3_begin_83 rfl (shC_parish_0 a1 ha1) rfl rfl mX3_53 t_X6_secondToldHeir rfl (Nat.le_of_ble_eq_true rfl) (by decide) (by decide) (cx_X6_secondToldHeir (g := g) S151 hI150 a1 ha1 y122) (fun S154 v156 h155 => ?_)
          obtain ⟨rfl, b157, x158, hx159⟩ := h155
          refine tw_iast dX3_begin_86 shC_19 (bd_in b128 (by decide)) ?_
          have hI160 : JC (mm_up S151 19 y122.toNatClampNeg v156) := JIC_puta hI150 b157 b128 (by decide) (by decide +kernel)
          generalize hS161 : (mm_up S151 19 y122.toNatClampNeg v156) = S161 at hI160 ⊢
          have hF162 := fr_upA hF152 hS161 (by decide)
          refine mw_iinc (ls' := fun v => [(2, .int v), (0, .ref 15), (1, .ref a1)]) dX3_begin_87 2 rfl (by decide) (fun _ => rfl) (fun v163 ev163 => ?_)
          have b164 : mm_b (1) (7) v163 := bd_inc ev163 b128 (by decide)
          refine mw_goto (tgt := 32) dX3_begin_90 (by decide) ?_
          refine mw_ls [1, 2, 0] rfl ?_
          exact ih32 S161 v163 (ms_inc ev163 b128 (by decide) hm124) hI160 hF162 (bd_w b164 (by decide)) (by subst ev163; subst hS161; subst hx159; exact hE153.trans (by rw [F_X3_begin_L32ftu72u83]))
        · skip
          have b165 : mm_b (1) (1) v131 := bd_ne_l q135 b132 n_0 (by decide)
          refine mw_iload_n dX3_begin_51 rfl 2 rfl ?_
          refine mw_goto (tgt := 57) dX3_begin_52 (by decide) ?_
          refine tw_iast dX3_begin_57 shC_16 (bd_in b128 (by decide)) ?_
          have hI166 : JC (mm_up S119 16 y122.toNatClampNeg y122) := JIC_puta hI120 b128 b128 (by decide) (by decide +kernel)
          generalize hS167 : (mm_up S119 16 y122.toNatClampNeg y122) = S167 at hI166 ⊢
          have hF168 := fr_upA hF121 hS167 (by decide)
          refine mw_aload_n dX3_begin_58 rfl 0 rfl ?_
          refine tw_getr (j := 4) dX3_begin_59 shC_15 rfl rfl (by decide) fX3_15 ?_
          refine mw_iload_n dX3_begin_62 rfl 2 rfl ?_
          refine mw_iconst dX3_begin_63 ki_0 ?_
          refine tw_iast dX3_begin_64 shC_17 (bd_in b128 (by decide)) ?_
          have hI169 : JC (mm_up S167 17 y122.toNatClampNeg 0) := JIC_puta hI166 n_0 b128 (by decide) (by decide +kernel)
          generalize hS170 : (mm_up S167 17 y122.toNatClampNeg 0) = S170 at hI169 ⊢
          have hF171 := fr_upA hF168 hS170 (by decide)
          refine mw_aload_n dX3_begin_65 rfl 0 rfl ?_
          refine tw_getr (j := 5) dX3_begin_66 shC_15 rfl rfl (by decide) fX3_18 ?_
          refine mw_iload_n dX3_begin_69 rfl 2 rfl ?_
          refine mw_aload_n dX3_begin_70 rfl 1 rfl ?_
          refine mw_iload_n dX3_begin_71 rfl 2 rfl ?_
          have hE172 : F_X3_begin S a1 = F_X3_begin_L32ftu72 (F_X3_begin_L32 a1 N32) S170 y122 a1 := (by subst hS170; subst hS167; subst hx134; exact hE125.trans (by rw [F_X3_begin_L32, if_neg q126, if_neg q135]))
          refine tc_Vi (as := [.int y122]) (st := [.int y122, .ref 18]) dX3_begin_72 rfl (shC_parish_0 a1 ha1) rfl rfl mX3_49 t_X6_firstToldHeir rfl (Nat.le_of_ble_eq_true rfl) (by decide) (by decide) (cx_X6_firstToldHeir (g := g) S170 hI169 a1 ha1 y122) (fun S173 v175 h174 => ?_)
          obtain ⟨rfl, b176, x177, hx178⟩ := h174
          refine tw_iast dX3_begin_75 shC_18 (bd_in b128 (by decide)) ?_
          have hI179 : JC (mm_up S170 18 y122.toNatClampNeg v175) := JIC_puta hI169 b176 b128 (by decide) (by decide +kernel)
          generalize hS180 : (mm_up S170 18 y122.toNatClampNeg v175) = S180 at hI179 ⊢
          have hF181 := fr_upA hF171 hS180 (by decide)
          refine mw_aload_n dX3_begin_76 rfl 0 rfl ?_
          refine tw_getr (j := 6) dX3_begin_77 shC_15 rfl rfl (by decide) fX3_21 ?_
          refine mw_iload_n dX3_begin_80 rfl 2 rfl ?_
          refine mw_aload_n dX3_begin_81 rfl 1 rfl ?_
          refine mw_iload_n dX3_begin_82 rfl 2 rfl ?_
          have hE182 : F_X3_begin S a1 = F_X3_begin_L32ftu72u83 (F_X3_begin_L32 a1 N32) S180 y122 a1 := (by subst hS180; subst hx178; exact hE172.trans (by rw [F_X3_begin_L32ftu72]))
          refine tc_Vi (as := [.int y122]) (st := [.int y122, .ref 19]) dX3_begin_83 rfl (shC_parish_0 a1 ha1) rfl rfl mX3_53 t_X6_secondToldHeir rfl (Nat.le_of_ble_eq_true rfl) (by decide) (by decide) (cx_X6_secondToldHeir (g := g) S180 hI179 a1 ha1 y122) (fun S183 v185 h184 => ?_)
          obtain ⟨rfl, b186, x187, hx188⟩ := h184
          refine tw_iast dX3_begin_86 shC_19 (bd_in b128 (by decide)) ?_
          have hI189 : JC (mm_up S180 19 y122.toNatClampNeg v185) := JIC_puta hI179 b186 b128 (by decide) (by decide +kernel)
          generalize hS190 : (mm_up S180 19 y122.toNatClampNeg v185) = S190 at hI189 ⊢
          have hF191 := fr_upA hF181 hS190 (by decide)
          refine mw_iinc (ls' := fun v => [(2, .int v), (0, .ref 15), (1, .ref a1)]) dX3_begin_87 2 rfl (by decide) (fun _ => rfl) (fun v192 ev192 => ?_)
          have b193 : mm_b (1) (7) v192 := bd_inc ev192 b128 (by decide)
          refine mw_goto (tgt := 32) dX3_begin_90 (by decide) ?_
          refine mw_ls [1, 2, 0] rfl ?_
          exact ih32 S190 v192 (ms_inc ev192 b128 (by decide) hm124) hI189 hF191 (bd_w b193 (by decide)) (by subst ev192; subst hS190; subst hx188; exact hE182.trans (by rw [F_X3_begin_L32ftu72u83]))
  refine mw_ls [1, 2, 0] rfl ?_
  exact cut32 9 S117 (0 : Int32) (by have hz := n_0; omega) hI116 hF118 (bd_w n_0 (by decide)) (by subst hS117; subst hS114; subst ev111; subst ev109; subst hS106; subst ev103; subst ev101; rw [F_X3_begin])
def F_X7_forget (S : mm_S)  : mm_S := (mm_up (mm_up S 25 0 (0 : Int32)) 25 1 (0 : Int32))
set_option maxRecDepth 100000 in
set_option maxHeartbeats 4000000 in
theorem cx_X7_forget {g : mm_G} (S : mm_S) (hI : JC S)  : mc g yX7_forget cX7_forget 1 none (mm_rm 0) [.ref 25] (mm_enc shC S) (qv shC (fun S1 => JC S1 ∧ fr [25] [] true true S S1 ∧ True ∧ F_X7_forget S = S1)) := by
  refine mc_of2 (own := RX7) (ini := false) (ls := [(0, .ref 25)]) (by decide) (Nat.le_of_ble_eq_true rfl) rfl (by decide) rfl ?_
  have hF : fr [25] [] true true S S := fr_rf
  refine mw_aload_n dX7_forget_0 rfl 0 rfl ?_
  refine mw_iconst dX7_forget_1 ki_0 ?_
  refine tw_puti (j := 0) dX7_forget_2 shC_25 rfl rfl (by decide) fX7_18 rfl (by decide +kernel) ?_
  have hI101 : JC (mm_up S 25 0 0) := JIC_put hI n_0 (by decide +kernel)
  generalize hS102 : (mm_up S 25 0 0) = S102 at hI101 ⊢
  have hF103 := fr_upA hF hS102 (by decide)
  refine mw_aload_n dX7_forget_5 rfl 0 rfl ?_
  refine mw_iconst dX7_forget_6 ki_0 ?_
  refine tw_puti (j := 1) dX7_forget_7 shC_25 rfl rfl (by decide) fX7_22 rfl (by decide +kernel) ?_
  have hI104 : JC (mm_up S102 25 1 0) := JIC_put hI101 n_0 (by decide +kernel)
  generalize hS105 : (mm_up S102 25 1 0) = S105 at hI104 ⊢
  have hF106 := fr_upA hF103 hS105 (by decide)
  exact mw_vret rfl dX7_forget_10 rfl rfl ⟨S105, rfl, rfl, ⟨hI104, hF106, trivial, (by subst hS105; subst hS102; rw [F_X7_forget])⟩⟩
