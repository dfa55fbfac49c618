/-! ===== the class: walks by hand ===== -/
set_option maxRecDepth 100000 in
set_option maxHeartbeats 4000000 in
theorem c_X8_letterHere {g : mm_G} (S : mm_S) (hI : JC S) : mc g yX8_letterHere cX8_letterHere 1 (some .int) (mm_rm 0) [.ref 1] (mm_enc shC S) (qi shC (fun S1 v => S = S1 ∧ mm_b (-1) 255 v ∧ (v = -1 ∨ mm_b 0 239 (S.1 1 3)))) := by
  refine mc_of2 (own := RX8) (ini := false) (ls := [(0, .ref 1)]) (by decide) (Nat.le_of_ble_eq_true rfl) rfl (by decide) rfl ?_
  refine mw_aload_n dX8_letterHere_0 rfl 0 rfl ?_
  refine tw_geti (j := 3) dX8_letterHere_1 shC_1 rfl rfl (by decide) fX8_27 (fun v1 e1 => ?_)
  have b1 : mm_b 0 240 v1 := JIC_fld hI e1 tbC_1 (by decide)
  refine mw_aload_n dX8_letterHere_4 rfl 0 rfl ?_
  refine tw_geti (j := 0) dX8_letterHere_5 shC_1 rfl rfl (by decide) fX8_19 (fun v2 e2 => ?_)
  have b2 : mm_b 0 240 v2 := JIC_fld hI e2 tbC_0 (by decide)
  refine mw_icmp_ge (tgt := 35) dX8_letterHere_8 (by decide) (fun q => ?_) (fun q => ?_)
  · refine mw_iconst dX8_letterHere_35 ki_m1 ?_
    exact mw_iret rfl dX8_letterHere_36 rfl rfl ⟨S, _, rfl, rfl, rfl, bd_w n_m1 (by decide), Or.inl rfl⟩
  · have b3 : mm_b 0 239 v1 := bd_lt_l (bd_nle q) b1 b2 (by decide)
    refine mw_aload_n dX8_letterHere_11 rfl 0 rfl ?_
    refine tw_geti (j := 3) dX8_letterHere_12 shC_1 rfl rfl (by decide) fX8_27 (fun v4 e4 => ?_)
    have c4 : v1 = v4 := e1.trans e4.symm
    subst c4
    refine mw_aload_n dX8_letterHere_15 rfl 0 rfl ?_
    refine tw_getr (j := 5) dX8_letterHere_16 shC_1 rfl rfl (by decide) fX8_15 ?_
    refine tw_aleni (v := 240) dX8_letterHere_19 shC_2 rfl (by decide) ?_
    refine mw_icmp_ge (tgt := 35) dX8_letterHere_20 (by decide) (fun q2 => ?_) (fun q2 => ?_)
    · refine mw_iconst dX8_letterHere_35 ki_m1 ?_
      exact mw_iret rfl dX8_letterHere_36 rfl rfl ⟨S, _, rfl, rfl, rfl, bd_w n_m1 (by decide), Or.inl rfl⟩
    · refine mw_aload_n dX8_letterHere_23 rfl 0 rfl ?_
      refine tw_getr (j := 5) dX8_letterHere_24 shC_1 rfl rfl (by decide) fX8_15 ?_
      refine mw_aload_n dX8_letterHere_27 rfl 0 rfl ?_
      refine tw_geti (j := 3) dX8_letterHere_28 shC_1 rfl rfl (by decide) fX8_27 (fun v5 e5 => ?_)
      have c5 : v1 = v5 := e1.trans e5.symm
      subst c5
      refine tw_iald dX8_letterHere_31 shC_2 (bd_in b3 (by decide)) (fun v6 e6 => ?_)
      have b6 : mm_b 0 255 v6 := JIC_elt hI e6 b3 tbC_2 (by decide)
      refine mw_goto (tgt := 36) dX8_letterHere_32 (by decide) ?_
      exact mw_iret rfl dX8_letterHere_36 rfl rfl ⟨S, _, rfl, rfl, rfl, bd_w b6 (by decide), Or.inr (by rw [← e1]; exact b3)⟩
set_option maxRecDepth 100000 in
set_option maxHeartbeats 4000000 in
theorem c_X9_imageOf {g : mm_G} (S : mm_S) (hI : JC S) (x1 : Int32) : mc g yX9_imageOf cX9_imageOf 2 (some (.object "VoiceWills$Image")) (mm_rm 0) [.ref 0, .int x1] (mm_enc shC S) (qr shC (fun S1 v => S = S1 ∧ ((v = .null ∧ ¬ mm_b 0 1 x1) ∨ ∃ a, a ∈ LC_image ∧ v = .ref a ∧ mm_b 0 1 x1))) := by
  refine mc_of2 (own := RX9) (ini := false) (ls := [(0, .ref 0), (1, .int x1)]) (by decide) (Nat.le_of_ble_eq_true rfl) rfl (by decide) rfl ?_
  refine mw_iload_n dX9_imageOf_0 rfl 1 rfl ?_
  refine mw_if_lt (tgt := 22) dX9_imageOf_1 (by decide) (fun q => ?_) (fun q => ?_)
  · refine mw_null dX9_imageOf_22 ?_
    have h1 := Int32.lt_iff_toInt_lt.mp q
    exact mw_aret rfl (Or.inl rfl) dX9_imageOf_23 rfl rfl ⟨S, _, rfl, rfl, rfl, Or.inl ⟨rfl, fun h => absurd h1 (by show ¬ x1.toInt < 0; omega)⟩⟩
  · have b1 : mm_b 0 2147483647 x1 := bd_le_r (bd_nlt q) n_0 (bd_all x1) (by decide)
    refine mw_iload_n dX9_imageOf_4 rfl 1 rfl ?_
    refine mw_aload_n dX9_imageOf_5 rfl 0 rfl ?_
    refine tw_getr (j := 6) dX9_imageOf_6 shC_0 rfl rfl (by decide) fX9_45 ?_
    refine tw_alenr (v := 2) dX9_imageOf_9 shC_127 rfl (by decide) ?_
    refine mw_icmp_ge (tgt := 22) dX9_imageOf_10 (by decide) (fun q2 => ?_) (fun q2 => ?_)
    · refine mw_null dX9_imageOf_22 ?_
      have h1 := Int32.le_iff_toInt_le.mp q2
      have h2 : (2 : Int32).toInt = 2 := rfl
      exact mw_aret rfl (Or.inl rfl) dX9_imageOf_23 rfl rfl ⟨S, _, rfl, rfl, rfl, Or.inl ⟨rfl, fun h => absurd h.2 (by omega)⟩⟩
    · have b2 : mm_b 0 1 x1 := bd_lt_l (bd_nle q2) b1 n_2 (by decide)
      refine mw_aload_n dX9_imageOf_13 rfl 0 rfl ?_
      refine tw_getr (j := 6) dX9_imageOf_14 shC_0 rfl rfl (by decide) fX9_45 ?_
      refine mw_iload_n dX9_imageOf_17 rfl 1 rfl ?_
      obtain ⟨a, ea, ha⟩ := AAC_127 b2 (by decide)
      refine tw_aald dX9_imageOf_18 shC_127 rfl rfl (bd_in b2 (by decide)) ea (LC_image_lt ha) ?_
      refine mw_goto (tgt := 23) dX9_imageOf_19 (by decide) ?_
      exact mw_aret rfl (Or.inr ⟨_, rfl⟩) dX9_imageOf_23 rfl rfl ⟨S, _, rfl, rfl, rfl, Or.inr ⟨a, ha, rfl, b2⟩⟩
