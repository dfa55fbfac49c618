/-! ===== the class: walks by hand ===== -/
set_option maxRecDepth 100000 in
set_option maxHeartbeats 4000000 in
theorem c_X9_imageOf {g : mm_G} (S : mm_S) (hI : JC S) (x1 : Int32) : mc g yX9_imageOf cX9_imageOf 2 (some (.object "VoiceWills$Image")) (mm_rm 0) [.ref 0, .int x1] (mm_enc shC S) (qr shC (fun S1 v => S = S1 ∧ ((v = .null ∧ ¬ mm_b 0 1 x1) ∨ ∃ a, a ∈ LC_image ∧ v = .ref a ∧ mm_b 0 1 x1))) := by
  refine mc_of2 (own := RX9) (ini := false) (ls := [(0, .ref 0), (1, .int x1)]) (by decide) (Nat.le_of_ble_eq_true rfl) rfl (by decide) rfl ?_
  refine mw_iload_n dX9_imageOf_0 rfl 1 rfl ?_
  refine mw_if_lt (tgt := 22) dX9_imageOf_1 (by decide) (fun q => ?_) (fun q => ?_)
  · refine mw_null dX9_imageOf_22 ?_
    have h1 := Int32.lt_iff_toInt_lt.mp q
    exact mw_aret rfl (Or.inl rfl) dX9_imageOf_23 rfl rfl ⟨S, _, rfl, rfl, rfl, Or.inl ⟨rfl, fun h => absurd h1 (by show ¬ x1.toInt < 0; omega)⟩⟩
  · have b1 : mm_b 0 2147483647 x1 := bd_le_r (bd_nlt q) n_0 (bd_all x1) (by decide)
    refine mw_iload_n dX9_imageOf_4 rfl 1 rfl ?_
    refine mw_aload_n dX9_imageOf_5 rfl 0 rfl ?_
    refine tw_getr (j := 6) dX9_imageOf_6 shC_0 rfl rfl (by decide) fX9_45 ?_
    refine tw_alenr (v := 2) dX9_imageOf_9 shC_127 rfl (by decide) ?_
    refine mw_icmp_ge (tgt := 22) dX9_imageOf_10 (by decide) (fun q2 => ?_) (fun q2 => ?_)
    · refine mw_null dX9_imageOf_22 ?_
      have h1 := Int32.le_iff_toInt_le.mp q2
      have h2 : (2 : Int32).toInt = 2 := rfl
      exact mw_aret rfl (Or.inl rfl) dX9_imageOf_23 rfl rfl ⟨S, _, rfl, rfl, rfl, Or.inl ⟨rfl, fun h => absurd h.2 (by omega)⟩⟩
    · have b2 : mm_b 0 1 x1 := bd_lt_l (bd_nle q2) b1 n_2 (by decide)
      refine mw_aload_n dX9_imageOf_13 rfl 0 rfl ?_
      refine tw_getr (j := 6) dX9_imageOf_14 shC_0 rfl rfl (by decide) fX9_45 ?_
      refine mw_iload_n dX9_imageOf_17 rfl 1 rfl ?_
      obtain ⟨a, ea, ha⟩ := AAC_127 b2 (by decide)
      refine tw_aald dX9_imageOf_18 shC_127 rfl rfl (bd_in b2 (by decide)) ea (LC_image_lt ha) ?_
      refine mw_goto (tgt := 23) dX9_imageOf_19 (by decide) ?_
      exact mw_aret rfl (Or.inr ⟨_, rfl⟩) dX9_imageOf_23 rfl rfl ⟨S, _, rfl, rfl, rfl, Or.inr ⟨a, ha, rfl, b2⟩⟩
