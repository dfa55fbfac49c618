/-! ===== constructors: the reference; the worlds at the start ===== -/
def SM0 : mm_S := (fun a j => match a, j with | 0, 11 => -1 | _, _ => 0, fun _ _ => 0, fun _ _ => 0)
def SC0 : mm_S := (fun a j => match a, j with | 1, 2 => -1 | _, _ => 0, fun _ _ => 0, fun a j => match a, j with | 0, 1 => 3 | 0, 2 => 9 | _, _ => 0)
theorem mm_I0 {tb : mm_T} {S : mm_S} {a0 j0 : Nat} (h : ∀ a j, ¬ (a = a0 ∧ j = j0) → S.1 a j = 0) (ht : (tb.all fun q => decide (q.2.2.2.1 ≤ 0) && decide (0 ≤ q.2.2.2.2) && (q.1 != a0 || decide (j0 < q.2.1) || decide (q.2.2.1 < j0))) = true) : mm_I tb S := by
  intro q hq j h1 h2
  have h3 := List.all_eq_true.mp ht q hq
  simp only [Bool.and_eq_true, Bool.or_eq_true, decide_eq_true_eq, bne_iff_ne] at h3
  rw [h q.1 j (fun e => by
    rcases h3.2 with (h4 | h4) | h4
    · exact h4 e.1
    · omega
    · omega)]
  exact ⟨h3.1.1, h3.1.2⟩
theorem SM0_z : ∀ a j, ¬ (a = 0 ∧ j = 11) → SM0.1 a j = 0 := by
  intro a j h
  unfold SM0
  dsimp only
  split
  · exact absurd ⟨rfl, rfl⟩ h
  · rfl
theorem SC0_z : ∀ a j, ¬ (a = 1 ∧ j = 2) → SC0.1 a j = 0 := by
  intro a j h
  unfold SC0
  dsimp only
  split
  · exact absurd ⟨rfl, rfl⟩ h
  · rfl
theorem JM0 : JM SM0 := ⟨mm_I0 SM0_z (by decide +kernel), by unfold XM mm_bl; decide⟩
theorem JC0 : JC SC0 := ⟨mm_I0 SC0_z (by decide +kernel), by unfold XC; decide⟩
theorem k_model0 : ([] ++ [.inl (10, [.ref 1, .ref 2, .ref 3, .ref 4, .ref 5, .int 0, .ref 6, .ref 7, .long 0, .ref 8, .int 0, .int (-1), .ref 9, .int 0, .ref 10, .int 0, .ref 11, .int 0, .int 0, .int 0, .int 0, .int 0, .int 0, .int 0, .ref 12]), .inr (0, 37, .inl (fun _ => 0)), .inr (0, 37, .inl (fun _ => 0)), .inr (0, 30, .inl (fun _ => 0)), .inr (0, 30, .inl (fun _ => 0)), .inr (0, 600, .inl (fun _ => 0)), .inr (0, 62, .inl (fun _ => 0)), .inr (1, 2, .inl (fun _ => 0)), .inr (0, 240, .inl (fun _ => 0)), .inr (0, 12, .inl (fun _ => 0)), .inr (0, 12, .inl (fun _ => 0)), .inr (0, 30, .inl (fun _ => 0)), .inr (0, 896, .inl (fun _ => 0))] : List mm_E) = mm_enc shM SM0 := by rfl
theorem k_model {g : mm_G} : mcn g yX10_init cX10_init 1 (mn_rm 2 12 1988) [.ref 0] [.inl (10, df10)] (qv shM JM) := by
  refine mcn_of (own := RX10) (by decide) (Nat.le_of_ble_eq_true rfl) rfl rfl rfl ?_
  show mn (mn_f g 1) _ _ _ _ _ _ _ _ 0 0 ([] ++ [.inl (10, df10)]) 0 [(0, .ref 0)] []
  refine mn_aload_n dX10_init_0 rfl 0 rfl ?_
  refine mn_objInit dX10_init_1 ko_RX10 kc_O1 kc_O2 (by omega) ⟨Nat.le_of_ble_eq_true rfl, Nat.le_of_ble_eq_true rfl⟩ ?_
  refine mn_aload_n dX10_init_4 rfl 0 rfl ?_
  refine mn_bipush (v := 37) dX10_init_5 (by decide) ?_
  refine mp_newi (j := 1) (b := 0) (t' := [.inl (10, [.null, .null, .null, .null, .null, .int 0, .null, .null, .long 0, .null, .int 0, .int 0, .null, .int 0, .null, .int 0, .null, .int 0, .int 0, .int 0, .int 0, .int 0, .int 0, .int 0, .null]), .inr (0, 37, .inl (fun _ => 0))]) rfl dX10_init_7 rfl rfl (Nat.le_of_ble_eq_true rfl) (by decide) rfl (by omega) (by omega) ⟨Nat.le_of_ble_eq_true rfl, Nat.le_of_ble_eq_true rfl⟩ ?_
  refine mp_putF (i := 0) (b := 0) (t' := [.inl (10, [.ref 1, .null, .null, .null, .null, .int 0, .null, .null, .long 0, .null, .int 0, .int 0, .null, .int 0, .null, .int 0, .null, .int 0, .int 0, .int 0, .int 0, .int 0, .int 0, .int 0, .null]), .inr (0, 37, .inl (fun _ => 0))]) rfl rfl dX10_init_9 rfl rfl rfl (by decide) gX10_7 rfl rfl rfl rfl rfl (Nat.le_of_ble_eq_true rfl) rfl ?_
  refine mn_aload_n dX10_init_12 rfl 0 rfl ?_
  refine mn_bipush (v := 37) dX10_init_13 (by decide) ?_
  refine mp_newi (j := 2) (b := 0) (t' := [.inl (10, [.ref 1, .null, .null, .null, .null, .int 0, .null, .null, .long 0, .null, .int 0, .int 0, .null, .int 0, .null, .int 0, .null, .int 0, .int 0, .int 0, .int 0, .int 0, .int 0, .int 0, .null]), .inr (0, 37, .inl (fun _ => 0)), .inr (0, 37, .inl (fun _ => 0))]) rfl dX10_init_15 rfl rfl (Nat.le_of_ble_eq_true rfl) (by decide) rfl (by omega) (by omega) ⟨Nat.le_of_ble_eq_true rfl, Nat.le_of_ble_eq_true rfl⟩ ?_
  refine mp_putF (i := 0) (b := 0) (t' := [.inl (10, [.ref 1, .ref 2, .null, .null, .null, .int 0, .null, .null, .long 0, .null, .int 0, .int 0, .null, .int 0, .null, .int 0, .null, .int 0, .int 0, .int 0, .int 0, .int 0, .int 0, .int 0, .null]), .inr (0, 37, .inl (fun _ => 0)), .inr (0, 37, .inl (fun _ => 0))]) rfl rfl dX10_init_17 rfl rfl rfl (by decide) gX10_13 rfl rfl rfl rfl rfl (Nat.le_of_ble_eq_true rfl) rfl ?_
  refine mn_aload_n dX10_init_20 rfl 0 rfl ?_
  refine mn_bipush (v := 30) dX10_init_21 (by decide) ?_
  refine mp_newi (j := 3) (b := 0) (t' := [.inl (10, [.ref 1, .ref 2, .null, .null, .null, .int 0, .null, .null, .long 0, .null, .int 0, .int 0, .null, .int 0, .null, .int 0, .null, .int 0, .int 0, .int 0, .int 0, .int 0, .int 0, .int 0, .null]), .inr (0, 37, .inl (fun _ => 0)), .inr (0, 37, .inl (fun _ => 0)), .inr (0, 30, .inl (fun _ => 0))]) rfl dX10_init_23 rfl rfl (Nat.le_of_ble_eq_true rfl) (by decide) rfl (by omega) (by omega) ⟨Nat.le_of_ble_eq_true rfl, Nat.le_of_ble_eq_true rfl⟩ ?_
  refine mp_putF (i := 0) (b := 0) (t' := [.inl (10, [.ref 1, .ref 2, .ref 3, .null, .null, .int 0, .null, .null, .long 0, .null, .int 0, .int 0, .null, .int 0, .null, .int 0, .null, .int 0, .int 0, .int 0, .int 0, .int 0, .int 0, .int 0, .null]), .inr (0, 37, .inl (fun _ => 0)), .inr (0, 37, .inl (fun _ => 0)), .inr (0, 30, .inl (fun _ => 0))]) rfl rfl dX10_init_25 rfl rfl rfl (by decide) gX10_16 rfl rfl rfl rfl rfl (Nat.le_of_ble_eq_true rfl) rfl ?_
  refine mn_aload_n dX10_init_28 rfl 0 rfl ?_
  refine mn_bipush (v := 30) dX10_init_29 (by decide) ?_
  refine mp_newi (j := 4) (b := 0) (t' := [.inl (10, [.ref 1, .ref 2, .ref 3, .null, .null, .int 0, .null, .null, .long 0, .null, .int 0, .int 0, .null, .int 0, .null, .int 0, .null, .int 0, .int 0, .int 0, .int 0, .int 0, .int 0, .int 0, .null]), .inr (0, 37, .inl (fun _ => 0)), .inr (0, 37, .inl (fun _ => 0)), .inr (0, 30, .inl (fun _ => 0)), .inr (0, 30, .inl (fun _ => 0))]) rfl dX10_init_31 rfl rfl (Nat.le_of_ble_eq_true rfl) (by decide) rfl (by omega) (by omega) ⟨Nat.le_of_ble_eq_true rfl, Nat.le_of_ble_eq_true rfl⟩ ?_
  refine mp_putF (i := 0) (b := 0) (t' := [.inl (10, [.ref 1, .ref 2, .ref 3, .ref 4, .null, .int 0, .null, .null, .long 0, .null, .int 0, .int 0, .null, .int 0, .null, .int 0, .null, .int 0, .int 0, .int 0, .int 0, .int 0, .int 0, .int 0, .null]), .inr (0, 37, .inl (fun _ => 0)), .inr (0, 37, .inl (fun _ => 0)), .inr (0, 30, .inl (fun _ => 0)), .inr (0, 30, .inl (fun _ => 0))]) rfl rfl dX10_init_33 rfl rfl rfl (by decide) gX10_19 rfl rfl rfl rfl rfl (Nat.le_of_ble_eq_true rfl) rfl ?_
  refine mn_aload_n dX10_init_36 rfl 0 rfl ?_
  refine mn_sipush (v := 600) dX10_init_37 (by decide) ?_
  refine mp_newi (j := 5) (b := 0) (t' := [.inl (10, [.ref 1, .ref 2, .ref 3, .ref 4, .null, .int 0, .null, .null, .long 0, .null, .int 0, .int 0, .null, .int 0, .null, .int 0, .null, .int 0, .int 0, .int 0, .int 0, .int 0, .int 0, .int 0, .null]), .inr (0, 37, .inl (fun _ => 0)), .inr (0, 37, .inl (fun _ => 0)), .inr (0, 30, .inl (fun _ => 0)), .inr (0, 30, .inl (fun _ => 0)), .inr (0, 600, .inl (fun _ => 0))]) rfl dX10_init_40 rfl rfl (Nat.le_of_ble_eq_true rfl) (by decide) rfl (by omega) (by omega) ⟨Nat.le_of_ble_eq_true rfl, Nat.le_of_ble_eq_true rfl⟩ ?_
  refine mp_putF (i := 0) (b := 0) (t' := [.inl (10, [.ref 1, .ref 2, .ref 3, .ref 4, .ref 5, .int 0, .null, .null, .long 0, .null, .int 0, .int 0, .null, .int 0, .null, .int 0, .null, .int 0, .int 0, .int 0, .int 0, .int 0, .int 0, .int 0, .null]), .inr (0, 37, .inl (fun _ => 0)), .inr (0, 37, .inl (fun _ => 0)), .inr (0, 30, .inl (fun _ => 0)), .inr (0, 30, .inl (fun _ => 0)), .inr (0, 600, .inl (fun _ => 0))]) rfl rfl dX10_init_42 rfl rfl rfl (by decide) gX10_22 rfl rfl rfl rfl rfl (Nat.le_of_ble_eq_true rfl) rfl ?_
  refine mn_aload_n dX10_init_45 rfl 0 rfl ?_
  refine mn_bipush (v := 62) dX10_init_46 (by decide) ?_
  refine mp_newi (j := 6) (b := 0) (t' := [.inl (10, [.ref 1, .ref 2, .ref 3, .ref 4, .ref 5, .int 0, .null, .null, .long 0, .null, .int 0, .int 0, .null, .int 0, .null, .int 0, .null, .int 0, .int 0, .int 0, .int 0, .int 0, .int 0, .int 0, .null]), .inr (0, 37, .inl (fun _ => 0)), .inr (0, 37, .inl (fun _ => 0)), .inr (0, 30, .inl (fun _ => 0)), .inr (0, 30, .inl (fun _ => 0)), .inr (0, 600, .inl (fun _ => 0)), .inr (0, 62, .inl (fun _ => 0))]) rfl dX10_init_48 rfl rfl (Nat.le_of_ble_eq_true rfl) (by decide) rfl (by omega) (by omega) ⟨Nat.le_of_ble_eq_true rfl, Nat.le_of_ble_eq_true rfl⟩ ?_
  refine mp_putF (i := 0) (b := 0) (t' := [.inl (10, [.ref 1, .ref 2, .ref 3, .ref 4, .ref 5, .int 0, .ref 6, .null, .long 0, .null, .int 0, .int 0, .null, .int 0, .null, .int 0, .null, .int 0, .int 0, .int 0, .int 0, .int 0, .int 0, .int 0, .null]), .inr (0, 37, .inl (fun _ => 0)), .inr (0, 37, .inl (fun _ => 0)), .inr (0, 30, .inl (fun _ => 0)), .inr (0, 30, .inl (fun _ => 0)), .inr (0, 600, .inl (fun _ => 0)), .inr (0, 62, .inl (fun _ => 0))]) rfl rfl dX10_init_50 rfl rfl rfl (by decide) gX10_25 rfl rfl rfl rfl rfl (Nat.le_of_ble_eq_true rfl) rfl ?_
  refine mn_aload_n dX10_init_53 rfl 0 rfl ?_
  refine mn_iconst (v := 2) dX10_init_54 (by decide) ?_
  refine mp_newz (j := 7) (b := 0) (t' := [.inl (10, [.ref 1, .ref 2, .ref 3, .ref 4, .ref 5, .int 0, .ref 6, .null, .long 0, .null, .int 0, .int 0, .null, .int 0, .null, .int 0, .null, .int 0, .int 0, .int 0, .int 0, .int 0, .int 0, .int 0, .null]), .inr (0, 37, .inl (fun _ => 0)), .inr (0, 37, .inl (fun _ => 0)), .inr (0, 30, .inl (fun _ => 0)), .inr (0, 30, .inl (fun _ => 0)), .inr (0, 600, .inl (fun _ => 0)), .inr (0, 62, .inl (fun _ => 0)), .inr (1, 2, .inl (fun _ => 0))]) rfl dX10_init_55 rfl rfl (Nat.le_of_ble_eq_true rfl) (by decide) rfl (by omega) (by omega) ⟨Nat.le_of_ble_eq_true rfl, Nat.le_of_ble_eq_true rfl⟩ ?_
  refine mp_putF (i := 0) (b := 0) (t' := [.inl (10, [.ref 1, .ref 2, .ref 3, .ref 4, .ref 5, .int 0, .ref 6, .ref 7, .long 0, .null, .int 0, .int 0, .null, .int 0, .null, .int 0, .null, .int 0, .int 0, .int 0, .int 0, .int 0, .int 0, .int 0, .null]), .inr (0, 37, .inl (fun _ => 0)), .inr (0, 37, .inl (fun _ => 0)), .inr (0, 30, .inl (fun _ => 0)), .inr (0, 30, .inl (fun _ => 0)), .inr (0, 600, .inl (fun _ => 0)), .inr (0, 62, .inl (fun _ => 0)), .inr (1, 2, .inl (fun _ => 0))]) rfl rfl dX10_init_57 rfl rfl rfl (by decide) gX10_28 rfl rfl rfl rfl rfl (Nat.le_of_ble_eq_true rfl) rfl ?_
  refine mn_aload_n dX10_init_60 rfl 0 rfl ?_
  refine mn_sipush (v := 240) dX10_init_61 (by decide) ?_
  refine mp_newi (j := 8) (b := 0) (t' := [.inl (10, [.ref 1, .ref 2, .ref 3, .ref 4, .ref 5, .int 0, .ref 6, .ref 7, .long 0, .null, .int 0, .int 0, .null, .int 0, .null, .int 0, .null, .int 0, .int 0, .int 0, .int 0, .int 0, .int 0, .int 0, .null]), .inr (0, 37, .inl (fun _ => 0)), .inr (0, 37, .inl (fun _ => 0)), .inr (0, 30, .inl (fun _ => 0)), .inr (0, 30, .inl (fun _ => 0)), .inr (0, 600, .inl (fun _ => 0)), .inr (0, 62, .inl (fun _ => 0)), .inr (1, 2, .inl (fun _ => 0)), .inr (0, 240, .inl (fun _ => 0))]) rfl dX10_init_64 rfl rfl (Nat.le_of_ble_eq_true rfl) (by decide) rfl (by omega) (by omega) ⟨Nat.le_of_ble_eq_true rfl, Nat.le_of_ble_eq_true rfl⟩ ?_
  refine mp_putF (i := 0) (b := 0) (t' := [.inl (10, [.ref 1, .ref 2, .ref 3, .ref 4, .ref 5, .int 0, .ref 6, .ref 7, .long 0, .ref 8, .int 0, .int 0, .null, .int 0, .null, .int 0, .null, .int 0, .int 0, .int 0, .int 0, .int 0, .int 0, .int 0, .null]), .inr (0, 37, .inl (fun _ => 0)), .inr (0, 37, .inl (fun _ => 0)), .inr (0, 30, .inl (fun _ => 0)), .inr (0, 30, .inl (fun _ => 0)), .inr (0, 600, .inl (fun _ => 0)), .inr (0, 62, .inl (fun _ => 0)), .inr (1, 2, .inl (fun _ => 0)), .inr (0, 240, .inl (fun _ => 0))]) rfl rfl dX10_init_66 rfl rfl rfl (by decide) gX10_32 rfl rfl rfl rfl rfl (Nat.le_of_ble_eq_true rfl) rfl ?_
  refine mn_aload_n dX10_init_69 rfl 0 rfl ?_
  refine mn_iconst (v := -1) dX10_init_70 (by decide) ?_
  refine mp_put (i := 0) (b := 0) (t' := [.inl (10, [.ref 1, .ref 2, .ref 3, .ref 4, .ref 5, .int 0, .ref 6, .ref 7, .long 0, .ref 8, .int 0, .int (-1), .null, .int 0, .null, .int 0, .null, .int 0, .int 0, .int 0, .int 0, .int 0, .int 0, .int 0, .null]), .inr (0, 37, .inl (fun _ => 0)), .inr (0, 37, .inl (fun _ => 0)), .inr (0, 30, .inl (fun _ => 0)), .inr (0, 30, .inl (fun _ => 0)), .inr (0, 600, .inl (fun _ => 0)), .inr (0, 62, .inl (fun _ => 0)), .inr (1, 2, .inl (fun _ => 0)), .inr (0, 240, .inl (fun _ => 0))]) rfl dX10_init_71 rfl rfl rfl (by decide) gX10_35 rfl rfl rfl rfl (Nat.le_of_ble_eq_true rfl) rfl ?_
  refine mn_aload_n dX10_init_74 rfl 0 rfl ?_
  refine mn_bipush (v := 12) dX10_init_75 (by decide) ?_
  refine mp_newi (j := 9) (b := 0) (t' := [.inl (10, [.ref 1, .ref 2, .ref 3, .ref 4, .ref 5, .int 0, .ref 6, .ref 7, .long 0, .ref 8, .int 0, .int (-1), .null, .int 0, .null, .int 0, .null, .int 0, .int 0, .int 0, .int 0, .int 0, .int 0, .int 0, .null]), .inr (0, 37, .inl (fun _ => 0)), .inr (0, 37, .inl (fun _ => 0)), .inr (0, 30, .inl (fun _ => 0)), .inr (0, 30, .inl (fun _ => 0)), .inr (0, 600, .inl (fun _ => 0)), .inr (0, 62, .inl (fun _ => 0)), .inr (1, 2, .inl (fun _ => 0)), .inr (0, 240, .inl (fun _ => 0)), .inr (0, 12, .inl (fun _ => 0))]) rfl dX10_init_77 rfl rfl (Nat.le_of_ble_eq_true rfl) (by decide) rfl (by omega) (by omega) ⟨Nat.le_of_ble_eq_true rfl, Nat.le_of_ble_eq_true rfl⟩ ?_
  refine mp_putF (i := 0) (b := 0) (t' := [.inl (10, [.ref 1, .ref 2, .ref 3, .ref 4, .ref 5, .int 0, .ref 6, .ref 7, .long 0, .ref 8, .int 0, .int (-1), .ref 9, .int 0, .null, .int 0, .null, .int 0, .int 0, .int 0, .int 0, .int 0, .int 0, .int 0, .null]), .inr (0, 37, .inl (fun _ => 0)), .inr (0, 37, .inl (fun _ => 0)), .inr (0, 30, .inl (fun _ => 0)), .inr (0, 30, .inl (fun _ => 0)), .inr (0, 600, .inl (fun _ => 0)), .inr (0, 62, .inl (fun _ => 0)), .inr (1, 2, .inl (fun _ => 0)), .inr (0, 240, .inl (fun _ => 0)), .inr (0, 12, .inl (fun _ => 0))]) rfl rfl dX10_init_79 rfl rfl rfl (by decide) gX10_39 rfl rfl rfl rfl rfl (Nat.le_of_ble_eq_true rfl) rfl ?_
  refine mn_aload_n dX10_init_82 rfl 0 rfl ?_
  refine mn_bipush (v := 12) dX10_init_83 (by decide) ?_
  refine mp_newi (j := 10) (b := 0) (t' := [.inl (10, [.ref 1, .ref 2, .ref 3, .ref 4, .ref 5, .int 0, .ref 6, .ref 7, .long 0, .ref 8, .int 0, .int (-1), .ref 9, .int 0, .null, .int 0, .null, .int 0, .int 0, .int 0, .int 0, .int 0, .int 0, .int 0, .null]), .inr (0, 37, .inl (fun _ => 0)), .inr (0, 37, .inl (fun _ => 0)), .inr (0, 30, .inl (fun _ => 0)), .inr (0, 30, .inl (fun _ => 0)), .inr (0, 600, .inl (fun _ => 0)), .inr (0, 62, .inl (fun _ => 0)), .inr (1, 2, .inl (fun _ => 0)), .inr (0, 240, .inl (fun _ => 0)), .inr (0, 12, .inl (fun _ => 0)), .inr (0, 12, .inl (fun _ => 0))]) rfl dX10_init_85 rfl rfl (Nat.le_of_ble_eq_true rfl) (by decide) rfl (by omega) (by omega) ⟨Nat.le_of_ble_eq_true rfl, Nat.le_of_ble_eq_true rfl⟩ ?_
  refine mp_putF (i := 0) (b := 0) (t' := [.inl (10, [.ref 1, .ref 2, .ref 3, .ref 4, .ref 5, .int 0, .ref 6, .ref 7, .long 0, .ref 8, .int 0, .int (-1), .ref 9, .int 0, .ref 10, .int 0, .null, .int 0, .int 0, .int 0, .int 0, .int 0, .int 0, .int 0, .null]), .inr (0, 37, .inl (fun _ => 0)), .inr (0, 37, .inl (fun _ => 0)), .inr (0, 30, .inl (fun _ => 0)), .inr (0, 30, .inl (fun _ => 0)), .inr (0, 600, .inl (fun _ => 0)), .inr (0, 62, .inl (fun _ => 0)), .inr (1, 2, .inl (fun _ => 0)), .inr (0, 240, .inl (fun _ => 0)), .inr (0, 12, .inl (fun _ => 0)), .inr (0, 12, .inl (fun _ => 0))]) rfl rfl dX10_init_87 rfl rfl rfl (by decide) gX10_42 rfl rfl rfl rfl rfl (Nat.le_of_ble_eq_true rfl) rfl ?_
  refine mn_aload_n dX10_init_90 rfl 0 rfl ?_
  refine mn_bipush (v := 30) dX10_init_91 (by decide) ?_
  refine mp_newi (j := 11) (b := 0) (t' := [.inl (10, [.ref 1, .ref 2, .ref 3, .ref 4, .ref 5, .int 0, .ref 6, .ref 7, .long 0, .ref 8, .int 0, .int (-1), .ref 9, .int 0, .ref 10, .int 0, .null, .int 0, .int 0, .int 0, .int 0, .int 0, .int 0, .int 0, .null]), .inr (0, 37, .inl (fun _ => 0)), .inr (0, 37, .inl (fun _ => 0)), .inr (0, 30, .inl (fun _ => 0)), .inr (0, 30, .inl (fun _ => 0)), .inr (0, 600, .inl (fun _ => 0)), .inr (0, 62, .inl (fun _ => 0)), .inr (1, 2, .inl (fun _ => 0)), .inr (0, 240, .inl (fun _ => 0)), .inr (0, 12, .inl (fun _ => 0)), .inr (0, 12, .inl (fun _ => 0)), .inr (0, 30, .inl (fun _ => 0))]) rfl dX10_init_93 rfl rfl (Nat.le_of_ble_eq_true rfl) (by decide) rfl (by omega) (by omega) ⟨Nat.le_of_ble_eq_true rfl, Nat.le_of_ble_eq_true rfl⟩ ?_
  refine mp_putF (i := 0) (b := 0) (t' := [.inl (10, [.ref 1, .ref 2, .ref 3, .ref 4, .ref 5, .int 0, .ref 6, .ref 7, .long 0, .ref 8, .int 0, .int (-1), .ref 9, .int 0, .ref 10, .int 0, .ref 11, .int 0, .int 0, .int 0, .int 0, .int 0, .int 0, .int 0, .null]), .inr (0, 37, .inl (fun _ => 0)), .inr (0, 37, .inl (fun _ => 0)), .inr (0, 30, .inl (fun _ => 0)), .inr (0, 30, .inl (fun _ => 0)), .inr (0, 600, .inl (fun _ => 0)), .inr (0, 62, .inl (fun _ => 0)), .inr (1, 2, .inl (fun _ => 0)), .inr (0, 240, .inl (fun _ => 0)), .inr (0, 12, .inl (fun _ => 0)), .inr (0, 12, .inl (fun _ => 0)), .inr (0, 30, .inl (fun _ => 0))]) rfl rfl dX10_init_95 rfl rfl rfl (by decide) gX10_45 rfl rfl rfl rfl rfl (Nat.le_of_ble_eq_true rfl) rfl ?_
  refine mn_aload_n dX10_init_98 rfl 0 rfl ?_
  refine mn_sipush (v := 896) dX10_init_99 (by decide) ?_
  refine mp_newi (j := 12) (b := 0) (t' := [.inl (10, [.ref 1, .ref 2, .ref 3, .ref 4, .ref 5, .int 0, .ref 6, .ref 7, .long 0, .ref 8, .int 0, .int (-1), .ref 9, .int 0, .ref 10, .int 0, .ref 11, .int 0, .int 0, .int 0, .int 0, .int 0, .int 0, .int 0, .null]), .inr (0, 37, .inl (fun _ => 0)), .inr (0, 37, .inl (fun _ => 0)), .inr (0, 30, .inl (fun _ => 0)), .inr (0, 30, .inl (fun _ => 0)), .inr (0, 600, .inl (fun _ => 0)), .inr (0, 62, .inl (fun _ => 0)), .inr (1, 2, .inl (fun _ => 0)), .inr (0, 240, .inl (fun _ => 0)), .inr (0, 12, .inl (fun _ => 0)), .inr (0, 12, .inl (fun _ => 0)), .inr (0, 30, .inl (fun _ => 0)), .inr (0, 896, .inl (fun _ => 0))]) rfl dX10_init_102 rfl rfl (Nat.le_of_ble_eq_true rfl) (by decide) rfl (by omega) (by omega) ⟨Nat.le_of_ble_eq_true rfl, Nat.le_of_ble_eq_true rfl⟩ ?_
  refine mp_putF (i := 0) (b := 0) (t' := [.inl (10, [.ref 1, .ref 2, .ref 3, .ref 4, .ref 5, .int 0, .ref 6, .ref 7, .long 0, .ref 8, .int 0, .int (-1), .ref 9, .int 0, .ref 10, .int 0, .ref 11, .int 0, .int 0, .int 0, .int 0, .int 0, .int 0, .int 0, .ref 12]), .inr (0, 37, .inl (fun _ => 0)), .inr (0, 37, .inl (fun _ => 0)), .inr (0, 30, .inl (fun _ => 0)), .inr (0, 30, .inl (fun _ => 0)), .inr (0, 600, .inl (fun _ => 0)), .inr (0, 62, .inl (fun _ => 0)), .inr (1, 2, .inl (fun _ => 0)), .inr (0, 240, .inl (fun _ => 0)), .inr (0, 12, .inl (fun _ => 0)), .inr (0, 12, .inl (fun _ => 0)), .inr (0, 30, .inl (fun _ => 0)), .inr (0, 896, .inl (fun _ => 0))]) rfl rfl dX10_init_104 rfl rfl rfl (by decide) gX10_48 rfl rfl rfl rfl rfl (Nat.le_of_ble_eq_true rfl) rfl ?_
  rw [k_model0]
  refine mn_aload_n dX10_init_107 rfl 0 rfl ?_
  refine mn_get dX10_init_108 (mm_enc_get shM_0) rfl (by decide) gX10_7 rfl ?_
  refine mn_callS (as := [.ref 1]) (st := []) dX10_init_111 rfl mX10_51 t_X10_blank rfl (Nat.le_of_ble_eq_true rfl) ⟨Nat.le_of_ble_eq_true rfl, Nat.le_of_ble_eq_true rfl⟩ ⟨Nat.le_of_ble_eq_true rfl, Nat.le_of_ble_eq_true rfl⟩ (c_X10_blank1 (g := g) SM0 JM0) (fun r w1 hq => ?_)
  obtain ⟨S1, rfl, rfl, h1, -, -⟩ := hq
  refine mn_aload_n dX10_init_114 rfl 0 rfl ?_
  refine mn_callV (as := []) (st := []) dX10_init_115 rfl (mm_enc_get shM_0) rfl rfl mX10_55 t_X10_begins rfl (Nat.le_of_ble_eq_true rfl) ⟨Nat.le_of_ble_eq_true rfl, Nat.le_of_ble_eq_true rfl⟩ ⟨Nat.le_of_ble_eq_true rfl, Nat.le_of_ble_eq_true rfl⟩ (c_X10_begins (g := g) S1 h1) (fun r w1 hq => ?_)
  obtain ⟨S2, rfl, rfl, h2, -, -⟩ := hq
  exact mn_vret rfl dX10_init_118 rfl rfl ⟨S2, rfl, rfl, h2⟩
theorem kq_choir : (fun i => if i < 7 then some (0 + 140 + 3 + 1 + i) else none) = fun i => ([144, 145, 146, 147, 148, 149, 150] : List Nat)[i]? := by
  funext i
  match i with
  | 0 | 1 | 2 | 3 | 4 | 5 | 6 => rfl
  | n + 7 => simp
set_option maxRecDepth 100000 in
set_option maxHeartbeats 8000000 in
theorem k_class0 : ([] ++ rs_class 0 : List mm_E) = mm_enc shC SC0 := by
  unfold rs_class vq_8 vq_7 vq_6 rs_choir
  rw [kq_choir]
  rfl
theorem mcn_wk {g : mm_G} {y : MethodName} {cc : ByteArray} {nL : Nat} {rm : Room} {as : List Value} {w : List mm_E} {Q Q2 : Option Value → List mm_E → Prop} (h : mcn g y cc nL rm as w Q) (hq : ∀ r w, Q r w → Q2 r w) : mcn g y cc nL rm as w Q2 := by
  intro l p e ha hc hk s m args below hf happ hP hK
  obtain ⟨t, o, h1, h2, h3, h4⟩ := h l p e ha hc hk s m args below hf happ hP hK
  refine ⟨t, o, h1, h2, h3, ?_⟩
  obtain ⟨⟨⟨r, w1, a1, a2, a3⟩, a4⟩, a5⟩ := h4
  exact ⟨⟨⟨r, w1, a1, hq r w1 a2, a3⟩, a4⟩, a5⟩
theorem k_class1 {g : mm_G} : mcn g yX9_init cX9_init 2 (mn_rm 3 162 2193) [.ref 0] [.inl (9, df9)] (qv shC JC) := mcn_wk (k_class (g := g) [] 0 rfl (by decide)) (fun r w ⟨h1, h2⟩ => ⟨SC0, h1, h2.trans k_class0, JC0⟩)
