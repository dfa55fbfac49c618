/-! ===== the start told exactly; orders with its frame ===== -/
def SM1 (S : mm_S) : Prop := S = F_X10_begins (F_X10_blank1 SM0)
set_option maxRecDepth 100000 in
set_option maxHeartbeats 8000000 in
theorem k_modelx {g : mm_G} : mcn g yX10_init cX10_init 1 (mn_rm 2 12 1988) [.ref 0] [.inl (10, df10)] (qv shM (fun S => JM S ∧ SM1 S)) := by
  refine mcn_of (own := RX10) (by decide) (Nat.le_of_ble_eq_true rfl) rfl rfl rfl ?_
  show mn (mn_f g 1) _ _ _ _ _ _ _ _ 0 0 ([] ++ [.inl (10, df10)]) 0 [(0, .ref 0)] []
  refine mn_aload_n dX10_init_0 rfl 0 rfl ?_
  refine mn_objInit dX10_init_1 ko_RX10 kc_O1 kc_O2 (by omega) ⟨Nat.le_of_ble_eq_true rfl, Nat.le_of_ble_eq_true rfl⟩ ?_
  refine mn_aload_n dX10_init_4 rfl 0 rfl ?_
  refine mn_bipush (v := 37) dX10_init_5 (by decide) ?_
  refine mp_newi (j := 1) (b := 0) (t' := [.inl (10, [.null, .null, .null, .null, .null, .int 0, .null, .null, .long 0, .null, .int 0, .int 0, .null, .int 0, .null, .int 0, .null, .int 0, .int 0, .int 0, .int 0, .int 0, .int 0, .int 0, .null]), .inr (0, 37, .inl (fun _ => 0))]) rfl dX10_init_7 rfl rfl (Nat.le_of_ble_eq_true rfl) (by decide) rfl (by omega) (by omega) ⟨Nat.le_of_ble_eq_true rfl, Nat.le_of_ble_eq_true rfl⟩ ?_
  refine mp_putF (i := 0) (b := 0) (t' := [.inl (10, [.ref 1, .null, .null, .null, .null, .int 0, .null, .null, .long 0, .null, .int 0, .int 0, .null, .int 0, .null, .int 0, .null, .int 0, .int 0, .int 0, .int 0, .int 0, .int 0, .int 0, .null]), .inr (0, 37, .inl (fun _ => 0))]) rfl rfl dX10_init_9 rfl rfl rfl (by decide) gX10_7 rfl rfl rfl rfl rfl (Nat.le_of_ble_eq_true rfl) rfl ?_
  refine mn_aload_n dX10_init_12 rfl 0 rfl ?_
  refine mn_bipush (v := 37) dX10_init_13 (by decide) ?_
  refine mp_newi (j := 2) (b := 0) (t' := [.inl (10, [.ref 1, .null, .null, .null, .null, .int 0, .null, .null, .long 0, .null, .int 0, .int 0, .null, .int 0, .null, .int 0, .null, .int 0, .int 0, .int 0, .int 0, .int 0, .int 0, .int 0, .null]), .inr (0, 37, .inl (fun _ => 0)), .inr (0, 37, .inl (fun _ => 0))]) rfl dX10_init_15 rfl rfl (Nat.le_of_ble_eq_true rfl) (by decide) rfl (by omega) (by omega) ⟨Nat.le_of_ble_eq_true rfl, Nat.le_of_ble_eq_true rfl⟩ ?_
  refine mp_putF (i := 0) (b := 0) (t' := [.inl (10, [.ref 1, .ref 2, .null, .null, .null, .int 0, .null, .null, .long 0, .null, .int 0, .int 0, .null, .int 0, .null, .int 0, .null, .int 0, .int 0, .int 0, .int 0, .int 0, .int 0, .int 0, .null]), .inr (0, 37, .inl (fun _ => 0)), .inr (0, 37, .inl (fun _ => 0))]) rfl rfl dX10_init_17 rfl rfl rfl (by decide) gX10_13 rfl rfl rfl rfl rfl (Nat.le_of_ble_eq_true rfl) rfl ?_
  refine mn_aload_n dX10_init_20 rfl 0 rfl ?_
  refine mn_bipush (v := 30) dX10_init_21 (by decide) ?_
  refine mp_newi (j := 3) (b := 0) (t' := [.inl (10, [.ref 1, .ref 2, .null, .null, .null, .int 0, .null, .null, .long 0, .null, .int 0, .int 0, .null, .int 0, .null, .int 0, .null, .int 0, .int 0, .int 0, .int 0, .int 0, .int 0, .int 0, .null]), .inr (0, 37, .inl (fun _ => 0)), .inr (0, 37, .inl (fun _ => 0)), .inr (0, 30, .inl (fun _ => 0))]) rfl dX10_init_23 rfl rfl (Nat.le_of_ble_eq_true rfl) (by decide) rfl (by omega) (by omega) ⟨Nat.le_of_ble_eq_true rfl, Nat.le_of_ble_eq_true rfl⟩ ?_
  refine mp_putF (i := 0) (b := 0) (t' := [.inl (10, [.ref 1, .ref 2, .ref 3, .null, .null, .int 0, .null, .null, .long 0, .null, .int 0, .int 0, .null, .int 0, .null, .int 0, .null, .int 0, .int 0, .int 0, .int 0, .int 0, .int 0, .int 0, .null]), .inr (0, 37, .inl (fun _ => 0)), .inr (0, 37, .inl (fun _ => 0)), .inr (0, 30, .inl (fun _ => 0))]) rfl rfl dX10_init_25 rfl rfl rfl (by decide) gX10_16 rfl rfl rfl rfl rfl (Nat.le_of_ble_eq_true rfl) rfl ?_
  refine mn_aload_n dX10_init_28 rfl 0 rfl ?_
  refine mn_bipush (v := 30) dX10_init_29 (by decide) ?_
  refine mp_newi (j := 4) (b := 0) (t' := [.inl (10, [.ref 1, .ref 2, .ref 3, .null, .null, .int 0, .null, .null, .long 0, .null, .int 0, .int 0, .null, .int 0, .null, .int 0, .null, .int 0, .int 0, .int 0, .int 0, .int 0, .int 0, .int 0, .null]), .inr (0, 37, .inl (fun _ => 0)), .inr (0, 37, .inl (fun _ => 0)), .inr (0, 30, .inl (fun _ => 0)), .inr (0, 30, .inl (fun _ => 0))]) rfl dX10_init_31 rfl rfl (Nat.le_of_ble_eq_true rfl) (by decide) rfl (by omega) (by omega) ⟨Nat.le_of_ble_eq_true rfl, Nat.le_of_ble_eq_true rfl⟩ ?_
  refine mp_putF (i := 0) (b := 0) (t' := [.inl (10, [.ref 1, .ref 2, .ref 3, .ref 4, .null, .int 0, .null, .null, .long 0, .null, .int 0, .int 0, .null, .int 0, .null, .int 0, .null, .int 0, .int 0, .int 0, .int 0, .int 0, .int 0, .int 0, .null]), .inr (0, 37, .inl (fun _ => 0)), .inr (0, 37, .inl (fun _ => 0)), .inr (0, 30, .inl (fun _ => 0)), .inr (0, 30, .inl (fun _ => 0))]) rfl rfl dX10_init_33 rfl rfl rfl (by decide) gX10_19 rfl rfl rfl rfl rfl (Nat.le_of_ble_eq_true rfl) rfl ?_
  refine mn_aload_n dX10_init_36 rfl 0 rfl ?_
  refine mn_sipush (v := 600) dX10_init_37 (by decide) ?_
  refine mp_newi (j := 5) (b := 0) (t' := [.inl (10, [.ref 1, .ref 2, .ref 3, .ref 4, .null, .int 0, .null, .null, .long 0, .null, .int 0, .int 0, .null, .int 0, .null, .int 0, .null, .int 0, .int 0, .int 0, .int 0, .int 0, .int 0, .int 0, .null]), .inr (0, 37, .inl (fun _ => 0)), .inr (0, 37, .inl (fun _ => 0)), .inr (0, 30, .inl (fun _ => 0)), .inr (0, 30, .inl (fun _ => 0)), .inr (0, 600, .inl (fun _ => 0))]) rfl dX10_init_40 rfl rfl (Nat.le_of_ble_eq_true rfl) (by decide) rfl (by omega) (by omega) ⟨Nat.le_of_ble_eq_true rfl, Nat.le_of_ble_eq_true rfl⟩ ?_
  refine mp_putF (i := 0) (b := 0) (t' := [.inl (10, [.ref 1, .ref 2, .ref 3, .ref 4, .ref 5, .int 0, .null, .null, .long 0, .null, .int 0, .int 0, .null, .int 0, .null, .int 0, .null, .int 0, .int 0, .int 0, .int 0, .int 0, .int 0, .int 0, .null]), .inr (0, 37, .inl (fun _ => 0)), .inr (0, 37, .inl (fun _ => 0)), .inr (0, 30, .inl (fun _ => 0)), .inr (0, 30, .inl (fun _ => 0)), .inr (0, 600, .inl (fun _ => 0))]) rfl rfl dX10_init_42 rfl rfl rfl (by decide) gX10_22 rfl rfl rfl rfl rfl (Nat.le_of_ble_eq_true rfl) rfl ?_
  refine mn_aload_n dX10_init_45 rfl 0 rfl ?_
  refine mn_bipush (v := 62) dX10_init_46 (by decide) ?_
  refine mp_newi (j := 6) (b := 0) (t' := [.inl (10, [.ref 1, .ref 2, .ref 3, .ref 4, .ref 5, .int 0, .null, .null, .long 0, .null, .int 0, .int 0, .null, .int 0, .null, .int 0, .null, .int 0, .int 0, .int 0, .int 0, .int 0, .int 0, .int 0, .null]), .inr (0, 37, .inl (fun _ => 0)), .inr (0, 37, .inl (fun _ => 0)), .inr (0, 30, .inl (fun _ => 0)), .inr (0, 30, .inl (fun _ => 0)), .inr (0, 600, .inl (fun _ => 0)), .inr (0, 62, .inl (fun _ => 0))]) rfl dX10_init_48 rfl rfl (Nat.le_of_ble_eq_true rfl) (by decide) rfl (by omega) (by omega) ⟨Nat.le_of_ble_eq_true rfl, Nat.le_of_ble_eq_true rfl⟩ ?_
  refine mp_putF (i := 0) (b := 0) (t' := [.inl (10, [.ref 1, .ref 2, .ref 3, .ref 4, .ref 5, .int 0, .ref 6, .null, .long 0, .null, .int 0, .int 0, .null, .int 0, .null, .int 0, .null, .int 0, .int 0, .int 0, .int 0, .int 0, .int 0, .int 0, .null]), .inr (0, 37, .inl (fun _ => 0)), .inr (0, 37, .inl (fun _ => 0)), .inr (0, 30, .inl (fun _ => 0)), .inr (0, 30, .inl (fun _ => 0)), .inr (0, 600, .inl (fun _ => 0)), .inr (0, 62, .inl (fun _ => 0))]) rfl rfl dX10_init_50 rfl rfl rfl (by decide) gX10_25 rfl rfl rfl rfl rfl (Nat.le_of_ble_eq_true rfl) rfl ?_
  refine mn_aload_n dX10_init_53 rfl 0 rfl ?_
  refine mn_iconst (v := 2) dX10_init_54 (by decide) ?_
  refine mp_newz (j := 7) (b := 0) (t' := [.inl (10, [.ref 1, .ref 2, .ref 3, .ref 4, .ref 5, .int 0, .ref 6, .null, .long 0, .null, .int 0, .int 0, .null, .int 0, .null, .int 0, .null, .int 0, .int 0, .int 0, .int 0, .int 0, .int 0, .int 0, .null]), .inr (0, 37, .inl (fun _ => 0)), .inr (0, 37, .inl (fun _ => 0)), .inr (0, 30, .inl (fun _ => 0)), .inr (0, 30, .inl (fun _ => 0)), .inr (0, 600, .inl (fun _ => 0)), .inr (0, 62, .inl (fun _ => 0)), .inr (1, 2, .inl (fun _ => 0))]) rfl dX10_init_55 rfl rfl (Nat.le_of_ble_eq_true rfl) (by decide) rfl (by omega) (by omega) ⟨Nat.le_of_ble_eq_true rfl, Nat.le_of_ble_eq_true rfl⟩ ?_
  refine mp_putF (i := 0) (b := 0) (t' := [.inl (10, [.ref 1, .ref 2, .ref 3, .ref 4, .ref 5, .int 0, .ref 6, .ref 7, .long 0, .null, .int 0, .int 0, .null, .int 0, .null, .int 0, .null, .int 0, .int 0, .int 0, .int 0, .int 0, .int 0, .int 0, .null]), .inr (0, 37, .inl (fun _ => 0)), .inr (0, 37, .inl (fun _ => 0)), .inr (0, 30, .inl (fun _ => 0)), .inr (0, 30, .inl (fun _ => 0)), .inr (0, 600, .inl (fun _ => 0)), .inr (0, 62, .inl (fun _ => 0)), .inr (1, 2, .inl (fun _ => 0))]) rfl rfl dX10_init_57 rfl rfl rfl (by decide) gX10_28 rfl rfl rfl rfl rfl (Nat.le_of_ble_eq_true rfl) rfl ?_
  refine mn_aload_n dX10_init_60 rfl 0 rfl ?_
  refine mn_sipush (v := 240) dX10_init_61 (by decide) ?_
  refine mp_newi (j := 8) (b := 0) (t' := [.inl (10, [.ref 1, .ref 2, .ref 3, .ref 4, .ref 5, .int 0, .ref 6, .ref 7, .long 0, .null, .int 0, .int 0, .null, .int 0, .null, .int 0, .null, .int 0, .int 0, .int 0, .int 0, .int 0, .int 0, .int 0, .null]), .inr (0, 37, .inl (fun _ => 0)), .inr (0, 37, .inl (fun _ => 0)), .inr (0, 30, .inl (fun _ => 0)), .inr (0, 30, .inl (fun _ => 0)), .inr (0, 600, .inl (fun _ => 0)), .inr (0, 62, .inl (fun _ => 0)), .inr (1, 2, .inl (fun _ => 0)), .inr (0, 240, .inl (fun _ => 0))]) rfl dX10_init_64 rfl rfl (Nat.le_of_ble_eq_true rfl) (by decide) rfl (by omega) (by omega) ⟨Nat.le_of_ble_eq_true rfl, Nat.le_of_ble_eq_true rfl⟩ ?_
  refine mp_putF (i := 0) (b := 0) (t' := [.inl (10, [.ref 1, .ref 2, .ref 3, .ref 4, .ref 5, .int 0, .ref 6, .ref 7, .long 0, .ref 8, .int 0, .int 0, .null, .int 0, .null, .int 0, .null, .int 0, .int 0, .int 0, .int 0, .int 0, .int 0, .int 0, .null]), .inr (0, 37, .inl (fun _ => 0)), .inr (0, 37, .inl (fun _ => 0)), .inr (0, 30, .inl (fun _ => 0)), .inr (0, 30, .inl (fun _ => 0)), .inr (0, 600, .inl (fun _ => 0)), .inr (0, 62, .inl (fun _ => 0)), .inr (1, 2, .inl (fun _ => 0)), .inr (0, 240, .inl (fun _ => 0))]) rfl rfl dX10_init_66 rfl rfl rfl (by decide) gX10_32 rfl rfl rfl rfl rfl (Nat.le_of_ble_eq_true rfl) rfl ?_
  refine mn_aload_n dX10_init_69 rfl 0 rfl ?_
  refine mn_iconst (v := -1) dX10_init_70 (by decide) ?_
  refine mp_put (i := 0) (b := 0) (t' := [.inl (10, [.ref 1, .ref 2, .ref 3, .ref 4, .ref 5, .int 0, .ref 6, .ref 7, .long 0, .ref 8, .int 0, .int (-1), .null, .int 0, .null, .int 0, .null, .int 0, .int 0, .int 0, .int 0, .int 0, .int 0, .int 0, .null]), .inr (0, 37, .inl (fun _ => 0)), .inr (0, 37, .inl (fun _ => 0)), .inr (0, 30, .inl (fun _ => 0)), .inr (0, 30, .inl (fun _ => 0)), .inr (0, 600, .inl (fun _ => 0)), .inr (0, 62, .inl (fun _ => 0)), .inr (1, 2, .inl (fun _ => 0)), .inr (0, 240, .inl (fun _ => 0))]) rfl dX10_init_71 rfl rfl rfl (by decide) gX10_35 rfl rfl rfl rfl (Nat.le_of_ble_eq_true rfl) rfl ?_
  refine mn_aload_n dX10_init_74 rfl 0 rfl ?_
  refine mn_bipush (v := 12) dX10_init_75 (by decide) ?_
  refine mp_newi (j := 9) (b := 0) (t' := [.inl (10, [.ref 1, .ref 2, .ref 3, .ref 4, .ref 5, .int 0, .ref 6, .ref 7, .long 0, .ref 8, .int 0, .int (-1), .null, .int 0, .null, .int 0, .null, .int 0, .int 0, .int 0, .int 0, .int 0, .int 0, .int 0, .null]), .inr (0, 37, .inl (fun _ => 0)), .inr (0, 37, .inl (fun _ => 0)), .inr (0, 30, .inl (fun _ => 0)), .inr (0, 30, .inl (fun _ => 0)), .inr (0, 600, .inl (fun _ => 0)), .inr (0, 62, .inl (fun _ => 0)), .inr (1, 2, .inl (fun _ => 0)), .inr (0, 240, .inl (fun _ => 0)), .inr (0, 12, .inl (fun _ => 0))]) rfl dX10_init_77 rfl rfl (Nat.le_of_ble_eq_true rfl) (by decide) rfl (by omega) (by omega) ⟨Nat.le_of_ble_eq_true rfl, Nat.le_of_ble_eq_true rfl⟩ ?_
  refine mp_putF (i := 0) (b := 0) (t' := [.inl (10, [.ref 1, .ref 2, .ref 3, .ref 4, .ref 5, .int 0, .ref 6, .ref 7, .long 0, .ref 8, .int 0, .int (-1), .ref 9, .int 0, .null, .int 0, .null, .int 0, .int 0, .int 0, .int 0, .int 0, .int 0, .int 0, .null]), .inr (0, 37, .inl (fun _ => 0)), .inr (0, 37, .inl (fun _ => 0)), .inr (0, 30, .inl (fun _ => 0)), .inr (0, 30, .inl (fun _ => 0)), .inr (0, 600, .inl (fun _ => 0)), .inr (0, 62, .inl (fun _ => 0)), .inr (1, 2, .inl (fun _ => 0)), .inr (0, 240, .inl (fun _ => 0)), .inr (0, 12, .inl (fun _ => 0))]) rfl rfl dX10_init_79 rfl rfl rfl (by decide) gX10_39 rfl rfl rfl rfl rfl (Nat.le_of_ble_eq_true rfl) rfl ?_
  refine mn_aload_n dX10_init_82 rfl 0 rfl ?_
  refine mn_bipush (v := 12) dX10_init_83 (by decide) ?_
  refine mp_newi (j := 10) (b := 0) (t' := [.inl (10, [.ref 1, .ref 2, .ref 3, .ref 4, .ref 5, .int 0, .ref 6, .ref 7, .long 0, .ref 8, .int 0, .int (-1), .ref 9, .int 0, .null, .int 0, .null, .int 0, .int 0, .int 0, .int 0, .int 0, .int 0, .int 0, .null]), .inr (0, 37, .inl (fun _ => 0)), .inr (0, 37, .inl (fun _ => 0)), .inr (0, 30, .inl (fun _ => 0)), .inr (0, 30, .inl (fun _ => 0)), .inr (0, 600, .inl (fun _ => 0)), .inr (0, 62, .inl (fun _ => 0)), .inr (1, 2, .inl (fun _ => 0)), .inr (0, 240, .inl (fun _ => 0)), .inr (0, 12, .inl (fun _ => 0)), .inr (0, 12, .inl (fun _ => 0))]) rfl dX10_init_85 rfl rfl (Nat.le_of_ble_eq_true rfl) (by decide) rfl (by omega) (by omega) ⟨Nat.le_of_ble_eq_true rfl, Nat.le_of_ble_eq_true rfl⟩ ?_
  refine mp_putF (i := 0) (b := 0) (t' := [.inl (10, [.ref 1, .ref 2, .ref 3, .ref 4, .ref 5, .int 0, .ref 6, .ref 7, .long 0, .ref 8, .int 0, .int (-1), .ref 9, .int 0, .ref 10, .int 0, .null, .int 0, .int 0, .int 0, .int 0, .int 0, .int 0, .int 0, .null]), .inr (0, 37, .inl (fun _ => 0)), .inr (0, 37, .inl (fun _ => 0)), .inr (0, 30, .inl (fun _ => 0)), .inr (0, 30, .inl (fun _ => 0)), .inr (0, 600, .inl (fun _ => 0)), .inr (0, 62, .inl (fun _ => 0)), .inr (1, 2, .inl (fun _ => 0)), .inr (0, 240, .inl (fun _ => 0)), .inr (0, 12, .inl (fun _ => 0)), .inr (0, 12, .inl (fun _ => 0))]) rfl rfl dX10_init_87 rfl rfl rfl (by decide) gX10_42 rfl rfl rfl rfl rfl (Nat.le_of_ble_eq_true rfl) rfl ?_
  refine mn_aload_n dX10_init_90 rfl 0 rfl ?_
  refine mn_bipush (v := 30) dX10_init_91 (by decide) ?_
  refine mp_newi (j := 11) (b := 0) (t' := [.inl (10, [.ref 1, .ref 2, .ref 3, .ref 4, .ref 5, .int 0, .ref 6, .ref 7, .long 0, .ref 8, .int 0, .int (-1), .ref 9, .int 0, .ref 10, .int 0, .null, .int 0, .int 0, .int 0, .int 0, .int 0, .int 0, .int 0, .null]), .inr (0, 37, .inl (fun _ => 0)), .inr (0, 37, .inl (fun _ => 0)), .inr (0, 30, .inl (fun _ => 0)), .inr (0, 30, .inl (fun _ => 0)), .inr (0, 600, .inl (fun _ => 0)), .inr (0, 62, .inl (fun _ => 0)), .inr (1, 2, .inl (fun _ => 0)), .inr (0, 240, .inl (fun _ => 0)), .inr (0, 12, .inl (fun _ => 0)), .inr (0, 12, .inl (fun _ => 0)), .inr (0, 30, .inl (fun _ => 0))]) rfl dX10_init_93 rfl rfl (Nat.le_of_ble_eq_true rfl) (by decide) rfl (by omega) (by omega) ⟨Nat.le_of_ble_eq_true rfl, Nat.le_of_ble_eq_true rfl⟩ ?_
  refine mp_putF (i := 0) (b := 0) (t' := [.inl (10, [.ref 1, .ref 2, .ref 3, .ref 4, .ref 5, .int 0, .ref 6, .ref 7, .long 0, .ref 8, .int 0, .int (-1), .ref 9, .int 0, .ref 10, .int 0, .ref 11, .int 0, .int 0, .int 0, .int 0, .int 0, .int 0, .int 0, .null]), .inr (0, 37, .inl (fun _ => 0)), .inr (0, 37, .inl (fun _ => 0)), .inr (0, 30, .inl (fun _ => 0)), .inr (0, 30, .inl (fun _ => 0)), .inr (0, 600, .inl (fun _ => 0)), .inr (0, 62, .inl (fun _ => 0)), .inr (1, 2, .inl (fun _ => 0)), .inr (0, 240, .inl (fun _ => 0)), .inr (0, 12, .inl (fun _ => 0)), .inr (0, 12, .inl (fun _ => 0)), .inr (0, 30, .inl (fun _ => 0))]) rfl rfl dX10_init_95 rfl rfl rfl (by decide) gX10_45 rfl rfl rfl rfl rfl (Nat.le_of_ble_eq_true rfl) rfl ?_
  refine mn_aload_n dX10_init_98 rfl 0 rfl ?_
  refine mn_sipush (v := 896) dX10_init_99 (by decide) ?_
  refine mp_newi (j := 12) (b := 0) (t' := [.inl (10, [.ref 1, .ref 2, .ref 3, .ref 4, .ref 5, .int 0, .ref 6, .ref 7, .long 0, .ref 8, .int 0, .int (-1), .ref 9, .int 0, .ref 10, .int 0, .ref 11, .int 0, .int 0, .int 0, .int 0, .int 0, .int 0, .int 0, .null]), .inr (0, 37, .inl (fun _ => 0)), .inr (0, 37, .inl (fun _ => 0)), .inr (0, 30, .inl (fun _ => 0)), .inr (0, 30, .inl (fun _ => 0)), .inr (0, 600, .inl (fun _ => 0)), .inr (0, 62, .inl (fun _ => 0)), .inr (1, 2, .inl (fun _ => 0)), .inr (0, 240, .inl (fun _ => 0)), .inr (0, 12, .inl (fun _ => 0)), .inr (0, 12, .inl (fun _ => 0)), .inr (0, 30, .inl (fun _ => 0)), .inr (0, 896, .inl (fun _ => 0))]) rfl dX10_init_102 rfl rfl (Nat.le_of_ble_eq_true rfl) (by decide) rfl (by omega) (by omega) ⟨Nat.le_of_ble_eq_true rfl, Nat.le_of_ble_eq_true rfl⟩ ?_
  refine mp_putF (i := 0) (b := 0) (t' := [.inl (10, [.ref 1, .ref 2, .ref 3, .ref 4, .ref 5, .int 0, .ref 6, .ref 7, .long 0, .ref 8, .int 0, .int (-1), .ref 9, .int 0, .ref 10, .int 0, .ref 11, .int 0, .int 0, .int 0, .int 0, .int 0, .int 0, .int 0, .ref 12]), .inr (0, 37, .inl (fun _ => 0)), .inr (0, 37, .inl (fun _ => 0)), .inr (0, 30, .inl (fun _ => 0)), .inr (0, 30, .inl (fun _ => 0)), .inr (0, 600, .inl (fun _ => 0)), .inr (0, 62, .inl (fun _ => 0)), .inr (1, 2, .inl (fun _ => 0)), .inr (0, 240, .inl (fun _ => 0)), .inr (0, 12, .inl (fun _ => 0)), .inr (0, 12, .inl (fun _ => 0)), .inr (0, 30, .inl (fun _ => 0)), .inr (0, 896, .inl (fun _ => 0))]) rfl rfl dX10_init_104 rfl rfl rfl (by decide) gX10_48 rfl rfl rfl rfl rfl (Nat.le_of_ble_eq_true rfl) rfl ?_
  rw [k_model0]
  refine mn_aload_n dX10_init_107 rfl 0 rfl ?_
  refine mn_get dX10_init_108 (mm_enc_get shM_0) rfl (by decide) gX10_7 rfl ?_
  refine mn_callS (as := [.ref 1]) (st := []) dX10_init_111 rfl mX10_51 t_X10_blank rfl (Nat.le_of_ble_eq_true rfl) ⟨Nat.le_of_ble_eq_true rfl, Nat.le_of_ble_eq_true rfl⟩ ⟨Nat.le_of_ble_eq_true rfl, Nat.le_of_ble_eq_true rfl⟩ (cx_X10_blank1 (g := g) SM0 JM0) (fun r w1 hq => ?_)
  obtain ⟨S1, rfl, rfl, h1, -, -, e1⟩ := hq
  refine mn_aload_n dX10_init_114 rfl 0 rfl ?_
  refine mn_callV (as := []) (st := []) dX10_init_115 rfl (mm_enc_get shM_0) rfl rfl mX10_55 t_X10_begins rfl (Nat.le_of_ble_eq_true rfl) ⟨Nat.le_of_ble_eq_true rfl, Nat.le_of_ble_eq_true rfl⟩ ⟨Nat.le_of_ble_eq_true rfl, Nat.le_of_ble_eq_true rfl⟩ (cx_X10_begins (g := g) S1 h1) (fun r w1 hq => ?_)
  obtain ⟨S2, rfl, rfl, h2, -, -, e2⟩ := hq
  exact mn_vret rfl dX10_init_118 rfl rfl ⟨S2, rfl, rfl, h2, by rw [SM1, ← e2, ← e1]⟩
theorem k_class1x {g : mm_G} : mcn g yX9_init cX9_init 2 (mn_rm 3 162 2193) [.ref 0] [.inl (9, df9)] (qv shC (fun S => JC S ∧ S = SC0)) := mcn_wk (k_class (g := g) [] 0 rfl (by decide)) (fun r w ⟨h1, h2⟩ => ⟨SC0, h1, h2.trans k_class0, JC0, rfl⟩)
theorem fr_up {wr wf wr2 wf2 : List Nat} {k k2 m m2 : Bool} {S S2 : mm_S} (h2 : fr wr2 wf2 k2 m2 S S2) (hw : ∀ a ∈ wr2, a ∈ wr) (hf : ∀ a ∈ wf2, a ∈ wf) (hk : k = true → k2 = true) (hm : m = true → m2 = true) : fr wr wf k m S S2 := fr_tr fr_rf h2 hw hf hk hm
theorem c_X10_ordersf {g : mm_G} (S : mm_S) (hI : JM S) (x1 x2 : Int32) : mc g yX10_orders cX10_orders 8 (some .int) (mm_rm 5) [.ref 0, .int x1, .int x2] (mm_enc shM S) (qi shM (fun S1 v => JM S1 ∧ fr [4] [] true true S S1 ∧ True)) := by
  have h := bd_all x1
  by_cases a : x1.toInt ≤ -1
  · exact mc_wk (c_X10_orders_a S hI x1 ⟨h.1, a⟩ x2) (fun _ _ ⟨S1, v, q1, q2, q3⟩ => ⟨S1, v, q1, q2, q3.1, fr_up q3.2.1 (by decide) (by decide) (by decide) (by decide), trivial⟩)
  by_cases a1 : x1.toInt ≤ 0
  · exact mc_wk (c_X10_orders_b S hI x1 ⟨by omega, a1⟩ x2) (fun _ _ ⟨S1, v, q1, q2, q3⟩ => ⟨S1, v, q1, q2, q3.1, q3.2.1, trivial⟩)
  by_cases a2 : x1.toInt ≤ 127
  · exact mc_wk (c_X10_orders_c S hI x1 ⟨by omega, a2⟩ x2) (fun _ _ ⟨S1, v, q1, q2, q3⟩ => ⟨S1, v, q1, q2, q3.1, q3.2.1, trivial⟩)
  · exact mc_wk (c_X10_orders_d S hI x1 ⟨by omega, h.2⟩ x2) (fun _ _ ⟨S1, v, q1, q2, q3⟩ => ⟨S1, v, q1, q2, q3.1, fr_up q3.2.1 (by decide) (by decide) (by decide) (by decide), trivial⟩)
section BQ
variable {S2 : mm_S}
def bkQ (R S : mm_S) (y : Int32) : Prop := (∀ b', b' ≠ 1 → R.1 b' = S.1 b') ∧ R.2 = S.2 ∧ (∀ i : Nat, (i : Int) < y.toInt → R.1 1 i = S.1 1 i) ∧ (∀ i : Nat, y.toInt ≤ i → i < 37 → R.1 1 i = if 3 ≤ i ∧ i ≤ 23 then 9 else 0)
theorem bq_s {R S : mm_S} {y v : Int32} (cy : (y.toNatClampNeg : Int) = y.toInt) (ty : (y + Int32.ofInt 1).toInt = y.toInt + 1) (hv : v = if 3 ≤ y.toNatClampNeg ∧ y.toNatClampNeg ≤ 23 then 9 else 0) (h : bkQ R (mm_up S 1 y.toNatClampNeg v) (y + Int32.ofInt 1)) : bkQ R S y := by
  obtain ⟨k1, k2, k3, k4⟩ := h
  refine ⟨fun b' hb => ?_, k2, fun i hi => ?_, fun i h1 h2 => ?_⟩
  · rw [k1 b' hb, up_row hb]
  · rw [k3 i (by omega), up_ne (by omega)]
  · by_cases hi : i = y.toNatClampNeg
    · rw [k3 i (by omega), hi, up_at, hv]
    · exact k4 i (by omega) h2
theorem bq_L : ∀ (N : Nat) (S : mm_S) (y : Int32), mm_b 0 37 y → (37 - y.toInt).toNat < N → bkQ (F_X10_blank1_L2 N S y) S y
  | 0, S, y, _, h => absurd h (Nat.not_lt_zero _)
  | N + 1, S, y, hy, h => by
    have cy := pz_cl (x := y) hy.1
    by_cases q : (37 : Int32) ≤ y
    · have q2 : (37 : Int) ≤ y.toInt := Int32.le_iff_toInt_le.mp q
      rw [F_X10_blank1_L2, if_pos q]
      exact ⟨fun _ _ => rfl, rfl, fun _ _ => rfl, fun i h1 h2 => by omega⟩
    · have q2 : y.toInt < 37 := Int32.lt_iff_toInt_lt.mp (bd_nle q)
      have ty : (y + Int32.ofInt 1).toInt = y.toInt + 1 := by rw [pz_of1]; exact pz_ti1 ⟨by omega, by omega⟩
      have eI : F_X10_in S y.toInt64 3 23 = if mm_b 3 23 y then 1 else 0 := m_in (lo := 3) (hi := 23)
      by_cases z : mm_b 3 23 y
      · rw [F_X10_blank1_L2, if_neg q, eI, if_pos z, if_neg one0]
        exact bq_s cy ty (by rw [if_pos ⟨by omega, by omega⟩]) (bq_L N _ _ ⟨by omega, by omega⟩ (by omega))
      · rw [F_X10_blank1_L2, if_neg q, eI, if_neg z, if_pos (show (0 : Int32) = 0 from rfl)]
        exact bq_s cy ty (by rw [if_neg (by omega)]) (bq_L N _ _ ⟨by omega, by omega⟩ (by omega))
theorem bq : (∀ b', b' ≠ 1 → (F_X10_blank1 S2).1 b' = S2.1 b') ∧ (F_X10_blank1 S2).2 = S2.2 ∧ (∀ i : Nat, i < 37 → (F_X10_blank1 S2).1 1 i = if 3 ≤ i ∧ i ≤ 23 then 9 else 0) := by
  obtain ⟨k1, k2, k3, k4⟩ : bkQ (F_X10_blank1 S2) S2 0 := bq_L 61 S2 0 (by decide) (by decide)
  exact ⟨k1, k2, fun i hi => k4 i (by show (0 : Int) ≤ i; omega) hi⟩
end BQ
theorem RA_0 : ∀ S, SM1 S → RA SC0 S := by
  intro S hS
  obtain ⟨⟨n1, -⟩, ⟨n0, -, n13, n15, n17⟩, ⟨n70, n71⟩, -, -⟩ := bg_m (S := F_X10_blank1 SM0)
  obtain ⟨k1, k2, k3⟩ := bq (S2 := SM0)
  rw [SM1] at hS
  rw [← hS] at n1 n0 n13 n15 n17 n70 n71
  have v1 : ∀ i, i < 37 → S.1 1 i = if 3 ≤ i ∧ i ≤ 23 then 9 else 0 := fun i hi => by rw [n1 1 (by omega) (by omega) (by omega), k3 i hi]
  have t0 : (0 : Int32).toInt = 0 := rfl
  have p0 : S.1 1 0 = 0 := v1 0 (by omega)
  have p1 : S.1 1 1 = 0 := v1 1 (by omega)
  have p2 : S.1 1 2 = 0 := v1 2 (by omega)
  refine RA_mk ⟨?_, ?_, ?_⟩ ⟨by decide, ⟨?_, ?_, ?_⟩, ⟨?_, ?_, ?_⟩, ?_, ?_, ?_, ?_⟩ ⟨?_, ?_⟩ (En_0 rfl n13) (En_0 rfl n15) (En_0 rfl n17)
  · rw [n0 10 (by omega) (by omega) (by omega) (by omega), k1 0 (by omega)]
    rfl
  · rw [n1 8 (by omega) (by omega) (by omega), k1 8 (by omega)]
    funext j
    rw [SC0_z 2 j (by omega), SM0_z 8 j (by omega)]
  · rw [n0 11 (by omega) (by omega) (by omega) (by omega), k1 0 (by omega)]
    rfl
  · rw [p0]; rfl
  · rw [p1]; rfl
  · rw [p2]; rfl
  · rw [p0]; decide
  · rw [p1]; decide
  · rw [p2]; decide
  · intro p hp
    rw [p0] at hp
    omega
  · intro p h7 hp
    rw [v1 (3 + p) (by omega), if_pos (by omega)]
  · intro p hp
    rw [p1] at hp
    omega
  · intro p hp
    rw [p2] at hp
    omega
  · rw [n70]; rfl
  · rw [n71]; rfl
theorem st_of {R : mm_S → mm_S → Prop} {A B : Int32 × mm_S} {v1 v2 : Int32} {U1 U2 : mm_S} (e1 : A = (v1, U1)) (e2 : B = (v2, U2)) (h : A.1 = B.1 ∧ R A.2 B.2) : v1 = v2 ∧ R U1 U2 := by
  rw [e1, e2] at h
  exact h
