/-! ===== constructors, printed ===== -/
theorem ko_RX0 : Cond.methodLink RX0 3 Lib.objectInit ∈ mm_ok := mm_in 267 (by decide +kernel) rfl
theorem kc_RX0_18 : Cond.classLink RX0 18 ("[" ++ (FieldType.array .int).toString) ∈ mm_ok := mm_in 268 (by decide +kernel) rfl
theorem ko_RX1 : Cond.methodLink RX1 1 Lib.objectInit ∈ mm_ok := mm_in 220 (by decide +kernel) rfl
theorem ko_RX2 : Cond.methodLink RX2 3 Lib.objectInit ∈ mm_ok := mm_in 231 (by decide +kernel) rfl
theorem kmx_RX2 : Cond.methodLink RX2 9 Lib.Math.max.name ∈ mm_ok := mm_in 232 (by decide +kernel) rfl
theorem ko_RX3 : Cond.methodLink RX3 3 Lib.objectInit ∈ mm_ok := mm_in 168 (by decide +kernel) rfl
theorem ko_RX5 : Cond.methodLink RX5 3 Lib.objectInit ∈ mm_ok := mm_in 251 (by decide +kernel) rfl
theorem ko_RX6 : Cond.methodLink RX6 3 Lib.objectInit ∈ mm_ok := mm_in 127 (by decide +kernel) rfl
theorem ko_RX8 : Cond.methodLink RX8 3 Lib.objectInit ∈ mm_ok := mm_in 98 (by decide +kernel) rfl
theorem ko_RX4 : Cond.methodLink RX4 1 Lib.objectInit ∈ mm_ok := mm_in 284 (by decide +kernel) rfl
theorem kc_RX4_7 : Cond.classLink RX4 7 RX3 ∈ mm_ok := mm_in 285 (by decide +kernel) rfl
theorem gX0_9 : Cond.fieldLink RX0 9 (TX0 0).1 (TX0 0).2.1 (TX0 0).2.2.1 ∈ mm_ok := mm_in 270 (by decide +kernel) rfl
theorem gX0_15 : Cond.fieldLink RX0 15 (TX0 1).1 (TX0 1).2.1 (TX0 1).2.2.1 ∈ mm_ok := mm_in 271 (by decide +kernel) rfl
theorem gX0_20 : Cond.fieldLink RX0 20 (TX0 2).1 (TX0 2).2.1 (TX0 2).2.2.1 ∈ mm_ok := mm_in 272 (by decide +kernel) rfl
theorem gX2_15 : Cond.fieldLink RX2 15 (TX2 1).1 (TX2 1).2.1 (TX2 1).2.2.1 ∈ mm_ok := mm_in 237 (by decide +kernel) rfl
theorem gX2_21 : Cond.fieldLink RX2 21 (TX2 2).1 (TX2 2).2.1 (TX2 2).2.2.1 ∈ mm_ok := mm_in 238 (by decide +kernel) rfl
theorem gX3_9 : Cond.fieldLink RX3 9 (TX3 3).1 (TX3 3).2.1 (TX3 3).2.2.1 ∈ mm_ok := mm_in 174 (by decide +kernel) rfl
theorem gX3_15 : Cond.fieldLink RX3 15 (TX3 4).1 (TX3 4).2.1 (TX3 4).2.2.1 ∈ mm_ok := mm_in 175 (by decide +kernel) rfl
theorem gX3_18 : Cond.fieldLink RX3 18 (TX3 5).1 (TX3 5).2.1 (TX3 5).2.2.1 ∈ mm_ok := mm_in 176 (by decide +kernel) rfl
theorem gX3_21 : Cond.fieldLink RX3 21 (TX3 6).1 (TX3 6).2.1 (TX3 6).2.2.1 ∈ mm_ok := mm_in 177 (by decide +kernel) rfl
theorem gX5_9 : Cond.fieldLink RX5 9 (TX5 2).1 (TX5 2).2.1 (TX5 2).2.2.1 ∈ mm_ok := mm_in 254 (by decide +kernel) rfl
theorem gX6_9 : Cond.fieldLink RX6 9 (TX6 4).1 (TX6 4).2.1 (TX6 4).2.2.1 ∈ mm_ok := mm_in 139 (by decide +kernel) rfl
theorem gX6_15 : Cond.fieldLink RX6 15 (TX6 5).1 (TX6 5).2.1 (TX6 5).2.2.1 ∈ mm_ok := mm_in 140 (by decide +kernel) rfl
theorem gX6_18 : Cond.fieldLink RX6 18 (TX6 6).1 (TX6 6).2.1 (TX6 6).2.2.1 ∈ mm_ok := mm_in 141 (by decide +kernel) rfl
theorem gX6_21 : Cond.fieldLink RX6 21 (TX6 7).1 (TX6 7).2.1 (TX6 7).2.2.1 ∈ mm_ok := mm_in 142 (by decide +kernel) rfl
theorem gX6_24 : Cond.fieldLink RX6 24 (TX6 8).1 (TX6 8).2.1 (TX6 8).2.2.1 ∈ mm_ok := mm_in 143 (by decide +kernel) rfl
theorem gX8_9 : Cond.fieldLink RX8 9 (TX8 2).1 (TX8 2).2.1 (TX8 2).2.2.1 ∈ mm_ok := mm_in 103 (by decide +kernel) rfl
theorem gX8_15 : Cond.fieldLink RX8 15 (TX8 5).1 (TX8 5).2.1 (TX8 5).2.2.1 ∈ mm_ok := mm_in 107 (by decide +kernel) rfl
theorem qmX4_9 : Cond.methodLinkNest RX4 9 yX3_init "VoiceWills" ∈ mm_nest := mm_inN 286 (by decide +kernel) rfl
theorem tk_X3_init : mm_mk yX3_init cX3_init 1 0 := ⟨mm_in 167 (by decide +kernel) rfl, mm_in 166 (by decide +kernel) rfl, rfl, mm_in 75 (by decide +kernel) rfl, by decide, by decide, by decide +kernel⟩
theorem gX4_10 : Cond.fieldLink RX4 10 (TX4 2).1 (TX4 2).2.1 (TX4 2).2.2.1 ∈ mm_ok := mm_in 289 (by decide +kernel) rfl
def rs_choir (b : Nat) : List mm_E := [.inl (0, [.ref (b + 1), .ref (b + 2), .ref (b + 3)]), .inr (0, 6, .inl (fun _ => 0)), .inr (0, 6, .inl (fun _ => 0)), .inr (4, 7, .inr (fun i => if i < 7 then some (b + 3 + 1 + i) else none)), .inr (0, 128, .inl (fun _ => 0)), .inr (0, 128, .inl (fun _ => 0)), .inr (0, 128, .inl (fun _ => 0)), .inr (0, 128, .inl (fun _ => 0)), .inr (0, 128, .inl (fun _ => 0)), .inr (0, 128, .inl (fun _ => 0)), .inr (0, 128, .inl (fun _ => 0))]
theorem k_choir {g : mm_G} : mp_ctor g yX0_init cX0_init 1 (mn_rm 1 10 915) [] (.inl (0, df0)) rs_choir 11 := by
  refine mp_of (own := RX0) (by decide) (fun _ => Nat.le_of_ble_eq_true rfl) rfl rfl ?_
  intro w b hb h9
  show mn _ _ _ _ _ _ _ _ _ 0 0 (w ++ [.inl (0, df0)]) 0 [(0, .ref b)] []
  refine mn_aload_n dX0_init_0 rfl 0 rfl ?_
  refine mn_objInit dX0_init_1 ko_RX0 kc_O1 kc_O2 (by omega) ⟨Nat.le_of_ble_eq_true rfl, Nat.le_of_ble_eq_true rfl⟩ ?_
  refine mn_aload_n dX0_init_4 rfl 0 rfl ?_
  refine mn_bipush (v := 6) dX0_init_5 (by decide) ?_
  refine mp_newi (j := 1) (t' := [.inl (0, [.null, .null, .null]), .inr (0, 6, .inl (fun _ => 0))]) hb dX0_init_7 rfl rfl (Nat.le_of_ble_eq_true rfl) (by decide) rfl (by omega) (by omega) ⟨Nat.le_of_ble_eq_true rfl, Nat.le_of_ble_eq_true rfl⟩ ?_
  refine mp_putF (i := 0) (t' := [.inl (0, [.ref (b + 1), .null, .null]), .inr (0, 6, .inl (fun _ => 0))]) hb rfl dX0_init_9 rfl rfl rfl (by decide) gX0_9 rfl rfl rfl rfl rfl (Nat.le_of_ble_eq_true rfl) rfl ?_
  refine mn_aload_n dX0_init_12 rfl 0 rfl ?_
  refine mn_bipush (v := 6) dX0_init_13 (by decide) ?_
  refine mp_newi (j := 2) (t' := [.inl (0, [.ref (b + 1), .null, .null]), .inr (0, 6, .inl (fun _ => 0)), .inr (0, 6, .inl (fun _ => 0))]) hb dX0_init_15 rfl rfl (Nat.le_of_ble_eq_true rfl) (by decide) rfl (by omega) (by omega) ⟨Nat.le_of_ble_eq_true rfl, Nat.le_of_ble_eq_true rfl⟩ ?_
  refine mp_putF (i := 0) (t' := [.inl (0, [.ref (b + 1), .ref (b + 2), .null]), .inr (0, 6, .inl (fun _ => 0)), .inr (0, 6, .inl (fun _ => 0))]) hb rfl dX0_init_17 rfl rfl rfl (by decide) gX0_15 rfl rfl rfl rfl rfl (Nat.le_of_ble_eq_true rfl) rfl ?_
  refine mn_aload_n dX0_init_20 rfl 0 rfl ?_
  refine mn_bipush (v := 7) dX0_init_21 (by decide) ?_
  refine mn_sipush (v := 128) dX0_init_23 (by decide) ?_
  refine mp_mna (j := 3) (t' := [.inl (0, [.ref (b + 1), .ref (b + 2), .null]), .inr (0, 6, .inl (fun _ => 0)), .inr (0, 6, .inl (fun _ => 0)), .inr (4, 7, .inr (fun i => if i < 7 then some (b + 3 + 1 + i) else none)), .inr (0, 128, .inl (fun _ => 0)), .inr (0, 128, .inl (fun _ => 0)), .inr (0, 128, .inl (fun _ => 0)), .inr (0, 128, .inl (fun _ => 0)), .inr (0, 128, .inl (fun _ => 0)), .inr (0, 128, .inl (fun _ => 0)), .inr (0, 128, .inl (fun _ => 0))]) hb dX0_init_26 kc_RX0_18 rfl rfl (by decide) (by decide) rfl rfl ⟨Nat.le_of_ble_eq_true rfl, Nat.le_of_ble_eq_true rfl⟩ (by omega) (by omega) ⟨Nat.le_of_ble_eq_true rfl, Nat.le_of_ble_eq_true rfl⟩ ?_
  refine mp_putF (i := 0) (t' := [.inl (0, [.ref (b + 1), .ref (b + 2), .ref (b + 3)]), .inr (0, 6, .inl (fun _ => 0)), .inr (0, 6, .inl (fun _ => 0)), .inr (4, 7, .inr (fun i => if i < 7 then some (b + 3 + 1 + i) else none)), .inr (0, 128, .inl (fun _ => 0)), .inr (0, 128, .inl (fun _ => 0)), .inr (0, 128, .inl (fun _ => 0)), .inr (0, 128, .inl (fun _ => 0)), .inr (0, 128, .inl (fun _ => 0)), .inr (0, 128, .inl (fun _ => 0)), .inr (0, 128, .inl (fun _ => 0))]) hb rfl dX0_init_30 rfl rfl rfl (by decide) gX0_20 rfl rfl rfl rfl rfl (Nat.le_of_ble_eq_true rfl) rfl ?_
  exact mn_vret rfl dX0_init_33 rfl rfl ⟨rfl, rfl⟩
def rs_draws (b : Nat) : List mm_E := [.inl (1, [.int 0])]
theorem k_draws {g : mm_G} : mp_ctor g yX1_init cX1_init 1 (mn_rm 1 0 0) [] (.inl (1, df1)) rs_draws 1 := by
  refine mp_of (own := RX1) (by decide) (fun _ => Nat.le_of_ble_eq_true rfl) rfl rfl ?_
  intro w b hb h9
  show mn _ _ _ _ _ _ _ _ _ 0 0 (w ++ [.inl (1, df1)]) 0 [(0, .ref b)] []
  refine mn_aload_n dX1_init_0 rfl 0 rfl ?_
  refine mn_objInit dX1_init_1 ko_RX1 kc_O1 kc_O2 (by omega) ⟨Nat.le_of_ble_eq_true rfl, Nat.le_of_ble_eq_true rfl⟩ ?_
  exact mn_vret rfl dX1_init_4 rfl rfl ⟨rfl, rfl⟩
def rs_ent6 (b : Nat) : List mm_E := [.inl (2, [.int 0, .ref (b + 1), .ref (b + 2)]), .inr (0, 6, .inl (fun _ => 0)), .inr (0, 6, .inl (fun _ => 0))]
theorem k_ent6 {g : mm_G} : mp_ctor g yX2_init cX2_init 3 (mn_rm 1 2 12) [.int 6] (.inl (2, df2)) rs_ent6 3 := by
  refine mp_of (own := RX2) (by decide) (fun _ => Nat.le_of_ble_eq_true rfl) rfl rfl ?_
  intro w b hb h9
  show mn _ _ _ _ _ _ _ _ _ 0 0 (w ++ [.inl (2, df2)]) 0 [(0, .ref b), (1, .int 6)] []
  refine mn_aload_n dX2_init_0 rfl 0 rfl ?_
  refine mn_objInit dX2_init_1 ko_RX2 kc_O1 kc_O2 (by omega) ⟨Nat.le_of_ble_eq_true rfl, Nat.le_of_ble_eq_true rfl⟩ ?_
  refine mn_iconst (v := 0) dX2_init_4 (by decide) ?_
  refine mn_iload_n dX2_init_5 rfl 1 rfl ?_
  refine mn_max (v := 6) (by decide) dX2_init_6 kmx_RX2 (Nat.le_of_ble_eq_true rfl) ⟨Nat.le_of_ble_eq_true rfl, Nat.le_of_ble_eq_true rfl⟩ ⟨Nat.le_of_ble_eq_true rfl, Nat.le_of_ble_eq_true rfl⟩ ?_
  refine mn_istore_n (ls' := [(2, .int 6), (0, .ref b), (1, .int 6)]) dX2_init_9 rfl (by decide) rfl ?_
  refine mn_aload_n dX2_init_10 rfl 1 rfl ?_
  refine mn_iload_n dX2_init_11 rfl 0 rfl ?_
  refine mp_newi (j := 1) (t' := [.inl (2, [.int 0, .null, .null]), .inr (0, 6, .inl (fun _ => 0))]) hb dX2_init_12 rfl rfl (Nat.le_of_ble_eq_true rfl) (by decide) rfl (by omega) (by omega) ⟨Nat.le_of_ble_eq_true rfl, Nat.le_of_ble_eq_true rfl⟩ ?_
  refine mp_putF (i := 0) (t' := [.inl (2, [.int 0, .ref (b + 1), .null]), .inr (0, 6, .inl (fun _ => 0))]) hb rfl dX2_init_14 rfl rfl rfl (by decide) gX2_15 rfl rfl rfl rfl rfl (Nat.le_of_ble_eq_true rfl) rfl ?_
  refine mn_aload_n dX2_init_17 rfl 1 rfl ?_
  refine mn_iload_n dX2_init_18 rfl 0 rfl ?_
  refine mp_newi (j := 2) (t' := [.inl (2, [.int 0, .ref (b + 1), .null]), .inr (0, 6, .inl (fun _ => 0)), .inr (0, 6, .inl (fun _ => 0))]) hb dX2_init_19 rfl rfl (Nat.le_of_ble_eq_true rfl) (by decide) rfl (by omega) (by omega) ⟨Nat.le_of_ble_eq_true rfl, Nat.le_of_ble_eq_true rfl⟩ ?_
  refine mp_putF (i := 0) (t' := [.inl (2, [.int 0, .ref (b + 1), .ref (b + 2)]), .inr (0, 6, .inl (fun _ => 0)), .inr (0, 6, .inl (fun _ => 0))]) hb rfl dX2_init_21 rfl rfl rfl (by decide) gX2_21 rfl rfl rfl rfl rfl (Nat.le_of_ble_eq_true rfl) rfl ?_
  exact mn_vret rfl dX2_init_24 rfl rfl ⟨rfl, rfl⟩
def rs_ent15 (b : Nat) : List mm_E := [.inl (2, [.int 0, .ref (b + 1), .ref (b + 2)]), .inr (0, 15, .inl (fun _ => 0)), .inr (0, 15, .inl (fun _ => 0))]
theorem k_ent15 {g : mm_G} : mp_ctor g yX2_init cX2_init 3 (mn_rm 1 2 30) [.int 15] (.inl (2, df2)) rs_ent15 3 := by
  refine mp_of (own := RX2) (by decide) (fun _ => Nat.le_of_ble_eq_true rfl) rfl rfl ?_
  intro w b hb h9
  show mn _ _ _ _ _ _ _ _ _ 0 0 (w ++ [.inl (2, df2)]) 0 [(0, .ref b), (1, .int 15)] []
  refine mn_aload_n dX2_init_0 rfl 0 rfl ?_
  refine mn_objInit dX2_init_1 ko_RX2 kc_O1 kc_O2 (by omega) ⟨Nat.le_of_ble_eq_true rfl, Nat.le_of_ble_eq_true rfl⟩ ?_
  refine mn_iconst (v := 0) dX2_init_4 (by decide) ?_
  refine mn_iload_n dX2_init_5 rfl 1 rfl ?_
  refine mn_max (v := 15) (by decide) dX2_init_6 kmx_RX2 (Nat.le_of_ble_eq_true rfl) ⟨Nat.le_of_ble_eq_true rfl, Nat.le_of_ble_eq_true rfl⟩ ⟨Nat.le_of_ble_eq_true rfl, Nat.le_of_ble_eq_true rfl⟩ ?_
  refine mn_istore_n (ls' := [(2, .int 15), (0, .ref b), (1, .int 15)]) dX2_init_9 rfl (by decide) rfl ?_
  refine mn_aload_n dX2_init_10 rfl 1 rfl ?_
  refine mn_iload_n dX2_init_11 rfl 0 rfl ?_
  refine mp_newi (j := 1) (t' := [.inl (2, [.int 0, .null, .null]), .inr (0, 15, .inl (fun _ => 0))]) hb dX2_init_12 rfl rfl (Nat.le_of_ble_eq_true rfl) (by decide) rfl (by omega) (by omega) ⟨Nat.le_of_ble_eq_true rfl, Nat.le_of_ble_eq_true rfl⟩ ?_
  refine mp_putF (i := 0) (t' := [.inl (2, [.int 0, .ref (b + 1), .null]), .inr (0, 15, .inl (fun _ => 0))]) hb rfl dX2_init_14 rfl rfl rfl (by decide) gX2_15 rfl rfl rfl rfl rfl (Nat.le_of_ble_eq_true rfl) rfl ?_
  refine mn_aload_n dX2_init_17 rfl 1 rfl ?_
  refine mn_iload_n dX2_init_18 rfl 0 rfl ?_
  refine mp_newi (j := 2) (t' := [.inl (2, [.int 0, .ref (b + 1), .null]), .inr (0, 15, .inl (fun _ => 0)), .inr (0, 15, .inl (fun _ => 0))]) hb dX2_init_19 rfl rfl (Nat.le_of_ble_eq_true rfl) (by decide) rfl (by omega) (by omega) ⟨Nat.le_of_ble_eq_true rfl, Nat.le_of_ble_eq_true rfl⟩ ?_
  refine mp_putF (i := 0) (t' := [.inl (2, [.int 0, .ref (b + 1), .ref (b + 2)]), .inr (0, 15, .inl (fun _ => 0)), .inr (0, 15, .inl (fun _ => 0))]) hb rfl dX2_init_21 rfl rfl rfl (by decide) gX2_21 rfl rfl rfl rfl rfl (Nat.le_of_ble_eq_true rfl) rfl ?_
  exact mn_vret rfl dX2_init_24 rfl rfl ⟨rfl, rfl⟩
def rs_folk (b : Nat) : List mm_E := [.inl (3, [.int 0, .int 0, .int 0, .ref (b + 1), .ref (b + 2), .ref (b + 3), .ref (b + 4)]), .inr (0, 7, .inl (fun _ => 0)), .inr (0, 7, .inl (fun _ => 0)), .inr (0, 7, .inl (fun _ => 0)), .inr (0, 7, .inl (fun _ => 0))]
theorem k_folk {g : mm_G} : mp_ctor g yX3_init cX3_init 1 (mn_rm 1 4 28) [] (.inl (3, df3)) rs_folk 5 := by
  refine mp_of (own := RX3) (by decide) (fun _ => Nat.le_of_ble_eq_true rfl) rfl rfl ?_
  intro w b hb h9
  show mn _ _ _ _ _ _ _ _ _ 0 0 (w ++ [.inl (3, df3)]) 0 [(0, .ref b)] []
  refine mn_aload_n dX3_init_0 rfl 0 rfl ?_
  refine mn_objInit dX3_init_1 ko_RX3 kc_O1 kc_O2 (by omega) ⟨Nat.le_of_ble_eq_true rfl, Nat.le_of_ble_eq_true rfl⟩ ?_
  refine mn_aload_n dX3_init_4 rfl 0 rfl ?_
  refine mn_bipush (v := 7) dX3_init_5 (by decide) ?_
  refine mp_newi (j := 1) (t' := [.inl (3, [.int 0, .int 0, .int 0, .null, .null, .null, .null]), .inr (0, 7, .inl (fun _ => 0))]) hb dX3_init_7 rfl rfl (Nat.le_of_ble_eq_true rfl) (by decide) rfl (by omega) (by omega) ⟨Nat.le_of_ble_eq_true rfl, Nat.le_of_ble_eq_true rfl⟩ ?_
  refine mp_putF (i := 0) (t' := [.inl (3, [.int 0, .int 0, .int 0, .ref (b + 1), .null, .null, .null]), .inr (0, 7, .inl (fun _ => 0))]) hb rfl dX3_init_9 rfl rfl rfl (by decide) gX3_9 rfl rfl rfl rfl rfl (Nat.le_of_ble_eq_true rfl) rfl ?_
  refine mn_aload_n dX3_init_12 rfl 0 rfl ?_
  refine mn_bipush (v := 7) dX3_init_13 (by decide) ?_
  refine mp_newi (j := 2) (t' := [.inl (3, [.int 0, .int 0, .int 0, .ref (b + 1), .null, .null, .null]), .inr (0, 7, .inl (fun _ => 0)), .inr (0, 7, .inl (fun _ => 0))]) hb dX3_init_15 rfl rfl (Nat.le_of_ble_eq_true rfl) (by decide) rfl (by omega) (by omega) ⟨Nat.le_of_ble_eq_true rfl, Nat.le_of_ble_eq_true rfl⟩ ?_
  refine mp_putF (i := 0) (t' := [.inl (3, [.int 0, .int 0, .int 0, .ref (b + 1), .ref (b + 2), .null, .null]), .inr (0, 7, .inl (fun _ => 0)), .inr (0, 7, .inl (fun _ => 0))]) hb rfl dX3_init_17 rfl rfl rfl (by decide) gX3_15 rfl rfl rfl rfl rfl (Nat.le_of_ble_eq_true rfl) rfl ?_
  refine mn_aload_n dX3_init_20 rfl 0 rfl ?_
  refine mn_bipush (v := 7) dX3_init_21 (by decide) ?_
  refine mp_newi (j := 3) (t' := [.inl (3, [.int 0, .int 0, .int 0, .ref (b + 1), .ref (b + 2), .null, .null]), .inr (0, 7, .inl (fun _ => 0)), .inr (0, 7, .inl (fun _ => 0)), .inr (0, 7, .inl (fun _ => 0))]) hb dX3_init_23 rfl rfl (Nat.le_of_ble_eq_true rfl) (by decide) rfl (by omega) (by omega) ⟨Nat.le_of_ble_eq_true rfl, Nat.le_of_ble_eq_true rfl⟩ ?_
  refine mp_putF (i := 0) (t' := [.inl (3, [.int 0, .int 0, .int 0, .ref (b + 1), .ref (b + 2), .ref (b + 3), .null]), .inr (0, 7, .inl (fun _ => 0)), .inr (0, 7, .inl (fun _ => 0)), .inr (0, 7, .inl (fun _ => 0))]) hb rfl dX3_init_25 rfl rfl rfl (by decide) gX3_18 rfl rfl rfl rfl rfl (Nat.le_of_ble_eq_true rfl) rfl ?_
  refine mn_aload_n dX3_init_28 rfl 0 rfl ?_
  refine mn_bipush (v := 7) dX3_init_29 (by decide) ?_
  refine mp_newi (j := 4) (t' := [.inl (3, [.int 0, .int 0, .int 0, .ref (b + 1), .ref (b + 2), .ref (b + 3), .null]), .inr (0, 7, .inl (fun _ => 0)), .inr (0, 7, .inl (fun _ => 0)), .inr (0, 7, .inl (fun _ => 0)), .inr (0, 7, .inl (fun _ => 0))]) hb dX3_init_31 rfl rfl (Nat.le_of_ble_eq_true rfl) (by decide) rfl (by omega) (by omega) ⟨Nat.le_of_ble_eq_true rfl, Nat.le_of_ble_eq_true rfl⟩ ?_
  refine mp_putF (i := 0) (t' := [.inl (3, [.int 0, .int 0, .int 0, .ref (b + 1), .ref (b + 2), .ref (b + 3), .ref (b + 4)]), .inr (0, 7, .inl (fun _ => 0)), .inr (0, 7, .inl (fun _ => 0)), .inr (0, 7, .inl (fun _ => 0)), .inr (0, 7, .inl (fun _ => 0))]) hb rfl dX3_init_33 rfl rfl rfl (by decide) gX3_21 rfl rfl rfl rfl rfl (Nat.le_of_ble_eq_true rfl) rfl ?_
  exact mn_vret rfl dX3_init_36 rfl rfl ⟨rfl, rfl⟩
def rs_line (b : Nat) : List mm_E := [.inl (5, [.int 0, .int 0, .ref (b + 1)]), .inr (0, 7, .inl (fun _ => 0))]
theorem k_line {g : mm_G} : mp_ctor g yX5_init cX5_init 1 (mn_rm 1 1 7) [] (.inl (5, df5)) rs_line 2 := by
  refine mp_of (own := RX5) (by decide) (fun _ => Nat.le_of_ble_eq_true rfl) rfl rfl ?_
  intro w b hb h9
  show mn _ _ _ _ _ _ _ _ _ 0 0 (w ++ [.inl (5, df5)]) 0 [(0, .ref b)] []
  refine mn_aload_n dX5_init_0 rfl 0 rfl ?_
  refine mn_objInit dX5_init_1 ko_RX5 kc_O1 kc_O2 (by omega) ⟨Nat.le_of_ble_eq_true rfl, Nat.le_of_ble_eq_true rfl⟩ ?_
  refine mn_aload_n dX5_init_4 rfl 0 rfl ?_
  refine mn_bipush (v := 7) dX5_init_5 (by decide) ?_
  refine mp_newi (j := 1) (t' := [.inl (5, [.int 0, .int 0, .null]), .inr (0, 7, .inl (fun _ => 0))]) hb dX5_init_7 rfl rfl (Nat.le_of_ble_eq_true rfl) (by decide) rfl (by omega) (by omega) ⟨Nat.le_of_ble_eq_true rfl, Nat.le_of_ble_eq_true rfl⟩ ?_
  refine mp_putF (i := 0) (t' := [.inl (5, [.int 0, .int 0, .ref (b + 1)]), .inr (0, 7, .inl (fun _ => 0))]) hb rfl dX5_init_9 rfl rfl rfl (by decide) gX5_9 rfl rfl rfl rfl rfl (Nat.le_of_ble_eq_true rfl) rfl ?_
  exact mn_vret rfl dX5_init_12 rfl rfl ⟨rfl, rfl⟩
def rs_parish (b : Nat) : List mm_E := [.inl (6, [.int 0, .int 0, .int 0, .int 0, .ref (b + 1), .ref (b + 2), .ref (b + 3), .ref (b + 4), .ref (b + 5)]), .inr (0, 7, .inl (fun _ => 0)), .inr (0, 7, .inl (fun _ => 0)), .inr (0, 7, .inl (fun _ => 0)), .inr (0, 6, .inl (fun _ => 0)), .inr (0, 6, .inl (fun _ => 0))]
theorem k_parish {g : mm_G} : mp_ctor g yX6_init cX6_init 1 (mn_rm 1 5 33) [] (.inl (6, df6)) rs_parish 6 := by
  refine mp_of (own := RX6) (by decide) (fun _ => Nat.le_of_ble_eq_true rfl) rfl rfl ?_
  intro w b hb h9
  show mn _ _ _ _ _ _ _ _ _ 0 0 (w ++ [.inl (6, df6)]) 0 [(0, .ref b)] []
  refine mn_aload_n dX6_init_0 rfl 0 rfl ?_
  refine mn_objInit dX6_init_1 ko_RX6 kc_O1 kc_O2 (by omega) ⟨Nat.le_of_ble_eq_true rfl, Nat.le_of_ble_eq_true rfl⟩ ?_
  refine mn_aload_n dX6_init_4 rfl 0 rfl ?_
  refine mn_bipush (v := 7) dX6_init_5 (by decide) ?_
  refine mp_newi (j := 1) (t' := [.inl (6, [.int 0, .int 0, .int 0, .int 0, .null, .null, .null, .null, .null]), .inr (0, 7, .inl (fun _ => 0))]) hb dX6_init_7 rfl rfl (Nat.le_of_ble_eq_true rfl) (by decide) rfl (by omega) (by omega) ⟨Nat.le_of_ble_eq_true rfl, Nat.le_of_ble_eq_true rfl⟩ ?_
  refine mp_putF (i := 0) (t' := [.inl (6, [.int 0, .int 0, .int 0, .int 0, .ref (b + 1), .null, .null, .null, .null]), .inr (0, 7, .inl (fun _ => 0))]) hb rfl dX6_init_9 rfl rfl rfl (by decide) gX6_9 rfl rfl rfl rfl rfl (Nat.le_of_ble_eq_true rfl) rfl ?_
  refine mn_aload_n dX6_init_12 rfl 0 rfl ?_
  refine mn_bipush (v := 7) dX6_init_13 (by decide) ?_
  refine mp_newi (j := 2) (t' := [.inl (6, [.int 0, .int 0, .int 0, .int 0, .ref (b + 1), .null, .null, .null, .null]), .inr (0, 7, .inl (fun _ => 0)), .inr (0, 7, .inl (fun _ => 0))]) hb dX6_init_15 rfl rfl (Nat.le_of_ble_eq_true rfl) (by decide) rfl (by omega) (by omega) ⟨Nat.le_of_ble_eq_true rfl, Nat.le_of_ble_eq_true rfl⟩ ?_
  refine mp_putF (i := 0) (t' := [.inl (6, [.int 0, .int 0, .int 0, .int 0, .ref (b + 1), .ref (b + 2), .null, .null, .null]), .inr (0, 7, .inl (fun _ => 0)), .inr (0, 7, .inl (fun _ => 0))]) hb rfl dX6_init_17 rfl rfl rfl (by decide) gX6_15 rfl rfl rfl rfl rfl (Nat.le_of_ble_eq_true rfl) rfl ?_
  refine mn_aload_n dX6_init_20 rfl 0 rfl ?_
  refine mn_bipush (v := 7) dX6_init_21 (by decide) ?_
  refine mp_newi (j := 3) (t' := [.inl (6, [.int 0, .int 0, .int 0, .int 0, .ref (b + 1), .ref (b + 2), .null, .null, .null]), .inr (0, 7, .inl (fun _ => 0)), .inr (0, 7, .inl (fun _ => 0)), .inr (0, 7, .inl (fun _ => 0))]) hb dX6_init_23 rfl rfl (Nat.le_of_ble_eq_true rfl) (by decide) rfl (by omega) (by omega) ⟨Nat.le_of_ble_eq_true rfl, Nat.le_of_ble_eq_true rfl⟩ ?_
  refine mp_putF (i := 0) (t' := [.inl (6, [.int 0, .int 0, .int 0, .int 0, .ref (b + 1), .ref (b + 2), .ref (b + 3), .null, .null]), .inr (0, 7, .inl (fun _ => 0)), .inr (0, 7, .inl (fun _ => 0)), .inr (0, 7, .inl (fun _ => 0))]) hb rfl dX6_init_25 rfl rfl rfl (by decide) gX6_18 rfl rfl rfl rfl rfl (Nat.le_of_ble_eq_true rfl) rfl ?_
  refine mn_aload_n dX6_init_28 rfl 0 rfl ?_
  refine mn_bipush (v := 6) dX6_init_29 (by decide) ?_
  refine mp_newi (j := 4) (t' := [.inl (6, [.int 0, .int 0, .int 0, .int 0, .ref (b + 1), .ref (b + 2), .ref (b + 3), .null, .null]), .inr (0, 7, .inl (fun _ => 0)), .inr (0, 7, .inl (fun _ => 0)), .inr (0, 7, .inl (fun _ => 0)), .inr (0, 6, .inl (fun _ => 0))]) hb dX6_init_31 rfl rfl (Nat.le_of_ble_eq_true rfl) (by decide) rfl (by omega) (by omega) ⟨Nat.le_of_ble_eq_true rfl, Nat.le_of_ble_eq_true rfl⟩ ?_
  refine mp_putF (i := 0) (t' := [.inl (6, [.int 0, .int 0, .int 0, .int 0, .ref (b + 1), .ref (b + 2), .ref (b + 3), .ref (b + 4), .null]), .inr (0, 7, .inl (fun _ => 0)), .inr (0, 7, .inl (fun _ => 0)), .inr (0, 7, .inl (fun _ => 0)), .inr (0, 6, .inl (fun _ => 0))]) hb rfl dX6_init_33 rfl rfl rfl (by decide) gX6_21 rfl rfl rfl rfl rfl (Nat.le_of_ble_eq_true rfl) rfl ?_
  refine mn_aload_n dX6_init_36 rfl 0 rfl ?_
  refine mn_bipush (v := 6) dX6_init_37 (by decide) ?_
  refine mp_newi (j := 5) (t' := [.inl (6, [.int 0, .int 0, .int 0, .int 0, .ref (b + 1), .ref (b + 2), .ref (b + 3), .ref (b + 4), .null]), .inr (0, 7, .inl (fun _ => 0)), .inr (0, 7, .inl (fun _ => 0)), .inr (0, 7, .inl (fun _ => 0)), .inr (0, 6, .inl (fun _ => 0)), .inr (0, 6, .inl (fun _ => 0))]) hb dX6_init_39 rfl rfl (Nat.le_of_ble_eq_true rfl) (by decide) rfl (by omega) (by omega) ⟨Nat.le_of_ble_eq_true rfl, Nat.le_of_ble_eq_true rfl⟩ ?_
  refine mp_putF (i := 0) (t' := [.inl (6, [.int 0, .int 0, .int 0, .int 0, .ref (b + 1), .ref (b + 2), .ref (b + 3), .ref (b + 4), .ref (b + 5)]), .inr (0, 7, .inl (fun _ => 0)), .inr (0, 7, .inl (fun _ => 0)), .inr (0, 7, .inl (fun _ => 0)), .inr (0, 6, .inl (fun _ => 0)), .inr (0, 6, .inl (fun _ => 0))]) hb rfl dX6_init_41 rfl rfl rfl (by decide) gX6_24 rfl rfl rfl rfl rfl (Nat.le_of_ble_eq_true rfl) rfl ?_
  exact mn_vret rfl dX6_init_44 rfl rfl ⟨rfl, rfl⟩
def rs_reader (b : Nat) : List mm_E := [.inl (8, [.int 0, .int 0, .int (-1), .int 0, .int 0, .ref (b + 1)]), .inr (0, 240, .inl (fun _ => 0))]
theorem k_reader {g : mm_G} : mp_ctor g yX8_init cX8_init 1 (mn_rm 1 1 240) [] (.inl (8, df8)) rs_reader 2 := by
  refine mp_of (own := RX8) (by decide) (fun _ => Nat.le_of_ble_eq_true rfl) rfl rfl ?_
  intro w b hb h9
  show mn _ _ _ _ _ _ _ _ _ 0 0 (w ++ [.inl (8, df8)]) 0 [(0, .ref b)] []
  refine mn_aload_n dX8_init_0 rfl 0 rfl ?_
  refine mn_objInit dX8_init_1 ko_RX8 kc_O1 kc_O2 (by omega) ⟨Nat.le_of_ble_eq_true rfl, Nat.le_of_ble_eq_true rfl⟩ ?_
  refine mn_aload_n dX8_init_4 rfl 0 rfl ?_
  refine mn_iconst (v := -1) dX8_init_5 (by decide) ?_
  refine mp_put (i := 0) (t' := [.inl (8, [.int 0, .int 0, .int (-1), .int 0, .int 0, .null])]) hb dX8_init_6 rfl rfl rfl (by decide) gX8_9 rfl rfl rfl rfl (Nat.le_of_ble_eq_true rfl) rfl ?_
  refine mn_aload_n dX8_init_9 rfl 0 rfl ?_
  refine mn_sipush (v := 240) dX8_init_10 (by decide) ?_
  refine mp_newi (j := 1) (t' := [.inl (8, [.int 0, .int 0, .int (-1), .int 0, .int 0, .null]), .inr (0, 240, .inl (fun _ => 0))]) hb dX8_init_13 rfl rfl (Nat.le_of_ble_eq_true rfl) (by decide) rfl (by omega) (by omega) ⟨Nat.le_of_ble_eq_true rfl, Nat.le_of_ble_eq_true rfl⟩ ?_
  refine mp_putF (i := 0) (t' := [.inl (8, [.int 0, .int 0, .int (-1), .int 0, .int 0, .ref (b + 1)]), .inr (0, 240, .inl (fun _ => 0))]) hb rfl dX8_init_15 rfl rfl rfl (by decide) gX8_15 rfl rfl rfl rfl rfl (Nat.le_of_ble_eq_true rfl) rfl ?_
  exact mn_vret rfl dX8_init_18 rfl rfl ⟨rfl, rfl⟩
def rs_image (b : Nat) : List mm_E := .inl (4, [.int 0, .int 0, .ref (b + 1)]) :: rs_folk (b + 1)
theorem k_image {g : mm_G} : mp_ctor g yX4_init cX4_init 1 (mn_rm 2 5 35) [] (.inl (4, df4)) rs_image 6 := by
  refine mp_of (own := RX4) (by decide) (fun _ => Nat.le_of_ble_eq_true rfl) rfl rfl ?_
  intro w b hb h9
  show mn _ _ _ _ _ _ _ _ _ 0 0 (w ++ [.inl (4, df4)]) 0 [(0, .ref b)] []
  refine mn_aload_n dX4_init_0 rfl 0 rfl ?_
  refine mn_objInit dX4_init_1 ko_RX4 kc_O1 kc_O2 (by omega) ⟨Nat.le_of_ble_eq_true rfl, Nat.le_of_ble_eq_true rfl⟩ ?_
  refine mn_aload_n dX4_init_4 rfl 0 rfl ?_
  refine mp_new (j := 1) (t' := [.inl (4, [.int 0, .int 0, .null]), .inl (3, df3)]) hb dX4_init_5 kc_RX4_7 kc_D3 rfl rfl (by omega) (by omega) ⟨Nat.le_of_ble_eq_true rfl, Nat.le_of_ble_eq_true rfl⟩ ?_
  refine mn_dup dX4_init_8 rfl ?_
  refine mp_callIN (j := 1) (t0 := [.inl (4, [.int 0, .int 0, .null])]) (t' := .inl (4, [.int 0, .int 0, .null]) :: rs_folk (b + 1)) hb dX4_init_9 qmX4_9 k_folk rfl rfl rfl rfl rfl (by omega) tk_X3_init rfl (Nat.le_of_ble_eq_true rfl) ⟨Nat.le_of_ble_eq_true rfl, Nat.le_of_ble_eq_true rfl⟩ ⟨Nat.le_of_ble_eq_true rfl, Nat.le_of_ble_eq_true rfl⟩ (by omega) ?_
  refine mp_putF (i := 0) (t' := (.inl (4, [.int 0, .int 0, .ref (b + 1)]) :: rs_folk (b + 1))) hb rfl dX4_init_12 rfl rfl rfl (by decide) gX4_10 rfl rfl rfl rfl rfl (Nat.le_of_ble_eq_true rfl) rfl ?_
  exact mn_vret rfl dX4_init_15 rfl rfl ⟨rfl, rfl⟩
