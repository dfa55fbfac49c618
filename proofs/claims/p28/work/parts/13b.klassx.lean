def F_X3_isOne_15 (S : mm_S) (x1 : Int32) : Int32 := (if x1 < (0 : Int32) then (0 : Int32) else (if (S.1 15 2) ≤ x1 then (0 : Int32) else (1 : Int32)))
set_option maxRecDepth 100000 in
set_option maxHeartbeats 4000000 in
theorem cx_X3_isOne_15 {g : mm_G} (S : mm_S) (hI : JC S) (x1 : Int32) : mc g yX3_isOne cX3_isOne 2 (some .boolean) (mm_rm 0) [.ref 15, .int x1] (mm_enc shC S) (qi shC (fun S1 v => S = S1 ∧ mm_b (0) (1) v ∧ (v = 0 ∨ (mm_b (0) (6) x1)) ∧ F_X3_isOne_15 S x1 = v)) := by
  refine mc_of2 (own := RX3) (ini := false) (ls := [(0, .ref 15), (1, .int x1)]) (by decide) (Nat.le_of_ble_eq_true rfl) rfl (by decide) rfl ?_
  refine mw_iload_n dX3_isOne_0 rfl 1 rfl ?_
  refine mw_if_lt (tgt := 16) dX3_isOne_1 (by decide) (fun q101 => ?_) (fun q101 => ?_)
  · skip
    have b102 : mm_b (-2147483648) (-1) x1 := bd_lt_l q101 (bd_all x1) n_0 (by decide)
    refine mw_iconst dX3_isOne_16 ki_0 ?_
    exact mw_zret rfl (bd_nar n_0 (by decide)) dX3_isOne_17 rfl rfl ⟨S, _, rfl, rfl, rfl, bd_w n_0 (by decide), Or.inl rfl, (by rw [F_X3_isOne_15, if_pos q101])⟩
  · skip
    have b103 : mm_b (0) (2147483647) x1 := bd_le_r (bd_nlt q101) n_0 (bd_all x1) (by decide)
    refine mw_iload_n dX3_isOne_4 rfl 1 rfl ?_
    refine mw_aload_n dX3_isOne_5 rfl 0 rfl ?_
    refine tw_geti (j := 2) dX3_isOne_6 shC_15 rfl rfl (by decide) fX3_36 (fun v104 ev104 => ?_)
    have b105 : mm_b (0) (7) v104 := JIC_fld hI ev104 tbC_9 (by decide)
    refine mw_icmp_ge (tgt := 16) dX3_isOne_9 (by decide) (fun q106 => ?_) (fun q106 => ?_)
    · skip
      refine mw_iconst dX3_isOne_16 ki_0 ?_
      exact mw_zret rfl (bd_nar n_0 (by decide)) dX3_isOne_17 rfl rfl ⟨S, _, rfl, rfl, rfl, bd_w n_0 (by decide), Or.inl rfl, (by subst ev104; rw [F_X3_isOne_15, if_neg q101, if_pos q106])⟩
    · skip
      have b107 : mm_b (0) (6) x1 := bd_lt_l (bd_nle q106) b103 b105 (by decide)
      have b108 : mm_b (1) (7) v104 := bd_lt_r (bd_nle q106) b103 b105 (by decide)
      refine mw_iconst dX3_isOne_12 ki_1 ?_
      refine mw_goto (tgt := 17) dX3_isOne_13 (by decide) ?_
      exact mw_zret rfl (bd_nar n_1 (by decide)) dX3_isOne_17 rfl rfl ⟨S, _, rfl, rfl, rfl, bd_w n_1 (by decide), Or.inr (bd_w b107 (by decide)), (by subst ev104; rw [F_X3_isOne_15, if_neg q101, if_neg q106])⟩
def F_X3_lives_15 (S : mm_S) (x1 : Int32) : Int32 := (if x1 < (0 : Int32) then (0 : Int32) else (if (S.1 15 2) ≤ x1 then (0 : Int32) else (if (((S.1 15 0) >>> (x1 &&& 31)) &&& (1 : Int32)) = (0 : Int32) then (0 : Int32) else (1 : Int32))))
set_option maxRecDepth 100000 in
set_option maxHeartbeats 4000000 in
theorem cx_X3_lives_15 {g : mm_G} (S : mm_S) (hI : JC S) (x1 : Int32) : mc g yX3_lives cX3_lives 2 (some .boolean) (mm_rm 0) [.ref 15, .int x1] (mm_enc shC S) (qi shC (fun S1 v => S = S1 ∧ mm_b (0) (1) v ∧ (v = 0 ∨ (mm_b (0) (6) x1)) ∧ F_X3_lives_15 S x1 = v)) := by
  refine mc_of2 (own := RX3) (ini := false) (ls := [(0, .ref 15), (1, .int x1)]) (by decide) (Nat.le_of_ble_eq_true rfl) rfl (by decide) rfl ?_
  refine mw_iload_n dX3_lives_0 rfl 1 rfl ?_
  refine mw_if_lt (tgt := 27) dX3_lives_1 (by decide) (fun q101 => ?_) (fun q101 => ?_)
  · skip
    have b102 : mm_b (-2147483648) (-1) x1 := bd_lt_l q101 (bd_all x1) n_0 (by decide)
    refine mw_iconst dX3_lives_27 ki_0 ?_
    exact mw_zret rfl (bd_nar n_0 (by decide)) dX3_lives_28 rfl rfl ⟨S, _, rfl, rfl, rfl, bd_w n_0 (by decide), Or.inl rfl, (by rw [F_X3_lives_15, if_pos q101])⟩
  · skip
    have b103 : mm_b (0) (2147483647) x1 := bd_le_r (bd_nlt q101) n_0 (bd_all x1) (by decide)
    refine mw_iload_n dX3_lives_4 rfl 1 rfl ?_
    refine mw_aload_n dX3_lives_5 rfl 0 rfl ?_
    refine tw_geti (j := 2) dX3_lives_6 shC_15 rfl rfl (by decide) fX3_36 (fun v104 ev104 => ?_)
    have b105 : mm_b (0) (7) v104 := JIC_fld hI ev104 tbC_9 (by decide)
    refine mw_icmp_ge (tgt := 27) dX3_lives_9 (by decide) (fun q106 => ?_) (fun q106 => ?_)
    · skip
      refine mw_iconst dX3_lives_27 ki_0 ?_
      exact mw_zret rfl (bd_nar n_0 (by decide)) dX3_lives_28 rfl rfl ⟨S, _, rfl, rfl, rfl, bd_w n_0 (by decide), Or.inl rfl, (by subst ev104; rw [F_X3_lives_15, if_neg q101, if_pos q106])⟩
    · skip
      have b107 : mm_b (0) (6) x1 := bd_lt_l (bd_nle q106) b103 b105 (by decide)
      have b108 : mm_b (1) (7) v104 := bd_lt_r (bd_nle q106) b103 b105 (by decide)
      refine mw_aload_n dX3_lives_12 rfl 0 rfl ?_
      refine tw_geti (j := 0) dX3_lives_13 shC_15 rfl rfl (by decide) fX3_39 (fun v109 ev109 => ?_)
      refine mw_iload_n dX3_lives_16 rfl 1 rfl ?_
      refine mw_ishr dX3_lives_17 (fun v110 ev110 => ?_)
      refine mw_iconst dX3_lives_18 ki_1 ?_
      refine mw_iand dX3_lives_19 (fun v111 ev111 => ?_)
      have b112 : mm_b (0) (1) v111 := bd_andR ev111 n_1 (by decide)
      refine mw_if_eq (tgt := 27) dX3_lives_20 (by decide) (fun q113 => ?_) (fun q113 => ?_)
      · skip
        have b114 : mm_b (0) (0) v111 := bd_eq_l q113 b112 n_0 (by decide)
        refine mw_iconst dX3_lives_27 ki_0 ?_
        exact mw_zret rfl (bd_nar n_0 (by decide)) dX3_lives_28 rfl rfl ⟨S, _, rfl, rfl, rfl, bd_w n_0 (by decide), Or.inl rfl, (by subst ev111; subst ev110; subst ev109; subst ev104; rw [F_X3_lives_15, if_neg q101, if_neg q106, if_pos q113])⟩
      · skip
        have b115 : mm_b (1) (1) v111 := bd_ne_l q113 b112 n_0 (by decide)
        refine mw_iconst dX3_lives_23 ki_1 ?_
        refine mw_goto (tgt := 28) dX3_lives_24 (by decide) ?_
        exact mw_zret rfl (bd_nar n_1 (by decide)) dX3_lives_28 rfl rfl ⟨S, _, rfl, rfl, rfl, bd_w n_1 (by decide), Or.inr (bd_w b107 (by decide)), (by subst ev111; subst ev110; subst ev109; subst ev104; rw [F_X3_lives_15, if_neg q101, if_neg q106, if_neg q113])⟩
def F_X3_voiceOf_15 (S : mm_S) (x1 : Int32) : Int32 := (if (F_X3_isOne_15 S x1) = (0 : Int32) then (9 : Int32) else (S.1 16 (x1).toNatClampNeg))
set_option maxRecDepth 100000 in
set_option maxHeartbeats 4000000 in
theorem cx_X3_voiceOf_15 {g : mm_G} (S : mm_S) (hI : JC S) (x1 : Int32) : mc g yX3_voiceOf cX3_voiceOf 2 (some .int) (mm_rm 1) [.ref 15, .int x1] (mm_enc shC S) (qi shC (fun S1 v => S = S1 ∧ mm_b (-2147483648) (2147483647) v ∧ (True) ∧ F_X3_voiceOf_15 S x1 = v)) := by
  refine mc_of2 (own := RX3) (ini := false) (ls := [(0, .ref 15), (1, .int x1)]) (by decide) (Nat.le_of_ble_eq_true rfl) rfl (by decide) rfl ?_
  refine mw_aload_n dX3_voiceOf_0 rfl 0 rfl ?_
  refine mw_iload_n dX3_voiceOf_1 rfl 1 rfl ?_
  refine tc_Vi (as := [.int x1]) (st := []) dX3_voiceOf_2 rfl shC_15 rfl rfl mX3_56 t_X3_isOne rfl (Nat.le_of_ble_eq_true rfl) (by decide) (by decide) (cx_X3_isOne_15 (g := g) S hI x1) (fun S101 v103 h102 => ?_)
  obtain ⟨rfl, b104, x105, hx106⟩ := h102
  refine mw_if_eq (tgt := 17) dX3_voiceOf_5 (by decide) (fun q107 => ?_) (fun q107 => ?_)
  · skip
    have b108 : mm_b (0) (0) v103 := bd_eq_l q107 b104 n_0 (by decide)
    refine mw_bipush dX3_voiceOf_17 kb_9 ?_
    exact mw_iret rfl dX3_voiceOf_19 rfl rfl ⟨S, _, rfl, rfl, rfl, bd_w n_9 (by decide), trivial, (by subst hx106; rw [F_X3_voiceOf_15, if_pos q107])⟩
  · skip
    have b109 : mm_b (1) (1) v103 := bd_ne_l q107 b104 n_0 (by decide)
    have b110 := Or.resolve_left x105 q107
    refine mw_aload_n dX3_voiceOf_8 rfl 0 rfl ?_
    refine tw_getr (j := 3) dX3_voiceOf_9 shC_15 rfl rfl (by decide) fX3_9 ?_
    refine mw_iload_n dX3_voiceOf_12 rfl 1 rfl ?_
    refine tw_iald dX3_voiceOf_13 shC_16 (bd_in b110 (by decide)) (fun v111 ev111 => ?_)
    refine mw_goto (tgt := 19) dX3_voiceOf_14 (by decide) ?_
    exact mw_iret rfl dX3_voiceOf_19 rfl rfl ⟨S, _, rfl, rfl, rfl, (bd_all v111), trivial, (by subst ev111; subst hx106; rw [F_X3_voiceOf_15, if_neg q107])⟩
def F_X3_jarOf_15 (S : mm_S) (x1 : Int32) : Int32 := (if (F_X3_isOne_15 S x1) = (0 : Int32) then (0 : Int32) else (S.1 17 (x1).toNatClampNeg))
set_option maxRecDepth 100000 in
set_option maxHeartbeats 4000000 in
theorem cx_X3_jarOf_15 {g : mm_G} (S : mm_S) (hI : JC S) (x1 : Int32) : mc g yX3_jarOf cX3_jarOf 2 (some .int) (mm_rm 1) [.ref 15, .int x1] (mm_enc shC S) (qi shC (fun S1 v => S = S1 ∧ mm_b (-2147483648) (2147483647) v ∧ (True) ∧ F_X3_jarOf_15 S x1 = v)) := by
  refine mc_of2 (own := RX3) (ini := false) (ls := [(0, .ref 15), (1, .int x1)]) (by decide) (Nat.le_of_ble_eq_true rfl) rfl (by decide) rfl ?_
  refine mw_aload_n dX3_jarOf_0 rfl 0 rfl ?_
  refine mw_iload_n dX3_jarOf_1 rfl 1 rfl ?_
  refine tc_Vi (as := [.int x1]) (st := []) dX3_jarOf_2 rfl shC_15 rfl rfl mX3_56 t_X3_isOne rfl (Nat.le_of_ble_eq_true rfl) (by decide) (by decide) (cx_X3_isOne_15 (g := g) S hI x1) (fun S101 v103 h102 => ?_)
  obtain ⟨rfl, b104, x105, hx106⟩ := h102
  refine mw_if_eq (tgt := 17) dX3_jarOf_5 (by decide) (fun q107 => ?_) (fun q107 => ?_)
  · skip
    have b108 : mm_b (0) (0) v103 := bd_eq_l q107 b104 n_0 (by decide)
    refine mw_iconst dX3_jarOf_17 ki_0 ?_
    exact mw_iret rfl dX3_jarOf_18 rfl rfl ⟨S, _, rfl, rfl, rfl, bd_w n_0 (by decide), trivial, (by subst hx106; rw [F_X3_jarOf_15, if_pos q107])⟩
  · skip
    have b109 : mm_b (1) (1) v103 := bd_ne_l q107 b104 n_0 (by decide)
    have b110 := Or.resolve_left x105 q107
    refine mw_aload_n dX3_jarOf_8 rfl 0 rfl ?_
    refine tw_getr (j := 4) dX3_jarOf_9 shC_15 rfl rfl (by decide) fX3_15 ?_
    refine mw_iload_n dX3_jarOf_12 rfl 1 rfl ?_
    refine tw_iald dX3_jarOf_13 shC_17 (bd_in b110 (by decide)) (fun v111 ev111 => ?_)
    refine mw_goto (tgt := 18) dX3_jarOf_14 (by decide) ?_
    exact mw_iret rfl dX3_jarOf_18 rfl rfl ⟨S, _, rfl, rfl, rfl, (bd_all v111), trivial, (by subst ev111; subst hx106; rw [F_X3_jarOf_15, if_neg q107])⟩
def F_X3_firstHeir_15 (S : mm_S) (x1 : Int32) : Int32 := (if (F_X3_isOne_15 S x1) = (0 : Int32) then (9 : Int32) else (S.1 18 (x1).toNatClampNeg))
set_option maxRecDepth 100000 in
set_option maxHeartbeats 4000000 in
theorem cx_X3_firstHeir_15 {g : mm_G} (S : mm_S) (hI : JC S) (x1 : Int32) : mc g yX3_firstHeir cX3_firstHeir 2 (some .int) (mm_rm 1) [.ref 15, .int x1] (mm_enc shC S) (qi shC (fun S1 v => S = S1 ∧ mm_b (-2147483648) (2147483647) v ∧ (True) ∧ F_X3_firstHeir_15 S x1 = v)) := by
  refine mc_of2 (own := RX3) (ini := false) (ls := [(0, .ref 15), (1, .int x1)]) (by decide) (Nat.le_of_ble_eq_true rfl) rfl (by decide) rfl ?_
  refine mw_aload_n dX3_firstHeir_0 rfl 0 rfl ?_
  refine mw_iload_n dX3_firstHeir_1 rfl 1 rfl ?_
  refine tc_Vi (as := [.int x1]) (st := []) dX3_firstHeir_2 rfl shC_15 rfl rfl mX3_56 t_X3_isOne rfl (Nat.le_of_ble_eq_true rfl) (by decide) (by decide) (cx_X3_isOne_15 (g := g) S hI x1) (fun S101 v103 h102 => ?_)
  obtain ⟨rfl, b104, x105, hx106⟩ := h102
  refine mw_if_eq (tgt := 17) dX3_firstHeir_5 (by decide) (fun q107 => ?_) (fun q107 => ?_)
  · skip
    have b108 : mm_b (0) (0) v103 := bd_eq_l q107 b104 n_0 (by decide)
    refine mw_bipush dX3_firstHeir_17 kb_9 ?_
    exact mw_iret rfl dX3_firstHeir_19 rfl rfl ⟨S, _, rfl, rfl, rfl, bd_w n_9 (by decide), trivial, (by subst hx106; rw [F_X3_firstHeir_15, if_pos q107])⟩
  · skip
    have b109 : mm_b (1) (1) v103 := bd_ne_l q107 b104 n_0 (by decide)
    have b110 := Or.resolve_left x105 q107
    refine mw_aload_n dX3_firstHeir_8 rfl 0 rfl ?_
    refine tw_getr (j := 5) dX3_firstHeir_9 shC_15 rfl rfl (by decide) fX3_18 ?_
    refine mw_iload_n dX3_firstHeir_12 rfl 1 rfl ?_
    refine tw_iald dX3_firstHeir_13 shC_18 (bd_in b110 (by decide)) (fun v111 ev111 => ?_)
    refine mw_goto (tgt := 19) dX3_firstHeir_14 (by decide) ?_
    exact mw_iret rfl dX3_firstHeir_19 rfl rfl ⟨S, _, rfl, rfl, rfl, (bd_all v111), trivial, (by subst ev111; subst hx106; rw [F_X3_firstHeir_15, if_neg q107])⟩
def F_X3_secondHeir_15 (S : mm_S) (x1 : Int32) : Int32 := (if (F_X3_isOne_15 S x1) = (0 : Int32) then (9 : Int32) else (S.1 19 (x1).toNatClampNeg))
set_option maxRecDepth 100000 in
set_option maxHeartbeats 4000000 in
theorem cx_X3_secondHeir_15 {g : mm_G} (S : mm_S) (hI : JC S) (x1 : Int32) : mc g yX3_secondHeir cX3_secondHeir 2 (some .int) (mm_rm 1) [.ref 15, .int x1] (mm_enc shC S) (qi shC (fun S1 v => S = S1 ∧ mm_b (-2147483648) (2147483647) v ∧ (True) ∧ F_X3_secondHeir_15 S x1 = v)) := by
  refine mc_of2 (own := RX3) (ini := false) (ls := [(0, .ref 15), (1, .int x1)]) (by decide) (Nat.le_of_ble_eq_true rfl) rfl (by decide) rfl ?_
  refine mw_aload_n dX3_secondHeir_0 rfl 0 rfl ?_
  refine mw_iload_n dX3_secondHeir_1 rfl 1 rfl ?_
  refine tc_Vi (as := [.int x1]) (st := []) dX3_secondHeir_2 rfl shC_15 rfl rfl mX3_56 t_X3_isOne rfl (Nat.le_of_ble_eq_true rfl) (by decide) (by decide) (cx_X3_isOne_15 (g := g) S hI x1) (fun S101 v103 h102 => ?_)
  obtain ⟨rfl, b104, x105, hx106⟩ := h102
  refine mw_if_eq (tgt := 17) dX3_secondHeir_5 (by decide) (fun q107 => ?_) (fun q107 => ?_)
  · skip
    have b108 : mm_b (0) (0) v103 := bd_eq_l q107 b104 n_0 (by decide)
    refine mw_bipush dX3_secondHeir_17 kb_9 ?_
    exact mw_iret rfl dX3_secondHeir_19 rfl rfl ⟨S, _, rfl, rfl, rfl, bd_w n_9 (by decide), trivial, (by subst hx106; rw [F_X3_secondHeir_15, if_pos q107])⟩
  · skip
    have b109 : mm_b (1) (1) v103 := bd_ne_l q107 b104 n_0 (by decide)
    have b110 := Or.resolve_left x105 q107
    refine mw_aload_n dX3_secondHeir_8 rfl 0 rfl ?_
    refine tw_getr (j := 6) dX3_secondHeir_9 shC_15 rfl rfl (by decide) fX3_21 ?_
    refine mw_iload_n dX3_secondHeir_12 rfl 1 rfl ?_
    refine tw_iald dX3_secondHeir_13 shC_19 (bd_in b110 (by decide)) (fun v111 ev111 => ?_)
    refine mw_goto (tgt := 19) dX3_secondHeir_14 (by decide) ?_
    exact mw_iret rfl dX3_secondHeir_19 rfl rfl ⟨S, _, rfl, rfl, rfl, (bd_all v111), trivial, (by subst ev111; subst hx106; rw [F_X3_secondHeir_15, if_neg q107])⟩
def F_X3_silent_15_L4  : Nat → mm_S → Int32 → Int32 → Int32
  | 0, S, _, _ => 0
  | N + 1, S, y101, y103 => (if (S.1 15 2) ≤ y103 then y101 else (if (((S.1 15 0) >>> (y103 &&& 31)) &&& (1 : Int32)) = (0 : Int32) then ((F_X3_silent_15_L4  N) S y101 (y103 + Int32.ofInt 1)) else (if (S.1 16 (y103).toNatClampNeg) = (9 : Int32) then ((F_X3_silent_15_L4  N) S (y101 ||| ((1 : Int32) <<< (y103 &&& 31))) (y103 + Int32.ofInt 1)) else ((F_X3_silent_15_L4  N) S y101 (y103 + Int32.ofInt 1)))))
def F_X3_silent_15 (S : mm_S)  : Int32 := (F_X3_silent_15_L4  9 S (0 : Int32) (0 : Int32))
set_option maxRecDepth 100000 in
set_option maxHeartbeats 4000000 in
theorem cx_X3_silent_15 {g : mm_G} (S : mm_S) (hI : JC S)  : mc g yX3_silent cX3_silent 3 (some .int) (mm_rm 0) [.ref 15] (mm_enc shC S) (qi shC (fun S1 v => S = S1 ∧ mm_b (0) (127) v ∧ (True) ∧ F_X3_silent_15 S = v)) := by
  refine mc_of2 (own := RX3) (ini := false) (ls := [(0, .ref 15)]) (by decide) (Nat.le_of_ble_eq_true rfl) rfl (by decide) rfl ?_
  refine mw_iconst dX3_silent_0 ki_0 ?_
  refine mw_istore_n (ls' := [(1, .int 0), (0, .ref 15)]) dX3_silent_1 rfl (by decide) rfl ?_
  refine mw_iconst dX3_silent_2 ki_0 ?_
  refine mw_istore_n (ls' := [(2, .int 0), (1, .int 0), (0, .ref 15)]) dX3_silent_3 rfl (by decide) rfl ?_
  have cut4 : ∀ (N4 : Nat) (y101 y103 : Int32), ((8 : Int) - y103.toInt).toNat < N4 → mm_b (0) (127) y101 → mm_b (0) (7) y103 → F_X3_silent_15 S = F_X3_silent_15_L4  N4 S y101 y103 → mw g RX3 cX3_silent 3 (some .int) false (mm_rm 0) (qi shC (fun S1 v => S = S1 ∧ mm_b (0) (127) v ∧ (True) ∧ F_X3_silent_15 S = v)) 0 0 (mm_enc shC S) 4 [(0, .ref 15), (1, .int y101), (2, .int y103)] [] := by
    intro N4
    induction N4 with
    | zero =>
      intro y101 y103 hm105 b102 b104 hE106
      exact absurd hm105 (Nat.not_lt_zero _)
    | succ N4 ih4 =>
      intro y101 y103 hm105 b102 b104 hE106
      refine mw_iload_n dX3_silent_4 rfl 2 rfl ?_
      refine mw_aload_n dX3_silent_5 rfl 0 rfl ?_
      refine tw_geti (j := 2) dX3_silent_6 shC_15 rfl rfl (by decide) fX3_36 (fun v107 ev107 => ?_)
      have b108 : mm_b (0) (7) v107 := JIC_fld hI ev107 tbC_9 (by decide)
      refine mw_icmp_ge (tgt := 46) dX3_silent_9 (by decide) (fun q109 => ?_) (fun q109 => ?_)
      · skip
        refine mw_iload_n dX3_silent_46 rfl 1 rfl ?_
        exact mw_iret rfl dX3_silent_47 rfl rfl ⟨S, _, rfl, rfl, rfl, b102, trivial, (by subst ev107; exact hE106.trans (by rw [F_X3_silent_15_L4, if_pos q109]))⟩
      · skip
        have b110 : mm_b (0) (6) y103 := bd_lt_l (bd_nle q109) b104 b108 (by decide)
        have b111 : mm_b (1) (7) v107 := bd_lt_r (bd_nle q109) b104 b108 (by decide)
        refine mw_aload_n dX3_silent_12 rfl 0 rfl ?_
        refine tw_geti (j := 0) dX3_silent_13 shC_15 rfl rfl (by decide) fX3_39 (fun v112 ev112 => ?_)
        refine mw_iload_n dX3_silent_16 rfl 2 rfl ?_
        refine mw_ishr dX3_silent_17 (fun v113 ev113 => ?_)
        refine mw_iconst dX3_silent_18 ki_1 ?_
        refine mw_iand dX3_silent_19 (fun v114 ev114 => ?_)
        have b115 : mm_b (0) (1) v114 := bd_andR ev114 n_1 (by decide)
        refine mw_if_eq (tgt := 40) dX3_silent_20 (by decide) (fun q116 => ?_) (fun q116 => ?_)
        · skip
          have b117 : mm_b (0) (0) v114 := bd_eq_l q116 b115 n_0 (by decide)
          refine mw_iinc (ls' := fun v => [(2, .int v), (0, .ref 15), (1, .int y101)]) dX3_silent_40 2 rfl (by decide) (fun _ => rfl) (fun v118 ev118 => ?_)
          have b119 : mm_b (1) (7) v118 := bd_inc ev118 b110 (by decide)
          refine mw_goto (tgt := 4) dX3_silent_43 (by decide) ?_
          refine mw_ls [1, 2, 0] rfl ?_
          exact ih4 y101 v118 (ms_inc ev118 b110 (by decide) hm105) b102 (bd_w b119 (by decide)) (by subst ev118; subst ev114; subst ev113; subst ev112; subst ev107; exact hE106.trans (by rw [F_X3_silent_15_L4, if_neg q109, if_pos q116]))
        · skip
          have b120 : mm_b (1) (1) v114 := bd_ne_l q116 b115 n_0 (by decide)
          refine mw_aload_n dX3_silent_23 rfl 0 rfl ?_
          refine tw_getr (j := 3) dX3_silent_24 shC_15 rfl rfl (by decide) fX3_9 ?_
          refine mw_iload_n dX3_silent_27 rfl 2 rfl ?_
          refine tw_iald dX3_silent_28 shC_16 (bd_in b110 (by decide)) (fun v121 ev121 => ?_)
          refine mw_bipush dX3_silent_29 kb_9 ?_
          refine mw_icmp_ne (tgt := 40) dX3_silent_31 (by decide) (fun q122 => ?_) (fun q122 => ?_)
          · skip
            refine mw_iinc (ls' := fun v => [(2, .int v), (0, .ref 15), (1, .int y101)]) dX3_silent_40 2 rfl (by decide) (fun _ => rfl) (fun v123 ev123 => ?_)
            have b124 : mm_b (1) (7) v123 := bd_inc ev123 b110 (by decide)
            refine mw_goto (tgt := 4) dX3_silent_43 (by decide) ?_
            refine mw_ls [1, 2, 0] rfl ?_
            exact ih4 y101 v123 (ms_inc ev123 b110 (by decide) hm105) b102 (bd_w b124 (by decide)) (by subst ev123; subst ev121; subst ev114; subst ev113; subst ev112; subst ev107; exact hE106.trans (by rw [F_X3_silent_15_L4, if_neg q109, if_neg q116, if_neg q122]))
          · skip
            have b125 : mm_b (9) (9) v121 := bd_eq_l q122 (bd_all v121) n_9 (by decide)
            refine mw_iload_n dX3_silent_34 rfl 1 rfl ?_
            refine mw_iconst dX3_silent_35 ki_1 ?_
            refine mw_iload_n dX3_silent_36 rfl 2 rfl ?_
            refine mw_ishl dX3_silent_37 (fun v126 ev126 => ?_)
            have b127 : mm_b (1) (64) v126 := bd_shl 6 ev126 b110 (by decide)
            refine mw_ior dX3_silent_38 (fun v128 ev128 => ?_)
            have b129 : mm_b (0) (127) v128 := bd_or 7 ev128 b102 b127 (by decide)
            refine mw_istore_n (ls' := [(1, .int v128), (0, .ref 15), (2, .int y103)]) dX3_silent_39 rfl (by decide) rfl ?_
            refine mw_iinc (ls' := fun v => [(2, .int v), (1, .int v128), (0, .ref 15)]) dX3_silent_40 2 rfl (by decide) (fun _ => rfl) (fun v130 ev130 => ?_)
            have b131 : mm_b (1) (7) v130 := bd_inc ev130 b110 (by decide)
            refine mw_goto (tgt := 4) dX3_silent_43 (by decide) ?_
            refine mw_ls [2, 1, 0] rfl ?_
            exact ih4 v128 v130 (ms_inc ev130 b110 (by decide) hm105) b129 (bd_w b131 (by decide)) (by subst ev130; subst ev128; subst ev126; subst ev121; subst ev114; subst ev113; subst ev112; subst ev107; exact hE106.trans (by rw [F_X3_silent_15_L4, if_neg q109, if_neg q116, if_pos q122]))
  refine mw_ls [2, 1, 0] rfl ?_
  exact cut4 9 (0 : Int32) (0 : Int32) (by have hz := n_0; omega) (bd_w n_0 (by decide)) (bd_w n_0 (by decide)) (by rw [F_X3_silent_15])
def F_X3_leastOf (S : mm_S) (x0 : Int32) : Int32 := (if x0 = (0 : Int32) then (-1 : Int32) else (F_Jntz S x0))
set_option maxRecDepth 100000 in
set_option maxHeartbeats 4000000 in
theorem cx_X3_leastOf {g : mm_G} (S : mm_S) (hI : JC S) (x0 : Int32) : mc g yX3_leastOf cX3_leastOf 1 (some .int) (mm_rm 1) [.int x0] (mm_enc shC S) (qi shC (fun S1 v => S = S1 ∧ mm_b (-2147483648) (2147483647) v ∧ (True) ∧ F_X3_leastOf S x0 = v)) := by
  refine mc_of2 (own := RX3) (ini := false) (ls := [(0, .int x0)]) (by decide) (Nat.le_of_ble_eq_true rfl) rfl (by decide) rfl ?_
  refine mw_iload_n dX3_leastOf_0 rfl 0 rfl ?_
  refine mw_if_ne (tgt := 8) dX3_leastOf_1 (by decide) (fun q101 => ?_) (fun q101 => ?_)
  · skip
    refine mw_iload_n dX3_leastOf_8 rfl 0 rfl ?_
    refine tc_Si (as := [.int x0]) (st := []) dX3_leastOf_9 rfl mX3_83 t_J6_numberOfTrailingZeros_0f7a4 rfl (Nat.le_of_ble_eq_true rfl) (by decide) (by decide) (cx_Jntz (g := g) S hI x0) (fun S102 v104 h103 => ?_)
    obtain ⟨rfl, b105, x106, hx107⟩ := h103
    exact mw_iret rfl dX3_leastOf_12 rfl rfl ⟨S, _, rfl, rfl, rfl, b105, trivial, (by subst hx107; rw [F_X3_leastOf, if_neg q101])⟩
  · skip
    have b108 : mm_b (0) (0) x0 := bd_eq_l q101 (bd_all x0) n_0 (by decide)
    refine mw_iconst dX3_leastOf_4 ki_m1 ?_
    refine mw_goto (tgt := 12) dX3_leastOf_5 (by decide) ?_
    exact mw_iret rfl dX3_leastOf_12 rfl rfl ⟨S, _, rfl, rfl, rfl, bd_w n_m1 (by decide), trivial, (by rw [F_X3_leastOf, if_pos q101])⟩
def F_X3_firstAlive_15 (S : mm_S) (x1 : Int32) (x2 : Int32) : Int32 := (if (F_X3_lives_15 S x1) = (0 : Int32) then (if (F_X3_lives_15 S x2) = (0 : Int32) then (F_X3_leastOf S (F_X3_silent_15 S)) else x2) else x1)
set_option maxRecDepth 100000 in
set_option maxHeartbeats 4000000 in
theorem cx_X3_firstAlive_15 {g : mm_G} (S : mm_S) (hI : JC S) (x1 : Int32) (x2 : Int32) : mc g yX3_firstAlive cX3_firstAlive 3 (some .int) (mm_rm 2) [.ref 15, .int x1, .int x2] (mm_enc shC S) (qi shC (fun S1 v => S = S1 ∧ mm_b (-2147483648) (2147483647) v ∧ (True) ∧ F_X3_firstAlive_15 S x1 x2 = v)) := by
  refine mc_of2 (own := RX3) (ini := false) (ls := [(0, .ref 15), (1, .int x1), (2, .int x2)]) (by decide) (Nat.le_of_ble_eq_true rfl) rfl (by decide) rfl ?_
  refine mw_aload_n dX3_firstAlive_0 rfl 0 rfl ?_
  refine mw_iload_n dX3_firstAlive_1 rfl 1 rfl ?_
  refine tc_Vi (as := [.int x1]) (st := []) dX3_firstAlive_2 rfl shC_15 rfl rfl mX3_59 t_X3_lives rfl (Nat.le_of_ble_eq_true rfl) (by decide) (by decide) (cx_X3_lives_15 (g := g) S hI x1) (fun S101 v103 h102 => ?_)
  obtain ⟨rfl, b104, x105, hx106⟩ := h102
  refine mw_if_eq (tgt := 10) dX3_firstAlive_5 (by decide) (fun q107 => ?_) (fun q107 => ?_)
  · skip
    have b108 : mm_b (0) (0) v103 := bd_eq_l q107 b104 n_0 (by decide)
    refine mw_aload_n dX3_firstAlive_10 rfl 0 rfl ?_
    refine mw_iload_n dX3_firstAlive_11 rfl 2 rfl ?_
    refine tc_Vi (as := [.int x2]) (st := []) dX3_firstAlive_12 rfl shC_15 rfl rfl mX3_59 t_X3_lives rfl (Nat.le_of_ble_eq_true rfl) (by decide) (by decide) (cx_X3_lives_15 (g := g) S hI x2) (fun S109 v111 h110 => ?_)
    obtain ⟨rfl, b112, x113, hx114⟩ := h110
    refine mw_if_eq (tgt := 22) dX3_firstAlive_15 (by decide) (fun q115 => ?_) (fun q115 => ?_)
    · skip
      have b116 : mm_b (0) (0) v111 := bd_eq_l q115 b112 n_0 (by decide)
      refine mw_aload_n dX3_firstAlive_22 rfl 0 rfl ?_
      refine tc_Vi (as := []) (st := []) dX3_firstAlive_23 rfl shC_15 rfl rfl mX3_76 t_X3_silent rfl (Nat.le_of_ble_eq_true rfl) (by decide) (by decide) (cx_X3_silent_15 (g := g) S hI) (fun S117 v119 h118 => ?_)
      obtain ⟨rfl, b120, x121, hx122⟩ := h118
      refine tc_Si (as := [.int v119]) (st := []) dX3_firstAlive_26 rfl mX3_80 t_X3_leastOf rfl (Nat.le_of_ble_eq_true rfl) (by decide) (by decide) (cx_X3_leastOf (g := g) S hI v119) (fun S123 v125 h124 => ?_)
      obtain ⟨rfl, b126, x127, hx128⟩ := h124
      exact mw_iret rfl dX3_firstAlive_29 rfl rfl ⟨S, _, rfl, rfl, rfl, b126, trivial, (by subst hx128; subst hx122; subst hx114; subst hx106; rw [F_X3_firstAlive_15, if_pos q107, if_pos q115])⟩
    · skip
      have b129 : mm_b (1) (1) v111 := bd_ne_l q115 b112 n_0 (by decide)
      have b130 := Or.resolve_left x113 q115
      refine mw_iload_n dX3_firstAlive_18 rfl 2 rfl ?_
      refine mw_goto (tgt := 29) dX3_firstAlive_19 (by decide) ?_
      exact mw_iret rfl dX3_firstAlive_29 rfl rfl ⟨S, _, rfl, rfl, rfl, bd_w b130 (by decide), trivial, (by subst hx114; subst hx106; rw [F_X3_firstAlive_15, if_pos q107, if_neg q115])⟩
  · skip
    have b131 : mm_b (1) (1) v103 := bd_ne_l q107 b104 n_0 (by decide)
    have b132 := Or.resolve_left x105 q107
    refine mw_iload_n dX3_firstAlive_8 rfl 1 rfl ?_
    exact mw_iret rfl dX3_firstAlive_9 rfl rfl ⟨S, _, rfl, rfl, rfl, bd_w b132 (by decide), trivial, (by subst hx106; rw [F_X3_firstAlive_15, if_neg q107])⟩
def F_X3_give_15 (S : mm_S) (x1 : Int32) (x2 : Int32) : mm_S := (if (F_X3_lives_15 S x1) = (0 : Int32) then S else (if (F_X9_isVoiceNumber S (S.1 16 (x1).toNatClampNeg)) = (0 : Int32) then (mm_up S 16 (x1).toNatClampNeg x2) else (mm_up (mm_up S 17 (x1).toNatClampNeg ((S.1 17 (x1).toNatClampNeg) ||| ((1 : Int32) <<< ((S.1 16 (x1).toNatClampNeg) &&& 31)))) 16 (x1).toNatClampNeg x2)))
set_option maxRecDepth 100000 in
set_option maxHeartbeats 4000000 in
theorem cx_X3_give_15 {g : mm_G} (S : mm_S) (hI : JC S) (x1 : Int32) (x2 : Int32) : mc g yX3_give cX3_give 3 none (mm_rm 1) [.ref 15, .int x1, .int x2] (mm_enc shC S) (qv shC (fun S1 => JC S1 ∧ fr [16, 17] [] true true S S1 ∧ True ∧ F_X3_give_15 S x1 x2 = S1)) := by
  refine mc_of2 (own := RX3) (ini := false) (ls := [(0, .ref 15), (1, .int x1), (2, .int x2)]) (by decide) (Nat.le_of_ble_eq_true rfl) rfl (by decide) rfl ?_
  have hF : fr [16, 17] [] true true S S := fr_rf
  refine mw_aload_n dX3_give_0 rfl 0 rfl ?_
  refine mw_iload_n dX3_give_1 rfl 1 rfl ?_
  refine tc_Vi (as := [.int x1]) (st := []) dX3_give_2 rfl shC_15 rfl rfl mX3_59 t_X3_lives rfl (Nat.le_of_ble_eq_true rfl) (by decide) (by decide) (cx_X3_lives_15 (g := g) S hI x1) (fun S101 v103 h102 => ?_)
  obtain ⟨rfl, b104, x105, hx106⟩ := h102
  refine mw_if_eq (tgt := 44) dX3_give_5 (by decide) (fun q107 => ?_) (fun q107 => ?_)
  · skip
    have b108 : mm_b (0) (0) v103 := bd_eq_l q107 b104 n_0 (by decide)
    exact mw_vret rfl dX3_give_44 rfl rfl ⟨S, rfl, rfl, ⟨hI, hF, trivial, (by subst hx106; rw [F_X3_give_15, if_pos q107])⟩⟩
  · skip
    have b109 : mm_b (1) (1) v103 := bd_ne_l q107 b104 n_0 (by decide)
    have b110 := Or.resolve_left x105 q107
    refine mw_aload_n dX3_give_8 rfl 0 rfl ?_
    refine tw_getr (j := 3) dX3_give_9 shC_15 rfl rfl (by decide) fX3_9 ?_
    refine mw_iload_n dX3_give_12 rfl 1 rfl ?_
    refine tw_iald dX3_give_13 shC_16 (bd_in b110 (by decide)) (fun v111 ev111 => ?_)
    refine tc_SiN (as := [.int v111]) (st := []) dX3_give_14 rfl mX3_62 t_X9_isVoiceNumber rfl (Nat.le_of_ble_eq_true rfl) (by decide) (by decide) (cx_X9_isVoiceNumber (g := g) S hI v111) (fun S112 v114 h113 => ?_)
    obtain ⟨rfl, b115, x116, hx117⟩ := h113
    refine mw_if_eq (tgt := 37) dX3_give_17 (by decide) (fun q118 => ?_) (fun q118 => ?_)
    · skip
      have b119 : mm_b (0) (0) v114 := bd_eq_l q118 b115 n_0 (by decide)
      refine mw_aload_n dX3_give_37 rfl 0 rfl ?_
      refine tw_getr (j := 3) dX3_give_38 shC_15 rfl rfl (by decide) fX3_9 ?_
      refine mw_iload_n dX3_give_41 rfl 1 rfl ?_
      refine mw_iload_n dX3_give_42 rfl 2 rfl ?_
      refine tw_iast dX3_give_43 shC_16 (bd_in b110 (by decide)) ?_
      have hI120 : JC (mm_up S 16 x1.toNatClampNeg x2) := JIC_puta hI (bd_all x2) b110 (by decide) (by decide +kernel)
      generalize hS121 : (mm_up S 16 x1.toNatClampNeg x2) = S121 at hI120 ⊢
      have hF122 := fr_upA hF hS121 (by decide)
      exact mw_vret rfl dX3_give_44 rfl rfl ⟨S121, rfl, rfl, ⟨hI120, hF122, trivial, (by subst hS121; subst hx117; subst ev111; subst hx106; rw [F_X3_give_15, if_neg q107, if_pos q118])⟩⟩
    · skip
      have b123 : mm_b (1) (1) v114 := bd_ne_l q118 b115 n_0 (by decide)
      have b124 := Or.resolve_left x116 q118
      refine mw_aload_n dX3_give_20 rfl 0 rfl ?_
      refine tw_getr (j := 4) dX3_give_21 shC_15 rfl rfl (by decide) fX3_15 ?_
      refine mw_iload_n dX3_give_24 rfl 1 rfl ?_
      refine mw_dup2 dX3_give_25 rfl rfl ?_
      refine tw_iald dX3_give_26 shC_17 (bd_in b110 (by decide)) (fun v125 ev125 => ?_)
      refine mw_iconst dX3_give_27 ki_1 ?_
      refine mw_aload_n dX3_give_28 rfl 0 rfl ?_
      refine tw_getr (j := 3) dX3_give_29 shC_15 rfl rfl (by decide) fX3_9 ?_
      refine mw_iload_n dX3_give_32 rfl 1 rfl ?_
      refine tw_iald dX3_give_33 shC_16 (bd_in b110 (by decide)) (fun v126 ev126 => ?_)
      have cv126 : v111 = v126 := ev111.trans ev126.symm
      subst cv126
      refine mw_ishl dX3_give_34 (fun v127 ev127 => ?_)
      have b128 : mm_b (1) (64) v127 := bd_shl 6 ev127 b124 (by decide)
      refine mw_ior dX3_give_35 (fun v129 ev129 => ?_)
      refine tw_iast dX3_give_36 shC_17 (bd_in b110 (by decide)) ?_
      have hI130 : JC (mm_up S 17 x1.toNatClampNeg v129) := JIC_puta hI (bd_all v129) b110 (by decide) (by decide +kernel)
      generalize hS131 : (mm_up S 17 x1.toNatClampNeg v129) = S131 at hI130 ⊢
      have hF132 := fr_upA hF hS131 (by decide)
      refine mw_aload_n dX3_give_37 rfl 0 rfl ?_
      refine tw_getr (j := 3) dX3_give_38 shC_15 rfl rfl (by decide) fX3_9 ?_
      refine mw_iload_n dX3_give_41 rfl 1 rfl ?_
      refine mw_iload_n dX3_give_42 rfl 2 rfl ?_
      refine tw_iast dX3_give_43 shC_16 (bd_in b110 (by decide)) ?_
      have hI133 : JC (mm_up S131 16 x1.toNatClampNeg x2) := JIC_puta hI130 (bd_all x2) b110 (by decide) (by decide +kernel)
      generalize hS134 : (mm_up S131 16 x1.toNatClampNeg x2) = S134 at hI133 ⊢
      have hF135 := fr_upA hF132 hS134 (by decide)
      exact mw_vret rfl dX3_give_44 rfl rfl ⟨S134, rfl, rfl, ⟨hI133, hF135, trivial, (by subst hS134; subst hS131; subst ev129; subst ev127; subst ev125; subst hx117; subst ev111; subst hx106; rw [F_X3_give_15, if_neg q107, if_neg q118])⟩⟩
def F_X3_bury_15_L100fffc133 (k100 : mm_S → Int32 → Int32 → Int32 → Int32 × mm_S) (S174 : mm_S) (y137 : Int32) (y139 : Int32) (y141 : Int32) : Int32 × mm_S := (k100 S174 y137 y139 (y141 + Int32.ofInt 1))
def F_X3_bury_15_L100  : Nat → mm_S → Int32 → Int32 → Int32 → Int32 × mm_S
  | 0, S134, _, _, _ => (0, S134)
  | N + 1, S134, y137, y139, y141 => (if (7 : Int32) ≤ y141 then (y139, S134) else (if y137 = (0 : Int32) then (y139, S134) else (if (F_X9_isIn S134 y137 y141) = (0 : Int32) then ((F_X3_bury_15_L100  N) S134 y137 y139 (y141 + Int32.ofInt 1)) else (F_X3_bury_15_L100fffc133 (F_X3_bury_15_L100  N) (F_X3_give_15 S134 (F_X3_leastOf S134 (F_X3_silent_15 S134)) y141) y137 y139 y141))))
def F_X3_bury_15_tfu85c97 (S195 : mm_S) (v111 : Int32) (v191 : Int32) : Int32 × mm_S := (F_X3_bury_15_L100  9 S195 v111 v191 (0 : Int32))
def F_X3_bury_15_tfu85 (S130 : mm_S) (v184 : Int32) (v186 : Int32) (v110 : Int32) (v111 : Int32) : Int32 × mm_S := (F_X3_bury_15_tfu85c97 (F_X3_give_15 S130 (F_X3_firstAlive_15 S130 v184 v186) v110) v111 (F_X3_firstAlive_15 S130 v184 v186))
def F_X3_bury_15 (S : mm_S) (x1 : Int32) : Int32 × mm_S := (if (F_X3_lives_15 S x1) = (0 : Int32) then ((-1 : Int32), S) else (if (S.1 16 (x1).toNatClampNeg) = (9 : Int32) then (F_X3_bury_15_L100  9 (mm_up (mm_up (mm_up (mm_up S 15 0 ((S.1 15 0) &&& (((1 : Int32) <<< (x1 &&& 31)) ^^^ (-1 : Int32)))) 16 (x1).toNatClampNeg (9 : Int32)) 17 (x1).toNatClampNeg (0 : Int32)) 15 1 ((S.1 15 1) + (1 : Int32))) (S.1 17 (x1).toNatClampNeg) (-1 : Int32) (0 : Int32)) else (F_X3_bury_15_tfu85 (mm_up (mm_up (mm_up (mm_up S 15 0 ((S.1 15 0) &&& (((1 : Int32) <<< (x1 &&& 31)) ^^^ (-1 : Int32)))) 16 (x1).toNatClampNeg (9 : Int32)) 17 (x1).toNatClampNeg (0 : Int32)) 15 1 ((S.1 15 1) + (1 : Int32))) (S.1 18 (x1).toNatClampNeg) (S.1 19 (x1).toNatClampNeg) (S.1 16 (x1).toNatClampNeg) (S.1 17 (x1).toNatClampNeg))))
set_option maxRecDepth 100000 in
set_option maxHeartbeats 4000000 in
theorem cx_X3_bury_15 {g : mm_G} (S : mm_S) (hI : JC S) (x1 : Int32) : mc g yX3_bury cX3_bury 6 (some .int) (mm_rm 3) [.ref 15, .int x1] (mm_enc shC S) (qi shC (fun S1 v => JC S1 ∧ fr [15, 16, 17] [] true true S S1 ∧ mm_b (-2147483648) (2147483647) v ∧ (True) ∧ F_X3_bury_15 S x1 = (v, S1))) := by
  refine mc_of2 (own := RX3) (ini := false) (ls := [(0, .ref 15), (1, .int x1)]) (by decide) (Nat.le_of_ble_eq_true rfl) rfl (by decide) rfl ?_
  have hF : fr [15, 16, 17] [] true true S S := fr_rf
  refine mw_aload_n dX3_bury_0 rfl 0 rfl ?_
  refine mw_iload_n dX3_bury_1 rfl 1 rfl ?_
  refine tc_Vi (as := [.int x1]) (st := []) dX3_bury_2 rfl shC_15 rfl rfl mX3_59 t_X3_lives rfl (Nat.le_of_ble_eq_true rfl) (by decide) (by decide) (cx_X3_lives_15 (g := g) S hI x1) (fun S101 v103 h102 => ?_)
  obtain ⟨rfl, b104, x105, hx106⟩ := h102
  refine mw_if_ne (tgt := 10) dX3_bury_5 (by decide) (fun q107 => ?_) (fun q107 => ?_)
  · skip
    have b108 : mm_b (1) (1) v103 := bd_ne_l q107 b104 n_0 (by decide)
    have b109 := Or.resolve_left x105 q107
    refine mw_aload_n dX3_bury_10 rfl 0 rfl ?_
    refine tw_getr (j := 3) dX3_bury_11 shC_15 rfl rfl (by decide) fX3_9 ?_
    refine mw_iload_n dX3_bury_14 rfl 1 rfl ?_
    refine tw_iald dX3_bury_15 shC_16 (bd_in b109 (by decide)) (fun v110 ev110 => ?_)
    refine mw_istore_n (ls' := [(2, .int v110), (0, .ref 15), (1, .int x1)]) dX3_bury_16 rfl (by decide) rfl ?_
    refine mw_aload_n dX3_bury_17 rfl 1 rfl ?_
    refine tw_getr (j := 4) dX3_bury_18 shC_15 rfl rfl (by decide) fX3_15 ?_
    refine mw_iload_n dX3_bury_21 rfl 2 rfl ?_
    refine tw_iald dX3_bury_22 shC_17 (bd_in b109 (by decide)) (fun v111 ev111 => ?_)
    refine mw_istore_n (ls' := [(3, .int v111), (2, .int v110), (0, .ref 15), (1, .int x1)]) dX3_bury_23 rfl (by decide) rfl ?_
    refine mw_aload_n dX3_bury_24 rfl 2 rfl ?_
    refine mw_dup dX3_bury_25 rfl ?_
    refine tw_geti (j := 0) dX3_bury_26 shC_15 rfl rfl (by decide) fX3_39 (fun v112 ev112 => ?_)
    refine mw_iconst dX3_bury_29 ki_1 ?_
    refine mw_iload_n dX3_bury_30 rfl 3 rfl ?_
    refine mw_ishl dX3_bury_31 (fun v113 ev113 => ?_)
    have b114 : mm_b (1) (64) v113 := bd_shl 6 ev113 b109 (by decide)
    refine mw_iconst dX3_bury_32 ki_m1 ?_
    refine mw_ixor dX3_bury_33 (fun v115 ev115 => ?_)
    refine mw_iand dX3_bury_34 (fun v116 ev116 => ?_)
    refine tw_puti (j := 0) dX3_bury_35 shC_15 rfl rfl (by decide) fX3_39 rfl (by decide +kernel) ?_
    have hI117 : JC (mm_up S 15 0 v116) := JIC_put hI (bd_all v116) (by decide +kernel)
    generalize hS118 : (mm_up S 15 0 v116) = S118 at hI117 ⊢
    have hF119 := fr_upA hF hS118 (by decide)
    refine mw_aload_n dX3_bury_38 rfl 2 rfl ?_
    refine tw_getr (j := 3) dX3_bury_39 shC_15 rfl rfl (by decide) fX3_9 ?_
    refine mw_iload_n dX3_bury_42 rfl 3 rfl ?_
    refine mw_bipush dX3_bury_43 kb_9 ?_
    refine tw_iast dX3_bury_45 shC_16 (bd_in b109 (by decide)) ?_
    have hI120 : JC (mm_up S118 16 x1.toNatClampNeg 9) := JIC_puta hI117 n_9 b109 (by decide) (by decide +kernel)
    generalize hS121 : (mm_up S118 16 x1.toNatClampNeg 9) = S121 at hI120 ⊢
    have hF122 := fr_upA hF119 hS121 (by decide)
    refine mw_aload_n dX3_bury_46 rfl 2 rfl ?_
    refine tw_getr (j := 4) dX3_bury_47 shC_15 rfl rfl (by decide) fX3_15 ?_
    refine mw_iload_n dX3_bury_50 rfl 3 rfl ?_
    refine mw_iconst dX3_bury_51 ki_0 ?_
    refine tw_iast dX3_bury_52 shC_17 (bd_in b109 (by decide)) ?_
    have hI123 : JC (mm_up S121 17 x1.toNatClampNeg 0) := JIC_puta hI120 n_0 b109 (by decide) (by decide +kernel)
    generalize hS124 : (mm_up S121 17 x1.toNatClampNeg 0) = S124 at hI123 ⊢
    have hF125 := fr_upA hF122 hS124 (by decide)
    refine mw_aload_n dX3_bury_53 rfl 2 rfl ?_
    refine mw_dup dX3_bury_54 rfl ?_
    refine tw_geti (j := 1) dX3_bury_55 shC_15 rfl rfl (by decide) fX3_42 (fun v126 ev126 => ?_)
    have eb127 := ev126.trans (Eq.symm (((up_neF hS118 (by decide)).trans (up_neA hS121 (by decide))).trans (up_neA hS124 (by decide))))
    refine mw_iconst dX3_bury_58 ki_1 ?_
    refine mw_iadd dX3_bury_59 (fun v128 ev128 => ?_)
    refine tw_puti (j := 1) dX3_bury_60 shC_15 rfl rfl (by decide) fX3_42 rfl (by decide +kernel) ?_
    have hI129 : JC (mm_up S124 15 1 v128) := JIC_put hI123 (bd_all v128) (by decide +kernel)
    generalize hS130 : (mm_up S124 15 1 v128) = S130 at hI129 ⊢
    have hF131 := fr_upA hF125 hS130 (by decide)
    refine mw_iconst dX3_bury_63 ki_m1 ?_
    refine mw_istore (ls' := [(4, .int (-1)), (3, .int v111), (2, .int v110), (0, .ref 15), (1, .int x1)]) dX3_bury_64 (by decide) rfl ?_
    refine mw_iload_n dX3_bury_66 rfl 2 rfl ?_
    refine mw_bipush dX3_bury_67 kb_9 ?_
    refine mw_icmp_eq (tgt := 97) dX3_bury_69 (by decide) (fun q132 => ?_) (fun q132 => ?_)
    · skip
      have b133 : mm_b (9) (9) v110 := bd_eq_l q132 (bd_all v110) n_9 (by decide)
      refine mw_iconst dX3_bury_97 ki_0 ?_
      refine mw_istore (ls' := [(5, .int 0), (4, .int (-1)), (3, .int v111), (2, .int v110), (0, .ref 15), (1, .int x1)]) dX3_bury_98 (by decide) rfl ?_
      have cut100 : ∀ (N100 : Nat) (S134 : mm_S) (y137 y139 y141 : Int32), ((8 : Int) - y141.toInt).toNat < N100 → JC S134 → fr [15, 16, 17] [] true true S S134 → mm_b (-2147483648) (2147483647) y137 → mm_b (-2147483648) (2147483647) y139 → mm_b (0) (7) y141 → F_X3_bury_15 S x1 = F_X3_bury_15_L100  N100 S134 y137 y139 y141 → mw g RX3 cX3_bury 6 (some .int) false (mm_rm 3) (qi shC (fun S1 v => JC S1 ∧ fr [15, 16, 17] [] true true S S1 ∧ mm_b (-2147483648) (2147483647) v ∧ (True) ∧ F_X3_bury_15 S x1 = (v, S1))) 0 0 (mm_enc shC S134) 100 [(0, .ref 15), (3, .int y137), (4, .int y139), (5, .int y141)] [] := by
        intro N100
        induction N100 with
        | zero =>
          intro S134 y137 y139 y141 hm143 hI135 hF136 b138 b140 b142 hE144
          exact absurd hm143 (Nat.not_lt_zero _)
        | succ N100 ih100 =>
          intro S134 y137 y139 y141 hm143 hI135 hF136 b138 b140 b142 hE144
          refine mw_iload dX3_bury_100 3 rfl ?_
          refine mw_bipush dX3_bury_102 kb_7 ?_
          refine mw_icmp_ge (tgt := 139) dX3_bury_104 (by decide) (fun q145 => ?_) (fun q145 => ?_)
          · skip
            have b146 : mm_b (7) (7) y141 := bd_le_r q145 n_7 b142 (by decide)
            refine mw_iload dX3_bury_139 2 rfl ?_
            exact mw_iret rfl dX3_bury_141 rfl rfl ⟨S134, _, rfl, rfl, hI135, hF136, b140, trivial, (by exact hE144.trans (by rw [F_X3_bury_15_L100, if_pos q145]))⟩
          · skip
            have b147 : mm_b (0) (6) y141 := bd_lt_l (bd_nle q145) b142 n_7 (by decide)
            refine mw_iload_n dX3_bury_107 rfl 1 rfl ?_
            refine mw_if_eq (tgt := 139) dX3_bury_108 (by decide) (fun q148 => ?_) (fun q148 => ?_)
            · skip
              have b149 : mm_b (0) (0) y137 := bd_eq_l q148 b138 n_0 (by decide)
              refine mw_iload dX3_bury_139 2 rfl ?_
              exact mw_iret rfl dX3_bury_141 rfl rfl ⟨S134, _, rfl, rfl, hI135, hF136, b140, trivial, (by exact hE144.trans (by rw [F_X3_bury_15_L100, if_neg q145, if_pos q148]))⟩
            · skip
              refine mw_iload_n dX3_bury_111 rfl 1 rfl ?_
              refine mw_iload dX3_bury_112 3 rfl ?_
              refine tc_SiN (as := [.int y137, .int y141]) (st := []) dX3_bury_114 rfl mX3_65 t_X9_isIn rfl (Nat.le_of_ble_eq_true rfl) (by decide) (by decide) (cx_X9_isIn (g := g) S134 hI135 y137 y141) (fun S150 v152 h151 => ?_)
              obtain ⟨rfl, b153, x154, hx155⟩ := h151
              refine mw_if_eq (tgt := 133) dX3_bury_117 (by decide) (fun q156 => ?_) (fun q156 => ?_)
              · skip
                have b157 : mm_b (0) (0) v152 := bd_eq_l q156 b153 n_0 (by decide)
                refine mw_iinc (ls' := fun v => [(5, .int v), (0, .ref 15), (3, .int y137), (4, .int y139)]) dX3_bury_133 3 rfl (by decide) (fun _ => rfl) (fun v158 ev158 => ?_)
                have b159 : mm_b (1) (7) v158 := bd_inc ev158 b147 (by decide)
                refine mw_goto (tgt := 100) dX3_bury_136 (by decide) ?_
                refine mw_ls [1, 2, 3, 0] rfl ?_
                exact ih100 S134 y137 y139 v158 (ms_inc ev158 b147 (by decide) hm143) hI135 hF136 b138 b140 (bd_w b159 (by decide)) (by subst ev158; subst hx155; exact hE144.trans (by rw [F_X3_bury_15_L100, if_neg q145, if_neg q148, if_pos q156]))
              · skip
                have b160 : mm_b (1) (1) v152 := bd_ne_l q156 b153 n_0 (by decide)
                have b161 := Or.resolve_left x154 q156
                refine mw_aload_n dX3_bury_120 rfl 0 rfl ?_
                refine mw_aload_n dX3_bury_121 rfl 0 rfl ?_
                refine tc_Vi (as := []) (st := [.ref 15]) dX3_bury_122 rfl shC_15 rfl rfl mX3_76 t_X3_silent rfl (Nat.le_of_ble_eq_true rfl) (by decide) (by decide) (cx_X3_silent_15 (g := g) S134 hI135) (fun S162 v164 h163 => ?_)
                obtain ⟨rfl, b165, x166, hx167⟩ := h163
                refine tc_Si (as := [.int v164]) (st := [.ref 15]) dX3_bury_125 rfl mX3_80 t_X3_leastOf rfl (Nat.le_of_ble_eq_true rfl) (by decide) (by decide) (cx_X3_leastOf (g := g) S134 hI135 v164) (fun S168 v170 h169 => ?_)
                obtain ⟨rfl, b171, x172, hx173⟩ := h169
                refine mw_iload dX3_bury_128 3 rfl ?_
                refine tc_Vv (as := [.int v170, .int y141]) (st := []) dX3_bury_130 rfl shC_15 rfl rfl mX3_72 t_X3_give rfl (Nat.le_of_ble_eq_true rfl) (by decide) (by decide) (cx_X3_give_15 (g := g) S134 hI135 v170 y141) (fun S174 h175 => ?_)
                obtain ⟨hI178, hf179, x176, hx177⟩ := h175
                have hF180 := fr_tr hF136 hf179 (by decide) (by decide) (by decide) (by decide)
                have hE181 : F_X3_bury_15 S x1 = F_X3_bury_15_L100fffc133 (F_X3_bury_15_L100  N100) S174 y137 y139 y141 := (by subst hx173; subst hx167; subst hx155; exact hE144.trans (by rw [F_X3_bury_15_L100, if_neg q145, if_neg q148, if_neg q156, hx177]))
                refine mw_iinc (ls' := fun v => [(5, .int v), (0, .ref 15), (3, .int y137), (4, .int y139)]) dX3_bury_133 3 rfl (by decide) (fun _ => rfl) (fun v182 ev182 => ?_)
                have b183 : mm_b (1) (7) v182 := bd_inc ev182 b161 (by decide)
                refine mw_goto (tgt := 100) dX3_bury_136 (by decide) ?_
                refine mw_ls [1, 2, 3, 0] rfl ?_
                exact ih100 S174 y137 y139 v182 (ms_inc ev182 b161 (by decide) hm143) hI178 hF180 b138 b140 (bd_w b183 (by decide)) (by subst ev182; exact hE181.trans (by rw [F_X3_bury_15_L100fffc133]))
      refine mw_ls [4, 2, 1, 0] rfl ?_
      exact cut100 9 S130 v111 (-1 : Int32) (0 : Int32) (by have hz := n_0; omega) hI129 hF131 (bd_all v111) (bd_w n_m1 (by decide)) (bd_w n_0 (by decide)) (by subst hS130; subst ev128; subst eb127; subst hS124; subst hS121; subst hS118; subst ev116; subst ev115; subst ev113; subst ev112; subst ev111; subst ev110; subst hx106; rw [F_X3_bury_15, if_neg q107, if_pos q132])
    · skip
      refine mw_aload_n dX3_bury_72 rfl 3 rfl ?_
      refine mw_aload_n dX3_bury_73 rfl 3 rfl ?_
      refine tw_getr (j := 5) dX3_bury_74 shC_15 rfl rfl (by decide) fX3_18 ?_
      refine mw_iload_n dX3_bury_77 rfl 4 rfl ?_
      refine tw_iald dX3_bury_78 shC_18 (bd_in b109 (by decide)) (fun v184 ev184 => ?_)
      have eb185 := ev184.trans (Eq.symm ((((up_neA hS118 (by decide)).trans (up_neA hS121 (by decide))).trans (up_neA hS124 (by decide))).trans (up_neA hS130 (by decide))))
      refine mw_aload_n dX3_bury_79 rfl 3 rfl ?_
      refine tw_getr (j := 6) dX3_bury_80 shC_15 rfl rfl (by decide) fX3_21 ?_
      refine mw_iload_n dX3_bury_83 rfl 4 rfl ?_
      refine tw_iald dX3_bury_84 shC_19 (bd_in b109 (by decide)) (fun v186 ev186 => ?_)
      have eb187 := ev186.trans (Eq.symm ((((up_neA hS118 (by decide)).trans (up_neA hS121 (by decide))).trans (up_neA hS124 (by decide))).trans (up_neA hS130 (by decide))))
      have hE188 : F_X3_bury_15 S x1 = F_X3_bury_15_tfu85 S130 v184 v186 v110 v111 := (by subst eb187; subst eb185; subst hS130; subst ev128; subst eb127; subst hS124; subst hS121; subst hS118; subst ev116; subst ev115; subst ev113; subst ev112; subst ev111; subst ev110; subst hx106; rw [F_X3_bury_15, if_neg q107, if_neg q132])
      refine tc_Vi (as := [.int v184, .int v186]) (st := []) dX3_bury_85 rfl shC_15 rfl rfl mX3_69 t_X3_firstAlive rfl (Nat.le_of_ble_eq_true rfl) (by decide) (by decide) (cx_X3_firstAlive_15 (g := g) S130 hI129 v184 v186) (fun S189 v191 h190 => ?_)
      obtain ⟨rfl, b192, x193, hx194⟩ := h190
      refine mw_istore (ls' := [(4, .int v191), (3, .int v111), (2, .int v110), (0, .ref 15), (1, .int x1)]) dX3_bury_88 (by decide) rfl ?_
      refine mw_aload_n dX3_bury_90 rfl 3 rfl ?_
      refine mw_iload dX3_bury_91 0 rfl ?_
      refine mw_iload_n dX3_bury_93 rfl 2 rfl ?_
      refine tc_Vv (as := [.int v191, .int v110]) (st := []) dX3_bury_94 rfl shC_15 rfl rfl mX3_72 t_X3_give rfl (Nat.le_of_ble_eq_true rfl) (by decide) (by decide) (cx_X3_give_15 (g := g) S130 hI129 v191 v110) (fun S195 h196 => ?_)
      obtain ⟨hI199, hf200, x197, hx198⟩ := h196
      have hF201 := fr_tr hF131 hf200 (by decide) (by decide) (by decide) (by decide)
      have hE202 : F_X3_bury_15 S x1 = F_X3_bury_15_tfu85c97 S195 v111 v191 := (by subst hx194; exact hE188.trans (by rw [F_X3_bury_15_tfu85, hx198]))
      refine mw_iconst dX3_bury_97 ki_0 ?_
      refine mw_istore (ls' := [(5, .int 0), (4, .int v191), (3, .int v111), (2, .int v110), (0, .ref 15), (1, .int x1)]) dX3_bury_98 (by decide) rfl ?_
      have cut100 : ∀ (N100 : Nat) (S203 : mm_S) (y206 y208 y210 : Int32), ((8 : Int) - y210.toInt).toNat < N100 → JC S203 → fr [15, 16, 17] [] true true S S203 → mm_b (-2147483648) (2147483647) y206 → mm_b (-2147483648) (2147483647) y208 → mm_b (0) (7) y210 → F_X3_bury_15 S x1 = F_X3_bury_15_L100  N100 S203 y206 y208 y210 → mw g RX3 cX3_bury 6 (some .int) false (mm_rm 3) (qi shC (fun S1 v => JC S1 ∧ fr [15, 16, 17] [] true true S S1 ∧ mm_b (-2147483648) (2147483647) v ∧ (True) ∧ F_X3_bury_15 S x1 = (v, S1))) 0 0 (mm_enc shC S203) 100 [(0, .ref 15), (3, .int y206), (4, .int y208), (5, .int y210)] [] := by
        intro N100
        induction N100 with
        | zero =>
          intro S203 y206 y208 y210 hm212 hI204 hF205 b207 b209 b211 hE213
          exact absurd hm212 (Nat.not_lt_zero _)
        | succ N100 ih100 =>
          intro S203 y206 y208 y210 hm212 hI204 hF205 b207 b209 b211 hE213
          refine mw_iload dX3_bury_100 3 rfl ?_
          refine mw_bipush dX3_bury_102 kb_7 ?_
          refine mw_icmp_ge (tgt := 139) dX3_bury_104 (by decide) (fun q214 => ?_) (fun q214 => ?_)
          · skip
            have b215 : mm_b (7) (7) y210 := bd_le_r q214 n_7 b211 (by decide)
            refine mw_iload dX3_bury_139 2 rfl ?_
            exact mw_iret rfl dX3_bury_141 rfl rfl ⟨S203, _, rfl, rfl, hI204, hF205, b209, trivial, (by exact hE213.trans (by rw [F_X3_bury_15_L100, if_pos q214]))⟩
          · skip
            have b216 : mm_b (0) (6) y210 := bd_lt_l (bd_nle q214) b211 n_7 (by decide)
            refine mw_iload_n dX3_bury_107 rfl 1 rfl ?_
            refine mw_if_eq (tgt := 139) dX3_bury_108 (by decide) (fun q217 => ?_) (fun q217 => ?_)
            · skip
              have b218 : mm_b (0) (0) y206 := bd_eq_l q217 b207 n_0 (by decide)
              refine mw_iload dX3_bury_139 2 rfl ?_
              exact mw_iret rfl dX3_bury_141 rfl rfl ⟨S203, _, rfl, rfl, hI204, hF205, b209, trivial, (by exact hE213.trans (by rw [F_X3_bury_15_L100, if_neg q214, if_pos q217]))⟩
            · skip
              refine mw_iload_n dX3_bury_111 rfl 1 rfl ?_
              refine mw_iload dX3_bury_112 3 rfl ?_
              refine tc_SiN (as := [.int y206, .int y210]) (st := []) dX3_bury_114 rfl mX3_65 t_X9_isIn rfl (Nat.le_of_ble_eq_true rfl) (by decide) (by decide) (cx_X9_isIn (g := g) S203 hI204 y206 y210) (fun S219 v221 h220 => ?_)
              obtain ⟨rfl, b222, x223, hx224⟩ := h220
              refine mw_if_eq (tgt := 133) dX3_bury_117 (by decide) (fun q225 => ?_) (fun q225 => ?_)
              · skip
                have b226 : mm_b (0) (0) v221 := bd_eq_l q225 b222 n_0 (by decide)
                refine mw_iinc (ls' := fun v => [(5, .int v), (0, .ref 15), (3, .int y206), (4, .int y208)]) dX3_bury_133 3 rfl (by decide) (fun _ => rfl) (fun v227 ev227 => ?_)
                have b228 : mm_b (1) (7) v227 := bd_inc ev227 b216 (by decide)
                refine mw_goto (tgt := 100) dX3_bury_136 (by decide) ?_
                refine mw_ls [1, 2, 3, 0] rfl ?_
                exact ih100 S203 y206 y208 v227 (ms_inc ev227 b216 (by decide) hm212) hI204 hF205 b207 b209 (bd_w b228 (by decide)) (by subst ev227; subst hx224; exact hE213.trans (by rw [F_X3_bury_15_L100, if_neg q214, if_neg q217, if_pos q225]))
              · skip
                have b229 : mm_b (1) (1) v221 := bd_ne_l q225 b222 n_0 (by decide)
                have b230 := Or.resolve_left x223 q225
                refine mw_aload_n dX3_bury_120 rfl 0 rfl ?_
                refine mw_aload_n dX3_bury_121 rfl 0 rfl ?_
                refine tc_Vi (as := []) (st := [.ref 15]) dX3_bury_122 rfl shC_15 rfl rfl mX3_76 t_X3_silent rfl (Nat.le_of_ble_eq_true rfl) (by decide) (by decide) (cx_X3_silent_15 (g := g) S203 hI204) (fun S231 v233 h232 => ?_)
                obtain ⟨rfl, b234, x235, hx236⟩ := h232
                refine tc_Si (as := [.int v233]) (st := [.ref 15]) dX3_bury_125 rfl mX3_80 t_X3_leastOf rfl (Nat.le_of_ble_eq_true rfl) (by decide) (by decide) (cx_X3_leastOf (g := g) S203 hI204 v233) (fun S237 v239 h238 => ?_)
                obtain ⟨rfl, b240, x241, hx242⟩ := h238
                refine mw_iload dX3_bury_128 3 rfl ?_
                refine tc_Vv (as := [.int v239, .int y210]) (st := []) dX3_bury_130 rfl shC_15 rfl rfl mX3_72 t_X3_give rfl (Nat.le_of_ble_eq_true rfl) (by decide) (by decide) (cx_X3_give_15 (g := g) S203 hI204 v239 y210) (fun S243 h244 => ?_)
                obtain ⟨hI247, hf248, x245, hx246⟩ := h244
                have hF249 := fr_tr hF205 hf248 (by decide) (by decide) (by decide) (by decide)
                have hE250 : F_X3_bury_15 S x1 = F_X3_bury_15_L100fffc133 (F_X3_bury_15_L100  N100) S243 y206 y208 y210 := (by subst hx242; subst hx236; subst hx224; exact hE213.trans (by rw [F_X3_bury_15_L100, if_neg q214, if_neg q217, if_neg q225, hx246]))
                refine mw_iinc (ls' := fun v => [(5, .int v), (0, .ref 15), (3, .int y206), (4, .int y208)]) dX3_bury_133 3 rfl (by decide) (fun _ => rfl) (fun v251 ev251 => ?_)
                have b252 : mm_b (1) (7) v251 := bd_inc ev251 b230 (by decide)
                refine mw_goto (tgt := 100) dX3_bury_136 (by decide) ?_
                refine mw_ls [1, 2, 3, 0] rfl ?_
                exact ih100 S243 y206 y208 v251 (ms_inc ev251 b230 (by decide) hm212) hI247 hF249 b207 b209 (bd_w b252 (by decide)) (by subst ev251; exact hE250.trans (by rw [F_X3_bury_15_L100fffc133]))
      refine mw_ls [4, 2, 1, 0] rfl ?_
      exact cut100 9 S195 v111 v191 (0 : Int32) (by have hz := n_0; omega) hI199 hF201 (bd_all v111) b192 (bd_w n_0 (by decide)) (by exact hE202.trans (by rw [F_X3_bury_15_tfu85c97]))
  · skip
    have b253 : mm_b (0) (0) v103 := bd_eq_l q107 b104 n_0 (by decide)
    refine mw_iconst dX3_bury_8 ki_m1 ?_
    exact mw_iret rfl dX3_bury_9 rfl rfl ⟨S, _, rfl, rfl, hI, hF, bd_w n_m1 (by decide), trivial, (by subst hx106; rw [F_X3_bury_15, if_pos q107])⟩
def F_X3_canHandOver_15 (S : mm_S) (x1 : Int32) (x2 : Int32) : Int32 := (if x1 = x2 then (0 : Int32) else (if (F_X3_lives_15 S x1) = (0 : Int32) then (0 : Int32) else (if (F_X3_lives_15 S x2) = (0 : Int32) then (0 : Int32) else (if (S.1 16 (x1).toNatClampNeg) = (9 : Int32) then (0 : Int32) else (1 : Int32)))))
set_option maxRecDepth 100000 in
set_option maxHeartbeats 4000000 in
theorem cx_X3_canHandOver_15 {g : mm_G} (S : mm_S) (hI : JC S) (x1 : Int32) (x2 : Int32) : mc g yX3_canHandOver cX3_canHandOver 3 (some .boolean) (mm_rm 1) [.ref 15, .int x1, .int x2] (mm_enc shC S) (qi shC (fun S1 v => S = S1 ∧ mm_b (0) (1) v ∧ (v = 0 ∨ (mm_b (0) (6) x1 ∧ mm_b (0) (6) x2)) ∧ F_X3_canHandOver_15 S x1 x2 = v)) := by
  refine mc_of2 (own := RX3) (ini := false) (ls := [(0, .ref 15), (1, .int x1), (2, .int x2)]) (by decide) (Nat.le_of_ble_eq_true rfl) rfl (by decide) rfl ?_
  refine mw_iload_n dX3_canHandOver_0 rfl 1 rfl ?_
  refine mw_iload_n dX3_canHandOver_1 rfl 2 rfl ?_
  refine mw_icmp_eq (tgt := 36) dX3_canHandOver_2 (by decide) (fun q101 => ?_) (fun q101 => ?_)
  · skip
    refine mw_iconst dX3_canHandOver_36 ki_0 ?_
    exact mw_zret rfl (bd_nar n_0 (by decide)) dX3_canHandOver_37 rfl rfl ⟨S, _, rfl, rfl, rfl, bd_w n_0 (by decide), Or.inl rfl, (by rw [F_X3_canHandOver_15, if_pos q101])⟩
  · skip
    refine mw_aload_n dX3_canHandOver_5 rfl 0 rfl ?_
    refine mw_iload_n dX3_canHandOver_6 rfl 1 rfl ?_
    refine tc_Vi (as := [.int x1]) (st := []) dX3_canHandOver_7 rfl shC_15 rfl rfl mX3_59 t_X3_lives rfl (Nat.le_of_ble_eq_true rfl) (by decide) (by decide) (cx_X3_lives_15 (g := g) S hI x1) (fun S102 v104 h103 => ?_)
    obtain ⟨rfl, b105, x106, hx107⟩ := h103
    refine mw_if_eq (tgt := 36) dX3_canHandOver_10 (by decide) (fun q108 => ?_) (fun q108 => ?_)
    · skip
      have b109 : mm_b (0) (0) v104 := bd_eq_l q108 b105 n_0 (by decide)
      refine mw_iconst dX3_canHandOver_36 ki_0 ?_
      exact mw_zret rfl (bd_nar n_0 (by decide)) dX3_canHandOver_37 rfl rfl ⟨S, _, rfl, rfl, rfl, bd_w n_0 (by decide), Or.inl rfl, (by subst hx107; rw [F_X3_canHandOver_15, if_neg q101, if_pos q108])⟩
    · skip
      have b110 : mm_b (1) (1) v104 := bd_ne_l q108 b105 n_0 (by decide)
      have b111 := Or.resolve_left x106 q108
      refine mw_aload_n dX3_canHandOver_13 rfl 0 rfl ?_
      refine mw_iload_n dX3_canHandOver_14 rfl 2 rfl ?_
      refine tc_Vi (as := [.int x2]) (st := []) dX3_canHandOver_15 rfl shC_15 rfl rfl mX3_59 t_X3_lives rfl (Nat.le_of_ble_eq_true rfl) (by decide) (by decide) (cx_X3_lives_15 (g := g) S hI x2) (fun S112 v114 h113 => ?_)
      obtain ⟨rfl, b115, x116, hx117⟩ := h113
      refine mw_if_eq (tgt := 36) dX3_canHandOver_18 (by decide) (fun q118 => ?_) (fun q118 => ?_)
      · skip
        have b119 : mm_b (0) (0) v114 := bd_eq_l q118 b115 n_0 (by decide)
        refine mw_iconst dX3_canHandOver_36 ki_0 ?_
        exact mw_zret rfl (bd_nar n_0 (by decide)) dX3_canHandOver_37 rfl rfl ⟨S, _, rfl, rfl, rfl, bd_w n_0 (by decide), Or.inl rfl, (by subst hx117; subst hx107; rw [F_X3_canHandOver_15, if_neg q101, if_neg q108, if_pos q118])⟩
      · skip
        have b120 : mm_b (1) (1) v114 := bd_ne_l q118 b115 n_0 (by decide)
        have b121 := Or.resolve_left x116 q118
        refine mw_aload_n dX3_canHandOver_21 rfl 0 rfl ?_
        refine tw_getr (j := 3) dX3_canHandOver_22 shC_15 rfl rfl (by decide) fX3_9 ?_
        refine mw_iload_n dX3_canHandOver_25 rfl 1 rfl ?_
        refine tw_iald dX3_canHandOver_26 shC_16 (bd_in b111 (by decide)) (fun v122 ev122 => ?_)
        refine mw_bipush dX3_canHandOver_27 kb_9 ?_
        refine mw_icmp_eq (tgt := 36) dX3_canHandOver_29 (by decide) (fun q123 => ?_) (fun q123 => ?_)
        · skip
          have b124 : mm_b (9) (9) v122 := bd_eq_l q123 (bd_all v122) n_9 (by decide)
          refine mw_iconst dX3_canHandOver_36 ki_0 ?_
          exact mw_zret rfl (bd_nar n_0 (by decide)) dX3_canHandOver_37 rfl rfl ⟨S, _, rfl, rfl, rfl, bd_w n_0 (by decide), Or.inl rfl, (by subst ev122; subst hx117; subst hx107; rw [F_X3_canHandOver_15, if_neg q101, if_neg q108, if_neg q118, if_pos q123])⟩
        · skip
          refine mw_iconst dX3_canHandOver_32 ki_1 ?_
          refine mw_goto (tgt := 37) dX3_canHandOver_33 (by decide) ?_
          exact mw_zret rfl (bd_nar n_1 (by decide)) dX3_canHandOver_37 rfl rfl ⟨S, _, rfl, rfl, rfl, bd_w n_1 (by decide), Or.inr ⟨bd_w b111 (by decide), bd_w b121 (by decide)⟩, (by subst ev122; subst hx117; subst hx107; rw [F_X3_canHandOver_15, if_neg q101, if_neg q108, if_neg q118, if_neg q123])⟩
def F_X3_handOver_15_tc21 (S112 : mm_S) (x1 : Int32) : mm_S := (if (F_X3_leastOf S112 (S112.1 17 (x1).toNatClampNeg)) = (-1 : Int32) then (mm_up S112 16 (x1).toNatClampNeg (9 : Int32)) else (mm_up (mm_up S112 16 (x1).toNatClampNeg (F_X3_leastOf S112 (S112.1 17 (x1).toNatClampNeg))) 17 (x1).toNatClampNeg ((S112.1 17 (x1).toNatClampNeg) &&& (((1 : Int32) <<< ((F_X3_leastOf S112 (S112.1 17 (x1).toNatClampNeg)) &&& 31)) ^^^ (-1 : Int32)))))
def F_X3_handOver_15 (S : mm_S) (x1 : Int32) (x2 : Int32) : mm_S := (if (F_X3_canHandOver_15 S x1 x2) = (0 : Int32) then S else (F_X3_handOver_15_tc21 (F_X3_give_15 S x2 (S.1 16 (x1).toNatClampNeg)) x1))
set_option maxRecDepth 100000 in
set_option maxHeartbeats 4000000 in
theorem cx_X3_handOver_15 {g : mm_G} (S : mm_S) (hI : JC S) (x1 : Int32) (x2 : Int32) : mc g yX3_handOver cX3_handOver 4 none (mm_rm 2) [.ref 15, .int x1, .int x2] (mm_enc shC S) (qv shC (fun S1 => JC S1 ∧ fr [16, 17] [] true true S S1 ∧ True ∧ F_X3_handOver_15 S x1 x2 = S1)) := by
  refine mc_of2 (own := RX3) (ini := false) (ls := [(0, .ref 15), (1, .int x1), (2, .int x2)]) (by decide) (Nat.le_of_ble_eq_true rfl) rfl (by decide) rfl ?_
  have hF : fr [16, 17] [] true true S S := fr_rf
  refine mw_aload_n dX3_handOver_0 rfl 0 rfl ?_
  refine mw_iload_n dX3_handOver_1 rfl 1 rfl ?_
  refine mw_iload_n dX3_handOver_2 rfl 2 rfl ?_
  refine tc_Vi (as := [.int x1, .int x2]) (st := []) dX3_handOver_3 rfl shC_15 rfl rfl mX3_88 t_X3_canHandOver rfl (Nat.le_of_ble_eq_true rfl) (by decide) (by decide) (cx_X3_canHandOver_15 (g := g) S hI x1 x2) (fun S101 v103 h102 => ?_)
  obtain ⟨rfl, b104, x105, hx106⟩ := h102
  refine mw_if_ne (tgt := 10) dX3_handOver_6 (by decide) (fun q107 => ?_) (fun q107 => ?_)
  · skip
    have b108 : mm_b (1) (1) v103 := bd_ne_l q107 b104 n_0 (by decide)
    obtain ⟨b109, b110⟩ := Or.resolve_left x105 q107
    refine mw_aload_n dX3_handOver_10 rfl 0 rfl ?_
    refine mw_iload_n dX3_handOver_11 rfl 2 rfl ?_
    refine mw_aload_n dX3_handOver_12 rfl 0 rfl ?_
    refine tw_getr (j := 3) dX3_handOver_13 shC_15 rfl rfl (by decide) fX3_9 ?_
    refine mw_iload_n dX3_handOver_16 rfl 1 rfl ?_
    refine tw_iald dX3_handOver_17 shC_16 (bd_in b109 (by decide)) (fun v111 ev111 => ?_)
    refine tc_Vv (as := [.int x2, .int v111]) (st := []) dX3_handOver_18 rfl shC_15 rfl rfl mX3_72 t_X3_give rfl (Nat.le_of_ble_eq_true rfl) (by decide) (by decide) (cx_X3_give_15 (g := g) S hI x2 v111) (fun S112 h113 => ?_)
    obtain ⟨hI116, hf117, x114, hx115⟩ := h113
    have hF118 := fr_tr hF hf117 (by decide) (by decide) (by decide) (by decide)
    have hE119 : F_X3_handOver_15 S x1 x2 = F_X3_handOver_15_tc21 S112 x1 := (by subst ev111; subst hx106; rw [F_X3_handOver_15, if_neg q107, hx115])
    refine mw_aload_n dX3_handOver_21 rfl 0 rfl ?_
    refine tw_getr (j := 4) dX3_handOver_22 shC_15 rfl rfl (by decide) fX3_15 ?_
    refine mw_iload_n dX3_handOver_25 rfl 1 rfl ?_
    refine tw_iald dX3_handOver_26 shC_17 (bd_in b109 (by decide)) (fun v120 ev120 => ?_)
    refine tc_Si (as := [.int v120]) (st := []) dX3_handOver_27 rfl mX3_80 t_X3_leastOf rfl (Nat.le_of_ble_eq_true rfl) (by decide) (by decide) (cx_X3_leastOf (g := g) S112 hI116 v120) (fun S121 v123 h122 => ?_)
    obtain ⟨rfl, b124, x125, hx126⟩ := h122
    refine mw_istore_n (ls' := [(3, .int v123), (0, .ref 15), (1, .int x1), (2, .int x2)]) dX3_handOver_30 rfl (by decide) rfl ?_
    refine mw_iload_n dX3_handOver_31 rfl 0 rfl ?_
    refine mw_iconst dX3_handOver_32 ki_m1 ?_
    refine mw_icmp_ne (tgt := 47) dX3_handOver_33 (by decide) (fun q127 => ?_) (fun q127 => ?_)
    · skip
      refine mw_aload_n dX3_handOver_47 rfl 1 rfl ?_
      refine tw_getr (j := 3) dX3_handOver_48 shC_15 rfl rfl (by decide) fX3_9 ?_
      refine mw_iload_n dX3_handOver_51 rfl 2 rfl ?_
      refine mw_iload_n dX3_handOver_52 rfl 0 rfl ?_
      refine tw_iast dX3_handOver_53 shC_16 (bd_in b109 (by decide)) ?_
      have hI128 : JC (mm_up S112 16 x1.toNatClampNeg v123) := JIC_puta hI116 b124 b109 (by decide) (by decide +kernel)
      generalize hS129 : (mm_up S112 16 x1.toNatClampNeg v123) = S129 at hI128 ⊢
      have hF130 := fr_upA hF118 hS129 (by decide)
      refine mw_aload_n dX3_handOver_54 rfl 1 rfl ?_
      refine tw_getr (j := 4) dX3_handOver_55 shC_15 rfl rfl (by decide) fX3_15 ?_
      refine mw_iload_n dX3_handOver_58 rfl 2 rfl ?_
      refine mw_dup2 dX3_handOver_59 rfl rfl ?_
      refine tw_iald dX3_handOver_60 shC_17 (bd_in b109 (by decide)) (fun v131 ev131 => ?_)
      have cv131 : v120 = v131 := (ev120.trans (up_neA hS129 (by decide))).trans ev131.symm
      subst cv131
      refine mw_iconst dX3_handOver_61 ki_1 ?_
      refine mw_iload_n dX3_handOver_62 rfl 0 rfl ?_
      refine mw_ishl dX3_handOver_63 (fun v132 ev132 => ?_)
      refine mw_iconst dX3_handOver_64 ki_m1 ?_
      refine mw_ixor dX3_handOver_65 (fun v133 ev133 => ?_)
      refine mw_iand dX3_handOver_66 (fun v134 ev134 => ?_)
      refine tw_iast dX3_handOver_67 shC_17 (bd_in b109 (by decide)) ?_
      have hI135 : JC (mm_up S129 17 x1.toNatClampNeg v134) := JIC_puta hI128 (bd_all v134) b109 (by decide) (by decide +kernel)
      generalize hS136 : (mm_up S129 17 x1.toNatClampNeg v134) = S136 at hI135 ⊢
      have hF137 := fr_upA hF130 hS136 (by decide)
      exact mw_vret rfl dX3_handOver_68 rfl rfl ⟨S136, rfl, rfl, ⟨hI135, hF137, trivial, (by subst hS136; subst ev134; subst ev133; subst ev132; subst hS129; subst hx126; subst ev120; exact hE119.trans (by rw [F_X3_handOver_15_tc21, if_neg q127]))⟩⟩
    · skip
      have b138 : mm_b (-1) (-1) v123 := bd_eq_l q127 b124 n_m1 (by decide)
      refine mw_aload_n dX3_handOver_36 rfl 1 rfl ?_
      refine tw_getr (j := 3) dX3_handOver_37 shC_15 rfl rfl (by decide) fX3_9 ?_
      refine mw_iload_n dX3_handOver_40 rfl 2 rfl ?_
      refine mw_bipush dX3_handOver_41 kb_9 ?_
      refine tw_iast dX3_handOver_43 shC_16 (bd_in b109 (by decide)) ?_
      have hI139 : JC (mm_up S112 16 x1.toNatClampNeg 9) := JIC_puta hI116 n_9 b109 (by decide) (by decide +kernel)
      generalize hS140 : (mm_up S112 16 x1.toNatClampNeg 9) = S140 at hI139 ⊢
      have hF141 := fr_upA hF118 hS140 (by decide)
      refine mw_goto (tgt := 68) dX3_handOver_44 (by decide) ?_
      exact mw_vret rfl dX3_handOver_68 rfl rfl ⟨S140, rfl, rfl, ⟨hI139, hF141, trivial, (by subst hS140; subst hx126; subst ev120; exact hE119.trans (by rw [F_X3_handOver_15_tc21, if_pos q127]))⟩⟩
  · skip
    have b142 : mm_b (0) (0) v103 := bd_eq_l q107 b104 n_0 (by decide)
    exact mw_vret rfl dX3_handOver_9 rfl rfl ⟨S, rfl, rfl, ⟨hI, hF, trivial, (by subst hx106; rw [F_X3_handOver_15, if_pos q107])⟩⟩
def F_X3_takeOut_15_ftu48c51 (v121 : Int32) (S131 : mm_S) : Int32 × mm_S := (v121, S131)
def F_X3_takeOut_15_ftu48 (v121 : Int32) (S128 : mm_S) (x1 : Int32) (x2 : Int32) : Int32 × mm_S := (F_X3_takeOut_15_ftu48c51 v121 (F_X3_give_15 S128 x1 x2))
def F_X3_takeOut_15 (S : mm_S) (x1 : Int32) (x2 : Int32) : Int32 × mm_S := (if (F_X3_lives_15 S x1) = (0 : Int32) then ((9 : Int32), S) else (if (F_X9_isIn S (S.1 17 (x1).toNatClampNeg) x2) = (0 : Int32) then ((9 : Int32), S) else (F_X3_takeOut_15_ftu48 (S.1 16 (x1).toNatClampNeg) (mm_up S 17 (x1).toNatClampNeg ((S.1 17 (x1).toNatClampNeg) &&& (((1 : Int32) <<< (x2 &&& 31)) ^^^ (-1 : Int32)))) x1 x2)))
set_option maxRecDepth 100000 in
set_option maxHeartbeats 4000000 in
theorem cx_X3_takeOut_15 {g : mm_G} (S : mm_S) (hI : JC S) (x1 : Int32) (x2 : Int32) : mc g yX3_takeOut cX3_takeOut 4 (some .int) (mm_rm 2) [.ref 15, .int x1, .int x2] (mm_enc shC S) (qi shC (fun S1 v => JC S1 ∧ fr [16, 17] [] true true S S1 ∧ mm_b (-2147483648) (2147483647) v ∧ (True) ∧ F_X3_takeOut_15 S x1 x2 = (v, S1))) := by
  refine mc_of2 (own := RX3) (ini := false) (ls := [(0, .ref 15), (1, .int x1), (2, .int x2)]) (by decide) (Nat.le_of_ble_eq_true rfl) rfl (by decide) rfl ?_
  have hF : fr [16, 17] [] true true S S := fr_rf
  refine mw_aload_n dX3_takeOut_0 rfl 0 rfl ?_
  refine mw_iload_n dX3_takeOut_1 rfl 1 rfl ?_
  refine tc_Vi (as := [.int x1]) (st := []) dX3_takeOut_2 rfl shC_15 rfl rfl mX3_59 t_X3_lives rfl (Nat.le_of_ble_eq_true rfl) (by decide) (by decide) (cx_X3_lives_15 (g := g) S hI x1) (fun S101 v103 h102 => ?_)
  obtain ⟨rfl, b104, x105, hx106⟩ := h102
  refine mw_if_eq (tgt := 21) dX3_takeOut_5 (by decide) (fun q107 => ?_) (fun q107 => ?_)
  · skip
    have b108 : mm_b (0) (0) v103 := bd_eq_l q107 b104 n_0 (by decide)
    refine mw_bipush dX3_takeOut_21 kb_9 ?_
    exact mw_iret rfl dX3_takeOut_23 rfl rfl ⟨S, _, rfl, rfl, hI, hF, bd_w n_9 (by decide), trivial, (by subst hx106; rw [F_X3_takeOut_15, if_pos q107])⟩
  · skip
    have b109 : mm_b (1) (1) v103 := bd_ne_l q107 b104 n_0 (by decide)
    have b110 := Or.resolve_left x105 q107
    refine mw_aload_n dX3_takeOut_8 rfl 0 rfl ?_
    refine tw_getr (j := 4) dX3_takeOut_9 shC_15 rfl rfl (by decide) fX3_15 ?_
    refine mw_iload_n dX3_takeOut_12 rfl 1 rfl ?_
    refine tw_iald dX3_takeOut_13 shC_17 (bd_in b110 (by decide)) (fun v111 ev111 => ?_)
    refine mw_iload_n dX3_takeOut_14 rfl 2 rfl ?_
    refine tc_SiN (as := [.int v111, .int x2]) (st := []) dX3_takeOut_15 rfl mX3_65 t_X9_isIn rfl (Nat.le_of_ble_eq_true rfl) (by decide) (by decide) (cx_X9_isIn (g := g) S hI v111 x2) (fun S112 v114 h113 => ?_)
    obtain ⟨rfl, b115, x116, hx117⟩ := h113
    refine mw_if_ne (tgt := 24) dX3_takeOut_18 (by decide) (fun q118 => ?_) (fun q118 => ?_)
    · skip
      have b119 : mm_b (1) (1) v114 := bd_ne_l q118 b115 n_0 (by decide)
      have b120 := Or.resolve_left x116 q118
      refine mw_aload_n dX3_takeOut_24 rfl 0 rfl ?_
      refine tw_getr (j := 3) dX3_takeOut_25 shC_15 rfl rfl (by decide) fX3_9 ?_
      refine mw_iload_n dX3_takeOut_28 rfl 1 rfl ?_
      refine tw_iald dX3_takeOut_29 shC_16 (bd_in b110 (by decide)) (fun v121 ev121 => ?_)
      refine mw_istore_n (ls' := [(3, .int v121), (0, .ref 15), (1, .int x1), (2, .int x2)]) dX3_takeOut_30 rfl (by decide) rfl ?_
      refine mw_aload_n dX3_takeOut_31 rfl 1 rfl ?_
      refine tw_getr (j := 4) dX3_takeOut_32 shC_15 rfl rfl (by decide) fX3_15 ?_
      refine mw_iload_n dX3_takeOut_35 rfl 2 rfl ?_
      refine mw_dup2 dX3_takeOut_36 rfl rfl ?_
      refine tw_iald dX3_takeOut_37 shC_17 (bd_in b110 (by decide)) (fun v122 ev122 => ?_)
      have cv122 : v111 = v122 := ev111.trans ev122.symm
      subst cv122
      refine mw_iconst dX3_takeOut_38 ki_1 ?_
      refine mw_iload_n dX3_takeOut_39 rfl 3 rfl ?_
      refine mw_ishl dX3_takeOut_40 (fun v123 ev123 => ?_)
      have b124 : mm_b (1) (64) v123 := bd_shl 6 ev123 b120 (by decide)
      refine mw_iconst dX3_takeOut_41 ki_m1 ?_
      refine mw_ixor dX3_takeOut_42 (fun v125 ev125 => ?_)
      refine mw_iand dX3_takeOut_43 (fun v126 ev126 => ?_)
      refine tw_iast dX3_takeOut_44 shC_17 (bd_in b110 (by decide)) ?_
      have hI127 : JC (mm_up S 17 x1.toNatClampNeg v126) := JIC_puta hI (bd_all v126) b110 (by decide) (by decide +kernel)
      generalize hS128 : (mm_up S 17 x1.toNatClampNeg v126) = S128 at hI127 ⊢
      have hF129 := fr_upA hF hS128 (by decide)
      refine mw_aload_n dX3_takeOut_45 rfl 1 rfl ?_
      refine mw_iload_n dX3_takeOut_46 rfl 2 rfl ?_
      refine mw_iload_n dX3_takeOut_47 rfl 3 rfl ?_
      have hE130 : F_X3_takeOut_15 S x1 x2 = F_X3_takeOut_15_ftu48 v121 S128 x1 x2 := (by subst hS128; subst ev126; subst ev125; subst ev123; subst ev121; subst hx117; subst ev111; subst hx106; rw [F_X3_takeOut_15, if_neg q107, if_neg q118])
      refine tc_Vv (as := [.int x1, .int x2]) (st := []) dX3_takeOut_48 rfl shC_15 rfl rfl mX3_72 t_X3_give rfl (Nat.le_of_ble_eq_true rfl) (by decide) (by decide) (cx_X3_give_15 (g := g) S128 hI127 x1 x2) (fun S131 h132 => ?_)
      obtain ⟨hI135, hf136, x133, hx134⟩ := h132
      have hF137 := fr_tr hF129 hf136 (by decide) (by decide) (by decide) (by decide)
      have hE138 : F_X3_takeOut_15 S x1 x2 = F_X3_takeOut_15_ftu48c51 v121 S131 := (by exact hE130.trans (by rw [F_X3_takeOut_15_ftu48, hx134]))
      refine mw_iload_n dX3_takeOut_51 rfl 0 rfl ?_
      exact mw_iret rfl dX3_takeOut_52 rfl rfl ⟨S131, _, rfl, rfl, hI135, hF137, (bd_all v121), trivial, (by exact hE138.trans (by rw [F_X3_takeOut_15_ftu48c51]))⟩
    · skip
      have b139 : mm_b (0) (0) v114 := bd_eq_l q118 b115 n_0 (by decide)
      refine mw_bipush dX3_takeOut_21 kb_9 ?_
      exact mw_iret rfl dX3_takeOut_23 rfl rfl ⟨S, _, rfl, rfl, hI, hF, bd_w n_9 (by decide), trivial, (by subst hx117; subst ev111; subst hx106; rw [F_X3_takeOut_15, if_neg q107, if_pos q118])⟩
def F_X3_changeWill_15 (S : mm_S) (x1 : Int32) (x2 : Int32) (x3 : Int32) : mm_S := (if (F_X3_isOne_15 S x1) = (0 : Int32) then S else (mm_up (mm_up S 18 (x1).toNatClampNeg x2) 19 (x1).toNatClampNeg x3))
set_option maxRecDepth 100000 in
set_option maxHeartbeats 4000000 in
theorem cx_X3_changeWill_15 {g : mm_G} (S : mm_S) (hI : JC S) (x1 : Int32) (x2 : Int32) (x3 : Int32) : mc g yX3_changeWill cX3_changeWill 4 none (mm_rm 1) [.ref 15, .int x1, .int x2, .int x3] (mm_enc shC S) (qv shC (fun S1 => JC S1 ∧ fr [18, 19] [] true true S S1 ∧ True ∧ F_X3_changeWill_15 S x1 x2 x3 = S1)) := by
  refine mc_of2 (own := RX3) (ini := false) (ls := [(0, .ref 15), (1, .int x1), (2, .int x2), (3, .int x3)]) (by decide) (Nat.le_of_ble_eq_true rfl) rfl (by decide) rfl ?_
  have hF : fr [18, 19] [] true true S S := fr_rf
  refine mw_aload_n dX3_changeWill_0 rfl 0 rfl ?_
  refine mw_iload_n dX3_changeWill_1 rfl 1 rfl ?_
  refine tc_Vi (as := [.int x1]) (st := []) dX3_changeWill_2 rfl shC_15 rfl rfl mX3_56 t_X3_isOne rfl (Nat.le_of_ble_eq_true rfl) (by decide) (by decide) (cx_X3_isOne_15 (g := g) S hI x1) (fun S101 v103 h102 => ?_)
  obtain ⟨rfl, b104, x105, hx106⟩ := h102
  refine mw_if_eq (tgt := 22) dX3_changeWill_5 (by decide) (fun q107 => ?_) (fun q107 => ?_)
  · skip
    have b108 : mm_b (0) (0) v103 := bd_eq_l q107 b104 n_0 (by decide)
    exact mw_vret rfl dX3_changeWill_22 rfl rfl ⟨S, rfl, rfl, ⟨hI, hF, trivial, (by subst hx106; rw [F_X3_changeWill_15, if_pos q107])⟩⟩
  · skip
    have b109 : mm_b (1) (1) v103 := bd_ne_l q107 b104 n_0 (by decide)
    have b110 := Or.resolve_left x105 q107
    refine mw_aload_n dX3_changeWill_8 rfl 0 rfl ?_
    refine tw_getr (j := 5) dX3_changeWill_9 shC_15 rfl rfl (by decide) fX3_18 ?_
    refine mw_iload_n dX3_changeWill_12 rfl 1 rfl ?_
    refine mw_iload_n dX3_changeWill_13 rfl 2 rfl ?_
    refine tw_iast dX3_changeWill_14 shC_18 (bd_in b110 (by decide)) ?_
    have hI111 : JC (mm_up S 18 x1.toNatClampNeg x2) := JIC_puta hI (bd_all x2) b110 (by decide) (by decide +kernel)
    generalize hS112 : (mm_up S 18 x1.toNatClampNeg x2) = S112 at hI111 ⊢
    have hF113 := fr_upA hF hS112 (by decide)
    refine mw_aload_n dX3_changeWill_15 rfl 0 rfl ?_
    refine tw_getr (j := 6) dX3_changeWill_16 shC_15 rfl rfl (by decide) fX3_21 ?_
    refine mw_iload_n dX3_changeWill_19 rfl 1 rfl ?_
    refine mw_iload_n dX3_changeWill_20 rfl 3 rfl ?_
    refine tw_iast dX3_changeWill_21 shC_19 (bd_in b110 (by decide)) ?_
    have hI114 : JC (mm_up S112 19 x1.toNatClampNeg x3) := JIC_puta hI111 (bd_all x3) b110 (by decide) (by decide +kernel)
    generalize hS115 : (mm_up S112 19 x1.toNatClampNeg x3) = S115 at hI114 ⊢
    have hF116 := fr_upA hF113 hS115 (by decide)
    exact mw_vret rfl dX3_changeWill_22 rfl rfl ⟨S115, rfl, rfl, ⟨hI114, hF116, trivial, (by subst hS115; subst hS112; subst hx106; rw [F_X3_changeWill_15, if_neg q107])⟩⟩
def F_X2_firstUnlike_135_15_L2  : Nat → mm_S → Int32 → Int32
  | 0, S, _ => 0
  | N + 1, S, y101 => (if (S.1 135 0) ≤ y101 then (-1 : Int32) else (if (F_X3_voiceOf_15 S (S.1 136 (y101).toNatClampNeg)) = (S.1 137 (y101).toNatClampNeg) then ((F_X2_firstUnlike_135_15_L2  N) S (y101 + Int32.ofInt 1)) else y101))
def F_X2_firstUnlike_135_15 (S : mm_S)  : Int32 := (F_X2_firstUnlike_135_15_L2  17 S (0 : Int32))
set_option maxRecDepth 100000 in
set_option maxHeartbeats 4000000 in
theorem cx_X2_firstUnlike_135_15 {g : mm_G} (S : mm_S) (hI : JC S)  : mc g yX2_firstUnlike cX2_firstUnlike 3 (some .int) (mm_rm 2) [.ref 135, .ref 15] (mm_enc shC S) (qi shC (fun S1 v => S = S1 ∧ mm_b (-1) (14) v ∧ (True) ∧ F_X2_firstUnlike_135_15 S = v)) := by
  refine mc_of2 (own := RX2) (ini := false) (ls := [(0, .ref 135), (1, .ref 15)]) (by decide) (Nat.le_of_ble_eq_true rfl) rfl (by decide) rfl ?_
  refine mw_iconst dX2_firstUnlike_0 ki_0 ?_
  refine mw_istore_n (ls' := [(2, .int 0), (0, .ref 135), (1, .ref 15)]) dX2_firstUnlike_1 rfl (by decide) rfl ?_
  have cut2 : ∀ (N2 : Nat) (y101 : Int32), ((16 : Int) - y101.toInt).toNat < N2 → mm_b (0) (15) y101 → F_X2_firstUnlike_135_15 S = F_X2_firstUnlike_135_15_L2  N2 S y101 → mw g RX2 cX2_firstUnlike 3 (some .int) false (mm_rm 2) (qi shC (fun S1 v => S = S1 ∧ mm_b (-1) (14) v ∧ (True) ∧ F_X2_firstUnlike_135_15 S = v)) 0 0 (mm_enc shC S) 2 [(0, .ref 135), (1, .ref 15), (2, .int y101)] [] := by
    intro N2
    induction N2 with
    | zero =>
      intro y101 hm103 b102 hE104
      exact absurd hm103 (Nat.not_lt_zero _)
    | succ N2 ih2 =>
      intro y101 hm103 b102 hE104
      refine mw_iload_n dX2_firstUnlike_2 rfl 2 rfl ?_
      refine mw_aload_n dX2_firstUnlike_3 rfl 0 rfl ?_
      refine tw_geti (j := 0) dX2_firstUnlike_4 shC_135 rfl rfl (by decide) fX2_24 (fun v105 ev105 => ?_)
      have b106 : mm_b (0) (15) v105 := JIC_fld hI ev105 tbC_36 (by decide)
      refine mw_icmp_ge (tgt := 37) dX2_firstUnlike_7 (by decide) (fun q107 => ?_) (fun q107 => ?_)
      · skip
        refine mw_iconst dX2_firstUnlike_37 ki_m1 ?_
        exact mw_iret rfl dX2_firstUnlike_38 rfl rfl ⟨S, _, rfl, rfl, rfl, bd_w n_m1 (by decide), trivial, (by subst ev105; exact hE104.trans (by rw [F_X2_firstUnlike_135_15_L2, if_pos q107]))⟩
      · skip
        have b108 : mm_b (0) (14) y101 := bd_lt_l (bd_nle q107) b102 b106 (by decide)
        have b109 : mm_b (1) (15) v105 := bd_lt_r (bd_nle q107) b102 b106 (by decide)
        refine mw_aload_n dX2_firstUnlike_10 rfl 1 rfl ?_
        refine mw_aload_n dX2_firstUnlike_11 rfl 0 rfl ?_
        refine tw_getr (j := 1) dX2_firstUnlike_12 shC_135 rfl rfl (by decide) fX2_15 ?_
        refine mw_iload_n dX2_firstUnlike_15 rfl 2 rfl ?_
        refine tw_iald dX2_firstUnlike_16 shC_136 (bd_in b108 (by decide)) (fun v110 ev110 => ?_)
        refine tc_Vi (as := [.int v110]) (st := []) dX2_firstUnlike_17 rfl shC_15 rfl rfl mX2_28 t_X3_voiceOf rfl (Nat.le_of_ble_eq_true rfl) (by decide) (by decide) (cx_X3_voiceOf_15 (g := g) S hI v110) (fun S111 v113 h112 => ?_)
        obtain ⟨rfl, b114, x115, hx116⟩ := h112
        refine mw_aload_n dX2_firstUnlike_20 rfl 0 rfl ?_
        refine tw_getr (j := 2) dX2_firstUnlike_21 shC_135 rfl rfl (by decide) fX2_21 ?_
        refine mw_iload_n dX2_firstUnlike_24 rfl 2 rfl ?_
        refine tw_iald dX2_firstUnlike_25 shC_137 (bd_in b108 (by decide)) (fun v117 ev117 => ?_)
        refine mw_icmp_eq (tgt := 31) dX2_firstUnlike_26 (by decide) (fun q118 => ?_) (fun q118 => ?_)
        · skip
          refine mw_iinc (ls' := fun v => [(2, .int v), (0, .ref 135), (1, .ref 15)]) dX2_firstUnlike_31 2 rfl (by decide) (fun _ => rfl) (fun v119 ev119 => ?_)
          have b120 : mm_b (1) (15) v119 := bd_inc ev119 b108 (by decide)
          refine mw_goto (tgt := 2) dX2_firstUnlike_34 (by decide) ?_
          refine mw_ls [1, 2, 0] rfl ?_
          exact ih2 v119 (ms_inc ev119 b108 (by decide) hm103) (bd_w b120 (by decide)) (by subst ev119; subst ev117; subst hx116; subst ev110; subst ev105; exact hE104.trans (by rw [F_X2_firstUnlike_135_15_L2, if_neg q107, if_pos q118]))
        · skip
          refine mw_iload_n dX2_firstUnlike_29 rfl 2 rfl ?_
          exact mw_iret rfl dX2_firstUnlike_30 rfl rfl ⟨S, _, rfl, rfl, rfl, bd_w b108 (by decide), trivial, (by subst ev117; subst hx116; subst ev110; subst ev105; exact hE104.trans (by rw [F_X2_firstUnlike_135_15_L2, if_neg q107, if_neg q118]))⟩
  refine mw_ls [1, 2, 0] rfl ?_
  exact cut2 17 (0 : Int32) (by have hz := n_0; omega) (bd_w n_0 (by decide)) (by rw [F_X2_firstUnlike_135_15])
