def F_X0_isFree (S : mm_S) (x1 : Int32) (x2 : Int32) (x3 : Int32) : Int32 := (if x1 < (0 : Int32) then (0 : Int32) else (if (6 : Int32) ≤ x1 then (0 : Int32) else (if (F_X9_isIn S (S.1 142 (x1).toNatClampNeg) x2) = (0 : Int32) then (0 : Int32) else (if (F_X9_isIn S x3 x2) = (0 : Int32) then (1 : Int32) else (0 : Int32)))))
set_option maxRecDepth 100000 in
set_option maxHeartbeats 4000000 in
theorem cx_X0_isFree {g : mm_G} (S : mm_S) (hI : JC S) (x1 : Int32) (x2 : Int32) (x3 : Int32) : mc g yX0_isFree cX0_isFree 4 (some .boolean) (mm_rm 1) [.ref 140, .int x1, .int x2, .int x3] (mm_enc shC S) (qi shC (fun S1 v => S = S1 ∧ mm_b (0) (1) v ∧ (v = 0 ∨ (mm_b (0) (5) x1 ∧ mm_b (0) (6) x2)) ∧ F_X0_isFree S x1 x2 x3 = v)) := by
  refine mc_of2 (own := RX0) (ini := false) (ls := [(0, .ref 140), (1, .int x1), (2, .int x2), (3, .int x3)]) (by decide) (Nat.le_of_ble_eq_true rfl) rfl (by decide) rfl ?_
  refine mw_iload_n dX0_isFree_0 rfl 1 rfl ?_
  refine mw_if_lt (tgt := 38) dX0_isFree_1 (by decide) (fun q101 => ?_) (fun q101 => ?_)
  · skip
    have b102 : mm_b (-2147483648) (-1) x1 := bd_lt_l q101 (bd_all x1) n_0 (by decide)
    refine mw_iconst dX0_isFree_38 ki_0 ?_
    exact mw_zret rfl (bd_nar n_0 (by decide)) dX0_isFree_39 rfl rfl ⟨S, _, rfl, rfl, rfl, bd_w n_0 (by decide), Or.inl rfl, (by rw [F_X0_isFree, if_pos q101])⟩
  · skip
    have b103 : mm_b (0) (2147483647) x1 := bd_le_r (bd_nlt q101) n_0 (bd_all x1) (by decide)
    refine mw_iload_n dX0_isFree_4 rfl 1 rfl ?_
    refine mw_aload_n dX0_isFree_5 rfl 0 rfl ?_
    refine tw_getr (j := 1) dX0_isFree_6 shC_140 rfl rfl (by decide) fX0_15 ?_
    refine tw_aleni (v := 6) dX0_isFree_9 shC_142 rfl (by decide) ?_
    refine mw_icmp_ge (tgt := 38) dX0_isFree_10 (by decide) (fun q104 => ?_) (fun q104 => ?_)
    · skip
      have b105 : mm_b (6) (2147483647) x1 := bd_le_r q104 n_6 b103 (by decide)
      refine mw_iconst dX0_isFree_38 ki_0 ?_
      exact mw_zret rfl (bd_nar n_0 (by decide)) dX0_isFree_39 rfl rfl ⟨S, _, rfl, rfl, rfl, bd_w n_0 (by decide), Or.inl rfl, (by rw [F_X0_isFree, if_neg q101, if_pos q104])⟩
    · skip
      have b106 : mm_b (0) (5) x1 := bd_lt_l (bd_nle q104) b103 n_6 (by decide)
      refine mw_aload_n dX0_isFree_13 rfl 0 rfl ?_
      refine tw_getr (j := 1) dX0_isFree_14 shC_140 rfl rfl (by decide) fX0_15 ?_
      refine mw_iload_n dX0_isFree_17 rfl 1 rfl ?_
      refine tw_iald dX0_isFree_18 shC_142 (bd_in b106 (by decide)) (fun v107 ev107 => ?_)
      refine mw_iload_n dX0_isFree_19 rfl 2 rfl ?_
      refine tc_SiN (as := [.int v107, .int x2]) (st := []) dX0_isFree_20 rfl mX0_62 t_X9_isIn rfl (Nat.le_of_ble_eq_true rfl) (by decide) (by decide) (cx_X9_isIn (g := g) S hI v107 x2) (fun S108 v110 h109 => ?_)
      obtain ⟨rfl, b111, x112, hx113⟩ := h109
      refine mw_if_eq (tgt := 38) dX0_isFree_23 (by decide) (fun q114 => ?_) (fun q114 => ?_)
      · skip
        have b115 : mm_b (0) (0) v110 := bd_eq_l q114 b111 n_0 (by decide)
        refine mw_iconst dX0_isFree_38 ki_0 ?_
        exact mw_zret rfl (bd_nar n_0 (by decide)) dX0_isFree_39 rfl rfl ⟨S, _, rfl, rfl, rfl, bd_w n_0 (by decide), Or.inl rfl, (by subst hx113; subst ev107; rw [F_X0_isFree, if_neg q101, if_neg q104, if_pos q114])⟩
      · skip
        have b116 : mm_b (1) (1) v110 := bd_ne_l q114 b111 n_0 (by decide)
        have b117 := Or.resolve_left x112 q114
        refine mw_iload_n dX0_isFree_26 rfl 3 rfl ?_
        refine mw_iload_n dX0_isFree_27 rfl 2 rfl ?_
        refine tc_SiN (as := [.int x3, .int x2]) (st := []) dX0_isFree_28 rfl mX0_62 t_X9_isIn rfl (Nat.le_of_ble_eq_true rfl) (by decide) (by decide) (cx_X9_isIn (g := g) S hI x3 x2) (fun S118 v120 h119 => ?_)
        obtain ⟨rfl, b121, x122, hx123⟩ := h119
        refine mw_if_ne (tgt := 38) dX0_isFree_31 (by decide) (fun q124 => ?_) (fun q124 => ?_)
        · skip
          have b125 : mm_b (1) (1) v120 := bd_ne_l q124 b121 n_0 (by decide)
          have b126 := Or.resolve_left x122 q124
          refine mw_iconst dX0_isFree_38 ki_0 ?_
          exact mw_zret rfl (bd_nar n_0 (by decide)) dX0_isFree_39 rfl rfl ⟨S, _, rfl, rfl, rfl, bd_w n_0 (by decide), Or.inl rfl, (by subst hx123; subst hx113; subst ev107; rw [F_X0_isFree, if_neg q101, if_neg q104, if_neg q114, if_neg q124])⟩
        · skip
          have b127 : mm_b (0) (0) v120 := bd_eq_l q124 b121 n_0 (by decide)
          refine mw_iconst dX0_isFree_34 ki_1 ?_
          refine mw_goto (tgt := 39) dX0_isFree_35 (by decide) ?_
          exact mw_zret rfl (bd_nar n_1 (by decide)) dX0_isFree_39 rfl rfl ⟨S, _, rfl, rfl, rfl, bd_w n_1 (by decide), Or.inr ⟨bd_w b106 (by decide), bd_w b117 (by decide)⟩, (by subst hx123; subst hx113; subst ev107; rw [F_X0_isFree, if_neg q101, if_neg q104, if_neg q114, if_pos q124])⟩
def F_X0_sungFrom (S : mm_S) (x1 : Int32) (x2 : Int32) : Int32 := (if x1 < (0 : Int32) then (0 : Int32) else (if (6 : Int32) < x1 then (0 : Int32) else (if x2 < (0 : Int32) then (0 : Int32) else (if (128 : Int32) ≤ x2 then (0 : Int32) else (S.1 (aaC_143 x1) (x2).toNatClampNeg)))))
set_option maxRecDepth 100000 in
set_option maxHeartbeats 4000000 in
theorem cx_X0_sungFrom {g : mm_G} (S : mm_S) (hI : JC S) (x1 : Int32) (x2 : Int32) : mc g yX0_sungFrom cX0_sungFrom 3 (some .int) (mm_rm 0) [.ref 140, .int x1, .int x2] (mm_enc shC S) (qi shC (fun S1 v => S = S1 ∧ mm_b (-2147483648) (2147483647) v ∧ (True) ∧ F_X0_sungFrom S x1 x2 = v)) := by
  refine mc_of2 (own := RX0) (ini := false) (ls := [(0, .ref 140), (1, .int x1), (2, .int x2)]) (by decide) (Nat.le_of_ble_eq_true rfl) rfl (by decide) rfl ?_
  refine mw_iload_n dX0_sungFrom_0 rfl 1 rfl ?_
  refine mw_if_lt (tgt := 32) dX0_sungFrom_1 (by decide) (fun q101 => ?_) (fun q101 => ?_)
  · skip
    have b102 : mm_b (-2147483648) (-1) x1 := bd_lt_l q101 (bd_all x1) n_0 (by decide)
    refine mw_iconst dX0_sungFrom_32 ki_0 ?_
    exact mw_iret rfl dX0_sungFrom_33 rfl rfl ⟨S, _, rfl, rfl, rfl, bd_w n_0 (by decide), trivial, (by rw [F_X0_sungFrom, if_pos q101])⟩
  · skip
    have b103 : mm_b (0) (2147483647) x1 := bd_le_r (bd_nlt q101) n_0 (bd_all x1) (by decide)
    refine mw_iload_n dX0_sungFrom_4 rfl 1 rfl ?_
    refine mw_bipush dX0_sungFrom_5 kb_6 ?_
    refine mw_icmp_gt (tgt := 32) dX0_sungFrom_7 (by decide) (fun q104 => ?_) (fun q104 => ?_)
    · skip
      have b105 : mm_b (7) (2147483647) x1 := bd_lt_r q104 n_6 b103 (by decide)
      refine mw_iconst dX0_sungFrom_32 ki_0 ?_
      exact mw_iret rfl dX0_sungFrom_33 rfl rfl ⟨S, _, rfl, rfl, rfl, bd_w n_0 (by decide), trivial, (by rw [F_X0_sungFrom, if_neg q101, if_pos q104])⟩
    · skip
      have b106 : mm_b (0) (6) x1 := bd_le_l (bd_nlt q104) b103 n_6 (by decide)
      refine mw_iload_n dX0_sungFrom_10 rfl 2 rfl ?_
      refine mw_if_lt (tgt := 32) dX0_sungFrom_11 (by decide) (fun q107 => ?_) (fun q107 => ?_)
      · skip
        have b108 : mm_b (-2147483648) (-1) x2 := bd_lt_l q107 (bd_all x2) n_0 (by decide)
        refine mw_iconst dX0_sungFrom_32 ki_0 ?_
        exact mw_iret rfl dX0_sungFrom_33 rfl rfl ⟨S, _, rfl, rfl, rfl, bd_w n_0 (by decide), trivial, (by rw [F_X0_sungFrom, if_neg q101, if_neg q104, if_pos q107])⟩
      · skip
        have b109 : mm_b (0) (2147483647) x2 := bd_le_r (bd_nlt q107) n_0 (bd_all x2) (by decide)
        refine mw_iload_n dX0_sungFrom_14 rfl 2 rfl ?_
        refine mw_sipush dX0_sungFrom_15 ks_128 ?_
        refine mw_icmp_ge (tgt := 32) dX0_sungFrom_18 (by decide) (fun q110 => ?_) (fun q110 => ?_)
        · skip
          have b111 : mm_b (128) (2147483647) x2 := bd_le_r q110 n_128 b109 (by decide)
          refine mw_iconst dX0_sungFrom_32 ki_0 ?_
          exact mw_iret rfl dX0_sungFrom_33 rfl rfl ⟨S, _, rfl, rfl, rfl, bd_w n_0 (by decide), trivial, (by rw [F_X0_sungFrom, if_neg q101, if_neg q104, if_neg q107, if_pos q110])⟩
        · skip
          have b112 : mm_b (0) (127) x2 := bd_lt_l (bd_nle q110) b109 n_128 (by decide)
          refine mw_aload_n dX0_sungFrom_21 rfl 0 rfl ?_
          refine tw_getr (j := 2) dX0_sungFrom_22 shC_140 rfl rfl (by decide) fX0_20 ?_
          refine mw_iload_n dX0_sungFrom_25 rfl 1 rfl ?_
          obtain ⟨a113, ea113, ha114⟩ := AAC_143 b106 (by decide)
          refine tw_aald dX0_sungFrom_26 shC_143 rfl rfl (bd_in b106 (by decide)) ea113 (LC_row_lt ha114) ?_
          have e2a113 := aaC_143_get ea113
          refine mw_iload_n dX0_sungFrom_27 rfl 2 rfl ?_
          refine tw_iald dX0_sungFrom_28 (shC_row_0 a113 ha114) (bd_in b112 (by decide)) (fun v115 ev115 => ?_)
          refine mw_goto (tgt := 33) dX0_sungFrom_29 (by decide) ?_
          exact mw_iret rfl dX0_sungFrom_33 rfl rfl ⟨S, _, rfl, rfl, rfl, (bd_all v115), trivial, (by subst ev115; subst e2a113; rw [F_X0_sungFrom, if_neg q101, if_neg q104, if_neg q107, if_neg q110])⟩
def F_X0_sung (S : mm_S)  : Int32 := (F_X0_sungFrom S (0 : Int32) (0 : Int32))
set_option maxRecDepth 100000 in
set_option maxHeartbeats 4000000 in
theorem cx_X0_sung {g : mm_G} (S : mm_S) (hI : JC S)  : mc g yX0_sung cX0_sung 1 (some .int) (mm_rm 1) [.ref 140] (mm_enc shC S) (qi shC (fun S1 v => S = S1 ∧ mm_b (-2147483648) (2147483647) v ∧ (True) ∧ F_X0_sung S = v)) := by
  refine mc_of2 (own := RX0) (ini := false) (ls := [(0, .ref 140)]) (by decide) (Nat.le_of_ble_eq_true rfl) rfl (by decide) rfl ?_
  refine mw_aload_n dX0_sung_0 rfl 0 rfl ?_
  refine mw_iconst dX0_sung_1 ki_0 ?_
  refine mw_iconst dX0_sung_2 ki_0 ?_
  refine tc_Vi (as := [.int 0, .int 0]) (st := []) dX0_sung_3 rfl shC_140 rfl rfl mX0_50 t_X0_sungFrom rfl (Nat.le_of_ble_eq_true rfl) (by decide) (by decide) (cx_X0_sungFrom (g := g) S hI (0 : Int32) (0 : Int32)) (fun S101 v103 h102 => ?_)
  obtain ⟨rfl, b104, x105, hx106⟩ := h102
  exact mw_iret rfl dX0_sung_6 rfl rfl ⟨S, _, rfl, rfl, rfl, b104, trivial, (by subst hx106; rw [F_X0_sung])⟩
def F_X0_singerOf (S : mm_S) (x1 : Int32) : Int32 := (if x1 < (0 : Int32) then (-1 : Int32) else (if (6 : Int32) ≤ x1 then (-1 : Int32) else (S.1 141 (x1).toNatClampNeg)))
set_option maxRecDepth 100000 in
set_option maxHeartbeats 4000000 in
theorem cx_X0_singerOf {g : mm_G} (S : mm_S) (hI : JC S) (x1 : Int32) : mc g yX0_singerOf cX0_singerOf 2 (some .int) (mm_rm 0) [.ref 140, .int x1] (mm_enc shC S) (qi shC (fun S1 v => S = S1 ∧ mm_b (-2147483648) (2147483647) v ∧ (True) ∧ F_X0_singerOf S x1 = v)) := by
  refine mc_of2 (own := RX0) (ini := false) (ls := [(0, .ref 140), (1, .int x1)]) (by decide) (Nat.le_of_ble_eq_true rfl) rfl (by decide) rfl ?_
  refine mw_iload_n dX0_singerOf_0 rfl 1 rfl ?_
  refine mw_if_lt (tgt := 22) dX0_singerOf_1 (by decide) (fun q101 => ?_) (fun q101 => ?_)
  · skip
    have b102 : mm_b (-2147483648) (-1) x1 := bd_lt_l q101 (bd_all x1) n_0 (by decide)
    refine mw_iconst dX0_singerOf_22 ki_m1 ?_
    exact mw_iret rfl dX0_singerOf_23 rfl rfl ⟨S, _, rfl, rfl, rfl, bd_w n_m1 (by decide), trivial, (by rw [F_X0_singerOf, if_pos q101])⟩
  · skip
    have b103 : mm_b (0) (2147483647) x1 := bd_le_r (bd_nlt q101) n_0 (bd_all x1) (by decide)
    refine mw_iload_n dX0_singerOf_4 rfl 1 rfl ?_
    refine mw_aload_n dX0_singerOf_5 rfl 0 rfl ?_
    refine tw_getr (j := 0) dX0_singerOf_6 shC_140 rfl rfl (by decide) fX0_9 ?_
    refine tw_aleni (v := 6) dX0_singerOf_9 shC_141 rfl (by decide) ?_
    refine mw_icmp_ge (tgt := 22) dX0_singerOf_10 (by decide) (fun q104 => ?_) (fun q104 => ?_)
    · skip
      have b105 : mm_b (6) (2147483647) x1 := bd_le_r q104 n_6 b103 (by decide)
      refine mw_iconst dX0_singerOf_22 ki_m1 ?_
      exact mw_iret rfl dX0_singerOf_23 rfl rfl ⟨S, _, rfl, rfl, rfl, bd_w n_m1 (by decide), trivial, (by rw [F_X0_singerOf, if_neg q101, if_pos q104])⟩
    · skip
      have b106 : mm_b (0) (5) x1 := bd_lt_l (bd_nle q104) b103 n_6 (by decide)
      refine mw_aload_n dX0_singerOf_13 rfl 0 rfl ?_
      refine tw_getr (j := 0) dX0_singerOf_14 shC_140 rfl rfl (by decide) fX0_9 ?_
      refine mw_iload_n dX0_singerOf_17 rfl 1 rfl ?_
      refine tw_iald dX0_singerOf_18 shC_141 (bd_in b106 (by decide)) (fun v107 ev107 => ?_)
      refine mw_goto (tgt := 23) dX0_singerOf_19 (by decide) ?_
      exact mw_iret rfl dX0_singerOf_23 rfl rfl ⟨S, _, rfl, rfl, rfl, (bd_all v107), trivial, (by subst ev107; rw [F_X0_singerOf, if_neg q101, if_neg q104])⟩
def F_X0_mostFrom_L12 (x1 : Int32) (x2 : Int32) : Nat → mm_S → Int32 → Int32 → Int32
  | 0, S, _, _ => 0
  | N + 1, S, y108, y110 => (if (7 : Int32) ≤ y110 then y108 else (if (F_X0_isFree S x1 y110 x2) = (0 : Int32) then ((F_X0_mostFrom_L12 x1 x2 N) S y108 (y110 + Int32.ofInt 1)) else ((F_X0_mostFrom_L12 x1 x2 N) S (if y108 < ((1 : Int32) + (F_X0_sungFrom S (x1 + (1 : Int32)) (x2 ||| ((1 : Int32) <<< (y110 &&& 31))))) then ((1 : Int32) + (F_X0_sungFrom S (x1 + (1 : Int32)) (x2 ||| ((1 : Int32) <<< (y110 &&& 31))))) else y108) (y110 + Int32.ofInt 1))))
def F_X0_mostFrom (S : mm_S) (x1 : Int32) (x2 : Int32) : Int32 := (F_X0_mostFrom_L12 x1 x2 9 S (F_X0_sungFrom S (x1 + (1 : Int32)) x2) (0 : Int32))
set_option maxRecDepth 100000 in
set_option maxHeartbeats 4000000 in
theorem cx_X0_mostFrom {g : mm_G} (S : mm_S) (hI : JC S) (x1 : Int32) (x2 : Int32) : mc g yX0_mostFrom cX0_mostFrom 5 (some .int) (mm_rm 2) [.ref 140, .int x1, .int x2] (mm_enc shC S) (qi shC (fun S1 v => S = S1 ∧ mm_b (-2147483648) (2147483647) v ∧ (True) ∧ F_X0_mostFrom S x1 x2 = v)) := by
  refine mc_of2 (own := RX0) (ini := false) (ls := [(0, .ref 140), (1, .int x1), (2, .int x2)]) (by decide) (Nat.le_of_ble_eq_true rfl) rfl (by decide) rfl ?_
  refine mw_aload_n dX0_mostFrom_0 rfl 0 rfl ?_
  refine mw_iload_n dX0_mostFrom_1 rfl 1 rfl ?_
  refine mw_iconst dX0_mostFrom_2 ki_1 ?_
  refine mw_iadd dX0_mostFrom_3 (fun v101 ev101 => ?_)
  refine mw_iload_n dX0_mostFrom_4 rfl 2 rfl ?_
  refine tc_Vi (as := [.int v101, .int x2]) (st := []) dX0_mostFrom_5 rfl shC_140 rfl rfl mX0_50 t_X0_sungFrom rfl (Nat.le_of_ble_eq_true rfl) (by decide) (by decide) (cx_X0_sungFrom (g := g) S hI v101 x2) (fun S102 v104 h103 => ?_)
  obtain ⟨rfl, b105, x106, hx107⟩ := h103
  refine mw_istore_n (ls' := [(3, .int v104), (0, .ref 140), (1, .int x1), (2, .int x2)]) dX0_mostFrom_8 rfl (by decide) rfl ?_
  refine mw_iconst dX0_mostFrom_9 ki_0 ?_
  refine mw_istore (ls' := [(4, .int 0), (3, .int v104), (0, .ref 140), (1, .int x1), (2, .int x2)]) dX0_mostFrom_10 (by decide) rfl ?_
  have cut12 : ∀ (N12 : Nat) (y108 y110 : Int32), ((8 : Int) - y110.toInt).toNat < N12 → mm_b (-2147483648) (2147483647) y108 → mm_b (0) (7) y110 → F_X0_mostFrom S x1 x2 = F_X0_mostFrom_L12 x1 x2 N12 S y108 y110 → mw g RX0 cX0_mostFrom 5 (some .int) false (mm_rm 2) (qi shC (fun S1 v => S = S1 ∧ mm_b (-2147483648) (2147483647) v ∧ (True) ∧ F_X0_mostFrom S x1 x2 = v)) 0 0 (mm_enc shC S) 12 [(0, .ref 140), (1, .int x1), (2, .int x2), (3, .int y108), (4, .int y110)] [] := by
    intro N12
    induction N12 with
    | zero =>
      intro y108 y110 hm112 b109 b111 hE113
      exact absurd hm112 (Nat.not_lt_zero _)
    | succ N12 ih12 =>
      intro y108 y110 hm112 b109 b111 hE113
      refine mw_iload dX0_mostFrom_12 4 rfl ?_
      refine mw_bipush dX0_mostFrom_14 kb_7 ?_
      refine mw_icmp_ge (tgt := 56) dX0_mostFrom_16 (by decide) (fun q114 => ?_) (fun q114 => ?_)
      · skip
        have b115 : mm_b (7) (7) y110 := bd_le_r q114 n_7 b111 (by decide)
        refine mw_iload_n dX0_mostFrom_56 rfl 3 rfl ?_
        exact mw_iret rfl dX0_mostFrom_57 rfl rfl ⟨S, _, rfl, rfl, rfl, b109, trivial, (by exact hE113.trans (by rw [F_X0_mostFrom_L12, if_pos q114]))⟩
      · skip
        have b116 : mm_b (0) (6) y110 := bd_lt_l (bd_nle q114) b111 n_7 (by decide)
        refine mw_aload_n dX0_mostFrom_19 rfl 0 rfl ?_
        refine mw_iload_n dX0_mostFrom_20 rfl 1 rfl ?_
        refine mw_iload dX0_mostFrom_21 4 rfl ?_
        refine mw_iload_n dX0_mostFrom_23 rfl 2 rfl ?_
        refine tc_Vi (as := [.int x1, .int y110, .int x2]) (st := []) dX0_mostFrom_24 rfl shC_140 rfl rfl mX0_53 t_X0_isFree rfl (Nat.le_of_ble_eq_true rfl) (by decide) (by decide) (cx_X0_isFree (g := g) S hI x1 y110 x2) (fun S117 v119 h118 => ?_)
        obtain ⟨rfl, b120, x121, hx122⟩ := h118
        refine mw_if_eq (tgt := 50) dX0_mostFrom_27 (by decide) (fun q123 => ?_) (fun q123 => ?_)
        · skip
          have b124 : mm_b (0) (0) v119 := bd_eq_l q123 b120 n_0 (by decide)
          refine mw_iinc (ls' := fun v => [(4, .int v), (0, .ref 140), (1, .int x1), (2, .int x2), (3, .int y108)]) dX0_mostFrom_50 4 rfl (by decide) (fun _ => rfl) (fun v125 ev125 => ?_)
          have b126 : mm_b (1) (7) v125 := bd_inc ev125 b116 (by decide)
          refine mw_goto (tgt := 12) dX0_mostFrom_53 (by decide) ?_
          refine mw_ls [1, 2, 3, 4, 0] rfl ?_
          exact ih12 y108 v125 (ms_inc ev125 b116 (by decide) hm112) b109 (bd_w b126 (by decide)) (by subst ev125; subst hx122; exact hE113.trans (by rw [F_X0_mostFrom_L12, if_neg q114, if_pos q123]))
        · skip
          have b127 : mm_b (1) (1) v119 := bd_ne_l q123 b120 n_0 (by decide)
          obtain ⟨b128, b129⟩ := Or.resolve_left x121 q123
          refine mw_iload_n dX0_mostFrom_30 rfl 3 rfl ?_
          refine mw_iconst dX0_mostFrom_31 ki_1 ?_
          refine mw_aload_n dX0_mostFrom_32 rfl 0 rfl ?_
          refine mw_iload_n dX0_mostFrom_33 rfl 1 rfl ?_
          refine mw_iconst dX0_mostFrom_34 ki_1 ?_
          refine mw_iadd dX0_mostFrom_35 (fun v130 ev130 => ?_)
          have b131 : mm_b (1) (6) v130 := bd_add ev130 b128 n_1 (by decide)
          refine mw_iload_n dX0_mostFrom_36 rfl 2 rfl ?_
          refine mw_iconst dX0_mostFrom_37 ki_1 ?_
          refine mw_iload dX0_mostFrom_38 4 rfl ?_
          refine mw_ishl dX0_mostFrom_40 (fun v132 ev132 => ?_)
          have b133 : mm_b (1) (64) v132 := bd_shl 6 ev132 b129 (by decide)
          refine mw_ior dX0_mostFrom_41 (fun v134 ev134 => ?_)
          refine tc_Vi (as := [.int v130, .int v134]) (st := [.int 1, .int y108]) dX0_mostFrom_42 rfl shC_140 rfl rfl mX0_50 t_X0_sungFrom rfl (Nat.le_of_ble_eq_true rfl) (by decide) (by decide) (cx_X0_sungFrom (g := g) S hI v130 v134) (fun S135 v137 h136 => ?_)
          obtain ⟨rfl, b138, x139, hx140⟩ := h136
          refine mw_iadd dX0_mostFrom_45 (fun v141 ev141 => ?_)
          refine mw_max (st := []) dX0_mostFrom_46 mX0_57 (Nat.le_of_ble_eq_true rfl) (by decide) (fun v142 ev142 => ?_)
          have b143 : mm_b (-2147483648) (2147483647) v142 := max_b ev142 b109 (bd_all v141) (by decide)
          refine mw_istore_n (ls' := [(3, .int v142), (0, .ref 140), (1, .int x1), (2, .int x2), (4, .int y110)]) dX0_mostFrom_49 rfl (by decide) rfl ?_
          refine mw_iinc (ls' := fun v => [(4, .int v), (3, .int v142), (0, .ref 140), (1, .int x1), (2, .int x2)]) dX0_mostFrom_50 4 rfl (by decide) (fun _ => rfl) (fun v144 ev144 => ?_)
          have b145 : mm_b (1) (7) v144 := bd_inc ev144 b129 (by decide)
          refine mw_goto (tgt := 12) dX0_mostFrom_53 (by decide) ?_
          refine mw_ls [2, 3, 4, 1, 0] rfl ?_
          exact ih12 v142 v144 (ms_inc ev144 b129 (by decide) hm112) b143 (bd_w b145 (by decide)) (by subst ev144; subst ev142; subst ev141; subst hx140; subst ev134; subst ev132; subst ev130; subst hx122; exact hE113.trans (by rw [F_X0_mostFrom_L12, if_neg q114, if_neg q123]))
  refine mw_ls [2, 3, 4, 1, 0] rfl ?_
  exact cut12 9 v104 (0 : Int32) (by have hz := n_0; omega) b105 (bd_w n_0 (by decide)) (by subst hx107; subst ev101; rw [F_X0_mostFrom])
def F_X0_leastSinger_L2 (x1 : Int32) (x2 : Int32) : Nat → mm_S → Int32 → Int32
  | 0, S, _ => 0
  | N + 1, S, y101 => (if (7 : Int32) ≤ y101 then (-1 : Int32) else (if (F_X0_isFree S x1 y101 x2) = (0 : Int32) then ((F_X0_leastSinger_L2 x1 x2 N) S (y101 + Int32.ofInt 1)) else (if ((1 : Int32) + (F_X0_sungFrom S (x1 + (1 : Int32)) (x2 ||| ((1 : Int32) <<< (y101 &&& 31))))) = (F_X0_sungFrom S x1 x2) then y101 else ((F_X0_leastSinger_L2 x1 x2 N) S (y101 + Int32.ofInt 1)))))
def F_X0_leastSinger (S : mm_S) (x1 : Int32) (x2 : Int32) : Int32 := (F_X0_leastSinger_L2 x1 x2 9 S (0 : Int32))
set_option maxRecDepth 100000 in
set_option maxHeartbeats 4000000 in
theorem cx_X0_leastSinger {g : mm_G} (S : mm_S) (hI : JC S) (x1 : Int32) (x2 : Int32) : mc g yX0_leastSinger cX0_leastSinger 4 (some .int) (mm_rm 2) [.ref 140, .int x1, .int x2] (mm_enc shC S) (qi shC (fun S1 v => S = S1 ∧ mm_b (-1) (6) v ∧ (True) ∧ F_X0_leastSinger S x1 x2 = v)) := by
  refine mc_of2 (own := RX0) (ini := false) (ls := [(0, .ref 140), (1, .int x1), (2, .int x2)]) (by decide) (Nat.le_of_ble_eq_true rfl) rfl (by decide) rfl ?_
  refine mw_iconst dX0_leastSinger_0 ki_0 ?_
  refine mw_istore_n (ls' := [(3, .int 0), (0, .ref 140), (1, .int x1), (2, .int x2)]) dX0_leastSinger_1 rfl (by decide) rfl ?_
  have cut2 : ∀ (N2 : Nat) (y101 : Int32), ((8 : Int) - y101.toInt).toNat < N2 → mm_b (0) (7) y101 → F_X0_leastSinger S x1 x2 = F_X0_leastSinger_L2 x1 x2 N2 S y101 → mw g RX0 cX0_leastSinger 4 (some .int) false (mm_rm 2) (qi shC (fun S1 v => S = S1 ∧ mm_b (-1) (6) v ∧ (True) ∧ F_X0_leastSinger S x1 x2 = v)) 0 0 (mm_enc shC S) 2 [(0, .ref 140), (1, .int x1), (2, .int x2), (3, .int y101)] [] := by
    intro N2
    induction N2 with
    | zero =>
      intro y101 hm103 b102 hE104
      exact absurd hm103 (Nat.not_lt_zero _)
    | succ N2 ih2 =>
      intro y101 hm103 b102 hE104
      refine mw_iload_n dX0_leastSinger_2 rfl 3 rfl ?_
      refine mw_bipush dX0_leastSinger_3 kb_7 ?_
      refine mw_icmp_ge (tgt := 49) dX0_leastSinger_5 (by decide) (fun q105 => ?_) (fun q105 => ?_)
      · skip
        have b106 : mm_b (7) (7) y101 := bd_le_r q105 n_7 b102 (by decide)
        refine mw_iconst dX0_leastSinger_49 ki_m1 ?_
        exact mw_iret rfl dX0_leastSinger_50 rfl rfl ⟨S, _, rfl, rfl, rfl, bd_w n_m1 (by decide), trivial, (by exact hE104.trans (by rw [F_X0_leastSinger_L2, if_pos q105]))⟩
      · skip
        have b107 : mm_b (0) (6) y101 := bd_lt_l (bd_nle q105) b102 n_7 (by decide)
        refine mw_aload_n dX0_leastSinger_8 rfl 0 rfl ?_
        refine mw_iload_n dX0_leastSinger_9 rfl 1 rfl ?_
        refine mw_iload_n dX0_leastSinger_10 rfl 3 rfl ?_
        refine mw_iload_n dX0_leastSinger_11 rfl 2 rfl ?_
        refine tc_Vi (as := [.int x1, .int y101, .int x2]) (st := []) dX0_leastSinger_12 rfl shC_140 rfl rfl mX0_53 t_X0_isFree rfl (Nat.le_of_ble_eq_true rfl) (by decide) (by decide) (cx_X0_isFree (g := g) S hI x1 y101 x2) (fun S108 v110 h109 => ?_)
        obtain ⟨rfl, b111, x112, hx113⟩ := h109
        refine mw_if_eq (tgt := 43) dX0_leastSinger_15 (by decide) (fun q114 => ?_) (fun q114 => ?_)
        · skip
          have b115 : mm_b (0) (0) v110 := bd_eq_l q114 b111 n_0 (by decide)
          refine mw_iinc (ls' := fun v => [(3, .int v), (0, .ref 140), (1, .int x1), (2, .int x2)]) dX0_leastSinger_43 3 rfl (by decide) (fun _ => rfl) (fun v116 ev116 => ?_)
          have b117 : mm_b (1) (7) v116 := bd_inc ev116 b107 (by decide)
          refine mw_goto (tgt := 2) dX0_leastSinger_46 (by decide) ?_
          refine mw_ls [1, 2, 3, 0] rfl ?_
          exact ih2 v116 (ms_inc ev116 b107 (by decide) hm103) (bd_w b117 (by decide)) (by subst ev116; subst hx113; exact hE104.trans (by rw [F_X0_leastSinger_L2, if_neg q105, if_pos q114]))
        · skip
          have b118 : mm_b (1) (1) v110 := bd_ne_l q114 b111 n_0 (by decide)
          obtain ⟨b119, b120⟩ := Or.resolve_left x112 q114
          refine mw_iconst dX0_leastSinger_18 ki_1 ?_
          refine mw_aload_n dX0_leastSinger_19 rfl 0 rfl ?_
          refine mw_iload_n dX0_leastSinger_20 rfl 1 rfl ?_
          refine mw_iconst dX0_leastSinger_21 ki_1 ?_
          refine mw_iadd dX0_leastSinger_22 (fun v121 ev121 => ?_)
          have b122 : mm_b (1) (6) v121 := bd_add ev121 b119 n_1 (by decide)
          refine mw_iload_n dX0_leastSinger_23 rfl 2 rfl ?_
          refine mw_iconst dX0_leastSinger_24 ki_1 ?_
          refine mw_iload_n dX0_leastSinger_25 rfl 3 rfl ?_
          refine mw_ishl dX0_leastSinger_26 (fun v123 ev123 => ?_)
          have b124 : mm_b (1) (64) v123 := bd_shl 6 ev123 b120 (by decide)
          refine mw_ior dX0_leastSinger_27 (fun v125 ev125 => ?_)
          refine tc_Vi (as := [.int v121, .int v125]) (st := [.int 1]) dX0_leastSinger_28 rfl shC_140 rfl rfl mX0_50 t_X0_sungFrom rfl (Nat.le_of_ble_eq_true rfl) (by decide) (by decide) (cx_X0_sungFrom (g := g) S hI v121 v125) (fun S126 v128 h127 => ?_)
          obtain ⟨rfl, b129, x130, hx131⟩ := h127
          refine mw_iadd dX0_leastSinger_31 (fun v132 ev132 => ?_)
          refine mw_aload_n dX0_leastSinger_32 rfl 0 rfl ?_
          refine mw_iload_n dX0_leastSinger_33 rfl 1 rfl ?_
          refine mw_iload_n dX0_leastSinger_34 rfl 2 rfl ?_
          refine tc_Vi (as := [.int x1, .int x2]) (st := [.int v132]) dX0_leastSinger_35 rfl shC_140 rfl rfl mX0_50 t_X0_sungFrom rfl (Nat.le_of_ble_eq_true rfl) (by decide) (by decide) (cx_X0_sungFrom (g := g) S hI x1 x2) (fun S133 v135 h134 => ?_)
          obtain ⟨rfl, b136, x137, hx138⟩ := h134
          refine mw_icmp_ne (tgt := 43) dX0_leastSinger_38 (by decide) (fun q139 => ?_) (fun q139 => ?_)
          · skip
            refine mw_iinc (ls' := fun v => [(3, .int v), (0, .ref 140), (1, .int x1), (2, .int x2)]) dX0_leastSinger_43 3 rfl (by decide) (fun _ => rfl) (fun v140 ev140 => ?_)
            have b141 : mm_b (1) (7) v140 := bd_inc ev140 b120 (by decide)
            refine mw_goto (tgt := 2) dX0_leastSinger_46 (by decide) ?_
            refine mw_ls [1, 2, 3, 0] rfl ?_
            exact ih2 v140 (ms_inc ev140 b120 (by decide) hm103) (bd_w b141 (by decide)) (by subst ev140; subst hx138; subst ev132; subst hx131; subst ev125; subst ev123; subst ev121; subst hx113; exact hE104.trans (by rw [F_X0_leastSinger_L2, if_neg q105, if_neg q114, if_neg q139]))
          · skip
            refine mw_iload_n dX0_leastSinger_41 rfl 3 rfl ?_
            exact mw_iret rfl dX0_leastSinger_42 rfl rfl ⟨S, _, rfl, rfl, rfl, bd_w b120 (by decide), trivial, (by subst hx138; subst ev132; subst hx131; subst ev125; subst ev123; subst ev121; subst hx113; exact hE104.trans (by rw [F_X0_leastSinger_L2, if_neg q105, if_neg q114, if_pos q139]))⟩
  refine mw_ls [1, 2, 3, 0] rfl ?_
  exact cut2 9 (0 : Int32) (by have hz := n_0; omega) (bd_w n_0 (by decide)) (by rw [F_X0_leastSinger])
def F_X0_suitedFor_L5 (a1 : Nat) (x0 : Int32) : Nat → mm_S → Int32 → Int32 → Int32
  | 0, S, _, _ => 0
  | N + 1, S, y101, y103 => (if (7 : Int32) ≤ y103 then y101 else (if (F_X3_lives_15 S y103) = (0 : Int32) then ((F_X0_suitedFor_L5 a1 x0 N) S y101 (y103 + Int32.ofInt 1)) else (if (F_X6_suits S a1 x0 (F_X3_voiceOf_15 S y103)) = (0 : Int32) then ((F_X0_suitedFor_L5 a1 x0 N) S y101 (y103 + Int32.ofInt 1)) else ((F_X0_suitedFor_L5 a1 x0 N) S (y101 ||| ((1 : Int32) <<< (y103 &&& 31))) (y103 + Int32.ofInt 1)))))
def F_X0_suitedFor (S : mm_S) (x0 : Int32) (a1 : Nat) : Int32 := (F_X0_suitedFor_L5 a1 x0 9 S (0 : Int32) (0 : Int32))
set_option maxRecDepth 100000 in
set_option maxHeartbeats 4000000 in
theorem cx_X0_suitedFor {g : mm_G} (S : mm_S) (hI : JC S) (x0 : Int32) (a1 : Nat) (ha1 : a1 ∈ LC_parish) : mc g yX0_suitedFor cX0_suitedFor 5 (some .int) (mm_rm 4) [.int x0, .ref a1, .ref 15] (mm_enc shC S) (qi shC (fun S1 v => S = S1 ∧ mm_b (0) (127) v ∧ (True) ∧ F_X0_suitedFor S x0 a1 = v)) := by
  refine mc_of2 (own := RX0) (ini := false) (ls := [(0, .int x0), (1, .ref a1), (2, .ref 15)]) (by decide) (Nat.le_of_ble_eq_true rfl) rfl (by decide) rfl ?_
  refine mw_iconst dX0_suitedFor_0 ki_0 ?_
  refine mw_istore_n (ls' := [(3, .int 0), (0, .int x0), (1, .ref a1), (2, .ref 15)]) dX0_suitedFor_1 rfl (by decide) rfl ?_
  refine mw_iconst dX0_suitedFor_2 ki_0 ?_
  refine mw_istore (ls' := [(4, .int 0), (3, .int 0), (0, .int x0), (1, .ref a1), (2, .ref 15)]) dX0_suitedFor_3 (by decide) rfl ?_
  have cut5 : ∀ (N5 : Nat) (y101 y103 : Int32), ((8 : Int) - y103.toInt).toNat < N5 → mm_b (0) (127) y101 → mm_b (0) (7) y103 → F_X0_suitedFor S x0 a1 = F_X0_suitedFor_L5 a1 x0 N5 S y101 y103 → mw g RX0 cX0_suitedFor 5 (some .int) false (mm_rm 4) (qi shC (fun S1 v => S = S1 ∧ mm_b (0) (127) v ∧ (True) ∧ F_X0_suitedFor S x0 a1 = v)) 0 0 (mm_enc shC S) 5 [(0, .int x0), (1, .ref a1), (2, .ref 15), (3, .int y101), (4, .int y103)] [] := by
    intro N5
    induction N5 with
    | zero =>
      intro y101 y103 hm105 b102 b104 hE106
      exact absurd hm105 (Nat.not_lt_zero _)
    | succ N5 ih5 =>
      intro y101 y103 hm105 b102 b104 hE106
      refine mw_iload dX0_suitedFor_5 4 rfl ?_
      refine mw_bipush dX0_suitedFor_7 kb_7 ?_
      refine mw_icmp_ge (tgt := 48) dX0_suitedFor_9 (by decide) (fun q107 => ?_) (fun q107 => ?_)
      · skip
        have b108 : mm_b (7) (7) y103 := bd_le_r q107 n_7 b104 (by decide)
        refine mw_iload_n dX0_suitedFor_48 rfl 3 rfl ?_
        exact mw_iret rfl dX0_suitedFor_49 rfl rfl ⟨S, _, rfl, rfl, rfl, b102, trivial, (by exact hE106.trans (by rw [F_X0_suitedFor_L5, if_pos q107]))⟩
      · skip
        have b109 : mm_b (0) (6) y103 := bd_lt_l (bd_nle q107) b104 n_7 (by decide)
        refine mw_aload_n dX0_suitedFor_12 rfl 2 rfl ?_
        refine mw_iload dX0_suitedFor_13 4 rfl ?_
        refine tc_Vi (as := [.int y103]) (st := []) dX0_suitedFor_15 rfl shC_15 rfl rfl mX0_34 t_X3_lives rfl (Nat.le_of_ble_eq_true rfl) (by decide) (by decide) (cx_X3_lives_15 (g := g) S hI y103) (fun S110 v112 h111 => ?_)
        obtain ⟨rfl, b113, x114, hx115⟩ := h111
        refine mw_if_eq (tgt := 42) dX0_suitedFor_18 (by decide) (fun q116 => ?_) (fun q116 => ?_)
        · skip
          have b117 : mm_b (0) (0) v112 := bd_eq_l q116 b113 n_0 (by decide)
          refine mw_iinc (ls' := fun v => [(4, .int v), (0, .int x0), (1, .ref a1), (2, .ref 15), (3, .int y101)]) dX0_suitedFor_42 4 rfl (by decide) (fun _ => rfl) (fun v118 ev118 => ?_)
          have b119 : mm_b (1) (7) v118 := bd_inc ev118 b109 (by decide)
          refine mw_goto (tgt := 5) dX0_suitedFor_45 (by decide) ?_
          refine mw_ls [1, 2, 3, 4, 0] rfl ?_
          exact ih5 y101 v118 (ms_inc ev118 b109 (by decide) hm105) b102 (bd_w b119 (by decide)) (by subst ev118; subst hx115; exact hE106.trans (by rw [F_X0_suitedFor_L5, if_neg q107, if_pos q116]))
        · skip
          have b120 : mm_b (1) (1) v112 := bd_ne_l q116 b113 n_0 (by decide)
          have b121 := Or.resolve_left x114 q116
          refine mw_aload_n dX0_suitedFor_21 rfl 1 rfl ?_
          refine mw_iload_n dX0_suitedFor_22 rfl 0 rfl ?_
          refine mw_aload_n dX0_suitedFor_23 rfl 2 rfl ?_
          refine mw_iload dX0_suitedFor_24 4 rfl ?_
          refine tc_Vi (as := [.int y103]) (st := [.int x0, .ref a1]) dX0_suitedFor_26 rfl shC_15 rfl rfl mX0_40 t_X3_voiceOf rfl (Nat.le_of_ble_eq_true rfl) (by decide) (by decide) (cx_X3_voiceOf_15 (g := g) S hI y103) (fun S122 v124 h123 => ?_)
          obtain ⟨rfl, b125, x126, hx127⟩ := h123
          refine tc_Vi (as := [.int x0, .int v124]) (st := []) dX0_suitedFor_29 rfl (shC_parish_0 a1 ha1) rfl rfl mX0_44 t_X6_suits rfl (Nat.le_of_ble_eq_true rfl) (by decide) (by decide) (cx_X6_suits (g := g) S hI a1 ha1 x0 v124) (fun S128 v130 h129 => ?_)
          obtain ⟨rfl, b131, x132, hx133⟩ := h129
          refine mw_if_eq (tgt := 42) dX0_suitedFor_32 (by decide) (fun q134 => ?_) (fun q134 => ?_)
          · skip
            have b135 : mm_b (0) (0) v130 := bd_eq_l q134 b131 n_0 (by decide)
            refine mw_iinc (ls' := fun v => [(4, .int v), (0, .int x0), (1, .ref a1), (2, .ref 15), (3, .int y101)]) dX0_suitedFor_42 4 rfl (by decide) (fun _ => rfl) (fun v136 ev136 => ?_)
            have b137 : mm_b (1) (7) v136 := bd_inc ev136 b121 (by decide)
            refine mw_goto (tgt := 5) dX0_suitedFor_45 (by decide) ?_
            refine mw_ls [1, 2, 3, 4, 0] rfl ?_
            exact ih5 y101 v136 (ms_inc ev136 b121 (by decide) hm105) b102 (bd_w b137 (by decide)) (by subst ev136; subst hx133; subst hx127; subst hx115; exact hE106.trans (by rw [F_X0_suitedFor_L5, if_neg q107, if_neg q116, if_pos q134]))
          · skip
            have b138 : mm_b (1) (1) v130 := bd_ne_l q134 b131 n_0 (by decide)
            have b139 := Or.resolve_left x132 q134
            refine mw_iload_n dX0_suitedFor_35 rfl 3 rfl ?_
            refine mw_iconst dX0_suitedFor_36 ki_1 ?_
            refine mw_iload dX0_suitedFor_37 4 rfl ?_
            refine mw_ishl dX0_suitedFor_39 (fun v140 ev140 => ?_)
            have b141 : mm_b (1) (64) v140 := bd_shl 6 ev140 b121 (by decide)
            refine mw_ior dX0_suitedFor_40 (fun v142 ev142 => ?_)
            have b143 : mm_b (0) (127) v142 := bd_or 7 ev142 b102 b141 (by decide)
            refine mw_istore_n (ls' := [(3, .int v142), (0, .int x0), (1, .ref a1), (2, .ref 15), (4, .int y103)]) dX0_suitedFor_41 rfl (by decide) rfl ?_
            refine mw_iinc (ls' := fun v => [(4, .int v), (3, .int v142), (0, .int x0), (1, .ref a1), (2, .ref 15)]) dX0_suitedFor_42 4 rfl (by decide) (fun _ => rfl) (fun v144 ev144 => ?_)
            have b145 : mm_b (1) (7) v144 := bd_inc ev144 b121 (by decide)
            refine mw_goto (tgt := 5) dX0_suitedFor_45 (by decide) ?_
            refine mw_ls [2, 3, 4, 1, 0] rfl ?_
            exact ih5 v142 v144 (ms_inc ev144 b121 (by decide) hm105) b143 (bd_w b145 (by decide)) (by subst ev144; subst ev142; subst ev140; subst hx133; subst hx127; subst hx115; exact hE106.trans (by rw [F_X0_suitedFor_L5, if_neg q107, if_neg q116, if_neg q134]))
  refine mw_ls [2, 3, 4, 1, 0] rfl ?_
  exact cut5 9 (0 : Int32) (0 : Int32) (by have hz := n_0; omega) (bd_w n_0 (by decide)) (bd_w n_0 (by decide)) (by rw [F_X0_suitedFor])
def F_X0_give_L62  : Nat → mm_S → Int32 → Int32 → mm_S
  | 0, S110, _, _ => S110
  | N + 1, S110, y113, y115 => (if (6 : Int32) ≤ y115 then S110 else (if (F_X0_leastSinger S110 y115 y113) = (-1 : Int32) then ((F_X0_give_L62  N) (mm_up S110 141 (y115).toNatClampNeg (F_X0_leastSinger S110 y115 y113)) y113 (y115 + Int32.ofInt 1)) else ((F_X0_give_L62  N) (mm_up S110 141 (y115).toNatClampNeg (F_X0_leastSinger S110 y115 y113)) (y113 ||| ((1 : Int32) <<< ((F_X0_leastSinger S110 y115 y113) &&& 31))) (y115 + Int32.ofInt 1))))
def F_X0_give_L21 (k2 : mm_S → Int32 → mm_S) : Nat → mm_S → Int32 → Int32 → mm_S
  | 0, S154, _, _ => S154
  | N + 1, S154, y157, y159 => (if (128 : Int32) ≤ y159 then (k2 S154 (y157 + Int32.ofInt (-1))) else ((F_X0_give_L21 k2 N) (mm_up S154 (aaC_143 y157) (y159).toNatClampNeg (F_X0_mostFrom S154 y157 y159)) y157 (y159 + Int32.ofInt 1)))
def F_X0_give_L2 (a1 : Nat) : Nat → mm_S → Int32 → mm_S
  | 0, S101, _ => S101
  | N + 1, S101, y104 => (if y104 < (0 : Int32) then (F_X0_give_L62  8 S101 (0 : Int32) (0 : Int32)) else (F_X0_give_L21 (F_X0_give_L2 a1 N) 130 (mm_up S101 142 (y104).toNatClampNeg (F_X0_suitedFor S101 y104 a1)) y104 (0 : Int32)))
def F_X0_give (S : mm_S) (a1 : Nat) : mm_S := (F_X0_give_L2 a1 7 S (5 : Int32))
set_option maxRecDepth 100000 in
set_option maxHeartbeats 4000000 in
theorem cx_X0_give {g : mm_G} (S : mm_S) (hI : JC S) (a1 : Nat) (ha1 : a1 ∈ LC_parish) : mc g yX0_give cX0_give 5 none (mm_rm 5) [.ref 140, .ref a1, .ref 15] (mm_enc shC S) (qv shC (fun S1 => JC S1 ∧ fr [141, 142, 144, 145, 146, 147, 148, 149, 150] [] true true S S1 ∧ True ∧ F_X0_give S a1 = S1)) := by
  refine mc_of2 (own := RX0) (ini := false) (ls := [(0, .ref 140), (1, .ref a1), (2, .ref 15)]) (by decide) (Nat.le_of_ble_eq_true rfl) rfl (by decide) rfl ?_
  have hF : fr [141, 142, 144, 145, 146, 147, 148, 149, 150] [] true true S S := fr_rf
  refine mw_iconst dX0_give_0 ki_5 ?_
  refine mw_istore_n (ls' := [(3, .int 5), (0, .ref 140), (1, .ref a1), (2, .ref 15)]) dX0_give_1 rfl (by decide) rfl ?_
  have cut2 : ∀ (N2 : Nat) (S101 : mm_S) (y104 : Int32), (y104.toInt - (-1 : Int)).toNat < N2 → JC S101 → fr [141, 142, 144, 145, 146, 147, 148, 149, 150] [] true true S S101 → mm_b (-1) (5) y104 → F_X0_give S a1 = F_X0_give_L2 a1 N2 S101 y104 → mw g RX0 cX0_give 5 none false (mm_rm 5) (qv shC (fun S1 => JC S1 ∧ fr [141, 142, 144, 145, 146, 147, 148, 149, 150] [] true true S S1 ∧ True ∧ F_X0_give S a1 = S1)) 0 0 (mm_enc shC S101) 2 [(0, .ref 140), (1, .ref a1), (2, .ref 15), (3, .int y104)] [] := by
    intro N2
    induction N2 with
    | zero =>
      intro S101 y104 hm106 hI102 hF103 b105 hE107
      exact absurd hm106 (Nat.not_lt_zero _)
    | succ N2 ih2 =>
      intro S101 y104 hm106 hI102 hF103 b105 hE107
      refine mw_iload_n dX0_give_2 rfl 3 rfl ?_
      refine mw_if_lt (tgt := 57) dX0_give_3 (by decide) (fun q108 => ?_) (fun q108 => ?_)
      · skip
        have b109 : mm_b (-1) (-1) y104 := bd_lt_l q108 b105 n_0 (by decide)
        refine mw_iconst dX0_give_57 ki_0 ?_
        refine mw_istore_n (ls' := [(3, .int 0), (0, .ref 140), (1, .ref a1), (2, .ref 15)]) dX0_give_58 rfl (by decide) rfl ?_
        refine mw_iconst dX0_give_59 ki_0 ?_
        refine mw_istore (ls' := [(4, .int 0), (3, .int 0), (0, .ref 140), (1, .ref a1), (2, .ref 15)]) dX0_give_60 (by decide) rfl ?_
        have cut62 : ∀ (N62 : Nat) (S110 : mm_S) (y113 y115 : Int32), ((7 : Int) - y115.toInt).toNat < N62 → JC S110 → fr [141, 142, 144, 145, 146, 147, 148, 149, 150] [] true true S S110 → mm_b (0) (127) y113 → mm_b (0) (6) y115 → F_X0_give S a1 = F_X0_give_L62  N62 S110 y113 y115 → mw g RX0 cX0_give 5 none false (mm_rm 5) (qv shC (fun S1 => JC S1 ∧ fr [141, 142, 144, 145, 146, 147, 148, 149, 150] [] true true S S1 ∧ True ∧ F_X0_give S a1 = S1)) 0 0 (mm_enc shC S110) 62 [(0, .ref 140), (3, .int y113), (4, .int y115)] [] := by
          intro N62
          induction N62 with
          | zero =>
            intro S110 y113 y115 hm117 hI111 hF112 b114 b116 hE118
            exact absurd hm117 (Nat.not_lt_zero _)
          | succ N62 ih62 =>
            intro S110 y113 y115 hm117 hI111 hF112 b114 b116 hE118
            refine mw_iload dX0_give_62 2 rfl ?_
            refine mw_bipush dX0_give_64 kb_6 ?_
            refine mw_icmp_ge (tgt := 112) dX0_give_66 (by decide) (fun q119 => ?_) (fun q119 => ?_)
            · skip
              have b120 : mm_b (6) (6) y115 := bd_le_r q119 n_6 b116 (by decide)
              exact mw_vret rfl dX0_give_112 rfl rfl ⟨S110, rfl, rfl, ⟨hI111, hF112, trivial, (by exact hE118.trans (by rw [F_X0_give_L62, if_pos q119]))⟩⟩
            · skip
              have b121 : mm_b (0) (5) y115 := bd_lt_l (bd_nle q119) b116 n_6 (by decide)
              refine mw_aload_n dX0_give_69 rfl 0 rfl ?_
              refine tw_getr (j := 0) dX0_give_70 shC_140 rfl rfl (by decide) fX0_9 ?_
              refine mw_iload dX0_give_73 2 rfl ?_
              refine mw_aload_n dX0_give_75 rfl 0 rfl ?_
              refine mw_iload dX0_give_76 2 rfl ?_
              refine mw_iload_n dX0_give_78 rfl 1 rfl ?_
              refine tc_Vi (as := [.int y115, .int y113]) (st := [.int y115, .ref 141]) dX0_give_79 rfl shC_140 rfl rfl mX0_31 t_X0_leastSinger rfl (Nat.le_of_ble_eq_true rfl) (by decide) (by decide) (cx_X0_leastSinger (g := g) S110 hI111 y115 y113) (fun S122 v124 h123 => ?_)
              obtain ⟨rfl, b125, x126, hx127⟩ := h123
              refine tw_iast dX0_give_82 shC_141 (bd_in b121 (by decide)) ?_
              have hI128 : JC (mm_up S110 141 y115.toNatClampNeg v124) := JIC_puta hI111 b125 b121 (by decide) (by decide +kernel)
              generalize hS129 : (mm_up S110 141 y115.toNatClampNeg v124) = S129 at hI128 ⊢
              have hF130 := fr_upA hF112 hS129 (by decide)
              refine mw_aload_n dX0_give_83 rfl 0 rfl ?_
              refine tw_getr (j := 0) dX0_give_84 shC_140 rfl rfl (by decide) fX0_9 ?_
              refine mw_iload dX0_give_87 2 rfl ?_
              refine tw_iald dX0_give_89 shC_141 (bd_in b121 (by decide)) (fun v131 ev131 => ?_)
              have cv131 : v124 = v131 := (up_eq hS129).trans ev131.symm
              subst cv131
              refine mw_iconst dX0_give_90 ki_m1 ?_
              refine mw_icmp_eq (tgt := 106) dX0_give_91 (by decide) (fun q132 => ?_) (fun q132 => ?_)
              · skip
                have b133 : mm_b (-1) (-1) v124 := bd_eq_l q132 b125 n_m1 (by decide)
                refine mw_iinc (ls' := fun v => [(4, .int v), (0, .ref 140), (3, .int y113)]) dX0_give_106 2 rfl (by decide) (fun _ => rfl) (fun v134 ev134 => ?_)
                have b135 : mm_b (1) (6) v134 := bd_inc ev134 b121 (by decide)
                refine mw_goto (tgt := 62) dX0_give_109 (by decide) ?_
                refine mw_ls [1, 2, 0] rfl ?_
                exact ih62 S129 y113 v134 (ms_inc ev134 b121 (by decide) hm117) hI128 hF130 b114 (bd_w b135 (by decide)) (by subst ev134; subst hS129; subst hx127; exact hE118.trans (by rw [F_X0_give_L62, if_neg q119, if_pos q132]))
              · skip
                have b136 : mm_b (0) (6) v124 := bd_ne_l q132 b125 n_m1 (by decide)
                refine mw_iload_n dX0_give_94 rfl 1 rfl ?_
                refine mw_iconst dX0_give_95 ki_1 ?_
                refine mw_aload_n dX0_give_96 rfl 0 rfl ?_
                refine tw_getr (j := 0) dX0_give_97 shC_140 rfl rfl (by decide) fX0_9 ?_
                refine mw_iload dX0_give_100 2 rfl ?_
                refine tw_iald dX0_give_102 shC_141 (bd_in b121 (by decide)) (fun v137 ev137 => ?_)
                have cv137 : v124 = v137 := (up_eq hS129).trans ev137.symm
                subst cv137
                refine mw_ishl dX0_give_103 (fun v138 ev138 => ?_)
                have b139 : mm_b (1) (64) v138 := bd_shl 6 ev138 b136 (by decide)
                refine mw_ior dX0_give_104 (fun v140 ev140 => ?_)
                have b141 : mm_b (0) (127) v140 := bd_or 7 ev140 b114 b139 (by decide)
                refine mw_istore_n (ls' := [(3, .int v140), (0, .ref 140), (4, .int y115)]) dX0_give_105 rfl (by decide) rfl ?_
                refine mw_iinc (ls' := fun v => [(4, .int v), (3, .int v140), (0, .ref 140)]) dX0_give_106 2 rfl (by decide) (fun _ => rfl) (fun v142 ev142 => ?_)
                have b143 : mm_b (1) (6) v142 := bd_inc ev142 b121 (by decide)
                refine mw_goto (tgt := 62) dX0_give_109 (by decide) ?_
                refine mw_ls [2, 1, 0] rfl ?_
                exact ih62 S129 v140 v142 (ms_inc ev142 b121 (by decide) hm117) hI128 hF130 b141 (bd_w b143 (by decide)) (by subst ev142; subst ev140; subst ev138; subst hS129; subst hx127; exact hE118.trans (by rw [F_X0_give_L62, if_neg q119, if_neg q132]))
        refine mw_ls [2, 1, 0] rfl ?_
        exact cut62 8 S101 (0 : Int32) (0 : Int32) (by have hz := n_0; omega) hI102 hF103 (bd_w n_0 (by decide)) (bd_w n_0 (by decide)) (by exact hE107.trans (by rw [F_X0_give_L2, if_pos q108]))
      · skip
        have b144 : mm_b (0) (5) y104 := bd_le_r (bd_nlt q108) n_0 b105 (by decide)
        refine mw_aload_n dX0_give_6 rfl 0 rfl ?_
        refine tw_getr (j := 1) dX0_give_7 shC_140 rfl rfl (by decide) fX0_15 ?_
        refine mw_iload_n dX0_give_10 rfl 3 rfl ?_
        refine mw_iload_n dX0_give_11 rfl 3 rfl ?_
        refine mw_aload_n dX0_give_12 rfl 1 rfl ?_
        refine mw_aload_n dX0_give_13 rfl 2 rfl ?_
        refine tc_Si (as := [.int y104, .ref a1, .ref 15]) (st := [.int y104, .ref 142]) dX0_give_14 rfl mX0_23 t_X0_suitedFor rfl (Nat.le_of_ble_eq_true rfl) (by decide) (by decide) (cx_X0_suitedFor (g := g) S101 hI102 y104 a1 ha1) (fun S145 v147 h146 => ?_)
        obtain ⟨rfl, b148, x149, hx150⟩ := h146
        refine tw_iast dX0_give_17 shC_142 (bd_in b144 (by decide)) ?_
        have hI151 : JC (mm_up S101 142 y104.toNatClampNeg v147) := JIC_puta hI102 b148 b144 (by decide) (by decide +kernel)
        generalize hS152 : (mm_up S101 142 y104.toNatClampNeg v147) = S152 at hI151 ⊢
        have hF153 := fr_upA hF103 hS152 (by decide)
        refine mw_iconst dX0_give_18 ki_0 ?_
        refine mw_istore (ls' := [(4, .int 0), (0, .ref 140), (1, .ref a1), (2, .ref 15), (3, .int y104)]) dX0_give_19 (by decide) rfl ?_
        have cut21 : ∀ (N21 : Nat) (S154 : mm_S) (y157 y159 : Int32), ((129 : Int) - y159.toInt).toNat < N21 → (y157.toInt - (-1 : Int)).toNat < N2 + 1 → JC S154 → fr [141, 142, 144, 145, 146, 147, 148, 149, 150] [] true true S S154 → mm_b (0) (5) y157 → mm_b (0) (128) y159 → F_X0_give S a1 = F_X0_give_L21 (F_X0_give_L2 a1 N2) N21 S154 y157 y159 → mw g RX0 cX0_give 5 none false (mm_rm 5) (qv shC (fun S1 => JC S1 ∧ fr [141, 142, 144, 145, 146, 147, 148, 149, 150] [] true true S S1 ∧ True ∧ F_X0_give S a1 = S1)) 0 0 (mm_enc shC S154) 21 [(0, .ref 140), (1, .ref a1), (2, .ref 15), (3, .int y157), (4, .int y159)] [] := by
          intro N21
          induction N21 with
          | zero =>
            intro S154 y157 y159 hm161 hm162 hI155 hF156 b158 b160 hE163
            exact absurd hm161 (Nat.not_lt_zero _)
          | succ N21 ih21 =>
            intro S154 y157 y159 hm161 hm162 hI155 hF156 b158 b160 hE163
            refine mw_iload dX0_give_21 4 rfl ?_
            refine mw_sipush dX0_give_23 ks_128 ?_
            refine mw_icmp_ge (tgt := 51) dX0_give_26 (by decide) (fun q164 => ?_) (fun q164 => ?_)
            · skip
              have b165 : mm_b (128) (128) y159 := bd_le_r q164 n_128 b160 (by decide)
              refine mw_iinc (ls' := fun v => [(3, .int v), (0, .ref 140), (1, .ref a1), (2, .ref 15), (4, .int y159)]) dX0_give_51 3 rfl (by decide) (fun _ => rfl) (fun v166 ev166 => ?_)
              have b167 : mm_b (-1) (4) v166 := bd_inc ev166 b158 (by decide)
              refine mw_goto (tgt := 2) dX0_give_54 (by decide) ?_
              refine mw_ls [1, 2, 3, 0] rfl ?_
              exact ih2 S154 v166 (ms_dec ev166 b158 (by decide) hm162) hI155 hF156 (bd_w b167 (by decide)) (by subst ev166; exact hE163.trans (by rw [F_X0_give_L21, if_pos q164]))
            · skip
              have b168 : mm_b (0) (127) y159 := bd_lt_l (bd_nle q164) b160 n_128 (by decide)
              refine mw_aload_n dX0_give_29 rfl 0 rfl ?_
              refine tw_getr (j := 2) dX0_give_30 shC_140 rfl rfl (by decide) fX0_20 ?_
              refine mw_iload_n dX0_give_33 rfl 3 rfl ?_
              obtain ⟨a169, ea169, ha170⟩ := AAC_143 b158 (by decide)
              refine tw_aald dX0_give_34 shC_143 rfl rfl (bd_in b158 (by decide)) ea169 (LC_row_lt ha170) ?_
              have e2a169 := aaC_143_get ea169
              refine mw_iload dX0_give_35 4 rfl ?_
              refine mw_aload_n dX0_give_37 rfl 0 rfl ?_
              refine mw_iload_n dX0_give_38 rfl 3 rfl ?_
              refine mw_iload dX0_give_39 4 rfl ?_
              refine tc_Vi (as := [.int y157, .int y159]) (st := [.int y159, .ref a169]) dX0_give_41 rfl shC_140 rfl rfl mX0_27 t_X0_mostFrom rfl (Nat.le_of_ble_eq_true rfl) (by decide) (by decide) (cx_X0_mostFrom (g := g) S154 hI155 y157 y159) (fun S171 v173 h172 => ?_)
              obtain ⟨rfl, b174, x175, hx176⟩ := h172
              refine tw_iast dX0_give_44 (shC_row_0 a169 ha170) (bd_in b168 (by decide)) ?_
              have hI177 : JC (mm_up S154 a169 y159.toNatClampNeg v173) := JIC_puta hI155 b174 b168 (by decide) (ckZ ha170 (by decide +kernel))
              generalize hS178 : (mm_up S154 a169 y159.toNatClampNeg v173) = S178 at hI177 ⊢
              have hF179 := fr_upA hF156 hS178 (memZ ha170 (by decide))
              refine mw_iinc (ls' := fun v => [(4, .int v), (0, .ref 140), (1, .ref a1), (2, .ref 15), (3, .int y157)]) dX0_give_45 4 rfl (by decide) (fun _ => rfl) (fun v180 ev180 => ?_)
              have b181 : mm_b (1) (128) v180 := bd_inc ev180 b168 (by decide)
              refine mw_goto (tgt := 21) dX0_give_48 (by decide) ?_
              refine mw_ls [1, 2, 3, 4, 0] rfl ?_
              exact ih21 S178 y157 v180 (ms_inc ev180 b168 (by decide) hm161) hm162 hI177 hF179 b158 (bd_w b181 (by decide)) (by subst ev180; subst hS178; subst hx176; subst e2a169; exact hE163.trans (by rw [F_X0_give_L21, if_neg q164]))
        refine mw_ls [1, 2, 3, 4, 0] rfl ?_
        exact cut21 130 S152 y104 (0 : Int32) (by have hz := n_0; omega) hm106 hI151 hF153 b144 (bd_w n_0 (by decide)) (by subst hS152; subst hx150; exact hE107.trans (by rw [F_X0_give_L2, if_neg q108]))
  refine mw_ls [1, 2, 3, 0] rfl ?_
  exact cut2 7 S (5 : Int32) (by have hz := n_5; omega) hI hF (bd_w n_5 (by decide)) (by rw [F_X0_give])
def F_X9_sing_tc34 (S105 : mm_S) : Int32 × mm_S := ((F_X0_sung S105), S105)
def F_X9_sing_ftc34 (S133 : mm_S) (x1 : Int32) : Int32 × mm_S := ((F_X0_singerOf S133 x1), S133)
def F_X9_sing (S : mm_S) (x1 : Int32) : Int32 × mm_S := (if x1 = (-1 : Int32) then (F_X9_sing_tc34 (F_X0_give S (S.2.2 0 1))) else (if (F_X6_hasPart S (S.2.2 0 1) x1) = (0 : Int32) then ((-1000000001 : Int32), S) else (F_X9_sing_ftc34 (F_X0_give S (S.2.2 0 1)) x1)))
set_option maxRecDepth 100000 in
set_option maxHeartbeats 4000000 in
theorem cx_X9_sing {g : mm_G} (S : mm_S) (hI : JC S) (x1 : Int32) : mc g yX9_sing cX9_sing 2 (some .int) (mm_rm 6) [.ref 0, .int x1] (mm_enc shC S) (qi shC (fun S1 v => JC S1 ∧ fr [141, 142, 144, 145, 146, 147, 148, 149, 150] [] true true S S1 ∧ mm_b (-2147483648) (2147483647) v ∧ (True) ∧ F_X9_sing S x1 = (v, S1))) := by
  refine mc_of2 (own := RX9) (ini := false) (ls := [(0, .ref 0), (1, .int x1)]) (by decide) (Nat.le_of_ble_eq_true rfl) rfl (by decide) rfl ?_
  have hF : fr [141, 142, 144, 145, 146, 147, 148, 149, 150] [] true true S S := fr_rf
  refine mw_iload_n dX9_sing_0 rfl 1 rfl ?_
  refine mw_iconst dX9_sing_1 ki_m1 ?_
  refine mw_icmp_eq (tgt := 19) dX9_sing_2 (by decide) (fun q101 => ?_) (fun q101 => ?_)
  · skip
    have b102 : mm_b (-1) (-1) x1 := bd_eq_l q101 (bd_all x1) n_m1 (by decide)
    refine mw_aload_n dX9_sing_19 rfl 0 rfl ?_
    refine tw_getr (j := 12) dX9_sing_20 shC_0 rfl rfl (by decide) fX9_81 ?_
    refine mw_aload_n dX9_sing_23 rfl 0 rfl ?_
    refine tw_getm (j := 1) dX9_sing_24 shC_0 rfl rfl (by decide) fX9_19 (fun a103 ea103 => ?_)
    have ha104 : a103 ∈ LC_parish := by rw [ea103]; exact JRC_1 hI
    refine mw_aload_n dX9_sing_27 rfl 0 rfl ?_
    refine tw_getr (j := 3) dX9_sing_28 shC_0 rfl rfl (by decide) fX9_29 ?_
    refine tc_Vv (as := [.ref a103, .ref 15]) (st := []) dX9_sing_31 rfl shC_140 rfl rfl mX9_243 t_X0_give rfl (Nat.le_of_ble_eq_true rfl) (by decide) (by decide) (cx_X0_give (g := g) S hI a103 ha104) (fun S105 h106 => ?_)
    obtain ⟨hI109, hf110, x107, hx108⟩ := h106
    have hF111 := fr_tr hF hf110 (by decide) (by decide) (by decide) (by decide)
    have hE112 : F_X9_sing S x1 = F_X9_sing_tc34 S105 := (by subst ea103; rw [F_X9_sing, if_pos q101, hx108])
    refine mw_iload_n dX9_sing_34 rfl 1 rfl ?_
    refine mw_iconst dX9_sing_35 ki_m1 ?_
    refine mw_icmp_ne (tgt := 49) dX9_sing_36 (by decide) (fun q113 => ?_) (fun q113 => ?_)
    · skip
      exact bd_fne q113 b102 n_m1
    · skip
      refine mw_aload_n dX9_sing_39 rfl 0 rfl ?_
      refine tw_getr (j := 12) dX9_sing_40 shC_0 rfl rfl (by decide) fX9_81 ?_
      refine tc_Vi (as := []) (st := []) dX9_sing_43 rfl shC_140 rfl rfl mX9_247 t_X0_sung rfl (Nat.le_of_ble_eq_true rfl) (by decide) (by decide) (cx_X0_sung (g := g) S105 hI109) (fun S114 v116 h115 => ?_)
      obtain ⟨rfl, b117, x118, hx119⟩ := h115
      refine mw_goto (tgt := 57) dX9_sing_46 (by decide) ?_
      exact mw_iret rfl dX9_sing_57 rfl rfl ⟨S105, _, rfl, rfl, hI109, hF111, b117, trivial, (by subst hx119; exact hE112.trans (by rw [F_X9_sing_tc34]))⟩
  · skip
    refine mw_aload_n dX9_sing_5 rfl 0 rfl ?_
    refine tw_getm (j := 1) dX9_sing_6 shC_0 rfl rfl (by decide) fX9_19 (fun a120 ea120 => ?_)
    have ha121 : a120 ∈ LC_parish := by rw [ea120]; exact JRC_1 hI
    refine mw_iload_n dX9_sing_9 rfl 1 rfl ?_
    refine tc_Vi (as := [.int x1]) (st := []) dX9_sing_10 rfl (shC_parish_0 a120 ha121) rfl rfl mX9_240 t_X6_hasPart rfl (Nat.le_of_ble_eq_true rfl) (by decide) (by decide) (cx_X6_hasPart (g := g) S hI a120 ha121 x1) (fun S122 v124 h123 => ?_)
    obtain ⟨rfl, b125, x126, hx127⟩ := h123
    refine mw_if_ne (tgt := 19) dX9_sing_13 (by decide) (fun q128 => ?_) (fun q128 => ?_)
    · skip
      have b129 : mm_b (1) (1) v124 := bd_ne_l q128 b125 n_0 (by decide)
      have b130 := Or.resolve_left x126 q128
      refine mw_aload_n dX9_sing_19 rfl 0 rfl ?_
      refine tw_getr (j := 12) dX9_sing_20 shC_0 rfl rfl (by decide) fX9_81 ?_
      refine mw_aload_n dX9_sing_23 rfl 0 rfl ?_
      refine tw_getm (j := 1) dX9_sing_24 shC_0 rfl rfl (by decide) fX9_19 (fun a131 ea131 => ?_)
      have ha132 : a131 ∈ LC_parish := by rw [ea131]; exact JRC_1 hI
      refine mw_aload_n dX9_sing_27 rfl 0 rfl ?_
      refine tw_getr (j := 3) dX9_sing_28 shC_0 rfl rfl (by decide) fX9_29 ?_
      refine tc_Vv (as := [.ref a131, .ref 15]) (st := []) dX9_sing_31 rfl shC_140 rfl rfl mX9_243 t_X0_give rfl (Nat.le_of_ble_eq_true rfl) (by decide) (by decide) (cx_X0_give (g := g) S hI a131 ha132) (fun S133 h134 => ?_)
      obtain ⟨hI137, hf138, x135, hx136⟩ := h134
      have hF139 := fr_tr hF hf138 (by decide) (by decide) (by decide) (by decide)
      have hE140 : F_X9_sing S x1 = F_X9_sing_ftc34 S133 x1 := (by subst ea131; subst hx127; subst ea120; rw [F_X9_sing, if_neg q101, if_neg q128, hx136])
      refine mw_iload_n dX9_sing_34 rfl 1 rfl ?_
      refine mw_iconst dX9_sing_35 ki_m1 ?_
      refine mw_icmp_ne (tgt := 49) dX9_sing_36 (by decide) (fun q141 => ?_) (fun q141 => ?_)
      · skip
        refine mw_aload_n dX9_sing_49 rfl 0 rfl ?_
        refine tw_getr (j := 12) dX9_sing_50 shC_0 rfl rfl (by decide) fX9_81 ?_
        refine mw_iload_n dX9_sing_53 rfl 1 rfl ?_
        refine tc_Vi (as := [.int x1]) (st := []) dX9_sing_54 rfl shC_140 rfl rfl mX9_250 t_X0_singerOf rfl (Nat.le_of_ble_eq_true rfl) (by decide) (by decide) (cx_X0_singerOf (g := g) S133 hI137 x1) (fun S142 v144 h143 => ?_)
        obtain ⟨rfl, b145, x146, hx147⟩ := h143
        exact mw_iret rfl dX9_sing_57 rfl rfl ⟨S133, _, rfl, rfl, hI137, hF139, b145, trivial, (by subst hx147; exact hE140.trans (by rw [F_X9_sing_ftc34]))⟩
      · skip
        exact bd_feq q141 b130 n_m1 (by decide)
    · skip
      have b148 : mm_b (0) (0) v124 := bd_eq_l q128 b125 n_0 (by decide)
      refine mw_ldc dX9_sing_16 kX9_150 ?_
      exact mw_iret rfl dX9_sing_18 rfl rfl ⟨S, _, rfl, rfl, hI, hF, bd_w n_m1000000001 (by decide), trivial, (by subst hx127; subst ea120; rw [F_X9_sing, if_neg q101, if_pos q128])⟩
