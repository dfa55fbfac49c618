def F_X10_blank1_L2  : Nat → mm_S → Int32 → mm_S
  | 0, S101, _ => S101
  | N + 1, S101, y104 => (if (37 : Int32) ≤ y104 then S101 else (if (F_X10_in S101 (y104).toInt64 (3 : Int64) (23 : Int64)) = (0 : Int32) then ((F_X10_blank1_L2  N) (mm_up S101 1 (y104).toNatClampNeg (0 : Int32)) (y104 + Int32.ofInt 1)) else ((F_X10_blank1_L2  N) (mm_up S101 1 (y104).toNatClampNeg (9 : Int32)) (y104 + Int32.ofInt 1))))
def F_X10_blank1 (S : mm_S)  : mm_S := (F_X10_blank1_L2  61 S (0 : Int32))
set_option maxRecDepth 100000 in
set_option maxHeartbeats 4000000 in
theorem cx_X10_blank1 {g : mm_G} (S : mm_S) (hI : JM S)  : mc g yX10_blank cX10_blank 2 none (mm_rm 1) [.ref 1] (mm_enc shM S) (qv shM (fun S1 => JM S1 ∧ fr [1] [] true true S S1 ∧ True ∧ F_X10_blank1 S = S1)) := by
  refine mc_of2 (own := RX10) (ini := false) (ls := [(0, .ref 1)]) (by decide) (Nat.le_of_ble_eq_true rfl) rfl (by decide) rfl ?_
  have hF : fr [1] [] true true S S := fr_rf
  refine mw_iconst dX10_blank_0 ki_0 ?_
  refine mw_istore_n (ls' := [(1, .int 0), (0, .ref 1)]) dX10_blank_1 rfl (by decide) rfl ?_
  have cut2 : ∀ (N2 : Nat) (S101 : mm_S) (y104 : Int32), ((60 : Int) - y104.toInt).toNat < N2 → JM S101 → fr [1] [] true true S S101 → mm_b (0) (59) y104 → F_X10_blank1 S = F_X10_blank1_L2  N2 S101 y104 → mw g RX10 cX10_blank 2 none false (mm_rm 1) (qv shM (fun S1 => JM S1 ∧ fr [1] [] true true S S1 ∧ True ∧ F_X10_blank1 S = S1)) 0 0 (mm_enc shM S101) 2 [(0, .ref 1), (1, .int y104)] [] := by
    intro N2
    induction N2 with
    | zero =>
      intro S101 y104 hm106 hI102 hF103 b105 hE107
      exact absurd hm106 (Nat.not_lt_zero _)
    | succ N2 ih2 =>
      intro S101 y104 hm106 hI102 hF103 b105 hE107
      refine mw_iload_n dX10_blank_2 rfl 1 rfl ?_
      refine mw_bipush dX10_blank_3 kb_37 ?_
      refine mw_icmp_ge (tgt := 37) dX10_blank_5 (by decide) (fun q108 => ?_) (fun q108 => ?_)
      · skip
        have b109 : mm_b (37) (59) y104 := bd_le_r q108 n_37 b105 (by decide)
        exact mw_vret rfl dX10_blank_37 rfl rfl ⟨S101, rfl, rfl, ⟨hI102, hF103, trivial, (by exact hE107.trans (by rw [F_X10_blank1_L2, if_pos q108]))⟩⟩
      · skip
        have b110 : mm_b (0) (36) y104 := bd_lt_l (bd_nle q108) b105 n_37 (by decide)
        refine mw_aload_n dX10_blank_8 rfl 0 rfl ?_
        refine mw_iload_n dX10_blank_9 rfl 1 rfl ?_
        refine mw_iload_n dX10_blank_10 rfl 1 rfl ?_
        refine mw_i2l dX10_blank_11 (fun w111 ew111 => ?_)
        have b112 : mm_bl (0) (36) w111 := bl_i2l ew111 b110
        refine mw_ldc2 dX10_blank_12 kX10_58 ?_
        refine mw_ldc2 dX10_blank_15 kX10_60 ?_
        refine tc_Si (as := [.long w111, .long 3, .long 23]) (st := [.int y104, .ref 1]) dX10_blank_18 rfl mX10_62 t_X10_in rfl (Nat.le_of_ble_eq_true rfl) (by decide) (by decide) (cx_X10_in (g := g) S101 hI102 w111 (3 : Int64) (23 : Int64)) (fun S113 v115 h114 => ?_)
        obtain ⟨rfl, b116, x117, hx118⟩ := h114
        have x119 := in_use (lo := 3) (hi := 23) x117 ew111 L_3 L_23 (by decide)
        refine mw_if_eq (tgt := 29) dX10_blank_21 (by decide) (fun q120 => ?_) (fun q120 => ?_)
        · skip
          have b121 : mm_b (0) (0) v115 := bd_eq_l q120 b116 n_0 (by decide)
          refine mw_iconst dX10_blank_29 ki_0 ?_
          refine tw_iast dX10_blank_30 shM_1 (bd_in b110 (by decide)) ?_
          have hI122 : JM (mm_up S101 1 y104.toNatClampNeg 0) := JIM_puta hI102 n_0 b110 (by decide) (by decide +kernel)
          generalize hS123 : (mm_up S101 1 y104.toNatClampNeg 0) = S123 at hI122 ⊢
          have hF124 := fr_upA hF103 hS123 (by decide)
          refine mw_iinc (ls' := fun v => [(1, .int v), (0, .ref 1)]) dX10_blank_31 1 rfl (by decide) (fun _ => rfl) (fun v125 ev125 => ?_)
          have b126 : mm_b (1) (37) v125 := bd_inc ev125 b110 (by decide)
          refine mw_goto (tgt := 2) dX10_blank_34 (by decide) ?_
          refine mw_ls [1, 0] rfl ?_
          exact ih2 S123 v125 (ms_inc ev125 b110 (by decide) hm106) hI122 hF124 (bd_w b126 (by decide)) (by subst ev125; subst hS123; subst hx118; subst ew111; exact hE107.trans (by rw [F_X10_blank1_L2, if_neg q108, if_pos q120]))
        · skip
          have b127 : mm_b (1) (1) v115 := bd_ne_l q120 b116 n_0 (by decide)
          have b128 := Or.resolve_left x119 q120
          refine mw_bipush dX10_blank_24 kb_9 ?_
          refine mw_goto (tgt := 30) dX10_blank_26 (by decide) ?_
          refine tw_iast dX10_blank_30 shM_1 (bd_in b128 (by decide)) ?_
          have hI129 : JM (mm_up S101 1 y104.toNatClampNeg 9) := JIM_puta hI102 n_9 b128 (by decide) (by decide +kernel)
          generalize hS130 : (mm_up S101 1 y104.toNatClampNeg 9) = S130 at hI129 ⊢
          have hF131 := fr_upA hF103 hS130 (by decide)
          refine mw_iinc (ls' := fun v => [(1, .int v), (0, .ref 1)]) dX10_blank_31 1 rfl (by decide) (fun _ => rfl) (fun v132 ev132 => ?_)
          have b133 : mm_b (4) (24) v132 := bd_inc ev132 b128 (by decide)
          refine mw_goto (tgt := 2) dX10_blank_34 (by decide) ?_
          refine mw_ls [1, 0] rfl ?_
          exact ih2 S130 v132 (ms_inc ev132 b128 (by decide) hm106) hI129 hF131 (bd_w b133 (by decide)) (by subst ev132; subst hS130; subst hx118; subst ew111; exact hE107.trans (by rw [F_X10_blank1_L2, if_neg q108, if_neg q120]))
  refine mw_ls [1, 0] rfl ?_
  exact cut2 61 S (0 : Int32) (by have hz := n_0; omega) hI hF (bd_w n_0 (by decide)) (by rw [F_X10_blank1])
def F_X10_blank2_L2  : Nat → mm_S → Int32 → mm_S
  | 0, S101, _ => S101
  | N + 1, S101, y104 => (if (37 : Int32) ≤ y104 then S101 else (if (F_X10_in S101 (y104).toInt64 (3 : Int64) (23 : Int64)) = (0 : Int32) then ((F_X10_blank2_L2  N) (mm_up S101 2 (y104).toNatClampNeg (0 : Int32)) (y104 + Int32.ofInt 1)) else ((F_X10_blank2_L2  N) (mm_up S101 2 (y104).toNatClampNeg (9 : Int32)) (y104 + Int32.ofInt 1))))
def F_X10_blank2 (S : mm_S)  : mm_S := (F_X10_blank2_L2  61 S (0 : Int32))
set_option maxRecDepth 100000 in
set_option maxHeartbeats 4000000 in
theorem cx_X10_blank2 {g : mm_G} (S : mm_S) (hI : JM S)  : mc g yX10_blank cX10_blank 2 none (mm_rm 1) [.ref 2] (mm_enc shM S) (qv shM (fun S1 => JM S1 ∧ fr [2] [] true true S S1 ∧ True ∧ F_X10_blank2 S = S1)) := by
  refine mc_of2 (own := RX10) (ini := false) (ls := [(0, .ref 2)]) (by decide) (Nat.le_of_ble_eq_true rfl) rfl (by decide) rfl ?_
  have hF : fr [2] [] true true S S := fr_rf
  refine mw_iconst dX10_blank_0 ki_0 ?_
  refine mw_istore_n (ls' := [(1, .int 0), (0, .ref 2)]) dX10_blank_1 rfl (by decide) rfl ?_
  have cut2 : ∀ (N2 : Nat) (S101 : mm_S) (y104 : Int32), ((60 : Int) - y104.toInt).toNat < N2 → JM S101 → fr [2] [] true true S S101 → mm_b (0) (59) y104 → F_X10_blank2 S = F_X10_blank2_L2  N2 S101 y104 → mw g RX10 cX10_blank 2 none false (mm_rm 1) (qv shM (fun S1 => JM S1 ∧ fr [2] [] true true S S1 ∧ True ∧ F_X10_blank2 S = S1)) 0 0 (mm_enc shM S101) 2 [(0, .ref 2), (1, .int y104)] [] := by
    intro N2
    induction N2 with
    | zero =>
      intro S101 y104 hm106 hI102 hF103 b105 hE107
      exact absurd hm106 (Nat.not_lt_zero _)
    | succ N2 ih2 =>
      intro S101 y104 hm106 hI102 hF103 b105 hE107
      refine mw_iload_n dX10_blank_2 rfl 1 rfl ?_
      refine mw_bipush dX10_blank_3 kb_37 ?_
      refine mw_icmp_ge (tgt := 37) dX10_blank_5 (by decide) (fun q108 => ?_) (fun q108 => ?_)
      · skip
        have b109 : mm_b (37) (59) y104 := bd_le_r q108 n_37 b105 (by decide)
        exact mw_vret rfl dX10_blank_37 rfl rfl ⟨S101, rfl, rfl, ⟨hI102, hF103, trivial, (by exact hE107.trans (by rw [F_X10_blank2_L2, if_pos q108]))⟩⟩
      · skip
        have b110 : mm_b (0) (36) y104 := bd_lt_l (bd_nle q108) b105 n_37 (by decide)
        refine mw_aload_n dX10_blank_8 rfl 0 rfl ?_
        refine mw_iload_n dX10_blank_9 rfl 1 rfl ?_
        refine mw_iload_n dX10_blank_10 rfl 1 rfl ?_
        refine mw_i2l dX10_blank_11 (fun w111 ew111 => ?_)
        have b112 : mm_bl (0) (36) w111 := bl_i2l ew111 b110
        refine mw_ldc2 dX10_blank_12 kX10_58 ?_
        refine mw_ldc2 dX10_blank_15 kX10_60 ?_
        refine tc_Si (as := [.long w111, .long 3, .long 23]) (st := [.int y104, .ref 2]) dX10_blank_18 rfl mX10_62 t_X10_in rfl (Nat.le_of_ble_eq_true rfl) (by decide) (by decide) (cx_X10_in (g := g) S101 hI102 w111 (3 : Int64) (23 : Int64)) (fun S113 v115 h114 => ?_)
        obtain ⟨rfl, b116, x117, hx118⟩ := h114
        have x119 := in_use (lo := 3) (hi := 23) x117 ew111 L_3 L_23 (by decide)
        refine mw_if_eq (tgt := 29) dX10_blank_21 (by decide) (fun q120 => ?_) (fun q120 => ?_)
        · skip
          have b121 : mm_b (0) (0) v115 := bd_eq_l q120 b116 n_0 (by decide)
          refine mw_iconst dX10_blank_29 ki_0 ?_
          refine tw_iast dX10_blank_30 shM_2 (bd_in b110 (by decide)) ?_
          have hI122 : JM (mm_up S101 2 y104.toNatClampNeg 0) := JIM_puta hI102 n_0 b110 (by decide) (by decide +kernel)
          generalize hS123 : (mm_up S101 2 y104.toNatClampNeg 0) = S123 at hI122 ⊢
          have hF124 := fr_upA hF103 hS123 (by decide)
          refine mw_iinc (ls' := fun v => [(1, .int v), (0, .ref 2)]) dX10_blank_31 1 rfl (by decide) (fun _ => rfl) (fun v125 ev125 => ?_)
          have b126 : mm_b (1) (37) v125 := bd_inc ev125 b110 (by decide)
          refine mw_goto (tgt := 2) dX10_blank_34 (by decide) ?_
          refine mw_ls [1, 0] rfl ?_
          exact ih2 S123 v125 (ms_inc ev125 b110 (by decide) hm106) hI122 hF124 (bd_w b126 (by decide)) (by subst ev125; subst hS123; subst hx118; subst ew111; exact hE107.trans (by rw [F_X10_blank2_L2, if_neg q108, if_pos q120]))
        · skip
          have b127 : mm_b (1) (1) v115 := bd_ne_l q120 b116 n_0 (by decide)
          have b128 := Or.resolve_left x119 q120
          refine mw_bipush dX10_blank_24 kb_9 ?_
          refine mw_goto (tgt := 30) dX10_blank_26 (by decide) ?_
          refine tw_iast dX10_blank_30 shM_2 (bd_in b128 (by decide)) ?_
          have hI129 : JM (mm_up S101 2 y104.toNatClampNeg 9) := JIM_puta hI102 n_9 b128 (by decide) (by decide +kernel)
          generalize hS130 : (mm_up S101 2 y104.toNatClampNeg 9) = S130 at hI129 ⊢
          have hF131 := fr_upA hF103 hS130 (by decide)
          refine mw_iinc (ls' := fun v => [(1, .int v), (0, .ref 2)]) dX10_blank_31 1 rfl (by decide) (fun _ => rfl) (fun v132 ev132 => ?_)
          have b133 : mm_b (4) (24) v132 := bd_inc ev132 b128 (by decide)
          refine mw_goto (tgt := 2) dX10_blank_34 (by decide) ?_
          refine mw_ls [1, 0] rfl ?_
          exact ih2 S130 v132 (ms_inc ev132 b128 (by decide) hm106) hI129 hF131 (bd_w b133 (by decide)) (by subst ev132; subst hS130; subst hx118; subst ew111; exact hE107.trans (by rw [F_X10_blank2_L2, if_neg q108, if_neg q120]))
  refine mw_ls [1, 0] rfl ?_
  exact cut2 61 S (0 : Int32) (by have hz := n_0; omega) hI hF (bd_w n_0 (by decide)) (by rw [F_X10_blank2])
def F_X10_fails (S : mm_S) (x1 : Int32) : Int32 × mm_S := ((0 : Int32), (mm_up S 0 23 x1))
set_option maxRecDepth 100000 in
set_option maxHeartbeats 4000000 in
theorem cx_X10_fails {g : mm_G} (S : mm_S) (hI : JM S) (x1 : Int32) : mc g yX10_fails cX10_fails 2 (some .boolean) (mm_rm 0) [.ref 0, .int x1] (mm_enc shM S) (qi shM (fun S1 v => JM S1 ∧ fr [] [23] true true S S1 ∧ mm_b (0) (0) v ∧ (True) ∧ F_X10_fails S x1 = (v, S1))) := by
  refine mc_of2 (own := RX10) (ini := false) (ls := [(0, .ref 0), (1, .int x1)]) (by decide) (Nat.le_of_ble_eq_true rfl) rfl (by decide) rfl ?_
  have hF : fr [] [23] true true S S := fr_rf
  refine mw_aload_n dX10_fails_0 rfl 0 rfl ?_
  refine mw_iload_n dX10_fails_1 rfl 1 rfl ?_
  refine tw_puti (j := 23) dX10_fails_2 shM_0 rfl rfl (by decide) fX10_112 rfl (by decide +kernel) ?_
  have hI101 : JM (mm_up S 0 23 x1) := JIM_put hI (bd_all x1) (by decide +kernel)
  generalize hS102 : (mm_up S 0 23 x1) = S102 at hI101 ⊢
  have hF103 := fr_upF hF hS102 (by decide)
  refine mw_iconst dX10_fails_5 ki_0 ?_
  exact mw_zret rfl (bd_nar n_0 (by decide)) dX10_fails_6 rfl rfl ⟨S102, _, rfl, rfl, hI101, hF103, n_0, trivial, (by subst hS102; rw [F_X10_fails])⟩
def F_X10_isPerson (S : mm_S) (x1 : Int32) : Int32 := (F_X10_in S (x1).toInt64 (0 : Int64) (((S.1 1 0) - (1 : Int32))).toInt64)
set_option maxRecDepth 100000 in
set_option maxHeartbeats 4000000 in
theorem cx_X10_isPerson {g : mm_G} (S : mm_S) (hI : JM S) (x1 : Int32) : mc g yX10_isPerson cX10_isPerson 2 (some .boolean) (mm_rm 1) [.ref 0, .int x1] (mm_enc shM S) (qi shM (fun S1 v => S = S1 ∧ mm_b (0) (1) v ∧ (v = 0 ∨ (mm_b (0) (6) x1)) ∧ F_X10_isPerson S x1 = v)) := by
  refine mc_of2 (own := RX10) (ini := false) (ls := [(0, .ref 0), (1, .int x1)]) (by decide) (Nat.le_of_ble_eq_true rfl) rfl (by decide) rfl ?_
  refine mw_iload_n dX10_isPerson_0 rfl 1 rfl ?_
  refine mw_i2l dX10_isPerson_1 (fun w101 ew101 => ?_)
  have b102 : mm_bl (-2147483648) (2147483647) w101 := bl_i2l ew101 (bd_all x1)
  refine mw_lconst (v := 0) dX10_isPerson_2 (by decide) ?_
  refine mw_aload_n dX10_isPerson_3 rfl 0 rfl ?_
  refine tw_getr (j := 0) dX10_isPerson_4 shM_0 rfl rfl (by decide) fX10_7 ?_
  refine mw_iconst dX10_isPerson_7 ki_0 ?_
  refine tw_iald dX10_isPerson_8 shM_1 (bd_in n_0 (by decide)) (fun v103 ev103 => ?_)
  rw [cl_0] at ev103
  have b104 : mm_b (0) (7) v103 := JIM_fld hI ev103 tbM_16 (by decide)
  refine mw_iconst dX10_isPerson_9 ki_1 ?_
  refine mw_isub dX10_isPerson_10 (fun v105 ev105 => ?_)
  have b106 : mm_b (-1) (6) v105 := bd_sub ev105 b104 n_1 (by decide)
  refine mw_i2l dX10_isPerson_11 (fun w107 ew107 => ?_)
  have b108 : mm_bl (-1) (6) w107 := bl_i2l ew107 b106
  refine tc_Si (as := [.long w101, .long 0, .long w107]) (st := []) dX10_isPerson_12 rfl mX10_62 t_X10_in rfl (Nat.le_of_ble_eq_true rfl) (by decide) (by decide) (cx_X10_in (g := g) S hI w101 (0 : Int64) w107) (fun S109 v111 h110 => ?_)
  obtain ⟨rfl, b112, x113, hx114⟩ := h110
  have x115 := in_use (lo := 0) (hi := 6) x113 ew101 L_0 b108 (by decide)
  have xx := x115
  exact mw_zret rfl (bd_nar b112 (by decide)) dX10_isPerson_15 rfl rfl ⟨S, _, rfl, rfl, rfl, b112, Or.elim xx Or.inl (fun u116 => Or.inr (bd_w u116 (by decide))), (by subst hx114; subst ew107; subst ev105; subst ev103; subst ew101; rw [F_X10_isPerson])⟩
def F_X10_isVoice (S : mm_S) (x0 : Int32) : Int32 := (F_X10_in S (x0).toInt64 (0 : Int64) (6 : Int64))
set_option maxRecDepth 100000 in
set_option maxHeartbeats 4000000 in
theorem cx_X10_isVoice {g : mm_G} (S : mm_S) (hI : JM S) (x0 : Int32) : mc g yX10_isVoice cX10_isVoice 1 (some .boolean) (mm_rm 1) [.int x0] (mm_enc shM S) (qi shM (fun S1 v => S = S1 ∧ mm_b (0) (1) v ∧ (v = 0 ∨ (mm_b (0) (6) x0)) ∧ F_X10_isVoice S x0 = v)) := by
  refine mc_of2 (own := RX10) (ini := false) (ls := [(0, .int x0)]) (by decide) (Nat.le_of_ble_eq_true rfl) rfl (by decide) rfl ?_
  refine mw_iload_n dX10_isVoice_0 rfl 0 rfl ?_
  refine mw_i2l dX10_isVoice_1 (fun w101 ew101 => ?_)
  have b102 : mm_bl (-2147483648) (2147483647) w101 := bl_i2l ew101 (bd_all x0)
  refine mw_lconst (v := 0) dX10_isVoice_2 (by decide) ?_
  refine mw_ldc2 dX10_isVoice_3 kX10_153 ?_
  refine tc_Si (as := [.long w101, .long 0, .long 6]) (st := []) dX10_isVoice_6 rfl mX10_62 t_X10_in rfl (Nat.le_of_ble_eq_true rfl) (by decide) (by decide) (cx_X10_in (g := g) S hI w101 (0 : Int64) (6 : Int64)) (fun S103 v105 h104 => ?_)
  obtain ⟨rfl, b106, x107, hx108⟩ := h104
  have x109 := in_use (lo := 0) (hi := 6) x107 ew101 L_0 L_6 (by decide)
  have xx := x109
  exact mw_zret rfl (bd_nar b106 (by decide)) dX10_isVoice_9 rfl rfl ⟨S, _, rfl, rfl, rfl, b106, Or.elim xx Or.inl (fun u110 => Or.inr (bd_w u110 (by decide))), (by subst hx108; subst ew101; rw [F_X10_isVoice])⟩
def F_X10_feed (S : mm_S) (x1 : Int32) : Int32 × mm_S := (if (F_X10_in S (x1).toInt64 (0 : Int64) (255 : Int64)) = (0 : Int32) then ((-1000000002 : Int32), S) else (if (S.1 0 10) = (240 : Int32) then ((-1000000004 : Int32), S) else (((S.1 0 10) + (1 : Int32)), (mm_up (mm_up S 8 ((S.1 0 10)).toNatClampNeg x1) 0 10 ((S.1 0 10) + (1 : Int32))))))
set_option maxRecDepth 100000 in
set_option maxHeartbeats 4000000 in
theorem cx_X10_feed {g : mm_G} (S : mm_S) (hI : JM S) (x1 : Int32) : mc g yX10_feed cX10_feed 2 (some .int) (mm_rm 1) [.ref 0, .int x1] (mm_enc shM S) (qi shM (fun S1 v => JM S1 ∧ fr [8] [10] true true S S1 ∧ mm_b (-1000000004) (240) v ∧ (True) ∧ F_X10_feed S x1 = (v, S1))) := by
  refine mc_of2 (own := RX10) (ini := false) (ls := [(0, .ref 0), (1, .int x1)]) (by decide) (Nat.le_of_ble_eq_true rfl) rfl (by decide) rfl ?_
  have hF : fr [8] [10] true true S S := fr_rf
  refine mw_iload_n dX10_feed_0 rfl 1 rfl ?_
  refine mw_i2l dX10_feed_1 (fun w101 ew101 => ?_)
  have b102 : mm_bl (-2147483648) (2147483647) w101 := bl_i2l ew101 (bd_all x1)
  refine mw_lconst (v := 0) dX10_feed_2 (by decide) ?_
  refine mw_ldc2 dX10_feed_3 kX10_82 ?_
  refine tc_Si (as := [.long w101, .long 0, .long 255]) (st := []) dX10_feed_6 rfl mX10_62 t_X10_in rfl (Nat.le_of_ble_eq_true rfl) (by decide) (by decide) (cx_X10_in (g := g) S hI w101 (0 : Int64) (255 : Int64)) (fun S103 v105 h104 => ?_)
  obtain ⟨rfl, b106, x107, hx108⟩ := h104
  have x109 := in_use (lo := 0) (hi := 255) x107 ew101 L_0 L_255 (by decide)
  refine mw_if_ne (tgt := 15) dX10_feed_9 (by decide) (fun q110 => ?_) (fun q110 => ?_)
  · skip
    have b111 : mm_b (1) (1) v105 := bd_ne_l q110 b106 n_0 (by decide)
    have b112 := Or.resolve_left x109 q110
    refine mw_aload_n dX10_feed_15 rfl 0 rfl ?_
    refine tw_geti (j := 10) dX10_feed_16 shM_0 rfl rfl (by decide) fX10_85 (fun v113 ev113 => ?_)
    have b114 : mm_b (0) (240) v113 := JIM_fld hI ev113 tbM_2 (by decide)
    refine mw_sipush dX10_feed_19 ks_240 ?_
    refine mw_icmp_ne (tgt := 28) dX10_feed_22 (by decide) (fun q115 => ?_) (fun q115 => ?_)
    · skip
      have b116 : mm_b (0) (239) v113 := bd_ne_l q115 b114 n_240 (by decide)
      refine mw_aload_n dX10_feed_28 rfl 0 rfl ?_
      refine tw_getr (j := 9) dX10_feed_29 shM_0 rfl rfl (by decide) fX10_32 ?_
      refine mw_aload_n dX10_feed_32 rfl 0 rfl ?_
      refine tw_geti (j := 10) dX10_feed_33 shM_0 rfl rfl (by decide) fX10_85 (fun v117 ev117 => ?_)
      have cv117 : v113 = v117 := ev113.trans ev117.symm
      subst cv117
      refine mw_iload_n dX10_feed_36 rfl 1 rfl ?_
      refine tw_iast dX10_feed_37 shM_8 (bd_in b116 (by decide)) ?_
      have hI118 : JM (mm_up S 8 v113.toNatClampNeg x1) := JIM_puta hI b112 b116 (by decide) (by decide +kernel)
      generalize hS119 : (mm_up S 8 v113.toNatClampNeg x1) = S119 at hI118 ⊢
      have hF120 := fr_upA hF hS119 (by decide)
      refine mw_aload_n dX10_feed_38 rfl 0 rfl ?_
      refine mw_dup dX10_feed_39 rfl ?_
      refine tw_geti (j := 10) dX10_feed_40 shM_0 rfl rfl (by decide) fX10_85 (fun v121 ev121 => ?_)
      have cv121 : v113 = v121 := (ev113.trans (up_neA hS119 (by decide))).trans ev121.symm
      subst cv121
      refine mw_iconst dX10_feed_43 ki_1 ?_
      refine mw_iadd dX10_feed_44 (fun v122 ev122 => ?_)
      have b123 : mm_b (1) (240) v122 := bd_add ev122 b116 n_1 (by decide)
      refine tw_puti (j := 10) dX10_feed_45 shM_0 rfl rfl (by decide) fX10_85 rfl (by decide +kernel) ?_
      have hI124 : JM (mm_up S119 0 10 v122) := JIM_put hI118 b123 (by decide +kernel)
      generalize hS125 : (mm_up S119 0 10 v122) = S125 at hI124 ⊢
      have hF126 := fr_upF hF120 hS125 (by decide)
      refine mw_aload_n dX10_feed_48 rfl 0 rfl ?_
      refine tw_geti (j := 10) dX10_feed_49 shM_0 rfl rfl (by decide) fX10_85 (fun v127 ev127 => ?_)
      have cv127 : v122 = v127 := (up_eq hS125).trans ev127.symm
      subst cv127
      exact mw_iret rfl dX10_feed_52 rfl rfl ⟨S125, _, rfl, rfl, hI124, hF126, bd_w b123 (by decide), trivial, (by subst hS125; subst ev122; subst hS119; subst ev113; subst hx108; subst ew101; rw [F_X10_feed, if_neg q110, if_neg q115])⟩
    · skip
      have b128 : mm_b (240) (240) v113 := bd_eq_l q115 b114 n_240 (by decide)
      refine mw_ldc dX10_feed_25 kX10_88 ?_
      exact mw_iret rfl dX10_feed_27 rfl rfl ⟨S, _, rfl, rfl, hI, hF, bd_w n_m1000000004 (by decide), trivial, (by subst ev113; subst hx108; subst ew101; rw [F_X10_feed, if_neg q110, if_pos q115])⟩
  · skip
    have b129 : mm_b (0) (0) v105 := bd_eq_l q110 b106 n_0 (by decide)
    refine mw_ldc dX10_feed_12 kX10_84 ?_
    exact mw_iret rfl dX10_feed_14 rfl rfl ⟨S, _, rfl, rfl, hI, hF, bd_w n_m1000000002 (by decide), trivial, (by subst hx108; subst ew101; rw [F_X10_feed, if_pos q110])⟩
def F_X10_isUse (S : mm_S) (x0 : Int32) : Int32 := (if (F_X10_isVoice S x0) = (0 : Int32) then (if x0 = (9 : Int32) then (1 : Int32) else (0 : Int32)) else (1 : Int32))
set_option maxRecDepth 100000 in
set_option maxHeartbeats 4000000 in
theorem cx_X10_isUse {g : mm_G} (S : mm_S) (hI : JM S) (x0 : Int32) : mc g yX10_isUse cX10_isUse 1 (some .boolean) (mm_rm 2) [.int x0] (mm_enc shM S) (qi shM (fun S1 v => S = S1 ∧ mm_b (0) (1) v ∧ (v = 0 ∨ (mm_b (0) (9) x0)) ∧ F_X10_isUse S x0 = v)) := by
  refine mc_of2 (own := RX10) (ini := false) (ls := [(0, .int x0)]) (by decide) (Nat.le_of_ble_eq_true rfl) rfl (by decide) rfl ?_
  refine mw_iload_n dX10_isUse_0 rfl 0 rfl ?_
  refine tc_Si (as := [.int x0]) (st := []) dX10_isUse_1 rfl mX10_205 t_X10_isVoice rfl (Nat.le_of_ble_eq_true rfl) (by decide) (by decide) (cx_X10_isVoice (g := g) S hI x0) (fun S101 v103 h102 => ?_)
  obtain ⟨rfl, b104, x105, hx106⟩ := h102
  refine mw_if_ne (tgt := 13) dX10_isUse_4 (by decide) (fun q107 => ?_) (fun q107 => ?_)
  · skip
    have b108 : mm_b (1) (1) v103 := bd_ne_l q107 b104 n_0 (by decide)
    have b109 := Or.resolve_left x105 q107
    refine mw_iconst dX10_isUse_13 ki_1 ?_
    refine mw_goto (tgt := 18) dX10_isUse_14 (by decide) ?_
    exact mw_zret rfl (bd_nar n_1 (by decide)) dX10_isUse_18 rfl rfl ⟨S, _, rfl, rfl, rfl, bd_w n_1 (by decide), Or.inr (bd_w b109 (by decide)), (by subst hx106; rw [F_X10_isUse, if_neg q107])⟩
  · skip
    have b110 : mm_b (0) (0) v103 := bd_eq_l q107 b104 n_0 (by decide)
    refine mw_iload_n dX10_isUse_7 rfl 0 rfl ?_
    refine mw_bipush dX10_isUse_8 kb_9 ?_
    refine mw_icmp_ne (tgt := 17) dX10_isUse_10 (by decide) (fun q111 => ?_) (fun q111 => ?_)
    · skip
      refine mw_iconst dX10_isUse_17 ki_0 ?_
      exact mw_zret rfl (bd_nar n_0 (by decide)) dX10_isUse_18 rfl rfl ⟨S, _, rfl, rfl, rfl, bd_w n_0 (by decide), Or.inl rfl, (by subst hx106; rw [F_X10_isUse, if_pos q107, if_neg q111])⟩
    · skip
      have b112 : mm_b (9) (9) x0 := bd_eq_l q111 (bd_all x0) n_9 (by decide)
      refine mw_iconst dX10_isUse_13 ki_1 ?_
      refine mw_goto (tgt := 18) dX10_isUse_14 (by decide) ?_
      exact mw_zret rfl (bd_nar n_1 (by decide)) dX10_isUse_18 rfl rfl ⟨S, _, rfl, rfl, rfl, bd_w n_1 (by decide), Or.inr (bd_w b112 (by decide)), (by subst hx106; rw [F_X10_isUse, if_pos q107, if_pos q111])⟩
def F_X10_see (S : mm_S) (x1 : Int32) (x2 : Int32) : Int32 × mm_S := (if (F_X10_in S (x1).toInt64 (0 : Int64) (((S.1 1 1) - (1 : Int32))).toInt64) = (0 : Int32) then ((-1000000001 : Int32), S) else (if (S.1 0 13) = (6 : Int32) then ((-1000000004 : Int32), S) else (if x2 = (0 : Int32) then (((S.1 0 13) + (1 : Int32)), (mm_up (mm_up (mm_up S 9 (((2 : Int32) * (S.1 0 13))).toNatClampNeg x1) 9 ((((2 : Int32) * (S.1 0 13)) + (1 : Int32))).toNatClampNeg (0 : Int32)) 0 13 ((S.1 0 13) + (1 : Int32)))) else (((S.1 0 13) + (1 : Int32)), (mm_up (mm_up (mm_up S 9 (((2 : Int32) * (S.1 0 13))).toNatClampNeg x1) 9 ((((2 : Int32) * (S.1 0 13)) + (1 : Int32))).toNatClampNeg (1 : Int32)) 0 13 ((S.1 0 13) + (1 : Int32)))))))
set_option maxRecDepth 100000 in
set_option maxHeartbeats 4000000 in
theorem cx_X10_see {g : mm_G} (S : mm_S) (hI : JM S) (x1 : Int32) (x2 : Int32) (h2 : mm_b (0) (1) x2) : mc g yX10_see cX10_see 3 (some .int) (mm_rm 1) [.ref 0, .int x1, .int x2] (mm_enc shM S) (qi shM (fun S1 v => JM S1 ∧ fr [9] [13] true true S S1 ∧ mm_b (-1000000004) (6) v ∧ (True) ∧ F_X10_see S x1 x2 = (v, S1))) := by
  refine mc_of2 (own := RX10) (ini := false) (ls := [(0, .ref 0), (1, .int x1), (2, .int x2)]) (by decide) (Nat.le_of_ble_eq_true rfl) rfl (by decide) rfl ?_
  have hF : fr [9] [13] true true S S := fr_rf
  refine mw_iload_n dX10_see_0 rfl 1 rfl ?_
  refine mw_i2l dX10_see_1 (fun w101 ew101 => ?_)
  have b102 : mm_bl (-2147483648) (2147483647) w101 := bl_i2l ew101 (bd_all x1)
  refine mw_lconst (v := 0) dX10_see_2 (by decide) ?_
  refine mw_aload_n dX10_see_3 rfl 0 rfl ?_
  refine tw_getr (j := 0) dX10_see_4 shM_0 rfl rfl (by decide) fX10_7 ?_
  refine mw_iconst dX10_see_7 ki_1 ?_
  refine tw_iald dX10_see_8 shM_1 (bd_in n_1 (by decide)) (fun v103 ev103 => ?_)
  rw [cl_1] at ev103
  have b104 : mm_b (0) (6) v103 := JIM_fld hI ev103 tbM_17 (by decide)
  refine mw_iconst dX10_see_9 ki_1 ?_
  refine mw_isub dX10_see_10 (fun v105 ev105 => ?_)
  have b106 : mm_b (-1) (5) v105 := bd_sub ev105 b104 n_1 (by decide)
  refine mw_i2l dX10_see_11 (fun w107 ew107 => ?_)
  have b108 : mm_bl (-1) (5) w107 := bl_i2l ew107 b106
  refine tc_Si (as := [.long w101, .long 0, .long w107]) (st := []) dX10_see_12 rfl mX10_62 t_X10_in rfl (Nat.le_of_ble_eq_true rfl) (by decide) (by decide) (cx_X10_in (g := g) S hI w101 (0 : Int64) w107) (fun S109 v111 h110 => ?_)
  obtain ⟨rfl, b112, x113, hx114⟩ := h110
  have x115 := in_use (lo := 0) (hi := 5) x113 ew101 L_0 b108 (by decide)
  refine mw_if_ne (tgt := 21) dX10_see_15 (by decide) (fun q116 => ?_) (fun q116 => ?_)
  · skip
    have b117 : mm_b (1) (1) v111 := bd_ne_l q116 b112 n_0 (by decide)
    have b118 := Or.resolve_left x115 q116
    refine mw_aload_n dX10_see_21 rfl 0 rfl ?_
    refine tw_geti (j := 13) dX10_see_22 shM_0 rfl rfl (by decide) fX10_73 (fun v119 ev119 => ?_)
    have b120 : mm_b (0) (6) v119 := JIM_fld hI ev119 tbM_3 (by decide)
    refine mw_bipush dX10_see_25 kb_6 ?_
    refine mw_icmp_ne (tgt := 33) dX10_see_27 (by decide) (fun q121 => ?_) (fun q121 => ?_)
    · skip
      have b122 : mm_b (0) (5) v119 := bd_ne_l q121 b120 n_6 (by decide)
      refine mw_aload_n dX10_see_33 rfl 0 rfl ?_
      refine tw_getr (j := 12) dX10_see_34 shM_0 rfl rfl (by decide) fX10_39 ?_
      refine mw_iconst dX10_see_37 ki_2 ?_
      refine mw_aload_n dX10_see_38 rfl 0 rfl ?_
      refine tw_geti (j := 13) dX10_see_39 shM_0 rfl rfl (by decide) fX10_73 (fun v123 ev123 => ?_)
      have cv123 : v119 = v123 := ev119.trans ev123.symm
      subst cv123
      refine mw_imul dX10_see_42 (fun v124 ev124 => ?_)
      have b125 : mm_b (0) (10) v124 := bd_mul ev124 n_2 b122 (by decide)
      refine mw_iload_n dX10_see_43 rfl 1 rfl ?_
      refine tw_iast dX10_see_44 shM_9 (bd_in b125 (by decide)) ?_
      have hI126 : JM (mm_up S 9 v124.toNatClampNeg x1) := JIM_puta hI b118 b125 (by decide) (by decide +kernel)
      generalize hS127 : (mm_up S 9 v124.toNatClampNeg x1) = S127 at hI126 ⊢
      have hF128 := fr_upA hF hS127 (by decide)
      refine mw_aload_n dX10_see_45 rfl 0 rfl ?_
      refine tw_getr (j := 12) dX10_see_46 shM_0 rfl rfl (by decide) fX10_39 ?_
      refine mw_iconst dX10_see_49 ki_2 ?_
      refine mw_aload_n dX10_see_50 rfl 0 rfl ?_
      refine tw_geti (j := 13) dX10_see_51 shM_0 rfl rfl (by decide) fX10_73 (fun v129 ev129 => ?_)
      have cv129 : v119 = v129 := (ev119.trans (up_neA hS127 (by decide))).trans ev129.symm
      subst cv129
      refine mw_imul dX10_see_54 (fun v130 ev130 => ?_)
      have cv130 : v124 = v130 := ev124.trans ev130.symm
      subst cv130
      refine mw_iconst dX10_see_55 ki_1 ?_
      refine mw_iadd dX10_see_56 (fun v131 ev131 => ?_)
      have b132 : mm_b (1) (11) v131 := bd_add ev131 b125 n_1 (by decide)
      refine mw_iload_n dX10_see_57 rfl 2 rfl ?_
      refine mw_if_eq (tgt := 65) dX10_see_58 (by decide) (fun q133 => ?_) (fun q133 => ?_)
      · skip
        have b134 : mm_b (0) (0) x2 := bd_eq_l q133 h2 n_0 (by decide)
        refine mw_iconst dX10_see_65 ki_0 ?_
        refine tw_iast dX10_see_66 shM_9 (bd_in b132 (by decide)) ?_
        have hI135 : JM (mm_up S127 9 v131.toNatClampNeg 0) := JIM_puta hI126 n_0 b132 (by decide) (by decide +kernel)
        generalize hS136 : (mm_up S127 9 v131.toNatClampNeg 0) = S136 at hI135 ⊢
        have hF137 := fr_upA hF128 hS136 (by decide)
        refine mw_aload_n dX10_see_67 rfl 0 rfl ?_
        refine mw_dup dX10_see_68 rfl ?_
        refine tw_geti (j := 13) dX10_see_69 shM_0 rfl rfl (by decide) fX10_73 (fun v138 ev138 => ?_)
        have cv138 : v119 = v138 := ((ev119.trans (up_neA hS127 (by decide))).trans (up_neA hS136 (by decide))).trans ev138.symm
        subst cv138
        refine mw_iconst dX10_see_72 ki_1 ?_
        refine mw_iadd dX10_see_73 (fun v139 ev139 => ?_)
        have b140 : mm_b (1) (6) v139 := bd_add ev139 b122 n_1 (by decide)
        refine tw_puti (j := 13) dX10_see_74 shM_0 rfl rfl (by decide) fX10_73 rfl (by decide +kernel) ?_
        have hI141 : JM (mm_up S136 0 13 v139) := JIM_put hI135 b140 (by decide +kernel)
        generalize hS142 : (mm_up S136 0 13 v139) = S142 at hI141 ⊢
        have hF143 := fr_upF hF137 hS142 (by decide)
        refine mw_aload_n dX10_see_77 rfl 0 rfl ?_
        refine tw_geti (j := 13) dX10_see_78 shM_0 rfl rfl (by decide) fX10_73 (fun v144 ev144 => ?_)
        have cv144 : v139 = v144 := (up_eq hS142).trans ev144.symm
        subst cv144
        exact mw_iret rfl dX10_see_81 rfl rfl ⟨S142, _, rfl, rfl, hI141, hF143, bd_w b140 (by decide), trivial, (by subst hS142; subst ev139; subst hS136; subst ev131; subst hS127; subst ev124; subst ev119; subst hx114; subst ew107; subst ev105; subst ev103; subst ew101; rw [F_X10_see, if_neg q116, if_neg q121, if_pos q133])⟩
      · skip
        have b145 : mm_b (1) (1) x2 := bd_ne_l q133 h2 n_0 (by decide)
        refine mw_iconst dX10_see_61 ki_1 ?_
        refine mw_goto (tgt := 66) dX10_see_62 (by decide) ?_
        refine tw_iast dX10_see_66 shM_9 (bd_in b132 (by decide)) ?_
        have hI146 : JM (mm_up S127 9 v131.toNatClampNeg 1) := JIM_puta hI126 n_1 b132 (by decide) (by decide +kernel)
        generalize hS147 : (mm_up S127 9 v131.toNatClampNeg 1) = S147 at hI146 ⊢
        have hF148 := fr_upA hF128 hS147 (by decide)
        refine mw_aload_n dX10_see_67 rfl 0 rfl ?_
        refine mw_dup dX10_see_68 rfl ?_
        refine tw_geti (j := 13) dX10_see_69 shM_0 rfl rfl (by decide) fX10_73 (fun v149 ev149 => ?_)
        have cv149 : v119 = v149 := ((ev119.trans (up_neA hS127 (by decide))).trans (up_neA hS147 (by decide))).trans ev149.symm
        subst cv149
        refine mw_iconst dX10_see_72 ki_1 ?_
        refine mw_iadd dX10_see_73 (fun v150 ev150 => ?_)
        have b151 : mm_b (1) (6) v150 := bd_add ev150 b122 n_1 (by decide)
        refine tw_puti (j := 13) dX10_see_74 shM_0 rfl rfl (by decide) fX10_73 rfl (by decide +kernel) ?_
        have hI152 : JM (mm_up S147 0 13 v150) := JIM_put hI146 b151 (by decide +kernel)
        generalize hS153 : (mm_up S147 0 13 v150) = S153 at hI152 ⊢
        have hF154 := fr_upF hF148 hS153 (by decide)
        refine mw_aload_n dX10_see_77 rfl 0 rfl ?_
        refine tw_geti (j := 13) dX10_see_78 shM_0 rfl rfl (by decide) fX10_73 (fun v155 ev155 => ?_)
        have cv155 : v150 = v155 := (up_eq hS153).trans ev155.symm
        subst cv155
        exact mw_iret rfl dX10_see_81 rfl rfl ⟨S153, _, rfl, rfl, hI152, hF154, bd_w b151 (by decide), trivial, (by subst hS153; subst ev150; subst hS147; subst ev131; subst hS127; subst ev124; subst ev119; subst hx114; subst ew107; subst ev105; subst ev103; subst ew101; rw [F_X10_see, if_neg q116, if_neg q121, if_neg q133])⟩
    · skip
      have b156 : mm_b (6) (6) v119 := bd_eq_l q121 b120 n_6 (by decide)
      refine mw_ldc dX10_see_30 kX10_88 ?_
      exact mw_iret rfl dX10_see_32 rfl rfl ⟨S, _, rfl, rfl, hI, hF, bd_w n_m1000000004 (by decide), trivial, (by subst ev119; subst hx114; subst ew107; subst ev105; subst ev103; subst ew101; rw [F_X10_see, if_neg q116, if_pos q121])⟩
  · skip
    have b157 : mm_b (0) (0) v111 := bd_eq_l q116 b112 n_0 (by decide)
    refine mw_ldc dX10_see_18 kX10_182 ?_
    exact mw_iret rfl dX10_see_20 rfl rfl ⟨S, _, rfl, rfl, hI, hF, bd_w n_m1000000001 (by decide), trivial, (by subst hx114; subst ew107; subst ev105; subst ev103; subst ew101; rw [F_X10_see, if_pos q116])⟩
def F_X10_has (S : mm_S) (x1 : Int32) (x2 : Int32) : Int32 × mm_S := (if (F_X10_isPerson S x1) = (0 : Int32) then ((-1000000001 : Int32), S) else (if (F_X10_isUse S x2) = (0 : Int32) then ((-1000000001 : Int32), S) else (if (S.1 0 15) = (6 : Int32) then ((-1000000004 : Int32), S) else (((S.1 0 15) + (1 : Int32)), (mm_up (mm_up (mm_up S 10 (((2 : Int32) * (S.1 0 15))).toNatClampNeg x1) 10 ((((2 : Int32) * (S.1 0 15)) + (1 : Int32))).toNatClampNeg x2) 0 15 ((S.1 0 15) + (1 : Int32)))))))
set_option maxRecDepth 100000 in
set_option maxHeartbeats 4000000 in
theorem cx_X10_has {g : mm_G} (S : mm_S) (hI : JM S) (x1 : Int32) (x2 : Int32) : mc g yX10_has cX10_has 3 (some .int) (mm_rm 3) [.ref 0, .int x1, .int x2] (mm_enc shM S) (qi shM (fun S1 v => JM S1 ∧ fr [10] [15] true true S S1 ∧ mm_b (-1000000004) (6) v ∧ (True) ∧ F_X10_has S x1 x2 = (v, S1))) := by
  refine mc_of2 (own := RX10) (ini := false) (ls := [(0, .ref 0), (1, .int x1), (2, .int x2)]) (by decide) (Nat.le_of_ble_eq_true rfl) rfl (by decide) rfl ?_
  have hF : fr [10] [15] true true S S := fr_rf
  refine mw_aload_n dX10_has_0 rfl 0 rfl ?_
  refine mw_iload_n dX10_has_1 rfl 1 rfl ?_
  refine tc_Vi (as := [.int x1]) (st := []) dX10_has_2 rfl shM_0 rfl rfl mX10_179 t_X10_isPerson rfl (Nat.le_of_ble_eq_true rfl) (by decide) (by decide) (cx_X10_isPerson (g := g) S hI x1) (fun S101 v103 h102 => ?_)
  obtain ⟨rfl, b104, x105, hx106⟩ := h102
  refine mw_if_eq (tgt := 15) dX10_has_5 (by decide) (fun q107 => ?_) (fun q107 => ?_)
  · skip
    have b108 : mm_b (0) (0) v103 := bd_eq_l q107 b104 n_0 (by decide)
    refine mw_ldc dX10_has_15 kX10_182 ?_
    exact mw_iret rfl dX10_has_17 rfl rfl ⟨S, _, rfl, rfl, hI, hF, bd_w n_m1000000001 (by decide), trivial, (by subst hx106; rw [F_X10_has, if_pos q107])⟩
  · skip
    have b109 : mm_b (1) (1) v103 := bd_ne_l q107 b104 n_0 (by decide)
    have b110 := Or.resolve_left x105 q107
    refine mw_iload_n dX10_has_8 rfl 2 rfl ?_
    refine tc_Si (as := [.int x2]) (st := []) dX10_has_9 rfl mX10_274 t_X10_isUse rfl (Nat.le_of_ble_eq_true rfl) (by decide) (by decide) (cx_X10_isUse (g := g) S hI x2) (fun S111 v113 h112 => ?_)
    obtain ⟨rfl, b114, x115, hx116⟩ := h112
    refine mw_if_ne (tgt := 18) dX10_has_12 (by decide) (fun q117 => ?_) (fun q117 => ?_)
    · skip
      have b118 : mm_b (1) (1) v113 := bd_ne_l q117 b114 n_0 (by decide)
      have b119 := Or.resolve_left x115 q117
      refine mw_aload_n dX10_has_18 rfl 0 rfl ?_
      refine tw_geti (j := 15) dX10_has_19 shM_0 rfl rfl (by decide) fX10_76 (fun v120 ev120 => ?_)
      have b121 : mm_b (0) (6) v120 := JIM_fld hI ev120 tbM_4 (by decide)
      refine mw_bipush dX10_has_22 kb_6 ?_
      refine mw_icmp_ne (tgt := 30) dX10_has_24 (by decide) (fun q122 => ?_) (fun q122 => ?_)
      · skip
        have b123 : mm_b (0) (5) v120 := bd_ne_l q122 b121 n_6 (by decide)
        refine mw_aload_n dX10_has_30 rfl 0 rfl ?_
        refine tw_getr (j := 14) dX10_has_31 shM_0 rfl rfl (by decide) fX10_42 ?_
        refine mw_iconst dX10_has_34 ki_2 ?_
        refine mw_aload_n dX10_has_35 rfl 0 rfl ?_
        refine tw_geti (j := 15) dX10_has_36 shM_0 rfl rfl (by decide) fX10_76 (fun v124 ev124 => ?_)
        have cv124 : v120 = v124 := ev120.trans ev124.symm
        subst cv124
        refine mw_imul dX10_has_39 (fun v125 ev125 => ?_)
        have b126 : mm_b (0) (10) v125 := bd_mul ev125 n_2 b123 (by decide)
        refine mw_iload_n dX10_has_40 rfl 1 rfl ?_
        refine tw_iast dX10_has_41 shM_10 (bd_in b126 (by decide)) ?_
        have hI127 : JM (mm_up S 10 v125.toNatClampNeg x1) := JIM_puta hI b110 b126 (by decide) (by decide +kernel)
        generalize hS128 : (mm_up S 10 v125.toNatClampNeg x1) = S128 at hI127 ⊢
        have hF129 := fr_upA hF hS128 (by decide)
        refine mw_aload_n dX10_has_42 rfl 0 rfl ?_
        refine tw_getr (j := 14) dX10_has_43 shM_0 rfl rfl (by decide) fX10_42 ?_
        refine mw_iconst dX10_has_46 ki_2 ?_
        refine mw_aload_n dX10_has_47 rfl 0 rfl ?_
        refine tw_geti (j := 15) dX10_has_48 shM_0 rfl rfl (by decide) fX10_76 (fun v130 ev130 => ?_)
        have cv130 : v120 = v130 := (ev120.trans (up_neA hS128 (by decide))).trans ev130.symm
        subst cv130
        refine mw_imul dX10_has_51 (fun v131 ev131 => ?_)
        have cv131 : v125 = v131 := ev125.trans ev131.symm
        subst cv131
        refine mw_iconst dX10_has_52 ki_1 ?_
        refine mw_iadd dX10_has_53 (fun v132 ev132 => ?_)
        have b133 : mm_b (1) (11) v132 := bd_add ev132 b126 n_1 (by decide)
        refine mw_iload_n dX10_has_54 rfl 2 rfl ?_
        refine tw_iast dX10_has_55 shM_10 (bd_in b133 (by decide)) ?_
        have hI134 : JM (mm_up S128 10 v132.toNatClampNeg x2) := JIM_puta hI127 b119 b133 (by decide) (by decide +kernel)
        generalize hS135 : (mm_up S128 10 v132.toNatClampNeg x2) = S135 at hI134 ⊢
        have hF136 := fr_upA hF129 hS135 (by decide)
        refine mw_aload_n dX10_has_56 rfl 0 rfl ?_
        refine mw_dup dX10_has_57 rfl ?_
        refine tw_geti (j := 15) dX10_has_58 shM_0 rfl rfl (by decide) fX10_76 (fun v137 ev137 => ?_)
        have cv137 : v120 = v137 := ((ev120.trans (up_neA hS128 (by decide))).trans (up_neA hS135 (by decide))).trans ev137.symm
        subst cv137
        refine mw_iconst dX10_has_61 ki_1 ?_
        refine mw_iadd dX10_has_62 (fun v138 ev138 => ?_)
        have b139 : mm_b (1) (6) v138 := bd_add ev138 b123 n_1 (by decide)
        refine tw_puti (j := 15) dX10_has_63 shM_0 rfl rfl (by decide) fX10_76 rfl (by decide +kernel) ?_
        have hI140 : JM (mm_up S135 0 15 v138) := JIM_put hI134 b139 (by decide +kernel)
        generalize hS141 : (mm_up S135 0 15 v138) = S141 at hI140 ⊢
        have hF142 := fr_upF hF136 hS141 (by decide)
        refine mw_aload_n dX10_has_66 rfl 0 rfl ?_
        refine tw_geti (j := 15) dX10_has_67 shM_0 rfl rfl (by decide) fX10_76 (fun v143 ev143 => ?_)
        have cv143 : v138 = v143 := (up_eq hS141).trans ev143.symm
        subst cv143
        exact mw_iret rfl dX10_has_70 rfl rfl ⟨S141, _, rfl, rfl, hI140, hF142, bd_w b139 (by decide), trivial, (by subst hS141; subst ev138; subst hS135; subst ev132; subst hS128; subst ev125; subst ev120; subst hx116; subst hx106; rw [F_X10_has, if_neg q107, if_neg q117, if_neg q122])⟩
      · skip
        have b144 : mm_b (6) (6) v120 := bd_eq_l q122 b121 n_6 (by decide)
        refine mw_ldc dX10_has_27 kX10_88 ?_
        exact mw_iret rfl dX10_has_29 rfl rfl ⟨S, _, rfl, rfl, hI, hF, bd_w n_m1000000004 (by decide), trivial, (by subst ev120; subst hx116; subst hx106; rw [F_X10_has, if_neg q107, if_neg q117, if_pos q122])⟩
    · skip
      have b145 : mm_b (0) (0) v113 := bd_eq_l q117 b114 n_0 (by decide)
      refine mw_ldc dX10_has_15 kX10_182 ?_
      exact mw_iret rfl dX10_has_17 rfl rfl ⟨S, _, rfl, rfl, hI, hF, bd_w n_m1000000001 (by decide), trivial, (by subst hx116; subst hx106; rw [F_X10_has, if_neg q107, if_pos q117])⟩
def F_X10_write (S : mm_S) (x1 : Int32) (x2 : Int32) : Int32 × mm_S := (if (F_X10_isPerson S x1) = (0 : Int32) then ((-1000000001 : Int32), S) else (if (F_X10_isUse S x2) = (0 : Int32) then ((-1000000001 : Int32), S) else (if (S.1 0 17) = (15 : Int32) then ((-1000000004 : Int32), S) else (((S.1 0 17) + (1 : Int32)), (mm_up (mm_up (mm_up S 11 (((2 : Int32) * (S.1 0 17))).toNatClampNeg x1) 11 ((((2 : Int32) * (S.1 0 17)) + (1 : Int32))).toNatClampNeg x2) 0 17 ((S.1 0 17) + (1 : Int32)))))))
set_option maxRecDepth 100000 in
set_option maxHeartbeats 4000000 in
theorem cx_X10_write {g : mm_G} (S : mm_S) (hI : JM S) (x1 : Int32) (x2 : Int32) : mc g yX10_write cX10_write 3 (some .int) (mm_rm 3) [.ref 0, .int x1, .int x2] (mm_enc shM S) (qi shM (fun S1 v => JM S1 ∧ fr [11] [17] true true S S1 ∧ mm_b (-1000000004) (15) v ∧ (True) ∧ F_X10_write S x1 x2 = (v, S1))) := by
  refine mc_of2 (own := RX10) (ini := false) (ls := [(0, .ref 0), (1, .int x1), (2, .int x2)]) (by decide) (Nat.le_of_ble_eq_true rfl) rfl (by decide) rfl ?_
  have hF : fr [11] [17] true true S S := fr_rf
  refine mw_aload_n dX10_write_0 rfl 0 rfl ?_
  refine mw_iload_n dX10_write_1 rfl 1 rfl ?_
  refine tc_Vi (as := [.int x1]) (st := []) dX10_write_2 rfl shM_0 rfl rfl mX10_179 t_X10_isPerson rfl (Nat.le_of_ble_eq_true rfl) (by decide) (by decide) (cx_X10_isPerson (g := g) S hI x1) (fun S101 v103 h102 => ?_)
  obtain ⟨rfl, b104, x105, hx106⟩ := h102
  refine mw_if_eq (tgt := 15) dX10_write_5 (by decide) (fun q107 => ?_) (fun q107 => ?_)
  · skip
    have b108 : mm_b (0) (0) v103 := bd_eq_l q107 b104 n_0 (by decide)
    refine mw_ldc dX10_write_15 kX10_182 ?_
    exact mw_iret rfl dX10_write_17 rfl rfl ⟨S, _, rfl, rfl, hI, hF, bd_w n_m1000000001 (by decide), trivial, (by subst hx106; rw [F_X10_write, if_pos q107])⟩
  · skip
    have b109 : mm_b (1) (1) v103 := bd_ne_l q107 b104 n_0 (by decide)
    have b110 := Or.resolve_left x105 q107
    refine mw_iload_n dX10_write_8 rfl 2 rfl ?_
    refine tc_Si (as := [.int x2]) (st := []) dX10_write_9 rfl mX10_274 t_X10_isUse rfl (Nat.le_of_ble_eq_true rfl) (by decide) (by decide) (cx_X10_isUse (g := g) S hI x2) (fun S111 v113 h112 => ?_)
    obtain ⟨rfl, b114, x115, hx116⟩ := h112
    refine mw_if_ne (tgt := 18) dX10_write_12 (by decide) (fun q117 => ?_) (fun q117 => ?_)
    · skip
      have b118 : mm_b (1) (1) v113 := bd_ne_l q117 b114 n_0 (by decide)
      have b119 := Or.resolve_left x115 q117
      refine mw_aload_n dX10_write_18 rfl 0 rfl ?_
      refine tw_geti (j := 17) dX10_write_19 shM_0 rfl rfl (by decide) fX10_79 (fun v120 ev120 => ?_)
      have b121 : mm_b (0) (15) v120 := JIM_fld hI ev120 tbM_5 (by decide)
      refine mw_bipush dX10_write_22 kb_15 ?_
      refine mw_icmp_ne (tgt := 30) dX10_write_24 (by decide) (fun q122 => ?_) (fun q122 => ?_)
      · skip
        have b123 : mm_b (0) (14) v120 := bd_ne_l q122 b121 n_15 (by decide)
        refine mw_aload_n dX10_write_30 rfl 0 rfl ?_
        refine tw_getr (j := 16) dX10_write_31 shM_0 rfl rfl (by decide) fX10_45 ?_
        refine mw_iconst dX10_write_34 ki_2 ?_
        refine mw_aload_n dX10_write_35 rfl 0 rfl ?_
        refine tw_geti (j := 17) dX10_write_36 shM_0 rfl rfl (by decide) fX10_79 (fun v124 ev124 => ?_)
        have cv124 : v120 = v124 := ev120.trans ev124.symm
        subst cv124
        refine mw_imul dX10_write_39 (fun v125 ev125 => ?_)
        have b126 : mm_b (0) (28) v125 := bd_mul ev125 n_2 b123 (by decide)
        refine mw_iload_n dX10_write_40 rfl 1 rfl ?_
        refine tw_iast dX10_write_41 shM_11 (bd_in b126 (by decide)) ?_
        have hI127 : JM (mm_up S 11 v125.toNatClampNeg x1) := JIM_puta hI b110 b126 (by decide) (by decide +kernel)
        generalize hS128 : (mm_up S 11 v125.toNatClampNeg x1) = S128 at hI127 ⊢
        have hF129 := fr_upA hF hS128 (by decide)
        refine mw_aload_n dX10_write_42 rfl 0 rfl ?_
        refine tw_getr (j := 16) dX10_write_43 shM_0 rfl rfl (by decide) fX10_45 ?_
        refine mw_iconst dX10_write_46 ki_2 ?_
        refine mw_aload_n dX10_write_47 rfl 0 rfl ?_
        refine tw_geti (j := 17) dX10_write_48 shM_0 rfl rfl (by decide) fX10_79 (fun v130 ev130 => ?_)
        have cv130 : v120 = v130 := (ev120.trans (up_neA hS128 (by decide))).trans ev130.symm
        subst cv130
        refine mw_imul dX10_write_51 (fun v131 ev131 => ?_)
        have cv131 : v125 = v131 := ev125.trans ev131.symm
        subst cv131
        refine mw_iconst dX10_write_52 ki_1 ?_
        refine mw_iadd dX10_write_53 (fun v132 ev132 => ?_)
        have b133 : mm_b (1) (29) v132 := bd_add ev132 b126 n_1 (by decide)
        refine mw_iload_n dX10_write_54 rfl 2 rfl ?_
        refine tw_iast dX10_write_55 shM_11 (bd_in b133 (by decide)) ?_
        have hI134 : JM (mm_up S128 11 v132.toNatClampNeg x2) := JIM_puta hI127 b119 b133 (by decide) (by decide +kernel)
        generalize hS135 : (mm_up S128 11 v132.toNatClampNeg x2) = S135 at hI134 ⊢
        have hF136 := fr_upA hF129 hS135 (by decide)
        refine mw_aload_n dX10_write_56 rfl 0 rfl ?_
        refine mw_dup dX10_write_57 rfl ?_
        refine tw_geti (j := 17) dX10_write_58 shM_0 rfl rfl (by decide) fX10_79 (fun v137 ev137 => ?_)
        have cv137 : v120 = v137 := ((ev120.trans (up_neA hS128 (by decide))).trans (up_neA hS135 (by decide))).trans ev137.symm
        subst cv137
        refine mw_iconst dX10_write_61 ki_1 ?_
        refine mw_iadd dX10_write_62 (fun v138 ev138 => ?_)
        have b139 : mm_b (1) (15) v138 := bd_add ev138 b123 n_1 (by decide)
        refine tw_puti (j := 17) dX10_write_63 shM_0 rfl rfl (by decide) fX10_79 rfl (by decide +kernel) ?_
        have hI140 : JM (mm_up S135 0 17 v138) := JIM_put hI134 b139 (by decide +kernel)
        generalize hS141 : (mm_up S135 0 17 v138) = S141 at hI140 ⊢
        have hF142 := fr_upF hF136 hS141 (by decide)
        refine mw_aload_n dX10_write_66 rfl 0 rfl ?_
        refine tw_geti (j := 17) dX10_write_67 shM_0 rfl rfl (by decide) fX10_79 (fun v143 ev143 => ?_)
        have cv143 : v138 = v143 := (up_eq hS141).trans ev143.symm
        subst cv143
        exact mw_iret rfl dX10_write_70 rfl rfl ⟨S141, _, rfl, rfl, hI140, hF142, bd_w b139 (by decide), trivial, (by subst hS141; subst ev138; subst hS135; subst ev132; subst hS128; subst ev125; subst ev120; subst hx116; subst hx106; rw [F_X10_write, if_neg q107, if_neg q117, if_neg q122])⟩
      · skip
        have b144 : mm_b (15) (15) v120 := bd_eq_l q122 b121 n_15 (by decide)
        refine mw_ldc dX10_write_27 kX10_88 ?_
        exact mw_iret rfl dX10_write_29 rfl rfl ⟨S, _, rfl, rfl, hI, hF, bd_w n_m1000000004 (by decide), trivial, (by subst ev120; subst hx116; subst hx106; rw [F_X10_write, if_neg q107, if_neg q117, if_pos q122])⟩
    · skip
      have b145 : mm_b (0) (0) v113 := bd_eq_l q117 b114 n_0 (by decide)
      refine mw_ldc dX10_write_15 kX10_182 ?_
      exact mw_iret rfl dX10_write_17 rfl rfl ⟨S, _, rfl, rfl, hI, hF, bd_w n_m1000000001 (by decide), trivial, (by subst hx116; subst hx106; rw [F_X10_write, if_neg q107, if_pos q117])⟩
def F_X10_tear (S : mm_S)  : Int32 × mm_S := ((((S.1 0 13) + (S.1 0 15)) + (S.1 0 17)), (mm_up (mm_up (mm_up S 0 13 (0 : Int32)) 0 15 (0 : Int32)) 0 17 (0 : Int32)))
set_option maxRecDepth 100000 in
set_option maxHeartbeats 4000000 in
theorem cx_X10_tear {g : mm_G} (S : mm_S) (hI : JM S)  : mc g yX10_tear cX10_tear 2 (some .int) (mm_rm 0) [.ref 0] (mm_enc shM S) (qi shM (fun S1 v => JM S1 ∧ fr [] [13, 15, 17] true true S S1 ∧ mm_b (0) (27) v ∧ (True) ∧ F_X10_tear S = (v, S1))) := by
  refine mc_of2 (own := RX10) (ini := false) (ls := [(0, .ref 0)]) (by decide) (Nat.le_of_ble_eq_true rfl) rfl (by decide) rfl ?_
  have hF : fr [] [13, 15, 17] true true S S := fr_rf
  refine mw_aload_n dX10_tear_0 rfl 0 rfl ?_
  refine tw_geti (j := 13) dX10_tear_1 shM_0 rfl rfl (by decide) fX10_73 (fun v101 ev101 => ?_)
  have b102 : mm_b (0) (6) v101 := JIM_fld hI ev101 tbM_3 (by decide)
  refine mw_aload_n dX10_tear_4 rfl 0 rfl ?_
  refine tw_geti (j := 15) dX10_tear_5 shM_0 rfl rfl (by decide) fX10_76 (fun v103 ev103 => ?_)
  have b104 : mm_b (0) (6) v103 := JIM_fld hI ev103 tbM_4 (by decide)
  refine mw_iadd dX10_tear_8 (fun v105 ev105 => ?_)
  have b106 : mm_b (0) (12) v105 := bd_add ev105 b102 b104 (by decide)
  refine mw_aload_n dX10_tear_9 rfl 0 rfl ?_
  refine tw_geti (j := 17) dX10_tear_10 shM_0 rfl rfl (by decide) fX10_79 (fun v107 ev107 => ?_)
  have b108 : mm_b (0) (15) v107 := JIM_fld hI ev107 tbM_5 (by decide)
  refine mw_iadd dX10_tear_13 (fun v109 ev109 => ?_)
  have b110 : mm_b (0) (27) v109 := bd_add ev109 b106 b108 (by decide)
  refine mw_istore_n (ls' := [(1, .int v109), (0, .ref 0)]) dX10_tear_14 rfl (by decide) rfl ?_
  refine mw_aload_n dX10_tear_15 rfl 1 rfl ?_
  refine mw_iconst dX10_tear_16 ki_0 ?_
  refine tw_puti (j := 13) dX10_tear_17 shM_0 rfl rfl (by decide) fX10_73 rfl (by decide +kernel) ?_
  have hI111 : JM (mm_up S 0 13 0) := JIM_put hI n_0 (by decide +kernel)
  generalize hS112 : (mm_up S 0 13 0) = S112 at hI111 ⊢
  have hF113 := fr_upF hF hS112 (by decide)
  refine mw_aload_n dX10_tear_20 rfl 1 rfl ?_
  refine mw_iconst dX10_tear_21 ki_0 ?_
  refine tw_puti (j := 15) dX10_tear_22 shM_0 rfl rfl (by decide) fX10_76 rfl (by decide +kernel) ?_
  have hI114 : JM (mm_up S112 0 15 0) := JIM_put hI111 n_0 (by decide +kernel)
  generalize hS115 : (mm_up S112 0 15 0) = S115 at hI114 ⊢
  have hF116 := fr_upF hF113 hS115 (by decide)
  refine mw_aload_n dX10_tear_25 rfl 1 rfl ?_
  refine mw_iconst dX10_tear_26 ki_0 ?_
  refine tw_puti (j := 17) dX10_tear_27 shM_0 rfl rfl (by decide) fX10_79 rfl (by decide +kernel) ?_
  have hI117 : JM (mm_up S115 0 17 0) := JIM_put hI114 n_0 (by decide +kernel)
  generalize hS118 : (mm_up S115 0 17 0) = S118 at hI117 ⊢
  have hF119 := fr_upF hF116 hS118 (by decide)
  refine mw_iload_n dX10_tear_30 rfl 0 rfl ?_
  exact mw_iret rfl dX10_tear_31 rfl rfl ⟨S118, _, rfl, rfl, hI117, hF119, b110, trivial, (by subst hS118; subst hS115; subst hS112; subst ev109; subst ev107; subst ev105; subst ev103; subst ev101; rw [F_X10_tear])⟩
