set_option maxRecDepth 100000 in
set_option maxHeartbeats 4000000 in
theorem c_X10_abs {g : mm_G} (S : mm_S) (hI : JM S) (x0 : Int32) : mc g yX10_abs cX10_abs 1 (some .int) (mm_rm 0) [.int x0] (mm_enc shM S) (qi shM (fun S1 v => S = S1 ∧ mm_b (-2147483648) (2147483647) v ∧ (v = absF x0))) := by
  refine mc_of2 (own := RX10) (ini := false) (ls := [(0, .int x0)]) (by decide) (Nat.le_of_ble_eq_true rfl) rfl (by decide) rfl ?_
  refine mw_iload_n dX10_abs_0 rfl 0 rfl ?_
  refine mw_if_ge (tgt := 9) dX10_abs_1 (by decide) (fun q101 => ?_) (fun q101 => ?_)
  · skip
    have b102 : mm_b (0) (2147483647) x0 := bd_le_r q101 n_0 (bd_all x0) (by decide)
    refine mw_iload_n dX10_abs_9 rfl 0 rfl ?_
    exact mw_iret rfl dX10_abs_10 rfl rfl ⟨S, _, rfl, rfl, rfl, bd_w b102 (by decide), (if_pos q101).symm⟩
  · skip
    have b103 : mm_b (-2147483648) (-1) x0 := bd_lt_l (bd_nle q101) (bd_all x0) n_0 (by decide)
    refine mw_iload_n dX10_abs_4 rfl 0 rfl ?_
    refine mw_ineg dX10_abs_5 (fun v104 ev104 => ?_)
    refine mw_goto (tgt := 10) dX10_abs_6 (by decide) ?_
    exact mw_iret rfl dX10_abs_10 rfl rfl ⟨S, _, rfl, rfl, rfl, (bd_all v104), (ev104).trans (if_neg q101).symm⟩
set_option maxRecDepth 100000 in
set_option maxHeartbeats 4000000 in
theorem c_X10_isPerson {g : mm_G} (S : mm_S) (hI : JM S) (x1 : Int32) : mc g yX10_isPerson cX10_isPerson 2 (some .boolean) (mm_rm 1) [.ref 0, .int x1] (mm_enc shM S) (qi shM (fun S1 v => S = S1 ∧ mm_b (0) (1) v ∧ (v = 0 ∨ (mm_b (0) (6) x1)))) := by
  refine mc_of2 (own := RX10) (ini := false) (ls := [(0, .ref 0), (1, .int x1)]) (by decide) (Nat.le_of_ble_eq_true rfl) rfl (by decide) rfl ?_
  refine mw_iload_n dX10_isPerson_0 rfl 1 rfl ?_
  refine mw_i2l dX10_isPerson_1 (fun w101 ew101 => ?_)
  have b102 : mm_bl (-2147483648) (2147483647) w101 := bl_i2l ew101 (bd_all x1)
  refine mw_lconst (v := 0) dX10_isPerson_2 (by decide) ?_
  refine mw_aload_n dX10_isPerson_3 rfl 0 rfl ?_
  refine tw_getr (j := 0) dX10_isPerson_4 shM_0 rfl rfl (by decide) fX10_7 ?_
  refine mw_iconst dX10_isPerson_7 ki_0 ?_
  refine tw_iald dX10_isPerson_8 shM_1 (bd_in n_0 (by decide)) (fun v103 ev103 => ?_)
  rw [cl_0] at ev103
  have b104 : mm_b (0) (7) v103 := JIM_fld hI ev103 tbM_16 (by decide)
  refine mw_iconst dX10_isPerson_9 ki_1 ?_
  refine mw_isub dX10_isPerson_10 (fun v105 ev105 => ?_)
  have b106 : mm_b (-1) (6) v105 := bd_sub ev105 b104 n_1 (by decide)
  refine mw_i2l dX10_isPerson_11 (fun w107 ew107 => ?_)
  have b108 : mm_bl (-1) (6) w107 := bl_i2l ew107 b106
  refine tc_Si (as := [.long w101, .long 0, .long w107]) (st := []) dX10_isPerson_12 rfl mX10_62 t_X10_in rfl (Nat.le_of_ble_eq_true rfl) (by decide) (by decide) (c_X10_in (g := g) S hI w101 (0 : Int64) w107) (fun S109 v111 h110 => ?_)
  obtain ⟨rfl, b112, x113⟩ := h110
  have x114 := in_use (lo := 0) (hi := 6) x113 ew101 L_0 b108 (by decide)
  have xx := x114
  exact mw_zret rfl (bd_nar b112 (by decide)) dX10_isPerson_15 rfl rfl ⟨S, _, rfl, rfl, rfl, b112, Or.elim xx Or.inl (fun u115 => Or.inr (bd_w u115 (by decide)))⟩
set_option maxRecDepth 100000 in
set_option maxHeartbeats 4000000 in
theorem c_X10_isVoice {g : mm_G} (S : mm_S) (hI : JM S) (x0 : Int32) : mc g yX10_isVoice cX10_isVoice 1 (some .boolean) (mm_rm 1) [.int x0] (mm_enc shM S) (qi shM (fun S1 v => S = S1 ∧ mm_b (0) (1) v ∧ (v = 0 ∨ (mm_b (0) (6) x0)))) := by
  refine mc_of2 (own := RX10) (ini := false) (ls := [(0, .int x0)]) (by decide) (Nat.le_of_ble_eq_true rfl) rfl (by decide) rfl ?_
  refine mw_iload_n dX10_isVoice_0 rfl 0 rfl ?_
  refine mw_i2l dX10_isVoice_1 (fun w101 ew101 => ?_)
  have b102 : mm_bl (-2147483648) (2147483647) w101 := bl_i2l ew101 (bd_all x0)
  refine mw_lconst (v := 0) dX10_isVoice_2 (by decide) ?_
  refine mw_ldc2 dX10_isVoice_3 kX10_153 ?_
  refine tc_Si (as := [.long w101, .long 0, .long 6]) (st := []) dX10_isVoice_6 rfl mX10_62 t_X10_in rfl (Nat.le_of_ble_eq_true rfl) (by decide) (by decide) (c_X10_in (g := g) S hI w101 (0 : Int64) (6 : Int64)) (fun S103 v105 h104 => ?_)
  obtain ⟨rfl, b106, x107⟩ := h104
  have x108 := in_use (lo := 0) (hi := 6) x107 ew101 L_0 L_6 (by decide)
  have xx := x108
  exact mw_zret rfl (bd_nar b106 (by decide)) dX10_isVoice_9 rfl rfl ⟨S, _, rfl, rfl, rfl, b106, Or.elim xx Or.inl (fun u109 => Or.inr (bd_w u109 (by decide)))⟩
set_option maxRecDepth 100000 in
set_option maxHeartbeats 4000000 in
theorem c_X10_isAlive {g : mm_G} (S : mm_S) (hI : JM S) (x1 : Int32) : mc g yX10_isAlive cX10_isAlive 2 (some .boolean) (mm_rm 1) [.ref 0, .int x1] (mm_enc shM S) (qi shM (fun S1 v => S = S1 ∧ mm_b (0) (1) v ∧ ((v = 0 ∧ ¬ aliveF S x1) ∨ (v = 1 ∧ aliveF S x1)))) := by
  refine mc_of2 (own := RX10) (ini := false) (ls := [(0, .ref 0), (1, .int x1)]) (by decide) (Nat.le_of_ble_eq_true rfl) rfl (by decide) rfl ?_
  refine mw_aload_n dX10_isAlive_0 rfl 0 rfl ?_
  refine tw_getr (j := 2) dX10_isAlive_1 shM_0 rfl rfl (by decide) fX10_16 ?_
  refine mw_bipush dX10_isAlive_4 kb_28 ?_
  refine tw_iald dX10_isAlive_6 shM_3 (bd_in n_28 (by decide)) (fun v101 ev101 => ?_)
  rw [cl_28] at ev101
  have b102 : mm_b (0) (127) v101 := JIM_fld hI ev101 tbM_32 (by decide)
  refine mw_iload_n dX10_isAlive_7 rfl 1 rfl ?_
  refine tc_Si (as := [.int v101, .int x1]) (st := []) dX10_isAlive_8 rfl mX10_134 t_X10_isIn rfl (Nat.le_of_ble_eq_true rfl) (by decide) (by decide) (c_X10_isIn (g := g) S hI v101 x1) (fun S103 v105 h104 => ?_)
  obtain ⟨rfl, b106, x107⟩ := h104
  exact mw_zret rfl (bd_nar b106 (by decide)) dX10_isAlive_11 rfl rfl ⟨S, _, rfl, rfl, rfl, b106, (by rw [ev101] at x107; exact x107)⟩
set_option maxRecDepth 100000 in
set_option maxHeartbeats 4000000 in
theorem c_X10_leastOf {g : mm_G} (S : mm_S) (hI : JM S) (x0 : Int32) : mc g yX10_leastOf cX10_leastOf 2 (some .int) (mm_rm 1) [.int x0] (mm_enc shM S) (qi shM (fun S1 v => S = S1 ∧ mm_b (0) (9) v ∧ (mm_b 0 6 v ∨ (v = 9 ∧ lsN x0 7)))) := by
  refine mc_of2 (own := RX10) (ini := false) (ls := [(0, .int x0)]) (by decide) (Nat.le_of_ble_eq_true rfl) rfl (by decide) rfl ?_
  refine mw_iconst dX10_leastOf_0 ki_0 ?_
  refine mw_istore_n (ls' := [(1, .int 0), (0, .int x0)]) dX10_leastOf_1 rfl (by decide) rfl ?_
  have cut2 : ∀ (N2 : Nat) (y101 : Int32), ((8 : Int) - y101.toInt).toNat < N2 → mm_b (0) (7) y101 → lsN x0 y101 → mw g RX10 cX10_leastOf 2 (some .int) false (mm_rm 1) (qi shM (fun S1 v => S = S1 ∧ mm_b (0) (9) v ∧ (mm_b 0 6 v ∨ (v = 9 ∧ lsN x0 7)))) 0 0 (mm_enc shM S) 2 [(0, .int x0), (1, .int y101)] [] := by
    intro N2
    induction N2 with
    | zero =>
      intro y101 hm104 b102 hx103
      exact absurd hm104 (Nat.not_lt_zero _)
    | succ N2 ih2 =>
      intro y101 hm104 b102 hx103
      refine mw_iload_n dX10_leastOf_2 rfl 1 rfl ?_
      refine mw_bipush dX10_leastOf_3 kb_7 ?_
      refine mw_icmp_ge (tgt := 24) dX10_leastOf_5 (by decide) (fun q105 => ?_) (fun q105 => ?_)
      · skip
        have b106 : mm_b (7) (7) y101 := bd_le_r q105 n_7 b102 (by decide)
        refine mw_bipush dX10_leastOf_24 kb_9 ?_
        exact mw_iret rfl dX10_leastOf_26 rfl rfl ⟨S, _, rfl, rfl, rfl, bd_w n_9 (by decide), Or.inr ⟨rfl, ls_7 hx103 b106⟩⟩
      · skip
        have b107 : mm_b (0) (6) y101 := bd_lt_l (bd_nle q105) b102 n_7 (by decide)
        refine mw_iload_n dX10_leastOf_8 rfl 0 rfl ?_
        refine mw_iload_n dX10_leastOf_9 rfl 1 rfl ?_
        refine tc_Si (as := [.int x0, .int y101]) (st := []) dX10_leastOf_10 rfl mX10_134 t_X10_isIn rfl (Nat.le_of_ble_eq_true rfl) (by decide) (by decide) (c_X10_isIn (g := g) S hI x0 y101) (fun S108 v110 h109 => ?_)
        obtain ⟨rfl, b111, x112⟩ := h109
        refine mw_if_eq (tgt := 18) dX10_leastOf_13 (by decide) (fun q113 => ?_) (fun q113 => ?_)
        · skip
          have b114 : mm_b (0) (0) v110 := bd_eq_l q113 b111 n_0 (by decide)
          refine mw_iinc (ls' := fun v => [(1, .int v), (0, .int x0)]) dX10_leastOf_18 1 rfl (by decide) (fun _ => rfl) (fun v115 ev115 => ?_)
          have b116 : mm_b (1) (7) v115 := bd_inc ev115 b107 (by decide)
          refine mw_goto (tgt := 2) dX10_leastOf_21 (by decide) ?_
          refine mw_ls [1, 0] rfl ?_
          exact ih2 v115 (ms_inc ev115 b107 (by decide) hm104) (bd_w b116 (by decide)) (lsN_s hx103 x112 (bd_zero b114) (ls_no x112 b114) b107 (by decide) ev115)
        · skip
          have b117 : mm_b (1) (1) v110 := bd_ne_l q113 b111 n_0 (by decide)
          refine mw_iload_n dX10_leastOf_16 rfl 1 rfl ?_
          exact mw_iret rfl dX10_leastOf_17 rfl rfl ⟨S, _, rfl, rfl, rfl, bd_w b107 (by decide), Or.inl (bd_w b107 (by decide))⟩
  refine mw_ls [1, 0] rfl ?_
  exact cut2 _ (0 : Int32) (Nat.lt_succ_self _) (bd_w n_0 (by decide)) lsN_0
set_option maxRecDepth 100000 in
set_option maxHeartbeats 4000000 in
theorem c_X10_leastMute3 {g : mm_G} (S : mm_S) (hI : JM S)  : mc g yX10_leastMute cX10_leastMute 3 (some .int) (mm_rm 1) [.ref 0, .ref 3] (mm_enc shM S) (qi shM (fun S1 v => S = S1 ∧ mm_b (-1) (6) v ∧ (True))) := by
  refine mc_of2 (own := RX10) (ini := false) (ls := [(0, .ref 0), (1, .ref 3)]) (by decide) (Nat.le_of_ble_eq_true rfl) rfl (by decide) rfl ?_
  refine mw_iconst dX10_leastMute_0 ki_0 ?_
  refine mw_istore_n (ls' := [(2, .int 0), (0, .ref 0), (1, .ref 3)]) dX10_leastMute_1 rfl (by decide) rfl ?_
  have cut2 : ∀ (N2 : Nat) (y101 : Int32), ((8 : Int) - y101.toInt).toNat < N2 → mm_b (0) (7) y101 → mw g RX10 cX10_leastMute 3 (some .int) false (mm_rm 1) (qi shM (fun S1 v => S = S1 ∧ mm_b (-1) (6) v ∧ (True))) 0 0 (mm_enc shM S) 2 [(0, .ref 0), (1, .ref 3), (2, .int y101)] [] := by
    intro N2
    induction N2 with
    | zero =>
      intro y101 hm103 b102
      exact absurd hm103 (Nat.not_lt_zero _)
    | succ N2 ih2 =>
      intro y101 hm103 b102
      refine mw_iload_n dX10_leastMute_2 rfl 2 rfl ?_
      refine mw_aload_n dX10_leastMute_3 rfl 0 rfl ?_
      refine tw_getr (j := 0) dX10_leastMute_4 shM_0 rfl rfl (by decide) fX10_7 ?_
      refine mw_iconst dX10_leastMute_7 ki_0 ?_
      refine tw_iald dX10_leastMute_8 shM_1 (bd_in n_0 (by decide)) (fun v104 ev104 => ?_)
      rw [cl_0] at ev104
      have b105 : mm_b (0) (7) v104 := JIM_fld hI ev104 tbM_16 (by decide)
      refine mw_icmp_ge (tgt := 41) dX10_leastMute_9 (by decide) (fun q106 => ?_) (fun q106 => ?_)
      · skip
        refine mw_iconst dX10_leastMute_41 ki_m1 ?_
        exact mw_iret rfl dX10_leastMute_42 rfl rfl ⟨S, _, rfl, rfl, rfl, bd_w n_m1 (by decide), trivial⟩
      · skip
        have b107 : mm_b (0) (6) y101 := bd_lt_l (bd_nle q106) b102 b105 (by decide)
        have b108 : mm_b (1) (7) v104 := bd_lt_r (bd_nle q106) b102 b105 (by decide)
        refine mw_aload_n dX10_leastMute_12 rfl 1 rfl ?_
        refine mw_bipush dX10_leastMute_13 kb_28 ?_
        refine tw_iald dX10_leastMute_15 shM_3 (bd_in n_28 (by decide)) (fun v109 ev109 => ?_)
        rw [cl_28] at ev109
        have b110 : mm_b (0) (127) v109 := JIM_fld hI ev109 tbM_32 (by decide)
        refine mw_iload_n dX10_leastMute_16 rfl 2 rfl ?_
        refine tc_Si (as := [.int v109, .int y101]) (st := []) dX10_leastMute_17 rfl mX10_134 t_X10_isIn rfl (Nat.le_of_ble_eq_true rfl) (by decide) (by decide) (c_X10_isIn (g := g) S hI v109 y101) (fun S111 v113 h112 => ?_)
        obtain ⟨rfl, b114, x115⟩ := h112
        refine mw_if_eq (tgt := 35) dX10_leastMute_20 (by decide) (fun q116 => ?_) (fun q116 => ?_)
        · skip
          have b117 : mm_b (0) (0) v113 := bd_eq_l q116 b114 n_0 (by decide)
          refine mw_iinc (ls' := fun v => [(2, .int v), (0, .ref 0), (1, .ref 3)]) dX10_leastMute_35 2 rfl (by decide) (fun _ => rfl) (fun v118 ev118 => ?_)
          have b119 : mm_b (1) (7) v118 := bd_inc ev118 b107 (by decide)
          refine mw_goto (tgt := 2) dX10_leastMute_38 (by decide) ?_
          refine mw_ls [1, 2, 0] rfl ?_
          exact ih2 v118 (ms_inc ev118 b107 (by decide) hm103) (bd_w b119 (by decide))
        · skip
          have b120 : mm_b (1) (1) v113 := bd_ne_l q116 b114 n_0 (by decide)
          refine mw_aload_n dX10_leastMute_23 rfl 1 rfl ?_
          refine mw_iconst dX10_leastMute_24 ki_0 ?_
          refine mw_iload_n dX10_leastMute_25 rfl 2 rfl ?_
          refine mw_iadd dX10_leastMute_26 (fun v121 ev121 => ?_)
          have b122 : mm_b (0) (6) v121 := bd_add ev121 n_0 b107 (by decide)
          refine tw_iald dX10_leastMute_27 shM_3 (bd_in b122 (by decide)) (fun v123 ev123 => ?_)
          have b124 : mm_b (0) (9) v123 := JIM_elt hI ev123 b122 tbM_30 (by decide)
          refine mw_bipush dX10_leastMute_28 kb_9 ?_
          refine mw_icmp_ne (tgt := 35) dX10_leastMute_30 (by decide) (fun q125 => ?_) (fun q125 => ?_)
          · skip
            have b126 : mm_b (0) (8) v123 := bd_ne_l q125 b124 n_9 (by decide)
            refine mw_iinc (ls' := fun v => [(2, .int v), (0, .ref 0), (1, .ref 3)]) dX10_leastMute_35 2 rfl (by decide) (fun _ => rfl) (fun v127 ev127 => ?_)
            have b128 : mm_b (1) (7) v127 := bd_inc ev127 b107 (by decide)
            refine mw_goto (tgt := 2) dX10_leastMute_38 (by decide) ?_
            refine mw_ls [1, 2, 0] rfl ?_
            exact ih2 v127 (ms_inc ev127 b107 (by decide) hm103) (bd_w b128 (by decide))
          · skip
            have b129 : mm_b (9) (9) v123 := bd_eq_l q125 b124 n_9 (by decide)
            refine mw_iload_n dX10_leastMute_33 rfl 2 rfl ?_
            exact mw_iret rfl dX10_leastMute_34 rfl rfl ⟨S, _, rfl, rfl, rfl, bd_w b107 (by decide), trivial⟩
  refine mw_ls [1, 2, 0] rfl ?_
  exact cut2 _ (0 : Int32) (Nat.lt_succ_self _) (bd_w n_0 (by decide))
set_option maxRecDepth 100000 in
set_option maxHeartbeats 4000000 in
theorem c_X10_leastMute4 {g : mm_G} (S : mm_S) (hI : JM S)  : mc g yX10_leastMute cX10_leastMute 3 (some .int) (mm_rm 1) [.ref 0, .ref 4] (mm_enc shM S) (qi shM (fun S1 v => S = S1 ∧ mm_b (-1) (6) v ∧ (True))) := by
  refine mc_of2 (own := RX10) (ini := false) (ls := [(0, .ref 0), (1, .ref 4)]) (by decide) (Nat.le_of_ble_eq_true rfl) rfl (by decide) rfl ?_
  refine mw_iconst dX10_leastMute_0 ki_0 ?_
  refine mw_istore_n (ls' := [(2, .int 0), (0, .ref 0), (1, .ref 4)]) dX10_leastMute_1 rfl (by decide) rfl ?_
  have cut2 : ∀ (N2 : Nat) (y101 : Int32), ((8 : Int) - y101.toInt).toNat < N2 → mm_b (0) (7) y101 → mw g RX10 cX10_leastMute 3 (some .int) false (mm_rm 1) (qi shM (fun S1 v => S = S1 ∧ mm_b (-1) (6) v ∧ (True))) 0 0 (mm_enc shM S) 2 [(0, .ref 0), (1, .ref 4), (2, .int y101)] [] := by
    intro N2
    induction N2 with
    | zero =>
      intro y101 hm103 b102
      exact absurd hm103 (Nat.not_lt_zero _)
    | succ N2 ih2 =>
      intro y101 hm103 b102
      refine mw_iload_n dX10_leastMute_2 rfl 2 rfl ?_
      refine mw_aload_n dX10_leastMute_3 rfl 0 rfl ?_
      refine tw_getr (j := 0) dX10_leastMute_4 shM_0 rfl rfl (by decide) fX10_7 ?_
      refine mw_iconst dX10_leastMute_7 ki_0 ?_
      refine tw_iald dX10_leastMute_8 shM_1 (bd_in n_0 (by decide)) (fun v104 ev104 => ?_)
      rw [cl_0] at ev104
      have b105 : mm_b (0) (7) v104 := JIM_fld hI ev104 tbM_16 (by decide)
      refine mw_icmp_ge (tgt := 41) dX10_leastMute_9 (by decide) (fun q106 => ?_) (fun q106 => ?_)
      · skip
        refine mw_iconst dX10_leastMute_41 ki_m1 ?_
        exact mw_iret rfl dX10_leastMute_42 rfl rfl ⟨S, _, rfl, rfl, rfl, bd_w n_m1 (by decide), trivial⟩
      · skip
        have b107 : mm_b (0) (6) y101 := bd_lt_l (bd_nle q106) b102 b105 (by decide)
        have b108 : mm_b (1) (7) v104 := bd_lt_r (bd_nle q106) b102 b105 (by decide)
        refine mw_aload_n dX10_leastMute_12 rfl 1 rfl ?_
        refine mw_bipush dX10_leastMute_13 kb_28 ?_
        refine tw_iald dX10_leastMute_15 shM_4 (bd_in n_28 (by decide)) (fun v109 ev109 => ?_)
        rw [cl_28] at ev109
        have b110 : mm_b (0) (127) v109 := JIM_fld hI ev109 tbM_35 (by decide)
        refine mw_iload_n dX10_leastMute_16 rfl 2 rfl ?_
        refine tc_Si (as := [.int v109, .int y101]) (st := []) dX10_leastMute_17 rfl mX10_134 t_X10_isIn rfl (Nat.le_of_ble_eq_true rfl) (by decide) (by decide) (c_X10_isIn (g := g) S hI v109 y101) (fun S111 v113 h112 => ?_)
        obtain ⟨rfl, b114, x115⟩ := h112
        refine mw_if_eq (tgt := 35) dX10_leastMute_20 (by decide) (fun q116 => ?_) (fun q116 => ?_)
        · skip
          have b117 : mm_b (0) (0) v113 := bd_eq_l q116 b114 n_0 (by decide)
          refine mw_iinc (ls' := fun v => [(2, .int v), (0, .ref 0), (1, .ref 4)]) dX10_leastMute_35 2 rfl (by decide) (fun _ => rfl) (fun v118 ev118 => ?_)
          have b119 : mm_b (1) (7) v118 := bd_inc ev118 b107 (by decide)
          refine mw_goto (tgt := 2) dX10_leastMute_38 (by decide) ?_
          refine mw_ls [1, 2, 0] rfl ?_
          exact ih2 v118 (ms_inc ev118 b107 (by decide) hm103) (bd_w b119 (by decide))
        · skip
          have b120 : mm_b (1) (1) v113 := bd_ne_l q116 b114 n_0 (by decide)
          refine mw_aload_n dX10_leastMute_23 rfl 1 rfl ?_
          refine mw_iconst dX10_leastMute_24 ki_0 ?_
          refine mw_iload_n dX10_leastMute_25 rfl 2 rfl ?_
          refine mw_iadd dX10_leastMute_26 (fun v121 ev121 => ?_)
          have b122 : mm_b (0) (6) v121 := bd_add ev121 n_0 b107 (by decide)
          refine tw_iald dX10_leastMute_27 shM_4 (bd_in b122 (by decide)) (fun v123 ev123 => ?_)
          have b124 : mm_b (0) (9) v123 := JIM_elt hI ev123 b122 tbM_33 (by decide)
          refine mw_bipush dX10_leastMute_28 kb_9 ?_
          refine mw_icmp_ne (tgt := 35) dX10_leastMute_30 (by decide) (fun q125 => ?_) (fun q125 => ?_)
          · skip
            have b126 : mm_b (0) (8) v123 := bd_ne_l q125 b124 n_9 (by decide)
            refine mw_iinc (ls' := fun v => [(2, .int v), (0, .ref 0), (1, .ref 4)]) dX10_leastMute_35 2 rfl (by decide) (fun _ => rfl) (fun v127 ev127 => ?_)
            have b128 : mm_b (1) (7) v127 := bd_inc ev127 b107 (by decide)
            refine mw_goto (tgt := 2) dX10_leastMute_38 (by decide) ?_
            refine mw_ls [1, 2, 0] rfl ?_
            exact ih2 v127 (ms_inc ev127 b107 (by decide) hm103) (bd_w b128 (by decide))
          · skip
            have b129 : mm_b (9) (9) v123 := bd_eq_l q125 b124 n_9 (by decide)
            refine mw_iload_n dX10_leastMute_33 rfl 2 rfl ?_
            exact mw_iret rfl dX10_leastMute_34 rfl rfl ⟨S, _, rfl, rfl, rfl, bd_w b107 (by decide), trivial⟩
  refine mw_ls [1, 2, 0] rfl ?_
  exact cut2 _ (0 : Int32) (Nat.lt_succ_self _) (bd_w n_0 (by decide))
set_option maxRecDepth 100000 in
set_option maxHeartbeats 4000000 in
theorem c_X10_gets3 {g : mm_G} (S : mm_S) (hI : JM S) (x2 : Int32) (h2 : mm_b (0) (6) x2) (x3 : Int32) (h3 : mm_b (0) (9) x3) : mc g yX10_gets cX10_gets 4 none (mm_rm 0) [.ref 0, .ref 3, .int x2, .int x3] (mm_enc shM S) (qv shM (fun S1 => JM S1 ∧ fr [3] [] true true S S1 ∧ True)) := by
  refine mc_of2 (own := RX10) (ini := false) (ls := [(0, .ref 0), (1, .ref 3), (2, .int x2), (3, .int x3)]) (by decide) (Nat.le_of_ble_eq_true rfl) rfl (by decide) rfl ?_
  have hF : fr [3] [] true true S S := fr_rf
  refine mw_aload_n dX10_gets_0 rfl 1 rfl ?_
  refine mw_bipush dX10_gets_1 kb_7 ?_
  refine mw_iload_n dX10_gets_3 rfl 2 rfl ?_
  refine mw_iadd dX10_gets_4 (fun v101 ev101 => ?_)
  have b102 : mm_b (7) (13) v101 := bd_add ev101 n_7 h2 (by decide)
  refine mw_dup2 dX10_gets_5 rfl rfl ?_
  refine tw_iald dX10_gets_6 shM_3 (bd_in b102 (by decide)) (fun v103 ev103 => ?_)
  refine mw_aload_n dX10_gets_7 rfl 1 rfl ?_
  refine mw_iconst dX10_gets_8 ki_0 ?_
  refine mw_iload_n dX10_gets_9 rfl 2 rfl ?_
  refine mw_iadd dX10_gets_10 (fun v104 ev104 => ?_)
  have b105 : mm_b (0) (6) v104 := bd_add ev104 n_0 h2 (by decide)
  refine tw_iald dX10_gets_11 shM_3 (bd_in b105 (by decide)) (fun v106 ev106 => ?_)
  have b107 : mm_b (0) (9) v106 := JIM_elt hI ev106 b105 tbM_30 (by decide)
  refine mw_bipush dX10_gets_12 kb_9 ?_
  refine mw_icmp_ne (tgt := 21) dX10_gets_14 (by decide) (fun q108 => ?_) (fun q108 => ?_)
  · skip
    have b109 : mm_b (0) (8) v106 := bd_ne_l q108 b107 n_9 (by decide)
    refine mw_iconst dX10_gets_21 ki_1 ?_
    refine mw_aload_n dX10_gets_22 rfl 1 rfl ?_
    refine mw_iconst dX10_gets_23 ki_0 ?_
    refine mw_iload_n dX10_gets_24 rfl 2 rfl ?_
    refine mw_iadd dX10_gets_25 (fun v110 ev110 => ?_)
    have cv110 : v104 = v110 := ev104.trans ev110.symm
    subst cv110
    refine tw_iald dX10_gets_26 shM_3 (bd_in b105 (by decide)) (fun v111 ev111 => ?_)
    have cv111 : v106 = v111 := ev106.trans ev111.symm
    subst cv111
    refine mw_ishl dX10_gets_27 (fun v112 ev112 => ?_)
    have b113 : mm_b (1) (256) v112 := bd_shl 8 ev112 b109 (by decide)
    refine mw_ior dX10_gets_28 (fun v114 ev114 => ?_)
    refine tw_iast dX10_gets_29 shM_3 (bd_in b102 (by decide)) ?_
    have hI115 : JM (mm_up S 3 v101.toNatClampNeg v114) := JIM_puta hI (bd_all v114) b102 (by decide) (by decide +kernel)
    generalize hS116 : (mm_up S 3 v101.toNatClampNeg v114) = S116 at hI115 ⊢
    have hF117 := fr_upA hF hS116 (by decide)
    refine mw_aload_n dX10_gets_30 rfl 1 rfl ?_
    refine mw_iconst dX10_gets_31 ki_0 ?_
    refine mw_iload_n dX10_gets_32 rfl 2 rfl ?_
    refine mw_iadd dX10_gets_33 (fun v118 ev118 => ?_)
    have cv118 : v104 = v118 := ev104.trans ev118.symm
    subst cv118
    refine mw_iload_n dX10_gets_34 rfl 3 rfl ?_
    refine tw_iast dX10_gets_35 shM_3 (bd_in b105 (by decide)) ?_
    have hI119 : JM (mm_up S116 3 v104.toNatClampNeg x3) := JIM_puta hI115 h3 b105 (by decide) (by decide +kernel)
    generalize hS120 : (mm_up S116 3 v104.toNatClampNeg x3) = S120 at hI119 ⊢
    have hF121 := fr_upA hF117 hS120 (by decide)
    exact mw_vret rfl dX10_gets_36 rfl rfl ⟨S120, rfl, rfl, ⟨hI119, hF121, trivial⟩⟩
  · skip
    have b122 : mm_b (9) (9) v106 := bd_eq_l q108 b107 n_9 (by decide)
    refine mw_iconst dX10_gets_17 ki_0 ?_
    refine mw_goto (tgt := 28) dX10_gets_18 (by decide) ?_
    refine mw_ior dX10_gets_28 (fun v123 ev123 => ?_)
    refine tw_iast dX10_gets_29 shM_3 (bd_in b102 (by decide)) ?_
    have hI124 : JM (mm_up S 3 v101.toNatClampNeg v123) := JIM_puta hI (bd_all v123) b102 (by decide) (by decide +kernel)
    generalize hS125 : (mm_up S 3 v101.toNatClampNeg v123) = S125 at hI124 ⊢
    have hF126 := fr_upA hF hS125 (by decide)
    refine mw_aload_n dX10_gets_30 rfl 1 rfl ?_
    refine mw_iconst dX10_gets_31 ki_0 ?_
    refine mw_iload_n dX10_gets_32 rfl 2 rfl ?_
    refine mw_iadd dX10_gets_33 (fun v127 ev127 => ?_)
    have cv127 : v104 = v127 := ev104.trans ev127.symm
    subst cv127
    refine mw_iload_n dX10_gets_34 rfl 3 rfl ?_
    refine tw_iast dX10_gets_35 shM_3 (bd_in b105 (by decide)) ?_
    have hI128 : JM (mm_up S125 3 v104.toNatClampNeg x3) := JIM_puta hI124 h3 b105 (by decide) (by decide +kernel)
    generalize hS129 : (mm_up S125 3 v104.toNatClampNeg x3) = S129 at hI128 ⊢
    have hF130 := fr_upA hF126 hS129 (by decide)
    exact mw_vret rfl dX10_gets_36 rfl rfl ⟨S129, rfl, rfl, ⟨hI128, hF130, trivial⟩⟩
set_option maxRecDepth 100000 in
set_option maxHeartbeats 4000000 in
theorem c_X10_gets4 {g : mm_G} (S : mm_S) (hI : JM S) (x2 : Int32) (h2 : mm_b (0) (6) x2) (x3 : Int32) (h3 : mm_b (0) (9) x3) : mc g yX10_gets cX10_gets 4 none (mm_rm 0) [.ref 0, .ref 4, .int x2, .int x3] (mm_enc shM S) (qv shM (fun S1 => JM S1 ∧ fr [4] [] true true S S1 ∧ True)) := by
  refine mc_of2 (own := RX10) (ini := false) (ls := [(0, .ref 0), (1, .ref 4), (2, .int x2), (3, .int x3)]) (by decide) (Nat.le_of_ble_eq_true rfl) rfl (by decide) rfl ?_
  have hF : fr [4] [] true true S S := fr_rf
  refine mw_aload_n dX10_gets_0 rfl 1 rfl ?_
  refine mw_bipush dX10_gets_1 kb_7 ?_
  refine mw_iload_n dX10_gets_3 rfl 2 rfl ?_
  refine mw_iadd dX10_gets_4 (fun v101 ev101 => ?_)
  have b102 : mm_b (7) (13) v101 := bd_add ev101 n_7 h2 (by decide)
  refine mw_dup2 dX10_gets_5 rfl rfl ?_
  refine tw_iald dX10_gets_6 shM_4 (bd_in b102 (by decide)) (fun v103 ev103 => ?_)
  refine mw_aload_n dX10_gets_7 rfl 1 rfl ?_
  refine mw_iconst dX10_gets_8 ki_0 ?_
  refine mw_iload_n dX10_gets_9 rfl 2 rfl ?_
  refine mw_iadd dX10_gets_10 (fun v104 ev104 => ?_)
  have b105 : mm_b (0) (6) v104 := bd_add ev104 n_0 h2 (by decide)
  refine tw_iald dX10_gets_11 shM_4 (bd_in b105 (by decide)) (fun v106 ev106 => ?_)
  have b107 : mm_b (0) (9) v106 := JIM_elt hI ev106 b105 tbM_33 (by decide)
  refine mw_bipush dX10_gets_12 kb_9 ?_
  refine mw_icmp_ne (tgt := 21) dX10_gets_14 (by decide) (fun q108 => ?_) (fun q108 => ?_)
  · skip
    have b109 : mm_b (0) (8) v106 := bd_ne_l q108 b107 n_9 (by decide)
    refine mw_iconst dX10_gets_21 ki_1 ?_
    refine mw_aload_n dX10_gets_22 rfl 1 rfl ?_
    refine mw_iconst dX10_gets_23 ki_0 ?_
    refine mw_iload_n dX10_gets_24 rfl 2 rfl ?_
    refine mw_iadd dX10_gets_25 (fun v110 ev110 => ?_)
    have cv110 : v104 = v110 := ev104.trans ev110.symm
    subst cv110
    refine tw_iald dX10_gets_26 shM_4 (bd_in b105 (by decide)) (fun v111 ev111 => ?_)
    have cv111 : v106 = v111 := ev106.trans ev111.symm
    subst cv111
    refine mw_ishl dX10_gets_27 (fun v112 ev112 => ?_)
    have b113 : mm_b (1) (256) v112 := bd_shl 8 ev112 b109 (by decide)
    refine mw_ior dX10_gets_28 (fun v114 ev114 => ?_)
    refine tw_iast dX10_gets_29 shM_4 (bd_in b102 (by decide)) ?_
    have hI115 : JM (mm_up S 4 v101.toNatClampNeg v114) := JIM_puta hI (bd_all v114) b102 (by decide) (by decide +kernel)
    generalize hS116 : (mm_up S 4 v101.toNatClampNeg v114) = S116 at hI115 ⊢
    have hF117 := fr_upA hF hS116 (by decide)
    refine mw_aload_n dX10_gets_30 rfl 1 rfl ?_
    refine mw_iconst dX10_gets_31 ki_0 ?_
    refine mw_iload_n dX10_gets_32 rfl 2 rfl ?_
    refine mw_iadd dX10_gets_33 (fun v118 ev118 => ?_)
    have cv118 : v104 = v118 := ev104.trans ev118.symm
    subst cv118
    refine mw_iload_n dX10_gets_34 rfl 3 rfl ?_
    refine tw_iast dX10_gets_35 shM_4 (bd_in b105 (by decide)) ?_
    have hI119 : JM (mm_up S116 4 v104.toNatClampNeg x3) := JIM_puta hI115 h3 b105 (by decide) (by decide +kernel)
    generalize hS120 : (mm_up S116 4 v104.toNatClampNeg x3) = S120 at hI119 ⊢
    have hF121 := fr_upA hF117 hS120 (by decide)
    exact mw_vret rfl dX10_gets_36 rfl rfl ⟨S120, rfl, rfl, ⟨hI119, hF121, trivial⟩⟩
  · skip
    have b122 : mm_b (9) (9) v106 := bd_eq_l q108 b107 n_9 (by decide)
    refine mw_iconst dX10_gets_17 ki_0 ?_
    refine mw_goto (tgt := 28) dX10_gets_18 (by decide) ?_
    refine mw_ior dX10_gets_28 (fun v123 ev123 => ?_)
    refine tw_iast dX10_gets_29 shM_4 (bd_in b102 (by decide)) ?_
    have hI124 : JM (mm_up S 4 v101.toNatClampNeg v123) := JIM_puta hI (bd_all v123) b102 (by decide) (by decide +kernel)
    generalize hS125 : (mm_up S 4 v101.toNatClampNeg v123) = S125 at hI124 ⊢
    have hF126 := fr_upA hF hS125 (by decide)
    refine mw_aload_n dX10_gets_30 rfl 1 rfl ?_
    refine mw_iconst dX10_gets_31 ki_0 ?_
    refine mw_iload_n dX10_gets_32 rfl 2 rfl ?_
    refine mw_iadd dX10_gets_33 (fun v127 ev127 => ?_)
    have cv127 : v104 = v127 := ev104.trans ev127.symm
    subst cv127
    refine mw_iload_n dX10_gets_34 rfl 3 rfl ?_
    refine tw_iast dX10_gets_35 shM_4 (bd_in b105 (by decide)) ?_
    have hI128 : JM (mm_up S125 4 v104.toNatClampNeg x3) := JIM_puta hI124 h3 b105 (by decide) (by decide +kernel)
    generalize hS129 : (mm_up S125 4 v104.toNatClampNeg x3) = S129 at hI128 ⊢
    have hF130 := fr_upA hF126 hS129 (by decide)
    exact mw_vret rfl dX10_gets_36 rfl rfl ⟨S129, rfl, rfl, ⟨hI128, hF130, trivial⟩⟩
set_option maxRecDepth 100000 in
set_option maxHeartbeats 4000000 in
theorem c_X10_fault {g : mm_G} (S : mm_S) (hI : JM S)  : mc g yX10_fault cX10_fault 1 (some .int) (mm_rm 0) [.ref 0] (mm_enc shM S) (qi shM (fun S1 v => S = S1 ∧ mm_b (-2147483648) (2147483647) v ∧ (True))) := by
  refine mc_of2 (own := RX10) (ini := false) (ls := [(0, .ref 0)]) (by decide) (Nat.le_of_ble_eq_true rfl) rfl (by decide) rfl ?_
  refine mw_aload_n dX10_fault_0 rfl 0 rfl ?_
  refine tw_geti (j := 11) dX10_fault_1 shM_0 rfl rfl (by decide) fX10_35 (fun v101 ev101 => ?_)
  exact mw_iret rfl dX10_fault_4 rfl rfl ⟨S, _, rfl, rfl, rfl, (bd_all v101), trivial⟩
set_option maxRecDepth 100000 in
set_option maxHeartbeats 4000000 in
theorem c_X10_usesNone {g : mm_G} (S : mm_S) (hI : JM S)  : mc g yX10_usesNone cX10_usesNone 3 (some .int) (mm_rm 2) [.ref 0] (mm_enc shM S) (qi shM (fun S1 v => S = S1 ∧ mm_b (0) (127) v ∧ (True))) := by
  refine mc_of2 (own := RX10) (ini := false) (ls := [(0, .ref 0)]) (by decide) (Nat.le_of_ble_eq_true rfl) rfl (by decide) rfl ?_
  refine mw_iconst dX10_usesNone_0 ki_0 ?_
  refine mw_istore_n (ls' := [(1, .int 0), (0, .ref 0)]) dX10_usesNone_1 rfl (by decide) rfl ?_
  refine mw_iconst dX10_usesNone_2 ki_0 ?_
  refine mw_istore_n (ls' := [(2, .int 0), (1, .int 0), (0, .ref 0)]) dX10_usesNone_3 rfl (by decide) rfl ?_
  have cut4 : ∀ (N4 : Nat) (y101 y103 : Int32), ((8 : Int) - y103.toInt).toNat < N4 → mm_b (0) (127) y101 → mm_b (0) (7) y103 → mw g RX10 cX10_usesNone 3 (some .int) false (mm_rm 2) (qi shM (fun S1 v => S = S1 ∧ mm_b (0) (127) v ∧ (True))) 0 0 (mm_enc shM S) 4 [(0, .ref 0), (1, .int y101), (2, .int y103)] [] := by
    intro N4
    induction N4 with
    | zero =>
      intro y101 y103 hm105 b102 b104
      exact absurd hm105 (Nat.not_lt_zero _)
    | succ N4 ih4 =>
      intro y101 y103 hm105 b102 b104
      refine mw_iload_n dX10_usesNone_4 rfl 2 rfl ?_
      refine mw_aload_n dX10_usesNone_5 rfl 0 rfl ?_
      refine tw_getr (j := 0) dX10_usesNone_6 shM_0 rfl rfl (by decide) fX10_7 ?_
      refine mw_iconst dX10_usesNone_9 ki_0 ?_
      refine tw_iald dX10_usesNone_10 shM_1 (bd_in n_0 (by decide)) (fun v106 ev106 => ?_)
      rw [cl_0] at ev106
      have b107 : mm_b (0) (7) v106 := JIM_fld hI ev106 tbM_16 (by decide)
      refine mw_icmp_ge (tgt := 51) dX10_usesNone_11 (by decide) (fun q108 => ?_) (fun q108 => ?_)
      · skip
        refine mw_iload_n dX10_usesNone_51 rfl 1 rfl ?_
        exact mw_iret rfl dX10_usesNone_52 rfl rfl ⟨S, _, rfl, rfl, rfl, b102, trivial⟩
      · skip
        have b109 : mm_b (0) (6) y103 := bd_lt_l (bd_nle q108) b104 b107 (by decide)
        have b110 : mm_b (1) (7) v106 := bd_lt_r (bd_nle q108) b104 b107 (by decide)
        refine mw_iload_n dX10_usesNone_14 rfl 1 rfl ?_
        refine mw_aload_n dX10_usesNone_15 rfl 0 rfl ?_
        refine mw_iload_n dX10_usesNone_16 rfl 2 rfl ?_
        refine tc_Vi (as := [.int y103]) (st := [.int y101]) dX10_usesNone_17 rfl shM_0 rfl rfl mX10_167 t_X10_isAlive rfl (Nat.le_of_ble_eq_true rfl) (by decide) (by decide) (c_X10_isAlive (g := g) S hI y103) (fun S111 v113 h112 => ?_)
        obtain ⟨rfl, b114, x115⟩ := h112
        refine mw_if_eq (tgt := 42) dX10_usesNone_20 (by decide) (fun q116 => ?_) (fun q116 => ?_)
        · skip
          have b117 : mm_b (0) (0) v113 := bd_eq_l q116 b114 n_0 (by decide)
          refine mw_iconst dX10_usesNone_42 ki_0 ?_
          refine mw_ior dX10_usesNone_43 (fun v118 ev118 => ?_)
          have b119 : mm_b (0) (127) v118 := bd_or 7 ev118 b102 n_0 (by decide)
          refine mw_istore_n (ls' := [(1, .int v118), (0, .ref 0), (2, .int y103)]) dX10_usesNone_44 rfl (by decide) rfl ?_
          refine mw_iinc (ls' := fun v => [(2, .int v), (1, .int v118), (0, .ref 0)]) dX10_usesNone_45 2 rfl (by decide) (fun _ => rfl) (fun v120 ev120 => ?_)
          have b121 : mm_b (1) (7) v120 := bd_inc ev120 b109 (by decide)
          refine mw_goto (tgt := 4) dX10_usesNone_48 (by decide) ?_
          refine mw_ls [2, 1, 0] rfl ?_
          exact ih4 v118 v120 (ms_inc ev120 b109 (by decide) hm105) b119 (bd_w b121 (by decide))
        · skip
          have b122 : mm_b (1) (1) v113 := bd_ne_l q116 b114 n_0 (by decide)
          refine mw_aload_n dX10_usesNone_23 rfl 0 rfl ?_
          refine tw_getr (j := 2) dX10_usesNone_24 shM_0 rfl rfl (by decide) fX10_16 ?_
          refine mw_iconst dX10_usesNone_27 ki_0 ?_
          refine mw_iload_n dX10_usesNone_28 rfl 2 rfl ?_
          refine mw_iadd dX10_usesNone_29 (fun v123 ev123 => ?_)
          have b124 : mm_b (0) (6) v123 := bd_add ev123 n_0 b109 (by decide)
          refine tw_iald dX10_usesNone_30 shM_3 (bd_in b124 (by decide)) (fun v125 ev125 => ?_)
          have b126 : mm_b (0) (9) v125 := JIM_elt hI ev125 b124 tbM_30 (by decide)
          refine mw_bipush dX10_usesNone_31 kb_9 ?_
          refine mw_icmp_ne (tgt := 42) dX10_usesNone_33 (by decide) (fun q127 => ?_) (fun q127 => ?_)
          · skip
            have b128 : mm_b (0) (8) v125 := bd_ne_l q127 b126 n_9 (by decide)
            refine mw_iconst dX10_usesNone_42 ki_0 ?_
            refine mw_ior dX10_usesNone_43 (fun v129 ev129 => ?_)
            have b130 : mm_b (0) (127) v129 := bd_or 7 ev129 b102 n_0 (by decide)
            refine mw_istore_n (ls' := [(1, .int v129), (0, .ref 0), (2, .int y103)]) dX10_usesNone_44 rfl (by decide) rfl ?_
            refine mw_iinc (ls' := fun v => [(2, .int v), (1, .int v129), (0, .ref 0)]) dX10_usesNone_45 2 rfl (by decide) (fun _ => rfl) (fun v131 ev131 => ?_)
            have b132 : mm_b (1) (7) v131 := bd_inc ev131 b109 (by decide)
            refine mw_goto (tgt := 4) dX10_usesNone_48 (by decide) ?_
            refine mw_ls [2, 1, 0] rfl ?_
            exact ih4 v129 v131 (ms_inc ev131 b109 (by decide) hm105) b130 (bd_w b132 (by decide))
          · skip
            have b133 : mm_b (9) (9) v125 := bd_eq_l q127 b126 n_9 (by decide)
            refine mw_iconst dX10_usesNone_36 ki_1 ?_
            refine mw_iload_n dX10_usesNone_37 rfl 2 rfl ?_
            refine mw_ishl dX10_usesNone_38 (fun v134 ev134 => ?_)
            have b135 : mm_b (1) (64) v134 := bd_shl 6 ev134 b109 (by decide)
            refine mw_goto (tgt := 43) dX10_usesNone_39 (by decide) ?_
            refine mw_ior dX10_usesNone_43 (fun v136 ev136 => ?_)
            have b137 : mm_b (0) (127) v136 := bd_or 7 ev136 b102 b135 (by decide)
            refine mw_istore_n (ls' := [(1, .int v136), (0, .ref 0), (2, .int y103)]) dX10_usesNone_44 rfl (by decide) rfl ?_
            refine mw_iinc (ls' := fun v => [(2, .int v), (1, .int v136), (0, .ref 0)]) dX10_usesNone_45 2 rfl (by decide) (fun _ => rfl) (fun v138 ev138 => ?_)
            have b139 : mm_b (1) (7) v138 := bd_inc ev138 b109 (by decide)
            refine mw_goto (tgt := 4) dX10_usesNone_48 (by decide) ?_
            refine mw_ls [2, 1, 0] rfl ?_
            exact ih4 v136 v138 (ms_inc ev138 b109 (by decide) hm105) b137 (bd_w b139 (by decide))
  refine mw_ls [2, 1, 0] rfl ?_
  exact cut4 _ (0 : Int32) (0 : Int32) (Nat.lt_succ_self _) (bd_w n_0 (by decide)) (bd_w n_0 (by decide))
set_option maxRecDepth 100000 in
set_option maxHeartbeats 4000000 in
theorem c_X10_allVoices {g : mm_G} (S : mm_S) (hI : JM S)  : mc g yX10_allVoices cX10_allVoices 3 (some .int) (mm_rm 0) [.ref 0] (mm_enc shM S) (qi shM (fun S1 v => S = S1 ∧ mm_b (0) (127) v ∧ (True))) := by
  refine mc_of2 (own := RX10) (ini := false) (ls := [(0, .ref 0)]) (by decide) (Nat.le_of_ble_eq_true rfl) rfl (by decide) rfl ?_
  refine mw_iconst dX10_allVoices_0 ki_0 ?_
  refine mw_istore_n (ls' := [(1, .int 0), (0, .ref 0)]) dX10_allVoices_1 rfl (by decide) rfl ?_
  refine mw_iconst dX10_allVoices_2 ki_0 ?_
  refine mw_istore_n (ls' := [(2, .int 0), (1, .int 0), (0, .ref 0)]) dX10_allVoices_3 rfl (by decide) rfl ?_
  have cut4 : ∀ (N4 : Nat) (y101 y103 : Int32), ((8 : Int) - y103.toInt).toNat < N4 → mm_b (0) (127) y101 → mm_b (0) (7) y103 → mw g RX10 cX10_allVoices 3 (some .int) false (mm_rm 0) (qi shM (fun S1 v => S = S1 ∧ mm_b (0) (127) v ∧ (True))) 0 0 (mm_enc shM S) 4 [(0, .ref 0), (1, .int y101), (2, .int y103)] [] := by
    intro N4
    induction N4 with
    | zero =>
      intro y101 y103 hm105 b102 b104
      exact absurd hm105 (Nat.not_lt_zero _)
    | succ N4 ih4 =>
      intro y101 y103 hm105 b102 b104
      refine mw_iload_n dX10_allVoices_4 rfl 2 rfl ?_
      refine mw_aload_n dX10_allVoices_5 rfl 0 rfl ?_
      refine tw_getr (j := 0) dX10_allVoices_6 shM_0 rfl rfl (by decide) fX10_7 ?_
      refine mw_iconst dX10_allVoices_9 ki_0 ?_
      refine tw_iald dX10_allVoices_10 shM_1 (bd_in n_0 (by decide)) (fun v106 ev106 => ?_)
      rw [cl_0] at ev106
      have b107 : mm_b (0) (7) v106 := JIM_fld hI ev106 tbM_16 (by decide)
      refine mw_icmp_ge (tgt := 43) dX10_allVoices_11 (by decide) (fun q108 => ?_) (fun q108 => ?_)
      · skip
        refine mw_iload_n dX10_allVoices_43 rfl 1 rfl ?_
        exact mw_iret rfl dX10_allVoices_44 rfl rfl ⟨S, _, rfl, rfl, rfl, b102, trivial⟩
      · skip
        have b109 : mm_b (0) (6) y103 := bd_lt_l (bd_nle q108) b104 b107 (by decide)
        have b110 : mm_b (1) (7) v106 := bd_lt_r (bd_nle q108) b104 b107 (by decide)
        refine mw_iload_n dX10_allVoices_14 rfl 1 rfl ?_
        refine mw_aload_n dX10_allVoices_15 rfl 0 rfl ?_
        refine tw_getr (j := 0) dX10_allVoices_16 shM_0 rfl rfl (by decide) fX10_7 ?_
        refine mw_iconst dX10_allVoices_19 ki_3 ?_
        refine mw_iload_n dX10_allVoices_20 rfl 2 rfl ?_
        refine mw_iadd dX10_allVoices_21 (fun v111 ev111 => ?_)
        have b112 : mm_b (3) (9) v111 := bd_add ev111 n_3 b109 (by decide)
        refine tw_iald dX10_allVoices_22 shM_1 (bd_in b112 (by decide)) (fun v113 ev113 => ?_)
        have b114 : mm_b (0) (9) v113 := JIM_elt hI ev113 b112 tbM_19 (by decide)
        refine mw_bipush dX10_allVoices_23 kb_9 ?_
        refine mw_icmp_ne (tgt := 32) dX10_allVoices_25 (by decide) (fun q115 => ?_) (fun q115 => ?_)
        · skip
          have b116 : mm_b (0) (8) v113 := bd_ne_l q115 b114 n_9 (by decide)
          refine mw_iconst dX10_allVoices_32 ki_1 ?_
          refine mw_iload_n dX10_allVoices_33 rfl 2 rfl ?_
          refine mw_ishl dX10_allVoices_34 (fun v117 ev117 => ?_)
          have b118 : mm_b (1) (64) v117 := bd_shl 6 ev117 b109 (by decide)
          refine mw_ior dX10_allVoices_35 (fun v119 ev119 => ?_)
          have b120 : mm_b (0) (127) v119 := bd_or 7 ev119 b102 b118 (by decide)
          refine mw_istore_n (ls' := [(1, .int v119), (0, .ref 0), (2, .int y103)]) dX10_allVoices_36 rfl (by decide) rfl ?_
          refine mw_iinc (ls' := fun v => [(2, .int v), (1, .int v119), (0, .ref 0)]) dX10_allVoices_37 2 rfl (by decide) (fun _ => rfl) (fun v121 ev121 => ?_)
          have b122 : mm_b (1) (7) v121 := bd_inc ev121 b109 (by decide)
          refine mw_goto (tgt := 4) dX10_allVoices_40 (by decide) ?_
          refine mw_ls [2, 1, 0] rfl ?_
          exact ih4 v119 v121 (ms_inc ev121 b109 (by decide) hm105) b120 (bd_w b122 (by decide))
        · skip
          have b123 : mm_b (9) (9) v113 := bd_eq_l q115 b114 n_9 (by decide)
          refine mw_iconst dX10_allVoices_28 ki_0 ?_
          refine mw_goto (tgt := 35) dX10_allVoices_29 (by decide) ?_
          refine mw_ior dX10_allVoices_35 (fun v124 ev124 => ?_)
          have b125 : mm_b (0) (127) v124 := bd_or 7 ev124 b102 n_0 (by decide)
          refine mw_istore_n (ls' := [(1, .int v124), (0, .ref 0), (2, .int y103)]) dX10_allVoices_36 rfl (by decide) rfl ?_
          refine mw_iinc (ls' := fun v => [(2, .int v), (1, .int v124), (0, .ref 0)]) dX10_allVoices_37 2 rfl (by decide) (fun _ => rfl) (fun v126 ev126 => ?_)
          have b127 : mm_b (1) (7) v126 := bd_inc ev126 b109 (by decide)
          refine mw_goto (tgt := 4) dX10_allVoices_40 (by decide) ?_
          refine mw_ls [2, 1, 0] rfl ?_
          exact ih4 v124 v126 (ms_inc ev126 b109 (by decide) hm105) b125 (bd_w b127 (by decide))
  refine mw_ls [2, 1, 0] rfl ?_
  exact cut4 _ (0 : Int32) (0 : Int32) (Nat.lt_succ_self _) (bd_w n_0 (by decide)) (bd_w n_0 (by decide))
set_option maxRecDepth 100000 in
set_option maxHeartbeats 4000000 in
theorem c_X10_lost {g : mm_G} (S : mm_S) (hI : JM S)  : mc g yX10_lost cX10_lost 3 (some .int) (mm_rm 1) [.ref 0] (mm_enc shM S) (qi shM (fun S1 v => S = S1 ∧ mm_b (0) (127) v ∧ (True))) := by
  refine mc_of2 (own := RX10) (ini := false) (ls := [(0, .ref 0)]) (by decide) (Nat.le_of_ble_eq_true rfl) rfl (by decide) rfl ?_
  refine mw_aload_n dX10_lost_0 rfl 0 rfl ?_
  refine tc_Vi (as := []) (st := []) dX10_lost_1 rfl shM_0 rfl rfl mX10_170 t_X10_allVoices rfl (Nat.le_of_ble_eq_true rfl) (by decide) (by decide) (c_X10_allVoices (g := g) S hI) (fun S101 v103 h102 => ?_)
  obtain ⟨rfl, b104, x105⟩ := h102
  refine mw_istore_n (ls' := [(1, .int v103), (0, .ref 0)]) dX10_lost_4 rfl (by decide) rfl ?_
  refine mw_iconst dX10_lost_5 ki_0 ?_
  refine mw_istore_n (ls' := [(2, .int 0), (1, .int v103), (0, .ref 0)]) dX10_lost_6 rfl (by decide) rfl ?_
  have cut7 : ∀ (N7 : Nat) (y106 y108 : Int32), ((8 : Int) - y108.toInt).toNat < N7 → mm_b (0) (127) y106 → mm_b (0) (7) y108 → mw g RX10 cX10_lost 3 (some .int) false (mm_rm 1) (qi shM (fun S1 v => S = S1 ∧ mm_b (0) (127) v ∧ (True))) 0 0 (mm_enc shM S) 7 [(0, .ref 0), (1, .int y106), (2, .int y108)] [] := by
    intro N7
    induction N7 with
    | zero =>
      intro y106 y108 hm110 b107 b109
      exact absurd hm110 (Nat.not_lt_zero _)
    | succ N7 ih7 =>
      intro y106 y108 hm110 b107 b109
      refine mw_iload_n dX10_lost_7 rfl 2 rfl ?_
      refine mw_aload_n dX10_lost_8 rfl 0 rfl ?_
      refine tw_getr (j := 0) dX10_lost_9 shM_0 rfl rfl (by decide) fX10_7 ?_
      refine mw_iconst dX10_lost_12 ki_0 ?_
      refine tw_iald dX10_lost_13 shM_1 (bd_in n_0 (by decide)) (fun v111 ev111 => ?_)
      rw [cl_0] at ev111
      have b112 : mm_b (0) (7) v111 := JIM_fld hI ev111 tbM_16 (by decide)
      refine mw_icmp_ge (tgt := 69) dX10_lost_14 (by decide) (fun q113 => ?_) (fun q113 => ?_)
      · skip
        refine mw_iload_n dX10_lost_69 rfl 1 rfl ?_
        exact mw_iret rfl dX10_lost_70 rfl rfl ⟨S, _, rfl, rfl, rfl, b107, trivial⟩
      · skip
        have b114 : mm_b (0) (6) y108 := bd_lt_l (bd_nle q113) b109 b112 (by decide)
        have b115 : mm_b (1) (7) v111 := bd_lt_r (bd_nle q113) b109 b112 (by decide)
        refine mw_iload_n dX10_lost_17 rfl 1 rfl ?_
        refine mw_aload_n dX10_lost_18 rfl 0 rfl ?_
        refine tw_getr (j := 2) dX10_lost_19 shM_0 rfl rfl (by decide) fX10_16 ?_
        refine mw_bipush dX10_lost_22 kb_7 ?_
        refine mw_iload_n dX10_lost_24 rfl 2 rfl ?_
        refine mw_iadd dX10_lost_25 (fun v116 ev116 => ?_)
        have b117 : mm_b (7) (13) v116 := bd_add ev116 n_7 b114 (by decide)
        refine tw_iald dX10_lost_26 shM_3 (bd_in b117 (by decide)) (fun v118 ev118 => ?_)
        refine mw_iconst dX10_lost_27 ki_m1 ?_
        refine mw_ixor dX10_lost_28 (fun v119 ev119 => ?_)
        refine mw_iand dX10_lost_29 (fun v120 ev120 => ?_)
        have b121 : mm_b (0) (127) v120 := bd_and ev120 b107 (by decide)
        refine mw_istore_n (ls' := [(1, .int v120), (0, .ref 0), (2, .int y108)]) dX10_lost_30 rfl (by decide) rfl ?_
        refine mw_iload_n dX10_lost_31 rfl 0 rfl ?_
        refine mw_aload_n dX10_lost_32 rfl 1 rfl ?_
        refine tw_getr (j := 2) dX10_lost_33 shM_0 rfl rfl (by decide) fX10_16 ?_
        refine mw_iconst dX10_lost_36 ki_0 ?_
        refine mw_iload_n dX10_lost_37 rfl 2 rfl ?_
        refine mw_iadd dX10_lost_38 (fun v122 ev122 => ?_)
        have b123 : mm_b (0) (6) v122 := bd_add ev122 n_0 b114 (by decide)
        refine tw_iald dX10_lost_39 shM_3 (bd_in b123 (by decide)) (fun v124 ev124 => ?_)
        have b125 : mm_b (0) (9) v124 := JIM_elt hI ev124 b123 tbM_30 (by decide)
        refine mw_bipush dX10_lost_40 kb_9 ?_
        refine mw_icmp_ne (tgt := 49) dX10_lost_42 (by decide) (fun q126 => ?_) (fun q126 => ?_)
        · skip
          have b127 : mm_b (0) (8) v124 := bd_ne_l q126 b125 n_9 (by decide)
          refine mw_iconst dX10_lost_49 ki_1 ?_
          refine mw_aload_n dX10_lost_50 rfl 1 rfl ?_
          refine tw_getr (j := 2) dX10_lost_51 shM_0 rfl rfl (by decide) fX10_16 ?_
          refine mw_iconst dX10_lost_54 ki_0 ?_
          refine mw_iload_n dX10_lost_55 rfl 2 rfl ?_
          refine mw_iadd dX10_lost_56 (fun v128 ev128 => ?_)
          have cv128 : v122 = v128 := ev122.trans ev128.symm
          subst cv128
          refine tw_iald dX10_lost_57 shM_3 (bd_in b123 (by decide)) (fun v129 ev129 => ?_)
          have cv129 : v124 = v129 := ev124.trans ev129.symm
          subst cv129
          refine mw_ishl dX10_lost_58 (fun v130 ev130 => ?_)
          have b131 : mm_b (1) (256) v130 := bd_shl 8 ev130 b127 (by decide)
          refine mw_iconst dX10_lost_59 ki_m1 ?_
          refine mw_ixor dX10_lost_60 (fun v132 ev132 => ?_)
          refine mw_iand dX10_lost_61 (fun v133 ev133 => ?_)
          have b134 : mm_b (0) (127) v133 := bd_and ev133 b121 (by decide)
          refine mw_istore_n (ls' := [(1, .int v133), (0, .ref 0), (2, .int y108)]) dX10_lost_62 rfl (by decide) rfl ?_
          refine mw_iinc (ls' := fun v => [(2, .int v), (1, .int v133), (0, .ref 0)]) dX10_lost_63 2 rfl (by decide) (fun _ => rfl) (fun v135 ev135 => ?_)
          have b136 : mm_b (1) (7) v135 := bd_inc ev135 b114 (by decide)
          refine mw_goto (tgt := 7) dX10_lost_66 (by decide) ?_
          refine mw_ls [2, 1, 0] rfl ?_
          exact ih7 v133 v135 (ms_inc ev135 b114 (by decide) hm110) b134 (bd_w b136 (by decide))
        · skip
          have b137 : mm_b (9) (9) v124 := bd_eq_l q126 b125 n_9 (by decide)
          refine mw_iconst dX10_lost_45 ki_m1 ?_
          refine mw_goto (tgt := 61) dX10_lost_46 (by decide) ?_
          refine mw_iand dX10_lost_61 (fun v138 ev138 => ?_)
          have b139 : mm_b (0) (127) v138 := bd_and ev138 b121 (by decide)
          refine mw_istore_n (ls' := [(1, .int v138), (0, .ref 0), (2, .int y108)]) dX10_lost_62 rfl (by decide) rfl ?_
          refine mw_iinc (ls' := fun v => [(2, .int v), (1, .int v138), (0, .ref 0)]) dX10_lost_63 2 rfl (by decide) (fun _ => rfl) (fun v140 ev140 => ?_)
          have b141 : mm_b (1) (7) v140 := bd_inc ev140 b114 (by decide)
          refine mw_goto (tgt := 7) dX10_lost_66 (by decide) ?_
          refine mw_ls [2, 1, 0] rfl ?_
          exact ih7 v138 v140 (ms_inc ev140 b114 (by decide) hm110) b139 (bd_w b141 (by decide))
  refine mw_ls [2, 1, 0] rfl ?_
  exact cut7 _ v103 (0 : Int32) (Nat.lt_succ_self _) b104 (bd_w n_0 (by decide))
set_option maxRecDepth 100000 in
set_option maxHeartbeats 4000000 in
theorem c_X10_openTo {g : mm_G} (S : mm_S) (hI : JM S) (x1 : Int32) : mc g yX10_openTo cX10_openTo 4 (some .int) (mm_rm 1) [.ref 0, .int x1] (mm_enc shM S) (qi shM (fun S1 v => S = S1 ∧ mm_b (0) (63) v ∧ (True))) := by
  refine mc_of2 (own := RX10) (ini := false) (ls := [(0, .ref 0), (1, .int x1)]) (by decide) (Nat.le_of_ble_eq_true rfl) rfl (by decide) rfl ?_
  refine mw_iconst dX10_openTo_0 ki_0 ?_
  refine mw_istore_n (ls' := [(2, .int 0), (0, .ref 0), (1, .int x1)]) dX10_openTo_1 rfl (by decide) rfl ?_
  refine mw_iconst dX10_openTo_2 ki_0 ?_
  refine mw_istore_n (ls' := [(3, .int 0), (2, .int 0), (0, .ref 0), (1, .int x1)]) dX10_openTo_3 rfl (by decide) rfl ?_
  have cut4 : ∀ (N4 : Nat) (y101 y103 : Int32), ((7 : Int) - y103.toInt).toNat < N4 → mm_b (0) (63) y101 → mm_b (0) (6) y103 → mw g RX10 cX10_openTo 4 (some .int) false (mm_rm 1) (qi shM (fun S1 v => S = S1 ∧ mm_b (0) (63) v ∧ (True))) 0 0 (mm_enc shM S) 4 [(0, .ref 0), (1, .int x1), (2, .int y101), (3, .int y103)] [] := by
    intro N4
    induction N4 with
    | zero =>
      intro y101 y103 hm105 b102 b104
      exact absurd hm105 (Nat.not_lt_zero _)
    | succ N4 ih4 =>
      intro y101 y103 hm105 b102 b104
      refine mw_iload_n dX10_openTo_4 rfl 3 rfl ?_
      refine mw_aload_n dX10_openTo_5 rfl 0 rfl ?_
      refine tw_getr (j := 0) dX10_openTo_6 shM_0 rfl rfl (by decide) fX10_7 ?_
      refine mw_iconst dX10_openTo_9 ki_1 ?_
      refine tw_iald dX10_openTo_10 shM_1 (bd_in n_1 (by decide)) (fun v106 ev106 => ?_)
      rw [cl_1] at ev106
      have b107 : mm_b (0) (6) v106 := JIM_fld hI ev106 tbM_17 (by decide)
      refine mw_icmp_ge (tgt := 52) dX10_openTo_11 (by decide) (fun q108 => ?_) (fun q108 => ?_)
      · skip
        refine mw_iload_n dX10_openTo_52 rfl 2 rfl ?_
        exact mw_iret rfl dX10_openTo_53 rfl rfl ⟨S, _, rfl, rfl, rfl, b102, trivial⟩
      · skip
        have b109 : mm_b (0) (5) y103 := bd_lt_l (bd_nle q108) b104 b107 (by decide)
        have b110 : mm_b (1) (6) v106 := bd_lt_r (bd_nle q108) b104 b107 (by decide)
        refine mw_iload_n dX10_openTo_14 rfl 2 rfl ?_
        refine mw_iload_n dX10_openTo_15 rfl 1 rfl ?_
        refine mw_bipush dX10_openTo_16 kb_9 ?_
        refine mw_icmp_eq (tgt := 43) dX10_openTo_18 (by decide) (fun q111 => ?_) (fun q111 => ?_)
        · skip
          have b112 : mm_b (9) (9) x1 := bd_eq_l q111 (bd_all x1) n_9 (by decide)
          refine mw_iconst dX10_openTo_43 ki_0 ?_
          refine mw_ior dX10_openTo_44 (fun v113 ev113 => ?_)
          have b114 : mm_b (0) (63) v113 := bd_or 6 ev113 b102 n_0 (by decide)
          refine mw_istore_n (ls' := [(2, .int v113), (0, .ref 0), (1, .int x1), (3, .int y103)]) dX10_openTo_45 rfl (by decide) rfl ?_
          refine mw_iinc (ls' := fun v => [(3, .int v), (2, .int v113), (0, .ref 0), (1, .int x1)]) dX10_openTo_46 3 rfl (by decide) (fun _ => rfl) (fun v115 ev115 => ?_)
          have b116 : mm_b (1) (6) v115 := bd_inc ev115 b109 (by decide)
          refine mw_goto (tgt := 4) dX10_openTo_49 (by decide) ?_
          refine mw_ls [2, 3, 1, 0] rfl ?_
          exact ih4 v113 v115 (ms_inc ev115 b109 (by decide) hm105) b114 (bd_w b116 (by decide))
        · skip
          refine mw_aload_n dX10_openTo_21 rfl 0 rfl ?_
          refine tw_getr (j := 0) dX10_openTo_22 shM_0 rfl rfl (by decide) fX10_7 ?_
          refine mw_bipush dX10_openTo_25 kb_25 ?_
          refine mw_iload_n dX10_openTo_27 rfl 3 rfl ?_
          refine mw_iadd dX10_openTo_28 (fun v117 ev117 => ?_)
          have b118 : mm_b (25) (30) v117 := bd_add ev117 n_25 b109 (by decide)
          refine tw_iald dX10_openTo_29 shM_1 (bd_in b118 (by decide)) (fun v119 ev119 => ?_)
          have b120 : mm_b (0) (127) v119 := JIM_elt hI ev119 b118 tbM_21 (by decide)
          refine mw_iload_n dX10_openTo_30 rfl 1 rfl ?_
          refine tc_Si (as := [.int v119, .int x1]) (st := [.int y101]) dX10_openTo_31 rfl mX10_134 t_X10_isIn rfl (Nat.le_of_ble_eq_true rfl) (by decide) (by decide) (c_X10_isIn (g := g) S hI v119 x1) (fun S121 v123 h122 => ?_)
          obtain ⟨rfl, b124, x125⟩ := h122
          refine mw_if_eq (tgt := 43) dX10_openTo_34 (by decide) (fun q126 => ?_) (fun q126 => ?_)
          · skip
            have b127 : mm_b (0) (0) v123 := bd_eq_l q126 b124 n_0 (by decide)
            refine mw_iconst dX10_openTo_43 ki_0 ?_
            refine mw_ior dX10_openTo_44 (fun v128 ev128 => ?_)
            have b129 : mm_b (0) (63) v128 := bd_or 6 ev128 b102 n_0 (by decide)
            refine mw_istore_n (ls' := [(2, .int v128), (0, .ref 0), (1, .int x1), (3, .int y103)]) dX10_openTo_45 rfl (by decide) rfl ?_
            refine mw_iinc (ls' := fun v => [(3, .int v), (2, .int v128), (0, .ref 0), (1, .int x1)]) dX10_openTo_46 3 rfl (by decide) (fun _ => rfl) (fun v130 ev130 => ?_)
            have b131 : mm_b (1) (6) v130 := bd_inc ev130 b109 (by decide)
            refine mw_goto (tgt := 4) dX10_openTo_49 (by decide) ?_
            refine mw_ls [2, 3, 1, 0] rfl ?_
            exact ih4 v128 v130 (ms_inc ev130 b109 (by decide) hm105) b129 (bd_w b131 (by decide))
          · skip
            have b132 : mm_b (1) (1) v123 := bd_ne_l q126 b124 n_0 (by decide)
            refine mw_iconst dX10_openTo_37 ki_1 ?_
            refine mw_iload_n dX10_openTo_38 rfl 3 rfl ?_
            refine mw_ishl dX10_openTo_39 (fun v133 ev133 => ?_)
            have b134 : mm_b (1) (32) v133 := bd_shl 5 ev133 b109 (by decide)
            refine mw_goto (tgt := 44) dX10_openTo_40 (by decide) ?_
            refine mw_ior dX10_openTo_44 (fun v135 ev135 => ?_)
            have b136 : mm_b (0) (63) v135 := bd_or 6 ev135 b102 b134 (by decide)
            refine mw_istore_n (ls' := [(2, .int v135), (0, .ref 0), (1, .int x1), (3, .int y103)]) dX10_openTo_45 rfl (by decide) rfl ?_
            refine mw_iinc (ls' := fun v => [(3, .int v), (2, .int v135), (0, .ref 0), (1, .int x1)]) dX10_openTo_46 3 rfl (by decide) (fun _ => rfl) (fun v137 ev137 => ?_)
            have b138 : mm_b (1) (6) v137 := bd_inc ev137 b109 (by decide)
            refine mw_goto (tgt := 4) dX10_openTo_49 (by decide) ?_
            refine mw_ls [2, 3, 1, 0] rfl ?_
            exact ih4 v135 v137 (ms_inc ev137 b109 (by decide) hm105) b136 (bd_w b138 (by decide))
  refine mw_ls [2, 3, 1, 0] rfl ?_
  exact cut4 _ (0 : Int32) (0 : Int32) (Nat.lt_succ_self _) (bd_w n_0 (by decide)) (bd_w n_0 (by decide))
set_option maxRecDepth 100000 in
set_option maxHeartbeats 4000000 in
theorem c_X10_told {g : mm_G} (S : mm_S) (hI : JM S) (x1 : Int32) : mc g yX10_told cX10_told 2 (some .int) (mm_rm 3) [.ref 0, .int x1] (mm_enc shM S) (qi shM (fun S1 v => S = S1 ∧ mm_b (-2147483648) (2147483647) v ∧ (True))) := by
  refine mc_of2 (own := RX10) (ini := false) (ls := [(0, .ref 0), (1, .int x1)]) (by decide) (Nat.le_of_ble_eq_true rfl) rfl (by decide) rfl ?_
  refine mw_iload_n dX10_told_0 rfl 1 rfl ?_
  rcases (by omega : (x1.toInt < 0 ∨ 11 < x1.toInt) ∨ x1.toInt = 0 ∨ x1.toInt = 1 ∨ x1.toInt = 2 ∨ x1.toInt = 3 ∨ x1.toInt = 4 ∨ x1.toInt = 5 ∨ x1.toInt = 6 ∨ x1.toInt = 7 ∨ x1.toInt = 8 ∨ x1.toInt = 9 ∨ x1.toInt = 10 ∨ x1.toInt = 11) with q101 | q101 | q101 | q101 | q101 | q101 | q101 | q101 | q101 | q101 | q101 | q101 | q101
  · refine mw_tableOut (tgt := 122) dX10_told_1 q101 (by decide) ?_
    refine mw_ldc dX10_told_122 kX10_84 ?_
    exact mw_iret rfl dX10_told_124 rfl rfl ⟨S, _, rfl, rfl, rfl, bd_w n_m1000000002 (by decide), trivial⟩
  · refine mw_tableIn (off := 63) (tgt := 64) dX10_told_1 (by omega) (by omega) (by rw [q101]; rfl) (by decide) ?_
    have b102 : mm_b (0) (0) x1 := ⟨by omega, by omega⟩
    refine mw_aload_n dX10_told_64 rfl 0 rfl ?_
    refine tw_getr (j := 0) dX10_told_65 shM_0 rfl rfl (by decide) fX10_7 ?_
    refine mw_iload_n dX10_told_68 rfl 1 rfl ?_
    refine tw_iald dX10_told_69 shM_1 (bd_in b102 (by decide)) (fun v103 ev103 => ?_)
    have b104 : mm_b (0) (7) v103 := JIM_elt hI ev103 b102 tbM_16 (by decide)
    exact mw_iret rfl dX10_told_70 rfl rfl ⟨S, _, rfl, rfl, rfl, bd_w b104 (by decide), trivial⟩
  · refine mw_tableIn (off := 63) (tgt := 64) dX10_told_1 (by omega) (by omega) (by rw [q101]; rfl) (by decide) ?_
    have b105 : mm_b (1) (1) x1 := ⟨by omega, by omega⟩
    refine mw_aload_n dX10_told_64 rfl 0 rfl ?_
    refine tw_getr (j := 0) dX10_told_65 shM_0 rfl rfl (by decide) fX10_7 ?_
    refine mw_iload_n dX10_told_68 rfl 1 rfl ?_
    refine tw_iald dX10_told_69 shM_1 (bd_in b105 (by decide)) (fun v106 ev106 => ?_)
    have b107 : mm_b (0) (6) v106 := JIM_elt hI ev106 b105 tbM_17 (by decide)
    exact mw_iret rfl dX10_told_70 rfl rfl ⟨S, _, rfl, rfl, rfl, bd_w b107 (by decide), trivial⟩
  · refine mw_tableIn (off := 63) (tgt := 64) dX10_told_1 (by omega) (by omega) (by rw [q101]; rfl) (by decide) ?_
    have b108 : mm_b (2) (2) x1 := ⟨by omega, by omega⟩
    refine mw_aload_n dX10_told_64 rfl 0 rfl ?_
    refine tw_getr (j := 0) dX10_told_65 shM_0 rfl rfl (by decide) fX10_7 ?_
    refine mw_iload_n dX10_told_68 rfl 1 rfl ?_
    refine tw_iald dX10_told_69 shM_1 (bd_in b108 (by decide)) (fun v109 ev109 => ?_)
    have b110 : mm_b (0) (6) v109 := JIM_elt hI ev109 b108 tbM_18 (by decide)
    exact mw_iret rfl dX10_told_70 rfl rfl ⟨S, _, rfl, rfl, rfl, bd_w b110 (by decide), trivial⟩
  · refine mw_tableIn (off := 70) (tgt := 71) dX10_told_1 (by omega) (by omega) (by rw [q101]; rfl) (by decide) ?_
    have b111 : mm_b (3) (3) x1 := ⟨by omega, by omega⟩
    refine mw_aload_n dX10_told_71 rfl 0 rfl ?_
    refine tw_geti (j := 10) dX10_told_72 shM_0 rfl rfl (by decide) fX10_85 (fun v112 ev112 => ?_)
    have b113 : mm_b (0) (240) v112 := JIM_fld hI ev112 tbM_2 (by decide)
    exact mw_iret rfl dX10_told_75 rfl rfl ⟨S, _, rfl, rfl, rfl, bd_w b113 (by decide), trivial⟩
  · refine mw_tableIn (off := 75) (tgt := 76) dX10_told_1 (by omega) (by omega) (by rw [q101]; rfl) (by decide) ?_
    have b114 : mm_b (4) (4) x1 := ⟨by omega, by omega⟩
    refine mw_aload_n dX10_told_76 rfl 0 rfl ?_
    refine tw_getr (j := 2) dX10_told_77 shM_0 rfl rfl (by decide) fX10_16 ?_
    refine mw_bipush dX10_told_80 kb_29 ?_
    refine tw_iald dX10_told_82 shM_3 (bd_in n_29 (by decide)) (fun v115 ev115 => ?_)
    rw [cl_29] at ev115
    exact mw_iret rfl dX10_told_83 rfl rfl ⟨S, _, rfl, rfl, rfl, (bd_all v115), trivial⟩
  · refine mw_tableIn (off := 83) (tgt := 84) dX10_told_1 (by omega) (by omega) (by rw [q101]; rfl) (by decide) ?_
    have b116 : mm_b (5) (5) x1 := ⟨by omega, by omega⟩
    refine mw_aload_n dX10_told_84 rfl 0 rfl ?_
    refine tw_getr (j := 2) dX10_told_85 shM_0 rfl rfl (by decide) fX10_16 ?_
    refine mw_bipush dX10_told_88 kb_28 ?_
    refine tw_iald dX10_told_90 shM_3 (bd_in n_28 (by decide)) (fun v117 ev117 => ?_)
    rw [cl_28] at ev117
    have b118 : mm_b (0) (127) v117 := JIM_fld hI ev117 tbM_32 (by decide)
    exact mw_iret rfl dX10_told_91 rfl rfl ⟨S, _, rfl, rfl, rfl, bd_w b118 (by decide), trivial⟩
  · refine mw_tableIn (off := 91) (tgt := 92) dX10_told_1 (by omega) (by omega) (by rw [q101]; rfl) (by decide) ?_
    have b119 : mm_b (6) (6) x1 := ⟨by omega, by omega⟩
    refine mw_aload_n dX10_told_92 rfl 0 rfl ?_
    refine tc_Vi (as := []) (st := []) dX10_told_93 rfl shM_0 rfl rfl mX10_173 t_X10_usesNone rfl (Nat.le_of_ble_eq_true rfl) (by decide) (by decide) (c_X10_usesNone (g := g) S hI) (fun S120 v122 h121 => ?_)
    obtain ⟨rfl, b123, x124⟩ := h121
    exact mw_iret rfl dX10_told_96 rfl rfl ⟨S, _, rfl, rfl, rfl, bd_w b123 (by decide), trivial⟩
  · refine mw_tableIn (off := 96) (tgt := 97) dX10_told_1 (by omega) (by omega) (by rw [q101]; rfl) (by decide) ?_
    have b125 : mm_b (7) (7) x1 := ⟨by omega, by omega⟩
    refine mw_aload_n dX10_told_97 rfl 0 rfl ?_
    refine tc_Vi (as := []) (st := []) dX10_told_98 rfl shM_0 rfl rfl mX10_176 t_X10_lost rfl (Nat.le_of_ble_eq_true rfl) (by decide) (by decide) (c_X10_lost (g := g) S hI) (fun S126 v128 h127 => ?_)
    obtain ⟨rfl, b129, x130⟩ := h127
    exact mw_iret rfl dX10_told_101 rfl rfl ⟨S, _, rfl, rfl, rfl, bd_w b129 (by decide), trivial⟩
  · refine mw_tableIn (off := 101) (tgt := 102) dX10_told_1 (by omega) (by omega) (by rw [q101]; rfl) (by decide) ?_
    have b131 : mm_b (8) (8) x1 := ⟨by omega, by omega⟩
    refine mw_aload_n dX10_told_102 rfl 0 rfl ?_
    refine tw_geti (j := 13) dX10_told_103 shM_0 rfl rfl (by decide) fX10_73 (fun v132 ev132 => ?_)
    have b133 : mm_b (0) (6) v132 := JIM_fld hI ev132 tbM_3 (by decide)
    exact mw_iret rfl dX10_told_106 rfl rfl ⟨S, _, rfl, rfl, rfl, bd_w b133 (by decide), trivial⟩
  · refine mw_tableIn (off := 106) (tgt := 107) dX10_told_1 (by omega) (by omega) (by rw [q101]; rfl) (by decide) ?_
    have b134 : mm_b (9) (9) x1 := ⟨by omega, by omega⟩
    refine mw_aload_n dX10_told_107 rfl 0 rfl ?_
    refine tw_geti (j := 15) dX10_told_108 shM_0 rfl rfl (by decide) fX10_76 (fun v135 ev135 => ?_)
    have b136 : mm_b (0) (6) v135 := JIM_fld hI ev135 tbM_4 (by decide)
    exact mw_iret rfl dX10_told_111 rfl rfl ⟨S, _, rfl, rfl, rfl, bd_w b136 (by decide), trivial⟩
  · refine mw_tableIn (off := 111) (tgt := 112) dX10_told_1 (by omega) (by omega) (by rw [q101]; rfl) (by decide) ?_
    have b137 : mm_b (10) (10) x1 := ⟨by omega, by omega⟩
    refine mw_aload_n dX10_told_112 rfl 0 rfl ?_
    refine tw_geti (j := 17) dX10_told_113 shM_0 rfl rfl (by decide) fX10_79 (fun v138 ev138 => ?_)
    have b139 : mm_b (0) (15) v138 := JIM_fld hI ev138 tbM_5 (by decide)
    exact mw_iret rfl dX10_told_116 rfl rfl ⟨S, _, rfl, rfl, rfl, bd_w b139 (by decide), trivial⟩
  · refine mw_tableIn (off := 116) (tgt := 117) dX10_told_1 (by omega) (by omega) (by rw [q101]; rfl) (by decide) ?_
    have b140 : mm_b (11) (11) x1 := ⟨by omega, by omega⟩
    refine mw_aload_n dX10_told_117 rfl 0 rfl ?_
    refine tw_geti (j := 5) dX10_told_118 shM_0 rfl rfl (by decide) fX10_70 (fun v141 ev141 => ?_)
    have b142 : mm_b (0) (20) v141 := JIM_fld hI ev141 tbM_1 (by decide)
    exact mw_iret rfl dX10_told_121 rfl rfl ⟨S, _, rfl, rfl, rfl, bd_w b142 (by decide), trivial⟩
set_option maxRecDepth 100000 in
set_option maxHeartbeats 4000000 in
theorem c_X10_person {g : mm_G} (S : mm_S) (hI : JM S) (x1 : Int32) (x2 : Int32) : mc g yX10_person cX10_person 3 (some .int) (mm_rm 2) [.ref 0, .int x1, .int x2] (mm_enc shM S) (qi shM (fun S1 v => S = S1 ∧ mm_b (-2147483648) (2147483647) v ∧ (True))) := by
  refine mc_of2 (own := RX10) (ini := false) (ls := [(0, .ref 0), (1, .int x1), (2, .int x2)]) (by decide) (Nat.le_of_ble_eq_true rfl) rfl (by decide) rfl ?_
  refine mw_aload_n dX10_person_0 rfl 0 rfl ?_
  refine mw_iload_n dX10_person_1 rfl 1 rfl ?_
  refine tc_Vi (as := [.int x1]) (st := []) dX10_person_2 rfl shM_0 rfl rfl mX10_179 t_X10_isPerson rfl (Nat.le_of_ble_eq_true rfl) (by decide) (by decide) (c_X10_isPerson (g := g) S hI x1) (fun S101 v103 h102 => ?_)
  obtain ⟨rfl, b104, x105⟩ := h102
  refine mw_if_ne (tgt := 11) dX10_person_5 (by decide) (fun q106 => ?_) (fun q106 => ?_)
  · skip
    have b107 : mm_b (1) (1) v103 := bd_ne_l q106 b104 n_0 (by decide)
    have b108 := Or.resolve_left x105 q106
    refine mw_iload_n dX10_person_11 rfl 2 rfl ?_
    rcases (by omega : (x2.toInt < 0 ∨ 5 < x2.toInt) ∨ x2.toInt = 0 ∨ x2.toInt = 1 ∨ x2.toInt = 2 ∨ x2.toInt = 3 ∨ x2.toInt = 4 ∨ x2.toInt = 5) with q109 | q109 | q109 | q109 | q109 | q109 | q109
    · refine mw_tableOut (tgt := 93) dX10_person_12 q109 (by decide) ?_
      refine mw_ldc dX10_person_93 kX10_84 ?_
      exact mw_iret rfl dX10_person_95 rfl rfl ⟨S, _, rfl, rfl, rfl, bd_w n_m1000000002 (by decide), trivial⟩
    · refine mw_tableIn (off := 40) (tgt := 52) dX10_person_12 (by omega) (by omega) (by rw [q109]; rfl) (by decide) ?_
      have b110 : mm_b (0) (0) x2 := ⟨by omega, by omega⟩
      refine mw_aload_n dX10_person_52 rfl 0 rfl ?_
      refine tw_getr (j := 2) dX10_person_53 shM_0 rfl rfl (by decide) fX10_16 ?_
      refine mw_iconst dX10_person_56 ki_0 ?_
      refine mw_bipush dX10_person_57 kb_7 ?_
      refine mw_iload_n dX10_person_59 rfl 2 rfl ?_
      refine mw_imul dX10_person_60 (fun v111 ev111 => ?_)
      have b112 : mm_b (0) (0) v111 := bd_mul ev111 n_7 b110 (by decide)
      refine mw_iadd dX10_person_61 (fun v113 ev113 => ?_)
      have b114 : mm_b (0) (0) v113 := bd_add ev113 n_0 b112 (by decide)
      refine mw_iload_n dX10_person_62 rfl 1 rfl ?_
      refine mw_iadd dX10_person_63 (fun v115 ev115 => ?_)
      have b116 : mm_b (0) (6) v115 := bd_add ev115 b114 b108 (by decide)
      refine tw_iald dX10_person_64 shM_3 (bd_in b116 (by decide)) (fun v117 ev117 => ?_)
      have b118 : mm_b (0) (9) v117 := JIM_elt hI ev117 b116 tbM_30 (by decide)
      exact mw_iret rfl dX10_person_65 rfl rfl ⟨S, _, rfl, rfl, rfl, bd_w b118 (by decide), trivial⟩
    · refine mw_tableIn (off := 40) (tgt := 52) dX10_person_12 (by omega) (by omega) (by rw [q109]; rfl) (by decide) ?_
      have b119 : mm_b (1) (1) x2 := ⟨by omega, by omega⟩
      refine mw_aload_n dX10_person_52 rfl 0 rfl ?_
      refine tw_getr (j := 2) dX10_person_53 shM_0 rfl rfl (by decide) fX10_16 ?_
      refine mw_iconst dX10_person_56 ki_0 ?_
      refine mw_bipush dX10_person_57 kb_7 ?_
      refine mw_iload_n dX10_person_59 rfl 2 rfl ?_
      refine mw_imul dX10_person_60 (fun v120 ev120 => ?_)
      have b121 : mm_b (7) (7) v120 := bd_mul ev120 n_7 b119 (by decide)
      refine mw_iadd dX10_person_61 (fun v122 ev122 => ?_)
      have b123 : mm_b (7) (7) v122 := bd_add ev122 n_0 b121 (by decide)
      refine mw_iload_n dX10_person_62 rfl 1 rfl ?_
      refine mw_iadd dX10_person_63 (fun v124 ev124 => ?_)
      have b125 : mm_b (7) (13) v124 := bd_add ev124 b123 b108 (by decide)
      refine tw_iald dX10_person_64 shM_3 (bd_in b125 (by decide)) (fun v126 ev126 => ?_)
      exact mw_iret rfl dX10_person_65 rfl rfl ⟨S, _, rfl, rfl, rfl, (bd_all v126), trivial⟩
    · refine mw_tableIn (off := 40) (tgt := 52) dX10_person_12 (by omega) (by omega) (by rw [q109]; rfl) (by decide) ?_
      have b127 : mm_b (2) (2) x2 := ⟨by omega, by omega⟩
      refine mw_aload_n dX10_person_52 rfl 0 rfl ?_
      refine tw_getr (j := 2) dX10_person_53 shM_0 rfl rfl (by decide) fX10_16 ?_
      refine mw_iconst dX10_person_56 ki_0 ?_
      refine mw_bipush dX10_person_57 kb_7 ?_
      refine mw_iload_n dX10_person_59 rfl 2 rfl ?_
      refine mw_imul dX10_person_60 (fun v128 ev128 => ?_)
      have b129 : mm_b (14) (14) v128 := bd_mul ev128 n_7 b127 (by decide)
      refine mw_iadd dX10_person_61 (fun v130 ev130 => ?_)
      have b131 : mm_b (14) (14) v130 := bd_add ev130 n_0 b129 (by decide)
      refine mw_iload_n dX10_person_62 rfl 1 rfl ?_
      refine mw_iadd dX10_person_63 (fun v132 ev132 => ?_)
      have b133 : mm_b (14) (20) v132 := bd_add ev132 b131 b108 (by decide)
      refine tw_iald dX10_person_64 shM_3 (bd_in b133 (by decide)) (fun v134 ev134 => ?_)
      have b135 : mm_b (0) (9) v134 := JIM_elt hI ev134 b133 tbM_31 (by decide)
      exact mw_iret rfl dX10_person_65 rfl rfl ⟨S, _, rfl, rfl, rfl, bd_w b135 (by decide), trivial⟩
    · refine mw_tableIn (off := 40) (tgt := 52) dX10_person_12 (by omega) (by omega) (by rw [q109]; rfl) (by decide) ?_
      have b136 : mm_b (3) (3) x2 := ⟨by omega, by omega⟩
      refine mw_aload_n dX10_person_52 rfl 0 rfl ?_
      refine tw_getr (j := 2) dX10_person_53 shM_0 rfl rfl (by decide) fX10_16 ?_
      refine mw_iconst dX10_person_56 ki_0 ?_
      refine mw_bipush dX10_person_57 kb_7 ?_
      refine mw_iload_n dX10_person_59 rfl 2 rfl ?_
      refine mw_imul dX10_person_60 (fun v137 ev137 => ?_)
      have b138 : mm_b (21) (21) v137 := bd_mul ev137 n_7 b136 (by decide)
      refine mw_iadd dX10_person_61 (fun v139 ev139 => ?_)
      have b140 : mm_b (21) (21) v139 := bd_add ev139 n_0 b138 (by decide)
      refine mw_iload_n dX10_person_62 rfl 1 rfl ?_
      refine mw_iadd dX10_person_63 (fun v141 ev141 => ?_)
      have b142 : mm_b (21) (27) v141 := bd_add ev141 b140 b108 (by decide)
      refine tw_iald dX10_person_64 shM_3 (bd_in b142 (by decide)) (fun v143 ev143 => ?_)
      have b144 : mm_b (0) (9) v143 := JIM_elt hI ev143 b142 tbM_31 (by decide)
      exact mw_iret rfl dX10_person_65 rfl rfl ⟨S, _, rfl, rfl, rfl, bd_w b144 (by decide), trivial⟩
    · refine mw_tableIn (off := 54) (tgt := 66) dX10_person_12 (by omega) (by omega) (by rw [q109]; rfl) (by decide) ?_
      have b145 : mm_b (4) (4) x2 := ⟨by omega, by omega⟩
      refine mw_aload_n dX10_person_66 rfl 0 rfl ?_
      refine mw_aload_n dX10_person_67 rfl 0 rfl ?_
      refine tw_getr (j := 2) dX10_person_68 shM_0 rfl rfl (by decide) fX10_16 ?_
      refine mw_iconst dX10_person_71 ki_0 ?_
      refine mw_iload_n dX10_person_72 rfl 1 rfl ?_
      refine mw_iadd dX10_person_73 (fun v146 ev146 => ?_)
      have b147 : mm_b (0) (6) v146 := bd_add ev146 n_0 b108 (by decide)
      refine tw_iald dX10_person_74 shM_3 (bd_in b147 (by decide)) (fun v148 ev148 => ?_)
      have b149 : mm_b (0) (9) v148 := JIM_elt hI ev148 b147 tbM_30 (by decide)
      refine tc_Vi (as := [.int v148]) (st := []) dX10_person_75 rfl shM_0 rfl rfl mX10_183 t_X10_openTo rfl (Nat.le_of_ble_eq_true rfl) (by decide) (by decide) (c_X10_openTo (g := g) S hI v148) (fun S150 v152 h151 => ?_)
      obtain ⟨rfl, b153, x154⟩ := h151
      exact mw_iret rfl dX10_person_78 rfl rfl ⟨S, _, rfl, rfl, rfl, bd_w b153 (by decide), trivial⟩
    · refine mw_tableIn (off := 67) (tgt := 79) dX10_person_12 (by omega) (by omega) (by rw [q109]; rfl) (by decide) ?_
      have b155 : mm_b (5) (5) x2 := ⟨by omega, by omega⟩
      refine mw_aload_n dX10_person_79 rfl 0 rfl ?_
      refine mw_iload_n dX10_person_80 rfl 1 rfl ?_
      refine tc_Vi (as := [.int x1]) (st := []) dX10_person_81 rfl shM_0 rfl rfl mX10_167 t_X10_isAlive rfl (Nat.le_of_ble_eq_true rfl) (by decide) (by decide) (c_X10_isAlive (g := g) S hI x1) (fun S156 v158 h157 => ?_)
      obtain ⟨rfl, b159, x160⟩ := h157
      refine mw_if_eq (tgt := 91) dX10_person_84 (by decide) (fun q161 => ?_) (fun q161 => ?_)
      · skip
        have b162 : mm_b (0) (0) v158 := bd_eq_l q161 b159 n_0 (by decide)
        refine mw_iconst dX10_person_91 ki_0 ?_
        exact mw_iret rfl dX10_person_92 rfl rfl ⟨S, _, rfl, rfl, rfl, bd_w n_0 (by decide), trivial⟩
      · skip
        have b163 : mm_b (1) (1) v158 := bd_ne_l q161 b159 n_0 (by decide)
        refine mw_iconst dX10_person_87 ki_1 ?_
        refine mw_goto (tgt := 92) dX10_person_88 (by decide) ?_
        exact mw_iret rfl dX10_person_92 rfl rfl ⟨S, _, rfl, rfl, rfl, bd_w n_1 (by decide), trivial⟩
  · skip
    have b164 : mm_b (0) (0) v103 := bd_eq_l q106 b104 n_0 (by decide)
    refine mw_ldc dX10_person_8 kX10_182 ?_
    exact mw_iret rfl dX10_person_10 rfl rfl ⟨S, _, rfl, rfl, rfl, bd_w n_m1000000001 (by decide), trivial⟩
set_option maxRecDepth 100000 in
set_option maxHeartbeats 4000000 in
theorem c_X10_range {g : mm_G} (S : mm_S) (hI : JM S) (x1 : Int32) : mc g yX10_range cX10_range 2 (some .int) (mm_rm 2) [.ref 0, .int x1] (mm_enc shM S) (qi shM (fun S1 v => S = S1 ∧ mm_b (-1000000001) (9) v ∧ (True))) := by
  refine mc_of2 (own := RX10) (ini := false) (ls := [(0, .ref 0), (1, .int x1)]) (by decide) (Nat.le_of_ble_eq_true rfl) rfl (by decide) rfl ?_
  refine mw_aload_n dX10_range_0 rfl 0 rfl ?_
  refine mw_iload_n dX10_range_1 rfl 1 rfl ?_
  refine tc_Vi (as := [.int x1]) (st := []) dX10_range_2 rfl shM_0 rfl rfl mX10_179 t_X10_isPerson rfl (Nat.le_of_ble_eq_true rfl) (by decide) (by decide) (c_X10_isPerson (g := g) S hI x1) (fun S101 v103 h102 => ?_)
  obtain ⟨rfl, b104, x105⟩ := h102
  refine mw_if_eq (tgt := 19) dX10_range_5 (by decide) (fun q106 => ?_) (fun q106 => ?_)
  · skip
    have b107 : mm_b (0) (0) v103 := bd_eq_l q106 b104 n_0 (by decide)
    refine mw_ldc dX10_range_19 kX10_182 ?_
    exact mw_iret rfl dX10_range_21 rfl rfl ⟨S, _, rfl, rfl, rfl, bd_w n_m1000000001 (by decide), trivial⟩
  · skip
    have b108 : mm_b (1) (1) v103 := bd_ne_l q106 b104 n_0 (by decide)
    have b109 := Or.resolve_left x105 q106
    refine mw_aload_n dX10_range_8 rfl 0 rfl ?_
    refine tw_getr (j := 0) dX10_range_9 shM_0 rfl rfl (by decide) fX10_7 ?_
    refine mw_iconst dX10_range_12 ki_3 ?_
    refine mw_iload_n dX10_range_13 rfl 1 rfl ?_
    refine mw_iadd dX10_range_14 (fun v110 ev110 => ?_)
    have b111 : mm_b (3) (9) v110 := bd_add ev110 n_3 b109 (by decide)
    refine tw_iald dX10_range_15 shM_1 (bd_in b111 (by decide)) (fun v112 ev112 => ?_)
    have b113 : mm_b (0) (9) v112 := JIM_elt hI ev112 b111 tbM_19 (by decide)
    refine mw_goto (tgt := 21) dX10_range_16 (by decide) ?_
    exact mw_iret rfl dX10_range_21 rfl rfl ⟨S, _, rfl, rfl, rfl, bd_w b113 (by decide), trivial⟩
set_option maxRecDepth 100000 in
set_option maxHeartbeats 4000000 in
theorem c_X10_door {g : mm_G} (S : mm_S) (hI : JM S) (x1 : Int32) : mc g yX10_door cX10_door 2 (some .int) (mm_rm 1) [.ref 0, .int x1] (mm_enc shM S) (qi shM (fun S1 v => S = S1 ∧ mm_b (-1000000001) (127) v ∧ (True))) := by
  refine mc_of2 (own := RX10) (ini := false) (ls := [(0, .ref 0), (1, .int x1)]) (by decide) (Nat.le_of_ble_eq_true rfl) rfl (by decide) rfl ?_
  refine mw_iload_n dX10_door_0 rfl 1 rfl ?_
  refine mw_i2l dX10_door_1 (fun w101 ew101 => ?_)
  have b102 : mm_bl (-2147483648) (2147483647) w101 := bl_i2l ew101 (bd_all x1)
  refine mw_lconst (v := 0) dX10_door_2 (by decide) ?_
  refine mw_aload_n dX10_door_3 rfl 0 rfl ?_
  refine tw_getr (j := 0) dX10_door_4 shM_0 rfl rfl (by decide) fX10_7 ?_
  refine mw_iconst dX10_door_7 ki_1 ?_
  refine tw_iald dX10_door_8 shM_1 (bd_in n_1 (by decide)) (fun v103 ev103 => ?_)
  rw [cl_1] at ev103
  have b104 : mm_b (0) (6) v103 := JIM_fld hI ev103 tbM_17 (by decide)
  refine mw_iconst dX10_door_9 ki_1 ?_
  refine mw_isub dX10_door_10 (fun v105 ev105 => ?_)
  have b106 : mm_b (-1) (5) v105 := bd_sub ev105 b104 n_1 (by decide)
  refine mw_i2l dX10_door_11 (fun w107 ew107 => ?_)
  have b108 : mm_bl (-1) (5) w107 := bl_i2l ew107 b106
  refine tc_Si (as := [.long w101, .long 0, .long w107]) (st := []) dX10_door_12 rfl mX10_62 t_X10_in rfl (Nat.le_of_ble_eq_true rfl) (by decide) (by decide) (c_X10_in (g := g) S hI w101 (0 : Int64) w107) (fun S109 v111 h110 => ?_)
  obtain ⟨rfl, b112, x113⟩ := h110
  have x114 := in_use (lo := 0) (hi := 5) x113 ew101 L_0 b108 (by decide)
  refine mw_if_eq (tgt := 30) dX10_door_15 (by decide) (fun q115 => ?_) (fun q115 => ?_)
  · skip
    have b116 : mm_b (0) (0) v111 := bd_eq_l q115 b112 n_0 (by decide)
    refine mw_ldc dX10_door_30 kX10_182 ?_
    exact mw_iret rfl dX10_door_32 rfl rfl ⟨S, _, rfl, rfl, rfl, bd_w n_m1000000001 (by decide), trivial⟩
  · skip
    have b117 : mm_b (1) (1) v111 := bd_ne_l q115 b112 n_0 (by decide)
    have b118 := Or.resolve_left x114 q115
    refine mw_aload_n dX10_door_18 rfl 0 rfl ?_
    refine tw_getr (j := 0) dX10_door_19 shM_0 rfl rfl (by decide) fX10_7 ?_
    refine mw_bipush dX10_door_22 kb_25 ?_
    refine mw_iload_n dX10_door_24 rfl 1 rfl ?_
    refine mw_iadd dX10_door_25 (fun v119 ev119 => ?_)
    have b120 : mm_b (25) (30) v119 := bd_add ev119 n_25 b118 (by decide)
    refine tw_iald dX10_door_26 shM_1 (bd_in b120 (by decide)) (fun v121 ev121 => ?_)
    have b122 : mm_b (0) (127) v121 := JIM_elt hI ev121 b120 tbM_21 (by decide)
    refine mw_goto (tgt := 32) dX10_door_27 (by decide) ?_
    exact mw_iret rfl dX10_door_32 rfl rfl ⟨S, _, rfl, rfl, rfl, bd_w b122 (by decide), trivial⟩
set_option maxRecDepth 100000 in
set_option maxHeartbeats 4000000 in
theorem c_X10_maySell {g : mm_G} (S : mm_S) (hI : JM S) (x1 : Int32) (h1 : mm_b (0) (6) x1) (x2 : Int32) (h2 : mm_b (0) (6) x2) : mc g yX10_maySell cX10_maySell 3 (some .boolean) (mm_rm 2) [.ref 0, .int x1, .int x2] (mm_enc shM S) (qi shM (fun S1 v => S = S1 ∧ mm_b (0) (1) v ∧ (True))) := by
  refine mc_of2 (own := RX10) (ini := false) (ls := [(0, .ref 0), (1, .int x1), (2, .int x2)]) (by decide) (Nat.le_of_ble_eq_true rfl) rfl (by decide) rfl ?_
  refine mw_iload_n dX10_maySell_0 rfl 1 rfl ?_
  refine mw_iload_n dX10_maySell_1 rfl 2 rfl ?_
  refine mw_icmp_eq (tgt := 38) dX10_maySell_2 (by decide) (fun q101 => ?_) (fun q101 => ?_)
  · skip
    refine mw_iconst dX10_maySell_38 ki_0 ?_
    exact mw_zret rfl (bd_nar n_0 (by decide)) dX10_maySell_39 rfl rfl ⟨S, _, rfl, rfl, rfl, bd_w n_0 (by decide), trivial⟩
  · skip
    refine mw_aload_n dX10_maySell_5 rfl 0 rfl ?_
    refine mw_iload_n dX10_maySell_6 rfl 1 rfl ?_
    refine tc_Vi (as := [.int x1]) (st := []) dX10_maySell_7 rfl shM_0 rfl rfl mX10_167 t_X10_isAlive rfl (Nat.le_of_ble_eq_true rfl) (by decide) (by decide) (c_X10_isAlive (g := g) S hI x1) (fun S102 v104 h103 => ?_)
    obtain ⟨rfl, b105, x106⟩ := h103
    refine mw_if_eq (tgt := 38) dX10_maySell_10 (by decide) (fun q107 => ?_) (fun q107 => ?_)
    · skip
      have b108 : mm_b (0) (0) v104 := bd_eq_l q107 b105 n_0 (by decide)
      refine mw_iconst dX10_maySell_38 ki_0 ?_
      exact mw_zret rfl (bd_nar n_0 (by decide)) dX10_maySell_39 rfl rfl ⟨S, _, rfl, rfl, rfl, bd_w n_0 (by decide), trivial⟩
    · skip
      have b109 : mm_b (1) (1) v104 := bd_ne_l q107 b105 n_0 (by decide)
      refine mw_aload_n dX10_maySell_13 rfl 0 rfl ?_
      refine mw_iload_n dX10_maySell_14 rfl 2 rfl ?_
      refine tc_Vi (as := [.int x2]) (st := []) dX10_maySell_15 rfl shM_0 rfl rfl mX10_167 t_X10_isAlive rfl (Nat.le_of_ble_eq_true rfl) (by decide) (by decide) (c_X10_isAlive (g := g) S hI x2) (fun S110 v112 h111 => ?_)
      obtain ⟨rfl, b113, x114⟩ := h111
      refine mw_if_eq (tgt := 38) dX10_maySell_18 (by decide) (fun q115 => ?_) (fun q115 => ?_)
      · skip
        have b116 : mm_b (0) (0) v112 := bd_eq_l q115 b113 n_0 (by decide)
        refine mw_iconst dX10_maySell_38 ki_0 ?_
        exact mw_zret rfl (bd_nar n_0 (by decide)) dX10_maySell_39 rfl rfl ⟨S, _, rfl, rfl, rfl, bd_w n_0 (by decide), trivial⟩
      · skip
        have b117 : mm_b (1) (1) v112 := bd_ne_l q115 b113 n_0 (by decide)
        refine mw_aload_n dX10_maySell_21 rfl 0 rfl ?_
        refine tw_getr (j := 2) dX10_maySell_22 shM_0 rfl rfl (by decide) fX10_16 ?_
        refine mw_iconst dX10_maySell_25 ki_0 ?_
        refine mw_iload_n dX10_maySell_26 rfl 1 rfl ?_
        refine mw_iadd dX10_maySell_27 (fun v118 ev118 => ?_)
        have b119 : mm_b (0) (6) v118 := bd_add ev118 n_0 h1 (by decide)
        refine tw_iald dX10_maySell_28 shM_3 (bd_in b119 (by decide)) (fun v120 ev120 => ?_)
        have b121 : mm_b (0) (9) v120 := JIM_elt hI ev120 b119 tbM_30 (by decide)
        refine mw_bipush dX10_maySell_29 kb_9 ?_
        refine mw_icmp_eq (tgt := 38) dX10_maySell_31 (by decide) (fun q122 => ?_) (fun q122 => ?_)
        · skip
          have b123 : mm_b (9) (9) v120 := bd_eq_l q122 b121 n_9 (by decide)
          refine mw_iconst dX10_maySell_38 ki_0 ?_
          exact mw_zret rfl (bd_nar n_0 (by decide)) dX10_maySell_39 rfl rfl ⟨S, _, rfl, rfl, rfl, bd_w n_0 (by decide), trivial⟩
        · skip
          have b124 : mm_b (0) (8) v120 := bd_ne_l q122 b121 n_9 (by decide)
          refine mw_iconst dX10_maySell_34 ki_1 ?_
          refine mw_goto (tgt := 39) dX10_maySell_35 (by decide) ?_
          exact mw_zret rfl (bd_nar n_1 (by decide)) dX10_maySell_39 rfl rfl ⟨S, _, rfl, rfl, rfl, bd_w n_1 (by decide), trivial⟩
set_option maxRecDepth 100000 in
set_option maxHeartbeats 4000000 in
theorem c_X10_sells {g : mm_G} (S : mm_S) (hI : JM S) (x1 : Int32) (h1 : mm_b (0) (6) x1) (x2 : Int32) (h2 : mm_b (0) (6) x2) : mc g yX10_sells cX10_sells 4 none (mm_rm 2) [.ref 0, .int x1, .int x2] (mm_enc shM S) (qv shM (fun S1 => JM S1 ∧ fr [3] [] true true S S1 ∧ True)) := by
  refine mc_of2 (own := RX10) (ini := false) (ls := [(0, .ref 0), (1, .int x1), (2, .int x2)]) (by decide) (Nat.le_of_ble_eq_true rfl) rfl (by decide) rfl ?_
  have hF : fr [3] [] true true S S := fr_rf
  refine mw_aload_n dX10_sells_0 rfl 0 rfl ?_
  refine mw_aload_n dX10_sells_1 rfl 0 rfl ?_
  refine tw_getr (j := 2) dX10_sells_2 shM_0 rfl rfl (by decide) fX10_16 ?_
  refine mw_iload_n dX10_sells_5 rfl 2 rfl ?_
  refine mw_aload_n dX10_sells_6 rfl 0 rfl ?_
  refine tw_getr (j := 2) dX10_sells_7 shM_0 rfl rfl (by decide) fX10_16 ?_
  refine mw_iconst dX10_sells_10 ki_0 ?_
  refine mw_iload_n dX10_sells_11 rfl 1 rfl ?_
  refine mw_iadd dX10_sells_12 (fun v101 ev101 => ?_)
  have b102 : mm_b (0) (6) v101 := bd_add ev101 n_0 h1 (by decide)
  refine tw_iald dX10_sells_13 shM_3 (bd_in b102 (by decide)) (fun v103 ev103 => ?_)
  have b104 : mm_b (0) (9) v103 := JIM_elt hI ev103 b102 tbM_30 (by decide)
  refine tc_Vv (as := [.ref 3, .int x2, .int v103]) (st := []) dX10_sells_14 rfl shM_0 rfl rfl mX10_163 t_X10_gets rfl (Nat.le_of_ble_eq_true rfl) (by decide) (by decide) (c_X10_gets3 (g := g) S hI x2 h2 v103 b104) (fun S105 h106 => ?_)
  obtain ⟨hI108, hf109, x107⟩ := h106
  have hF110 := fr_tr hF hf109 (by decide) (by decide) (by decide) (by decide)
  refine mw_aload_n dX10_sells_17 rfl 0 rfl ?_
  refine tw_getr (j := 2) dX10_sells_18 shM_0 rfl rfl (by decide) fX10_16 ?_
  refine mw_bipush dX10_sells_21 kb_7 ?_
  refine mw_iload_n dX10_sells_23 rfl 1 rfl ?_
  refine mw_iadd dX10_sells_24 (fun v111 ev111 => ?_)
  have b112 : mm_b (7) (13) v111 := bd_add ev111 n_7 h1 (by decide)
  refine tw_iald dX10_sells_25 shM_3 (bd_in b112 (by decide)) (fun v113 ev113 => ?_)
  refine tc_Si (as := [.int v113]) (st := []) dX10_sells_26 rfl mX10_195 t_X10_leastOf rfl (Nat.le_of_ble_eq_true rfl) (by decide) (by decide) (c_X10_leastOf (g := g) S105 hI108 v113) (fun S114 v116 h115 => ?_)
  obtain ⟨rfl, b117, x118⟩ := h115
  refine mw_istore_n (ls' := [(3, .int v116), (0, .ref 0), (1, .int x1), (2, .int x2)]) dX10_sells_29 rfl (by decide) rfl ?_
  refine mw_aload_n dX10_sells_30 rfl 1 rfl ?_
  refine tw_getr (j := 2) dX10_sells_31 shM_0 rfl rfl (by decide) fX10_16 ?_
  refine mw_iconst dX10_sells_34 ki_0 ?_
  refine mw_iload_n dX10_sells_35 rfl 2 rfl ?_
  refine mw_iadd dX10_sells_36 (fun v119 ev119 => ?_)
  have cv119 : v101 = v119 := ev101.trans ev119.symm
  subst cv119
  refine mw_iload_n dX10_sells_37 rfl 0 rfl ?_
  refine tw_iast dX10_sells_38 shM_3 (bd_in b102 (by decide)) ?_
  have hI120 : JM (mm_up S105 3 v101.toNatClampNeg v116) := JIM_puta hI108 b117 b102 (by decide) (by decide +kernel)
  generalize hS121 : (mm_up S105 3 v101.toNatClampNeg v116) = S121 at hI120 ⊢
  have hF122 := fr_upA hF110 hS121 (by decide)
  refine mw_aload_n dX10_sells_39 rfl 1 rfl ?_
  refine tw_getr (j := 2) dX10_sells_40 shM_0 rfl rfl (by decide) fX10_16 ?_
  refine mw_bipush dX10_sells_43 kb_7 ?_
  refine mw_iload_n dX10_sells_45 rfl 2 rfl ?_
  refine mw_iadd dX10_sells_46 (fun v123 ev123 => ?_)
  have cv123 : v111 = v123 := ev111.trans ev123.symm
  subst cv123
  refine mw_dup2 dX10_sells_47 rfl rfl ?_
  refine tw_iald dX10_sells_48 shM_3 (bd_in b112 (by decide)) (fun v124 ev124 => ?_)
  refine mw_iload_n dX10_sells_49 rfl 0 rfl ?_
  refine mw_bipush dX10_sells_50 kb_9 ?_
  refine mw_icmp_ne (tgt := 59) dX10_sells_52 (by decide) (fun q125 => ?_) (fun q125 => ?_)
  · skip
    have b126 : mm_b (0) (8) v116 := bd_ne_l q125 b117 n_9 (by decide)
    refine mw_iconst dX10_sells_59 ki_1 ?_
    refine mw_iload_n dX10_sells_60 rfl 0 rfl ?_
    refine mw_ishl dX10_sells_61 (fun v127 ev127 => ?_)
    have b128 : mm_b (1) (256) v127 := bd_shl 8 ev127 b126 (by decide)
    refine mw_iconst dX10_sells_62 ki_m1 ?_
    refine mw_ixor dX10_sells_63 (fun v129 ev129 => ?_)
    refine mw_iand dX10_sells_64 (fun v130 ev130 => ?_)
    refine tw_iast dX10_sells_65 shM_3 (bd_in b112 (by decide)) ?_
    have hI131 : JM (mm_up S121 3 v111.toNatClampNeg v130) := JIM_puta hI120 (bd_all v130) b112 (by decide) (by decide +kernel)
    generalize hS132 : (mm_up S121 3 v111.toNatClampNeg v130) = S132 at hI131 ⊢
    have hF133 := fr_upA hF122 hS132 (by decide)
    exact mw_vret rfl dX10_sells_66 rfl rfl ⟨S132, rfl, rfl, ⟨hI131, hF133, trivial⟩⟩
  · skip
    have b134 : mm_b (9) (9) v116 := bd_eq_l q125 b117 n_9 (by decide)
    refine mw_iconst dX10_sells_55 ki_m1 ?_
    refine mw_goto (tgt := 64) dX10_sells_56 (by decide) ?_
    refine mw_iand dX10_sells_64 (fun v135 ev135 => ?_)
    refine tw_iast dX10_sells_65 shM_3 (bd_in b112 (by decide)) ?_
    have hI136 : JM (mm_up S121 3 v111.toNatClampNeg v135) := JIM_puta hI120 (bd_all v135) b112 (by decide) (by decide +kernel)
    generalize hS137 : (mm_up S121 3 v111.toNatClampNeg v135) = S137 at hI136 ⊢
    have hF138 := fr_upA hF122 hS137 (by decide)
    exact mw_vret rfl dX10_sells_66 rfl rfl ⟨S137, rfl, rfl, ⟨hI136, hF138, trivial⟩⟩
set_option maxRecDepth 100000 in
set_option maxHeartbeats 4000000 in
theorem c_X10_isHeir {g : mm_G} (S : mm_S) (hI : JM S) (x1 : Int32) (x2 : Int32) : mc g yX10_isHeir cX10_isHeir 3 (some .boolean) (mm_rm 2) [.ref 0, .int x1, .int x2] (mm_enc shM S) (qi shM (fun S1 v => S = S1 ∧ mm_b (0) (1) v ∧ (v = 0 ∨ (mm_b (0) (9) x2)))) := by
  refine mc_of2 (own := RX10) (ini := false) (ls := [(0, .ref 0), (1, .int x1), (2, .int x2)]) (by decide) (Nat.le_of_ble_eq_true rfl) rfl (by decide) rfl ?_
  refine mw_iload_n dX10_isHeir_0 rfl 2 rfl ?_
  refine mw_bipush dX10_isHeir_1 kb_9 ?_
  refine mw_icmp_eq (tgt := 19) dX10_isHeir_3 (by decide) (fun q101 => ?_) (fun q101 => ?_)
  · skip
    have b102 : mm_b (9) (9) x2 := bd_eq_l q101 (bd_all x2) n_9 (by decide)
    refine mw_iconst dX10_isHeir_19 ki_1 ?_
    refine mw_goto (tgt := 24) dX10_isHeir_20 (by decide) ?_
    exact mw_zret rfl (bd_nar n_1 (by decide)) dX10_isHeir_24 rfl rfl ⟨S, _, rfl, rfl, rfl, bd_w n_1 (by decide), Or.inr (bd_w b102 (by decide))⟩
  · skip
    refine mw_aload_n dX10_isHeir_6 rfl 0 rfl ?_
    refine mw_iload_n dX10_isHeir_7 rfl 2 rfl ?_
    refine tc_Vi (as := [.int x2]) (st := []) dX10_isHeir_8 rfl shM_0 rfl rfl mX10_179 t_X10_isPerson rfl (Nat.le_of_ble_eq_true rfl) (by decide) (by decide) (c_X10_isPerson (g := g) S hI x2) (fun S103 v105 h104 => ?_)
    obtain ⟨rfl, b106, x107⟩ := h104
    refine mw_if_eq (tgt := 23) dX10_isHeir_11 (by decide) (fun q108 => ?_) (fun q108 => ?_)
    · skip
      have b109 : mm_b (0) (0) v105 := bd_eq_l q108 b106 n_0 (by decide)
      refine mw_iconst dX10_isHeir_23 ki_0 ?_
      exact mw_zret rfl (bd_nar n_0 (by decide)) dX10_isHeir_24 rfl rfl ⟨S, _, rfl, rfl, rfl, bd_w n_0 (by decide), Or.inl rfl⟩
    · skip
      have b110 : mm_b (1) (1) v105 := bd_ne_l q108 b106 n_0 (by decide)
      have b111 := Or.resolve_left x107 q108
      refine mw_iload_n dX10_isHeir_14 rfl 2 rfl ?_
      refine mw_iload_n dX10_isHeir_15 rfl 1 rfl ?_
      refine mw_icmp_eq (tgt := 23) dX10_isHeir_16 (by decide) (fun q112 => ?_) (fun q112 => ?_)
      · skip
        have b113 : mm_b (0) (6) x1 := bd_eq_l (Eq.symm q112) (bd_all x1) b111 (by decide)
        refine mw_iconst dX10_isHeir_23 ki_0 ?_
        exact mw_zret rfl (bd_nar n_0 (by decide)) dX10_isHeir_24 rfl rfl ⟨S, _, rfl, rfl, rfl, bd_w n_0 (by decide), Or.inl rfl⟩
      · skip
        refine mw_iconst dX10_isHeir_19 ki_1 ?_
        refine mw_goto (tgt := 24) dX10_isHeir_20 (by decide) ?_
        exact mw_zret rfl (bd_nar n_1 (by decide)) dX10_isHeir_24 rfl rfl ⟨S, _, rfl, rfl, rfl, bd_w n_1 (by decide), Or.inr (bd_w b111 (by decide))⟩
set_option maxRecDepth 100000 in
set_option maxHeartbeats 4000000 in
theorem c_X10_heirOf {g : mm_G} (S : mm_S) (hI : JM S) (x1 : Int32) (h1 : mm_b (0) (7) x1) : mc g yX10_heirOf cX10_heirOf 2 (some .int) (mm_rm 0) [.ref 0, .int x1] (mm_enc shM S) (qi shM (fun S1 v => S = S1 ∧ mm_b (0) (9) v ∧ (True))) := by
  refine mc_of2 (own := RX10) (ini := false) (ls := [(0, .ref 0), (1, .int x1)]) (by decide) (Nat.le_of_ble_eq_true rfl) rfl (by decide) rfl ?_
  refine mw_iload_n dX10_heirOf_0 rfl 1 rfl ?_
  refine mw_aload_n dX10_heirOf_1 rfl 0 rfl ?_
  refine tw_getr (j := 0) dX10_heirOf_2 shM_0 rfl rfl (by decide) fX10_7 ?_
  refine mw_iconst dX10_heirOf_5 ki_0 ?_
  refine tw_iald dX10_heirOf_6 shM_1 (bd_in n_0 (by decide)) (fun v101 ev101 => ?_)
  rw [cl_0] at ev101
  have b102 : mm_b (0) (7) v101 := JIM_fld hI ev101 tbM_16 (by decide)
  refine mw_icmp_ne (tgt := 15) dX10_heirOf_7 (by decide) (fun q103 => ?_) (fun q103 => ?_)
  · skip
    refine mw_iload_n dX10_heirOf_15 rfl 1 rfl ?_
    exact mw_iret rfl dX10_heirOf_16 rfl rfl ⟨S, _, rfl, rfl, rfl, bd_w h1 (by decide), trivial⟩
  · skip
    refine mw_bipush dX10_heirOf_10 kb_9 ?_
    refine mw_goto (tgt := 16) dX10_heirOf_12 (by decide) ?_
    exact mw_iret rfl dX10_heirOf_16 rfl rfl ⟨S, _, rfl, rfl, rfl, bd_w n_9 (by decide), trivial⟩
set_option maxRecDepth 100000 in
set_option maxHeartbeats 4000000 in
theorem c_X10_isSet {g : mm_G} (S : mm_S) (hI : JM S) (x1 : Int32) : mc g yX10_isSet cX10_isSet 2 (some .boolean) (mm_rm 1) [.ref 0, .int x1] (mm_enc shM S) (qi shM (fun S1 v => S = S1 ∧ mm_b (0) (1) v ∧ (v = 0 ∨ (mm_b (0) (127) x1)))) := by
  refine mc_of2 (own := RX10) (ini := false) (ls := [(0, .ref 0), (1, .int x1)]) (by decide) (Nat.le_of_ble_eq_true rfl) rfl (by decide) rfl ?_
  refine mw_iload_n dX10_isSet_0 rfl 1 rfl ?_
  refine mw_i2l dX10_isSet_1 (fun w101 ew101 => ?_)
  have b102 : mm_bl (-2147483648) (2147483647) w101 := bl_i2l ew101 (bd_all x1)
  refine mw_lconst (v := 0) dX10_isSet_2 (by decide) ?_
  refine mw_iconst dX10_isSet_3 ki_1 ?_
  refine mw_aload_n dX10_isSet_4 rfl 0 rfl ?_
  refine tw_getr (j := 0) dX10_isSet_5 shM_0 rfl rfl (by decide) fX10_7 ?_
  refine mw_iconst dX10_isSet_8 ki_0 ?_
  refine tw_iald dX10_isSet_9 shM_1 (bd_in n_0 (by decide)) (fun v103 ev103 => ?_)
  rw [cl_0] at ev103
  have b104 : mm_b (0) (7) v103 := JIM_fld hI ev103 tbM_16 (by decide)
  refine mw_ishl dX10_isSet_10 (fun v105 ev105 => ?_)
  have b106 : mm_b (1) (128) v105 := bd_shl 7 ev105 b104 (by decide)
  refine mw_iconst dX10_isSet_11 ki_1 ?_
  refine mw_isub dX10_isSet_12 (fun v107 ev107 => ?_)
  have b108 : mm_b (0) (127) v107 := bd_sub ev107 b106 n_1 (by decide)
  refine mw_i2l dX10_isSet_13 (fun w109 ew109 => ?_)
  have b110 : mm_bl (0) (127) w109 := bl_i2l ew109 b108
  refine tc_Si (as := [.long w101, .long 0, .long w109]) (st := []) dX10_isSet_14 rfl mX10_62 t_X10_in rfl (Nat.le_of_ble_eq_true rfl) (by decide) (by decide) (c_X10_in (g := g) S hI w101 (0 : Int64) w109) (fun S111 v113 h112 => ?_)
  obtain ⟨rfl, b114, x115⟩ := h112
  have x116 := in_use (lo := 0) (hi := 127) x115 ew101 L_0 b110 (by decide)
  have xx := x116
  exact mw_zret rfl (bd_nar b114 (by decide)) dX10_isSet_17 rfl rfl ⟨S, _, rfl, rfl, rfl, b114, Or.elim xx Or.inl (fun u117 => Or.inr (bd_w u117 (by decide)))⟩
set_option maxRecDepth 100000 in
set_option maxHeartbeats 4000000 in
theorem c_X10_voices {g : mm_G} (S : mm_S) (hI : JM S)  : mc g yX10_voices cX10_voices 4 (some .int) (mm_rm 1) [.ref 0] (mm_enc shM S) (qi shM (fun S1 v => S = S1 ∧ mm_b (0) (127) v ∧ (True))) := by
  refine mc_of2 (own := RX10) (ini := false) (ls := [(0, .ref 0)]) (by decide) (Nat.le_of_ble_eq_true rfl) rfl (by decide) rfl ?_
  refine mw_aload_n dX10_voices_0 rfl 0 rfl ?_
  refine tc_Vi (as := []) (st := []) dX10_voices_1 rfl shM_0 rfl rfl mX10_170 t_X10_allVoices rfl (Nat.le_of_ble_eq_true rfl) (by decide) (by decide) (c_X10_allVoices (g := g) S hI) (fun S101 v103 h102 => ?_)
  obtain ⟨rfl, b104, x105⟩ := h102
  refine mw_istore_n (ls' := [(1, .int v103), (0, .ref 0)]) dX10_voices_4 rfl (by decide) rfl ?_
  refine mw_iconst dX10_voices_5 ki_0 ?_
  refine mw_istore_n (ls' := [(2, .int 0), (1, .int v103), (0, .ref 0)]) dX10_voices_6 rfl (by decide) rfl ?_
  have cut7 : ∀ (N7 : Nat) (y106 y108 : Int32), ((7 : Int) - y108.toInt).toNat < N7 → mm_b (0) (127) y106 → mm_b (0) (6) y108 → mw g RX10 cX10_voices 4 (some .int) false (mm_rm 1) (qi shM (fun S1 v => S = S1 ∧ mm_b (0) (127) v ∧ (True))) 0 0 (mm_enc shM S) 7 [(0, .ref 0), (1, .int y106), (2, .int y108)] [] := by
    intro N7
    induction N7 with
    | zero =>
      intro y106 y108 hm110 b107 b109
      exact absurd hm110 (Nat.not_lt_zero _)
    | succ N7 ih7 =>
      intro y106 y108 hm110 b107 b109
      refine mw_iload_n dX10_voices_7 rfl 2 rfl ?_
      refine mw_aload_n dX10_voices_8 rfl 0 rfl ?_
      refine tw_geti (j := 13) dX10_voices_9 shM_0 rfl rfl (by decide) fX10_73 (fun v111 ev111 => ?_)
      have b112 : mm_b (0) (6) v111 := JIM_fld hI ev111 tbM_3 (by decide)
      refine mw_icmp_ge (tgt := 62) dX10_voices_12 (by decide) (fun q113 => ?_) (fun q113 => ?_)
      · skip
        refine mw_iload_n dX10_voices_62 rfl 1 rfl ?_
        exact mw_iret rfl dX10_voices_63 rfl rfl ⟨S, _, rfl, rfl, rfl, b107, trivial⟩
      · skip
        have b114 : mm_b (0) (5) y108 := bd_lt_l (bd_nle q113) b109 b112 (by decide)
        have b115 : mm_b (1) (6) v111 := bd_lt_r (bd_nle q113) b109 b112 (by decide)
        refine mw_aload_n dX10_voices_15 rfl 0 rfl ?_
        refine tw_getr (j := 0) dX10_voices_16 shM_0 rfl rfl (by decide) fX10_7 ?_
        refine mw_bipush dX10_voices_19 kb_25 ?_
        refine mw_aload_n dX10_voices_21 rfl 0 rfl ?_
        refine tw_getr (j := 12) dX10_voices_22 shM_0 rfl rfl (by decide) fX10_39 ?_
        refine mw_iconst dX10_voices_25 ki_2 ?_
        refine mw_iload_n dX10_voices_26 rfl 2 rfl ?_
        refine mw_imul dX10_voices_27 (fun v116 ev116 => ?_)
        have b117 : mm_b (0) (10) v116 := bd_mul ev116 n_2 b114 (by decide)
        refine tw_iald dX10_voices_28 shM_9 (bd_in b117 (by decide)) (fun v118 ev118 => ?_)
        have b119 : mm_b (0) (5) v118 := JIM_elt hI ev118 b117 tbM_10 (by decide)
        refine mw_iadd dX10_voices_29 (fun v120 ev120 => ?_)
        have b121 : mm_b (25) (30) v120 := bd_add ev120 n_25 b119 (by decide)
        refine tw_iald dX10_voices_30 shM_1 (bd_in b121 (by decide)) (fun v122 ev122 => ?_)
        have b123 : mm_b (0) (127) v122 := JIM_elt hI ev122 b121 tbM_21 (by decide)
        refine mw_istore_n (ls' := [(3, .int v122), (0, .ref 0), (1, .int y106), (2, .int y108)]) dX10_voices_31 rfl (by decide) rfl ?_
        refine mw_iload_n dX10_voices_32 rfl 2 rfl ?_
        refine mw_aload_n dX10_voices_33 rfl 1 rfl ?_
        refine tw_getr (j := 12) dX10_voices_34 shM_0 rfl rfl (by decide) fX10_39 ?_
        refine mw_iconst dX10_voices_37 ki_2 ?_
        refine mw_iload_n dX10_voices_38 rfl 3 rfl ?_
        refine mw_imul dX10_voices_39 (fun v124 ev124 => ?_)
        have cv124 : v116 = v124 := ev116.trans ev124.symm
        subst cv124
        refine mw_iconst dX10_voices_40 ki_1 ?_
        refine mw_iadd dX10_voices_41 (fun v125 ev125 => ?_)
        have b126 : mm_b (1) (11) v125 := bd_add ev125 b117 n_1 (by decide)
        refine tw_iald dX10_voices_42 shM_9 (bd_in b126 (by decide)) (fun v127 ev127 => ?_)
        have b128 : mm_b (0) (5) v127 := JIM_elt hI ev127 b126 tbM_10 (by decide)
        refine mw_iconst dX10_voices_43 ki_1 ?_
        refine mw_icmp_ne (tgt := 51) dX10_voices_44 (by decide) (fun q129 => ?_) (fun q129 => ?_)
        · skip
          refine mw_iload_n dX10_voices_51 rfl 0 rfl ?_
          refine mw_iconst dX10_voices_52 ki_m1 ?_
          refine mw_ixor dX10_voices_53 (fun v130 ev130 => ?_)
          refine mw_iand dX10_voices_54 (fun v131 ev131 => ?_)
          have b132 : mm_b (0) (127) v131 := bd_and ev131 b107 (by decide)
          refine mw_istore_n (ls' := [(1, .int v131), (3, .int v122), (0, .ref 0), (2, .int y108)]) dX10_voices_55 rfl (by decide) rfl ?_
          refine mw_iinc (ls' := fun v => [(2, .int v), (1, .int v131), (3, .int v122), (0, .ref 0)]) dX10_voices_56 3 rfl (by decide) (fun _ => rfl) (fun v133 ev133 => ?_)
          have b134 : mm_b (1) (6) v133 := bd_inc ev133 b114 (by decide)
          refine mw_goto (tgt := 7) dX10_voices_59 (by decide) ?_
          refine mw_ls [3, 1, 0] rfl ?_
          exact ih7 v131 v133 (ms_inc ev133 b114 (by decide) hm110) b132 (bd_w b134 (by decide))
        · skip
          have b135 : mm_b (1) (1) v127 := bd_eq_l q129 b128 n_1 (by decide)
          refine mw_iload_n dX10_voices_47 rfl 0 rfl ?_
          refine mw_goto (tgt := 54) dX10_voices_48 (by decide) ?_
          refine mw_iand dX10_voices_54 (fun v136 ev136 => ?_)
          have b137 : mm_b (0) (127) v136 := bd_and ev136 b107 (by decide)
          refine mw_istore_n (ls' := [(1, .int v136), (3, .int v122), (0, .ref 0), (2, .int y108)]) dX10_voices_55 rfl (by decide) rfl ?_
          refine mw_iinc (ls' := fun v => [(2, .int v), (1, .int v136), (3, .int v122), (0, .ref 0)]) dX10_voices_56 3 rfl (by decide) (fun _ => rfl) (fun v138 ev138 => ?_)
          have b139 : mm_b (1) (6) v138 := bd_inc ev138 b114 (by decide)
          refine mw_goto (tgt := 7) dX10_voices_59 (by decide) ?_
          refine mw_ls [3, 1, 0] rfl ?_
          exact ih7 v136 v138 (ms_inc ev138 b114 (by decide) hm110) b137 (bd_w b139 (by decide))
  refine mw_ls [2, 1, 0] rfl ?_
  exact cut7 _ v103 (0 : Int32) (Nat.lt_succ_self _) b104 (bd_w n_0 (by decide))
set_option maxRecDepth 100000 in
set_option maxHeartbeats 4000000 in
theorem c_X10_spoke {g : mm_G} (S : mm_S) (hI : JM S) (x1 : Int32) : mc g yX10_spoke cX10_spoke 5 (some .int) (mm_rm 2) [.ref 0, .int x1] (mm_enc shM S) (qi shM (fun S1 v => S = S1 ∧ mm_b (-1000000002) (127) v ∧ (True))) := by
  refine mc_of2 (own := RX10) (ini := false) (ls := [(0, .ref 0), (1, .int x1)]) (by decide) (Nat.le_of_ble_eq_true rfl) rfl (by decide) rfl ?_
  refine mw_iload_n dX10_spoke_0 rfl 1 rfl ?_
  refine mw_i2l dX10_spoke_1 (fun w101 ew101 => ?_)
  have b102 : mm_bl (-2147483648) (2147483647) w101 := bl_i2l ew101 (bd_all x1)
  refine mw_lconst (v := 0) dX10_spoke_2 (by decide) ?_
  refine mw_lconst (v := 1) dX10_spoke_3 (by decide) ?_
  refine tc_Si (as := [.long w101, .long 0, .long 1]) (st := []) dX10_spoke_4 rfl mX10_62 t_X10_in rfl (Nat.le_of_ble_eq_true rfl) (by decide) (by decide) (c_X10_in (g := g) S hI w101 (0 : Int64) (1 : Int64)) (fun S103 v105 h104 => ?_)
  obtain ⟨rfl, b106, x107⟩ := h104
  have x108 := in_use (lo := 0) (hi := 1) x107 ew101 L_0 L_1 (by decide)
  refine mw_if_ne (tgt := 13) dX10_spoke_7 (by decide) (fun q109 => ?_) (fun q109 => ?_)
  · skip
    have b110 : mm_b (1) (1) v105 := bd_ne_l q109 b106 n_0 (by decide)
    have b111 := Or.resolve_left x108 q109
    refine mw_aload_n dX10_spoke_13 rfl 0 rfl ?_
    refine tc_Vi (as := []) (st := []) dX10_spoke_14 rfl shM_0 rfl rfl mX10_271 t_X10_voices rfl (Nat.le_of_ble_eq_true rfl) (by decide) (by decide) (c_X10_voices (g := g) S hI) (fun S112 v114 h113 => ?_)
    obtain ⟨rfl, b115, x116⟩ := h113
    refine mw_istore_n (ls' := [(2, .int v114), (0, .ref 0), (1, .int x1)]) dX10_spoke_17 rfl (by decide) rfl ?_
    refine mw_iload_n dX10_spoke_18 rfl 2 rfl ?_
    refine mw_if_ne (tgt := 24) dX10_spoke_19 (by decide) (fun q117 => ?_) (fun q117 => ?_)
    · skip
      have b118 : mm_b (1) (1) x1 := bd_ne_l q117 b111 n_0 (by decide)
      refine mw_iconst dX10_spoke_24 ki_0 ?_
      refine mw_istore_n (ls' := [(3, .int 0), (2, .int v114), (0, .ref 0), (1, .int x1)]) dX10_spoke_25 rfl (by decide) rfl ?_
      refine mw_iconst dX10_spoke_26 ki_0 ?_
      refine mw_istore (ls' := [(4, .int 0), (3, .int 0), (2, .int v114), (0, .ref 0), (1, .int x1)]) dX10_spoke_27 (by decide) rfl ?_
      have cut29 : ∀ (N29 : Nat) (y119 y121 y123 : Int32), ((8 : Int) - y123.toInt).toNat < N29 → mm_b (0) (127) y119 → mm_b (0) (127) y121 → mm_b (0) (7) y123 → mw g RX10 cX10_spoke 5 (some .int) false (mm_rm 2) (qi shM (fun S1 v => S = S1 ∧ mm_b (-1000000002) (127) v ∧ (True))) 0 0 (mm_enc shM S) 29 [(0, .ref 0), (2, .int y119), (3, .int y121), (4, .int y123)] [] := by
        intro N29
        induction N29 with
        | zero =>
          intro y119 y121 y123 hm125 b120 b122 b124
          exact absurd hm125 (Nat.not_lt_zero _)
        | succ N29 ih29 =>
          intro y119 y121 y123 hm125 b120 b122 b124
          refine mw_iload dX10_spoke_29 3 rfl ?_
          refine mw_aload_n dX10_spoke_31 rfl 0 rfl ?_
          refine tw_getr (j := 0) dX10_spoke_32 shM_0 rfl rfl (by decide) fX10_7 ?_
          refine mw_iconst dX10_spoke_35 ki_0 ?_
          refine tw_iald dX10_spoke_36 shM_1 (bd_in n_0 (by decide)) (fun v126 ev126 => ?_)
          rw [cl_0] at ev126
          have b127 : mm_b (0) (7) v126 := JIM_fld hI ev126 tbM_16 (by decide)
          refine mw_icmp_ge (tgt := 96) dX10_spoke_37 (by decide) (fun q128 => ?_) (fun q128 => ?_)
          · skip
            refine mw_iload_n dX10_spoke_96 rfl 2 rfl ?_
            exact mw_iret rfl dX10_spoke_97 rfl rfl ⟨S, _, rfl, rfl, rfl, bd_w b122 (by decide), trivial⟩
          · skip
            have b129 : mm_b (0) (6) y123 := bd_lt_l (bd_nle q128) b124 b127 (by decide)
            have b130 : mm_b (1) (7) v126 := bd_lt_r (bd_nle q128) b124 b127 (by decide)
            refine mw_iload_n dX10_spoke_40 rfl 2 rfl ?_
            refine mw_aload_n dX10_spoke_41 rfl 0 rfl ?_
            refine mw_iload dX10_spoke_42 3 rfl ?_
            refine tc_Vi (as := [.int y123]) (st := [.int y121]) dX10_spoke_44 rfl shM_0 rfl rfl mX10_167 t_X10_isAlive rfl (Nat.le_of_ble_eq_true rfl) (by decide) (by decide) (c_X10_isAlive (g := g) S hI y123) (fun S131 v133 h132 => ?_)
            obtain ⟨rfl, b134, x135⟩ := h132
            refine mw_if_eq (tgt := 87) dX10_spoke_47 (by decide) (fun q136 => ?_) (fun q136 => ?_)
            · skip
              have b137 : mm_b (0) (0) v133 := bd_eq_l q136 b134 n_0 (by decide)
              refine mw_iconst dX10_spoke_87 ki_0 ?_
              refine mw_ior dX10_spoke_88 (fun v138 ev138 => ?_)
              have b139 : mm_b (0) (127) v138 := bd_or 7 ev138 b122 n_0 (by decide)
              refine mw_istore_n (ls' := [(3, .int v138), (0, .ref 0), (2, .int y119), (4, .int y123)]) dX10_spoke_89 rfl (by decide) rfl ?_
              refine mw_iinc (ls' := fun v => [(4, .int v), (3, .int v138), (0, .ref 0), (2, .int y119)]) dX10_spoke_90 3 rfl (by decide) (fun _ => rfl) (fun v140 ev140 => ?_)
              have b141 : mm_b (1) (7) v140 := bd_inc ev140 b129 (by decide)
              refine mw_goto (tgt := 29) dX10_spoke_93 (by decide) ?_
              refine mw_ls [2, 3, 1, 0] rfl ?_
              exact ih29 y119 v138 v140 (ms_inc ev140 b129 (by decide) hm125) b120 b139 (bd_w b141 (by decide))
            · skip
              have b142 : mm_b (1) (1) v133 := bd_ne_l q136 b134 n_0 (by decide)
              refine mw_aload_n dX10_spoke_50 rfl 0 rfl ?_
              refine tw_getr (j := 2) dX10_spoke_51 shM_0 rfl rfl (by decide) fX10_16 ?_
              refine mw_iconst dX10_spoke_54 ki_0 ?_
              refine mw_iload dX10_spoke_55 3 rfl ?_
              refine mw_iadd dX10_spoke_57 (fun v143 ev143 => ?_)
              have b144 : mm_b (0) (6) v143 := bd_add ev143 n_0 b129 (by decide)
              refine tw_iald dX10_spoke_58 shM_3 (bd_in b144 (by decide)) (fun v145 ev145 => ?_)
              have b146 : mm_b (0) (9) v145 := JIM_elt hI ev145 b144 tbM_30 (by decide)
              refine mw_bipush dX10_spoke_59 kb_9 ?_
              refine mw_icmp_eq (tgt := 87) dX10_spoke_61 (by decide) (fun q147 => ?_) (fun q147 => ?_)
              · skip
                have b148 : mm_b (9) (9) v145 := bd_eq_l q147 b146 n_9 (by decide)
                refine mw_iconst dX10_spoke_87 ki_0 ?_
                refine mw_ior dX10_spoke_88 (fun v149 ev149 => ?_)
                have b150 : mm_b (0) (127) v149 := bd_or 7 ev149 b122 n_0 (by decide)
                refine mw_istore_n (ls' := [(3, .int v149), (0, .ref 0), (2, .int y119), (4, .int y123)]) dX10_spoke_89 rfl (by decide) rfl ?_
                refine mw_iinc (ls' := fun v => [(4, .int v), (3, .int v149), (0, .ref 0), (2, .int y119)]) dX10_spoke_90 3 rfl (by decide) (fun _ => rfl) (fun v151 ev151 => ?_)
                have b152 : mm_b (1) (7) v151 := bd_inc ev151 b129 (by decide)
                refine mw_goto (tgt := 29) dX10_spoke_93 (by decide) ?_
                refine mw_ls [2, 3, 1, 0] rfl ?_
                exact ih29 y119 v149 v151 (ms_inc ev151 b129 (by decide) hm125) b120 b150 (bd_w b152 (by decide))
              · skip
                have b153 : mm_b (0) (8) v145 := bd_ne_l q147 b146 n_9 (by decide)
                refine mw_iload_n dX10_spoke_64 rfl 1 rfl ?_
                refine mw_aload_n dX10_spoke_65 rfl 0 rfl ?_
                refine tw_getr (j := 2) dX10_spoke_66 shM_0 rfl rfl (by decide) fX10_16 ?_
                refine mw_iconst dX10_spoke_69 ki_0 ?_
                refine mw_iload dX10_spoke_70 3 rfl ?_
                refine mw_iadd dX10_spoke_72 (fun v154 ev154 => ?_)
                have cv154 : v143 = v154 := ev143.trans ev154.symm
                subst cv154
                refine tw_iald dX10_spoke_73 shM_3 (bd_in b144 (by decide)) (fun v155 ev155 => ?_)
                have cv155 : v145 = v155 := ev145.trans ev155.symm
                subst cv155
                refine tc_Si (as := [.int y119, .int v145]) (st := [.int y121]) dX10_spoke_74 rfl mX10_134 t_X10_isIn rfl (Nat.le_of_ble_eq_true rfl) (by decide) (by decide) (c_X10_isIn (g := g) S hI y119 v145) (fun S156 v158 h157 => ?_)
                obtain ⟨rfl, b159, x160⟩ := h157
                have x161 := isIn_b x160 b120 b153 (by decide)
                refine mw_if_eq (tgt := 87) dX10_spoke_77 (by decide) (fun q162 => ?_) (fun q162 => ?_)
                · skip
                  have b163 : mm_b (0) (0) v158 := bd_eq_l q162 b159 n_0 (by decide)
                  refine mw_iconst dX10_spoke_87 ki_0 ?_
                  refine mw_ior dX10_spoke_88 (fun v164 ev164 => ?_)
                  have b165 : mm_b (0) (127) v164 := bd_or 7 ev164 b122 n_0 (by decide)
                  refine mw_istore_n (ls' := [(3, .int v164), (0, .ref 0), (2, .int y119), (4, .int y123)]) dX10_spoke_89 rfl (by decide) rfl ?_
                  refine mw_iinc (ls' := fun v => [(4, .int v), (3, .int v164), (0, .ref 0), (2, .int y119)]) dX10_spoke_90 3 rfl (by decide) (fun _ => rfl) (fun v166 ev166 => ?_)
                  have b167 : mm_b (1) (7) v166 := bd_inc ev166 b129 (by decide)
                  refine mw_goto (tgt := 29) dX10_spoke_93 (by decide) ?_
                  refine mw_ls [2, 3, 1, 0] rfl ?_
                  exact ih29 y119 v164 v166 (ms_inc ev166 b129 (by decide) hm125) b120 b165 (bd_w b167 (by decide))
                · skip
                  have b168 : mm_b (1) (1) v158 := bd_ne_l q162 b159 n_0 (by decide)
                  have b169 := Or.resolve_left x161 q162
                  refine mw_iconst dX10_spoke_80 ki_1 ?_
                  refine mw_iload dX10_spoke_81 3 rfl ?_
                  refine mw_ishl dX10_spoke_83 (fun v170 ev170 => ?_)
                  have b171 : mm_b (1) (64) v170 := bd_shl 6 ev170 b129 (by decide)
                  refine mw_goto (tgt := 88) dX10_spoke_84 (by decide) ?_
                  refine mw_ior dX10_spoke_88 (fun v172 ev172 => ?_)
                  have b173 : mm_b (0) (127) v172 := bd_or 7 ev172 b122 b171 (by decide)
                  refine mw_istore_n (ls' := [(3, .int v172), (0, .ref 0), (2, .int y119), (4, .int y123)]) dX10_spoke_89 rfl (by decide) rfl ?_
                  refine mw_iinc (ls' := fun v => [(4, .int v), (3, .int v172), (0, .ref 0), (2, .int y119)]) dX10_spoke_90 3 rfl (by decide) (fun _ => rfl) (fun v174 ev174 => ?_)
                  have b175 : mm_b (1) (7) v174 := bd_inc ev174 b129 (by decide)
                  refine mw_goto (tgt := 29) dX10_spoke_93 (by decide) ?_
                  refine mw_ls [2, 3, 1, 0] rfl ?_
                  exact ih29 y119 v172 v174 (ms_inc ev174 b129 (by decide) hm125) b120 b173 (bd_w b175 (by decide))
      refine mw_ls [3, 2, 1, 0] rfl ?_
      exact cut29 _ v114 (0 : Int32) (0 : Int32) (Nat.lt_succ_self _) b115 (bd_w n_0 (by decide)) (bd_w n_0 (by decide))
    · skip
      have b176 : mm_b (0) (0) x1 := bd_eq_l q117 b111 n_0 (by decide)
      refine mw_iload_n dX10_spoke_22 rfl 0 rfl ?_
      exact mw_iret rfl dX10_spoke_23 rfl rfl ⟨S, _, rfl, rfl, rfl, bd_w b115 (by decide), trivial⟩
  · skip
    have b177 : mm_b (0) (0) v105 := bd_eq_l q109 b106 n_0 (by decide)
    refine mw_ldc dX10_spoke_10 kX10_84 ?_
    exact mw_iret rfl dX10_spoke_12 rfl rfl ⟨S, _, rfl, rfl, rfl, bd_w n_m1000000002 (by decide), trivial⟩
set_option maxRecDepth 100000 in
set_option maxHeartbeats 4000000 in
theorem c_X10_knock {g : mm_G} (S : mm_S) (hI : JM S)  : mc g yX10_knock cX10_knock 8 (some .int) (mm_rm 2) [.ref 0] (mm_enc shM S) (qi shM (fun S1 v => S = S1 ∧ mm_b (-1) (5) v ∧ (True))) := by
  refine mc_of2 (own := RX10) (ini := false) (ls := [(0, .ref 0)]) (by decide) (Nat.le_of_ble_eq_true rfl) rfl (by decide) rfl ?_
  refine mw_aload_n dX10_knock_0 rfl 0 rfl ?_
  refine tc_Vi (as := []) (st := []) dX10_knock_1 rfl shM_0 rfl rfl mX10_271 t_X10_voices rfl (Nat.le_of_ble_eq_true rfl) (by decide) (by decide) (c_X10_voices (g := g) S hI) (fun S101 v103 h102 => ?_)
  obtain ⟨rfl, b104, x105⟩ := h102
  refine mw_istore_n (ls' := [(1, .int v103), (0, .ref 0)]) dX10_knock_4 rfl (by decide) rfl ?_
  refine mw_iload_n dX10_knock_5 rfl 0 rfl ?_
  refine tc_Si (as := [.int v103]) (st := []) dX10_knock_6 rfl mX10_241 t_X10_bits rfl (Nat.le_of_ble_eq_true rfl) (by decide) (by decide) (c_X10_bits (g := g) S hI v103) (fun S106 v108 h107 => ?_)
  obtain ⟨rfl, b109, x110⟩ := h107
  have b111 : mm_b 0 7 v108 := bits_b x110 (bd_w b104 (by decide))
  refine mw_istore_n (ls' := [(2, .int v108), (1, .int v103), (0, .ref 0)]) dX10_knock_9 rfl (by decide) rfl ?_
  refine mw_iload_n dX10_knock_10 rfl 0 rfl ?_
  refine mw_istore_n (ls' := [(3, .int v108), (2, .int v108), (1, .int v103), (0, .ref 0)]) dX10_knock_11 rfl (by decide) rfl ?_
  refine mw_iconst dX10_knock_12 ki_m1 ?_
  refine mw_istore (ls' := [(4, .int (-1)), (3, .int v108), (2, .int v108), (1, .int v103), (0, .ref 0)]) dX10_knock_13 (by decide) rfl ?_
  refine mw_iconst dX10_knock_15 ki_0 ?_
  refine mw_istore (ls' := [(5, .int 0), (4, .int (-1)), (3, .int v108), (2, .int v108), (1, .int v103), (0, .ref 0)]) dX10_knock_16 (by decide) rfl ?_
  have cut18 : ∀ (N18 : Nat) (y112 y114 y116 y118 y120 : Int32), ((7 : Int) - y120.toInt).toNat < N18 → mm_b (0) (127) y112 → mm_b (0) (7) y114 → mm_b (0) (7) y116 → mm_b (-1) (5) y118 → mm_b (0) (6) y120 → mw g RX10 cX10_knock 8 (some .int) false (mm_rm 2) (qi shM (fun S1 v => S = S1 ∧ mm_b (-1) (5) v ∧ (True))) 0 0 (mm_enc shM S) 18 [(0, .ref 0), (1, .int y112), (2, .int y114), (3, .int y116), (4, .int y118), (5, .int y120)] [] := by
    intro N18
    induction N18 with
    | zero =>
      intro y112 y114 y116 y118 y120 hm122 b113 b115 b117 b119 b121
      exact absurd hm122 (Nat.not_lt_zero _)
    | succ N18 ih18 =>
      intro y112 y114 y116 y118 y120 hm122 b113 b115 b117 b119 b121
      refine mw_iload dX10_knock_18 5 rfl ?_
      refine mw_aload_n dX10_knock_20 rfl 0 rfl ?_
      refine tw_getr (j := 0) dX10_knock_21 shM_0 rfl rfl (by decide) fX10_7 ?_
      refine mw_iconst dX10_knock_24 ki_1 ?_
      refine tw_iald dX10_knock_25 shM_1 (bd_in n_1 (by decide)) (fun v123 ev123 => ?_)
      rw [cl_1] at ev123
      have b124 : mm_b (0) (6) v123 := JIM_fld hI ev123 tbM_17 (by decide)
      refine mw_icmp_ge (tgt := 100) dX10_knock_26 (by decide) (fun q125 => ?_) (fun q125 => ?_)
      · skip
        refine mw_iload dX10_knock_100 4 rfl ?_
        exact mw_iret rfl dX10_knock_102 rfl rfl ⟨S, _, rfl, rfl, rfl, b119, trivial⟩
      · skip
        have b126 : mm_b (0) (5) y120 := bd_lt_l (bd_nle q125) b121 b124 (by decide)
        have b127 : mm_b (1) (6) v123 := bd_lt_r (bd_nle q125) b121 b124 (by decide)
        refine mw_iload_n dX10_knock_29 rfl 1 rfl ?_
        refine mw_aload_n dX10_knock_30 rfl 0 rfl ?_
        refine tw_getr (j := 0) dX10_knock_31 shM_0 rfl rfl (by decide) fX10_7 ?_
        refine mw_bipush dX10_knock_34 kb_25 ?_
        refine mw_iload dX10_knock_36 5 rfl ?_
        refine mw_iadd dX10_knock_38 (fun v128 ev128 => ?_)
        have b129 : mm_b (25) (30) v128 := bd_add ev128 n_25 b126 (by decide)
        refine tw_iald dX10_knock_39 shM_1 (bd_in b129 (by decide)) (fun v130 ev130 => ?_)
        have b131 : mm_b (0) (127) v130 := JIM_elt hI ev130 b129 tbM_21 (by decide)
        refine mw_iand dX10_knock_40 (fun v132 ev132 => ?_)
        have b133 : mm_b (0) (127) v132 := bd_and ev132 b113 (by decide)
        refine tc_Si (as := [.int v132]) (st := []) dX10_knock_41 rfl mX10_241 t_X10_bits rfl (Nat.le_of_ble_eq_true rfl) (by decide) (by decide) (c_X10_bits (g := g) S hI v132) (fun S134 v136 h135 => ?_)
        obtain ⟨rfl, b137, x138⟩ := h135
        have b139 : mm_b 0 7 v136 := bits_b x138 (bd_w b133 (by decide))
        refine mw_istore (ls' := [(6, .int v136), (0, .ref 0), (1, .int y112), (2, .int y114), (3, .int y116), (4, .int y118), (5, .int y120)]) dX10_knock_44 (by decide) rfl ?_
        refine mw_iload dX10_knock_46 0 rfl ?_
        refine mw_iload_n dX10_knock_48 rfl 3 rfl ?_
        refine mw_iload dX10_knock_49 0 rfl ?_
        refine mw_isub dX10_knock_51 (fun v140 ev140 => ?_)
        have b141 : mm_b (-7) (7) v140 := bd_sub ev140 b115 b139 (by decide)
        have cut64 : ∀ (y142 y144 y146 y148 y150 y152 : Int32), ((7 : Int) - y150.toInt).toNat < N18 + 1 → mm_b (0) (127) y142 → mm_b (0) (7) y144 → mm_b (0) (7) y146 → mm_b (-1) (5) y148 → mm_b (0) (5) y150 → mm_b (0) (7) y152 → mw g RX10 cX10_knock 8 (some .int) false (mm_rm 2) (qi shM (fun S1 v => S = S1 ∧ mm_b (-1) (5) v ∧ (True))) 0 0 (mm_enc shM S) 64 [(0, .ref 0), (1, .int y142), (2, .int y144), (3, .int y146), (4, .int y148), (5, .int y150)] [.int y152] := by
          intro y142 y144 y146 y148 y150 y152 hm154 b143 b145 b147 b149 b151 b153
          refine mw_istore (ls' := [(7, .int y152), (0, .ref 0), (1, .int y142), (2, .int y144), (3, .int y146), (4, .int y148), (5, .int y150)]) dX10_knock_64 (by decide) rfl ?_
          refine mw_iload dX10_knock_66 0 rfl ?_
          refine mw_iload_n dX10_knock_68 rfl 4 rfl ?_
          have cut79 : ∀ (y155 y157 y159 y161 y163 y165 : Int32), ((7 : Int) - y161.toInt).toNat < N18 + 1 → mm_b (0) (127) y155 → mm_b (0) (7) y157 → mm_b (0) (7) y159 → mm_b (0) (5) y161 → mm_b (0) (7) y163 → mm_b (-1) (5) y165 → mw g RX10 cX10_knock 8 (some .int) false (mm_rm 2) (qi shM (fun S1 v => S = S1 ∧ mm_b (-1) (5) v ∧ (True))) 0 0 (mm_enc shM S) 79 [(0, .ref 0), (1, .int y155), (2, .int y157), (3, .int y159), (5, .int y161), (7, .int y163)] [.int y165] := by
            intro y155 y157 y159 y161 y163 y165 hm167 b156 b158 b160 b162 b164 b166
            refine mw_istore (ls' := [(4, .int y165), (0, .ref 0), (1, .int y155), (2, .int y157), (3, .int y159), (5, .int y161), (7, .int y163)]) dX10_knock_79 (by decide) rfl ?_
            refine mw_iload dX10_knock_81 6 rfl ?_
            refine mw_iload_n dX10_knock_83 rfl 4 rfl ?_
            refine mw_icmp_ge (tgt := 92) dX10_knock_84 (by decide) (fun q168 => ?_) (fun q168 => ?_)
            · skip
              refine mw_iload_n dX10_knock_92 rfl 4 rfl ?_
              refine mw_istore_n (ls' := [(3, .int y159), (4, .int y165), (0, .ref 0), (1, .int y155), (2, .int y157), (5, .int y161), (7, .int y163)]) dX10_knock_93 rfl (by decide) rfl ?_
              refine mw_iinc (ls' := fun v => [(5, .int v), (3, .int y159), (4, .int y165), (0, .ref 0), (1, .int y155), (2, .int y157), (7, .int y163)]) dX10_knock_94 5 rfl (by decide) (fun _ => rfl) (fun v169 ev169 => ?_)
              have b170 : mm_b (1) (6) v169 := bd_inc ev169 b162 (by decide)
              refine mw_goto (tgt := 18) dX10_knock_97 (by decide) ?_
              refine mw_ls [3, 4, 5, 1, 2, 0] rfl ?_
              exact ih18 y155 y157 y159 y165 v169 (ms_inc ev169 b162 (by decide) hm167) b156 b158 b160 b166 (bd_w b170 (by decide))
            · skip
              have b171 : mm_b (0) (6) y163 := bd_lt_l (bd_nle q168) b164 b160 (by decide)
              have b172 : mm_b (1) (7) y159 := bd_lt_r (bd_nle q168) b164 b160 (by decide)
              refine mw_iload dX10_knock_87 6 rfl ?_
              refine mw_goto (tgt := 93) dX10_knock_89 (by decide) ?_
              refine mw_istore_n (ls' := [(3, .int y163), (4, .int y165), (0, .ref 0), (1, .int y155), (2, .int y157), (5, .int y161), (7, .int y163)]) dX10_knock_93 rfl (by decide) rfl ?_
              refine mw_iinc (ls' := fun v => [(5, .int v), (3, .int y163), (4, .int y165), (0, .ref 0), (1, .int y155), (2, .int y157), (7, .int y163)]) dX10_knock_94 5 rfl (by decide) (fun _ => rfl) (fun v173 ev173 => ?_)
              have b174 : mm_b (1) (6) v173 := bd_inc ev173 b162 (by decide)
              refine mw_goto (tgt := 18) dX10_knock_97 (by decide) ?_
              refine mw_ls [3, 4, 5, 1, 2, 0] rfl ?_
              exact ih18 y155 y157 y163 y165 v173 (ms_inc ev173 b162 (by decide) hm167) b156 b158 (bd_w b171 (by decide)) b166 (bd_w b174 (by decide))
          refine mw_icmp_ge (tgt := 77) dX10_knock_69 (by decide) (fun q175 => ?_) (fun q175 => ?_)
          · skip
            refine mw_iload dX10_knock_77 5 rfl ?_
            refine mw_ls [1, 2, 3, 4, 6, 0] rfl ?_
            exact cut79 y142 y144 y146 y150 y152 y148 hm154 b143 b145 b147 b151 b153 b149
          · skip
            have b176 : mm_b (0) (6) y152 := bd_lt_l (bd_nle q175) b153 b147 (by decide)
            have b177 : mm_b (1) (7) y146 := bd_lt_r (bd_nle q175) b153 b147 (by decide)
            refine mw_iload dX10_knock_72 6 rfl ?_
            refine mw_goto (tgt := 79) dX10_knock_74 (by decide) ?_
            refine mw_ls [1, 2, 3, 4, 6, 0] rfl ?_
            exact cut79 y142 y144 y146 y150 y152 y150 hm154 b143 b145 (bd_w b177 (by decide)) b151 (bd_w b176 (by decide)) (bd_w b151 (by decide))
        refine mw_icmp_le (tgt := 60) dX10_knock_52 (by decide) (fun q178 => ?_) (fun q178 => ?_)
        · skip
          have b179 : mm_b (0) (7) v140 := bd_le_r q178 b139 b141 (by decide)
          refine mw_iload_n dX10_knock_60 rfl 3 rfl ?_
          refine mw_iload dX10_knock_61 0 rfl ?_
          refine mw_isub dX10_knock_63 (fun v180 ev180 => ?_)
          have cv180 : v140 = v180 := ev140.trans ev180.symm
          subst cv180
          refine mw_ls [1, 2, 3, 4, 5, 6] rfl ?_
          exact cut64 y112 y114 y116 y118 y120 v140 hm122 b113 b115 b117 b119 b126 b179
        · skip
          have b181 : mm_b (-7) (6) v140 := bd_lt_l (bd_nle q178) b141 b139 (by decide)
          refine mw_iload dX10_knock_55 0 rfl ?_
          refine mw_goto (tgt := 64) dX10_knock_57 (by decide) ?_
          refine mw_ls [1, 2, 3, 4, 5, 6] rfl ?_
          exact cut64 y112 y114 y116 y118 y120 v136 hm122 b113 b115 b117 b119 b126 b139
  refine mw_ls [5, 4, 3, 2, 1, 0] rfl ?_
  exact cut18 _ v103 v108 v108 (-1 : Int32) (0 : Int32) (Nat.lt_succ_self _) b104 b111 b111 (bd_w n_m1 (by decide)) (bd_w n_0 (by decide))
set_option maxRecDepth 100000 in
set_option maxHeartbeats 4000000 in
theorem c_X10_judge {g : mm_G} (S : mm_S) (hI : JM S)  : mc g yX10_judge cX10_judge 2 (some .int) (mm_rm 0) [.ref 0] (mm_enc shM S) (qi shM (fun S1 v => S = S1 ∧ mm_b (-1) (14) v ∧ (True))) := by
  refine mc_of2 (own := RX10) (ini := false) (ls := [(0, .ref 0)]) (by decide) (Nat.le_of_ble_eq_true rfl) rfl (by decide) rfl ?_
  refine mw_iconst dX10_judge_0 ki_0 ?_
  refine mw_istore_n (ls' := [(1, .int 0), (0, .ref 0)]) dX10_judge_1 rfl (by decide) rfl ?_
  have cut2 : ∀ (N2 : Nat) (y101 : Int32), ((16 : Int) - y101.toInt).toNat < N2 → mm_b (0) (15) y101 → mw g RX10 cX10_judge 2 (some .int) false (mm_rm 0) (qi shM (fun S1 v => S = S1 ∧ mm_b (-1) (14) v ∧ (True))) 0 0 (mm_enc shM S) 2 [(0, .ref 0), (1, .int y101)] [] := by
    intro N2
    induction N2 with
    | zero =>
      intro y101 hm103 b102
      exact absurd hm103 (Nat.not_lt_zero _)
    | succ N2 ih2 =>
      intro y101 hm103 b102
      refine mw_iload_n dX10_judge_2 rfl 1 rfl ?_
      refine mw_aload_n dX10_judge_3 rfl 0 rfl ?_
      refine tw_geti (j := 17) dX10_judge_4 shM_0 rfl rfl (by decide) fX10_79 (fun v104 ev104 => ?_)
      have b105 : mm_b (0) (15) v104 := JIM_fld hI ev104 tbM_5 (by decide)
      refine mw_icmp_ge (tgt := 46) dX10_judge_7 (by decide) (fun q106 => ?_) (fun q106 => ?_)
      · skip
        refine mw_iconst dX10_judge_46 ki_m1 ?_
        exact mw_iret rfl dX10_judge_47 rfl rfl ⟨S, _, rfl, rfl, rfl, bd_w n_m1 (by decide), trivial⟩
      · skip
        have b107 : mm_b (0) (14) y101 := bd_lt_l (bd_nle q106) b102 b105 (by decide)
        have b108 : mm_b (1) (15) v104 := bd_lt_r (bd_nle q106) b102 b105 (by decide)
        refine mw_aload_n dX10_judge_10 rfl 0 rfl ?_
        refine tw_getr (j := 2) dX10_judge_11 shM_0 rfl rfl (by decide) fX10_16 ?_
        refine mw_iconst dX10_judge_14 ki_0 ?_
        refine mw_aload_n dX10_judge_15 rfl 0 rfl ?_
        refine tw_getr (j := 16) dX10_judge_16 shM_0 rfl rfl (by decide) fX10_45 ?_
        refine mw_iconst dX10_judge_19 ki_2 ?_
        refine mw_iload_n dX10_judge_20 rfl 1 rfl ?_
        refine mw_imul dX10_judge_21 (fun v109 ev109 => ?_)
        have b110 : mm_b (0) (28) v109 := bd_mul ev109 n_2 b107 (by decide)
        refine tw_iald dX10_judge_22 shM_11 (bd_in b110 (by decide)) (fun v111 ev111 => ?_)
        have b112 : mm_b (0) (9) v111 := JIM_elt hI ev111 b110 tbM_12 (by decide)
        refine mw_iadd dX10_judge_23 (fun v113 ev113 => ?_)
        have b114 : mm_b (0) (9) v113 := bd_add ev113 n_0 b112 (by decide)
        refine tw_iald dX10_judge_24 shM_3 (bd_in b114 (by decide)) (fun v115 ev115 => ?_)
        refine mw_aload_n dX10_judge_25 rfl 0 rfl ?_
        refine tw_getr (j := 16) dX10_judge_26 shM_0 rfl rfl (by decide) fX10_45 ?_
        refine mw_iconst dX10_judge_29 ki_2 ?_
        refine mw_iload_n dX10_judge_30 rfl 1 rfl ?_
        refine mw_imul dX10_judge_31 (fun v116 ev116 => ?_)
        have cv116 : v109 = v116 := ev109.trans ev116.symm
        subst cv116
        refine mw_iconst dX10_judge_32 ki_1 ?_
        refine mw_iadd dX10_judge_33 (fun v117 ev117 => ?_)
        have b118 : mm_b (1) (29) v117 := bd_add ev117 b110 n_1 (by decide)
        refine tw_iald dX10_judge_34 shM_11 (bd_in b118 (by decide)) (fun v119 ev119 => ?_)
        have b120 : mm_b (0) (9) v119 := JIM_elt hI ev119 b118 tbM_12 (by decide)
        refine mw_icmp_eq (tgt := 40) dX10_judge_35 (by decide) (fun q121 => ?_) (fun q121 => ?_)
        · skip
          have b122 : mm_b (0) (9) v115 := bd_eq_l q121 (bd_all v115) b120 (by decide)
          refine mw_iinc (ls' := fun v => [(1, .int v), (0, .ref 0)]) dX10_judge_40 1 rfl (by decide) (fun _ => rfl) (fun v123 ev123 => ?_)
          have b124 : mm_b (1) (15) v123 := bd_inc ev123 b107 (by decide)
          refine mw_goto (tgt := 2) dX10_judge_43 (by decide) ?_
          refine mw_ls [1, 0] rfl ?_
          exact ih2 v123 (ms_inc ev123 b107 (by decide) hm103) (bd_w b124 (by decide))
        · skip
          refine mw_iload_n dX10_judge_38 rfl 1 rfl ?_
          exact mw_iret rfl dX10_judge_39 rfl rfl ⟨S, _, rfl, rfl, rfl, bd_w b107 (by decide), trivial⟩
  refine mw_ls [1, 0] rfl ?_
  exact cut2 _ (0 : Int32) (Nat.lt_succ_self _) (bd_w n_0 (by decide))
set_option maxRecDepth 100000 in
set_option maxHeartbeats 4000000 in
theorem c_X10_seed {g : mm_G} (S : mm_S) (hI : JM S) (x1 : Int32) : mc g yX10_seed cX10_seed 3 (some .int) (mm_rm 0) [.ref 0, .int x1] (mm_enc shM S) (qi shM (fun S1 v => JM S1 ∧ fr [] [] false true S S1 ∧ mm_b (-1000000002) (2147483647) v ∧ (True))) := by
  refine mc_of2 (own := RX10) (ini := false) (ls := [(0, .ref 0), (1, .int x1)]) (by decide) (Nat.le_of_ble_eq_true rfl) rfl (by decide) rfl ?_
  have hF : fr [] [] false true S S := fr_rf
  refine mw_iload_n dX10_seed_0 rfl 1 rfl ?_
  refine mw_if_ge (tgt := 7) dX10_seed_1 (by decide) (fun q101 => ?_) (fun q101 => ?_)
  · skip
    have b102 : mm_b (0) (2147483647) x1 := bd_le_r q101 n_0 (bd_all x1) (by decide)
    refine mw_aload_n dX10_seed_7 rfl 0 rfl ?_
    refine tw_getl (j := 8) dX10_seed_8 shM_0 rfl rfl (by decide) fX10_211 (fun w103 ew103 => ?_)
    have b104 : mm_bl (0) (2147483647) w103 := by rw [ew103]; exact JM_long hI
    refine mw_l2i dX10_seed_11 (fun v105 ev105 => ?_)
    have b106 : mm_b (0) (2147483647) v105 := bl_l2i ev105 b104 (by decide)
    refine mw_istore_n (ls' := [(2, .int v105), (0, .ref 0), (1, .int x1)]) dX10_seed_12 rfl (by decide) rfl ?_
    refine mw_aload_n dX10_seed_13 rfl 1 rfl ?_
    refine mw_iload_n dX10_seed_14 rfl 2 rfl ?_
    refine mw_i2l dX10_seed_15 (fun w107 ew107 => ?_)
    have b108 : mm_bl (0) (2147483647) w107 := bl_i2l ew107 b102
    refine tw_putl (j := 8) dX10_seed_16 shM_0 rfl rfl (by decide) fX10_211 rfl (by decide +kernel) ?_
    have hI109 : JM (mm_upL S 0 8 w107) := JLM_put hI b108 (by decide)
    generalize hS110 : mm_upL S 0 8 w107 = S110 at hI109 ⊢
    have hF111 := fr_upL hF hS110
    refine mw_iload_n dX10_seed_19 rfl 0 rfl ?_
    exact mw_iret rfl dX10_seed_20 rfl rfl ⟨S110, _, rfl, rfl, hI109, hF111, bd_w b106 (by decide), trivial⟩
  · skip
    have b112 : mm_b (-2147483648) (-1) x1 := bd_lt_l (bd_nle q101) (bd_all x1) n_0 (by decide)
    refine mw_ldc dX10_seed_4 kX10_84 ?_
    exact mw_iret rfl dX10_seed_6 rfl rfl ⟨S, _, rfl, rfl, hI, hF, bd_w n_m1000000002 (by decide), trivial⟩
set_option maxRecDepth 100000 in
set_option maxHeartbeats 4000000 in
theorem c_X10_bid {g : mm_G} (S : mm_S) (hI : JM S) (x1 : Int32) (x2 : Int32) : mc g yX10_bid cX10_bid 4 (some .int) (mm_rm 2) [.ref 0, .int x1, .int x2] (mm_enc shM S) (qi shM (fun S1 v => S = S1 ∧ mm_b (-2147483648) (2147483647) v ∧ (True))) := by
  refine mc_of2 (own := RX10) (ini := false) (ls := [(0, .ref 0), (1, .int x1), (2, .int x2)]) (by decide) (Nat.le_of_ble_eq_true rfl) rfl (by decide) rfl ?_
  refine mw_aload_n dX10_bid_0 rfl 0 rfl ?_
  refine mw_iload_n dX10_bid_1 rfl 1 rfl ?_
  refine tc_Vi (as := [.int x1]) (st := []) dX10_bid_2 rfl shM_0 rfl rfl mX10_179 t_X10_isPerson rfl (Nat.le_of_ble_eq_true rfl) (by decide) (by decide) (c_X10_isPerson (g := g) S hI x1) (fun S101 v103 h102 => ?_)
  obtain ⟨rfl, b104, x105⟩ := h102
  refine mw_if_ne (tgt := 11) dX10_bid_5 (by decide) (fun q106 => ?_) (fun q106 => ?_)
  · skip
    have b107 : mm_b (1) (1) v103 := bd_ne_l q106 b104 n_0 (by decide)
    have b108 := Or.resolve_left x105 q106
    refine mw_iload_n dX10_bid_11 rfl 2 rfl ?_
    refine mw_i2l dX10_bid_12 (fun w109 ew109 => ?_)
    have b110 : mm_bl (-2147483648) (2147483647) w109 := bl_i2l ew109 (bd_all x2)
    refine mw_lconst (v := 0) dX10_bid_13 (by decide) ?_
    refine mw_ldc2 dX10_bid_14 kX10_262 ?_
    refine tc_Si (as := [.long w109, .long 0, .long 99]) (st := []) dX10_bid_17 rfl mX10_62 t_X10_in rfl (Nat.le_of_ble_eq_true rfl) (by decide) (by decide) (c_X10_in (g := g) S hI w109 (0 : Int64) (99 : Int64)) (fun S111 v113 h112 => ?_)
    obtain ⟨rfl, b114, x115⟩ := h112
    have x116 := in_use (lo := 0) (hi := 99) x115 ew109 L_0 L_99 (by decide)
    refine mw_if_ne (tgt := 26) dX10_bid_20 (by decide) (fun q117 => ?_) (fun q117 => ?_)
    · skip
      have b118 : mm_b (1) (1) v113 := bd_ne_l q117 b114 n_0 (by decide)
      have b119 := Or.resolve_left x116 q117
      refine mw_aload_n dX10_bid_26 rfl 0 rfl ?_
      refine mw_iload_n dX10_bid_27 rfl 1 rfl ?_
      refine tc_Vi (as := [.int x1]) (st := []) dX10_bid_28 rfl shM_0 rfl rfl mX10_167 t_X10_isAlive rfl (Nat.le_of_ble_eq_true rfl) (by decide) (by decide) (c_X10_isAlive (g := g) S hI x1) (fun S120 v122 h121 => ?_)
      obtain ⟨rfl, b123, x124⟩ := h121
      refine mw_if_ne (tgt := 37) dX10_bid_31 (by decide) (fun q125 => ?_) (fun q125 => ?_)
      · skip
        have b126 : mm_b (1) (1) v122 := bd_ne_l q125 b123 n_0 (by decide)
        refine mw_aload_n dX10_bid_37 rfl 0 rfl ?_
        refine tw_getr (j := 2) dX10_bid_38 shM_0 rfl rfl (by decide) fX10_16 ?_
        refine mw_iconst dX10_bid_41 ki_0 ?_
        refine mw_iload_n dX10_bid_42 rfl 1 rfl ?_
        refine mw_iadd dX10_bid_43 (fun v127 ev127 => ?_)
        have b128 : mm_b (0) (6) v127 := bd_add ev127 n_0 b108 (by decide)
        refine tw_iald dX10_bid_44 shM_3 (bd_in b128 (by decide)) (fun v129 ev129 => ?_)
        have b130 : mm_b (0) (9) v129 := JIM_elt hI ev129 b128 tbM_30 (by decide)
        refine mw_istore_n (ls' := [(3, .int v129), (0, .ref 0), (1, .int x1), (2, .int x2)]) dX10_bid_45 rfl (by decide) rfl ?_
        refine mw_iload_n dX10_bid_46 rfl 0 rfl ?_
        refine mw_bipush dX10_bid_47 kb_9 ?_
        refine mw_icmp_ne (tgt := 56) dX10_bid_49 (by decide) (fun q131 => ?_) (fun q131 => ?_)
        · skip
          have b132 : mm_b (0) (8) v129 := bd_ne_l q131 b130 n_9 (by decide)
          refine mw_aload_n dX10_bid_56 rfl 1 rfl ?_
          refine tw_getr (j := 0) dX10_bid_57 shM_0 rfl rfl (by decide) fX10_7 ?_
          refine mw_iconst dX10_bid_60 ki_3 ?_
          refine mw_iload_n dX10_bid_61 rfl 0 rfl ?_
          refine mw_iadd dX10_bid_62 (fun v133 ev133 => ?_)
          have b134 : mm_b (3) (11) v133 := bd_add ev133 n_3 b132 (by decide)
          refine tw_iald dX10_bid_63 shM_1 (bd_in b134 (by decide)) (fun v135 ev135 => ?_)
          refine mw_iconst dX10_bid_64 ki_1 ?_
          refine mw_iadd dX10_bid_65 (fun v136 ev136 => ?_)
          refine mw_aload_n dX10_bid_66 rfl 1 rfl ?_
          refine mw_iload_n dX10_bid_67 rfl 0 rfl ?_
          refine tc_Vi (as := [.int v129]) (st := [.int v136]) dX10_bid_68 rfl shM_0 rfl rfl mX10_183 t_X10_openTo rfl (Nat.le_of_ble_eq_true rfl) (by decide) (by decide) (c_X10_openTo (g := g) S hI v129) (fun S137 v139 h138 => ?_)
          obtain ⟨rfl, b140, x141⟩ := h138
          refine tc_Si (as := [.int v139]) (st := [.int v136]) dX10_bid_71 rfl mX10_241 t_X10_bits rfl (Nat.le_of_ble_eq_true rfl) (by decide) (by decide) (c_X10_bits (g := g) S hI v139) (fun S142 v144 h143 => ?_)
          obtain ⟨rfl, b145, x146⟩ := h143
          have b147 : mm_b 0 7 v144 := bits_b x146 (bd_w b140 (by decide))
          refine mw_imul dX10_bid_74 (fun v148 ev148 => ?_)
          refine mw_iload_n dX10_bid_75 rfl 3 rfl ?_
          refine mw_imul dX10_bid_76 (fun v149 ev149 => ?_)
          exact mw_iret rfl dX10_bid_77 rfl rfl ⟨S, _, rfl, rfl, rfl, (bd_all v149), trivial⟩
        · skip
          have b150 : mm_b (9) (9) v129 := bd_eq_l q131 b130 n_9 (by decide)
          refine mw_iconst dX10_bid_52 ki_0 ?_
          refine mw_goto (tgt := 77) dX10_bid_53 (by decide) ?_
          exact mw_iret rfl dX10_bid_77 rfl rfl ⟨S, _, rfl, rfl, rfl, bd_w n_0 (by decide), trivial⟩
      · skip
        have b151 : mm_b (0) (0) v122 := bd_eq_l q125 b123 n_0 (by decide)
        refine mw_ldc dX10_bid_34 kX10_187 ?_
        exact mw_iret rfl dX10_bid_36 rfl rfl ⟨S, _, rfl, rfl, rfl, bd_w n_m1000000003 (by decide), trivial⟩
    · skip
      have b152 : mm_b (0) (0) v113 := bd_eq_l q117 b114 n_0 (by decide)
      refine mw_ldc dX10_bid_23 kX10_84 ?_
      exact mw_iret rfl dX10_bid_25 rfl rfl ⟨S, _, rfl, rfl, rfl, bd_w n_m1000000002 (by decide), trivial⟩
  · skip
    have b153 : mm_b (0) (0) v103 := bd_eq_l q106 b104 n_0 (by decide)
    refine mw_ldc dX10_bid_8 kX10_182 ?_
    exact mw_iret rfl dX10_bid_10 rfl rfl ⟨S, _, rfl, rfl, rfl, bd_w n_m1000000001 (by decide), trivial⟩
set_option maxRecDepth 100000 in
set_option maxHeartbeats 4000000 in
theorem c_X10_live {g : mm_G} (S : mm_S) (hI : JM S) (x1 : Int32) (x2 : Int32) (x3 : Int32) : mc g yX10_live cX10_live 7 (some .int) (mm_rm 2) [.ref 0, .int x1, .int x2, .int x3] (mm_enc shM S) (qi shM (fun S1 v => S = S1 ∧ mm_b (-2147483648) (2147483647) v ∧ (True))) := by
  refine mc_of2 (own := RX10) (ini := false) (ls := [(0, .ref 0), (1, .int x1), (2, .int x2), (3, .int x3)]) (by decide) (Nat.le_of_ble_eq_true rfl) rfl (by decide) rfl ?_
  refine mw_aload_n dX10_live_0 rfl 0 rfl ?_
  refine mw_iload_n dX10_live_1 rfl 1 rfl ?_
  refine tc_Vi (as := [.int x1]) (st := []) dX10_live_2 rfl shM_0 rfl rfl mX10_264 t_X10_isSet rfl (Nat.le_of_ble_eq_true rfl) (by decide) (by decide) (c_X10_isSet (g := g) S hI x1) (fun S101 v103 h102 => ?_)
  obtain ⟨rfl, b104, x105⟩ := h102
  refine mw_if_ne (tgt := 11) dX10_live_5 (by decide) (fun q106 => ?_) (fun q106 => ?_)
  · skip
    have b107 : mm_b (1) (1) v103 := bd_ne_l q106 b104 n_0 (by decide)
    have b108 := Or.resolve_left x105 q106
    refine mw_iload_n dX10_live_11 rfl 2 rfl ?_
    refine mw_i2l dX10_live_12 (fun w109 ew109 => ?_)
    have b110 : mm_bl (-2147483648) (2147483647) w109 := bl_i2l ew109 (bd_all x2)
    refine mw_lconst (v := 0) dX10_live_13 (by decide) ?_
    refine mw_ldc2 dX10_live_14 kX10_223 ?_
    refine tc_Si (as := [.long w109, .long 0, .long 60]) (st := []) dX10_live_17 rfl mX10_62 t_X10_in rfl (Nat.le_of_ble_eq_true rfl) (by decide) (by decide) (c_X10_in (g := g) S hI w109 (0 : Int64) (60 : Int64)) (fun S111 v113 h112 => ?_)
    obtain ⟨rfl, b114, x115⟩ := h112
    have x116 := in_use (lo := 0) (hi := 60) x115 ew109 L_0 L_60 (by decide)
    refine mw_if_eq (tgt := 35) dX10_live_20 (by decide) (fun q117 => ?_) (fun q117 => ?_)
    · skip
      have b118 : mm_b (0) (0) v113 := bd_eq_l q117 b114 n_0 (by decide)
      refine mw_ldc dX10_live_35 kX10_84 ?_
      exact mw_iret rfl dX10_live_37 rfl rfl ⟨S, _, rfl, rfl, rfl, bd_w n_m1000000002 (by decide), trivial⟩
    · skip
      have b119 : mm_b (1) (1) v113 := bd_ne_l q117 b114 n_0 (by decide)
      have b120 := Or.resolve_left x116 q117
      refine mw_iload_n dX10_live_23 rfl 3 rfl ?_
      refine mw_i2l dX10_live_24 (fun w121 ew121 => ?_)
      have b122 : mm_bl (-2147483648) (2147483647) w121 := bl_i2l ew121 (bd_all x3)
      refine mw_lconst (v := 0) dX10_live_25 (by decide) ?_
      refine mw_ldc2 dX10_live_26 kX10_267 ?_
      refine tc_Si (as := [.long w121, .long 0, .long 100]) (st := []) dX10_live_29 rfl mX10_62 t_X10_in rfl (Nat.le_of_ble_eq_true rfl) (by decide) (by decide) (c_X10_in (g := g) S hI w121 (0 : Int64) (100 : Int64)) (fun S123 v125 h124 => ?_)
      obtain ⟨rfl, b126, x127⟩ := h124
      have x128 := in_use (lo := 0) (hi := 100) x127 ew121 L_0 L_100 (by decide)
      refine mw_if_ne (tgt := 38) dX10_live_32 (by decide) (fun q129 => ?_) (fun q129 => ?_)
      · skip
        have b130 : mm_b (1) (1) v125 := bd_ne_l q129 b126 n_0 (by decide)
        have b131 := Or.resolve_left x128 q129
        refine mw_iload_n dX10_live_38 rfl 1 rfl ?_
        refine mw_aload_n dX10_live_39 rfl 0 rfl ?_
        refine tw_getr (j := 2) dX10_live_40 shM_0 rfl rfl (by decide) fX10_16 ?_
        refine mw_bipush dX10_live_43 kb_28 ?_
        refine tw_iald dX10_live_45 shM_3 (bd_in n_28 (by decide)) (fun v132 ev132 => ?_)
        rw [cl_28] at ev132
        have b133 : mm_b (0) (127) v132 := JIM_fld hI ev132 tbM_32 (by decide)
        refine mw_iconst dX10_live_46 ki_m1 ?_
        refine mw_ixor dX10_live_47 (fun v134 ev134 => ?_)
        refine mw_iand dX10_live_48 (fun v135 ev135 => ?_)
        have b136 : mm_b (0) (127) v135 := bd_and ev135 b108 (by decide)
        refine mw_if_eq (tgt := 55) dX10_live_49 (by decide) (fun q137 => ?_) (fun q137 => ?_)
        · skip
          have b138 : mm_b (0) (0) v135 := bd_eq_l q137 b136 n_0 (by decide)
          refine mw_ldc2 dX10_live_55 kX10_269 ?_
          refine mw_lstore (ls' := [(4, .long 1000000000), (0, .ref 0), (1, .int x1), (2, .int x2), (3, .int x3)]) dX10_live_58 (by decide) rfl ?_
          refine mw_iload_n dX10_live_60 rfl 3 rfl ?_
          refine mw_iload_n dX10_live_61 rfl 2 rfl ?_
          refine tc_Si (as := [.int x1]) (st := [.int x2]) dX10_live_62 rfl mX10_241 t_X10_bits rfl (Nat.le_of_ble_eq_true rfl) (by decide) (by decide) (c_X10_bits (g := g) S hI x1) (fun S139 v141 h140 => ?_)
          obtain ⟨rfl, b142, x143⟩ := h140
          have b144 : mm_b 0 7 v141 := bits_b x143 (bd_w b108 (by decide))
          refine mw_imul dX10_live_65 (fun v145 ev145 => ?_)
          have b146 : mm_b (0) (420) v145 := bd_mul ev145 b120 b144 (by decide)
          refine mw_istore (ls' := [(6, .int v145), (4, .long 1000000000), (0, .ref 0), (1, .int x1), (2, .int x2), (3, .int x3)]) dX10_live_66 (by decide) rfl ?_
          have cut68 : ∀ (N68 : Nat) (y148 : Int32) (z147 : Int64), (y148.toInt - (0 : Int)).toNat < N68 → mm_b (0) (420) y148 → mw g RX10 cX10_live 7 (some .int) false (mm_rm 2) (qi shM (fun S1 v => S = S1 ∧ mm_b (-2147483648) (2147483647) v ∧ (True))) 0 0 (mm_enc shM S) 68 [(3, .int x3), (4, .long z147), (6, .int y148)] [] := by
            intro N68
            induction N68 with
            | zero =>
              intro y148 z147 hm150 b149
              exact absurd hm150 (Nat.not_lt_zero _)
            | succ N68 ih68 =>
              intro y148 z147 hm150 b149
              refine mw_iload dX10_live_68 2 rfl ?_
              refine mw_if_le (tgt := 93) dX10_live_70 (by decide) (fun q151 => ?_) (fun q151 => ?_)
              · skip
                have b152 : mm_b (0) (0) y148 := bd_le_l q151 b149 n_0 (by decide)
                refine mw_lload dX10_live_93 1 rfl ?_
                refine mw_l2i dX10_live_95 (fun v153 ev153 => ?_)
                exact mw_iret rfl dX10_live_96 rfl rfl ⟨S, _, rfl, rfl, rfl, (bd_all v153), trivial⟩
              · skip
                have b154 : mm_b (1) (420) y148 := bd_lt_r (bd_nle q151) n_0 b149 (by decide)
                refine mw_lload dX10_live_73 1 rfl ?_
                refine mw_bipush dX10_live_75 kb_100 ?_
                refine mw_iload_n dX10_live_77 rfl 0 rfl ?_
                refine mw_isub dX10_live_78 (fun v155 ev155 => ?_)
                have b156 : mm_b (0) (100) v155 := bd_sub ev155 n_100 b131 (by decide)
                refine mw_i2l dX10_live_79 (fun w157 ew157 => ?_)
                have b158 : mm_bl (0) (100) w157 := bl_i2l ew157 b156
                refine mw_lmul dX10_live_80 (fun w159 ew159 => ?_)
                refine mw_ldc2 dX10_live_81 kX10_267 ?_
                refine mw_ldiv dX10_live_84 (bl_ne0 L_100 (by decide)) (fun w160 ew160 => ?_)
                refine mw_lstore (ls' := [(4, .long w160), (3, .int x3), (6, .int y148)]) dX10_live_85 (by decide) rfl ?_
                refine mw_iinc (ls' := fun v => [(6, .int v), (4, .long w160), (3, .int x3)]) dX10_live_87 2 rfl (by decide) (fun _ => rfl) (fun v161 ev161 => ?_)
                have b162 : mm_b (0) (419) v161 := bd_inc ev161 b154 (by decide)
                refine mw_goto (tgt := 68) dX10_live_90 (by decide) ?_
                refine mw_ls [2, 1, 0] rfl ?_
                exact ih68 v161 w160 (ms_dec ev161 b154 (by decide) hm150) (bd_w b162 (by decide))
          refine mw_ls [5, 1, 0] rfl ?_
          exact cut68 _ v145 (1000000000 : Int64) (Nat.lt_succ_self _) b146
        · skip
          have b163 : mm_b (1) (127) v135 := bd_ne_l q137 b136 n_0 (by decide)
          refine mw_ldc dX10_live_52 kX10_187 ?_
          exact mw_iret rfl dX10_live_54 rfl rfl ⟨S, _, rfl, rfl, rfl, bd_w n_m1000000003 (by decide), trivial⟩
      · skip
        have b164 : mm_b (0) (0) v125 := bd_eq_l q129 b126 n_0 (by decide)
        refine mw_ldc dX10_live_35 kX10_84 ?_
        exact mw_iret rfl dX10_live_37 rfl rfl ⟨S, _, rfl, rfl, rfl, bd_w n_m1000000002 (by decide), trivial⟩
  · skip
    have b165 : mm_b (0) (0) v103 := bd_eq_l q106 b104 n_0 (by decide)
    refine mw_ldc dX10_live_8 kX10_182 ?_
    exact mw_iret rfl dX10_live_10 rfl rfl ⟨S, _, rfl, rfl, rfl, bd_w n_m1000000001 (by decide), trivial⟩
