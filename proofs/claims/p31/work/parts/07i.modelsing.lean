/-! ===== the reference: sing ===== -/
theorem or_lt {t q P : Nat} (ht : t < 2 ^ P) (hq : q < P) (hP : P ≤ 7) : ∃ j : Nat, j < 2 ^ P ∧ nI t ||| ((1 : Int32) <<< (nI q &&& 31)) = nI j := by
  have hp2 : 2 ^ P ≤ 128 := tb_pw hP
  have h1 := bd_sh1 ⟨q, by omega⟩
  dsimp only at h1
  have e9 : ((2 ^ q : Nat) : Int) = 2 ^ q := by norm_cast
  have h2 : ((1 : Int32) <<< (nI q &&& 31)).toBitVec.toNat = 2 ^ q := by
    have h3 := (bd_pos (x := (1 : Int32) <<< (nI q &&& 31)) (by rw [h1, ← e9]; exact Int.natCast_nonneg _)).1
    rw [h1, ← e9] at h3
    exact (Int.ofNat.inj h3).symm
  have h4 : (nI t ||| ((1 : Int32) <<< (nI q &&& 31))).toBitVec.toNat < 2 ^ P := by
    rw [Int32.toBitVec_or, BitVec.toNat_or, h2, pk_tn (by omega)]
    exact Nat.or_lt_two_pow ht (Nat.pow_lt_pow_right (by decide) hq)
  have h5 := bd_small (x := nI t ||| ((1 : Int32) <<< (nI q &&& 31))) (by omega)
  obtain ⟨j, hj, hj2⟩ := bd_nI (x := nI t ||| ((1 : Int32) <<< (nI q &&& 31))) (by omega)
  exact ⟨j, by omega, hj⟩
abbrev singQ (S : mm_S) : Option Value → List mm_E → Prop := qi shM (fun S1 v => JM S1 ∧ fr [12] [] true true S S1 ∧ mm_b (-2147483648) 2147483647 v ∧ True)
set_option maxRecDepth 100000 in
set_option maxHeartbeats 4000000 in
theorem sing_57 {g : mm_G} (S S1 : mm_S) (hI : JM S1) (x1 : Int32) (r t : Nat) (hr : r ≤ 5) (ht : t < 128) (K : ∀ q : Nat, (q : Int) ≤ (S1.1 1 0).toInt → mw g RX10 cX10_sing 5 (some .int) false (mm_rm 5) (singQ S) 0 0 (mm_enc shM S1) 87 [(0, .ref 0), (1, .int x1), (2, .int (nI t)), (3, .int (nI q)), (4, .int (nI r))] []) :
    ∀ (N q : Nat), 8 - q < N → (∃ q0 : Nat, q ≤ q0 ∧ (q0 : Int) ≤ (S1.1 1 0).toInt ∧ sbF S1 (nI r) (nI t) (nI q0) = S1.1 12 (128 * r + t)) → mw g RX10 cX10_sing 5 (some .int) false (mm_rm 5) (singQ S) 0 0 (mm_enc shM S1) 57 [(0, .ref 0), (1, .int x1), (2, .int (nI t)), (3, .int (nI q)), (4, .int (nI r))] [] := by
  intro N
  induction N with
  | zero =>
    intro q hm
    exact absurd hm (Nat.not_lt_zero _)
  | succ N ih =>
    intro q hm hex
    obtain ⟨q0, hq0, hqP, hs⟩ := hex
    have bP : mm_b 0 7 (S1.1 1 0) := JIM_fld hI rfl tbM_16 (by decide)
    have tr : (nI r).toInt = (r : Int) := nI_toInt (by omega)
    have tt : (nI t).toInt = (t : Int) := nI_toInt (by omega)
    have tq : (nI q).toInt = (q : Int) := nI_toInt (by omega)
    refine mw_aload_n dX10_sing_57 rfl 0 rfl ?_
    refine mw_iload dX10_sing_58 4 rfl ?_
    refine mw_iload_n dX10_sing_60 rfl 2 rfl ?_
    refine mw_iload_n dX10_sing_61 rfl 3 rfl ?_
    refine tc_Vi (as := [.int (nI r), .int (nI t), .int (nI q)]) (st := []) dX10_sing_62 rfl shM_0 rfl rfl mX10_255 t_X10_sungBy rfl (Nat.le_of_ble_eq_true rfl) (by decide) (by decide) (c_X10_sungBy (g := g) S1 hI (nI r) ⟨by omega, by omega⟩ (nI t) ⟨by omega, by omega⟩ (nI q) ⟨by omega, by omega⟩ (by omega)) (fun S2 v2 h2 => ?_)
    obtain ⟨rfl, b2, x2⟩ := h2
    refine mw_aload_n dX10_sing_65 rfl 0 rfl ?_
    refine tw_getr (j := 24) dX10_sing_66 shM_0 rfl rfl (by decide) fX10_48 ?_
    refine mw_sipush dX10_sing_69 ks_128 ?_
    refine mw_iload dX10_sing_72 4 rfl ?_
    refine mw_imul dX10_sing_74 (fun v3 e3 => ?_)
    refine mw_iload_n dX10_sing_75 rfl 2 rfl ?_
    refine mw_iadd dX10_sing_76 (fun v4 e4 => ?_)
    have t4 : v4 = nI (128 * r + t) := by rw [e4, e3, show (128 : Int32) = nI 128 from rfl, pk_mul, nI_add]
    have b4 : mm_b 0 895 v4 := by rw [t4, mm_b, nI_toInt (by omega)]; omega
    have c4 : v4.toNatClampNeg = 128 * r + t := by rw [t4, nI_clamp (by omega)]
    refine tw_iald dX10_sing_77 shM_12 (bd_in b4 (by decide)) (fun v5 e5 => ?_)
    rw [c4] at e5
    refine mw_icmp_eq (tgt := 87) dX10_sing_78 (by decide) (fun c => ?_) (fun c => ?_)
    · exact K q (by omega)
    · refine mw_iinc (ls' := fun v => [(3, .int v), (0, .ref 0), (1, .int x1), (2, .int (nI t)), (4, .int (nI r))]) dX10_sing_81 3 rfl (by decide) (fun _ => rfl) (fun v6 e6 => ?_)
      have t6 : v6 = nI (q + 1) := by rw [e6, show Int32.ofInt 1 = 1 from rfl, nI_1]
      subst t6
      refine mw_goto (tgt := 57) dX10_sing_84 (by decide) ?_
      refine mw_ls [1, 2, 3, 0, 4] rfl ?_
      refine ih (q + 1) (by omega) ⟨q0, ?_, hqP, hs⟩
      rcases (by omega : q0 = q ∨ q + 1 ≤ q0) with h | h
      · subst h
        exact absurd (by rw [x2, hs, e5]) c
      · exact h
set_option maxRecDepth 100000 in
set_option maxHeartbeats 4000000 in
theorem sing_49 {g : mm_G} (S S1 : mm_S) (hI : JM S1) (hF : fr [12] [] true true S S1) (x1 : Int32) (hk : x1.toInt < (S1.1 1 2).toInt) (hA : ∀ r t : Nat, (r : Int) < (S1.1 1 2).toInt → t < 2 ^ (S1.1 1 0).toInt.toNat → att S1 r t) :
    ∀ (N r t q : Nat), 7 - r < N → r ≤ 6 → t < 2 ^ (S1.1 1 0).toInt.toNat → mw g RX10 cX10_sing 5 (some .int) false (mm_rm 5) (singQ S) 0 0 (mm_enc shM S1) 49 [(0, .ref 0), (1, .int x1), (2, .int (nI t)), (3, .int (nI q)), (4, .int (nI r))] [] := by
  intro N
  induction N with
  | zero =>
    intro r t q hm
    exact absurd hm (Nat.not_lt_zero _)
  | succ N ih =>
    intro r t q hm hr6 ht
    have bP : mm_b 0 7 (S1.1 1 0) := JIM_fld hI rfl tbM_16 (by decide)
    have bR : mm_b 0 6 (S1.1 1 2) := JIM_fld hI rfl tbM_18 (by decide)
    have hpw : 2 ^ (S1.1 1 0).toInt.toNat ≤ 128 := tb_pw (by omega)
    have tr : (nI r).toInt = (r : Int) := nI_toInt (by omega)
    refine mw_iload dX10_sing_49 4 rfl ?_
    refine mw_iload_n dX10_sing_51 rfl 1 rfl ?_
    refine mw_icmp_gt (tgt := 113) dX10_sing_52 (by decide) (fun c => ?_) (fun c => ?_)
    · refine mw_iload_n dX10_sing_113 rfl 3 rfl ?_
      refine mw_aload_n dX10_sing_114 rfl 0 rfl ?_
      refine tw_getr (j := 0) dX10_sing_115 shM_0 rfl rfl (by decide) fX10_7 ?_
      refine mw_iconst dX10_sing_118 ki_0 ?_
      refine tw_iald dX10_sing_119 shM_1 (bd_in n_0 (by decide)) (fun v1 e1 => ?_)
      refine mw_icmp_ne (tgt := 127) dX10_sing_120 (by decide) (fun c2 => ?_) (fun c2 => ?_)
      · refine mw_iload_n dX10_sing_127 rfl 3 rfl ?_
        exact mw_iret rfl dX10_sing_128 rfl rfl ⟨S1, _, rfl, rfl, hI, hF, bd_all _, trivial⟩
      · refine mw_iconst dX10_sing_123 ki_m1 ?_
        refine mw_goto (tgt := 128) dX10_sing_124 (by decide) ?_
        exact mw_iret rfl dX10_sing_128 rfl rfl ⟨S1, _, rfl, rfl, hI, hF, bd_all _, trivial⟩
    · have hc := Int32.le_iff_toInt_le.mp (bd_nlt c)
      rw [tr] at hc
      refine mw_iconst dX10_sing_55 ki_0 ?_
      refine mw_istore_n (ls' := [(3, .int 0), (0, .ref 0), (1, .int x1), (2, .int (nI t)), (4, .int (nI r))]) dX10_sing_56 rfl (by decide) rfl ?_
      refine mw_ls [1, 2, 3, 0, 4] rfl ?_
      obtain ⟨p0, hp0, hs0⟩ := hA r t (by omega) ht
      refine sing_57 S S1 hI x1 r t (by omega) (by omega) ?_ 9 0 (by omega) ⟨p0, Nat.zero_le _, hp0, hs0⟩
      intro q2 hq2
      have tq : (nI q2).toInt = (q2 : Int) := nI_toInt (by omega)
      have fin : ∀ t2 : Nat, t2 < 2 ^ (S1.1 1 0).toInt.toNat → mw g RX10 cX10_sing 5 (some .int) false (mm_rm 5) (singQ S) 0 0 (mm_enc shM S1) 106 [(0, .ref 0), (1, .int x1), (2, .int (nI t)), (3, .int (nI q2)), (4, .int (nI r))] [.int (nI t2)] := by
        intro t2 ht2
        refine mw_istore_n (ls' := [(2, .int (nI t2)), (0, .ref 0), (1, .int x1), (3, .int (nI q2)), (4, .int (nI r))]) dX10_sing_106 rfl (by decide) rfl ?_
        refine mw_iinc (ls' := fun v => [(4, .int v), (2, .int (nI t2)), (0, .ref 0), (1, .int x1), (3, .int (nI q2))]) dX10_sing_107 4 rfl (by decide) (fun _ => rfl) (fun v6 e6 => ?_)
        have t6 : v6 = nI (r + 1) := by rw [e6, show Int32.ofInt 1 = 1 from rfl, nI_1]
        subst t6
        refine mw_goto (tgt := 49) dX10_sing_110 (by decide) ?_
        refine mw_ls [2, 3, 1, 4, 0] rfl ?_
        exact ih (r + 1) t2 q2 (by omega) (by omega) ht2
      refine mw_iload_n dX10_sing_87 rfl 2 rfl ?_
      refine mw_iload_n dX10_sing_88 rfl 3 rfl ?_
      refine mw_aload_n dX10_sing_89 rfl 0 rfl ?_
      refine tw_getr (j := 0) dX10_sing_90 shM_0 rfl rfl (by decide) fX10_7 ?_
      refine mw_iconst dX10_sing_93 ki_0 ?_
      refine tw_iald dX10_sing_94 shM_1 (bd_in n_0 (by decide)) (fun v1 e1 => ?_)
      rw [cl_0] at e1
      refine mw_icmp_ne (tgt := 102) dX10_sing_95 (by decide) (fun c2 => ?_) (fun c2 => ?_)
      · have hne : (q2 : Int) ≠ (S1.1 1 0).toInt := fun z => c2 (Int32.toInt_inj.mp (by rw [tq, e1]; exact z))
        refine mw_iconst dX10_sing_102 ki_1 ?_
        refine mw_iload_n dX10_sing_103 rfl 3 rfl ?_
        refine mw_ishl dX10_sing_104 (fun v2 e2 => ?_)
        refine mw_ior dX10_sing_105 (fun v3 e3 => ?_)
        obtain ⟨j, hj, ej⟩ := or_lt ht (show q2 < (S1.1 1 0).toInt.toNat by omega) (by omega)
        have e4 : v3 = nI j := by rw [e3, e2, ej]
        subst e4
        exact fin j hj
      · refine mw_iconst dX10_sing_98 ki_0 ?_
        refine mw_goto (tgt := 105) dX10_sing_99 (by decide) ?_
        refine mw_ior dX10_sing_105 (fun v3 e3 => ?_)
        have e4 : v3 = nI t := by
          rw [e3]
          apply Int32.toBitVec_inj.mp
          rw [Int32.toBitVec_or]
          exact BitVec.or_zero
        subst e4
        exact fin t ht
set_option maxRecDepth 100000 in
set_option maxHeartbeats 4000000 in
theorem sing_26 {g : mm_G} (S : mm_S) (hI : JM S) (x1 : Int32) (hk : x1.toInt < (S.1 1 2).toInt) : mw g RX10 cX10_sing 5 (some .int) false (mm_rm 5) (singQ S) 0 0 (mm_enc shM S) 26 [(0, .ref 0), (1, .int x1)] [] := by
  refine mw_aload_n dX10_sing_26 rfl 0 rfl ?_
  refine tc_Vv (as := []) (st := []) dX10_sing_27 rfl shM_0 rfl rfl mX10_259 t_X10_layTable rfl (Nat.le_of_ble_eq_true rfl) (by decide) (by decide) (c_X10_layTable (g := g) S hI) (fun S1 h1 => ?_)
  obtain ⟨hI1, hF1, hA⟩ := h1
  have g2 : S1.1 1 2 = S.1 1 2 := hF1.1 1 2 (by decide) (by decide)
  refine mw_iload_n dX10_sing_30 rfl 1 rfl ?_
  refine mw_iconst dX10_sing_31 ki_m1 ?_
  refine mw_icmp_ne (tgt := 42) dX10_sing_32 (by decide) (fun c => ?_) (fun c => ?_)
  · refine mw_iconst dX10_sing_42 ki_0 ?_
    refine mw_istore_n (ls' := [(2, .int 0), (0, .ref 0), (1, .int x1)]) dX10_sing_43 rfl (by decide) rfl ?_
    refine mw_iconst dX10_sing_44 ki_0 ?_
    refine mw_istore_n (ls' := [(3, .int 0), (2, .int 0), (0, .ref 0), (1, .int x1)]) dX10_sing_45 rfl (by decide) rfl ?_
    refine mw_iconst dX10_sing_46 ki_0 ?_
    refine mw_istore (ls' := [(4, .int 0), (3, .int 0), (2, .int 0), (0, .ref 0), (1, .int x1)]) dX10_sing_47 (by decide) rfl ?_
    refine mw_ls [3, 4, 2, 1, 0] rfl ?_
    exact sing_49 S S1 hI1 hF1 x1 (by rw [g2]; exact hk) hA 8 0 0 0 (by omega) (by omega) (Nat.pow_pos (by decide))
  · refine mw_aload_n dX10_sing_35 rfl 0 rfl ?_
    refine tw_getr (j := 24) dX10_sing_36 shM_0 rfl rfl (by decide) fX10_48 ?_
    refine mw_iconst dX10_sing_39 ki_0 ?_
    refine tw_iald dX10_sing_40 shM_12 (bd_in n_0 (by decide)) (fun v5 e5 => ?_)
    exact mw_iret rfl dX10_sing_41 rfl rfl ⟨S1, _, rfl, rfl, hI1, hF1, bd_all _, trivial⟩
set_option maxRecDepth 100000 in
set_option maxHeartbeats 4000000 in
theorem c_X10_sing {g : mm_G} (S : mm_S) (hI : JM S) (x1 : Int32) : mc g yX10_sing cX10_sing 5 (some .int) (mm_rm 5) [.ref 0, .int x1] (mm_enc shM S) (singQ S) := by
  refine mc_of2 (own := RX10) (ini := false) (ls := [(0, .ref 0), (1, .int x1)]) (by decide) (Nat.le_of_ble_eq_true rfl) rfl (by decide) rfl ?_
  have bR : mm_b 0 6 (S.1 1 2) := JIM_fld hI rfl tbM_18 (by decide)
  refine mw_iload_n dX10_sing_0 rfl 1 rfl ?_
  refine mw_iconst dX10_sing_1 ki_m1 ?_
  refine mw_icmp_eq (tgt := 26) dX10_sing_2 (by decide) (fun c => ?_) (fun c => ?_)
  · exact sing_26 S hI x1 (by rw [c]; show (-1 : Int) < _; omega)
  · refine mw_iload_n dX10_sing_5 rfl 1 rfl ?_
    refine mw_i2l dX10_sing_6 (fun w1 e1 => ?_)
    refine mw_lconst (v := 0) dX10_sing_7 (by decide) ?_
    refine mw_aload_n dX10_sing_8 rfl 0 rfl ?_
    refine tw_getr (j := 0) dX10_sing_9 shM_0 rfl rfl (by decide) fX10_7 ?_
    refine mw_iconst dX10_sing_12 ki_2 ?_
    refine tw_iald dX10_sing_13 shM_1 (bd_in n_2 (by decide)) (fun v2 e2 => ?_)
    rw [cl_2] at e2
    refine mw_iconst dX10_sing_14 ki_1 ?_
    refine mw_isub dX10_sing_15 (fun v3 e3 => ?_)
    have t3 : v3.toInt = (S.1 1 2).toInt - 1 := by
      rw [e3, e2, bd_ti_sub (by show -2147483648 ≤ (S.1 1 2).toInt - 1; omega) (by show (S.1 1 2).toInt - 1 ≤ 2147483647; omega)]
      rfl
    refine mw_i2l dX10_sing_16 (fun w4 e4 => ?_)
    refine tc_Si (as := [.long w1, .long 0, .long w4]) (st := []) dX10_sing_17 rfl mX10_62 t_X10_in rfl (Nat.le_of_ble_eq_true rfl) (by decide) (by decide) (c_X10_in (g := g) S hI w1 (0 : Int64) w4) (fun S5 v5 h5 => ?_)
    obtain ⟨rfl, b5, x5⟩ := h5
    refine mw_if_ne (tgt := 26) dX10_sing_20 (by decide) (fun c2 => ?_) (fun c2 => ?_)
    · refine sing_26 S hI x1 ?_
      rcases x5 with x5 | x5
      · exact absurd x5.1 c2
      · rw [e1, e4, Int32.toInt_toInt64, Int32.toInt_toInt64] at x5
        omega
    · refine mw_ldc dX10_sing_23 kX10_182 ?_
      exact mw_iret rfl dX10_sing_25 rfl rfl ⟨S, _, rfl, rfl, hI, fr_rf, bd_all _, trivial⟩
