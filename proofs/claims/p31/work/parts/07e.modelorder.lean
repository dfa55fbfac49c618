set_option maxRecDepth 100000 in
set_option maxHeartbeats 4000000 in
theorem allDie_18 {g : mm_G} (S : mm_S) (x1 : Int32) (hd : dgZ x1) : ∀ (N : Nat) (S1 : mm_S) (u : Int32), u.toInt.toNat < N → JM S1 → fr [4] [] true true S S1 → (u.toInt = 0 ∨ unU x1 u) → mw g RX10 cX10_allDie 4 none false (mm_rm 3) (allQ S) 0 0 (mm_enc shM S1) 18 [(0, .ref 0), (1, .int x1), (2, .int u)] [] := by
  intro N
  induction N with
  | zero =>
    intro S1 u hm
    exact absurd hm (Nat.not_lt_zero _)
  | succ N ih =>
    intro S1 u hm hI hF hu
    refine mw_iload_n dX10_allDie_18 rfl 2 rfl ?_
    refine mw_if_le (tgt := 51) dX10_allDie_19 (by decide) (fun q => ?_) (fun q => ?_)
    · exact mw_vret rfl dX10_allDie_51 rfl rfl ⟨S1, rfl, rfl, hI, hF, trivial⟩
    · have hu0 : 0 < u.toInt := Int32.lt_iff_toInt_lt.mp (bd_nle q)
      refine mw_iload_n dX10_allDie_22 rfl 1 rfl ?_
      refine mw_if_le (tgt := 51) dX10_allDie_23 (by decide) (fun q2 => ?_) (fun q2 => ?_)
      · exact mw_vret rfl dX10_allDie_51 rfl rfl ⟨S1, rfl, rfl, hI, hF, trivial⟩
      · have ho : 0 < x1.toInt := Int32.lt_iff_toInt_lt.mp (bd_nle q2)
        obtain ⟨k, hk1, hk2⟩ : unU x1 u := hu.resolve_left (by omega)
        have hdv : 0 < x1.toInt.toNat / 10 ^ k := by
          rcases hk2 with h | h
          · subst h
            rw [Nat.pow_zero, Nat.div_one]
            omega
          · exact Nat.div_pos h (Nat.pow_pos (by decide))
        have hdg := hd.2 k hdv
        generalize hD : x1.toInt.toNat / 10 ^ k = D at hdv hdg
        refine mw_aload_n dX10_allDie_26 rfl 0 rfl ?_
        refine mw_aload_n dX10_allDie_27 rfl 0 rfl ?_
        refine tw_getr (j := 3) dX10_allDie_28 shM_0 rfl rfl (by decide) fX10_19 ?_
        refine mw_iload_n dX10_allDie_31 rfl 1 rfl ?_
        refine mw_iload_n dX10_allDie_32 rfl 2 rfl ?_
        refine mw_idiv dX10_allDie_33 (bd_ne0 (show mm_b 1 2147483647 u from ⟨by omega, (bd_rng u).2⟩) (by decide)) (fun z1 e1 => ?_)
        have t1 : z1.toInt = (D : Int) := by
          rw [e1, bd_ti_div (by omega) hu0, hk1, ← hD, Int.natCast_ediv]
          congr 1
          omega
        refine mw_bipush dX10_allDie_34 kb_10 ?_
        refine mw_irem dX10_allDie_36 (by decide) (fun z2 e2 => ?_)
        have t2 : z2.toInt = ((D % 10 : Nat) : Int) := by
          rw [e2, bd_ti_rem (by omega), t1]
          show _ % (10 : Int) = _
          omega
        refine mw_iconst dX10_allDie_37 ki_1 ?_
        refine mw_isub dX10_allDie_38 (fun z3 e3 => ?_)
        have t3 : z3.toInt = z2.toInt - 1 := by
          rw [e3, bd_ti_sub (by show -2147483648 ≤ z2.toInt - 1; omega) (by show z2.toInt - 1 ≤ 2147483647; omega)]
          rfl
        refine tc_Vi (as := [.ref 4, .int z3]) (st := []) dX10_allDie_39 rfl shM_0 rfl rfl mX10_191 t_X10_dies rfl (Nat.le_of_ble_eq_true rfl) (by decide) (by decide) (c_X10_dies4 (g := g) S1 hI z3 ⟨by omega, by omega⟩) (fun S2 v4 h4 => ?_)
        obtain ⟨hI2, hf2, b4, -⟩ := h4
        have hF2 := fr_tr hF hf2 (by decide) (by decide) (by decide) (by decide)
        refine mw_istore_n (ls' := [(3, .int v4), (0, .ref 0), (1, .int x1), (2, .int u)]) dX10_allDie_42 rfl (by decide) rfl ?_
        refine mw_iload_n dX10_allDie_43 rfl 3 rfl ?_
        refine mw_bipush dX10_allDie_44 kb_10 ?_
        refine mw_idiv dX10_allDie_46 (by decide) (fun z5 e5 => ?_)
        have t5 : z5.toInt = u.toInt / 10 := by
          rw [e5, bd_ti_div (by omega) (by decide)]
          rfl
        refine mw_istore_n (ls' := [(2, .int z5), (3, .int v4), (0, .ref 0), (1, .int x1)]) dX10_allDie_47 rfl (by decide) rfl ?_
        refine mw_goto (tgt := 18) dX10_allDie_48 (by decide) ?_
        refine mw_ls [2, 3, 0] rfl ?_
        refine ih S2 z5 (by omega) hI2 hF2 ?_
        cases k with
        | zero =>
          left
          rw [t5, hk1]
          rfl
        | succ k =>
          right
          refine ⟨k, ?_, Or.inr ?_⟩
          · rw [t5, hk1, Nat.pow_succ]
            omega
          · rcases hk2 with h | h
            · omega
            · rw [Nat.pow_succ] at h
              omega
set_option maxRecDepth 100000 in
set_option maxHeartbeats 4000000 in
theorem c_X10_allDie {g : mm_G} (S : mm_S) (hI : JM S) (x1 : Int32) (hd : dgZ x1) : mc g yX10_allDie cX10_allDie 4 none (mm_rm 3) [.ref 0, .int x1] (mm_enc shM S) (allQ S) := by
  refine mc_of2 (own := RX10) (ini := false) (ls := [(0, .ref 0), (1, .int x1)]) (by decide) (Nat.le_of_ble_eq_true rfl) rfl (by decide) rfl ?_
  refine mw_iconst dX10_allDie_0 ki_1 ?_
  refine mw_istore_n (ls' := [(2, .int 1), (0, .ref 0), (1, .int x1)]) dX10_allDie_1 rfl (by decide) rfl ?_
  have cut : ∀ (N : Nat) (u : Int32), (2147483648 - u.toInt).toNat < N → unU x1 u → mw g RX10 cX10_allDie 4 none false (mm_rm 3) (allQ S) 0 0 (mm_enc shM S) 2 [(0, .ref 0), (1, .int x1), (2, .int u)] [] := by
    intro N
    induction N with
    | zero =>
      intro u hm
      exact absurd hm (Nat.not_lt_zero _)
    | succ N ih =>
      intro u hm hu
      obtain ⟨k, hk1, hk2⟩ := hu
      have hp : 0 < 10 ^ k := Nat.pow_pos (by decide)
      have ho := hd.1
      refine mw_iload_n dX10_allDie_2 rfl 1 rfl ?_
      refine mw_iload_n dX10_allDie_3 rfl 2 rfl ?_
      refine mw_idiv dX10_allDie_4 (bd_ne0 (show mm_b 1 2147483647 u from ⟨by omega, (bd_rng u).2⟩) (by decide)) (fun z1 e1 => ?_)
      have t1 : z1.toInt = x1.toInt / u.toInt := by rw [e1, bd_ti_div (by omega) (by omega)]
      refine mw_bipush dX10_allDie_5 kb_10 ?_
      refine mw_icmp_lt (tgt := 18) dX10_allDie_7 (by decide) (fun q => ?_) (fun q => ?_)
      · exact allDie_18 S x1 hd _ S u (Nat.lt_succ_self _) hI fr_rf (Or.inr ⟨k, hk1, hk2⟩)
      · have h10 : (10 : Int) ≤ z1.toInt := Int32.le_iff_toInt_le.mp (bd_nlt q)
        have hmul : u.toInt * 10 ≤ x1.toInt := by
          rw [t1] at h10
          have h11 : 10 * u.toInt ≤ x1.toInt / u.toInt * u.toInt := Int.mul_le_mul_of_nonneg_right h10 (by omega)
          have h12 : x1.toInt / u.toInt * u.toInt ≤ x1.toInt := Int.ediv_mul_le _ (by omega)
          omega
        have hr := bd_rng x1
        refine mw_iload_n dX10_allDie_10 rfl 2 rfl ?_
        refine mw_bipush dX10_allDie_11 kb_10 ?_
        refine mw_imul dX10_allDie_13 (fun z2 e2 => ?_)
        have t2 : z2.toInt = u.toInt * 10 := by
          rw [e2, bd_ti_mul (by show -2147483648 ≤ u.toInt * 10; omega) (by show u.toInt * 10 ≤ 2147483647; omega)]
          rfl
        refine mw_istore_n (ls' := [(2, .int z2), (0, .ref 0), (1, .int x1)]) dX10_allDie_14 rfl (by decide) rfl ?_
        refine mw_goto (tgt := 2) dX10_allDie_15 (by decide) ?_
        refine mw_ls [1, 2, 0] rfl ?_
        refine ih z2 (by omega) ⟨k + 1, ?_, Or.inr ?_⟩
        · rw [t2, hk1, Nat.pow_succ]
          omega
        · rw [Nat.pow_succ]
          omega
  refine mw_ls [1, 2, 0] rfl ?_
  exact cut _ 1 (Nat.lt_succ_self _) ⟨0, rfl, Or.inl rfl⟩
