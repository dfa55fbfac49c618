/-! ===== the reference: here, step ===== -/
def hereF (S : mm_S) : Int32 := if (S.1 0 18) < (S.1 0 10) then S.1 8 (S.1 0 18).toNatClampNeg else -1
set_option maxRecDepth 100000 in
set_option maxHeartbeats 4000000 in
theorem c_X10_here {g : mm_G} (S : mm_S) (hI : JM S)  : mc g yX10_here cX10_here 1 (some .int) (mm_rm 0) [.ref 0] (mm_enc shM S) (qi shM (fun S1 v => S = S1 ∧ mm_b (-1) (255) v ∧ (v = hereF S ∧ (v = -1 ∨ mm_b 0 239 (S.1 0 18))))) := by
  refine mc_of2 (own := RX10) (ini := false) (ls := [(0, .ref 0)]) (by decide) (Nat.le_of_ble_eq_true rfl) rfl (by decide) rfl ?_
  refine mw_aload_n dX10_here_0 rfl 0 rfl ?_
  refine tw_geti (j := 18) dX10_here_1 shM_0 rfl rfl (by decide) fX10_89 (fun v101 ev101 => ?_)
  have b102 : mm_b (0) (240) v101 := JIM_fld hI ev101 tbM_6 (by decide)
  refine mw_aload_n dX10_here_4 rfl 0 rfl ?_
  refine tw_geti (j := 10) dX10_here_5 shM_0 rfl rfl (by decide) fX10_85 (fun v103 ev103 => ?_)
  have b104 : mm_b (0) (240) v103 := JIM_fld hI ev103 tbM_2 (by decide)
  refine mw_icmp_ge (tgt := 23) dX10_here_8 (by decide) (fun q105 => ?_) (fun q105 => ?_)
  · refine mw_iconst dX10_here_23 ki_m1 ?_
    refine mw_iret rfl dX10_here_24 rfl rfl ⟨S, _, rfl, rfl, rfl, bd_w n_m1 (by decide), ?_, Or.inl rfl⟩
    unfold hereF
    rw [if_neg]
    rw [← ev101, ← ev103]
    intro q
    have h1 := Int32.lt_iff_toInt_lt.mp q
    have h2 := Int32.le_iff_toInt_le.mp q105
    omega
  · have b106 : mm_b (0) (239) v101 := bd_lt_l (bd_nle q105) b102 b104 (by decide)
    refine mw_aload_n dX10_here_11 rfl 0 rfl ?_
    refine tw_getr (j := 9) dX10_here_12 shM_0 rfl rfl (by decide) fX10_32 ?_
    refine mw_aload_n dX10_here_15 rfl 0 rfl ?_
    refine tw_geti (j := 18) dX10_here_16 shM_0 rfl rfl (by decide) fX10_89 (fun v108 ev108 => ?_)
    have cv108 : v101 = v108 := ev101.trans ev108.symm
    subst cv108
    refine tw_iald dX10_here_19 shM_8 (bd_in b106 (by decide)) (fun v109 ev109 => ?_)
    have b110 : mm_b (0) (255) v109 := JIM_elt hI ev109 b106 tbM_9 (by decide)
    refine mw_goto (tgt := 24) dX10_here_20 (by decide) ?_
    refine mw_iret rfl dX10_here_24 rfl rfl ⟨S, _, rfl, rfl, rfl, bd_w b110 (by decide), ?_, Or.inr (by rw [← ev101]; exact b106)⟩
    unfold hereF
    rw [if_pos, ← ev101, ev109]
    rw [← ev101, ← ev103]
    exact bd_nle q105
theorem fr_at {wr wf : List Nat} {k m : Bool} {S S1 S2 : mm_S} {v : Int32} (h : fr wr wf k m S S1) (e : mm_up S1 0 18 v = S2) (hj : 18 ∈ wf) (hv : (S1.1 0 18).toInt ≤ v.toInt) : fr wr wf k m S S2 := by
  refine ⟨fun b i hb h0 => ?_, fun i hi => ?_, fun q => ?_, fun q => ?_⟩
  · rw [← up_neA e h0]
    exact h.1 b i hb h0
  · rw [← up_neF e (fun z => hi (by rw [z]; exact hj))]
    exact h.2.1 i hi
  · rw [← e]
    exact h.2.2.1 q
  · rw [← up_eq e]
    exact Int.le_trans (h.2.2.2 q) hv
abbrev stepQ (S : mm_S) : Option Value → List mm_E → Prop := qv shM (fun S1 => JM S1 ∧ fr [] [18, 19, 20, 21, 22] true true S S1 ∧ ((S1.1 0 20).toInt < 0 ∨ (S1.1 0 20).toInt = 48 ∨ (S.1 0 18).toInt < (S1.1 0 18).toInt))
def stepR (S : mm_S) : Prop := 0 ≤ (S.1 0 21).toInt ∧ (S.1 0 21).toInt ≤ (S.1 0 18).toInt ∧ 0 ≤ (S.1 0 22).toInt ∧ (S.1 0 22).toInt ≤ 999 ∧ ((S.1 0 21).toInt ≤ 2 → (S.1 0 22).toInt ≤ 99) ∧ ((S.1 0 21).toInt ≤ 1 → (S.1 0 22).toInt ≤ 9) ∧ ((S.1 0 21).toInt ≤ 0 → (S.1 0 22).toInt ≤ 0)
set_option maxRecDepth 100000 in
set_option maxHeartbeats 4000000 in
/-- the figures of a number -/
theorem step_93 {g : mm_G} (S : mm_S) : ∀ (N : Nat) (S1 : mm_S), (240 - (S1.1 0 18).toInt).toNat < N → JM S1 → fr [] [18, 19, 20, 21, 22] true true S S1 → (S1.1 0 20).toInt = 48 → stepR S1 → mw g RX10 cX10_step 1 none false (mm_rm 1) (stepQ S) 0 0 (mm_enc shM S1) 93 [(0, .ref 0)] [] := by
  intro N
  induction N with
  | zero =>
    intro S1 hm
    exact absurd hm (Nat.not_lt_zero _)
  | succ N ih =>
    intro S1 hm hI hF hs hR
    refine mw_aload_n dX10_step_93 rfl 0 rfl ?_
    refine tc_Vi (as := []) (st := []) dX10_step_94 rfl shM_0 rfl rfl mX10_92 t_X10_here rfl (Nat.le_of_ble_eq_true rfl) (by decide) (by decide) (c_X10_here (g := g) S1 hI) (fun S2 v1 h1 => ?_)
    obtain ⟨rfl, b1, f1, x1⟩ := h1
    refine mw_i2l dX10_step_97 (fun w2 e2 => ?_)
    refine mw_ldc2 dX10_step_98 kX10_108 ?_
    refine mw_ldc2 dX10_step_101 kX10_110 ?_
    refine tc_Si (as := [.long w2, .long 48, .long 57]) (st := []) dX10_step_104 rfl mX10_62 t_X10_in rfl (Nat.le_of_ble_eq_true rfl) (by decide) (by decide) (c_X10_in (g := g) S1 hI w2 (48 : Int64) (57 : Int64)) (fun S3 v3 h3 => ?_)
    obtain ⟨rfl, b3, x3⟩ := h3
    refine mw_if_eq (tgt := 167) dX10_step_107 (by decide) (fun q => ?_) (fun q => ?_)
    · exact mw_vret rfl dX10_step_167 rfl rfl ⟨S1, rfl, rfl, hI, hF, Or.inr (Or.inl hs)⟩
    · have bv : mm_b 48 57 v1 := (in_use (lo := 48) (hi := 57) x3 e2 L_48 L_57 (by decide)).resolve_left q
      have bt : mm_b 0 239 (S1.1 0 18) := x1.resolve_left (fun e => by rw [e] at bv; exact absurd bv (by decide))
      -- the new value
      have key : ∀ (S2 : mm_S), JM S2 → fr [] [18, 19, 20, 21, 22] true true S S2 → (S2.1 0 20).toInt = 48 → (S2.1 0 21) = (S1.1 0 21) → (S2.1 0 18) = (S1.1 0 18) → ((S1.1 0 21).toInt + 1 ≤ 2 → (S2.1 0 22).toInt ≤ 99) → ((S1.1 0 21).toInt + 1 ≤ 1 → (S2.1 0 22).toInt ≤ 9) → 0 ≤ (S2.1 0 22).toInt → (S2.1 0 22).toInt ≤ 999 → mw g RX10 cX10_step 1 none false (mm_rm 1) (stepQ S) 0 0 (mm_enc shM S2) 144 [(0, .ref 0)] [] := by
        intro S2 hI2 hF2 hs2 h21 h18 hv2 hv1 hv0 hv9
        unfold stepR at hR
        refine mw_aload_n dX10_step_144 rfl 0 rfl ?_
        refine mw_dup dX10_step_145 rfl ?_
        refine tw_geti (j := 21) dX10_step_146 shM_0 rfl rfl (by decide) fX10_102 (fun v4 e4 => ?_)
        refine mw_iconst dX10_step_149 ki_1 ?_
        refine mw_iadd dX10_step_150 (fun v5 e5 => ?_)
        have t5 : v5.toInt = (S1.1 0 21).toInt + 1 := by
          rw [e5, e4, h21, bd_ti_add (by show -2147483648 ≤ (S1.1 0 21).toInt + 1; omega) (by show (S1.1 0 21).toInt + 1 ≤ 2147483647; omega)]
          rfl
        refine tw_puti (j := 21) dX10_step_151 shM_0 rfl rfl (by decide) fX10_102 rfl (by decide +kernel) ?_
        have hI3 : JM (mm_up S2 0 21 v5) := JIM_put hI2 (bd_all v5) (by decide +kernel)
        generalize hS3 : mm_up S2 0 21 v5 = S3 at hI3 ⊢
        have hF3 := fr_upF hF2 hS3 (by decide)
        refine mw_aload_n dX10_step_154 rfl 0 rfl ?_
        refine mw_dup dX10_step_155 rfl ?_
        refine tw_geti (j := 18) dX10_step_156 shM_0 rfl rfl (by decide) fX10_89 (fun v6 e6 => ?_)
        rw [← up_neF hS3 (by decide), h18] at e6
        refine mw_iconst dX10_step_159 ki_1 ?_
        refine mw_iadd dX10_step_160 (fun v7 e7 => ?_)
        have t7 : v7.toInt = (S1.1 0 18).toInt + 1 := by
          rw [e7, e6, bd_ti_add (by show -2147483648 ≤ (S1.1 0 18).toInt + 1; omega) (by show (S1.1 0 18).toInt + 1 ≤ 2147483647; omega)]
          rfl
        refine tw_puti (j := 18) dX10_step_161 shM_0 rfl rfl (by decide) fX10_89 rfl (by decide +kernel) ?_
        have hI4 : JM (mm_up S3 0 18 v7) := JIM_put hI3 (show mm_b 0 240 v7 from ⟨by omega, by omega⟩) (by decide +kernel)
        generalize hS4 : mm_up S3 0 18 v7 = S4 at hI4 ⊢
        have hF4 := fr_at hF3 hS4 (by decide) (by rw [← up_neF hS3 (by decide), h18]; omega)
        refine mw_goto (tgt := 93) dX10_step_164 (by decide) ?_
        have g18 : S4.1 0 18 = v7 := (up_eq hS4).symm
        have g21 : S4.1 0 21 = v5 := by rw [← up_neF hS4 (by decide), ← up_eq hS3]
        have g22 : S4.1 0 22 = S2.1 0 22 := by rw [← up_neF hS4 (by decide), ← up_neF hS3 (by decide)]
        have g20 : S4.1 0 20 = S2.1 0 20 := by rw [← up_neF hS4 (by decide), ← up_neF hS3 (by decide)]
        refine ih S4 (by rw [g18]; omega) hI4 hF4 (by rw [g20]; exact hs2) ?_
        unfold stepR
        rw [g18, g21, g22]
        omega
      refine mw_aload_n dX10_step_110 rfl 0 rfl ?_
      refine mw_aload_n dX10_step_111 rfl 0 rfl ?_
      refine tw_geti (j := 21) dX10_step_112 shM_0 rfl rfl (by decide) fX10_102 (fun v4 e4 => ?_)
      refine mw_iconst dX10_step_115 ki_3 ?_
      refine mw_icmp_ge (tgt := 137) dX10_step_116 (by decide) (fun q2 => ?_) (fun q2 => ?_)
      · have h3 : 3 ≤ v4.toInt := Int32.le_iff_toInt_le.mp q2
        rw [e4] at h3
        refine mw_aload_n dX10_step_137 rfl 0 rfl ?_
        refine tw_geti (j := 22) dX10_step_138 shM_0 rfl rfl (by decide) fX10_105 (fun v5 e5 => ?_)
        refine tw_puti (j := 22) dX10_step_141 shM_0 rfl rfl (by decide) fX10_105 rfl (by decide +kernel) ?_
        unfold stepR at hR
        have hI3 : JM (mm_up S1 0 22 v5) := JIM_put hI (show mm_b 0 999 v5 by rw [e5]; exact ⟨by omega, by omega⟩) (by decide +kernel)
        generalize hS3 : mm_up S1 0 22 v5 = S3 at hI3 ⊢
        have hF3 := fr_upF hF hS3 (by decide)
        have g22 : S3.1 0 22 = S1.1 0 22 := by rw [← up_eq hS3, e5]
        exact key S3 hI3 hF3 (by rw [← up_neF hS3 (by decide)]; exact hs) (up_neF hS3 (by decide)).symm (up_neF hS3 (by decide)).symm (by rw [g22]; omega) (by rw [g22]; omega) (by rw [g22]; omega) (by rw [g22]; omega)
      · have h3 : v4.toInt < 3 := Int32.lt_iff_toInt_lt.mp (bd_nle q2)
        rw [e4] at h3
        unfold stepR at hR
        refine mw_bipush dX10_step_119 kb_10 ?_
        refine mw_aload_n dX10_step_121 rfl 0 rfl ?_
        refine tw_geti (j := 22) dX10_step_122 shM_0 rfl rfl (by decide) fX10_105 (fun v5 e5 => ?_)
        have t5 : v5.toInt = (S1.1 0 22).toInt := by rw [e5]
        refine mw_imul dX10_step_125 (fun v6 e6 => ?_)
        have t6 : v6.toInt = 10 * (S1.1 0 22).toInt := by
          rw [e6, bd_ti_mul (by show -2147483648 ≤ 10 * v5.toInt; omega) (by show 10 * v5.toInt ≤ 2147483647; omega), ← t5]
          rfl
        refine mw_aload_n dX10_step_126 rfl 0 rfl ?_
        refine tc_Vi (as := []) (st := [.int v6, .ref 0]) dX10_step_127 rfl shM_0 rfl rfl mX10_92 t_X10_here rfl (Nat.le_of_ble_eq_true rfl) (by decide) (by decide) (c_X10_here (g := g) S1 hI) (fun S2 v7 h7 => ?_)
        obtain ⟨rfl, b7, f7, x7⟩ := h7
        have c7 : v1 = v7 := f1.trans f7.symm
        subst c7
        refine mw_iadd dX10_step_130 (fun v8 e8 => ?_)
        have t8 : v8.toInt = 10 * (S1.1 0 22).toInt + v1.toInt := by rw [e8, bd_ti_add (by omega) (by omega), t6]
        refine mw_bipush dX10_step_131 kb_48 ?_
        refine mw_isub dX10_step_133 (fun v9 e9 => ?_)
        have t9 : v9.toInt = 10 * (S1.1 0 22).toInt + v1.toInt - 48 := by
          rw [e9, bd_ti_sub (by show -2147483648 ≤ v8.toInt - 48; omega) (by show v8.toInt - 48 ≤ 2147483647; omega), t8]
          rfl
        refine mw_goto (tgt := 141) dX10_step_134 (by decide) ?_
        refine tw_puti (j := 22) dX10_step_141 shM_0 rfl rfl (by decide) fX10_105 rfl (by decide +kernel) ?_
        have hI3 : JM (mm_up S1 0 22 v9) := JIM_put hI (show mm_b 0 999 v9 from ⟨by omega, by omega⟩) (by decide +kernel)
        generalize hS3 : mm_up S1 0 22 v9 = S3 at hI3 ⊢
        have hF3 := fr_upF hF hS3 (by decide)
        have g22 : S3.1 0 22 = v9 := (up_eq hS3).symm
        exact key S3 hI3 hF3 (by rw [← up_neF hS3 (by decide)]; exact hs) (up_neF hS3 (by decide)).symm (up_neF hS3 (by decide)).symm (by rw [g22]; omega) (by rw [g22]; omega) (by rw [g22]; omega) (by rw [g22]; omega)
set_option maxRecDepth 100000 in
set_option maxHeartbeats 4000000 in
theorem step_22 {g : mm_G} (S S1 : mm_S) (hI : JM S1) (hF : fr [] [18, 19, 20, 21, 22] true true S S1) : mw g RX10 cX10_step 1 none false (mm_rm 1) (stepQ S) 0 0 (mm_enc shM S1) 22 [(0, .ref 0)] [] := by
  refine mw_aload_n dX10_step_22 rfl 0 rfl ?_
  refine mw_aload_n dX10_step_23 rfl 0 rfl ?_
  refine tw_geti (j := 18) dX10_step_24 shM_0 rfl rfl (by decide) fX10_89 (fun v1 e1 => ?_)
  refine tw_puti (j := 19) dX10_step_27 shM_0 rfl rfl (by decide) fX10_96 rfl (by decide +kernel) ?_
  have hI2 : JM (mm_up S1 0 19 v1) := JIM_put hI (bd_all v1) (by decide +kernel)
  generalize hS2 : mm_up S1 0 19 v1 = S2 at hI2 ⊢
  have hF2 := fr_upF hF hS2 (by decide)
  refine mw_aload_n dX10_step_30 rfl 0 rfl ?_
  refine mw_aload_n dX10_step_31 rfl 0 rfl ?_
  refine tc_Vi (as := []) (st := [.ref 0]) dX10_step_32 rfl shM_0 rfl rfl mX10_92 t_X10_here rfl (Nat.le_of_ble_eq_true rfl) (by decide) (by decide) (c_X10_here (g := g) S2 hI2) (fun S3 v3 h3 => ?_)
  obtain ⟨rfl, b3, f3, x3⟩ := h3
  refine tw_puti (j := 20) dX10_step_35 shM_0 rfl rfl (by decide) fX10_99 rfl (by decide +kernel) ?_
  have hI4 : JM (mm_up S2 0 20 v3) := JIM_put hI2 b3 (by decide +kernel)
  generalize hS4 : mm_up S2 0 20 v3 = S4 at hI4 ⊢
  have hF4 := fr_upF hF2 hS4 (by decide)
  refine mw_aload_n dX10_step_38 rfl 0 rfl ?_
  refine mw_iconst dX10_step_39 ki_0 ?_
  refine tw_puti (j := 21) dX10_step_40 shM_0 rfl rfl (by decide) fX10_102 rfl (by decide +kernel) ?_
  have hI5 : JM (mm_up S4 0 21 0) := JIM_put hI4 n_0 (by decide +kernel)
  generalize hS5 : mm_up S4 0 21 0 = S5 at hI5 ⊢
  have hF5 := fr_upF hF4 hS5 (by decide)
  refine mw_aload_n dX10_step_43 rfl 0 rfl ?_
  refine mw_iconst dX10_step_44 ki_0 ?_
  refine tw_puti (j := 22) dX10_step_45 shM_0 rfl rfl (by decide) fX10_105 rfl (by decide +kernel) ?_
  have hI6 : JM (mm_up S5 0 22 0) := JIM_put hI5 n_0 (by decide +kernel)
  generalize hS6 : mm_up S5 0 22 0 = S6 at hI6 ⊢
  have hF6 := fr_upF hF5 hS6 (by decide)
  have g20 : S6.1 0 20 = v3 := by rw [← up_neF hS6 (by decide), ← up_neF hS5 (by decide), ← up_eq hS4]
  have g18 : S6.1 0 18 = S2.1 0 18 := by rw [← up_neF hS6 (by decide), ← up_neF hS5 (by decide), ← up_neF hS4 (by decide)]
  have g21 : S6.1 0 21 = 0 := by rw [← up_neF hS6 (by decide), ← up_eq hS5]
  have g22 : S6.1 0 22 = 0 := (up_eq hS6).symm
  have b18 : mm_b 0 240 (S6.1 0 18) := JIM_fld hI6 rfl tbM_6 (by decide)
  refine mw_aload_n dX10_step_48 rfl 0 rfl ?_
  refine tw_geti (j := 20) dX10_step_49 shM_0 rfl rfl (by decide) fX10_99 (fun v7 e7 => ?_)
  have c7 : v3 = v7 := g20.symm.trans e7.symm
  subst c7
  refine mw_i2l dX10_step_52 (fun w8 e8 => ?_)
  refine mw_ldc2 dX10_step_53 kX10_108 ?_
  refine mw_ldc2 dX10_step_56 kX10_110 ?_
  refine tc_Si (as := [.long w8, .long 48, .long 57]) (st := []) dX10_step_59 rfl mX10_62 t_X10_in rfl (Nat.le_of_ble_eq_true rfl) (by decide) (by decide) (c_X10_in (g := g) S6 hI6 w8 (48 : Int64) (57 : Int64)) (fun S7 v9 h9 => ?_)
  obtain ⟨rfl, b9, x9⟩ := h9
  refine mw_if_ne (tgt := 87) dX10_step_62 (by decide) (fun q => ?_) (fun q => ?_)
  · refine mw_aload_n dX10_step_87 rfl 0 rfl ?_
    refine mw_bipush dX10_step_88 kb_48 ?_
    refine tw_puti (j := 20) dX10_step_90 shM_0 rfl rfl (by decide) fX10_99 rfl (by decide +kernel) ?_
    have hI8 : JM (mm_up S6 0 20 48) := JIM_put hI6 n_48 (by decide +kernel)
    generalize hS8 : mm_up S6 0 20 48 = S8 at hI8 ⊢
    have hF8 := fr_upF hF6 hS8 (by decide)
    refine step_93 S _ S8 (Nat.lt_succ_self _) hI8 hF8 (by rw [← up_eq hS8]; rfl) ?_
    unfold stepR
    rw [← up_neF hS8 (by decide), ← up_neF hS8 (by decide), ← up_neF hS8 (by decide), g21, g22]
    have z0 : (0 : Int32).toInt = 0 := rfl
    omega
  · refine mw_aload_n dX10_step_65 rfl 0 rfl ?_
    refine mw_dup dX10_step_66 rfl ?_
    refine tw_geti (j := 18) dX10_step_67 shM_0 rfl rfl (by decide) fX10_89 (fun v10 e10 => ?_)
    refine mw_aload_n dX10_step_70 rfl 0 rfl ?_
    refine tw_geti (j := 20) dX10_step_71 shM_0 rfl rfl (by decide) fX10_99 (fun v11 e11 => ?_)
    have c11 : v3 = v11 := g20.symm.trans e11.symm
    subst c11
    refine mw_if_ge (tgt := 81) dX10_step_74 (by decide) (fun q2 => ?_) (fun q2 => ?_)
    · have h0 : 0 ≤ v3.toInt := Int32.le_iff_toInt_le.mp q2
      have bt : mm_b 0 239 (S6.1 0 18) := by rw [g18]; exact x3.resolve_left (fun e => by rw [e] at h0; exact absurd h0 (by decide))
      refine mw_iconst dX10_step_81 ki_1 ?_
      refine mw_iadd dX10_step_82 (fun v12 e12 => ?_)
      have t12 : v12.toInt = (S6.1 0 18).toInt + 1 := by
        rw [e12, e10, bd_ti_add (by show -2147483648 ≤ (S6.1 0 18).toInt + 1; omega) (by show (S6.1 0 18).toInt + 1 ≤ 2147483647; omega)]
        rfl
      refine tw_puti (j := 18) dX10_step_83 shM_0 rfl rfl (by decide) fX10_89 rfl (by decide +kernel) ?_
      have hI8 : JM (mm_up S6 0 18 v12) := JIM_put hI6 (show mm_b 0 240 v12 from ⟨by omega, by omega⟩) (by decide +kernel)
      generalize hS8 : mm_up S6 0 18 v12 = S8 at hI8 ⊢
      have hF8 := fr_at hF6 hS8 (by decide) (by omega)
      have h18 := hF6.2.2.2 rfl
      exact mw_vret rfl dX10_step_86 rfl rfl ⟨S8, rfl, rfl, hI8, hF8, Or.inr (Or.inr (by rw [← up_eq hS8]; omega))⟩
    · have h0 : v3.toInt < 0 := Int32.lt_iff_toInt_lt.mp (bd_nle q2)
      refine mw_iconst dX10_step_77 ki_0 ?_
      refine mw_goto (tgt := 82) dX10_step_78 (by decide) ?_
      refine mw_iadd dX10_step_82 (fun v12 e12 => ?_)
      have t12 : v12.toInt = (S6.1 0 18).toInt := by
        rw [e12, e10, bd_ti_add (by show -2147483648 ≤ (S6.1 0 18).toInt + 0; omega) (by show (S6.1 0 18).toInt + 0 ≤ 2147483647; omega)]
        exact Int.add_zero _
      refine tw_puti (j := 18) dX10_step_83 shM_0 rfl rfl (by decide) fX10_89 rfl (by decide +kernel) ?_
      have hI8 : JM (mm_up S6 0 18 v12) := JIM_put hI6 (show mm_b 0 240 v12 from ⟨by omega, by omega⟩) (by decide +kernel)
      generalize hS8 : mm_up S6 0 18 v12 = S8 at hI8 ⊢
      have hF8 := fr_at hF6 hS8 (by decide) (by omega)
      exact mw_vret rfl dX10_step_86 rfl rfl ⟨S8, rfl, rfl, hI8, hF8, Or.inl (by rw [← up_neF hS8 (by decide), g20]; exact h0)⟩
set_option maxRecDepth 100000 in
set_option maxHeartbeats 4000000 in
theorem c_X10_step {g : mm_G} (S : mm_S) (hI : JM S) : mc g yX10_step cX10_step 1 none (mm_rm 1) [.ref 0] (mm_enc shM S) (stepQ S) := by
  refine mc_of2 (own := RX10) (ini := false) (ls := [(0, .ref 0)]) (by decide) (Nat.le_of_ble_eq_true rfl) rfl (by decide) rfl ?_
  have cut : ∀ (N : Nat) (S1 : mm_S), (240 - (S1.1 0 18).toInt).toNat < N → JM S1 → fr [] [18, 19, 20, 21, 22] true true S S1 → mw g RX10 cX10_step 1 none false (mm_rm 1) (stepQ S) 0 0 (mm_enc shM S1) 0 [(0, .ref 0)] [] := by
    intro N
    induction N with
    | zero =>
      intro S1 hm
      exact absurd hm (Nat.not_lt_zero _)
    | succ N ih =>
      intro S1 hm hI hF
      refine mw_aload_n dX10_step_0 rfl 0 rfl ?_
      refine tc_Vi (as := []) (st := []) dX10_step_1 rfl shM_0 rfl rfl mX10_92 t_X10_here rfl (Nat.le_of_ble_eq_true rfl) (by decide) (by decide) (c_X10_here (g := g) S1 hI) (fun S2 v1 h1 => ?_)
      obtain ⟨rfl, b1, f1, x1⟩ := h1
      refine mw_bipush dX10_step_4 kb_32 ?_
      refine mw_icmp_ne (tgt := 22) dX10_step_6 (by decide) (fun q => ?_) (fun q => ?_)
      · exact step_22 S S1 hI hF
      · have bt : mm_b 0 239 (S1.1 0 18) := x1.resolve_left (fun e => by rw [e] at q; exact absurd q (by decide))
        refine mw_aload_n dX10_step_9 rfl 0 rfl ?_
        refine mw_dup dX10_step_10 rfl ?_
        refine tw_geti (j := 18) dX10_step_11 shM_0 rfl rfl (by decide) fX10_89 (fun v2 e2 => ?_)
        refine mw_iconst dX10_step_14 ki_1 ?_
        refine mw_iadd dX10_step_15 (fun v3 e3 => ?_)
        have t3 : v3.toInt = (S1.1 0 18).toInt + 1 := by
          rw [e3, e2, bd_ti_add (by show -2147483648 ≤ (S1.1 0 18).toInt + 1; omega) (by show (S1.1 0 18).toInt + 1 ≤ 2147483647; omega)]
          rfl
        refine tw_puti (j := 18) dX10_step_16 shM_0 rfl rfl (by decide) fX10_89 rfl (by decide +kernel) ?_
        have hI4 : JM (mm_up S1 0 18 v3) := JIM_put hI (show mm_b 0 240 v3 from ⟨by omega, by omega⟩) (by decide +kernel)
        generalize hS4 : mm_up S1 0 18 v3 = S4 at hI4 ⊢
        have hF4 := fr_at hF hS4 (by decide) (by omega)
        refine mw_goto (tgt := 0) dX10_step_19 (by decide) ?_
        exact ih S4 (by rw [← up_eq hS4]; omega) hI4 hF4
  exact cut _ S (Nat.lt_succ_self _) hI fr_rf
