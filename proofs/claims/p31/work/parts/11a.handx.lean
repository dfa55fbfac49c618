/-! ===== the reference: in, isIn, bits, copies, here, step told exactly ===== -/
def F_X10_in (S : mm_S) (x0 x1 x2 : Int64) : Int32 := if x1.toInt ≤ x0.toInt ∧ x0.toInt ≤ x2.toInt then 1 else 0
theorem cx_X10_in {g : mm_G} (S : mm_S) (hI : JM S) (x0 x1 x2 : Int64) : mc g yX10_in cX10_in 6 (some .boolean) (mm_rm 0) [.long x0, .long x1, .long x2] (mm_enc shM S) (qi shM (fun S1 v => S = S1 ∧ mm_b 0 1 v ∧ ((v = 0 ∧ ¬ (x1.toInt ≤ x0.toInt ∧ x0.toInt ≤ x2.toInt)) ∨ (x1.toInt ≤ x0.toInt ∧ x0.toInt ≤ x2.toInt)) ∧ F_X10_in S x0 x1 x2 = v)) :=
  mc_wk (c_X10_inx S hI x0 x1 x2) (fun _ _ ⟨S1, v, h1, h2, h3, h4, h5⟩ => ⟨S1, v, h1, h2, h3, h4, h5.imp id And.right, by
    rcases h5 with h5 | h5
    · rw [F_X10_in, if_neg h5.2, h5.1]
    · rw [F_X10_in, if_pos h5.2, h5.1]⟩)
theorem in_no {v p : Int32} {w a b : Int64} (x : (v = 0 ∧ ¬ (a.toInt ≤ w.toInt ∧ w.toInt ≤ b.toInt)) ∨ (v = 1 ∧ a.toInt ≤ w.toInt ∧ w.toInt ≤ b.toInt)) (e : w = p.toInt64) (q : v = 0) : ¬ mm_b a.toInt b.toInt p := by
  intro h
  rw [e, Int32.toInt_toInt64] at x
  rcases x with x | x
  · exact x.2 h
  · exact absurd (x.1.symm.trans q) (by decide)
def F_X10_isIn (S : mm_S) (x0 x1 : Int32) : Int32 := if (x0 >>> (x1 &&& 31)) &&& 1 = 1 then 1 else 0
theorem cx_X10_isIn {g : mm_G} (S : mm_S) (hI : JM S) (x0 : Int32) (x1 : Int32) : mc g yX10_isIn cX10_isIn 2 (some .boolean) (mm_rm 0) [.int x0, .int x1] (mm_enc shM S) (qi shM (fun S1 v => S = S1 ∧ mm_b (0) (1) v ∧ ((v = 0 ∧ ¬ (x0 >>> (x1 &&& 31)) &&& 1 = 1) ∨ (v = 1 ∧ (x0 >>> (x1 &&& 31)) &&& 1 = 1)) ∧ F_X10_isIn S x0 x1 = v)) :=
  mc_wk (c_X10_isIn S hI x0 x1) (fun _ _ ⟨S1, v, h1, h2, h3, h4, h5⟩ => ⟨S1, v, h1, h2, h3, h4, h5, by
    rcases h5 with h5 | h5
    · rw [F_X10_isIn, if_neg h5.2, h5.1]
    · rw [F_X10_isIn, if_pos h5.2, h5.1]⟩)
theorem here_19 (S : mm_S) (v : Int32) : hereF (mm_up S 0 19 v) = hereF S := rfl
def F_X10_copies_13 (S : mm_S) (x1 x3 x4 : Int32) : mm_S := mm_cp S 1 x1.toNatClampNeg 3 x3.toNatClampNeg x4.toNatClampNeg
theorem cpF {S : mm_S} {a b i j n : Nat} {x1 x3 x4 : Int32} (h1 : x1.toInt = (i : Int)) (h3 : x3.toInt = (j : Int)) (h4 : x4.toInt = (n : Int)) : mm_cp S a x1.toNatClampNeg b x3.toNatClampNeg x4.toNatClampNeg = mm_cp S a i b j n := by
  have e1 : x1.toNatClampNeg = i := by show x1.toInt.toNat = i; omega
  have e3 : x3.toNatClampNeg = j := by show x3.toInt.toNat = j; omega
  have e4 : x4.toNatClampNeg = n := by show x4.toInt.toNat = n; omega
  rw [e1, e3, e4]
theorem cx_X10_copies_13 {g : mm_G} (S : mm_S) (hI : JM S) (x1 : Int32) (h1 : mm_b 10 10 x1) (x3 : Int32) (h3 : mm_b 14 14 x3) (x4 : Int32) (h4 : mm_b 14 14 x4) : mc g yX10_copies cX10_copies 6 none (mm_rm 0) [.ref 1, .int x1, .ref 3, .int x3, .int x4] (mm_enc shM S) (qv shM (fun S1 => JM S1 ∧ fr [3] [] true true S S1 ∧ True ∧ F_X10_copies_13 S x1 x3 x4 = S1)) :=
  mc_wk (c_cp S shM_1 shM_3 (by decide) 10 14 14 (by decide) (by decide) (by decide) (by decide) x1 x3 x4 (bd_one h1) (bd_one h3) (bd_one h4)) (fun r w ⟨S1, h, h2, hz⟩ => ⟨S1, h, h2, by rw [hz]; exact ⟨cp_J hI (by decide +kernel), fr_cp (by decide), trivial, cpF (bd_one h1) (bd_one h3) (bd_one h4)⟩⟩)
def F_X10_copies_21 (S : mm_S) (x1 x3 x4 : Int32) : mm_S := mm_cp S 2 x1.toNatClampNeg 1 x3.toNatClampNeg x4.toNatClampNeg
theorem cx_X10_copies_21 {g : mm_G} (S : mm_S) (hI : JM S) (x1 : Int32) (h1 : mm_b 0 0 x1) (x3 : Int32) (h3 : mm_b 0 0 x3) (x4 : Int32) (h4 : mm_b 37 37 x4) : mc g yX10_copies cX10_copies 6 none (mm_rm 0) [.ref 2, .int x1, .ref 1, .int x3, .int x4] (mm_enc shM S) (qv shM (fun S1 => JM S1 ∧ fr [1] [] true true S S1 ∧ True ∧ F_X10_copies_21 S x1 x3 x4 = S1)) :=
  mc_wk (c_cp S shM_2 shM_1 (by decide) 0 0 37 (by decide) (by decide) (by decide) (by decide) x1 x3 x4 (bd_one h1) (bd_one h3) (bd_one h4)) (fun r w ⟨S1, h, h2, hz⟩ => ⟨S1, h, h2, by rw [hz]; exact ⟨cp_J hI (by decide +kernel), fr_cp (by decide), trivial, cpF (bd_one h1) (bd_one h3) (bd_one h4)⟩⟩)
def F_X10_copies_36 (S : mm_S) (x1 x3 x4 : Int32) : mm_S := mm_cp S 3 x1.toNatClampNeg 6 x3.toNatClampNeg x4.toNatClampNeg
theorem cx_X10_copies_36 {g : mm_G} (S : mm_S) (hI : JM S) (x1 : Int32) (h1 : mm_b 0 0 x1) (x3 : Int32) (x4 : Int32) (h4 : mm_b 30 30 x4) (h3 : ∃ u : Nat, u < 2 ∧ x3.toInt = ((31 * u : Nat) : Int)) : mc g yX10_copies cX10_copies 6 none (mm_rm 0) [.ref 3, .int x1, .ref 6, .int x3, .int x4] (mm_enc shM S) (qv shM (fun S1 => JM S1 ∧ fr [6] [] true true S S1 ∧ True ∧ F_X10_copies_36 S x1 x3 x4 = S1)) := by
  obtain ⟨u, hu, h3⟩ := h3
  exact mc_wk (c_cp S shM_3 shM_6 (by decide) 0 (31 * u) 30 (by decide) (by omega) (by decide) (by decide) x1 x3 x4 (bd_one h1) h3 (bd_one h4)) (fun r w ⟨S1, h, h2, hz⟩ => ⟨S1, h, h2, by rw [hz]; exact ⟨cp_J hI (cp_36 ⟨u, hu⟩), fr_cp (by decide), trivial, cpF (bd_one h1) h3 (bd_one h4)⟩⟩)
def F_X10_copies_63 (S : mm_S) (x1 x3 x4 : Int32) : mm_S := mm_cp S 6 x1.toNatClampNeg 3 x3.toNatClampNeg x4.toNatClampNeg
theorem cx_X10_copies_63 {g : mm_G} (S : mm_S) (hI : JM S) (x1 : Int32) (x3 : Int32) (h3 : mm_b 0 0 x3) (x4 : Int32) (h4 : mm_b 30 30 x4) (h1 : ∃ u : Nat, u < 2 ∧ x1.toInt = ((31 * u : Nat) : Int)) : mc g yX10_copies cX10_copies 6 none (mm_rm 0) [.ref 6, .int x1, .ref 3, .int x3, .int x4] (mm_enc shM S) (qv shM (fun S1 => JM S1 ∧ fr [3] [] true true S S1 ∧ True ∧ F_X10_copies_63 S x1 x3 x4 = S1)) := by
  obtain ⟨u, hu, h1⟩ := h1
  exact mc_wk (c_cp S shM_6 shM_3 (by decide) (31 * u) 0 30 (by omega) (by decide) (by decide) (by decide) x1 x3 x4 h1 (bd_one h3) (bd_one h4)) (fun r w ⟨S1, h, h2, hz⟩ => ⟨S1, h, h2, by rw [hz]; exact ⟨cp_J hI (cp_63 ⟨u, hu⟩), fr_cp (by decide), trivial, cpF h1 (bd_one h3) (bd_one h4)⟩⟩)
def F_X10_step_L93 : Nat → mm_S → mm_S
  | 0, S => S
  | N + 1, S => if mm_b 48 57 (hereF S) then F_X10_step_L93 N (mm_up (mm_up (mm_up S 0 22 (if 3 ≤ S.1 0 21 then S.1 0 22 else 10 * S.1 0 22 + hereF S - 48)) 0 21 (S.1 0 21 + 1)) 0 18 (S.1 0 18 + 1)) else S
def stT (S : mm_S) : mm_S := mm_up (mm_up (mm_up (mm_up S 0 19 (S.1 0 18)) 0 20 (hereF S)) 0 21 0) 0 22 0
def F_X10_step_22 (S : mm_S) : mm_S := if mm_b 48 57 (hereF S) then F_X10_step_L93 242 (mm_up (stT S) 0 20 48) else mm_up (stT S) 0 18 (S.1 0 18 + if 0 ≤ hereF S then 1 else 0)
def F_X10_step_L0 : Nat → mm_S → mm_S
  | 0, S => S
  | N + 1, S => if hereF S = 32 then F_X10_step_L0 N (mm_up S 0 18 (S.1 0 18 + 1)) else F_X10_step_22 S
def F_X10_step (S : mm_S) : mm_S := F_X10_step_L0 242 S
abbrev stepQx (S : mm_S) : Option Value → List mm_E → Prop := qv shM (fun S1 => JM S1 ∧ fr [] [18, 19, 20, 21, 22] true true S S1 ∧ ((S1.1 0 20).toInt < 0 ∨ (S1.1 0 20).toInt = 48 ∨ (S.1 0 18).toInt < (S1.1 0 18).toInt) ∧ F_X10_step S = S1)
set_option maxRecDepth 100000 in
set_option maxHeartbeats 4000000 in
/-- the figures of a number -/
theorem stepx_93 {g : mm_G} (S : mm_S) : ∀ (N : Nat) (S1 : mm_S), (240 - (S1.1 0 18).toInt).toNat < N → JM S1 → fr [] [18, 19, 20, 21, 22] true true S S1 → (S1.1 0 20).toInt = 48 → stepR S1 → F_X10_step S = F_X10_step_L93 N S1 → mw g RX10 cX10_step 1 none false (mm_rm 1) (stepQx S) 0 0 (mm_enc shM S1) 93 [(0, .ref 0)] [] := by
  intro N
  induction N with
  | zero =>
    intro S1 hm
    exact absurd hm (Nat.not_lt_zero _)
  | succ N ih =>
    intro S1 hm hI hF hs hR hE
    refine mw_aload_n dX10_step_93 rfl 0 rfl ?_
    refine tc_Vi (as := []) (st := []) dX10_step_94 rfl shM_0 rfl rfl mX10_92 t_X10_here rfl (Nat.le_of_ble_eq_true rfl) (by decide) (by decide) (c_X10_here (g := g) S1 hI) (fun S2 v1 h1 => ?_)
    obtain ⟨rfl, b1, f1, x1⟩ := h1
    refine mw_i2l dX10_step_97 (fun w2 e2 => ?_)
    refine mw_ldc2 dX10_step_98 kX10_108 ?_
    refine mw_ldc2 dX10_step_101 kX10_110 ?_
    refine tc_Si (as := [.long w2, .long 48, .long 57]) (st := []) dX10_step_104 rfl mX10_62 t_X10_in rfl (Nat.le_of_ble_eq_true rfl) (by decide) (by decide) (c_X10_inx (g := g) S1 hI w2 (48 : Int64) (57 : Int64)) (fun S3 v3 h3 => ?_)
    obtain ⟨rfl, b3, x3⟩ := h3
    refine mw_if_eq (tgt := 167) dX10_step_107 (by decide) (fun q => ?_) (fun q => ?_)
    · have hno : ¬ mm_b 48 57 (hereF S1) := by rw [← f1]; exact in_no x3 e2 q
      exact mw_vret rfl dX10_step_167 rfl rfl ⟨S1, rfl, rfl, hI, hF, Or.inr (Or.inl hs), hE.trans (by rw [F_X10_step_L93, if_neg hno])⟩
    · have bv : mm_b 48 57 v1 := (in_use (lo := 48) (hi := 57) (x3.imp id And.right) e2 L_48 L_57 (by decide)).resolve_left q
      have hyes : mm_b 48 57 (hereF S1) := by rw [← f1]; exact bv
      have bt : mm_b 0 239 (S1.1 0 18) := x1.resolve_left (fun e => by rw [e] at bv; exact absurd bv (by decide))
      -- the new value
      have key : ∀ (S2 : mm_S), JM S2 → fr [] [18, 19, 20, 21, 22] true true S S2 → (S2.1 0 20).toInt = 48 → (S2.1 0 21) = (S1.1 0 21) → (S2.1 0 18) = (S1.1 0 18) → ((S1.1 0 21).toInt + 1 ≤ 2 → (S2.1 0 22).toInt ≤ 99) → ((S1.1 0 21).toInt + 1 ≤ 1 → (S2.1 0 22).toInt ≤ 9) → 0 ≤ (S2.1 0 22).toInt → (S2.1 0 22).toInt ≤ 999 → F_X10_step S = F_X10_step_L93 N (mm_up (mm_up S2 0 21 (S1.1 0 21 + 1)) 0 18 (S1.1 0 18 + 1)) → mw g RX10 cX10_step 1 none false (mm_rm 1) (stepQx S) 0 0 (mm_enc shM S2) 144 [(0, .ref 0)] [] := by
        intro S2 hI2 hF2 hs2 h21 h18 hv2 hv1 hv0 hv9 hE2
        unfold stepR at hR
        refine mw_aload_n dX10_step_144 rfl 0 rfl ?_
        refine mw_dup dX10_step_145 rfl ?_
        refine tw_geti (j := 21) dX10_step_146 shM_0 rfl rfl (by decide) fX10_102 (fun v4 e4 => ?_)
        refine mw_iconst dX10_step_149 ki_1 ?_
        refine mw_iadd dX10_step_150 (fun v5 e5 => ?_)
        have t5 : v5.toInt = (S1.1 0 21).toInt + 1 := by
          rw [e5, e4, h21, bd_ti_add (by show -2147483648 ≤ (S1.1 0 21).toInt + 1; omega) (by show (S1.1 0 21).toInt + 1 ≤ 2147483647; omega)]
          rfl
        refine tw_puti (j := 21) dX10_step_151 shM_0 rfl rfl (by decide) fX10_102 rfl (by decide +kernel) ?_
        have hI3 : JM (mm_up S2 0 21 v5) := JIM_put hI2 (bd_all v5) (by decide +kernel)
        generalize hS3 : mm_up S2 0 21 v5 = S3 at hI3 ⊢
        have hF3 := fr_upF hF2 hS3 (by decide)
        refine mw_aload_n dX10_step_154 rfl 0 rfl ?_
        refine mw_dup dX10_step_155 rfl ?_
        refine tw_geti (j := 18) dX10_step_156 shM_0 rfl rfl (by decide) fX10_89 (fun v6 e6 => ?_)
        rw [← up_neF hS3 (by decide), h18] at e6
        refine mw_iconst dX10_step_159 ki_1 ?_
        refine mw_iadd dX10_step_160 (fun v7 e7 => ?_)
        have t7 : v7.toInt = (S1.1 0 18).toInt + 1 := by
          rw [e7, e6, bd_ti_add (by show -2147483648 ≤ (S1.1 0 18).toInt + 1; omega) (by show (S1.1 0 18).toInt + 1 ≤ 2147483647; omega)]
          rfl
        refine tw_puti (j := 18) dX10_step_161 shM_0 rfl rfl (by decide) fX10_89 rfl (by decide +kernel) ?_
        have hI4 : JM (mm_up S3 0 18 v7) := JIM_put hI3 (show mm_b 0 240 v7 from ⟨by omega, by omega⟩) (by decide +kernel)
        generalize hS4 : mm_up S3 0 18 v7 = S4 at hI4 ⊢
        have hF4 := fr_at hF3 hS4 (by decide) (by rw [← up_neF hS3 (by decide), h18]; omega)
        refine mw_goto (tgt := 93) dX10_step_164 (by decide) ?_
        have g18 : S4.1 0 18 = v7 := (up_eq hS4).symm
        have g21 : S4.1 0 21 = v5 := by rw [← up_neF hS4 (by decide), ← up_eq hS3]
        have g22 : S4.1 0 22 = S2.1 0 22 := by rw [← up_neF hS4 (by decide), ← up_neF hS3 (by decide)]
        have g20 : S4.1 0 20 = S2.1 0 20 := by rw [← up_neF hS4 (by decide), ← up_neF hS3 (by decide)]
        refine ih S4 (by rw [g18]; omega) hI4 hF4 (by rw [g20]; exact hs2) ?_ (by rw [hE2, ← hS4, ← hS3, e7, e6, e5, e4, h21])
        unfold stepR
        rw [g18, g21, g22]
        omega
      refine mw_aload_n dX10_step_110 rfl 0 rfl ?_
      refine mw_aload_n dX10_step_111 rfl 0 rfl ?_
      refine tw_geti (j := 21) dX10_step_112 shM_0 rfl rfl (by decide) fX10_102 (fun v4 e4 => ?_)
      refine mw_iconst dX10_step_115 ki_3 ?_
      refine mw_icmp_ge (tgt := 137) dX10_step_116 (by decide) (fun q2 => ?_) (fun q2 => ?_)
      · have h3 : 3 ≤ v4.toInt := Int32.le_iff_toInt_le.mp q2
        rw [e4] at h3
        refine mw_aload_n dX10_step_137 rfl 0 rfl ?_
        refine tw_geti (j := 22) dX10_step_138 shM_0 rfl rfl (by decide) fX10_105 (fun v5 e5 => ?_)
        refine tw_puti (j := 22) dX10_step_141 shM_0 rfl rfl (by decide) fX10_105 rfl (by decide +kernel) ?_
        unfold stepR at hR
        have hI3 : JM (mm_up S1 0 22 v5) := JIM_put hI (show mm_b 0 999 v5 by rw [e5]; exact ⟨by omega, by omega⟩) (by decide +kernel)
        generalize hS3 : mm_up S1 0 22 v5 = S3 at hI3 ⊢
        have hF3 := fr_upF hF hS3 (by decide)
        have g22 : S3.1 0 22 = S1.1 0 22 := by rw [← up_eq hS3, e5]
        exact key S3 hI3 hF3 (by rw [← up_neF hS3 (by decide)]; exact hs) (up_neF hS3 (by decide)).symm (up_neF hS3 (by decide)).symm (by rw [g22]; omega) (by rw [g22]; omega) (by rw [g22]; omega) (by rw [g22]; omega) (by rw [← hS3, e5]; exact hE.trans (by rw [F_X10_step_L93, if_pos hyes, if_pos (show 3 ≤ S1.1 0 21 by rw [← e4]; exact q2)]))
      · have h3 : v4.toInt < 3 := Int32.lt_iff_toInt_lt.mp (bd_nle q2)
        rw [e4] at h3
        unfold stepR at hR
        refine mw_bipush dX10_step_119 kb_10 ?_
        refine mw_aload_n dX10_step_121 rfl 0 rfl ?_
        refine tw_geti (j := 22) dX10_step_122 shM_0 rfl rfl (by decide) fX10_105 (fun v5 e5 => ?_)
        have t5 : v5.toInt = (S1.1 0 22).toInt := by rw [e5]
        refine mw_imul dX10_step_125 (fun v6 e6 => ?_)
        have t6 : v6.toInt = 10 * (S1.1 0 22).toInt := by
          rw [e6, bd_ti_mul (by show -2147483648 ≤ 10 * v5.toInt; omega) (by show 10 * v5.toInt ≤ 2147483647; omega), ← t5]
          rfl
        refine mw_aload_n dX10_step_126 rfl 0 rfl ?_
        refine tc_Vi (as := []) (st := [.int v6, .ref 0]) dX10_step_127 rfl shM_0 rfl rfl mX10_92 t_X10_here rfl (Nat.le_of_ble_eq_true rfl) (by decide) (by decide) (c_X10_here (g := g) S1 hI) (fun S2 v7 h7 => ?_)
        obtain ⟨rfl, b7, f7, x7⟩ := h7
        have c7 : v1 = v7 := f1.trans f7.symm
        subst c7
        refine mw_iadd dX10_step_130 (fun v8 e8 => ?_)
        have t8 : v8.toInt = 10 * (S1.1 0 22).toInt + v1.toInt := by rw [e8, bd_ti_add (by omega) (by omega), t6]
        refine mw_bipush dX10_step_131 kb_48 ?_
        refine mw_isub dX10_step_133 (fun v9 e9 => ?_)
        have t9 : v9.toInt = 10 * (S1.1 0 22).toInt + v1.toInt - 48 := by
          rw [e9, bd_ti_sub (by show -2147483648 ≤ v8.toInt - 48; omega) (by show v8.toInt - 48 ≤ 2147483647; omega), t8]
          rfl
        refine mw_goto (tgt := 141) dX10_step_134 (by decide) ?_
        refine tw_puti (j := 22) dX10_step_141 shM_0 rfl rfl (by decide) fX10_105 rfl (by decide +kernel) ?_
        have hI3 : JM (mm_up S1 0 22 v9) := JIM_put hI (show mm_b 0 999 v9 from ⟨by omega, by omega⟩) (by decide +kernel)
        generalize hS3 : mm_up S1 0 22 v9 = S3 at hI3 ⊢
        have hF3 := fr_upF hF hS3 (by decide)
        have g22 : S3.1 0 22 = v9 := (up_eq hS3).symm
        exact key S3 hI3 hF3 (by rw [← up_neF hS3 (by decide)]; exact hs) (up_neF hS3 (by decide)).symm (up_neF hS3 (by decide)).symm (by rw [g22]; omega) (by rw [g22]; omega) (by rw [g22]; omega) (by rw [g22]; omega) (by rw [← hS3, e9, e8, e6, e5, f1]; exact hE.trans (by rw [F_X10_step_L93, if_pos hyes, if_neg (show ¬ 3 ≤ S1.1 0 21 by rw [← e4]; exact q2)]))
set_option maxRecDepth 100000 in
set_option maxHeartbeats 4000000 in
theorem stepx_22 {g : mm_G} (S S1 : mm_S) (hI : JM S1) (hF : fr [] [18, 19, 20, 21, 22] true true S S1) (hE : F_X10_step S = F_X10_step_22 S1) : mw g RX10 cX10_step 1 none false (mm_rm 1) (stepQx S) 0 0 (mm_enc shM S1) 22 [(0, .ref 0)] [] := by
  refine mw_aload_n dX10_step_22 rfl 0 rfl ?_
  refine mw_aload_n dX10_step_23 rfl 0 rfl ?_
  refine tw_geti (j := 18) dX10_step_24 shM_0 rfl rfl (by decide) fX10_89 (fun v1 e1 => ?_)
  refine tw_puti (j := 19) dX10_step_27 shM_0 rfl rfl (by decide) fX10_96 rfl (by decide +kernel) ?_
  have hI2 : JM (mm_up S1 0 19 v1) := JIM_put hI (bd_all v1) (by decide +kernel)
  generalize hS2 : mm_up S1 0 19 v1 = S2 at hI2 ⊢
  have hF2 := fr_upF hF hS2 (by decide)
  refine mw_aload_n dX10_step_30 rfl 0 rfl ?_
  refine mw_aload_n dX10_step_31 rfl 0 rfl ?_
  refine tc_Vi (as := []) (st := [.ref 0]) dX10_step_32 rfl shM_0 rfl rfl mX10_92 t_X10_here rfl (Nat.le_of_ble_eq_true rfl) (by decide) (by decide) (c_X10_here (g := g) S2 hI2) (fun S3 v3 h3 => ?_)
  obtain ⟨rfl, b3, f3, x3⟩ := h3
  refine tw_puti (j := 20) dX10_step_35 shM_0 rfl rfl (by decide) fX10_99 rfl (by decide +kernel) ?_
  have hI4 : JM (mm_up S2 0 20 v3) := JIM_put hI2 b3 (by decide +kernel)
  generalize hS4 : mm_up S2 0 20 v3 = S4 at hI4 ⊢
  have hF4 := fr_upF hF2 hS4 (by decide)
  refine mw_aload_n dX10_step_38 rfl 0 rfl ?_
  refine mw_iconst dX10_step_39 ki_0 ?_
  refine tw_puti (j := 21) dX10_step_40 shM_0 rfl rfl (by decide) fX10_102 rfl (by decide +kernel) ?_
  have hI5 : JM (mm_up S4 0 21 0) := JIM_put hI4 n_0 (by decide +kernel)
  generalize hS5 : mm_up S4 0 21 0 = S5 at hI5 ⊢
  have hF5 := fr_upF hF4 hS5 (by decide)
  refine mw_aload_n dX10_step_43 rfl 0 rfl ?_
  refine mw_iconst dX10_step_44 ki_0 ?_
  refine tw_puti (j := 22) dX10_step_45 shM_0 rfl rfl (by decide) fX10_105 rfl (by decide +kernel) ?_
  have hI6 : JM (mm_up S5 0 22 0) := JIM_put hI5 n_0 (by decide +kernel)
  generalize hS6 : mm_up S5 0 22 0 = S6 at hI6 ⊢
  have hF6 := fr_upF hF5 hS6 (by decide)
  have g20 : S6.1 0 20 = v3 := by rw [← up_neF hS6 (by decide), ← up_neF hS5 (by decide), ← up_eq hS4]
  have g18 : S6.1 0 18 = S2.1 0 18 := by rw [← up_neF hS6 (by decide), ← up_neF hS5 (by decide), ← up_neF hS4 (by decide)]
  have g21 : S6.1 0 21 = 0 := by rw [← up_neF hS6 (by decide), ← up_eq hS5]
  have g22 : S6.1 0 22 = 0 := (up_eq hS6).symm
  have b18 : mm_b 0 240 (S6.1 0 18) := JIM_fld hI6 rfl tbM_6 (by decide)
  have f4 : v3 = hereF S1 := by rw [f3, ← hS2]; exact here_19 S1 v1
  have hT : stT S1 = S6 := by rw [← hS6, ← hS5, ← hS4, ← hS2, f4, e1]; rfl
  have f18 : S6.1 0 18 = S1.1 0 18 := by rw [g18, ← hS2]; rfl
  refine mw_aload_n dX10_step_48 rfl 0 rfl ?_
  refine tw_geti (j := 20) dX10_step_49 shM_0 rfl rfl (by decide) fX10_99 (fun v7 e7 => ?_)
  have c7 : v3 = v7 := g20.symm.trans e7.symm
  subst c7
  refine mw_i2l dX10_step_52 (fun w8 e8 => ?_)
  refine mw_ldc2 dX10_step_53 kX10_108 ?_
  refine mw_ldc2 dX10_step_56 kX10_110 ?_
  refine tc_Si (as := [.long w8, .long 48, .long 57]) (st := []) dX10_step_59 rfl mX10_62 t_X10_in rfl (Nat.le_of_ble_eq_true rfl) (by decide) (by decide) (c_X10_inx (g := g) S6 hI6 w8 (48 : Int64) (57 : Int64)) (fun S7 v9 h9 => ?_)
  obtain ⟨rfl, b9, x9⟩ := h9
  refine mw_if_ne (tgt := 87) dX10_step_62 (by decide) (fun q => ?_) (fun q => ?_)
  · refine mw_aload_n dX10_step_87 rfl 0 rfl ?_
    refine mw_bipush dX10_step_88 kb_48 ?_
    refine tw_puti (j := 20) dX10_step_90 shM_0 rfl rfl (by decide) fX10_99 rfl (by decide +kernel) ?_
    have hI8 : JM (mm_up S6 0 20 48) := JIM_put hI6 n_48 (by decide +kernel)
    generalize hS8 : mm_up S6 0 20 48 = S8 at hI8 ⊢
    have hF8 := fr_upF hF6 hS8 (by decide)
    have bq : mm_b 48 57 v3 := (in_use (lo := 48) (hi := 57) (x9.imp id And.right) e8 L_48 L_57 (by decide)).resolve_left q
    refine stepx_93 S 242 S8 (by rw [← up_neF hS8 (by decide)]; omega) hI8 hF8 (by rw [← up_eq hS8]; rfl) ?_ (by rw [← hS8, ← hT]; exact hE.trans (by rw [F_X10_step_22, if_pos (show mm_b 48 57 (hereF S1) by rw [← f4]; exact bq)]))
    unfold stepR
    rw [← up_neF hS8 (by decide), ← up_neF hS8 (by decide), ← up_neF hS8 (by decide), g21, g22]
    have z0 : (0 : Int32).toInt = 0 := rfl
    omega
  · refine mw_aload_n dX10_step_65 rfl 0 rfl ?_
    refine mw_dup dX10_step_66 rfl ?_
    refine tw_geti (j := 18) dX10_step_67 shM_0 rfl rfl (by decide) fX10_89 (fun v10 e10 => ?_)
    refine mw_aload_n dX10_step_70 rfl 0 rfl ?_
    refine tw_geti (j := 20) dX10_step_71 shM_0 rfl rfl (by decide) fX10_99 (fun v11 e11 => ?_)
    have c11 : v3 = v11 := g20.symm.trans e11.symm
    subst c11
    have hno : ¬ mm_b 48 57 (hereF S1) := by rw [← f4]; exact in_no x9 e8 q
    refine mw_if_ge (tgt := 81) dX10_step_74 (by decide) (fun q2 => ?_) (fun q2 => ?_)
    · have h0 : 0 ≤ v3.toInt := Int32.le_iff_toInt_le.mp q2
      have bt : mm_b 0 239 (S6.1 0 18) := by rw [g18]; exact x3.resolve_left (fun e => by rw [e] at h0; exact absurd h0 (by decide))
      refine mw_iconst dX10_step_81 ki_1 ?_
      refine mw_iadd dX10_step_82 (fun v12 e12 => ?_)
      have t12 : v12.toInt = (S6.1 0 18).toInt + 1 := by
        rw [e12, e10, bd_ti_add (by show -2147483648 ≤ (S6.1 0 18).toInt + 1; omega) (by show (S6.1 0 18).toInt + 1 ≤ 2147483647; omega)]
        rfl
      refine tw_puti (j := 18) dX10_step_83 shM_0 rfl rfl (by decide) fX10_89 rfl (by decide +kernel) ?_
      have hI8 : JM (mm_up S6 0 18 v12) := JIM_put hI6 (show mm_b 0 240 v12 from ⟨by omega, by omega⟩) (by decide +kernel)
      generalize hS8 : mm_up S6 0 18 v12 = S8 at hI8 ⊢
      have hF8 := fr_at hF6 hS8 (by decide) (by omega)
      have h18 := hF6.2.2.2 rfl
      exact mw_vret rfl dX10_step_86 rfl rfl ⟨S8, rfl, rfl, hI8, hF8, Or.inr (Or.inr (by rw [← up_eq hS8]; omega)), by rw [← hS8, e12, e10, f18, ← hT]; exact hE.trans (by rw [F_X10_step_22, if_neg hno, if_pos (show 0 ≤ hereF S1 by rw [← f4]; exact q2)])⟩
    · have h0 : v3.toInt < 0 := Int32.lt_iff_toInt_lt.mp (bd_nle q2)
      refine mw_iconst dX10_step_77 ki_0 ?_
      refine mw_goto (tgt := 82) dX10_step_78 (by decide) ?_
      refine mw_iadd dX10_step_82 (fun v12 e12 => ?_)
      have t12 : v12.toInt = (S6.1 0 18).toInt := by
        rw [e12, e10, bd_ti_add (by show -2147483648 ≤ (S6.1 0 18).toInt + 0; omega) (by show (S6.1 0 18).toInt + 0 ≤ 2147483647; omega)]
        exact Int.add_zero _
      refine tw_puti (j := 18) dX10_step_83 shM_0 rfl rfl (by decide) fX10_89 rfl (by decide +kernel) ?_
      have hI8 : JM (mm_up S6 0 18 v12) := JIM_put hI6 (show mm_b 0 240 v12 from ⟨by omega, by omega⟩) (by decide +kernel)
      generalize hS8 : mm_up S6 0 18 v12 = S8 at hI8 ⊢
      have hF8 := fr_at hF6 hS8 (by decide) (by omega)
      exact mw_vret rfl dX10_step_86 rfl rfl ⟨S8, rfl, rfl, hI8, hF8, Or.inl (by rw [← up_neF hS8 (by decide), g20]; exact h0), by rw [← hS8, e12, e10, f18, ← hT]; exact hE.trans (by rw [F_X10_step_22, if_neg hno, if_neg (show ¬ 0 ≤ hereF S1 by rw [← f4]; exact q2)])⟩
set_option maxRecDepth 100000 in
set_option maxHeartbeats 4000000 in
theorem cx_X10_step {g : mm_G} (S : mm_S) (hI : JM S) : mc g yX10_step cX10_step 1 none (mm_rm 1) [.ref 0] (mm_enc shM S) (stepQx S) := by
  refine mc_of2 (own := RX10) (ini := false) (ls := [(0, .ref 0)]) (by decide) (Nat.le_of_ble_eq_true rfl) rfl (by decide) rfl ?_
  have cut : ∀ (N : Nat) (S1 : mm_S), (240 - (S1.1 0 18).toInt).toNat < N → JM S1 → fr [] [18, 19, 20, 21, 22] true true S S1 → F_X10_step S = F_X10_step_L0 N S1 → mw g RX10 cX10_step 1 none false (mm_rm 1) (stepQx S) 0 0 (mm_enc shM S1) 0 [(0, .ref 0)] [] := by
    intro N
    induction N with
    | zero =>
      intro S1 hm
      exact absurd hm (Nat.not_lt_zero _)
    | succ N ih =>
      intro S1 hm hI hF hE
      refine mw_aload_n dX10_step_0 rfl 0 rfl ?_
      refine tc_Vi (as := []) (st := []) dX10_step_1 rfl shM_0 rfl rfl mX10_92 t_X10_here rfl (Nat.le_of_ble_eq_true rfl) (by decide) (by decide) (c_X10_here (g := g) S1 hI) (fun S2 v1 h1 => ?_)
      obtain ⟨rfl, b1, f1, x1⟩ := h1
      refine mw_bipush dX10_step_4 kb_32 ?_
      refine mw_icmp_ne (tgt := 22) dX10_step_6 (by decide) (fun q => ?_) (fun q => ?_)
      · exact stepx_22 S S1 hI hF (hE.trans (by rw [F_X10_step_L0, if_neg (show ¬ hereF S1 = 32 by rw [← f1]; exact q)]))
      · have bt : mm_b 0 239 (S1.1 0 18) := x1.resolve_left (fun e => by rw [e] at q; exact absurd q (by decide))
        refine mw_aload_n dX10_step_9 rfl 0 rfl ?_
        refine mw_dup dX10_step_10 rfl ?_
        refine tw_geti (j := 18) dX10_step_11 shM_0 rfl rfl (by decide) fX10_89 (fun v2 e2 => ?_)
        refine mw_iconst dX10_step_14 ki_1 ?_
        refine mw_iadd dX10_step_15 (fun v3 e3 => ?_)
        have t3 : v3.toInt = (S1.1 0 18).toInt + 1 := by
          rw [e3, e2, bd_ti_add (by show -2147483648 ≤ (S1.1 0 18).toInt + 1; omega) (by show (S1.1 0 18).toInt + 1 ≤ 2147483647; omega)]
          rfl
        refine tw_puti (j := 18) dX10_step_16 shM_0 rfl rfl (by decide) fX10_89 rfl (by decide +kernel) ?_
        have hI4 : JM (mm_up S1 0 18 v3) := JIM_put hI (show mm_b 0 240 v3 from ⟨by omega, by omega⟩) (by decide +kernel)
        generalize hS4 : mm_up S1 0 18 v3 = S4 at hI4 ⊢
        have hF4 := fr_at hF hS4 (by decide) (by omega)
        refine mw_goto (tgt := 0) dX10_step_19 (by decide) ?_
        exact ih S4 (by rw [← up_eq hS4]; omega) hI4 hF4 (by rw [← hS4, e3, e2]; exact hE.trans (by rw [F_X10_step_L0, if_pos (show hereF S1 = 32 by rw [← f1]; exact q)]))
  have b18 : mm_b 0 240 (S.1 0 18) := JIM_fld hI rfl tbM_6 (by decide)
  exact cut 242 S (by omega) hI fr_rf (by rw [F_X10_step])
/-! ===== the class: letterHere, imageOf told exactly ===== -/
def F_X8_letterHere (S : mm_S) : Int32 := if S.1 1 0 ≤ S.1 1 3 then -1 else S.1 2 (S.1 1 3).toNatClampNeg
set_option maxRecDepth 100000 in
set_option maxHeartbeats 4000000 in
theorem cx_X8_letterHere {g : mm_G} (S : mm_S) (hI : JC S) : mc g yX8_letterHere cX8_letterHere 1 (some .int) (mm_rm 0) [.ref 1] (mm_enc shC S) (qi shC (fun S1 v => S = S1 ∧ mm_b (-1) 255 v ∧ (v = -1 ∨ mm_b 0 239 (S.1 1 3)) ∧ F_X8_letterHere S = v)) := by
  refine mc_of2 (own := RX8) (ini := false) (ls := [(0, .ref 1)]) (by decide) (Nat.le_of_ble_eq_true rfl) rfl (by decide) rfl ?_
  refine mw_aload_n dX8_letterHere_0 rfl 0 rfl ?_
  refine tw_geti (j := 3) dX8_letterHere_1 shC_1 rfl rfl (by decide) fX8_27 (fun v1 e1 => ?_)
  have b1 : mm_b 0 240 v1 := JIC_fld hI e1 tbC_1 (by decide)
  refine mw_aload_n dX8_letterHere_4 rfl 0 rfl ?_
  refine tw_geti (j := 0) dX8_letterHere_5 shC_1 rfl rfl (by decide) fX8_19 (fun v2 e2 => ?_)
  have b2 : mm_b 0 240 v2 := JIC_fld hI e2 tbC_0 (by decide)
  refine mw_icmp_ge (tgt := 35) dX8_letterHere_8 (by decide) (fun q => ?_) (fun q => ?_)
  · refine mw_iconst dX8_letterHere_35 ki_m1 ?_
    exact mw_iret rfl dX8_letterHere_36 rfl rfl ⟨S, _, rfl, rfl, rfl, bd_w n_m1 (by decide), Or.inl rfl, by subst e1; subst e2; rw [F_X8_letterHere, if_pos q]⟩
  · have b3 : mm_b 0 239 v1 := bd_lt_l (bd_nle q) b1 b2 (by decide)
    refine mw_aload_n dX8_letterHere_11 rfl 0 rfl ?_
    refine tw_geti (j := 3) dX8_letterHere_12 shC_1 rfl rfl (by decide) fX8_27 (fun v4 e4 => ?_)
    have c4 : v1 = v4 := e1.trans e4.symm
    subst c4
    refine mw_aload_n dX8_letterHere_15 rfl 0 rfl ?_
    refine tw_getr (j := 5) dX8_letterHere_16 shC_1 rfl rfl (by decide) fX8_15 ?_
    refine tw_aleni (v := 240) dX8_letterHere_19 shC_2 rfl (by decide) ?_
    refine mw_icmp_ge (tgt := 35) dX8_letterHere_20 (by decide) (fun q2 => ?_) (fun q2 => ?_)
    · refine mw_iconst dX8_letterHere_35 ki_m1 ?_
      exact mw_iret rfl dX8_letterHere_36 rfl rfl ⟨S, _, rfl, rfl, rfl, bd_w n_m1 (by decide), Or.inl rfl, absurd (Int32.le_iff_toInt_le.mp q2) (by show ¬ 240 ≤ v1.toInt; omega)⟩
    · refine mw_aload_n dX8_letterHere_23 rfl 0 rfl ?_
      refine tw_getr (j := 5) dX8_letterHere_24 shC_1 rfl rfl (by decide) fX8_15 ?_
      refine mw_aload_n dX8_letterHere_27 rfl 0 rfl ?_
      refine tw_geti (j := 3) dX8_letterHere_28 shC_1 rfl rfl (by decide) fX8_27 (fun v5 e5 => ?_)
      have c5 : v1 = v5 := e1.trans e5.symm
      subst c5
      refine tw_iald dX8_letterHere_31 shC_2 (bd_in b3 (by decide)) (fun v6 e6 => ?_)
      have b6 : mm_b 0 255 v6 := JIC_elt hI e6 b3 tbC_2 (by decide)
      refine mw_goto (tgt := 36) dX8_letterHere_32 (by decide) ?_
      exact mw_iret rfl dX8_letterHere_36 rfl rfl ⟨S, _, rfl, rfl, rfl, bd_w b6 (by decide), Or.inr (by rw [← e1]; exact b3), by subst e6; subst e2; subst e1; rw [F_X8_letterHere, if_neg q]⟩
def imgF (x : Int32) : Nat := ([151, 157] : List Nat)[x.toNatClampNeg]?.getD 0
def aaC_127 (x : Int32) : Nat := ([151, 157] : List Nat)[x.toNatClampNeg]?.getD 0
theorem aaC_127_get {x : Int32} {a : Nat} (h : ([151, 157] : List Nat)[x.toNatClampNeg]? = some a) : aaC_127 x = a := by rw [aaC_127, h]; rfl
set_option maxRecDepth 100000 in
set_option maxHeartbeats 4000000 in
theorem cx_X9_imageOf {g : mm_G} (S : mm_S) (hI : JC S) (x1 : Int32) : mc g yX9_imageOf cX9_imageOf 2 (some (.object "VoiceWills$Image")) (mm_rm 0) [.ref 0, .int x1] (mm_enc shC S) (qr shC (fun S1 v => S = S1 ∧ ((v = .null ∧ ¬ mm_b 0 1 x1) ∨ ∃ a, a ∈ LC_image ∧ v = .ref a ∧ mm_b 0 1 x1 ∧ imgF x1 = a))) := by
  refine mc_of2 (own := RX9) (ini := false) (ls := [(0, .ref 0), (1, .int x1)]) (by decide) (Nat.le_of_ble_eq_true rfl) rfl (by decide) rfl ?_
  refine mw_iload_n dX9_imageOf_0 rfl 1 rfl ?_
  refine mw_if_lt (tgt := 22) dX9_imageOf_1 (by decide) (fun q => ?_) (fun q => ?_)
  · refine mw_null dX9_imageOf_22 ?_
    have h1 := Int32.lt_iff_toInt_lt.mp q
    exact mw_aret rfl (Or.inl rfl) dX9_imageOf_23 rfl rfl ⟨S, _, rfl, rfl, rfl, Or.inl ⟨rfl, fun h => absurd h1 (by show ¬ x1.toInt < 0; omega)⟩⟩
  · have b1 : mm_b 0 2147483647 x1 := bd_le_r (bd_nlt q) n_0 (bd_all x1) (by decide)
    refine mw_iload_n dX9_imageOf_4 rfl 1 rfl ?_
    refine mw_aload_n dX9_imageOf_5 rfl 0 rfl ?_
    refine tw_getr (j := 6) dX9_imageOf_6 shC_0 rfl rfl (by decide) fX9_45 ?_
    refine tw_alenr (v := 2) dX9_imageOf_9 shC_127 rfl (by decide) ?_
    refine mw_icmp_ge (tgt := 22) dX9_imageOf_10 (by decide) (fun q2 => ?_) (fun q2 => ?_)
    · refine mw_null dX9_imageOf_22 ?_
      have h1 := Int32.le_iff_toInt_le.mp q2
      have h2 : (2 : Int32).toInt = 2 := rfl
      exact mw_aret rfl (Or.inl rfl) dX9_imageOf_23 rfl rfl ⟨S, _, rfl, rfl, rfl, Or.inl ⟨rfl, fun h => absurd h.2 (by omega)⟩⟩
    · have b2 : mm_b 0 1 x1 := bd_lt_l (bd_nle q2) b1 n_2 (by decide)
      refine mw_aload_n dX9_imageOf_13 rfl 0 rfl ?_
      refine tw_getr (j := 6) dX9_imageOf_14 shC_0 rfl rfl (by decide) fX9_45 ?_
      refine mw_iload_n dX9_imageOf_17 rfl 1 rfl ?_
      obtain ⟨a, ea, ha⟩ := AAC_127 b2 (by decide)
      refine tw_aald dX9_imageOf_18 shC_127 rfl rfl (bd_in b2 (by decide)) ea (LC_image_lt ha) ?_
      refine mw_goto (tgt := 23) dX9_imageOf_19 (by decide) ?_
      exact mw_aret rfl (Or.inr ⟨_, rfl⟩) dX9_imageOf_23 rfl rfl ⟨S, _, rfl, rfl, rfl, Or.inr ⟨a, ha, rfl, b2, by rw [imgF, ea]; rfl⟩⟩
