/-! ===== the reference: isIn, copies ===== -/
set_option maxRecDepth 100000 in
set_option maxHeartbeats 4000000 in
theorem c_X10_isIn {g : mm_G} (S : mm_S) (hI : JM S) (x0 : Int32) (x1 : Int32) : mc g yX10_isIn cX10_isIn 2 (some .boolean) (mm_rm 0) [.int x0, .int x1] (mm_enc shM S) (qi shM (fun S1 v => S = S1 ∧ mm_b (0) (1) v ∧ ((v = 0 ∧ ¬ (x0 >>> (x1 &&& 31)) &&& 1 = 1) ∨ (v = 1 ∧ (x0 >>> (x1 &&& 31)) &&& 1 = 1)))) := by
  refine mc_of2 (own := RX10) (ini := false) (ls := [(0, .int x0), (1, .int x1)]) (by decide) (Nat.le_of_ble_eq_true rfl) rfl (by decide) rfl ?_
  refine mw_iload_n dX10_isIn_0 rfl 0 rfl ?_
  refine mw_iload_n dX10_isIn_1 rfl 1 rfl ?_
  refine mw_ishr dX10_isIn_2 (fun v101 ev101 => ?_)
  refine mw_iconst dX10_isIn_3 ki_1 ?_
  refine mw_iand dX10_isIn_4 (fun v102 ev102 => ?_)
  refine mw_iconst dX10_isIn_5 ki_1 ?_
  refine mw_icmp_ne (tgt := 13) dX10_isIn_6 (by decide) (fun q104 => ?_) (fun q104 => ?_)
  · refine mw_iconst dX10_isIn_13 ki_0 ?_
    exact mw_zret rfl (bd_nar n_0 (by decide)) dX10_isIn_14 rfl rfl ⟨S, _, rfl, rfl, rfl, bd_w n_0 (by decide), Or.inl ⟨rfl, by rw [← ev101, ← ev102]; exact q104⟩⟩
  · refine mw_iconst dX10_isIn_9 ki_1 ?_
    refine mw_goto (tgt := 14) dX10_isIn_10 (by decide) ?_
    exact mw_zret rfl (bd_nar n_1 (by decide)) dX10_isIn_14 rfl rfl ⟨S, _, rfl, rfl, rfl, bd_w n_1 (by decide), Or.inr ⟨rfl, by rw [← ev101, ← ev102]; exact q104⟩⟩
theorem isIn_tab : ∀ s : Fin 128, ∀ j : Fin 32, (nI s.val >>> (nI j.val &&& 31)) &&& 1 = 1 → j.val ≤ 6 := by decide +kernel
theorem isIn_b {s i v : Int32} {lo hi a b : Int} (x : (v = 0 ∧ ¬ (s >>> (i &&& 31)) &&& 1 = 1) ∨ (v = 1 ∧ (s >>> (i &&& 31)) &&& 1 = 1)) (hs : mm_b a b s) (hi1 : mm_b lo hi i) (h : 0 ≤ a ∧ b ≤ 127 ∧ 0 ≤ lo ∧ hi ≤ 31) : v = 0 ∨ mm_b 0 6 i := by
  rcases x with x | ⟨-, x⟩
  · exact Or.inl x.1
  · obtain ⟨j, rfl, hj⟩ := bd_nI (x := s) (by omega)
    obtain ⟨k, rfl, hk⟩ := bd_nI (x := i) (by omega)
    have := isIn_tab ⟨j, by omega⟩ ⟨k, by omega⟩ x
    exact Or.inr ⟨by omega, by dsimp only at this; omega⟩
set_option maxRecDepth 100000 in
set_option maxHeartbeats 4000000 in
theorem c_cp {g : mm_G} (S : mm_S) {a b na nb : Nat} (ha : shM[a]? = some (.inr (0, na, none))) (hb : shM[b]? = some (.inr (0, nb, none))) (hab : a ≠ b) (i j n : Nat) (hi : i + n ≤ na) (hj : j + n ≤ nb) (hna : na ≤ 1000) (hnb : nb ≤ 1000) (xi xj xn : Int32) (ei : xi.toInt = i) (ej : xj.toInt = j) (en : xn.toInt = n) :
    mc g yX10_copies cX10_copies 6 none (mm_rm 0) [.ref a, .int xi, .ref b, .int xj, .int xn] (mm_enc shM S) (qv shM (fun S1 => S1 = mm_cp S a i b j n)) := by
  refine mc_of2 (own := RX10) (ini := false) (ls := [(0, .ref a), (1, .int xi), (2, .ref b), (3, .int xj), (4, .int xn)]) (by decide) (Nat.le_of_ble_eq_true rfl) rfl (by decide) rfl ?_
  refine mw_iconst dX10_copies_0 ki_0 ?_
  refine mw_istore (ls' := [(5, .int 0), (0, .ref a), (1, .int xi), (2, .ref b), (3, .int xj), (4, .int xn)]) dX10_copies_1 (by decide) rfl ?_
  have cut : ∀ (N k : Nat) (xk : Int32), n - k < N → xk.toInt = k → k ≤ n → mw g RX10 cX10_copies 6 none false (mm_rm 0) (qv shM (fun S1 => S1 = mm_cp S a i b j n)) 0 0 (mm_enc shM (mm_cp S a i b j k)) 3 [(5, .int xk), (0, .ref a), (1, .int xi), (2, .ref b), (3, .int xj), (4, .int xn)] [] := by
    intro N
    induction N with
    | zero =>
      intro k xk h
      exact absurd h (Nat.not_lt_zero _)
    | succ N ih =>
      intro k xk h hk hkn
      refine mw_iload dX10_copies_3 0 rfl ?_
      refine mw_iload dX10_copies_5 5 rfl ?_
      refine mw_icmp_ge (tgt := 28) dX10_copies_7 (by decide) (fun q => ?_) (fun q => ?_)
      · have h1 := Int32.le_iff_toInt_le.mp q
        have : k = n := by omega
        subst this
        exact mw_vret rfl dX10_copies_28 rfl rfl ⟨_, rfl, rfl, rfl⟩
      · have h1 := Int32.lt_iff_toInt_lt.mp (bd_nle q)
        have hk2 : k < n := by omega
        refine mw_aload_n dX10_copies_10 rfl 3 rfl ?_
        refine mw_iload_n dX10_copies_11 rfl 4 rfl ?_
        refine mw_iload dX10_copies_12 0 rfl ?_
        refine mw_iadd dX10_copies_14 (fun z1 e1 => ?_)
        have f1 : z1.toInt = ((j + k : Nat) : Int) := by rw [e1, bd_ti_add (by omega) (by omega)]; omega
        refine mw_aload_n dX10_copies_15 rfl 1 rfl ?_
        refine mw_iload_n dX10_copies_16 rfl 2 rfl ?_
        refine mw_iload dX10_copies_17 0 rfl ?_
        refine mw_iadd dX10_copies_19 (fun z2 e2 => ?_)
        have f2 : z2.toInt = ((i + k : Nat) : Int) := by rw [e2, bd_ti_add (by omega) (by omega)]; omega
        have c1 : z1.toNatClampNeg = j + k := by show z1.toInt.toNat = _; omega
        have c2 : z2.toNatClampNeg = i + k := by show z2.toInt.toNat = _; omega
        refine tw_iald dX10_copies_20 ha (vp_in_iff.mpr ⟨by omega, by omega⟩) (fun v3 e3 => ?_)
        refine tw_iast dX10_copies_21 hb (vp_in_iff.mpr ⟨by omega, by omega⟩) ?_
        rw [e3, c1, c2, mm_cp_s S hab]
        refine mw_iinc (ls' := fun v => [(5, .int v), (0, .ref a), (1, .int xi), (2, .ref b), (3, .int xj), (4, .int xn)]) dX10_copies_22 0 rfl (by decide) (fun _ => rfl) (fun x4 e4 => ?_)
        refine mw_goto (tgt := 3) dX10_copies_25 (by decide) ?_
        exact ih (k + 1) x4 (by omega) (by rw [e4, bd_ti_add (by rw [bd_ofI (by decide)]; omega) (by rw [bd_ofI (by decide)]; omega), bd_ofI (by decide)]; omega) (by omega)
  have h0 := cut (n + 1) 0 0 (by omega) rfl (Nat.zero_le _)
  rw [mm_cp_0] at h0
  exact h0
theorem fr_cp {S : mm_S} {a i b j n : Nat} (hb : b ≠ 0) : fr [b] [] true true S (mm_cp S a i b j n) := by
  refine ⟨fun x k hx h0 => ?_, fun k hk => ?_, fun _ => rfl, fun _ => ?_⟩
  · exact if_neg (fun q => hx (List.mem_singleton.mpr q.1))
  · exact if_neg (fun q => hb q.1.symm)
  · have : (mm_cp S a i b j n).1 0 18 = S.1 0 18 := if_neg (fun q => hb q.1.symm)
    rw [this]
    exact Int.le_refl _
theorem mc_wk {g : mm_G} {y : MethodName} {cc : ByteArray} {nL : Nat} {ret : Option FieldType} {rm : Room} {as : List Value} {w : List mm_E} {Q Q2 : Option Value → List mm_E → Prop} (h : mc g y cc nL ret rm as w Q) (hq : ∀ r w, Q r w → Q2 r w) : mc g y cc nL ret rm as w Q2 := by
  intro l p e ha hc hk s m args below hf happ hP hK
  obtain ⟨t, o, h1, h2, h3, h4⟩ := h l p e ha hc hk s m args below hf happ hP hK
  refine ⟨t, o, h1, h2, h3, ?_⟩
  obtain ⟨⟨⟨r, w1, a1, a2, a3⟩, a4⟩, a5⟩ := h4
  exact ⟨⟨⟨r, w1, a1, hq r w1 a2, a3⟩, a4⟩, a5⟩
theorem cp_J {S : mm_S} (hI : JM S) {a i b j n : Nat} (hc : mm_cq tbM a i b j n = true) : JM (mm_cp S a i b j n) := ⟨hI.1.cp hc, hI.2⟩
theorem bd_one {a : Int} {x : Int32} (h : mm_b a a x) : x.toInt = a := by omega
theorem c_X10_copies_13 {g : mm_G} (S : mm_S) (hI : JM S) (x1 : Int32) (h1 : mm_b 10 10 x1) (x3 : Int32) (h3 : mm_b 14 14 x3) (x4 : Int32) (h4 : mm_b 14 14 x4) : mc g yX10_copies cX10_copies 6 none (mm_rm 0) [.ref 1, .int x1, .ref 3, .int x3, .int x4] (mm_enc shM S) (qv shM (fun S1 => JM S1 ∧ fr [3] [] true true S S1 ∧ True)) :=
  mc_wk (c_cp S shM_1 shM_3 (by decide) 10 14 14 (by decide) (by decide) (by decide) (by decide) x1 x3 x4 (bd_one h1) (bd_one h3) (bd_one h4)) (fun r w ⟨S1, h, h2, h3⟩ => ⟨S1, h, h2, by rw [h3]; exact ⟨cp_J hI (by decide +kernel), fr_cp (by decide), trivial⟩⟩)
theorem c_X10_copies_21 {g : mm_G} (S : mm_S) (hI : JM S) (x1 : Int32) (h1 : mm_b 0 0 x1) (x3 : Int32) (h3 : mm_b 0 0 x3) (x4 : Int32) (h4 : mm_b 37 37 x4) : mc g yX10_copies cX10_copies 6 none (mm_rm 0) [.ref 2, .int x1, .ref 1, .int x3, .int x4] (mm_enc shM S) (qv shM (fun S1 => JM S1 ∧ fr [1] [] true true S S1 ∧ True)) :=
  mc_wk (c_cp S shM_2 shM_1 (by decide) 0 0 37 (by decide) (by decide) (by decide) (by decide) x1 x3 x4 (bd_one h1) (bd_one h3) (bd_one h4)) (fun r w ⟨S1, h, h2, h3⟩ => ⟨S1, h, h2, by rw [h3]; exact ⟨cp_J hI (by decide +kernel), fr_cp (by decide), trivial⟩⟩)
theorem c_X10_copies_34 {g : mm_G} (S : mm_S) (hI : JM S) (x1 : Int32) (h1 : mm_b 0 0 x1) (x3 : Int32) (h3 : mm_b 0 0 x3) (x4 : Int32) (h4 : mm_b 30 30 x4) : mc g yX10_copies cX10_copies 6 none (mm_rm 0) [.ref 3, .int x1, .ref 4, .int x3, .int x4] (mm_enc shM S) (qv shM (fun S1 => JM S1 ∧ fr [4] [] true true S S1 ∧ True)) :=
  mc_wk (c_cp S shM_3 shM_4 (by decide) 0 0 30 (by decide) (by decide) (by decide) (by decide) x1 x3 x4 (bd_one h1) (bd_one h3) (bd_one h4)) (fun r w ⟨S1, h, h2, h3⟩ => ⟨S1, h, h2, by rw [h3]; exact ⟨cp_J hI (by decide +kernel), fr_cp (by decide), trivial⟩⟩)
theorem cp_35 : ∀ u : Fin 20, mm_cq tbM 3 0 5 (30 * u.val) 30 = true := by decide +kernel
theorem cp_53 : ∀ u : Fin 20, mm_cq tbM 5 (30 * u.val) 3 0 30 = true := by decide +kernel
theorem cp_36 : ∀ u : Fin 2, mm_cq tbM 3 0 6 (31 * u.val) 30 = true := by decide +kernel
theorem cp_63 : ∀ u : Fin 2, mm_cq tbM 6 (31 * u.val) 3 0 30 = true := by decide +kernel
theorem cp_mul {c y z : Int32} {C : Nat} {lo hi : Int} {M : Nat} (e : z = c * y) (hc : mm_b C C c) (hy : mm_b lo hi y) (h : 0 ≤ lo ∧ hi < M ∧ C * M ≤ 1000) : ∃ u : Nat, u < M ∧ z.toInt = ((C * u : Nat) : Int) := by
  obtain ⟨j, rfl, hj⟩ := bd_nI (x := y) (by omega)
  have hc2 := bd_one hc
  have hm : ((C * j : Nat) : Int) = c.toInt * (nI j).toInt := by rw [hc2, ← hj]; omega
  have hle : C * j ≤ C * M := Nat.mul_le_mul_left C (by omega)
  refine ⟨j, by omega, ?_⟩
  rw [e, bd_ti_mul (by omega) (by omega)]
  exact hm.symm
theorem c_X10_copies_35 {g : mm_G} (S : mm_S) (hI : JM S) (x1 : Int32) (h1 : mm_b 0 0 x1) (x3 : Int32) (x4 : Int32) (h4 : mm_b 30 30 x4) (h3 : ∃ u : Nat, u < 20 ∧ x3.toInt = ((30 * u : Nat) : Int)) : mc g yX10_copies cX10_copies 6 none (mm_rm 0) [.ref 3, .int x1, .ref 5, .int x3, .int x4] (mm_enc shM S) (qv shM (fun S1 => JM S1 ∧ fr [5] [] true true S S1 ∧ True)) := by
  obtain ⟨u, hu, h3⟩ := h3
  exact mc_wk (c_cp S shM_3 shM_5 (by decide) 0 (30 * u) 30 (by decide) (by omega) (by decide) (by decide) x1 x3 x4 (bd_one h1) h3 (bd_one h4)) (fun r w ⟨S1, h, h2, h3⟩ => ⟨S1, h, h2, by rw [h3]; exact ⟨cp_J hI (cp_35 ⟨u, hu⟩), fr_cp (by decide), trivial⟩⟩)
theorem c_X10_copies_53 {g : mm_G} (S : mm_S) (hI : JM S) (x1 : Int32) (x3 : Int32) (h3 : mm_b 0 0 x3) (x4 : Int32) (h4 : mm_b 30 30 x4) (h1 : ∃ u : Nat, u < 20 ∧ x1.toInt = ((30 * u : Nat) : Int)) : mc g yX10_copies cX10_copies 6 none (mm_rm 0) [.ref 5, .int x1, .ref 3, .int x3, .int x4] (mm_enc shM S) (qv shM (fun S1 => JM S1 ∧ fr [3] [] true true S S1 ∧ True)) := by
  obtain ⟨u, hu, h1⟩ := h1
  exact mc_wk (c_cp S shM_5 shM_3 (by decide) (30 * u) 0 30 (by omega) (by decide) (by decide) (by decide) x1 x3 x4 h1 (bd_one h3) (bd_one h4)) (fun r w ⟨S1, h, h2, h3⟩ => ⟨S1, h, h2, by rw [h3]; exact ⟨cp_J hI (cp_53 ⟨u, hu⟩), fr_cp (by decide), trivial⟩⟩)
theorem c_X10_copies_36 {g : mm_G} (S : mm_S) (hI : JM S) (x1 : Int32) (h1 : mm_b 0 0 x1) (x3 : Int32) (x4 : Int32) (h4 : mm_b 30 30 x4) (h3 : ∃ u : Nat, u < 2 ∧ x3.toInt = ((31 * u : Nat) : Int)) : mc g yX10_copies cX10_copies 6 none (mm_rm 0) [.ref 3, .int x1, .ref 6, .int x3, .int x4] (mm_enc shM S) (qv shM (fun S1 => JM S1 ∧ fr [6] [] true true S S1 ∧ True)) := by
  obtain ⟨u, hu, h3⟩ := h3
  exact mc_wk (c_cp S shM_3 shM_6 (by decide) 0 (31 * u) 30 (by decide) (by omega) (by decide) (by decide) x1 x3 x4 (bd_one h1) h3 (bd_one h4)) (fun r w ⟨S1, h, h2, h3⟩ => ⟨S1, h, h2, by rw [h3]; exact ⟨cp_J hI (cp_36 ⟨u, hu⟩), fr_cp (by decide), trivial⟩⟩)
theorem c_X10_copies_63 {g : mm_G} (S : mm_S) (hI : JM S) (x1 : Int32) (x3 : Int32) (h3 : mm_b 0 0 x3) (x4 : Int32) (h4 : mm_b 30 30 x4) (h1 : ∃ u : Nat, u < 2 ∧ x1.toInt = ((31 * u : Nat) : Int)) : mc g yX10_copies cX10_copies 6 none (mm_rm 0) [.ref 6, .int x1, .ref 3, .int x3, .int x4] (mm_enc shM S) (qv shM (fun S1 => JM S1 ∧ fr [3] [] true true S S1 ∧ True)) := by
  obtain ⟨u, hu, h1⟩ := h1
  exact mc_wk (c_cp S shM_6 shM_3 (by decide) (31 * u) 0 30 (by omega) (by decide) (by decide) (by decide) x1 x3 x4 h1 (bd_one h3) (bd_one h4)) (fun r w ⟨S1, h, h2, h3⟩ => ⟨S1, h, h2, by rw [h3]; exact ⟨cp_J hI (cp_63 ⟨u, hu⟩), fr_cp (by decide), trivial⟩⟩)
/-! the shift of the past -/
theorem tbM_sh : tbM.all (fun q => q.1 != 5 || (decide (570 ≤ q.2.1) || decide ((q.1, q.2.1 + 30, q.2.2.1 + 30, q.2.2.2.1, q.2.2.2.2) ∈ tbM))) = true := by decide +kernel
theorem JM_shift {S : mm_S} (hI : JM S) {k z v : Int32} (bk : mm_b 0 569 k) (ez : z = k + 30) (ev : v = S.1 5 z.toNatClampNeg) : JM (mm_up S 5 k.toNatClampNeg v) := by
  have h1 : z.toInt = k.toInt + 30 := by rw [ez, bd_ti_add (by show -2147483648 ≤ k.toInt + 30; omega) (by show k.toInt + 30 ≤ 2147483647; omega)]; rfl
  have c1 : z.toNatClampNeg = k.toNatClampNeg + 30 := by show z.toInt.toNat = k.toInt.toNat + 30; omega
  have c2 : (k.toNatClampNeg : Int) = k.toInt := bd_cl bk (by decide)
  refine ⟨fun q hq i h2 h3 => ?_, hI.2⟩
  show mm_b _ _ (if q.1 = 5 ∧ i = k.toNatClampNeg then v else S.1 q.1 i)
  split
  · rename_i h4
    have h5 := List.all_eq_true.mp tbM_sh q hq
    simp only [Bool.or_eq_true, decide_eq_true_eq, bne_iff_ne] at h5
    rcases h5 with h5 | h5 | h5
    · exact absurd h4.1 h5
    · omega
    · have h6 := hI.1 _ h5 (i + 30) (by dsimp only; omega) (by dsimp only; omega)
      rw [ev, c1, ← h4.2]
      dsimp only at h6
      rw [h4.1] at h6
      exact h6
  · exact hI.1 q hq i h2 h3
/-! the images' seeds -/
theorem tbM_im : (6, 30, 30, (0 : Int), (2147483647 : Int)) ∈ tbM ∧ (6, 61, 61, (0 : Int), (2147483647 : Int)) ∈ tbM := by decide +kernel
theorem img_ix {m z : Int32} (ez : z = m + 30) (hm : ∃ u : Nat, u < 2 ∧ m.toInt = ((31 * u : Nat) : Int)) : z.toNatClampNeg = 30 ∨ z.toNatClampNeg = 61 := by
  obtain ⟨u, hu, h⟩ := hm
  have h1 : z.toInt = m.toInt + 30 := by rw [ez, bd_ti_add (by show -2147483648 ≤ m.toInt + 30; omega) (by show m.toInt + 30 ≤ 2147483647; omega)]; rfl
  show z.toInt.toNat = 30 ∨ z.toInt.toNat = 61
  omega
theorem JM_img {S : mm_S} (hI : JM S) {m z v : Int32} (ez : z = m + 30) (hm : ∃ u : Nat, u < 2 ∧ m.toInt = ((31 * u : Nat) : Int)) (hv : mm_b 0 2147483647 v) : JM (mm_up S 6 z.toNatClampNeg v) := by
  rcases img_ix ez hm with h | h <;> rw [h]
  · exact JIM_put hI hv (by decide +kernel)
  · exact JIM_put hI hv (by decide +kernel)
theorem JM_imgr {S : mm_S} (hI : JM S) {m z v : Int32} (ez : z = m + 30) (hm : ∃ u : Nat, u < 2 ∧ m.toInt = ((31 * u : Nat) : Int)) (ev : v = S.1 6 z.toNatClampNeg) : mm_b 0 2147483647 v := by
  rcases img_ix ez hm with h | h <;> rw [h] at ev
  · exact JIM_fld hI ev tbM_im.1 ⟨Nat.le_refl _, Nat.le_refl _⟩
  · exact JIM_fld hI ev tbM_im.2 ⟨Nat.le_refl _, Nat.le_refl _⟩
/-! the least of a set -/
def lsN (s v : Int32) : Prop := ∀ j : Nat, (j : Int) < v.toInt → ¬ (s >>> (nI j &&& 31)) &&& 1 = 1
theorem lsN_0 {s : Int32} : lsN s 0 := fun j h => absurd h (by show ¬ (j : Int) < 0; omega)
theorem lsN_s {s i i2 v : Int32} {lo hi : Int} (h : lsN s i) (x : (v = 0 ∧ ¬ (s >>> (i &&& 31)) &&& 1 = 1) ∨ (v = 1 ∧ (s >>> (i &&& 31)) &&& 1 = 1)) (hv : v = 0) (hb : ¬ (s >>> (i &&& 31)) &&& 1 = 1) (bi : mm_b lo hi i) (h0 : 0 ≤ lo ∧ hi ≤ 100) (e : i2 = i + Int32.ofInt 1) : lsN s i2 := by
  have t : i2.toInt = i.toInt + 1 := by rw [e, bd_ti_add (by rw [bd_ofI (by decide)]; omega) (by rw [bd_ofI (by decide)]; omega), bd_ofI (by decide)]
  intro j hj
  rcases (by omega : (j : Int) < i.toInt ∨ i.toInt ≤ j) with q | q
  · exact h j q
  · obtain ⟨k, rfl, hk⟩ := bd_nI (x := i) (by omega)
    have : j = k := by omega
    subst this
    exact hb
theorem ls_tab : ∀ s : Fin 128, s.val ≠ 0 → ∃ j : Fin 7, (nI s.val >>> (nI j.val &&& 31)) &&& 1 = 1 := by decide +kernel
theorem ls_b {s v : Int32} {lo hi : Int} (x : mm_b 0 6 v ∨ (v = 9 ∧ lsN s 7)) (hs : mm_b lo hi s) (h : 1 ≤ lo ∧ hi ≤ 127) : mm_b 0 6 v := by
  rcases x with x | ⟨x, hx⟩
  · exact x
  · exfalso
    obtain ⟨k, rfl, hk⟩ := bd_nI (x := s) (by omega)
    obtain ⟨j, hj⟩ := ls_tab ⟨k, by omega⟩ (by show k ≠ 0; omega)
    exact hx j.val (by show (j.val : Int) < 7; omega) hj
theorem bits_0 {s v : Int32} (x : ∃ N, bitsL N s 0 = some v) (h : mm_b 0 0 s) : mm_b 0 0 v := by
  obtain ⟨N, x⟩ := x
  have hs := bd_zero h
  subst hs
  have : v = 0 := bitsL_one x (show bitsL 1 0 0 = some 0 from rfl)
  rw [this]
  decide
theorem bits_tab1 : ∀ s : Fin 128, s.val ≠ 0 → ∃ v : Fin 8, v.val ≠ 0 ∧ bitsL 9 (nI s.val) 0 = some (nI v.val) := by decide +kernel
theorem bits_1 {s v : Int32} {lo hi : Int} (x : ∃ N, bitsL N s 0 = some v) (h : mm_b lo hi s) (h2 : 1 ≤ lo ∧ hi ≤ 127) : mm_b 1 7 v := by
  obtain ⟨N, x⟩ := x
  obtain ⟨j, rfl, hj⟩ := bd_nI (x := s) (by omega)
  obtain ⟨u, hu0, hu⟩ := bits_tab1 ⟨j, by omega⟩ (by show j ≠ 0; omega)
  rw [bitsL_one x hu, mm_b, nI_toInt (by omega)]
  omega
theorem bits_eq {s v u : Int32} (x : ∃ N, bitsL N s 0 = some v) (y : ∃ N, bitsL N s 0 = some u) : v = u := by
  obtain ⟨N, x⟩ := x
  obtain ⟨M, y⟩ := y
  exact bitsL_one x y
theorem two_tab : ∀ s : Fin 128, ∀ o : Fin 7, (∀ b : Fin 2, ¬ bitsL 9 (nI s.val) 0 = some (nI b.val)) → ((nI s.val) &&& (((1 : Int32) <<< (nI o.val &&& 31)) ^^^ (-1))).toInt ≠ 0 := by decide +kernel
theorem two_b {s b o w1 w2 w m : Int32} {lo hi : Int} (x : ∃ N, bitsL N s 0 = some b) (hb : mm_b 2 7 b) (hs : mm_b lo hi s) (h : 0 ≤ lo ∧ hi ≤ 127) (ho : mm_b 0 6 o) (e1 : w1 = 1 <<< (o &&& 31)) (e2 : w2 = w1 ^^^ m) (hm : m = -1) (e3 : w = s &&& w2) : mm_b 1 127 w := by
  obtain ⟨N, x⟩ := x
  have hw : mm_b 0 127 w := bd_w (bd_and (lo := 0) (hi := hi) e3 hs ⟨h.1, Int.le_refl _, Int.le_refl _⟩) ⟨Int.le_refl _, h.2⟩
  obtain ⟨j, rfl, hj⟩ := bd_nI (x := s) (by omega)
  obtain ⟨k, rfl, hk⟩ := bd_nI (x := o) ho.1
  have := two_tab ⟨j, by omega⟩ ⟨k, by omega⟩ (fun c hc => by
    have e := bitsL_one x hc
    rw [e, mm_b, nI_toInt (by omega)] at hb
    omega)
  rw [e3, e2, e1, hm] at hw ⊢
  dsimp only at this
  omega
/-! codes of two heirs -/
theorem bd_ti_div2 {x y : Int32} (hx : 0 ≤ x.toInt) (hy : 0 < y.toInt) : (x / y).toInt = x.toInt / y.toInt := by
  have r := bd_rng x
  have g1 : 0 ≤ x.toInt / y.toInt := Int.ediv_nonneg hx (by omega)
  have g2 : x.toInt / y.toInt ≤ x.toInt := Int.ediv_le_self _ hx
  rw [Int32.toInt_div, Int.tdiv_eq_ediv_of_nonneg hx, bd_bmod (by omega) (by omega)]
theorem cb_1 {n : Int32} {lo hi : Int} (h : mm_b lo hi n) (h2 : 1 ≤ lo) : (1 : Int32).toInt ≤ n.toInt * n.toInt := by
  have : (1 : Int) * 1 ≤ n.toInt * n.toInt := Int.mul_le_mul (by omega) (by omega) (by decide) (by omega)
  exact this
theorem cb_n {n : Int32} {lo hi : Int} (h : mm_b lo hi n) (h2 : 1 ≤ lo) : n.toInt ≤ n.toInt * n.toInt := by
  have : n.toInt * 1 ≤ n.toInt * n.toInt := Int.mul_le_mul_of_nonneg_left (by omega) (by omega)
  omega
theorem cb_nn {n c : Int32} {lo hi : Int} (e : c = n * n) (h : mm_b lo hi n) (h2 : 1 ≤ lo ∧ hi ≤ 1000) : c.toInt ≤ n.toInt * n.toInt := by
  have h3 : n.toInt * n.toInt ≤ 1000 * 1000 := Int.mul_le_mul (by omega) (by omega) (by omega) (by decide)
  have h4 : 0 ≤ n.toInt * n.toInt := Int.mul_nonneg (by omega) (by omega)
  rw [e, bd_ti_mul (by omega) (by omega)]
  exact Int.le_refl _
theorem cb_div {x y z c : Int32} {a b lo hi : Int} (e : z = x / y) (hx : mm_b a b x) (hy : mm_b lo hi y) (h : 0 ≤ a ∧ 1 ≤ lo ∧ hi ≤ 8) (q : x < c) (hc : c.toInt ≤ y.toInt * y.toInt) : mm_b 0 7 z := by
  have q2 := Int32.lt_iff_toInt_lt.mp q
  have t : z.toInt = x.toInt / y.toInt := by rw [e, bd_ti_div2 (by omega) (by omega)]
  have g1 : 0 ≤ x.toInt / y.toInt := Int.ediv_nonneg (by omega) (by omega)
  have g2 : x.toInt / y.toInt < y.toInt := by
    rw [Int.ediv_lt_iff_lt_mul (by omega)]
    omega
  rw [mm_b, t]
  omega
theorem ls_no {s i v : Int32} (x : (v = 0 ∧ ¬ (s >>> (i &&& 31)) &&& 1 = 1) ∨ (v = 1 ∧ (s >>> (i &&& 31)) &&& 1 = 1)) (hv : mm_b 0 0 v) : ¬ (s >>> (i &&& 31)) &&& 1 = 1 := by
  rcases x with x | x
  · exact x.2
  · rw [x.1] at hv
    exact absurd hv (by decide)
theorem ls_7 {s y : Int32} {lo hi : Int} (h : lsN s y) (by_ : mm_b lo hi y) (h7 : 7 ≤ lo := by decide) : lsN s 7 := fun j hj => h j (by have : (j : Int) < 7 := hj; omega)
