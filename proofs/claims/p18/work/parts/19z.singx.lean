/-! ===== the choir: the reference's table, told exactly ===== -/
def ubb (S : mm_S) (r t : Nat) : Prop := ∀ q : Nat, (q : Int) ≤ (S.1 1 0).toInt → (sbF S (nI r) (nI t) (nI q)).toInt ≤ (S.1 12 (128 * r + t)).toInt
def bsX (S : mm_S) : Prop := ∀ t, t < 128 → S.1 12 (128 * (S.1 1 2).toInt.toNat + t) = 0
theorem ub_up {S S2 : mm_S} {k r t : Nat} {v : Int32} (e : mm_up S 12 k v = S2) (hr : r ≤ 5) (ht : t < 128) (hP : (S.1 1 0).toInt ≤ 7) (hk : k < 128 * (r + 1) ∨ 128 * (r + 1) + 128 ≤ k) (hk2 : 128 * r + t ≠ k) (h : ubb S r t) : ubb S2 r t := by
  intro q hq
  have hq2 : (q : Int) ≤ (S.1 1 0).toInt := by
    rw [up_neA e (b := 1) (by decide)]
    exact hq
  rw [sb_up e hr ht hP hq2 hk, ← up_neF e hk2]
  exact h q hq2
theorem bs_up {S S2 : mm_S} {k : Nat} {v : Int32} (e : mm_up S 12 k v = S2) (hk : k < 128 * (S.1 1 2).toInt.toNat) (h : bsX S) : bsX S2 := by
  intro t ht
  rw [← up_neA e (b := 1) (i := 2) (by decide), ← up_neF e (by omega)]
  exact h t ht
abbrev tblX (S : mm_S) : Option Value → List mm_E → Prop := qv shM (fun S1 => JM S1 ∧ fr [12] [] true true S S1 ∧ (∀ r t : Nat, (r : Int) < (S1.1 1 2).toInt → t < 2 ^ (S1.1 1 0).toInt.toNat → att S1 r t ∧ ubb S1 r t) ∧ bsX S1)
/-- the most over the persons from p on -/
theorem layx_65 {g : mm_G} (S S1 : mm_S) (hI : JM S1) (part t : Nat) (hpa : part ≤ 5) (ht : t < 128) (K : ∀ m : Int32, 0 ≤ m.toInt → (∃ q : Nat, (q : Int) ≤ (S1.1 1 0).toInt ∧ sbF S1 (nI part) (nI t) (nI q) = m) → (∀ q : Nat, (q : Int) ≤ (S1.1 1 0).toInt → (sbF S1 (nI part) (nI t) (nI q)).toInt ≤ m.toInt) → mw g RX10 cX10_layTable 6 none false (mm_rm 4) (tblX S) 0 0 (mm_enc shM S1) 105 [(0, .ref 0), (1, .int (nI part)), (2, .int (nI t)), (3, .int m)] []) :
    ∀ (N p : Nat) (m : Int32), 9 - p < N → p ≤ 8 → 0 ≤ m.toInt → (∀ q : Nat, q < p → (q : Int) ≤ (S1.1 1 0).toInt → (sbF S1 (nI part) (nI t) (nI q)).toInt ≤ m.toInt) → (m.toInt = 0 ∨ ∃ q : Nat, (q : Int) ≤ (S1.1 1 0).toInt ∧ sbF S1 (nI part) (nI t) (nI q) = m) →
      mw g RX10 cX10_layTable 6 none false (mm_rm 4) (tblX S) 0 0 (mm_enc shM S1) 65 [(0, .ref 0), (1, .int (nI part)), (2, .int (nI t)), (3, .int m), (4, .int (nI p))] [] := by
  intro N
  induction N with
  | zero =>
    intro p m hm
    exact absurd hm (Nat.not_lt_zero _)
  | succ N ih =>
    intro p m hm hp8 hm0 hle hex
    have bP : mm_b 0 7 (S1.1 1 0) := JIM_fld hI rfl tbM_16 (by decide)
    have tp : (nI p).toInt = (p : Int) := nI_toInt (by omega)
    refine mw_iload dX10_layTable_65 4 rfl ?_
    refine mw_aload_n dX10_layTable_67 rfl 0 rfl ?_
    refine tw_getr (j := 0) dX10_layTable_68 shM_0 rfl rfl (by decide) fX10_7 ?_
    refine mw_iconst dX10_layTable_71 ki_0 ?_
    refine tw_iald dX10_layTable_72 shM_1 (bd_in n_0 (by decide)) (fun v1 e1 => ?_)
    rw [cl_0] at e1
    refine mw_icmp_gt (tgt := 105) dX10_layTable_73 (by decide) (fun q => ?_) (fun q => ?_)
    · have hq := Int32.lt_iff_toInt_lt.mp q
      rw [e1, tp] at hq
      refine mw_ls [0, 1, 2, 3] rfl ?_
      refine K m hm0 ?_ (fun q2 hq2 => hle q2 (by omega) hq2)
      rcases hex with h0 | h
      · -- nobody sings: the last one, the next row itself
        obtain ⟨P, eP, hP⟩ := bd_nI (x := S1.1 1 0) bP.1
        refine ⟨P, by rw [hP]; exact Int.le_refl _, ?_⟩
        have bt : mm_b 0 127 (nI t) := ⟨by rw [nI_toInt (by omega)]; omega, by rw [nI_toInt (by omega)]; omega⟩
        obtain ⟨j, hj, -, ej⟩ := tb_ix (r := part) (by omega) bt (by decide)
        have hs : sbF S1 (nI part) (nI t) (nI P) = S1.1 12 (128 * (part + 1) + j) := by
          unfold sbF
          rw [if_pos eP.symm, ej]
        have h1 := hle P (by omega) (by omega)
        have h2 : mm_b 0 2147483647 (S1.1 12 (128 * (part + 1) + j)) := JIM_fld hI rfl tbM_0 (by omega)
        apply Int32.toInt_inj.mp
        rw [hs] at h1 ⊢
        omega
      · exact h
    · have hq := Int32.le_iff_toInt_le.mp (bd_nlt q)
      rw [e1, tp] at hq
      refine mw_aload_n dX10_layTable_76 rfl 0 rfl ?_
      refine mw_iload_n dX10_layTable_77 rfl 1 rfl ?_
      refine mw_iload_n dX10_layTable_78 rfl 2 rfl ?_
      refine mw_iload dX10_layTable_79 4 rfl ?_
      refine tc_Vi (as := [.int (nI part), .int (nI t), .int (nI p)]) (st := []) dX10_layTable_81 rfl shM_0 rfl rfl mX10_255 t_X10_sungBy rfl (Nat.le_of_ble_eq_true rfl) (by decide) (by decide) (c_X10_sungBy (g := g) S1 hI (nI part) ⟨by rw [nI_toInt (by omega)]; omega, by rw [nI_toInt (by omega)]; omega⟩ (nI t) ⟨by rw [nI_toInt (by omega)]; omega, by rw [nI_toInt (by omega)]; omega⟩ (nI p) ⟨by omega, by omega⟩ (by omega)) (fun S2 v2 h2 => ?_)
      obtain ⟨rfl, b2, x2⟩ := h2
      refine mw_istore (ls' := [(5, .int v2), (0, .ref 0), (1, .int (nI part)), (2, .int (nI t)), (3, .int m), (4, .int (nI p))]) dX10_layTable_84 (by decide) rfl ?_
      refine mw_iload dX10_layTable_86 0 rfl ?_
      refine mw_iload_n dX10_layTable_88 rfl 4 rfl ?_
      have step : ∀ m2 : Int32, 0 ≤ m2.toInt → m.toInt ≤ m2.toInt → v2.toInt ≤ m2.toInt → (m2 = m ∨ m2 = v2) → mw g RX10 cX10_layTable 6 none false (mm_rm 4) (tblX S) 0 0 (mm_enc shM S1) 98 [(5, .int v2), (0, .ref 0), (1, .int (nI part)), (2, .int (nI t)), (3, .int m), (4, .int (nI p))] [.int m2] := by
        intro m2 h20 hmm hvm hor
        refine mw_istore_n (ls' := [(3, .int m2), (5, .int v2), (0, .ref 0), (1, .int (nI part)), (2, .int (nI t)), (4, .int (nI p))]) dX10_layTable_98 rfl (by decide) rfl ?_
        refine mw_iinc (ls' := fun v => [(4, .int v), (3, .int m2), (5, .int v2), (0, .ref 0), (1, .int (nI part)), (2, .int (nI t))]) dX10_layTable_99 5 rfl (by decide) (fun _ => rfl) (fun v3 e3 => ?_)
        have t3 : v3 = nI (p + 1) := by rw [e3, show Int32.ofInt 1 = 1 from rfl, nI_1]
        subst t3
        refine mw_goto (tgt := 65) dX10_layTable_102 (by decide) ?_
        refine mw_ls [3, 4, 5, 1, 0] rfl ?_
        refine ih (p + 1) m2 (by omega) (by omega) h20 (fun q hq1 hq2 => ?_) ?_
        · rcases (by omega : q < p ∨ q = p) with h | h
          · exact Int.le_trans (hle q h hq2) hmm
          · subst h
            rw [← x2]
            exact hvm
        · rcases hor with h | h
          · subst h
            exact hex
          · right
            exact ⟨p, hq, by rw [h, x2]⟩
      refine mw_icmp_le (tgt := 97) dX10_layTable_89 (by decide) (fun q2 => ?_) (fun q2 => ?_)
      · refine mw_iload_n dX10_layTable_97 rfl 4 rfl ?_
        exact step m hm0 (Int.le_refl _) (Int32.le_iff_toInt_le.mp q2) (Or.inl rfl)
      · have hq2 := Int32.lt_iff_toInt_lt.mp (bd_nle q2)
        refine mw_iload dX10_layTable_92 0 rfl ?_
        refine mw_goto (tgt := 98) dX10_layTable_94 (by decide) ?_
        exact step v2 (by omega) (by omega) (Int.le_refl _) (Or.inr rfl)
def rowsX (S : mm_S) (n : Nat) : Prop := ∀ r t : Nat, n ≤ r → (r : Int) < (S.1 1 2).toInt → t < 2 ^ (S.1 1 0).toInt.toNat → att S r t ∧ ubb S r t
set_option maxRecDepth 100000 in
set_option maxHeartbeats 4000000 in
theorem layx_48 {g : mm_G} (S : mm_S) (part : Nat) (hpa : part ≤ 5) (hpQ : (part : Int) < (S.1 1 2).toInt) (K : ∀ (S1 : mm_S), JM S1 → fr [12] [] true true S S1 → rowsX S1 part → bsX S1 → mw g RX10 cX10_layTable 6 none false (mm_rm 4) (tblX S) 0 0 (mm_enc shM S1) 124 [(0, .ref 0), (1, .int (nI part))] []) :
    ∀ (N t : Nat) (S1 : mm_S), 129 - t < N → t ≤ 128 → JM S1 → fr [12] [] true true S S1 → rowsX S1 (part + 1) → bsX S1 → (∀ t2 : Nat, t2 < t → t2 < 2 ^ (S1.1 1 0).toInt.toNat → att S1 part t2 ∧ ubb S1 part t2) →
      mw g RX10 cX10_layTable 6 none false (mm_rm 4) (tblX S) 0 0 (mm_enc shM S1) 48 [(0, .ref 0), (1, .int (nI part)), (2, .int (nI t))] [] := by
  intro N
  induction N with
  | zero =>
    intro t S1 hm
    exact absurd hm (Nat.not_lt_zero _)
  | succ N ih =>
    intro t S1 hm ht8 hI hF hA hZ hB
    have bP : mm_b 0 7 (S1.1 1 0) := JIM_fld hI rfl tbM_16 (by decide)
    have bR : mm_b 0 6 (S1.1 1 2) := JIM_fld hI rfl tbM_18 (by decide)
    have hpw : 2 ^ (S1.1 1 0).toInt.toNat ≤ 128 := tb_pw (by omega)
    have tt : (nI t).toInt = (t : Int) := nI_toInt (by omega)
    refine mw_iload_n dX10_layTable_48 rfl 2 rfl ?_
    refine mw_iconst dX10_layTable_49 ki_1 ?_
    refine mw_aload_n dX10_layTable_50 rfl 0 rfl ?_
    refine tw_getr (j := 0) dX10_layTable_51 shM_0 rfl rfl (by decide) fX10_7 ?_
    refine mw_iconst dX10_layTable_54 ki_0 ?_
    refine tw_iald dX10_layTable_55 shM_1 (bd_in n_0 (by decide)) (fun v1 e1 => ?_)
    rw [cl_0] at e1
    refine mw_ishl dX10_layTable_56 (fun v2 e2 => ?_)
    have t2 : v2.toInt = ((2 ^ (S1.1 1 0).toInt.toNat : Nat) : Int) := by rw [e2, e1, tb_sh bP]
    refine mw_icmp_ge (tgt := 124) dX10_layTable_57 (by decide) (fun q => ?_) (fun q => ?_)
    · have hq := Int32.le_iff_toInt_le.mp q
      rw [t2, tt] at hq
      refine mw_ls [0, 1] rfl ?_
      refine K S1 hI hF (fun r t2 hr hr2 ht2 => ?_) hZ
      rcases (by omega : r = part ∨ part + 1 ≤ r) with h | h
      · subst h
        exact hB t2 (by omega) ht2
      · exact hA r t2 h hr2 ht2
    · have hq := Int32.lt_iff_toInt_lt.mp (bd_nle q)
      rw [t2, tt] at hq
      have ht : t < 2 ^ (S1.1 1 0).toInt.toNat := by omega
      refine mw_iconst dX10_layTable_60 ki_0 ?_
      refine mw_istore_n (ls' := [(3, .int 0), (0, .ref 0), (1, .int (nI part)), (2, .int (nI t))]) dX10_layTable_61 rfl (by decide) rfl ?_
      refine mw_iconst dX10_layTable_62 ki_0 ?_
      refine mw_istore (ls' := [(4, .int 0), (3, .int 0), (0, .ref 0), (1, .int (nI part)), (2, .int (nI t))]) dX10_layTable_63 (by decide) rfl ?_
      refine mw_ls [2, 3, 4, 1, 0] rfl ?_
      refine layx_65 S S1 hI part t hpa (by omega) ?_ 10 0 0 (by omega) (by omega) (by decide) (fun q hq => absurd hq (Nat.not_lt_zero _)) (Or.inl rfl)
      intro m hm0 hex hub
      refine mw_aload_n dX10_layTable_105 rfl 0 rfl ?_
      refine tw_getr (j := 24) dX10_layTable_106 shM_0 rfl rfl (by decide) fX10_48 ?_
      refine mw_sipush dX10_layTable_109 ks_128 ?_
      refine mw_iload_n dX10_layTable_112 rfl 1 rfl ?_
      refine mw_imul dX10_layTable_113 (fun v3 e3 => ?_)
      refine mw_iload_n dX10_layTable_114 rfl 2 rfl ?_
      refine mw_iadd dX10_layTable_115 (fun v4 e4 => ?_)
      have t4 : v4 = nI (128 * part + t) := by rw [e4, e3, show (128 : Int32) = nI 128 from rfl, pk_mul, nI_add]
      have b4 : mm_b 0 895 v4 := by rw [t4, mm_b, nI_toInt (by omega)]; omega
      have c4 : v4.toNatClampNeg = 128 * part + t := by rw [t4, nI_clamp (by omega)]
      refine mw_iload_n dX10_layTable_116 rfl 3 rfl ?_
      refine tw_iast dX10_layTable_117 shM_12 (bd_in b4 (by decide)) ?_
      have hI2 : JM (mm_up S1 12 v4.toNatClampNeg m) := JIM_puta hI (show mm_b 0 2147483647 m from ⟨hm0, (bd_rng m).2⟩) b4 (by decide) (by decide +kernel)
      rw [c4] at hI2 ⊢
      generalize hS2 : mm_up S1 12 (128 * part + t) m = S2 at hI2 ⊢
      have hF2 := fr_upA hF hS2 (by decide)
      have g0 : S2.1 1 0 = S1.1 1 0 := (up_neA hS2 (by decide)).symm
      have g2 : S2.1 1 2 = S1.1 1 2 := (up_neA hS2 (by decide)).symm
      refine mw_iinc (ls' := fun v => [(2, .int v), (0, .ref 0), (1, .int (nI part)), (3, .int m)]) dX10_layTable_118 2 rfl (by decide) (fun _ => rfl) (fun v5 e5 => ?_)
      have t5 : v5 = nI (t + 1) := by rw [e5, show Int32.ofInt 1 = 1 from rfl, nI_1]
      subst t5
      refine mw_goto (tgt := 48) dX10_layTable_121 (by decide) ?_
      refine mw_ls [1, 2, 0] rfl ?_
      have q12 : S1.1 1 2 = S.1 1 2 := hF.1 1 2 (by decide) (by decide)
      refine ih (t + 1) S2 (by omega) (by omega) hI2 hF2 (fun r u hr hr2 hu => ?_) (bs_up hS2 (by rw [q12]; omega) hZ) (fun u hu hu2 => ?_)
      · rw [g0] at hu
        rw [g2] at hr2
        exact ⟨att_up hS2 (by omega) (by omega) (by omega) (Or.inl (by omega)) (by omega) (hA r u hr hr2 hu).1, ub_up hS2 (by omega) (by omega) (by omega) (Or.inl (by omega)) (by omega) (hA r u hr hr2 hu).2⟩
      · rw [g0] at hu2
        rcases (by omega : u < t ∨ u = t) with h | h
        · exact ⟨att_up hS2 (by omega) (by omega) (by omega) (Or.inl (by omega)) (by omega) (hB u h hu2).1, ub_up hS2 (by omega) (by omega) (by omega) (Or.inl (by omega)) (by omega) (hB u h hu2).2⟩
        · subst h
          obtain ⟨q, hq1, hq2⟩ := hex
          refine ⟨⟨q, by rw [g0]; exact hq1, ?_⟩, fun q3 hq3 => ?_⟩
          · rw [sb_up hS2 hpa (by omega) (by omega) hq1 (Or.inl (by omega)), hq2]
            exact up_eq hS2
          · rw [g0] at hq3
            rw [sb_up hS2 hpa (by omega) (by omega) hq3 (Or.inl (by omega)), ← up_eq hS2]
            exact hub q3 hq3
set_option maxRecDepth 100000 in
set_option maxHeartbeats 4000000 in
theorem layx_42 {g : mm_G} (S : mm_S) : ∀ (n : Nat) (x : Int32) (S1 : mm_S), x.toInt = (n : Int) - 1 → n ≤ 6 → (n : Int) ≤ (S.1 1 2).toInt → JM S1 → fr [12] [] true true S S1 → rowsX S1 n → bsX S1 →
      mw g RX10 cX10_layTable 6 none false (mm_rm 4) (tblX S) 0 0 (mm_enc shM S1) 42 [(0, .ref 0), (1, .int x)] [] := by
  intro n
  induction n with
  | zero =>
    intro x S1 hx hn hnQ hI hF hA hZ
    refine mw_iload_n dX10_layTable_42 rfl 1 rfl ?_
    refine mw_if_lt (tgt := 130) dX10_layTable_43 (by decide) (fun q => ?_) (fun q => ?_)
    · exact mw_vret rfl dX10_layTable_130 rfl rfl ⟨S1, rfl, rfl, hI, hF, fun r t hr ht => hA r t (Nat.zero_le _) hr ht, hZ⟩
    · exfalso
      have h0 : (0 : Int) ≤ x.toInt := Int32.le_iff_toInt_le.mp (bd_nlt q)
      omega
  | succ n ih =>
    intro x S1 hx hn hnQ hI hF hA hZ
    have hxn : x = nI n := Int32.toInt_inj.mp (by rw [nI_toInt (by omega)]; omega)
    subst hxn
    refine mw_iload_n dX10_layTable_42 rfl 1 rfl ?_
    refine mw_if_lt (tgt := 130) dX10_layTable_43 (by decide) (fun q => ?_) (fun q => ?_)
    · exfalso
      have h0 : (nI n).toInt < 0 := Int32.lt_iff_toInt_lt.mp q
      omega
    · refine mw_iconst dX10_layTable_46 ki_0 ?_
      refine mw_istore_n (ls' := [(2, .int 0), (0, .ref 0), (1, .int (nI n))]) dX10_layTable_47 rfl (by decide) rfl ?_
      refine mw_ls [1, 2, 0] rfl ?_
      refine layx_48 S n (by omega) (by omega) ?_ 130 0 S1 (by omega) (by omega) hI hF hA hZ (fun t2 h => absurd h (Nat.not_lt_zero _))
      intro S2 hI2 hF2 hA2 hZ2
      refine mw_iinc (ls' := fun v => [(1, .int v), (0, .ref 0)]) dX10_layTable_124 1 rfl (by decide) (fun _ => rfl) (fun v3 e3 => ?_)
      have t3 : v3.toInt = (n : Int) - 1 := by
        rw [e3, bd_ti_add (by rw [bd_ofI (by decide), nI_toInt (by omega)]; omega) (by rw [bd_ofI (by decide), nI_toInt (by omega)]; omega), bd_ofI (by decide), nI_toInt (by omega)]
        omega
      refine mw_goto (tgt := 42) dX10_layTable_127 (by decide) ?_
      refine mw_ls [1, 0] rfl ?_
      exact ih v3 S2 t3 (by omega) (by omega) hI2 hF2 hA2 hZ2
set_option maxRecDepth 100000 in
set_option maxHeartbeats 4000000 in
theorem cx_X10_layTable {g : mm_G} (S : mm_S) (hI : JM S) : mc g yX10_layTable cX10_layTable 6 none (mm_rm 4) [.ref 0] (mm_enc shM S) (tblX S) := by
  refine mc_of2 (own := RX10) (ini := false) (ls := [(0, .ref 0)]) (by decide) (Nat.le_of_ble_eq_true rfl) rfl (by decide) rfl ?_
  refine mw_iconst dX10_layTable_0 ki_0 ?_
  refine mw_istore_n (ls' := [(1, .int 0), (0, .ref 0)]) dX10_layTable_1 rfl (by decide) rfl ?_
  have cut : ∀ (N t : Nat) (S1 : mm_S), 129 - t < N → t ≤ 128 → JM S1 → fr [12] [] true true S S1 → (∀ u, u < t → S1.1 12 (128 * (S1.1 1 2).toInt.toNat + u) = 0) → mw g RX10 cX10_layTable 6 none false (mm_rm 4) (tblX S) 0 0 (mm_enc shM S1) 2 [(0, .ref 0), (1, .int (nI t))] [] := by
    intro N
    induction N with
    | zero =>
      intro t S1 hm
      exact absurd hm (Nat.not_lt_zero _)
    | succ N ih =>
      intro t S1 hm ht8 hI hF hZ
      have bR : mm_b 0 6 (S1.1 1 2) := JIM_fld hI rfl tbM_18 (by decide)
      have tt : (nI t).toInt = (t : Int) := nI_toInt (by omega)
      refine mw_iload_n dX10_layTable_2 rfl 1 rfl ?_
      refine mw_sipush dX10_layTable_3 ks_128 ?_
      refine mw_icmp_ge (tgt := 33) dX10_layTable_6 (by decide) (fun q => ?_) (fun q => ?_)
      · refine mw_aload_n dX10_layTable_33 rfl 0 rfl ?_
        refine tw_getr (j := 0) dX10_layTable_34 shM_0 rfl rfl (by decide) fX10_7 ?_
        refine mw_iconst dX10_layTable_37 ki_2 ?_
        refine tw_iald dX10_layTable_38 shM_1 (bd_in n_2 (by decide)) (fun v1 e1 => ?_)
        rw [cl_2] at e1
        refine mw_iconst dX10_layTable_39 ki_1 ?_
        refine mw_isub dX10_layTable_40 (fun v2 e2 => ?_)
        have t2 : v2.toInt = (S1.1 1 2).toInt - 1 := by
          rw [e2, e1, bd_ti_sub (by show -2147483648 ≤ (S1.1 1 2).toInt - 1; omega) (by show (S1.1 1 2).toInt - 1 ≤ 2147483647; omega)]
          rfl
        refine mw_istore_n (ls' := [(1, .int v2), (0, .ref 0)]) dX10_layTable_41 rfl (by decide) rfl ?_
        refine mw_ls [1, 0] rfl ?_
        have q128 : (128 : Int) ≤ (nI t).toInt := Int32.le_iff_toInt_le.mp q
        have q12 : S1.1 1 2 = S.1 1 2 := hF.1 1 2 (by decide) (by decide)
        exact layx_42 S (S1.1 1 2).toInt.toNat v2 S1 (by omega) (by omega) (by rw [q12]; rw [q12] at bR; omega) hI hF (fun r t hr hr2 => by omega) (fun u hu => hZ u (by omega))
      · have hq : (nI t).toInt < 128 := Int32.lt_iff_toInt_lt.mp (bd_nle q)
        have bt : mm_b 0 127 (nI t) := ⟨by omega, by omega⟩
        refine mw_aload_n dX10_layTable_9 rfl 0 rfl ?_
        refine tw_getr (j := 24) dX10_layTable_10 shM_0 rfl rfl (by decide) fX10_48 ?_
        refine mw_sipush dX10_layTable_13 ks_128 ?_
        refine mw_aload_n dX10_layTable_16 rfl 0 rfl ?_
        refine tw_getr (j := 0) dX10_layTable_17 shM_0 rfl rfl (by decide) fX10_7 ?_
        refine mw_iconst dX10_layTable_20 ki_2 ?_
        refine tw_iald dX10_layTable_21 shM_1 (bd_in n_2 (by decide)) (fun v1 e1 => ?_)
        rw [cl_2] at e1
        have b1 : mm_b 0 6 v1 := by rw [e1]; exact bR
        refine mw_imul dX10_layTable_22 (fun v2 e2 => ?_)
        have b2 : mm_b 0 768 v2 := bd_mul e2 n_128 b1 (by decide)
        refine mw_iload_n dX10_layTable_23 rfl 1 rfl ?_
        refine mw_iadd dX10_layTable_24 (fun v3 e3 => ?_)
        have b3 : mm_b 0 895 v3 := bd_add e3 b2 bt (by decide)
        refine mw_iconst dX10_layTable_25 ki_0 ?_
        refine tw_iast dX10_layTable_26 shM_12 (bd_in b3 (by decide)) ?_
        have hI2 : JM (mm_up S1 12 v3.toNatClampNeg 0) := JIM_puta hI n_0 b3 (by decide) (by decide +kernel)
        have c3 : v3.toNatClampNeg = 128 * (S1.1 1 2).toInt.toNat + t := by
          obtain ⟨Qn, eQ, hQ⟩ := bd_nI (x := S1.1 1 2) bR.1
          have bR2 := bR.2
          rw [e3, e2, e1, eQ, show (128 : Int32) = nI 128 from rfl, pk_mul, nI_add, nI_clamp (by omega), nI_toInt (by omega)]
          omega
        rw [c3] at hI2 ⊢
        generalize hS2 : mm_up S1 12 (128 * (S1.1 1 2).toInt.toNat + t) 0 = S2 at hI2 ⊢
        have h12 : S2.1 1 2 = S1.1 1 2 := (up_neA hS2 (by decide)).symm
        have hF2 := fr_upA hF hS2 (by decide)
        refine mw_iinc (ls' := fun v => [(1, .int v), (0, .ref 0)]) dX10_layTable_27 1 rfl (by decide) (fun _ => rfl) (fun v5 e5 => ?_)
        have t5 : v5 = nI (t + 1) := by rw [e5, show Int32.ofInt 1 = 1 from rfl, nI_1]
        subst t5
        refine mw_goto (tgt := 2) dX10_layTable_30 (by decide) ?_
        refine mw_ls [1, 0] rfl ?_
        refine ih (t + 1) S2 (by omega) (by omega) hI2 hF2 (fun u hu => ?_)
        rw [h12]
        rcases (by omega : u < t ∨ u = t) with h | h
        · rw [← up_neF hS2 (by omega)]
          exact hZ u h
        · rw [h]
          exact (up_eq hS2).symm
  refine mw_ls [1, 0] rfl ?_
  exact cut 130 0 S (by omega) (by omega) hI fr_rf (fun u hu => absurd hu (Nat.not_lt_zero _))
/-! what stands in it -/
section TBX
variable {S S1 : mm_S} {r t p Pn : Nat}
theorem ixT (hr : r ≤ 6) (ht : t < 128) : (128 * (nI r + 1) + nI t).toNatClampNeg = 128 * (r + 1) + t := by
  rw [nI_1, show (128 : Int32) = nI 128 from rfl, pk_mul, nI_add, nI_clamp (by omega)]
theorem sbP (eP : S.1 1 0 = nI Pn) (hr : r ≤ 6) (ht : t < 128) : sbF S (nI r) (nI t) (nI Pn) = S.1 12 (128 * (r + 1) + t) := by
  unfold sbF
  rw [if_pos eP.symm, ixT hr ht]
theorem sbp (eP : S.1 1 0 = nI Pn) (P7 : Pn ≤ 7) (hp : p < Pn) (hr : r ≤ 6) (ht : t < 128) : sbF S (nI r) (nI t) (nI p) = if t.testBit p = true ∨ ¬ mayF S (nI p) (nI r) then -1000000 else 1 + S.1 12 (128 * (r + 1) + (t ||| 2 ^ p)) := by
  have ne : ¬ nI p = S.1 1 0 := fun z => by
    rw [eP] at z
    have := (nz_inj (by omega) (by omega)).mp z
    omega
  have no := nI_orT ⟨t, ht⟩ ⟨p, by omega⟩
  dsimp only at no
  unfold sbF
  rw [if_neg ne, no, ixT hr (Nat.or_lt_two_pow (n := 7) ht (Nat.pow_lt_pow_right (by decide) (by omega)))]
  by_cases c : t.testBit p = true ∨ ¬ mayF S (nI p) (nI r)
  · rw [if_pos c, if_pos (c.imp_left (fun z => (bt_N ht (by omega)).mpr z))]
  · rw [if_neg c, if_neg (fun z => c (z.imp_left (fun y => (bt_N ht (by omega)).mp y)))]
theorem fr_z {k p : Nat} (hk : (S.1 1 2).toInt ≤ k) : frM S k p = false := decide_eq_false (fun z => by have := z.1; omega)
theorem fr_i {k p : Nat} (h : frM S k p = true) : (p : Int) < (S.1 1 0).toInt ∧ mayF S (nI p) (nI k) := (of_decide_eq_true h).2
theorem tb_eq (hI : JM S) (eP : S.1 1 0 = nI Pn) (P7 : Pn ≤ 7) {Qn : Nat} (eQ : (S.1 1 2).toInt = Qn) (Q6 : Qn ≤ 6) (hT : ∀ r t : Nat, (r : Int) < (S.1 1 2).toInt → t < 2 ^ (S.1 1 0).toInt.toNat → att S r t ∧ ubb S r t) (hZ : bsX S) : ∀ (d r t : Nat), r + d = Qn → t < 2 ^ Pn → S.1 12 (128 * r + t) = nI (Mk (frM S) r t)
  | 0, r, t, hr, ht => by
    have p2 : 2 ^ Pn ≤ 128 := tb_pw P7
    have e := hZ t (by omega)
    rw [show (S.1 1 2).toInt.toNat = r by omega] at e
    rw [e, Mk, mx_z (Q := Qn) (fun k p hk _ => fr_z (by omega)) _ r t (by omega)]
    rfl
  | d + 1, r, t, hr, ht => by
    have p2 : 2 ^ Pn ≤ 128 := tb_pw P7
    have ih := fun t ht => tb_eq hI eP P7 eQ Q6 hT hZ d (r + 1) t (by omega) ht
    have tP : (S.1 1 0).toInt = Pn := by rw [eP, nI_toInt (by omega)]
    obtain ⟨⟨p, hp, hs⟩, ub⟩ := hT r t (by omega) (by rw [show (S.1 1 0).toInt.toNat = Pn by omega]; exact ht)
    have bV : mm_b 0 2147483647 (S.1 12 (128 * r + t)) := JIM_fld hI rfl tbM_0 (by omega)
    have V0 := bV.1
    have olt : ∀ q, q < Pn → t ||| 2 ^ q < 2 ^ Pn := fun q hq => Nat.or_lt_two_pow ht (Nat.pow_lt_pow_right (by decide) hq)
    have m5 := fun u => Mk_le5 (fr := frM S) (k := r) (t := u) (by omega)
    have m6 := Mk_le (fr := frM S) (k := r) (t := t)
    have one : ∀ u, (1 + nI (Mk (frM S) (r + 1) u)).toInt = 1 + (Mk (frM S) (r + 1) u : Int) := fun u => by
      have := m5 u
      rw [show (1 : Int32) = nI 1 from rfl, nI_add, nI_toInt (by omega)]
      omega
    have le : (S.1 12 (128 * r + t)).toInt ≤ Mk (frM S) r t := by
      rw [Mk_s (by omega)]
      rcases (by omega : p = Pn ∨ p < Pn) with e | e
      · subst e
        rw [sbP eP (by omega) (by omega), ih t ht] at hs
        have g := best_ge (f := frM S r) (g := Mk (frM S) (r + 1)) (t := t) 7 0 (Mk (frM S) (r + 1) t)
        have := m5 t
        rw [← hs, nI_toInt (by omega)]
        omega
      · rw [sbp eP P7 e (by omega) (by omega)] at hs
        by_cases c : t.testBit p = true ∨ ¬ mayF S (nI p) (nI r)
        · rw [if_pos c] at hs
          rw [← hs] at V0
          exact absurd V0 (by decide)
        · rw [if_neg c, ih _ (olt p e)] at hs
          have c1 : t.testBit p = false := Bool.eq_false_iff.mpr (fun z => c (Or.inl z))
          have c2 : mayF S (nI p) (nI r) := Classical.not_not.mp (fun z => c (Or.inr z))
          have f : frM S r p = true := decide_eq_true ⟨by omega, by omega, c2⟩
          have g := best_ub (f := frM S r) (g := Mk (frM S) (r + 1)) (t := t) 7 0 (Mk (frM S) (r + 1) t) p (by omega) (by omega) f c1
          rw [← hs, one]
          omega
    have ge : (Mk (frM S) r t : Int) ≤ (S.1 12 (128 * r + t)).toInt := by
      have es := Mk_s (fr := frM S) (t := t) (show r < 6 by omega)
      rcases best_att (f := frM S r) (g := Mk (frM S) (r + 1)) (t := t) 7 0 (Mk (frM S) (r + 1) t) with z | ⟨q, q1, q2, q3, q4, q5⟩
      · have u := ub Pn (by omega)
        rw [sbP eP (by omega) (by omega), ih t ht, nI_toInt (by have := m5 t; omega)] at u
        rw [es, z]
        exact u
      · obtain ⟨f1, f2⟩ := fr_i q3
        have u := ub q (by omega)
        rw [sbp eP P7 (by omega) (by omega) (by omega), if_neg (fun c => c.elim (fun y => by rw [q4] at y; exact absurd y (by decide)) (fun y => y f2)), ih _ (olt q (by omega)), one] at u
        rw [es, q5]
        omega
    exact Int32.toInt_inj.mp (by rw [nI_toInt (by omega)]; omega)
/-! who is taken -/
def cnd (S : mm_S) (r t q : Nat) : Prop := (frM S r q && !t.testBit q && decide (1 + Mk (frM S) (r + 1) (t ||| 2 ^ q) = Mk (frM S) r t)) = true
theorem ls_c : ∀ n p, p + n = 7 → (lsF (frM S) r t n p = 7 ∧ ∀ q, p ≤ q → q < 7 → ¬ cnd S r t q) ∨ (lsF (frM S) r t n p < 7 ∧ p ≤ lsF (frM S) r t n p ∧ cnd S r t (lsF (frM S) r t n p) ∧ ∀ q, p ≤ q → q < lsF (frM S) r t n p → ¬ cnd S r t q)
  | 0, p, hp => Or.inl ⟨rfl, fun q h1 h2 => by omega⟩
  | n + 1, p, hp => by
    rw [lsF]
    by_cases c : (frM S r p && !t.testBit p && decide (1 + Mk (frM S) (r + 1) (t ||| 2 ^ p) = Mk (frM S) r t)) = true
    · rw [if_pos c]
      exact Or.inr ⟨by omega, Nat.le_refl _, c, fun q h1 h2 => by omega⟩
    · rw [if_neg c]
      rcases ls_c n (p + 1) (by omega) with ⟨a, b⟩ | ⟨a, b, d, e⟩
      · refine Or.inl ⟨a, fun q h1 h2 => ?_⟩
        rcases Nat.lt_or_ge p q with z | z
        · exact b q z h2
        · rw [show q = p by omega]
          exact c
      · refine Or.inr ⟨a, by omega, d, fun q h1 h2 => ?_⟩
        rcases Nat.lt_or_ge p q with z | z
        · exact e q z h2
        · rw [show q = p by omega]
          exact c
theorem pkx {q : Nat} (eP : S.1 1 0 = nI Pn) (P7 : Pn ≤ 7) (hr : (r : Int) < (S.1 1 2).toInt) (r5 : r ≤ 5) (ht : t < 2 ^ Pn) (hv : ∀ u, u < 2 ^ Pn → S.1 12 (128 * (r + 1) + u) = nI (Mk (frM S) (r + 1) u)) (hV : S.1 12 (128 * r + t) = nI (Mk (frM S) r t)) (hq : q ≤ Pn) (h1 : sbF S (nI r) (nI t) (nI q) = S.1 12 (128 * r + t)) (h2 : ∀ q', q' < q → ¬ sbF S (nI r) (nI t) (nI q') = S.1 12 (128 * r + t)) : q = if lzN (frM S) r t = 7 then Pn else lzN (frM S) r t := by
  have p2 : 2 ^ Pn ≤ 128 := tb_pw P7
  have tP : (S.1 1 0).toInt = Pn := by rw [eP, nI_toInt (by omega)]
  have m6 := Mk_le (fr := frM S) (k := r) (t := t)
  have olt : ∀ q, q < Pn → t ||| 2 ^ q < 2 ^ Pn := fun q hq => Nat.or_lt_two_pow ht (Nat.pow_lt_pow_right (by decide) hq)
  have eq : ∀ q', q' < Pn → (sbF S (nI r) (nI t) (nI q') = S.1 12 (128 * r + t) ↔ cnd S r t q') := fun q' hq' => by
    rw [hV, sbp eP P7 hq' (by omega) (by omega), cnd]
    by_cases c : t.testBit q' = true ∨ ¬ mayF S (nI q') (nI r)
    · rw [if_pos c]
      constructor
      · intro z
        have z2 : ((-1000000 : Int32)).toInt = (nI (Mk (frM S) r t)).toInt := by rw [z]
        rw [nI_toInt (by omega)] at z2
        have : (-1000000 : Int32).toInt = -1000000 := rfl
        omega
      · intro z
        exfalso
        rcases c with c | c
        · rw [c, Bool.not_true, Bool.and_false, Bool.false_and] at z
          exact absurd z (by decide)
        · rw [show frM S r q' = false from decide_eq_false (fun y => c y.2.2), Bool.false_and, Bool.false_and] at z
          exact absurd z (by decide)
    · have c1 : t.testBit q' = false := Bool.eq_false_iff.mpr (fun z => c (Or.inl z))
      have c2 : mayF S (nI q') (nI r) := Classical.not_not.mp (fun z => c (Or.inr z))
      have f : frM S r q' = true := decide_eq_true ⟨hr, by omega, c2⟩
      have m5 := Mk_le5 (fr := frM S) (k := r) (t := t ||| 2 ^ q') (by omega)
      rw [if_neg c, hv _ (olt q' hq'), show (1 : Int32) = nI 1 from rfl, nI_add, nz_inj (by omega) (by omega), f, c1]
      constructor
      · intro z
        rw [decide_eq_true z]
        rfl
      · intro z
        exact of_decide_eq_true z
  rcases ls_c (S := S) (r := r) (t := t) 7 0 rfl with ⟨a, b⟩ | ⟨a, -, d, e⟩
  · have a2 : lzN (frM S) r t = 7 := a
    rw [if_pos a2]
    rcases (by omega : q = Pn ∨ q < Pn) with z | z
    · exact z
    · exact absurd ((eq q z).mp h1) (b q (by omega) (by omega))
  · have a2 : lzN (frM S) r t < 7 := a
    have d2 : cnd S r t (lzN (frM S) r t) := d
    have e2 : ∀ q, 0 ≤ q → q < lzN (frM S) r t → ¬ cnd S r t q := e
    have f : frM S r (lzN (frM S) r t) = true := by
      unfold cnd at d2
      cases y : frM S r (lzN (frM S) r t) with
      | true => rfl
      | false =>
        rw [y, Bool.false_and, Bool.false_and] at d2
        exact absurd d2 (by decide)
    have lP := (fr_i f).1
    rw [if_neg (by omega)]
    have s0 := (eq (lzN (frM S) r t) (by omega)).mpr d2
    rcases Nat.lt_trichotomy q (lzN (frM S) r t) with z | z | z
    · exact absurd ((eq q (by omega)).mp h1) (e2 q (by omega) z)
    · exact z
    · exact absurd s0 (h2 _ z)
theorem ls_P (eP : S.1 1 0 = nI Pn) (P7 : Pn ≤ 7) : lzN (frM S) r t = 7 ∨ lzN (frM S) r t < Pn := by
  have tP : (S.1 1 0).toInt = Pn := by rw [eP, nI_toInt (by omega)]
  rcases ls_c (S := S) (r := r) (t := t) 7 0 rfl with ⟨a, b⟩ | ⟨a, -, d, e⟩
  · exact Or.inl a
  · right
    have d2 : cnd S r t (lzN (frM S) r t) := d
    have f : frM S r (lzN (frM S) r t) = true := by
      unfold cnd at d2
      cases y : frM S r (lzN (frM S) r t) with
      | true => rfl
      | false =>
        rw [y, Bool.false_and, Bool.false_and] at d2
        exact absurd d2 (by decide)
    have := (fr_i f).1
    omega
end TBX
abbrev singX (S : mm_S) (x1 : Int32) : Option Value → List mm_E → Prop := qi shM (fun S1 v => JM S1 ∧ fr [12] [] true true S S1 ∧ mm_b (-2147483648) 2147483647 v ∧ True ∧ singF S x1 = v)
set_option maxRecDepth 100000 in
set_option maxHeartbeats 4000000 in
theorem singx_57 {g : mm_G} (S S1 : mm_S) (hI : JM S1) (x1 : Int32) (r t : Nat) (hr : r ≤ 5) (ht : t < 128) (K : ∀ q : Nat, (q : Int) ≤ (S1.1 1 0).toInt → sbF S1 (nI r) (nI t) (nI q) = S1.1 12 (128 * r + t) → (∀ q', q' < q → ¬ sbF S1 (nI r) (nI t) (nI q') = S1.1 12 (128 * r + t)) → mw g RX10 cX10_sing 5 (some .int) false (mm_rm 5) (singX S x1) 0 0 (mm_enc shM S1) 87 [(0, .ref 0), (1, .int x1), (2, .int (nI t)), (3, .int (nI q)), (4, .int (nI r))] []) :
    ∀ (N q : Nat), 8 - q < N → (∃ q0 : Nat, q ≤ q0 ∧ (q0 : Int) ≤ (S1.1 1 0).toInt ∧ sbF S1 (nI r) (nI t) (nI q0) = S1.1 12 (128 * r + t)) → (∀ q', q' < q → ¬ sbF S1 (nI r) (nI t) (nI q') = S1.1 12 (128 * r + t)) → mw g RX10 cX10_sing 5 (some .int) false (mm_rm 5) (singX S x1) 0 0 (mm_enc shM S1) 57 [(0, .ref 0), (1, .int x1), (2, .int (nI t)), (3, .int (nI q)), (4, .int (nI r))] [] := by
  intro N
  induction N with
  | zero =>
    intro q hm
    exact absurd hm (Nat.not_lt_zero _)
  | succ N ih =>
    intro q hm hex hmin
    obtain ⟨q0, hq0, hqP, hs⟩ := hex
    have bP : mm_b 0 7 (S1.1 1 0) := JIM_fld hI rfl tbM_16 (by decide)
    have tr : (nI r).toInt = (r : Int) := nI_toInt (by omega)
    have tt : (nI t).toInt = (t : Int) := nI_toInt (by omega)
    have tq : (nI q).toInt = (q : Int) := nI_toInt (by omega)
    refine mw_aload_n dX10_sing_57 rfl 0 rfl ?_
    refine mw_iload dX10_sing_58 4 rfl ?_
    refine mw_iload_n dX10_sing_60 rfl 2 rfl ?_
    refine mw_iload_n dX10_sing_61 rfl 3 rfl ?_
    refine tc_Vi (as := [.int (nI r), .int (nI t), .int (nI q)]) (st := []) dX10_sing_62 rfl shM_0 rfl rfl mX10_255 t_X10_sungBy rfl (Nat.le_of_ble_eq_true rfl) (by decide) (by decide) (c_X10_sungBy (g := g) S1 hI (nI r) ⟨by omega, by omega⟩ (nI t) ⟨by omega, by omega⟩ (nI q) ⟨by omega, by omega⟩ (by omega)) (fun S2 v2 h2 => ?_)
    obtain ⟨rfl, b2, x2⟩ := h2
    refine mw_aload_n dX10_sing_65 rfl 0 rfl ?_
    refine tw_getr (j := 24) dX10_sing_66 shM_0 rfl rfl (by decide) fX10_48 ?_
    refine mw_sipush dX10_sing_69 ks_128 ?_
    refine mw_iload dX10_sing_72 4 rfl ?_
    refine mw_imul dX10_sing_74 (fun v3 e3 => ?_)
    refine mw_iload_n dX10_sing_75 rfl 2 rfl ?_
    refine mw_iadd dX10_sing_76 (fun v4 e4 => ?_)
    have t4 : v4 = nI (128 * r + t) := by rw [e4, e3, show (128 : Int32) = nI 128 from rfl, pk_mul, nI_add]
    have b4 : mm_b 0 895 v4 := by rw [t4, mm_b, nI_toInt (by omega)]; omega
    have c4 : v4.toNatClampNeg = 128 * r + t := by rw [t4, nI_clamp (by omega)]
    refine tw_iald dX10_sing_77 shM_12 (bd_in b4 (by decide)) (fun v5 e5 => ?_)
    rw [c4] at e5
    refine mw_icmp_eq (tgt := 87) dX10_sing_78 (by decide) (fun c => ?_) (fun c => ?_)
    · exact K q (by omega) (by rw [← x2, c, e5]) hmin
    · refine mw_iinc (ls' := fun v => [(3, .int v), (0, .ref 0), (1, .int x1), (2, .int (nI t)), (4, .int (nI r))]) dX10_sing_81 3 rfl (by decide) (fun _ => rfl) (fun v6 e6 => ?_)
      have t6 : v6 = nI (q + 1) := by rw [e6, show Int32.ofInt 1 = 1 from rfl, nI_1]
      subst t6
      refine mw_goto (tgt := 57) dX10_sing_84 (by decide) ?_
      refine mw_ls [1, 2, 3, 0, 4] rfl ?_
      have hmin2 : ∀ q', q' < q + 1 → ¬ sbF S1 (nI r) (nI t) (nI q') = S1.1 12 (128 * r + t) := fun q' hq' => by
        rcases (by omega : q' < q ∨ q' = q) with h | h
        · exact hmin q' h
        · rw [h]
          exact fun z => c (by rw [x2, z, e5])
      refine ih (q + 1) (by omega) ⟨q0, ?_, hqP, hs⟩ hmin2
      rcases (by omega : q0 = q ∨ q + 1 ≤ q0) with h | h
      · subst h
        exact absurd (by rw [x2, hs, e5]) c
      · exact h
set_option maxRecDepth 100000 in
set_option maxHeartbeats 4000000 in
theorem singx_49 {g : mm_G} (S S1 : mm_S) (hI : JM S1) (hF : fr [12] [] true true S S1) (x1 : Int32) (hk : x1.toInt < (S1.1 1 2).toInt) (hA : ∀ r t : Nat, (r : Int) < (S1.1 1 2).toInt → t < 2 ^ (S1.1 1 0).toInt.toNat → att S1 r t) (x0 : 0 ≤ x1.toInt) (xn : ¬ x1 = -1) {Pn : Nat} (eP : S1.1 1 0 = nI Pn) (P7 : Pn ≤ 7) (hTB : ∀ r t : Nat, (r : Int) ≤ (S1.1 1 2).toInt → t < 2 ^ Pn → S1.1 12 (128 * r + t) = nI (Mk (frM S1) r t)) (hfr : frM S1 = frM S) :
    ∀ (N r t q : Nat), 7 - r < N → r ≤ 6 → t < 2 ^ (S1.1 1 0).toInt.toNat → t = tkN (frM S1) r → (r : Int) ≤ x1.toInt + 1 → (r = 0 ∨ (q ≤ Pn ∧ (q = Pn → sgN (frM S1) (r - 1) = -1) ∧ (q ≠ Pn → sgN (frM S1) (r - 1) = nI q))) → mw g RX10 cX10_sing 5 (some .int) false (mm_rm 5) (singX S x1) 0 0 (mm_enc shM S1) 49 [(0, .ref 0), (1, .int x1), (2, .int (nI t)), (3, .int (nI q)), (4, .int (nI r))] [] := by
  intro N
  induction N with
  | zero =>
    intro r t q hm
    exact absurd hm (Nat.not_lt_zero _)
  | succ N ih =>
    intro r t q hm hr6 ht etk hrx hqs
    have tP : (S1.1 1 0).toInt = Pn := by rw [eP, nI_toInt (by omega)]
    have Pt : (S1.1 1 0).toInt.toNat = Pn := by omega
    have q12 : S1.1 1 2 = S.1 1 2 := hF.1 1 2 (by decide) (by decide)
    have bP : mm_b 0 7 (S1.1 1 0) := JIM_fld hI rfl tbM_16 (by decide)
    have bR : mm_b 0 6 (S1.1 1 2) := JIM_fld hI rfl tbM_18 (by decide)
    have hpw : 2 ^ (S1.1 1 0).toInt.toNat ≤ 128 := tb_pw (by omega)
    have tr : (nI r).toInt = (r : Int) := nI_toInt (by omega)
    refine mw_iload dX10_sing_49 4 rfl ?_
    refine mw_iload_n dX10_sing_51 rfl 1 rfl ?_
    refine mw_icmp_gt (tgt := 113) dX10_sing_52 (by decide) (fun c => ?_) (fun c => ?_)
    · have cc := Int32.lt_iff_toInt_lt.mp c
      rw [tr] at cc
      obtain ⟨hq1, hq2, hq3⟩ := hqs.resolve_left (by omega)
      have cx := pz_cl x0
      have ans : singF S x1 = sgN (frM S1) (r - 1) := by
        rw [singF, if_neg xn, if_pos (show 0 ≤ x1.toInt ∧ x1.toInt < (S.1 1 2).toInt from ⟨x0, by rw [← q12]; exact hk⟩), hfr, show x1.toNatClampNeg = r - 1 by omega]
      refine mw_iload_n dX10_sing_113 rfl 3 rfl ?_
      refine mw_aload_n dX10_sing_114 rfl 0 rfl ?_
      refine tw_getr (j := 0) dX10_sing_115 shM_0 rfl rfl (by decide) fX10_7 ?_
      refine mw_iconst dX10_sing_118 ki_0 ?_
      refine tw_iald dX10_sing_119 shM_1 (bd_in n_0 (by decide)) (fun v1 e1 => ?_)
      refine mw_icmp_ne (tgt := 127) dX10_sing_120 (by decide) (fun c2 => ?_) (fun c2 => ?_)
      · refine mw_iload_n dX10_sing_127 rfl 3 rfl ?_
        exact mw_iret rfl dX10_sing_128 rfl rfl ⟨S1, _, rfl, rfl, hI, hF, bd_all _, trivial, by rw [ans]; exact hq3 (fun z => c2 (by rw [z, e1, cl_0, eP]))⟩
      · refine mw_iconst dX10_sing_123 ki_m1 ?_
        refine mw_goto (tgt := 128) dX10_sing_124 (by decide) ?_
        have qe : q = Pn := by
          have c3 := c2
          rw [e1, cl_0, eP] at c3
          exact (nz_inj (by omega) (by omega)).mp c3
        exact mw_iret rfl dX10_sing_128 rfl rfl ⟨S1, _, rfl, rfl, hI, hF, bd_all _, trivial, by rw [ans]; exact hq2 qe⟩
    · have hc := Int32.le_iff_toInt_le.mp (bd_nlt c)
      rw [tr] at hc
      refine mw_iconst dX10_sing_55 ki_0 ?_
      refine mw_istore_n (ls' := [(3, .int 0), (0, .ref 0), (1, .int x1), (2, .int (nI t)), (4, .int (nI r))]) dX10_sing_56 rfl (by decide) rfl ?_
      refine mw_ls [1, 2, 3, 0, 4] rfl ?_
      obtain ⟨p0, hp0, hs0⟩ := hA r t (by omega) ht
      refine singx_57 S S1 hI x1 r t (by omega) (by omega) ?_ 9 0 (by omega) ⟨p0, Nat.zero_le _, hp0, hs0⟩ (fun q' hq' => absurd hq' (Nat.not_lt_zero _))
      intro q2 hq2 hs1 hs2
      have pk := pkx (S := S1) (q := q2) eP P7 (show (r : Int) < (S1.1 1 2).toInt by omega) (by omega) (by rw [← Pt]; exact ht) (fun u hu => hTB (r + 1) u (by omega) hu) (hTB r t (by omega) (by rw [← Pt]; exact ht)) (by omega) hs1 hs2
      have lsP := ls_P (S := S1) (r := r) (t := t) eP P7
      rw [etk] at pk lsP
      have tq : (nI q2).toInt = (q2 : Int) := nI_toInt (by omega)
      have fin : ∀ t2 : Nat, t2 < 2 ^ (S1.1 1 0).toInt.toNat → t2 = tkN (frM S1) (r + 1) → mw g RX10 cX10_sing 5 (some .int) false (mm_rm 5) (singX S x1) 0 0 (mm_enc shM S1) 106 [(0, .ref 0), (1, .int x1), (2, .int (nI t)), (3, .int (nI q2)), (4, .int (nI r))] [.int (nI t2)] := by
        intro t2 ht2 et2
        refine mw_istore_n (ls' := [(2, .int (nI t2)), (0, .ref 0), (1, .int x1), (3, .int (nI q2)), (4, .int (nI r))]) dX10_sing_106 rfl (by decide) rfl ?_
        refine mw_iinc (ls' := fun v => [(4, .int v), (2, .int (nI t2)), (0, .ref 0), (1, .int x1), (3, .int (nI q2))]) dX10_sing_107 4 rfl (by decide) (fun _ => rfl) (fun v6 e6 => ?_)
        have t6 : v6 = nI (r + 1) := by rw [e6, show Int32.ofInt 1 = 1 from rfl, nI_1]
        subst t6
        refine mw_goto (tgt := 49) dX10_sing_110 (by decide) ?_
        refine mw_ls [2, 3, 1, 4, 0] rfl ?_
        refine ih (r + 1) t2 q2 (by omega) (by omega) ht2 et2 (by omega) (Or.inr ⟨by omega, fun z => ?_, fun z => ?_⟩)
        · rw [show r + 1 - 1 = r by omega, sgN]
          by_cases y : lzN (frM S1) r (tkN (frM S1) r) = 7
          · rw [if_pos y]
          · rw [if_neg y] at pk
            have := lsP.resolve_left y
            omega
        · rw [show r + 1 - 1 = r by omega, sgN]
          by_cases y : lzN (frM S1) r (tkN (frM S1) r) = 7
          · rw [if_pos y] at pk
            exact absurd pk z
          · rw [if_neg y] at pk
            rw [if_neg y, pk]
      refine mw_iload_n dX10_sing_87 rfl 2 rfl ?_
      refine mw_iload_n dX10_sing_88 rfl 3 rfl ?_
      refine mw_aload_n dX10_sing_89 rfl 0 rfl ?_
      refine tw_getr (j := 0) dX10_sing_90 shM_0 rfl rfl (by decide) fX10_7 ?_
      refine mw_iconst dX10_sing_93 ki_0 ?_
      refine tw_iald dX10_sing_94 shM_1 (bd_in n_0 (by decide)) (fun v1 e1 => ?_)
      rw [cl_0] at e1
      refine mw_icmp_ne (tgt := 102) dX10_sing_95 (by decide) (fun c2 => ?_) (fun c2 => ?_)
      · have hne : (q2 : Int) ≠ (S1.1 1 0).toInt := fun z => c2 (Int32.toInt_inj.mp (by rw [tq, e1]; exact z))
        refine mw_iconst dX10_sing_102 ki_1 ?_
        refine mw_iload_n dX10_sing_103 rfl 3 rfl ?_
        refine mw_ishl dX10_sing_104 (fun v2 e2 => ?_)
        refine mw_ior dX10_sing_105 (fun v3 e3 => ?_)
        have no := nI_orT ⟨t, by omega⟩ ⟨q2, by omega⟩
        dsimp only at no
        have e4 : v3 = nI (t ||| 2 ^ q2) := by rw [e3, e2, no]
        subst e4
        refine fin (t ||| 2 ^ q2) (Nat.or_lt_two_pow ht (Nat.pow_lt_pow_right (by decide) (by omega))) ?_
        by_cases y : lzN (frM S1) r (tkN (frM S1) r) = 7
        · rw [if_pos y] at pk
          omega
        · rw [if_neg y] at pk
          rw [tkN, if_neg y, ← pk, ← etk]
      · refine mw_iconst dX10_sing_98 ki_0 ?_
        refine mw_goto (tgt := 105) dX10_sing_99 (by decide) ?_
        refine mw_ior dX10_sing_105 (fun v3 e3 => ?_)
        have e4 : v3 = nI t := by
          rw [e3]
          apply Int32.toBitVec_inj.mp
          rw [Int32.toBitVec_or]
          exact BitVec.or_zero
        subst e4
        refine fin t ht ?_
        have qe : q2 = Pn := by
          have c3 := c2
          rw [e1, eP] at c3
          exact (nz_inj (by omega) (by omega)).mp c3
        by_cases y : lzN (frM S1) r (tkN (frM S1) r) = 7
        · rw [tkN, if_pos y]
          exact etk
        · rw [if_neg y] at pk
          have := lsP.resolve_left y
          omega
set_option maxRecDepth 100000 in
set_option maxHeartbeats 4000000 in
theorem singx_26 {g : mm_G} (S : mm_S) (hI : JM S) (x1 : Int32) (hk : x1.toInt < (S.1 1 2).toInt) (hk0 : -1 ≤ x1.toInt) : mw g RX10 cX10_sing 5 (some .int) false (mm_rm 5) (singX S x1) 0 0 (mm_enc shM S) 26 [(0, .ref 0), (1, .int x1)] [] := by
  refine mw_aload_n dX10_sing_26 rfl 0 rfl ?_
  refine tc_Vv (as := []) (st := []) dX10_sing_27 rfl shM_0 rfl rfl mX10_259 t_X10_layTable rfl (Nat.le_of_ble_eq_true rfl) (by decide) (by decide) (cx_X10_layTable (g := g) S hI) (fun S1 h1 => ?_)
  obtain ⟨hI1, hF1, hA, hZ⟩ := h1
  have hfr : frM S1 = frM S := by
    have r1 : S1.1 1 = S.1 1 := funext fun j => hF1.1 1 j (by decide) (by decide)
    have r3 : S1.1 3 = S.1 3 := funext fun j => hF1.1 3 j (by decide) (by decide)
    funext k p
    unfold frM mayF aliveF
    rw [r1, r3]
  have bP1 : mm_b 0 7 (S1.1 1 0) := JIM_fld hI1 rfl tbM_16 (by decide)
  have bR1 : mm_b 0 6 (S1.1 1 2) := JIM_fld hI1 rfl tbM_18 (by decide)
  obtain ⟨Pn, eP, hPn⟩ := bd_nI (x := S1.1 1 0) bP1.1
  have P7 : Pn ≤ 7 := by have := bP1.2; omega
  obtain ⟨Qn, hQn⟩ : ∃ n : Nat, (S1.1 1 2).toInt = n := ⟨(S1.1 1 2).toInt.toNat, by have := bR1.1; omega⟩
  have Q6 : Qn ≤ 6 := by have := bR1.2; omega
  have hTB : ∀ r t : Nat, (r : Int) ≤ (S1.1 1 2).toInt → t < 2 ^ Pn → S1.1 12 (128 * r + t) = nI (Mk (frM S1) r t) := fun r t hr ht => tb_eq hI1 eP P7 hQn Q6 hA hZ (Qn - r) r t (by omega) ht
  have g2 : S1.1 1 2 = S.1 1 2 := hF1.1 1 2 (by decide) (by decide)
  refine mw_iload_n dX10_sing_30 rfl 1 rfl ?_
  refine mw_iconst dX10_sing_31 ki_m1 ?_
  refine mw_icmp_ne (tgt := 42) dX10_sing_32 (by decide) (fun c => ?_) (fun c => ?_)
  · refine mw_iconst dX10_sing_42 ki_0 ?_
    refine mw_istore_n (ls' := [(2, .int 0), (0, .ref 0), (1, .int x1)]) dX10_sing_43 rfl (by decide) rfl ?_
    refine mw_iconst dX10_sing_44 ki_0 ?_
    refine mw_istore_n (ls' := [(3, .int 0), (2, .int 0), (0, .ref 0), (1, .int x1)]) dX10_sing_45 rfl (by decide) rfl ?_
    refine mw_iconst dX10_sing_46 ki_0 ?_
    refine mw_istore (ls' := [(4, .int 0), (3, .int 0), (2, .int 0), (0, .ref 0), (1, .int x1)]) dX10_sing_47 (by decide) rfl ?_
    refine mw_ls [3, 4, 2, 1, 0] rfl ?_
    have xn : ¬ x1 = -1 := c
    have x0 : 0 ≤ x1.toInt := by
      have : x1.toInt ≠ -1 := fun z => xn (Int32.toInt_inj.mp z)
      omega
    exact singx_49 S S1 hI1 hF1 x1 (by rw [g2]; exact hk) (fun r t h1 h2 => (hA r t h1 h2).1) x0 xn eP P7 hTB hfr 8 0 0 0 (by omega) (by omega) (Nat.pow_pos (by decide)) rfl (by omega) (Or.inl rfl)
  · refine mw_aload_n dX10_sing_35 rfl 0 rfl ?_
    refine tw_getr (j := 24) dX10_sing_36 shM_0 rfl rfl (by decide) fX10_48 ?_
    refine mw_iconst dX10_sing_39 ki_0 ?_
    refine tw_iald dX10_sing_40 shM_12 (bd_in n_0 (by decide)) (fun v5 e5 => ?_)
    have e6 : v5 = nI (Mk (frM S) 0 0) := by
      rw [e5, cl_0, ← hfr]
      exact hTB 0 0 (by have := bR1.1; omega) (Nat.pow_pos (by decide))
    have c1 : x1 = -1 := c
    exact mw_iret rfl dX10_sing_41 rfl rfl ⟨S1, _, rfl, rfl, hI1, hF1, bd_all _, trivial, by rw [singF, if_pos c1, e6]⟩
set_option maxRecDepth 100000 in
set_option maxHeartbeats 4000000 in
theorem cx_X10_sing {g : mm_G} (S : mm_S) (hI : JM S) (x1 : Int32) : mc g yX10_sing cX10_sing 5 (some .int) (mm_rm 5) [.ref 0, .int x1] (mm_enc shM S) (singX S x1) := by
  refine mc_of2 (own := RX10) (ini := false) (ls := [(0, .ref 0), (1, .int x1)]) (by decide) (Nat.le_of_ble_eq_true rfl) rfl (by decide) rfl ?_
  have bR : mm_b 0 6 (S.1 1 2) := JIM_fld hI rfl tbM_18 (by decide)
  refine mw_iload_n dX10_sing_0 rfl 1 rfl ?_
  refine mw_iconst dX10_sing_1 ki_m1 ?_
  refine mw_icmp_eq (tgt := 26) dX10_sing_2 (by decide) (fun c => ?_) (fun c => ?_)
  · exact singx_26 S hI x1 (by rw [c]; show (-1 : Int) < _; omega) (by rw [c]; decide)
  · refine mw_iload_n dX10_sing_5 rfl 1 rfl ?_
    refine mw_i2l dX10_sing_6 (fun w1 e1 => ?_)
    refine mw_lconst (v := 0) dX10_sing_7 (by decide) ?_
    refine mw_aload_n dX10_sing_8 rfl 0 rfl ?_
    refine tw_getr (j := 0) dX10_sing_9 shM_0 rfl rfl (by decide) fX10_7 ?_
    refine mw_iconst dX10_sing_12 ki_2 ?_
    refine tw_iald dX10_sing_13 shM_1 (bd_in n_2 (by decide)) (fun v2 e2 => ?_)
    rw [cl_2] at e2
    refine mw_iconst dX10_sing_14 ki_1 ?_
    refine mw_isub dX10_sing_15 (fun v3 e3 => ?_)
    have t3 : v3.toInt = (S.1 1 2).toInt - 1 := by
      rw [e3, e2, bd_ti_sub (by show -2147483648 ≤ (S.1 1 2).toInt - 1; omega) (by show (S.1 1 2).toInt - 1 ≤ 2147483647; omega)]
      rfl
    refine mw_i2l dX10_sing_16 (fun w4 e4 => ?_)
    refine tc_Si (as := [.long w1, .long 0, .long w4]) (st := []) dX10_sing_17 rfl mX10_62 t_X10_in rfl (Nat.le_of_ble_eq_true rfl) (by decide) (by decide) (cx_X10_in (g := g) S hI w1 (0 : Int64) w4) (fun S5 v5 h5 => ?_)
    obtain ⟨rfl, b5, x5, hx5⟩ := h5
    refine mw_if_ne (tgt := 26) dX10_sing_20 (by decide) (fun c2 => ?_) (fun c2 => ?_)
    · have x6 : 0 ≤ x1.toInt ∧ x1.toInt < (S.1 1 2).toInt := by
        rcases x5 with x5 | x5
        · exact absurd x5.1 c2
        · rw [e1, e4, Int32.toInt_toInt64, Int32.toInt_toInt64] at x5
          have z0 : (0 : Int64).toInt = 0 := rfl
          omega
      exact singx_26 S hI x1 x6.2 (by omega)
    · refine mw_ldc dX10_sing_23 kX10_182 ?_
      have x6 : ¬ (0 ≤ x1.toInt ∧ x1.toInt < (S.1 1 2).toInt) := fun w => by
        have z0 : (0 : Int64).toInt = 0 := rfl
        rw [c2, F_X10_in, if_pos (show (0 : Int64).toInt ≤ w1.toInt ∧ w1.toInt ≤ w4.toInt by rw [e1, e4, Int32.toInt_toInt64, Int32.toInt_toInt64]; omega)] at hx5
        exact one0 hx5
      exact mw_iret rfl dX10_sing_25 rfl rfl ⟨S, _, rfl, rfl, hI, fr_rf, bd_all _, trivial, by rw [singF, if_neg c, if_neg x6]⟩
