/-! ===== the reference: the table of the choir ===== -/
def att (S : mm_S) (r t : Nat) : Prop := ∃ p : Nat, (p : Int) ≤ (S.1 1 0).toInt ∧ sbF S (nI r) (nI t) (nI p) = S.1 12 (128 * r + t)
theorem tb_ix {r : Nat} {z : Int32} {lo hi : Int} (hr : r ≤ 6) (hz : mm_b lo hi z) (h : 0 ≤ lo ∧ hi ≤ 127) : ∃ j : Nat, j < 128 ∧ (j : Int) = z.toInt ∧ (128 * (nI r + 1) + z).toNatClampNeg = 128 * (r + 1) + j := by
  obtain ⟨j, rfl, hj⟩ := bd_nI (x := z) (by omega)
  refine ⟨j, by omega, hj, ?_⟩
  rw [nI_1, show (128 : Int32) = nI 128 from rfl, pk_mul, nI_add, nI_clamp (by omega)]
theorem tb_or {t p : Nat} (ht : t < 128) (hp : p ≤ 6) : mm_b 0 127 (nI t ||| ((1 : Int32) <<< (nI p &&& 31))) := by
  have h1 : mm_b 0 127 (nI t) := ⟨by rw [nI_toInt (by omega)]; omega, by rw [nI_toInt (by omega)]; omega⟩
  have h2 : mm_b 0 6 (nI p) := ⟨by rw [nI_toInt (by omega)]; omega, by rw [nI_toInt (by omega)]; omega⟩
  exact bd_or 7 rfl h1 (bd_w (bd_shl (lo := 1) (hi := 64) 6 rfl h2 (by decide)) (lo := 0) (hi := 64) (by decide)) (by decide)
theorem sb_up {S S2 : mm_S} {k r t p : Nat} {v : Int32} (e : mm_up S 12 k v = S2) (hr : r ≤ 5) (ht : t < 128) (hP : (S.1 1 0).toInt ≤ 7) (hp : (p : Int) ≤ (S.1 1 0).toInt) (hk : k < 128 * (r + 1) ∨ 128 * (r + 1) + 128 ≤ k) : sbF S2 (nI r) (nI t) (nI p) = sbF S (nI r) (nI t) (nI p) := by
  have h1 : ∀ x, S2.1 1 x = S.1 1 x := fun x => (up_neA e (by decide)).symm
  have h3 : ∀ x, S2.1 3 x = S.1 3 x := fun x => (up_neA e (by decide)).symm
  have h12 : ∀ x, x ≠ k → S2.1 12 x = S.1 12 x := fun x hx => (up_neF e hx).symm
  have bt : mm_b 0 127 (nI t) := ⟨by rw [nI_toInt (by omega)]; omega, by rw [nI_toInt (by omega)]; omega⟩
  unfold sbF
  simp only [mayF, aliveF, h1, h3]
  split
  · obtain ⟨j, hj, -, ej⟩ := tb_ix (r := r) (by omega) bt (by decide)
    rw [ej]
    exact h12 _ (by omega)
  · rename_i hne
    have hp6 : p ≤ 6 := by
      have : (nI p).toInt ≠ (S.1 1 0).toInt := fun z => hne (Int32.toInt_inj.mp z)
      rw [nI_toInt (by omega)] at this
      omega
    split
    · rfl
    · obtain ⟨j, hj, -, ej⟩ := tb_ix (r := r) (by omega) (tb_or ht hp6) (by decide)
      rw [ej, h12 _ (by omega)]
theorem att_up {S S2 : mm_S} {k r t : Nat} {v : Int32} (e : mm_up S 12 k v = S2) (hr : r ≤ 5) (ht : t < 128) (hP : (S.1 1 0).toInt ≤ 7) (hk : k < 128 * (r + 1) ∨ 128 * (r + 1) + 128 ≤ k) (hk2 : 128 * r + t ≠ k) (h : att S r t) : att S2 r t := by
  obtain ⟨p, hp, hs⟩ := h
  refine ⟨p, by rw [← up_neA e (by decide)]; exact hp, ?_⟩
  rw [sb_up e hr ht hP hp hk, hs]
  exact up_neF e hk2
abbrev tblQ (S : mm_S) : Option Value → List mm_E → Prop := qv shM (fun S1 => JM S1 ∧ fr [12] [] true true S S1 ∧ (∀ r t : Nat, (r : Int) < (S1.1 1 2).toInt → t < 2 ^ (S1.1 1 0).toInt.toNat → att S1 r t))
theorem tb_pw {n : Nat} (h : n ≤ 7) : 2 ^ n ≤ 128 := (Nat.pow_le_pow_right (by decide) h : 2 ^ n ≤ 2 ^ 7)
theorem tb_sh {P : Int32} (h : mm_b 0 7 P) : ((1 : Int32) <<< (P &&& 31)).toInt = ((2 ^ P.toInt.toNat : Nat) : Int) := by
  obtain ⟨j, rfl, hj⟩ := bd_nI (x := P) h.1
  have := bd_sh1 ⟨j, by omega⟩
  dsimp only at this
  rw [this, show (nI j).toInt.toNat = j by omega]
  norm_cast
/-- the most over the persons from p on -/
theorem lay_65 {g : mm_G} (S S1 : mm_S) (hI : JM S1) (part t : Nat) (hpa : part ≤ 5) (ht : t < 128) (K : ∀ m : Int32, 0 ≤ m.toInt → (∃ q : Nat, (q : Int) ≤ (S1.1 1 0).toInt ∧ sbF S1 (nI part) (nI t) (nI q) = m) → mw g RX10 cX10_layTable 6 none false (mm_rm 4) (tblQ S) 0 0 (mm_enc shM S1) 105 [(0, .ref 0), (1, .int (nI part)), (2, .int (nI t)), (3, .int m)] []) :
    ∀ (N p : Nat) (m : Int32), 9 - p < N → p ≤ 8 → 0 ≤ m.toInt → (∀ q : Nat, q < p → (q : Int) ≤ (S1.1 1 0).toInt → (sbF S1 (nI part) (nI t) (nI q)).toInt ≤ m.toInt) → (m.toInt = 0 ∨ ∃ q : Nat, (q : Int) ≤ (S1.1 1 0).toInt ∧ sbF S1 (nI part) (nI t) (nI q) = m) →
      mw g RX10 cX10_layTable 6 none false (mm_rm 4) (tblQ S) 0 0 (mm_enc shM S1) 65 [(0, .ref 0), (1, .int (nI part)), (2, .int (nI t)), (3, .int m), (4, .int (nI p))] [] := by
  intro N
  induction N with
  | zero =>
    intro p m hm
    exact absurd hm (Nat.not_lt_zero _)
  | succ N ih =>
    intro p m hm hp8 hm0 hle hex
    have bP : mm_b 0 7 (S1.1 1 0) := JIM_fld hI rfl tbM_16 (by decide)
    have tp : (nI p).toInt = (p : Int) := nI_toInt (by omega)
    refine mw_iload dX10_layTable_65 4 rfl ?_
    refine mw_aload_n dX10_layTable_67 rfl 0 rfl ?_
    refine tw_getr (j := 0) dX10_layTable_68 shM_0 rfl rfl (by decide) fX10_7 ?_
    refine mw_iconst dX10_layTable_71 ki_0 ?_
    refine tw_iald dX10_layTable_72 shM_1 (bd_in n_0 (by decide)) (fun v1 e1 => ?_)
    rw [cl_0] at e1
    refine mw_icmp_gt (tgt := 105) dX10_layTable_73 (by decide) (fun q => ?_) (fun q => ?_)
    · have hq := Int32.lt_iff_toInt_lt.mp q
      rw [e1, tp] at hq
      refine mw_ls [0, 1, 2, 3] rfl ?_
      refine K m hm0 ?_
      rcases hex with h0 | h
      · -- nobody sings: the last one, the next row itself
        obtain ⟨P, eP, hP⟩ := bd_nI (x := S1.1 1 0) bP.1
        refine ⟨P, by rw [hP]; exact Int.le_refl _, ?_⟩
        have bt : mm_b 0 127 (nI t) := ⟨by rw [nI_toInt (by omega)]; omega, by rw [nI_toInt (by omega)]; omega⟩
        obtain ⟨j, hj, -, ej⟩ := tb_ix (r := part) (by omega) bt (by decide)
        have hs : sbF S1 (nI part) (nI t) (nI P) = S1.1 12 (128 * (part + 1) + j) := by
          unfold sbF
          rw [if_pos eP.symm, ej]
        have h1 := hle P (by omega) (by omega)
        have h2 : mm_b 0 2147483647 (S1.1 12 (128 * (part + 1) + j)) := JIM_fld hI rfl tbM_0 (by omega)
        apply Int32.toInt_inj.mp
        rw [hs] at h1 ⊢
        omega
      · exact h
    · have hq := Int32.le_iff_toInt_le.mp (bd_nlt q)
      rw [e1, tp] at hq
      refine mw_aload_n dX10_layTable_76 rfl 0 rfl ?_
      refine mw_iload_n dX10_layTable_77 rfl 1 rfl ?_
      refine mw_iload_n dX10_layTable_78 rfl 2 rfl ?_
      refine mw_iload dX10_layTable_79 4 rfl ?_
      refine tc_Vi (as := [.int (nI part), .int (nI t), .int (nI p)]) (st := []) dX10_layTable_81 rfl shM_0 rfl rfl mX10_255 t_X10_sungBy rfl (Nat.le_of_ble_eq_true rfl) (by decide) (by decide) (c_X10_sungBy (g := g) S1 hI (nI part) ⟨by rw [nI_toInt (by omega)]; omega, by rw [nI_toInt (by omega)]; omega⟩ (nI t) ⟨by rw [nI_toInt (by omega)]; omega, by rw [nI_toInt (by omega)]; omega⟩ (nI p) ⟨by omega, by omega⟩ (by omega)) (fun S2 v2 h2 => ?_)
      obtain ⟨rfl, b2, x2⟩ := h2
      refine mw_istore (ls' := [(5, .int v2), (0, .ref 0), (1, .int (nI part)), (2, .int (nI t)), (3, .int m), (4, .int (nI p))]) dX10_layTable_84 (by decide) rfl ?_
      refine mw_iload dX10_layTable_86 0 rfl ?_
      refine mw_iload_n dX10_layTable_88 rfl 4 rfl ?_
      have step : ∀ m2 : Int32, 0 ≤ m2.toInt → m.toInt ≤ m2.toInt → v2.toInt ≤ m2.toInt → (m2 = m ∨ m2 = v2) → mw g RX10 cX10_layTable 6 none false (mm_rm 4) (tblQ S) 0 0 (mm_enc shM S1) 98 [(5, .int v2), (0, .ref 0), (1, .int (nI part)), (2, .int (nI t)), (3, .int m), (4, .int (nI p))] [.int m2] := by
        intro m2 h20 hmm hvm hor
        refine mw_istore_n (ls' := [(3, .int m2), (5, .int v2), (0, .ref 0), (1, .int (nI part)), (2, .int (nI t)), (4, .int (nI p))]) dX10_layTable_98 rfl (by decide) rfl ?_
        refine mw_iinc (ls' := fun v => [(4, .int v), (3, .int m2), (5, .int v2), (0, .ref 0), (1, .int (nI part)), (2, .int (nI t))]) dX10_layTable_99 5 rfl (by decide) (fun _ => rfl) (fun v3 e3 => ?_)
        have t3 : v3 = nI (p + 1) := by rw [e3, show Int32.ofInt 1 = 1 from rfl, nI_1]
        subst t3
        refine mw_goto (tgt := 65) dX10_layTable_102 (by decide) ?_
        refine mw_ls [3, 4, 5, 1, 0] rfl ?_
        refine ih (p + 1) m2 (by omega) (by omega) h20 (fun q hq1 hq2 => ?_) ?_
        · rcases (by omega : q < p ∨ q = p) with h | h
          · exact Int.le_trans (hle q h hq2) hmm
          · subst h
            rw [← x2]
            exact hvm
        · rcases hor with h | h
          · subst h
            exact hex
          · right
            exact ⟨p, hq, by rw [h, x2]⟩
      refine mw_icmp_le (tgt := 97) dX10_layTable_89 (by decide) (fun q2 => ?_) (fun q2 => ?_)
      · refine mw_iload_n dX10_layTable_97 rfl 4 rfl ?_
        exact step m hm0 (Int.le_refl _) (Int32.le_iff_toInt_le.mp q2) (Or.inl rfl)
      · have hq2 := Int32.lt_iff_toInt_lt.mp (bd_nle q2)
        refine mw_iload dX10_layTable_92 0 rfl ?_
        refine mw_goto (tgt := 98) dX10_layTable_94 (by decide) ?_
        exact step v2 (by omega) (by omega) (Int.le_refl _) (Or.inr rfl)
def rowsOk (S : mm_S) (n : Nat) : Prop := ∀ r t : Nat, n ≤ r → (r : Int) < (S.1 1 2).toInt → t < 2 ^ (S.1 1 0).toInt.toNat → att S r t
set_option maxRecDepth 100000 in
set_option maxHeartbeats 4000000 in
theorem lay_48 {g : mm_G} (S : mm_S) (part : Nat) (hpa : part ≤ 5) (K : ∀ (S1 : mm_S), JM S1 → fr [12] [] true true S S1 → rowsOk S1 part → mw g RX10 cX10_layTable 6 none false (mm_rm 4) (tblQ S) 0 0 (mm_enc shM S1) 124 [(0, .ref 0), (1, .int (nI part))] []) :
    ∀ (N t : Nat) (S1 : mm_S), 129 - t < N → t ≤ 128 → JM S1 → fr [12] [] true true S S1 → rowsOk S1 (part + 1) → (∀ t2 : Nat, t2 < t → t2 < 2 ^ (S1.1 1 0).toInt.toNat → att S1 part t2) →
      mw g RX10 cX10_layTable 6 none false (mm_rm 4) (tblQ S) 0 0 (mm_enc shM S1) 48 [(0, .ref 0), (1, .int (nI part)), (2, .int (nI t))] [] := by
  intro N
  induction N with
  | zero =>
    intro t S1 hm
    exact absurd hm (Nat.not_lt_zero _)
  | succ N ih =>
    intro t S1 hm ht8 hI hF hA hB
    have bP : mm_b 0 7 (S1.1 1 0) := JIM_fld hI rfl tbM_16 (by decide)
    have bR : mm_b 0 6 (S1.1 1 2) := JIM_fld hI rfl tbM_18 (by decide)
    have hpw : 2 ^ (S1.1 1 0).toInt.toNat ≤ 128 := tb_pw (by omega)
    have tt : (nI t).toInt = (t : Int) := nI_toInt (by omega)
    refine mw_iload_n dX10_layTable_48 rfl 2 rfl ?_
    refine mw_iconst dX10_layTable_49 ki_1 ?_
    refine mw_aload_n dX10_layTable_50 rfl 0 rfl ?_
    refine tw_getr (j := 0) dX10_layTable_51 shM_0 rfl rfl (by decide) fX10_7 ?_
    refine mw_iconst dX10_layTable_54 ki_0 ?_
    refine tw_iald dX10_layTable_55 shM_1 (bd_in n_0 (by decide)) (fun v1 e1 => ?_)
    rw [cl_0] at e1
    refine mw_ishl dX10_layTable_56 (fun v2 e2 => ?_)
    have t2 : v2.toInt = ((2 ^ (S1.1 1 0).toInt.toNat : Nat) : Int) := by rw [e2, e1, tb_sh bP]
    refine mw_icmp_ge (tgt := 124) dX10_layTable_57 (by decide) (fun q => ?_) (fun q => ?_)
    · have hq := Int32.le_iff_toInt_le.mp q
      rw [t2, tt] at hq
      refine mw_ls [0, 1] rfl ?_
      refine K S1 hI hF (fun r t2 hr hr2 ht2 => ?_)
      rcases (by omega : r = part ∨ part + 1 ≤ r) with h | h
      · subst h
        exact hB t2 (by omega) ht2
      · exact hA r t2 h hr2 ht2
    · have hq := Int32.lt_iff_toInt_lt.mp (bd_nle q)
      rw [t2, tt] at hq
      have ht : t < 2 ^ (S1.1 1 0).toInt.toNat := by omega
      refine mw_iconst dX10_layTable_60 ki_0 ?_
      refine mw_istore_n (ls' := [(3, .int 0), (0, .ref 0), (1, .int (nI part)), (2, .int (nI t))]) dX10_layTable_61 rfl (by decide) rfl ?_
      refine mw_iconst dX10_layTable_62 ki_0 ?_
      refine mw_istore (ls' := [(4, .int 0), (3, .int 0), (0, .ref 0), (1, .int (nI part)), (2, .int (nI t))]) dX10_layTable_63 (by decide) rfl ?_
      refine mw_ls [2, 3, 4, 1, 0] rfl ?_
      refine lay_65 S S1 hI part t hpa (by omega) ?_ 10 0 0 (by omega) (by omega) (by decide) (fun q hq => absurd hq (Nat.not_lt_zero _)) (Or.inl rfl)
      intro m hm0 hex
      refine mw_aload_n dX10_layTable_105 rfl 0 rfl ?_
      refine tw_getr (j := 24) dX10_layTable_106 shM_0 rfl rfl (by decide) fX10_48 ?_
      refine mw_sipush dX10_layTable_109 ks_128 ?_
      refine mw_iload_n dX10_layTable_112 rfl 1 rfl ?_
      refine mw_imul dX10_layTable_113 (fun v3 e3 => ?_)
      refine mw_iload_n dX10_layTable_114 rfl 2 rfl ?_
      refine mw_iadd dX10_layTable_115 (fun v4 e4 => ?_)
      have t4 : v4 = nI (128 * part + t) := by rw [e4, e3, show (128 : Int32) = nI 128 from rfl, pk_mul, nI_add]
      have b4 : mm_b 0 895 v4 := by rw [t4, mm_b, nI_toInt (by omega)]; omega
      have c4 : v4.toNatClampNeg = 128 * part + t := by rw [t4, nI_clamp (by omega)]
      refine mw_iload_n dX10_layTable_116 rfl 3 rfl ?_
      refine tw_iast dX10_layTable_117 shM_12 (bd_in b4 (by decide)) ?_
      have hI2 : JM (mm_up S1 12 v4.toNatClampNeg m) := JIM_puta hI (show mm_b 0 2147483647 m from ⟨hm0, (bd_rng m).2⟩) b4 (by decide) (by decide +kernel)
      rw [c4] at hI2 ⊢
      generalize hS2 : mm_up S1 12 (128 * part + t) m = S2 at hI2 ⊢
      have hF2 := fr_upA hF hS2 (by decide)
      have g0 : S2.1 1 0 = S1.1 1 0 := (up_neA hS2 (by decide)).symm
      have g2 : S2.1 1 2 = S1.1 1 2 := (up_neA hS2 (by decide)).symm
      refine mw_iinc (ls' := fun v => [(2, .int v), (0, .ref 0), (1, .int (nI part)), (3, .int m)]) dX10_layTable_118 2 rfl (by decide) (fun _ => rfl) (fun v5 e5 => ?_)
      have t5 : v5 = nI (t + 1) := by rw [e5, show Int32.ofInt 1 = 1 from rfl, nI_1]
      subst t5
      refine mw_goto (tgt := 48) dX10_layTable_121 (by decide) ?_
      refine mw_ls [1, 2, 0] rfl ?_
      refine ih (t + 1) S2 (by omega) (by omega) hI2 hF2 (fun r u hr hr2 hu => ?_) (fun u hu hu2 => ?_)
      · rw [g0] at hu
        rw [g2] at hr2
        exact att_up hS2 (by omega) (by omega) (by omega) (Or.inl (by omega)) (by omega) (hA r u hr hr2 hu)
      · rw [g0] at hu2
        rcases (by omega : u < t ∨ u = t) with h | h
        · exact att_up hS2 (by omega) (by omega) (by omega) (Or.inl (by omega)) (by omega) (hB u h hu2)
        · subst h
          obtain ⟨q, hq1, hq2⟩ := hex
          refine ⟨q, by rw [g0]; exact hq1, ?_⟩
          rw [sb_up hS2 hpa (by omega) (by omega) hq1 (Or.inl (by omega)), hq2]
          exact up_eq hS2
set_option maxRecDepth 100000 in
set_option maxHeartbeats 4000000 in
theorem lay_42 {g : mm_G} (S : mm_S) : ∀ (n : Nat) (x : Int32) (S1 : mm_S), x.toInt = (n : Int) - 1 → n ≤ 6 → JM S1 → fr [12] [] true true S S1 → rowsOk S1 n →
      mw g RX10 cX10_layTable 6 none false (mm_rm 4) (tblQ S) 0 0 (mm_enc shM S1) 42 [(0, .ref 0), (1, .int x)] [] := by
  intro n
  induction n with
  | zero =>
    intro x S1 hx hn hI hF hA
    refine mw_iload_n dX10_layTable_42 rfl 1 rfl ?_
    refine mw_if_lt (tgt := 130) dX10_layTable_43 (by decide) (fun q => ?_) (fun q => ?_)
    · exact mw_vret rfl dX10_layTable_130 rfl rfl ⟨S1, rfl, rfl, hI, hF, fun r t hr ht => hA r t (Nat.zero_le _) hr ht⟩
    · exfalso
      have h0 : (0 : Int) ≤ x.toInt := Int32.le_iff_toInt_le.mp (bd_nlt q)
      omega
  | succ n ih =>
    intro x S1 hx hn hI hF hA
    have hxn : x = nI n := Int32.toInt_inj.mp (by rw [nI_toInt (by omega)]; omega)
    subst hxn
    refine mw_iload_n dX10_layTable_42 rfl 1 rfl ?_
    refine mw_if_lt (tgt := 130) dX10_layTable_43 (by decide) (fun q => ?_) (fun q => ?_)
    · exfalso
      have h0 : (nI n).toInt < 0 := Int32.lt_iff_toInt_lt.mp q
      omega
    · refine mw_iconst dX10_layTable_46 ki_0 ?_
      refine mw_istore_n (ls' := [(2, .int 0), (0, .ref 0), (1, .int (nI n))]) dX10_layTable_47 rfl (by decide) rfl ?_
      refine mw_ls [1, 2, 0] rfl ?_
      refine lay_48 S n (by omega) ?_ 130 0 S1 (by omega) (by omega) hI hF hA (fun t2 h => absurd h (Nat.not_lt_zero _))
      intro S2 hI2 hF2 hA2
      refine mw_iinc (ls' := fun v => [(1, .int v), (0, .ref 0)]) dX10_layTable_124 1 rfl (by decide) (fun _ => rfl) (fun v3 e3 => ?_)
      have t3 : v3.toInt = (n : Int) - 1 := by
        rw [e3, bd_ti_add (by rw [bd_ofI (by decide), nI_toInt (by omega)]; omega) (by rw [bd_ofI (by decide), nI_toInt (by omega)]; omega), bd_ofI (by decide), nI_toInt (by omega)]
        omega
      refine mw_goto (tgt := 42) dX10_layTable_127 (by decide) ?_
      refine mw_ls [1, 0] rfl ?_
      exact ih v3 S2 t3 (by omega) hI2 hF2 hA2
set_option maxRecDepth 100000 in
set_option maxHeartbeats 4000000 in
theorem c_X10_layTable {g : mm_G} (S : mm_S) (hI : JM S) : mc g yX10_layTable cX10_layTable 6 none (mm_rm 4) [.ref 0] (mm_enc shM S) (tblQ S) := by
  refine mc_of2 (own := RX10) (ini := false) (ls := [(0, .ref 0)]) (by decide) (Nat.le_of_ble_eq_true rfl) rfl (by decide) rfl ?_
  refine mw_iconst dX10_layTable_0 ki_0 ?_
  refine mw_istore_n (ls' := [(1, .int 0), (0, .ref 0)]) dX10_layTable_1 rfl (by decide) rfl ?_
  have cut : ∀ (N t : Nat) (S1 : mm_S), 129 - t < N → t ≤ 128 → JM S1 → fr [12] [] true true S S1 → mw g RX10 cX10_layTable 6 none false (mm_rm 4) (tblQ S) 0 0 (mm_enc shM S1) 2 [(0, .ref 0), (1, .int (nI t))] [] := by
    intro N
    induction N with
    | zero =>
      intro t S1 hm
      exact absurd hm (Nat.not_lt_zero _)
    | succ N ih =>
      intro t S1 hm ht8 hI hF
      have bR : mm_b 0 6 (S1.1 1 2) := JIM_fld hI rfl tbM_18 (by decide)
      have tt : (nI t).toInt = (t : Int) := nI_toInt (by omega)
      refine mw_iload_n dX10_layTable_2 rfl 1 rfl ?_
      refine mw_sipush dX10_layTable_3 ks_128 ?_
      refine mw_icmp_ge (tgt := 33) dX10_layTable_6 (by decide) (fun q => ?_) (fun q => ?_)
      · refine mw_aload_n dX10_layTable_33 rfl 0 rfl ?_
        refine tw_getr (j := 0) dX10_layTable_34 shM_0 rfl rfl (by decide) fX10_7 ?_
        refine mw_iconst dX10_layTable_37 ki_2 ?_
        refine tw_iald dX10_layTable_38 shM_1 (bd_in n_2 (by decide)) (fun v1 e1 => ?_)
        rw [cl_2] at e1
        refine mw_iconst dX10_layTable_39 ki_1 ?_
        refine mw_isub dX10_layTable_40 (fun v2 e2 => ?_)
        have t2 : v2.toInt = (S1.1 1 2).toInt - 1 := by
          rw [e2, e1, bd_ti_sub (by show -2147483648 ≤ (S1.1 1 2).toInt - 1; omega) (by show (S1.1 1 2).toInt - 1 ≤ 2147483647; omega)]
          rfl
        refine mw_istore_n (ls' := [(1, .int v2), (0, .ref 0)]) dX10_layTable_41 rfl (by decide) rfl ?_
        refine mw_ls [1, 0] rfl ?_
        exact lay_42 S (S1.1 1 2).toInt.toNat v2 S1 (by omega) (by omega) hI hF (fun r t hr hr2 => by omega)
      · have hq : (nI t).toInt < 128 := Int32.lt_iff_toInt_lt.mp (bd_nle q)
        have bt : mm_b 0 127 (nI t) := ⟨by omega, by omega⟩
        refine mw_aload_n dX10_layTable_9 rfl 0 rfl ?_
        refine tw_getr (j := 24) dX10_layTable_10 shM_0 rfl rfl (by decide) fX10_48 ?_
        refine mw_sipush dX10_layTable_13 ks_128 ?_
        refine mw_aload_n dX10_layTable_16 rfl 0 rfl ?_
        refine tw_getr (j := 0) dX10_layTable_17 shM_0 rfl rfl (by decide) fX10_7 ?_
        refine mw_iconst dX10_layTable_20 ki_2 ?_
        refine tw_iald dX10_layTable_21 shM_1 (bd_in n_2 (by decide)) (fun v1 e1 => ?_)
        rw [cl_2] at e1
        have b1 : mm_b 0 6 v1 := by rw [e1]; exact bR
        refine mw_imul dX10_layTable_22 (fun v2 e2 => ?_)
        have b2 : mm_b 0 768 v2 := bd_mul e2 n_128 b1 (by decide)
        refine mw_iload_n dX10_layTable_23 rfl 1 rfl ?_
        refine mw_iadd dX10_layTable_24 (fun v3 e3 => ?_)
        have b3 : mm_b 0 895 v3 := bd_add e3 b2 bt (by decide)
        refine mw_iconst dX10_layTable_25 ki_0 ?_
        refine tw_iast dX10_layTable_26 shM_12 (bd_in b3 (by decide)) ?_
        have hI2 : JM (mm_up S1 12 v3.toNatClampNeg 0) := JIM_puta hI n_0 b3 (by decide) (by decide +kernel)
        generalize hS2 : mm_up S1 12 v3.toNatClampNeg 0 = S2 at hI2 ⊢
        have hF2 := fr_upA hF hS2 (by decide)
        refine mw_iinc (ls' := fun v => [(1, .int v), (0, .ref 0)]) dX10_layTable_27 1 rfl (by decide) (fun _ => rfl) (fun v5 e5 => ?_)
        have t5 : v5 = nI (t + 1) := by rw [e5, show Int32.ofInt 1 = 1 from rfl, nI_1]
        subst t5
        refine mw_goto (tgt := 2) dX10_layTable_30 (by decide) ?_
        refine mw_ls [1, 0] rfl ?_
        exact ih (t + 1) S2 (by omega) (by omega) hI2 hF2
  refine mw_ls [1, 0] rfl ?_
  exact cut 130 0 S (by omega) (by omega) hI fr_rf
