/-! ===== the reference: walks by hand ===== -/
theorem in_use {lo hi a1 a2 b1 b2 : Int} {v p : Int32} {w a b : Int64} (x : (v = 0 ∧ ¬ (a.toInt ≤ w.toInt ∧ w.toInt ≤ b.toInt)) ∨ (a.toInt ≤ w.toInt ∧ w.toInt ≤ b.toInt)) (e : w = p.toInt64) (ba : mm_bl a1 a2 a) (bb : mm_bl b1 b2 b) (h : lo ≤ a1 ∧ b2 ≤ hi) : v = 0 ∨ mm_b lo hi p := by
  rcases x with x | x
  · exact Or.inl x.1
  · rw [e, Int32.toInt_toInt64] at x
    exact Or.inr ⟨by omega, by omega⟩
set_option maxRecDepth 100000 in
set_option maxHeartbeats 4000000 in
theorem c_X10_in {g : mm_G} (S : mm_S) (hI : JM S) (x0 x1 x2 : Int64) : mc g yX10_in cX10_in 6 (some .boolean) (mm_rm 0) [.long x0, .long x1, .long x2] (mm_enc shM S) (qi shM (fun S1 v => S = S1 ∧ mm_b 0 1 v ∧ ((v = 0 ∧ ¬ (x1.toInt ≤ x0.toInt ∧ x0.toInt ≤ x2.toInt)) ∨ (x1.toInt ≤ x0.toInt ∧ x0.toInt ≤ x2.toInt)))) := by
  refine mc_of2 (own := RX10) (ini := false) (ls := [(0, .long x0), (2, .long x1), (4, .long x2)]) (by decide) (Nat.le_of_ble_eq_true rfl) rfl (by decide) rfl ?_
  refine mw_lload_n dX10_in_0 rfl 0 rfl ?_
  refine mw_lload_n dX10_in_1 rfl 1 rfl ?_
  refine mw_lcmp dX10_in_2 (fun z1 e1 => ?_)
  refine mw_if_lt (tgt := 17) dX10_in_3 (by decide) (fun q => ?_) (fun q => ?_)
  · refine mw_iconst dX10_in_17 ki_0 ?_
    refine mw_zret rfl (bd_nar n_0 (by decide)) dX10_in_18 rfl rfl ⟨S, _, rfl, rfl, rfl, bd_w n_0 (by decide), Or.inl ⟨rfl, fun h => ?_⟩⟩
    have h1 : 0 ≤ lg_cmp x0 x1 := (lg_cmp_ge x0 x1).mpr (Int64.le_iff_toInt_le.mpr h.1)
    rw [← e1] at h1
    have h2 := Int32.lt_iff_toInt_lt.mp q
    have h3 := Int32.le_iff_toInt_le.mp h1
    omega
  · have h1 : x1 ≤ x0 := (lg_cmp_ge x0 x1).mp (by rw [← e1]; exact bd_nlt q)
    refine mw_lload_n dX10_in_6 rfl 0 rfl ?_
    refine mw_lload dX10_in_7 2 rfl ?_
    refine mw_lcmp dX10_in_9 (fun z2 e2 => ?_)
    refine mw_if_gt (tgt := 17) dX10_in_10 (by decide) (fun q => ?_) (fun q => ?_)
    · refine mw_iconst dX10_in_17 ki_0 ?_
      refine mw_zret rfl (bd_nar n_0 (by decide)) dX10_in_18 rfl rfl ⟨S, _, rfl, rfl, rfl, bd_w n_0 (by decide), Or.inl ⟨rfl, fun h => ?_⟩⟩
      have h4 : lg_cmp x0 x2 ≤ 0 := (lg_cmp_le x0 x2).mpr (Int64.le_iff_toInt_le.mpr h.2)
      rw [← e2] at h4
      have h2 := Int32.lt_iff_toInt_lt.mp q
      have h3 := Int32.le_iff_toInt_le.mp h4
      omega
    · have h2 : x0 ≤ x2 := (lg_cmp_le x0 x2).mp (by rw [← e2]; exact bd_nlt q)
      refine mw_iconst dX10_in_13 ki_1 ?_
      refine mw_goto (tgt := 18) dX10_in_14 (by decide) ?_
      exact mw_zret rfl (bd_nar n_1 (by decide)) dX10_in_18 rfl rfl ⟨S, _, rfl, rfl, rfl, bd_w n_1 (by decide), Or.inr ⟨Int64.le_iff_toInt_le.mp h1, Int64.le_iff_toInt_le.mp h2⟩⟩
/-! bits -/
def bitsL : Nat → Int32 → Int32 → Option Int32
  | 0, _, _ => none
  | N + 1, l, n => if l = 0 then some n else bitsL N (l &&& (l - 1)) (n + Int32.ofInt 1)
theorem bitsL_mono : ∀ (N k : Nat) (l n v : Int32), bitsL N l n = some v → bitsL (N + k) l n = some v
  | 0, k, l, n, v, h => by simp [bitsL] at h
  | N + 1, k, l, n, v, h => by
    rw [show N + 1 + k = N + k + 1 by omega]
    unfold bitsL at h ⊢
    split
    · rename_i h0
      rw [if_pos h0] at h
      exact h
    · rename_i h0
      rw [if_neg h0] at h
      exact bitsL_mono N k _ _ _ h
theorem bitsL_one {N M : Nat} {l n v u : Int32} (h : bitsL N l n = some v) (h2 : bitsL M l n = some u) : v = u := by
  have a := bitsL_mono N M l n v h
  have b := bitsL_mono M N l n u h2
  rw [Nat.add_comm] at b
  exact Option.some.inj (a.symm.trans b)
theorem bits_dn {l : Int32} (h : ¬ l = 0) : (l &&& (l - 1)).toBitVec.toNat < l.toBitVec.toNat := by
  have h0 : l.toBitVec.toNat ≠ 0 := fun e => h (Int32.toBitVec_inj.mp (BitVec.eq_of_toNat_eq (by rw [e]; rfl)))
  have h1 : (l - 1).toBitVec.toNat = l.toBitVec.toNat - 1 := by
    rw [Int32.toBitVec_sub, BitVec.toNat_sub]
    have := l.toBitVec.isLt
    show (4294967296 - 1 + l.toBitVec.toNat) % 4294967296 = _
    omega
  rw [Int32.toBitVec_and, BitVec.toNat_and]
  exact Nat.lt_of_le_of_lt Nat.and_le_right (by omega)
set_option maxRecDepth 100000 in
set_option maxHeartbeats 4000000 in
theorem c_X10_bits {g : mm_G} (S : mm_S) (hI : JM S) (x0 : Int32) : mc g yX10_bits cX10_bits 3 (some .int) (mm_rm 0) [.int x0] (mm_enc shM S) (qi shM (fun S1 v => S = S1 ∧ mm_b (-2147483648) 2147483647 v ∧ (∃ N, bitsL N x0 0 = some v))) := by
  refine mc_of2 (own := RX10) (ini := false) (ls := [(0, .int x0)]) (by decide) (Nat.le_of_ble_eq_true rfl) rfl (by decide) rfl ?_
  refine mw_iconst dX10_bits_0 ki_0 ?_
  refine mw_istore_n (ls' := [(1, .int 0), (0, .int x0)]) dX10_bits_1 rfl (by decide) rfl ?_
  refine mw_iload_n dX10_bits_2 rfl 1 rfl ?_
  refine mw_istore_n (ls' := [(2, .int x0), (1, .int 0), (0, .int x0)]) dX10_bits_3 rfl (by decide) rfl ?_
  have cut : ∀ (N : Nat) (l n : Int32), l.toBitVec.toNat < N → (∀ v, (∃ K, bitsL K l n = some v) → ∃ K, bitsL K x0 0 = some v) → mw g RX10 cX10_bits 3 (some .int) false (mm_rm 0) (qi shM (fun S1 v => S = S1 ∧ mm_b (-2147483648) 2147483647 v ∧ (∃ N, bitsL N x0 0 = some v))) 0 0 (mm_enc shM S) 4 [(1, .int n), (2, .int l)] [] := by
    intro N
    induction N with
    | zero => intro l n h
              exact absurd h (Nat.not_lt_zero _)
    | succ N ih =>
      intro l n h hv
      refine mw_iload_n dX10_bits_4 rfl 1 rfl ?_
      refine mw_if_eq (tgt := 20) dX10_bits_5 (by decide) (fun q => ?_) (fun q => ?_)
      · refine mw_iload_n dX10_bits_20 rfl 0 rfl ?_
        exact mw_iret rfl dX10_bits_21 rfl rfl ⟨S, _, rfl, rfl, rfl, bd_all n, hv n ⟨1, by unfold bitsL; rw [if_pos q]⟩⟩
      · refine mw_iinc (ls' := fun v => [(1, .int v), (2, .int l)]) dX10_bits_8 0 rfl (by decide) (fun _ => rfl) (fun n1 e1 => ?_)
        refine mw_iload_n dX10_bits_11 rfl 1 rfl ?_
        refine mw_iload_n dX10_bits_12 rfl 1 rfl ?_
        refine mw_iconst dX10_bits_13 ki_1 ?_
        refine mw_isub dX10_bits_14 (fun z2 e2 => ?_)
        refine mw_iand dX10_bits_15 (fun z3 e3 => ?_)
        refine mw_istore_n (ls' := [(2, .int z3), (1, .int n1)]) dX10_bits_16 rfl (by decide) rfl ?_
        refine mw_goto (tgt := 4) dX10_bits_17 (by decide) ?_
        refine mw_ls [1, 0] rfl ?_
        have hl : z3 = l &&& (l - 1) := by rw [e3, e2]
        refine ih z3 n1 ?_ (fun v hk => hv v ?_)
        · have := bits_dn q
          rw [hl]
          omega
        · obtain ⟨K, hK⟩ := hk
          refine ⟨K + 1, ?_⟩
          unfold bitsL
          rw [if_neg q, ← hl, ← e1]
          exact hK
  refine mw_ls [1, 0] rfl ?_
  exact cut _ x0 0 (Nat.lt_succ_self _) (fun v h => h)
theorem bits_tab : ∀ s : Fin 128, ∃ v : Fin 8, bitsL 9 (nI s.val) 0 = some (nI v.val) := by decide +kernel
theorem bits_b {s v : Int32} (x : ∃ N, bitsL N s 0 = some v) (h : mm_b 0 127 s) : mm_b 0 7 v := by
  obtain ⟨N, x⟩ := x
  obtain ⟨j, rfl, hj⟩ := bd_nI h.1
  obtain ⟨u, hu⟩ := bits_tab ⟨j, by omega⟩
  rw [bitsL_one x hu, mm_b, nI_toInt (by omega)]
  omega
