/-! ===== the reference: figures of an order ===== -/
def dgZ (o : Int32) : Prop := 0 ≤ o.toInt ∧ ∀ k : Nat, 0 < o.toInt.toNat / 10 ^ k → 1 ≤ o.toInt.toNat / 10 ^ k % 10 ∧ o.toInt.toNat / 10 ^ k % 10 ≤ 7
def dgA (o r : Int32) : Prop := 0 ≤ o.toInt ∧ ∃ i : Nat, r.toInt = ((o.toInt.toNat / 10 ^ i : Nat) : Int) ∧ ∀ k : Nat, k < i → 1 ≤ o.toInt.toNat / 10 ^ k % 10 ∧ o.toInt.toNat / 10 ^ k % 10 ≤ 7
theorem dgA_0 {o : Int32} {lo hi : Int} (h : mm_b lo hi o) (h2 : 0 ≤ lo) : dgA o o := by
  refine ⟨by omega, 0, ?_, fun k hk => absurd hk (Nat.not_lt_zero _)⟩
  rw [Nat.pow_zero, Nat.div_one]
  omega
theorem bd_ti_div {x y : Int32} (hx : 0 ≤ x.toInt) (hy : 0 < y.toInt) : (x / y).toInt = x.toInt / y.toInt := by
  have r := bd_rng x
  have g1 : 0 ≤ x.toInt / y.toInt := Int.ediv_nonneg hx (by omega)
  have g2 : x.toInt / y.toInt ≤ x.toInt := Int.ediv_le_self _ hx
  rw [Int32.toInt_div, Int.tdiv_eq_ediv_of_nonneg hx, bd_bmod (by omega) (by omega)]
theorem bd_ti_rem {x y : Int32} (hx : 0 ≤ x.toInt) : (x - x / y * y).toInt = x.toInt % y.toInt := by
  rw [rem_toInt, Int.tmod_eq_emod_of_nonneg hx]
theorem dgA_s {o r c d z1 z2 r2 : Int32} {lo hi : Int} (h : dgA o r) (br : mm_b lo hi r) (h1 : 1 ≤ lo) (e1 : z1 = r - r / c * c) (bc : mm_b 10 10 c) (e2 : z2 = z1 - d) (bd : mm_b 1 1 d) (b2 : mm_b 0 6 z2) (e3 : r2 = r / c) : dgA o r2 := by
  obtain ⟨h0, i, hi1, hk⟩ := h
  have tc : c.toInt = 10 := by omega
  have td : d.toInt = 1 := by omega
  have t1 : z1.toInt = r.toInt % 10 := by rw [e1, bd_ti_rem (by omega), tc]
  have t2 : z2.toInt = z1.toInt - 1 := by rw [e2, bd_ti_sub (by omega) (by omega), td]
  have t3 : r2.toInt = r.toInt / 10 := by rw [e3, bd_ti_div (by omega) (by omega), tc]
  refine ⟨h0, i + 1, ?_, fun k hk2 => ?_⟩
  · rw [t3, hi1, Nat.pow_succ, ← Nat.div_div_eq_div_mul]
    generalize o.toInt.toNat / 10 ^ i = A
    omega
  · rcases Nat.lt_or_ge k i with q | q
    · exact hk k q
    · have : k = i := by omega
      subst this
      generalize o.toInt.toNat / 10 ^ k = A at hi1 ⊢
      omega
theorem dgA_e {o r : Int32} {lo hi : Int} (h : dgA o r) (br : mm_b lo hi r) (h1 : hi ≤ 0) : dgZ o := by
  obtain ⟨h0, i, hi1, hk⟩ := h
  refine ⟨h0, fun k hk2 => ?_⟩
  rcases Nat.lt_or_ge k i with q | q
  · exact hk k q
  · exfalso
    have h3 : o.toInt.toNat / 10 ^ k ≤ o.toInt.toNat / 10 ^ i := Nat.div_le_div_left (Nat.pow_le_pow_right (by decide) q) (Nat.pow_pos (by decide))
    generalize o.toInt.toNat / 10 ^ i = A at hi1 h3
    generalize o.toInt.toNat / 10 ^ k = B at hk2 h3
    omega
def unU (o u : Int32) : Prop := ∃ k : Nat, u.toInt = ((10 ^ k : Nat) : Int) ∧ (k = 0 ∨ 10 ^ k ≤ o.toInt.toNat)
abbrev allQ (S : mm_S) : Option Value → List mm_E → Prop := qv shM (fun S1 => JM S1 ∧ fr [4] [] true true S S1 ∧ True)
