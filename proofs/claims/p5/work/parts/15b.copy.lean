/-! ===== folk copied ===== -/
section CPs
variable {a c : Nat} {S S' R : mm_S} {x y v : Int32}
def cpP (a c : Nat) (R S : mm_S) (y : Int32) : Prop :=
  ((∀ b, b ≠ a + 1 → b ≠ a + 2 → b ≠ a + 3 → b ≠ a + 4 → R.1 b = S.1 b) ∧ R.2 = S.2) ∧
  (∀ i : Nat, (i : Int) < y.toInt → R.1 (a + 1) i = S.1 (a + 1) i ∧ R.1 (a + 2) i = S.1 (a + 2) i ∧ R.1 (a + 3) i = S.1 (a + 3) i ∧ R.1 (a + 4) i = S.1 (a + 4) i) ∧
  (∀ i : Nat, y.toInt ≤ i → i < 7 → R.1 (a + 1) i = S.1 (c + 1) i ∧ R.1 (a + 2) i = S.1 (c + 2) i ∧ R.1 (a + 3) i = S.1 (c + 3) i ∧ R.1 (a + 4) i = S.1 (c + 4) i)
theorem cp_s (hac : a + 4 < c ∨ c + 4 < a) (cy : (y.toNatClampNeg : Int) = y.toInt) (ty : (y + Int32.ofInt 1).toInt = y.toInt + 1) (h : cpP a c R (mm_up (mm_up (mm_up (mm_up S (a + 1) y.toNatClampNeg (S.1 (c + 1) y.toNatClampNeg)) (a + 2) y.toNatClampNeg (S.1 (c + 2) y.toNatClampNeg)) (a + 3) y.toNatClampNeg (S.1 (c + 3) y.toNatClampNeg)) (a + 4) y.toNatClampNeg (S.1 (c + 4) y.toNatClampNeg)) (y + Int32.ofInt 1)) : cpP a c R S y := by
  generalize e : mm_up (mm_up (mm_up (mm_up S (a + 1) y.toNatClampNeg (S.1 (c + 1) y.toNatClampNeg)) (a + 2) y.toNatClampNeg (S.1 (c + 2) y.toNatClampNeg)) (a + 3) y.toNatClampNeg (S.1 (c + 3) y.toNatClampNeg)) (a + 4) y.toNatClampNeg (S.1 (c + 4) y.toNatClampNeg) = S' at h
  have ro : ∀ b, b ≠ a + 1 → b ≠ a + 2 → b ≠ a + 3 → b ≠ a + 4 → S'.1 b = S.1 b := fun b h1 h2 h3 h4 => by rw [← e, up_row h4, up_row h3, up_row h2, up_row h1]
  obtain ⟨⟨k1, k2⟩, k3, k4⟩ := h
  refine ⟨⟨fun b h1 h2 h3 h4 => by rw [k1 b h1 h2 h3 h4, ro b h1 h2 h3 h4], by rw [k2, ← e, up_2, up_2, up_2, up_2]⟩, fun i hi => ?_, fun i h1 h2 => ?_⟩
  · obtain ⟨m1, m2, m3, m4⟩ := k3 i (by omega)
    rw [m1, m2, m3, m4, ← e]
    refine ⟨?_, ?_, ?_, ?_⟩
    · rw [up_ne (by omega), up_ne (by omega), up_ne (by omega), up_ne (by omega)]
    · rw [up_ne (by omega), up_ne (by omega), up_ne (by omega), up_ne (by omega)]
    · rw [up_ne (by omega), up_ne (by omega), up_ne (by omega), up_ne (by omega)]
    · rw [up_ne (by omega), up_ne (by omega), up_ne (by omega), up_ne (by omega)]
  · by_cases hi : i = y.toNatClampNeg
    · obtain ⟨m1, m2, m3, m4⟩ := k3 i (by omega)
      rw [m1, m2, m3, m4, hi, ← e]
      refine ⟨?_, ?_, ?_, ?_⟩
      · rw [up_ne (by omega), up_ne (by omega), up_ne (by omega), up_at]
      · rw [up_ne (by omega), up_ne (by omega), up_at]
      · rw [up_ne (by omega), up_at]
      · rw [up_at]
    · obtain ⟨m1, m2, m3, m4⟩ := k4 i (by omega) h2
      rw [m1, m2, m3, m4, ro (c + 1) (by omega) (by omega) (by omega) (by omega), ro (c + 2) (by omega) (by omega) (by omega) (by omega), ro (c + 3) (by omega) (by omega) (by omega) (by omega), ro (c + 4) (by omega) (by omega) (by omega) (by omega)]
      exact ⟨rfl, rfl, rfl, rfl⟩
theorem cp_L (hac : a + 4 < c ∨ c + 4 < a) : ∀ (N : Nat) (S : mm_S) (y : Int32), mm_b 0 7 y → (7 - y.toInt).toNat < N → cpP a c (F_X3_copy_L26 a c N S y) S y
  | 0, S, y, _, h => absurd h (Nat.not_lt_zero _)
  | N + 1, S, y, hy, h => by
    have cy := pz_cl (x := y) hy.1
    by_cases q : (7 : Int32) ≤ y
    · have q2 : (7 : Int) ≤ y.toInt := Int32.le_iff_toInt_le.mp q
      rw [F_X3_copy_L26, if_pos q]
      exact ⟨⟨fun _ _ _ _ _ => rfl, rfl⟩, fun _ _ => ⟨rfl, rfl, rfl, rfl⟩, fun i h1 h2 => by omega⟩
    · have q2 : y.toInt < 7 := Int32.lt_iff_toInt_lt.mp (bd_nle q)
      have ty : (y + Int32.ofInt 1).toInt = y.toInt + 1 := by rw [pz_of1]; exact pz_ti1 ⟨by omega, by omega⟩
      have h21 : c + 2 ≠ a + 1 := by omega
      have h31 : c + 3 ≠ a + 1 := by omega
      have h32 : c + 3 ≠ a + 2 := by omega
      have h41 : c + 4 ≠ a + 1 := by omega
      have h42 : c + 4 ≠ a + 2 := by omega
      have h43 : c + 4 ≠ a + 3 := by omega
      rw [F_X3_copy_L26, if_neg q]
      simp only [up_row h21, up_row h31, up_row h32, up_row h41, up_row h42, up_row h43]
      exact cp_s hac cy ty (cp_L hac N _ _ ⟨by omega, by omega⟩ (by omega))
/-- the copy as a whole -/
theorem cp_c (hac : a + 4 < c ∨ c + 4 < a) : ((∀ b, b ≠ a → b ≠ a + 1 → b ≠ a + 2 → b ≠ a + 3 → b ≠ a + 4 → (F_X3_copy S a c).1 b = S.1 b) ∧ (F_X3_copy S a c).2 = S.2) ∧
    ((F_X3_copy S a c).1 a 0 = S.1 c 0 ∧ (F_X3_copy S a c).1 a 1 = S.1 c 1 ∧ (F_X3_copy S a c).1 a 2 = S.1 c 2 ∧ ∀ j, 3 ≤ j → (F_X3_copy S a c).1 a j = S.1 a j) ∧
    (∀ i : Nat, i < 7 → (F_X3_copy S a c).1 (a + 1) i = S.1 (c + 1) i ∧ (F_X3_copy S a c).1 (a + 2) i = S.1 (c + 2) i ∧ (F_X3_copy S a c).1 (a + 3) i = S.1 (c + 3) i ∧ (F_X3_copy S a c).1 (a + 4) i = S.1 (c + 4) i) := by
  have hca : c ≠ a := by omega
  have e : mm_up (mm_up (mm_up S a 2 (S.1 c 2)) a 0 ((mm_up S a 2 (S.1 c 2)).1 c 0)) a 1 ((mm_up (mm_up S a 2 (S.1 c 2)) a 0 ((mm_up S a 2 (S.1 c 2)).1 c 0)).1 c 1) = mm_up (mm_up (mm_up S a 2 (S.1 c 2)) a 0 (S.1 c 0)) a 1 (S.1 c 1) := by
    simp only [up_row hca]
  rw [F_X3_copy, e]
  generalize hT : mm_up (mm_up (mm_up S a 2 (S.1 c 2)) a 0 (S.1 c 0)) a 1 (S.1 c 1) = T
  have ro : ∀ b, b ≠ a → T.1 b = S.1 b := fun b h => by rw [← hT, up_row h, up_row h, up_row h]
  obtain ⟨⟨k1, k2⟩, -, k4⟩ := cp_L hac 9 T 0 (by decide) (by decide)
  refine ⟨⟨fun b h0 h1 h2 h3 h4 => ?_, ?_⟩, ⟨?_, ?_, ?_, fun j hj => ?_⟩, fun i hi => ?_⟩
  · rw [k1 b h1 h2 h3 h4, ro b h0]
  · rw [k2, ← hT, up_2, up_2, up_2]
  · rw [k1 a (by omega) (by omega) (by omega) (by omega), ← hT, up_ne (by omega), up_at]
  · rw [k1 a (by omega) (by omega) (by omega) (by omega), ← hT, up_at]
  · rw [k1 a (by omega) (by omega) (by omega) (by omega), ← hT, up_ne (by omega), up_ne (by omega), up_at]
  · rw [k1 a (by omega) (by omega) (by omega) (by omega), ← hT, up_ne (by omega), up_ne (by omega), up_ne (by omega)]
  · obtain ⟨m1, m2, m3, m4⟩ := k4 i (by show (0 : Int) ≤ i; omega) hi
    rw [m1, m2, m3, m4, ro (c + 1) (by omega), ro (c + 2) (by omega), ro (c + 3) (by omega), ro (c + 4) (by omega)]
    exact ⟨rfl, rfl, rfl, rfl⟩
end CPs
