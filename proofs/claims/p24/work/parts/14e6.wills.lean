section CL35
variable {a : Nat} {t : Nat → Int32} {n : Int32} {S1 S2 B1 B2 : mm_S} {f c m b s g v w x : Int32}
theorem Dr_will (ha : 3 ≤ a) (D : Dr a B1 B2) {p x y : Int32} (hp : 0 ≤ p.toInt ∧ p.toInt < (B2.1 2 0).toInt) {W : Int32} :
    Dr a (mm_up (mm_up (mm_up B1 (a + 2) p.toNatClampNeg x) (a + 3) p.toNatClampNeg y) a 3 W) (mm_up (mm_up (mm_up B2 2 24 W) 2 (10 + 7 * (0 : Int32) + p).toNatClampNeg x) 2 (10 + 7 * (0 + Int32.ofInt 1) + p).toNatClampNeg y) := by
  obtain ⟨⟨d1, d2, d3, d4⟩, ⟨d5, d6, d7⟩, d8, d9, d10, d11⟩ := D
  have cP := pz_cl (x := p) hp.1
  have c1 : (10 + 7 * (0 : Int32) + p).toNatClampNeg = 10 + p.toNatClampNeg := pz_addc (c := 10) (by decide) ⟨hp.1, by omega⟩
  have c2 : (10 + 7 * (0 + Int32.ofInt 1) + p).toNatClampNeg = 17 + p.toNatClampNeg := pz_addc (c := 17) (by decide) ⟨hp.1, by omega⟩
  rw [c1, c2]
  generalize p.toNatClampNeg = N at cP ⊢
  have ro : ∀ i, i ≠ 24 → i ≠ 10 + N → i ≠ 17 + N → (mm_up (mm_up (mm_up B2 2 24 W) 2 (10 + N) x) 2 (17 + N) y).1 2 i = B2.1 2 i := fun i h0 h3 h4 => by rw [up_ne (by omega), up_ne (by omega), up_ne (by omega)]
  have r24 : (mm_up (mm_up (mm_up B2 2 24 W) 2 (10 + N) x) 2 (17 + N) y).1 2 24 = W := by rw [up_ne (by omega), up_ne (by omega), up_at]
  have r10 : (mm_up (mm_up (mm_up B2 2 24 W) 2 (10 + N) x) 2 (17 + N) y).1 2 (10 + N) = x := by rw [up_ne (by omega), up_at]
  have r17 : (mm_up (mm_up (mm_up B2 2 24 W) 2 (10 + N) x) 2 (17 + N) y).1 2 (17 + N) = y := up_at
  generalize mm_up (mm_up (mm_up B2 2 24 W) 2 (10 + N) x) 2 (17 + N) y = C2 at ro r24 r10 r17 ⊢
  have rb : ∀ z i, ¬ (z = a ∧ i = 3) → ¬ (z = a + 2 ∧ i = N) → ¬ (z = a + 3 ∧ i = N) → (mm_up (mm_up (mm_up B1 (a + 2) N x) (a + 3) N y) a 3 W).1 z i = B1.1 z i := fun z i h0 h3 h4 => by rw [up_ne h0, up_ne h4, up_ne h3]
  have rW : (mm_up (mm_up (mm_up B1 (a + 2) N x) (a + 3) N y) a 3 W).1 a 3 = W := up_at
  have rx : (mm_up (mm_up (mm_up B1 (a + 2) N x) (a + 3) N y) a 3 W).1 (a + 2) N = x := by rw [up_ne (by omega), up_ne (by omega), up_at]
  have ry : (mm_up (mm_up (mm_up B1 (a + 2) N x) (a + 3) N y) a 3 W).1 (a + 3) N = y := by rw [up_ne (by omega), up_at]
  generalize mm_up (mm_up (mm_up B1 (a + 2) N x) (a + 3) N y) a 3 W = C1 at rb rW rx ry ⊢
  refine ⟨⟨?_, ?_, ?_, ?_⟩, ⟨?_, ?_, ?_⟩, ?_, ?_, ?_, ?_⟩
  · rw [rb a 0 (by omega) (by omega) (by omega), ro 0 (by omega) (by omega) (by omega)]
    exact d1
  · rw [rb a 1 (by omega) (by omega) (by omega), ro 1 (by omega) (by omega) (by omega)]
    exact d2
  · rw [rb a 2 (by omega) (by omega) (by omega), ro 2 (by omega) (by omega) (by omega)]
    exact d3
  · rw [rW, r24]
  · rw [ro 0 (by omega) (by omega) (by omega)]
    exact d5
  · rw [ro 1 (by omega) (by omega) (by omega)]
    exact d6
  · rw [ro 2 (by omega) (by omega) (by omega)]
    exact d7
  · intro q hq
    rw [ro 0 (by omega) (by omega) (by omega)] at hq
    have z := d8 q hq
    by_cases hN : q = N
    · subst hN
      rw [rx, ry, r10, r17, rb (a + 1) q (by omega) (by omega) (by omega), ro (3 + q) (by omega) (by omega) (by omega)]
      exact ⟨z.1, rfl, rfl⟩
    · rw [rb (a + 1) q (by omega) (by omega) (by omega), rb (a + 2) q (by omega) (by omega) (by omega), rb (a + 3) q (by omega) (by omega) (by omega), ro (3 + q) (by omega) (by omega) (by omega), ro (10 + q) (by omega) (by omega) (by omega), ro (17 + q) (by omega) (by omega) (by omega)]
      exact z
  · intro q h7 hq
    rw [ro 0 (by omega) (by omega) (by omega)] at hq
    rw [ro (3 + q) (by omega) (by omega) (by omega), ro (10 + q) (by omega) (by omega) (by omega), ro (17 + q) (by omega) (by omega) (by omega)]
    exact d9 q h7 hq
  · intro q hq
    rw [ro 1 (by omega) (by omega) (by omega)] at hq
    rw [ro (25 + q) (by omega) (by omega) (by omega), rb (a + 4) q (by omega) (by omega) (by omega)]
    exact d10 q hq
  · intro q hq
    rw [ro 2 (by omega) (by omega) (by omega)] at hq
    rw [ro (31 + q) (by omega) (by omega) (by omega), rb (a + 5) q (by omega) (by omega) (by omega)]
    exact d11 q hq
end CL35
