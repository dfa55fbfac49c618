/-! ===== drift ===== -/
section DRF
variable {P : Int32} {S1 S2 U1 U2 V1 V2 : mm_S} {x y z v n : Int32}
theorem bl_ti_div {x y : Int64} (hx : 0 ≤ x.toInt) (hy : 0 < y.toInt) : (x / y).toInt = x.toInt / y.toInt := by
  have r := bl_all x
  obtain ⟨r1, r2⟩ := r
  have g1 : 0 ≤ x.toInt / y.toInt := Int.ediv_nonneg hx (by omega)
  have g2 : x.toInt / y.toInt ≤ x.toInt := Int.ediv_le_self _ hx
  rw [Int64.toInt_div, Int.tdiv_eq_ediv_of_nonneg hx, bl_bmod (by omega) (by omega)]
theorem bl_ti_rem {x y : Int64} (hx : 0 ≤ x.toInt) (hy : 0 < y.toInt) : (x - x / y * y).toInt = x.toInt % y.toInt := by
  have r := bl_all x
  obtain ⟨r1, r2⟩ := r
  have d := bl_ti_div hx hy
  have g : x.toInt / y.toInt * y.toInt ≤ x.toInt := Int.ediv_mul_le _ (by omega)
  have g0 : 0 ≤ x.toInt / y.toInt * y.toInt := Int.mul_nonneg (Int.ediv_nonneg hx (by omega)) (by omega)
  have m : x.toInt % y.toInt = x.toInt - x.toInt / y.toInt * y.toInt := by rw [Int.emod_def, Int.mul_comm]
  have e : (x / y * y).toInt = x.toInt / y.toInt * y.toInt := by
    rw [Int64.toInt_mul, d]
    generalize x.toInt / y.toInt * y.toInt = k at *
    rw [bl_bmod (by omega) (by omega)]
  rw [Int64.toInt_sub, e, m]
  generalize x.toInt / y.toInt * y.toInt = k at *
  rw [bl_bmod (by omega) (by omega)]
/-- both draw the same -/
theorem dr (se : Se S1 S2) (hs : mm_bl 0 2147483647 (S2.2.1 0 8)) (hx : mm_b 1 7 x) : ∃ (v n : Int32), F_X1_next S1 x = (v, mm_up S1 128 0 n) ∧ F_X10_draw S2 x = (v, mm_upL S2 0 8 n.toInt64) ∧ 0 ≤ n.toInt ∧ 0 ≤ v.toInt ∧ v.toInt < x.toInt := by
  have e64 : (S1.1 128 0).toInt64 = S2.2.1 0 8 := Int64.toInt_inj.mp (by rw [Int32.toInt_toInt64]; exact se)
  obtain ⟨x1, x7⟩ := hx
  have np : ¬ x ≤ 0 := fun q => by have : x.toInt ≤ 0 := Int32.le_iff_toInt_le.mp q; omega
  have u : ∀ w, (mm_upL S2 0 8 w).2.1 0 8 = w := fun w => upLat
  rw [F_X1_next, if_neg np, F_X10_draw, e64, u]
  have b1 : mm_bl 0 2369780942852698515 (S2.2.1 0 8 * 1103515245) := bl_mul rfl hs L_1103515245 (by decide)
  have b2 : mm_bl 0 2369780942852710860 (S2.2.1 0 8 * 1103515245 + 12345) := bl_add rfl b1 L_12345 (by decide)
  have b3 : mm_bl 0 2147483647 (S2.2.1 0 8 * 1103515245 + 12345 - (S2.2.1 0 8 * 1103515245 + 12345) / 2147483648 * 2147483648) := bl_rem rfl b2 L_2147483648 (by decide)
  generalize S2.2.1 0 8 * 1103515245 + 12345 - (S2.2.1 0 8 * 1103515245 + 12345) / 2147483648 * 2147483648 = w at *
  obtain ⟨w0, w1⟩ := b3
  have t : w.toInt32.toInt = w.toInt := by rw [Int64.toInt_toInt32, bd_bmod (by omega) (by omega)]
  have n64 : w.toInt32.toInt64 = w := Int64.toInt_inj.mp (by rw [Int32.toInt_toInt64, t])
  have c1 : (65536 : Int64).toInt = 65536 := by decide
  have c2 : (65536 : Int32).toInt = 65536 := by decide
  have d0 : 0 ≤ w.toInt / 65536 := Int.ediv_nonneg w0 (by omega)
  have d1 : (w / 65536).toInt = w.toInt / 65536 := by rw [bl_ti_div w0 (by rw [c1]; omega), c1]
  have d2 : (w.toInt32 / 65536).toInt = w.toInt / 65536 := by rw [bd_ti_div (by omega) (by rw [c2]; omega), c2, t]
  have r0 := Int.emod_nonneg (w.toInt / 65536) (show x.toInt ≠ 0 by omega)
  have r1 := Int.emod_lt_of_pos (w.toInt / 65536) (show 0 < x.toInt by omega)
  have q1 : (w / 65536 - w / 65536 / x.toInt64 * x.toInt64).toInt = w.toInt / 65536 % x.toInt := by rw [bl_ti_rem (by omega) (by rw [Int32.toInt_toInt64]; omega), d1, Int32.toInt_toInt64]
  have q2 : (w.toInt32 / 65536 - w.toInt32 / 65536 / x * x).toInt = w.toInt / 65536 % x.toInt := by rw [bd_ti_rem (by omega), d2]
  have q3 : (w / 65536 - w / 65536 / x.toInt64 * x.toInt64).toInt32 = w.toInt32 / 65536 - w.toInt32 / 65536 / x * x := Int32.toInt_inj.mp (by rw [Int64.toInt_toInt32, q1, q2, bd_bmod (by omega) (by omega)])
  exact ⟨_, w.toInt32, rfl, by rw [n64, q3], by rw [t]; exact w0, by rw [q2]; exact r0, by rw [q2]; exact r1⟩
/-- the years so far: beside the state in which they began -/
def Yr (P : Int32) (S1 S2 U1 U2 : mm_S) : Prop := (Fk15 P U1 U2 ∧ Wf 3 P U2) ∧ (Se U1 U2 ∧ mm_bl 0 2147483647 (U2.2.1 0 8)) ∧ (∀ b, (b < 15 ∨ 19 < b) → b ≠ 128 → U1.1 b = S1.1 b) ∧ U1.2 = S1.2 ∧ ∀ b, b ≠ 3 → U2.1 b = S2.1 b
theorem Yr_sm (h : Yr P S1 S2 U1 U2) (s : Sm15 P U1 U2 V1 V2) : Yr P S1 S2 V1 V2 := by
  obtain ⟨-, ⟨a1, a2⟩, a3, a4, a5⟩ := h
  obtain ⟨f', w', ⟨g1, g2⟩, g3, g4⟩ := s
  refine ⟨⟨f', w'⟩, ⟨?_, by rw [g4]; exact a2⟩, fun b h1 h2 => by rw [g1 b h1]; exact a3 b h1 h2, by rw [g2]; exact a4, fun b hb => by rw [g3 b hb]; exact a5 b hb⟩
  unfold Se
  rw [g1 128 (by omega), g4]
  exact a1
theorem Yr_dr (h : Yr P S1 S2 U1 U2) (hn : 0 ≤ n.toInt) : Yr P S1 S2 (mm_up U1 128 0 n) (mm_upL U2 0 8 n.toInt64) := by
  obtain ⟨⟨f, w⟩, ⟨a1, a2⟩, a3, a4, a5⟩ := h
  have r := bd_rng n
  have e2 : (mm_upL U2 0 8 n.toInt64).2.1 0 8 = n.toInt64 := upLat
  refine ⟨⟨Fk_row f (up_row (by omega)) (up_row (by omega)) (up_row (by omega)) (up_row (by omega)) (up_row (by omega)) rfl, Wf_row w rfl⟩, ⟨?_, ?_⟩, fun b h1 h2 => by rw [up_row h2]; exact a3 b h1 h2, by rw [up_2]; exact a4, fun b hb => a5 b hb⟩
  · unfold Se
    rw [up_at, e2, Int32.toInt_toInt64]
  · rw [e2, mm_bl, Int32.toInt_toInt64]
    omega
/-- one year -/
theorem yr1 (hP : mm_b 1 7 P) (e1 : S2.1 1 0 = P) (ha : S1.2.2 0 1 < 15) (ea : S1.1 (S1.2.2 0 1) 0 = P) (h : Yr P S1 S2 U1 U2) (k : mm_S → Int32 → Int32 × mm_S) : ∃ V1 V2, F_X9_passYear U1 = V1 ∧ F_X10_drift_L33fc48 (F_X10_draw U2 (U2.1 1 0)).2 (F_X10_draw U2 (U2.1 1 0)).1 k y (U2.1 1 0) = k V2 (y + Int32.ofInt 1) ∧ Yr P S1 S2 V1 V2 := by
  have hP0 : mm_b 0 7 P := ⟨by have := hP.1; omega, hP.2⟩
  have pU : U1.1 (U1.2.2 0 1) 0 = P := by rw [h.2.2.2.1, h.2.2.1 _ (by omega) (by omega)]; exact ea
  have pM : U2.1 1 0 = P := by rw [h.2.2.2.2 1 (by omega)]; exact e1
  obtain ⟨v, n, d1, d2, hn, v0, vP⟩ := dr h.2.1.1 h.2.1.2 hP
  have hA := Yr_dr h hn
  rw [F_X9_passYear, pU, pM, d1, d2]
  show ∃ V1 V2, F_X9_passYear_c14 (mm_up U1 128 0 n) v = V1 ∧ F_X10_drift_L33fc48 (mm_upL U2 0 8 n.toInt64) v k y P = k V2 (y + Int32.ofInt 1) ∧ Yr P S1 S2 V1 V2
  generalize mm_up U1 128 0 n = A1 at *
  generalize mm_upL U2 0 8 n.toInt64 = A2 at *
  obtain ⟨t, n2, d3, d4, hn2, t0, t3⟩ := dr (x := 3) hA.2.1.1 hA.2.1.2 (by decide)
  have hB := Yr_dr hA hn2
  rw [F_X9_passYear_c14, F_X10_drift_L33fc48, d3, d4]
  show ∃ V1 V2, F_X9_passYear_c14c23 t (mm_up A1 128 0 n2) v = V1 ∧ F_X10_drift_L33fc48c54 t (mm_upL A2 0 8 n2.toInt64) v k y P = k V2 (y + Int32.ofInt 1) ∧ Yr P S1 S2 V1 V2
  generalize mm_up A1 128 0 n2 = B1 at *
  generalize mm_upL A2 0 8 n2.toInt64 = B2 at *
  obtain ⟨p1, p7⟩ := hP
  have bU : B1.1 (B1.2.2 0 1) 0 = P := by rw [hB.2.2.2.1, hB.2.2.1 _ (by omega) (by omega)]; exact ea
  have bM : B2.1 1 0 = P := by rw [hB.2.2.2.2 1 (by omega)]; exact e1
  have v6 : 0 ≤ v.toInt ∧ v.toInt ≤ 6 := ⟨v0, by omega⟩
  obtain ⟨⟨f, w⟩, -⟩ := id hB
  rw [F_X9_passYear_c14c23, F_X10_drift_L33fc48c54]
  by_cases q0 : t = 0
  · rw [if_pos q0, if_pos q0, alv w v6]
    by_cases l : lv (B2.1 3 28) v
    · rw [if_pos l, if_neg one0]
      obtain ⟨-, s⟩ := by15 (q := v) f w hP0 bM l
      exact ⟨_, _, rfl, rfl, Yr_sm hB s⟩
    · have el : F_X3_lives_15 B1 v = 0 := by rw [lc15 f w hP0, if_neg l]
      rw [if_neg l, if_pos (show (0 : Int32) = 0 from rfl), F_X3_bury_15, if_pos el]
      exact ⟨_, _, rfl, rfl, hB⟩
  · rw [if_neg q0, if_neg q0]
    by_cases q1 : t = 1
    · rw [if_pos q1, if_pos q1, bU]
      have t1 : (v + 1).toInt = v.toInt + 1 := pz_ti1 ⟨by omega, by omega⟩
      have rm : (v + 1 - (v + 1) / P * P).toInt = (v.toInt + 1) % P.toInt := by rw [bd_ti_rem (by omega), t1]
      have key : ∀ b : Int32, 0 ≤ b.toInt ∧ b.toInt ≤ 6 → v + 1 - (v + 1) / P * P = b → ∃ V1 V2, F_X9_passYear_c14c23tftc73 (F_X3_handOver_15 B1 v b) = V1 ∧ (if F_X10_maySell B2 v (v + 1 - (v + 1) / P * P) = 0 then k B2 (y + Int32.ofInt 1) else F_X10_drift_L33fc48c54tffc118 k (F_X10_sells B2 v (v + 1 - (v + 1) / P * P)) y) = k V2 (y + Int32.ofInt 1) ∧ Yr P S1 S2 V1 V2 := fun b hb eb => by
        rw [eb]
        by_cases m0 : F_X10_maySell B2 v b = 0
        · have e := (ms f w hP0 v6 hb).1
          rw [if_pos m0, F_X3_handOver_15, e, if_pos m0]
          exact ⟨_, _, rfl, rfl, hB⟩
        · rw [if_neg m0]
          exact ⟨_, _, rfl, rfl, Yr_sm hB (so f w hP0 v6 hb m0)⟩
      by_cases q2 : P ≤ v + 1
      · have q3 := Int32.le_iff_toInt_le.mp q2
        have e : v.toInt + 1 = P.toInt := by omega
        rw [if_pos q2]
        exact key 0 (by decide) (Int32.toInt_inj.mp (by rw [rm, e, Int.emod_self]; rfl))
      · have q3 := Int32.lt_iff_toInt_lt.mp (bd_nle q2)
        rw [if_neg q2]
        exact key (v + 1) ⟨by omega, by omega⟩ (Int32.toInt_inj.mp (by rw [rm, Int.emod_eq_of_lt (by omega) (by omega), t1]))
    · rw [if_neg q1, if_neg q1]
      exact ⟨_, _, rfl, rfl, hB⟩
theorem yrL (hP : mm_b 1 7 P) (e1 : S2.1 1 0 = P) (ha : S1.2.2 0 1 < 15) (ea : S1.1 (S1.2.2 0 1) 0 = P) : ∀ (N : Nat) (U1 U2 : mm_S) (y : Int32), Yr P S1 S2 U1 U2 → (F_X9_drift_L40 x N U1 y).1 = (F_X10_drift_L33 x N U2 y).1 ∧ Yr P S1 S2 (F_X9_drift_L40 x N U1 y).2 (F_X10_drift_L33 x N U2 y).2
  | 0, U1, U2, y, h => ⟨rfl, h⟩
  | N + 1, U1, U2, y, h => by
    rw [F_X9_drift_L40, F_X10_drift_L33]
    by_cases q : x ≤ y
    · rw [if_pos q, if_pos q]
      exact ⟨h.1.1.1, h⟩
    · rw [if_neg q, if_neg q]
      obtain ⟨V1, V2, r1, r2, hV⟩ := yr1 (y := y) hP e1 ha ea h (F_X10_drift_L33 x N)
      rw [r1, r2, F_X9_drift_L40fc49]
      exact yrL hP e1 ha ea N V1 V2 _ hV
theorem RB_yr (h : RB S1 S2) (hJ : JC S1) (hp : ¬ S2.1 1 0 = 0) (s : Yr (S2.1 1 0) (F_X7_remember S1) (F_X10_remember S2) U1 U2) : RB U1 U2 := by
  obtain ⟨a, f, w, p, i, se⟩ := h
  have p2 := rm_Pa (f.2 hp) w p
  obtain ⟨n, x, hn, hx, hm, n20, x20, -⟩ := p
  obtain ⟨⟨a1, a2⟩, -, -, -⟩ := rmC hn hx n20 x20
  obtain ⟨d, -, ⟨b1, b2, b3⟩, -, -, -⟩ := rmM hm n20
  obtain ⟨⟨f', w'⟩, ⟨s1, s2⟩, g1, g2, g3⟩ := s
  have lx : x % 20 < 20 := Nat.mod_lt _ (by omega)
  generalize x % 20 = sl at *
  have c : ∀ b, (1 ≤ b ∧ b < 15) ∨ (127 ≤ b ∧ b ≠ 128) → U1.1 b = S1.1 b := fun b hb => by rw [g1 b (by omega) (by omega), a1 b (by omega) (by omega)]
  have m : ∀ b, b ≠ 0 → b ≠ 3 → b ≠ 5 → U2.1 b = S2.1 b := fun b h0 h3 h5 => by rw [g3 b h3, b1 b h0 h5]
  have m0 : ∀ j, j ≠ 5 → U2.1 0 j = S2.1 0 j := fun j hj => by rw [g3 0 (by omega), b2 j hj]
  have e1 : U2.1 1 0 = S2.1 1 0 := by rw [m 1 (by omega) (by omega) (by omega)]
  unfold RB
  rw [e1]
  exact ⟨RA_G a hJ ⟨fun b hb => c b (by have z := LG1_a b hb; omega), by rw [g2, a2]⟩ ⟨fun b hb => m b (by revert b; decide) (by revert b; decide) (by revert b; decide), fun j hj => m0 j (by revert j; decide)⟩, Fq_of f', w', Pa_G p2 (fun b h1 h2 => g1 b (by omega) (by omega)) (g3 5 (by omega)) (by rw [g3 0 (by omega)]), Im_G i (fun b h1 h2 => c b (by omega)) (m 6 (by omega) (by omega) (by omega)), s1⟩
/-- promise 13 -/
theorem sb_drift (h : RB S1 S2) (hJ : JC S1) (hM : JM S2) : (F_X9_drift S1 x).1 = (F_X10_drift S2 x).1 ∧ RB (F_X9_drift S1 x).2 (F_X10_drift S2 x).2 := by
  have ei : F_X10_in S2 x.toInt64 1 60 = if mm_b 1 60 x then 1 else 0 := m_in (lo := 1) (hi := 60)
  rw [F_X9_drift, F_X10_drift, ei]
  by_cases q1 : x < 1
  · have q2 : x.toInt < 1 := Int32.lt_iff_toInt_lt.mp q1
    rw [if_pos q1, if_neg (show ¬ mm_b 1 60 x from fun z => by have := z.1; omega), if_pos (show (0 : Int32) = 0 from rfl)]
    exact ⟨rfl, h⟩
  · have q2 : (1 : Int) ≤ x.toInt := Int32.le_iff_toInt_le.mp (bd_nlt q1)
    rw [if_neg q1]
    by_cases q3 : x ≤ 60
    · have q4 : x.toInt ≤ 60 := Int32.le_iff_toInt_le.mp q3
      have ea : S1.1 (S1.2.2 0 1) 0 = S2.1 1 0 := h.1.2.2.1.1.1
      rw [if_pos q3, if_pos (show mm_b 1 60 x from ⟨q2, q4⟩), if_neg one0, ea]
      by_cases q5 : S2.1 1 0 = 0
      · rw [if_pos q5, if_pos q5]
        exact ⟨rfl, h⟩
      · rw [if_neg q5, if_neg q5, F_X9_drift_fttc38, F_X10_drift_ttc31]
        have hP := h.1.2.2.1.2.1.1
        have hP1 : mm_b 1 7 (S2.1 1 0) := by
          obtain ⟨z1, z2⟩ := hP
          refine ⟨?_, z2⟩
          have : (S2.1 1 0).toInt ≠ 0 := fun z => q5 (Int32.toInt_inj.mp z)
          omega
        obtain ⟨f, w, e1, e3⟩ := rm_fk h q5
        obtain ⟨⟨n, y, hn, hx, hm, n20, x20, -⟩, -⟩ := h.2.2.2
        obtain ⟨⟨a1, a2⟩, -, -, -⟩ := rmC hn hx n20 x20
        obtain ⟨d, -, ⟨b1, b2, b3⟩, -, -, -⟩ := rmM hm n20
        have hd := pa_in (JRC_1 hJ)
        have lx : y % 20 < 20 := Nat.mod_lt _ (by omega)
        have r128 : (F_X7_remember S1).1 128 = S1.1 128 := a1 128 (by omega) (by omega)
        have y0 : Yr (S2.1 1 0) (F_X7_remember S1) (F_X10_remember S2) (F_X7_remember S1) (F_X10_remember S2) := by
          refine ⟨⟨f, w⟩, ⟨?_, by rw [b3]; exact JM_long hM⟩, fun _ _ _ => rfl, rfl, fun _ _ => rfl⟩
          unfold Se
          rw [r128, b3]
          exact h.2.2.2.2.2
        have r := yrL (x := x) hP1 e1 (by rw [a2]; omega) (by rw [a2, a1 (S1.2.2 0 1) (by omega) (by omega)]; exact ea) 62 _ _ 0 y0
        exact ⟨r.1, RB_yr h hJ q5 r.2⟩
    · have q4 : (60 : Int) < x.toInt := Int32.lt_iff_toInt_lt.mp (bd_nle q3)
      rw [if_neg q3, if_neg (show ¬ mm_b 1 60 x from fun z => by have := z.2; omega), if_pos (show (0 : Int32) = 0 from rfl)]
      exact ⟨rfl, h⟩
end DRF
