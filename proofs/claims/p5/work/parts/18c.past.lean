/-! ===== folk laid by: the past, the images ===== -/
def FkO (f r o : Nat) (P : Int32) (S1 S2 : mm_S) : Prop := S1.1 f 0 = S2.1 r (o + 28) ∧ S1.1 f 1 = S2.1 r (o + 29) ∧ S1.1 f 2 = P ∧ ∀ i, i < 7 → S1.1 (f + 1) i = S2.1 r (o + i) ∧ S1.1 (f + 2) i = S2.1 r (o + (7 + i)) ∧ S1.1 (f + 3) i = S2.1 r (o + (14 + i)) ∧ S1.1 (f + 4) i = S2.1 r (o + (21 + i))
def WfO (r o : Nat) (P : Int32) (S2 : mm_S) : Prop := mm_b 0 127 (S2.1 r (o + 28)) ∧ (∀ i, i < 7 → bt (S2.1 r (o + 28)) i → (i : Int) < P.toInt) ∧ ∀ i, i < 7 → (S2.1 r (o + i) = 9 ∨ mm_b 0 6 (S2.1 r (o + i))) ∧ mm_b 0 127 (S2.1 r (o + (7 + i))) ∧ (¬ bt (S2.1 r (o + 28)) i → S2.1 r (o + i) = 9 ∧ S2.1 r (o + (7 + i)) = 0) ∧ mm_b 0 9 (S2.1 r (o + (14 + i))) ∧ mm_b 0 9 (S2.1 r (o + (21 + i)))
section PS
variable {P : Int32} {S S1 S2 U1 U2 : mm_S} {g r o : Nat}
theorem FkO_in (h : Fk15 P S1 S2) (hg : 19 < g) (m : ∀ i, i < 30 → U2.1 r (o + i) = S2.1 3 i) (c : ∀ b, g ≤ b → b ≤ g + 4 → U1.1 b = (F_X3_copy S1 g 15).1 b) : FkO g r o P U1 U2 := by
  obtain ⟨-, ⟨k0, k1, k2, -⟩, k3⟩ := cp_c (S := S1) (a := g) (c := 15) (by omega)
  obtain ⟨h0, h1, h2, h3⟩ := h
  refine ⟨?_, ?_, ?_, fun i hi => ?_⟩
  · rw [c g (by omega) (by omega), k0, m 28 (by omega)]; exact h0
  · rw [c g (by omega) (by omega), k1, m 29 (by omega)]; exact h1
  · rw [c g (by omega) (by omega), k2]; exact h2
  · obtain ⟨a1, a2, a3, a4⟩ := k3 i hi
    rw [c (g + 1) (by omega) (by omega), c (g + 2) (by omega) (by omega), c (g + 3) (by omega) (by omega), c (g + 4) (by omega) (by omega), a1, a2, a3, a4, m i (by omega), m (7 + i) (by omega), m (14 + i) (by omega), m (21 + i) (by omega)]
    exact h3 i hi
theorem WfO_in (w : Wf 3 P S2) (m : ∀ i, i < 30 → U2.1 r (o + i) = S2.1 3 i) : WfO r o P U2 := by
  obtain ⟨w0, w1, w2⟩ := w
  refine ⟨by rw [m 28 (by omega)]; exact w0, by rw [m 28 (by omega)]; exact w1, fun i hi => ?_⟩
  rw [m 28 (by omega), m i (by omega), m (7 + i) (by omega), m (14 + i) (by omega), m (21 + i) (by omega)]
  exact w2 i hi
theorem FkO_out (h : FkO g r o P S1 S2) (hg : 19 < g) (m : ∀ i, i < 30 → U2.1 3 i = S2.1 r (o + i)) (c : ∀ b, 15 ≤ b → b ≤ 19 → U1.1 b = (F_X3_copy S1 15 g).1 b) : Fk15 P U1 U2 := by
  obtain ⟨-, ⟨k0, k1, k2, -⟩, k3⟩ := cp_c (S := S1) (a := 15) (c := g) (by omega)
  obtain ⟨h0, h1, h2, h3⟩ := h
  refine ⟨?_, ?_, ?_, fun i hi => ?_⟩
  · rw [c 15 (by omega) (by omega), k0, m 28 (by omega)]; exact h0
  · rw [c 15 (by omega) (by omega), k1, m 29 (by omega)]; exact h1
  · rw [c 15 (by omega) (by omega), k2]; exact h2
  · obtain ⟨a1, a2, a3, a4⟩ := k3 i hi
    rw [c 16 (by omega) (by omega), c 17 (by omega) (by omega), c 18 (by omega) (by omega), c 19 (by omega) (by omega), m i (by omega), m (7 + i) (by omega), m (14 + i) (by omega), m (21 + i) (by omega)]
    obtain ⟨q1, q2, q3, q4⟩ := h3 i hi
    exact ⟨a1.trans q1, a2.trans q2, a3.trans q3, a4.trans q4⟩
theorem WfO_out (w : WfO r o P S2) (m : ∀ i, i < 30 → U2.1 3 i = S2.1 r (o + i)) : Wf 3 P U2 := by
  obtain ⟨w0, w1, w2⟩ := w
  refine ⟨by rw [m 28 (by omega)]; exact w0, by rw [m 28 (by omega)]; exact w1, fun i hi => ?_⟩
  rw [m 28 (by omega), m i (by omega), m (7 + i) (by omega), m (14 + i) (by omega), m (21 + i) (by omega)]
  exact w2 i hi
theorem FkO_mv {o2 : Nat} (h : FkO g r o P S1 S2) (c : ∀ b, g ≤ b → b ≤ g + 4 → U1.1 b = S1.1 b) (m : ∀ i, i < 30 → U2.1 r (o2 + i) = S2.1 r (o + i)) : FkO g r o2 P U1 U2 := by
  obtain ⟨h0, h1, h2, h3⟩ := h
  refine ⟨?_, ?_, ?_, fun i hi => ?_⟩
  · rw [c g (by omega) (by omega), m 28 (by omega)]; exact h0
  · rw [c g (by omega) (by omega), m 29 (by omega)]; exact h1
  · rw [c g (by omega) (by omega)]; exact h2
  · rw [c (g + 1) (by omega) (by omega), c (g + 2) (by omega) (by omega), c (g + 3) (by omega) (by omega), c (g + 4) (by omega) (by omega), m i (by omega), m (7 + i) (by omega), m (14 + i) (by omega), m (21 + i) (by omega)]
    exact h3 i hi
theorem WfO_mv {o2 : Nat} (w : WfO r o P S2) (m : ∀ i, i < 30 → U2.1 r (o2 + i) = S2.1 r (o + i)) : WfO r o2 P U2 := by
  obtain ⟨w0, w1, w2⟩ := w
  refine ⟨by rw [m 28 (by omega)]; exact w0, by rw [m 28 (by omega)]; exact w1, fun i hi => ?_⟩
  rw [m 28 (by omega), m i (by omega), m (7 + i) (by omega), m (14 + i) (by omega), m (21 + i) (by omega)]
  exact w2 i hi
/-! the past -/
def Pa (P : Int32) (S1 S2 : mm_S) : Prop := ∃ n x : Nat, S1.1 25 0 = nI n ∧ S1.1 25 1 = nI x ∧ S2.1 0 5 = nI n ∧ n ≤ 20 ∧ x ≤ 20 ∧ ∀ k, k < n → FkO (27 + 5 * ((x + 20 - n + k) % 20)) 5 (30 * k) P S1 S2 ∧ WfO 5 (30 * k) P S2
theorem aa26T : ∀ k : Fin 20, aaC_26 (nI k.val) = 27 + 5 * k.val := by decide +kernel
theorem aa26 {k : Nat} (h : k < 20) : aaC_26 (nI k) = 27 + 5 * k := aa26T ⟨k, h⟩
theorem nz_1 {k : Nat} (h : k < 1000) : nI k + 1 = nI (k + 1) := by
  have e : (nI k).toInt = k := nI_toInt (by omega)
  exact Int32.toInt_inj.mp (by rw [pz_ti1 ⟨by omega, by omega⟩, e, nI_toInt (by omega)]; omega)
theorem nz_lt {k l : Nat} (hk : k < 1000) (hl : l < 1000) : (nI k < nI l) ↔ k < l := by
  rw [Int32.lt_iff_toInt_lt, nI_toInt (by omega), nI_toInt (by omega)]
  omega
theorem nz_le {k l : Nat} (hk : k < 1000) (hl : l < 1000) : (nI k ≤ nI l) ↔ k ≤ l := by
  rw [Int32.le_iff_toInt_le, nI_toInt (by omega), nI_toInt (by omega)]
  omega
theorem nz_inj {k l : Nat} (hk : k < 1000) (hl : l < 1000) : (nI k = nI l) ↔ k = l := by
  constructor
  · intro h
    have := congrArg Int32.toInt h
    rw [nI_toInt (by omega), nI_toInt (by omega)] at this
    omega
  · intro h
    rw [h]
/-- the class remembers -/
theorem rmC {n x : Nat} (hn : S1.1 25 0 = nI n) (hx : S1.1 25 1 = nI x) (n20 : n ≤ 20) (x20 : x ≤ 20) : ((∀ b, b ≠ 25 → ¬ (27 + 5 * (x % 20) ≤ b ∧ b ≤ 27 + 5 * (x % 20) + 4) → (F_X7_remember S1).1 b = S1.1 b) ∧ (F_X7_remember S1).2 = S1.2) ∧ (F_X7_remember S1).1 25 1 = nI (x % 20 + 1) ∧ (F_X7_remember S1).1 25 0 = nI (if 20 < n + 1 then 20 else n + 1) ∧ (∀ b, 27 + 5 * (x % 20) ≤ b → b ≤ 27 + 5 * (x % 20) + 4 → (F_X7_remember S1).1 b = (F_X3_copy S1 (27 + 5 * (x % 20)) 15).1 b) := by
  have x0 : ¬ nI x < 0 := fun z => absurd ((nz_lt (k := x) (l := 0) (by omega) (by omega)).mp z) (by omega)
  have hmin : ∀ T : mm_S, T.1 25 0 = nI n → (if (20 : Int32) < T.1 25 0 + 1 then (20 : Int32) else T.1 25 0 + 1) = nI (if 20 < n + 1 then 20 else n + 1) := fun T hT => by
    rw [hT, nz_1 (by omega)]
    by_cases q : 20 < n + 1
    · rw [if_pos q, if_pos (show (20 : Int32) < nI (n + 1) from (nz_lt (k := 20) (by omega) (by omega)).mpr q)]
      rfl
    · rw [if_neg q, if_neg (fun z : (20 : Int32) < nI (n + 1) => q ((nz_lt (k := 20) (by omega) (by omega)).mp z))]
  rw [F_X7_remember, hx, if_neg x0]
  by_cases q : x < 20
  · have e : x % 20 = x := by omega
    rw [if_pos (show nI x < 20 from (nz_lt (l := 20) (by omega) (by omega)).mpr q), aa26 q, e, F_X7_remember_ftc37, F_X7_remember_tu34c37u59, nz_1 (by omega)]
    obtain ⟨⟨k1, k2⟩, -, -⟩ := cp_c (S := S1) (a := 27 + 5 * x) (c := 15) (by omega)
    have c25 : (F_X3_copy S1 (27 + 5 * x) 15).1 25 = S1.1 25 := k1 25 (by omega) (by omega) (by omega) (by omega) (by omega)
    rw [hmin _ (by rw [c25]; exact hn)]
    refine ⟨⟨fun b h1 h2 => ?_, ?_⟩, ?_, ?_, fun b h1 h2 => ?_⟩
    · rw [up_row h1, up_row h1, k1 b (by omega) (by omega) (by omega) (by omega) (by omega)]
    · rw [up_2, up_2, k2]
    · rw [up_ne (by omega), up_at]
    · rw [up_at]
    · rw [up_row (by omega), up_row (by omega)]
  · have e : x % 20 = 0 := by omega
    rw [if_neg (fun z : nI x < 20 => q ((nz_lt (l := 20) (by omega) (by omega)).mp z)), F_X7_remember_tu34, show aaC_26 0 = 27 + 5 * 0 from by decide, e, F_X7_remember_tu34c37, F_X7_remember_tu34c37u59]
    obtain ⟨⟨k1, k2⟩, ⟨j0, j1, j2, j3⟩, k3⟩ := cp_c (S := mm_up S1 25 1 0) (a := 27 + 5 * 0) (c := 15) (by omega)
    obtain ⟨-, ⟨i0, i1, i2, i3⟩, l3⟩ := cp_c (S := S1) (a := 27 + 5 * 0) (c := 15) (by omega)
    have c25 : (F_X3_copy (mm_up S1 25 1 0) (27 + 5 * 0) 15).1 25 0 = nI n := by
      rw [k1 25 (by omega) (by omega) (by omega) (by omega) (by omega), up_ne (by omega)]
      exact hn
    rw [hmin _ c25]
    have ro : ∀ b, b ≠ 25 → (mm_up S1 25 1 0).1 b = S1.1 b := fun b h => up_row h
    have cpE : ∀ b, b ≠ 25 → (F_X3_copy (mm_up S1 25 1 0) (27 + 5 * 0) 15).1 b = (F_X3_copy S1 (27 + 5 * 0) 15).1 b := fun b hb => by
      have z := cpy_25 (S := S1) (v := 0) (k := 1) (g := 27 + 5 * 0) (by omega) b hb
      exact z
    refine ⟨⟨fun b h1 h2 => ?_, ?_⟩, ?_, ?_, fun b h1 h2 => ?_⟩
    · rw [up_row h1, up_row h1, k1 b (by omega) (by omega) (by omega) (by omega) (by omega), ro b h1]
    · rw [up_2, up_2, k2, up_2]
    · rw [up_ne (by omega), up_at]
      rfl
    · rw [up_at]
    · rw [up_row (by omega), up_row (by omega), cpE b (by omega)]
end PS
