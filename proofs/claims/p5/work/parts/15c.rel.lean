/-! ===== the relation: text, parish, kept, seen, known, book ===== -/
def Pr (a : Nat) (S1 S2 : mm_S) : Prop :=
  (S1.1 a 0 = S2.1 1 0 ∧ S1.1 a 1 = S2.1 1 1 ∧ S1.1 a 2 = S2.1 1 2) ∧
  (mm_b 0 7 (S2.1 1 0) ∧ mm_b 0 6 (S2.1 1 1) ∧ mm_b 0 6 (S2.1 1 2)) ∧
  (∀ p : Nat, (p : Int) < (S2.1 1 0).toInt → S1.1 (a + 1) p = S2.1 1 (3 + p)) ∧
  (∀ p : Nat, p < 7 → (S2.1 1 0).toInt ≤ p → S2.1 1 (3 + p) = 9) ∧
  (∀ p : Nat, (p : Int) < (S2.1 1 1).toInt → S1.1 (a + 4) p = S2.1 1 (25 + p)) ∧
  (∀ p : Nat, (p : Int) < (S2.1 1 2).toInt → S1.1 (a + 5) p = S2.1 1 (31 + p))
def En (s z w : Nat) (S1 S2 : mm_S) : Prop := S1.1 s 0 = S2.1 0 z ∧ ∀ k : Nat, (k : Int) < (S2.1 0 z).toInt → S1.1 (s + 1) k = S2.1 w (2 * k) ∧ S1.1 (s + 2) k = S2.1 w (2 * k + 1)
def RA (S1 S2 : mm_S) : Prop :=
  (S1.1 1 0 = S2.1 0 10 ∧ S1.1 2 = S2.1 8 ∧ S1.1 1 2 = S2.1 0 11) ∧
  ¬ S1.2.2 0 1 = S1.2.2 0 2 ∧ Pr (S1.2.2 0 1) S1 S2 ∧
  (S1.1 151 0 = S2.1 7 0 ∧ S1.1 157 0 = S2.1 7 1) ∧
  En 129 13 9 S1 S2 ∧ En 132 15 10 S1 S2 ∧ En 135 17 11 S1 S2
abbrev LG1 : List Nat := [1, 2, 3, 4, 5, 6, 7, 8, 9, 10, 11, 12, 13, 14, 129, 130, 131, 132, 133, 134, 135, 136, 137, 151, 157]
abbrev LG2 : List Nat := [1, 7, 8, 9, 10, 11]
abbrev LF2 : List Nat := [10, 11, 13, 15, 17]
def G1 (S U : mm_S) : Prop := (∀ b ∈ LG1, U.1 b = S.1 b) ∧ U.2 = S.2
def G2 (S U : mm_S) : Prop := (∀ b ∈ LG2, U.1 b = S.1 b) ∧ ∀ j ∈ LF2, U.1 0 j = S.1 0 j
theorem G1_rf {S : mm_S} : G1 S S := ⟨fun _ _ => rfl, rfl⟩
theorem G2_rf {S : mm_S} : G2 S S := ⟨fun _ _ => rfl, fun _ _ => rfl⟩
theorem G1_eq {S U : mm_S} (h : S = U) : G1 S U := h ▸ G1_rf
theorem G2_eq {S U : mm_S} (h : S = U) : G2 S U := h ▸ G2_rf
theorem fr_G1 {wr wf : List Nat} {m : Bool} {S U : mm_S} (h : fr wr wf true m S U) (hd : ∀ b ∈ LG1, b ∉ wr ∧ b ≠ 0) : G1 S U := ⟨fun b hb => funext fun j => h.1 b j (hd b hb).1 (hd b hb).2, h.2.2.1 rfl⟩
theorem fr_G2 {wr wf : List Nat} {k m : Bool} {S U : mm_S} (h : fr wr wf k m S U) (hd : ∀ b ∈ LG2, b ∉ wr ∧ b ≠ 0) (hf : ∀ j ∈ LF2, j ∉ wf) : G2 S U := ⟨fun b hb => funext fun j => h.1 b j (hd b hb).1 (hd b hb).2, fun j hj => h.2.1 j (hf j hj)⟩
theorem pa_in {a : Nat} (h : a ∈ LC_parish) : a = 3 ∨ a = 9 := by
  rcases List.mem_cons.mp h with h | h
  · exact Or.inl h
  · exact Or.inr (List.mem_singleton.mp h)
theorem G1_pa {S U : mm_S} (h : G1 S U) {a : Nat} (ha : a ∈ LC_parish) : U.1 a = S.1 a ∧ U.1 (a + 1) = S.1 (a + 1) ∧ U.1 (a + 2) = S.1 (a + 2) ∧ U.1 (a + 3) = S.1 (a + 3) ∧ U.1 (a + 4) = S.1 (a + 4) ∧ U.1 (a + 5) = S.1 (a + 5) := by
  rcases pa_in ha with rfl | rfl
  · exact ⟨h.1 _ (by decide), h.1 _ (by decide), h.1 _ (by decide), h.1 _ (by decide), h.1 _ (by decide), h.1 _ (by decide)⟩
  · exact ⟨h.1 _ (by decide), h.1 _ (by decide), h.1 _ (by decide), h.1 _ (by decide), h.1 _ (by decide), h.1 _ (by decide)⟩
theorem RA_G {S1 S2 U1 U2 : mm_S} (h : RA S1 S2) (hJ : JC S1) (g1 : G1 S1 U1) (g2 : G2 S2 U2) : RA U1 U2 := by
  obtain ⟨⟨a1, a2, a3⟩, a4, a5, ⟨a6, a7⟩, a8, a9, a10⟩ := h
  obtain ⟨p0, p1, p2, p3, p4, p5⟩ := G1_pa g1 (JRC_1 hJ)
  refine ⟨⟨?_, ?_, ?_⟩, ?_, ?_, ⟨?_, ?_⟩, ?_, ?_, ?_⟩
  · rw [g1.1 1 (by decide), g2.2 10 (by decide)]; exact a1
  · rw [g1.1 2 (by decide), g2.1 8 (by decide)]; exact a2
  · rw [g1.1 1 (by decide), g2.2 11 (by decide)]; exact a3
  · rw [g1.2]; exact a4
  · unfold Pr
    rw [g1.2, p0, p1, p4, p5, g2.1 1 (by decide)]; exact a5
  · rw [g1.1 151 (by decide), g2.1 7 (by decide)]; exact a6
  · rw [g1.1 157 (by decide), g2.1 7 (by decide)]; exact a7
  · unfold En
    rw [g1.1 129 (by decide), g1.1 (129 + 1) (by decide), g1.1 (129 + 2) (by decide), g2.2 13 (by decide), g2.1 9 (by decide)]; exact a8
  · unfold En
    rw [g1.1 132 (by decide), g1.1 (132 + 1) (by decide), g1.1 (132 + 2) (by decide), g2.2 15 (by decide), g2.1 10 (by decide)]; exact a9
  · unfold En
    rw [g1.1 135 (by decide), g1.1 (135 + 1) (by decide), g1.1 (135 + 2) (by decide), g2.2 17 (by decide), g2.1 11 (by decide)]; exact a10
/-! persons, doors -/
theorem has_eq {S : mm_S} {x P : Int32} (hP : mm_b 0 7 P) : (if x < 0 then (0 : Int32) else if P ≤ x then 0 else 1) = F_X10_in S x.toInt64 0 (P - 1).toInt64 := by
  have e : F_X10_in S x.toInt64 0 (P - 1).toInt64 = if mm_b 0 (P - 1).toInt x then 1 else 0 := m_in (lo := 0)
  have t := pz_sub1 hP
  rw [e]
  by_cases h : x < 0
  · have h2 : x.toInt < 0 := Int32.lt_iff_toInt_lt.mp h
    rw [if_pos h, if_neg (fun q => by omega)]
  · have h2 : 0 ≤ x.toInt := Int32.le_iff_toInt_le.mp (bd_nlt h)
    rw [if_neg h]
    by_cases q : P ≤ x
    · have := Int32.le_iff_toInt_le.mp q
      rw [if_pos q, if_neg (fun q => by omega)]
    · have := Int32.lt_iff_toInt_lt.mp (bd_nle q)
      rw [if_neg q, if_pos ⟨h2, by omega⟩]
theorem in_1 {S : mm_S} {x P : Int32} (hP : mm_b 0 7 P) (h : ¬ F_X10_in S x.toInt64 0 (P - 1).toInt64 = 0) : 0 ≤ x.toInt ∧ x.toInt < P.toInt := by
  have e : F_X10_in S x.toInt64 0 (P - 1).toInt64 = if mm_b 0 (P - 1).toInt x then 1 else 0 := m_in (lo := 0)
  have t := pz_sub1 hP
  rw [e] at h
  by_cases q : mm_b 0 (P - 1).toInt x
  · exact ⟨q.1, by omega⟩
  · rw [if_neg q] at h
    exact absurd rfl h
section AN
variable {S1 S2 : mm_S} {x y : Int32}
theorem an_p (h : RA S1 S2) : F_X6_hasPerson S1 (S1.2.2 0 1) x = F_X10_isPerson S2 x := by
  rw [F_X6_hasPerson, F_X10_isPerson, h.2.2.1.1.1]
  exact has_eq h.2.2.1.2.1.1
theorem an_d (h : RA S1 S2) : F_X6_hasDoor S1 (S1.2.2 0 1) x = F_X10_in S2 x.toInt64 0 (S2.1 1 1 - 1).toInt64 := by
  have b := h.2.2.1.2.1.2.1
  rw [F_X6_hasDoor, h.2.2.1.1.2.1]
  exact has_eq (bd_w b (by decide))
/-- promise 4 -/
theorem an_fault (h : RA S1 S2) : F_X9_fault S1 = F_X10_fault S2 := h.1.2.2
/-- promise 7 -/
theorem an_range (h : RA S1 S2) : F_X9_range S1 x = F_X10_range S2 x := by
  rw [F_X9_range, F_X10_range, F_X6_rangeOf, an_p h]
  by_cases q : F_X10_isPerson S2 x = 0
  · rw [if_pos q, if_pos q]
  · have z := in_1 h.2.2.1.2.1.1 q
    have b := h.2.2.1.2.1.1
    have cx := pz_cl (x := x) z.1
    rw [if_neg q, if_neg q, if_neg q, pz_addc (c := 3) (by decide) ⟨z.1, by omega⟩]
    exact h.2.2.1.2.2.1 _ (by omega)
/-- promise 8 -/
theorem an_door (h : RA S1 S2) : F_X9_door S1 x = F_X10_door S2 x := by
  rw [F_X9_door, F_X10_door, F_X6_knownBy, an_d h]
  by_cases q : F_X10_in S2 x.toInt64 0 (S2.1 1 1 - 1).toInt64 = 0
  · rw [if_pos q, if_pos q]
  · have b := h.2.2.1.2.1.2.1
    have z := in_1 (bd_w b (by decide)) q
    have cx := pz_cl (x := x) z.1
    rw [if_neg q, if_neg q, if_neg q, pz_addc (c := 25) (by decide) ⟨z.1, by omega⟩]
    exact h.2.2.1.2.2.2.2.1 _ (by omega)
end AN
