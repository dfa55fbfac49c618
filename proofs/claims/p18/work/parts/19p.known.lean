/-! ===== what is known speaks of persons of this parish ===== -/
def Kn (S2 : mm_S) : Prop := ∀ k : Nat, (k : Int) < (S2.1 0 15).toInt → 0 ≤ (S2.1 10 (2 * k)).toInt ∧ (S2.1 10 (2 * k)).toInt < (S2.1 1 0).toInt
section KNs
variable {S1 S2 U1 U2 : mm_S} {x y z v p v2 : Int32}
theorem Kn_G (h : Kn S2) (m1 : U2.1 1 = S2.1 1) (m10 : U2.1 10 = S2.1 10) (z15 : U2.1 0 15 = S2.1 0 15) : Kn U2 := by
  unfold Kn
  rw [m1, m10, z15]
  exact h
theorem Kn_eq (h : Kn S2) (e : S2 = U2) : Kn U2 := e ▸ h
theorem fr_Kn {wr2 wf2 : List Nat} {k m' : Bool} (h : Kn S2) (f2 : fr wr2 wf2 k m' S2 U2) (h2 : ∀ b ∈ [1, 10], b ∉ wr2 ∧ b ≠ 0) (h3 : ∀ j ∈ [15], j ∉ wf2) : Kn U2 :=
  Kn_G h (funext fun j => f2.1 1 j (h2 1 (by decide)).1 (h2 1 (by decide)).2) (funext fun j => f2.1 10 j (h2 10 (by decide)).1 (h2 10 (by decide)).2) (f2.2.1 15 (h3 15 (by decide)))
theorem Kn_z (z15 : U2.1 0 15 = 0) : Kn U2 := by
  have t : (0 : Int32).toInt = 0 := rfl
  intro k hk
  rw [z15] at hk
  omega
theorem kn_has (h : Kn S2) (ra : RA S1 S2) (hM : JM S2) (e2 : F_X10_has S2 x y = (v2, U2)) : Kn U2 := by
  have hb : mm_b 0 6 (S2.1 0 15) := JIM_fld hM rfl tbM_4 (by decide)
  have cb := pz_cl hb.1
  obtain ⟨t1, t2, t3⟩ := two (c := S2.1 0 15) ⟨hb.1, by have := hb.2; omega⟩
  have key : (0 ≤ x.toInt ∧ x.toInt < (S2.1 1 0).toInt) → Kn (mm_up (mm_up (mm_up S2 10 (2 * S2.1 0 15).toNatClampNeg x) 10 (2 * S2.1 0 15 + 1).toNatClampNeg y) 0 15 (S2.1 0 15 + 1)) := fun hx => by
    rw [t1, t2]
    intro k hk
    rw [up_at, t3] at hk
    rw [up_ne (a := 0) (b := 10) (by omega), up_ne (a := 0) (b := 1) (by omega), up_ne (a := 10) (b := 1) (by omega), up_ne (a := 10) (b := 1) (by omega), up_ne (a := 10) (i := 2 * k) (by omega)]
    by_cases q : k = (S2.1 0 15).toNatClampNeg
    · rw [q, up_at]
      exact hx
    · rw [up_ne (by omega)]
      exact h k (by omega)
  rw [F_X10_has] at e2
  by_cases q : F_X10_isPerson S2 x = 0
  · rw [if_pos q] at e2
    exact Kn_eq h (congrArg Prod.snd e2)
  · rw [if_neg q] at e2
    have hx := in_1 ra.2.2.1.2.1.1 q
    by_cases q2 : F_X10_isUse S2 y = 0
    · rw [if_pos q2] at e2
      exact Kn_eq h (congrArg Prod.snd e2)
    · rw [if_neg q2] at e2
      by_cases q3 : S2.1 0 15 = 6
      · rw [if_pos q3] at e2
        exact Kn_eq h (congrArg Prod.snd e2)
      · rw [if_neg q3] at e2
        exact Kn_eq (key hx) (congrArg Prod.snd e2)
theorem kn_tear (e2 : F_X10_tear S2 = (v2, U2)) : Kn U2 := by
  rw [F_X10_tear] at e2
  refine Kn_eq (Kn_z ?_) (congrArg Prod.snd e2)
  rw [up_ne (by omega), up_at]
theorem kn_parish (h : Kn S2) (ra : RA S1 S2) (hJ : JC S1) (e2 : F_X10_parish S2 = (v2, U2)) : Kn U2 := by
  have hd := pa_in (JRC_2 hJ)
  have hn : pz_p (S1.1 1 0) := JIC_fld hJ rfl tbC_0 (by decide)
  have ht : ∀ j : Nat, j < 240 → 0 ≤ (S1.1 2 j).toInt := fun j hj => (JIC_fld (j := j) hJ rfl tbC_2 ⟨by omega, by omega⟩).1
  rcases parse (a := S1.2.2 0 2) (by omega) ra.1.1 ra.1.2.1 hn ht with ⟨C1, C2, c', m', q', b', s', g', v', w', e3, e4, D, hB⟩ | ⟨C1, C2, k, c', m', q', b', s', g', v', e3, e4, hk, hB⟩
  · rw [e4, F_X10_parish_L23ttu87, F_X10_parish_L23ttu87c90, F_X10_parish_L23ttu87c90c94] at e2
    generalize F_X10_copies_21 (mm_up (td C2 q' b' s' g' v' w') 0 10 0) 0 0 37 = C at e2
    obtain ⟨-, ⟨-, -, n13, n15, n17⟩, -, -, -⟩ := bg_m (S := C)
    exact Kn_eq (Kn_z n15) (congrArg Prod.snd e2)
  · rw [e4] at e2
    have e6 : mm_up (mm_up (td C2 q' b' s' g' v' k) 0 10 0) 0 11 b' = U2 := congrArg Prod.snd e2
    obtain ⟨-, ⟨k3, k4⟩, -, -, -, -⟩ := hB
    have r : ∀ b, b ≠ 0 → b ≠ 2 → U2.1 b = S2.1 b := fun b h0 h2 => by rw [← e6, up_row h0, up_row h0, td_row h0, k3 b h2, up_row h0]
    have f : ∀ j, j < 18 → j ≠ 10 → j ≠ 11 → U2.1 0 j = S2.1 0 j := fun j hj h10 h11 => by
      rw [← e6, up_ne (by omega), up_ne (by omega)]
      show (if j = 18 then q' else if j = 19 then b' else if j = 20 then s' else if j = 21 then g' else if j = 22 then v' else if j = 23 then k else C2.1 0 j) = _
      rw [if_neg (by omega), if_neg (by omega), if_neg (by omega), if_neg (by omega), if_neg (by omega), if_neg (by omega), k3 0 (by omega), up_ne (by omega)]
    exact Kn_G h (r 1 (by omega) (by omega)) (r 10 (by omega) (by omega)) (f 15 (by omega) (by omega) (by omega))
theorem Kn_0 : ∀ S, SM1 S → Kn S := by
  intro S hS
  obtain ⟨-, ⟨-, -, n13, n15, n17⟩, -, -, -⟩ := bg_m (S := F_X10_blank1 SM0)
  rw [SM1] at hS
  rw [← hS] at n15
  exact Kn_z n15
end KNs
