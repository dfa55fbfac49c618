/-! ===== the relation kept: feed, see, has, write, tear, keep, parish ===== -/
section ST
variable {S1 S2 U1 U2 : mm_S} {x y : Int32}
def Rt (S1 S2 : mm_S) : Prop := S1.1 1 0 = S2.1 0 10 ∧ S1.1 2 = S2.1 8 ∧ S1.1 1 2 = S2.1 0 11
def Rp (S1 S2 : mm_S) : Prop := ¬ S1.2.2 0 1 = S1.2.2 0 2 ∧ Pr (S1.2.2 0 1) S1 S2
def Rk (S1 S2 : mm_S) : Prop := S1.1 151 0 = S2.1 7 0 ∧ S1.1 157 0 = S2.1 7 1
theorem RA_mk (a : Rt S1 S2) (b : Rp S1 S2) (c : Rk S1 S2) (d : En 129 13 9 S1 S2) (e : En 132 15 10 S1 S2) (f : En 135 17 11 S1 S2) : RA S1 S2 := ⟨a, b.1, b.2, c, d, e, f⟩
theorem Rt_G (h : Rt S1 S2) (c1 : U1.1 1 = S1.1 1) (c2 : U1.1 2 = S1.1 2) (m8 : U2.1 8 = S2.1 8) (m10 : U2.1 0 10 = S2.1 0 10) (m11 : U2.1 0 11 = S2.1 0 11) : Rt U1 U2 := by
  unfold Rt
  rw [c1, c2, m8, m10, m11]
  exact h
theorem Rp_G (h : Rp S1 S2) (hJ : JC S1) (c2 : U1.2 = S1.2) (hr : ∀ b, 3 ≤ b → b ≤ 14 → U1.1 b = S1.1 b) (m1 : U2.1 1 = S2.1 1) : Rp U1 U2 := by
  have ha : 3 ≤ S1.2.2 0 1 ∧ S1.2.2 0 1 ≤ 9 := by rcases pa_in (JRC_1 hJ) with q | q <;> omega
  unfold Rp Pr
  rw [c2, m1, hr (S1.2.2 0 1) (by omega) (by omega), hr (S1.2.2 0 1 + 1) (by omega) (by omega), hr (S1.2.2 0 1 + 4) (by omega) (by omega), hr (S1.2.2 0 1 + 5) (by omega) (by omega)]
  exact h
theorem Rk_G (h : Rk S1 S2) (c1 : U1.1 151 = S1.1 151) (c2 : U1.1 157 = S1.1 157) (m7 : U2.1 7 = S2.1 7) : Rk U1 U2 := by
  unfold Rk
  rw [c1, c2, m7]
  exact h
theorem En_G {s z w : Nat} (h : En s z w S1 S2) (c0 : U1.1 s = S1.1 s) (c1 : U1.1 (s + 1) = S1.1 (s + 1)) (c2 : U1.1 (s + 2) = S1.1 (s + 2)) (mz : U2.1 0 z = S2.1 0 z) (mw : U2.1 w = S2.1 w) : En s z w U1 U2 := by
  unfold En
  rw [c0, c1, c2, mz, mw]
  exact h
theorem En_0 {s z w : Nat} (c0 : U1.1 s 0 = 0) (m0 : U2.1 0 z = 0) : En s z w U1 U2 := by
  refine ⟨by rw [c0, m0], fun k hk => ?_⟩
  rw [m0] at hk
  have : (0 : Int32).toInt = 0 := rfl
  omega
theorem pz_mul2 {Z : Int32} (h : mm_b 0 100 Z) : (2 * Z).toNatClampNeg = 2 * Z.toNatClampNeg ∧ (2 * Z + 1).toNatClampNeg = 2 * Z.toNatClampNeg + 1 := by
  have e : (2 * Z).toInt = 2 * Z.toInt := by
    rw [bd_ti_mul (by show -2147483648 ≤ 2 * Z.toInt; omega) (by show 2 * Z.toInt ≤ 2147483647; omega)]
    rfl
  have e2 : (2 * Z + 1).toInt = 2 * Z.toInt + 1 := by rw [pz_ti1 ⟨by omega, by omega⟩, e]
  constructor
  · show (2 * Z).toInt.toNat = 2 * Z.toInt.toNat
    omega
  · show (2 * Z + 1).toInt.toNat = 2 * Z.toInt.toNat + 1
    omega
theorem En_add {s z w : Nat} (hs : s ≠ 0) (hw : w ≠ 0) (h : En s z w S1 S2) {Z : Int32} (eZ : S2.1 0 z = Z) (hZ : mm_b 0 100 Z) : En s z w (mm_up (mm_up (mm_up S1 (s + 1) Z.toNatClampNeg x) (s + 2) Z.toNatClampNeg y) s 0 (Z + 1)) (mm_up (mm_up (mm_up S2 w (2 * Z).toNatClampNeg x) w (2 * Z + 1).toNatClampNeg y) 0 z (Z + 1)) := by
  have cZ := pz_cl (x := Z) hZ.1
  have tZ : (Z + 1).toInt = Z.toInt + 1 := pz_ti1 ⟨by omega, by omega⟩
  rw [(pz_mul2 hZ).1, (pz_mul2 hZ).2]
  obtain ⟨h1, h2⟩ := h
  rw [eZ] at h2
  generalize Z.toNatClampNeg = N at cZ ⊢
  refine ⟨by rw [up_at, up_at], fun k hk => ?_⟩
  rw [up_at, tZ] at hk
  by_cases hN : k = N
  · rw [hN]
    refine ⟨?_, ?_⟩
    · rw [up_ne (by omega), up_ne (by omega), up_at, up_ne (by omega), up_ne (by omega), up_at]
    · rw [up_ne (by omega), up_at, up_ne (by omega), up_at]
  · have q := h2 k (by omega)
    refine ⟨?_, ?_⟩
    · rw [up_ne (by omega), up_ne (by omega), up_ne (by omega), up_ne (by omega), up_ne (by omega), up_ne (by omega)]
      exact q.1
    · rw [up_ne (by omega), up_ne (by omega), up_ne (by omega), up_ne (by omega), up_ne (by omega), up_ne (by omega)]
      exact q.2
/-! feed -/
theorem st_feed (h : RA S1 S2) (hJ : JC S1) : (F_X9_feed S1 x).1 = (F_X10_feed S2 x).1 ∧ RA (F_X9_feed S1 x).2 (F_X10_feed S2 x).2 := by
  obtain ⟨a1, a2, a3, a4, a5, a6, a7⟩ := h
  have hn : mm_b 0 240 (S1.1 1 0) := JIC_fld hJ rfl tbC_0 (by decide)
  have e : F_X10_in S2 x.toInt64 0 255 = if mm_b 0 255 x then 1 else 0 := m_in (lo := 0) (hi := 255)
  rw [F_X9_feed, F_X10_feed, e]
  by_cases q : x < 0
  · have q2 : x.toInt < 0 := Int32.lt_iff_toInt_lt.mp q
    rw [if_pos q, if_neg (fun z : mm_b 0 255 x => by omega), if_pos (show (0 : Int32) = 0 from rfl)]
    exact ⟨rfl, a1, a2, a3, a4, a5, a6, a7⟩
  · have q2 : 0 ≤ x.toInt := Int32.le_iff_toInt_le.mp (bd_nlt q)
    rw [if_neg q]
    by_cases r : x ≤ 255
    · have r2 : x.toInt ≤ 255 := Int32.le_iff_toInt_le.mp r
      rw [if_pos r, if_pos (show mm_b 0 255 x from ⟨q2, r2⟩), if_neg one0, F_X8_add, ← a1.1]
      by_cases f : S1.1 1 0 < 240
      · have f2 : ¬ S1.1 1 0 = 240 := fun z => by rw [z] at f; exact absurd f (by decide)
        rw [if_pos f, if_neg f2]
        show (F_X9_feed_ftc22 1 (mm_up (mm_up S1 2 (S1.1 1 0).toNatClampNeg x) 1 0 (S1.1 1 0 + 1))).1 = _ ∧ RA (F_X9_feed_ftc22 1 (mm_up (mm_up S1 2 (S1.1 1 0).toNatClampNeg x) 1 0 (S1.1 1 0 + 1))).2 _
        rw [F_X9_feed_ftc22, if_neg one0]
        refine ⟨(by dsimp only; rw [up_at]), RA_mk ⟨?_, ?_, ?_⟩ (Rp_G ⟨a2, a3⟩ hJ (by rw [up_2, up_2]) (fun b h3 h14 => by rw [up_row (by omega), up_row (by omega)]) (by rw [up_row (by omega), up_row (by omega)])) (Rk_G a4 (by rw [up_row (by omega), up_row (by omega)]) (by rw [up_row (by omega), up_row (by omega)]) (by rw [up_row (by omega), up_row (by omega)])) (En_G a5 (by rw [up_row (by omega), up_row (by omega)]) (by rw [up_row (by omega), up_row (by omega)]) (by rw [up_row (by omega), up_row (by omega)]) (by rw [up_ne (by omega), up_ne (by omega)]) (by rw [up_row (by omega), up_row (by omega)])) (En_G a6 (by rw [up_row (by omega), up_row (by omega)]) (by rw [up_row (by omega), up_row (by omega)]) (by rw [up_row (by omega), up_row (by omega)]) (by rw [up_ne (by omega), up_ne (by omega)]) (by rw [up_row (by omega), up_row (by omega)])) (En_G a7 (by rw [up_row (by omega), up_row (by omega)]) (by rw [up_row (by omega), up_row (by omega)]) (by rw [up_row (by omega), up_row (by omega)]) (by rw [up_ne (by omega), up_ne (by omega)]) (by rw [up_row (by omega), up_row (by omega)]))⟩
        · show (mm_up (mm_up S1 2 (S1.1 1 0).toNatClampNeg x) 1 0 (S1.1 1 0 + 1)).1 1 0 = _
          rw [up_at, up_at]
        · show (mm_up (mm_up S1 2 (S1.1 1 0).toNatClampNeg x) 1 0 (S1.1 1 0 + 1)).1 2 = (mm_up (mm_up S2 8 (S1.1 1 0).toNatClampNeg x) 0 10 (S1.1 1 0 + 1)).1 8
          rw [up_row (show 2 ≠ 1 by omega), up_row (show 8 ≠ 0 by omega)]
          funext i
          show (if 2 = 2 ∧ i = (S1.1 1 0).toNatClampNeg then x else S1.1 2 i) = (if 8 = 8 ∧ i = (S1.1 1 0).toNatClampNeg then x else S2.1 8 i)
          rw [a1.2.1]
          by_cases z : i = (S1.1 1 0).toNatClampNeg
          · rw [if_pos ⟨rfl, z⟩, if_pos ⟨rfl, z⟩]
          · rw [if_neg (fun q => z q.2), if_neg (fun q => z q.2)]
        · show (mm_up (mm_up S1 2 (S1.1 1 0).toNatClampNeg x) 1 0 (S1.1 1 0 + 1)).1 1 2 = _
          rw [up_ne (by omega), up_ne (by omega), up_ne (by omega), up_ne (by omega)]
          exact a1.2.2
      · have f2 : S1.1 1 0 = 240 := Int32.toInt_inj.mp (by have z : 240 ≤ (S1.1 1 0).toInt := Int32.le_iff_toInt_le.mp (bd_nlt f); show (S1.1 1 0).toInt = 240; omega)
        rw [if_neg f, if_pos f2]
        show (F_X9_feed_ftc22 0 S1).1 = _ ∧ RA (F_X9_feed_ftc22 0 S1).2 _
        rw [F_X9_feed_ftc22, if_pos (show (0 : Int32) = 0 from rfl)]
        exact ⟨rfl, a1, a2, a3, a4, a5, a6, a7⟩
    · have r2 : 255 < x.toInt := Int32.lt_iff_toInt_lt.mp (bd_nle r)
      rw [if_neg r, if_neg (fun z : mm_b 0 255 x => by omega), if_pos (show (0 : Int32) = 0 from rfl)]
      exact ⟨rfl, a1, a2, a3, a4, a5, a6, a7⟩
/-! entries -/
theorem add_ok (s z w : Nat) (M : Int32) (hM : mm_b 0 15 M) (hsw : (s = 129 ∧ z = 13 ∧ w = 9) ∨ (s = 132 ∧ z = 15 ∧ w = 10) ∨ (s = 135 ∧ z = 17 ∧ w = 11)) (h : RA S1 S2) (hJ : JC S1) (hb : mm_b 0 M.toInt (S2.1 0 z)) (hf : ¬ S2.1 0 z = M) : RA (mm_up (mm_up (mm_up S1 (s + 1) (S2.1 0 z).toNatClampNeg x) (s + 2) (S2.1 0 z).toNatClampNeg y) s 0 (S2.1 0 z + 1)) (mm_up (mm_up (mm_up S2 w (2 * S2.1 0 z).toNatClampNeg x) w (2 * S2.1 0 z + 1).toNatClampNeg y) 0 z (S2.1 0 z + 1)) := by
  obtain ⟨a1, a2, a3, a4, a5, a6, a7⟩ := h
  have hs1 : 129 ≤ s ∧ s ≤ 135 := by omega
  have hz1 : 13 ≤ z ∧ z ≤ 17 := by omega
  have hw1 : 9 ≤ w ∧ w ≤ 11 := by omega
  have eE : En s z w S1 S2 := by
    rcases hsw with ⟨rfl, rfl, rfl⟩ | ⟨rfl, rfl, rfl⟩ | ⟨rfl, rfl, rfl⟩
    · exact a5
    · exact a6
    · exact a7
  have eA := En_add (x := x) (y := y) (by omega) (by omega) eE rfl ⟨hb.1, by omega⟩
  have c1 : ∀ b, b ≠ s → b ≠ s + 1 → b ≠ s + 2 → (mm_up (mm_up (mm_up S1 (s + 1) (S2.1 0 z).toNatClampNeg x) (s + 2) (S2.1 0 z).toNatClampNeg y) s 0 (S2.1 0 z + 1)).1 b = S1.1 b := fun b h0 h1 h2 => by rw [up_row h0, up_row h2, up_row h1]
  have c2 : (mm_up (mm_up (mm_up S1 (s + 1) (S2.1 0 z).toNatClampNeg x) (s + 2) (S2.1 0 z).toNatClampNeg y) s 0 (S2.1 0 z + 1)).2 = S1.2 := by rw [up_2, up_2, up_2]
  have m1 : ∀ b, b ≠ 0 → b ≠ w → (mm_up (mm_up (mm_up S2 w (2 * S2.1 0 z).toNatClampNeg x) w (2 * S2.1 0 z + 1).toNatClampNeg y) 0 z (S2.1 0 z + 1)).1 b = S2.1 b := fun b h0 h1 => by rw [up_row h0, up_row h1, up_row h1]
  have m0 : ∀ j, j ≠ z → (mm_up (mm_up (mm_up S2 w (2 * S2.1 0 z).toNatClampNeg x) w (2 * S2.1 0 z + 1).toNatClampNeg y) 0 z (S2.1 0 z + 1)).1 0 j = S2.1 0 j := fun j h0 => by rw [up_ne (by omega), up_ne (by omega), up_ne (by omega)]
  generalize mm_up (mm_up (mm_up S1 (s + 1) (S2.1 0 z).toNatClampNeg x) (s + 2) (S2.1 0 z).toNatClampNeg y) s 0 (S2.1 0 z + 1) = U1 at *
  generalize mm_up (mm_up (mm_up S2 w (2 * S2.1 0 z).toNatClampNeg x) w (2 * S2.1 0 z + 1).toNatClampNeg y) 0 z (S2.1 0 z + 1) = U2 at *
  have T : Rt U1 U2 := Rt_G a1 (c1 1 (by omega) (by omega) (by omega)) (c1 2 (by omega) (by omega) (by omega)) (m1 8 (by omega) (by omega)) (m0 10 (by omega)) (m0 11 (by omega))
  have Pp : Rp U1 U2 := Rp_G ⟨a2, a3⟩ hJ c2 (fun b h3 h14 => c1 b (by omega) (by omega) (by omega)) (m1 1 (by omega) (by omega))
  have K : Rk U1 U2 := Rk_G a4 (c1 151 (by omega) (by omega) (by omega)) (c1 157 (by omega) (by omega) (by omega)) (m1 7 (by omega) (by omega))
  rcases hsw with ⟨rfl, rfl, rfl⟩ | ⟨rfl, rfl, rfl⟩ | ⟨rfl, rfl, rfl⟩
  · exact RA_mk T Pp K eA (En_G a6 (c1 132 (by omega) (by omega) (by omega)) (c1 (132 + 1) (by omega) (by omega) (by omega)) (c1 (132 + 2) (by omega) (by omega) (by omega)) (m0 15 (by omega)) (m1 10 (by omega) (by omega))) (En_G a7 (c1 135 (by omega) (by omega) (by omega)) (c1 (135 + 1) (by omega) (by omega) (by omega)) (c1 (135 + 2) (by omega) (by omega) (by omega)) (m0 17 (by omega)) (m1 11 (by omega) (by omega)))
  · exact RA_mk T Pp K (En_G a5 (c1 129 (by omega) (by omega) (by omega)) (c1 (129 + 1) (by omega) (by omega) (by omega)) (c1 (129 + 2) (by omega) (by omega) (by omega)) (m0 13 (by omega)) (m1 9 (by omega) (by omega))) eA (En_G a7 (c1 135 (by omega) (by omega) (by omega)) (c1 (135 + 1) (by omega) (by omega) (by omega)) (c1 (135 + 2) (by omega) (by omega) (by omega)) (m0 17 (by omega)) (m1 11 (by omega) (by omega)))
  · exact RA_mk T Pp K (En_G a5 (c1 129 (by omega) (by omega) (by omega)) (c1 (129 + 1) (by omega) (by omega) (by omega)) (c1 (129 + 2) (by omega) (by omega) (by omega)) (m0 13 (by omega)) (m1 9 (by omega) (by omega))) (En_G a6 (c1 132 (by omega) (by omega) (by omega)) (c1 (132 + 1) (by omega) (by omega) (by omega)) (c1 (132 + 2) (by omega) (by omega) (by omega)) (m0 15 (by omega)) (m1 10 (by omega) (by omega))) eA
theorem full_eq {Z M : Int32} (h : mm_b 0 M.toInt Z) : (M ≤ Z) ↔ Z = M := by
  constructor
  · intro q
    have := Int32.le_iff_toInt_le.mp q
    exact Int32.toInt_inj.mp (by omega)
  · intro q
    rw [q]
    exact Int32.le_iff_toInt_le.mpr (Int.le_refl _)
/-- promise 21 -/
theorem st_see (h : RA S1 S2) (hJ : JC S1) (hM : JM S2) : (F_X9_see S1 x y).1 = (F_X10_see S2 x y).1 ∧ RA (F_X9_see S1 x y).2 (F_X10_see S2 x y).2 := by
  have hb : mm_b 0 6 (S2.1 0 13) := JIM_fld hM rfl tbM_3 (by decide)
  have e9 := h.2.2.2.2.1.1
  rw [F_X9_see, F_X10_see, an_d h]
  by_cases q : F_X10_in S2 x.toInt64 0 (S2.1 1 1 - 1).toInt64 = 0
  · rw [if_pos q, if_pos q]
    exact ⟨rfl, h⟩
  · rw [if_neg q, if_neg q, F_X2_add_129, F_X2_add_129, e9]
    by_cases f : S2.1 0 13 = 6
    · have f2 : (6 : Int32) ≤ S2.1 0 13 := (full_eq (M := 6) hb).mpr f
      rw [if_pos f2, if_pos f2, if_pos f]
      have z : (if y = 0 then F_X9_see_ttc31 (0 : Int32) S1 else F_X9_see_ttc31 0 S1) = ((-1000000004 : Int32), S1) := by
        rw [F_X9_see_ttc31, if_pos (show (0 : Int32) = 0 from rfl)]
        split <;> rfl
      show (if y = 0 then F_X9_see_ttc31 (0 : Int32) S1 else F_X9_see_ttc31 0 S1).1 = _ ∧ RA (if y = 0 then F_X9_see_ttc31 (0 : Int32) S1 else F_X9_see_ttc31 0 S1).2 _
      rw [z]
      exact ⟨rfl, h⟩
    · have f2 : ¬ (6 : Int32) ≤ S2.1 0 13 := fun z => f ((full_eq (M := 6) hb).mp z)
      rw [if_neg f2, if_neg f2, if_neg f]
      have key : ∀ u : Int32, RA (mm_up (mm_up (mm_up S1 130 (S2.1 0 13).toNatClampNeg x) 131 (S2.1 0 13).toNatClampNeg u) 129 0 (S2.1 0 13 + 1)) (mm_up (mm_up (mm_up S2 9 (2 * S2.1 0 13).toNatClampNeg x) 9 (2 * S2.1 0 13 + 1).toNatClampNeg u) 0 13 (S2.1 0 13 + 1)) := fun u => add_ok 129 13 9 6 (by decide) (Or.inl ⟨rfl, rfl, rfl⟩) h hJ hb f
      by_cases y0 : y = 0
      · rw [if_pos y0, if_pos y0]
        show (F_X9_see_ttc31 1 _).1 = _ ∧ RA (F_X9_see_ttc31 1 _).2 _
        rw [F_X9_see_ttc31, if_neg one0]
        exact ⟨(by dsimp only; rw [up_at]), key 0⟩
      · rw [if_neg y0, if_neg y0]
        show (F_X9_see_ttc31 1 _).1 = _ ∧ RA (F_X9_see_ttc31 1 _).2 _
        rw [F_X9_see_ttc31, if_neg one0]
        exact ⟨(by dsimp only; rw [up_at]), key 1⟩
theorem an_use : F_X9_isVoiceOrNone S1 x = F_X10_isUse S2 x := by
  have e : F_X10_isVoice S2 x = if mm_b 0 6 x then 1 else 0 := m_in (lo := 0) (hi := 6)
  rw [F_X9_isVoiceOrNone, F_X10_isUse, e, F_X9_isVoiceNumber]
  by_cases h9 : x = 9
  · rw [h9]
    decide
  · rw [if_neg h9, if_neg h9]
    by_cases q : x < 0
    · have : x.toInt < 0 := Int32.lt_iff_toInt_lt.mp q
      rw [if_pos q, if_neg (show ¬ mm_b 0 6 x from fun z => by omega)]
    · have q2 : 0 ≤ x.toInt := Int32.le_iff_toInt_le.mp (bd_nlt q)
      rw [if_neg q]
      by_cases r : (7 : Int32) ≤ x
      · have : (7 : Int) ≤ x.toInt := Int32.le_iff_toInt_le.mp r
        rw [if_pos r, if_neg (show ¬ mm_b 0 6 x from fun z => by omega)]
      · have : x.toInt < 7 := Int32.lt_iff_toInt_lt.mp (bd_nle r)
        rw [if_neg r, if_pos (show mm_b 0 6 x from ⟨q2, by omega⟩)]
/-- promise 24 -/
theorem st_has (h : RA S1 S2) (hJ : JC S1) (hM : JM S2) : (F_X9_has S1 x y).1 = (F_X10_has S2 x y).1 ∧ RA (F_X9_has S1 x y).2 (F_X10_has S2 x y).2 := by
  have hb : mm_b 0 6 (S2.1 0 15) := JIM_fld hM rfl tbM_4 (by decide)
  have e9 := h.2.2.2.2.2.1.1
  rw [F_X9_has, F_X10_has, an_p h, an_use (S1 := S1) (S2 := S2)]
  by_cases q : F_X10_isPerson S2 x = 0
  · rw [if_pos q, if_pos q]
    exact ⟨rfl, h⟩
  · rw [if_neg q, if_neg q]
    by_cases r : F_X10_isUse S2 y = 0
    · rw [if_pos r, if_pos r]
      exact ⟨rfl, h⟩
    · rw [if_neg r, if_neg r, F_X2_add_132, e9]
      by_cases f : S2.1 0 15 = 6
      · rw [if_pos ((full_eq (M := 6) hb).mpr f), if_pos f]
        show (F_X9_has_ftc30 0 S1).1 = _ ∧ RA (F_X9_has_ftc30 0 S1).2 _
        rw [F_X9_has_ftc30, if_pos (show (0 : Int32) = 0 from rfl)]
        exact ⟨rfl, h⟩
      · rw [if_neg (fun z => f ((full_eq (M := 6) hb).mp z)), if_neg f]
        show (F_X9_has_ftc30 1 _).1 = _ ∧ RA (F_X9_has_ftc30 1 _).2 _
        rw [F_X9_has_ftc30, if_neg one0]
        exact ⟨(by dsimp only; rw [up_at]), add_ok 132 15 10 6 (by decide) (Or.inr (Or.inl ⟨rfl, rfl, rfl⟩)) h hJ hb f⟩
/-- promise 26 -/
theorem st_write (h : RA S1 S2) (hJ : JC S1) (hM : JM S2) : (F_X9_write S1 x y).1 = (F_X10_write S2 x y).1 ∧ RA (F_X9_write S1 x y).2 (F_X10_write S2 x y).2 := by
  have hb : mm_b 0 15 (S2.1 0 17) := JIM_fld hM rfl tbM_5 (by decide)
  have e9 := h.2.2.2.2.2.2.1
  rw [F_X9_write, F_X10_write, an_p h, an_use (S1 := S1) (S2 := S2)]
  by_cases q : F_X10_isPerson S2 x = 0
  · rw [if_pos q, if_pos q]
    exact ⟨rfl, h⟩
  · rw [if_neg q, if_neg q]
    by_cases r : F_X10_isUse S2 y = 0
    · rw [if_pos r, if_pos r]
      exact ⟨rfl, h⟩
    · rw [if_neg r, if_neg r, F_X2_add_135, e9]
      by_cases f : S2.1 0 17 = 15
      · rw [if_pos ((full_eq (M := 15) hb).mpr f), if_pos f]
        show (F_X9_write_ftc30 0 S1).1 = _ ∧ RA (F_X9_write_ftc30 0 S1).2 _
        rw [F_X9_write_ftc30, if_pos (show (0 : Int32) = 0 from rfl)]
        exact ⟨rfl, h⟩
      · rw [if_neg (fun z => f ((full_eq (M := 15) hb).mp z)), if_neg f]
        show (F_X9_write_ftc30 1 _).1 = _ ∧ RA (F_X9_write_ftc30 1 _).2 _
        rw [F_X9_write_ftc30, if_neg one0]
        exact ⟨(by dsimp only; rw [up_at]), add_ok 135 17 11 15 (by decide) (Or.inr (Or.inr ⟨rfl, rfl, rfl⟩)) h hJ hb f⟩
/-- promise 27 -/
theorem st_tear (h : RA S1 S2) (hJ : JC S1) : (F_X9_tear S1).1 = (F_X10_tear S2).1 ∧ RA (F_X9_tear S1).2 (F_X10_tear S2).2 := by
  obtain ⟨a1, a2, a3, a4, a5, a6, a7⟩ := h
  rw [F_X9_tear, F_X9_tear_c31, F_X9_tear_c31c38, F_X9_tear_c31c38c45, F_X2_clear_129, F_X2_clear_132, F_X2_clear_135, F_X10_tear, a5.1, a6.1, a7.1]
  refine ⟨rfl, RA_mk (Rt_G a1 ?_ ?_ ?_ ?_ ?_) (Rp_G ⟨a2, a3⟩ hJ ?_ (fun b h3 h14 => ?_) ?_) (Rk_G a4 ?_ ?_ ?_) (En_0 ?_ ?_) (En_0 ?_ ?_) (En_0 ?_ ?_)⟩
  · rw [up_row (by omega), up_row (by omega), up_row (by omega)]
  · rw [up_row (by omega), up_row (by omega), up_row (by omega)]
  · rw [up_row (by omega), up_row (by omega), up_row (by omega)]
  · rw [up_ne (by omega), up_ne (by omega), up_ne (by omega)]
  · rw [up_ne (by omega), up_ne (by omega), up_ne (by omega)]
  · rw [up_2, up_2, up_2]
  · rw [up_row (by omega), up_row (by omega), up_row (by omega)]
  · rw [up_row (by omega), up_row (by omega), up_row (by omega)]
  · rw [up_row (by omega), up_row (by omega), up_row (by omega)]
  · rw [up_row (by omega), up_row (by omega), up_row (by omega)]
  · rw [up_row (by omega), up_row (by omega), up_row (by omega)]
  · rw [up_ne (by omega), up_ne (by omega), up_at]
  · rw [up_ne (by omega), up_ne (by omega), up_at]
  · rw [up_ne (by omega), up_at]
  · rw [up_ne (by omega), up_at]
  · rw [up_at]
  · rw [up_at]
end ST
