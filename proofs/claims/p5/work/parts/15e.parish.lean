/-! ===== the relation kept: keep, goBack's answer, parish ===== -/
section ST2
variable {S1 S2 U1 U2 : mm_S} {x y : Int32}
theorem img_v {x : Int32} (h : mm_b 0 1 x) : (x = 0 ∧ imgF x = 151) ∨ (x = 1 ∧ imgF x = 157) := by
  rcases (by omega : x.toInt = 0 ∨ x.toInt = 1) with q | q
  · have e : x = 0 := Int32.toInt_inj.mp q
    subst e
    exact Or.inl ⟨rfl, by decide⟩
  · have e : x = 1 := Int32.toInt_inj.mp q
    subst e
    exact Or.inr ⟨rfl, by decide⟩
theorem in01 {S : mm_S} : F_X10_in S x.toInt64 0 1 = if mm_b 0 1 x then 1 else 0 := m_in (lo := 0) (hi := 1)
/-- promise 30 -/
theorem st_keep (h : RA S1 S2) (hJ : JC S1) : (F_X9_keep S1 x).1 = (F_X10_keep S2 x).1 ∧ RA (F_X9_keep S1 x).2 (F_X10_keep S2 x).2 := by
  obtain ⟨a1, a2, a3, a4, a5, a6, a7⟩ := h
  rw [F_X9_keep, F_X10_keep, in01]
  by_cases q : mm_b 0 1 x
  · rw [if_pos q, if_pos q, if_neg one0, F_X9_keep_ic24, F_X9_keep_ic24u44, F_X9_keep_ic24u44c47, F_X7_forget, F_X10_keep_tc31]
    generalize hv : (31 : Int32) * x = v
    generalize hc : F_X10_copies_36 S2 0 v 30 = C2
    have hC2 : ∀ b, b ≠ 6 → C2.1 b = S2.1 b := fun b hb => by
      rw [← hc]
      exact funext fun i => if_neg (fun z => hb z.1)
    have key : ∀ (i : Nat), (imgF x = i) → (i = 151 ∨ i = 157) → (∀ b, b ≠ i → b ≠ i + 1 → b ≠ i + 1 + 1 → b ≠ i + 1 + 2 → b ≠ i + 1 + 3 → b ≠ i + 1 + 4 → b ≠ 25 → (mm_up (mm_up (mm_up (mm_up (F_X3_copy S1 (imgF x + 1) 15) (imgF x) 1 ((F_X3_copy S1 (imgF x + 1) 15).1 128 0)) (imgF x) 0 1) 25 0 0) 25 1 0).1 b = S1.1 b) ∧ (mm_up (mm_up (mm_up (mm_up (F_X3_copy S1 (imgF x + 1) 15) (imgF x) 1 ((F_X3_copy S1 (imgF x + 1) 15).1 128 0)) (imgF x) 0 1) 25 0 0) 25 1 0).2 = S1.2 ∧ (mm_up (mm_up (mm_up (mm_up (F_X3_copy S1 (imgF x + 1) 15) (imgF x) 1 ((F_X3_copy S1 (imgF x + 1) 15).1 128 0)) (imgF x) 0 1) 25 0 0) 25 1 0).1 i 0 = 1 := by
      intro i hi hi2
      rw [hi]
      obtain ⟨⟨k1, k2⟩, -, -⟩ := cp_c (S := S1) (a := i + 1) (c := 15) (by omega)
      refine ⟨fun b h0 h1 h2 h3 h4 h5 h6 => ?_, ?_, ?_⟩
      · rw [up_row h6, up_row h6, up_row h0, up_row h0, k1 b h1 h2 h3 h4 h5]
      · rw [up_2, up_2, up_2, up_2, k2]
      · rw [up_ne (by omega), up_ne (by omega), up_at]
    have m1 : ∀ b, b ≠ 0 → b ≠ 6 → b ≠ 7 → (mm_up (mm_up (mm_up C2 6 (v + 30).toNatClampNeg (C2.2.1 0 8).toInt32) 7 x.toNatClampNeg 1) 0 5 0).1 b = S2.1 b := fun b h0 h1 h2 => by rw [up_row h0, up_row h2, up_row h1, hC2 b h1]
    have m0 : ∀ j, j ≠ 5 → (mm_up (mm_up (mm_up C2 6 (v + 30).toNatClampNeg (C2.2.1 0 8).toInt32) 7 x.toNatClampNeg 1) 0 5 0).1 0 j = S2.1 0 j := fun j h0 => by rw [up_ne (by omega), up_ne (by omega), up_ne (by omega), hC2 0 (by omega)]
    have m7 : ∀ j, (mm_up (mm_up (mm_up C2 6 (v + 30).toNatClampNeg (C2.2.1 0 8).toInt32) 7 x.toNatClampNeg 1) 0 5 0).1 7 j = if j = x.toNatClampNeg then 1 else S2.1 7 j := fun j => by
      rw [up_ne (by omega)]
      show (if 7 = 7 ∧ j = x.toNatClampNeg then (1 : Int32) else (mm_up C2 6 (v + 30).toNatClampNeg (C2.2.1 0 8).toInt32).1 7 j) = _
      by_cases z : j = x.toNatClampNeg
      · rw [if_pos ⟨rfl, z⟩, if_pos z]
      · rw [if_neg (fun q => z q.2), if_neg z, up_ne (by omega), hC2 7 (by omega)]
    refine ⟨rfl, ?_⟩
    show RA (mm_up (mm_up (mm_up (mm_up (F_X3_copy S1 (imgF x + 1) 15) (imgF x) 1 ((F_X3_copy S1 (imgF x + 1) 15).1 128 0)) (imgF x) 0 1) 25 0 0) 25 1 0) (mm_up (mm_up (mm_up C2 6 (v + 30).toNatClampNeg (C2.2.1 0 8).toInt32) 7 x.toNatClampNeg 1) 0 5 0)
    generalize mm_up (mm_up (mm_up C2 6 (v + 30).toNatClampNeg (C2.2.1 0 8).toInt32) 7 x.toNatClampNeg 1) 0 5 0 = U2 at *
    generalize mm_up (mm_up (mm_up (mm_up (F_X3_copy S1 (imgF x + 1) 15) (imgF x) 1 ((F_X3_copy S1 (imgF x + 1) 15).1 128 0)) (imgF x) 0 1) 25 0 0) 25 1 0 = U1 at *
    have fin : ∀ i, (i = 151 ∨ i = 157) → (∀ b, b ≠ i → b ≠ i + 1 → b ≠ i + 1 + 1 → b ≠ i + 1 + 2 → b ≠ i + 1 + 3 → b ≠ i + 1 + 4 → b ≠ 25 → U1.1 b = S1.1 b) → U1.2 = S1.2 → Rk U1 U2 → RA U1 U2 := fun i hi k1 k2 hk =>
      RA_mk (Rt_G a1 (k1 1 (by omega) (by omega) (by omega) (by omega) (by omega) (by omega) (by omega)) (k1 2 (by omega) (by omega) (by omega) (by omega) (by omega) (by omega) (by omega)) (m1 8 (by omega) (by omega) (by omega)) (m0 10 (by omega)) (m0 11 (by omega)))
        (Rp_G ⟨a2, a3⟩ hJ k2 (fun b h3 h14 => k1 b (by omega) (by omega) (by omega) (by omega) (by omega) (by omega) (by omega)) (m1 1 (by omega) (by omega) (by omega))) hk
        (En_G a5 (k1 129 (by omega) (by omega) (by omega) (by omega) (by omega) (by omega) (by omega)) (k1 (129 + 1) (by omega) (by omega) (by omega) (by omega) (by omega) (by omega) (by omega)) (k1 (129 + 2) (by omega) (by omega) (by omega) (by omega) (by omega) (by omega) (by omega)) (m0 13 (by omega)) (m1 9 (by omega) (by omega) (by omega)))
        (En_G a6 (k1 132 (by omega) (by omega) (by omega) (by omega) (by omega) (by omega) (by omega)) (k1 (132 + 1) (by omega) (by omega) (by omega) (by omega) (by omega) (by omega) (by omega)) (k1 (132 + 2) (by omega) (by omega) (by omega) (by omega) (by omega) (by omega) (by omega)) (m0 15 (by omega)) (m1 10 (by omega) (by omega) (by omega)))
        (En_G a7 (k1 135 (by omega) (by omega) (by omega) (by omega) (by omega) (by omega) (by omega)) (k1 (135 + 1) (by omega) (by omega) (by omega) (by omega) (by omega) (by omega) (by omega)) (k1 (135 + 2) (by omega) (by omega) (by omega) (by omega) (by omega) (by omega) (by omega)) (m0 17 (by omega)) (m1 11 (by omega) (by omega) (by omega)))
    rcases img_v q with ⟨hx, hi⟩ | ⟨hx, hi⟩
    · obtain ⟨k1, k2, k3⟩ := key 151 hi (Or.inl rfl)
      refine fin 151 (Or.inl rfl) k1 k2 ⟨?_, ?_⟩
      · rw [k3, m7 0, hx, if_pos (by decide)]
      · rw [k1 157 (by omega) (by omega) (by omega) (by omega) (by omega) (by omega) (by omega), m7 1, hx, if_neg (by decide)]
        exact a4.2
    · obtain ⟨k1, k2, k3⟩ := key 157 hi (Or.inr rfl)
      refine fin 157 (Or.inr rfl) k1 k2 ⟨?_, ?_⟩
      · rw [k1 151 (by omega) (by omega) (by omega) (by omega) (by omega) (by omega) (by omega), m7 0, hx, if_neg (by decide)]
        exact a4.1
      · rw [k3, m7 1, hx, if_pos (by decide)]
  · rw [if_neg q, if_neg q, if_pos (show (0 : Int32) = 0 from rfl)]
    exact ⟨rfl, a1, a2, a3, a4, a5, a6, a7⟩
/-- promise 31: the answer -/
theorem an_goBack (h : RA S1 S2) : (F_X9_goBack S1 x).1 = (F_X10_goBack S2 x).1 := by
  rw [F_X9_goBack, F_X10_goBack, in01]
  by_cases q : mm_b 0 1 x
  · have e : S1.1 (imgF x) 0 = S2.1 7 x.toNatClampNeg := by
      rcases img_v q with ⟨hx, hi⟩ | ⟨hx, hi⟩
      · rw [hi, hx]
        exact h.2.2.2.1.1
      · rw [hi, hx]
        exact h.2.2.2.1.2
    rw [if_pos q, if_pos q, if_neg one0, e]
    by_cases z : S2.1 7 x.toNatClampNeg = 0
    · rw [if_pos z, if_pos z]
    · rw [if_neg z, if_neg z]
      rfl
  · rw [if_neg q, if_neg q, if_pos (show (0 : Int32) = 0 from rfl)]
/-! parish -/
theorem L84 {S : mm_S} : F_X9_parish_L84 4 S 0 = ((mm_up (mm_up S 151 0 0) 157 0 0).1 (S.2.2 0 1) 0, mm_up (mm_up S 151 0 0) 157 0 0) := by
  have e1 : aaC_127 0 = 151 := by decide
  have e2 : aaC_127 (0 + Int32.ofInt 1) = 157 := by decide
  rw [F_X9_parish_L84, if_neg (show ¬ (2 : Int32) ≤ 0 by decide), e1, F_X9_parish_L84, if_neg (show ¬ (2 : Int32) ≤ 0 + Int32.ofInt 1 by decide), e2, F_X9_parish_L84, if_pos (show (2 : Int32) ≤ 0 + Int32.ofInt 1 + Int32.ofInt 1 by decide), up_2, up_2]
/-- a fault: all else is as it was -/
theorem pa_bad (h : RA S1 S2) (hJ : JC S1) {C1 C2 : mm_S} {k c' m' q' b' s' g' v' : Int32} (hB : Bs (S1.2.2 0 2) (S1.1 2) (S1.1 1 0) S1 (mm_up S2 0 11 (-1)) C1 C2) : RA (rd (mm_up C1 1 0 0) k b' c' m') (mm_up (mm_up (td C2 q' b' s' g' v' k) 0 10 0) 0 11 b') := by
  obtain ⟨a1, a2, a3, a4, a5, a6, a7⟩ := h
  obtain ⟨⟨k1, k2⟩, ⟨k3, k4⟩, -, -, -, -⟩ := hB
  have hd := pa_in (JRC_2 hJ)
  have ha := pa_in (JRC_1 hJ)
  have c1 : ∀ b, b ≠ 1 → ¬ (S1.2.2 0 2 ≤ b ∧ b ≤ S1.2.2 0 2 + 5) → (rd (mm_up C1 1 0 0) k b' c' m').1 b = S1.1 b := fun b h1 h2 => by rw [rd_row h1, up_row h1, k1 b h2]
  have c2 : (rd (mm_up C1 1 0 0) k b' c' m').2 = S1.2 := k2
  have m1 : ∀ b, b ≠ 0 → b ≠ 2 → (mm_up (mm_up (td C2 q' b' s' g' v' k) 0 10 0) 0 11 b').1 b = S2.1 b := fun b h0 h2 => by rw [up_row h0, up_row h0, td_row h0, k3 b h2, up_row h0]
  have m0 : ∀ j, j < 18 → j ≠ 10 → j ≠ 11 → (mm_up (mm_up (td C2 q' b' s' g' v' k) 0 10 0) 0 11 b').1 0 j = S2.1 0 j := fun j h0 h1 h2 => by
    rw [up_ne (by omega), up_ne (by omega)]
    show (if j = 18 then q' else if j = 19 then b' else if j = 20 then s' else if j = 21 then g' else if j = 22 then v' else if j = 23 then k else C2.1 0 j) = _
    rw [if_neg (by omega), if_neg (by omega), if_neg (by omega), if_neg (by omega), if_neg (by omega), if_neg (by omega), k3 0 (by omega), up_ne (by omega)]
  refine RA_mk ⟨?_, ?_, ?_⟩ ⟨?_, ?_⟩ (Rk_G a4 ?_ ?_ ?_) (En_G a5 ?_ ?_ ?_ ?_ ?_) (En_G a6 ?_ ?_ ?_ ?_ ?_) (En_G a7 ?_ ?_ ?_ ?_ ?_)
  · rw [rd_0, up_at, up_ne (by omega), up_at]
  · rw [c1 2 (by omega) (by omega), m1 8 (by omega) (by omega)]
    exact a1.2.1
  · rw [rd_2, up_at]
  · rw [c2]
    exact a2
  · unfold Pr
    rw [c2, m1 1 (by omega) (by omega), c1 (S1.2.2 0 1) (by omega) (by omega), c1 (S1.2.2 0 1 + 1) (by omega) (by omega), c1 (S1.2.2 0 1 + 4) (by omega) (by omega), c1 (S1.2.2 0 1 + 5) (by omega) (by omega)]
    exact a3
  all_goals first
    | exact c1 _ (by omega) (by omega)
    | exact m1 _ (by omega) (by omega)
    | exact m0 _ (by omega) (by omega) (by omega)
theorem upR_1 {S : mm_S} {a j v : Nat} : (mm_upR S a j v).1 = S.1 := rfl
/-- a parish: what was read is here -/
theorem pa_ok (h : RA S1 S2) (hJ : JC S1) {C1 C2 : mm_S} {c' m' q' b' s' g' v' w' : Int32} (hB : Bs (S1.2.2 0 2) (S1.1 2) (S1.1 1 0) S1 (mm_up S2 0 11 (-1)) C1 C2) (D : Dr (S1.2.2 0 2) C1 C2) :
    (F_X9_parish_c11 1 (rd (mm_up C1 1 0 0) 0 (-1) c' m')).1 = (F_X10_parish_L23ttu87 (mm_up (td C2 q' b' s' g' v' w') 0 10 0)).1 ∧ RA (F_X9_parish_c11 1 (rd (mm_up C1 1 0 0) 0 (-1) c' m')).2 (F_X10_parish_L23ttu87 (mm_up (td C2 q' b' s' g' v' w') 0 10 0)).2 := by
  obtain ⟨a1, a2, a3, a4, a5, a6, a7⟩ := h
  obtain ⟨⟨k1, k2⟩, ⟨k3, k4⟩, -, -, -, -⟩ := hB
  have hd := pa_in (JRC_2 hJ)
  have ha := pa_in (JRC_1 hJ)
  -- the class
  generalize hR : rd (mm_up C1 1 0 0) 0 (-1) c' m' = R
  have r2 : R.2 = S1.2 := by rw [← hR]; exact k2
  have r1 : ∀ b, b ≠ 1 → R.1 b = C1.1 b := fun b h1 => by rw [← hR, rd_row h1, up_row h1]
  generalize hd2 : S1.2.2 0 2 = d at *
  generalize hW : mm_upR (mm_upR R 0 1 (R.2.2 0 2)) 0 2 (R.2.2 0 1) = W
  have w1 : W.1 = R.1 := by rw [← hW]; rfl
  have w01 : W.2.2 0 1 = d := by rw [← hW]; show R.2.2 0 2 = d; rw [r2, hd2]
  have w02 : W.2.2 0 2 = S1.2.2 0 1 := by rw [← hW]; show R.2.2 0 1 = _; rw [r2]
  have hp0 : W.1 d 0 = C2.1 2 0 := by rw [w1, r1 d (by omega)]; exact D.1.1
  obtain ⟨⟨b1, b2⟩, -, -⟩ := bg_c (S := W) (a := d) (by omega) (by rw [hp0]; exact D.2.1.1)
  have ec : F_X9_parish_c11 1 R = ((mm_up (mm_up (F_X7_forget (F_X2_clear_135 (F_X2_clear_132 (F_X2_clear_129 (F_X3_begin W d))))) 151 0 0) 157 0 0).1 d 0, mm_up (mm_up (F_X7_forget (F_X2_clear_135 (F_X2_clear_132 (F_X2_clear_129 (F_X3_begin W d))))) 151 0 0) 157 0 0) := by
    rw [F_X9_parish_c11, if_neg one0, hW, w01, F_X9_parish_c11tu51, F_X9_parish_c11tu51c54, F_X9_parish_c11tu51c54c61, F_X9_parish_c11tu51c54c61c68, F_X9_parish_c11tu51c54c61c68c75, F_X9_parish_c11tu51c54c61c68c75c82, L84]
    have z : (F_X7_forget (F_X2_clear_135 (F_X2_clear_132 (F_X2_clear_129 (F_X3_begin W d))))).2.2 0 1 = d := by
      rw [F_X7_forget, F_X2_clear_135, F_X2_clear_132, F_X2_clear_129, up_2, up_2, up_2, up_2, up_2, b2, w01]
    rw [z]
  rw [ec]
  generalize hU : mm_up (mm_up (F_X7_forget (F_X2_clear_135 (F_X2_clear_132 (F_X2_clear_129 (F_X3_begin W d))))) 151 0 0) 157 0 0 = U1
  have u1 : ∀ b, b < 15 → U1.1 b = R.1 b := fun b hb => by
    rw [← hU, F_X7_forget, F_X2_clear_135, F_X2_clear_132, F_X2_clear_129, up_row (by omega), up_row (by omega), up_row (by omega), up_row (by omega), up_row (by omega), up_row (by omega), up_row (by omega), b1 b (by omega) (by omega) (by omega) (by omega) (by omega), w1]
  have u2 : U1.2.2 0 1 = d ∧ U1.2.2 0 2 = S1.2.2 0 1 := by
    rw [← hU, F_X7_forget, F_X2_clear_135, F_X2_clear_132, F_X2_clear_129, up_2, up_2, up_2, up_2, up_2, up_2, up_2, b2]
    exact ⟨w01, w02⟩
  have u129 : U1.1 129 0 = 0 ∧ U1.1 132 0 = 0 ∧ U1.1 135 0 = 0 ∧ U1.1 151 0 = 0 ∧ U1.1 157 0 = 0 := by
    rw [← hU, F_X7_forget, F_X2_clear_135, F_X2_clear_132, F_X2_clear_129]
    refine ⟨?_, ?_, ?_, ?_, ?_⟩
    · rw [up_ne (by omega), up_ne (by omega), up_ne (by omega), up_ne (by omega), up_ne (by omega), up_ne (by omega), up_at]
    · rw [up_ne (by omega), up_ne (by omega), up_ne (by omega), up_ne (by omega), up_ne (by omega), up_at]
    · rw [up_ne (by omega), up_ne (by omega), up_ne (by omega), up_ne (by omega), up_at]
    · rw [up_ne (by omega), up_at]
    · rw [up_at]
  -- the reference
  rw [F_X10_parish_L23ttu87, F_X10_parish_L23ttu87c90, F_X10_parish_L23ttu87c90c94]
  generalize hT : mm_up (td C2 q' b' s' g' v' w') 0 10 0 = T
  generalize hC : F_X10_copies_21 T 0 0 37 = C
  obtain ⟨⟨n1, -⟩, ⟨n0, -, n13, n15, n17⟩, ⟨n70, n71⟩, -, -⟩ := bg_m (S := C)
  have t1 : ∀ b, b ≠ 0 → T.1 b = C2.1 b := fun b h0 => by rw [← hT, up_row h0, td_row h0]
  have cc : ∀ b, b ≠ 1 → C.1 b = T.1 b := fun b h1 => by
    rw [← hC]
    exact funext fun i => if_neg (fun z => h1 z.1)
  have c1 : ∀ i, i < 37 → C.1 1 i = C2.1 2 i := fun i hi => by
    rw [← hC]
    show (if 1 = 1 ∧ (0 : Int32).toNatClampNeg ≤ i ∧ i < (0 : Int32).toNatClampNeg + (37 : Int32).toNatClampNeg then T.1 2 ((0 : Int32).toNatClampNeg + (i - (0 : Int32).toNatClampNeg)) else T.1 1 i) = _
    rw [show (0 : Int32).toNatClampNeg = 0 by decide, show (37 : Int32).toNatClampNeg = 37 by decide, if_pos (by omega), t1 2 (by omega), show 0 + (i - 0) = i by omega]
  generalize F_X10_begins C = U2 at *
  have v1 : ∀ i, i < 37 → U2.1 1 i = C2.1 2 i := fun i hi => by rw [n1 1 (by omega) (by omega) (by omega), c1 i hi]
  obtain ⟨⟨d1, d2, d3, d4⟩, ⟨d5, d6, d7⟩, d8, d9, d10, d11⟩ := D
  refine ⟨?_, RA_mk ⟨?_, ?_, ?_⟩ ⟨?_, ?_⟩ ⟨?_, ?_⟩ (En_0 u129.1 n13) (En_0 u129.2.1 n15) (En_0 u129.2.2.1 n17)⟩
  · show U1.1 d 0 = U2.1 1 0
    rw [u1 d (by omega), r1 d (by omega), v1 0 (by omega)]
    exact d1
  · show U1.1 1 0 = U2.1 0 10
    rw [u1 1 (by omega), ← hR, rd_0, up_at, n0 10 (by omega) (by omega) (by omega) (by omega), cc 0 (by omega), ← hT, up_at]
  · show U1.1 2 = U2.1 8
    rw [u1 2 (by omega), r1 2 (by omega), k1 2 (by omega), n1 8 (by omega) (by omega) (by omega), cc 8 (by omega), t1 8 (by omega), k3 8 (by omega), up_row (by omega)]
    exact a1.2.1
  · show U1.1 1 2 = U2.1 0 11
    rw [u1 1 (by omega), ← hR, rd_2, n0 11 (by omega) (by omega) (by omega) (by omega), cc 0 (by omega), ← hT, up_ne (by omega)]
    show (-1 : Int32) = C2.1 0 11
    rw [k3 0 (by omega), up_at]
  · show ¬ U1.2.2 0 1 = U1.2.2 0 2
    rw [u2.1, u2.2]
    exact fun z => a2 z.symm
  · show Pr (U1.2.2 0 1) U1 U2
    rw [u2.1]
    unfold Pr
    rw [v1 0 (by omega), v1 1 (by omega), v1 2 (by omega), u1 d (by omega), u1 (d + 1) (by omega), u1 (d + 4) (by omega), u1 (d + 5) (by omega), r1 d (by omega), r1 (d + 1) (by omega), r1 (d + 4) (by omega), r1 (d + 5) (by omega)]
    refine ⟨⟨d1, d2, d3⟩, ⟨d5, d6, d7⟩, fun p hp => ?_, fun p h7 hp => ?_, fun p hp => ?_, fun p hp => ?_⟩
    · rw [v1 (3 + p) (by omega)]
      exact (d8 p hp).1
    · rw [v1 (3 + p) (by omega)]
      exact (d9 p h7 hp).1
    · rw [v1 (25 + p) (by omega)]
      exact d10 p hp
    · rw [v1 (31 + p) (by omega)]
      exact d11 p hp
  · show U1.1 151 0 = U2.1 7 0
    rw [u129.2.2.2.1, n70]
  · show U1.1 157 0 = U2.1 7 1
    rw [u129.2.2.2.2, n71]
/-- promise 3 -/
theorem st_parish (h : RA S1 S2) (hJ : JC S1) : (F_X9_parish S1).1 = (F_X10_parish S2).1 ∧ RA (F_X9_parish S1).2 (F_X10_parish S2).2 := by
  have hd := pa_in (JRC_2 hJ)
  have hn : pz_p (S1.1 1 0) := JIC_fld hJ rfl tbC_0 (by decide)
  have ht : ∀ j : Nat, j < 240 → 0 ≤ (S1.1 2 j).toInt := fun j hj => (JIC_fld (j := j) hJ rfl tbC_2 ⟨by omega, by omega⟩).1
  rw [F_X9_parish]
  rcases parse (a := S1.2.2 0 2) (by omega) h.1.1 h.1.2.1 hn ht with ⟨C1, C2, c', m', q', b', s', g', v', w', e1, e2, D, hB⟩ | ⟨C1, C2, k, c', m', q', b', s', g', v', e1, e2, hk, hB⟩
  · rw [e1, e2]
    exact pa_ok h hJ hB D
  · rw [e1, e2]
    show (F_X9_parish_c11 0 (rd (mm_up C1 1 0 0) k b' c' m')).1 = _ ∧ RA (F_X9_parish_c11 0 (rd (mm_up C1 1 0 0) k b' c' m')).2 _
    rw [F_X9_parish_c11, if_pos (show (0 : Int32) = 0 from rfl), rd_1]
    exact ⟨rfl, pa_bad h hJ hB⟩
end ST2
