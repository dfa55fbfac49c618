/-! ===== the relation kept: texts, entries; parish, images, seed ===== -/
section RB2
variable {P : Int32} {S1 S2 U1 U2 : mm_S} {x y z v1 v2 : Int32}
abbrev LA1 : List Nat := List.range' 15 5 ++ List.range' 25 104 ++ List.range' 151 12
theorem LA1_in {b : Nat} (h : (15 ≤ b ∧ b ≤ 19) ∨ (25 ≤ b ∧ b ≤ 128) ∨ (151 ≤ b ∧ b ≤ 162)) : b ∈ LA1 := by
  rcases h with h | h | h
  · exact List.mem_append_left _ (List.mem_append_left _ (List.mem_range'_1.mpr ⟨h.1, by omega⟩))
  · exact List.mem_append_left _ (List.mem_append_right _ (List.mem_range'_1.mpr ⟨h.1, by omega⟩))
  · exact List.mem_append_right _ (List.mem_range'_1.mpr ⟨h.1, by omega⟩)
theorem RB_A (h : RB S1 S2) (a' : RA U1 U2) (c : ∀ b, (15 ≤ b ∧ b ≤ 19) ∨ (25 ≤ b ∧ b ≤ 128) ∨ (151 ≤ b ∧ b ≤ 162) → U1.1 b = S1.1 b) (m : ∀ b, b = 1 ∨ b = 3 ∨ b = 5 ∨ b = 6 → U2.1 b = S2.1 b) (m0 : U2.1 0 5 = S2.1 0 5) (m2 : U2.2 = S2.2) : RB U1 U2 := by
  obtain ⟨a, f, w, p, i, s⟩ := h
  unfold RB
  rw [m 1 (by omega)]
  refine ⟨a', Fq_row f (c 15 (by omega)) (c 16 (by omega)) (c 17 (by omega)) (c 18 (by omega)) (c 19 (by omega)) (m 3 (by omega)), Wf_row w (m 3 (by omega)), Pa_G p (fun b h1 h2 => c b (by omega)) (m 5 (by omega)) m0, Im_G i (fun b h1 h2 => c b (by omega)) (m 6 (by omega)), ?_⟩
  unfold Se
  rw [c 128 (by omega), m2]
  exact s
theorem frB_A {wr wf wr2 wf2 : List Nat} {m m' : Bool} (h : RB S1 S2) (a' : RA U1 U2) (f1 : fr wr wf true m S1 U1) (f2 : fr wr2 wf2 true m' S2 U2) (h1 : ∀ b ∈ LA1, b ∉ wr ∧ b ≠ 0) (h2 : ∀ b ∈ [1, 3, 5, 6], b ∉ wr2 ∧ b ≠ 0) (h3 : 5 ∉ wf2) : RB U1 U2 :=
  RB_A h a' (fun b hb => funext fun j => f1.1 b j (h1 b (LA1_in hb)).1 (h1 b (LA1_in hb)).2) (fun b hb => funext fun j => f2.1 b j (h2 b (by rcases hb with rfl | rfl | rfl | rfl <;> decide)).1 (h2 b (by rcases hb with rfl | rfl | rfl | rfl <;> decide)).2) (f2.2.1 5 h3) (f2.2.2.1 rfl)
/-! parish -/
theorem alT : ∀ p : Fin 8, mm_b 0 127 ((1 : Int32) <<< (nI p.val &&& 31) - 1) ∧ ∀ i : Fin 7, (bt ((1 : Int32) <<< (nI p.val &&& 31) - 1) i.val ↔ i.val < p.val) := by decide +kernel
theorem al7 {p : Int32} (h : mm_b 0 7 p) : mm_b 0 127 ((1 : Int32) <<< (p &&& 31) - 1) ∧ ∀ i, i < 7 → (bt ((1 : Int32) <<< (p &&& 31) - 1) i ↔ (i : Int) < p.toInt) := by
  obtain ⟨j, rfl, hj⟩ := bd_nI h.1
  have t := alT ⟨j, by omega⟩
  refine ⟨t.1, fun i hi => ?_⟩
  have := t.2 ⟨i, hi⟩
  rw [this]
  dsimp only
  omega
theorem Pa_0 (c0 : U1.1 25 0 = 0) (c1 : U1.1 25 1 = 0) (m0 : U2.1 0 5 = 0) : Pa P U1 U2 := ⟨0, 0, c0, c1, m0, by omega, by omega, fun k hk => by omega⟩
theorem pB_ok (h : RA S1 S2) (hJ : JC S1) {C1 C2 : mm_S} {c' m' q' b' s' g' v' w' : Int32} (hB : Bs (S1.2.2 0 2) (S1.1 2) (S1.1 1 0) S1 (mm_up S2 0 11 (-1)) C1 C2) (D : Dr (S1.2.2 0 2) C1 C2) (hM : JM (F_X10_parish_L23ttu87 (mm_up (td C2 q' b' s' g' v' w') 0 10 0)).2) (hs : Se S1 S2) :
    Fk15 ((F_X10_parish_L23ttu87 (mm_up (td C2 q' b' s' g' v' w') 0 10 0)).2.1 1 0) (F_X9_parish_c11 1 (rd (mm_up C1 1 0 0) 0 (-1) c' m')).2 (F_X10_parish_L23ttu87 (mm_up (td C2 q' b' s' g' v' w') 0 10 0)).2 ∧ Wf 3 ((F_X10_parish_L23ttu87 (mm_up (td C2 q' b' s' g' v' w') 0 10 0)).2.1 1 0) (F_X10_parish_L23ttu87 (mm_up (td C2 q' b' s' g' v' w') 0 10 0)).2 ∧ (∀ P, Pa P (F_X9_parish_c11 1 (rd (mm_up C1 1 0 0) 0 (-1) c' m')).2 (F_X10_parish_L23ttu87 (mm_up (td C2 q' b' s' g' v' w') 0 10 0)).2) ∧ (∀ P, Im P (F_X9_parish_c11 1 (rd (mm_up C1 1 0 0) 0 (-1) c' m')).2 (F_X10_parish_L23ttu87 (mm_up (td C2 q' b' s' g' v' w') 0 10 0)).2) ∧ Se (F_X9_parish_c11 1 (rd (mm_up C1 1 0 0) 0 (-1) c' m')).2 (F_X10_parish_L23ttu87 (mm_up (td C2 q' b' s' g' v' w') 0 10 0)).2 := by
  obtain ⟨⟨k1, k2⟩, ⟨k3, k4⟩, -, -, -, -⟩ := hB
  have hd := pa_in (JRC_2 hJ)
  generalize hR : rd (mm_up C1 1 0 0) 0 (-1) c' m' = R
  have r2 : R.2 = S1.2 := by rw [← hR]; exact k2
  have r1 : ∀ b, b ≠ 1 → R.1 b = C1.1 b := fun b h1 => by rw [← hR, rd_row h1, up_row h1]
  generalize hd2 : S1.2.2 0 2 = d at *
  generalize hW : mm_upR (mm_upR R 0 1 (R.2.2 0 2)) 0 2 (R.2.2 0 1) = W
  have w1 : W.1 = R.1 := by rw [← hW]; rfl
  have w01 : W.2.2 0 1 = d := by rw [← hW]; show R.2.2 0 2 = d; rw [r2, hd2]
  have hp0 : W.1 d 0 = C2.1 2 0 := by rw [w1, r1 d (by omega)]; exact D.1.1
  obtain ⟨⟨b1, b2⟩, ⟨e2, e0, ed⟩, b3⟩ := bg_c (S := W) (a := d) (by omega) (by rw [hp0]; exact D.2.1.1)
  have ec : (F_X9_parish_c11 1 R).2 = mm_up (mm_up (F_X7_forget (F_X2_clear_135 (F_X2_clear_132 (F_X2_clear_129 (F_X3_begin W d))))) 151 0 0) 157 0 0 := by
    rw [F_X9_parish_c11, if_neg one0, hW, w01, F_X9_parish_c11tu51, F_X9_parish_c11tu51c54, F_X9_parish_c11tu51c54c61, F_X9_parish_c11tu51c54c61c68, F_X9_parish_c11tu51c54c61c68c75, F_X9_parish_c11tu51c54c61c68c75c82, L84]
  rw [ec]
  generalize hU : mm_up (mm_up (F_X7_forget (F_X2_clear_135 (F_X2_clear_132 (F_X2_clear_129 (F_X3_begin W d))))) 151 0 0) 157 0 0 = U1
  have u1 : ∀ b, b < 20 ∨ b = 128 → U1.1 b = (F_X3_begin W d).1 b := fun b hb => by
    rw [← hU, F_X7_forget, F_X2_clear_135, F_X2_clear_132, F_X2_clear_129, up_row (by omega), up_row (by omega), up_row (by omega), up_row (by omega), up_row (by omega), up_row (by omega), up_row (by omega)]
  have u25 : U1.1 25 0 = 0 ∧ U1.1 25 1 = 0 ∧ U1.1 151 0 = 0 ∧ U1.1 157 0 = 0 := by
    rw [← hU, F_X7_forget]
    refine ⟨?_, ?_, ?_, ?_⟩
    · rw [up_ne (by omega), up_ne (by omega), up_ne (by omega), up_at]
    · rw [up_ne (by omega), up_ne (by omega), up_at]
    · rw [up_ne (by omega), up_at]
    · rw [up_at]
  rw [F_X10_parish_L23ttu87, F_X10_parish_L23ttu87c90, F_X10_parish_L23ttu87c90c94] at hM ⊢
  generalize hT : mm_up (td C2 q' b' s' g' v' w') 0 10 0 = T at *
  generalize hC : F_X10_copies_21 T 0 0 37 = C at *
  obtain ⟨⟨n1, n2⟩, ⟨n0, n5, -, -, -⟩, -, ⟨n28, n29⟩, n3⟩ := bg_m (S := C)
  have t1 : ∀ b, b ≠ 0 → T.1 b = C2.1 b := fun b h0 => by rw [← hT, up_row h0, td_row h0]
  have c1 : ∀ i, i < 37 → C.1 1 i = C2.1 2 i := fun i hi => by
    rw [← hC]
    show (if 1 = 1 ∧ (0 : Int32).toNatClampNeg ≤ i ∧ i < (0 : Int32).toNatClampNeg + (37 : Int32).toNatClampNeg then T.1 2 ((0 : Int32).toNatClampNeg + (i - (0 : Int32).toNatClampNeg)) else T.1 1 i) = _
    rw [show (0 : Int32).toNatClampNeg = 0 by decide, show (37 : Int32).toNatClampNeg = 37 by decide, if_pos (by omega), t1 2 (by omega), show 0 + (i - 0) = i by omega]
  have cS : C.2 = S2.2 := by
    rw [← hC]
    show T.2 = S2.2
    rw [← hT, up_2]
    show C2.2 = S2.2
    rw [k4, up_2]
  have hM2 : JM (F_X10_begins C) := hM
  clear hM
  generalize F_X10_begins C = U2 at *
  show Fk15 (U2.1 1 0) U1 U2 ∧ Wf 3 (U2.1 1 0) U2 ∧ (∀ P, Pa P U1 U2) ∧ (∀ P, Im P U1 U2) ∧ Se U1 U2
  have v1 : ∀ i, i < 37 → U2.1 1 i = C2.1 2 i := fun i hi => by rw [n1 1 (by omega) (by omega) (by omega), c1 i hi]
  obtain ⟨⟨d1, d2, d3, d4⟩, ⟨d5, d6, d7⟩, d8, d9, d10, d11⟩ := D
  have p0 : U2.1 1 0 = C2.1 2 0 := v1 0 (by omega)
  rw [p0]
  have c10 : C.1 1 0 = C2.1 2 0 := c1 0 (by omega)
  -- a person's first voice
  have wr : ∀ b, b ≠ 1 → W.1 b = C1.1 b := fun b h1 => by rw [w1, r1 b h1]
  have hpn : ∀ i, i < 7 → F_X6_hasPerson W d (nI i) = if C2.1 2 0 ≤ nI i then 0 else 1 := fun i hi => by
    have ti : (nI i).toInt = i := nI_toInt (by omega)
    have n0 : ¬ nI i < 0 := fun q => by have : (nI i).toInt < 0 := Int32.lt_iff_toInt_lt.mp q; omega
    rw [F_X6_hasPerson, hp0, if_neg n0]
  have key : ∀ i, i < 7 → bgV d W i = bgW C i ∧ F_X6_firstToldHeir W d (nI i) = C.1 1 (10 + i) ∧ F_X6_secondToldHeir W d (nI i) = C.1 1 (17 + i) := fun i hi => by
    have ti : (nI i).toInt = i := nI_toInt (by omega)
    have ci : (nI i).toNatClampNeg = i := nI_c (by omega)
    rw [bgV, bgW, F_X6_hasVoice, F_X6_rangeOf, F_X6_firstToldHeir, F_X6_secondToldHeir, hpn i hi, ci, c1 (3 + i) (by omega), c1 (10 + i) (by omega), c1 (17 + i) (by omega), wr (d + 1) (by omega), wr (d + 2) (by omega), wr (d + 3) (by omega)]
    by_cases q : C2.1 2 0 ≤ nI i
    · have q2 := Int32.le_iff_toInt_le.mp q
      obtain ⟨z1, z2, z3⟩ := d9 i hi (by omega)
      rw [if_pos q, if_pos (show (0 : Int32) = 0 from rfl), if_pos (show (0 : Int32) = 0 from rfl), if_pos (show (0 : Int32) = 0 from rfl), if_pos (show (9 : Int32) = 9 from rfl), if_pos (show (0 : Int32) = 0 from rfl), z1, z2, z3, if_pos (show (9 : Int32) = 9 from rfl)]
      exact ⟨rfl, rfl, rfl⟩
    · have q2 := Int32.lt_iff_toInt_lt.mp (bd_nle q)
      obtain ⟨z1, z2, z3⟩ := d8 i (by omega)
      rw [if_neg q, if_neg one0, if_neg one0, if_neg one0, z1, z2, z3]
      refine ⟨?_, rfl, rfl⟩
      by_cases e : C2.1 2 (3 + i) = 9
      · rw [if_pos e, if_pos e, if_pos (show (0 : Int32) = 0 from rfl)]
      · rw [if_neg e, if_neg e, if_neg one0]
  obtain ⟨a7, a7b⟩ := al7 d5
  have bM : ∀ k, 14 ≤ k → k ≤ 27 → mm_b 0 9 (U2.1 3 k) := fun k h1 h2 => JIM_fld (j := k) (l := 14) (u := 27) hM2 rfl (by decide +kernel) ⟨h1, h2⟩
  refine ⟨⟨?_, ?_, ?_, fun i hi => ?_⟩, ⟨?_, ?_, fun i hi => ?_⟩, fun P => Pa_0 u25.1 u25.2.1 n5, fun P => ⟨fun q => absurd u25.2.2.1 q, fun q => absurd u25.2.2.2 q⟩, ?_⟩
  · rw [u1 15 (by omega), e0, hp0, n28, c10]
  · rw [u1 15 (by omega), ed, n29]
  · rw [u1 15 (by omega), e2, hp0]
  · obtain ⟨x1, x2, x3, x4⟩ := b3 i hi
    obtain ⟨y1, y2, y3, y4⟩ := n3 i hi
    obtain ⟨k1', k2', k3'⟩ := key i hi
    rw [u1 16 (by omega), u1 17 (by omega), u1 18 (by omega), u1 19 (by omega), x1, x2, x3, x4, y1, y2, y3, y4, k1', k2', k3']
    exact ⟨rfl, rfl, rfl, rfl⟩
  · rw [n28, c10]; exact a7
  · rw [n28, c10]
    exact fun i hi z => (a7b i hi).mp z
  · obtain ⟨y1, y2, y3, y4⟩ := n3 i hi
    have ti : (nI i).toInt = i := nI_toInt (by omega)
    refine ⟨?_, ?_, ?_, bM (14 + i) (by omega) (by omega), bM (21 + i) (by omega) (by omega)⟩
    · rw [y1, bgW]
      split
      · exact Or.inl rfl
      · exact Or.inr ⟨by omega, by omega⟩
    · rw [y2]; decide
    · rw [n28, c10, y1, y2, bgW, c1 (3 + i) (by omega)]
      intro z
      have z0 : (C2.1 2 0).toInt ≤ (i : Int) := by
        rcases Int.lt_or_le (i : Int) (C2.1 2 0).toInt with q | q
        · exact absurd ((a7b i hi).mpr q) z
        · exact q
      have z1 := (d9 i hi z0).1
      exact ⟨by rw [if_pos z1], rfl⟩
  · unfold Se
    rw [u1 128 (by omega), b1 128 (by omega) (by omega) (by omega) (by omega) (by omega), wr 128 (by omega), k1 128 (by omega), n2, cS]
    exact hs
theorem sb_parish (h : RB S1 S2) (hJ : JC S1) (e1 : F_X9_parish S1 = (v1, U1)) (e2 : F_X10_parish S2 = (v2, U2)) (hM : JM U2) : v1 = v2 ∧ RB U1 U2 := by
  have ra := st_of (R := RA) e1 e2 (st_parish h.1 hJ)
  refine ⟨ra.1, ?_⟩
  have hd := pa_in (JRC_2 hJ)
  have hn : pz_p (S1.1 1 0) := JIC_fld hJ rfl tbC_0 (by decide)
  have ht : ∀ j : Nat, j < 240 → 0 ≤ (S1.1 2 j).toInt := fun j hj => (JIC_fld (j := j) hJ rfl tbC_2 ⟨by omega, by omega⟩).1
  rw [F_X9_parish] at e1
  rcases parse (a := S1.2.2 0 2) (by omega) h.1.1.1 h.1.1.2.1 hn ht with ⟨C1, C2, c', m', q', b', s', g', v', w', e3, e4, D, hB⟩ | ⟨C1, C2, k, c', m', q', b', s', g', v', e3, e4, hk, hB⟩
  · rw [e3] at e1
    rw [e4] at e2
    have z := pB_ok (c' := c') (m' := m') (q' := q') (b' := b') (s' := s') (g' := g') (v' := v') (w' := w') h.1 hJ hB D (by rw [e2]; exact hM) h.2.2.2.2.2
    rw [e2] at z
    have e5 : (F_X9_parish_c11 1 (rd (mm_up C1 1 0 0) 0 (-1) c' m')).2 = U1 := congrArg Prod.snd e1
    rw [e5] at z
    exact ⟨ra.2, Fq_of z.1, z.2.1, z.2.2.1 _, z.2.2.2.1 _, z.2.2.2.2⟩
  · rw [e3] at e1
    rw [e4] at e2
    have e5 : rd (mm_up C1 1 0 0) k b' c' m' = U1 := by
      have : F_X9_parish_c11 0 (rd (mm_up C1 1 0 0) k b' c' m') = (v1, U1) := e1
      rw [F_X9_parish_c11, if_pos (show (0 : Int32) = 0 from rfl)] at this
      exact congrArg Prod.snd this
    have e6 : mm_up (mm_up (td C2 q' b' s' g' v' k) 0 10 0) 0 11 b' = U2 := congrArg Prod.snd e2
    obtain ⟨⟨k1, k2⟩, ⟨k3, k4⟩, -, -, -, -⟩ := hB
    refine RB_A h ra.2 (fun b hb => ?_) (fun b hb => ?_) ?_ ?_
    · rw [← e5, rd_row (by omega), up_row (by omega), k1 b (by omega)]
    · rw [← e6, up_row (by omega), up_row (by omega), td_row (by omega), k3 b (by omega), up_row (by omega)]
    · rw [← e6, up_ne (by omega), up_ne (by omega)]
      show C2.1 0 5 = _
      rw [k3 0 (by omega), up_ne (by omega)]
    · rw [← e6, up_2, up_2]
      show C2.2 = _
      rw [k4, up_2]
end RB2
theorem RB_eq {S1 S2 U1 U2 : mm_S} (h : RB S1 S2) (e1 : S1 = U1) (e2 : S2 = U2) : RB U1 U2 := by rw [← e1, ← e2]; exact h
theorem fr_eq {S U : mm_S} (h : S = U) : fr [] [] true true S U := h ▸ fr_rf
