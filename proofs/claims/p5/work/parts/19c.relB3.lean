/-! ===== the relation kept: images, seed ===== -/
section RB3
variable {P : Int32} {S1 S2 U1 U2 : mm_S} {x y z v1 v2 : Int32}
theorem upLat {S : mm_S} {a j : Nat} {v : Int64} : (mm_upL S a j v).2.1 a j = v := by
  show (if a = a ∧ j = j then v else S.2.1 a j) = v
  exact if_pos ⟨rfl, rfl⟩
theorem se_32 (h : Se S1 S2) : (S2.2.1 0 8).toInt32 = S1.1 128 0 := by
  have r := bd_rng (S1.1 128 0)
  unfold Se at h
  exact Int32.toInt_inj.mp (by rw [Int64.toInt_toInt32, ← h, bd_bmod (by omega) (by omega)])
theorem im_x (q : mm_b 0 1 x) : ∃ i o : Nat, imgF x = i ∧ ((31 : Int32) * x).toNatClampNeg = o ∧ ((31 : Int32) * x + 30).toNatClampNeg = o + 30 ∧ ((i = 151 ∧ o = 0 ∧ x.toNatClampNeg = 0) ∨ (i = 157 ∧ o = 31 ∧ x.toNatClampNeg = 1)) := by
  rcases img_v q with ⟨hx, hi⟩ | ⟨hx, hi⟩
  · exact ⟨151, 0, hi, by rw [hx]; decide, by rw [hx]; decide, Or.inl ⟨rfl, rfl, by rw [hx]; decide⟩⟩
  · exact ⟨157, 31, hi, by rw [hx]; decide, by rw [hx]; decide, Or.inr ⟨rfl, rfl, by rw [hx]; decide⟩⟩
/-- promise 30 -/
theorem sb_keep (h : RB S1 S2) (hJ : JC S1) : (F_X9_keep S1 x).1 = (F_X10_keep S2 x).1 ∧ RB (F_X9_keep S1 x).2 (F_X10_keep S2 x).2 := by
  have ra := st_keep (x := x) h.1 hJ
  refine ⟨ra.1, ?_⟩
  have ra2 := ra.2
  clear ra
  obtain ⟨a, f, w, p, im, se⟩ := h
  rw [F_X9_keep, F_X10_keep, in01] at ra2 ⊢
  by_cases q : mm_b 0 1 x
  · rw [if_pos q, if_pos q, if_neg one0, F_X9_keep_ic24, F_X9_keep_ic24u44, F_X9_keep_ic24u44c47, F_X7_forget, F_X10_keep_tc31] at ra2 ⊢
    obtain ⟨i, o, hi, ho, ho2, hio⟩ := im_x q
    rw [hi, ho2] at ra2 ⊢
    generalize hc : F_X10_copies_36 S2 0 (31 * x) 30 = C2 at ra2 ⊢
    have cF : ∀ b j, C2.1 b j = if b = 6 ∧ o ≤ j ∧ j < o + 30 then S2.1 3 (j - o) else S2.1 b j := fun b j => by
      rw [← hc]
      show (if b = 6 ∧ ((31 : Int32) * x).toNatClampNeg ≤ j ∧ j < ((31 : Int32) * x).toNatClampNeg + (30 : Int32).toNatClampNeg then S2.1 3 ((0 : Int32).toNatClampNeg + (j - ((31 : Int32) * x).toNatClampNeg)) else S2.1 b j) = _
      rw [ho, show (0 : Int32).toNatClampNeg = 0 by decide, show (30 : Int32).toNatClampNeg = 30 by decide, Nat.zero_add]
    have c2 : C2.2 = S2.2 := by rw [← hc]; rfl
    obtain ⟨⟨k1, k2⟩, -, -⟩ := cp_c (S := S1) (a := i + 1) (c := 15) (by omega)
    have s1 : (F_X3_copy S1 (i + 1) 15).1 128 0 = S1.1 128 0 := by rw [k1 128 (by omega) (by omega) (by omega) (by omega) (by omega)]
    have s2 : (C2.2.1 0 8).toInt32 = S1.1 128 0 := by rw [c2]; exact se_32 se
    rw [s1, s2] at ra2 ⊢
    generalize hU1 : mm_up (mm_up (mm_up (mm_up (F_X3_copy S1 (i + 1) 15) i 1 (S1.1 128 0)) i 0 1) 25 0 0) 25 1 0 = U1 at ra2 ⊢
    generalize hU2 : mm_up (mm_up (mm_up C2 6 (o + 30) (S1.1 128 0)) 7 x.toNatClampNeg 1) 0 5 0 = U2 at ra2 ⊢
    have ra3 : RA U1 U2 := ra2
    clear ra2
    show RB U1 U2
    have m : ∀ b, b ≠ 0 → b ≠ 6 → b ≠ 7 → U2.1 b = S2.1 b := fun b h0 h6 h7 => by
      rw [← hU2, up_row h0, up_row h7, up_row h6]
      funext j
      rw [cF, if_neg (fun z => h6 z.1)]
    have c : ∀ b, ¬ (i ≤ b ∧ b ≤ i + 5) → b ≠ 25 → U1.1 b = S1.1 b := fun b h1 h2 => by
      rw [← hU1, up_row h2, up_row h2, up_row (by omega), up_row (by omega), k1 b (by omega) (by omega) (by omega) (by omega) (by omega)]
    have cg : ∀ b, i + 1 ≤ b → b ≤ i + 1 + 4 → U1.1 b = (F_X3_copy S1 (i + 1) 15).1 b := fun b h1 h2 => by
      rw [← hU1, up_row (by omega), up_row (by omega), up_row (by omega), up_row (by omega)]
    have ci : U1.1 i 1 = S1.1 128 0 := by rw [← hU1, up_ne (by omega), up_ne (by omega), up_ne (by omega), up_at]
    have m6 : ∀ j, U2.1 6 j = if j = o + 30 then S1.1 128 0 else if o ≤ j ∧ j < o + 30 then S2.1 3 (j - o) else S2.1 6 j := fun j => by
      rw [← hU2, up_ne (by omega), up_ne (by omega)]
      by_cases e : j = o + 30
      · rw [if_pos e, e, up_at]
      · rw [if_neg e, up_ne (by omega), cF]
        by_cases e2 : o ≤ j ∧ j < o + 30
        · rw [if_pos e2, if_pos ⟨rfl, e2⟩]
        · rw [if_neg e2, if_neg (fun z => e2 z.2)]
    have u25 : U1.1 25 0 = 0 ∧ U1.1 25 1 = 0 ∧ U2.1 0 5 = 0 := by
      rw [← hU1, ← hU2]
      refine ⟨?_, ?_, ?_⟩
      · rw [up_ne (by omega), up_at]
      · rw [up_at]
      · rw [up_at]
    have sE : Se U1 U2 := by
      unfold Se
      rw [c 128 (by omega) (by omega), ← hU2, up_2, up_2, up_2, c2]
      exact se
    clear hU1 hU2
    unfold RB
    rw [m 1 (by omega) (by omega) (by omega)]
    refine ⟨ra3, Fq_row f (c 15 (by omega) (by omega)) (c 16 (by omega) (by omega)) (c 17 (by omega) (by omega)) (c 18 (by omega) (by omega)) (c 19 (by omega) (by omega)) (m 3 (by omega) (by omega) (by omega)), Wf_row w (m 3 (by omega) (by omega) (by omega)), Pa_0 u25.1 u25.2.1 u25.2.2, ?_, sE⟩
    have mI : ∀ j, j < 30 → U2.1 6 (o + j) = S2.1 3 j := fun j hj => by rw [m6, if_neg (by omega), if_pos (by omega), show o + j - o = j by omega]
    have mE : U2.1 6 (o + 30) = S1.1 128 0 := by rw [m6, if_pos rfl]
    have mO : ∀ j, j < o ∨ o + 30 < j → U2.1 6 j = S2.1 6 j := fun j hj => by rw [m6, if_neg (by omega), if_neg (by omega)]
    have im1 : FqO (i + 1) 6 o (S2.1 1 0) U1 U2 ∧ WfO 6 o (S2.1 1 0) U2 ∧ U1.1 i 1 = U2.1 6 (o + 30) := ⟨FqO_in f (by omega) mI cg, WfO_in w mI, ci.trans mE.symm⟩
    rcases hio with ⟨rfl, rfl, -⟩ | ⟨rfl, rfl, -⟩
    · refine ⟨fun _ => im1, fun z => ?_⟩
      rw [c 157 (by omega) (by omega)] at z ⊢
      obtain ⟨f2, w2, e2⟩ := im.2 z
      exact ⟨FqO_mv f2 (fun b g1 g2 => c b (by omega) (by omega)) (fun j hj => mO _ (by omega)), WfO_mv w2 (fun j hj => mO _ (by omega)), by rw [mO 61 (by omega)]; exact e2⟩
    · refine ⟨fun z => ?_, fun _ => im1⟩
      rw [c 151 (by omega) (by omega)] at z ⊢
      obtain ⟨f2, w2, e2⟩ := im.1 z
      exact ⟨FqO_mv f2 (fun b g1 g2 => c b (by omega) (by omega)) (fun j hj => mO _ (by omega)), WfO_mv w2 (fun j hj => mO _ (by omega)), by rw [mO 30 (by omega)]; exact e2⟩
  · rw [if_neg q, if_neg q, if_pos (show (0 : Int32) = 0 from rfl)]
    exact ⟨a, f, w, p, im, se⟩
/-- promise 31 -/
theorem sb_goBack (h : RB S1 S2) (hJ : JC S1) : (F_X9_goBack S1 x).1 = (F_X10_goBack S2 x).1 ∧ RB (F_X9_goBack S1 x).2 (F_X10_goBack S2 x).2 := by
  refine ⟨an_goBack h.1, ?_⟩
  obtain ⟨a, f, w, p, im, se⟩ := h
  rw [F_X9_goBack, F_X10_goBack, in01]
  by_cases q : mm_b 0 1 x
  · obtain ⟨i, o, hi, ho, ho2, hio⟩ := im_x q
    have e7 : S1.1 i 0 = S2.1 7 x.toNatClampNeg := by
      rcases hio with ⟨rfl, rfl, e⟩ | ⟨rfl, rfl, e⟩
      · rw [e]; exact a.2.2.2.1.1
      · rw [e]; exact a.2.2.2.1.2
    rw [if_pos q, if_pos q, if_neg one0, hi, e7]
    by_cases z : S2.1 7 x.toNatClampNeg = 0
    · rw [if_pos z, if_pos z]
      exact ⟨a, f, w, p, im, se⟩
    · rw [if_neg z, if_neg z, F_X9_goBack_itc34, F_X9_goBack_itc34u49, F_X9_goBack_itc34u49c52, F_X7_forget, F_X10_goBack_ttc43, ho2]
      have imx : FqO (i + 1) 6 o (S2.1 1 0) S1 S2 ∧ WfO 6 o (S2.1 1 0) S2 ∧ S1.1 i 1 = S2.1 6 (o + 30) := by
        rcases hio with ⟨rfl, rfl, e⟩ | ⟨rfl, rfl, e⟩
        · exact im.1 (by rw [e7]; exact z)
        · exact im.2 (by rw [e7]; exact z)
      obtain ⟨fI, wI, eI⟩ := imx
      have i1 : 151 ≤ i := by omega
      have i2 : i ≤ 157 := by omega
      generalize hc : F_X10_copies_63 S2 (31 * x) 0 30 = C2
      have cF : ∀ b j, C2.1 b j = if b = 3 ∧ j < 30 then S2.1 6 (o + j) else S2.1 b j := fun b j => by
        rw [← hc]
        show (if b = 3 ∧ (0 : Int32).toNatClampNeg ≤ j ∧ j < (0 : Int32).toNatClampNeg + (30 : Int32).toNatClampNeg then S2.1 6 (((31 : Int32) * x).toNatClampNeg + (j - (0 : Int32).toNatClampNeg)) else S2.1 b j) = _
        rw [ho, show (0 : Int32).toNatClampNeg = 0 by decide, show (30 : Int32).toNatClampNeg = 30 by decide]
        by_cases e : b = 3 ∧ j < 30
        · rw [if_pos e, if_pos (by omega), show j - 0 = j by omega]
        · rw [if_neg e, if_neg (by omega)]
      have c2 : C2.2 = S2.2 := by rw [← hc]; rfl
      obtain ⟨⟨k1, k2⟩, -, -⟩ := cp_c (S := S1) (a := 15) (c := i + 1) (by omega)
      have s1 : (F_X3_copy S1 15 (i + 1)).1 i 1 = S2.1 6 (o + 30) := by rw [k1 i (by omega) (by omega) (by omega) (by omega) (by omega)]; exact eI
      have s2 : C2.1 6 (o + 30) = S2.1 6 (o + 30) := by rw [cF, if_neg (by omega)]
      rw [s1, s2]
      generalize hU1 : mm_up (mm_up (mm_up (F_X3_copy S1 15 (i + 1)) 128 0 (S2.1 6 (o + 30))) 25 0 0) 25 1 0 = U1
      generalize hU2 : mm_up (mm_upL C2 0 8 (S2.1 6 (o + 30)).toInt64) 0 5 0 = U2
      show RB U1 U2
      have m : ∀ b, b ≠ 0 → b ≠ 3 → U2.1 b = S2.1 b := fun b h0 h3 => by
        rw [← hU2, up_row h0]
        funext j
        show C2.1 b j = _
        rw [cF, if_neg (fun z => h3 z.1)]
      have m0 : ∀ j, j ≠ 5 → U2.1 0 j = S2.1 0 j := fun j hj => by
        rw [← hU2, up_ne (by omega)]
        show C2.1 0 j = _
        rw [cF, if_neg (by omega)]
      have m3 : ∀ j, j < 30 → U2.1 3 j = S2.1 6 (o + j) := fun j hj => by
        rw [← hU2, up_ne (by omega)]
        show C2.1 3 j = _
        rw [cF, if_pos ⟨rfl, hj⟩]
      have c : ∀ b, ¬ (15 ≤ b ∧ b ≤ 19) → b ≠ 25 → b ≠ 128 → U1.1 b = S1.1 b := fun b h1 h2 h3 => by
        rw [← hU1, up_row h2, up_row h2, up_row h3, k1 b (by omega) (by omega) (by omega) (by omega) (by omega)]
      have cg : ∀ b, 15 ≤ b → b ≤ 19 → U1.1 b = (F_X3_copy S1 15 (i + 1)).1 b := fun b h1 h2 => by
        rw [← hU1, up_row (by omega), up_row (by omega), up_row (by omega)]
      have cr : U1.2 = S1.2 := by rw [← hU1, up_2, up_2, up_2, k2]
      have u25 : U1.1 25 0 = 0 ∧ U1.1 25 1 = 0 ∧ U2.1 0 5 = 0 := by
        rw [← hU1, ← hU2]
        refine ⟨?_, ?_, ?_⟩
        · rw [up_ne (by omega), up_at]
        · rw [up_at]
        · rw [up_at]
      have sE : Se U1 U2 := by
        unfold Se
        have e1 : U1.1 128 0 = S2.1 6 (o + 30) := by rw [← hU1, up_ne (by omega), up_ne (by omega), up_at]
        have e2 : U2.2.1 0 8 = (S2.1 6 (o + 30)).toInt64 := by
          rw [← hU2, up_2]
          exact upLat
        rw [e1, e2, Int32.toInt_toInt64]
      clear hU1 hU2
      unfold RB
      rw [m 1 (by omega) (by omega)]
      exact ⟨RA_G a hJ ⟨fun b hb => c b (by have z := LG1_a b hb; omega) (by revert b; decide) (by revert b; decide), cr⟩ ⟨fun b hb => m b (by revert b; decide) (by revert b; decide), fun j hj => m0 j (by revert j; decide)⟩,
        FqO_out fI (by omega) m3 cg, WfO_out wI m3, Pa_0 u25.1 u25.2.1 u25.2.2, Im_G im (fun b h1 h2 => c b (by omega) (by omega) (by omega)) (m 6 (by omega) (by omega)), sE⟩
  · rw [if_neg q, if_neg q, if_pos (show (0 : Int32) = 0 from rfl)]
    exact ⟨a, f, w, p, im, se⟩
/-- promise 29 -/
theorem sb_seed (h : RB S1 S2) (hJ : JC S1) : (F_X9_seed S1 x).1 = (F_X10_seed S2 x).1 ∧ RB (F_X9_seed S1 x).2 (F_X10_seed S2 x).2 := by
  have e32 := se_32 h.2.2.2.2.2
  rw [F_X9_seed, F_X10_seed]
  by_cases q : (0 : Int32) ≤ x
  · rw [if_pos q, if_pos q]
    refine ⟨e32.symm, ?_⟩
    obtain ⟨a, f, w, p, im, se⟩ := h
    show RB (mm_up S1 128 0 x) (mm_upL S2 0 8 x.toInt64)
    have c : ∀ b, b ≠ 128 → (mm_up S1 128 0 x).1 b = S1.1 b := fun b hb => up_row hb
    have m : (mm_upL S2 0 8 x.toInt64).1 = S2.1 := rfl
    have sE : Se (mm_up S1 128 0 x) (mm_upL S2 0 8 x.toInt64) := by
      unfold Se
      have e2 : (mm_upL S2 0 8 x.toInt64).2.1 0 8 = x.toInt64 := upLat
      rw [up_at, e2, Int32.toInt_toInt64]
    have cr : (mm_up S1 128 0 x).2 = S1.2 := up_2
    generalize mm_up S1 128 0 x = U1 at *
    generalize mm_upL S2 0 8 x.toInt64 = U2 at *
    unfold RB
    rw [m]
    exact ⟨RA_G a hJ ⟨fun b hb => c b (by revert b; decide), cr⟩ ⟨fun b _ => by rw [m], fun j _ => by rw [m]⟩,
      Fq_row f (c 15 (by omega)) (c 16 (by omega)) (c 17 (by omega)) (c 18 (by omega)) (c 19 (by omega)) (by rw [m]), Wf_row w (by rw [m]), Pa_G p (fun b h1 h2 => c b (by omega)) (by rw [m]) (by rw [m]), Im_G im (fun b h1 h2 => c b (by omega)) (by rw [m]), sE⟩
  · rw [if_neg q, if_neg q]
    exact ⟨rfl, h⟩
end RB3
