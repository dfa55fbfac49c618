/-! ===== what is seen and in the book speaks of this parish; spoke, knock, judge ===== -/
def Sn (S2 : mm_S) : Prop := (∀ k : Nat, (k : Int) < (S2.1 0 13).toInt → 0 ≤ (S2.1 9 (2 * k)).toInt ∧ (S2.1 9 (2 * k)).toInt < (S2.1 1 1).toInt) ∧ (∀ k : Nat, (k : Int) < (S2.1 0 17).toInt → 0 ≤ (S2.1 11 (2 * k)).toInt ∧ (S2.1 11 (2 * k)).toInt < (S2.1 1 0).toInt)
section SNs
variable {S1 S2 U1 U2 : mm_S} {x y z v p v2 : Int32}
theorem Sn_G (h : Sn S2) (m1 : U2.1 1 = S2.1 1) (m9 : U2.1 9 = S2.1 9) (m11 : U2.1 11 = S2.1 11) (z13 : U2.1 0 13 = S2.1 0 13) (z17 : U2.1 0 17 = S2.1 0 17) : Sn U2 := by
  unfold Sn
  rw [m1, m9, m11, z13, z17]
  exact h
theorem Sn_eq (h : Sn S2) (e : S2 = U2) : Sn U2 := e ▸ h
theorem fr_Sn {wr2 wf2 : List Nat} {k m' : Bool} (h : Sn S2) (f2 : fr wr2 wf2 k m' S2 U2) (h2 : ∀ b ∈ [1, 9, 11], b ∉ wr2 ∧ b ≠ 0) (h3 : ∀ j ∈ [13, 17], j ∉ wf2) : Sn U2 :=
  Sn_G h (funext fun j => f2.1 1 j (h2 1 (by decide)).1 (h2 1 (by decide)).2) (funext fun j => f2.1 9 j (h2 9 (by decide)).1 (h2 9 (by decide)).2) (funext fun j => f2.1 11 j (h2 11 (by decide)).1 (h2 11 (by decide)).2) (f2.2.1 13 (h3 13 (by decide))) (f2.2.1 17 (h3 17 (by decide)))
theorem Sn_z (z13 : U2.1 0 13 = 0) (z17 : U2.1 0 17 = 0) : Sn U2 := by
  have t : (0 : Int32).toInt = 0 := rfl
  refine ⟨fun k hk => ?_, fun k hk => ?_⟩
  · rw [z13] at hk; omega
  · rw [z17] at hk; omega
theorem two {c : Int32} (hc : mm_b 0 15 c) : (2 * c).toNatClampNeg = 2 * c.toNatClampNeg ∧ (2 * c + 1).toNatClampNeg = 2 * c.toNatClampNeg + 1 ∧ (c + 1).toInt = c.toInt + 1 := by
  obtain ⟨j, rfl, hj⟩ := bd_nI hc.1
  have t : ∀ k : Fin 16, (2 * nI k.val).toNatClampNeg = 2 * (nI k.val).toNatClampNeg ∧ (2 * nI k.val + 1).toNatClampNeg = 2 * (nI k.val).toNatClampNeg + 1 ∧ (nI k.val + 1).toInt = (nI k.val).toInt + 1 := by decide +kernel
  exact t ⟨j, by have := hc.2; omega⟩
theorem sn_see (h : Sn S2) (ra : RA S1 S2) (hM : JM S2) (e2 : F_X10_see S2 x y = (v2, U2)) : Sn U2 := by
  have hb : mm_b 0 6 (S2.1 0 13) := JIM_fld hM rfl tbM_3 (by decide)
  have cb := pz_cl hb.1
  obtain ⟨t1, t2, t3⟩ := two (c := S2.1 0 13) ⟨hb.1, by have := hb.2; omega⟩
  have key : ∀ w : Int32, (0 ≤ x.toInt ∧ x.toInt < (S2.1 1 1).toInt) → Sn (mm_up (mm_up (mm_up S2 9 (2 * S2.1 0 13).toNatClampNeg x) 9 (2 * S2.1 0 13 + 1).toNatClampNeg w) 0 13 (S2.1 0 13 + 1)) := fun w hx => by
    rw [t1, t2]
    refine ⟨fun k hk => ?_, fun k hk => ?_⟩
    · rw [up_at, t3] at hk
      rw [up_ne (a := 0) (b := 9) (by omega), up_ne (a := 0) (b := 1) (by omega), up_ne (a := 9) (b := 1) (by omega), up_ne (a := 9) (b := 1) (by omega), up_ne (a := 9) (i := 2 * k) (by omega)]
      by_cases q : k = (S2.1 0 13).toNatClampNeg
      · rw [q, up_at]
        exact hx
      · rw [up_ne (by omega)]
        exact h.1 k (by omega)
    · rw [up_ne (by omega), up_ne (by omega), up_ne (by omega)] at hk
      rw [up_ne (by omega), up_ne (by omega), up_ne (by omega), up_ne (by omega), up_ne (by omega), up_ne (by omega)]
      exact h.2 k hk
  rw [F_X10_see] at e2
  by_cases q : F_X10_in S2 x.toInt64 0 (S2.1 1 1 - 1).toInt64 = 0
  · rw [if_pos q] at e2
    exact Sn_eq h (congrArg Prod.snd e2)
  · rw [if_neg q] at e2
    have hx := in_1 (bd_w ra.2.2.1.2.1.2.1 (by decide)) q
    by_cases q2 : S2.1 0 13 = 6
    · rw [if_pos q2] at e2
      exact Sn_eq h (congrArg Prod.snd e2)
    · rw [if_neg q2] at e2
      by_cases q3 : y = 0
      · rw [if_pos q3] at e2
        exact Sn_eq (key 0 hx) (congrArg Prod.snd e2)
      · rw [if_neg q3] at e2
        exact Sn_eq (key 1 hx) (congrArg Prod.snd e2)
theorem sn_write (h : Sn S2) (ra : RA S1 S2) (hM : JM S2) (e2 : F_X10_write S2 x y = (v2, U2)) : Sn U2 := by
  have hb : mm_b 0 15 (S2.1 0 17) := JIM_fld hM rfl tbM_5 (by decide)
  have cb := pz_cl hb.1
  obtain ⟨t1, t2, t3⟩ := two (c := S2.1 0 17) hb
  have key : (0 ≤ x.toInt ∧ x.toInt < (S2.1 1 0).toInt) → Sn (mm_up (mm_up (mm_up S2 11 (2 * S2.1 0 17).toNatClampNeg x) 11 (2 * S2.1 0 17 + 1).toNatClampNeg y) 0 17 (S2.1 0 17 + 1)) := fun hx => by
    rw [t1, t2]
    refine ⟨fun k hk => ?_, fun k hk => ?_⟩
    · rw [up_ne (by omega), up_ne (by omega), up_ne (by omega)] at hk
      rw [up_ne (by omega), up_ne (by omega), up_ne (by omega), up_ne (by omega), up_ne (by omega), up_ne (by omega)]
      exact h.1 k hk
    · rw [up_at, t3] at hk
      rw [up_ne (a := 0) (b := 11) (by omega), up_ne (a := 0) (b := 1) (by omega), up_ne (a := 11) (b := 1) (by omega), up_ne (a := 11) (b := 1) (by omega), up_ne (a := 11) (i := 2 * k) (by omega)]
      by_cases q : k = (S2.1 0 17).toNatClampNeg
      · rw [q, up_at]
        exact hx
      · rw [up_ne (by omega)]
        exact h.2 k (by omega)
  rw [F_X10_write] at e2
  by_cases q : F_X10_isPerson S2 x = 0
  · rw [if_pos q] at e2
    exact Sn_eq h (congrArg Prod.snd e2)
  · rw [if_neg q] at e2
    have hx := in_1 ra.2.2.1.2.1.1 q
    by_cases q2 : F_X10_isUse S2 y = 0
    · rw [if_pos q2] at e2
      exact Sn_eq h (congrArg Prod.snd e2)
    · rw [if_neg q2] at e2
      by_cases q3 : S2.1 0 17 = 15
      · rw [if_pos q3] at e2
        exact Sn_eq h (congrArg Prod.snd e2)
      · rw [if_neg q3] at e2
        exact Sn_eq (key hx) (congrArg Prod.snd e2)
theorem sn_tear (e2 : F_X10_tear S2 = (v2, U2)) : Sn U2 := by
  rw [F_X10_tear] at e2
  refine Sn_eq (Sn_z ?_ ?_) (congrArg Prod.snd e2)
  · rw [up_ne (by omega), up_ne (by omega), up_at]
  · rw [up_at]
theorem sn_parish (h : Sn S2) (ra : RA S1 S2) (hJ : JC S1) (e2 : F_X10_parish S2 = (v2, U2)) : Sn U2 := by
  have hd := pa_in (JRC_2 hJ)
  have hn : pz_p (S1.1 1 0) := JIC_fld hJ rfl tbC_0 (by decide)
  have ht : ∀ j : Nat, j < 240 → 0 ≤ (S1.1 2 j).toInt := fun j hj => (JIC_fld (j := j) hJ rfl tbC_2 ⟨by omega, by omega⟩).1
  rcases parse (a := S1.2.2 0 2) (by omega) ra.1.1 ra.1.2.1 hn ht with ⟨C1, C2, c', m', q', b', s', g', v', w', e3, e4, D, hB⟩ | ⟨C1, C2, k, c', m', q', b', s', g', v', e3, e4, hk, hB⟩
  · rw [e4, F_X10_parish_L23ttu87, F_X10_parish_L23ttu87c90, F_X10_parish_L23ttu87c90c94] at e2
    generalize F_X10_copies_21 (mm_up (td C2 q' b' s' g' v' w') 0 10 0) 0 0 37 = C at e2
    obtain ⟨-, ⟨-, -, n13, n15, n17⟩, -, -, -⟩ := bg_m (S := C)
    exact Sn_eq (Sn_z n13 n17) (congrArg Prod.snd e2)
  · rw [e4] at e2
    have e6 : mm_up (mm_up (td C2 q' b' s' g' v' k) 0 10 0) 0 11 b' = U2 := congrArg Prod.snd e2
    obtain ⟨-, ⟨k3, k4⟩, -, -, -, -⟩ := hB
    have r : ∀ b, b ≠ 0 → b ≠ 2 → U2.1 b = S2.1 b := fun b h0 h2 => by rw [← e6, up_row h0, up_row h0, td_row h0, k3 b h2, up_row h0]
    have f : ∀ j, j < 18 → j ≠ 10 → j ≠ 11 → U2.1 0 j = S2.1 0 j := fun j hj h10 h11 => by
      rw [← e6, up_ne (by omega), up_ne (by omega)]
      show (if j = 18 then q' else if j = 19 then b' else if j = 20 then s' else if j = 21 then g' else if j = 22 then v' else if j = 23 then k else C2.1 0 j) = _
      rw [if_neg (by omega), if_neg (by omega), if_neg (by omega), if_neg (by omega), if_neg (by omega), if_neg (by omega), k3 0 (by omega), up_ne (by omega)]
    exact Sn_G h (r 1 (by omega) (by omega)) (r 9 (by omega) (by omega)) (r 11 (by omega) (by omega)) (f 13 (by omega) (by omega) (by omega)) (f 17 (by omega) (by omega) (by omega))
theorem Sn_0 : ∀ S, SM1 S → Sn S := by
  intro S hS
  obtain ⟨-, ⟨-, -, n13, n15, n17⟩, -, -, -⟩ := bg_m (S := F_X10_blank1 SM0)
  rw [SM1] at hS
  rw [← hS] at n13 n17
  exact Sn_z n13 n17
/-! the voices that spoke -/
theorem vs_L (ra : RA S1 S2) (h : Sn S2) (hb : mm_b 0 6 (S2.1 0 13)) : ∀ (N k : Nat) (A : Int32), k < 100 → F_X9_voicesThatSpoke_L10 N S1 A (nI k) = F_X10_voices_L7 N S2 A (nI k)
  | 0, k, A, _ => rfl
  | N + 1, k, A, hk => by
    obtain ⟨e9, ee⟩ := ra.2.2.2.2.1
    rw [F_X9_voicesThatSpoke_L10, F_X10_voices_L7, F_X2_valueAt_129, F_X2_subjectAt_129, e9]
    by_cases q : S2.1 0 13 ≤ nI k
    · rw [if_pos q, if_pos q]
    · have q2 := Int32.lt_iff_toInt_lt.mp (bd_nle q)
      have ek : (nI k).toInt = k := nI_toInt (by omega)
      obtain ⟨b0, b6⟩ := hb
      have ck : (nI k).toNatClampNeg = k := nI_c (by omega)
      obtain ⟨t1, t2, -⟩ := two (c := nI k) ⟨by omega, by omega⟩
      have n0 : ¬ nI k < 0 := fun z => by have : (nI k).toInt < 0 := Int32.lt_iff_toInt_lt.mp z; omega
      obtain ⟨d0, d1⟩ := h.1 k (by omega)
      obtain ⟨f0, f1⟩ := ee k (by omega)
      have g0 : S1.1 130 k = S2.1 9 (2 * k) := f0
      have g1 : S1.1 131 k = S2.1 9 (2 * k + 1) := f1
      obtain ⟨-, ⟨-, d6, -⟩, -, -, dk, -⟩ := ra.2.2.1
      rw [if_neg q, if_neg q, if_neg n0, if_neg q, if_neg n0, if_neg q, t1, t2, ck, g0, g1, nI_s hk]
      generalize hd : S2.1 9 (2 * k) = d at *
      have cd := pz_cl d0
      have c25 : ((25 : Int32) + d).toNatClampNeg = 25 + d.toNatClampNeg := pz_addc (by decide) ⟨d0, by have := d6.2; omega⟩
      have kn : F_X6_knownBy S1 (S1.2.2 0 1) d = S2.1 1 (25 + d.toNatClampNeg) := by
        rw [F_X6_knownBy, F_X6_hasDoor, ra.2.2.1.1.2.1, if_neg (fun z : d < 0 => by have : d.toInt < 0 := Int32.lt_iff_toInt_lt.mp z; omega), if_neg (fun z : S2.1 1 1 ≤ d => by have := Int32.le_iff_toInt_le.mp z; omega), if_neg one0]
        exact dk d.toNatClampNeg (by omega)
      rw [kn, c25]
      split
      · exact vs_L ra h ⟨b0, b6⟩ N (k + 1) _ (by omega)
      · exact vs_L ra h ⟨b0, b6⟩ N (k + 1) _ (by omega)
theorem vs (ra : RA S1 S2) (h : Sn S2) (hM : JM S2) : F_X9_voicesThatSpoke S1 = F_X10_voices S2 := by
  rw [F_X9_voicesThatSpoke, F_X10_voices, av ra]
  exact vs_L ra h (JIM_fld hM rfl tbM_3 (by decide)) 8 0 _ (by omega)
theorem us_L (h : RB S1 S2) (V : Int32) : ∀ (N k : Nat) (A : Int32), k < 100 → F_X3_usersOf_15_L4 V N S1 A (nI k) = F_X10_spoke_L29 N S2 V A (nI k)
  | 0, k, A, _ => rfl
  | N + 1, k, A, hk => by
    have h2 : S1.1 15 2 = S2.1 1 0 := h.2.1.1.2.2
    have hP := h.1.2.2.1.2.1.1
    rw [F_X3_usersOf_15_L4, F_X10_spoke_L29, h2]
    by_cases q : S2.1 1 0 ≤ nI k
    · rw [if_pos q, if_pos q]
    · have q2 := Int32.lt_iff_toInt_lt.mp (bd_nle q)
      have ek : (nI k).toInt = k := nI_toInt (by omega)
      obtain ⟨d0, d7⟩ := id hP
      have ck : (nI k).toNatClampNeg = k := nI_c (by omega)
      have c0 : ((0 : Int32) + nI k).toNatClampNeg = k := by rw [Int32.zero_add, ck]
      have f0 := h.2.1.2 (P_ne (k := k) (by omega))
      have w := h.2.2.1.2.2 k (by omega)
      rw [if_neg q, if_neg q, ck, c0, (f0.2.2.2 k (by omega)).1, nI_s hk, Int32.or_zero, lc15 f0 h.2.2.1 hP, alv h.2.2.1 ⟨by omega, by omega⟩]
      by_cases l : lv (S2.1 3 28) (nI k)
      · rw [if_pos l, if_neg one0, if_neg one0]
        rcases w.1 with e | e
        · rw [e, if_pos (show (9 : Int32) = 9 from rfl), F_X9_isIn, if_neg (show ¬ (9 : Int32) < 0 by decide), if_pos (show (7 : Int32) ≤ 9 by decide), if_pos (show (0 : Int32) = 0 from rfl)]
          exact us_L h V N (k + 1) A (by omega)
        · have n9 : ¬ S2.1 3 k = 9 := fun z => by rw [z] at e; exact absurd e.2 (by decide)
          rw [if_neg n9, hw (T := S2) ⟨e.1, by have := e.2; omega⟩]
          by_cases q3 : F_X10_isIn S2 V (S2.1 3 k) = 0
          · rw [if_pos q3, if_pos q3]
            exact us_L h V N (k + 1) A (by omega)
          · rw [if_neg q3, if_neg q3]
            exact us_L h V N (k + 1) _ (by omega)
      · rw [if_neg l, if_pos (show (0 : Int32) = 0 from rfl), if_pos (show (0 : Int32) = 0 from rfl)]
        exact us_L h V N (k + 1) A (by omega)
/-- promise 22 -/
theorem an_spoke (h : RB S1 S2) (hs : Sn S2) (hM : JM S2) : F_X9_spoke S1 x = F_X10_spoke S2 x := by
  rw [F_X9_spoke, F_X10_spoke, vs h.1 hs hM, in01]
  by_cases q0 : x.toInt = 0
  · have e : x = 0 := Int32.toInt_inj.mp q0
    rw [if_pos q0, if_pos (show mm_b 0 1 x from ⟨by omega, by omega⟩), if_neg one0, if_pos e]
  · rw [if_neg q0]
    have n0 : ¬ x = 0 := fun e => q0 (by rw [e]; rfl)
    by_cases q1 : x.toInt = 1
    · rw [if_pos q1, if_pos (show mm_b 0 1 x from ⟨by omega, by omega⟩), if_neg one0, if_neg n0]
      exact us_L h _ 9 0 0 (by omega)
    · rw [if_neg q1, if_neg (show ¬ mm_b 0 1 x from fun z => by have := z.1; have := z.2; omega), if_pos (show (0 : Int32) = 0 from rfl)]
theorem ju_L (h : RB S1 S2) (hs : Sn S2) (hb : mm_b 0 15 (S2.1 0 17)) : ∀ (N k : Nat), k < 100 → F_X2_firstUnlike_135_15_L2 N S1 (nI k) = F_X10_judge_L2 N S2 (nI k)
  | 0, k, _ => rfl
  | N + 1, k, hk => by
    obtain ⟨e9, ee⟩ := h.1.2.2.2.2.2.2
    rw [F_X2_firstUnlike_135_15_L2, F_X10_judge_L2, e9]
    by_cases q : S2.1 0 17 ≤ nI k
    · rw [if_pos q, if_pos q]
    · have q2 := Int32.lt_iff_toInt_lt.mp (bd_nle q)
      have ek : (nI k).toInt = k := nI_toInt (by omega)
      obtain ⟨b0, b6⟩ := hb
      have ck : (nI k).toNatClampNeg = k := nI_c (by omega)
      obtain ⟨t1, t2, -⟩ := two (c := nI k) ⟨by omega, by omega⟩
      obtain ⟨d0, d1⟩ := hs.2 k (by omega)
      obtain ⟨f0, f1⟩ := ee k (by omega)
      have g0 : S1.1 136 k = S2.1 11 (2 * k) := f0
      have g1 : S1.1 137 k = S2.1 11 (2 * k + 1) := f1
      have p7 := h.1.2.2.1.2.1.1.2
      rw [if_neg q, if_neg q, t1, t2, ck, g0, g1, nI_s hk, Int32.zero_add, vo h ⟨d0, by omega⟩]
      split
      · exact ju_L h hs ⟨b0, b6⟩ N (k + 1) (by omega)
      · rfl
/-- promise 28 -/
theorem an_judge (h : RB S1 S2) (hs : Sn S2) (hM : JM S2) : F_X9_judge S1 = F_X10_judge S2 := by
  rw [F_X9_judge, F_X2_firstUnlike_135_15, F_X10_judge]
  exact ju_L h hs (JIM_fld hM rfl tbM_5 (by decide)) 17 0 (by omega)
end SNs
