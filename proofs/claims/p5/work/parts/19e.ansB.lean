/-! ===== the start; answers under RB ===== -/
theorem RB_0 : ∀ S, SM1 S → RB SC0 S := by
  intro S hS
  have ra := RA_0 S hS
  obtain ⟨⟨n1, n2⟩, ⟨n0, n5, -, -, -⟩, -, ⟨n28, n29⟩, n3⟩ := bg_m (S := F_X10_blank1 SM0)
  obtain ⟨k1, k2, k3⟩ := bq (S2 := SM0)
  rw [SM1] at hS
  rw [← hS] at n1 n2 n0 n5 n28 n29 n3
  have c0 : (F_X10_blank1 SM0).1 1 0 = 0 := k3 0 (by omega)
  have p0 : S.1 1 0 = 0 := by rw [n1 1 (by omega) (by omega) (by omega)]; exact c0
  have a0 : S.1 3 28 = 0 := by rw [n28, c0]; decide
  unfold RB
  rw [p0]
  refine ⟨ra, ⟨⟨?_, ?_, ?_⟩, fun q => absurd rfl q⟩, ⟨?_, ?_, fun i hi => ?_⟩, Pa_0 (SC0_z 25 0 (by omega)) (SC0_z 25 1 (by omega)) n5, ⟨fun q => absurd (SC0_z 151 0 (by omega)) q, fun q => absurd (SC0_z 157 0 (by omega)) q⟩, ?_⟩
  · rw [a0]; exact SC0_z 15 0 (by omega)
  · rw [n29]; exact SC0_z 15 1 (by omega)
  · exact SC0_z 15 2 (by omega)
  · rw [a0]; decide
  · rw [a0]
    exact fun i hi z => absurd z (bt_0 hi)
  · obtain ⟨y1, y2, y3, y4⟩ := n3 i hi
    have u9 : S.1 3 i = 9 := by rw [y1, bgW, k3 (3 + i) (by omega), if_pos (show 3 ≤ 3 + i ∧ 3 + i ≤ 23 by omega), if_pos rfl]
    refine ⟨Or.inl u9, ?_, fun _ => ⟨u9, y2⟩, ?_, ?_⟩
    · rw [y2]; decide
    · rw [y3, k3 (10 + i) (by omega), if_pos (show 3 ≤ 10 + i ∧ 10 + i ≤ 23 by omega)]; decide
    · rw [y4, k3 (17 + i) (by omega), if_pos (show 3 ≤ 17 + i ∧ 17 + i ≤ 23 by omega)]; decide
  · unfold Se
    rw [n2, k2, SC0_z 128 0 (by omega)]
    rfl
section AB
variable {S1 S2 : mm_S} {x y z v p : Int32}
theorem vo (h : RB S1 S2) (hp : 0 ≤ p.toInt ∧ p.toInt ≤ 6) : F_X3_voiceOf_15 S1 p = S2.1 3 p.toNatClampNeg := by
  have cp := pz_cl hp.1
  have h2 : S1.1 15 2 = S2.1 1 0 := h.2.1.1.2.2
  have n0 : ¬ p < 0 := fun q => by have : p.toInt < 0 := Int32.lt_iff_toInt_lt.mp q; omega
  rw [F_X3_voiceOf_15, F_X3_isOne_15, h2, if_neg n0]
  by_cases q : S2.1 1 0 ≤ p
  · have q2 := Int32.le_iff_toInt_le.mp q
    have nb : ¬ bt (S2.1 3 28) p.toNatClampNeg := fun z => by have := h.2.2.1.2.1 p.toNatClampNeg (by omega) z; omega
    rw [if_pos q, if_pos (show (0 : Int32) = 0 from rfl)]
    exact ((h.2.2.1.2.2 p.toNatClampNeg (by omega)).2.2.1 nb).1.symm
  · have q2 := Int32.lt_iff_toInt_lt.mp (bd_nle q)
    have hp0 : ¬ S2.1 1 0 = 0 := fun e => by
      rw [e] at q2
      have : (0 : Int32).toInt = 0 := rfl
      omega
    rw [if_neg q, if_neg one0]
    exact ((h.2.1.2 hp0).2.2.2 p.toNatClampNeg (by omega)).1
theorem vo_b (h : RB S1 S2) (hp : 0 ≤ p.toInt ∧ p.toInt ≤ 6) : S2.1 3 p.toNatClampNeg = 9 ∨ mm_b 0 6 (S2.1 3 p.toNatClampNeg) := by
  have cp := pz_cl hp.1
  exact (h.2.2.1.2.2 p.toNatClampNeg (by omega)).1
/-- the doors that a voice opens -/
theorem op_L {a : Nat} (ha : a = S1.2.2 0 1) (h : RA S1 S2) (hv : v = 9 ∨ mm_b 0 6 v) : ∀ (N k : Nat) (A : Int32), k < 100 → F_X6_openTo_L4 a v N S1 A (nI k) = F_X10_openTo_L4 v N S2 A (nI k)
  | 0, k, A, _ => rfl
  | N + 1, k, A, hk => by
    obtain ⟨⟨-, e1, -⟩, ⟨-, d6, -⟩, -, -, dk, -⟩ := h.2.2.1
    rw [F_X6_openTo_L4, F_X10_openTo_L4, ha, e1]
    by_cases q : S2.1 1 1 ≤ nI k
    · rw [if_pos q, if_pos q]
    · have q2 := Int32.lt_iff_toInt_lt.mp (bd_nle q)
      have ek : (nI k).toInt = k := nI_toInt (by omega)
      obtain ⟨d0, d7⟩ := d6
      have ck : (nI k).toNatClampNeg = k := nI_c (by omega)
      have c25 : ((25 : Int32) + nI k).toNatClampNeg = 25 + k := by rw [pz_addc (by decide) ⟨by omega, by omega⟩, ck]; rfl
      rw [if_neg q, if_neg q, ck, c25, dk k (by omega), nI_s hk, Int32.or_zero]
      have ih := fun B => op_L ha h hv N (k + 1) B (by omega)
      rcases hv with hv | hv
      · have e0 : F_X9_isIn S1 (S2.1 1 (25 + k)) v = 0 := by
          rw [hv, F_X9_isIn, if_neg (show ¬ (9 : Int32) < 0 by decide), if_pos (show (7 : Int32) ≤ 9 by decide)]
        rw [e0, if_pos (show (0 : Int32) = 0 from rfl), if_pos hv, ← ha]
        exact ih A
      · have n9 : ¬ v = 9 := fun e => by rw [e] at hv; exact absurd hv.2 (by decide)
        rw [hw (T := S2) ⟨hv.1, by have := hv.2; omega⟩, if_neg n9, ← ha]
        by_cases q3 : F_X10_isIn S2 (S2.1 1 (25 + k)) v = 0
        · rw [if_pos q3, if_pos q3]
          exact ih A
        · rw [if_neg q3, if_neg q3]
          exact ih _
theorem op (h : RA S1 S2) (hv : v = 9 ∨ mm_b 0 6 v) : F_X6_openTo S1 (S1.2.2 0 1) v = F_X10_openTo S2 v := op_L rfl h hv 8 0 0 (by omega)
/-- promise 6 -/
theorem an_person (h : RB S1 S2) : F_X9_person S1 x y = F_X10_person S2 x y := by
  have hP := h.1.2.2.1.2.1.1
  rw [F_X9_person, F_X10_person, an_p h.1]
  by_cases q : F_X10_isPerson S2 x = 0
  · rw [if_pos q, if_pos q]
  · have hx := per h q
    have hp := per0 h q
    have f0 := h.2.1.2 hp
    have cx := pz_cl hx.1
    have c0 : ((0 : Int32) + x).toNatClampNeg = x.toNatClampNeg := by rw [Int32.zero_add]
    have r := f0.2.2.2 x.toNatClampNeg (by omega)
    have o1 := one_lc f0 hP ⟨hx.1, hx.2.1⟩
    have ix : ∀ (c : Nat), c ≤ 3 → y.toInt = c → ((0 : Int32) + 7 * y + x).toNatClampNeg = 7 * c + x.toNatClampNeg := fun c hc hy => by
      have ey : y = nI c := Int32.toInt_inj.mp (by rw [hy, nI_toInt (by omega)])
      have t : ∀ k : Fin 4, mm_b 0 1000 ((0 : Int32) + 7 * nI k.val) ∧ ((0 : Int32) + 7 * nI k.val).toNatClampNeg = 7 * k.val := by decide +kernel
      have t1 : mm_b 0 1000 ((0 : Int32) + 7 * nI c) := (t ⟨c, by omega⟩).1
      have t2 : ((0 : Int32) + 7 * nI c).toNatClampNeg = 7 * c := (t ⟨c, by omega⟩).2
      rw [ey, pz_addc t1 ⟨hx.1, by omega⟩, t2]
    rw [if_neg q, if_neg q, F_X3_jarOf_15, F_X3_firstHeir_15, F_X3_secondHeir_15, vo h ⟨hx.1, hx.2.2⟩, o1, if_neg one0, if_neg one0, if_neg one0, c0, op h.1 (vo_b h ⟨hx.1, hx.2.2⟩), lc15 f0 h.2.2.1 hP, alv h.2.2.1 ⟨hx.1, hx.2.2⟩]
    by_cases e0 : y.toInt = 0
    · rw [if_pos e0, if_pos e0, ix 0 (by omega) e0, show 7 * 0 + x.toNatClampNeg = x.toNatClampNeg by omega]
    · rw [if_neg e0, if_neg e0]
      by_cases e1 : y.toInt = 1
      · rw [if_pos e1, if_pos e1, ix 1 (by omega) e1]
        exact r.2.1
      · rw [if_neg e1, if_neg e1]
        by_cases e2 : y.toInt = 2
        · rw [if_pos e2, if_pos e2, ix 2 (by omega) e2]
          exact r.2.2.1
        · rw [if_neg e2, if_neg e2]
          by_cases e3 : y.toInt = 3
          · rw [if_pos e3, if_pos e3, ix 3 (by omega) e3]
            exact r.2.2.2
          · rw [if_neg e3, if_neg e3]
theorem bcT : ∀ s : Fin 128, F_JbitCount SC0 (nI s.val) = F_X10_bits SC0 (nI s.val) ∧ mm_b 0 7 (F_JbitCount SC0 (nI s.val)) := by decide +kernel
/-- how many: both count the same -/
theorem bc {A : Int32} (h : mm_b 0 127 A) : F_JbitCount S1 A = F_X10_bits S2 A := by
  obtain ⟨s, rfl⟩ := sm_nI h
  exact (bcT s).1
theorem bc_b {A : Int32} (h : mm_b 0 127 A) : mm_b 0 7 (F_X10_bits S2 A) := by
  obtain ⟨s, rfl⟩ := sm_nI h
  have := bcT s
  rw [this.1] at this
  exact this.2
theorem op_b {T : mm_S} : ∀ (N k : Nat) (A : Int32), k < 100 → mm_b 0 1 (T.1 1 1) ∨ mm_b 0 6 (T.1 1 1) → mm_b 0 127 A → mm_b 0 127 (F_X10_openTo_L4 v N T A (nI k))
  | 0, k, A, _, _, _ => by
    rw [F_X10_openTo_L4]
    decide
  | N + 1, k, A, hk, hd, hA => by
    rw [F_X10_openTo_L4]
    by_cases q : T.1 1 1 ≤ nI k
    · rw [if_pos q]
      exact hA
    · have q2 := Int32.lt_iff_toInt_lt.mp (bd_nle q)
      have ek : (nI k).toInt = k := nI_toInt (by omega)
      have b6 : mm_b 0 6 (nI k) := by
        rcases hd with hd | hd
        · have := hd.2; exact ⟨by omega, by omega⟩
        · have := hd.2; exact ⟨by omega, by omega⟩
      rw [if_neg q, nI_s hk, Int32.or_zero]
      split
      · exact op_b N (k + 1) A (by omega) hd hA
      · split
        · exact op_b N (k + 1) A (by omega) hd hA
        · exact op_b N (k + 1) _ (by omega) hd (sm_or hA b6)
/-- promise 19 -/
theorem an_bid (h : RB S1 S2) : F_X9_bid S1 x y = F_X10_bid S2 x y := by
  have hP := h.1.2.2.1.2.1.1
  have ei : F_X10_in S2 y.toInt64 0 99 = if mm_b 0 99 y then 1 else 0 := m_in (lo := 0) (hi := 99)
  rw [F_X9_bid, F_X10_bid, an_p h.1, ei]
  by_cases q : F_X10_isPerson S2 x = 0
  · rw [if_pos q, if_pos q]
  · have hx := per h q
    have f0 := h.2.1.2 (per0 h q)
    have c0 : ((0 : Int32) + x).toNatClampNeg = x.toNatClampNeg := by rw [Int32.zero_add]
    rw [if_neg q, if_neg q, c0, vo h ⟨hx.1, hx.2.2⟩, lc15 f0 h.2.2.1 hP, alv h.2.2.1 ⟨hx.1, hx.2.2⟩]
    by_cases q1 : y < 0
    · have q2 : y.toInt < 0 := Int32.lt_iff_toInt_lt.mp q1
      rw [if_pos q1, if_neg (show ¬ mm_b 0 99 y from fun z => by have := z.1; omega), if_pos (show (0 : Int32) = 0 from rfl)]
    · have q2 : (0 : Int) ≤ y.toInt := Int32.le_iff_toInt_le.mp (bd_nlt q1)
      rw [if_neg q1]
      by_cases q3 : y ≤ 99
      · have q4 : y.toInt ≤ 99 := Int32.le_iff_toInt_le.mp q3
        rw [if_pos q3, if_pos (show mm_b 0 99 y from ⟨q2, q4⟩), if_neg one0]
        by_cases l : lv (S2.1 3 28) x
        · rw [if_pos l, if_neg one0, if_neg one0]
          have vb := vo_b h ⟨hx.1, hx.2.2⟩
          by_cases e9 : S2.1 3 x.toNatClampNeg = 9
          · rw [if_pos e9, if_pos e9]
          · rw [if_neg e9, if_neg e9]
            have v6 := vb.resolve_left e9
            have opb : mm_b 0 127 (F_X10_openTo S2 (S2.1 3 x.toNatClampNeg)) := op_b 8 0 0 (by omega) (Or.inr h.1.2.2.1.2.1.2.1) (by decide)
            rw [op h.1 vb, bc (S2 := S2) opb]
            generalize hv : S2.1 3 x.toNatClampNeg = v at *
            have c3 : ((3 : Int32) + v).toNatClampNeg = 3 + v.toNatClampNeg := pz_addc (by decide) ⟨v6.1, by have := v6.2; omega⟩
            have cv := pz_cl v6.1
            have rg : F_X6_rangeOf S1 (S1.2.2 0 1) v = S2.1 1 (3 + v.toNatClampNeg) := by
              rw [F_X6_rangeOf, F_X6_hasPerson, h.1.2.2.1.1.1, if_neg (fun z : v < 0 => by have : v.toInt < 0 := Int32.lt_iff_toInt_lt.mp z; have := v6.1; omega)]
              by_cases z : S2.1 1 0 ≤ v
              · have z2 := Int32.le_iff_toInt_le.mp z
                rw [if_pos z, if_pos (show (0 : Int32) = 0 from rfl)]
                exact (h.1.2.2.1.2.2.2.1 v.toNatClampNeg (by have := v6.2; omega) (by omega)).symm
              · have z2 := Int32.lt_iff_toInt_lt.mp (bd_nle z)
                rw [if_neg z, if_neg one0]
                exact h.1.2.2.1.2.2.1 v.toNatClampNeg (by omega)
            rw [rg, c3]
        · rw [if_neg l, if_pos (show (0 : Int32) = 0 from rfl), if_pos (show (0 : Int32) = 0 from rfl)]
      · have q4 : (99 : Int) < y.toInt := Int32.lt_iff_toInt_lt.mp (bd_nle q3)
        rw [if_neg q3, if_neg (show ¬ mm_b 0 99 y from fun z => by have := z.2; omega), if_pos (show (0 : Int32) = 0 from rfl)]
end AB
