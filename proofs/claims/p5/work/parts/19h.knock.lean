/-! ===== knock ===== -/
section KN
variable {S1 S2 U1 U2 : mm_S} {x y z v p v2 : Int32}
theorem av_b {T : mm_S} (hP : mm_b 0 7 (T.1 1 0)) : ∀ (N k : Nat) (A : Int32), k < 100 → mm_b 0 127 A → mm_b 0 127 (F_X10_allVoices_L4 N T A (nI k))
  | 0, k, A, _, _ => by
    rw [F_X10_allVoices_L4]
    decide
  | N + 1, k, A, hk, hA => by
    rw [F_X10_allVoices_L4]
    by_cases q : T.1 1 0 ≤ nI k
    · rw [if_pos q]
      exact hA
    · have q2 := Int32.lt_iff_toInt_lt.mp (bd_nle q)
      have ek : (nI k).toInt = k := nI_toInt (by omega)
      have b6 : mm_b 0 6 (nI k) := ⟨by omega, by have := hP.2; omega⟩
      rw [if_neg q, nI_s hk, Int32.or_zero]
      split
      · exact av_b hP N (k + 1) A (by omega) hA
      · exact av_b hP N (k + 1) _ (by omega) (sm_or hA b6)
theorem vs_b {T : mm_S} : ∀ (N : Nat) (A y : Int32), mm_b 0 127 A → mm_b 0 127 (F_X10_voices_L7 N T A y)
  | 0, A, y, _ => by
    rw [F_X10_voices_L7]
    decide
  | N + 1, A, y, hA => by
    rw [F_X10_voices_L7]
    split
    · exact hA
    · split
      · exact vs_b N _ _ (sm_and hA)
      · exact vs_b N _ _ (sm_and hA)
theorem kn_L (ra : RA S1 S2) {V : Int32} (hV : mm_b 0 127 V) : ∀ (N k : Nat) (b m : Int32), k < 100 → F_X9_knock_L15 N S1 V b m (nI k) = F_X10_knock_L18 N S2 V (F_X10_bits S2 V) m b (nI k)
  | 0, k, b, m, _ => rfl
  | N + 1, k, b, m, hk => by
    obtain ⟨⟨-, e1, -⟩, ⟨-, d6, -⟩, -, -, dk, -⟩ := ra.2.2.1
    rw [F_X9_knock_L15, F_X10_knock_L18, e1]
    by_cases q : S2.1 1 1 ≤ nI k
    · rw [if_pos q, if_pos q]
    · have q2 := Int32.lt_iff_toInt_lt.mp (bd_nle q)
      have ek : (nI k).toInt = k := nI_toInt (by omega)
      obtain ⟨d0, d7⟩ := d6
      have ck : (nI k).toNatClampNeg = k := nI_c (by omega)
      have c25 : ((25 : Int32) + nI k).toNatClampNeg = 25 + k := by rw [pz_addc (by decide) ⟨by omega, by omega⟩, ck]; rfl
      have kn : F_X6_knownBy S1 (S1.2.2 0 1) (nI k) = S2.1 1 (25 + k) := by
        rw [F_X6_knownBy, F_X6_hasDoor, e1, if_neg (fun z : nI k < 0 => by have : (nI k).toInt < 0 := Int32.lt_iff_toInt_lt.mp z; omega), if_neg q, if_neg one0, ck]
        exact dk k (by omega)
      have ih := fun b m => kn_L ra hV N (k + 1) b m (by omega)
      rw [if_neg q, if_neg q, kn, c25, bc (S2 := S2) hV, bc (S2 := S2) (sm_and hV), nI_s hk]
      generalize F_X10_bits S2 V = n at *
      generalize F_X10_bits S2 (V &&& S2.1 1 (25 + k)) = c
      generalize n - c = d
      by_cases q3 : c ≤ d
      · have e : (if c < d then d else c) = d := by
          by_cases z : c < d
          · rw [if_pos z]
          · rw [if_neg z]
            have z1 := Int32.le_iff_toInt_le.mp q3
            have z2 := Int32.le_iff_toInt_le.mp (bd_nlt z)
            exact Int32.toInt_inj.mp (by omega)
        rw [e, if_pos q3]
        by_cases q4 : m ≤ d
        · rw [if_pos q4, if_pos q4, if_pos q4]
          exact ih b m
        · rw [if_neg q4, if_neg q4, if_neg q4]
          exact ih _ _
      · have e : (if c < d then d else c) = c := by
          rw [if_neg (fun z => q3 (Int32.le_iff_toInt_le.mpr (by have := Int32.lt_iff_toInt_lt.mp z; omega)))]
        rw [e, if_neg q3]
        by_cases q4 : m ≤ c
        · rw [if_pos q4, if_pos q4, if_pos q4]
          exact ih b m
        · rw [if_neg q4, if_neg q4, if_neg q4]
          exact ih _ _
/-- promise 23 -/
theorem an_knock (h : RB S1 S2) (hs : Sn S2) (hM : JM S2) : F_X9_knock S1 = F_X10_knock S2 := by
  have hV : mm_b 0 127 (F_X10_voices S2) := vs_b 8 _ _ (av_b h.1.2.2.1.2.1.1 9 0 0 (by omega) (by decide))
  rw [F_X9_knock, F_X10_knock, vs h.1 hs hM, bc (S2 := S2) hV]
  exact kn_L h.1 hV 8 0 _ _ (by omega)
end KN
