section CL31
variable {a : Nat} {t : Nat → Int32} {n : Int32} {S1 S2 B1 B2 : mm_S} {f c m b s g v w x : Int32}
/-- whose will, read by both -/
theorem t0 (h : Bs a t n S1 S2 B1 B2) (hn : pz_p n) (hc : pz_p c) (hP : mm_b 0 7 (B2.1 2 0)) :
    (∃ (k p e q' s' g' v' : Int32), F_X8_readNumber (rd B1 0 f c m) (B2.1 2 0 - 1) = (-1, rd B1 k p e p) ∧ F_X10_isTold_0 (td B2 c b s g v w) 0 = (0, td B2 q' p s' g' v' k) ∧ ¬ k = 0) ∨
    (∃ (p e g' v' : Int32), F_X8_readNumber (rd B1 0 f c m) (B2.1 2 0 - 1) = (v', rd B1 0 f e p) ∧ F_X10_isTold_0 (td B2 c b s g v w) 0 = (1, td B2 e p 48 g' v' w) ∧ 0 ≤ v'.toInt ∧ v'.toInt < (B2.1 2 0).toInt ∧ pz_p e ∧ c.toInt ≤ e.toInt) := by
  obtain ⟨hb, hle⟩ := skb (t := t) hn hc
  have tP := pz_sub1 hP
  rw [tk_1 h hn hc, F_X10_isTold_0, tk_2 h hn hc]
  generalize sk t n c = p at hb hle ⊢
  by_cases d : mm_b 48 57 (hr t n p)
  · rw [stq_d d, F_X10_isTold_0_c4, td_20, if_pos rfl, td_21, td_22, td_2]
    obtain ⟨b1, b2, b3, b4⟩ := nm_b (t := t) hn hb
    have g1 := nm_yes hn hb d
    generalize nm t n p = r at b1 b2 b3 b4 g1 ⊢
    obtain ⟨e, g', v'⟩ := r
    dsimp only at b1 b2 b3 b4 g1 ⊢
    have z : ¬ g' = 0 := fun q => by rw [q] at g1; exact absurd g1 (by decide)
    rw [rnE]
    dsimp only
    rw [if_neg z, m_fl, F_X10_isTold_0_c4ttc68]
    by_cases h3 : 3 < g'
    · have h4 : (4 : Int32) ≤ g' := Int32.le_iff_toInt_le.mpr (by have : (3 : Int) < g'.toInt := Int32.lt_iff_toInt_lt.mp h3; show (4 : Int) ≤ g'.toInt; omega)
      rw [if_pos h3, if_pos h4]
      exact Or.inl ⟨2, p, e, _, _, _, _, rfl, rfl, by decide⟩
    · have h4 : ¬ (4 : Int32) ≤ g' := fun q => h3 (Int32.lt_iff_toInt_lt.mpr (by have : (4 : Int) ≤ g'.toInt := Int32.le_iff_toInt_le.mp q; show (3 : Int) < g'.toInt; omega))
      rw [if_neg h3, if_neg h4]
      by_cases hv : v' ≤ B2.1 2 0 - 1
      · have hv2 := Int32.le_iff_toInt_le.mp hv
        rw [if_pos hv, if_pos (Int32.lt_iff_toInt_lt.mpr (by omega))]
        exact Or.inr ⟨p, e, g', v', rfl, rfl, b4.1, by omega, b1, by omega⟩
      · have hv3 : ¬ v' < B2.1 2 0 := fun q => hv (Int32.le_iff_toInt_le.mpr (by have := Int32.lt_iff_toInt_lt.mp q; omega))
        rw [if_neg hv, if_neg hv3]
        exact Or.inl ⟨2, p, e, _, _, _, _, rfl, rfl, by decide⟩
  · rw [stq_l d, nm_no d, F_X10_isTold_0_c4, td_20, if_neg (no48 d), m_fl, F_X10_isTold_0_c4fc18]
    exact Or.inl ⟨1, p, p, _, _, _, _, rfl, rfl, by decide⟩
end CL31
