section CL33
variable {a : Nat} {t : Nat → Int32} {n : Int32} {S1 S2 B1 B2 : mm_S} {f c m b s g v w x : Int32}
theorem t1 (ha : 3 ≤ a) (h : Bs a t n S1 S2 B1 B2) (hn : pz_p n) (hc : pz_p c) (hP : mm_b 0 7 (B2.1 2 0)) (hE : B1.1 a 0 = B2.1 2 0) (pp y : Int32) (hpp : 0 ≤ pp.toInt ∧ pp.toInt < (B2.1 2 0).toInt) (K : mm_S → Int32 → Int32 → Int32 × mm_S) :
    (∃ (k p e z q' s' g' v' : Int32), F_X8_readHeir (rd B1 0 f c m) a pp = (z, rd B1 k p e p) ∧ F_X10_readsWill_L50fc60 (F_X10_isTold_1 (td B2 c b s g v w) 1).1 (F_X10_isTold_1 (td B2 c b s g v w) 1).2 pp K y = (0, td B2 q' p s' g' v' k) ∧ ¬ k = 0) ∨
    (∃ (p e g' v' : Int32), F_X8_readHeir (rd B1 0 f c m) a pp = (v', rd B1 0 f e p) ∧ F_X10_readsWill_L50fc60 (F_X10_isTold_1 (td B2 c b s g v w) 1).1 (F_X10_isTold_1 (td B2 c b s g v w) 1).2 pp K y = K (td (mm_up B2 2 ((((10 : Int32) + ((7 : Int32) * y)) + pp)).toNatClampNeg v') e p 48 g' v' w) pp (y + Int32.ofInt 1) ∧ pz_p e ∧ c.toInt ≤ e.toInt) := by
  obtain ⟨hb, hle⟩ := skb (t := t) hn hc
  have eT : F_X10_isTold_1 (td B2 c b s g v w) 1 = F_X10_isTold_1_c4 (stq t n B2 w (sk t n c)) := by rw [F_X10_isTold_1, tk_2 h hn hc]
  have eC : F_X8_readHeir (rd B1 0 f c m) a pp = F_X8_readHeir_c6 (rnE B1 f (sk t n c) 9 (nm t n (sk t n c))).2 (rnE B1 f (sk t n c) 9 (nm t n (sk t n c))).1 a pp := by rw [F_X8_readHeir, tk_1 h hn hc]
  generalize F_X10_isTold_1 (td B2 c b s g v w) 1 = T at eT ⊢
  generalize F_X8_readHeir (rd B1 0 f c m) a pp = C at eC ⊢
  generalize sk t n c = p at hb hle eT eC
  by_cases d : mm_b 48 57 (hr t n p)
  · rw [stq_d d] at eT
    obtain ⟨b1, b2, b3, b4⟩ := nm_b (t := t) hn hb
    have g1 := nm_yes hn hb d
    generalize nm t n p = r at b1 b2 b3 b4 g1 eT eC
    obtain ⟨e, g', v'⟩ := r
    dsimp only at b1 b2 b3 b4 g1 eT
    have z : ¬ g' = 0 := fun q => by rw [q] at g1; exact absurd g1 (by decide)
    have eR : rnE B1 f p 9 (e, g', v') = if 3 < g' then (-1, rd B1 2 p e p) else if v' ≤ 9 then (v', rd B1 0 f e p) else (-1, rd B1 2 p e p) := by
      rw [rnE]
      exact if_neg z
    by_cases h3 : 3 < g'
    · have h4 : (4 : Int32) ≤ g' := Int32.le_iff_toInt_le.mpr (by have : (3 : Int) < g'.toInt := Int32.lt_iff_toInt_lt.mp h3; show (4 : Int) ≤ g'.toInt; omega)
      rw [if_pos h3] at eR
      rw [eR] at eC
      rw [ti_2 (Or.inl h4)] at eT
      exact Or.inl ⟨2, p, e, -1, _, _, _, _, eC.trans (hc_k (by decide)), tw_no eT, by decide⟩
    · have h4 : ¬ (4 : Int32) ≤ g' := fun q => h3 (Int32.lt_iff_toInt_lt.mpr (by have : (4 : Int) ≤ g'.toInt := Int32.le_iff_toInt_le.mp q; show (3 : Int) < g'.toInt; omega))
      rw [if_neg h3] at eR
      by_cases hv : v' ≤ 9
      · have hv2 : v'.toInt ≤ 9 := Int32.le_iff_toInt_le.mp hv
        rw [if_pos hv] at eR
        rw [eR] at eC
        by_cases h9 : v' = 9
        · have n2 : ¬ v' = pp := fun q => by rw [← q, h9] at hpp; have : (9 : Int) < (B2.1 2 0).toInt := hpp.2; omega
          rw [ti_1 h4 (Or.inr h9)] at eT
          refine Or.inr ⟨p, e, g', v', eC.trans ?_, tw_ok eT n2, b1, by omega⟩
          show F_X8_readHeir_c6 (rd B1 0 f e p) v' a pp = _
          rw [h9]
          exact hc_9
        · by_cases hq : B2.1 2 0 ≤ v'
          · rw [ti_2 (Or.inr ⟨fun q => lt_no q hq, h9⟩)] at eT
            exact Or.inl ⟨2, p, e, v', _, _, _, _, eC.trans (hc_2 ha hE b4.1 h9 hq), tw_no eT, by decide⟩
          · rw [ti_1 h4 (Or.inl (bd_nle hq))] at eT
            by_cases hpq : v' = pp
            · exact Or.inl ⟨4, p, e, v', _, _, _, _, eC.trans (hc_4 ha hE b4.1 h9 hq hpq), tw_4 eT hpq, by decide⟩
            · exact Or.inr ⟨p, e, g', v', eC.trans (hc_0 ha hE b4.1 h9 hq hpq), tw_ok eT hpq, b1, by omega⟩
      · have hv2 : 9 < v'.toInt := Int32.lt_iff_toInt_lt.mp (bd_nle hv)
        have n1 : ¬ v' < B2.1 2 0 := fun q => by have := Int32.lt_iff_toInt_lt.mp q; omega
        have n2 : ¬ v' = 9 := fun q => by rw [q] at hv2; exact absurd hv2 (by decide)
        rw [if_neg hv] at eR
        rw [eR] at eC
        rw [ti_2 (Or.inr ⟨n1, n2⟩)] at eT
        exact Or.inl ⟨2, p, e, -1, _, _, _, _, eC.trans (hc_k (by decide)), tw_no eT, by decide⟩
  · have eT2 : T = (0, td B2 (p + if 0 ≤ hr t n p then 1 else 0) p (hr t n p) 0 0 1) := by
      rw [eT, stq_l d, F_X10_isTold_1_c4, td_20, if_neg (no48 d), m_fl, F_X10_isTold_1_c4fc18]
    have eC2 : C = F_X8_readHeir_c6 (rd B1 1 p p p) (-1) a pp := by rw [eC, nm_no d]; rfl
    exact Or.inl ⟨1, p, p, -1, _, _, _, _, eC2.trans (hc_k (by decide)), tw_no eT2, by decide⟩
end CL33
