/-! ===== choir, will, clause ===== -/
section CL3
variable {a : Nat} {t : Nat → Int32} {n : Int32} {S1 S2 B1 B2 : mm_S} {f c m b s g v w x : Int32}
theorem cl_choir (ha : 3 ≤ a) (D : Dr a B1 B2) (h : Bs a t n S1 S2 B1 B2) (hn : pz_p n) (hc : pz_p c) (hl : c < n) : Oc a t n S1 S2 f c (F_X8_readChoir (rd B1 0 f c m) a) (F_X10_readsParts (td B2 (c + 1) c s g v w)) := by
  have e1 : (rd B1 0 f c m).1 a 2 = B2.1 2 2 := by rw [rd_row (by omega)]; exact D.1.2.2.1
  obtain ⟨h1, h2⟩ := pz_nx hn hc hl
  have b7 := D.2.1.2.2
  rw [F_X8_readChoir, F_X10_readsParts, e1, rd_3, rd_up3, td_2, m_fl]
  by_cases hp : B2.1 2 2 ≤ 0
  · have hp0 : (B2.1 2 2).toInt ≤ 0 := Int32.le_iff_toInt_le.mp hp
    rw [if_pos hp, if_pos hp, F_X8_readChoir_tu31, F_X8_readChoir_tu31c34, F_X8_readChoir_tu31c34c37]
    exact ch_L ha hn 6 6 B1 B2 (c + 1) m c s g v w D h h1 (Int32.lt_iff_toInt_lt.mpr (by show (B2.1 2 2).toInt < 6; omega)) (by omega) (by omega) 1 (by show (1 : Int) = _; omega) c (by omega)
  · rw [if_neg hp, if_neg hp, c_bl0, F_X8_readChoir_L39tc86, F_X10_readsParts_L15c31fu45c48ttc84]
    exact Or.inr ⟨_, _, 3, c, _, _, _, _, _, _, rfl, rfl, by decide, h⟩
/-! behind a fault -/
theorem wl_h {k : Int32} (hk : ¬ k = 0) : F_X8_readHeir (rd B1 k f c m) a x = (-1, rd B1 k f c m) := by
  rw [F_X8_readHeir, c_rnk hk, F_X8_readHeir_c6, c_isk hk, if_pos rfl]
theorem wl_58 {k y z : Int32} (hk : ¬ k = 0) : F_X8_readWill_u17c20tc51c58 (rd B1 k f c m) a x y z = rd B1 k f c m := by
  rw [F_X8_readWill_u17c20tc51c58, c_rsk hk, F_X8_readWill_u17c20tc51c58c66, if_pos rfl]
theorem wl_51 {k y : Int32} (hk : ¬ k = 0) : F_X8_readWill_u17c20tc51 (rd B1 k f c m) a x y = rd B1 k f c m := by
  rw [F_X8_readWill_u17c20tc51, wl_h hk]
  exact wl_58 hk
theorem wl_45 {k : Int32} (hk : ¬ k = 0) : F_X8_readWill_u17c20ffc45 (rd B1 k f c m) a x = rd B1 k f c m := by
  rw [F_X8_readWill_u17c20ffc45, wl_h hk]
  exact wl_51 hk
theorem wl_20 {k : Int32} (hk : ¬ k = 0) : F_X8_readWill_u17c20 (rd B1 k f c m) a x = rd B1 k f c m := by
  rw [F_X8_readWill_u17c20, c_isk hk, if_pos rfl, wl_h hk]
  exact wl_51 hk
theorem pz_sub1 {P : Int32} (h : mm_b 0 7 P) : (P - 1).toInt = P.toInt - 1 := by
  rw [bd_ti_sub (by show -2147483648 ≤ P.toInt - 1; omega) (by show P.toInt - 1 ≤ 2147483647; omega)]
  rfl
/-- whose will, read by both -/
theorem t0 (h : Bs a t n S1 S2 B1 B2) (hn : pz_p n) (hc : pz_p c) (hP : mm_b 0 7 (B2.1 2 0)) :
    (∃ (k p e q' s' g' v' : Int32), F_X8_readNumber (rd B1 0 f c m) (B2.1 2 0 - 1) = (-1, rd B1 k p e p) ∧ F_X10_isTold_0 (td B2 c b s g v w) 0 = (0, td B2 q' p s' g' v' k) ∧ ¬ k = 0) ∨
    (∃ (p e g' v' : Int32), F_X8_readNumber (rd B1 0 f c m) (B2.1 2 0 - 1) = (v', rd B1 0 f e p) ∧ F_X10_isTold_0 (td B2 c b s g v w) 0 = (1, td B2 e p 48 g' v' w) ∧ 0 ≤ v'.toInt ∧ v'.toInt < (B2.1 2 0).toInt ∧ pz_p e ∧ c.toInt ≤ e.toInt) := by
  obtain ⟨hb, hle⟩ := skb (t := t) hn hc
  have tP := pz_sub1 hP
  rw [tk_1 h hn hc, F_X10_isTold_0, tk_2 h hn hc]
  generalize sk t n c = p at hb hle ⊢
  by_cases d : mm_b 48 57 (hr t n p)
  · rw [stq_d d, F_X10_isTold_0_c4, td_20, if_pos rfl, td_21, td_22, td_2]
    obtain ⟨b1, b2, b3, b4⟩ := nm_b (t := t) hn hb
    have g1 := nm_yes hn hb d
    generalize nm t n p = r at b1 b2 b3 b4 g1 ⊢
    obtain ⟨e, g', v'⟩ := r
    dsimp only at b1 b2 b3 b4 g1 ⊢
    have z : ¬ g' = 0 := fun q => by rw [q] at g1; exact absurd g1 (by decide)
    rw [rnE]
    dsimp only
    rw [if_neg z, m_fl, F_X10_isTold_0_c4ttc68]
    by_cases h3 : 3 < g'
    · have h4 : (4 : Int32) ≤ g' := Int32.le_iff_toInt_le.mpr (by have : (3 : Int) < g'.toInt := Int32.lt_iff_toInt_lt.mp h3; show (4 : Int) ≤ g'.toInt; omega)
      rw [if_pos h3, if_pos h4]
      exact Or.inl ⟨2, p, e, _, _, _, _, rfl, rfl, by decide⟩
    · have h4 : ¬ (4 : Int32) ≤ g' := fun q => h3 (Int32.lt_iff_toInt_lt.mpr (by have : (4 : Int) ≤ g'.toInt := Int32.le_iff_toInt_le.mp q; show (3 : Int) < g'.toInt; omega))
      rw [if_neg h3, if_neg h4]
      by_cases hv : v' ≤ B2.1 2 0 - 1
      · have hv2 := Int32.le_iff_toInt_le.mp hv
        rw [if_pos hv, if_pos (Int32.lt_iff_toInt_lt.mpr (by omega))]
        exact Or.inr ⟨p, e, g', v', rfl, rfl, b4.1, by omega, b1, by omega⟩
      · have hv3 : ¬ v' < B2.1 2 0 := fun q => hv (Int32.le_iff_toInt_le.mpr (by have := Int32.lt_iff_toInt_lt.mp q; omega))
        rw [if_neg hv, if_neg hv3]
        exact Or.inl ⟨2, p, e, _, _, _, _, rfl, rfl, by decide⟩
  · rw [stq_l d, nm_no d, F_X10_isTold_0_c4, td_20, if_neg (no48 d), m_fl, F_X10_isTold_0_c4fc18]
    exact Or.inl ⟨1, p, p, _, _, _, _, rfl, rfl, by decide⟩
/-- an heir, read by both -/
theorem t1 (ha : 3 ≤ a) (h : Bs a t n S1 S2 B1 B2) (hn : pz_p n) (hc : pz_p c) (hP : mm_b 0 7 (B2.1 2 0)) (hE : B1.1 a 0 = B2.1 2 0) (pp y : Int32) (hpp : 0 ≤ pp.toInt ∧ pp.toInt < (B2.1 2 0).toInt) (K : mm_S → Int32 → Int32 → Int32 × mm_S) :
    (∃ (k p e z q' s' g' v' : Int32), F_X8_readHeir (rd B1 0 f c m) a pp = (z, rd B1 k p e p) ∧ F_X10_readsWill_L50fc60 (F_X10_isTold_1 (td B2 c b s g v w) 1).1 (F_X10_isTold_1 (td B2 c b s g v w) 1).2 pp K y = (0, td B2 q' p s' g' v' k) ∧ ¬ k = 0) ∨
    (∃ (p e g' v' : Int32), F_X8_readHeir (rd B1 0 f c m) a pp = (v', rd B1 0 f e p) ∧ F_X10_readsWill_L50fc60 (F_X10_isTold_1 (td B2 c b s g v w) 1).1 (F_X10_isTold_1 (td B2 c b s g v w) 1).2 pp K y = K (td (mm_up B2 2 ((((10 : Int32) + ((7 : Int32) * y)) + pp)).toNatClampNeg v') e p 48 g' v' w) pp (y + Int32.ofInt 1) ∧ pz_p e ∧ c.toInt ≤ e.toInt) := by
  obtain ⟨hb, hle⟩ := skb (t := t) hn hc
  rw [F_X8_readHeir, tk_1 h hn hc, F_X10_isTold_1, tk_2 h hn hc]
  generalize sk t n c = p at hb hle ⊢
  by_cases d : mm_b 48 57 (hr t n p)
  · rw [stq_d d, F_X10_isTold_1_c4, td_20, if_pos rfl, td_21, td_22, td_2]
    obtain ⟨b1, b2, b3, b4⟩ := nm_b (t := t) hn hb
    have g1 := nm_yes hn hb d
    generalize nm t n p = r at b1 b2 b3 b4 g1 ⊢
    obtain ⟨e, g', v'⟩ := r
    dsimp only at b1 b2 b3 b4 g1 ⊢
    have z : ¬ g' = 0 := fun q => by rw [q] at g1; exact absurd g1 (by decide)
    rw [rnE]
    dsimp only
    rw [if_neg z, m_fl, F_X10_isTold_1_c4ttc68]
    have bad : ∀ zz : Int32, (∃ (k p_1 e_1 z q' s' g'_1 v'_1 : Int32), F_X8_readHeir_c6 (rd B1 2 p e p) zz a pp = (z, rd B1 k p_1 e_1 p_1) ∧ F_X10_readsWill_L50fc60 (0 : Int32) (td B2 e p 48 g' v' 2) pp K y = (0, td B2 q' p_1 s' g'_1 v'_1 k) ∧ ¬ k = 0) := fun zz => by
      rw [F_X8_readHeir_c6, c_isk (by decide), if_pos rfl, F_X10_readsWill_L50fc60, if_pos rfl]
      exact ⟨2, p, e, zz, _, _, _, _, rfl, rfl, by decide⟩
    by_cases h3 : 3 < g'
    · have h4 : (4 : Int32) ≤ g' := Int32.le_iff_toInt_le.mpr (by have : (3 : Int) < g'.toInt := Int32.lt_iff_toInt_lt.mp h3; show (4 : Int) ≤ g'.toInt; omega)
      rw [if_pos h3, if_pos h4]
      exact Or.inl (bad (-1))
    · have h4 : ¬ (4 : Int32) ≤ g' := fun q => h3 (Int32.lt_iff_toInt_lt.mpr (by have : (4 : Int) ≤ g'.toInt := Int32.le_iff_toInt_le.mp q; show (3 : Int) < g'.toInt; omega))
      rw [if_neg h3, if_neg h4]
      by_cases hv : v' ≤ 9
      · have hv2 : v'.toInt ≤ 9 := Int32.le_iff_toInt_le.mp hv
        rw [if_pos hv]
        show (∃ (k p_1 e_1 z q' s' g'_1 v'_1 : Int32), F_X8_readHeir_c6 (rd B1 0 f e p) v' a pp = (z, rd B1 k p_1 e_1 p_1) ∧ _) ∨ (∃ (p_1 e_1 g'_1 v'_1 : Int32), F_X8_readHeir_c6 (rd B1 0 f e p) v' a pp = (v'_1, rd B1 0 f e_1 p_1) ∧ _)
        have e0 : (rd B1 0 f e p).1 a 0 = B2.1 2 0 := by rw [rd_row (by omega)]; exact hE
        rw [F_X8_readHeir_c6, c_is0, if_neg (by decide), F_X6_hasPerson, e0, if_neg (fun q => by have : v'.toInt < 0 := Int32.lt_iff_toInt_lt.mp q; omega), c_bl0, c_bl0, rd_4, F_X8_readHeir_c6fftfc54, F_X8_readHeir_c6fftfc54]
        by_cases h9 : v' = 9
        · have n1 : ¬ v' < B2.1 2 0 := fun q => by have := Int32.lt_iff_toInt_lt.mp q; rw [h9] at this; have : (9 : Int) < (B2.1 2 0).toInt := this; omega
          have n2 : ¬ v' = pp := fun q => by rw [← q, h9] at hpp; have : (9 : Int) < (B2.1 2 0).toInt := hpp.2; omega
          rw [if_pos h9, if_neg n1, if_pos h9]
          show (∃ (k p_1 e_1 z q' s' g'_1 v'_1 : Int32), _ ∧ F_X10_readsWill_L50fc60 (1 : Int32) (td B2 e p 48 g' v' w) pp K y = _ ∧ _) ∨ (∃ (p_1 e_1 g'_1 v'_1 : Int32), _ ∧ F_X10_readsWill_L50fc60 (1 : Int32) (td B2 e p 48 g' v' w) pp K y = _ ∧ _)
          rw [F_X10_readsWill_L50fc60, if_neg (by decide), td_22, if_neg n2, td_upo (by decide)]
          exact Or.inr ⟨p, e, g', v', rfl, rfl, b1, by omega⟩
        · rw [if_neg h9]
          by_cases hq : B2.1 2 0 ≤ v'
          · rw [if_pos hq, if_pos rfl, if_neg (fun q => lt_no q hq), if_neg h9]
            show (∃ (k p_1 e_1 z q' s' g'_1 v'_1 : Int32), _ ∧ F_X10_readsWill_L50fc60 (0 : Int32) (td B2 e p 48 g' v' 2) pp K y = _ ∧ _) ∨ _
            rw [F_X10_readsWill_L50fc60, if_pos rfl]
            exact Or.inl ⟨2, p, e, v', _, _, _, _, rfl, rfl, by decide⟩
          · rw [if_neg hq, if_neg (by decide), if_pos (bd_nle hq)]
            show (∃ (k p_1 e_1 z q' s' g'_1 v'_1 : Int32), _ ∧ F_X10_readsWill_L50fc60 (1 : Int32) (td B2 e p 48 g' v' w) pp K y = _ ∧ _) ∨ (∃ (p_1 e_1 g'_1 v'_1 : Int32), _ ∧ F_X10_readsWill_L50fc60 (1 : Int32) (td B2 e p 48 g' v' w) pp K y = _ ∧ _)
            rw [F_X10_readsWill_L50fc60, if_neg (by decide), td_22, m_fl, F_X10_readsWill_L50tc107, td_upo (by decide)]
            by_cases hpq : v' = pp
            · rw [if_pos hpq, if_pos hpq]
              exact Or.inl ⟨4, p, e, v', _, _, _, _, rfl, rfl, by decide⟩
            · rw [if_neg hpq, if_neg hpq]
              exact Or.inr ⟨p, e, g', v', rfl, rfl, b1, by omega⟩
      · have hv2 : 9 < v'.toInt := Int32.lt_iff_toInt_lt.mp (bd_nle hv)
        have n1 : ¬ v' < B2.1 2 0 := fun q => by have := Int32.lt_iff_toInt_lt.mp q; omega
        have n2 : ¬ v' = 9 := fun q => by rw [q] at hv2; exact absurd hv2 (by decide)
        rw [if_neg hv, if_neg n1, if_neg n2]
        exact Or.inl (bad (-1))
  · rw [stq_l d, nm_no d, F_X10_isTold_1_c4, td_20, if_neg (no48 d), m_fl, F_X10_isTold_1_c4fc18]
    refine Or.inl ?_
    show ∃ (k p_1 e_1 z q' s' g'_1 v'_1 : Int32), F_X8_readHeir_c6 (rd B1 1 p p p) (-1) a pp = _ ∧ F_X10_readsWill_L50fc60 (0 : Int32) _ pp K y = _ ∧ _
    rw [F_X8_readHeir_c6, c_isk (by decide), if_pos rfl, F_X10_readsWill_L50fc60, if_pos rfl]
    exact ⟨1, p, p, -1, _, _, _, _, rfl, rfl, by decide⟩
theorem and1 (x : Int32) : x &&& 1 = 0 ∨ x &&& 1 = 1 := by
  have hb : mm_b 0 1 (x &&& 1) := bd_andR (lo := 0) (hi := 1) (a := 1) (b := 1) rfl (by decide) (by decide)
  rcases (by omega : (x &&& 1).toInt = 0 ∨ (x &&& 1).toInt = 1) with q | q
  · exact Or.inl (Int32.toInt_inj.mp q)
  · exact Or.inr (Int32.toInt_inj.mp q)
theorem hw {S T : mm_S} {W p : Int32} (hp : 0 ≤ p.toInt ∧ p.toInt < 7) : F_X9_isIn S W p = F_X10_isIn T W p := by
  rw [F_X9_isIn, F_X10_isIn, if_neg (fun q => by have : p.toInt < 0 := Int32.lt_iff_toInt_lt.mp q; omega), if_neg (fun q => by have : (7 : Int) ≤ p.toInt := Int32.le_iff_toInt_le.mp q; omega)]
  rcases and1 (W >>> (p &&& 31)) with q | q
  · rw [q, if_pos rfl, if_neg (by decide)]
  · rw [q, if_neg (by decide), if_pos rfl]
theorem Dr_will (ha : 3 ≤ a) (D : Dr a B1 B2) {p x y : Int32} (hp : 0 ≤ p.toInt ∧ p.toInt < (B2.1 2 0).toInt) {W : Int32} :
    Dr a (mm_up (mm_up (mm_up B1 (a + 2) p.toNatClampNeg x) (a + 3) p.toNatClampNeg y) a 3 W) (mm_up (mm_up (mm_up B2 2 24 W) 2 (10 + 7 * (0 : Int32) + p).toNatClampNeg x) 2 (10 + 7 * (0 + Int32.ofInt 1) + p).toNatClampNeg y) := by
  obtain ⟨⟨d1, d2, d3, d4⟩, ⟨d5, d6, d7⟩, d8, d9, d10, d11⟩ := D
  have cP := pz_cl (x := p) hp.1
  have c1 : (10 + 7 * (0 : Int32) + p).toNatClampNeg = 10 + p.toNatClampNeg := pz_addc (c := 10) (by decide) ⟨hp.1, by omega⟩
  have c2 : (10 + 7 * (0 + Int32.ofInt 1) + p).toNatClampNeg = 17 + p.toNatClampNeg := pz_addc (c := 17) (by decide) ⟨hp.1, by omega⟩
  rw [c1, c2]
  generalize p.toNatClampNeg = N at cP ⊢
  have ro : ∀ i, i ≠ 24 → i ≠ 10 + N → i ≠ 17 + N → (mm_up (mm_up (mm_up B2 2 24 W) 2 (10 + N) x) 2 (17 + N) y).1 2 i = B2.1 2 i := fun i h0 h3 h4 => by rw [up_ne (by omega), up_ne (by omega), up_ne (by omega)]
  have r24 : (mm_up (mm_up (mm_up B2 2 24 W) 2 (10 + N) x) 2 (17 + N) y).1 2 24 = W := by rw [up_ne (by omega), up_ne (by omega), up_at]
  have r10 : (mm_up (mm_up (mm_up B2 2 24 W) 2 (10 + N) x) 2 (17 + N) y).1 2 (10 + N) = x := by rw [up_ne (by omega), up_at]
  have r17 : (mm_up (mm_up (mm_up B2 2 24 W) 2 (10 + N) x) 2 (17 + N) y).1 2 (17 + N) = y := up_at
  generalize mm_up (mm_up (mm_up B2 2 24 W) 2 (10 + N) x) 2 (17 + N) y = C2 at ro r24 r10 r17 ⊢
  have rb : ∀ z i, ¬ (z = a ∧ i = 3) → ¬ (z = a + 2 ∧ i = N) → ¬ (z = a + 3 ∧ i = N) → (mm_up (mm_up (mm_up B1 (a + 2) N x) (a + 3) N y) a 3 W).1 z i = B1.1 z i := fun z i h0 h3 h4 => by rw [up_ne h0, up_ne h4, up_ne h3]
  have rW : (mm_up (mm_up (mm_up B1 (a + 2) N x) (a + 3) N y) a 3 W).1 a 3 = W := up_at
  have rx : (mm_up (mm_up (mm_up B1 (a + 2) N x) (a + 3) N y) a 3 W).1 (a + 2) N = x := by rw [up_ne (by omega), up_ne (by omega), up_at]
  have ry : (mm_up (mm_up (mm_up B1 (a + 2) N x) (a + 3) N y) a 3 W).1 (a + 3) N = y := by rw [up_ne (by omega), up_at]
  generalize mm_up (mm_up (mm_up B1 (a + 2) N x) (a + 3) N y) a 3 W = C1 at rb rW rx ry ⊢
  refine ⟨⟨?_, ?_, ?_, ?_⟩, ⟨?_, ?_, ?_⟩, ?_, ?_, ?_, ?_⟩
  · rw [rb a 0 (by omega) (by omega) (by omega), ro 0 (by omega) (by omega) (by omega)]
    exact d1
  · rw [rb a 1 (by omega) (by omega) (by omega), ro 1 (by omega) (by omega) (by omega)]
    exact d2
  · rw [rb a 2 (by omega) (by omega) (by omega), ro 2 (by omega) (by omega) (by omega)]
    exact d3
  · rw [rW, r24]
  · rw [ro 0 (by omega) (by omega) (by omega)]
    exact d5
  · rw [ro 1 (by omega) (by omega) (by omega)]
    exact d6
  · rw [ro 2 (by omega) (by omega) (by omega)]
    exact d7
  · intro q hq
    rw [ro 0 (by omega) (by omega) (by omega)] at hq
    have z := d8 q hq
    by_cases hN : q = N
    · subst hN
      rw [rx, ry, r10, r17, rb (a + 1) q (by omega) (by omega) (by omega), ro (3 + q) (by omega) (by omega) (by omega)]
      exact ⟨z.1, rfl, rfl⟩
    · rw [rb (a + 1) q (by omega) (by omega) (by omega), rb (a + 2) q (by omega) (by omega) (by omega), rb (a + 3) q (by omega) (by omega) (by omega), ro (3 + q) (by omega) (by omega) (by omega), ro (10 + q) (by omega) (by omega) (by omega), ro (17 + q) (by omega) (by omega) (by omega)]
      exact z
  · intro q h7 hq
    rw [ro 0 (by omega) (by omega) (by omega)] at hq
    rw [ro (3 + q) (by omega) (by omega) (by omega), ro (10 + q) (by omega) (by omega) (by omega), ro (17 + q) (by omega) (by omega) (by omega)]
    exact d9 q h7 hq
  · intro q hq
    rw [ro 1 (by omega) (by omega) (by omega)] at hq
    rw [ro (25 + q) (by omega) (by omega) (by omega), rb (a + 4) q (by omega) (by omega) (by omega)]
    exact d10 q hq
  · intro q hq
    rw [ro 2 (by omega) (by omega) (by omega)] at hq
    rw [ro (31 + q) (by omega) (by omega) (by omega), rb (a + 5) q (by omega) (by omega) (by omega)]
    exact d11 q hq
end CL3
