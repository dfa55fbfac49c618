/-! ===== choir, will, clause ===== -/
section CL3
variable {a : Nat} {t : Nat → Int32} {n : Int32} {S1 S2 B1 B2 : mm_S} {f c m b s g v w x : Int32}
theorem cl_choir (ha : 3 ≤ a) (D : Dr a B1 B2) (h : Bs a t n S1 S2 B1 B2) (hn : pz_p n) (hc : pz_p c) (hl : c < n) : Oc a t n S1 S2 f c (F_X8_readChoir (rd B1 0 f c m) a) (F_X10_readsParts (td B2 (c + 1) c s g v w)) := by
  have e1 : (rd B1 0 f c m).1 a 2 = B2.1 2 2 := by rw [rd_row (by omega)]; exact D.1.2.2.1
  obtain ⟨h1, h2⟩ := pz_nx hn hc hl
  have b7 := D.2.1.2.2
  rw [F_X8_readChoir, F_X10_readsParts, e1, rd_3, rd_up3, td_2, m_fl]
  by_cases hp : B2.1 2 2 ≤ 0
  · have hp0 : (B2.1 2 2).toInt ≤ 0 := Int32.le_iff_toInt_le.mp hp
    rw [if_pos hp, if_pos hp, F_X8_readChoir_tu31, F_X8_readChoir_tu31c34, F_X8_readChoir_tu31c34c37]
    exact ch_L ha hn 6 6 B1 B2 (c + 1) m c s g v w D h h1 (Int32.lt_iff_toInt_lt.mpr (by show (B2.1 2 2).toInt < 6; omega)) (by omega) (by omega) 1 (by show (1 : Int) = _; omega) c (by omega)
  · rw [if_neg hp, if_neg hp, c_bl0, F_X8_readChoir_L39tc86, F_X10_readsParts_L15c31fu45c48ttc84]
    exact Or.inr ⟨_, _, 3, c, _, _, _, _, _, _, rfl, rfl, by decide, h⟩
/-! behind a fault -/
theorem wl_h {k : Int32} (hk : ¬ k = 0) : F_X8_readHeir (rd B1 k f c m) a x = (-1, rd B1 k f c m) := by
  rw [F_X8_readHeir, c_rnk hk, F_X8_readHeir_c6, c_isk hk, if_pos rfl]
theorem wl_58 {k y z : Int32} (hk : ¬ k = 0) : F_X8_readWill_u17c20tc51c58 (rd B1 k f c m) a x y z = rd B1 k f c m := by
  rw [F_X8_readWill_u17c20tc51c58, c_rsk hk, F_X8_readWill_u17c20tc51c58c66, if_pos rfl]
theorem wl_51 {k y : Int32} (hk : ¬ k = 0) : F_X8_readWill_u17c20tc51 (rd B1 k f c m) a x y = rd B1 k f c m := by
  rw [F_X8_readWill_u17c20tc51, wl_h hk]
  exact wl_58 hk
theorem wl_45 {k : Int32} (hk : ¬ k = 0) : F_X8_readWill_u17c20ffc45 (rd B1 k f c m) a x = rd B1 k f c m := by
  rw [F_X8_readWill_u17c20ffc45, wl_h hk]
  exact wl_51 hk
theorem wl_20 {k : Int32} (hk : ¬ k = 0) : F_X8_readWill_u17c20 (rd B1 k f c m) a x = rd B1 k f c m := by
  rw [F_X8_readWill_u17c20, c_isk hk, if_pos rfl, wl_h hk]
  exact wl_51 hk
theorem pz_sub1 {P : Int32} (h : mm_b 0 7 P) : (P - 1).toInt = P.toInt - 1 := by
  rw [bd_ti_sub (by show -2147483648 ≤ P.toInt - 1; omega) (by show P.toInt - 1 ≤ 2147483647; omega)]
  rfl
/-- whose will, read by both -/
theorem t0 (h : Bs a t n S1 S2 B1 B2) (hn : pz_p n) (hc : pz_p c) (hP : mm_b 0 7 (B2.1 2 0)) :
    (∃ (k p e q' s' g' v' : Int32), F_X8_readNumber (rd B1 0 f c m) (B2.1 2 0 - 1) = (-1, rd B1 k p e p) ∧ F_X10_isTold_0 (td B2 c b s g v w) 0 = (0, td B2 q' p s' g' v' k) ∧ ¬ k = 0) ∨
    (∃ (p e g' v' : Int32), F_X8_readNumber (rd B1 0 f c m) (B2.1 2 0 - 1) = (v', rd B1 0 f e p) ∧ F_X10_isTold_0 (td B2 c b s g v w) 0 = (1, td B2 e p 48 g' v' w) ∧ 0 ≤ v'.toInt ∧ v'.toInt < (B2.1 2 0).toInt ∧ pz_p e ∧ c.toInt ≤ e.toInt) := by
  obtain ⟨hb, hle⟩ := skb (t := t) hn hc
  have tP := pz_sub1 hP
  rw [tk_1 h hn hc, F_X10_isTold_0, tk_2 h hn hc]
  generalize sk t n c = p at hb hle ⊢
  by_cases d : mm_b 48 57 (hr t n p)
  · rw [stq_d d, F_X10_isTold_0_c4, td_20, if_pos rfl, td_21, td_22, td_2]
    obtain ⟨b1, b2, b3, b4⟩ := nm_b (t := t) hn hb
    have g1 := nm_yes hn hb d
    generalize nm t n p = r at b1 b2 b3 b4 g1 ⊢
    obtain ⟨e, g', v'⟩ := r
    dsimp only at b1 b2 b3 b4 g1 ⊢
    have z : ¬ g' = 0 := fun q => by rw [q] at g1; exact absurd g1 (by decide)
    rw [rnE]
    dsimp only
    rw [if_neg z, m_fl, F_X10_isTold_0_c4ttc68]
    by_cases h3 : 3 < g'
    · have h4 : (4 : Int32) ≤ g' := Int32.le_iff_toInt_le.mpr (by have : (3 : Int) < g'.toInt := Int32.lt_iff_toInt_lt.mp h3; show (4 : Int) ≤ g'.toInt; omega)
      rw [if_pos h3, if_pos h4]
      exact Or.inl ⟨2, p, e, _, _, _, _, rfl, rfl, by decide⟩
    · have h4 : ¬ (4 : Int32) ≤ g' := fun q => h3 (Int32.lt_iff_toInt_lt.mpr (by have : (4 : Int) ≤ g'.toInt := Int32.le_iff_toInt_le.mp q; show (3 : Int) < g'.toInt; omega))
      rw [if_neg h3, if_neg h4]
      by_cases hv : v' ≤ B2.1 2 0 - 1
      · have hv2 := Int32.le_iff_toInt_le.mp hv
        rw [if_pos hv, if_pos (Int32.lt_iff_toInt_lt.mpr (by omega))]
        exact Or.inr ⟨p, e, g', v', rfl, rfl, b4.1, by omega, b1, by omega⟩
      · have hv3 : ¬ v' < B2.1 2 0 := fun q => hv (Int32.le_iff_toInt_le.mpr (by have := Int32.lt_iff_toInt_lt.mp q; omega))
        rw [if_neg hv, if_neg hv3]
        exact Or.inl ⟨2, p, e, _, _, _, _, rfl, rfl, by decide⟩
  · rw [stq_l d, nm_no d, F_X10_isTold_0_c4, td_20, if_neg (no48 d), m_fl, F_X10_isTold_0_c4fc18]
    exact Or.inl ⟨1, p, p, _, _, _, _, rfl, rfl, by decide⟩
theorem one0 : ¬ (1 : Int32) = 0 := by decide
/-- an heir, read by both: the class behind its number -/
theorem hc_k {k z : Int32} (hk : ¬ k = 0) : F_X8_readHeir_c6 (rd B1 k f c m) z a x = (z, rd B1 k f c m) := by
  rw [F_X8_readHeir_c6, c_isk hk, if_pos rfl]
theorem hc_p (ha : 3 ≤ a) {z P : Int32} (hE : B1.1 a 0 = P) (hz : 0 ≤ z.toInt) : F_X6_hasPerson (rd B1 0 f c m) a z = if P ≤ z then 0 else 1 := by
  have e0 : (rd B1 0 f c m).1 a 0 = P := by rw [rd_row (by omega)]; exact hE
  have n0 : ¬ z < 0 := fun q => absurd (Int32.lt_iff_toInt_lt.mp q) (by show ¬ z.toInt < 0; omega)
  rw [F_X6_hasPerson, e0, if_neg n0]
theorem hc_9 : F_X8_readHeir_c6 (rd B1 0 f c m) 9 a x = (9, rd B1 0 f c m) := by
  rw [F_X8_readHeir_c6, c_is0, if_neg (by decide), if_pos rfl]
theorem hc_2 (ha : 3 ≤ a) {z P : Int32} (hE : B1.1 a 0 = P) (hz : 0 ≤ z.toInt) (h9 : ¬ z = 9) (hq : P ≤ z) : F_X8_readHeir_c6 (rd B1 0 f c m) z a x = (z, rd B1 2 m c m) := by
  rw [F_X8_readHeir_c6, c_is0, if_neg (by decide), if_neg h9, hc_p ha hE hz, if_pos hq, if_pos rfl, c_bl0, rd_4, F_X8_readHeir_c6fftfc54]
theorem hc_4 (ha : 3 ≤ a) {z P : Int32} (hE : B1.1 a 0 = P) (hz : 0 ≤ z.toInt) (h9 : ¬ z = 9) (hq : ¬ P ≤ z) (hx : z = x) : F_X8_readHeir_c6 (rd B1 0 f c m) z a x = (z, rd B1 4 m c m) := by
  rw [F_X8_readHeir_c6, c_is0, if_neg (by decide), if_neg h9, hc_p ha hE hz, if_neg hq, if_neg (by decide), if_pos hx, c_bl0, rd_4, F_X8_readHeir_c6fftfc54]
theorem hc_0 (ha : 3 ≤ a) {z P : Int32} (hE : B1.1 a 0 = P) (hz : 0 ≤ z.toInt) (h9 : ¬ z = 9) (hq : ¬ P ≤ z) (hx : ¬ z = x) : F_X8_readHeir_c6 (rd B1 0 f c m) z a x = (z, rd B1 0 f c m) := by
  rw [F_X8_readHeir_c6, c_is0, if_neg (by decide), if_neg h9, hc_p ha hE hz, if_neg hq, if_neg (by decide), if_neg hx]
theorem tw_no {T : Int32 × mm_S} {S' : mm_S} {pp y : Int32} {K : mm_S → Int32 → Int32 → Int32 × mm_S} (h : T = (0, S')) : F_X10_readsWill_L50fc60 T.1 T.2 pp K y = (0, S') := by
  rw [h, F_X10_readsWill_L50fc60, if_pos rfl]
theorem tw_4 {T : Int32 × mm_S} {pp y : Int32} {K : mm_S → Int32 → Int32 → Int32 × mm_S} (h : T = (1, td B2 c b s g v w)) (hv : v = pp) : F_X10_readsWill_L50fc60 T.1 T.2 pp K y = (0, td B2 c b s g v 4) := by
  rw [h]
  show F_X10_readsWill_L50fc60 1 (td B2 c b s g v w) pp K y = _
  rw [F_X10_readsWill_L50fc60, if_neg one0, td_22, if_pos hv, m_fl, F_X10_readsWill_L50tc107]
theorem tw_ok {T : Int32 × mm_S} {pp y : Int32} {K : mm_S → Int32 → Int32 → Int32 × mm_S} (h : T = (1, td B2 c b s g v w)) (hv : ¬ v = pp) : F_X10_readsWill_L50fc60 T.1 T.2 pp K y = K (td (mm_up B2 2 ((((10 : Int32) + ((7 : Int32) * y)) + pp)).toNatClampNeg v) c b s g v w) pp (y + Int32.ofInt 1) := by
  rw [h]
  show F_X10_readsWill_L50fc60 1 (td B2 c b s g v w) pp K y = _
  rw [F_X10_readsWill_L50fc60, if_neg one0, td_22, if_neg hv, td_upo (by decide)]
theorem ti_2 {g' v' : Int32} (h : (4 : Int32) ≤ g' ∨ (¬ v' < B2.1 2 0 ∧ ¬ v' = 9)) : F_X10_isTold_1_c4 (td B2 c b 48 g' v' w) = (0, td B2 c b 48 g' v' 2) := by
  rw [F_X10_isTold_1_c4, td_20, if_pos rfl, td_21, td_22, td_2, m_fl, F_X10_isTold_1_c4ttc68]
  by_cases q : (4 : Int32) ≤ g'
  · rw [if_pos q]
  · have z := h.resolve_left q
    rw [if_neg q, if_neg z.1, if_neg z.2]
theorem ti_1 {g' v' : Int32} (h : ¬ (4 : Int32) ≤ g') (hv : v' < B2.1 2 0 ∨ v' = 9) : F_X10_isTold_1_c4 (td B2 c b 48 g' v' w) = (1, td B2 c b 48 g' v' w) := by
  rw [F_X10_isTold_1_c4, td_20, if_pos rfl, td_21, td_22, td_2, if_neg h]
  by_cases q : v' < B2.1 2 0
  · rw [if_pos q]
  · rw [if_neg q, if_pos (hv.resolve_left q)]
theorem t1 (ha : 3 ≤ a) (h : Bs a t n S1 S2 B1 B2) (hn : pz_p n) (hc : pz_p c) (hP : mm_b 0 7 (B2.1 2 0)) (hE : B1.1 a 0 = B2.1 2 0) (pp y : Int32) (hpp : 0 ≤ pp.toInt ∧ pp.toInt < (B2.1 2 0).toInt) (K : mm_S → Int32 → Int32 → Int32 × mm_S) :
    (∃ (k p e z q' s' g' v' : Int32), F_X8_readHeir (rd B1 0 f c m) a pp = (z, rd B1 k p e p) ∧ F_X10_readsWill_L50fc60 (F_X10_isTold_1 (td B2 c b s g v w) 1).1 (F_X10_isTold_1 (td B2 c b s g v w) 1).2 pp K y = (0, td B2 q' p s' g' v' k) ∧ ¬ k = 0) ∨
    (∃ (p e g' v' : Int32), F_X8_readHeir (rd B1 0 f c m) a pp = (v', rd B1 0 f e p) ∧ F_X10_readsWill_L50fc60 (F_X10_isTold_1 (td B2 c b s g v w) 1).1 (F_X10_isTold_1 (td B2 c b s g v w) 1).2 pp K y = K (td (mm_up B2 2 ((((10 : Int32) + ((7 : Int32) * y)) + pp)).toNatClampNeg v') e p 48 g' v' w) pp (y + Int32.ofInt 1) ∧ pz_p e ∧ c.toInt ≤ e.toInt) := by
  obtain ⟨hb, hle⟩ := skb (t := t) hn hc
  have eT : F_X10_isTold_1 (td B2 c b s g v w) 1 = F_X10_isTold_1_c4 (stq t n B2 w (sk t n c)) := by rw [F_X10_isTold_1, tk_2 h hn hc]
  have eC : F_X8_readHeir (rd B1 0 f c m) a pp = F_X8_readHeir_c6 (rnE B1 f (sk t n c) 9 (nm t n (sk t n c))).2 (rnE B1 f (sk t n c) 9 (nm t n (sk t n c))).1 a pp := by rw [F_X8_readHeir, tk_1 h hn hc]
  generalize F_X10_isTold_1 (td B2 c b s g v w) 1 = T at eT ⊢
  generalize F_X8_readHeir (rd B1 0 f c m) a pp = C at eC ⊢
  generalize sk t n c = p at hb hle eT eC
  by_cases d : mm_b 48 57 (hr t n p)
  · rw [stq_d d] at eT
    obtain ⟨b1, b2, b3, b4⟩ := nm_b (t := t) hn hb
    have g1 := nm_yes hn hb d
    generalize nm t n p = r at b1 b2 b3 b4 g1 eT eC
    obtain ⟨e, g', v'⟩ := r
    dsimp only at b1 b2 b3 b4 g1 eT
    have z : ¬ g' = 0 := fun q => by rw [q] at g1; exact absurd g1 (by decide)
    have eR : rnE B1 f p 9 (e, g', v') = if 3 < g' then (-1, rd B1 2 p e p) else if v' ≤ 9 then (v', rd B1 0 f e p) else (-1, rd B1 2 p e p) := by
      rw [rnE]
      exact if_neg z
    by_cases h3 : 3 < g'
    · have h4 : (4 : Int32) ≤ g' := Int32.le_iff_toInt_le.mpr (by have : (3 : Int) < g'.toInt := Int32.lt_iff_toInt_lt.mp h3; show (4 : Int) ≤ g'.toInt; omega)
      rw [if_pos h3] at eR
      rw [eR] at eC
      rw [ti_2 (Or.inl h4)] at eT
      exact Or.inl ⟨2, p, e, -1, _, _, _, _, eC.trans (hc_k (by decide)), tw_no eT, by decide⟩
    · have h4 : ¬ (4 : Int32) ≤ g' := fun q => h3 (Int32.lt_iff_toInt_lt.mpr (by have : (4 : Int) ≤ g'.toInt := Int32.le_iff_toInt_le.mp q; show (3 : Int) < g'.toInt; omega))
      rw [if_neg h3] at eR
      by_cases hv : v' ≤ 9
      · have hv2 : v'.toInt ≤ 9 := Int32.le_iff_toInt_le.mp hv
        rw [if_pos hv] at eR
        rw [eR] at eC
        by_cases h9 : v' = 9
        · have n2 : ¬ v' = pp := fun q => by rw [← q, h9] at hpp; have : (9 : Int) < (B2.1 2 0).toInt := hpp.2; omega
          rw [ti_1 h4 (Or.inr h9)] at eT
          refine Or.inr ⟨p, e, g', v', eC.trans ?_, tw_ok eT n2, b1, by omega⟩
          show F_X8_readHeir_c6 (rd B1 0 f e p) v' a pp = _
          rw [h9]
          exact hc_9
        · by_cases hq : B2.1 2 0 ≤ v'
          · rw [ti_2 (Or.inr ⟨fun q => lt_no q hq, h9⟩)] at eT
            exact Or.inl ⟨2, p, e, v', _, _, _, _, eC.trans (hc_2 ha hE b4.1 h9 hq), tw_no eT, by decide⟩
          · rw [ti_1 h4 (Or.inl (bd_nle hq))] at eT
            by_cases hpq : v' = pp
            · exact Or.inl ⟨4, p, e, v', _, _, _, _, eC.trans (hc_4 ha hE b4.1 h9 hq hpq), tw_4 eT hpq, by decide⟩
            · exact Or.inr ⟨p, e, g', v', eC.trans (hc_0 ha hE b4.1 h9 hq hpq), tw_ok eT hpq, b1, by omega⟩
      · have hv2 : 9 < v'.toInt := Int32.lt_iff_toInt_lt.mp (bd_nle hv)
        have n1 : ¬ v' < B2.1 2 0 := fun q => by have := Int32.lt_iff_toInt_lt.mp q; omega
        have n2 : ¬ v' = 9 := fun q => by rw [q] at hv2; exact absurd hv2 (by decide)
        rw [if_neg hv] at eR
        rw [eR] at eC
        rw [ti_2 (Or.inr ⟨n1, n2⟩)] at eT
        exact Or.inl ⟨2, p, e, -1, _, _, _, _, eC.trans (hc_k (by decide)), tw_no eT, by decide⟩
  · have eT2 : T = (0, td B2 (p + if 0 ≤ hr t n p then 1 else 0) p (hr t n p) 0 0 1) := by
      rw [eT, stq_l d, F_X10_isTold_1_c4, td_20, if_neg (no48 d), m_fl, F_X10_isTold_1_c4fc18]
    have eC2 : C = F_X8_readHeir_c6 (rd B1 1 p p p) (-1) a pp := by rw [eC, nm_no d]; rfl
    exact Or.inl ⟨1, p, p, -1, _, _, _, _, eC2.trans (hc_k (by decide)), tw_no eT2, by decide⟩
theorem and1 (x : Int32) : x &&& 1 = 0 ∨ x &&& 1 = 1 := by
  have hb : mm_b 0 1 (x &&& 1) := bd_andR (lo := 0) (hi := 1) (a := 1) (b := 1) rfl (by decide) (by decide)
  rcases (by omega : (x &&& 1).toInt = 0 ∨ (x &&& 1).toInt = 1) with q | q
  · exact Or.inl (Int32.toInt_inj.mp q)
  · exact Or.inr (Int32.toInt_inj.mp q)
theorem hw {S T : mm_S} {W p : Int32} (hp : 0 ≤ p.toInt ∧ p.toInt < 7) : F_X9_isIn S W p = F_X10_isIn T W p := by
  rw [F_X9_isIn, F_X10_isIn, if_neg (fun q => by have : p.toInt < 0 := Int32.lt_iff_toInt_lt.mp q; omega), if_neg (fun q => by have : (7 : Int) ≤ p.toInt := Int32.le_iff_toInt_le.mp q; omega)]
  rcases and1 (W >>> (p &&& 31)) with q | q
  · rw [q, if_pos rfl, if_neg (by decide)]
  · rw [q, if_neg (by decide), if_pos rfl]
theorem Dr_will (ha : 3 ≤ a) (D : Dr a B1 B2) {p x y : Int32} (hp : 0 ≤ p.toInt ∧ p.toInt < (B2.1 2 0).toInt) {W : Int32} :
    Dr a (mm_up (mm_up (mm_up B1 (a + 2) p.toNatClampNeg x) (a + 3) p.toNatClampNeg y) a 3 W) (mm_up (mm_up (mm_up B2 2 24 W) 2 (10 + 7 * (0 : Int32) + p).toNatClampNeg x) 2 (10 + 7 * (0 + Int32.ofInt 1) + p).toNatClampNeg y) := by
  obtain ⟨⟨d1, d2, d3, d4⟩, ⟨d5, d6, d7⟩, d8, d9, d10, d11⟩ := D
  have cP := pz_cl (x := p) hp.1
  have c1 : (10 + 7 * (0 : Int32) + p).toNatClampNeg = 10 + p.toNatClampNeg := pz_addc (c := 10) (by decide) ⟨hp.1, by omega⟩
  have c2 : (10 + 7 * (0 + Int32.ofInt 1) + p).toNatClampNeg = 17 + p.toNatClampNeg := pz_addc (c := 17) (by decide) ⟨hp.1, by omega⟩
  rw [c1, c2]
  generalize p.toNatClampNeg = N at cP ⊢
  have ro : ∀ i, i ≠ 24 → i ≠ 10 + N → i ≠ 17 + N → (mm_up (mm_up (mm_up B2 2 24 W) 2 (10 + N) x) 2 (17 + N) y).1 2 i = B2.1 2 i := fun i h0 h3 h4 => by rw [up_ne (by omega), up_ne (by omega), up_ne (by omega)]
  have r24 : (mm_up (mm_up (mm_up B2 2 24 W) 2 (10 + N) x) 2 (17 + N) y).1 2 24 = W := by rw [up_ne (by omega), up_ne (by omega), up_at]
  have r10 : (mm_up (mm_up (mm_up B2 2 24 W) 2 (10 + N) x) 2 (17 + N) y).1 2 (10 + N) = x := by rw [up_ne (by omega), up_at]
  have r17 : (mm_up (mm_up (mm_up B2 2 24 W) 2 (10 + N) x) 2 (17 + N) y).1 2 (17 + N) = y := up_at
  generalize mm_up (mm_up (mm_up B2 2 24 W) 2 (10 + N) x) 2 (17 + N) y = C2 at ro r24 r10 r17 ⊢
  have rb : ∀ z i, ¬ (z = a ∧ i = 3) → ¬ (z = a + 2 ∧ i = N) → ¬ (z = a + 3 ∧ i = N) → (mm_up (mm_up (mm_up B1 (a + 2) N x) (a + 3) N y) a 3 W).1 z i = B1.1 z i := fun z i h0 h3 h4 => by rw [up_ne h0, up_ne h4, up_ne h3]
  have rW : (mm_up (mm_up (mm_up B1 (a + 2) N x) (a + 3) N y) a 3 W).1 a 3 = W := up_at
  have rx : (mm_up (mm_up (mm_up B1 (a + 2) N x) (a + 3) N y) a 3 W).1 (a + 2) N = x := by rw [up_ne (by omega), up_ne (by omega), up_at]
  have ry : (mm_up (mm_up (mm_up B1 (a + 2) N x) (a + 3) N y) a 3 W).1 (a + 3) N = y := by rw [up_ne (by omega), up_at]
  generalize mm_up (mm_up (mm_up B1 (a + 2) N x) (a + 3) N y) a 3 W = C1 at rb rW rx ry ⊢
  refine ⟨⟨?_, ?_, ?_, ?_⟩, ⟨?_, ?_, ?_⟩, ?_, ?_, ?_, ?_⟩
  · rw [rb a 0 (by omega) (by omega) (by omega), ro 0 (by omega) (by omega) (by omega)]
    exact d1
  · rw [rb a 1 (by omega) (by omega) (by omega), ro 1 (by omega) (by omega) (by omega)]
    exact d2
  · rw [rb a 2 (by omega) (by omega) (by omega), ro 2 (by omega) (by omega) (by omega)]
    exact d3
  · rw [rW, r24]
  · rw [ro 0 (by omega) (by omega) (by omega)]
    exact d5
  · rw [ro 1 (by omega) (by omega) (by omega)]
    exact d6
  · rw [ro 2 (by omega) (by omega) (by omega)]
    exact d7
  · intro q hq
    rw [ro 0 (by omega) (by omega) (by omega)] at hq
    have z := d8 q hq
    by_cases hN : q = N
    · subst hN
      rw [rx, ry, r10, r17, rb (a + 1) q (by omega) (by omega) (by omega), ro (3 + q) (by omega) (by omega) (by omega)]
      exact ⟨z.1, rfl, rfl⟩
    · rw [rb (a + 1) q (by omega) (by omega) (by omega), rb (a + 2) q (by omega) (by omega) (by omega), rb (a + 3) q (by omega) (by omega) (by omega), ro (3 + q) (by omega) (by omega) (by omega), ro (10 + q) (by omega) (by omega) (by omega), ro (17 + q) (by omega) (by omega) (by omega)]
      exact z
  · intro q h7 hq
    rw [ro 0 (by omega) (by omega) (by omega)] at hq
    rw [ro (3 + q) (by omega) (by omega) (by omega), ro (10 + q) (by omega) (by omega) (by omega), ro (17 + q) (by omega) (by omega) (by omega)]
    exact d9 q h7 hq
  · intro q hq
    rw [ro 1 (by omega) (by omega) (by omega)] at hq
    rw [ro (25 + q) (by omega) (by omega) (by omega), rb (a + 4) q (by omega) (by omega) (by omega)]
    exact d10 q hq
  · intro q hq
    rw [ro 2 (by omega) (by omega) (by omega)] at hq
    rw [ro (31 + q) (by omega) (by omega) (by omega), rb (a + 5) q (by omega) (by omega) (by omega)]
    exact d11 q hq
/-- a will -/
theorem cl_will (ha : 3 ≤ a) (D : Dr a B1 B2) (h : Bs a t n S1 S2 B1 B2) (hn : pz_p n) (hc : pz_p c) (hl : c < n) : Oc a t n S1 S2 f c (F_X8_readWill (rd B1 0 f c m) a) (F_X10_readsWill (td B2 (c + 1) c s g v w)) := by
  obtain ⟨h1, h2⟩ := pz_nx hn hc hl
  have e1 : (rd B1 0 f (c + 1) m).1 a 0 = B2.1 2 0 := by rw [rd_row (by omega)]; exact D.1.1
  have b7 := D.2.1.1
  rw [F_X8_readWill, rd_3, rd_up3, e1, F_X8_readWill_u17, F_X10_readsWill]
  rcases t0 (f := f) (m := m) (b := c) (s := s) (g := g) (v := v) (w := w) h hn h1 b7 with ⟨k, p, e, q', s', g', v', r1, r2, hk⟩ | ⟨p, e, g', pp, r1, r2, hp0, hp1, he, hle⟩
  · rw [r1, r2]
    show Oc a t n S1 S2 f c (F_X8_readWill_u17c20 (rd B1 k p e p) a (-1)) (F_X10_readsWill_c5 0 (td B2 q' p s' g' v' k))
    rw [wl_20 hk, F_X10_readsWill_c5, if_pos rfl]
    exact Or.inr ⟨_, _, k, p, _, _, _, _, _, _, rfl, rfl, hk, h⟩
  · rw [r1, r2]
    show Oc a t n S1 S2 f c (F_X8_readWill_u17c20 (rd B1 0 f e p) a pp) (F_X10_readsWill_c5 1 (td B2 e p 48 g' pp w))
    have hW : F_X6_hasWill (rd B1 0 f e p) a pp = F_X10_isIn (td B2 e p 48 g' pp w) (B2.1 2 24) pp := by
      have e4 : (rd B1 0 f e p).1 a 3 = B2.1 2 24 := by rw [rd_row (by omega)]; exact D.1.2.2.2
      rw [F_X6_hasWill, e4]
      exact hw ⟨hp0, by omega⟩
    rw [F_X8_readWill_u17c20, c_is0, if_neg one0, F_X10_readsWill_c5, if_neg one0, td_2, td_22, hW]
    by_cases q : F_X10_isIn (td B2 e p 48 g' pp w) (B2.1 2 24) pp = 0
    · rw [if_pos q, if_pos q, td_upo (by decide)]
      generalize hWe : B2.1 2 24 ||| (1 : Int32) <<< (pp &&& 31) = W
      have hB := Bs_2 (j := 24) (v := W) h
      have r0 : (mm_up B2 2 24 W).1 2 0 = B2.1 2 0 := up_ne (by omega)
      show Oc a t n S1 S2 f c (F_X8_readWill_u17c20tc51 (F_X8_readHeir (rd B1 0 f e p) a pp).2 a pp (F_X8_readHeir (rd B1 0 f e p) a pp).1) (F_X10_readsWill_L50 (3 + 1) (td (mm_up B2 2 24 W) e p 48 g' pp w) pp 0)
      rw [F_X10_readsWill_L50, if_neg (show ¬ (2 : Int32) ≤ 0 by decide)]
      rcases t1 (f := f) (m := p) (b := p) (s := 48) (g := g') (v := pp) (w := w) ha hB hn he (by rw [r0]; exact b7) (by rw [r0]; exact D.1.1) pp 0 (by rw [r0]; exact ⟨hp0, hp1⟩) (F_X10_readsWill_L50 3) with ⟨k, p2, e2, z2, q', s', g2, v2, u1, u2, hk⟩ | ⟨p2, e2, g2, v2, u1, u2, he2, hle2⟩
      · rw [u1, u2]
        show Oc a t n S1 S2 f c (F_X8_readWill_u17c20tc51 (rd B1 k p2 e2 p2) a pp z2) _
        rw [wl_51 hk]
        exact Or.inr ⟨_, _, k, p2, _, _, _, _, _, _, rfl, rfl, hk, hB⟩
      · rw [u1, u2]
        show Oc a t n S1 S2 f c (F_X8_readWill_u17c20tc51 (rd B1 0 f e2 p2) a pp v2) (F_X10_readsWill_L50 (2 + 1) _ pp _)
        rw [F_X8_readWill_u17c20tc51, F_X10_readsWill_L50, if_neg (show ¬ (2 : Int32) ≤ 0 + Int32.ofInt 1 by decide)]
        have hB2 := Bs_2 (j := (10 + 7 * (0 : Int32) + pp).toNatClampNeg) (v := v2) hB
        have cP := pz_cl (x := pp) hp0
        have c1 : (10 + 7 * (0 : Int32) + pp).toNatClampNeg = 10 + pp.toNatClampNeg := pz_addc (c := 10) (by decide) ⟨hp0, by omega⟩
        have r0b : (mm_up (mm_up B2 2 24 W) 2 (10 + 7 * (0 : Int32) + pp).toNatClampNeg v2).1 2 0 = B2.1 2 0 := by rw [up_ne (by omega), r0]
        rcases t1 (f := f) (m := p2) (b := p2) (s := 48) (g := g2) (v := v2) (w := w) ha hB2 hn he2 (by rw [r0b]; exact b7) (by rw [r0b]; exact D.1.1) pp (0 + Int32.ofInt 1) (by rw [r0b]; exact ⟨hp0, hp1⟩) (F_X10_readsWill_L50 2) with ⟨k, p3, e3, z3, q', s', g3, v3, u3, u4, hk⟩ | ⟨p3, e3, g3, v3, u3, u4, he3, hle3⟩
        · rw [u3, u4]
          show Oc a t n S1 S2 f c (F_X8_readWill_u17c20tc51c58 (rd B1 k p3 e3 p3) a pp v2 z3) _
          rw [wl_58 hk]
          exact Or.inr ⟨_, _, k, p3, _, _, _, _, _, _, rfl, rfl, hk, hB2⟩
        · rw [u3, u4]
          show Oc a t n S1 S2 f c (F_X8_readWill_u17c20tc51c58 (rd B1 0 f e3 p3) a pp v2 v3) (F_X10_readsWill_L50 (1 + 1) _ pp _)
          rw [F_X8_readWill_u17c20tc51c58, F_X10_readsWill_L50, if_pos (show (2 : Int32) ≤ 0 + Int32.ofInt 1 + Int32.ofInt 1 by decide), F_X10_readsWill_L50tc107]
          have hB3 := Bs_2 (j := (10 + 7 * (0 + Int32.ofInt 1) + pp).toNatClampNeg) (v := v3) hB2
          rcases en (f := f) (m := p3) (b := p3) (s := 48) (g := g3) (v := v3) (w := w) hB3 hn he3 with ⟨e4, p4, y1, y2, y3, y4⟩ | ⟨p4, q', s', g4, v4, y1, y2⟩
          · rw [y1, y2]
            show Oc a t n S1 S2 f c (F_X8_readWill_u17c20tc51c58c66 1 (rd B1 0 f e4 p3) a pp v2 v3) _
            have e9 : (rd B1 0 f e4 p3).1 a 3 = B2.1 2 24 := by rw [rd_row (by omega)]; exact D.1.2.2.2
            rw [F_X8_readWill_u17c20tc51c58c66, if_neg one0, F_X8_readWill_u17c20tc51c58c66fc77, F_X6_addWill, hc_p ha D.1.1 hp0, if_neg (show ¬ B2.1 2 0 ≤ pp from fun q => by have := Int32.le_iff_toInt_le.mp q; omega), if_neg one0, e9, hWe, rd_upo (by omega), rd_upo (by omega), rd_upo (by omega)]
            refine Or.inl ⟨_, _, e4, p3, p4, 59, 0, 0, w, rfl, rfl, Dr_will ha D ⟨hp0, hp1⟩, ?_, by omega, y4⟩
            exact Bs_1 ha (Bs_1 ha (Bs_1 ha hB3 ⟨by omega, by omega⟩) ⟨by omega, by omega⟩) ⟨by omega, by omega⟩
          · rw [y1, y2]
            show Oc a t n S1 S2 f c (F_X8_readWill_u17c20tc51c58c66 0 (rd B1 1 p4 p4 p3) a pp v2 v3) _
            rw [F_X8_readWill_u17c20tc51c58c66, if_pos rfl]
            exact Or.inr ⟨_, _, 1, p4, _, _, _, _, _, _, rfl, rfl, by decide, hB3⟩
    · rw [if_neg q, if_neg q, c_bl0, rd_4, wl_45 (by decide), m_fl, F_X10_readsWill_L50tc107]
      exact Or.inr ⟨_, _, 4, p, _, _, _, _, _, _, rfl, rfl, by decide, h⟩
/-- a clause -/
theorem cl_any (ha : 3 ≤ a) (D : Dr a B1 B2) (h : Bs a t n S1 S2 B1 B2) (hn : pz_p n) (hc : pz_p c) (hl : c < n) (h0 : 0 ≤ hr t n c) : Oc a t n S1 S2 f c (F_X8_readClause (rd B1 0 f c m) a) (F_X10_readsClause (stq t n B2 w c)) := by
  have eL : F_X8_letterHere (rd B1 0 f c m) = hr t n c := by
    obtain ⟨-, -, h4, h5, -, -⟩ := h
    rw [c_lh, h4, h5]
  rw [F_X8_readClause, eL, F_X10_readsClause]
  by_cases d : mm_b 48 57 (hr t n c)
  · have n1 : ¬ (hr t n c).toInt = 99 := by omega
    have n2 : ¬ (hr t n c).toInt = 100 := by omega
    have n3 : ¬ (hr t n c).toInt = 112 := by omega
    have n4 : ¬ (hr t n c).toInt = 119 := by omega
    rw [stq_d d, td_20, if_neg n1, if_neg n2, if_neg n3, if_neg n4, if_neg (show ¬ (48 : Int32).toInt = 99 by decide), if_neg (show ¬ (48 : Int32).toInt = 100 by decide), if_neg (show ¬ (48 : Int32).toInt = 112 by decide), if_neg (show ¬ (48 : Int32).toInt = 119 by decide), m_fl, c_bl0, rd_3, F_X8_readClause_dc89, F_X10_readsClause_dc73]
    exact Or.inr ⟨_, _, 1, c, _, _, _, _, _, _, rfl, rfl, by decide, h⟩
  · rw [stq_l d, td_20, if_pos h0]
    by_cases q1 : (hr t n c).toInt = 99
    · rw [if_pos q1, if_pos q1, F_X8_readClause_dc89, F_X10_readsClause_dc73]
      exact cl_choir ha D h hn hc hl
    · rw [if_neg q1, if_neg q1]
      by_cases q2 : (hr t n c).toInt = 100
      · rw [if_pos q2, if_pos q2, F_X8_readClause_dc89, F_X10_readsClause_dc73]
        exact cl_door ha D h hn hc hl
      · rw [if_neg q2, if_neg q2]
        by_cases q3 : (hr t n c).toInt = 112
        · rw [if_pos q3, if_pos q3, F_X8_readClause_dc89, F_X10_readsClause_dc73]
          exact cl_person ha D h hn hc hl
        · rw [if_neg q3, if_neg q3]
          by_cases q4 : (hr t n c).toInt = 119
          · rw [if_pos q4, if_pos q4, F_X8_readClause_dc89, F_X10_readsClause_dc73]
            exact cl_will ha D h hn hc hl
          · rw [if_neg q4, if_neg q4, c_bl0, rd_3, m_fl, F_X8_readClause_dc89, F_X10_readsClause_dc73]
            exact Or.inr ⟨_, _, 1, c, _, _, _, _, _, _, rfl, rfl, by decide, h⟩
end CL3
