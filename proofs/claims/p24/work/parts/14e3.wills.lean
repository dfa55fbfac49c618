section CL32
variable {a : Nat} {t : Nat → Int32} {n : Int32} {S1 S2 B1 B2 : mm_S} {f c m b s g v w x : Int32}
theorem one0 : ¬ (1 : Int32) = 0 := by decide
/-- an heir, read by both: the class behind its number -/
theorem hc_k {k z : Int32} (hk : ¬ k = 0) : F_X8_readHeir_c6 (rd B1 k f c m) z a x = (z, rd B1 k f c m) := by
  rw [F_X8_readHeir_c6, c_isk hk, if_pos rfl]
theorem hc_p (ha : 3 ≤ a) {z P : Int32} (hE : B1.1 a 0 = P) (hz : 0 ≤ z.toInt) : F_X6_hasPerson (rd B1 0 f c m) a z = if P ≤ z then 0 else 1 := by
  have e0 : (rd B1 0 f c m).1 a 0 = P := by rw [rd_row (by omega)]; exact hE
  have n0 : ¬ z < 0 := fun q => absurd (Int32.lt_iff_toInt_lt.mp q) (by show ¬ z.toInt < 0; omega)
  rw [F_X6_hasPerson, e0, if_neg n0]
theorem hc_9 : F_X8_readHeir_c6 (rd B1 0 f c m) 9 a x = (9, rd B1 0 f c m) := by
  rw [F_X8_readHeir_c6, c_is0, if_neg (by decide), if_pos rfl]
theorem hc_2 (ha : 3 ≤ a) {z P : Int32} (hE : B1.1 a 0 = P) (hz : 0 ≤ z.toInt) (h9 : ¬ z = 9) (hq : P ≤ z) : F_X8_readHeir_c6 (rd B1 0 f c m) z a x = (z, rd B1 2 m c m) := by
  rw [F_X8_readHeir_c6, c_is0, if_neg (by decide), if_neg h9, hc_p ha hE hz, if_pos hq, if_pos rfl, c_bl0, rd_4, F_X8_readHeir_c6fftfc54]
theorem hc_4 (ha : 3 ≤ a) {z P : Int32} (hE : B1.1 a 0 = P) (hz : 0 ≤ z.toInt) (h9 : ¬ z = 9) (hq : ¬ P ≤ z) (hx : z = x) : F_X8_readHeir_c6 (rd B1 0 f c m) z a x = (z, rd B1 4 m c m) := by
  rw [F_X8_readHeir_c6, c_is0, if_neg (by decide), if_neg h9, hc_p ha hE hz, if_neg hq, if_neg (by decide), if_pos hx, c_bl0, rd_4, F_X8_readHeir_c6fftfc54]
theorem hc_0 (ha : 3 ≤ a) {z P : Int32} (hE : B1.1 a 0 = P) (hz : 0 ≤ z.toInt) (h9 : ¬ z = 9) (hq : ¬ P ≤ z) (hx : ¬ z = x) : F_X8_readHeir_c6 (rd B1 0 f c m) z a x = (z, rd B1 0 f c m) := by
  rw [F_X8_readHeir_c6, c_is0, if_neg (by decide), if_neg h9, hc_p ha hE hz, if_neg hq, if_neg (by decide), if_neg hx]
theorem tw_no {T : Int32 × mm_S} {S' : mm_S} {pp y : Int32} {K : mm_S → Int32 → Int32 → Int32 × mm_S} (h : T = (0, S')) : F_X10_readsWill_L50fc60 T.1 T.2 pp K y = (0, S') := by
  rw [h, F_X10_readsWill_L50fc60, if_pos rfl]
theorem tw_4 {T : Int32 × mm_S} {pp y : Int32} {K : mm_S → Int32 → Int32 → Int32 × mm_S} (h : T = (1, td B2 c b s g v w)) (hv : v = pp) : F_X10_readsWill_L50fc60 T.1 T.2 pp K y = (0, td B2 c b s g v 4) := by
  rw [h]
  show F_X10_readsWill_L50fc60 1 (td B2 c b s g v w) pp K y = _
  rw [F_X10_readsWill_L50fc60, if_neg one0, td_22, if_pos hv, m_fl, F_X10_readsWill_L50tc107]
theorem tw_ok {T : Int32 × mm_S} {pp y : Int32} {K : mm_S → Int32 → Int32 → Int32 × mm_S} (h : T = (1, td B2 c b s g v w)) (hv : ¬ v = pp) : F_X10_readsWill_L50fc60 T.1 T.2 pp K y = K (td (mm_up B2 2 ((((10 : Int32) + ((7 : Int32) * y)) + pp)).toNatClampNeg v) c b s g v w) pp (y + Int32.ofInt 1) := by
  rw [h]
  show F_X10_readsWill_L50fc60 1 (td B2 c b s g v w) pp K y = _
  rw [F_X10_readsWill_L50fc60, if_neg one0, td_22, if_neg hv, td_upo (by decide)]
theorem ti_2 {g' v' : Int32} (h : (4 : Int32) ≤ g' ∨ (¬ v' < B2.1 2 0 ∧ ¬ v' = 9)) : F_X10_isTold_1_c4 (td B2 c b 48 g' v' w) = (0, td B2 c b 48 g' v' 2) := by
  rw [F_X10_isTold_1_c4, td_20, if_pos rfl, td_21, td_22, td_2, m_fl, F_X10_isTold_1_c4ttc68]
  by_cases q : (4 : Int32) ≤ g'
  · rw [if_pos q]
  · have z := h.resolve_left q
    rw [if_neg q, if_neg z.1, if_neg z.2]
theorem ti_1 {g' v' : Int32} (h : ¬ (4 : Int32) ≤ g') (hv : v' < B2.1 2 0 ∨ v' = 9) : F_X10_isTold_1_c4 (td B2 c b 48 g' v' w) = (1, td B2 c b 48 g' v' w) := by
  rw [F_X10_isTold_1_c4, td_20, if_pos rfl, td_21, td_22, td_2, if_neg h]
  by_cases q : v' < B2.1 2 0
  · rw [if_pos q]
  · rw [if_neg q, if_pos (hv.resolve_left q)]
end CL32
