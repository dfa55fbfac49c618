section CL30
variable {a : Nat} {t : Nat → Int32} {n : Int32} {S1 S2 B1 B2 : mm_S} {f c m b s g v w x : Int32}
theorem cl_choir (ha : 3 ≤ a) (D : Dr a B1 B2) (h : Bs a t n S1 S2 B1 B2) (hn : pz_p n) (hc : pz_p c) (hl : c < n) : Oc a t n S1 S2 f c (F_X8_readChoir (rd B1 0 f c m) a) (F_X10_readsParts (td B2 (c + 1) c s g v w)) := by
  have e1 : (rd B1 0 f c m).1 a 2 = B2.1 2 2 := by rw [rd_row (by omega)]; exact D.1.2.2.1
  obtain ⟨h1, h2⟩ := pz_nx hn hc hl
  have b7 := D.2.1.2.2
  rw [F_X8_readChoir, F_X10_readsParts, e1, rd_3, rd_up3, td_2, m_fl]
  by_cases hp : B2.1 2 2 ≤ 0
  · have hp0 : (B2.1 2 2).toInt ≤ 0 := Int32.le_iff_toInt_le.mp hp
    rw [if_pos hp, if_pos hp, F_X8_readChoir_tu31, F_X8_readChoir_tu31c34, F_X8_readChoir_tu31c34c37]
    exact ch_L ha hn 6 6 B1 B2 (c + 1) m c s g v w D h h1 (Int32.lt_iff_toInt_lt.mpr (by show (B2.1 2 2).toInt < 6; omega)) (by omega) (by omega) 1 (by show (1 : Int) = _; omega) c (by omega)
  · rw [if_neg hp, if_neg hp, c_bl0, F_X8_readChoir_L39tc86, F_X10_readsParts_L15c31fu45c48ttc84]
    exact Or.inr ⟨_, _, 3, c, _, _, _, _, _, _, rfl, rfl, by decide, h⟩
/-! behind a fault -/
theorem wl_h {k : Int32} (hk : ¬ k = 0) : F_X8_readHeir (rd B1 k f c m) a x = (-1, rd B1 k f c m) := by
  rw [F_X8_readHeir, c_rnk hk, F_X8_readHeir_c6, c_isk hk, if_pos rfl]
theorem wl_58 {k y z : Int32} (hk : ¬ k = 0) : F_X8_readWill_u17c20tc51c58 (rd B1 k f c m) a x y z = rd B1 k f c m := by
  rw [F_X8_readWill_u17c20tc51c58, c_rsk hk, F_X8_readWill_u17c20tc51c58c66, if_pos rfl]
theorem wl_51 {k y : Int32} (hk : ¬ k = 0) : F_X8_readWill_u17c20tc51 (rd B1 k f c m) a x y = rd B1 k f c m := by
  rw [F_X8_readWill_u17c20tc51, wl_h hk]
  exact wl_58 hk
theorem wl_45 {k : Int32} (hk : ¬ k = 0) : F_X8_readWill_u17c20ffc45 (rd B1 k f c m) a x = rd B1 k f c m := by
  rw [F_X8_readWill_u17c20ffc45, wl_h hk]
  exact wl_51 hk
theorem wl_20 {k : Int32} (hk : ¬ k = 0) : F_X8_readWill_u17c20 (rd B1 k f c m) a x = rd B1 k f c m := by
  rw [F_X8_readWill_u17c20, c_isk hk, if_pos rfl, wl_h hk]
  exact wl_51 hk
theorem pz_sub1 {P : Int32} (h : mm_b 0 7 P) : (P - 1).toInt = P.toInt - 1 := by
  rw [bd_ti_sub (by show -2147483648 ≤ P.toInt - 1; omega) (by show P.toInt - 1 ≤ 2147483647; omega)]
  rfl
end CL30
