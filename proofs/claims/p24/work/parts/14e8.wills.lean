section CL37
variable {a : Nat} {t : Nat → Int32} {n : Int32} {S1 S2 B1 B2 : mm_S} {f c m b s g v w x : Int32}
/-- a clause -/
theorem cl_any (ha : 3 ≤ a) (D : Dr a B1 B2) (h : Bs a t n S1 S2 B1 B2) (hn : pz_p n) (hc : pz_p c) (hl : c < n) (h0 : 0 ≤ hr t n c) : Oc a t n S1 S2 f c (F_X8_readClause (rd B1 0 f c m) a) (F_X10_readsClause (stq t n B2 w c)) := by
  have eL : F_X8_letterHere (rd B1 0 f c m) = hr t n c := by
    obtain ⟨-, -, h4, h5, -, -⟩ := h
    rw [c_lh, h4, h5]
  rw [F_X8_readClause, eL, F_X10_readsClause]
  by_cases d : mm_b 48 57 (hr t n c)
  · have n1 : ¬ (hr t n c).toInt = 99 := by omega
    have n2 : ¬ (hr t n c).toInt = 100 := by omega
    have n3 : ¬ (hr t n c).toInt = 112 := by omega
    have n4 : ¬ (hr t n c).toInt = 119 := by omega
    rw [stq_d d, td_20, if_neg n1, if_neg n2, if_neg n3, if_neg n4, if_neg (show ¬ (48 : Int32).toInt = 99 by decide), if_neg (show ¬ (48 : Int32).toInt = 100 by decide), if_neg (show ¬ (48 : Int32).toInt = 112 by decide), if_neg (show ¬ (48 : Int32).toInt = 119 by decide), m_fl, c_bl0, rd_3, F_X8_readClause_dc89, F_X10_readsClause_dc73]
    exact Or.inr ⟨_, _, 1, c, _, _, _, _, _, _, rfl, rfl, by decide, h⟩
  · rw [stq_l d, td_20, if_pos h0]
    by_cases q1 : (hr t n c).toInt = 99
    · rw [if_pos q1, if_pos q1, F_X8_readClause_dc89, F_X10_readsClause_dc73]
      exact cl_choir ha D h hn hc hl
    · rw [if_neg q1, if_neg q1]
      by_cases q2 : (hr t n c).toInt = 100
      · rw [if_pos q2, if_pos q2, F_X8_readClause_dc89, F_X10_readsClause_dc73]
        exact cl_door ha D h hn hc hl
      · rw [if_neg q2, if_neg q2]
        by_cases q3 : (hr t n c).toInt = 112
        · rw [if_pos q3, if_pos q3, F_X8_readClause_dc89, F_X10_readsClause_dc73]
          exact cl_person ha D h hn hc hl
        · rw [if_neg q3, if_neg q3]
          by_cases q4 : (hr t n c).toInt = 119
          · rw [if_pos q4, if_pos q4, F_X8_readClause_dc89, F_X10_readsClause_dc73]
            exact cl_will ha D h hn hc hl
          · rw [if_neg q4, if_neg q4, c_bl0, rd_3, m_fl, F_X8_readClause_dc89, F_X10_readsClause_dc73]
            exact Or.inr ⟨_, _, 1, c, _, _, _, _, _, _, rfl, rfl, by decide, h⟩
end CL37
