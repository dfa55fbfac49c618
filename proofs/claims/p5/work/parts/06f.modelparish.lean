/-! ===== the reference: how far the reading is ===== -/
def prM (S : mm_S) (w : Int32) : Nat := if w = 0 ∨ (S.1 0 20).toInt < 0 then 0 else if (S.1 0 20).toInt = 48 then 1 else (243 - (S.1 0 18).toInt).toNat
theorem prM_pos {S : mm_S} {v w : Int32} (e : v = S.1 0 20) (bv : mm_b 0 255 v) (bw : mm_b 1 1 w) : ¬ (w = 0 ∨ (S.1 0 20).toInt < 0) := by
  rw [← e]
  intro q
  rcases q with q | q
  · rw [q] at bw
    exact absurd bw (by decide)
  · omega
theorem pr_1 {S S2 : mm_S} {v w z : Int32} {N : Nat} (hm : prM S w < N + 1) (e : v = S.1 0 20) (bv : mm_b 0 255 v) (bw : mm_b 1 1 w) (hI : JM S) (bz : mm_b 0 0 z) : prM S2 z < N := by
  have h1 : prM S2 z = 0 := by unfold prM; rw [if_pos (Or.inl (bd_zero bz))]
  have b18 : mm_b 0 240 (S.1 0 18) := JIM_fld hI rfl tbM_6 (by decide)
  unfold prM at hm
  rw [if_neg (prM_pos e bv bw)] at hm
  rw [h1]
  split at hm <;> omega
theorem pr_2 {S S1 S2 : mm_S} {v w r : Int32} {N : Nat} {wr wf : List Nat} {k : Bool} (hm : prM S w < N + 1) (e : v = S.1 0 20) (bv : mm_b 99 119 v) (bw : mm_b 1 1 w) (hI : JM S) (f1 : fr wr wf k true S S1) (x2 : (S2.1 0 20).toInt < 0 ∨ (S2.1 0 20).toInt = 48 ∨ (S1.1 0 18).toInt < (S2.1 0 18).toInt) : prM S2 r < N := by
  have b18 : mm_b 0 240 (S.1 0 18) := JIM_fld hI rfl tbM_6 (by decide)
  have h18 := f1.2.2.2 rfl
  unfold prM at hm
  rw [if_neg (prM_pos e ⟨by omega, by omega⟩ bw), if_neg (by rw [← e]; omega)] at hm
  unfold prM
  split
  · omega
  · rename_i h
    split
    · omega
    · rename_i h48
      rcases x2 with x2 | x2 | x2
      · exact absurd (Or.inr x2) h
      · exact absurd x2 h48
      · omega
