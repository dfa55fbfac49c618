theorem prM_lt {S : mm_S} {w : Int32} (hI : JM S) : prM S w < 245 := by
  have b : mm_b 0 240 (S.1 0 18) := JIM_fld hI rfl tbM_6 (by decide)
  unfold prM
  split
  · omega
  · split
    · omega
    · omega
