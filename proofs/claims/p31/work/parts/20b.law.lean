/-! ===== the law: the relation ===== -/
abbrev Rl := RA
theorem Rl_0 : ∀ S, SM1 S → Rl SC0 S := RA_0
