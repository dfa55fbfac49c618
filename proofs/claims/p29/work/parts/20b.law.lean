/-! ===== the law: the relation ===== -/
abbrev Rl := RB
theorem Rl_0 : ∀ S, SM1 S → Rl SC0 S := RB_0
