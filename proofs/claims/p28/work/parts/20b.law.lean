/-! ===== the law: the relation ===== -/
def Rl (S1 S2 : mm_S) : Prop := RB S1 S2 ∧ Sn S2
theorem Rl_0 : ∀ S, SM1 S → Rl SC0 S := fun S h => ⟨RB_0 S h, Sn_0 S h⟩
