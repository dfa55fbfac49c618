/-! ===== the law: the relation ===== -/
def Rl (S1 S2 : mm_S) : Prop := S1.1 1 0 = S2.1 0 10
theorem Rl_0 : ∀ S, SM1 S → Rl SC0 S := fun S ⟨Sa, f1, f2⟩ => ((f2.2.1 10 (by decide)).trans (f1.2.1 10 (by decide))).symm
theorem feedR_two {n m a b v w x : Int32} (h : n = m) (h1 : feedR n a v x) (h2 : feedR m b w x) : v = w ∧ a = b := by
  subst h
  exact feedR_det h1 h2
