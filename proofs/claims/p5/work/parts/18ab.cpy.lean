/-! ===== a copy doesn't look at other rows ===== -/
theorem cpy_L {g c : Nat} {x k : Nat} {v : Int32} (hx : x ≠ g + 1 ∧ x ≠ g + 2 ∧ x ≠ g + 3 ∧ x ≠ g + 4) (hc : x ≠ c + 1 ∧ x ≠ c + 2 ∧ x ≠ c + 3 ∧ x ≠ c + 4) : ∀ (N : Nat) (S : mm_S) (y : Int32), F_X3_copy_L26 g c N (mm_up S x k v) y = mm_up (F_X3_copy_L26 g c N S y) x k v
  | 0, S, y => rfl
  | N + 1, S, y => by
    have sw : ∀ (T : mm_S) (a i : Nat) (u : Int32), a ≠ x → mm_up (mm_up T x k v) a i u = mm_up (mm_up T a i u) x k v := fun T a i u ha => by
      refine Prod.ext (funext fun b => funext fun l => ?_) rfl
      show (if b = a ∧ l = i then u else if b = x ∧ l = k then v else T.1 b l) = (if b = x ∧ l = k then v else if b = a ∧ l = i then u else T.1 b l)
      by_cases h1 : b = a ∧ l = i
      · rw [if_pos h1, if_neg (show ¬ (b = x ∧ l = k) by omega), if_pos h1]
      · rw [if_neg h1, if_neg h1]
    have r1 : ∀ T : mm_S, (mm_up T x k v).1 (c + 1) = T.1 (c + 1) := fun T => up_row (by omega)
    have r2 : ∀ T : mm_S, (mm_up T x k v).1 (c + 2) = T.1 (c + 2) := fun T => up_row (by omega)
    have r3 : ∀ T : mm_S, (mm_up T x k v).1 (c + 3) = T.1 (c + 3) := fun T => up_row (by omega)
    have r4 : ∀ T : mm_S, (mm_up T x k v).1 (c + 4) = T.1 (c + 4) := fun T => up_row (by omega)
    have w1 := fun T i u => sw T (g + 1) i u (by omega)
    have w2 := fun T i u => sw T (g + 2) i u (by omega)
    have w3 := fun T i u => sw T (g + 3) i u (by omega)
    have w4 := fun T i u => sw T (g + 4) i u (by omega)
    rw [F_X3_copy_L26, F_X3_copy_L26]
    split
    · rfl
    · simp only [r1, r2, r3, r4, w1, w2, w3, w4]
      exact cpy_L hx hc N _ _
theorem cpy_25 {S : mm_S} {v : Int32} {k g : Nat} (hg : 25 < g) : ∀ b, b ≠ 25 → (F_X3_copy (mm_up S 25 k v) g 15).1 b = (F_X3_copy S g 15).1 b := by
  intro b hb
  have sw : ∀ (T : mm_S) (i : Nat) (u : Int32), mm_up (mm_up T 25 k v) g i u = mm_up (mm_up T g i u) 25 k v := fun T i u => by
    refine Prod.ext (funext fun b => funext fun l => ?_) rfl
    show (if b = g ∧ l = i then u else if b = 25 ∧ l = k then v else T.1 b l) = (if b = 25 ∧ l = k then v else if b = g ∧ l = i then u else T.1 b l)
    by_cases h1 : b = g ∧ l = i
    · rw [if_pos h1, if_neg (show ¬ (b = 25 ∧ l = k) by omega), if_pos h1]
    · rw [if_neg h1, if_neg h1]
  have r : ∀ T : mm_S, (mm_up T 25 k v).1 15 = T.1 15 := fun T => up_row (by omega)
  rw [F_X3_copy, F_X3_copy]
  simp only [r, sw]
  rw [cpy_L (by omega) (by omega), up_row hb]
