/-! ===== the tried folk and the line: what after and whose write ===== -/
section CFN
variable {S S1 S2 U U1 R : mm_S} {x y v q v1 jar h0 : Int32}
def Cf (S1 S : mm_S) : Prop := (∀ x, x < 20 ∨ (24 < x ∧ x < 138) ∨ 139 < x → S.1 x = S1.1 x) ∧ S.2 = S1.2
theorem Cf_rf : Cf S S := ⟨fun _ _ => rfl, rfl⟩
theorem Cf_tr {V : mm_S} (a : Cf S1 S) (b : Cf S V) : Cf S1 V := ⟨fun x hx => (b.1 x hx).trans (a.1 x hx), b.2.trans a.2⟩
theorem LB1_q : ∀ b ∈ LB1, b < 20 ∨ (24 < b ∧ b < 138) ∨ 139 < b := by decide +kernel
theorem LB2_q : ∀ b ∈ LB2, b ≠ 4 := by decide
theorem RB_cf (h : RB S1 S2) (hJ : JC S1) (c : Cf S1 S) (g : Gm 4 S2 R) : RB S R :=
  RB_G h hJ (fun b hb => c.1 b (LB1_q b hb)) c.2 (fun b hb => g.1 b (LB2_q b hb)) (fun j _ => by rw [g.1 0 (by omega)]) g.2
theorem fr_gm {m : Bool} (f : fr [4] [] true m S2 R) : Gm 4 S2 R := ⟨fun b hb => funext fun j => by
  by_cases z : b = 0
  · rw [z]
    exact f.2.1 j (fun h => by cases h)
  · exact f.1 b j (fun h => hb (List.mem_singleton.mp h)) z, f.2.2.1 rfl⟩
theorem gf_give : Gf 20 24 S (F_X3_give_20 S q v) := by
  rw [F_X3_give_20]
  split
  · exact Gf_rf
  · split
    · exact Gf_up Gf_rf (by decide)
    · exact Gf_up (Gf_up Gf_rf (by decide)) (by decide)
theorem gf_jar : ∀ (N : Nat) (y : Int32) (S : mm_S), Gf 20 24 S (F_X3_bury_20_L100 N S jar h0 y).2
  | 0, y, S => Gf_rf
  | N + 1, y, S => by
    rw [F_X3_bury_20_L100]
    split
    · exact Gf_rf
    · split
      · exact Gf_rf
      · split
        · exact gf_jar N _ S
        · rw [F_X3_bury_20_L100fffc133]
          exact Gf_tr gf_give (gf_jar N _ _)
theorem gf_bury : Gf 20 24 S (F_X3_bury_20 S q).2 := by
  rw [F_X3_bury_20]
  split
  · exact Gf_rf
  · split
    · exact Gf_tr (Gf_up (Gf_up (Gf_up (Gf_up Gf_rf (by decide)) (by decide)) (by decide)) (by decide)) (gf_jar 9 _ _)
    · rw [F_X3_bury_20_tfu85, F_X3_bury_20_tfu85c97]
      exact Gf_tr (Gf_tr (Gf_up (Gf_up (Gf_up (Gf_up Gf_rf (by decide)) (by decide)) (by decide)) (by decide)) gf_give) (gf_jar 9 _ _)
theorem gf_buryL : ∀ (N : Nat) (S : mm_S) (y : Int32), Gf 20 24 S (F_X5_buryIn_L2 N S y)
  | 0, S, y => Gf_rf
  | N + 1, S, y => by
    rw [F_X5_buryIn_L2]
    split
    · exact Gf_rf
    · rw [F_X5_buryIn_L2fc20]
      exact Gf_tr gf_bury (gf_buryL N _ _)
theorem cf_g (h : Gf 20 24 S U) : Cf S U := ⟨fun x hx => h.1 x (by omega), h.2⟩
theorem cf_l (h : Gf 138 139 S U) : Cf S U := ⟨fun x hx => h.1 x (by omega), h.2⟩
theorem cf_copy : Cf S (F_X3_copy S 20 15) := by
  obtain ⟨⟨cr, c2⟩, -, -⟩ := cp_c (S := S) (a := 20) (c := 15) (by omega)
  exact ⟨fun x hx => cr x (by omega) (by omega) (by omega) (by omega) (by omega), c2⟩
theorem cf_try : Cf S (F_X9_tryLine S) := by
  rw [F_X9_tryLine, F_X9_tryLine_c11, F_X9_tryLine_c11c22, F_X5_buryIn]
  exact Cf_tr cf_copy (cf_g (gf_buryL 9 _ 0))
theorem gf_add : Gf 138 139 S (F_X5_add S x) := by
  rw [F_X5_add]
  split
  · exact Gf_rf
  · exact Gf_up (Gf_up (Gf_up Gf_rf (by decide)) (by decide)) (by decide)
theorem gf_emp : Gf 138 139 S (F_X5_empty S) := Gf_up (Gf_up Gf_rf (by decide)) (by decide)
theorem gf_rdL : ∀ (N : Nat) (S : mm_S) (y z : Int32), Gf 138 139 S (F_X5_readOrder_L16 N S y z).2
  | 0, S, y, z => Gf_rf
  | N + 1, S, y, z => by
    rw [F_X5_readOrder_L16]
    split
    · exact Gf_rf
    · split
      · split
        · exact Gf_rf
        · split
          · rw [F_X5_readOrder_L16ftftc77]
            exact Gf_tr gf_add (gf_rdL N _ _ _)
          · exact Gf_rf
      · split
        · exact gf_rdL N S _ _
        · exact Gf_rf
theorem gf_read : Gf 138 139 S (F_X5_readOrder S x).2 := by
  rw [F_X5_readOrder, F_X5_readOrder_c4]
  split
  · exact Gf_tr gf_emp (gf_rdL _ _ _ _)
  · exact gf_emp
theorem cf_whose (e : F_X9_whose S x y = (v1, U1)) : Cf S U1 := by
  have z : Cf S (F_X9_whose S x y).2 := by
    rw [F_X9_whose]
    split
    · exact Cf_rf
    · rw [F_X9_whose_tc22]
      split
      · exact cf_l gf_read
      · rw [F_X9_whose_tc22tc32]
        exact Cf_tr (cf_l gf_read) cf_try
  rw [e] at z
  exact z
end CFN
