/-! ===== what orders writes ===== -/
section CFO
variable {S U1 : mm_S} {x y v1 : Int32}
theorem gf_setL : ∀ (N : Nat) (S : mm_S) (a b c : Int32), Gf 138 139 S (F_X5_setOrder_L17 N S a b c)
  | 0, S, a, b, c => Gf_rf
  | N + 1, S, a, b, c => by
    rw [F_X5_setOrder_L17]
    split
    · exact Gf_rf
    · split
      · exact Gf_rf
      · rw [F_X5_setOrder_L17ffc76]
        exact Gf_tr gf_add (gf_setL N _ _ _ _)
theorem gf_set : Gf 138 139 S (F_X5_setOrder S x y) := by
  rw [F_X5_setOrder, F_X5_setOrder_c4]
  exact Gf_tr gf_emp (gf_setL _ _ _ _ _)
theorem cf_fit : Cf S (F_X9_fitsOrder S x y).2 := by
  have z : Cf S (F_X5_buryIn (F_X3_copy (F_X5_setOrder S x y) 20 15)) := by
    rw [F_X5_buryIn]
    exact Cf_tr (Cf_tr (cf_l gf_set) cf_copy) (cf_g (gf_buryL 9 _ 0))
  rw [F_X9_fitsOrder, F_X9_fitsOrder_c9, F_X9_fitsOrder_c9c20, F_X9_fitsOrder_c9c20c31]
  split
  · exact z
  · exact z
theorem cf_cnt : ∀ (N : Nat) (S : mm_S) (m i : Int32), Cf S (F_X9_countOrders_L4 x N S m i).2
  | 0, S, m, i => Cf_rf
  | N + 1, S, m, i => by
    rw [F_X9_countOrders_L4]
    split
    · exact Cf_rf
    · rw [F_X9_countOrders_L4fc18]
      split
      · exact Cf_tr cf_fit (cf_cnt N _ _ _)
      · exact Cf_tr cf_fit (cf_cnt N _ _ _)
theorem cf_num : ∀ (N : Nat) (S : mm_S) (m i : Int32), Cf S (F_X9_orderNumber_L5 x y N S m i).2
  | 0, S, m, i => Cf_rf
  | N + 1, S, m, i => by
    rw [F_X9_orderNumber_L5]
    split
    · exact Cf_rf
    · rw [F_X9_orderNumber_L5fc21]
      split
      · exact Cf_tr cf_fit (cf_num N _ _ _)
      · split
        · show Cf S (F_X9_fitsOrder S x i).2
          exact cf_fit (x := x) (y := i)
        · exact Cf_tr cf_fit (cf_num N _ _ _)
theorem cf_fst : ∀ (N : Nat) (S : mm_S) (m i : Int32), Cf S (F_X9_firstInAllOrders_L4 x N S m i).2
  | 0, S, m, i => Cf_rf
  | N + 1, S, m, i => by
    rw [F_X9_firstInAllOrders_L4]
    split
    · exact Cf_rf
    · rw [F_X9_firstInAllOrders_L4fc18]
      split
      · exact Cf_tr cf_fit (cf_fst N _ _ _)
      · split
        · exact Cf_tr cf_fit (cf_fst N _ _ _)
        · split
          · exact Cf_tr cf_fit (cf_fst N _ _ _)
          · show Cf S (F_X9_fitsOrder S x i).2
            exact cf_fit (x := x) (y := i)
theorem cf_orders (e : F_X9_orders S x y = (v1, U1)) : Cf S U1 := by
  have z : Cf S (F_X9_orders S x y).2 := by
    rw [F_X9_orders]
    split
    · exact Cf_rf
    · split
      · split
        · exact Cf_rf
        · split
          · rw [F_X9_orders_tttttc70, F_X9_firstInAllOrders]
            exact cf_fst _ _ _ _
          · split
            · rw [F_X9_orders_tttttc70, F_X9_countOrders]
              exact cf_cnt _ _ _ _
            · rw [F_X9_orders_tttttc70, F_X9_orderNumber]
              exact cf_num _ _ _ _
      · exact Cf_rf
  rw [e] at z
  exact z
end CFO
