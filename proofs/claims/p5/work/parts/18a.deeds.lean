/-! ===== sold, put by, wills changed ===== -/
section DE
variable {P v x p q : Int32} {S1 S2 : mm_S}
theorem one_lc (h : Fk15 P S1 S2) (hP : mm_b 0 7 P) (hq : 0 ≤ q.toInt ∧ q.toInt < P.toInt) : F_X3_isOne_15 S1 q = 1 := by
  have n0 : ¬ q < 0 := fun z => by have : q.toInt < 0 := Int32.lt_iff_toInt_lt.mp z; omega
  rw [F_X3_isOne_15, h.2.2.1, if_neg n0, if_neg (fun z => by have := Int32.le_iff_toInt_le.mp z; omega)]
theorem alv (w : Wf 3 P S2) (hq : 0 ≤ q.toInt ∧ q.toInt ≤ 6) : F_X10_isAlive S2 q = if lv (S2.1 3 28) q then 1 else 0 := by
  rw [F_X10_isAlive, in_bt hq.1]
  by_cases z : bt (S2.1 3 28) q.toNatClampNeg
  · rw [if_pos z, if_pos (show lv (S2.1 3 28) q from ⟨hq, z⟩)]
  · rw [if_neg z, if_neg (fun y : lv (S2.1 3 28) q => z y.2)]
theorem ifz {c : Prop} [Decidable c] : ((if c then (1 : Int32) else 0) = 0) ↔ ¬ c := by
  by_cases h : c
  · rw [if_pos h]
    exact ⟨fun q => absurd q one0, fun q => absurd h q⟩
  · rw [if_neg h]
    exact ⟨fun _ => h, fun _ => rfl⟩
/-- may one sell: both ask the same -/
theorem ms (h : Fk15 P S1 S2) (w : Wf 3 P S2) (hP : mm_b 0 7 P) (hp : 0 ≤ p.toInt ∧ p.toInt ≤ 6) (hq : 0 ≤ q.toInt ∧ q.toInt ≤ 6) : F_X3_canHandOver_15 S1 p q = F_X10_maySell S2 p q ∧ (¬ F_X10_maySell S2 p q = 0 → ¬ p = q ∧ lv (S2.1 3 28) p ∧ lv (S2.1 3 28) q ∧ ¬ S2.1 3 p.toNatClampNeg = 9) := by
  have cp := pz_cl hp.1
  have c0 : ((0 : Int32) + p).toNatClampNeg = p.toNatClampNeg := by rw [Int32.zero_add]
  rw [F_X3_canHandOver_15, F_X10_maySell, lc15 h w hP, lc15 h w hP, alv w hp, alv w hq, c0, (h.2.2.2 p.toNatClampNeg (by omega)).1]
  refine ⟨rfl, fun z => ?_⟩
  by_cases e : p = q
  · rw [if_pos e] at z
    exact absurd rfl z
  · rw [if_neg e] at z
    by_cases l1 : lv (S2.1 3 28) p
    · rw [if_neg (fun y => absurd l1 (ifz.mp y))] at z
      by_cases l2 : lv (S2.1 3 28) q
      · rw [if_neg (fun y => absurd l2 (ifz.mp y))] at z
        by_cases e9 : S2.1 3 p.toNatClampNeg = 9
        · rw [if_pos e9] at z
          exact absurd rfl z
        · exact ⟨e, l1, l2, e9⟩
      · rw [if_pos (ifz.mpr l2)] at z
        exact absurd rfl z
    · rw [if_pos (ifz.mpr l1)] at z
      exact absurd rfl z
/-- sold -/
theorem so (h : Fk15 P S1 S2) (w : Wf 3 P S2) (hP : mm_b 0 7 P) (hp : 0 ≤ p.toInt ∧ p.toInt ≤ 6) (hq : 0 ≤ q.toInt ∧ q.toInt ≤ 6) (hm : ¬ F_X10_maySell S2 p q = 0) : Sm15 P S1 S2 (F_X3_handOver_15 S1 p q) (F_X10_sells S2 p q) := by
  have hd : 15 < 16 ∧ 16 < 17 ∧ 17 < 18 ∧ 18 < 19 := by decide
  obtain ⟨m1, m2⟩ := ms h w hP hp hq
  obtain ⟨hpq, l1, l2, e9⟩ := m2 hm
  have cp := pz_cl hp.1
  have p7 : p.toNatClampNeg < 7 := by omega
  have c0 : ((0 : Int32) + p).toNatClampNeg = p.toNatClampNeg := by rw [Int32.zero_add]
  have c7 : ((7 : Int32) + p).toNatClampNeg = 7 + p.toNatClampNeg := pz_addc (by decide) ⟨hp.1, by omega⟩
  have b6 := (w.2.2 p.toNatClampNeg p7).1.resolve_left e9
  rw [F_X3_handOver_15, m1, if_neg hm, F_X10_sells, c0, (h.2.2.2 p.toNatClampNeg p7).1]
  have s1 := gv15 (v := S2.1 3 p.toNatClampNeg) h w hP l2 b6
  have e28 : (F_X10_gets3 S2 q (S2.1 3 p.toNatClampNeg)).1 3 28 = S2.1 3 28 := by
    have cq := pz_cl hq.1
    have d0 : ((0 : Int32) + q).toNatClampNeg = q.toNatClampNeg := by rw [Int32.zero_add]
    have d7 : ((7 : Int32) + q).toNatClampNeg = 7 + q.toNatClampNeg := pz_addc (by decide) ⟨hq.1, by omega⟩
    rw [F_X10_gets3, d0, d7]
    split
    · rw [up_ne (by omega), up_ne (by omega)]
    · rw [up_ne (by omega), up_ne (by omega)]
  generalize F_X3_give_15 S1 q (S2.1 3 p.toNatClampNeg) = T1 at s1 ⊢
  generalize F_X10_gets3 S2 q (S2.1 3 p.toNatClampNeg) = T2 at s1 e28 ⊢
  obtain ⟨f1, w1, g1, g2⟩ := s1
  refine Sm_tr ⟨f1, w1, g1, g2⟩ ?_
  have hb : bt (T2.1 3 28) p.toNatClampNeg := by rw [e28]; exact l1.2
  rw [F_X3_handOver_15_tc21, F_X10_sells_c17, c0, c7, (f1.2.2.2 p.toNatClampNeg p7).2.1]
  have bj := (w1.2.2 p.toNatClampNeg p7).2.1
  generalize hi : p.toNatClampNeg = i at *
  rcases jar_least (S := T1) (T := T2) bj with ⟨j0, k1, k2⟩ | ⟨j0, k1, k2⟩
  · have e : (mm_up T2 3 i 9).1 3 (7 + i) &&& -1 = (mm_up T2 3 i 9).1 3 (7 + i) := Int32.and_neg_one
    rw [k1, k2, if_pos (show (-1 : Int32) = -1 from rfl), if_pos (show (9 : Int32) = 9 from rfl), e, up_self]
    exact ⟨Fk_u hd f1 p7, Wf_u w1 p7 hb (Or.inl rfl), Gf_up Gf_rf (by decide), Gm_up Gm_rf⟩
  · have n1 : ¬ F_X10_leastOf T2 (T2.1 3 (7 + i)) = -1 := fun z => by rw [z] at k2; exact absurd k2 (by decide)
    have n9 : ¬ F_X10_leastOf T2 (T2.1 3 (7 + i)) = 9 := fun z => by rw [z] at k2; exact absurd k2 (by decide)
    have e : (mm_up T2 3 i (F_X10_leastOf T2 (T2.1 3 (7 + i)))).1 3 (7 + i) = T2.1 3 (7 + i) := up_ne (by omega)
    have e2 : (mm_up T2 3 i (F_X10_leastOf T2 (T2.1 3 (7 + i)))).1 3 28 = T2.1 3 28 := up_ne (by omega)
    rw [k1, if_neg n1, if_neg n9, e]
    exact ⟨Fk_j hd (Fk_u hd f1 p7) p7, Wf_j (Wf_u w1 p7 hb (Or.inr k2)) p7 (by rw [e2]; exact hb) (sm_and bj), Gf_up (Gf_up Gf_rf (by decide)) (by decide), Gm_up (Gm_up Gm_rf)⟩
/-- put by -/
theorem pb (h : Fk15 P S1 S2) (w : Wf 3 P S2) (hP : mm_b 0 7 P) (hp : lv (S2.1 3 28) p) (hv : mm_b 0 6 v) (hj : ¬ F_X10_isIn S2 (S2.1 3 (7 + p.toNatClampNeg)) v = 0) : (F_X3_takeOut_15 S1 p v).1 = S2.1 3 p.toNatClampNeg ∧ Sm15 P S1 S2 (F_X3_takeOut_15 S1 p v).2 (F_X10_gets3 (mm_up S2 3 (7 + p.toNatClampNeg) (S2.1 3 (7 + p.toNatClampNeg) &&& ((1 : Int32) <<< (v &&& 31) ^^^ -1))) p v) := by
  have hd : 15 < 16 ∧ 16 < 17 ∧ 17 < 18 ∧ 18 < 19 := by decide
  have cp := pz_cl hp.1.1
  have p7 : p.toNatClampNeg < 7 := by have := hp.1.2; omega
  obtain ⟨u1, u2, -, -⟩ := h.2.2.2 p.toNatClampNeg p7
  have bj := (w.2.2 p.toNatClampNeg p7).2.1
  rw [F_X3_takeOut_15, lc15 h w hP, if_pos hp, if_neg one0, u1, u2, hw (T := S2) ⟨hv.1, by omega⟩, if_neg hj, F_X3_takeOut_15_ftu48, F_X3_takeOut_15_ftu48c51]
  refine ⟨rfl, ?_⟩
  show Sm15 P S1 S2 (F_X3_give_15 _ p v) _
  have f1 := Fk_j (v := S2.1 3 (7 + p.toNatClampNeg) &&& ((1 : Int32) <<< (v &&& 31) ^^^ -1)) hd h p7
  have w1 := Wf_j (v := S2.1 3 (7 + p.toNatClampNeg) &&& ((1 : Int32) <<< (v &&& 31) ^^^ -1)) w p7 hp.2 (sm_and bj)
  have e2 : (mm_up S2 3 (7 + p.toNatClampNeg) (S2.1 3 (7 + p.toNatClampNeg) &&& ((1 : Int32) <<< (v &&& 31) ^^^ -1))).1 3 28 = S2.1 3 28 := up_ne (by omega)
  exact Sm_tr ⟨f1, w1, Gf_up Gf_rf (by decide), Gm_up Gm_rf⟩ (gv15 f1 w1 hP (by rw [e2]; exact hp) hv)
/-- a will changed -/
theorem wc {a b : Int32} (h : Fk15 P S1 S2) (w : Wf 3 P S2) (hP : mm_b 0 7 P) (hp : 0 ≤ p.toInt ∧ p.toInt < P.toInt) (ha : mm_b 0 9 a) (hb : mm_b 0 9 b) : Sm15 P S1 S2 (F_X3_changeWill_15 S1 p a b) (mm_up (mm_up S2 3 (14 + p.toNatClampNeg) a) 3 (21 + p.toNatClampNeg) b) := by
  have hd : 15 < 16 ∧ 16 < 17 ∧ 17 < 18 ∧ 18 < 19 := by decide
  have cp := pz_cl hp.1
  have p7 : p.toNatClampNeg < 7 := by omega
  rw [F_X3_changeWill_15, one_lc h hP hp, if_neg one0]
  exact ⟨Fk_2 hd (Fk_1 hd h p7) p7, Wf_h (Wf_h w ⟨by omega, by omega⟩ ha) ⟨by omega, by omega⟩ hb, Gf_up (Gf_up Gf_rf (by decide)) (by decide), Gm_up (Gm_up Gm_rf)⟩
end DE
