/-! ===== undone ===== -/
section UN
variable {P : Int32} {S S1 S2 U1 U2 : mm_S}
theorem cpy_25b {S : mm_S} {v : Int32} {k g : Nat} (hg : 25 < g) : ∀ b, b ≠ 25 → (F_X3_copy (mm_up S 25 k v) 15 g).1 b = (F_X3_copy S 15 g).1 b := by
  intro b hb
  have sw : ∀ (T : mm_S) (i : Nat) (u : Int32), mm_up (mm_up T 25 k v) 15 i u = mm_up (mm_up T 15 i u) 25 k v := fun T i u => by
    refine Prod.ext (funext fun b => funext fun l => ?_) rfl
    show (if b = 15 ∧ l = i then u else if b = 25 ∧ l = k then v else T.1 b l) = (if b = 25 ∧ l = k then v else if b = 15 ∧ l = i then u else T.1 b l)
    by_cases h1 : b = 15 ∧ l = i
    · rw [if_pos h1, if_neg (show ¬ (b = 25 ∧ l = k) by omega), if_pos h1]
    · rw [if_neg h1, if_neg h1]
  have r : ∀ T : mm_S, (mm_up T 25 k v).1 g = T.1 g := fun T => up_row (by omega)
  rw [F_X3_copy, F_X3_copy]
  simp only [r, sw]
  rw [cpy_L (by omega) (by omega), up_row hb]
/-- what undo comes to on both sides, something being there -/
theorem un_ok (hp : Pa P S1 S2) (hz : ¬ S2.1 0 5 = 0) : (F_X9_undo S1).1 = (F_X10_undo S2).1 ∧ Fk15 P (F_X9_undo S1).2 (F_X10_undo S2).2 ∧ Wf 3 P (F_X10_undo S2).2 ∧ Pa P (F_X9_undo S1).2 (F_X10_undo S2).2 ∧ ((∀ b, ¬ (15 ≤ b ∧ b ≤ 19) → b ≠ 25 → (F_X9_undo S1).2.1 b = S1.1 b) ∧ (F_X9_undo S1).2.2 = S1.2) ∧ ((∀ b, b ≠ 0 → b ≠ 3 → (F_X10_undo S2).2.1 b = S2.1 b) ∧ (∀ j, j ≠ 5 → (F_X10_undo S2).2.1 0 j = S2.1 0 j) ∧ (F_X10_undo S2).2.2 = S2.2) := by
  obtain ⟨n, x, hn, hx, hm, n20, x20, hk⟩ := hp
  have n0 : n ≠ 0 := fun q => hz (by rw [hm, q]; rfl)
  obtain ⟨m, rfl⟩ : ∃ m, n = m + 1 := ⟨n - 1, by omega⟩
  have em : nI (m + 1) - 1 = nI m := nz_sub1 (by omega)
  have zc : ¬ S1.1 25 0 = 0 := by
    rw [hn]
    exact fun q => absurd ((nz_inj (k := m + 1) (l := 0) (by omega) (by omega)).mp q) (by omega)
  -- the class
  have ec : ∃ y : Nat, y = (x + 19) % 20 ∧ F_X7_bringBack S1 = (1, mm_up (F_X3_copy (mm_up S1 25 1 (nI y)) 15 (27 + 5 * y)) 25 0 (nI m)) := by
    refine ⟨(x + 19) % 20, rfl, ?_⟩
    have ly : (x + 19) % 20 < 20 := Nat.mod_lt _ (by omega)
    rw [F_X7_bringBack, if_neg zc, hx, hn]
    have e19 : (20 : Int32) - 1 = nI 19 := by decide
    by_cases q : x = 0
    · rw [if_pos (show nI x ≤ 0 by rw [q]; decide), e19, aa26 (by omega), F_X7_bringBack_ttu58, F_X7_bringBack_ttu58c61, em, show (x + 19) % 20 = 19 by omega]
    · obtain ⟨z, rfl⟩ : ∃ z, x = z + 1 := ⟨x - 1, by omega⟩
      have ez : nI (z + 1) - 1 = nI z := nz_sub1 (by omega)
      rw [if_neg (fun y : nI (z + 1) ≤ 0 => absurd ((nz_le (k := z + 1) (l := 0) (by omega) (by omega)).mp y) (by omega)), if_pos (show nI (z + 1) ≤ 20 from (nz_le (l := 20) (by omega) (by omega)).mpr (by omega)), ez, aa26 (by omega), F_X7_bringBack_ttu58, F_X7_bringBack_ttu58c61, em, show (z + 1 + 19) % 20 = z by omega]
  obtain ⟨y, hy, ey⟩ := ec
  have ly : y < 20 := by rw [hy]; exact Nat.mod_lt _ (by omega)
  have eu : F_X9_undo S1 = (nI m, mm_up (F_X3_copy (mm_up S1 25 1 (nI y)) 15 (27 + 5 * y)) 25 0 (nI m)) := by
    rw [F_X9_undo, ey]
    show F_X9_undo_c11 1 _ = _
    rw [F_X9_undo_c11, if_neg one0, up_at]
  -- the reference
  have eM : F_X10_undo S2 = (nI m, F_X10_copies_53 (mm_up S2 0 5 (nI m)) (30 * nI m) 0 30) := by
    rw [F_X10_undo, if_neg hz, hm, em, F_X10_undo_tu38, F_X10_undo_tu38c41]
  rw [eu, eM]
  obtain ⟨⟨k1, k2⟩, -, -⟩ := cp_c (S := mm_up S1 25 1 (nI y)) (a := 15) (c := 27 + 5 * y) (by omega)
  have c1 : ∀ b, 15 ≤ b → b ≤ 19 → (mm_up (F_X3_copy (mm_up S1 25 1 (nI y)) 15 (27 + 5 * y)) 25 0 (nI m)).1 b = (F_X3_copy S1 15 (27 + 5 * y)).1 b := fun b h1 h2 => by rw [up_row (by omega), cpy_25b (by omega) b (by omega)]
  have c2 : ∀ b, ¬ (15 ≤ b ∧ b ≤ 19) → b ≠ 25 → (mm_up (F_X3_copy (mm_up S1 25 1 (nI y)) 15 (27 + 5 * y)) 25 0 (nI m)).1 b = S1.1 b := fun b h1 h2 => by rw [up_row h2, k1 b (by omega) (by omega) (by omega) (by omega) (by omega), up_row h2]
  have c3 : (mm_up (F_X3_copy (mm_up S1 25 1 (nI y)) 15 (27 + 5 * y)) 25 0 (nI m)).2 = S1.2 := by rw [up_2, k2, up_2]
  have c25 : (mm_up (F_X3_copy (mm_up S1 25 1 (nI y)) 15 (27 + 5 * y)) 25 0 (nI m)).1 25 1 = nI y := by rw [up_ne (by omega), k1 25 (by omega) (by omega) (by omega) (by omega) (by omega), up_at]
  have c20 : (mm_up (F_X3_copy (mm_up S1 25 1 (nI y)) 15 (27 + 5 * y)) 25 0 (nI m)).1 25 0 = nI m := up_at
  generalize mm_up (F_X3_copy (mm_up S1 25 1 (nI y)) 15 (27 + 5 * y)) 25 0 (nI m) = V1 at *
  have e30 : (30 * nI m : Int32).toNatClampNeg = 30 * m := nz_mul (c := 30) (by omega) (by omega)
  have d1 : ∀ b i, (F_X10_copies_53 (mm_up S2 0 5 (nI m)) (30 * nI m) 0 30).1 b i = if b = 3 ∧ i < 30 then S2.1 5 (30 * m + i) else (mm_up S2 0 5 (nI m)).1 b i := fun b i => by
    show (if b = 3 ∧ (0 : Int32).toNatClampNeg ≤ i ∧ i < (0 : Int32).toNatClampNeg + (30 : Int32).toNatClampNeg then (mm_up S2 0 5 (nI m)).1 5 ((30 * nI m : Int32).toNatClampNeg + (i - (0 : Int32).toNatClampNeg)) else (mm_up S2 0 5 (nI m)).1 b i) = _
    rw [e30, show (0 : Int32).toNatClampNeg = 0 by decide, show (30 : Int32).toNatClampNeg = 30 by decide, up_row (b := 5) (by omega)]
    by_cases q : b = 3 ∧ i < 30
    · rw [if_pos q, if_pos (by omega), show i - 0 = i by omega]
    · rw [if_neg q, if_neg (by omega)]
  have d2 : (F_X10_copies_53 (mm_up S2 0 5 (nI m)) (30 * nI m) 0 30).2 = S2.2 := by
    show (mm_up S2 0 5 (nI m)).2 = S2.2
    rw [up_2]
  generalize F_X10_copies_53 (mm_up S2 0 5 (nI m)) (30 * nI m) 0 30 = V2 at *
  have v3 : ∀ i, i < 30 → V2.1 3 i = S2.1 5 (30 * m + i) := fun i hi => by rw [d1, if_pos ⟨rfl, hi⟩]
  have vb : ∀ b, b ≠ 0 → b ≠ 3 → V2.1 b = S2.1 b := fun b h0 h3 => by
    funext i
    rw [d1, if_neg (fun z => h3 z.1), up_ne (by omega)]
  have v0 : ∀ j, j ≠ 5 → V2.1 0 j = S2.1 0 j := fun j hj => by rw [d1, if_neg (by omega), up_ne (by omega)]
  have v05 : V2.1 0 5 = nI m := by rw [d1, if_neg (by omega), up_at]
  obtain ⟨f, wf⟩ := hk m (by omega)
  rw [show (x + 20 - (m + 1) + m) % 20 = y by omega] at f
  refine ⟨rfl, FkO_out f (by omega) v3 c1, WfO_out wf v3, ⟨m, y, c20, c25, v05, by omega, by omega, fun k hk2 => ?_⟩, ⟨c2, c3⟩, vb, v0, d2⟩
  obtain ⟨f2, wf2⟩ := hk k (by omega)
  rw [show (y + 20 - m + k) % 20 = (x + 20 - (m + 1) + k) % 20 by omega]
  have lt : (x + 20 - (m + 1) + k) % 20 < 20 := Nat.mod_lt _ (by omega)
  generalize (x + 20 - (m + 1) + k) % 20 = s at *
  exact ⟨FkO_mv f2 (fun b h1 h2 => c2 b (by omega) (by omega)) (fun i hi => by rw [vb 5 (by omega) (by omega)]), WfO_mv wf2 (fun i hi => by rw [vb 5 (by omega) (by omega)])⟩
theorem un_no (hp : Pa P S1 S2) (hz : S2.1 0 5 = 0) : F_X9_undo S1 = (-1000000003, S1) ∧ F_X10_undo S2 = (-1000000003, S2) := by
  obtain ⟨n, x, hn, hx, hm, n20, x20, hk⟩ := hp
  have e : S1.1 25 0 = 0 := by rw [hn, ← hm, hz]
  constructor
  · rw [F_X9_undo, F_X7_bringBack, if_pos e]
    show F_X9_undo_c11 0 S1 = _
    rw [F_X9_undo_c11, if_pos (show (0 : Int32) = 0 from rfl)]
  · rw [F_X10_undo, if_pos hz]
end UN
