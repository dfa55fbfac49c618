/-! ===== orders: one order tried by both, and the loops ===== -/
section OLP
variable {S1 S2 S R : mm_S} {s i o u : Nat} {x1 x2 : Int32}
theorem Kn_gm (h : Kn S2) (g : Gm 4 S2 R) : Kn R := Kn_G h (g.1 1 (by omega)) (g.1 10 (by omega)) (by rw [g.1 0 (by omega)])
theorem alS : ∀ s A : Fin 128, nI s.val &&& (nI A.val ^^^ (-1 : Int32)) = 0 → ∀ q : Fin 7, bt (nI s.val) q.val → bt (nI A.val) q.val := by decide +kernel
theorem la_2 : (F_X10_layAside R).2 = R.2 := by
  rw [F_X10_layAside, F_X10_layAside_c15, F_X10_copies_34]
  rfl
theorem lk_r {k : Nat} (k1 : 1 ≤ k) (k4 : k ≤ 4) (lo : 10 ^ (k - 1) ≤ o) (hi : o < 10 ^ k) : lgk o + 1 = k ∧ 0 < o ∧ o < 10000 := by
  have p : 0 < 10 ^ (k - 1) := Nat.pow_pos (by decide)
  have h4 : 10 ^ k ≤ 10 ^ 4 := Nat.pow_le_pow_right (by decide) k4
  have e4 : (10 : Nat) ^ 4 = 10000 := by decide
  have hd : o / 10 ^ (k - 1) < 10 := Nat.div_lt_of_lt_mul (by rw [← Nat.pow_succ, show (k - 1).succ = k by omega]; exact hi)
  have := lg_un (n := o) (k := k - 1) (by omega) hd (Or.inr lo)
  omega
/-- one order, tried by both -/
theorem fs (h : RB S R) (kn : Kn R) (hM : mm_b 0 6 (R.1 0 15)) (hs : s < 128) (k1 : 1 ≤ pcN s) (k4 : pcN s ≤ 4) (hi : i < fcN (pcN s)) (ha : nI s &&& (R.1 3 28 ^^^ (-1 : Int32)) = 0) : ∃ (b : Int32) (V1 V2 : mm_S), F_X9_fitsOrder S (nI s) (nI i) = (b, V1) ∧ F_X10_isSo R (nI (onN s i)) (nI s) = (b, V2) ∧ (b = 0 ∨ b = 1) ∧ Cf S V1 ∧ Gm 4 R V2 ∧ V1.1 138 0 = nI (pcN s) ∧ ∀ j, j < pcN s → V1.1 139 j = nI ((plN (pcN s) s i).getD j 0) := by
  have hP := h.1.2.2.1.2.1.1
  obtain ⟨v, lo, hi', dg, -⟩ := on_p hs k1 k4 hi
  obtain ⟨g1, g2, g3⟩ := so_U (S := S) hs k4 hi
  obtain ⟨lk, o0, o4⟩ := lk_r k1 k4 lo hi'
  generalize onN s i = o at v lo hi' dg lk o0 o4 ⊢
  generalize hU : F_X5_setOrder S (nI s) (nI i) = U at g1 g2 g3
  have e := (is_v (R := R) hs o0 o4).resolve_right (fun z => z.1 (by rw [lk]; exact v))
  obtain ⟨A, hA⟩ := sm_nI h.2.2.1.1
  have ho : og (R.1 3 28) o 0 (lgk o + 1) := by
    rw [lk]
    refine ⟨fun j j1 j2 => ?_, v.1.2⟩
    have g := v.1.1 j j1 j2
    have ga := g.1
    have gb := g.2.1
    refine ⟨ga, gb, ?_⟩
    rw [hA] at ha ⊢
    exact alS ⟨s, hs⟩ A ha ⟨fg o j - 1, by omega⟩ g.2.2
  have hn : (nI o).toInt = o := nI_toInt (by omega)
  obtain ⟨p0, sm⟩ := tr1 h g1 hn o0 ho (by omega) (by rw [lk]; exact g2) (fun j hj => by
    rw [g3 j (by omega), lk, dg j (by omega)]
    exact congrArg nI (by omega))
  have e1 : F_X9_fitsOrder S (nI s) (nI i) = F_X9_fitsOrder_c9c20c31 (F_X9_tryLine U) := by
    rw [F_X9_fitsOrder, hU, F_X9_fitsOrder_c9, F_X9_fitsOrder_c9c20, F_X9_tryLine, F_X9_tryLine_c11, F_X9_tryLine_c11c22]
  have e2 : F_X10_isSo R (nI o) (nI s) = F_X10_isSo_L83 8 (F_X10_allDie (F_X10_layAside R) (nI o)) 1 0 := by
    rw [e.2, F_X10_isSo_L5ttc72, F_X10_isSo_L5ttc72c77]
  rw [e1, e2]
  generalize F_X9_tryLine U = V1 at sm ⊢
  generalize F_X10_allDie (F_X10_layAside R) (nI o) = V2 at sm ⊢
  obtain ⟨fk, w4, gf, gm⟩ := sm
  obtain ⟨⟨cr, c2⟩, -, -⟩ := cp_c (S := U) (a := 20) (c := 15) (by omega)
  have cV : ∀ x, x < 20 ∨ 24 < x → V1.1 x = U.1 x := fun x hx => by
    rw [gf.1 x hx]
    exact cr x (by omega) (by omega) (by omega) (by omega) (by omega)
  have cf : Cf S V1 := ⟨fun x hx => by rw [cV x (by omega)]; exact g1.1 x (by omega), by rw [gf.2, c2]; exact g1.2⟩
  have mV : ∀ x, x ≠ 4 → V2.1 x = R.1 x := fun x hx => by
    rw [gm.1 x hx]
    exact la_o hx
  have gV : Gm 4 R V2 := ⟨mV, by rw [gm.2]; exact la_2⟩
  have en : En 132 15 10 V1 V2 := by
    have z : En 132 15 10 S R := h.1.2.2.2.2.2.1
    unfold En
    rw [cf.1 132 (by omega), cf.1 (132 + 1) (by omega), cf.1 (132 + 2) (by omega), mV 0 (by omega), mV 10 (by omega)]
    exact z
  have k8 : V1.1 138 0 = nI (pcN s) := by rw [cV 138 (by omega)]; exact g2
  have k9 : ∀ j, j < pcN s → V1.1 139 j = nI ((plN (pcN s) s i).getD j 0) := by rw [cV 139 (by omega)]; exact g3
  rw [F_X9_fitsOrder_c9c20c31, F_X2_firstUnlike_132_20]
  rcases knw_L fk hP (by rw [mV 1 (by omega)]) en (Kn_gm kn gV) (by rw [mV 0 (by omega)]; exact hM) 8 0 (by omega) with ⟨a1, a2⟩ | ⟨a1, a2⟩
  · have a1' : F_X2_firstUnlike_132_20_L2 8 V1 0 = -1 := a1
    have a2' : F_X10_isSo_L83 8 V2 1 0 = (1, V2) := a2
    rw [if_pos a1', a2']
    exact ⟨1, V1, V2, rfl, rfl, Or.inr rfl, cf, gV, k8, k9⟩
  · have a1' : ¬ F_X2_firstUnlike_132_20_L2 8 V1 0 = -1 := a1
    have a2' : F_X10_isSo_L83 8 V2 1 0 = (0, V2) := a2
    rw [if_neg a1', a2']
    exact ⟨0, V1, V2, rfl, rfl, Or.inl rfl, cf, gV, k8, k9⟩
/-! the reference's loop -/
theorem sk1 {N : Nat} {m f t : Int32} (hs : s < 128) (o0 : 0 < o) (ou : o < u) (u4 : u ≤ 10000) (nv : ¬ vd s o (lgk o + 1)) : F_X10_orders_c_L86 x2 (nI s) (N + 1) R (nI u) m f t (nI o) = F_X10_orders_c_L86 x2 (nI s) N R (nI u) m f t (nI (o + 1)) := by
  have e := ((is_v (R := R) hs o0 (by omega)).resolve_left (fun z => nv z.1)).2
  have tu : (nI u).toInt = u := nI_toInt (by omega)
  have to_ : (nI o).toInt = o := nI_toInt (by omega)
  rw [F_X10_orders_c_L86, if_neg (fun q => by have := Int32.le_iff_toInt_le.mp q; omega), e, F_X10_orders_c_L86fc99, if_pos (show ((0 : Int32), R).1 = 0 from rfl), pz_of1, nI_1]
theorem sks {N : Nat} {m f t : Int32} (hs : s < 128) (u4 : u ≤ 10000) : ∀ (d o : Nat), 0 < o → o + d ≤ u → (∀ o', o ≤ o' → o' < o + d → ¬ vd s o' (lgk o' + 1)) → F_X10_orders_c_L86 x2 (nI s) (N + d) R (nI u) m f t (nI o) = F_X10_orders_c_L86 x2 (nI s) N R (nI u) m f t (nI (o + d))
  | 0, o, _, _, _ => rfl
  | d + 1, o, o0, ou, nv => by
    rw [show N + (d + 1) = N + d + 1 by omega, sk1 hs o0 (by omega) u4 (nv o (by omega) (by omega)), sks hs u4 d (o + 1) (by omega) (by omega) (fun o' a b => nv o' (by omega) (by omega)), show o + 1 + d = o + (d + 1) by omega]
/-- where the loop stands ahead of the order of index i -/
def psN (s i : Nat) : Nat := if i = 0 then 10 ^ (pcN s - 1) else onN s (i - 1) + 1
theorem ps_s : psN s (i + 1) = onN s i + 1 := by
  rw [psN, if_neg (by omega), show i + 1 - 1 = i by omega]
theorem ps_lo (hs : s < 128) (k1 : 1 ≤ pcN s) (k4 : pcN s ≤ 4) (hi : i ≤ fcN (pcN s)) : 10 ^ (pcN s - 1) ≤ psN s i ∧ psN s i ≤ 10 ^ pcN s ∧ (i < fcN (pcN s) → psN s i ≤ onN s i) := by
  have p : 10 ^ (pcN s - 1) ≤ 10 ^ pcN s := Nat.pow_le_pow_right (by decide) (by omega)
  unfold psN
  split
  · rename_i z
    subst z
    exact ⟨Nat.le_refl _, p, fun h => (on_p hs k1 k4 h).2.1⟩
  · rename_i z
    have a := on_p hs k1 k4 (i := i - 1) (by omega)
    refine ⟨by omega, by omega, fun h => ?_⟩
    have b := a.2.2.2.2 (by omega)
    rw [show i - 1 + 1 = i by omega] at b
    omega
theorem ps_gap (hs : s < 128) (k1 : 1 ≤ pcN s) (k4 : pcN s ≤ 4) (hi : i ≤ fcN (pcN s)) (h1 : psN s i ≤ o) (h2 : (i = fcN (pcN s) ∧ o < 10 ^ pcN s) ∨ (i < fcN (pcN s) ∧ o < onN s i)) : ¬ vd s o (lgk o + 1) := by
  have a := ps_lo hs k1 k4 hi
  have ou : o < 10 ^ pcN s := by
    rcases h2 with h2 | h2
    · exact h2.2
    · have := (on_p hs k1 k4 h2.1).2.2.1
      omega
  rw [(lk_r k1 k4 (by omega) ou).1]
  refine on_gap hs k1 k4 (by omega) ou i ?_ ?_
  · by_cases z : i = 0
    · exact Or.inl z
    · right
      rw [psN, if_neg z] at h1
      exact ⟨hi, by omega⟩
  · rcases h2 with h2 | h2
    · exact Or.inl h2.1
    · exact Or.inr h2
theorem u_4 (k4 : pcN s ≤ 4) : 10 ^ pcN s ≤ 10000 := (Nat.pow_le_pow_right (by decide) k4 : 10 ^ pcN s ≤ 10 ^ 4)
theorem jp {N : Nat} (hs : s < 128) (k1 : 1 ≤ pcN s) (k4 : pcN s ≤ 4) (hi : i < fcN (pcN s)) (hN : 10 ^ pcN s + 1 ≤ N + psN s i) : ∃ N', 10 ^ pcN s + 1 ≤ N' + psN s (i + 1) ∧ ∀ m f t : Int32, F_X10_orders_c_L86 x2 (nI s) N R (nI (10 ^ pcN s)) m f t (nI (psN s i)) = F_X10_orders_c_L86fc99 (F_X10_isSo R (nI (onN s i)) (nI s)).1 (F_X10_orders_c_L86 x2 (nI s) N') (F_X10_isSo R (nI (onN s i)) (nI s)).2 (nI (10 ^ pcN s)) m f t (nI (onN s i)) x2 := by
  have u4 := u_4 k4
  have a := ps_lo hs k1 k4 (Nat.le_of_lt hi)
  have p0 : 0 < 10 ^ (pcN s - 1) := Nat.pow_pos (by decide)
  have b := on_p hs k1 k4 hi
  have c := a.2.2 hi
  have b3 := b.2.2.1
  have gap : ∀ o', psN s i ≤ o' → o' < psN s i + (onN s i - psN s i) → ¬ vd s o' (lgk o' + 1) := fun o' h1 h2 => ps_gap hs k1 k4 (Nat.le_of_lt hi) h1 (Or.inr ⟨hi, by omega⟩)
  refine ⟨N - (onN s i - psN s i) - 1, by rw [ps_s]; omega, fun m f t => ?_⟩
  have e := sks (N := N - (onN s i - psN s i) - 1 + 1) (R := R) (x2 := x2) (m := m) (f := f) (t := t) hs u4 (onN s i - psN s i) (psN s i) (by omega) (by omega) gap
  rw [show N - (onN s i - psN s i) - 1 + 1 + (onN s i - psN s i) = N by omega, show psN s i + (onN s i - psN s i) = onN s i by omega] at e
  have tu : (nI (10 ^ pcN s)).toInt = ((10 ^ pcN s : Nat) : Int) := nI_toInt (by omega)
  have to_ : (nI (onN s i)).toInt = (onN s i : Int) := nI_toInt (by omega)
  rw [e, F_X10_orders_c_L86, if_neg (fun q => by have := Int32.le_iff_toInt_le.mp q; omega)]
def endA (x2 : Int32) (R : mm_S) (m f t : Int32) : Int32 := if x2 = -2 then (if F_X10_bits R f = 1 then F_X10_leastOf R f else -1) else if x2 = -1 then m else t
theorem je {N : Nat} (hs : s < 128) (k1 : 1 ≤ pcN s) (k4 : pcN s ≤ 4) (hN : 10 ^ pcN s + 1 ≤ N + psN s (fcN (pcN s))) (m f t : Int32) : (F_X10_orders_c_L86 x2 (nI s) N R (nI (10 ^ pcN s)) m f t (nI (psN s (fcN (pcN s))))).1 = endA x2 R m f t := by
  have u4 := u_4 k4
  have a := ps_lo hs k1 k4 (Nat.le_refl (fcN (pcN s)))
  have p0 : 0 < 10 ^ (pcN s - 1) := Nat.pow_pos (by decide)
  generalize hq : psN s (fcN (pcN s)) = q at a hN ⊢
  have gap : ∀ o', q ≤ o' → o' < q + (10 ^ pcN s - q) → ¬ vd s o' (lgk o' + 1) := fun o' h1 h2 => ps_gap hs k1 k4 (Nat.le_refl _) (by rw [hq]; exact h1) (Or.inl ⟨rfl, by omega⟩)
  have e := sks (N := N - (10 ^ pcN s - q) - 1 + 1) (R := R) (x2 := x2) (m := m) (f := f) (t := t) hs u4 (10 ^ pcN s - q) q (by omega) (by omega) gap
  rw [show N - (10 ^ pcN s - q) - 1 + 1 + (10 ^ pcN s - q) = N by omega, show q + (10 ^ pcN s - q) = 10 ^ pcN s by omega] at e
  rw [e, F_X10_orders_c_L86, if_pos (Int32.le_iff_toInt_le.mpr (Int.le_refl _)), endA]
  by_cases c1 : x2 = -2
  · rw [if_pos c1, if_pos c1]
    by_cases c2 : F_X10_bits R f = 1
    · rw [if_pos c2, if_pos c2]
    · rw [if_neg c2, if_neg c2]
  · rw [if_neg c1, if_neg c1]
    by_cases c2 : x2 = -1
    · rw [if_pos c2, if_pos c2]
    · rw [if_neg c2, if_neg c2]
theorem on_first (hs : s < 128) (k1 : 1 ≤ pcN s) (k4 : pcN s ≤ 4) (hi : i < fcN (pcN s)) : nI (onN s i) / (nI (10 ^ pcN s) / 10) - 1 = nI ((plN (pcN s) s i).getD 0 0) ∧ (plN (pcN s) s i).getD 0 0 < 7 := by
  have u4 := u_4 k4
  obtain ⟨v, lo, hi', dg, -⟩ := on_p hs k1 k4 hi
  have p0 : 0 < 10 ^ (pcN s - 1) := Nat.pow_pos (by decide)
  have pu : 10 ^ (pcN s - 1) ≤ 10 ^ pcN s := Nat.pow_le_pow_right (by decide) (by omega)
  have eu : 10 ^ pcN s / 10 = 10 ^ (pcN s - 1) := by
    obtain ⟨j, hj⟩ : ∃ j, pcN s = j + 1 := ⟨pcN s - 1, by omega⟩
    rw [hj, Nat.pow_succ, Nat.mul_div_cancel _ (by decide), show j + 1 - 1 = j by omega]
  have d := dg 0 (by omega)
  rw [show pcN s - 1 - 0 = pcN s - 1 by omega] at d
  have g := v.1.1 (pcN s - 1) (by omega) (by omega)
  have g2 := g.2.1
  have q : onN s i / 10 ^ (pcN s - 1) < 10 := Nat.div_lt_of_lt_mul (by rw [← Nat.pow_succ, show (pcN s - 1).succ = pcN s by omega]; exact hi')
  have e : onN s i / 10 ^ (pcN s - 1) = (plN (pcN s) s i).getD 0 0 + 1 := by
    rw [← d, fg]
    exact (Nat.mod_eq_of_lt q).symm
  rw [dg_d (by omega), eu, nd_d (by omega) p0 (by omega), e]
  exact ⟨nz_sub1 (by omega), by omega⟩
end OLP
