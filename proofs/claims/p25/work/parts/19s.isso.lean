/-! ===== orders: the reference takes a number for an order of the set, or not ===== -/
section ISO
variable {S R U1 U2 : mm_S} {s o i : Nat} {x1 P : Int32}
theorem fg_hi (h0 : 0 < o) (ho : o < 10 ^ 11) {k : Nat} (hk : lgk o < k) : fg o k = 0 := by
  have := mt (lg_ps (i := k) h0 ho).mp (by omega)
  rw [fg, Nat.eq_zero_of_not_pos this]
theorem mk_eq {M : Int32} {k : Nat} (hs : s < 128) (hM : mm_b 0 127 M) (h1 : mk M o 0 k) (h2 : mk (nI s) o 0 k) : M = nI s := by
  obtain ⟨m, rfl⟩ := sm_nI hM
  apply congrArg nI
  apply Nat.eq_of_testBit_eq
  intro q
  have hm := m.isLt
  rcases Nat.lt_or_ge q 7 with hq | hq
  · have a := h1 q hq
    have b := h2 q hq
    rw [bt_N hm hq] at a
    rw [bt_N hs hq] at b
    exact Bool.eq_iff_iff.mpr (a.trans b.symm)
  · have p : 2 ^ 7 ≤ 2 ^ q := Nat.pow_le_pow_right (by decide) hq
    rw [Nat.testBit_lt_two_pow (by omega), Nat.testBit_lt_two_pow (by omega)]
theorem is_L (hs : s < 128) (h0 : 0 < o) (ho : o < 10000) : ∀ (N i : Nat) (M : Int32), o / 10 ^ i < N → og (nI s) o 0 i → mk M o 0 i → mm_b 0 127 M → (vd s o (lgk o + 1) ∧ F_X10_isSo_L5 (nI s) x1 N R M (nI (o / 10 ^ i)) = F_X10_isSo_L5ttc72 (F_X10_layAside R) x1) ∨ (¬ vd s o (lgk o + 1) ∧ F_X10_isSo_L5 (nI s) x1 N R M (nI (o / 10 ^ i)) = (0, R))
  | 0, i, M, hN, _, _, _ => absurd hN (Nat.not_lt_zero _)
  | N + 1, i, M, hN, hg, hm, hM => by
    have ho11 : o < 10 ^ 11 := by omega
    have le : o / 10 ^ i ≤ o := Nat.div_le_self _ _
    have lg := lg_ps (i := i) h0 ho11
    have f : fg o i = o / 10 ^ i % 10 := rfl
    have nx : o / 10 ^ (i + 1) = o / 10 ^ i / 10 := by rw [Nat.pow_succ, Nat.div_div_eq_div_mul]
    have ih := fun M' => is_L hs h0 ho N (i + 1) M'
    rw [nx] at ih
    clear nx
    generalize o / 10 ^ i = m at hN le lg f ih ⊢
    have tm : (nI m).toInt = m := nI_toInt (by omega)
    rw [F_X10_isSo_L5]
    by_cases q : nI m ≤ 0
    · have q2 : (nI m).toInt ≤ 0 := Int32.le_iff_toInt_le.mp q
      have il : lgk o < i := by
        have : ¬ i ≤ lgk o := fun y => by have := lg.mpr y; omega
        omega
      have hgL : og (nI s) o 0 (lgk o + 1) := ⟨fun k h1 h2 => hg.1 k h1 (by omega), fun k l h1 h2 h3 => hg.2 k l h1 h2 (by omega)⟩
      have hmL : mk M o 0 (lgk o + 1) := fun q hq => by
        rw [hm q hq]
        constructor
        · rintro ⟨k, k1, k2, k3⟩
          refine ⟨k, k1, ?_, k3⟩
          apply Nat.lt_of_not_le
          intro y
          rw [fg_hi h0 ho11 (k := k) (by omega)] at k3
          omega
        · rintro ⟨k, k1, k2, k3⟩
          exact ⟨k, k1, by omega, k3⟩
      rw [if_pos q]
      by_cases e : M = nI s
      · rw [if_pos e]
        exact Or.inl ⟨⟨hgL, by rw [← e]; exact hmL⟩, rfl⟩
      · rw [if_neg e]
        exact Or.inr ⟨fun v => e (mk_eq hs hM hmL v.2), rfl⟩
    · have q2 : 0 < (nI m).toInt := Int32.lt_iff_toInt_lt.mp (bd_nle q)
      have il : i ≤ lgk o := lg.mp (by omega)
      have hz : ((nI m - nI m / 10 * 10) - 1).toInt = (fg o i : Int) - 1 := by rw [dg_r (by omega), f]
      have f10 : fg o i < 10 := by omega
      rw [if_neg q, dg_d (by omega)]
      rw [dg_d (by omega)] at hz
      generalize (nI m - nI (m / 10) * 10) - 1 = z at hz ⊢
      by_cases z0 : z < 0
      · have z1 : z.toInt < 0 := Int32.lt_iff_toInt_lt.mp z0
        rw [if_pos z0]
        exact Or.inr ⟨fun v => by have := (v.1.1 i (by omega) (by omega)).1; omega, rfl⟩
      · have z1 : 0 ≤ z.toInt := Int32.le_iff_toInt_le.mp (bd_nlt z0)
        have cz := pz_cl z1
        have zc : z.toNatClampNeg = fg o i - 1 := by omega
        have zn : z = nI (fg o i - 1) := Int32.toInt_inj.mp (by rw [nI_toInt (by omega)]; omega)
        rw [if_neg z0, in_bt z1, in_bt z1, zc]
        by_cases y1 : bt (nI s) (fg o i - 1)
        · have p7 : fg o i - 1 < 7 := bt_hi (A := nI s) ⟨by rw [nI_toInt (by omega)]; omega, by rw [nI_toInt (by omega)]; omega⟩ (by omega) y1
          have g : gd (nI s) (fg o i) := ⟨by omega, by omega, y1⟩
          rw [if_pos y1, if_neg one0]
          by_cases y2 : bt M (fg o i - 1)
          · rw [if_pos y2, if_neg one0]
            obtain ⟨k, k1, k2, k3⟩ := (hm _ p7).mp y2
            exact Or.inr ⟨fun v => v.1.2 k i k1 k2 (by omega) (by omega), rfl⟩
          · rw [if_neg y2, if_pos (show (0 : Int32) = 0 from rfl), zn]
            refine ih _ (by omega) (og_up hg g (fun k k1 k2 k3 => y2 ((hm _ p7).mpr ⟨k, k1, k2, by omega⟩))) (mk_up hm hM (by omega) (by omega) (by omega)) (sm_or hM ⟨by rw [nI_toInt (by omega)]; omega, by rw [nI_toInt (by omega)]; omega⟩)
        · rw [if_neg y1, if_pos (show (0 : Int32) = 0 from rfl)]
          exact Or.inr ⟨fun v => y1 (v.1.1 i (by omega) (by omega)).2.2, rfl⟩
theorem is_v (hs : s < 128) (h0 : 0 < o) (ho : o < 10000) : (vd s o (lgk o + 1) ∧ F_X10_isSo R (nI o) (nI s) = F_X10_isSo_L5ttc72 (F_X10_layAside R) (nI o)) ∨ (¬ vd s o (lgk o + 1) ∧ F_X10_isSo R (nI o) (nI s) = (0, R)) := by
  have a := is_L (R := R) (x1 := nI o) hs h0 ho 10000 0 0 (by rw [Nat.pow_zero, Nat.div_one]; exact ho) ⟨fun k k1 k2 => by omega, fun k l k1 k2 k3 => by omega⟩ (fun q hq => ⟨fun z => absurd z (bt_0 hq), fun ⟨k, k1, k2, k3⟩ => by omega⟩) (by decide)
  rw [Nat.pow_zero, Nat.div_one] at a
  rw [F_X10_isSo]
  exact a
/-! what is known, held against those who are tried -/
theorem l83_0 : ∀ (N : Nat) (k : Int32), F_X10_isSo_L83 N R 0 k = (0, R)
  | 0, k => rfl
  | N + 1, k => by
    rw [F_X10_isSo_L83, if_pos (show (0 : Int32) = 0 from rfl)]
    split
    · rfl
    · exact l83_0 N _
theorem knw_L (fk : Fk20 P U1 U2) (hP : mm_b 0 7 P) (p1 : U2.1 1 0 = P) (e : En 132 15 10 U1 U2) (kn : Kn U2) (hb : mm_b 0 6 (U2.1 0 15)) : ∀ (N k : Nat), k < 100 → (F_X2_firstUnlike_132_20_L2 N U1 (nI k) = -1 ∧ F_X10_isSo_L83 N U2 1 (nI k) = (1, U2)) ∨ (¬ F_X2_firstUnlike_132_20_L2 N U1 (nI k) = -1 ∧ F_X10_isSo_L83 N U2 1 (nI k) = (0, U2))
  | 0, k, _ => Or.inr ⟨by rw [F_X2_firstUnlike_132_20_L2]; decide, rfl⟩
  | N + 1, k, hk => by
    obtain ⟨e0, ee⟩ := e
    rw [F_X2_firstUnlike_132_20_L2, F_X10_isSo_L83, e0]
    by_cases q : U2.1 0 15 ≤ nI k
    · rw [if_pos q, if_pos q]
      exact Or.inl ⟨rfl, rfl⟩
    · have q2 := Int32.lt_iff_toInt_lt.mp (bd_nle q)
      have ek : (nI k).toInt = k := nI_toInt (by omega)
      obtain ⟨b0, b6⟩ := hb
      have ck : (nI k).toNatClampNeg = k := nI_c (by omega)
      obtain ⟨t1, t2, -⟩ := two (c := nI k) ⟨by omega, by omega⟩
      obtain ⟨d0, d1⟩ := kn k (by omega)
      obtain ⟨f0, f1⟩ := ee k (by omega)
      have g0 : U1.1 133 k = U2.1 10 (2 * k) := f0
      have g1 : U1.1 134 k = U2.1 10 (2 * k + 1) := f1
      rw [p1] at d1
      rw [if_neg q, if_neg q, if_neg one0, t1, t2, ck, g0, g1, nI_s hk, Int32.zero_add, vo20 fk hP ⟨d0, d1⟩]
      by_cases z : U2.1 4 (U2.1 10 (2 * k)).toNatClampNeg = U2.1 10 (2 * k + 1)
      · rw [if_pos z, if_pos z]
        exact knw_L fk hP p1 ⟨e0, ee⟩ kn ⟨b0, b6⟩ N (k + 1) (by omega)
      · rw [if_neg z, if_neg z, l83_0]
        exact Or.inr ⟨fun y => by rw [y] at ek; have : (-1 : Int32).toInt = -1 := rfl; omega, rfl⟩
end ISO
