/-! ===== orders: class and reference take the same ones for orders, and read the same persons ===== -/
section ORD
variable {A M : Int32} {n a b i k d : Nat}
theorem lg_ps (h0 : 0 < n) (hn : n < 10 ^ 11) : 0 < n / 10 ^ i ↔ i ≤ lgk n := by
  have p := lg_p hn
  constructor
  · intro h
    refine lg_lt p.1 (Or.inr ?_)
    apply Nat.le_of_not_lt
    intro q
    rw [Nat.div_eq_of_lt q] at h
    omega
  · intro h
    apply Nat.div_pos _ (Nat.pow_pos (by decide))
    rcases p.2 with z | z
    · have : i = 0 := by omega
      subst this
      rw [Nat.pow_zero]
      omega
    · exact Nat.le_trans (Nat.pow_le_pow_right (by decide) h) z
theorem fg_top (h0 : 0 < n) (hn : n < 10 ^ 11) : 0 < fg n (lgk n) := by
  have p := lg_p hn
  have q := (lg_ps (i := lgk n) h0 hn).mpr (Nat.le_refl _)
  unfold fg
  generalize n / 10 ^ lgk n = B at p q ⊢
  omega
/-- a figure that stands for one alive -/
def gd (A : Int32) (d : Nat) : Prop := 1 ≤ d ∧ d ≤ 7 ∧ bt A (d - 1)
/-- the figures a .. b-1 -/
def og (A : Int32) (n a b : Nat) : Prop := (∀ k, a ≤ k → k < b → gd A (fg n k)) ∧ ∀ k l, a ≤ k → k < l → l < b → fg n k ≠ fg n l
def mk (M : Int32) (n a b : Nat) : Prop := ∀ q, q < 7 → (bt M q ↔ ∃ k, a ≤ k ∧ k < b ∧ fg n k = q + 1)
theorem og_up (h : og A n a b) (g : gd A (fg n b)) (e : ∀ k, a ≤ k → k < b → fg n k ≠ fg n b) : og A n a (b + 1) := by
  refine ⟨fun k h1 h2 => ?_, fun k l h1 h2 h3 => ?_⟩
  · rcases Nat.lt_or_ge k b with q | q
    · exact h.1 k h1 q
    · rw [show k = b by omega]; exact g
  · rcases Nat.lt_or_ge l b with q | q
    · exact h.2 k l h1 h2 q
    · rw [show l = b by omega]; exact e k h1 (by omega)
theorem og_dn (h : og A n (a + 1) b) (g : gd A (fg n a)) (e : ∀ k, a + 1 ≤ k → k < b → fg n a ≠ fg n k) : og A n a b := by
  refine ⟨fun k h1 h2 => ?_, fun k l h1 h2 h3 => ?_⟩
  · rcases Nat.lt_or_ge a k with q | q
    · exact h.1 k q h2
    · rw [show k = a by omega]; exact g
  · rcases Nat.lt_or_ge a k with q | q
    · exact h.2 k l q h2 h3
    · rw [show k = a by omega]; exact e l (by omega) h3
theorem bt_or (h : mm_b 0 127 M) {p i : Nat} (hp : p < 7) (hi : i < 7) : bt (M ||| ((1 : Int32) <<< (nI p &&& 31))) i ↔ (bt M i ∨ i = p) := by
  obtain ⟨s, rfl⟩ := sm_nI h
  have := bt_orT s ⟨p, hp⟩ ⟨i, hi⟩
  rw [this]
  constructor
  · exact fun q => q.imp_right (fun z => congrArg Fin.val z)
  · exact fun q => q.imp_right (fun z => Fin.ext z)
theorem mk_up (h : mk M n a b) (hM : mm_b 0 127 M) (hab : a ≤ b) (h1 : 1 ≤ fg n b) (h7 : fg n b ≤ 7) : mk (M ||| ((1 : Int32) <<< (nI (fg n b - 1) &&& 31))) n a (b + 1) := by
  intro q hq
  rw [bt_or hM (by omega) hq, h q hq]
  constructor
  · rintro (⟨k, k1, k2, k3⟩ | z)
    · exact ⟨k, k1, by omega, k3⟩
    · exact ⟨b, hab, by omega, by omega⟩
  · rintro ⟨k, k1, k2, k3⟩
    rcases Nat.lt_or_ge k b with z | z
    · exact Or.inl ⟨k, k1, z, k3⟩
    · right
      rw [show k = b by omega] at k3
      omega
theorem mk_dn (h : mk M n (a + 1) b) (hM : mm_b 0 127 M) (hab : a < b) (h1 : 1 ≤ fg n a) (h7 : fg n a ≤ 7) : mk (M ||| ((1 : Int32) <<< (nI (fg n a - 1) &&& 31))) n a b := by
  intro q hq
  rw [bt_or hM (by omega) hq, h q hq]
  constructor
  · rintro (⟨k, k1, k2, k3⟩ | z)
    · exact ⟨k, by omega, k2, k3⟩
    · exact ⟨a, Nat.le_refl _, hab, by omega⟩
  · rintro ⟨k, k1, k2, k3⟩
    rcases Nat.lt_or_ge a k with z | z
    · exact Or.inl ⟨k, z, k2, k3⟩
    · right
      rw [show k = a by omega] at k3
      omega
/-! a figure, as both take it out of a number -/
theorem dg_d {m : Nat} (hm : m < 2147483648) : nI m / 10 = nI (m / 10) := by
  have t : (nI m).toInt = m := nI_toInt (by omega)
  have t10 : (10 : Int32).toInt = 10 := rfl
  apply Int32.toInt_inj.mp
  rw [bd_ti_div (by omega) (by decide), t, t10, nI_toInt (by omega)]
  omega
theorem dg_r {m : Nat} (hm : m < 2147483648) : ((nI m - nI m / 10 * 10) - 1).toInt = ((m % 10 : Nat) : Int) - 1 := by
  have t : (nI m).toInt = m := nI_toInt (by omega)
  have t1 : (nI m - nI m / 10 * 10).toInt = ((m % 10 : Nat) : Int) := by
    rw [bd_ti_rem (by omega), t]
    show _ % (10 : Int) = _
    omega
  rw [bd_ti_sub (by rw [t1]; show -2147483648 ≤ _ - (1 : Int); omega) (by rw [t1]; show _ - (1 : Int) ≤ 2147483647; omega), t1]
  rfl
variable {P z : Int32} {S1 S2 : mm_S}
theorem lv_gd (hz : z.toInt = (d : Int) - 1) : lv A z ↔ gd A d := by
  constructor
  · rintro ⟨⟨h1, h2⟩, h3⟩
    have c := pz_cl h1
    exact ⟨by omega, by omega, by rw [show d - 1 = z.toNatClampNeg by omega]; exact h3⟩
  · rintro ⟨h1, h2, h3⟩
    have c := pz_cl (x := z) (by omega)
    exact ⟨⟨by omega, by omega⟩, by rw [show z.toNatClampNeg = d - 1 by omega]; exact h3⟩
/-- who is alive, as the reference asks it of a figure -/
theorem ga (w : Wf 3 P S2) (hP : mm_b 0 7 P) (e1 : S2.1 1 0 = P) (hz : z.toInt = (d : Int) - 1) : (F_X10_isPerson S2 z = 0 ∧ ¬ gd (S2.1 3 28) d) ∨ (¬ F_X10_isPerson S2 z = 0 ∧ F_X10_isAlive S2 z = 0 ∧ ¬ gd (S2.1 3 28) d) ∨ (¬ F_X10_isPerson S2 z = 0 ∧ ¬ F_X10_isAlive S2 z = 0 ∧ gd (S2.1 3 28) d) := by
  by_cases q : F_X10_isPerson S2 z = 0
  · refine Or.inl ⟨q, fun g => ?_⟩
    have g2 := w.2.1 (d - 1) (by have := g.1; have := g.2.1; omega) g.2.2
    have g1 := g.1
    rw [F_X10_isPerson, e1, ← has_eq hP, if_neg (fun y : z < 0 => by have : z.toInt < 0 := Int32.lt_iff_toInt_lt.mp y; omega), if_neg (fun y : P ≤ z => by have := Int32.le_iff_toInt_le.mp y; omega)] at q
    exact one0 q
  · have q2 := q
    rw [F_X10_isPerson, e1] at q2
    have q3 := in_1 hP q2
    have q4 := alv w (q := z) ⟨q3.1, by have := hP.2; omega⟩
    right
    by_cases l : lv (S2.1 3 28) z
    · rw [if_pos l] at q4
      exact Or.inr ⟨q, by rw [q4]; exact one0, (lv_gd hz).mp l⟩
    · rw [if_neg l] at q4
      exact Or.inl ⟨q, q4, fun g => l ((lv_gd hz).mpr g)⟩
theorem lcq (h0 : S1.1 15 0 = S2.1 3 28) (h2 : S1.1 15 2 = P) (w : Wf 3 P S2) (hP : mm_b 0 7 P) : F_X3_lives_15 S1 z = if lv (S2.1 3 28) z then 1 else 0 := by
  rw [F_X3_lives_15, h0, h2]
  by_cases q0 : z < 0
  · have : z.toInt < 0 := Int32.lt_iff_toInt_lt.mp q0
    rw [if_pos q0, if_neg (fun y : lv (S2.1 3 28) z => by have := y.1.1; omega)]
  · have q1 : 0 ≤ z.toInt := Int32.le_iff_toInt_le.mp (bd_nlt q0)
    have cq := pz_cl q1
    rw [if_neg q0]
    by_cases p0 : P ≤ z
    · have p1 := Int32.le_iff_toInt_le.mp p0
      rw [if_pos p0, if_neg (fun y : lv (S2.1 3 28) z => by have := w.2.1 z.toNatClampNeg (by have := y.1.2; omega) y.2; omega)]
    · have p1 := Int32.lt_iff_toInt_lt.mp (bd_nle p0)
      rw [if_neg p0]
      have e : (S2.1 3 28 >>> (z &&& 31)) = (S2.1 3 28 >>> (nI z.toNatClampNeg &&& 31)) := by rw [← nI_cl q1]
      rcases and1 (S2.1 3 28 >>> (z &&& 31)) with y | y
      · rw [if_pos y, if_neg (fun x : lv (S2.1 3 28) z => by have y2 : (S2.1 3 28 >>> (nI z.toNatClampNeg &&& 31)) &&& 1 = 1 := x.2; rw [← e, y] at y2; exact absurd y2 (by decide))]
      · rw [if_neg (fun x => by rw [y] at x; exact absurd x (by decide)), if_pos (show lv (S2.1 3 28) z from ⟨⟨q1, by have := hP.2; omega⟩, by show (S2.1 3 28 >>> (nI z.toNatClampNeg &&& 31)) &&& 1 = 1; rw [← e]; exact y⟩)]
/-- the reference: from the last figure on -/
theorem io_L (w : Wf 3 P S2) (hP : mm_b 0 7 P) (e1 : S2.1 1 0 = P) (h0 : 0 < n) (hn : n < 2147483648) : ∀ (N i : Nat) (M : Int32), n / 10 ^ i < N → og (S2.1 3 28) n 0 i → mk M n 0 i → mm_b 0 127 M → (F_X10_isOrder_L15 N S2 M 1 (nI (n / 10 ^ i)) = 1 ∧ og (S2.1 3 28) n 0 (lgk n + 1)) ∨ (F_X10_isOrder_L15 N S2 M 1 (nI (n / 10 ^ i)) = 0 ∧ ¬ og (S2.1 3 28) n 0 (lgk n + 1))
  | 0, i, M, hN, _, _, _ => absurd hN (Nat.not_lt_zero _)
  | N + 1, i, M, hN, ho, hm, hM => by
    have hn11 : n < 10 ^ 11 := by omega
    have le : n / 10 ^ i ≤ n := Nat.div_le_self _ _
    have lg := lg_ps (i := i) h0 hn11
    have f : fg n i = n / 10 ^ i % 10 := rfl
    have nx : n / 10 ^ (i + 1) = n / 10 ^ i / 10 := by rw [Nat.pow_succ, Nat.div_div_eq_div_mul]
    have ih := fun M' => io_L w hP e1 h0 hn N (i + 1) M'
    rw [nx] at ih
    clear nx
    generalize n / 10 ^ i = m at hN le lg f ih ⊢
    have tm : (nI m).toInt = m := nI_toInt (by omega)
    rw [F_X10_isOrder_L15]
    by_cases q : nI m ≤ 0
    · have q2 : (nI m).toInt ≤ 0 := Int32.le_iff_toInt_le.mp q
      rw [if_pos q]
      refine Or.inl ⟨rfl, fun k h1 h2 => ho.1 k h1 ?_, fun k l h1 h2 h3 => ho.2 k l h1 h2 ?_⟩
      · have : ¬ i ≤ lgk n := fun y => by have := lg.mpr y; omega
        omega
      · have : ¬ i ≤ lgk n := fun y => by have := lg.mpr y; omega
        omega
    · have q2 : 0 < (nI m).toInt := Int32.lt_iff_toInt_lt.mp (bd_nle q)
      have il : i ≤ lgk n := lg.mp (by omega)
      have hz : ((nI m - nI m / 10 * 10) - 1).toInt = (fg n i : Int) - 1 := by rw [dg_r (by omega), f]
      have stop : ∀ (N : Nat) (M' : Int32) (r : Nat), F_X10_isOrder_L15 (N + 1) S2 M' 0 (nI r) = 0 := fun N M' r => by
        rw [F_X10_isOrder_L15, if_pos (show (0 : Int32) = 0 from rfl)]
        split <;> rfl
      obtain ⟨N', rfl⟩ : ∃ N', N = N' + 1 := ⟨N - 1, by omega⟩
      rw [if_neg q, if_neg one0, dg_d (by omega)]
      rw [dg_d (by omega)] at hz
      generalize (nI m - nI (m / 10) * 10) - 1 = z at hz ⊢
      rcases ga w hP e1 hz with ⟨g1, g2⟩ | ⟨g1, g2, g3⟩ | ⟨g1, g2, g3⟩
      · rw [if_pos g1, stop]
        exact Or.inr ⟨rfl, fun y => g2 (y.1 i (by omega) (by omega))⟩
      · rw [if_neg g1, if_pos g2, stop]
        exact Or.inr ⟨rfl, fun y => g3 (y.1 i (by omega) (by omega))⟩
      · rw [if_neg g1, if_neg g2]
        have g4 := g3.1
        have g5 := g3.2.1
        have zn : z = nI (fg n i - 1) := Int32.toInt_inj.mp (by rw [nI_toInt (by omega)]; omega)
        have hb : F_X10_isIn S2 M z = if bt M (fg n i - 1) then 1 else 0 := by
          rw [in_bt (by omega), zn, nI_c (by omega)]
        rw [hb]
        by_cases y : bt M (fg n i - 1)
        · rw [if_pos y, if_neg one0, stop]
          obtain ⟨k, k1, k2, k3⟩ := (hm _ (by omega)).mp y
          exact Or.inr ⟨rfl, fun x => x.2 k i k1 k2 (by omega) (by omega)⟩
        · rw [if_neg y, if_pos (show (0 : Int32) = 0 from rfl), zn]
          refine ih _ (by omega) (og_up ho g3 (fun k k1 k2 k3 => y ((hm _ (by omega)).mpr ⟨k, k1, k2, by omega⟩))) (mk_up hm hM (by omega) g4 g5) (sm_or hM ⟨by rw [nI_toInt (by omega)]; omega, by rw [nI_toInt (by omega)]; omega⟩)
end ORD
