/-! ===== the choir: how many parts can be sung, by whom; the class ===== -/
def bestF (f : Nat → Bool) (g : Nat → Nat) (t : Nat) : Nat → Nat → Nat → Nat
  | 0, _, b => b
  | n + 1, p, b => bestF f g t n (p + 1) (if (f p && !t.testBit p) = true then (if b < 1 + g (t ||| 2 ^ p) then 1 + g (t ||| 2 ^ p) else b) else b)
def mxN (fr : Nat → Nat → Bool) : Nat → Nat → Nat → Nat
  | 0, _, _ => 0
  | r + 1, k, t => bestF (fr k) (mxN fr r (k + 1)) t 7 0 (mxN fr r (k + 1) t)
/-- how many of the parts from k on, where t sing already -/
def Mk (fr : Nat → Nat → Bool) (k t : Nat) : Nat := mxN fr (6 - k) k t
def lsF (fr : Nat → Nat → Bool) (k t : Nat) : Nat → Nat → Nat
  | 0, _ => 7
  | n + 1, p => if (fr k p && !t.testBit p && decide (1 + Mk fr (k + 1) (t ||| 2 ^ p) = Mk fr k t)) = true then p else lsF fr k t n (p + 1)
/-- who sings part k, where t sing already: 7 for nobody -/
def lzN (fr : Nat → Nat → Bool) (k t : Nat) : Nat := lsF fr k t 7 0
def tkN (fr : Nat → Nat → Bool) : Nat → Nat
  | 0 => 0
  | k + 1 => if lzN fr k (tkN fr k) = 7 then tkN fr k else tkN fr k ||| 2 ^ lzN fr k (tkN fr k)
def sgN (fr : Nat → Nat → Bool) (k : Nat) : Int32 := if lzN fr k (tkN fr k) = 7 then -1 else nI (lzN fr k (tkN fr k))
section MX
variable {f : Nat → Bool} {g : Nat → Nat} {fr : Nat → Nat → Bool} {t m k : Nat}
theorem best_le (hg : ∀ t, g t ≤ m) : ∀ n p b, b ≤ m + 1 → bestF f g t n p b ≤ m + 1
  | 0, p, b, h => h
  | n + 1, p, b, h => by
    rw [bestF]
    refine best_le hg n (p + 1) _ ?_
    have := hg (t ||| 2 ^ p)
    split
    · split <;> omega
    · exact h
theorem mx_le : ∀ r k t, mxN fr r k t ≤ r
  | 0, k, t => Nat.le_refl _
  | r + 1, k, t => best_le (fun t => mx_le r (k + 1) t) 7 0 _ (Nat.le_succ_of_le (mx_le r (k + 1) t))
theorem best_ge : ∀ n p b, b ≤ bestF f g t n p b
  | 0, p, b => Nat.le_refl _
  | n + 1, p, b => by
    rw [bestF]
    refine Nat.le_trans ?_ (best_ge n (p + 1) _)
    split
    · split <;> omega
    · exact Nat.le_refl _
theorem best_ub : ∀ n p b q, p ≤ q → q < p + n → f q = true → t.testBit q = false → 1 + g (t ||| 2 ^ q) ≤ bestF f g t n p b
  | 0, p, b, q, h1, h2, _, _ => by omega
  | n + 1, p, b, q, h1, h2, h3, h4 => by
    rw [bestF]
    rcases Nat.lt_or_ge p q with z | z
    · exact best_ub n (p + 1) _ q z (by omega) h3 h4
    · have e : q = p := by omega
      subst e
      refine Nat.le_trans ?_ (best_ge n (q + 1) _)
      rw [h3, h4, if_pos (show (true && !false) = true from rfl)]
      split <;> omega
theorem best_att : ∀ n p b, bestF f g t n p b = b ∨ ∃ q, p ≤ q ∧ q < p + n ∧ f q = true ∧ t.testBit q = false ∧ bestF f g t n p b = 1 + g (t ||| 2 ^ q)
  | 0, p, b => Or.inl rfl
  | n + 1, p, b => by
    rw [bestF]
    by_cases c : (f p && !t.testBit p) = true
    · rw [if_pos c]
      have c2 : f p = true ∧ t.testBit p = false := by
        cases e1 : f p <;> cases e2 : t.testBit p <;> rw [e1, e2] at c <;> first | exact ⟨rfl, rfl⟩ | exact absurd c (by decide)
      rcases best_att n (p + 1) (if b < 1 + g (t ||| 2 ^ p) then 1 + g (t ||| 2 ^ p) else b) with z | ⟨q, q1, q2, q3, q4, q5⟩
      · by_cases l : b < 1 + g (t ||| 2 ^ p)
        · right
          rw [if_pos l] at z ⊢
          exact ⟨p, Nat.le_refl _, by omega, c2.1, c2.2, z⟩
        · left
          rw [if_neg l] at z ⊢
          exact z
      · exact Or.inr ⟨q, by omega, by omega, q3, q4, q5⟩
    · rw [if_neg c]
      rcases best_att n (p + 1) b with z | ⟨q, q1, q2, q3, q4, q5⟩
      · exact Or.inl z
      · exact Or.inr ⟨q, by omega, by omega, q3, q4, q5⟩
theorem best_no : ∀ n p b, (∀ q, p ≤ q → q < p + n → f q = false) → bestF f g t n p b = b
  | 0, p, b, _ => rfl
  | n + 1, p, b, h => by
    rw [bestF, h p (Nat.le_refl _) (by omega), Bool.false_and, if_neg (by decide)]
    exact best_no n (p + 1) b (fun q q1 q2 => h q (by omega) (by omega))
theorem mx_z {Q : Nat} (hz : ∀ k p, Q ≤ k → p < 7 → fr k p = false) : ∀ r k t, Q ≤ k → mxN fr r k t = 0
  | 0, k, t, _ => rfl
  | r + 1, k, t, hk => by
    rw [mxN, best_no 7 0 _ (fun q q1 q2 => hz k q hk (by omega))]
    exact mx_z hz r (k + 1) t (by omega)
theorem Mk_s (hk : k < 6) : Mk fr k t = bestF (fr k) (Mk fr (k + 1)) t 7 0 (Mk fr (k + 1) t) := by
  have e : 6 - k = (6 - (k + 1)) + 1 := by omega
  unfold Mk
  rw [e, mxN]
theorem Mk_6 : Mk fr 6 t = 0 := rfl
theorem Mk_le : Mk fr k t ≤ 6 := Nat.le_trans (mx_le _ _ _) (by omega)
theorem Mk_le5 (hk : k < 6) : Mk fr (k + 1) t ≤ 5 := Nat.le_trans (mx_le _ _ _) (by omega)
theorem lz_7 : ∀ n p, p + n = 7 → lsF fr k t n p ≤ 7
  | 0, p, _ => Nat.le_refl _
  | n + 1, p, h => by
    rw [lsF]
    split
    · omega
    · exact lz_7 n (p + 1) (by omega)
theorem tk_128 : ∀ k, tkN fr k < 128
  | 0 => (by decide : 0 < 128)
  | k + 1 => by
    rw [tkN]
    have l := lz_7 (fr := fr) (k := k) (t := tkN fr k) 7 0 rfl
    split
    · exact tk_128 k
    · rename_i z
      have l2 : lzN fr k (tkN fr k) < 7 := by
        have : lzN fr k (tkN fr k) ≤ 7 := l
        omega
      exact Nat.or_lt_two_pow (n := 7) (tk_128 k) (Nat.pow_lt_pow_right (by decide) l2)
end MX
/-! who suits a part -/
def frM (S2 : mm_S) (k p : Nat) : Bool := decide ((k : Int) < (S2.1 1 2).toInt ∧ (p : Int) < (S2.1 1 0).toInt ∧ mayF S2 (nI p) (nI k))
section CHO
variable {S1 S2 S R : mm_S} {fr : Nat → Nat → Bool} {k p t : Nat} {x : Int32}
theorem su (h : RB S1 S2) (v0 : Vx S2) (hk : k < 6) (hp : p < 7) : (¬ F_X3_lives_15 S1 (nI p) = 0 ∧ ¬ F_X6_suits S1 (S1.2.2 0 1) (nI k) (F_X3_voiceOf_15 S1 (nI p)) = 0) ↔ frM S2 k p = true := by
  have hP := h.1.2.2.1.2.1.1
  have w := h.2.2.1
  obtain ⟨⟨d0, d1, d2⟩, ⟨b0, b1, b2⟩, pk, pz, -, pp⟩ := h.1.2.2.1
  have tp : (nI p).toInt = p := nI_toInt (by omega)
  have tk : (nI k).toInt = k := nI_toInt (by omega)
  have cp : (nI p).toNatClampNeg = p := nI_c (by omega)
  have ck : (nI k).toNatClampNeg = k := nI_c (by omega)
  have c0 : ((0 : Int32) + nI p).toNatClampNeg = p := by rw [Int32.zero_add]; exact cp
  have c31 : ((31 : Int32) + nI k).toNatClampNeg = 31 + k := by rw [pz_addc (by decide) ⟨by omega, by omega⟩, ck]; rfl
  have ev : F_X3_voiceOf_15 S1 (nI p) = S2.1 3 p := by rw [vo h ⟨by omega, by omega⟩, cp]
  have el := lcq (z := nI p) h.2.1.1.1 h.2.1.1.2.2 w hP
  have elv : lv (S2.1 3 28) (nI p) ↔ bt (S2.1 3 28) p := by
    constructor
    · intro z
      have := z.2
      rw [cp] at this
      exact this
    · intro z
      exact ⟨⟨by omega, by omega⟩, by rw [cp]; exact z⟩
  have n0 : ¬ nI k < 0 := fun q => by
    have : (nI k).toInt < 0 := Int32.lt_iff_toInt_lt.mp q
    omega
  rw [el, ev, frM, decide_eq_true_eq, mayF, c0, c31, F_X6_suits, F_X6_hasPart, d2, if_neg n0]
  by_cases l : lv (S2.1 3 28) (nI p)
  · have pP := w.2.1 p hp (elv.mp l)
    rw [if_pos l]
    by_cases q : S2.1 1 2 ≤ nI k
    · have q2 := Int32.le_iff_toInt_le.mp q
      rw [if_pos q, if_pos (show (0 : Int32) = 0 from rfl)]
      constructor
      · exact fun z => absurd rfl z.2
      · intro z
        have z1 := z.1
        exfalso
        omega
    · have q2 := Int32.lt_iff_toInt_lt.mp (bd_nle q)
      rw [if_neg q, if_neg one0]
      rcases v0.1.1 p hp with v9 | ⟨v6, v7⟩
      · have hv0 : F_X6_hasVoice S1 (S1.2.2 0 1) (S2.1 3 p) = 0 := by
          rw [v9, F_X6_hasVoice, F_X6_rangeOf, F_X6_hasPerson, d0, if_neg (show ¬ (9 : Int32) < 0 by decide), if_pos (Int32.le_iff_toInt_le.mpr (by show (S2.1 1 0).toInt ≤ 9; have := b0.2; omega)), if_pos (show (0 : Int32) = 0 from rfl), if_pos (show (9 : Int32) = 9 from rfl)]
        rw [hv0, if_pos (show (0 : Int32) = 0 from rfl)]
        constructor
        · exact fun z => absurd rfl z.2
        · exact fun z => absurd v9 z.2.2.2.1
      · generalize hv : S2.1 3 p = v at v6 v7 ⊢
        have cv := pz_cl v6.1
        have v6b := v6.2
        have c3 : ((3 : Int32) + v).toNatClampNeg = 3 + v.toNatClampNeg := pz_addc (by decide) ⟨v6.1, by omega⟩
        have n9 : ¬ v = 9 := fun e => by
          rw [e] at v6b
          exact absurd v6b (by decide)
        have vP : v.toInt < (S2.1 1 0).toInt := by
          apply Int.lt_of_not_ge
          intro z
          exact v7 (pz v.toNatClampNeg (by omega) (by omega))
        have er : F_X6_rangeOf S1 (S1.2.2 0 1) v = S2.1 1 (3 + v.toNatClampNeg) := by
          rw [F_X6_rangeOf, F_X6_hasPerson, d0, if_neg (fun z : v < 0 => by have : v.toInt < 0 := Int32.lt_iff_toInt_lt.mp z; have := v6.1; omega), if_neg (fun z : S2.1 1 0 ≤ v => by have := Int32.le_iff_toInt_le.mp z; omega), if_neg one0]
          exact pk v.toNatClampNeg (by omega)
        have ehv : F_X6_hasVoice S1 (S1.2.2 0 1) v = 1 := by rw [F_X6_hasVoice, er, if_neg v7]
        have ep : S1.1 (S1.2.2 0 1 + 5) k = S2.1 1 (31 + k) := pp k (by omega)
        rw [ehv, if_neg one0, er, ck, ep, c3]
        generalize S2.1 1 (3 + v.toNatClampNeg) - S2.1 1 (31 + k) = dd
        have ea : (if 0 ≤ dd then dd else 0 - dd) = absF dd := by
          unfold absF
          rw [Int32.zero_sub]
        rw [ea]
        by_cases c : (1 : Int32) < absF dd
        · have c2 : (1 : Int) < (absF dd).toInt := Int32.lt_iff_toInt_lt.mp c
          rw [if_pos c]
          constructor
          · exact fun z => absurd rfl z.2
          · intro z
            have z2 : (absF dd).toInt < 2 := Int32.lt_iff_toInt_lt.mp z.2.2.2.2
            omega
        · have c2 : (absF dd).toInt ≤ 1 := Int32.le_iff_toInt_le.mp (bd_nlt c)
          rw [if_neg c]
          constructor
          · exact fun _ => ⟨by omega, pP, elv.mp l, n9, Int32.lt_iff_toInt_lt.mpr (by show (absF dd).toInt < 2; omega)⟩
          · exact fun _ => ⟨one0, one0⟩
  · rw [if_neg l]
    constructor
    · exact fun z => absurd rfl z.1
    · exact fun z => absurd (elv.mpr z.2.2.1) l
/-! the class's tables -/
theorem setL_tb {β : Nat → Bool} : ∀ (n y s p : Nat), (setL β n y s).testBit p = (s.testBit p || (decide (y ≤ p ∧ p < y + n) && β p))
  | 0, y, s, p => by
    rw [setL, decide_eq_false (by omega)]
    cases s.testBit p <;> rfl
  | n + 1, y, s, p => by
    rw [setL, setL_tb n (y + 1) _ p]
    by_cases e : y = p
    · subst e
      rw [decide_eq_false (by omega), decide_eq_true (show y ≤ y ∧ y < y + (n + 1) by omega)]
      cases b : β y with
      | true =>
        rw [if_pos rfl, Nat.testBit_or, Nat.testBit_two_pow, decide_eq_true rfl]
        cases s.testBit y <;> rfl
      | false =>
        rw [if_neg (by decide)]
        cases s.testBit y <;> rfl
    · have dd : decide (y + 1 ≤ p ∧ p < y + 1 + n) = decide (y ≤ p ∧ p < y + (n + 1)) := by
        by_cases c : y ≤ p ∧ p < y + (n + 1)
        · rw [decide_eq_true c, decide_eq_true (by omega)]
        · rw [decide_eq_false c, decide_eq_false (by omega)]
      rw [dd]
      cases b : β y with
      | true =>
        rw [if_pos rfl, Nat.testBit_or, Nat.testBit_two_pow, decide_eq_false (show ¬ y = p from e)]
        cases s.testBit p <;> rfl
      | false =>
        rw [if_neg (by decide)]
theorem sf_L (h : RB S1 S2) (v0 : Vx S2) (hk : k < 6) : ∀ (N y s : Nat), s < 128 → y ≤ 7 → 7 - y < N → F_X0_suitedFor_L5 (S1.2.2 0 1) (nI k) N S1 (nI s) (nI y) = nI (setL (frM S2 k) (7 - y) y s)
  | 0, y, s, _, _, hN => absurd hN (Nat.not_lt_zero _)
  | N + 1, y, s, hs, hy, hN => by
    have ty : (nI y).toInt = y := nI_toInt (by omega)
    rw [F_X0_suitedFor_L5]
    by_cases z : (7 : Int32) ≤ nI y
    · have z2 : (7 : Int) ≤ (nI y).toInt := Int32.le_iff_toInt_le.mp z
      rw [if_pos z, show 7 - y = 0 by omega]
      rfl
    · have z2 : (nI y).toInt < 7 := Int32.lt_iff_toInt_lt.mp (bd_nle z)
      obtain ⟨d, hd⟩ : ∃ d, 7 - y = d + 1 := ⟨7 - y - 1, by omega⟩
      have ih := fun s' hs' => sf_L h v0 hk N (y + 1) s' hs' (by omega) (by omega)
      rw [show 7 - (y + 1) = d by omega] at ih
      have u := su (k := k) (p := y) h v0 hk (by omega)
      rw [if_neg z, hd, setL, nI_s (by omega), nI_orT ⟨s, hs⟩ ⟨y, by omega⟩]
      by_cases a : F_X3_lives_15 S1 (nI y) = 0
      · have e : frM S2 k y = false := Bool.eq_false_iff.mpr (fun q => (u.mpr q).1 a)
        rw [if_pos a, e, if_neg (by decide)]
        exact ih s hs
      · rw [if_neg a]
        by_cases b : F_X6_suits S1 (S1.2.2 0 1) (nI k) (F_X3_voiceOf_15 S1 (nI y)) = 0
        · have e : frM S2 k y = false := Bool.eq_false_iff.mpr (fun q => (u.mpr q).2 b)
          rw [if_pos b, e, if_neg (by decide)]
          exact ih s hs
        · have e : frM S2 k y = true := u.mp ⟨a, b⟩
          rw [if_neg b, e, if_pos rfl]
          exact ih _ (Nat.or_lt_two_pow (n := 7) hs (Nat.pow_lt_pow_right (by decide) (by omega)))
def Ch (fr : Nat → Nat → Bool) (S : mm_S) (k : Nat) : Prop := (∀ j, k ≤ j → j < 6 → ∃ s, s < 128 ∧ S.1 142 j = nI s ∧ ∀ p, p < 7 → (s.testBit p = true ↔ fr j p = true)) ∧ ∀ j, k ≤ j → j ≤ 6 → ∀ t, t < 128 → S.1 (144 + j) t = nI (Mk fr j t)
theorem aaT : ∀ j : Fin 7, aaC_143 (nI j.val) = 144 + j.val := by decide +kernel
theorem sg_f {j : Nat} (hj : j ≤ 6) (ht : t < 128) (c : ∀ t, t < 128 → S.1 (144 + j) t = nI (Mk fr j t)) : F_X0_sungFrom S (nI j) (nI t) = nI (Mk fr j t) := by
  have tj : (nI j).toInt = j := nI_toInt (by omega)
  have tt : (nI t).toInt = t := nI_toInt (by omega)
  have aa := aaT ⟨j, by omega⟩
  dsimp only at aa
  rw [F_X0_sungFrom, if_neg (fun q => by have : (nI j).toInt < 0 := Int32.lt_iff_toInt_lt.mp q; omega), if_neg (fun q => by have : (6 : Int) < (nI j).toInt := Int32.lt_iff_toInt_lt.mp q; omega), if_neg (fun q => by have : (nI t).toInt < 0 := Int32.lt_iff_toInt_lt.mp q; omega), if_neg (fun q => by have : (128 : Int) ≤ (nI t).toInt := Int32.le_iff_toInt_le.mp q; omega), aa, nI_clamp (by omega)]
  exact c t ht
theorem in_tb {s : Nat} (hs : s < 128) (hp : p < 7) : F_X9_isIn S (nI s) (nI p) = if s.testBit p = true then 1 else 0 := by
  have tp : (nI p).toInt = p := nI_toInt (by omega)
  rw [hw (T := S) ⟨by omega, by omega⟩, in_bt (by omega), nI_c (by omega)]
  by_cases z : s.testBit p = true
  · rw [if_pos z, if_pos ((bt_N hs hp).mpr z)]
  · rw [if_neg z, if_neg (fun y => z ((bt_N hs hp).mp y))]
theorem fr_f {s : Nat} (hk : k < 6) (hp : p < 7) (ht : t < 128) (hs : s < 128) (e : S.1 142 k = nI s) (hb : ∀ p, p < 7 → (s.testBit p = true ↔ fr k p = true)) : F_X0_isFree S (nI k) (nI p) (nI t) = if (fr k p && !t.testBit p) = true then 1 else 0 := by
  have tk : (nI k).toInt = k := nI_toInt (by omega)
  rw [F_X0_isFree, if_neg (fun q => by have : (nI k).toInt < 0 := Int32.lt_iff_toInt_lt.mp q; omega), if_neg (fun q => by have : (6 : Int) ≤ (nI k).toInt := Int32.le_iff_toInt_le.mp q; omega), nI_c (by omega), e, in_tb hs hp, in_tb ht hp]
  have hb1 := hb p hp
  by_cases a : fr k p = true
  · rw [if_pos (hb1.mpr a), if_neg one0, a]
    cases t.testBit p <;> rfl
  · rw [if_neg (fun z => a (hb1.mp z)), if_pos (show (0 : Int32) = 0 from rfl), Bool.eq_false_iff.mpr a]
    rfl
theorem mf_L (hk : k < 6) (ht : t < 128) (c : Ch fr S (k + 1)) {s : Nat} (hs : s < 128) (e : S.1 142 k = nI s) (hb : ∀ p, p < 7 → (s.testBit p = true ↔ fr k p = true)) : ∀ (n N p b : Nat), p + n = 7 → n < N → b ≤ 6 → F_X0_mostFrom_L12 (nI k) (nI t) N S (nI b) (nI p) = nI (bestF (fr k) (Mk fr (k + 1)) t n p b)
  | 0, N, p, b, hp, hN, hb6 => by
    obtain ⟨N', rfl⟩ : ∃ N', N = N' + 1 := ⟨N - 1, by omega⟩
    rw [show p = 7 by omega, F_X0_mostFrom_L12, if_pos (show (7 : Int32) ≤ nI 7 by decide)]
    rfl
  | n + 1, N, p, b, hp, hN, hb6 => by
    obtain ⟨N', rfl⟩ : ∃ N', N = N' + 1 := ⟨N - 1, by omega⟩
    have p7 : p < 7 := by omega
    have tlt : t ||| 2 ^ p < 128 := Nat.or_lt_two_pow (n := 7) ht (Nat.pow_lt_pow_right (by decide) p7)
    have m5 := Mk_le5 (fr := fr) (t := t ||| 2 ^ p) hk
    have no := nI_orT ⟨t, ht⟩ ⟨p, p7⟩
    dsimp only at no
    have g := sg_f (S := S) (fr := fr) (j := k + 1) (by omega) tlt (c.2 (k + 1) (Nat.le_refl _) (by omega))
    have n7 : ¬ (7 : Int32) ≤ nI p := fun q => by
      have q2 := (nz_le (k := 7) (by omega) (by omega)).mp q
      omega
    rw [F_X0_mostFrom_L12, if_neg n7, fr_f hk p7 ht hs e hb, nI_1, no, g, show (1 : Int32) = nI 1 from rfl, nI_add, nI_s (by omega), bestF]
    by_cases a : (fr k p && !t.testBit p) = true
    · rw [if_pos a, if_neg (show ¬ nI 1 = 0 by decide), if_pos a]
      by_cases l : b < 1 + Mk fr (k + 1) (t ||| 2 ^ p)
      · rw [if_pos ((nz_lt (by omega) (by omega)).mpr l), if_pos l]
        exact mf_L hk ht c hs e hb n N' (p + 1) _ (by omega) (by omega) (by omega)
      · rw [if_neg (fun q => l ((nz_lt (by omega) (by omega)).mp q)), if_neg l]
        exact mf_L hk ht c hs e hb n N' (p + 1) b (by omega) (by omega) hb6
    · rw [if_neg a, if_pos (show (0 : Int32) = 0 from rfl), if_neg a]
      exact mf_L hk ht c hs e hb n N' (p + 1) b (by omega) (by omega) hb6
theorem mf (hk : k < 6) (ht : t < 128) (c : Ch fr S (k + 1)) {s : Nat} (hs : s < 128) (e : S.1 142 k = nI s) (hb : ∀ p, p < 7 → (s.testBit p = true ↔ fr k p = true)) : F_X0_mostFrom S (nI k) (nI t) = nI (Mk fr k t) := by
  have g := sg_f (S := S) (fr := fr) (j := k + 1) (by omega) ht (c.2 (k + 1) (Nat.le_refl _) (by omega))
  rw [F_X0_mostFrom, nI_1, g, Mk_s hk]
  exact mf_L hk ht c hs e hb 7 9 0 _ rfl (by omega) Mk_le
/-- one row of the table -/
theorem rw_L {K : mm_S → Int32 → mm_S} (hk : k < 6) : ∀ (n N t : Nat) (S : mm_S) (s : Nat), t + n = 128 → n < N → Ch fr S (k + 1) → s < 128 → S.1 142 k = nI s → (∀ p, p < 7 → (s.testBit p = true ↔ fr k p = true)) → ∃ R, F_X0_give_L21 K N S (nI k) (nI t) = K R (nI k + Int32.ofInt (-1)) ∧ (∀ x, x ≠ 144 + k → R.1 x = S.1 x) ∧ R.2 = S.2 ∧ (∀ u, u < t → R.1 (144 + k) u = S.1 (144 + k) u) ∧ ∀ u, t ≤ u → u < 128 → R.1 (144 + k) u = nI (Mk fr k u)
  | 0, N, t, S, s, ht, hN, c, hs, e, hb => by
    obtain ⟨N', rfl⟩ : ∃ N', N = N' + 1 := ⟨N - 1, by omega⟩
    rw [show t = 128 by omega, F_X0_give_L21, if_pos (show (128 : Int32) ≤ nI 128 by decide)]
    exact ⟨S, rfl, fun _ _ => rfl, rfl, fun _ _ => rfl, fun u h1 h2 => by omega⟩
  | n + 1, N, t, S, s, ht, hN, c, hs, e, hb => by
    obtain ⟨N', rfl⟩ : ∃ N', N = N' + 1 := ⟨N - 1, by omega⟩
    have n8 : ¬ (128 : Int32) ≤ nI t := fun q => by
      have q2 := (nz_le (k := 128) (by omega) (by omega)).mp q
      omega
    have aa := aaT ⟨k, by omega⟩
    dsimp only at aa
    rw [F_X0_give_L21, if_neg n8, mf hk (by omega) c hs e hb, aa, nI_clamp (by omega), pz_of1, nI_1]
    have c' : Ch fr (mm_up S (144 + k) t (nI (Mk fr k t))) (k + 1) := by
      refine ⟨fun j j1 j2 => ?_, fun j j1 j2 u hu => ?_⟩
      · rw [up_row (by omega)]
        exact c.1 j j1 j2
      · rw [up_ne (by omega)]
        exact c.2 j j1 j2 u hu
    obtain ⟨R, r1, r2, r3, r4, r5⟩ := rw_L hk n N' (t + 1) (mm_up S (144 + k) t (nI (Mk fr k t))) s (by omega) (by omega) c' hs (by rw [up_row (by omega)]; exact e) hb
    refine ⟨R, r1, fun x hx => by rw [r2 x hx, up_row hx], by rw [r3, up_2], fun u hu => by rw [r4 u (by omega), up_ne (by omega)], fun u h1 h2 => ?_⟩
    rcases Nat.lt_or_ge t u with z | z
    · exact r5 u z h2
    · rw [show u = t by omega, r4 t (by omega), up_at]
def Cg (S1 S : mm_S) : Prop := (∀ x, x < 141 ∨ 149 < x → S.1 x = S1.1 x) ∧ S.2 = S1.2
theorem LB1_g : ∀ b ∈ LB1, b < 141 ∨ 149 < b := by decide +kernel
theorem RB_cg (h : RB S1 S2) (hJ : JC S1) (c : Cg S1 S) : RB S S2 :=
  RB_G h hJ (fun b hb => c.1 b (LB1_g b hb)) c.2 (fun _ _ => rfl) (fun _ _ => rfl) rfl
theorem gt_L (h : RB S1 S2) (hJ : JC S1) (v0 : Vx S2) : ∀ (n N : Nat) (S : mm_S), n ≤ 6 → n < N → Cg S1 S → Ch (frM S2) S n → ∃ R, F_X0_give_L2 (S1.2.2 0 1) N S (nI n - 1) = F_X0_give_L62 8 R 0 0 ∧ Cg S1 R ∧ Ch (frM S2) R 0
  | 0, N, S, _, hN, cg, c => by
    obtain ⟨N', rfl⟩ : ∃ N', N = N' + 1 := ⟨N - 1, by omega⟩
    rw [F_X0_give_L2, if_pos (show nI 0 - 1 < 0 by decide)]
    exact ⟨S, rfl, cg, c⟩
  | n + 1, N, S, hn, hN, cg, c => by
    obtain ⟨N', rfl⟩ : ∃ N', N = N' + 1 := ⟨N - 1, by omega⟩
    have tn : (nI n).toInt = n := nI_toInt (by omega)
    have n0 : ¬ nI n < 0 := fun q => by
      have : (nI n).toInt < 0 := Int32.lt_iff_toInt_lt.mp q
      omega
    have hS := RB_cg h hJ cg
    have e2 : S.2.2 0 1 = S1.2.2 0 1 := by rw [cg.2]
    have sf := sf_L (k := n) hS v0 (by omega) 9 0 0 (by omega) (by omega) (by omega)
    rw [e2] at sf
    have sf2 : F_X0_suitedFor S (nI n) (S1.2.2 0 1) = nI (setL (frM S2 n) 7 0 0) := sf
    have s128 : setL (frM S2 n) 7 0 0 < 128 := setL_lt 7 0 0 (by omega) (by omega)
    have stb : ∀ p, p < 7 → ((setL (frM S2 n) 7 0 0).testBit p = true ↔ frM S2 n p = true) := fun p hp => by
      rw [setL_tb, Nat.zero_testBit, Bool.false_or, decide_eq_true (show 0 ≤ p ∧ p < 0 + 7 by omega), Bool.true_and]
    rw [nz_sub1 (by omega), F_X0_give_L2, if_neg n0, sf2, nI_c (by omega)]
    generalize setL (frM S2 n) 7 0 0 = s at s128 stb ⊢
    have c' : Ch (frM S2) (mm_up S 142 n (nI s)) (n + 1) := by
      refine ⟨fun j j1 j2 => ?_, fun j j1 j2 u hu => ?_⟩
      · rw [up_ne (by omega)]
        exact c.1 j j1 j2
      · rw [up_row (by omega)]
        exact c.2 j j1 j2 u hu
    obtain ⟨R, r1, r2, r3, r4, r5⟩ := rw_L (K := F_X0_give_L2 (S1.2.2 0 1) N') (fr := frM S2) (k := n) (by omega) 128 130 0 (mm_up S 142 n (nI s)) s (by omega) (by omega) c' s128 up_at stb
    have r1' : F_X0_give_L21 (F_X0_give_L2 (S1.2.2 0 1) N') 130 (mm_up S 142 n (nI s)) (nI n) 0 = F_X0_give_L2 (S1.2.2 0 1) N' R (nI n - 1) := by
      have : F_X0_give_L21 (F_X0_give_L2 (S1.2.2 0 1) N') 130 (mm_up S 142 n (nI s)) (nI n) (nI 0) = _ := r1
      rw [show Int32.ofInt (-1) = -1 by decide, ← Int32.sub_eq_add_neg] at this
      exact this
    rw [r1']
    refine gt_L h hJ v0 n N' R (by omega) (by omega) ⟨fun x hx => ?_, by rw [r3, up_2]; exact cg.2⟩ ⟨fun j j1 j2 => ?_, fun j j1 j2 u hu => ?_⟩
    · rw [r2 x (by omega), up_row (by omega)]
      exact cg.1 x hx
    · rw [r2 142 (by omega)]
      rcases Nat.lt_or_ge n j with z | z
      · rw [up_ne (by omega)]
        exact c.1 j z j2
      · rw [show j = n by omega]
        exact ⟨s, s128, up_at, stb⟩
    · rcases Nat.lt_or_ge n j with z | z
      · rw [r2 (144 + j) (by omega), up_row (by omega)]
        exact c.2 j z j2 u hu
      · rw [show j = n by omega]
        exact r5 u (by omega) hu
/-- who sings -/
theorem lr_L (hk : k < 6) (ht : t < 128) (c : Ch fr S 0) : ∀ (n N p : Nat), p + n = 7 → n < N → F_X0_leastSinger_L2 (nI k) (nI t) N S (nI p) = if lsF fr k t n p = 7 then -1 else nI (lsF fr k t n p)
  | 0, N, p, hp, hN => by
    obtain ⟨N', rfl⟩ : ∃ N', N = N' + 1 := ⟨N - 1, by omega⟩
    rw [show p = 7 by omega, F_X0_leastSinger_L2, if_pos (show (7 : Int32) ≤ nI 7 by decide)]
    rfl
  | n + 1, N, p, hp, hN => by
    obtain ⟨N', rfl⟩ : ∃ N', N = N' + 1 := ⟨N - 1, by omega⟩
    have p7 : p < 7 := by omega
    have tlt : t ||| 2 ^ p < 128 := Nat.or_lt_two_pow (n := 7) ht (Nat.pow_lt_pow_right (by decide) p7)
    have m5 := Mk_le5 (fr := fr) (t := t ||| 2 ^ p) hk
    have m6 := Mk_le (fr := fr) (k := k) (t := t)
    have no := nI_orT ⟨t, ht⟩ ⟨p, p7⟩
    dsimp only at no
    have g := sg_f (S := S) (fr := fr) (j := k + 1) (by omega) tlt (c.2 (k + 1) (by omega) (by omega))
    have g0 := sg_f (S := S) (fr := fr) (j := k) (by omega) ht (c.2 k (by omega) (by omega))
    obtain ⟨s, hs, e, hb⟩ := c.1 k (by omega) hk
    have n7 : ¬ (7 : Int32) ≤ nI p := fun q => by
      have q2 := (nz_le (k := 7) (by omega) (by omega)).mp q
      omega
    have ih := lr_L hk ht c n N' (p + 1) (by omega) (by omega)
    rw [F_X0_leastSinger_L2, if_neg n7, fr_f hk p7 ht hs e hb, nI_1, no, g, g0, show (1 : Int32) = nI 1 from rfl, nI_add, nI_s (by omega), lsF]
    by_cases a : (fr k p && !t.testBit p) = true
    · rw [if_pos a, if_neg (show ¬ nI 1 = 0 by decide), a, Bool.true_and]
      by_cases l : 1 + Mk fr (k + 1) (t ||| 2 ^ p) = Mk fr k t
      · rw [if_pos ((nz_inj (by omega) (by omega)).mpr l), decide_eq_true l, if_pos rfl, if_neg (by omega)]
      · rw [if_neg (fun q => l ((nz_inj (by omega) (by omega)).mp q)), decide_eq_false l, if_neg (show ¬ (false = true) by decide)]
        exact ih
    · rw [if_neg a, if_pos (show (0 : Int32) = 0 from rfl), Bool.eq_false_iff.mpr a, Bool.false_and, if_neg (show ¬ (false = true) by decide)]
      exact ih
theorem si_L6 : ∀ (n N k : Nat) (S : mm_S), k + n = 6 → n < N → Ch fr S 0 → ∃ R, F_X0_give_L62 N S (nI (tkN fr k)) (nI k) = R ∧ (∀ x, x ≠ 141 → R.1 x = S.1 x) ∧ R.2 = S.2 ∧ (∀ j, j < k → R.1 141 j = S.1 141 j) ∧ ∀ j, k ≤ j → j < 6 → R.1 141 j = sgN fr j
  | 0, N, k, S, hk, hN, c => by
    obtain ⟨N', rfl⟩ : ∃ N', N = N' + 1 := ⟨N - 1, by omega⟩
    rw [show k = 6 by omega, F_X0_give_L62, if_pos (show (6 : Int32) ≤ nI 6 by decide)]
    exact ⟨S, rfl, fun _ _ => rfl, rfl, fun _ _ => rfl, fun j h1 h2 => by omega⟩
  | n + 1, N, k, S, hk, hN, c => by
    obtain ⟨N', rfl⟩ : ∃ N', N = N' + 1 := ⟨N - 1, by omega⟩
    have t128 := tk_128 (fr := fr) k
    have n6 : ¬ (6 : Int32) ≤ nI k := fun q => by
      have q2 := (nz_le (k := 6) (by omega) (by omega)).mp q
      omega
    have ls : F_X0_leastSinger S (nI k) (nI (tkN fr k)) = sgN fr k := lr_L (k := k) (t := tkN fr k) (by omega) t128 c 7 9 0 rfl (by omega)
    have l7 : lzN fr k (tkN fr k) ≤ 7 := lz_7 7 0 rfl
    have go : ∀ w : Nat, w = tkN fr (k + 1) → ∃ R, F_X0_give_L62 N' (mm_up S 141 k (sgN fr k)) (nI w) (nI (k + 1)) = R ∧ (∀ x, x ≠ 141 → R.1 x = S.1 x) ∧ R.2 = S.2 ∧ (∀ j, j < k → R.1 141 j = S.1 141 j) ∧ ∀ j, k ≤ j → j < 6 → R.1 141 j = sgN fr j := fun w ew => by
      have c' : Ch fr (mm_up S 141 k (sgN fr k)) 0 := by
        refine ⟨fun j j1 j2 => ?_, fun j j1 j2 u hu => ?_⟩
        · rw [up_row (by omega)]
          exact c.1 j j1 j2
        · rw [up_row (by omega)]
          exact c.2 j j1 j2 u hu
      obtain ⟨R, r1, r2, r3, r4, r5⟩ := si_L6 n N' (k + 1) (mm_up S 141 k (sgN fr k)) (by omega) (by omega) c'
      rw [ew]
      refine ⟨R, r1, fun x hx => by rw [r2 x hx, up_row hx], by rw [r3, up_2], fun j hj => by rw [r4 j (by omega), up_ne (by omega)], fun j h1 h2 => ?_⟩
      rcases Nat.lt_or_ge k j with z | z
      · exact r5 j z h2
      · rw [show j = k by omega, r4 k (by omega), up_at]
    rw [F_X0_give_L62, if_neg n6, ls, nI_c (by omega), nI_s (by omega)]
    by_cases z : lzN fr k (tkN fr k) = 7
    · have e : sgN fr k = -1 := by rw [sgN, if_pos z]
      have g := go (tkN fr k) (by rw [tkN, if_pos z])
      rw [if_pos e]
      exact g
    · have e : sgN fr k = nI (lzN fr k (tkN fr k)) := by rw [sgN, if_neg z]
      have tl : (nI (lzN fr k (tkN fr k))).toInt = lzN fr k (tkN fr k) := nI_toInt (by omega)
      have ne : ¬ sgN fr k = -1 := fun q => by
        rw [e] at q
        rw [q] at tl
        have : (-1 : Int32).toInt = -1 := rfl
        omega
      have g := go (tkN fr k ||| 2 ^ lzN fr k (tkN fr k)) (by rw [tkN, if_neg z])
      have no := nI_orT ⟨tkN fr k, t128⟩ ⟨lzN fr k (tkN fr k), by omega⟩
      dsimp only at no
      rw [if_neg ne]
      have e2 : nI (tkN fr k) ||| (1 : Int32) <<< (sgN fr k &&& 31) = nI (tkN fr k ||| 2 ^ lzN fr k (tkN fr k)) := by rw [e]; exact no
      rw [e2]
      exact g
/-- what sing answers -/
def singF (S2 : mm_S) (x : Int32) : Int32 := if x = -1 then nI (Mk (frM S2) 0 0) else if 0 ≤ x.toInt ∧ x.toInt < (S2.1 1 2).toInt then sgN (frM S2) x.toNatClampNeg else -1000000001
def Zc (S1 : mm_S) : Prop := ∀ t, t < 128 → S1.1 150 t = 0
theorem an_sing (h : RB S1 S2) (hJ : JC S1) (v0 : Vx S2) (z : Zc S1) : (F_X9_sing S1 x).1 = singF S2 x ∧ Zc (F_X9_sing S1 x).2 := by
  have b2 := h.1.2.2.1.2.1.2.2
  have d2 : S1.1 (S1.2.2 0 1) 2 = S2.1 1 2 := h.1.2.2.1.1.2.2
  have c6 : Ch (frM S2) S1 6 := ⟨fun j j1 j2 => by omega, fun j j1 j2 t ht => by rw [show j = 6 by omega, Mk_6]; exact z t ht⟩
  obtain ⟨R, r1, r2, r3⟩ := gt_L h hJ v0 6 7 S1 (by omega) (by omega) ⟨fun _ _ => rfl, rfl⟩ c6
  obtain ⟨T, t1, t2, t3, -, t5⟩ := si_L6 (fr := frM S2) 6 8 0 R rfl (by omega) r3
  have e5 : nI 6 - 1 = 5 := by decide
  have eg : F_X0_give S1 (S1.2.2 0 1) = T := by
    rw [F_X0_give, ← e5, r1]
    exact t1
  have zT : Zc T := fun t ht => by
    rw [t2 150 (by omega), r2.1 150 (by omega)]
    exact z t ht
  have mT : ∀ t, t < 128 → T.1 (144 + 0) t = nI (Mk (frM S2) 0 t) := fun t ht => by
    rw [t2 (144 + 0) (by omega)]
    exact r3.2 0 (by omega) (by omega) t ht
  rw [F_X9_sing, singF, eg, F_X9_sing_tc34, F_X9_sing_ftc34]
  by_cases q : x = -1
  · rw [if_pos q, if_pos q]
    refine ⟨?_, zT⟩
    show F_X0_sung T = _
    rw [F_X0_sung]
    exact sg_f (j := 0) (t := 0) (by omega) (by omega) mT
  · rw [if_neg q, if_neg q, F_X6_hasPart, d2]
    by_cases q1 : x < 0
    · have q2 : x.toInt < 0 := Int32.lt_iff_toInt_lt.mp q1
      rw [if_pos q1, if_pos (show (0 : Int32) = 0 from rfl), if_neg (fun w : 0 ≤ x.toInt ∧ x.toInt < (S2.1 1 2).toInt => by omega)]
      exact ⟨rfl, z⟩
    · have q2 : 0 ≤ x.toInt := Int32.le_iff_toInt_le.mp (bd_nlt q1)
      have cx := pz_cl q2
      rw [if_neg q1]
      by_cases q3 : S2.1 1 2 ≤ x
      · have q4 := Int32.le_iff_toInt_le.mp q3
        rw [if_pos q3, if_pos (show (0 : Int32) = 0 from rfl), if_neg (fun w : 0 ≤ x.toInt ∧ x.toInt < (S2.1 1 2).toInt => by omega)]
        exact ⟨rfl, z⟩
      · have q4 := Int32.lt_iff_toInt_lt.mp (bd_nle q3)
        have b6 := b2.2
        rw [if_neg q3, if_neg one0, if_pos (show 0 ≤ x.toInt ∧ x.toInt < (S2.1 1 2).toInt from ⟨q2, q4⟩)]
        refine ⟨?_, zT⟩
        show F_X0_singerOf T x = _
        rw [F_X0_singerOf, if_neg q1, if_neg (fun w : (6 : Int32) ≤ x => by have : (6 : Int) ≤ x.toInt := Int32.le_iff_toInt_le.mp w; omega)]
        exact t5 x.toNatClampNeg (by omega) (by omega)
end CHO
theorem Zc_eq {S U : mm_S} (h : Zc S) (e : S = U) : Zc U := e ▸ h
theorem fr_Zc {S U : mm_S} {wr wf : List Nat} {k m : Bool} (h : Zc S) (f : fr wr wf k m S U) (h2 : 150 ∉ wr) : Zc U := fun t ht => by
  rw [f.1 150 t h2 (by decide)]
  exact h t ht
theorem zc_of {S1 U1 : mm_S} {x v1 : Int32} (e : F_X9_sing S1 x = (v1, U1)) (h : Zc (F_X9_sing S1 x).2) : Zc U1 := by
  rw [e] at h
  exact h
theorem Zc_0 : Zc SC0 := fun t _ => SC0_z 150 t (by omega)
