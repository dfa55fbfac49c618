/-! ===== folk at 20, row 4: who is alive, the least mute one, giving, dying ===== -/
section F20
variable {P v x q : Int32} {S1 S2 : mm_S}
abbrev Fk20 (P : Int32) (S1 S2 : mm_S) : Prop := Fk 20 21 22 23 24 4 P S1 S2
abbrev Sm20 (P : Int32) (S1 S2 U1 U2 : mm_S) : Prop := Sm 20 21 22 23 24 4 P S1 S2 U1 U2
theorem lc20 (h : Fk20 P S1 S2) (w : Wf 4 P S2) (hP : mm_b 0 7 P) : F_X3_lives_20 S1 q = if lv (S2.1 4 28) q then 1 else 0 := by
  obtain ⟨h0, h1, h2, -⟩ := h
  rw [F_X3_lives_20, h0, h2]
  by_cases q0 : q < 0
  · have : q.toInt < 0 := Int32.lt_iff_toInt_lt.mp q0
    rw [if_pos q0, if_neg (fun z : lv (S2.1 4 28) q => by have := z.1.1; omega)]
  · have q1 : 0 ≤ q.toInt := Int32.le_iff_toInt_le.mp (bd_nlt q0)
    have cq := pz_cl q1
    rw [if_neg q0]
    by_cases p0 : P ≤ q
    · have p1 := Int32.le_iff_toInt_le.mp p0
      rw [if_pos p0, if_neg (fun z : lv (S2.1 4 28) q => by have := w.2.1 q.toNatClampNeg (by have := z.1.2; omega) z.2; omega)]
    · have p1 := Int32.lt_iff_toInt_lt.mp (bd_nle p0)
      rw [if_neg p0]
      have e : (S2.1 4 28 >>> (q &&& 31)) = (S2.1 4 28 >>> (nI q.toNatClampNeg &&& 31)) := by rw [← nI_cl q1]
      rcases and1 (S2.1 4 28 >>> (q &&& 31)) with z | z
      · rw [if_pos z, if_neg (fun y : lv (S2.1 4 28) q => by have y2 : (S2.1 4 28 >>> (nI q.toNatClampNeg &&& 31)) &&& 1 = 1 := y.2; rw [← e, z] at y2; exact absurd y2 (by decide))]
      · rw [if_neg (fun y => by rw [z] at y; exact absurd y (by decide)), if_pos (show lv (S2.1 4 28) q from ⟨⟨q1, by omega⟩, by show (S2.1 4 28 >>> (nI q.toNatClampNeg &&& 31)) &&& 1 = 1; rw [← e]; exact z⟩)]
theorem lm20 (w : Wf 4 P S2) (hq : mm_b 0 9 q) : F_X10_lives4 S2 q = if lv (S2.1 4 28) q then 1 else 0 := by
  have cq := pz_cl hq.1
  rw [F_X10_lives4, in_bt hq.1]
  by_cases h9 : q = 9
  · rw [if_pos h9, if_neg (fun z : lv (S2.1 4 28) q => by have := z.1.2; rw [h9] at this; exact absurd this (by decide))]
  · rw [if_neg h9]
    by_cases z : bt (S2.1 4 28) q.toNatClampNeg
    · have h7 : q.toNatClampNeg < 7 := bt_hi w.1 (by omega) z
      rw [if_pos z, if_neg one0, if_pos (show lv (S2.1 4 28) q from ⟨⟨hq.1, by omega⟩, z⟩)]
    · rw [if_neg z, if_pos (show (0 : Int32) = 0 from rfl), if_neg (fun y : lv (S2.1 4 28) q => z y.2)]
/-- who is mute -/
def mu20 (S2 : mm_S) : Nat → Bool := fun i => decide (bt (S2.1 4 28) i ∧ S2.1 4 i = 9)
theorem si20 (h : Fk20 P S1 S2) {Pn : Nat} (hP : P.toInt = Pn) (h7 : Pn ≤ 7) : ∀ (N s k : Nat), s < 128 → k ≤ Pn → Pn - k < N → F_X3_silent_20_L4 N S1 (nI s) (nI k) = nI (setL (mu20 S2) (Pn - k) k s)
  | 0, s, k, _, _, hN => absurd hN (Nat.not_lt_zero _)
  | N + 1, s, k, hs, hk, hN => by
    obtain ⟨h0, h1, h2, h3⟩ := h
    have tk : (nI k).toInt = k := nI_toInt (by omega)
    rw [F_X3_silent_20_L4, h0, h2]
    by_cases z : P ≤ nI k
    · have z2 := Int32.le_iff_toInt_le.mp z
      rw [if_pos z, show Pn - k = 0 by omega]
      rfl
    · have z2 := Int32.lt_iff_toInt_lt.mp (bd_nle z)
      obtain ⟨d, hd⟩ : ∃ d, Pn - k = d + 1 := ⟨Pn - k - 1, by omega⟩
      have ih := fun s' hs' => si20 ⟨h0, h1, h2, h3⟩ hP h7 N s' (k + 1) hs' (by omega) (by omega)
      rw [show Pn - (k + 1) = d by omega] at ih
      rw [if_neg z, hd, setL, nI_s (by omega), nI_c (by omega), (h3 k (by omega)).1]
      by_cases y : bt (S2.1 4 28) k
      · have y0 : ¬ (S2.1 4 28 >>> (nI k &&& 31)) &&& 1 = 0 := fun q => by have y2 : (S2.1 4 28 >>> (nI k &&& 31)) &&& 1 = 1 := y; rw [q] at y2; exact absurd y2 (by decide)
        rw [if_neg y0]
        by_cases x9 : S2.1 4 k = 9
        · have e : mu20 S2 k = true := decide_eq_true ⟨y, x9⟩
          rw [if_pos x9, e, if_pos rfl, nI_orT ⟨s, hs⟩ ⟨k, by omega⟩]
          exact ih _ (Nat.or_lt_two_pow (n := 7) hs (Nat.pow_lt_pow_right (by decide) (by omega)))
        · have e : mu20 S2 k = false := decide_eq_false (fun q => x9 q.2)
          rw [if_neg x9, e]
          exact ih s hs
      · have y0 : (S2.1 4 28 >>> (nI k &&& 31)) &&& 1 = 0 := (and1 _).resolve_right y
        have e : mu20 S2 k = false := decide_eq_false (fun q => y q.1)
        rw [if_pos y0, e]
        exact ih s hs
theorem le20 {Pn : Nat} (hP : (S2.1 1 0).toInt = Pn) (h7 : Pn ≤ 7) : ∀ (N k : Nat), k ≤ Pn → Pn - k < N → F_X10_leastMute4_L2 N S2 (nI k) = lmF (mu20 S2) (Pn - k) k
  | 0, k, _, hN => absurd hN (Nat.not_lt_zero _)
  | N + 1, k, hk, hN => by
    have tk : (nI k).toInt = k := nI_toInt (by omega)
    rw [F_X10_leastMute4_L2]
    by_cases z : S2.1 1 0 ≤ nI k
    · have z2 := Int32.le_iff_toInt_le.mp z
      rw [if_pos z, show Pn - k = 0 by omega]
      rfl
    · have z2 := Int32.lt_iff_toInt_lt.mp (bd_nle z)
      obtain ⟨d, hd⟩ : ∃ d, Pn - k = d + 1 := ⟨Pn - k - 1, by omega⟩
      have ih := le20 hP h7 N (k + 1) (by omega) (by omega)
      rw [show Pn - (k + 1) = d by omega] at ih
      rw [if_neg z, hd, lmF, nI_s (by omega), in_bt (by omega), nI_c (by omega), show ((0 : Int32) + nI k).toNatClampNeg = k by rw [Int32.zero_add]; exact nI_c (by omega)]
      by_cases y : bt (S2.1 4 28) k
      · rw [if_pos y, if_neg one0]
        by_cases x9 : S2.1 4 k = 9
        · have e : mu20 S2 k = true := decide_eq_true ⟨y, x9⟩
          rw [if_pos x9, e, if_pos rfl]
        · have e : mu20 S2 k = false := decide_eq_false (fun q => x9 q.2)
          rw [if_neg x9, e, ih]
          rfl
      · have e : mu20 S2 k = false := decide_eq_false (fun q => y q.1)
        rw [if_neg y, if_pos (show (0 : Int32) = 0 from rfl), e, ih]
        rfl
theorem mu20_hi (w : Wf 4 P S2) {Pn : Nat} (hP : P.toInt = Pn) : ∀ i, Pn ≤ i → i < 7 → mu20 S2 i = false := fun i h1 h2 => decide_eq_false (fun q => by have := w.2.1 i h2 q.1; omega)
/-- the least mute one, both sides -/
theorem lst20 (h : Fk20 P S1 S2) (w : Wf 4 P S2) (hP : mm_b 0 7 P) (e1 : S2.1 1 0 = P) : F_X3_leastOf S1 (F_X3_silent_20 S1) = lmF (mu20 S2) 7 0 ∧ F_X10_leastMute4 S2 = lmF (mu20 S2) 7 0 := by
  obtain ⟨Pn, hPn⟩ : ∃ n : Nat, P.toInt = n := ⟨P.toInt.toNat, by omega⟩
  have h7 : Pn ≤ 7 := by omega
  have x1 : setL (mu20 S2) 7 0 0 = setL (mu20 S2) Pn 0 0 := by
    have := setL_ext (β := mu20 S2) Pn (7 - Pn) 0 0 (fun i g1 g2 => mu20_hi w hPn i (by omega) (by omega))
    rw [show Pn + (7 - Pn) = 7 by omega] at this
    exact this
  have x2 : lmF (mu20 S2) 7 0 = lmF (mu20 S2) Pn 0 := by
    have := lmF_ext (β := mu20 S2) Pn (7 - Pn) 0 (fun i g1 g2 => mu20_hi w hPn i (by omega) (by omega))
    rw [show Pn + (7 - Pn) = 7 by omega] at this
    exact this
  constructor
  · have z := si20 h hPn h7 9 0 0 (by omega) (by omega) (by omega)
    rw [show Pn - 0 = Pn by omega, ← x1] at z
    rw [F_X3_silent_20]
    show F_X3_leastOf S1 (F_X3_silent_20_L4 9 S1 (nI 0) (nI 0)) = _
    rw [z]
    exact ls7
  · have z := le20 (S2 := S2) (by rw [e1]; exact hPn) h7 9 0 (by omega) (by omega)
    rw [show Pn - 0 = Pn by omega, ← x2] at z
    exact z
/-- one gets a voice -/
theorem gv20 (h : Fk20 P S1 S2) (w : Wf 4 P S2) (hP : mm_b 0 7 P) (hq : lv (S2.1 4 28) q) (hv : mm_b 0 6 v) : Sm20 P S1 S2 (F_X3_give_20 S1 q v) (F_X10_gets4 S2 q v) := by
  have hd : 20 < 21 ∧ 21 < 22 ∧ 22 < 23 ∧ 23 < 24 := by decide
  have cq := pz_cl hq.1.1
  have q7 : q.toNatClampNeg < 7 := by have := hq.1.2; omega
  have c0 : ((0 : Int32) + q).toNatClampNeg = q.toNatClampNeg := by rw [Int32.zero_add]
  have c7 : ((7 : Int32) + q).toNatClampNeg = 7 + q.toNatClampNeg := pz_addc (by decide) ⟨hq.1.1, by have := hq.1.2; omega⟩
  obtain ⟨u1, u2, -, -⟩ := h.2.2.2 q.toNatClampNeg q7
  obtain ⟨w1, w2, -, -⟩ := w.2.2 q.toNatClampNeg q7
  have jar0 : S2.1 4 (7 + q.toNatClampNeg) ||| 0 = S2.1 4 (7 + q.toNatClampNeg) := Int32.or_zero
  rw [F_X3_give_20, lc20 h w hP, if_pos hq, if_neg one0, F_X10_gets4, c0, c7, F_X9_isVoiceNumber, u1, u2]
  have hb := hq.2
  generalize q.toNatClampNeg = i at *
  by_cases e9 : S2.1 4 i = 9
  · rw [if_pos e9, e9, if_neg (show ¬ (9 : Int32) < 0 by decide), if_pos (show (7 : Int32) ≤ 9 by decide), if_pos (show (0 : Int32) = 0 from rfl), jar0, up_self]
    exact ⟨Fk_u hd h q7, Wf_u w q7 hb (Or.inr hv), Gf_up Gf_rf (by decide), Gm_up Gm_rf⟩
  · have b6 := w1.resolve_left e9
    have n0 : ¬ S2.1 4 i < 0 := fun z => by have : (S2.1 4 i).toInt < 0 := Int32.lt_iff_toInt_lt.mp z; omega
    have n7 : ¬ (7 : Int32) ≤ S2.1 4 i := fun z => by have : (7 : Int) ≤ (S2.1 4 i).toInt := Int32.le_iff_toInt_le.mp z; omega
    rw [if_neg e9, if_neg n0, if_neg n7, if_neg one0]
    have e28 : (mm_up S2 4 (7 + i) (S2.1 4 (7 + i) ||| (1 : Int32) <<< (S2.1 4 i &&& 31))).1 4 28 = S2.1 4 28 := up_ne (by omega)
    exact ⟨Fk_u hd (Fk_j hd h q7) q7, Wf_u (Wf_j w q7 hb (sm_or w2 b6)) q7 (by rw [e28]; exact hb) (Or.inr hv), Gf_up (Gf_up Gf_rf (by decide)) (by decide), Gm_up (Gm_up Gm_rf)⟩
theorem gn20 (h : Fk20 P S1 S2) (w : Wf 4 P S2) (hP : mm_b 0 7 P) (hq : ¬ lv (S2.1 4 28) q) : F_X3_give_20 S1 q v = S1 := by
  rw [F_X3_give_20, lc20 h w hP, if_neg hq, if_pos (show (0 : Int32) = 0 from rfl)]
/-- the jar of a dead one -/
theorem jr020 {h0 : Int32} : ∀ (N : Nat) (y : Int32) (S2 : mm_S), (7 - y.toInt).toNat < N → mm_b 0 7 y → F_X10_dies4_L125 N S2 0 h0 y = (h0, S2)
  | 0, y, S2, hN, _ => absurd hN (Nat.not_lt_zero _)
  | N + 1, y, S2, hN, hy => by
    have cy := pz_cl hy.1
    rw [F_X10_dies4_L125]
    by_cases z : (7 : Int32) ≤ y
    · rw [if_pos z]
    · have z2 : y.toInt < 7 := Int32.lt_iff_toInt_lt.mp (bd_nle z)
      have ty : (y + Int32.ofInt 1).toInt = y.toInt + 1 := by rw [pz_of1]; exact pz_ti1 ⟨by omega, by omega⟩
      rw [if_neg z, in_bt hy.1, if_neg (bt_0 (by omega)), if_pos (show (0 : Int32) = 0 from rfl)]
      exact jr020 N _ S2 (by omega) ⟨by omega, by omega⟩
theorem jr20 {jar h0 : Int32} (hP : mm_b 0 7 P) : ∀ (N : Nat) (y : Int32) (S1 S2 : mm_S), (7 - y.toInt).toNat < N → mm_b 0 7 y → Fk20 P S1 S2 → Wf 4 P S2 → S2.1 1 0 = P → (F_X3_bury_20_L100 N S1 jar h0 y).1 = (F_X10_dies4_L125 N S2 jar h0 y).1 ∧ (F_X10_dies4_L125 N S2 jar h0 y).1 = h0 ∧ Sm20 P S1 S2 (F_X3_bury_20_L100 N S1 jar h0 y).2 (F_X10_dies4_L125 N S2 jar h0 y).2
  | 0, y, S1, S2, hN, _, _, _, _ => absurd hN (Nat.not_lt_zero _)
  | N + 1, y, S1, S2, hN, hy, h, w, e1 => by
    have cy := pz_cl hy.1
    by_cases j0 : jar = 0
    · have e2 : F_X10_dies4_L125 (N + 1) S2 jar h0 y = (h0, S2) := by rw [j0]; exact jr020 (N + 1) y S2 hN hy
      have e3 : F_X3_bury_20_L100 (N + 1) S1 jar h0 y = (h0, S1) := by
        rw [F_X3_bury_20_L100, if_pos j0]
        split <;> rfl
      rw [e2, e3]
      exact ⟨rfl, rfl, Sm_rf h w⟩
    · rw [F_X3_bury_20_L100, F_X10_dies4_L125]
      by_cases z : (7 : Int32) ≤ y
      · rw [if_pos z, if_pos z]
        exact ⟨rfl, rfl, Sm_rf h w⟩
      · have z2 : y.toInt < 7 := Int32.lt_iff_toInt_lt.mp (bd_nle z)
        have ty : (y + Int32.ofInt 1).toInt = y.toInt + 1 := by rw [pz_of1]; exact pz_ti1 ⟨by omega, by omega⟩
        have hny : (7 - (y + Int32.ofInt 1).toInt).toNat < N := by omega
        have hby : mm_b 0 7 (y + Int32.ofInt 1) := ⟨by omega, by omega⟩
        rw [if_neg z, if_neg z, if_neg j0, hw (T := S2) ⟨hy.1, z2⟩]
        by_cases q0 : F_X10_isIn S2 jar y = 0
        · rw [if_pos q0, if_pos q0]
          exact jr20 hP N _ S1 S2 hny hby h w e1
        · rw [if_neg q0, if_neg q0, F_X3_bury_20_L100fffc133]
          obtain ⟨l1, l2⟩ := lst20 h w hP e1
          rw [l1, l2]
          rcases lmF_or (β := mu20 S2) 7 0 with ⟨g1, g2⟩ | ⟨i, g1, g2, g3, g4⟩
          · rw [g1, if_pos (show (-1 : Int32) = -1 from rfl), gn20 h w hP (fun y : lv (S2.1 4 28) (-1) => absurd y.1.1 (by decide))]
            exact jr20 hP N _ S1 S2 hny hby h w e1
          · have g5 := of_decide_eq_true g3
            have ti : (nI i).toInt = i := nI_toInt (by omega)
            have ni : ¬ nI i = -1 := fun y => by rw [y] at ti; have : (-1 : Int32).toInt = -1 := rfl; omega
            have hl : lv (S2.1 4 28) (nI i) := ⟨⟨by omega, by omega⟩, by rw [nI_c (by omega)]; exact g5.1⟩
            have e5 : F_X10_gets4 S2 (nI i) y = mm_up S2 4 ((0 : Int32) + nI i).toNatClampNeg y := by
              have c0 : ((0 : Int32) + nI i).toNatClampNeg = i := by rw [Int32.zero_add]; exact nI_c (by omega)
              have jar0 : ∀ m : Int32, m ||| 0 = m := fun m => Int32.or_zero
              rw [F_X10_gets4, c0, if_pos g5.2, jar0, up_self]
            rw [g4, if_neg ni, ← e5]
            have s1 := gv20 (v := y) h w hP hl ⟨hy.1, by omega⟩
            have s2 := jr20 (jar := jar) (h0 := h0) hP N (y + Int32.ofInt 1) _ _ hny hby s1.1 s1.2.1 (by rw [s1.2.2.2.1 1 (by decide)]; exact e1)
            exact ⟨s2.1, s2.2.1, Sm_tr s1 s2.2.2⟩
/-- one dies -/
theorem by20 (h : Fk20 P S1 S2) (w : Wf 4 P S2) (hP : mm_b 0 7 P) (e1 : S2.1 1 0 = P) (hq : lv (S2.1 4 28) q) : (F_X3_bury_20 S1 q).1 = (F_X10_dies4 S2 q).1 ∧ Sm20 P S1 S2 (F_X3_bury_20 S1 q).2 (F_X10_dies4 S2 q).2 := by
  have hd : 20 < 21 ∧ 21 < 22 ∧ 22 < 23 ∧ 23 < 24 := by decide
  have cq := pz_cl hq.1.1
  have q7 : q.toNatClampNeg < 7 := by have := hq.1.2; omega
  have bq : mm_b 0 1000 q := ⟨hq.1.1, by have := hq.1.2; omega⟩
  have c0 : ((0 : Int32) + q).toNatClampNeg = q.toNatClampNeg := by rw [Int32.zero_add]
  have c7 : ((7 : Int32) + q).toNatClampNeg = 7 + q.toNatClampNeg := pz_addc (by decide) bq
  have c14 : ((14 : Int32) + q).toNatClampNeg = 14 + q.toNatClampNeg := pz_addc (by decide) bq
  have c21 : ((21 : Int32) + q).toNatClampNeg = 21 + q.toNatClampNeg := pz_addc (by decide) bq
  have nq := nI_cl hq.1.1
  obtain ⟨h0, h1, h2, h3⟩ := h
  obtain ⟨u1, u2, u3, u4⟩ := h3 q.toNatClampNeg q7
  obtain ⟨w1, w2, -, bf⟩ := w.2.2 q.toNatClampNeg q7
  rw [F_X3_bury_20, lc20 ⟨h0, h1, h2, h3⟩ w hP, if_pos hq, if_neg one0, F_X10_dies4, c0, c7, c14, u1, u2, u3, u4, h0, h1]
  have hb := hq.2
  -- the dead one
  generalize hA : S2.1 4 28 &&& ((1 : Int32) <<< (q &&& 31) ^^^ -1) = A'
  generalize hi : q.toNatClampNeg = i at *
  have hA2 : A' = S2.1 4 28 &&& ((1 : Int32) <<< (nI i &&& 31) ^^^ -1) := by rw [← hA, nq]
  have bA : ∀ k, k < 7 → (bt A' k ↔ (bt (S2.1 4 28) k ∧ k ≠ i)) := fun k hk => by rw [hA2]; exact bt_cl w.1 q7 hk
  generalize hT2 : mm_up (mm_up (mm_up (mm_up S2 4 28 A') 4 i 9) 4 (7 + i) 0) 4 29 (S2.1 4 29 + 1) = T2
  generalize hT1 : mm_up (mm_up (mm_up (mm_up S1 20 0 A') 21 i 9) 22 i 0) 20 1 (S2.1 4 29 + 1) = T1
  have hF : Fk20 P T1 T2 := by
    rw [← hT1, ← hT2]
    exact Fk_d hd (Fk_j hd (Fk_u hd (Fk_a hd ⟨h0, h1, h2, h3⟩) q7) q7)
  have r2 : ∀ k, k ≠ 28 → k ≠ i → k ≠ 7 + i → k ≠ 29 → T2.1 4 k = S2.1 4 k := fun k k1 k2 k3 k4 => by rw [← hT2, up_ne (by omega), up_ne (by omega), up_ne (by omega), up_ne (by omega)]
  have r28 : T2.1 4 28 = A' := by rw [← hT2, up_ne (by omega), up_ne (by omega), up_ne (by omega), up_at]
  have ri : T2.1 4 i = 9 ∧ T2.1 4 (7 + i) = 0 := by
    rw [← hT2]
    refine ⟨?_, ?_⟩
    · rw [up_ne (by omega), up_ne (by omega), up_at]
    · rw [up_ne (by omega), up_at]
  have hW : Wf 4 P T2 := by
    refine ⟨by rw [r28, hA2]; exact sm_and w.1, fun k hk z => ?_, fun k hk => ?_⟩
    · rw [r28] at z
      exact w.2.1 k hk ((bA k hk).mp z).1
    · by_cases e : k = i
      · rw [e, ri.1, ri.2, r2 (14 + i) (by omega) (by omega) (by omega) (by omega), r2 (21 + i) (by omega) (by omega) (by omega) (by omega)]
        exact ⟨Or.inl rfl, by decide, fun _ => ⟨rfl, rfl⟩, bf⟩
      · rw [r28, r2 k (by omega) e (by omega) (by omega), r2 (7 + k) (by omega) (by omega) (by omega) (by omega), r2 (14 + k) (by omega) (by omega) (by omega) (by omega), r2 (21 + k) (by omega) (by omega) (by omega) (by omega)]
        obtain ⟨y1, y2, y3, y4⟩ := w.2.2 k hk
        exact ⟨y1, y2, fun z => y3 (fun y => z ((bA k hk).mpr ⟨y, e⟩)), y4⟩
  have hG : Gf 20 24 S1 T1 ∧ Gm 4 S2 T2 := by
    rw [← hT1, ← hT2]
    exact ⟨Gf_up (Gf_up (Gf_up (Gf_up Gf_rf (by decide)) (by decide)) (by decide)) (by decide), Gm_up (Gm_up (Gm_up (Gm_up Gm_rf)))⟩
  have s0 : Sm20 P S1 S2 T1 T2 := ⟨hF, hW, hG.1, hG.2⟩
  have p1 : T2.1 1 0 = P := by rw [hG.2.1 1 (by decide)]; exact e1
  by_cases e9 : S2.1 4 i = 9
  · rw [if_pos e9, if_pos e9]
    have s2 := jr20 (jar := S2.1 4 (7 + i)) (h0 := -1) hP 9 0 T1 T2 (by decide) (by decide) hF hW p1
    exact ⟨s2.1, Sm_tr s0 s2.2.2⟩
  · have b6 := w1.resolve_left e9
    have r14 : T2.1 4 (14 + i) = S2.1 4 (14 + i) := r2 _ (by omega) (by omega) (by omega) (by omega)
    have r21 : T2.1 4 (21 + i) = S2.1 4 (21 + i) := r2 _ (by omega) (by omega) (by omega) (by omega)
    rw [if_neg e9, if_neg e9, F_X3_bury_20_tfu85, F_X3_bury_20_tfu85c97, F_X10_dies4_fu64, c21, r21]
    obtain ⟨l1, l2⟩ := lst20 hF hW hP p1
    have lf : F_X10_lives4 T2 ((mm_up (mm_up (mm_up S2 4 28 A') 4 i 9) 4 (7 + i) 0).1 4 (14 + i)) = if lv A' (S2.1 4 (14 + i)) then 1 else 0 := by
      rw [up_ne (by omega), up_ne (by omega), up_ne (by omega), lm20 hW bf.1, r28]
    have lf2 : (mm_up (mm_up (mm_up S2 4 28 A') 4 i 9) 4 (7 + i) 0).1 4 (14 + i) = S2.1 4 (14 + i) := by rw [up_ne (by omega), up_ne (by omega), up_ne (by omega)]
    rw [lf2] at lf ⊢
    rw [lf, lm20 hW bf.2, r28, F_X3_firstAlive_20, lc20 hF hW hP, lc20 hF hW hP, r28, l1, l2]
    -- heirs
    have go : ∀ hr : Int32, lv A' hr → (F_X3_bury_20_L100 9 (F_X3_give_20 T1 hr (S2.1 4 i)) (S2.1 4 (7 + i)) hr 0).1 = (F_X10_dies4_fu64ttfc122 (F_X10_gets4 T2 hr (S2.1 4 i)) (S2.1 4 (7 + i)) hr).1 ∧ Sm20 P S1 S2 (F_X3_bury_20_L100 9 (F_X3_give_20 T1 hr (S2.1 4 i)) (S2.1 4 (7 + i)) hr 0).2 (F_X10_dies4_fu64ttfc122 (F_X10_gets4 T2 hr (S2.1 4 i)) (S2.1 4 (7 + i)) hr).2 := fun hr hl => by
      have s1 := gv20 (v := S2.1 4 i) hF hW hP (by rw [r28]; exact hl) b6
      have s2 := jr20 (jar := S2.1 4 (7 + i)) (h0 := hr) hP 9 0 _ _ (by decide) (by decide) s1.1 s1.2.1 (by rw [s1.2.2.2.1 1 (by decide)]; exact p1)
      rw [F_X10_dies4_fu64ttfc122]
      exact ⟨s2.1, Sm_tr s0 (Sm_tr s1 s2.2.2)⟩
    by_cases x1 : lv A' (S2.1 4 (14 + i))
    · rw [if_pos x1, if_neg one0, if_neg one0]
      exact go _ x1
    · rw [if_neg x1, if_pos (show (0 : Int32) = 0 from rfl), if_pos (show (0 : Int32) = 0 from rfl)]
      by_cases x2 : lv A' (S2.1 4 (21 + i))
      · rw [if_pos x2, if_neg one0, if_neg one0]
        exact go _ x2
      · rw [if_neg x2, if_pos (show (0 : Int32) = 0 from rfl), if_pos (show (0 : Int32) = 0 from rfl)]
        rcases lmF_or (β := mu20 T2) 7 0 with ⟨g1, g2⟩ | ⟨k, g1, g2, g3, g4⟩
        · rw [g1, if_pos (show (-1 : Int32) = -1 from rfl), gn20 hF hW hP (fun y : lv (T2.1 4 28) (-1) => absurd y.1.1 (by decide))]
          have s2 := jr20 (jar := S2.1 4 (7 + i)) (h0 := -1) hP 9 0 T1 T2 (by decide) (by decide) hF hW p1
          exact ⟨s2.1, Sm_tr s0 s2.2.2⟩
        · have g5 := of_decide_eq_true g3
          have tk : (nI k).toInt = k := nI_toInt (by omega)
          have nk : ¬ nI k = -1 := fun y => by rw [y] at tk; have : (-1 : Int32).toInt = -1 := rfl; omega
          rw [g4, if_neg nk]
          exact go _ ⟨⟨by omega, by omega⟩, by rw [nI_c (by omega), ← r28]; exact g5.1⟩
end F20
