/-! ===== orders: the deaths of a line; the answers of after and whose ===== -/
section OR2
variable {n : Nat} {P x y v q : Int32} {S1 S2 U1 U2 U : mm_S}
theorem gv_20 : (F_X3_give_20 S1 q v).1 20 = S1.1 20 := by
  rw [F_X3_give_20]
  split
  · rfl
  · split
    · rw [up_row (by omega)]
    · rw [up_row (by omega), up_row (by omega)]
theorem jb_20 {jar h0 : Int32} : ∀ (N : Nat) (y : Int32) (S1 : mm_S), (F_X3_bury_20_L100 N S1 jar h0 y).2.1 20 = S1.1 20
  | 0, y, S1 => rfl
  | N + 1, y, S1 => by
    rw [F_X3_bury_20_L100]
    split
    · rfl
    · split
      · rfl
      · split
        · exact jb_20 N _ S1
        · rw [F_X3_bury_20_L100fffc133, jb_20 N _ _, gv_20]
theorem by_20 (hl : ¬ F_X3_lives_20 S1 q = 0) : (F_X3_bury_20 S1 q).2.1 20 0 = S1.1 20 0 &&& ((1 : Int32) <<< (q &&& 31) ^^^ -1) := by
  rw [F_X3_bury_20, if_neg hl]
  split
  · rw [jb_20, up_ne (by omega), up_ne (by omega), up_ne (by omega), up_at]
  · rw [F_X3_bury_20_tfu85, F_X3_bury_20_tfu85c97, jb_20, gv_20, up_ne (by omega), up_ne (by omega), up_ne (by omega), up_at]
theorem d1 (hP : mm_b 0 7 P) {L k : Nat} (hL : L ≤ 7) (N : Nat) (hk : k < L) (h : Fk20 P S1 S2) (w : Wf 4 P S2) (e1 : S2.1 1 0 = P) (h8 : S1.1 138 0 = nI L) (h9 : ∀ i, i < L → S1.1 139 i = nI (fg n (L - 1 - i) - 1)) (g : gd (S2.1 4 28) (fg n k)) : F_X5_buryIn_L2 (N + 1) S1 (nI (L - 1 - k)) = F_X5_buryIn_L2 N (F_X3_bury_20 S1 (nI (fg n k - 1))).2 (nI (L - 1 - k + 1)) ∧ Sm20 P S1 S2 (F_X3_bury_20 S1 (nI (fg n k - 1))).2 (F_X10_dies4 S2 (nI (fg n k - 1))).2 ∧ (F_X10_dies4 S2 (nI (fg n k - 1))).2.1 4 28 = S2.1 4 28 &&& ((1 : Int32) <<< (nI (fg n k - 1) &&& 31) ^^^ -1) ∧ (F_X3_bury_20 S1 (nI (fg n k - 1))).2.1 138 0 = nI L ∧ (∀ i, i < L → (F_X3_bury_20 S1 (nI (fg n k - 1))).2.1 139 i = nI (fg n (L - 1 - i) - 1)) ∧ (F_X10_dies4 S2 (nI (fg n k - 1))).2.1 1 0 = P := by
  have g1 := g.1
  have g2 := g.2.1
  have hz : (nI (fg n k - 1)).toInt = (fg n k : Int) - 1 := by
    rw [nI_toInt (by omega)]
    omega
  have hq : lv (S2.1 4 28) (nI (fg n k - 1)) := (lv_gd hz).mpr g
  have s := (by20 h w hP e1 hq).2
  have b := by_20 (S1 := S1) (q := nI (fg n k - 1)) (by rw [lc20 h w hP, if_pos hq]; exact one0)
  have e9 : S1.1 139 (L - 1 - k) = nI (fg n k - 1) := by
    rw [h9 _ (by omega)]
    exact congrArg (fun k => nI (fg n k - 1)) (by omega)
  have nl : ¬ nI L ≤ nI (L - 1 - k) := fun z => by
    have := (nz_le (by omega) (by omega)).mp z
    omega
  refine ⟨?_, s, ?_, ?_, ?_, ?_⟩
  · rw [F_X5_buryIn_L2, h8, if_neg nl, F_X5_buryIn_L2fc20, nI_c (by omega), e9, nI_s (by omega)]
  · rw [← s.1.1, b, h.1]
  · rw [s.2.2.1.1 138 (by omega)]
    exact h8
  · rw [s.2.2.1.1 139 (by omega)]
    exact h9
  · rw [s.2.2.2.1 1 (by omega)]
    exact e1
theorem dl (hP : mm_b 0 7 P) {L : Nat} (hL : L ≤ 7) : ∀ (k N : Nat) (S1 S2 : mm_S), k < L → k + 1 < N → Fk20 P S1 S2 → Wf 4 P S2 → S2.1 1 0 = P → S1.1 138 0 = nI L → (∀ i, i < L → S1.1 139 i = nI (fg n (L - 1 - i) - 1)) → og (S2.1 4 28) n 0 (k + 1) → Sm20 P S1 S2 (F_X5_buryIn_L2 N S1 (nI (L - 1 - k))) (dyL n k S2)
  | 0, N, S1, S2, hk, hN, h, w, e1, h8, h9, ho => by
    obtain ⟨N2, rfl⟩ : ∃ N2, N = N2 + 1 + 1 := ⟨N - 2, by omega⟩
    obtain ⟨r, s, a28, s8, s9, p1⟩ := d1 hP hL (N2 + 1) hk h w e1 h8 h9 (ho.1 0 (by omega) (by omega))
    rw [r, F_X5_buryIn_L2, s8, if_pos ((nz_le (by omega) (by omega)).mpr (by omega))]
    exact s
  | k + 1, N, S1, S2, hk, hN, h, w, e1, h8, h9, ho => by
    obtain ⟨N2, rfl⟩ : ∃ N2, N = N2 + 1 := ⟨N - 1, by omega⟩
    obtain ⟨r, s, a28, s8, s9, p1⟩ := d1 hP hL N2 hk h w e1 h8 h9 (ho.1 (k + 1) (by omega) (by omega))
    rw [r, show L - 1 - (k + 1) + 1 = L - 1 - k by omega]
    refine Sm_tr s (dl hP hL k N2 _ _ (by omega) (by omega) s.1 s.2.1 p1 s8 s9 ⟨fun l l1 l2 => ?_, fun l m l1 l2 l3 => ho.2 l m l1 l2 (by omega)⟩)
    have gk := ho.1 (k + 1) (by omega) (by omega)
    have gk1 := gk.1
    have gk2 := gk.2.1
    have gl := ho.1 l l1 (by omega)
    have gl1 := gl.1
    have gl2 := gl.2.1
    have ne := ho.2 l (k + 1) l1 (by omega) (by omega)
    refine ⟨gl1, gl2, ?_⟩
    rw [a28]
    exact (bt_cl w.1 (by omega) (by omega)).mpr ⟨gl.2.2, by omega⟩
/-! the line is tried -/
theorem la_4 {i : Nat} (hi : i < 30) : (F_X10_layAside S2).1 4 i = S2.1 3 i := by
  rw [F_X10_layAside, F_X10_layAside_c15, F_X10_copies_34, show (0 : Int32).toNatClampNeg = 0 by decide, show (30 : Int32).toNatClampNeg = 30 by decide]
  show (if 4 = 4 ∧ 0 ≤ i ∧ i < 0 + 30 then S2.1 3 (0 + (i - 0)) else S2.1 4 i) = _
  rw [if_pos ⟨rfl, by omega, by omega⟩, show 0 + (i - 0) = i by omega]
theorem la_o {a : Nat} (ha : a ≠ 4) : (F_X10_layAside S2).1 a = S2.1 a := by
  rw [F_X10_layAside, F_X10_layAside_c15, F_X10_copies_34]
  funext i
  exact if_neg (fun z => ha z.1)
theorem pc7 (s : Nat) : pcN s ≤ 7 := by
  unfold pcN
  omega
theorem tr0 (h : RB S1 S2) (hG : Gf 138 139 S1 U) (p0 : ¬ S2.1 1 0 = 0) : Fk20 (S2.1 1 0) (F_X3_copy U 20 15) (F_X10_layAside S2) ∧ Wf 4 (S2.1 1 0) (F_X10_layAside S2) ∧ (F_X10_layAside S2).1 1 0 = S2.1 1 0 ∧ (∀ b, b < 20 ∨ 24 < b → (F_X3_copy U 20 15).1 b = U.1 b) ∧ (F_X10_layAside S2).1 4 28 = S2.1 3 28 := by
  have w := h.2.2.1
  have fq : Fq (S2.1 1 0) U S2 := Fq_row h.2.1 (hG.1 15 (by omega)) (hG.1 16 (by omega)) (hG.1 17 (by omega)) (hG.1 18 (by omega)) (hG.1 19 (by omega)) rfl
  have fo : FqO 20 4 0 (S2.1 1 0) (F_X3_copy U 20 15) (F_X10_layAside S2) := FqO_in fq (by omega) (fun i hi => by rw [Nat.zero_add]; exact la_4 hi) (fun b _ _ => rfl)
  obtain ⟨a, b, c, d⟩ := fo.2 p0
  refine ⟨⟨a, b, c, fun i hi => ?_⟩, ⟨?_, ?_, fun i hi => ?_⟩, ?_, fun b hb => ?_, la_4 (by omega)⟩
  · have := d i hi
    rw [Nat.zero_add, Nat.zero_add, Nat.zero_add, Nat.zero_add] at this
    exact this
  · rw [la_4 (by omega)]; exact w.1
  · rw [la_4 (by omega)]; exact w.2.1
  · rw [la_4 (by omega), la_4 (by omega), la_4 (by omega), la_4 (by omega), la_4 (by omega)]; exact w.2.2 i hi
  · rw [la_o (by omega)]
  · exact (cp_c (S := U) (a := 20) (c := 15) (by omega)).1.1 b (by omega) (by omega) (by omega) (by omega) (by omega)
theorem tr1 (h : RB S1 S2) (hG : Gf 138 139 S1 U) (hn : x.toInt = n) (n0 : 0 < n) (ho : og (S2.1 3 28) n 0 (lgk n + 1)) (l7 : lgk n + 1 ≤ 7) (L0 : U.1 138 0 = nI (lgk n + 1)) (L1 : ∀ i, i < lgk n + 1 → U.1 139 i = nI (fg n (lgk n + 1 - 1 - i) - 1)) : ¬ S2.1 1 0 = 0 ∧ Sm20 (S2.1 1 0) (F_X3_copy U 20 15) (F_X10_layAside S2) (F_X9_tryLine U) (F_X10_allDie (F_X10_layAside S2) x) := by
  have hP := h.1.2.2.1.2.1.1
  have g := ho.1 0 (by omega) (by omega)
  have g1 := g.1
  have g2 := g.2.1
  have gp := h.2.2.1.2.1 _ (by omega) g.2.2
  have p0 : ¬ S2.1 1 0 = 0 := fun e => by
    rw [e] at gp
    have : (0 : Int32).toInt = 0 := rfl
    omega
  obtain ⟨fk, w4, p1, fo, a28⟩ := tr0 h hG p0
  have d := dl (n := n) hP (L := lgk n + 1) l7 (lgk n) 9 _ _ (by omega) (by omega) fk w4 p1 (by rw [fo 138 (by omega)]; exact L0) (by rw [fo 139 (by omega)]; exact L1) (by rw [a28]; exact ho)
  rw [show lgk n + 1 - 1 - lgk n = 0 by omega] at d
  rw [F_X9_tryLine, F_X9_tryLine_c11, F_X9_tryLine_c11c22, F_X5_buryIn, F_X10_allDie, if_neg (by omega), show x.toInt.toNat = n by omega]
  exact ⟨p0, d⟩
theorem tr2 (h : RB S1 S2) (hG : Gf 138 139 S1 U) (hn : x.toInt = n) (n0 : 0 < n) (ho : og (S2.1 3 28) n 0 (lgk n + 1)) (hL : Ln n 0 (lgk n + 1) U) : ¬ S2.1 1 0 = 0 ∧ Sm20 (S2.1 1 0) (F_X3_copy U 20 15) (F_X10_layAside S2) (F_X9_tryLine U) (F_X10_allDie (F_X10_layAside S2) x) := by
  obtain ⟨L0, L1, s, hs, L2, L3⟩ := hL
  have l7 := pc7 s
  exact tr1 h hG hn n0 ho (by omega) L0 L1
theorem uo_L (h : Fk20 P U1 U2) (w : Wf 4 P U2) (hP : mm_b 0 7 P) (e1 : U2.1 1 0 = P) (hv : 0 ≤ v.toInt ∧ v.toInt < 7) : ∀ (N k : Nat), k < 100 → F_X3_userOf_20_L2 v N U1 (nI k) = (F_X10_whose_L32 v N U2 (nI k)).1
  | 0, k, _ => rfl
  | N + 1, k, hk => by
    have h2 : U1.1 20 2 = P := h.2.2.1
    rw [F_X3_userOf_20_L2, F_X10_whose_L32, h2, e1]
    by_cases q : P ≤ nI k
    · rw [if_pos q, if_pos q]
    · have q2 := Int32.lt_iff_toInt_lt.mp (bd_nle q)
      have tk : (nI k).toInt = k := nI_toInt (by omega)
      have h7 := hP.2
      have ih := uo_L h w hP e1 hv N (k + 1) (by omega)
      rw [if_neg q, if_neg q, Int32.zero_add, nI_c hk, nI_s hk, lc20 h w hP, (h.2.2.2 k (by omega)).1]
      by_cases l : lv (U2.1 4 28) (nI k)
      · rw [if_pos l, if_neg one0]
        by_cases e : U2.1 4 k = v
        · rw [if_pos e, if_pos e]
        · rw [if_neg e, if_neg e]
          exact ih
      · have nb : ¬ bt (U2.1 4 28) k := fun z => l ⟨⟨by omega, by omega⟩, by rw [nI_c hk]; exact z⟩
        have u9 := ((w.2.2 k (by omega)).2.2.1 nb).1
        have ne : ¬ U2.1 4 k = v := fun z => by
          rw [u9] at z
          rw [← z] at hv
          exact absurd hv.2 (by decide)
        rw [if_neg l, if_pos (show (0 : Int32) = 0 from rfl), if_neg ne]
        exact ih
theorem vn : F_X9_isVoiceNumber S1 y = F_X10_isVoice S2 y := by
  rw [F_X9_isVoiceNumber, F_X10_isVoice, has_eq (S := S2) (P := 7) (by decide), show ((7 : Int32) - 1).toInt64 = 6 by decide]
/-- promise 16 -/
theorem an_whose (h : RB S1 S2) : (F_X9_whose S1 x y).1 = (F_X10_whose S2 x y).1 := by
  have hP := h.1.2.2.1.2.1.1
  rw [F_X9_whose, F_X10_whose, vn (S2 := S2)]
  by_cases q : F_X10_isVoice S2 y = 0
  · rw [if_pos q, if_pos q]
  · have hy : 0 ≤ y.toInt ∧ y.toInt < 7 := by
      have q2 := q
      rw [F_X10_isVoice, show (6 : Int64) = ((7 : Int32) - 1).toInt64 by decide] at q2
      exact in_1 (P := 7) (by decide) q2
    obtain ⟨r1, r2, r3⟩ := ro (x := x) h
    rw [if_neg q, if_neg q, F_X9_whose_tc22, r1]
    rcases r3 with r3 | ⟨r3, n, n0, n31, hn, ho, hL⟩
    · rw [r3, if_pos (show (0 : Int32) = 0 from rfl), if_pos (show (0 : Int32) = 0 from rfl)]
    · obtain ⟨p0, s⟩ := tr2 h r2 hn n0 ho hL
      rw [r3, if_neg one0, if_neg one0, F_X9_whose_tc22tc32, F_X10_whose_ttc25, F_X10_whose_ttc25c30]
      exact uo_L s.1 s.2.1 hP (by rw [s.2.2.2.1 1 (by omega), la_o (by omega)]) hy 9 0 (by omega)
end OR2
