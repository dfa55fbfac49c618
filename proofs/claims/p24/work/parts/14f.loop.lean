/-! ===== the text as a whole ===== -/
section LPs
variable {a : Nat} {t : Nat → Int32} {n : Int32} {S1 S2 B1 B2 : mm_S} {f c m b s g v w x : Int32}
theorem lp_t {k : Int32} : F_X8_readInto_L25tu71 (mm_up (rd B1 k f c m) 1 0 0) = (if k = 0 then 1 else 0, rd (mm_up B1 1 0 0) k f c m) := by
  rw [F_X8_readInto_L25tu71, rd_up0, c_is]
theorem lp_bad {k y : Int32} (hk : ¬ k = 0) (N : Nat) : F_X8_readInto_L25 a (N + 1) (rd B1 k f c m) y = (0, rd (mm_up B1 1 0 0) k f c m) := by
  rw [F_X8_readInto_L25, lp_t, if_neg hk, c_isk hk, if_pos (show (0 : Int32) = 0 from rfl)]
  split
  · rfl
  · split <;> rfl
theorem lp_m (M : Nat) : F_X10_parish_L23 (M + 1) (td B2 c b s g v w) 0 = (-10 - w, mm_up (mm_up (td B2 c b s g v w) 0 10 0) 0 11 b) := by
  rw [F_X10_parish_L23, td_23, td_19, if_pos (show (0 : Int32) = 0 from rfl)]
  split <;> rfl
theorem lp_all (ha : 3 ≤ a) (hn : pz_p n) (ht : ∀ j : Nat, j < 240 → 0 ≤ (t j).toInt) : ∀ (N M : Nat) (B1 B2 : mm_S) (p m w y : Int32), Dr a B1 B2 → Bs a t n S1 S2 B1 B2 → pz_p p → (240 - p.toInt).toNat + 2 ≤ N → (240 - p.toInt).toNat + 2 ≤ M → 0 ≤ y.toInt → y.toInt ≤ p.toInt →
    (∃ (C1 C2 : mm_S) (c' m' q' b' s' g' v' w' : Int32), F_X8_readInto_L25 a N (rd B1 0 f p m) y = (1, rd (mm_up C1 1 0 0) 0 f c' m') ∧ F_X10_parish_L23 M (stq t n B2 w p) 1 = F_X10_parish_L23ttu87 (mm_up (td C2 q' b' s' g' v' w') 0 10 0) ∧ Dr a C1 C2 ∧ Bs a t n S1 S2 C1 C2) ∨
    (∃ (C1 C2 : mm_S) (k c' m' q' b' s' g' v' : Int32), F_X8_readInto_L25 a N (rd B1 0 f p m) y = (0, rd (mm_up C1 1 0 0) k b' c' m') ∧ F_X10_parish_L23 M (stq t n B2 w p) 1 = (-10 - k, mm_up (mm_up (td C2 q' b' s' g' v' k) 0 10 0) 0 11 b') ∧ ¬ k = 0 ∧ Bs a t n S1 S2 C1 C2) := by
  intro N
  induction N with
  | zero =>
    intro M B1 B2 p m w y D h hp hN
    omega
  | succ N ih =>
    intro M B1 B2 p m w y D h hp hN hM hy0 hy
    obtain ⟨M, rfl⟩ : ∃ M', M = M' + 1 := ⟨M - 1, by omega⟩
    have e0 : (rd B1 0 f p m).1 1 0 = n := h.2.2.1
    by_cases hl : p < n
    · have hl2 := Int32.lt_iff_toInt_lt.mp hl
      have cp := pz_cl (x := p) hp.1
      have h0 : 0 ≤ hr t n p := by
        rw [hr, if_pos hl]
        exact Int32.le_iff_toInt_le.mpr (ht _ (by omega))
      have y240 : ¬ (240 : Int32) ≤ y := fun q => by have : (240 : Int) ≤ y.toInt := Int32.le_iff_toInt_le.mp q; omega
      have es : F_X8_readInto_L25 a (N + 1) (rd B1 0 f p m) y = F_X8_readInto_L25fffc55 (F_X8_readInto_L25 a N) (F_X8_readClause (rd B1 0 f p m) a) y := by
        rw [F_X8_readInto_L25, if_neg y240, e0, rd_3, if_neg (fun q => lt_no hl q), c_is0, if_neg one0]
      have sg : ¬ (stq t n B2 w p).1 0 20 < 0 := by
        by_cases d : mm_b 48 57 (hr t n p)
        · rw [stq_d d, td_20]
          decide
        · rw [stq_l d, td_20]
          exact fun q => lt_no q h0
      have em : F_X10_parish_L23 (M + 1) (stq t n B2 w p) 1 = F_X10_parish_L23ffc38 (F_X10_readsClause (stq t n B2 w p)).1 (F_X10_parish_L23 M) (F_X10_readsClause (stq t n B2 w p)).2 := by
        rw [F_X10_parish_L23, if_neg sg, if_neg one0]
      rcases cl_any (f := f) (m := m) (w := w) ha D h hn hp hl h0 with ⟨C1, C2, c', m', b', s', g', v', w', r1, r2, D', h', hlt, hc'⟩ | ⟨C1, C2, k, b', c', m', q', s', g', v', r1, r2, hk, h'⟩
      · have z1 : pz_p (sk t n c') ∧ c'.toInt ≤ (sk t n c').toInt := skb hn hc'
        have ec : F_X8_readInto_L25 a (N + 1) (rd B1 0 f p m) y = F_X8_readInto_L25 a N (rd C1 0 f (sk t n c') m') (y + Int32.ofInt 1) := by
          rw [es, r1, F_X8_readInto_L25fffc55, c_sk, h'.2.2.1, h'.2.2.2.1, F_X8_readInto_L25fffc55c59]
        have e2 : F_X10_parish_L23 (M + 1) (stq t n B2 w p) 1 = F_X10_parish_L23 M (stq t n C2 w' (sk t n c')) 1 := by
          rw [em, r2]
          show F_X10_parish_L23ffc38 1 (F_X10_parish_L23 M) (td C2 c' b' s' g' v' w') = _
          rw [F_X10_parish_L23ffc38, if_neg one0, F_X10_parish_L23ffc38fc47, tk_2 h' hn hc']
        have ty : (y + Int32.ofInt 1).toInt = y.toInt + 1 := by rw [pz_of1]; exact pz_ti1 ⟨by omega, by omega⟩
        rw [ec, e2]
        exact ih M C1 C2 (sk t n c') m' w' (y + Int32.ofInt 1) D' h' z1.1 (by omega) (by omega) (by omega) (by omega)
      · obtain ⟨N, rfl⟩ : ∃ N', N = N' + 1 := ⟨N - 1, by omega⟩
        obtain ⟨M, rfl⟩ : ∃ M', M = M' + 1 := ⟨M - 1, by omega⟩
        refine Or.inr ⟨C1, C2, k, sk t n c', m', q', b', s', g', v', ?_, ?_, hk, h'⟩
        · rw [es, r1, F_X8_readInto_L25fffc55, c_sk, h'.2.2.1, h'.2.2.2.1, F_X8_readInto_L25fffc55c59, lp_bad hk]
        · rw [em, r2]
          show F_X10_parish_L23ffc38 0 (F_X10_parish_L23 (M + 1)) (td C2 q' b' s' g' v' k) = _
          rw [F_X10_parish_L23ffc38, if_pos (show (0 : Int32) = 0 from rfl), lp_m]
    · have hge := bd_nlt hl
      have d : ¬ mm_b 48 57 (hr t n p) := by rw [hr_ge hge]; decide
      refine Or.inl ⟨B1, B2, p, m, p + if 0 ≤ hr t n p then 1 else 0, p, hr t n p, 0, 0, w, ?_, ?_, D, h⟩
      · rw [F_X8_readInto_L25, lp_t, e0, rd_3, if_pos (show (0 : Int32) = 0 from rfl)]
        split <;> first
          | rfl
          | rw [if_pos hge]
      · rw [stq_l d, F_X10_parish_L23, td_20, if_pos (show hr t n p < 0 by rw [hr_ge hge]; decide), if_neg one0]
/-! the start -/
def bkP (R S : mm_S) (y : Int32) : Prop := (∀ b', b' ≠ 2 → R.1 b' = S.1 b') ∧ R.2 = S.2 ∧ (∀ i : Nat, (i : Int) < y.toInt → R.1 2 i = S.1 2 i) ∧ (∀ i : Nat, y.toInt ≤ i → i < 37 → R.1 2 i = if 3 ≤ i ∧ i ≤ 23 then 9 else 0)
theorem bk_s {R S : mm_S} {y v : Int32} (cy : (y.toNatClampNeg : Int) = y.toInt) (ty : (y + Int32.ofInt 1).toInt = y.toInt + 1) (hv : v = if 3 ≤ y.toNatClampNeg ∧ y.toNatClampNeg ≤ 23 then 9 else 0) (h : bkP R (mm_up S 2 y.toNatClampNeg v) (y + Int32.ofInt 1)) : bkP R S y := by
  obtain ⟨k1, k2, k3, k4⟩ := h
  refine ⟨fun b' hb => ?_, k2, fun i hi => ?_, fun i h1 h2 => ?_⟩
  · rw [k1 b' hb, up_row hb]
  · rw [k3 i (by omega), up_ne (by omega)]
  · by_cases hi : i = y.toNatClampNeg
    · rw [k3 i (by omega), hi, up_at, hv]
    · exact k4 i (by omega) h2
theorem bk_L : ∀ (N : Nat) (S : mm_S) (y : Int32), mm_b 0 37 y → (37 - y.toInt).toNat < N → bkP (F_X10_blank2_L2 N S y) S y
  | 0, S, y, _, h => absurd h (Nat.not_lt_zero _)
  | N + 1, S, y, hy, h => by
    have cy := pz_cl (x := y) hy.1
    by_cases q : (37 : Int32) ≤ y
    · have q2 : (37 : Int) ≤ y.toInt := Int32.le_iff_toInt_le.mp q
      rw [F_X10_blank2_L2, if_pos q]
      exact ⟨fun _ _ => rfl, rfl, fun _ _ => rfl, fun i h1 h2 => by omega⟩
    · have q2 : y.toInt < 37 := Int32.lt_iff_toInt_lt.mp (bd_nle q)
      have ty : (y + Int32.ofInt 1).toInt = y.toInt + 1 := by rw [pz_of1]; exact pz_ti1 ⟨by omega, by omega⟩
      have eI : F_X10_in S y.toInt64 3 23 = if mm_b 3 23 y then 1 else 0 := m_in (lo := 3) (hi := 23)
      by_cases z : mm_b 3 23 y
      · rw [F_X10_blank2_L2, if_neg q, eI, if_pos z, if_neg one0]
        exact bk_s cy ty (by rw [if_pos ⟨by omega, by omega⟩]) (bk_L N _ _ ⟨by omega, by omega⟩ (by omega))
      · rw [F_X10_blank2_L2, if_neg q, eI, if_neg z, if_pos (show (0 : Int32) = 0 from rfl)]
        exact bk_s cy ty (by rw [if_neg (by omega)]) (bk_L N _ _ ⟨by omega, by omega⟩ (by omega))
theorem bk : (∀ b', b' ≠ 2 → (F_X10_blank2 S2).1 b' = S2.1 b') ∧ (F_X10_blank2 S2).2 = S2.2 ∧ (∀ i : Nat, i < 37 → (F_X10_blank2 S2).1 2 i = if 3 ≤ i ∧ i ≤ 23 then 9 else 0) := by
  obtain ⟨k1, k2, k3, k4⟩ : bkP (F_X10_blank2 S2) S2 0 := bk_L 61 S2 0 (by decide) (by decide)
  exact ⟨k1, k2, fun i hi => k4 i (by show (0 : Int) ≤ i; omega) hi⟩
theorem em_row (ha : 3 ≤ a) {b' : Nat} (hb : b' ≠ a) : (F_X6_empty S1 a).1 b' = S1.1 b' := by
  rw [F_X6_empty, up_row hb, up_row hb, up_row hb, up_row hb]
theorem up_2 {S : mm_S} {x j : Nat} {y : Int32} : (mm_up S x j y).2 = S.2 := by unfold mm_up; rfl
theorem em_2 : (F_X6_empty S1 a).2 = S1.2 := by rw [F_X6_empty, up_2, up_2, up_2, up_2]
theorem pa_B (ha : 3 ≤ a) (hs : S1.1 1 0 = S2.1 0 10) (htx : S1.1 2 = S2.1 8) : Bs a (S1.1 2) (S1.1 1 0) S1 (mm_up S2 0 11 (-1)) (F_X6_empty S1 a) (mm_up (F_X10_blank2 S2) 0 11 (-1)) := by
  obtain ⟨k1, k2, k3⟩ := bk (S2 := S2)
  refine ⟨⟨fun b' hb => em_row ha (by omega), em_2⟩, ⟨fun b' hb => ?_, ?_⟩, ?_, em_row ha (by omega), ?_, ?_⟩
  · funext i
    show (if b' = 0 ∧ i = 11 then (-1 : Int32) else (F_X10_blank2 S2).1 b' i) = if b' = 0 ∧ i = 11 then (-1 : Int32) else S2.1 b' i
    rw [k1 b' hb]
  · rw [up_2, up_2]
    exact k2
  · rw [em_row ha (by omega)]
  · rw [up_ne (by omega), k1 0 (by omega), hs]
  · rw [up_row (by omega), k1 8 (by omega), htx]
theorem pa_D (ha : 3 ≤ a) : Dr a (F_X6_empty S1 a) (mm_up (F_X10_blank2 S2) 0 11 (-1)) := by
  obtain ⟨k1, k2, k3⟩ := bk (S2 := S2)
  have e2 : ∀ i : Nat, i < 37 → (mm_up (F_X10_blank2 S2) 0 11 (-1)).1 2 i = if 3 ≤ i ∧ i ≤ 23 then 9 else 0 := fun i hi => by rw [up_row (by omega), k3 i hi]
  have q0 : (mm_up (F_X10_blank2 S2) 0 11 (-1)).1 2 0 = 0 := e2 0 (by omega)
  have q1 : (mm_up (F_X10_blank2 S2) 0 11 (-1)).1 2 1 = 0 := e2 1 (by omega)
  have q2 : (mm_up (F_X10_blank2 S2) 0 11 (-1)).1 2 2 = 0 := e2 2 (by omega)
  have q24 : (mm_up (F_X10_blank2 S2) 0 11 (-1)).1 2 24 = 0 := e2 24 (by omega)
  have t0 : (0 : Int32).toInt = 0 := rfl
  generalize mm_up (F_X10_blank2 S2) 0 11 (-1) = U at e2 q0 q1 q2 q24 ⊢
  refine ⟨⟨?_, ?_, ?_, ?_⟩, ⟨?_, ?_, ?_⟩, ?_, ?_, ?_, ?_⟩
  · rw [q0, F_X6_empty, up_ne (by omega), up_ne (by omega), up_ne (by omega), up_at]
  · rw [q1, F_X6_empty, up_ne (by omega), up_ne (by omega), up_at]
  · rw [q2, F_X6_empty, up_ne (by omega), up_at]
  · rw [q24, F_X6_empty, up_at]
  · rw [q0]; decide
  · rw [q1]; decide
  · rw [q2]; decide
  · intro p hp
    rw [q0] at hp
    omega
  · intro p h7 hp
    rw [e2 (3 + p) (by omega), e2 (10 + p) (by omega), e2 (17 + p) (by omega), if_pos (by omega), if_pos (by omega), if_pos (by omega)]
    exact ⟨rfl, rfl, rfl⟩
  · intro p hp
    rw [q1] at hp
    omega
  · intro p hp
    rw [q2] at hp
    omega
theorem pa_c {E : mm_S} (hE : F_X6_empty S1 a = E) (h1 : E.1 1 0 = n) (h2 : E.1 2 = t) : F_X8_readInto S1 a = F_X8_readInto_L25 a 242 (rd E 0 (-1) (sk t n 0) (E.1 1 4)) 0 := by
  have e : mm_up (mm_up (mm_up E 1 3 0) 1 1 0) 1 2 (-1) = rd E 0 (-1) 0 (E.1 1 4) := by
    have z : E = rd E (E.1 1 1) (E.1 1 2) (E.1 1 3) (E.1 1 4) := rd_eta.symm
    have z2 : mm_up (mm_up (mm_up E 1 3 0) 1 1 0) 1 2 (-1) = mm_up (mm_up (mm_up (rd E (E.1 1 1) (E.1 1 2) (E.1 1 3) (E.1 1 4)) 1 3 0) 1 1 0) 1 2 (-1) := congrArg (fun X => mm_up (mm_up (mm_up X 1 3 0) 1 1 0) 1 2 (-1)) z
    rw [z2, rd_up3, rd_up1, rd_up2]
  rw [F_X8_readInto, hE, F_X8_readInto_c4, e, F_X8_readInto_c4u20, c_sk, h1, h2, F_X8_readInto_c4u20c23]
theorem pa_m {U : mm_S} (hU : mm_up (F_X10_blank2 S2) 0 11 (-1) = U) {X : mm_S} (h : Bs a t n S1 X B1 U) (hn : pz_p n) : F_X10_parish S2 = F_X10_parish_L23 245 (stq t n U (U.1 0 23) (sk t n 0)) 1 := by
  have hc : mm_up (mm_up (F_X10_blank2 S2) 0 18 0) 0 11 (-1) = td U 0 (U.1 0 19) (U.1 0 20) (U.1 0 21) (U.1 0 22) (U.1 0 23) := by
    rw [← td_up18 (S := U) (p := U.1 0 18), td_eta, ← hU]
    refine Prod.ext (funext fun x => funext fun i => ?_) rfl
    show (if x = 0 ∧ i = 11 then (-1 : Int32) else if x = 0 ∧ i = 18 then 0 else (F_X10_blank2 S2).1 x i) = (if x = 0 ∧ i = 18 then (0 : Int32) else if x = 0 ∧ i = 11 then (-1 : Int32) else (F_X10_blank2 S2).1 x i)
    by_cases h1 : x = 0 ∧ i = 11
    · rw [if_pos h1, if_neg (show ¬ (x = 0 ∧ i = 18) by omega), if_pos h1]
    · rw [if_neg h1, if_neg h1]
  rw [F_X10_parish, F_X10_parish_c7, hc, F_X10_parish_c7u20, tk_2 h hn (by decide), F_X10_parish_c7u20c23]
/-- the parse: what both come to -/
theorem parse (ha : 3 ≤ a) (hs : S1.1 1 0 = S2.1 0 10) (htx : S1.1 2 = S2.1 8) (hn : pz_p (S1.1 1 0)) (ht : ∀ j : Nat, j < 240 → 0 ≤ (S1.1 2 j).toInt) :
    (∃ (C1 C2 : mm_S) (c' m' q' b' s' g' v' w' : Int32), F_X8_readInto S1 a = (1, rd (mm_up C1 1 0 0) 0 (-1) c' m') ∧ F_X10_parish S2 = F_X10_parish_L23ttu87 (mm_up (td C2 q' b' s' g' v' w') 0 10 0) ∧ Dr a C1 C2 ∧ Bs a (S1.1 2) (S1.1 1 0) S1 (mm_up S2 0 11 (-1)) C1 C2) ∨
    (∃ (C1 C2 : mm_S) (k c' m' q' b' s' g' v' : Int32), F_X8_readInto S1 a = (0, rd (mm_up C1 1 0 0) k b' c' m') ∧ F_X10_parish S2 = (-10 - k, mm_up (mm_up (td C2 q' b' s' g' v' k) 0 10 0) 0 11 b') ∧ ¬ k = 0 ∧ Bs a (S1.1 2) (S1.1 1 0) S1 (mm_up S2 0 11 (-1)) C1 C2) := by
  have hB := pa_B ha hs htx
  have D := pa_D (S1 := S1) (S2 := S2) ha
  have z0 : pz_p 0 := by decide
  have b1 := skb (t := S1.1 2) hn z0
  have ec := pa_c (S1 := S1) (a := a) rfl hB.2.2.1 hB.2.2.2.1
  have em := pa_m (S2 := S2) rfl hB hn
  generalize F_X6_empty S1 a = E at hB D ec
  generalize mm_up (F_X10_blank2 S2) 0 11 (-1) = U at hB D em
  have t0 : (0 : Int32).toInt = 0 := rfl
  rw [ec, em]
  exact lp_all ha hn ht 242 245 E U (sk (S1.1 2) (S1.1 1 0) 0) (E.1 1 4) (U.1 0 23) 0 D hB b1.1 (by omega) (by omega) (Int.le_refl _) (by omega)
end LPs
