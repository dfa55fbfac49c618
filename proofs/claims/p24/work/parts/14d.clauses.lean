/-! ===== doors, parts, wills ===== -/
section CL2
variable {a : Nat} {t : Nat → Int32} {n : Int32} {S1 S2 B1 B2 : mm_S} {f c m b s g v w x : Int32}
theorem Dr_door (ha : 3 ≤ a) (D : Dr a B1 B2) (hp : B2.1 2 1 < 6) {P : Int32} (e : B2.1 2 1 = P) : Dr a (mm_up (mm_up B1 (a + 4) P.toNatClampNeg v) a 1 (P + 1)) (mm_up (mm_up B2 2 1 (P + 1)) 2 (25 + P).toNatClampNeg v) := by
  obtain ⟨⟨d1, d2, d3, d4⟩, ⟨d5, d6, d7⟩, d8, d9, d10, d11⟩ := D
  rw [e] at d2 d6 d10 hp
  have hp7 : P.toInt < 6 := Int32.lt_iff_toInt_lt.mp hp
  have cP := pz_cl (x := P) d6.1
  have c3 : (25 + P).toNatClampNeg = 25 + P.toNatClampNeg := pz_addc (by decide) ⟨d6.1, by omega⟩
  have tP : (P + 1).toInt = P.toInt + 1 := pz_ti1 ⟨by omega, by omega⟩
  rw [c3]
  generalize P.toNatClampNeg = N at cP ⊢
  have r0 : (mm_up (mm_up B2 2 1 (P + 1)) 2 (25 + N) v).1 2 1 = P + 1 := by rw [up_ne (by omega), up_at]
  have ro : ∀ i, i ≠ 1 → i ≠ 25 + N → (mm_up (mm_up B2 2 1 (P + 1)) 2 (25 + N) v).1 2 i = B2.1 2 i := fun i h0 h3 => by rw [up_ne (by omega), up_ne (by omega)]
  have rv : (mm_up (mm_up B2 2 1 (P + 1)) 2 (25 + N) v).1 2 (25 + N) = v := up_at
  generalize mm_up (mm_up B2 2 1 (P + 1)) 2 (25 + N) v = C2 at r0 ro rv ⊢
  have rb : ∀ x i, ¬ (x = a ∧ i = 1) → ¬ (x = a + 4 ∧ i = N) → (mm_up (mm_up B1 (a + 4) N v) a 1 (P + 1)).1 x i = B1.1 x i := fun x i h0 h3 => by rw [up_ne h0, up_ne h3]
  have r1 : (mm_up (mm_up B1 (a + 4) N v) a 1 (P + 1)).1 a 1 = P + 1 := up_at
  have r4 : (mm_up (mm_up B1 (a + 4) N v) a 1 (P + 1)).1 (a + 4) N = v := by rw [up_ne (by omega), up_at]
  generalize mm_up (mm_up B1 (a + 4) N v) a 1 (P + 1) = C1 at rb r1 r4 ⊢
  refine ⟨⟨?_, ?_, ?_, ?_⟩, ⟨?_, ?_, ?_⟩, ?_, ?_, ?_, ?_⟩
  · rw [rb a 0 (by omega) (by omega), ro 0 (by omega) (by omega)]
    exact d1
  · rw [r1, r0]
  · rw [rb a 2 (by omega) (by omega), ro 2 (by omega) (by omega)]
    exact d3
  · rw [rb a 3 (by omega) (by omega), ro 24 (by omega) (by omega)]
    exact d4
  · rw [ro 0 (by omega) (by omega)]
    exact d5
  · rw [r0]
    exact ⟨by omega, by omega⟩
  · rw [ro 2 (by omega) (by omega)]
    exact d7
  · intro p hp2
    rw [ro 0 (by omega) (by omega)] at hp2
    rw [rb (a + 1) p (by omega) (by omega), rb (a + 2) p (by omega) (by omega), rb (a + 3) p (by omega) (by omega), ro (3 + p) (by omega) (by omega), ro (10 + p) (by omega) (by omega), ro (17 + p) (by omega) (by omega)]
    exact d8 p hp2
  · intro p h7 hp2
    rw [ro 0 (by omega) (by omega)] at hp2
    rw [ro (3 + p) (by omega) (by omega), ro (10 + p) (by omega) (by omega), ro (17 + p) (by omega) (by omega)]
    exact d9 p h7 hp2
  · intro p hp2
    rw [r0, tP] at hp2
    by_cases hN : p = N
    · rw [hN, rv, r4]
    · rw [ro (25 + p) (by omega) (by omega), rb (a + 4) p (by omega) (by omega)]
      exact d10 p (by omega)
  · intro p hp2
    rw [ro 2 (by omega) (by omega)] at hp2
    rw [ro (31 + p) (by omega) (by omega), rb (a + 5) p (by omega) (by omega)]
    exact d11 p hp2
theorem cl_door (ha : 3 ≤ a) (D : Dr a B1 B2) (h : Bs a t n S1 S2 B1 B2) (hn : pz_p n) (hc : pz_p c) (hl : c < n) : Oc a t n S1 S2 f c (F_X8_readDoor (rd B1 0 f c m) a) (F_X10_readsDoor (td B2 (c + 1) c s g v w)) := by
  have e1 : (rd B1 0 f c m).1 a 1 = B2.1 2 1 := by rw [rd_row (by omega)]; exact D.1.2.1
  obtain ⟨h1, h2⟩ := pz_nx hn hc hl
  have b7 := D.2.1.2.1
  rw [F_X8_readDoor, F_X10_readsDoor, e1, rd_3, rd_up3, td_2, m_fl]
  by_cases hp : B2.1 2 1 < 6
  · have hne : ¬ B2.1 2 1 = 6 := fun q => by rw [q] at hp; exact absurd hp (by decide)
    rw [if_pos hp, if_neg hne, F_X8_readDoor_tu32, F_X10_readsDoor_tu37, td_upo (by decide), nu_d]
    rcases nu (f := f) (m := m) (b := c) (s := s) (g := g) (v := v) (w := w) (x := 127) (Bs_2 (j := 1) (v := B2.1 2 1 + 1) h) hn h1 (25 + B2.1 2 1) (by decide) with ⟨k, p, e, q', s', g', v', r1, r2, hk⟩ | ⟨p, e, g', v', r1, r2, hv, he, hle⟩
    · rw [r1, r2]
      show Oc a t n S1 S2 f c (F_X8_readDoor_tu32c35 (rd B1 k p e p) a (-1)) (F_X10_readsDoor_tu37c40 0 (td (mm_up B2 2 1 (B2.1 2 1 + 1)) q' p s' g' v' k))
      rw [F_X8_readDoor_tu32c35, c_rsk hk, F_X10_readsDoor_tu37c40, if_pos rfl]
      show Oc a t n S1 S2 f c (F_X8_readDoor_tu32c35c42 0 (rd B1 k p e p) a (-1)) _
      rw [F_X8_readDoor_tu32c35c42, if_pos rfl]
      exact Or.inr ⟨_, _, k, p, _, _, _, _, _, _, rfl, rfl, hk, Bs_2 h⟩
    · rw [r1, r2]
      show Oc a t n S1 S2 f c (F_X8_readDoor_tu32c35 (rd B1 0 f e p) a v') (F_X10_readsDoor_tu37c40 1 (td (mm_up (mm_up B2 2 1 (B2.1 2 1 + 1)) 2 (25 + B2.1 2 1).toNatClampNeg v') e p 48 g' v' w))
      rw [F_X8_readDoor_tu32c35, F_X10_readsDoor_tu37c40, if_neg (by decide)]
      rcases en (f := f) (m := p) (b := p) (s := 48) (g := g') (v := v') (w := w) (Bs_2 (j := (25 + B2.1 2 1).toNatClampNeg) (v := v') (Bs_2 (j := 1) (v := B2.1 2 1 + 1) h)) hn he with ⟨e2, p2, q1, q2, q3, q4⟩ | ⟨p2, q', s', g2, v2, q1, q2⟩
      · rw [q1, q2]
        show Oc a t n S1 S2 f c (F_X8_readDoor_tu32c35c42 1 (rd B1 0 f e2 p) a v') (F_X10_readsDoor_tu37c40fc47 1 (td (mm_up (mm_up B2 2 1 (B2.1 2 1 + 1)) 2 (25 + B2.1 2 1).toNatClampNeg v') e2 p2 59 0 0 w))
        rw [F_X8_readDoor_tu32c35c42, if_neg (by decide), F_X8_readDoor_tu32c35c42fc50, F_X10_readsDoor_tu37c40fc47, if_neg (by decide), F_X6_addDoor]
        have e3 : (rd B1 0 f e2 p).1 a 1 = B2.1 2 1 := by rw [rd_row (by omega)]; exact D.1.2.1
        rw [e3, if_neg (fun q => lt_no hp q), rd_upo (by omega), rd_upo (by omega)]
        refine Or.inl ⟨_, _, e2, p, p2, 59, 0, 0, w, rfl, rfl, Dr_door ha D hp rfl, ?_, by omega, q4⟩
        exact Bs_1 ha (Bs_1 ha (Bs_2 (Bs_2 h)) ⟨by omega, by omega⟩) ⟨by omega, by omega⟩
      · rw [q1, q2]
        show Oc a t n S1 S2 f c (F_X8_readDoor_tu32c35c42 0 (rd B1 1 p2 p2 p) a v') (F_X10_readsDoor_tu37c40fc47 0 (td (mm_up (mm_up B2 2 1 (B2.1 2 1 + 1)) 2 (25 + B2.1 2 1).toNatClampNeg v') q' p2 s' g2 v2 1))
        rw [F_X8_readDoor_tu32c35c42, if_pos rfl, F_X10_readsDoor_tu37c40fc47, if_pos rfl]
        exact Or.inr ⟨_, _, 1, p2, _, _, _, _, _, _, rfl, rfl, by decide, Bs_2 (Bs_2 h)⟩
  · have heq : B2.1 2 1 = 6 := Int32.toInt_inj.mp (by have z : 6 ≤ (B2.1 2 1).toInt := Int32.le_iff_toInt_le.mp (bd_nlt hp); show (B2.1 2 1).toInt = 6; omega)
    rw [if_neg hp, if_pos heq, c_bl0, F_X8_readDoor_tu32c35c42fc50, F_X10_readsDoor_fc18]
    exact Or.inr ⟨_, _, 3, c, _, _, _, _, _, _, rfl, rfl, by decide, h⟩
/-! parts -/
theorem Dr_part (ha : 3 ≤ a) (D : Dr a B1 B2) (hp : B2.1 2 2 < 6) {P : Int32} (e : B2.1 2 2 = P) : Dr a (mm_up (mm_up B1 (a + 5) P.toNatClampNeg v) a 2 (P + 1)) (mm_up (mm_up B2 2 (31 + P).toNatClampNeg v) 2 2 (P + 1)) := by
  obtain ⟨⟨d1, d2, d3, d4⟩, ⟨d5, d6, d7⟩, d8, d9, d10, d11⟩ := D
  rw [e] at d3 d7 d11 hp
  have hp7 : P.toInt < 6 := Int32.lt_iff_toInt_lt.mp hp
  have cP := pz_cl (x := P) d7.1
  have c3 : (31 + P).toNatClampNeg = 31 + P.toNatClampNeg := pz_addc (by decide) ⟨d7.1, by omega⟩
  have tP : (P + 1).toInt = P.toInt + 1 := pz_ti1 ⟨by omega, by omega⟩
  rw [c3]
  generalize P.toNatClampNeg = N at cP ⊢
  have r0 : (mm_up (mm_up B2 2 (31 + N) v) 2 2 (P + 1)).1 2 2 = P + 1 := up_at
  have ro : ∀ i, i ≠ 2 → i ≠ 31 + N → (mm_up (mm_up B2 2 (31 + N) v) 2 2 (P + 1)).1 2 i = B2.1 2 i := fun i h0 h3 => by rw [up_ne (by omega), up_ne (by omega)]
  have rv : (mm_up (mm_up B2 2 (31 + N) v) 2 2 (P + 1)).1 2 (31 + N) = v := by rw [up_ne (by omega), up_at]
  generalize mm_up (mm_up B2 2 (31 + N) v) 2 2 (P + 1) = C2 at r0 ro rv ⊢
  have rb : ∀ x i, ¬ (x = a ∧ i = 2) → ¬ (x = a + 5 ∧ i = N) → (mm_up (mm_up B1 (a + 5) N v) a 2 (P + 1)).1 x i = B1.1 x i := fun x i h0 h3 => by rw [up_ne h0, up_ne h3]
  have r1 : (mm_up (mm_up B1 (a + 5) N v) a 2 (P + 1)).1 a 2 = P + 1 := up_at
  have r4 : (mm_up (mm_up B1 (a + 5) N v) a 2 (P + 1)).1 (a + 5) N = v := by rw [up_ne (by omega), up_at]
  generalize mm_up (mm_up B1 (a + 5) N v) a 2 (P + 1) = C1 at rb r1 r4 ⊢
  refine ⟨⟨?_, ?_, ?_, ?_⟩, ⟨?_, ?_, ?_⟩, ?_, ?_, ?_, ?_⟩
  · rw [rb a 0 (by omega) (by omega), ro 0 (by omega) (by omega)]
    exact d1
  · rw [rb a 1 (by omega) (by omega), ro 1 (by omega) (by omega)]
    exact d2
  · rw [r1, r0]
  · rw [rb a 3 (by omega) (by omega), ro 24 (by omega) (by omega)]
    exact d4
  · rw [ro 0 (by omega) (by omega)]
    exact d5
  · rw [ro 1 (by omega) (by omega)]
    exact d6
  · rw [r0]
    exact ⟨by omega, by omega⟩
  · intro p hp2
    rw [ro 0 (by omega) (by omega)] at hp2
    rw [rb (a + 1) p (by omega) (by omega), rb (a + 2) p (by omega) (by omega), rb (a + 3) p (by omega) (by omega), ro (3 + p) (by omega) (by omega), ro (10 + p) (by omega) (by omega), ro (17 + p) (by omega) (by omega)]
    exact d8 p hp2
  · intro p h7 hp2
    rw [ro 0 (by omega) (by omega)] at hp2
    rw [ro (3 + p) (by omega) (by omega), ro (10 + p) (by omega) (by omega), ro (17 + p) (by omega) (by omega)]
    exact d9 p h7 hp2
  · intro p hp2
    rw [ro 1 (by omega) (by omega)] at hp2
    rw [ro (25 + p) (by omega) (by omega), rb (a + 4) p (by omega) (by omega)]
    exact d10 p hp2
  · intro p hp2
    rw [r0, tP] at hp2
    by_cases hN : p = N
    · rw [hN, rv, r4]
    · rw [ro (31 + p) (by omega) (by omega), rb (a + 5) p (by omega) (by omega)]
      exact d11 p (by omega)
/-- behind a fault the choir reads on to no end -/
theorem ch_bad (ha : 3 ≤ a) {k : Int32} (hk : ¬ k = 0) (N : Nat) (y : Int32) : F_X8_readChoir_L39 a (N + 1) (rd B1 k f c m) y = rd B1 k f c m := by
  rw [F_X8_readChoir_L39]
  split
  · rw [c_rsk hk, F_X8_readChoir_L39tc86]
  · rw [c_ink hk, F_X8_readChoir_L39fc51, if_pos rfl, c_rsk hk, F_X8_readChoir_L39tc86]
theorem ch_add (ha : 3 ≤ a) {k v : Int32} : ∃ C1, F_X6_addPart (rd B1 k f c m) a v = rd C1 k f c m ∧ (∀ B2, Bs a t n S1 S2 B1 B2 → Bs a t n S1 S2 C1 B2) := by
  rw [F_X6_addPart]
  split
  · exact ⟨B1, rfl, fun _ h => h⟩
  · rw [rd_upo (by omega), rd_upo (by omega)]
    exact ⟨_, rfl, fun _ h => Bs_1 ha (Bs_1 ha h ⟨by omega, by omega⟩) ⟨by omega, by omega⟩⟩
/-- from a number of a part on: k parts stand, N rounds are left on both sides -/
theorem ch_L (ha : 3 ≤ a) (hn : pz_p n) : ∀ (N M : Nat) (B1 B2 : mm_S) (c m b s g v w : Int32), Dr a B1 B2 → Bs a t n S1 S2 B1 B2 → pz_p c → B2.1 2 2 < 6 → (6 - (B2.1 2 2).toInt).toNat ≤ N → (6 - (B2.1 2 2).toInt).toNat ≤ M → ∀ y : Int32, y.toInt = (B2.1 2 2).toInt + 1 → ∀ c0 : Int32, c0.toInt < c.toInt →
    Oc a t n S1 S2 f c0 (F_X8_readChoir_L39 a (N + 1) (F_X6_addPart (F_X8_readNumber (rd B1 0 f c m) 8).2 a (F_X8_readNumber (rd B1 0 f c m) 8).1) y) (F_X10_readsParts_L15 (M + 1) (td B2 c b s g v w)) := by
  intro N
  induction N with
  | zero =>
    intro M B1 B2 c m b s g v w D h hc hp hN
    have := Int32.lt_iff_toInt_lt.mp hp
    have : (B2.1 2 2).toInt < 6 := this
    omega
  | succ N ih =>
    intro M B1 B2 c m b s g v w D h hc hp hN hM y hy c0 hc0
    have hp6 : (B2.1 2 2).toInt < 6 := Int32.lt_iff_toInt_lt.mp hp
    have d7 := D.2.1.2.2
    rw [F_X10_readsParts_L15, td_2, nu_p]
    rcases nu (f := f) (m := m) (b := b) (s := s) (g := g) (v := v) (w := w) (x := 8) h hn hc (31 + B2.1 2 2) (by decide) with ⟨k, p, e, q', s', g', v', r1, r2, hk⟩ | ⟨p, e, g', v', r1, r2, hv, he, hle⟩
    · rw [r1, r2]
      show Oc a t n S1 S2 f c0 (F_X8_readChoir_L39 a (N + 1 + 1) (F_X6_addPart (rd B1 k p e p) a (-1)) y) (F_X10_readsParts_L15c31 0 (td B2 q' p s' g' v' k) _ _)
      obtain ⟨C1, hC, hB⟩ := ch_add (B1 := B1) (f := p) (c := e) (m := p) (t := t) (n := n) (S1 := S1) (S2 := S2) ha (k := k) (v := -1)
      rw [hC, ch_bad ha hk, F_X10_readsParts_L15c31, if_pos rfl]
      exact Or.inr ⟨_, _, k, p, _, _, _, _, _, _, rfl, rfl, hk, hB _ h⟩
    · rw [r1, r2]
      show Oc a t n S1 S2 f c0 (F_X8_readChoir_L39 a (N + 1 + 1) (F_X6_addPart (rd B1 0 f e p) a v') y) (F_X10_readsParts_L15c31 1 (td (mm_up B2 2 (31 + B2.1 2 2).toNatClampNeg v') e p 48 g' v' w) (B2.1 2 2) _)
      rw [F_X10_readsParts_L15c31, if_neg (by decide), F_X10_readsParts_L15c31fu45, td_upo (by decide), F_X6_addPart]
      have e3 : (rd B1 0 f e p).1 a 2 = B2.1 2 2 := by rw [rd_row (by omega)]; exact D.1.2.2.1
      rw [e3, if_neg (fun q => lt_no hp q), rd_upo (by omega), rd_upo (by omega)]
      have D' := Dr_part (v := v') ha D hp rfl
      have h' : Bs a t n S1 S2 (mm_up (mm_up B1 (a + 5) (B2.1 2 2).toNatClampNeg v') a 2 (B2.1 2 2 + 1)) (mm_up (mm_up B2 2 (31 + B2.1 2 2).toNatClampNeg v') 2 2 (B2.1 2 2 + 1)) := Bs_1 ha (Bs_1 ha (Bs_2 (Bs_2 h)) ⟨by omega, by omega⟩) ⟨by omega, by omega⟩
      have tP : (B2.1 2 2 + 1).toInt = (B2.1 2 2).toInt + 1 := pz_ti1 ⟨by omega, by omega⟩
      have r22 : (mm_up (mm_up B2 2 (31 + B2.1 2 2).toNatClampNeg v') 2 2 (B2.1 2 2 + 1)).1 2 2 = B2.1 2 2 + 1 := up_at
      generalize B2.1 2 2 = P at *
      generalize mm_up (mm_up B2 2 (31 + P).toNatClampNeg v') 2 2 (P + 1) = C2 at *
      generalize mm_up (mm_up B1 (a + 5) P.toNatClampNeg v') a 2 (P + 1) = C1 at *
      rw [tk_2 h' hn he]
      obtain ⟨hb, hle2⟩ := skb (t := t) hn he
      have hyP : y = P + 1 := Int32.toInt_inj.mp (by omega)
      rw [F_X8_readChoir_L39]
      -- what stands behind the number
      have fin : ¬ hr t n (sk t n e) = 44 ∨ (6 : Int32) ≤ y → Oc a t n S1 S2 f c0 (F_X8_readChoir_L39tc86 (F_X8_readSign (rd C1 0 f e p) 59).2) (F_X10_readsParts_L15c31fu45c48 (stq t n C2 w (sk t n e)) (P + 1) (F_X10_readsParts_L15 M)) := by
        intro hz
        rw [tk_s h', F_X8_readChoir_L39tc86]
        by_cases d : hr t n (sk t n e) = 59
        · have d2 : ¬ mm_b 48 57 (hr t n (sk t n e)) := by rw [d]; decide
          obtain ⟨h1, h2⟩ := pz_nx hn hb (hr_lt (t := t) (by rw [d]; decide))
          rw [if_pos d, stq_l d2, F_X10_readsParts_L15c31fu45c48, td_20, if_pos d, d]
          exact Or.inl ⟨_, _, _, p, _, _, _, _, w, rfl, rfl, D', h', by show c0.toInt < (sk t n e + 1).toInt; omega, h1⟩
        · rw [if_neg d]
          by_cases d2 : mm_b 48 57 (hr t n (sk t n e))
          · rw [stq_d d2, F_X10_readsParts_L15c31fu45c48, td_20, if_neg (by decide), if_neg (by decide), m_fl, F_X10_readsParts_L15c31fu45c48ttc84]
            exact Or.inr ⟨_, _, 1, _, _, _, _, _, _, _, rfl, rfl, by decide, h'⟩
          · rw [stq_l d2, F_X10_readsParts_L15c31fu45c48, td_20, if_neg d, m_fl, F_X10_readsParts_L15c31fu45c48ttc84]
            by_cases d4 : hr t n (sk t n e) = 44
            · have hP6 : P + 1 = 6 := by
                have : (6 : Int) ≤ y.toInt := Int32.le_iff_toInt_le.mp (hz.resolve_left (fun q => q d4))
                exact Int32.toInt_inj.mp (by show (P + 1).toInt = 6; omega)
              rw [if_pos d4, if_pos hP6]
              exact Or.inr ⟨_, _, 1, _, _, _, _, _, _, _, rfl, rfl, by decide, h'⟩
            · rw [if_neg d4]
              exact Or.inr ⟨_, _, 1, _, _, _, _, _, _, _, rfl, rfl, by decide, h'⟩
      by_cases hy6 : (6 : Int32) ≤ y
      · rw [if_pos hy6]
        exact fin (Or.inr hy6)
      · rw [if_neg hy6, tk_i h']
        by_cases d4 : hr t n (sk t n e) = 44
        · rw [if_pos d4]
          show Oc a t n S1 S2 f c0 (F_X8_readChoir_L39fc51 1 (rd C1 0 f (sk t n e) p) (F_X8_readChoir_L39 a (N + 1)) a y) _
          have d2 : ¬ mm_b 48 57 (hr t n (sk t n e)) := by rw [d4]; decide
          obtain ⟨h1, h2⟩ := pz_nx hn hb (hr_lt (t := t) (by rw [d4]; decide))
          have hy5 : y.toInt < 6 := Int32.lt_iff_toInt_lt.mp (bd_nle hy6)
          have hP6 : ¬ P + 1 = 6 := fun q => by rw [q] at tP; have : (6 : Int32).toInt = 6 := rfl; omega
          rw [F_X8_readChoir_L39fc51, if_neg (by decide), F_X8_readChoir_L39fc51fu68, F_X8_readChoir_L39fc51fu68c71, F_X8_readChoir_L39fc51fu68c71c74, rd_up3, rd_3, stq_l d2, F_X10_readsParts_L15c31fu45c48, td_20, d4, if_neg (by decide), if_pos rfl, if_neg hP6]
          obtain ⟨M, rfl⟩ : ∃ M', M = M' + 1 := ⟨M - 1, by omega⟩
          have ty : (y + Int32.ofInt 1).toInt = y.toInt + 1 := by rw [pz_of1]; exact pz_ti1 ⟨by omega, by omega⟩
          exact ih M C1 C2 (sk t n e + 1) p (sk t n e) 44 0 0 w D' h' h1 (by rw [r22]; exact Int32.lt_iff_toInt_lt.mpr (by show (P + 1).toInt < 6; omega)) (by rw [r22]; omega) (by rw [r22]; omega) (y + Int32.ofInt 1) (by rw [r22]; omega) c0 (by omega)
        · rw [if_neg d4]
          show Oc a t n S1 S2 f c0 (F_X8_readChoir_L39fc51 0 (rd C1 0 f (sk t n e) p) (F_X8_readChoir_L39 a (N + 1)) a y) _
          rw [F_X8_readChoir_L39fc51, if_pos rfl]
          have z := fin (Or.inl d4)
          rw [tk_s h'] at z ⊢
          rw [sk_sk hn he]
          exact z
end CL2
