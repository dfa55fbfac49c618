/-! ===== clauses: the class beside the reference ===== -/
theorem pz_cl {x : Int32} (h : 0 ≤ x.toInt) : (x.toNatClampNeg : Int) = x.toInt := by
  show ((x.toInt.toNat : Nat) : Int) = x.toInt
  omega
theorem pz_addc {c P : Int32} (hc : mm_b 0 1000 c) (hP : mm_b 0 1000 P) : (c + P).toNatClampNeg = c.toNatClampNeg + P.toNatClampNeg := by
  have e : (c + P).toInt = c.toInt + P.toInt := bd_ti_add (by omega) (by omega)
  show (c + P).toInt.toNat = c.toInt.toNat + P.toInt.toNat
  omega
/-- what was read so far -/
def Dr (a : Nat) (B1 B2 : mm_S) : Prop :=
  (B1.1 a 0 = B2.1 2 0 ∧ B1.1 a 1 = B2.1 2 1 ∧ B1.1 a 2 = B2.1 2 2 ∧ B1.1 a 3 = B2.1 2 24) ∧
  (mm_b 0 7 (B2.1 2 0) ∧ mm_b 0 6 (B2.1 2 1) ∧ mm_b 0 6 (B2.1 2 2)) ∧
  (∀ p : Nat, (p : Int) < (B2.1 2 0).toInt → B1.1 (a + 1) p = B2.1 2 (3 + p) ∧ B1.1 (a + 2) p = B2.1 2 (10 + p) ∧ B1.1 (a + 3) p = B2.1 2 (17 + p)) ∧
  (∀ p : Nat, p < 7 → (B2.1 2 0).toInt ≤ p → B2.1 2 (3 + p) = 9 ∧ B2.1 2 (10 + p) = 9 ∧ B2.1 2 (17 + p) = 9) ∧
  (∀ p : Nat, (p : Int) < (B2.1 2 1).toInt → B1.1 (a + 4) p = B2.1 2 (25 + p)) ∧
  (∀ p : Nat, (p : Int) < (B2.1 2 2).toInt → B1.1 (a + 5) p = B2.1 2 (31 + p))
/-- the bases: nothing but the draft differs from the start -/
def Bs (a : Nat) (t : Nat → Int32) (n : Int32) (S1 S2 B1 B2 : mm_S) : Prop :=
  ((∀ b, ¬ (a ≤ b ∧ b ≤ a + 5) → B1.1 b = S1.1 b) ∧ B1.2 = S1.2) ∧ ((∀ b, b ≠ 2 → B2.1 b = S2.1 b) ∧ B2.2 = S2.2) ∧ B1.1 1 0 = n ∧ B1.1 2 = t ∧ B2.1 0 10 = n ∧ B2.1 8 = t
theorem Bs_1 {a : Nat} {t : Nat → Int32} {n : Int32} {S1 S2 B1 B2 : mm_S} (ha : 3 ≤ a) (h : Bs a t n S1 S2 B1 B2) {x j : Nat} {v : Int32} (hx : a ≤ x ∧ x ≤ a + 5) : Bs a t n S1 S2 (mm_up B1 x j v) B2 := by
  obtain ⟨⟨h1, h2⟩, h3, h4, h5, h6⟩ := h
  refine ⟨⟨fun b hb => ?_, h2⟩, h3, ?_, ?_, h6⟩
  · rw [up_row (b := b) (a := x) (fun q => hb (by rw [q]; exact hx))]
    exact h1 b hb
  · rw [up_ne (by omega)]
    exact h4
  · rw [up_row (by omega)]
    exact h5
theorem Bs_2 {a : Nat} {t : Nat → Int32} {n : Int32} {S1 S2 B1 B2 : mm_S} (h : Bs a t n S1 S2 B1 B2) {j : Nat} {v : Int32} : Bs a t n S1 S2 B1 (mm_up B2 2 j v) := by
  obtain ⟨h1, ⟨h2, h3⟩, h4, h5, h6, h7⟩ := h
  refine ⟨h1, ⟨fun b hb => ?_, h3⟩, h4, h5, ?_, ?_⟩
  · rw [up_row hb]
    exact h2 b hb
  · rw [up_ne (by omega)]
    exact h6
  · rw [up_row (by omega)]
    exact h7
/-- what a clause comes to -/
def Oc (a : Nat) (t : Nat → Int32) (n : Int32) (S1 S2 : mm_S) (f c : Int32) (R1 : mm_S) (R2 : Int32 × mm_S) : Prop :=
  (∃ (B1 B2 : mm_S) (c' m' b' s' g' v' w' : Int32), R1 = rd B1 0 f c' m' ∧ R2 = (1, td B2 c' b' s' g' v' w') ∧ Dr a B1 B2 ∧ Bs a t n S1 S2 B1 B2 ∧ c.toInt < c'.toInt ∧ pz_p c') ∨
  (∃ (B1 B2 : mm_S) (k b' c' m' q' s' g' v' : Int32), R1 = rd B1 k b' c' m' ∧ R2 = (0, td B2 q' b' s' g' v' k) ∧ ¬ k = 0 ∧ Bs a t n S1 S2 B1 B2)
section CL
variable {a : Nat} {t : Nat → Int32} {n : Int32} {S1 S2 B1 B2 : mm_S} {f c m b s g v w x : Int32}
/-! tokens, both sides -/
theorem tk_1 (h : Bs a t n S1 S2 B1 B2) (hn : pz_p n) (hc : pz_p c) : F_X8_readNumber (rd B1 0 f c m) x = rnE B1 f (sk t n c) x (nm t n (sk t n c)) := by
  obtain ⟨-, -, h4, h5, -, -⟩ := h
  have e := c_rn0 (S := B1) (f := f) (a := c) (m := m) (x := x) (by rw [h4]; exact hn) hc
  rw [h4, h5] at e
  exact e
theorem tk_s (h : Bs a t n S1 S2 B1 B2) : F_X8_readSign (rd B1 0 f c m) x = if hr t n (sk t n c) = x then (1, rd B1 0 f (sk t n c + 1) m) else (0, rd B1 1 (sk t n c) (sk t n c) m) := by
  obtain ⟨-, -, h4, h5, -, -⟩ := h
  have e := c_rs0 (S := B1) (f := f) (a := c) (m := m) (x := x)
  rw [h4, h5] at e
  exact e
theorem tk_i (h : Bs a t n S1 S2 B1 B2) : F_X8_isNext (rd B1 0 f c m) x = (if hr t n (sk t n c) = x then 1 else 0, rd B1 0 f (sk t n c) m) := by
  obtain ⟨-, -, h4, h5, -, -⟩ := h
  have e := c_in0 (S := B1) (f := f) (a := c) (m := m) (x := x)
  rw [h4, h5] at e
  exact e
def stq (t : Nat → Int32) (n : Int32) (S : mm_S) (w q : Int32) : mm_S := if mm_b 48 57 (hr t n q) then td S (nm t n q).1 q 48 (nm t n q).2.1 (nm t n q).2.2 w else td S (q + if 0 ≤ hr t n q then 1 else 0) q (hr t n q) 0 0 w
theorem tk_2 (h : Bs a t n S1 S2 B1 B2) (hn : pz_p n) (hc : pz_p c) : F_X10_step (td B2 c b s g v w) = stq t n B2 w (sk t n c) := by
  obtain ⟨-, -, -, -, h6, h7⟩ := h
  have e := m_st (S := B2) (p := c) (b := b) (s := s) (f := g) (v := v) (w := w) (by rw [h6]; exact hn) hc
  rw [e, stp, stq, h6, h7]
theorem skb (hn : pz_p n) (hc : pz_p c) : pz_p (sk t n c) ∧ c.toInt ≤ (sk t n c).toInt := skp_b hn 242 c hc
theorem stq_d {q : Int32} (h : mm_b 48 57 (hr t n q)) : stq t n B2 w q = td B2 (nm t n q).1 q 48 (nm t n q).2.1 (nm t n q).2.2 w := if_pos h
theorem stq_l {q : Int32} (h : ¬ mm_b 48 57 (hr t n q)) : stq t n B2 w q = td B2 (q + if 0 ≤ hr t n q then 1 else 0) q (hr t n q) 0 0 w := if_neg h
theorem no48 {q : Int32} (h : ¬ mm_b 48 57 (hr t n q)) : ¬ hr t n q = 48 := fun e => h (by rw [e]; decide)
theorem m_in {S : mm_S} {v lo hi : Int32} : F_X10_in S v.toInt64 lo.toInt64 hi.toInt64 = if mm_b lo.toInt hi.toInt v then 1 else 0 := by
  unfold F_X10_in
  rw [Int32.toInt_toInt64, Int32.toInt_toInt64, Int32.toInt_toInt64]
theorem m_fl : F_X10_fails (td B2 c b s g v w) x = (0, td B2 c b s g v x) := by
  rw [F_X10_fails, td_up23]
/-- a number, read by both -/
theorem nu (h : Bs a t n S1 S2 B1 B2) (hn : pz_p n) (hc : pz_p c) (y : Int32) (hx : 0 ≤ x.toInt) :
    (∃ (k p e q' s' g' v' : Int32), F_X8_readNumber (rd B1 0 f c m) x = (-1, rd B1 k p e p) ∧ F_X10_number_r (td B2 c b s g v w) y 0 x = (0, td B2 q' p s' g' v' k) ∧ ¬ k = 0) ∨
    (∃ (p e g' v' : Int32), F_X8_readNumber (rd B1 0 f c m) x = (v', rd B1 0 f e p) ∧ F_X10_number_r (td B2 c b s g v w) y 0 x = (1, td (mm_up B2 2 y.toNatClampNeg v') e p 48 g' v' w) ∧ mm_b 0 x.toInt v' ∧ pz_p e ∧ c.toInt ≤ e.toInt) := by
  obtain ⟨hb, hle⟩ := skb (t := t) hn hc
  rw [tk_1 h hn hc, F_X10_number_r, tk_2 h hn hc]
  generalize sk t n c = p at hb hle ⊢
  by_cases d : mm_b 48 57 (hr t n p)
  · rw [stq_d d, F_X10_number_r_c4, td_20, if_pos rfl, td_21, td_22]
    obtain ⟨b1, b2, b3, b4⟩ := nm_b (t := t) hn hb
    have g1 := nm_yes hn hb d
    generalize nm t n p = r at b1 b2 b3 b4 g1 ⊢
    obtain ⟨e, g', v'⟩ := r
    dsimp only at b1 b2 b3 b4 g1 ⊢
    have z : ¬ g' = 0 := fun q => by rw [q] at g1; exact absurd g1 (by decide)
    rw [rnE]
    dsimp only
    rw [if_neg z, m_in, m_fl, F_X10_number_r_c4ttc47]
    by_cases h3 : 3 < g'
    · rw [if_pos h3, if_pos h3]
      exact Or.inl ⟨2, p, e, _, _, _, _, rfl, rfl, by decide⟩
    · rw [if_neg h3, if_neg h3]
      by_cases hv : v' ≤ x
      · have hv2 := Int32.le_iff_toInt_le.mp hv
        have hv3 : mm_b (0 : Int32).toInt x.toInt v' := ⟨b4.1, hv2⟩
        rw [if_pos hv, if_pos hv3, if_neg (by decide), td_upo (by decide)]
        exact Or.inr ⟨p, e, g', v', rfl, rfl, hv3, b1, by omega⟩
      · have hv3 : ¬ mm_b (0 : Int32).toInt x.toInt v' := fun q => hv (Int32.le_iff_toInt_le.mpr q.2)
        rw [if_neg hv, if_neg hv3, if_pos rfl]
        exact Or.inl ⟨2, p, e, _, _, _, _, rfl, rfl, by decide⟩
  · rw [stq_l d, nm_no d, F_X10_number_r_c4, td_20, if_neg (no48 d), m_fl, F_X10_number_r_c4ttc47]
    exact Or.inl ⟨1, p, p, _, _, _, _, rfl, rfl, by decide⟩
theorem nu_d {S : mm_S} {y z : Int32} : F_X10_number_d S y z x = F_X10_number_r S y z x := rfl
theorem nu_p {S : mm_S} {y z : Int32} : F_X10_number_p S y z x = F_X10_number_r S y z x := rfl
/-- the end of a clause, read by both -/
theorem en (h : Bs a t n S1 S2 B1 B2) (hn : pz_p n) (hc : pz_p c) :
    (∃ (e p : Int32), F_X8_readSign (rd B1 0 f c m) 59 = (1, rd B1 0 f e m) ∧ F_X10_ends (td B2 c b s g v w) = (1, td B2 e p 59 0 0 w) ∧ c.toInt < e.toInt ∧ pz_p e) ∨
    (∃ (p q' s' g' v' : Int32), F_X8_readSign (rd B1 0 f c m) 59 = (0, rd B1 1 p p m) ∧ F_X10_ends (td B2 c b s g v w) = (0, td B2 q' p s' g' v' 1)) := by
  obtain ⟨hb, hle⟩ := skb (t := t) hn hc
  rw [tk_s h, F_X10_ends, tk_2 h hn hc]
  generalize sk t n c = p at hb hle ⊢
  by_cases d : hr t n p = 59
  · have d2 : ¬ mm_b 48 57 (hr t n p) := by rw [d]; decide
    obtain ⟨h1, h2⟩ := pz_nx hn hb (hr_lt (t := t) (by rw [d]; decide))
    rw [if_pos d, stq_l d2, F_X10_ends_c4, td_20, if_pos d, d]
    exact Or.inl ⟨p + 1, p, rfl, rfl, by omega, h1⟩
  · rw [if_neg d]
    by_cases d2 : mm_b 48 57 (hr t n p)
    · rw [stq_d d2, F_X10_ends_c4, td_20, if_neg (by decide), m_fl, F_X10_ends_c4fc18]
      exact Or.inr ⟨p, _, _, _, _, rfl, rfl⟩
    · rw [stq_l d2, F_X10_ends_c4, td_20, if_neg d, m_fl, F_X10_ends_c4fc18]
      exact Or.inr ⟨p, _, _, _, _, rfl, rfl⟩
/-! a person -/
theorem Dr_person (ha : 3 ≤ a) (D : Dr a B1 B2) (hp : B2.1 2 0 < 7) {P : Int32} (e : B2.1 2 0 = P) : Dr a (mm_up (mm_up (mm_up (mm_up B1 (a + 1) P.toNatClampNeg v) (a + 2) P.toNatClampNeg 9) (a + 3) P.toNatClampNeg 9) a 0 (P + 1)) (mm_up (mm_up B2 2 0 (P + 1)) 2 (3 + P).toNatClampNeg v) := by
  obtain ⟨⟨d1, d2, d3, d4⟩, ⟨d5, d6, d7⟩, d8, d9, d10, d11⟩ := D
  rw [e] at d1 d5 d8 d9 hp
  have hp7 : P.toInt < 7 := Int32.lt_iff_toInt_lt.mp hp
  have cP := pz_cl (x := P) d5.1
  have c3 : (3 + P).toNatClampNeg = 3 + P.toNatClampNeg := pz_addc (by decide) ⟨d5.1, by omega⟩
  have tP : (P + 1).toInt = P.toInt + 1 := pz_ti1 ⟨by omega, by omega⟩
  rw [c3]
  generalize P.toNatClampNeg = N at cP ⊢
  have r0 : (mm_up (mm_up B2 2 0 (P + 1)) 2 (3 + N) v).1 2 0 = P + 1 := by rw [up_ne (by omega), up_at]
  have ro : ∀ i, i ≠ 0 → i ≠ 3 + N → (mm_up (mm_up B2 2 0 (P + 1)) 2 (3 + N) v).1 2 i = B2.1 2 i := fun i h0 h3 => by rw [up_ne (by omega), up_ne (by omega)]
  have rv : (mm_up (mm_up B2 2 0 (P + 1)) 2 (3 + N) v).1 2 (3 + N) = v := up_at
  generalize mm_up (mm_up B2 2 0 (P + 1)) 2 (3 + N) v = C2 at r0 ro rv ⊢
  refine ⟨⟨?_, ?_, ?_, ?_⟩, ⟨?_, ?_, ?_⟩, ?_, ?_, ?_, ?_⟩
  · rw [up_at, r0]
  · rw [up_ne (by omega), up_ne (by omega), up_ne (by omega), up_ne (by omega), ro 1 (by omega) (by omega)]
    exact d2
  · rw [up_ne (by omega), up_ne (by omega), up_ne (by omega), up_ne (by omega), ro 2 (by omega) (by omega)]
    exact d3
  · rw [up_ne (by omega), up_ne (by omega), up_ne (by omega), up_ne (by omega), ro 24 (by omega) (by omega)]
    exact d4
  · rw [r0]
    exact ⟨by omega, by omega⟩
  · rw [ro 1 (by omega) (by omega)]
    exact d6
  · rw [ro 2 (by omega) (by omega)]
    exact d7
  · intro p hp2
    rw [r0, tP] at hp2
    by_cases hN : p = N
    · subst hN
      have z := d9 p (by omega) (by omega)
      refine ⟨?_, ?_, ?_⟩
      · rw [rv, up_ne (by omega), up_ne (by omega), up_ne (by omega), up_at]
      · rw [ro (10 + p) (by omega) (by omega), up_ne (by omega), up_ne (by omega), up_at]
        exact z.2.1.symm
      · rw [ro (17 + p) (by omega) (by omega), up_ne (by omega), up_at]
        exact z.2.2.symm
    · have z := d8 p (by omega)
      refine ⟨?_, ?_, ?_⟩
      · rw [ro (3 + p) (by omega) (by omega), up_ne (by omega), up_ne (by omega), up_ne (by omega), up_ne (by omega)]
        exact z.1
      · rw [ro (10 + p) (by omega) (by omega), up_ne (by omega), up_ne (by omega), up_ne (by omega), up_ne (by omega)]
        exact z.2.1
      · rw [ro (17 + p) (by omega) (by omega), up_ne (by omega), up_ne (by omega), up_ne (by omega), up_ne (by omega)]
        exact z.2.2
  · intro p h7 hp2
    rw [r0, tP] at hp2
    rw [ro (3 + p) (by omega) (by omega), ro (10 + p) (by omega) (by omega), ro (17 + p) (by omega) (by omega)]
    exact d9 p h7 (by omega)
  · intro p hp2
    rw [ro 1 (by omega) (by omega)] at hp2
    rw [ro (25 + p) (by omega) (by omega), up_ne (by omega), up_ne (by omega), up_ne (by omega), up_ne (by omega)]
    exact d10 p hp2
  · intro p hp2
    rw [ro 2 (by omega) (by omega)] at hp2
    rw [ro (31 + p) (by omega) (by omega), up_ne (by omega), up_ne (by omega), up_ne (by omega), up_ne (by omega)]
    exact d11 p hp2
theorem cl_person (ha : 3 ≤ a) (D : Dr a B1 B2) (h : Bs a t n S1 S2 B1 B2) (hn : pz_p n) (hc : pz_p c) (hl : c < n) : Oc a t n S1 S2 f c (F_X8_readPerson (rd B1 0 f c m) a) (F_X10_readsPerson (td B2 (c + 1) c s g v w)) := by
  have e1 : (rd B1 0 f c m).1 a 0 = B2.1 2 0 := by rw [rd_row (by omega)]; exact D.1.1
  obtain ⟨h1, h2⟩ := pz_nx hn hc hl
  have b7 := D.2.1.1
  rw [F_X8_readPerson, F_X10_readsPerson, e1, rd_3, rd_up3, td_2, m_fl]
  by_cases hp : B2.1 2 0 < 7
  · have hne : ¬ B2.1 2 0 = 7 := fun q => by rw [q] at hp; exact absurd hp (by decide)
    rw [if_pos hp, if_neg hne, F_X8_readPerson_tu32, F_X10_readsPerson_tu36, td_upo (by decide)]
    rcases nu (f := f) (m := m) (b := c) (s := s) (g := g) (v := v) (w := w) (x := 9) (Bs_2 (j := 0) (v := B2.1 2 0 + 1) h) hn h1 (3 + B2.1 2 0) (by decide) with ⟨k, p, e, q', s', g', v', r1, r2, hk⟩ | ⟨p, e, g', v', r1, r2, hv, he, hle⟩
    · rw [r1, r2]
      show Oc a t n S1 S2 f c (F_X8_readPerson_tu32c35 (rd B1 k p e p) a (-1)) (F_X10_readsPerson_tu36c39 0 (td (mm_up B2 2 0 (B2.1 2 0 + 1)) q' p s' g' v' k))
      rw [F_X8_readPerson_tu32c35, c_rsk hk, F_X10_readsPerson_tu36c39, if_pos rfl]
      show Oc a t n S1 S2 f c (F_X8_readPerson_tu32c35c42 0 (rd B1 k p e p) a (-1)) _
      rw [F_X8_readPerson_tu32c35c42, if_pos rfl]
      exact Or.inr ⟨_, _, k, p, _, _, _, _, _, _, rfl, rfl, hk, Bs_2 h⟩
    · rw [r1, r2]
      show Oc a t n S1 S2 f c (F_X8_readPerson_tu32c35 (rd B1 0 f e p) a v') (F_X10_readsPerson_tu36c39 1 (td (mm_up (mm_up B2 2 0 (B2.1 2 0 + 1)) 2 (3 + B2.1 2 0).toNatClampNeg v') e p 48 g' v' w))
      rw [F_X8_readPerson_tu32c35, F_X10_readsPerson_tu36c39, if_neg (by decide)]
      rcases en (f := f) (m := p) (b := p) (s := 48) (g := g') (v := v') (w := w) (Bs_2 (j := (3 + B2.1 2 0).toNatClampNeg) (v := v') (Bs_2 (j := 0) (v := B2.1 2 0 + 1) h)) hn he with ⟨e2, p2, q1, q2, q3, q4⟩ | ⟨p2, q', s', g2, v2, q1, q2⟩
      · rw [q1, q2]
        show Oc a t n S1 S2 f c (F_X8_readPerson_tu32c35c42 1 (rd B1 0 f e2 p) a v') (F_X10_readsPerson_tu36c39fc46 1 (td (mm_up (mm_up B2 2 0 (B2.1 2 0 + 1)) 2 (3 + B2.1 2 0).toNatClampNeg v') e2 p2 59 0 0 w))
        rw [F_X8_readPerson_tu32c35c42, if_neg (by decide), F_X8_readPerson_tu32c35c42fc50, F_X10_readsPerson_tu36c39fc46, if_neg (by decide), F_X6_addPerson]
        have e3 : (rd B1 0 f e2 p).1 a 0 = B2.1 2 0 := by rw [rd_row (by omega)]; exact D.1.1
        rw [e3, if_neg (fun q => lt_no hp q), rd_upo (by omega), rd_upo (by omega), rd_upo (by omega), rd_upo (by omega)]
        refine Or.inl ⟨_, _, e2, p, p2, 59, 0, 0, w, rfl, rfl, Dr_person ha D hp rfl, ?_, by omega, q4⟩
        exact Bs_1 ha (Bs_1 ha (Bs_1 ha (Bs_1 ha (Bs_2 (Bs_2 h)) ⟨by omega, by omega⟩) ⟨by omega, by omega⟩) ⟨by omega, by omega⟩) ⟨by omega, by omega⟩
      · rw [q1, q2]
        show Oc a t n S1 S2 f c (F_X8_readPerson_tu32c35c42 0 (rd B1 1 p2 p2 p) a v') (F_X10_readsPerson_tu36c39fc46 0 (td (mm_up (mm_up B2 2 0 (B2.1 2 0 + 1)) 2 (3 + B2.1 2 0).toNatClampNeg v') q' p2 s' g2 v2 1))
        rw [F_X8_readPerson_tu32c35c42, if_pos rfl, F_X10_readsPerson_tu36c39fc46, if_pos rfl]
        exact Or.inr ⟨_, _, 1, p2, _, _, _, _, _, _, rfl, rfl, by decide, Bs_2 (Bs_2 h)⟩
  · have heq : B2.1 2 0 = 7 := Int32.toInt_inj.mp (by have z : 7 ≤ (B2.1 2 0).toInt := Int32.le_iff_toInt_le.mp (bd_nlt hp); show (B2.1 2 0).toInt = 7; omega)
    rw [if_neg hp, if_pos heq, c_bl0, F_X8_readPerson_tu32c35c42fc50, F_X10_readsPerson_fc18]
    exact Or.inr ⟨_, _, 3, c, _, _, _, _, _, _, rfl, rfl, by decide, h⟩
end CL
