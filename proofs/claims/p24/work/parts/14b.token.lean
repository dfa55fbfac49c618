/-! ===== tokens ===== -/
def hr (t : Nat → Int32) (n p : Int32) : Int32 := if p < n then t p.toNatClampNeg else -1
def skp (t : Nat → Int32) (n : Int32) : Nat → Int32 → Int32
  | 0, p => p
  | N + 1, p => if hr t n p = 32 then skp t n N (p + 1) else p
def numL (t : Nat → Int32) (n : Int32) : Nat → Int32 → Int32 → Int32 → Int32 × Int32 × Int32
  | 0, p, f, v => (p, f, v)
  | N + 1, p, f, v => if mm_b 48 57 (hr t n p) then numL t n N (p + 1) (f + 1) (if 3 ≤ f then v else 10 * v + hr t n p - 48) else (p, f, v)
theorem pz_ti1 {p : Int32} (h : mm_b (-1) 1000 p) : (p + 1).toInt = p.toInt + 1 := by
  rw [bd_ti_add (by show -2147483648 ≤ p.toInt + 1; omega) (by show p.toInt + 1 ≤ 2147483647; omega)]
  rfl
theorem pz_of1 : Int32.ofInt 1 = 1 := rfl
theorem hr_lt {t : Nat → Int32} {n p : Int32} (h : 0 ≤ (hr t n p).toInt) : p < n := by
  unfold hr at h
  split at h
  · assumption
  · exact absurd h (by decide)
theorem hr_ge {t : Nat → Int32} {n p : Int32} (h : n ≤ p) : hr t n p = -1 := if_neg (fun q => lt_no q h)
theorem hr_ok {t : Nat → Int32} {n p : Int32} (h : ¬ n ≤ p) : hr t n p = t p.toNatClampNeg := if_pos (bd_nle h)
/-- a place: between 0 and 240 -/
abbrev pz_p (p : Int32) : Prop := mm_b 0 240 p
theorem pz_nx {n p : Int32} (hn : pz_p n) (hp : pz_p p) (h : p < n) : pz_p (p + 1) ∧ (p + 1).toInt = p.toInt + 1 := by
  have h1 := Int32.lt_iff_toInt_lt.mp h
  have e := pz_ti1 (p := p) ⟨by omega, by omega⟩
  exact ⟨⟨by omega, by omega⟩, e⟩
theorem skp_b {t : Nat → Int32} {n : Int32} (hn : pz_p n) : ∀ (N : Nat) (p : Int32), pz_p p → pz_p (skp t n N p) ∧ p.toInt ≤ (skp t n N p).toInt
  | 0, p, hp => ⟨hp, Int.le_refl _⟩
  | N + 1, p, hp => by
    unfold skp
    split
    · rename_i h
      obtain ⟨h1, h2⟩ := pz_nx hn hp (hr_lt (by rw [h]; decide))
      obtain ⟨h3, h4⟩ := skp_b hn N (p + 1) h1
      exact ⟨h3, by omega⟩
    · exact ⟨hp, Int.le_refl _⟩
theorem skp_no {t : Nat → Int32} {n : Int32} (hn : pz_p n) : ∀ (N : Nat) (p : Int32), pz_p p → (240 - p.toInt).toNat < N → ¬ hr t n (skp t n N p) = 32
  | 0, p, _, h => absurd h (Nat.not_lt_zero _)
  | N + 1, p, hp, h => by
    unfold skp
    split
    · rename_i q
      have hl := hr_lt (t := t) (n := n) (p := p) (by rw [q]; decide)
      obtain ⟨h1, h2⟩ := pz_nx hn hp hl
      have h3 := Int32.lt_iff_toInt_lt.mp hl
      exact skp_no hn N (p + 1) h1 (by omega)
    · assumption
abbrev sk (t : Nat → Int32) (n p : Int32) : Int32 := skp t n 242 p
theorem sk_no {t : Nat → Int32} {n p : Int32} (hn : pz_p n) (hp : pz_p p) : ¬ hr t n (sk t n p) = 32 := skp_no hn 242 p hp (by omega)
theorem sk_fix {t : Nat → Int32} {n p : Int32} (h : ¬ hr t n p = 32) : sk t n p = p := by
  show skp t n (241 + 1) p = p
  rw [skp, if_neg h]
theorem sk_sk {t : Nat → Int32} {n p : Int32} (hn : pz_p n) (hp : pz_p p) : sk t n (sk t n p) = sk t n p := sk_fix (sk_no hn hp)
theorem numL_b {t : Nat → Int32} {n : Int32} (hn : pz_p n) : ∀ (N : Nat) (p f v : Int32), pz_p p → mm_b 0 p.toInt f → mm_b 0 999 v → (f.toInt ≤ 2 → v.toInt ≤ 99) → (f.toInt ≤ 1 → v.toInt ≤ 9) → (f.toInt ≤ 0 → v.toInt ≤ 0) →
    pz_p (numL t n N p f v).1 ∧ p.toInt ≤ (numL t n N p f v).1.toInt ∧ mm_b f.toInt 240 (numL t n N p f v).2.1 ∧ mm_b 0 999 (numL t n N p f v).2.2
  | 0, p, f, v, hp, hf, hv, _, _, _ => ⟨hp, Int.le_refl _, ⟨Int.le_refl _, by show f.toInt ≤ 240; omega⟩, hv⟩
  | N + 1, p, f, v, hp, hf, hv, v2, v1, v0 => by
    unfold numL
    split
    · rename_i h
      obtain ⟨h1, h2⟩ := pz_nx hn hp (hr_lt (t := t) (by omega))
      have h3 := pz_ti1 (p := f) ⟨by omega, by omega⟩
      have key : mm_b 0 999 (if 3 ≤ f then v else 10 * v + hr t n p - 48) ∧ ((f + 1).toInt ≤ 2 → (if 3 ≤ f then v else 10 * v + hr t n p - 48).toInt ≤ 99) ∧ ((f + 1).toInt ≤ 1 → (if 3 ≤ f then v else 10 * v + hr t n p - 48).toInt ≤ 9) := by
        by_cases q : 3 ≤ f
        · have q2 : 3 ≤ f.toInt := Int32.le_iff_toInt_le.mp q
          rw [if_pos q]
          exact ⟨hv, fun _ => by omega, fun _ => by omega⟩
        · have q2 : f.toInt < 3 := Int32.lt_iff_toInt_lt.mp (bd_nle q)
          have e1 : (10 * v).toInt = 10 * v.toInt := by
            rw [bd_ti_mul (by show -2147483648 ≤ 10 * v.toInt; omega) (by show 10 * v.toInt ≤ 2147483647; omega)]
            rfl
          have e2 : (10 * v + hr t n p).toInt = 10 * v.toInt + (hr t n p).toInt := by rw [bd_ti_add (by omega) (by omega), e1]
          have e3 : (10 * v + hr t n p - 48).toInt = 10 * v.toInt + (hr t n p).toInt - 48 := by
            rw [bd_ti_sub (by show -2147483648 ≤ (10 * v + hr t n p).toInt - 48; omega) (by show (10 * v + hr t n p).toInt - 48 ≤ 2147483647; omega), e2]
            rfl
          rw [if_neg q]
          refine ⟨⟨by omega, by omega⟩, fun _ => by omega, fun _ => by omega⟩
      obtain ⟨k1, k2, k3⟩ := key
      obtain ⟨g1, g2, g3, g4⟩ := numL_b hn N (p + 1) (f + 1) _ h1 ⟨by omega, by omega⟩ k1 k2 k3 (fun _ => by omega)
      exact ⟨g1, by omega, ⟨by omega, g3.2⟩, g4⟩
    · exact ⟨hp, Int.le_refl _, ⟨Int.le_refl _, by show f.toInt ≤ 240; omega⟩, hv⟩
abbrev nm (t : Nat → Int32) (n p : Int32) : Int32 × Int32 × Int32 := numL t n 242 p 0 0
theorem nm_b {t : Nat → Int32} {n p : Int32} (hn : pz_p n) (hp : pz_p p) : pz_p (nm t n p).1 ∧ p.toInt ≤ (nm t n p).1.toInt ∧ mm_b 0 240 (nm t n p).2.1 ∧ mm_b 0 999 (nm t n p).2.2 :=
  numL_b hn 242 p 0 0 hp ⟨Int.le_refl _, hp.1⟩ (by decide) (fun _ => by decide) (fun _ => by decide) (fun _ => by decide)
theorem nm_no {t : Nat → Int32} {n p : Int32} (h : ¬ mm_b 48 57 (hr t n p)) : nm t n p = (p, 0, 0) := by
  show numL t n (241 + 1) p 0 0 = _
  rw [numL, if_neg h]
theorem nm_yes {t : Nat → Int32} {n p : Int32} (hn : pz_p n) (hp : pz_p p) (h : mm_b 48 57 (hr t n p)) : 1 ≤ (nm t n p).2.1.toInt := by
  show 1 ≤ (numL t n (241 + 1) p 0 0).2.1.toInt
  rw [numL, if_pos h]
  obtain ⟨h1, h2⟩ := pz_nx hn hp (hr_lt (t := t) (by omega))
  have e : (10 * (0 : Int32) + hr t n p - 48).toInt = (hr t n p).toInt - 48 := by
    have e0 : (10 * (0 : Int32) + hr t n p).toInt = (hr t n p).toInt := by rw [show (10 * (0 : Int32)) = 0 from rfl, Int32.zero_add]
    rw [bd_ti_sub (by show -2147483648 ≤ (10 * (0 : Int32) + hr t n p).toInt - 48; omega) (by show (10 * (0 : Int32) + hr t n p).toInt - 48 ≤ 2147483647; omega), e0]
    rfl
  obtain ⟨g1, g2, g3, g4⟩ := numL_b (t := t) hn 241 (p + 1) (0 + 1) (if 3 ≤ (0 : Int32) then 0 else 10 * 0 + hr t n p - 48) h1 ⟨by decide, by show (1 : Int) ≤ (p + 1).toInt; omega⟩ (by rw [if_neg (by decide)]; exact ⟨by omega, by omega⟩) (fun _ => by rw [if_neg (by decide)]; omega) (fun _ => by rw [if_neg (by decide)]; omega) (fun q => absurd q (by decide))
  exact g3.1
/-! the class's reader -/
section RC
variable {S : mm_S} {k f a m x w : Int32}
theorem c_lh : F_X8_letterHere (rd S k f a m) = hr (S.1 2) (S.1 1 0) a := by
  show (if S.1 1 0 ≤ a then (-1 : Int32) else S.1 2 a.toNatClampNeg) = _
  split
  · rename_i h
    exact (hr_ge h).symm
  · rename_i h
    exact (hr_ok h).symm
theorem c_is : F_X8_isSound (rd S k f a m) = if k = 0 then 1 else 0 := rfl
theorem c_is0 : F_X8_isSound (rd S 0 f a m) = 1 := rfl
theorem c_isk (h : ¬ k = 0) : F_X8_isSound (rd S k f a m) = 0 := if_neg h
theorem c_bl0 : F_X8_blame (rd S 0 f a m) x w = rd S x w a m := by
  rw [F_X8_blame, if_pos (show (rd S 0 f a m).1 1 1 = 0 from rfl), rd_up1, rd_up2]
theorem c_blk (h : ¬ k = 0) : F_X8_blame (rd S k f a m) x w = rd S k f a m := by
  rw [F_X8_blame, if_neg (show ¬ (rd S k f a m).1 1 1 = 0 from h)]
theorem c_skL : ∀ (N : Nat) (a : Int32), F_X8_skipBlanks_L0 N (rd S k f a m) = rd S k f (skp (S.1 2) (S.1 1 0) N a) m
  | 0, a => rfl
  | N + 1, a => by
    rw [F_X8_skipBlanks_L0, skp]
    show (if S.1 1 0 ≤ a then rd S k f a m else if S.1 2 a.toNatClampNeg = 32 then F_X8_skipBlanks_L0 N (mm_up (rd S k f a m) 1 3 (a + 1)) else rd S k f a m) = _
    by_cases h : S.1 1 0 ≤ a
    · rw [if_pos h, hr_ge h, if_neg (by decide)]
    · rw [if_neg h, hr_ok h]
      by_cases q : S.1 2 a.toNatClampNeg = 32
      · rw [if_pos q, if_pos q, rd_up3, c_skL N (a + 1)]
      · rw [if_neg q, if_neg q]
theorem c_sk : F_X8_skipBlanks (rd S k f a m) = rd S k f (sk (S.1 2) (S.1 1 0) a) m := c_skL 242 a
theorem c_in0 : F_X8_isNext (rd S 0 f a m) x = (if hr (S.1 2) (S.1 1 0) (sk (S.1 2) (S.1 1 0) a) = x then 1 else 0, rd S 0 f (sk (S.1 2) (S.1 1 0) a) m) := by
  rw [F_X8_isNext, c_is0, if_neg (by decide), c_sk, F_X8_isNext_tc13, c_lh]
  split <;> rfl
theorem c_ink (h : ¬ k = 0) : F_X8_isNext (rd S k f a m) x = (0, rd S k f a m) := by
  rw [F_X8_isNext, c_isk h, if_pos rfl]
theorem c_rs0 : F_X8_readSign (rd S 0 f a m) x = if hr (S.1 2) (S.1 1 0) (sk (S.1 2) (S.1 1 0) a) = x then (1, rd S 0 f (sk (S.1 2) (S.1 1 0) a + 1) m) else (0, rd S 1 (sk (S.1 2) (S.1 1 0) a) (sk (S.1 2) (S.1 1 0) a) m) := by
  rw [F_X8_readSign, c_in0]
  by_cases q : hr (S.1 2) (S.1 1 0) (sk (S.1 2) (S.1 1 0) a) = x
  · rw [if_pos q, if_pos q]
    show F_X8_readSign_c5 1 (rd S 0 f (sk (S.1 2) (S.1 1 0) a) m) = _
    rw [F_X8_readSign_c5, if_neg (by decide), rd_up3, rd_3]
  · rw [if_neg q, if_neg q]
    show F_X8_readSign_c5 0 (rd S 0 f (sk (S.1 2) (S.1 1 0) a) m) = _
    rw [F_X8_readSign_c5, if_pos rfl, c_bl0, F_X8_readSign_c5tc29, rd_3]
theorem c_rsk (h : ¬ k = 0) : F_X8_readSign (rd S k f a m) x = (0, rd S k f a m) := by
  rw [F_X8_readSign, c_ink h]
  show F_X8_readSign_c5 0 (rd S k f a m) = _
  rw [F_X8_readSign_c5, if_pos rfl, c_blk h, F_X8_readSign_c5tc29]
/-- what a number comes to: its end, its first letter, figures, value -/
def rnE (S : mm_S) (f m x : Int32) (r : Int32 × Int32 × Int32) : Int32 × mm_S := if r.2.1 = 0 then (-1, rd S 1 r.1 r.1 m) else if 3 < r.2.1 then (-1, rd S 2 m r.1 m) else if r.2.2 ≤ x then (r.2.2, rd S 0 f r.1 m) else (-1, rd S 2 m r.1 m)
theorem c_fig : F_X8_isFigure S x = if mm_b 48 57 x then 1 else 0 := by
  unfold F_X8_isFigure
  by_cases h : x < 48
  · have := Int32.lt_iff_toInt_lt.mp h
    rw [if_pos h, if_neg (fun q => absurd q.1 (by have : x.toInt < 48 := this; omega))]
  · have h1 : 48 ≤ x.toInt := Int32.le_iff_toInt_le.mp (bd_nlt h)
    rw [if_neg h]
    by_cases q : 57 < x
    · have : (57 : Int) < x.toInt := Int32.lt_iff_toInt_lt.mp q
      rw [if_pos q, if_neg (fun z => by omega)]
    · have : x.toInt ≤ 57 := Int32.le_iff_toInt_le.mp (bd_nlt q)
      rw [if_neg q, if_pos ⟨h1, this⟩]
theorem c_rnX {v g : Int32} : (if g = 0 then F_X8_readNumber_L25tttc119 (F_X8_blame (rd S 0 f a m) 1 ((rd S 0 f a m).1 1 3)) v else (if (3 : Int32) < g then F_X8_readNumber_L25tttc119 (F_X8_blame (rd S 0 f a m) 2 ((rd S 0 f a m).1 1 4)) v else (if v ≤ x then (if F_X8_isSound (rd S 0 f a m) = 0 then ((-1 : Int32), rd S 0 f a m) else (v, rd S 0 f a m)) else F_X8_readNumber_L25tttc119 (F_X8_blame (rd S 0 f a m) 2 ((rd S 0 f a m).1 1 4)) v))) = rnE S f m x (a, g, v) := by
  unfold rnE
  dsimp only
  by_cases h : g = 0
  · rw [if_pos h, if_pos h, c_bl0, F_X8_readNumber_L25tttc119, c_isk (by decide), if_pos rfl, rd_3]
  · rw [if_neg h, if_neg h]
    by_cases h3 : 3 < g
    · rw [if_pos h3, if_pos h3, c_bl0, F_X8_readNumber_L25tttc119, c_isk (by decide), if_pos rfl, rd_4]
    · rw [if_neg h3, if_neg h3]
      by_cases hv : v ≤ x
      · rw [if_pos hv, if_pos hv, c_is0, if_neg (by decide)]
      · rw [if_neg hv, if_neg hv, c_bl0, F_X8_readNumber_L25tttc119, c_isk (by decide), if_pos rfl, rd_4]
theorem c_rnL (hn : pz_p (S.1 1 0)) : ∀ (N : Nat) (a g v : Int32), pz_p a → mm_b 0 a.toInt g → (240 - a.toInt).toNat < N → F_X8_readNumber_L25 x N (rd S 0 f a m) g v = rnE S f m x (numL (S.1 2) (S.1 1 0) N a g v)
  | 0, a, g, v, _, _, h => absurd h (Nat.not_lt_zero _)
  | N + 1, a, g, v, ha, hg, h => by
    rw [F_X8_readNumber_L25, c_lh, c_fig, c_rnX, rd_0, rd_3, numL]
    by_cases q : S.1 1 0 ≤ a
    · rw [if_pos q, if_neg (by rw [hr_ge q]; decide)]
    · rw [if_neg q]
      have ql := bd_nle q
      have ql2 := Int32.lt_iff_toInt_lt.mp ql
      obtain ⟨h1, h2⟩ := pz_nx hn ha ql
      have h3 := pz_ti1 (p := g) ⟨by omega, by omega⟩
      by_cases d : mm_b 48 57 (hr (S.1 2) (S.1 1 0) a)
      · rw [if_pos d, if_pos d, if_neg (by decide), rd_up3, pz_of1]
        have ih := fun v' => c_rnL hn N (a + 1) (g + 1) v' h1 ⟨by omega, by omega⟩ (by omega)
        by_cases z : 3 ≤ g
        · have z2 : 3 ≤ g.toInt := Int32.le_iff_toInt_le.mp z
          rw [if_pos z, if_neg (fun y => by have : (g + 1).toInt ≤ 3 := Int32.le_iff_toInt_le.mp y; omega)]
          exact ih v
        · have z2 : g.toInt < 3 := Int32.lt_iff_toInt_lt.mp (bd_nle z)
          rw [if_neg z, if_pos (Int32.le_iff_toInt_le.mpr (by show (g + 1).toInt ≤ 3; omega))]
          exact ih _
      · rw [if_neg d, if_neg d, if_pos rfl]
theorem c_rn0 (hn : pz_p (S.1 1 0)) (ha : pz_p a) : F_X8_readNumber (rd S 0 f a m) x = rnE S f (sk (S.1 2) (S.1 1 0) a) x (nm (S.1 2) (S.1 1 0) (sk (S.1 2) (S.1 1 0) a)) := by
  rw [F_X8_readNumber, c_is0, if_neg (by decide), c_sk, F_X8_readNumber_tc13, rd_up4, rd_3]
  have hb : pz_p (sk (S.1 2) (S.1 1 0) a) := (skp_b (t := S.1 2) hn 242 a ha).1
  exact c_rnL hn 242 _ 0 0 hb ⟨Int.le_refl _, hb.1⟩ (by omega)
theorem c_rnk (h : ¬ k = 0) : F_X8_readNumber (rd S k f a m) x = (-1, rd S k f a m) := by
  rw [F_X8_readNumber, c_isk h, if_pos rfl]
end RC
/-! the reference's step -/
section RM
variable {S : mm_S} {p b s f v w : Int32}
theorem m_hr : hereF (td S p b s f v w) = hr (S.1 8) (S.1 0 10) p := rfl
theorem m_93 : ∀ (N : Nat) (p f v : Int32), F_X10_step_L93 N (td S p b s f v w) = td S (numL (S.1 8) (S.1 0 10) N p f v).1 b s (numL (S.1 8) (S.1 0 10) N p f v).2.1 (numL (S.1 8) (S.1 0 10) N p f v).2.2 w
  | 0, p, f, v => rfl
  | N + 1, p, f, v => by
    rw [F_X10_step_L93, numL, m_hr]
    by_cases h : mm_b 48 57 (hr (S.1 8) (S.1 0 10) p)
    · rw [if_pos h, if_pos h, td_21, td_22, td_18, td_up22, td_up21, td_up18]
      exact m_93 N _ _ _
    · rw [if_neg h, if_neg h]
theorem m_22 : F_X10_step_22 (td S p b s f v w) = if mm_b 48 57 (hr (S.1 8) (S.1 0 10) p) then td S (nm (S.1 8) (S.1 0 10) p).1 p 48 (nm (S.1 8) (S.1 0 10) p).2.1 (nm (S.1 8) (S.1 0 10) p).2.2 w else td S (p + if 0 ≤ hr (S.1 8) (S.1 0 10) p then 1 else 0) p (hr (S.1 8) (S.1 0 10) p) 0 0 w := by
  have hT : stT (td S p b s f v w) = td S p p (hr (S.1 8) (S.1 0 10) p) 0 0 w := by
    rw [stT, m_hr, td_18, td_up19, td_up20, td_up21, td_up22]
  rw [F_X10_step_22, hT, m_hr, td_18]
  by_cases h : mm_b 48 57 (hr (S.1 8) (S.1 0 10) p)
  · rw [if_pos h, if_pos h, td_up20, m_93]
  · rw [if_neg h, if_neg h, td_up18]
theorem m_0 (hn : pz_p (S.1 0 10)) : ∀ (N : Nat) (p : Int32), pz_p p → (240 - p.toInt).toNat < N → F_X10_step_L0 N (td S p b s f v w) = F_X10_step_22 (td S (skp (S.1 8) (S.1 0 10) N p) b s f v w)
  | 0, p, _, h => absurd h (Nat.not_lt_zero _)
  | N + 1, p, hp, h => by
    rw [F_X10_step_L0, skp, m_hr]
    by_cases q : hr (S.1 8) (S.1 0 10) p = 32
    · have hl := hr_lt (t := S.1 8) (n := S.1 0 10) (p := p) (by rw [q]; decide)
      have hl2 := Int32.lt_iff_toInt_lt.mp hl
      obtain ⟨h1, h2⟩ := pz_nx hn hp hl
      rw [if_pos q, if_pos q, td_18, td_up18]
      exact m_0 hn N (p + 1) h1 (by omega)
    · rw [if_neg q, if_neg q]
/-- the state behind a token that begins at q -/
def stp (S : mm_S) (w q : Int32) : mm_S := if mm_b 48 57 (hr (S.1 8) (S.1 0 10) q) then td S (nm (S.1 8) (S.1 0 10) q).1 q 48 (nm (S.1 8) (S.1 0 10) q).2.1 (nm (S.1 8) (S.1 0 10) q).2.2 w else td S (q + if 0 ≤ hr (S.1 8) (S.1 0 10) q then 1 else 0) q (hr (S.1 8) (S.1 0 10) q) 0 0 w
theorem m_st (hn : pz_p (S.1 0 10)) (hp : pz_p p) : F_X10_step (td S p b s f v w) = stp S w (sk (S.1 8) (S.1 0 10) p) := by
  rw [F_X10_step, m_0 hn 242 p hp (by omega), m_22]
  rfl
end RM
