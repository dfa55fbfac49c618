/-! ===== orders: the class reads from the first figure down ===== -/
section ORC
variable {n : Nat} {P x : Int32} {S0 S1 S2 : mm_S}
def pcN (s : Nat) : Nat := s % 2 + s / 2 % 2 + s / 4 % 2 + s / 8 % 2 + s / 16 % 2 + s / 32 % 2 + s / 64 % 2
theorem pcT : ∀ s : Fin 128, ∀ p : Fin 7, ¬ bt (nI s.val) p.val → pcN (s.val ||| 2 ^ p.val) = pcN s.val + 1 ∧ pcN s.val ≤ 6 := by decide +kernel
/-- the line: so many, these, that set -/
def Ln (n J L : Nat) (S : mm_S) : Prop := S.1 138 0 = nI (L - J) ∧ (∀ i, i < L - J → S.1 139 i = nI (fg n (L - 1 - i) - 1)) ∧ ∃ s : Nat, s < 128 ∧ S.1 138 1 = nI s ∧ pcN s = L - J
def unN : Nat → Nat
  | 0 => 0
  | J + 1 => 10 ^ J
def rdP (n : Nat) (S0 : mm_S) (A : Int32) (R : Int32 × mm_S) : Prop := Gf 138 139 S0 R.2 ∧ ((R.1 = 0 ∧ ¬ og A n 0 (lgk n + 1)) ∨ (R.1 = 1 ∧ og A n 0 (lgk n + 1) ∧ Ln n 0 (lgk n + 1) R.2))
theorem rd_L (h0 : 0 < n) (hn : n < 2147483648) (w : Wf 3 P S2) (hP : mm_b 0 7 P) (e0 : S0.1 15 0 = S2.1 3 28) (e2 : S0.1 15 2 = P) : ∀ (J N : Nat) (S : mm_S), J ≤ 10 → unN J < N → Gf 138 139 S0 S → Ln n J (lgk n + 1) S → mk (S.1 138 1) n J (lgk n + 1) → og (S2.1 3 28) n J (lgk n + 1) → rdP n S0 (S2.1 3 28) (F_X5_readOrder_L16 N S (nI (n % 10 ^ J)) (nI (unN J)))
  | 0, N, S, _, hN, hG, hL, hm, ho => by
    obtain ⟨N', rfl⟩ : ∃ N', N = N' + 1 := ⟨N - 1, by omega⟩
    rw [F_X5_readOrder_L16, if_pos (show nI (unN 0) < 1 by decide)]
    exact ⟨hG, Or.inr ⟨rfl, ho, hL⟩⟩
  | J + 1, N, S, hJ, hN, hG, hL, hm, ho => by
    obtain ⟨N', rfl⟩ : ∃ N', N = N' + 1 := ⟨N - 1, by omega⟩
    have hn11 : n < 10 ^ 11 := by omega
    have u9 : 10 ^ J ≤ 10 ^ 9 := Nat.pow_le_pow_right (by decide) (by omega)
    have u10 : (10 : Nat) ^ 9 = 1000000000 := by decide
    have up : 0 < 10 ^ J := Nat.pow_pos (by decide)
    have hN2 : 10 ^ J < N' + 1 := hN
    have lg := lg_ps (i := J) h0 hn11
    have f : n % 10 ^ (J + 1) / 10 ^ J = fg n J := by
      rw [Nat.pow_succ]
      exact Nat.mod_mul_right_div_self n (10 ^ J) 10
    have r : n % 10 ^ (J + 1) % 10 ^ J = n % 10 ^ J := Nat.mod_mod_of_dvd n (Nat.pow_dvd_pow 10 (Nat.le_succ J))
    have fp : 0 < fg n J → J ≤ lgk n := fun q => lg.mp (by
      apply Nat.pos_of_ne_zero
      intro z
      rw [fg, z] at q
      exact absurd q (by decide))
    have f10 : fg n J < 10 := Nat.mod_lt _ (by decide)
    have ml : n % 10 ^ (J + 1) ≤ n := Nat.mod_le _ _
    have mr : n % 10 ^ J ≤ n := Nat.mod_le _ _
    have uJ : 10 ^ J / 10 = unN J := by
      cases J with
      | zero => rfl
      | succ j =>
        rw [Nat.pow_succ]
        exact Nat.mul_div_cancel _ (by decide)
    have ih := fun S' => rd_L h0 hn w hP e0 e2 J N' S' (by omega) (by rw [← uJ]; omega)
    rw [show unN (J + 1) = 10 ^ J from rfl]
    generalize n % 10 ^ (J + 1) = m at f r ml ⊢
    generalize n % 10 ^ J = m2 at r mr ih
    generalize 10 ^ J = u at f r u9 up hN2 uJ ⊢
    have tu : (nI u).toInt = u := nI_toInt (by omega)
    have tm : (nI m).toInt = m := nI_toInt (by omega)
    have td : (nI (fg n J)).toInt = fg n J := nI_toInt (by omega)
    have hd : nI m / nI u = nI (fg n J) := by
      apply Int32.toInt_inj.mp
      rw [bd_ti_div (by omega) (by omega), tm, tu, td, ← Int.natCast_ediv, f]
    have hr : nI m - nI m / nI u * nI u = nI m2 := by
      apply Int32.toInt_inj.mp
      rw [bd_ti_rem (by omega), tm, tu, nI_toInt (by omega), ← Int.natCast_emod, r]
    have n1 : ¬ nI u < 1 := fun q => by
      have : (nI u).toInt < 1 := Int32.lt_iff_toInt_lt.mp q
      omega
    have h15 : S.1 15 0 = S2.1 3 28 ∧ S.1 15 2 = P := by
      rw [hG.1 15 (by omega)]
      exact ⟨e0, e2⟩
    rw [F_X5_readOrder_L16, if_neg n1, hr, hd]
    by_cases dz : (0 : Int32) < nI (fg n J)
    · have d1 : (0 : Int) < (nI (fg n J)).toInt := Int32.lt_iff_toInt_lt.mp dz
      have jl := fp (by omega)
      have hz : (nI (fg n J) - 1).toInt = (fg n J : Int) - 1 := by
        rw [bd_ti_sub (by rw [td]; show -2147483648 ≤ _ - (1 : Int); omega) (by rw [td]; show _ - (1 : Int) ≤ 2147483647; omega), td]
        rfl
      rw [if_pos dz, lcq h15.1 h15.2 w hP]
      by_cases l : lv (S2.1 3 28) (nI (fg n J) - 1)
      · rw [if_pos l, if_neg one0]
        have g := (lv_gd hz).mp l
        have g1 := g.1
        have g2 := g.2.1
        have cz := pz_cl (x := nI (fg n J) - 1) (by omega)
        have hb : F_X5_holds S (nI (fg n J) - 1) = if bt (S.1 138 1) (fg n J - 1) then 1 else 0 := by
          rw [F_X5_holds, hw (T := S2) ⟨by omega, by omega⟩, in_bt (by omega), show (nI (fg n J) - 1).toNatClampNeg = fg n J - 1 by omega]
        rw [hb]
        by_cases y : bt (S.1 138 1) (fg n J - 1)
        · rw [if_pos y, if_neg one0]
          obtain ⟨k, k1, k2, k3⟩ := (hm _ (by omega)).mp y
          exact ⟨hG, Or.inl ⟨rfl, fun x => x.2 J k (by omega) k1 k2 (by omega)⟩⟩
        · rw [if_neg y, if_pos (show (0 : Int32) = 0 from rfl), F_X5_readOrder_L16ftftc77, dg_d (by omega), uJ]
          have zn : nI (fg n J) - 1 = nI (fg n J - 1) := Int32.toInt_inj.mp (by rw [hz, nI_toInt (by omega)]; omega)
          obtain ⟨L0, L1, s, hs, L2, L3⟩ := hL
          have pc := pcT ⟨s, hs⟩ ⟨fg n J - 1, by omega⟩ (by show ¬ bt (nI s) (fg n J - 1); rw [← L2]; exact y)
          have so := nI_orT ⟨s, hs⟩ ⟨fg n J - 1, by omega⟩
          dsimp only at pc so
          have n7 : ¬ (7 : Int32) ≤ S.1 138 0 := fun q => by
            rw [L0] at q
            have q2 : (7 : Int) ≤ (nI (lgk n + 1 - (J + 1))).toInt := Int32.le_iff_toInt_le.mp q
            rw [nI_toInt (by omega)] at q2
            omega
          have hM : mm_b 0 127 (S.1 138 1) := by
            rw [L2]
            exact ⟨by rw [nI_toInt (by omega)]; omega, by rw [nI_toInt (by omega)]; omega⟩
          rw [zn, F_X5_add, if_neg n7, L0, nI_c (by omega), nI_1]
          refine ih _ (Gf_up (Gf_up (Gf_up hG (by omega)) (by omega)) (by omega)) ⟨?_, fun i hi => ?_, s ||| 2 ^ (fg n J - 1), ?_, ?_, ?_⟩ ?_ (og_dn ho g (fun k k1 k2 k3 => y ((hm _ (by omega)).mpr ⟨k, k1, k2, by omega⟩)))
          · rw [up_ne (by omega), up_at]
            exact congrArg nI (by omega)
          · rw [up_ne (by omega), up_ne (by omega)]
            by_cases e : i = lgk n + 1 - (J + 1)
            · rw [e, up_at]
              exact congrArg (fun k => nI (fg n k - 1)) (by omega)
            · rw [up_ne (by omega)]
              exact L1 i (by omega)
          · exact Nat.or_lt_two_pow (n := 7) hs (Nat.pow_lt_pow_right (by decide) (by omega))
          · rw [up_at, L2]
            exact so
          · rw [pc.1, L3]
            omega
          · rw [up_at]
            exact mk_dn hm hM (by omega) g1 g2
      · rw [if_neg l, if_pos (show (0 : Int32) = 0 from rfl)]
        exact ⟨hG, Or.inl ⟨rfl, fun x => l ((lv_gd hz).mpr (x.1 J (by omega) (by omega)))⟩⟩
    · have d0 : (nI (fg n J)).toInt ≤ 0 := Int32.le_iff_toInt_le.mp (bd_nlt dz)
      have fz : fg n J = 0 := by omega
      have L0 := hL.1
      have lg9 : lgk n ≤ 9 := lg_lt (by rw [u10]; omega) (lg_p hn11).2
      have tl : (nI (lgk n + 1 - (J + 1))).toInt = ((lgk n + 1 - (J + 1) : Nat) : Int) := nI_toInt (by omega)
      rw [if_neg dz]
      by_cases sz : S.1 138 0 ≤ 0
      · have s2 : (S.1 138 0).toInt ≤ 0 := Int32.le_iff_toInt_le.mp sz
        rw [L0, tl] at s2
        have jn : J ≠ lgk n := fun e => by
          have := fg_top h0 hn11
          rw [← e] at this
          omega
        rw [if_pos sz, dg_d (by omega), uJ]
        obtain ⟨-, L1, s, hs, L2, L3⟩ := hL
        refine ih S hG ⟨by rw [L0]; exact congrArg nI (by omega), fun i hi => absurd hi (by omega), s, hs, L2, by rw [L3]; omega⟩ (fun q hq => ?_) ⟨fun k k1 k2 => by omega, fun k l k1 k2 k3 => by omega⟩
        rw [hm q hq]
        constructor
        · rintro ⟨k, k1, k2, k3⟩
          omega
        · rintro ⟨k, k1, k2, k3⟩
          omega
      · have s2 : (0 : Int) < (S.1 138 0).toInt := Int32.lt_iff_toInt_lt.mp (bd_nle sz)
        rw [L0, tl] at s2
        rw [if_neg sz]
        exact ⟨hG, Or.inl ⟨rfl, fun x => by have := (x.1 J (by omega) (by omega)).1; omega⟩⟩
theorem io_0 {S : mm_S} {y : Int32} (h : y ≤ 0) : ∀ N : Nat, F_X10_isOrder_L15 N S 0 0 y = 0
  | 0 => rfl
  | N + 1 => by rw [F_X10_isOrder_L15, if_pos h]
/-- class and reference: the same orders, and the line holds their persons -/
theorem ro (h : RB S1 S2) : (F_X5_readOrder S1 x).1 = F_X10_isOrder S2 x ∧ Gf 138 139 S1 (F_X5_readOrder S1 x).2 ∧ (F_X10_isOrder S2 x = 0 ∨ (F_X10_isOrder S2 x = 1 ∧ ∃ n : Nat, 0 < n ∧ n < 2147483648 ∧ x.toInt = n ∧ og (S2.1 3 28) n 0 (lgk n + 1) ∧ Ln n 0 (lgk n + 1) (F_X5_readOrder S1 x).2)) := by
  have hP := h.1.2.2.1.2.1.1
  have w := h.2.2.1
  have h0 : S1.1 15 0 = S2.1 3 28 := h.2.1.1.1
  have h2 : S1.1 15 2 = S2.1 1 0 := h.2.1.1.2.2
  have hG : Gf 138 139 S1 (F_X5_empty S1) := Gf_up (Gf_up Gf_rf (by omega)) (by omega)
  rw [F_X5_readOrder, F_X5_readOrder_c4, F_X10_isOrder]
  by_cases q : x ≤ 0
  · have q2 : x.toInt ≤ 0 := Int32.le_iff_toInt_le.mp q
    rw [if_pos q, if_neg (fun y : (0 : Int32) < x => by have : (0 : Int) < x.toInt := Int32.lt_iff_toInt_lt.mp y; omega), io_0 q]
    exact ⟨rfl, hG, Or.inl rfl⟩
  · have q3 : (0 : Int32) < x := bd_nle q
    have q2 : (0 : Int) < x.toInt := Int32.lt_iff_toInt_lt.mp q3
    have xr := bd_rng x
    obtain ⟨n, rfl, hn⟩ := bd_nI (x := x) (by omega)
    have n0 : 0 < n := by omega
    have n31 : n < 2147483648 := by omega
    have hn11 : n < 10 ^ 11 := by omega
    have lg9 : lgk n ≤ 9 := lg_lt (by show n / 1000000000 < 10; omega) (lg_p hn11).2
    have a := io_L w hP rfl n0 n31 2147483648 0 0 (by rw [Nat.pow_zero, Nat.div_one]; omega) ⟨fun k k1 k2 => by omega, fun k l k1 k2 k3 => by omega⟩ (fun q hq => ⟨fun z => absurd z (bt_0 hq), fun ⟨k, k1, k2, k3⟩ => by omega⟩) (by decide)
    rw [Nat.pow_zero, Nat.div_one] at a
    have e1 : (F_X5_empty S1).1 138 1 = 0 := up_at
    have e0 : (F_X5_empty S1).1 138 0 = 0 := by rw [F_X5_empty, up_ne (by omega), up_at]
    have b := rd_L n0 n31 w hP h0 h2 10 1000000001 (F_X5_empty S1) (by omega) (by decide) hG ⟨by rw [e0, show lgk n + 1 - 10 = 0 by omega]; rfl, fun i hi => by omega, 0, by omega, e1, by rw [show lgk n + 1 - 10 = 0 by omega]; rfl⟩ (fun q hq => by rw [e1]; exact ⟨fun z => absurd z (bt_0 hq), fun ⟨k, k1, k2, k3⟩ => by omega⟩) ⟨fun k k1 k2 => by omega, fun k l k1 k2 k3 => by omega⟩
    rw [Nat.mod_eq_of_lt (show n < 10 ^ 10 by omega), show nI (unN 10) = 1000000000 by decide] at b
    rw [if_neg q, if_pos q3]
    obtain ⟨b1, b2⟩ := b
    rcases a with ⟨a1, a2⟩ | ⟨a1, a2⟩
    · rcases b2 with ⟨b2, b3⟩ | ⟨b2, b3, b4⟩
      · exact absurd a2 b3
      · exact ⟨by rw [a1, b2], b1, Or.inr ⟨a1, n, n0, n31, hn.symm, a2, b4⟩⟩
    · rcases b2 with ⟨b2, b3⟩ | ⟨b2, b3, b4⟩
      · exact ⟨by rw [a1, b2], b1, Or.inl a1⟩
      · exact absurd b3 a2
end ORC
