/-! ===== only voices that are there: kept by every call ===== -/
section VXk
variable {X : Int32 → Prop} {P x y z v n v2 : Int32} {S S1 S2 U U1 U2 V1 V2 : mm_S}
theorem Vx_G (h : Vx S2) (m1 : U2.1 1 = S2.1 1) (m3 : U2.1 3 = S2.1 3) (m5 : U2.1 5 = S2.1 5) (m6 : U2.1 6 = S2.1 6) (m7 : U2.1 7 = S2.1 7) (m0 : U2.1 0 5 = S2.1 0 5) : Vx U2 := by
  unfold Vx VX VW VO Xv
  rw [m1, m3, m5, m6, m7, m0]
  exact h
theorem Vx_eq (h : Vx S2) (e : S2 = U2) : Vx U2 := e ▸ h
theorem fr_Vx {wr2 wf2 : List Nat} {k m' : Bool} (h : Vx S2) (f2 : fr wr2 wf2 k m' S2 U2) (h2 : ∀ b ∈ [1, 3, 5, 6, 7], b ∉ wr2 ∧ b ≠ 0) (h3 : 5 ∉ wf2) : Vx U2 :=
  Vx_G h (funext fun j => f2.1 1 j (h2 1 (by decide)).1 (h2 1 (by decide)).2) (funext fun j => f2.1 3 j (h2 3 (by decide)).1 (h2 3 (by decide)).2) (funext fun j => f2.1 5 j (h2 5 (by decide)).1 (h2 5 (by decide)).2) (funext fun j => f2.1 6 j (h2 6 (by decide)).1 (h2 6 (by decide)).2) (funext fun j => f2.1 7 j (h2 7 (by decide)).1 (h2 7 (by decide)).2) (f2.2.1 5 h3)
theorem Vx_1 (h : VX (Xv S2) U2) (m1 : U2.1 1 = S2.1 1) : Vx U2 := by
  have e : Xv U2 = Xv S2 := by
    unfold Xv
    rw [m1]
  unfold Vx
  rw [e]
  exact h
/-- remembered -/
theorem rm_V {k : Nat} (h : VX X S2) (hk : S2.1 0 5 = nI k) (k20 : k ≤ 20) : VX X (F_X10_remember S2) := by
  obtain ⟨d, hd, ⟨b1, b2, b3⟩, b4, b5, b6⟩ := rmM hk k20
  have hdd : (k = 20 ∧ d = 1) ∨ (k < 20 ∧ d = 0) := by
    by_cases q : k = 20
    · exact Or.inl ⟨q, by rw [hd, if_pos q]⟩
    · exact Or.inr ⟨by omega, by rw [hd, if_neg q]⟩
  obtain ⟨h1, h2, h3, h4⟩ := h
  refine ⟨VW_row h1 (b1 3 (by omega) (by omega)), fun m hm m20 l hl => ?_, ?_, ?_⟩
  · have em : m = k + 1 - d := (nz_inj (by omega) (by omega)).mp (hm.symm.trans b4)
    by_cases q : l < k - d
    · exact VO_mv (h2 k hk k20 (l + d) (by omega)) (b5 l q)
    · rw [show l = k - d by omega]
      exact VO_in h1 b6
  · unfold VO
    rw [b1 7 (by omega) (by omega), b1 6 (by omega) (by omega)]
    exact h3
  · unfold VO
    rw [b1 7 (by omega) (by omega), b1 6 (by omega) (by omega)]
    exact h4
/-- row 3 alone is another behind it -/
theorem do_V {k : Nat} (h : Vx S2) (hk : S2.1 0 5 = nI k) (k20 : k ≤ 20) (g : ∀ b, b ≠ 3 → U2.1 b = (F_X10_remember S2).1 b) (vw : VW (Xv S2) U2) : Vx U2 := by
  have r := rm_V h hk k20
  obtain ⟨d, hd, ⟨b1, b2, b3⟩, b4, b5, b6⟩ := rmM hk k20
  refine Vx_1 ⟨vw, ?_, ?_, ?_⟩ (by rw [g 1 (by omega), b1 1 (by omega) (by omega)])
  · unfold VO
    rw [g 0 (by omega), g 5 (by omega)]
    exact r.2.1
  · unfold VO
    rw [g 7 (by omega), g 6 (by omega)]
    exact r.2.2.1
  · unfold VO
    rw [g 7 (by omega), g 6 (by omega)]
    exact r.2.2.2
theorem pa_n (h : RB S1 S2) : ∃ k : Nat, S2.1 0 5 = nI k ∧ k ≤ 20 := by
  obtain ⟨n, x, hn, hx, hm, n20, x20, -⟩ := h.2.2.2.1
  exact ⟨n, hm, n20⟩
theorem rm_3 {k : Nat} (hk : S2.1 0 5 = nI k) (k20 : k ≤ 20) : (F_X10_remember S2).1 3 = S2.1 3 := by
  obtain ⟨d, hd, ⟨b1, b2, b3⟩, b4, b5, b6⟩ := rmM hk k20
  exact b1 3 (by omega) (by omega)
theorem vx_die (v0 : Vx S2) (h : RB S1 S2) (e2 : F_X10_die S2 x = (v2, U2)) : Vx U2 := by
  have hP := h.1.2.2.1.2.1.1
  obtain ⟨k, hk, k20⟩ := pa_n h
  rw [F_X10_die] at e2
  by_cases q : F_X10_isPerson S2 x = 0
  · rw [if_pos q] at e2
    exact Vx_eq v0 (congrArg Prod.snd e2)
  · have hx := per h q
    have hp := per0 h q
    rw [if_neg q, alv h.2.2.1 ⟨hx.1, hx.2.2⟩] at e2
    by_cases l : lv (S2.1 3 28) x
    · rw [if_pos l, if_neg one0, F_X10_die_ttc26, F_X10_die_ttc26c35] at e2
      obtain ⟨f, w, e1, e3⟩ := rm_fk h hp
      have lr : lv ((F_X10_remember S2).1 3 28) x := by rw [e3]; exact l
      have s := (by15 f w hP e1 lr).2
      have u : (F_X10_dies3 (F_X10_remember S2) x).2 = U2 := congrArg Prod.snd e2
      rw [← u]
      exact do_V v0 hk k20 (fun b hb => s.2.2.2.1 b hb) (vw_dies w (VW_row v0.1 e3) hP e1 lr)
    · rw [if_neg l, if_pos (show (0 : Int32) = 0 from rfl)] at e2
      exact Vx_eq v0 (congrArg Prod.snd e2)
theorem vx_sell (v0 : Vx S2) (h : RB S1 S2) (e2 : F_X10_sell S2 x y = (v2, U2)) : Vx U2 := by
  have hP := h.1.2.2.1.2.1.1
  obtain ⟨k, hk, k20⟩ := pa_n h
  rw [F_X10_sell] at e2
  by_cases q : F_X10_isPerson S2 x = 0
  · rw [if_pos q] at e2
    exact Vx_eq v0 (congrArg Prod.snd e2)
  · have hx := per h q
    have hp := per0 h q
    rw [if_neg q] at e2
    by_cases q2 : F_X10_isPerson S2 y = 0
    · rw [if_pos q2] at e2
      exact Vx_eq v0 (congrArg Prod.snd e2)
    · have hy := per h q2
      rw [if_neg q2] at e2
      by_cases e : x = y
      · rw [if_pos e] at e2
        exact Vx_eq v0 (congrArg Prod.snd e2)
      · rw [if_neg e] at e2
        by_cases q3 : F_X10_maySell S2 x y = 0
        · rw [if_pos q3] at e2
          exact Vx_eq v0 (congrArg Prod.snd e2)
        · obtain ⟨f, w, e1, e3⟩ := rm_fk h hp
          have em : F_X10_maySell (F_X10_remember S2) x y = F_X10_maySell S2 x y := by
            rw [F_X10_maySell, F_X10_maySell, F_X10_isAlive, F_X10_isAlive, F_X10_isAlive, F_X10_isAlive, e3]
            rfl
          rw [if_neg q3, F_X10_sell_ffttc40, F_X10_sell_ffttc40c46] at e2
          have hm : ¬ F_X10_maySell (F_X10_remember S2) x y = 0 := by rw [em]; exact q3
          have s := so f w hP ⟨hx.1, hx.2.2⟩ ⟨hy.1, hy.2.2⟩ hm
          obtain ⟨-, l1, l2, e9⟩ := (ms f w hP ⟨hx.1, hx.2.2⟩ ⟨hy.1, hy.2.2⟩).2 hm
          have cx := pz_cl hx.1
          have u : F_X10_sells (F_X10_remember S2) x y = U2 := congrArg Prod.snd e2
          rw [← u]
          exact do_V v0 hk k20 (fun b hb => s.2.2.2.1 b hb) (vw_sells w (VW_row v0.1 e3) ⟨hx.1, hx.2.2⟩ ⟨hy.1, hy.2.2⟩ e9 (gv15 f w hP l2 ((w.2.2 x.toNatClampNeg (by omega)).1.resolve_left e9)).2.1)
theorem vx_putBy (v0 : Vx S2) (h : RB S1 S2) (e2 : F_X10_putBy S2 x y = (v2, U2)) : Vx U2 := by
  have hP := h.1.2.2.1.2.1.1
  obtain ⟨k, hk, k20⟩ := pa_n h
  rw [F_X10_putBy] at e2
  by_cases q : F_X10_isPerson S2 x = 0
  · rw [if_pos q] at e2
    exact Vx_eq v0 (congrArg Prod.snd e2)
  · have hx := per h q
    have hp := per0 h q
    have cx := pz_cl hx.1
    rw [if_neg q] at e2
    by_cases q2 : F_X10_isVoice S2 y = 0
    · rw [if_pos q2] at e2
      exact Vx_eq v0 (congrArg Prod.snd e2)
    · have hy : mm_b 0 6 y := by
        have e : F_X10_isVoice S2 y = if mm_b 0 6 y then 1 else 0 := m_in (lo := 0) (hi := 6)
        rw [e] at q2
        by_cases z : mm_b 0 6 y
        · exact z
        · rw [if_neg z] at q2
          exact absurd rfl q2
      have c7 : ((7 : Int32) + x).toNatClampNeg = 7 + x.toNatClampNeg := pz_addc (by decide) ⟨hx.1, by omega⟩
      rw [if_neg q2, alv h.2.2.1 ⟨hx.1, hx.2.2⟩, c7] at e2
      by_cases l : lv (S2.1 3 28) x
      · rw [if_pos l, if_neg one0] at e2
        by_cases q3 : F_X10_isIn S2 (S2.1 3 (7 + x.toNatClampNeg)) y = 0
        · rw [if_pos q3] at e2
          exact Vx_eq v0 (congrArg Prod.snd e2)
        · obtain ⟨f, w, e1, e3⟩ := rm_fk h hp
          have s := (pb (p := x) (v := y) f w hP (by rw [e3]; exact l) hy (by rw [e3]; exact q3)).2
          rw [if_neg q3, F_X10_putBy_ftftc49, F_X10_putBy_ftftc49u82, F_X10_putBy_ftftc49u82c85, c7] at e2
          have cy := pz_cl hy.1
          have x7 : x.toNatClampNeg < 7 := by omega
          have bj := (h.2.2.1.2.2 x.toNatClampNeg x7).2.1
          have hj := v0.1.2 x.toNatClampNeg x7
          have xy : Xv S2 y := by
            rw [in_bt hy.1] at q3
            by_cases b : bt (S2.1 3 (7 + x.toNatClampNeg)) y.toNatClampNeg
            · have := hj y.toNatClampNeg (by have := hy.2; omega) b
              rw [← nI_cl hy.1] at this
              exact this
            · rw [if_neg b] at q3
              exact absurd rfl q3
          have u : F_X10_gets3 (mm_up (F_X10_remember S2) 3 (7 + x.toNatClampNeg) (S2.1 3 (7 + x.toNatClampNeg) &&& ((1 : Int32) <<< (y &&& 31) ^^^ -1))) x y = U2 := congrArg Prod.snd e2
          rw [e3] at s
          rw [← u]
          have vr : VW (Xv S2) (F_X10_remember S2) := VW_row v0.1 e3
          have vj : VW (Xv S2) (mm_up (F_X10_remember S2) 3 (7 + x.toNatClampNeg) (S2.1 3 (7 + x.toNatClampNeg) &&& ((1 : Int32) <<< (y &&& 31) ^^^ -1))) := VW_j vr x7 (fun t ht hb => hj t ht (bt_sub bj ⟨hy.1, hy.2⟩ ht hb))
          have wj : Wf 3 (S2.1 1 0) (mm_up (F_X10_remember S2) 3 (7 + x.toNatClampNeg) (S2.1 3 (7 + x.toNatClampNeg) &&& ((1 : Int32) <<< (y &&& 31) ^^^ -1))) := Wf_j w x7 (by rw [e3]; exact l.2) (sm_and bj)
          exact do_V v0 hk k20 (fun b hb => s.2.2.2.1 b hb) (vw_gets wj vj ⟨hx.1, hx.2.2⟩ xy).1
      · rw [if_neg l, if_pos (show (0 : Int32) = 0 from rfl)] at e2
        exact Vx_eq v0 (congrArg Prod.snd e2)
theorem vx_will (v0 : Vx S2) (h : RB S1 S2) (e2 : F_X10_will S2 x y z = (v2, U2)) : Vx U2 := by
  obtain ⟨k, hk, k20⟩ := pa_n h
  rw [F_X10_will] at e2
  by_cases q : F_X10_isPerson S2 x = 0
  · rw [if_pos q] at e2
    exact Vx_eq v0 (congrArg Prod.snd e2)
  · have hx := per h q
    rw [if_neg q] at e2
    by_cases q2 : F_X10_isHeir S2 x y = 0
    · rw [if_pos q2] at e2
      exact Vx_eq v0 (congrArg Prod.snd e2)
    · rw [if_neg q2] at e2
      by_cases q3 : F_X10_isHeir S2 x z = 0
      · rw [if_pos q3] at e2
        exact Vx_eq v0 (congrArg Prod.snd e2)
      · rw [if_neg q3] at e2
        by_cases q4 : F_X10_isAlive S2 x = 0
        · rw [if_pos q4] at e2
          exact Vx_eq v0 (congrArg Prod.snd e2)
        · rw [if_neg q4, F_X10_will_ffttc44] at e2
          have c14 : ((14 : Int32) + x).toNatClampNeg = 14 + x.toNatClampNeg := pz_addc (by decide) ⟨hx.1, by omega⟩
          have c21 : ((21 : Int32) + x).toNatClampNeg = 21 + x.toNatClampNeg := pz_addc (by decide) ⟨hx.1, by omega⟩
          have u : mm_up (mm_up (F_X10_remember S2) 3 ((14 : Int32) + x).toNatClampNeg y) 3 ((21 : Int32) + x).toNatClampNeg z = U2 := congrArg Prod.snd e2
          rw [← u, c14, c21]
          exact do_V v0 hk k20 (fun b hb => by rw [up_row hb, up_row hb]) (VW_o (VW_o (VW_row v0.1 (rm_3 hk k20)) (by omega)) (by omega))
theorem yv1 (hP : mm_b 1 7 P) (e1 : S2.1 1 0 = P) (ha : S1.2.2 0 1 < 15) (ea : S1.1 (S1.2.2 0 1) 0 = P) (h : Yr P S1 S2 U1 U2) (hv : VW X U2) (k : mm_S → Int32 → Int32 × mm_S) : ∃ V1 V2, F_X9_passYear U1 = V1 ∧ F_X10_drift_L33fc48 (F_X10_draw U2 (U2.1 1 0)).2 (F_X10_draw U2 (U2.1 1 0)).1 k y (U2.1 1 0) = k V2 (y + Int32.ofInt 1) ∧ Yr P S1 S2 V1 V2 ∧ VW X V2 := by
  have hP0 : mm_b 0 7 P := ⟨by have := hP.1; omega, hP.2⟩
  have pU : U1.1 (U1.2.2 0 1) 0 = P := by rw [h.2.2.2.1, h.2.2.1 _ (by omega) (by omega)]; exact ea
  have pM : U2.1 1 0 = P := by rw [h.2.2.2.2 1 (by omega)]; exact e1
  obtain ⟨v, n, d1, d2, hn, v0, vP⟩ := dr h.2.1.1 h.2.1.2 hP
  have hA := Yr_dr h hn
  have vA : VW X (mm_upL U2 0 8 n.toInt64) := VW_row hv rfl
  rw [F_X9_passYear, pU, pM, d1, d2]
  show ∃ V1 V2, F_X9_passYear_c14 (mm_up U1 128 0 n) v = V1 ∧ F_X10_drift_L33fc48 (mm_upL U2 0 8 n.toInt64) v k y P = k V2 (y + Int32.ofInt 1) ∧ Yr P S1 S2 V1 V2 ∧ VW X V2
  generalize mm_up U1 128 0 n = A1 at *
  generalize mm_upL U2 0 8 n.toInt64 = A2 at *
  obtain ⟨t, n2, d3, d4, hn2, t0, t3⟩ := dr (x := 3) hA.2.1.1 hA.2.1.2 (by decide)
  have hB := Yr_dr hA hn2
  have vB : VW X (mm_upL A2 0 8 n2.toInt64) := VW_row vA rfl
  rw [F_X9_passYear_c14, F_X10_drift_L33fc48, d3, d4]
  show ∃ V1 V2, F_X9_passYear_c14c23 t (mm_up A1 128 0 n2) v = V1 ∧ F_X10_drift_L33fc48c54 t (mm_upL A2 0 8 n2.toInt64) v k y P = k V2 (y + Int32.ofInt 1) ∧ Yr P S1 S2 V1 V2 ∧ VW X V2
  generalize mm_up A1 128 0 n2 = B1 at *
  generalize mm_upL A2 0 8 n2.toInt64 = B2 at *
  obtain ⟨p1, p7⟩ := hP
  have bU : B1.1 (B1.2.2 0 1) 0 = P := by rw [hB.2.2.2.1, hB.2.2.1 _ (by omega) (by omega)]; exact ea
  have bM : B2.1 1 0 = P := by rw [hB.2.2.2.2 1 (by omega)]; exact e1
  have v6 : 0 ≤ v.toInt ∧ v.toInt ≤ 6 := ⟨v0, by omega⟩
  obtain ⟨⟨f, w⟩, -⟩ := id hB
  rw [F_X9_passYear_c14c23, F_X10_drift_L33fc48c54]
  by_cases q0 : t = 0
  · rw [if_pos q0, if_pos q0, alv w v6]
    by_cases l : lv (B2.1 3 28) v
    · rw [if_pos l, if_neg one0]
      obtain ⟨-, s⟩ := by15 (q := v) f w hP0 bM l
      exact ⟨_, _, rfl, rfl, Yr_sm hB s, vw_dies w vB hP0 bM l⟩
    · have el : F_X3_lives_15 B1 v = 0 := by rw [lc15 f w hP0, if_neg l]
      rw [if_neg l, if_pos (show (0 : Int32) = 0 from rfl), F_X3_bury_15, if_pos el]
      exact ⟨_, _, rfl, rfl, hB, vB⟩
  · rw [if_neg q0, if_neg q0]
    by_cases q1 : t = 1
    · rw [if_pos q1, if_pos q1, bU]
      have t1 : (v + 1).toInt = v.toInt + 1 := pz_ti1 ⟨by omega, by omega⟩
      have rm : (v + 1 - (v + 1) / P * P).toInt = (v.toInt + 1) % P.toInt := by rw [bd_ti_rem (by omega), t1]
      have key : ∀ b : Int32, 0 ≤ b.toInt ∧ b.toInt ≤ 6 → v + 1 - (v + 1) / P * P = b → ∃ V1 V2, F_X9_passYear_c14c23tftc73 (F_X3_handOver_15 B1 v b) = V1 ∧ (if F_X10_maySell B2 v (v + 1 - (v + 1) / P * P) = 0 then k B2 (y + Int32.ofInt 1) else F_X10_drift_L33fc48c54tffc118 k (F_X10_sells B2 v (v + 1 - (v + 1) / P * P)) y) = k V2 (y + Int32.ofInt 1) ∧ Yr P S1 S2 V1 V2 ∧ VW X V2 := fun b hb eb => by
        rw [eb]
        by_cases m0 : F_X10_maySell B2 v b = 0
        · have e := (ms f w hP0 v6 hb).1
          rw [if_pos m0, F_X3_handOver_15, e, if_pos m0]
          exact ⟨_, _, rfl, rfl, hB, vB⟩
        · rw [if_neg m0]
          obtain ⟨-, l1, l2, e9⟩ := (ms f w hP0 v6 hb).2 m0
          have cv := pz_cl v6.1
          exact ⟨_, _, rfl, rfl, Yr_sm hB (so f w hP0 v6 hb m0), vw_sells w vB v6 hb e9 (gv15 f w hP0 l2 ((w.2.2 v.toNatClampNeg (by omega)).1.resolve_left e9)).2.1⟩
      by_cases q2 : P ≤ v + 1
      · have q3 := Int32.le_iff_toInt_le.mp q2
        have e : v.toInt + 1 = P.toInt := by omega
        rw [if_pos q2]
        exact key 0 (by decide) (Int32.toInt_inj.mp (by rw [rm, e, Int.emod_self]; rfl))
      · have q3 := Int32.lt_iff_toInt_lt.mp (bd_nle q2)
        rw [if_neg q2]
        exact key (v + 1) ⟨by omega, by omega⟩ (Int32.toInt_inj.mp (by rw [rm, Int.emod_eq_of_lt (by omega) (by omega), t1]))
    · rw [if_neg q1, if_neg q1]
      exact ⟨_, _, rfl, rfl, hB, vB⟩
theorem yvL (hP : mm_b 1 7 P) (e1 : S2.1 1 0 = P) (ha : S1.2.2 0 1 < 15) (ea : S1.1 (S1.2.2 0 1) 0 = P) : ∀ (N : Nat) (U1 U2 : mm_S) (y : Int32), Yr P S1 S2 U1 U2 → VW X U2 → VW X (F_X10_drift_L33 x N U2 y).2 ∧ Yr P S1 S2 (F_X9_drift_L40 x N U1 y).2 (F_X10_drift_L33 x N U2 y).2
  | 0, U1, U2, y, h, hv => ⟨hv, h⟩
  | N + 1, U1, U2, y, h, hv => by
    rw [F_X9_drift_L40, F_X10_drift_L33]
    by_cases q : x ≤ y
    · rw [if_pos q, if_pos q]
      exact ⟨hv, h⟩
    · rw [if_neg q, if_neg q]
      obtain ⟨V1, V2, r1, r2, hV, vV⟩ := yv1 (y := y) hP e1 ha ea h hv (F_X10_drift_L33 x N)
      rw [r1, r2, F_X9_drift_L40fc49]
      exact yvL hP e1 ha ea N V1 V2 _ hV vV
theorem vx_drift (v0 : Vx S2) (h : RB S1 S2) (hJ : JC S1) (hM : JM S2) (e2 : F_X10_drift S2 x = (v2, U2)) : Vx U2 := by
  have ei : F_X10_in S2 x.toInt64 1 60 = if mm_b 1 60 x then 1 else 0 := m_in (lo := 1) (hi := 60)
  rw [F_X10_drift, ei] at e2
  by_cases q1 : mm_b 1 60 x
  · have ea : S1.1 (S1.2.2 0 1) 0 = S2.1 1 0 := h.1.2.2.1.1.1
    rw [if_pos q1, if_neg one0] at e2
    by_cases q5 : S2.1 1 0 = 0
    · rw [if_pos q5] at e2
      exact Vx_eq v0 (congrArg Prod.snd e2)
    · rw [if_neg q5, F_X10_drift_ttc31] at e2
      have hP := h.1.2.2.1.2.1.1
      have hP1 : mm_b 1 7 (S2.1 1 0) := by
        obtain ⟨z1, z2⟩ := hP
        refine ⟨?_, z2⟩
        have : (S2.1 1 0).toInt ≠ 0 := fun z => q5 (Int32.toInt_inj.mp z)
        omega
      obtain ⟨f, w, e1, e3⟩ := rm_fk h q5
      obtain ⟨k, y, hn, hx, hm, n20, x20, -⟩ := h.2.2.2.1
      obtain ⟨⟨a1, a2⟩, -, -, -⟩ := rmC hn hx n20 x20
      obtain ⟨d, -, ⟨b1, b2, b3⟩, -, -, -⟩ := rmM hm n20
      have hd := pa_in (JRC_1 hJ)
      have lx : y % 20 < 20 := Nat.mod_lt _ (by omega)
      have r128 : (F_X7_remember S1).1 128 = S1.1 128 := a1 128 (by omega) (by omega)
      have y0 : Yr (S2.1 1 0) (F_X7_remember S1) (F_X10_remember S2) (F_X7_remember S1) (F_X10_remember S2) := by
        refine ⟨⟨f, w⟩, ⟨?_, by rw [b3]; exact JM_long hM⟩, fun _ _ _ => rfl, rfl, fun _ _ => rfl⟩
        unfold Se
        rw [r128, b3]
        exact h.2.2.2.2.2
      have r := yvL (x := x) (X := Xv S2) hP1 e1 (by rw [a2]; omega) (by rw [a2, a1 (S1.2.2 0 1) (by omega) (by omega)]; exact ea) 62 _ _ 0 y0 (VW_row v0.1 e3)
      have u : (F_X10_drift_L33 x 62 (F_X10_remember S2) 0).2 = U2 := congrArg Prod.snd e2
      rw [u] at r
      exact do_V v0 hm n20 (fun b hb => r.2.2.2.2.2 b hb) r.1
  · rw [if_neg q1, if_pos (show (0 : Int32) = 0 from rfl)] at e2
    exact Vx_eq v0 (congrArg Prod.snd e2)
theorem vx_undo (v0 : Vx S2) (h : RB S1 S2) (e2 : F_X10_undo S2 = (v2, U2)) : Vx U2 := by
  obtain ⟨k, hk, k20⟩ := pa_n h
  rw [F_X10_undo] at e2
  by_cases hz : S2.1 0 5 = 0
  · rw [if_pos hz] at e2
    exact Vx_eq v0 (congrArg Prod.snd e2)
  · have k0 : k ≠ 0 := fun q => hz (by rw [hk, q]; rfl)
    obtain ⟨m, rfl⟩ : ∃ m, k = m + 1 := ⟨k - 1, by omega⟩
    rw [if_neg hz, hk, nz_sub1 (by omega), F_X10_undo_tu38, F_X10_undo_tu38c41] at e2
    have u : F_X10_copies_53 (mm_up S2 0 5 (nI m)) (30 * nI m) 0 30 = U2 := congrArg Prod.snd e2
    have e30 : (30 * nI m : Int32).toNatClampNeg = 30 * m := nz_mul (c := 30) (by omega) (by omega)
    have d1 : ∀ b i, U2.1 b i = if b = 3 ∧ i < 30 then S2.1 5 (30 * m + i) else (mm_up S2 0 5 (nI m)).1 b i := fun b i => by
      rw [← u]
      show (if b = 3 ∧ (0 : Int32).toNatClampNeg ≤ i ∧ i < (0 : Int32).toNatClampNeg + (30 : Int32).toNatClampNeg then (mm_up S2 0 5 (nI m)).1 5 ((30 * nI m : Int32).toNatClampNeg + (i - (0 : Int32).toNatClampNeg)) else (mm_up S2 0 5 (nI m)).1 b i) = _
      rw [e30, show (0 : Int32).toNatClampNeg = 0 by decide, show (30 : Int32).toNatClampNeg = 30 by decide, up_row (b := 5) (by omega)]
      by_cases q : b = 3 ∧ i < 30
      · rw [if_pos q, if_pos (by omega), show i - 0 = i by omega]
      · rw [if_neg q, if_neg (by omega)]
    have v3 : ∀ i, i < 30 → U2.1 3 i = S2.1 5 (30 * m + i) := fun i hi => by rw [d1, if_pos ⟨rfl, hi⟩]
    have vb : ∀ b, b ≠ 0 → b ≠ 3 → U2.1 b = S2.1 b := fun b h0 h3 => by
      funext i
      rw [d1, if_neg (fun z => h3 z.1), up_ne (by omega)]
    have v05 : U2.1 0 5 = nI m := by rw [d1, if_neg (by omega), up_at]
    have past := v0.2.1 (m + 1) hk k20
    refine Vx_1 ⟨VO_out (past m (by omega)) v3, fun l hl l20 j hj => ?_, ?_, ?_⟩ (vb 1 (by omega) (by omega))
    · have el : l = m := (nz_inj (by omega) (by omega)).mp (hl.symm.trans v05)
      exact VO_mv (past j (by omega)) (fun i hi => by rw [vb 5 (by omega) (by omega)])
    · unfold VO
      rw [vb 7 (by omega) (by omega), vb 6 (by omega) (by omega)]
      exact v0.2.2.1
    · unfold VO
      rw [vb 7 (by omega) (by omega), vb 6 (by omega) (by omega)]
      exact v0.2.2.2
theorem n0_k {l : Nat} (h : U2.1 0 5 = 0) (hl : U2.1 0 5 = nI l) (l20 : l ≤ 20) : l = 0 := (nz_inj (l := 0) (by omega) (by omega)).mp (hl.symm.trans h)
theorem vx_keep (v0 : Vx S2) (e2 : F_X10_keep S2 x = (v2, U2)) : Vx U2 := by
  rw [F_X10_keep, in01] at e2
  by_cases q : mm_b 0 1 x
  · rw [if_pos q, if_neg one0, F_X10_keep_tc31] at e2
    obtain ⟨i, o, hi, ho, ho2, hio⟩ := im_x q
    rw [ho2] at e2
    generalize hc : F_X10_copies_36 S2 0 (31 * x) 30 = C2 at e2
    have cF : ∀ b j, C2.1 b j = if b = 6 ∧ o ≤ j ∧ j < o + 30 then S2.1 3 (j - o) else S2.1 b j := fun b j => by
      rw [← hc]
      show (if b = 6 ∧ ((31 : Int32) * x).toNatClampNeg ≤ j ∧ j < ((31 : Int32) * x).toNatClampNeg + (30 : Int32).toNatClampNeg then S2.1 3 ((0 : Int32).toNatClampNeg + (j - ((31 : Int32) * x).toNatClampNeg)) else S2.1 b j) = _
      rw [ho, show (0 : Int32).toNatClampNeg = 0 by decide, show (30 : Int32).toNatClampNeg = 30 by decide, Nat.zero_add]
    have u : mm_up (mm_up (mm_up C2 6 (o + 30) (C2.2.1 0 8).toInt32) 7 x.toNatClampNeg 1) 0 5 0 = U2 := congrArg Prod.snd e2
    have m : ∀ b, b ≠ 0 → b ≠ 6 → b ≠ 7 → U2.1 b = S2.1 b := fun b h0 h6 h7 => by
      rw [← u, up_row h0, up_row h7, up_row h6]
      funext j
      rw [cF, if_neg (fun z => h6 z.1)]
    have mI : ∀ j, j < 30 → U2.1 6 (o + j) = S2.1 3 j := fun j hj => by rw [← u, up_ne (by omega), up_ne (by omega), up_ne (by omega), cF, if_pos ⟨rfl, by omega, by omega⟩, show o + j - o = j by omega]
    have mO : ∀ j, j < o ∨ o + 30 < j → U2.1 6 j = S2.1 6 j := fun j hj => by rw [← u, up_ne (by omega), up_ne (by omega), up_ne (by omega), cF, if_neg (by omega)]
    have m7 : ∀ j, j ≠ x.toNatClampNeg → U2.1 7 j = S2.1 7 j := fun j hj => by rw [← u, up_ne (by omega), up_ne (by omega), up_ne (by omega), cF, if_neg (by omega)]
    have z5 : U2.1 0 5 = 0 := by rw [← u, up_at]
    refine Vx_1 ⟨VW_row v0.1 (m 3 (by omega) (by omega) (by omega)), fun l hl l20 j hj => absurd (n0_k z5 hl l20) (by omega), ?_, ?_⟩ (m 1 (by omega) (by omega) (by omega))
    · rcases hio with ⟨-, rfl, ex⟩ | ⟨-, rfl, ex⟩
      · exact fun _ => VO_in v0.1 mI
      · intro z
        rw [m7 0 (by omega)] at z
        exact VO_mv (v0.2.2.1 z) (fun j hj => mO _ (by omega))
    · rcases hio with ⟨-, rfl, ex⟩ | ⟨-, rfl, ex⟩
      · intro z
        rw [m7 1 (by omega)] at z
        exact VO_mv (v0.2.2.2 z) (fun j hj => mO _ (by omega))
      · exact fun _ => VO_in v0.1 mI
  · rw [if_neg q, if_pos (show (0 : Int32) = 0 from rfl)] at e2
    exact Vx_eq v0 (congrArg Prod.snd e2)
theorem vx_goBack (v0 : Vx S2) (e2 : F_X10_goBack S2 x = (v2, U2)) : Vx U2 := by
  rw [F_X10_goBack, in01] at e2
  by_cases q : mm_b 0 1 x
  · obtain ⟨i, o, hi, ho, ho2, hio⟩ := im_x q
    rw [if_pos q, if_neg one0] at e2
    by_cases z : S2.1 7 x.toNatClampNeg = 0
    · rw [if_pos z] at e2
      exact Vx_eq v0 (congrArg Prod.snd e2)
    · rw [if_neg z, F_X10_goBack_ttc43, ho2] at e2
      have im : VO (Xv S2) 6 o S2 := by
        rcases hio with ⟨-, rfl, ex⟩ | ⟨-, rfl, ex⟩
        · rw [ex] at z
          exact v0.2.2.1 z
        · rw [ex] at z
          exact v0.2.2.2 z
      generalize hc : F_X10_copies_63 S2 (31 * x) 0 30 = C2 at e2
      have cF : ∀ b j, C2.1 b j = if b = 3 ∧ j < 30 then S2.1 6 (o + j) else S2.1 b j := fun b j => by
        rw [← hc]
        show (if b = 3 ∧ (0 : Int32).toNatClampNeg ≤ j ∧ j < (0 : Int32).toNatClampNeg + (30 : Int32).toNatClampNeg then S2.1 6 (((31 : Int32) * x).toNatClampNeg + (j - (0 : Int32).toNatClampNeg)) else S2.1 b j) = _
        rw [ho, show (0 : Int32).toNatClampNeg = 0 by decide, show (30 : Int32).toNatClampNeg = 30 by decide]
        by_cases e : b = 3 ∧ j < 30
        · rw [if_pos e, if_pos (by omega), show j - 0 = j by omega]
        · rw [if_neg e, if_neg (by omega)]
      have u : mm_up (mm_upL C2 0 8 (C2.1 6 (o + 30)).toInt64) 0 5 0 = U2 := congrArg Prod.snd e2
      have m : ∀ b, b ≠ 0 → b ≠ 3 → U2.1 b = S2.1 b := fun b h0 h3 => by
        rw [← u, up_row h0]
        funext j
        show C2.1 b j = _
        rw [cF, if_neg (fun z => h3 z.1)]
      have m3 : ∀ j, j < 30 → U2.1 3 j = S2.1 6 (o + j) := fun j hj => by
        rw [← u, up_ne (by omega)]
        show C2.1 3 j = _
        rw [cF, if_pos ⟨rfl, hj⟩]
      have z5 : U2.1 0 5 = 0 := by rw [← u, up_at]
      refine Vx_1 ⟨VO_out im m3, fun l hl l20 j hj => absurd (n0_k z5 hl l20) (by omega), ?_, ?_⟩ (m 1 (by omega) (by omega))
      · unfold VO
        rw [m 7 (by omega) (by omega), m 6 (by omega) (by omega)]
        exact v0.2.2.1
      · unfold VO
        rw [m 7 (by omega) (by omega), m 6 (by omega) (by omega)]
        exact v0.2.2.2
  · rw [if_neg q, if_pos (show (0 : Int32) = 0 from rfl)] at e2
    exact Vx_eq v0 (congrArg Prod.snd e2)
/-- begun anew -/
theorem vx_begin : Vx (F_X10_begins S) := by
  obtain ⟨⟨n1, n2⟩, ⟨n0, n5, n13, n15, n17⟩, ⟨n7, n8⟩, -, n3⟩ := bg_m (S := S)
  have r1 : (F_X10_begins S).1 1 = S.1 1 := n1 1 (by omega) (by omega) (by omega)
  refine ⟨⟨fun i hi => ?_, fun i hi w hw hb => ?_⟩, fun l hl l20 j hj => absurd (n0_k n5 hl l20) (by omega), fun z => absurd n7 z, fun z => absurd n8 z⟩
  · obtain ⟨y1, -, -, -⟩ := n3 i hi
    rw [y1, bgW]
    by_cases e : S.1 1 (3 + i) = 9
    · rw [if_pos e]
      exact Or.inl rfl
    · rw [if_neg e]
      right
      refine ⟨⟨by rw [nI_toInt (by omega)]; omega, by rw [nI_toInt (by omega)]; omega⟩, ?_⟩
      rw [r1, nI_c (by omega)]
      exact e
  · obtain ⟨-, y2, -, -⟩ := n3 i hi
    rw [y2] at hb
    exact absurd hb (bt_0 hw)
theorem vx_parish (v0 : Vx S2) (ra : RA S1 S2) (hJ : JC S1) (e2 : F_X10_parish S2 = (v2, U2)) : Vx U2 := by
  have hd := pa_in (JRC_2 hJ)
  have hn : pz_p (S1.1 1 0) := JIC_fld hJ rfl tbC_0 (by decide)
  have ht : ∀ j : Nat, j < 240 → 0 ≤ (S1.1 2 j).toInt := fun j hj => (JIC_fld (j := j) hJ rfl tbC_2 ⟨by omega, by omega⟩).1
  rcases parse (a := S1.2.2 0 2) (by omega) ra.1.1 ra.1.2.1 hn ht with ⟨C1, C2, c', m', q', b', s', g', v', w', e3, e4, D, hB⟩ | ⟨C1, C2, k, c', m', q', b', s', g', v', e3, e4, hk, hB⟩
  · rw [e4, F_X10_parish_L23ttu87, F_X10_parish_L23ttu87c90, F_X10_parish_L23ttu87c90c94] at e2
    generalize F_X10_copies_21 (mm_up (td C2 q' b' s' g' v' w') 0 10 0) 0 0 37 = C at e2
    exact Vx_eq (vx_begin (S := C)) (congrArg Prod.snd e2)
  · rw [e4] at e2
    have e6 : mm_up (mm_up (td C2 q' b' s' g' v' k) 0 10 0) 0 11 b' = U2 := congrArg Prod.snd e2
    obtain ⟨-, ⟨k3, k4⟩, -, -, -, -⟩ := hB
    have r : ∀ b, b ≠ 0 → b ≠ 2 → U2.1 b = S2.1 b := fun b h0 h2 => by rw [← e6, up_row h0, up_row h0, td_row h0, k3 b h2, up_row h0]
    have f : ∀ j, j < 18 → j ≠ 10 → j ≠ 11 → U2.1 0 j = S2.1 0 j := fun j hj h10 h11 => by
      rw [← e6, up_ne (by omega), up_ne (by omega)]
      show (if j = 18 then q' else if j = 19 then b' else if j = 20 then s' else if j = 21 then g' else if j = 22 then v' else if j = 23 then k else C2.1 0 j) = _
      rw [if_neg (by omega), if_neg (by omega), if_neg (by omega), if_neg (by omega), if_neg (by omega), if_neg (by omega), k3 0 (by omega), up_ne (by omega)]
    exact Vx_G v0 (r 1 (by omega) (by omega)) (r 3 (by omega) (by omega)) (r 5 (by omega) (by omega)) (r 6 (by omega) (by omega)) (r 7 (by omega) (by omega)) (f 5 (by omega) (by omega) (by omega))
theorem Vx_0 : ∀ S, SM1 S → Vx S := by
  intro S hS
  rw [SM1] at hS
  exact Vx_eq (vx_begin (S := F_X10_blank1 SM0)) hS.symm
end VXk
