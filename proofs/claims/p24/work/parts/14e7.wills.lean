section CL36
variable {a : Nat} {t : Nat → Int32} {n : Int32} {S1 S2 B1 B2 : mm_S} {f c m b s g v w x : Int32}
/-- a will -/
theorem cl_will (ha : 3 ≤ a) (D : Dr a B1 B2) (h : Bs a t n S1 S2 B1 B2) (hn : pz_p n) (hc : pz_p c) (hl : c < n) : Oc a t n S1 S2 f c (F_X8_readWill (rd B1 0 f c m) a) (F_X10_readsWill (td B2 (c + 1) c s g v w)) := by
  obtain ⟨h1, h2⟩ := pz_nx hn hc hl
  have e1 : (rd B1 0 f (c + 1) m).1 a 0 = B2.1 2 0 := by rw [rd_row (by omega)]; exact D.1.1
  have b7 := D.2.1.1
  rw [F_X8_readWill, rd_3, rd_up3, e1, F_X8_readWill_u17, F_X10_readsWill]
  rcases t0 (f := f) (m := m) (b := c) (s := s) (g := g) (v := v) (w := w) h hn h1 b7 with ⟨k, p, e, q', s', g', v', r1, r2, hk⟩ | ⟨p, e, g', pp, r1, r2, hp0, hp1, he, hle⟩
  · rw [r1, r2]
    show Oc a t n S1 S2 f c (F_X8_readWill_u17c20 (rd B1 k p e p) a (-1)) (F_X10_readsWill_c5 0 (td B2 q' p s' g' v' k))
    rw [wl_20 hk, F_X10_readsWill_c5, if_pos rfl]
    exact Or.inr ⟨_, _, k, p, _, _, _, _, _, _, rfl, rfl, hk, h⟩
  · rw [r1, r2]
    show Oc a t n S1 S2 f c (F_X8_readWill_u17c20 (rd B1 0 f e p) a pp) (F_X10_readsWill_c5 1 (td B2 e p 48 g' pp w))
    have hW : F_X6_hasWill (rd B1 0 f e p) a pp = F_X10_isIn (td B2 e p 48 g' pp w) (B2.1 2 24) pp := by
      have e4 : (rd B1 0 f e p).1 a 3 = B2.1 2 24 := by rw [rd_row (by omega)]; exact D.1.2.2.2
      rw [F_X6_hasWill, e4]
      exact hw ⟨hp0, by omega⟩
    rw [F_X8_readWill_u17c20, c_is0, if_neg one0, F_X10_readsWill_c5, if_neg one0, td_2, td_22, hW]
    by_cases q : F_X10_isIn (td B2 e p 48 g' pp w) (B2.1 2 24) pp = 0
    · rw [if_pos q, if_pos q, td_upo (by decide)]
      generalize hWe : B2.1 2 24 ||| (1 : Int32) <<< (pp &&& 31) = W
      have hB := Bs_2 (j := 24) (v := W) h
      have r0 : (mm_up B2 2 24 W).1 2 0 = B2.1 2 0 := up_ne (by omega)
      show Oc a t n S1 S2 f c (F_X8_readWill_u17c20tc51 (F_X8_readHeir (rd B1 0 f e p) a pp).2 a pp (F_X8_readHeir (rd B1 0 f e p) a pp).1) (F_X10_readsWill_L50 (3 + 1) (td (mm_up B2 2 24 W) e p 48 g' pp w) pp 0)
      rw [F_X10_readsWill_L50, if_neg (show ¬ (2 : Int32) ≤ 0 by decide)]
      rcases t1 (f := f) (m := p) (b := p) (s := 48) (g := g') (v := pp) (w := w) ha hB hn he (by rw [r0]; exact b7) (by rw [r0]; exact D.1.1) pp 0 (by rw [r0]; exact ⟨hp0, hp1⟩) (F_X10_readsWill_L50 3) with ⟨k, p2, e2, z2, q', s', g2, v2, u1, u2, hk⟩ | ⟨p2, e2, g2, v2, u1, u2, he2, hle2⟩
      · rw [u1, u2]
        show Oc a t n S1 S2 f c (F_X8_readWill_u17c20tc51 (rd B1 k p2 e2 p2) a pp z2) _
        rw [wl_51 hk]
        exact Or.inr ⟨_, _, k, p2, _, _, _, _, _, _, rfl, rfl, hk, hB⟩
      · rw [u1, u2]
        show Oc a t n S1 S2 f c (F_X8_readWill_u17c20tc51 (rd B1 0 f e2 p2) a pp v2) (F_X10_readsWill_L50 (2 + 1) _ pp _)
        rw [F_X8_readWill_u17c20tc51, F_X10_readsWill_L50, if_neg (show ¬ (2 : Int32) ≤ 0 + Int32.ofInt 1 by decide)]
        have hB2 := Bs_2 (j := (10 + 7 * (0 : Int32) + pp).toNatClampNeg) (v := v2) hB
        have cP := pz_cl (x := pp) hp0
        have c1 : (10 + 7 * (0 : Int32) + pp).toNatClampNeg = 10 + pp.toNatClampNeg := pz_addc (c := 10) (by decide) ⟨hp0, by omega⟩
        have r0b : (mm_up (mm_up B2 2 24 W) 2 (10 + 7 * (0 : Int32) + pp).toNatClampNeg v2).1 2 0 = B2.1 2 0 := by rw [up_ne (by omega), r0]
        rcases t1 (f := f) (m := p2) (b := p2) (s := 48) (g := g2) (v := v2) (w := w) ha hB2 hn he2 (by rw [r0b]; exact b7) (by rw [r0b]; exact D.1.1) pp (0 + Int32.ofInt 1) (by rw [r0b]; exact ⟨hp0, hp1⟩) (F_X10_readsWill_L50 2) with ⟨k, p3, e3, z3, q', s', g3, v3, u3, u4, hk⟩ | ⟨p3, e3, g3, v3, u3, u4, he3, hle3⟩
        · rw [u3, u4]
          show Oc a t n S1 S2 f c (F_X8_readWill_u17c20tc51c58 (rd B1 k p3 e3 p3) a pp v2 z3) _
          rw [wl_58 hk]
          exact Or.inr ⟨_, _, k, p3, _, _, _, _, _, _, rfl, rfl, hk, hB2⟩
        · rw [u3, u4]
          show Oc a t n S1 S2 f c (F_X8_readWill_u17c20tc51c58 (rd B1 0 f e3 p3) a pp v2 v3) (F_X10_readsWill_L50 (1 + 1) _ pp _)
          rw [F_X8_readWill_u17c20tc51c58, F_X10_readsWill_L50, if_pos (show (2 : Int32) ≤ 0 + Int32.ofInt 1 + Int32.ofInt 1 by decide), F_X10_readsWill_L50tc107]
          have hB3 := Bs_2 (j := (10 + 7 * (0 + Int32.ofInt 1) + pp).toNatClampNeg) (v := v3) hB2
          rcases en (f := f) (m := p3) (b := p3) (s := 48) (g := g3) (v := v3) (w := w) hB3 hn he3 with ⟨e4, p4, y1, y2, y3, y4⟩ | ⟨p4, q', s', g4, v4, y1, y2⟩
          · rw [y1, y2]
            show Oc a t n S1 S2 f c (F_X8_readWill_u17c20tc51c58c66 1 (rd B1 0 f e4 p3) a pp v2 v3) _
            have e9 : (rd B1 0 f e4 p3).1 a 3 = B2.1 2 24 := by rw [rd_row (by omega)]; exact D.1.2.2.2
            rw [F_X8_readWill_u17c20tc51c58c66, if_neg one0, F_X8_readWill_u17c20tc51c58c66fc77, F_X6_addWill, hc_p ha D.1.1 hp0, if_neg (show ¬ B2.1 2 0 ≤ pp from fun q => by have := Int32.le_iff_toInt_le.mp q; omega), if_neg one0, e9, hWe, rd_upo (by omega), rd_upo (by omega), rd_upo (by omega)]
            refine Or.inl ⟨_, _, e4, p3, p4, 59, 0, 0, w, rfl, rfl, Dr_will ha D ⟨hp0, hp1⟩, ?_, by omega, y4⟩
            exact Bs_1 ha (Bs_1 ha (Bs_1 ha hB3 ⟨by omega, by omega⟩) ⟨by omega, by omega⟩) ⟨by omega, by omega⟩
          · rw [y1, y2]
            show Oc a t n S1 S2 f c (F_X8_readWill_u17c20tc51c58c66 0 (rd B1 1 p4 p4 p3) a pp v2 v3) _
            rw [F_X8_readWill_u17c20tc51c58c66, if_pos rfl]
            exact Or.inr ⟨_, _, 1, p4, _, _, _, _, _, _, rfl, rfl, by decide, hB3⟩
    · rw [if_neg q, if_neg q, c_bl0, rd_4, wl_45 (by decide), m_fl, F_X10_readsWill_L50tc107]
      exact Or.inr ⟨_, _, 4, p, _, _, _, _, _, _, rfl, rfl, by decide, h⟩
end CL36
