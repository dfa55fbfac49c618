/-! ===== orders: count, number, first; promise 25 ===== -/
section OUR
variable {S1 S2 : mm_S} {s : Nat} {x y x2 : Int32}
/-- what stands over the loops of one call -/
def Ov (S1 S2 : mm_S) (s : Nat) : Prop := RB S1 S2 ∧ JC S1 ∧ Kn S2 ∧ mm_b 0 6 (S2.1 0 15) ∧ s < 128 ∧ 1 ≤ pcN s ∧ pcN s ≤ 4 ∧ nI s &&& (S2.1 3 28 ^^^ (-1 : Int32)) = 0
theorem ov_fs (v : Ov S1 S2 s) {S R : mm_S} (c : Cf S1 S) (g : Gm 4 S2 R) {i : Nat} (hi : i < fcN (pcN s)) : ∃ (b : Int32) (V1 V2 : mm_S), F_X9_fitsOrder S (nI s) (nI i) = (b, V1) ∧ F_X10_isSo R (nI (onN s i)) (nI s) = (b, V2) ∧ (b = 0 ∨ b = 1) ∧ Cf S1 V1 ∧ Gm 4 S2 V2 ∧ V1.1 138 0 = nI (pcN s) ∧ ∀ j, j < pcN s → V1.1 139 j = nI ((plN (pcN s) s i).getD j 0) := by
  obtain ⟨h, hJ, kn, hM, hs, k1, k4, ha⟩ := v
  obtain ⟨b, V1, V2, e1, e2, e3, e4, e5, e6, e7⟩ := fs (RB_cf h hJ c g) (Kn_gm kn g) (by rw [g.1 0 (by omega)]; exact hM) hs k1 k4 hi (by rw [g.1 3 (by omega)]; exact ha)
  exact ⟨b, V1, V2, e1, e2, e3, Cf_tr c e4, Gm_tr g e5, e6, e7⟩
theorem fc_24 (k4 : pcN s ≤ 4) : fcN (pcN s) ≤ 24 := by
  unfold fcN
  split
  · omega
  · split
    · omega
    · split <;> omega
theorem cn_L (v : Ov S1 S2 s) : ∀ (d i Nc N : Nat) (S R : mm_S) (m f t : Int32), i + d = fcN (pcN s) → d < Nc → 10 ^ pcN s + 1 ≤ N + psN s i → Cf S1 S → Gm 4 S2 R → (F_X9_countOrders_L4 (nI s) Nc S m (nI i)).1 = (F_X10_orders_c_L86 (-1) (nI s) N R (nI (10 ^ pcN s)) m f t (nI (psN s i))).1
  | 0, i, Nc, N, S, R, m, f, t, hd, hc, hN, c, g => by
    obtain ⟨N', rfl⟩ : ∃ N', Nc = N' + 1 := ⟨Nc - 1, by omega⟩
    obtain ⟨h, hJ, kn, hM, hs, k1, k4, ha⟩ := v
    have f24 := fc_24 k4
    rw [Nat.add_zero] at hd
    subst hd
    rw [je hs k1 k4 hN, F_X9_countOrders_L4, or_N hs k4, if_pos (Int32.le_iff_toInt_le.mpr (Int.le_refl _)), endA, if_neg (show ¬ (-1 : Int32) = -2 by decide), if_pos (show (-1 : Int32) = -1 from rfl)]
  | d + 1, i, Nc, N, S, R, m, f, t, hd, hc, hN, c, g => by
    obtain ⟨Nc', rfl⟩ : ∃ N', Nc = N' + 1 := ⟨Nc - 1, by omega⟩
    obtain ⟨b, V1, V2, e1, e2, e3, e4, e5, e6, e7⟩ := ov_fs v c g (i := i) (by omega)
    have ih := fun N' m f t hN' => cn_L v d (i + 1) Nc' N' V1 V2 m f t (by omega) (by omega) hN' e4 e5
    obtain ⟨h, hJ, kn, hM, hs, k1, k4, ha⟩ := v
    have f24 := fc_24 k4
    obtain ⟨N', hN', ej⟩ := jp (R := R) (x2 := -1) hs k1 k4 (i := i) (by omega) hN
    rw [ej m f t, e2, F_X9_countOrders_L4, or_N hs k4, if_neg (fun q => absurd ((nz_le (by omega) (by omega)).mp q) (by omega)), e1]
    show (F_X9_countOrders_L4fc18 b (F_X9_countOrders_L4 (nI s) Nc') V1 m (nI i)).1 = (F_X10_orders_c_L86fc99 b (F_X10_orders_c_L86 (-1) (nI s) N') V2 (nI (10 ^ pcN s)) m f t (nI (onN s i)) (-1)).1
    rw [F_X9_countOrders_L4fc18, F_X10_orders_c_L86fc99, nI_s (show i < 100 by omega), pz_of1, nI_1 (onN s i), ← ps_s]
    rcases e3 with e3 | e3
    · rw [e3, if_pos (show (0 : Int32) = 0 from rfl), if_pos (show (0 : Int32) = 0 from rfl)]
      exact ih N' m f t hN'
    · rw [e3, if_neg one0, if_neg one0]
      split
      · exact ih N' _ _ _ hN'
      · exact ih N' _ _ _ hN'
/-- the number is found: it stays -/
theorem nb_L (v : Ov S1 S2 s) (n1 : ¬ x2 = -1) (n2 : ¬ x2 = -2) : ∀ (d i N c : Nat) (R : mm_S) (f t : Int32), i + d = fcN (pcN s) → 10 ^ pcN s + 1 ≤ N + psN s i → Gm 4 S2 R → x2.toInt < c → c ≤ i → (F_X10_orders_c_L86 x2 (nI s) N R (nI (10 ^ pcN s)) (nI c) f t (nI (psN s i))).1 = t
  | 0, i, N, c, R, f, t, hd, hN, g, h1, h2 => by
    obtain ⟨h, hJ, kn, hM, hs, k1, k4, ha⟩ := v
    rw [Nat.add_zero] at hd
    subst hd
    rw [je hs k1 k4 hN, endA, if_neg n2, if_neg n1]
  | d + 1, i, N, c, R, f, t, hd, hN, g, h1, h2 => by
    obtain ⟨b, V1, V2, e1, e2, e3, e4, e5, e6, e7⟩ := ov_fs v (Cf_rf (S := S1)) g (i := i) (by omega)
    have ih := fun N' c f hN' h1' h2' => nb_L v n1 n2 d (i + 1) N' c V2 f t (by omega) hN' e5 h1' h2'
    obtain ⟨h, hJ, kn, hM, hs, k1, k4, ha⟩ := v
    have f24 := fc_24 k4
    obtain ⟨N', hN', ej⟩ := jp (R := R) (x2 := x2) hs k1 k4 (i := i) (by omega) hN
    have nc : ¬ nI c = x2 := fun q => by
      rw [← q, nI_toInt (by omega)] at h1
      omega
    rw [ej (nI c) f t, e2]
    show (F_X10_orders_c_L86fc99 b (F_X10_orders_c_L86 x2 (nI s) N') V2 (nI (10 ^ pcN s)) (nI c) f t (nI (onN s i)) x2).1 = t
    rw [F_X10_orders_c_L86fc99, pz_of1, nI_1 (onN s i), nI_1 c, ← ps_s, if_neg nc]
    rcases e3 with e3 | e3
    · rw [e3, if_pos (show (0 : Int32) = 0 from rfl)]
      exact ih N' c f hN' h1 (by omega)
    · rw [e3, if_neg one0]
      exact ih N' (c + 1) _ hN' (by omega) (by omega)
theorem nm_L (v : Ov S1 S2 s) (n1 : ¬ x2 = -1) (n2 : ¬ x2 = -2) : ∀ (d i Nc N c : Nat) (S R : mm_S) (f : Int32), i + d = fcN (pcN s) → d < Nc → 10 ^ pcN s + 1 ≤ N + psN s i → Cf S1 S → Gm 4 S2 R → c ≤ i → (F_X9_orderNumber_L5 (nI s) x2 Nc S (nI c) (nI i)).1 = (F_X10_orders_c_L86 x2 (nI s) N R (nI (10 ^ pcN s)) (nI c) f (-1) (nI (psN s i))).1
  | 0, i, Nc, N, c, S, R, f, hd, hc, hN, cc, g, hci => by
    obtain ⟨N', rfl⟩ : ∃ N', Nc = N' + 1 := ⟨Nc - 1, by omega⟩
    obtain ⟨h, hJ, kn, hM, hs, k1, k4, ha⟩ := v
    have f24 := fc_24 k4
    rw [Nat.add_zero] at hd
    subst hd
    rw [je hs k1 k4 hN, F_X9_orderNumber_L5, or_N hs k4, if_pos (Int32.le_iff_toInt_le.mpr (Int.le_refl _)), endA, if_neg n2, if_neg n1]
  | d + 1, i, Nc, N, c, S, R, f, hd, hc, hN, cc, g, hci => by
    obtain ⟨Nc', rfl⟩ : ∃ N', Nc = N' + 1 := ⟨Nc - 1, by omega⟩
    obtain ⟨b, V1, V2, e1, e2, e3, e4, e5, e6, e7⟩ := ov_fs v cc g (i := i) (by omega)
    have ih := fun N' c f hN' hc' => nm_L v n1 n2 d (i + 1) Nc' N' c V1 V2 f (by omega) (by omega) hN' e4 e5 hc'
    have nb := fun N' c f t hN' h1' h2' => nb_L v n1 n2 d (i + 1) N' c V2 f t (by omega) hN' e5 h1' h2'
    obtain ⟨h, hJ, kn, hM, hs, k1, k4, ha⟩ := v
    have f24 := fc_24 k4
    obtain ⟨N', hN', ej⟩ := jp (R := R) (x2 := x2) hs k1 k4 (i := i) (by omega) hN
    rw [ej (nI c) f (-1), e2, F_X9_orderNumber_L5, or_N hs k4, if_neg (fun q => absurd ((nz_le (by omega) (by omega)).mp q) (by omega)), e1]
    show (F_X9_orderNumber_L5fc21 b (F_X9_orderNumber_L5 (nI s) x2 Nc') V1 (nI c) (nI i) x2).1 = (F_X10_orders_c_L86fc99 b (F_X10_orders_c_L86 x2 (nI s) N') V2 (nI (10 ^ pcN s)) (nI c) f (-1) (nI (onN s i)) x2).1
    rw [F_X9_orderNumber_L5fc21, F_X10_orders_c_L86fc99, nI_s (show i < 100 by omega), nI_s (show c < 100 by omega), pz_of1, nI_1 (onN s i), ← ps_s]
    rcases e3 with e3 | e3
    · rw [e3, if_pos (show (0 : Int32) = 0 from rfl), if_pos (show (0 : Int32) = 0 from rfl)]
      exact ih N' c f hN' (by omega)
    · rw [e3, if_neg one0, if_neg one0]
      by_cases q : nI c = x2
      · rw [if_pos q, if_pos q, as_N e6 e7]
        exact (nb N' (c + 1) _ _ hN' (by rw [← q, nI_toInt (by omega)]; omega) (by omega)).symm
      · rw [if_neg q, if_neg q]
        exact ih N' (c + 1) _ hN' (by omega)
/-! the first in all of them -/
theorem bits_N (hs : s < 128) {R : mm_S} : F_X10_bits R (nI s) = nI (pcN s) := by
  rw [← bc (S1 := SC0) (S2 := R) ⟨by rw [nI_toInt (by omega)]; omega, by rw [nI_toInt (by omega)]; omega⟩]
  exact bc_N hs
theorem pcO : ∀ g : Fin 128, ∀ p : Fin 7, pcN g.val ≤ pcN (g.val ||| 2 ^ p.val) ∧ (g.val ||| 2 ^ p.val) < 128 := by decide +kernel
theorem pc1 : ∀ p : Fin 7, pcN (2 ^ p.val) = 1 ∧ 2 ^ p.val < 128 ∧ F_X10_leastOf SC0 (nI (2 ^ p.val)) = nI p.val ∧ (0 : Int32) ||| ((1 : Int32) <<< (nI p.val &&& 31)) = nI (2 ^ p.val) := by decide +kernel
theorem pc2 : ∀ p q : Fin 7, (p = q → 2 ^ p.val ||| 2 ^ q.val = 2 ^ p.val) ∧ (p ≠ q → 2 ≤ pcN (2 ^ p.val ||| 2 ^ q.val)) := by decide +kernel
theorem fb_L (v : Ov S1 S2 s) : ∀ (d i N gg : Nat) (R : mm_S) (m t : Int32), i + d = fcN (pcN s) → 10 ^ pcN s + 1 ≤ N + psN s i → Gm 4 S2 R → gg < 128 → 2 ≤ pcN gg → (F_X10_orders_c_L86 (-2) (nI s) N R (nI (10 ^ pcN s)) m (nI gg) t (nI (psN s i))).1 = -1
  | 0, i, N, gg, R, m, t, hd, hN, g, h1, h2 => by
    obtain ⟨h, hJ, kn, hM, hs, k1, k4, ha⟩ := v
    rw [Nat.add_zero] at hd
    subst hd
    have p7 := pc7 gg
    rw [je hs k1 k4 hN, endA, if_pos (show (-2 : Int32) = -2 from rfl), bits_N h1, if_neg (fun q => by
      have z : (nI (pcN gg)).toInt = (1 : Int32).toInt := by rw [q]
      rw [nI_toInt (by omega)] at z
      have : (1 : Int32).toInt = 1 := rfl
      omega)]
  | d + 1, i, N, gg, R, m, t, hd, hN, g, h1, h2 => by
    obtain ⟨b, V1, V2, e1, e2, e3, e4, e5, e6, e7⟩ := ov_fs v (Cf_rf (S := S1)) g (i := i) (by omega)
    have ih := fun N' gg m t hN' h1' h2' => fb_L v d (i + 1) N' gg V2 m t (by omega) hN' e5 h1' h2'
    obtain ⟨h, hJ, kn, hM, hs, k1, k4, ha⟩ := v
    obtain ⟨N', hN', ej⟩ := jp (R := R) (x2 := -2) hs k1 k4 (i := i) (by omega) hN
    obtain ⟨f1, f2⟩ := on_first hs k1 k4 (i := i) (by omega)
    rw [ej m (nI gg) t, e2]
    show (F_X10_orders_c_L86fc99 b (F_X10_orders_c_L86 (-2) (nI s) N') V2 (nI (10 ^ pcN s)) m (nI gg) t (nI (onN s i)) (-2)).1 = -1
    have po := pcO ⟨gg, h1⟩ ⟨_, f2⟩
    have no := nI_orT ⟨gg, h1⟩ ⟨_, f2⟩
    dsimp only at po no
    rw [F_X10_orders_c_L86fc99, f1, no, pz_of1, nI_1 (onN s i), ← ps_s]
    rcases e3 with e3 | e3
    · rw [e3, if_pos (show (0 : Int32) = 0 from rfl)]
      exact ih N' gg m t hN' h1 h2
    · rw [e3, if_neg one0]
      split
      · exact ih N' _ _ _ hN' po.2 (by omega)
      · exact ih N' _ _ _ hN' po.2 (by omega)
theorem ff_L (v : Ov S1 S2 s) : ∀ (d i Nc N : Nat) (S R : mm_S) (y m f t : Int32), i + d = fcN (pcN s) → d < Nc → 10 ^ pcN s + 1 ≤ N + psN s i → Cf S1 S → Gm 4 S2 R → ((y = -1 ∧ f = 0) ∨ ∃ p : Fin 7, y = nI p.val ∧ f = nI (2 ^ p.val)) → (F_X9_firstInAllOrders_L4 (nI s) Nc S y (nI i)).1 = (F_X10_orders_c_L86 (-2) (nI s) N R (nI (10 ^ pcN s)) m f t (nI (psN s i))).1
  | 0, i, Nc, N, S, R, y, m, f, t, hd, hc, hN, c, g, hf => by
    obtain ⟨N', rfl⟩ : ∃ N', Nc = N' + 1 := ⟨Nc - 1, by omega⟩
    obtain ⟨h, hJ, kn, hM, hs, k1, k4, ha⟩ := v
    rw [Nat.add_zero] at hd
    subst hd
    rw [je hs k1 k4 hN, F_X9_firstInAllOrders_L4, or_N hs k4, if_pos (Int32.le_iff_toInt_le.mpr (Int.le_refl _)), endA, if_pos (show (-2 : Int32) = -2 from rfl)]
    rcases hf with ⟨a, b⟩ | ⟨p, a, b⟩
    · rw [a, b, show F_X10_bits R 0 = nI (pcN 0) from bits_N (s := 0) (by omega), if_neg (show ¬ nI (pcN 0) = 1 by decide)]
    · have q := pc1 p
      rw [a, b, bits_N q.2.1, q.1, if_pos (show nI 1 = 1 from rfl), lo10_any (T := SC0)]
      exact q.2.2.1.symm
  | d + 1, i, Nc, N, S, R, y, m, f, t, hd, hc, hN, c, g, hf => by
    obtain ⟨Nc', rfl⟩ : ∃ N', Nc = N' + 1 := ⟨Nc - 1, by omega⟩
    obtain ⟨b, V1, V2, e1, e2, e3, e4, e5, e6, e7⟩ := ov_fs v c g (i := i) (by omega)
    have ih := fun N' y m f t hN' hf' => ff_L v d (i + 1) Nc' N' V1 V2 y m f t (by omega) (by omega) hN' e4 e5 hf'
    have fb := fun N' gg m t hN' h1' h2' => fb_L v d (i + 1) N' gg V2 m t (by omega) hN' e5 h1' h2'
    obtain ⟨h, hJ, kn, hM, hs, k1, k4, ha⟩ := v
    have f24 := fc_24 k4
    obtain ⟨N', hN', ej⟩ := jp (R := R) (x2 := -2) hs k1 k4 (i := i) (by omega) hN
    obtain ⟨f1, f2⟩ := on_first hs k1 k4 (i := i) (by omega)
    have pl := pc7 s
    have fo : F_X5_firstOne V1 = nI ((plN (pcN s) s i).getD 0 0) := by
      rw [F_X5_firstOne, e6, if_neg (fun q => by
        have q2 : (nI (pcN s)).toInt ≤ 0 := Int32.le_iff_toInt_le.mp q
        rw [nI_toInt (by omega)] at q2
        omega), e7 0 (by omega)]
    rw [ej m f t, e2, F_X9_firstInAllOrders_L4, or_N hs k4, if_neg (fun q => absurd ((nz_le (by omega) (by omega)).mp q) (by omega)), e1]
    show (F_X9_firstInAllOrders_L4fc18 b (F_X9_firstInAllOrders_L4 (nI s) Nc') V1 y (nI i)).1 = (F_X10_orders_c_L86fc99 b (F_X10_orders_c_L86 (-2) (nI s) N') V2 (nI (10 ^ pcN s)) m f t (nI (onN s i)) (-2)).1
    rw [F_X9_firstInAllOrders_L4fc18, F_X10_orders_c_L86fc99, fo, f1, nI_s (show i < 100 by omega), pz_of1, nI_1 (onN s i), ← ps_s]
    generalize (plN (pcN s) s i).getD 0 0 = p0 at f2 ⊢
    have nm1 : ∀ p : Nat, p < 7 → ¬ nI p = -1 := fun p hp z => by
      have tp : (nI p).toInt = p := nI_toInt (by omega)
      rw [z] at tp
      have : (-1 : Int32).toInt = -1 := rfl
      omega
    rcases e3 with e3 | e3
    · rw [e3, if_pos (show (0 : Int32) = 0 from rfl), if_pos (show (0 : Int32) = 0 from rfl)]
      exact ih N' y m f t hN' hf
    · rw [e3, if_neg one0, if_neg one0]
      rcases hf with ⟨a, bb⟩ | ⟨p, a, bb⟩
      · have q := (pc1 ⟨p0, f2⟩).2.2.2
        dsimp only at q
        rw [a, bb, if_pos (show (-1 : Int32) = -1 from rfl), q]
        split
        · exact ih N' _ _ _ _ hN' (Or.inr ⟨⟨p0, f2⟩, rfl, rfl⟩)
        · exact ih N' _ _ _ _ hN' (Or.inr ⟨⟨p0, f2⟩, rfl, rfl⟩)
      · have hp := p.isLt
        have q1 := pc1 p
        have no := nI_orT ⟨2 ^ p.val, q1.2.1⟩ ⟨p0, f2⟩
        have q2 := pc2 p ⟨p0, f2⟩
        dsimp only at no q2
        rw [a, bb, if_neg (nm1 p.val hp), no]
        by_cases z : p.val = p0
        · have zf : p = ⟨p0, f2⟩ := Fin.ext z
          rw [if_pos (by rw [z]), q2.1 zf]
          split
          · exact ih N' _ _ _ _ hN' (Or.inr ⟨p, by rw [z], rfl⟩)
          · exact ih N' _ _ _ _ hN' (Or.inr ⟨p, by rw [z], rfl⟩)
        · have zn : ¬ nI p.val = nI p0 := fun w => by
            have w2 : (nI p.val).toInt = (nI p0).toInt := by rw [w]
            rw [nI_toInt (by omega), nI_toInt (by omega)] at w2
            omega
          have po := pcO ⟨2 ^ p.val, q1.2.1⟩ ⟨p0, f2⟩
          dsimp only at po
          rw [if_neg zn]
          split
          · exact (fb N' _ _ _ hN' po.2 (q2.2 (fun w => z (congrArg Fin.val w)))).symm
          · exact (fb N' _ _ _ hN' po.2 (q2.2 (fun w => z (congrArg Fin.val w)))).symm
end OUR
section OU2
variable {S1 S2 : mm_S} {x y : Int32}
/-- nobody dies -/
theorem fs0 (h : RB S1 S2) (kn : Kn S2) (hM : mm_b 0 6 (S2.1 0 15)) : ∃ (b : Int32) (V1 V2 : mm_S), F_X9_fitsOrder S1 0 0 = (b, V1) ∧ F_X10_isSo S2 0 0 = (b, V2) ∧ (b = 0 ∨ b = 1) ∧ V1.1 138 0 = 0 := by
  have hP := h.1.2.2.1.2.1.1
  obtain ⟨g1, g2, -⟩ := so_U (S := S1) (s := 0) (i := 0) (by omega) (by decide) (by decide)
  have z0 : nI 0 = 0 := rfl
  have zp : nI (pcN 0) = 0 := by decide
  rw [z0] at g1 g2
  rw [zp] at g2
  generalize hU : F_X5_setOrder S1 0 0 = U at g1 g2
  obtain ⟨⟨cr, c2⟩, -, -⟩ := cp_c (S := U) (a := 20) (c := 15) (by omega)
  have c8 : (F_X3_copy U 20 15).1 138 0 = 0 := by
    rw [cr 138 (by omega) (by omega) (by omega) (by omega) (by omega)]
    exact g2
  have e1 : F_X9_fitsOrder S1 0 0 = F_X9_fitsOrder_c9c20c31 (F_X3_copy U 20 15) := by
    rw [F_X9_fitsOrder, hU, F_X9_fitsOrder_c9, F_X9_fitsOrder_c9c20, F_X5_buryIn, F_X5_buryIn_L2, c8, if_pos (show (0 : Int32) ≤ 0 by decide)]
  have e2 : F_X10_isSo S2 0 0 = F_X10_isSo_L83 8 (F_X10_layAside S2) 1 0 := by
    rw [F_X10_isSo, F_X10_isSo_L5, if_pos (show (0 : Int32) ≤ 0 by decide), if_pos (show (0 : Int32) = 0 from rfl), F_X10_isSo_L5ttc72, F_X10_isSo_L5ttc72c77, F_X10_allDie, if_pos (show (0 : Int32).toInt = 0 from rfl)]
  have cV : ∀ x, x < 20 ∨ (24 < x ∧ x < 138) ∨ 139 < x → (F_X3_copy U 20 15).1 x = S1.1 x := fun x hx => by
    rw [cr x (by omega) (by omega) (by omega) (by omega) (by omega)]
    exact g1.1 x (by omega)
  have en : En 132 15 10 (F_X3_copy U 20 15) (F_X10_layAside S2) := by
    have z : En 132 15 10 S1 S2 := h.1.2.2.2.2.2.1
    unfold En
    rw [cV 132 (by omega), cV (132 + 1) (by omega), cV (132 + 2) (by omega), la_o (by omega), la_o (by omega)]
    exact z
  have knV : Kn (F_X10_layAside S2) := Kn_G kn (la_o (by omega)) (la_o (by omega)) (by rw [la_o (by omega)])
  have hbV : mm_b 0 6 ((F_X10_layAside S2).1 0 15) := by rw [la_o (by omega)]; exact hM
  have lp : (F_X10_layAside S2).1 1 0 = S2.1 1 0 := by rw [la_o (by omega)]
  have key : (F_X2_firstUnlike_132_20_L2 8 (F_X3_copy U 20 15) 0 = -1 ∧ F_X10_isSo_L83 8 (F_X10_layAside S2) 1 0 = (1, F_X10_layAside S2)) ∨ (¬ F_X2_firstUnlike_132_20_L2 8 (F_X3_copy U 20 15) 0 = -1 ∧ F_X10_isSo_L83 8 (F_X10_layAside S2) 1 0 = (0, F_X10_layAside S2)) := by
    by_cases p0 : S2.1 1 0 = 0
    · have k0 : (F_X10_layAside S2).1 0 15 ≤ 0 := Int32.le_iff_toInt_le.mpr (by
        apply Int.le_of_not_gt
        intro q
        have q1 : (0 : Int) < ((F_X10_layAside S2).1 0 15).toInt := q
        have := knV 0 (by omega)
        rw [lp, p0] at this
        have z : (0 : Int32).toInt = 0 := rfl
        omega)
      left
      rw [F_X2_firstUnlike_132_20_L2, F_X10_isSo_L83, en.1, if_pos k0, if_pos k0]
      exact ⟨rfl, rfl⟩
    · obtain ⟨fk, -, p1, -, -⟩ := tr0 h g1 p0
      exact knw_L fk hP p1 en knV hbV 8 0 (by omega)
  rw [e1, e2, F_X9_fitsOrder_c9c20c31, F_X2_firstUnlike_132_20]
  rcases key with ⟨a1, a2⟩ | ⟨a1, a2⟩
  · rw [if_pos a1, a2]
    exact ⟨1, _, _, rfl, rfl, Or.inr rfl, c8⟩
  · rw [if_neg a1, a2]
    exact ⟨0, _, _, rfl, rfl, Or.inl rfl, c8⟩
/-- promise 25 -/
theorem an_orders (h : RB S1 S2) (hJ : JC S1) (kn : Kn S2) (hI : JM S2) : (F_X9_orders S1 x y).1 = (F_X10_orders S2 x y).1 := by
  have hP := h.1.2.2.1.2.1.1
  have hM : mm_b 0 6 (S2.1 0 15) := JIM_fld hI rfl tbM_4 (by decide)
  have e0 : S1.1 (S1.2.2 0 1) 0 = S2.1 1 0 := h.1.2.2.1.1.1
  have e5 : S1.1 15 0 = S2.1 3 28 := h.2.1.1.1
  have s0 : F_X10_isSet S2 x = if mm_b 0 ((1 : Int32) <<< (S2.1 1 0 &&& 31) - 1).toInt x then 1 else 0 := m_in (lo := 0)
  have tP : ∀ k : Fin 8, ((1 : Int32) <<< (nI k.val &&& 31) - 1).toInt = ((1 : Int32) <<< (nI k.val &&& 31)).toInt - 1 ∧ ((1 : Int32) <<< (nI k.val &&& 31)).toInt ≤ 128 ∧ 1 ≤ ((1 : Int32) <<< (nI k.val &&& 31)).toInt := by decide +kernel
  have tE : ((1 : Int32) <<< (S2.1 1 0 &&& 31) - 1).toInt = ((1 : Int32) <<< (S2.1 1 0 &&& 31)).toInt - 1 ∧ ((1 : Int32) <<< (S2.1 1 0 &&& 31)).toInt ≤ 128 ∧ 1 ≤ ((1 : Int32) <<< (S2.1 1 0 &&& 31)).toInt := by
    obtain ⟨j, hj, hj2⟩ := bd_nI hP.1
    rw [hj]
    exact tP ⟨j, by have := hP.2; omega⟩
  rw [F_X9_orders, F_X10_orders, F_X6_hasPersons, F_X3_allLive_15, e0, e5]
  by_cases a : x.toInt ≤ -1
  · rw [if_pos a, if_pos (Int32.lt_iff_toInt_lt.mpr (by show x.toInt < 0; omega)), if_pos (show (0 : Int32) = 0 from rfl)]
    rfl
  have n0 : ¬ x < 0 := fun q => by
    have : x.toInt < 0 := Int32.lt_iff_toInt_lt.mp q
    omega
  rw [if_neg a, if_neg n0]
  by_cases a1 : x.toInt ≤ 0
  · have x0 : x = 0 := Int32.toInt_inj.mp (by show x.toInt = 0; omega)
    obtain ⟨b, V1, V2, b1, b2, b3, b4⟩ := fs0 h kn hM
    rw [if_pos a1, F_X10_orders_b, s0]
    subst x0
    have hs0 : mm_b 0 ((1 : Int32) <<< (S2.1 1 0 &&& 31) - 1).toInt 0 := ⟨by decide, by show (0 : Int) ≤ _; omega⟩
    have t0 : ¬ (1 : Int32) <<< (S2.1 1 0 &&& 31) ≤ 0 := fun q => by
      have : ((1 : Int32) <<< (S2.1 1 0 &&& 31)).toInt ≤ 0 := Int32.le_iff_toInt_le.mp q
      omega
    have bz : F_JbitCount S1 0 = 0 := bc_N (S := S1) (s := 0) (by omega)
    have oz : ∀ S : mm_S, F_X9_ordersOf S 0 = 1 := fun S => or_N (S := S) (s := 0) (by omega) (by decide)
    rw [if_neg t0, if_neg one0, bz, if_pos (show (0 : Int32) ≤ 4 by decide), if_pos hs0, if_neg one0, if_pos (show (0 : Int32) &&& (S2.1 3 28 ^^^ -1) = 0 from Int32.zero_and), if_neg one0]
    have st : ∀ (m f t : Int32), (F_X10_orders_b_L86 y 0 3 S2 1 m f t 0).1 = (F_X10_orders_b_L86fc99 b (F_X10_orders_b_L86 y 0 2) V2 1 m f t 0 y).1 := fun m f t => by
      rw [F_X10_orders_b_L86, if_neg (show ¬ (1 : Int32) ≤ 0 by decide), b2]
    have en : ∀ (m f t : Int32), (F_X10_orders_b_L86 y 0 2 V2 1 m f t 1).1 = if y = -2 then -1 else if y = -1 then m else t := fun m f t => by
      rw [F_X10_orders_b_L86, if_pos (show (1 : Int32) ≤ 1 by decide)]
      by_cases c1 : y = -2
      · rw [if_pos c1, if_pos c1]
      · rw [if_neg c1, if_neg c1]
        by_cases c2 : y = -1
        · rw [if_pos c2, if_pos c2]
        · rw [if_neg c2, if_neg c2]
    rw [st, F_X10_orders_b_L86fc99, show (0 : Int32) + Int32.ofInt 1 = 1 by decide]
    by_cases c1 : y = -2
    · rw [if_pos c1, F_X9_orders_tttttc70, F_X9_firstInAllOrders, F_X9_firstInAllOrders_L4, oz, if_neg (show ¬ (1 : Int32) ≤ 0 by decide), b1]
      show (F_X9_firstInAllOrders_L4fc18 b (F_X9_firstInAllOrders_L4 0 31) V1 (-1) 0).1 = _
      have fo : F_X5_firstOne V1 = -1 := by rw [F_X5_firstOne, b4, if_pos (show (0 : Int32) ≤ 0 by decide)]
      have ce : ∀ w : Int32, (F_X9_firstInAllOrders_L4 0 31 V1 w 1).1 = w := fun w => by rw [F_X9_firstInAllOrders_L4, oz, if_pos (show (1 : Int32) ≤ 1 by decide)]
      rw [F_X9_firstInAllOrders_L4fc18, fo, show (0 : Int32) + Int32.ofInt 1 = 1 by decide, if_pos (show (-1 : Int32) = -1 from rfl)]
      rcases b3 with b3 | b3
      · rw [b3, if_pos (show (0 : Int32) = 0 from rfl), if_pos (show (0 : Int32) = 0 from rfl), ce, en, if_pos c1]
      · rw [b3, if_neg one0, if_neg one0, ce]
        split
        · rw [en, if_pos c1]
        · rw [en, if_pos c1]
    · rw [if_neg c1]
      by_cases c2 : y = -1
      · rw [if_pos c2, F_X9_orders_tttttc70, F_X9_countOrders, F_X9_countOrders_L4, oz, if_neg (show ¬ (1 : Int32) ≤ 0 by decide), b1]
        show (F_X9_countOrders_L4fc18 b (F_X9_countOrders_L4 0 31) V1 0 0).1 = _
        have ce : ∀ w : Int32, (F_X9_countOrders_L4 0 31 V1 w 1).1 = w := fun w => by rw [F_X9_countOrders_L4, oz, if_pos (show (1 : Int32) ≤ 1 by decide)]
        rw [F_X9_countOrders_L4fc18, show (0 : Int32) + Int32.ofInt 1 = 1 by decide]
        rcases b3 with b3 | b3
        · rw [b3, if_pos (show (0 : Int32) = 0 from rfl), if_pos (show (0 : Int32) = 0 from rfl), ce, en, if_neg c1, if_pos c2]
        · rw [b3, if_neg one0, if_neg one0, ce]
          split
          · rw [en, if_neg c1, if_pos c2]
          · rw [en, if_neg c1, if_pos c2]
      · rw [if_neg c2, F_X9_orders_tttttc70, F_X9_orderNumber, F_X9_orderNumber_L5, oz, if_neg (show ¬ (1 : Int32) ≤ 0 by decide), b1]
        show (F_X9_orderNumber_L5fc21 b (F_X9_orderNumber_L5 0 y 31) V1 0 0 y).1 = _
        have ce : ∀ w : Int32, (F_X9_orderNumber_L5 0 y 31 V1 w 1).1 = -1 := fun w => by rw [F_X9_orderNumber_L5, oz, if_pos (show (1 : Int32) ≤ 1 by decide)]
        have az : F_X5_asNumber V1 = 0 := by rw [F_X5_asNumber, F_X5_asNumber_L4, b4, if_pos (show (0 : Int32) ≤ 0 by decide)]
        rw [F_X9_orderNumber_L5fc21, show (0 : Int32) + Int32.ofInt 1 = 1 by decide]
        rcases b3 with b3 | b3
        · rw [b3, if_pos (show (0 : Int32) = 0 from rfl), if_pos (show (0 : Int32) = 0 from rfl), ce, en, if_neg c1, if_neg c2]
        · rw [b3, if_neg one0, if_neg one0]
          by_cases c3 : (0 : Int32) = y
          · rw [if_pos c3, if_pos c3, az, en, if_neg c1, if_neg c2]
          · rw [if_neg c3, if_neg c3, ce, en, if_neg c1, if_neg c2]
  rw [if_neg a1]
  by_cases a2 : x.toInt ≤ 127
  · obtain ⟨s, rfl, hsx⟩ := bd_nI (x := x) (by omega)
    have hs : s < 128 := by omega
    have x127 : mm_b 0 127 (nI s) := ⟨by omega, by omega⟩
    rw [if_pos a2, F_X10_orders_c, s0, bits_N hs, bc_N hs]
    generalize (1 : Int32) <<< (S2.1 1 0 &&& 31) = T at tE ⊢
    have ht : (if T ≤ nI s then (0 : Int32) else 1) = if mm_b 0 (T - 1).toInt (nI s) then 1 else 0 := by
      by_cases r : T ≤ nI s
      · have r2 := Int32.le_iff_toInt_le.mp r
        rw [if_pos r, if_neg (show ¬ mm_b 0 (T - 1).toInt (nI s) from fun w => by have := w.2; omega)]
      · have r2 := Int32.lt_iff_toInt_lt.mp (bd_nle r)
        rw [if_neg r, if_pos (show mm_b 0 (T - 1).toInt (nI s) from ⟨by omega, by omega⟩)]
    rw [ht]
    by_cases q : mm_b 0 (T - 1).toInt (nI s)
    · rw [if_pos q, if_neg one0, if_neg one0]
      by_cases b4 : nI (pcN s) ≤ 4
      · have p7 := pc7 s
        have k4 : pcN s ≤ 4 := by
          have : (nI (pcN s)).toInt ≤ 4 := Int32.le_iff_toInt_le.mp b4
          rw [nI_toInt (by omega)] at this
          omega
        have k1 : 1 ≤ pcN s := by
          have t : ∀ s : Fin 128, s.val ≠ 0 → 1 ≤ pcN s.val := by decide +kernel
          exact t ⟨s, hs⟩ (by show s ≠ 0; omega)
        rw [if_pos b4, if_pos b4]
        by_cases al : nI s &&& (S2.1 3 28 ^^^ -1) = 0
        · rw [if_pos al, if_pos al, if_neg one0]
          have v : Ov S1 S2 s := ⟨h, hJ, kn, hM, hs, k1, k4, al⟩
          have f24 := fc_24 k4
          have ps0 : psN s 0 = 10 ^ (pcN s - 1) := if_pos rfl
          have lad : (if nI (pcN s) + Int32.ofInt (-1) ≤ 0 then F_X10_orders_c_L86 y (nI s) 10001 S2 (1 * 10) 0 0 (-1) (1 * 10 / 10) else if nI (pcN s) + Int32.ofInt (-1) + Int32.ofInt (-1) ≤ 0 then F_X10_orders_c_L86 y (nI s) 10001 S2 (1 * 10 * 10) 0 0 (-1) (1 * 10 * 10 / 10) else if nI (pcN s) + Int32.ofInt (-1) + Int32.ofInt (-1) + Int32.ofInt (-1) ≤ 0 then F_X10_orders_c_L86 y (nI s) 10001 S2 (1 * 10 * 10 * 10) 0 0 (-1) (1 * 10 * 10 * 10 / 10) else F_X10_orders_c_L86 y (nI s) 10001 S2 (1 * 10 * 10 * 10 * 10) 0 0 (-1) (1 * 10 * 10 * 10 * 10 / 10)) = F_X10_orders_c_L86 y (nI s) 10001 S2 (nI (10 ^ pcN s)) 0 0 (-1) (nI (psN s 0)) := by
            rw [ps0]
            rcases (by omega : pcN s = 1 ∨ pcN s = 2 ∨ pcN s = 3 ∨ pcN s = 4) with e | e | e | e
            · rw [e, if_pos (show nI 1 + Int32.ofInt (-1) ≤ 0 by decide), show ((1 : Int32) * 10) = nI (10 ^ 1) by decide, show nI (10 ^ 1) / 10 = nI (10 ^ (1 - 1)) by decide]
            · rw [e, if_neg (show ¬ nI 2 + Int32.ofInt (-1) ≤ 0 by decide), if_pos (show nI 2 + Int32.ofInt (-1) + Int32.ofInt (-1) ≤ 0 by decide), show ((1 : Int32) * 10 * 10) = nI (10 ^ 2) by decide, show nI (10 ^ 2) / 10 = nI (10 ^ (2 - 1)) by decide]
            · rw [e, if_neg (show ¬ nI 3 + Int32.ofInt (-1) ≤ 0 by decide), if_neg (show ¬ nI 3 + Int32.ofInt (-1) + Int32.ofInt (-1) ≤ 0 by decide), if_pos (show nI 3 + Int32.ofInt (-1) + Int32.ofInt (-1) + Int32.ofInt (-1) ≤ 0 by decide), show ((1 : Int32) * 10 * 10 * 10) = nI (10 ^ 3) by decide, show nI (10 ^ 3) / 10 = nI (10 ^ (3 - 1)) by decide]
            · rw [e, if_neg (show ¬ nI 4 + Int32.ofInt (-1) ≤ 0 by decide), if_neg (show ¬ nI 4 + Int32.ofInt (-1) + Int32.ofInt (-1) ≤ 0 by decide), if_neg (show ¬ nI 4 + Int32.ofInt (-1) + Int32.ofInt (-1) + Int32.ofInt (-1) ≤ 0 by decide), show ((1 : Int32) * 10 * 10 * 10 * 10) = nI (10 ^ 4) by decide, show nI (10 ^ 4) / 10 = nI (10 ^ (4 - 1)) by decide]
          rw [lad]
          have u4 := u_4 k4
          have lo := ps_lo hs k1 k4 (i := 0) (by omega)
          have p0 : 0 < 10 ^ (pcN s - 1) := Nat.pow_pos (by decide)
          by_cases c1 : y = -2
          · rw [if_pos c1, F_X9_orders_tttttc70, F_X9_firstInAllOrders, c1]
            exact ff_L v (fcN (pcN s)) 0 32 10001 S1 S2 (-1) 0 0 (-1) (by omega) (by omega) (by omega) Cf_rf Gm_rf (Or.inl ⟨rfl, rfl⟩)
          · rw [if_neg c1]
            by_cases c2 : y = -1
            · rw [if_pos c2, F_X9_orders_tttttc70, F_X9_countOrders, c2]
              exact cn_L v (fcN (pcN s)) 0 32 10001 S1 S2 0 0 (-1) (by omega) (by omega) (by omega) Cf_rf Gm_rf
            · rw [if_neg c2, F_X9_orders_tttttc70, F_X9_orderNumber]
              exact nm_L v c2 c1 (fcN (pcN s)) 0 32 10001 0 S1 S2 0 (by omega) (by omega) (by omega) Cf_rf Gm_rf (by omega)
        · rw [if_neg al, if_neg al, if_pos (show (0 : Int32) = 0 from rfl)]
      · rw [if_neg b4, if_neg b4]
    · rw [if_neg q, if_pos (show (0 : Int32) = 0 from rfl), if_pos (show (0 : Int32) = 0 from rfl)]
  · have T2 : (1 : Int32) <<< (S2.1 1 0 &&& 31) ≤ x := Int32.le_iff_toInt_le.mpr (by omega)
    rw [if_neg a2, if_pos T2, if_pos (show (0 : Int32) = 0 from rfl)]
    rfl
end OU2
