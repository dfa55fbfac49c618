/-! ===== orders: the class sets the order of an index ===== -/
section STO
variable {S T U : mm_S} {s i : Nat}
theorem nd_d {m e : Nat} (hm : m < 2147483648) (h0 : 0 < e) (he : e < 2147483648) : nI m / nI e = nI (m / e) := by
  have tm : (nI m).toInt = m := nI_toInt (by omega)
  have te : (nI e).toInt = e := nI_toInt (by omega)
  have l : m / e ≤ m := Nat.div_le_self _ _
  apply Int32.toInt_inj.mp
  rw [bd_ti_div (by omega) (by omega), tm, te, nI_toInt (by omega), ← Int.natCast_ediv]
theorem nd_r {m e : Nat} (hm : m < 2147483648) (h0 : 0 < e) (he : e < 2147483648) : nI m - nI m / nI e * nI e = nI (m % e) := by
  have tm : (nI m).toInt = m := nI_toInt (by omega)
  have te : (nI e).toInt = e := nI_toInt (by omega)
  have l : m % e ≤ m := Nat.mod_le _ _
  apply Int32.toInt_inj.mp
  rw [bd_ti_rem (by omega), tm, te, nI_toInt (by omega), ← Int.natCast_emod]
theorem ma_L {x y : Int32} : ∀ (N : Nat) (a b : Int32), F_X5_memberAt_L4 x y N S a b = F_X5_memberAt_L4 x y N T a b
  | 0, a, b => rfl
  | N + 1, a, b => by
    rw [F_X5_memberAt_L4, F_X5_memberAt_L4, ma_L N a (b + Int32.ofInt 1), ma_L N (a + Int32.ofInt 1) (b + Int32.ofInt 1)]
    rfl
theorem maT : ∀ l : Fin 128, ∀ j : Fin 4, F_X5_memberAt SC0 (nI l.val) (nI j.val) = nI (mbN l.val j.val) ∧ mbN l.val j.val < 7 := by decide +kernel
theorem ma_N {l j : Nat} (hl : l < 128) (hj : j < 4) : F_X5_memberAt S (nI l) (nI j) = nI (mbN l j) ∧ mbN l j < 7 := by
  have t := maT ⟨l, hl⟩ ⟨j, hj⟩
  rw [F_X5_memberAt, ma_L (T := SC0)]
  exact t
theorem clT : ∀ l : Fin 128, ∀ p : Fin 7, nI l.val &&& (((1 : Int32) <<< (nI p.val &&& 31)) ^^^ (-1 : Int32)) = nI (clN l.val p.val) ∧ clN l.val p.val < 128 := by decide +kernel
theorem evT : ∀ j : Fin 4, (if (1 : Int32) < mm_ordn (nI j.val).toNatClampNeg then mm_ordn (nI j.val).toNatClampNeg else (1 : Int32)) = nI (fcN j.val) ∧ fcN (j.val + 1) = (j.val + 1) * fcN j.val ∧ 0 < fcN j.val ∧ fcN j.val < 25 := by decide +kernel
def soP (m a l r : Nat) (S U : mm_S) : Prop := Gf 138 139 S U ∧ U.1 138 0 = nI (a + m) ∧ (∀ j, j < a → U.1 139 j = S.1 139 j) ∧ ∀ j, j < m → U.1 139 (a + j) = nI ((plN m l r).getD j 0)
theorem so_L : ∀ (m N a l r : Nat) (S : mm_S), m ≤ 4 → m < N → a + m ≤ 7 → l < 128 → r < fcN m → S.1 138 0 = nI a → soP m a l r S (F_X5_setOrder_L17 N S (nI l) (nI r) (nI m - 1))
  | 0, N, a, l, r, S, _, hN, _, _, _, h8 => by
    obtain ⟨N', rfl⟩ : ∃ N', N = N' + 1 := ⟨N - 1, by omega⟩
    rw [F_X5_setOrder_L17, if_pos (show nI 0 - 1 < 0 by decide)]
    exact ⟨Gf_rf, h8, fun j _ => rfl, fun j hj => absurd hj (Nat.not_lt_zero _)⟩
  | m + 1, N, a, l, r, S, hm, hN, ha, hl, hr, h8 => by
    obtain ⟨N', rfl⟩ : ∃ N', N = N' + 1 := ⟨N - 1, by omega⟩
    have tm : (nI m).toInt = m := nI_toInt (by omega)
    have n0 : ¬ nI m < 0 := fun q => by
      have : (nI m).toInt < 0 := Int32.lt_iff_toInt_lt.mp q
      omega
    have n5 : ¬ (5 : Int32) ≤ nI m := fun q => by
      have : (5 : Int) ≤ (nI m).toInt := Int32.le_iff_toInt_le.mp q
      omega
    have ev := evT ⟨m, by omega⟩
    dsimp only at ev
    obtain ⟨v1, v2, v3, v4⟩ := ev
    have rq : r / fcN m < m + 1 := Nat.div_lt_of_lt_mul (by rw [Nat.mul_comm, ← v2]; exact hr)
    have rr : r % fcN m < fcN m := Nat.mod_lt _ v3
    have r25 : r < 100 := by
      have h5 : (m + 1) * fcN m ≤ 4 * 24 := Nat.mul_le_mul (by omega) (by omega)
      omega
    have hd := nd_d (m := r) (e := fcN m) (by omega) v3 (by omega)
    have hrm := nd_r (m := r) (e := fcN m) (by omega) v3 (by omega)
    obtain ⟨p1, p2⟩ := ma_N (S := S) hl (show r / fcN m < 4 by omega)
    have cl := clT ⟨l, hl⟩ ⟨mbN l (r / fcN m), p2⟩
    dsimp only at cl
    have n7 : ¬ (7 : Int32) ≤ nI a := fun q => by
      have : (7 : Int) ≤ (nI a).toInt := Int32.le_iff_toInt_le.mp q
      rw [nI_toInt (by omega)] at this
      omega
    rw [nz_sub1 (by omega), F_X5_setOrder_L17, if_neg n0, if_neg n5, v1, hrm, hd, p1, F_X5_setOrder_L17ffc76, cl.1, F_X5_add, h8, if_neg n7, nI_c (by omega), nI_1, show nI m + Int32.ofInt (-1) = nI m - 1 by rw [show Int32.ofInt (-1) = -1 by decide, ← Int32.sub_eq_add_neg]]
    generalize hp : mbN l (r / fcN m) = p at p2 cl ⊢
    have hS : ∀ w : Int32, soP m (a + 1) (clN l p) (r % fcN m) (mm_up (mm_up (mm_up S 139 a (nI p)) 138 0 (nI (a + 1))) 138 1 w) (F_X5_setOrder_L17 N' (mm_up (mm_up (mm_up S 139 a (nI p)) 138 0 (nI (a + 1))) 138 1 w) (nI (clN l p)) (nI (r % fcN m)) (nI m - 1)) := fun w => so_L m N' (a + 1) (clN l p) (r % fcN m) _ (by omega) (by omega) (by omega) cl.2 rr (by rw [up_ne (by omega), up_at])
    obtain ⟨g1, g2, g3, g4⟩ := hS (S.1 138 1 ||| (1 : Int32) <<< (nI p &&& 31))
    refine ⟨Gf_tr (Gf_up (Gf_up (Gf_up Gf_rf (by omega)) (by omega)) (by omega)) g1, ?_, fun j hj => ?_, fun j hj => ?_⟩
    · rw [g2]
      exact congrArg nI (by omega)
    · rw [g3 j (by omega), up_ne (by omega), up_ne (by omega), up_ne (by omega)]
    · match j, hj with
      | 0, hj =>
        have e := g3 a (by omega)
        rw [up_ne (by omega), up_ne (by omega), up_at] at e
        rw [plN, hp]
        exact e
      | j + 1, hj =>
        have e := g4 j (by omega)
        rw [show a + (j + 1) = a + 1 + j by omega, e, plN, hp]
        rfl
theorem bcN : ∀ s : Fin 128, F_JbitCount SC0 (nI s.val) = nI (pcN s.val) := by decide +kernel
theorem bc_N (hs : s < 128) : F_JbitCount S (nI s) = nI (pcN s) := bcN ⟨s, hs⟩
theorem orT : ∀ s : Fin 128, pcN s.val ≤ 4 → F_X9_ordersOf SC0 (nI s.val) = nI (fcN (pcN s.val)) := by decide +kernel
theorem or_N (hs : s < 128) (k4 : pcN s ≤ 4) : F_X9_ordersOf S (nI s) = nI (fcN (pcN s)) := orT ⟨s, hs⟩ k4
/-- the line of the order of index i -/
theorem so_U (hs : s < 128) (k4 : pcN s ≤ 4) (hi : i < fcN (pcN s)) : Gf 138 139 S (F_X5_setOrder S (nI s) (nI i)) ∧ (F_X5_setOrder S (nI s) (nI i)).1 138 0 = nI (pcN s) ∧ ∀ j, j < pcN s → (F_X5_setOrder S (nI s) (nI i)).1 139 j = nI ((plN (pcN s) s i).getD j 0) := by
  have e0 : (F_X5_empty S).1 138 0 = nI 0 := by
    rw [F_X5_empty, up_ne (by omega), up_at]
    rfl
  have hG : Gf 138 139 S (F_X5_empty S) := Gf_up (Gf_up Gf_rf (by omega)) (by omega)
  rw [F_X5_setOrder, F_X5_setOrder_c4, bc_N hs]
  obtain ⟨g1, g2, -, g4⟩ := so_L (pcN s) 64 0 s i (F_X5_empty S) k4 (by omega) (by omega) hs hi e0
  refine ⟨Gf_tr hG g1, by rw [g2, Nat.zero_add], fun j hj => ?_⟩
  have := g4 j hj
  rw [Nat.zero_add] at this
  exact this
theorem as_L : ∀ (t : List Nat) (N a j : Nat), U.1 138 0 = nI (j + t.length) → (∀ q, q < t.length → U.1 139 (j + q) = nI (t.getD q 0)) → t.length < N → j + t.length < 100 → F_X5_asNumber_L4 N U (nI a) (nI j) = nI (nuN a t)
  | [], N, a, j, h8, _, hN, hj => by
    obtain ⟨N', rfl⟩ : ∃ N', N = N' + 1 := ⟨N - 1, by omega⟩
    rw [F_X5_asNumber_L4, h8, if_pos ((nz_le (by omega) (by omega)).mpr (by rw [List.length_nil]; omega))]
    rfl
  | p :: t, N, a, j, h8, h9, hN, hj => by
    obtain ⟨N', rfl⟩ : ∃ N', N = N' + 1 := ⟨N - 1, by omega⟩
    rw [List.length_cons] at h8 hN hj
    have e9 : U.1 139 j = nI p := by
      have := h9 0 (by rw [List.length_cons]; omega)
      rw [Nat.add_zero] at this
      exact this
    rw [F_X5_asNumber_L4, h8, if_neg (fun q => absurd ((nz_le (by omega) (by omega)).mp q) (by omega)), nI_c (by omega), e9, nI_s (by omega), show (10 : Int32) = nI 10 from rfl, pk_mul, nI_add, nI_1, nuN]
    refine as_L t N' _ (j + 1) ?_ (fun q hq => ?_) (by omega) (by omega)
    · rw [h8]
      exact congrArg nI (by omega)
    · have := h9 (q + 1) (by rw [List.length_cons]; omega)
      rw [show j + (q + 1) = j + 1 + q by omega] at this
      exact this
theorem as_N (h8 : U.1 138 0 = nI (pcN s)) (h9 : ∀ j, j < pcN s → U.1 139 j = nI ((plN (pcN s) s i).getD j 0)) : F_X5_asNumber U = nI (onN s i) := by
  have l := plN_len (pcN s) s i
  have l7 := pc7 s
  rw [F_X5_asNumber]
  exact as_L (plN (pcN s) s i) 9 0 0 (by rw [l, Nat.zero_add]; exact h8) (fun q hq => by rw [Nat.zero_add]; exact h9 q (by omega)) (by omega) (by omega)
end STO
