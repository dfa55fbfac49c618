/-! ===== answers under RB: told, live ===== -/
section AC
variable {S1 S2 : mm_S} {x y z v p : Int32}
theorem b01 {x : Int32} : x &&& 1 = 0 ∨ x &&& 1 = 1 := by
  have hb : mm_b 0 1 (x &&& 1) := bd_andR (lo := 0) (hi := 1) (a := 1) (b := 1) rfl (by decide) (by decide)
  rcases (by have := hb.1; have := hb.2; omega : (x &&& 1).toInt = 0 ∨ (x &&& 1).toInt = 1) with q | q
  · exact Or.inl (Int32.toInt_inj.mp q)
  · exact Or.inr (Int32.toInt_inj.mp q)
theorem av_L {a : Nat} (ha : a = S1.2.2 0 1) (h : RA S1 S2) : ∀ (N k : Nat) (A : Int32), k < 100 → F_X6_voices_L4 a N S1 A (nI k) = F_X10_allVoices_L4 N S2 A (nI k)
  | 0, k, A, _ => rfl
  | N + 1, k, A, hk => by
    obtain ⟨⟨e0, -, -⟩, ⟨p7, -, -⟩, pk, -, -, -⟩ := h.2.2.1
    rw [F_X6_voices_L4, F_X10_allVoices_L4, F_X6_hasVoice, F_X6_rangeOf, F_X6_hasPerson, ha, e0]
    by_cases q : S2.1 1 0 ≤ nI k
    · rw [if_pos q, if_pos q]
    · have q2 := Int32.lt_iff_toInt_lt.mp (bd_nle q)
      have ek : (nI k).toInt = k := nI_toInt (by omega)
      obtain ⟨d0, d7⟩ := p7
      have ck : (nI k).toNatClampNeg = k := nI_c (by omega)
      have c3 : ((3 : Int32) + nI k).toNatClampNeg = 3 + k := by rw [pz_addc (by decide) ⟨by omega, by omega⟩, ck]; rfl
      have n0 : ¬ nI k < 0 := fun z => by have : (nI k).toInt < 0 := Int32.lt_iff_toInt_lt.mp z; omega
      rw [if_neg q, if_neg q, if_neg n0, if_neg q, if_neg one0, ck, c3, pk k (by omega), nI_s hk, Int32.or_zero, ← ha]
      by_cases e9 : S2.1 1 (3 + k) = 9
      · rw [if_pos e9, if_pos e9, if_pos (show (0 : Int32) = 0 from rfl)]
        exact av_L ha h N (k + 1) A (by omega)
      · rw [if_neg e9, if_neg e9, if_neg one0]
        exact av_L ha h N (k + 1) _ (by omega)
theorem av (h : RA S1 S2) : F_X6_voices S1 (S1.2.2 0 1) = F_X10_allVoices S2 := av_L rfl h 9 0 0 (by omega)
theorem P_ne {P : Int32} {k : Nat} (q : (k : Int) < P.toInt) : ¬ P = 0 := fun e => by
  rw [e] at q
  have : (0 : Int32).toInt = 0 := rfl
  omega
theorem si_L (h : RB S1 S2) : ∀ (N k : Nat) (A : Int32), k < 100 → F_X3_silent_15_L4 N S1 A (nI k) = F_X10_usesNone_L4 N S2 A (nI k)
  | 0, k, A, _ => rfl
  | N + 1, k, A, hk => by
    have h2 : S1.1 15 2 = S2.1 1 0 := h.2.1.1.2.2
    have h0 : S1.1 15 0 = S2.1 3 28 := h.2.1.1.1
    rw [F_X3_silent_15_L4, F_X10_usesNone_L4, F_X10_isAlive, F_X10_isIn, h2, h0]
    by_cases q : S2.1 1 0 ≤ nI k
    · rw [if_pos q, if_pos q]
    · have q2 := Int32.lt_iff_toInt_lt.mp (bd_nle q)
      have ek : (nI k).toInt = k := nI_toInt (by omega)
      obtain ⟨d0, d7⟩ := h.1.2.2.1.2.1.1
      have ck : (nI k).toNatClampNeg = k := nI_c (by omega)
      have c0 : ((0 : Int32) + nI k).toNatClampNeg = k := by rw [Int32.zero_add, ck]
      have f0 := h.2.1.2 (P_ne (k := k) (by omega))
      rw [if_neg q, if_neg q, ck, c0, (f0.2.2.2 k (by omega)).1, nI_s hk, Int32.or_zero]
      rcases b01 (x := S2.1 3 28 >>> (nI k &&& 31)) with e | e
      · rw [e, if_pos (show (0 : Int32) = 0 from rfl), if_neg (show ¬ (0 : Int32) = 1 by decide), if_pos (show (0 : Int32) = 0 from rfl)]
        exact si_L h N (k + 1) A (by omega)
      · rw [e, if_neg one0, if_pos (show (1 : Int32) = 1 from rfl), if_neg one0]
        by_cases e9 : S2.1 3 k = 9
        · rw [if_pos e9, if_pos e9]
          exact si_L h N (k + 1) _ (by omega)
        · rw [if_neg e9, if_neg e9]
          exact si_L h N (k + 1) A (by omega)
theorem bvO (V H J : Int32) : V &&& ((H ||| J) ^^^ -1) = (V &&& (H ^^^ -1)) &&& (J ^^^ -1) := by
  have m1 : ∀ i (hi : i < 32), (Int32.toBitVec (-1))[i] = true := by
    have : ∀ i : Fin 32, (Int32.toBitVec (-1))[i.val] = true := by decide
    exact fun i hi => this ⟨i, hi⟩
  apply Int32.toBitVec_inj.mp
  rw [Int32.toBitVec_and, Int32.toBitVec_and, Int32.toBitVec_and, Int32.toBitVec_xor, Int32.toBitVec_xor, Int32.toBitVec_xor, Int32.toBitVec_or]
  ext i hi
  rw [BitVec.getElem_and, BitVec.getElem_and, BitVec.getElem_and, BitVec.getElem_xor, BitVec.getElem_xor, BitVec.getElem_xor, BitVec.getElem_or, m1 i hi]
  cases V.toBitVec[i] <;> cases H.toBitVec[i] <;> cases J.toBitVec[i] <;> rfl
theorem bv1 (V : Int32) : V &&& (-1) = V := by rw [Int32.and_neg_one]
theorem lo_L (h : RB S1 S2) (V : Int32) : ∀ (N k : Nat) (H : Int32), k < 100 → 8 ≤ N + k → k ≤ 7 → V &&& (F_X3_held_15_L4 N S1 H (nI k) ^^^ -1) = F_X10_lost_L7 N S2 (V &&& (H ^^^ -1)) (nI k)
  | 0, k, H, _, hN, h7 => by omega
  | N + 1, k, H, hk, hN, h7 => by
    have h2 : S1.1 15 2 = S2.1 1 0 := h.2.1.1.2.2
    have hP := h.1.2.2.1.2.1.1
    rw [F_X3_held_15_L4, F_X10_lost_L7, h2]
    by_cases q : S2.1 1 0 ≤ nI k
    · rw [if_pos q, if_pos q]
    · have q2 := Int32.lt_iff_toInt_lt.mp (bd_nle q)
      have ek : (nI k).toInt = k := nI_toInt (by omega)
      obtain ⟨d0, d7⟩ := id hP
      have ck : (nI k).toNatClampNeg = k := nI_c (by omega)
      have c0 : ((0 : Int32) + nI k).toNatClampNeg = k := by rw [Int32.zero_add, ck]
      have c7 : ((7 : Int32) + nI k).toNatClampNeg = 7 + k := by rw [pz_addc (by decide) ⟨by omega, by omega⟩, ck]; rfl
      have f0 := h.2.1.2 (P_ne (k := k) (by omega))
      have w := h.2.2.1.2.2 k (by omega)
      have r := f0.2.2.2 k (by omega)
      rw [if_neg q, if_neg q, ck, c0, c7, r.1, r.2.1, nI_s hk, lc15 f0 h.2.2.1 hP]
      have ih := fun H => lo_L h V N (k + 1) H (by omega) (by omega) (by omega)
      by_cases l : lv (S2.1 3 28) (nI k)
      · rw [if_pos l, if_neg one0]
        have ev : F_X9_isVoiceNumber S1 (S2.1 3 k) = if S2.1 3 k = 9 then 0 else 1 := by
          rcases w.1 with e | e
          · rw [e, if_pos rfl, F_X9_isVoiceNumber, if_neg (show ¬ (9 : Int32) < 0 by decide), if_pos (show (7 : Int32) ≤ 9 by decide)]
          · have n9 : ¬ S2.1 3 k = 9 := fun z => by rw [z] at e; exact absurd e.2 (by decide)
            rw [if_neg n9, F_X9_isVoiceNumber, if_neg (fun z => by have : (S2.1 3 k).toInt < 0 := Int32.lt_iff_toInt_lt.mp z; have := e.1; omega), if_neg (fun z => by have : (7 : Int) ≤ (S2.1 3 k).toInt := Int32.le_iff_toInt_le.mp z; have := e.2; omega)]
        rw [ev]
        by_cases e9 : S2.1 3 k = 9
        · rw [if_pos e9, if_pos e9, if_pos (show (0 : Int32) = 0 from rfl), Int32.or_zero, bv1, ih, bvO]
        · rw [if_neg e9, if_neg e9, if_neg one0, ih, bvO, bvO]
      · have nb : ¬ bt (S2.1 3 28) k := fun z => l ⟨⟨by omega, by omega⟩, by rw [ck]; exact z⟩
        obtain ⟨u9, j0⟩ := w.2.2.1 nb
        rw [if_neg l, if_pos (show (0 : Int32) = 0 from rfl), u9, if_pos (show (9 : Int32) = 9 from rfl), j0, ih, show ((0 : Int32) ^^^ -1) = -1 by decide, bv1, bv1]
/-- promise 5 -/
theorem an_told (h : RB S1 S2) : F_X9_told S1 x = F_X10_told S2 x := by
  have hD := h.1.2.2.1.1
  obtain ⟨n, y, hn, hx, hm, -, -, -⟩ := h.2.2.2.1
  have e3 : S1.1 1 0 = S2.1 0 10 := h.1.1.1
  have e4 : S1.1 15 1 = S2.1 3 29 := h.2.1.1.2.1
  have e5 : S1.1 15 0 = S2.1 3 28 := h.2.1.1.1
  have e6 : F_X3_silent_15 S1 = F_X10_usesNone S2 := si_L h 9 0 0 (by omega)
  have e7 : F_X6_voices S1 (S1.2.2 0 1) &&& (F_X3_held_15 S1 ^^^ -1) = F_X10_lost S2 := by
    rw [av h.1, F_X10_lost]
    have z := lo_L h (F_X10_allVoices S2) 9 0 0 (by omega) (by omega) (by omega)
    rw [show ((0 : Int32) ^^^ -1) = -1 by decide, bv1] at z
    exact z
  have e8 : S1.1 129 0 = S2.1 0 13 := h.1.2.2.2.2.1.1
  have e9 : S1.1 132 0 = S2.1 0 15 := h.1.2.2.2.2.2.1.1
  have e10 : S1.1 135 0 = S2.1 0 17 := h.1.2.2.2.2.2.2.1
  have e11 : S1.1 25 0 = S2.1 0 5 := hn.trans hm.symm
  have cl : ∀ c : Nat, c < 3 → x.toInt = c → x.toNatClampNeg = c := fun c _ hc => by
    show x.toInt.toNat = c
    omega
  rw [F_X9_told, F_X10_told, hD.1, hD.2.1, hD.2.2, e3, e4, e5, e6, e7, e8, e9, e10, e11]
  by_cases q0 : x.toInt = 0
  · rw [if_pos q0, if_pos q0, cl 0 (by omega) q0]
  · rw [if_neg q0, if_neg q0]
    by_cases q1 : x.toInt = 1
    · rw [if_pos q1, if_pos q1, cl 1 (by omega) q1]
    · rw [if_neg q1, if_neg q1]
      by_cases q2 : x.toInt = 2
      · rw [if_pos q2, if_pos q2, cl 2 (by omega) q2]
      · rw [if_neg q2, if_neg q2]
/-- the price lessened, so many times -/
def lvF (x : Int32) : Nat → Int64 → Int64
  | 0, z => z
  | m + 1, z => lvF x m (z * ((100 : Int32) - x).toInt64 / 100)
theorem lvC : ∀ (N m k : Nat) (z : Int64), m + k < 1000 → m < N → F_X9_live_L67 x N S1 (nI (k + m)) (nI k) z = (lvF x m z).toInt32
  | 0, m, k, z, _, h => absurd h (Nat.not_lt_zero _)
  | N + 1, m, k, z, hk, hN => by
    rw [F_X9_live_L67]
    match m, hk, hN with
    | 0, hk, hN =>
      rw [if_pos ((nz_le (by omega) (by omega)).mpr (by omega))]
      rfl
    | m + 1, hk, hN =>
      have e : nI k + Int32.ofInt 1 = nI (k + 1) := by rw [pz_of1]; exact nz_1 (by omega)
      rw [if_neg (fun q => absurd ((nz_le (by omega) (by omega)).mp q) (by omega)), e, show k + (m + 1) = k + 1 + m by omega]
      exact lvC N m (k + 1) _ (by omega) (by omega)
theorem lvM : ∀ (N m : Nat) (z : Int64), m < 1000 → m < N → F_X10_live_L68 x N S2 (nI m) z = (lvF x m z).toInt32
  | 0, m, z, _, h => absurd h (Nat.not_lt_zero _)
  | N + 1, m, z, hk, hN => by
    rw [F_X10_live_L68]
    match m, hk, hN with
    | 0, hk, hN =>
      rw [if_pos (show nI 0 ≤ 0 by decide)]
      rfl
    | m + 1, hk, hN =>
      have e : nI (m + 1) + Int32.ofInt (-1) = nI m := by
        rw [show Int32.ofInt (-1) = -1 by decide, ← Int32.sub_eq_add_neg]
        exact nz_sub1 (k := m) (by omega)
      rw [if_neg (fun q : nI (m + 1) ≤ 0 => absurd ((nz_le (l := 0) (by omega) (by omega)).mp q) (by omega)), e]
      exact lvM N m _ (by omega) (by omega)
end AC
section AD
variable {S1 S2 : mm_S} {x y z : Int32}
theorem lvmT : ∀ a : Fin 8, ∀ b : Fin 61, nI a.val * nI b.val = nI (a.val * b.val) ∧ nI b.val * nI a.val = nI (a.val * b.val) := by decide +kernel
/-- promise 20 -/
theorem an_live (h : RB S1 S2) : F_X9_live S1 x y z = F_X10_live S2 x y z := by
  have hP := h.1.2.2.1.2.1.1
  have e0 : S1.1 (S1.2.2 0 1) 0 = S2.1 1 0 := h.1.2.2.1.1.1
  have e5 : S1.1 15 0 = S2.1 3 28 := h.2.1.1.1
  have s0 : F_X10_isSet S2 x = if mm_b 0 ((1 : Int32) <<< (S2.1 1 0 &&& 31) - 1).toInt x then 1 else 0 := m_in (lo := 0)
  have s1 : F_X10_in S2 y.toInt64 0 60 = if mm_b 0 60 y then 1 else 0 := m_in (lo := 0) (hi := 60)
  have s2 : F_X10_in S2 z.toInt64 0 100 = if mm_b 0 100 z then 1 else 0 := m_in (lo := 0) (hi := 100)
  have tP : ∀ k : Fin 8, ((1 : Int32) <<< (nI k.val &&& 31) - 1).toInt = ((1 : Int32) <<< (nI k.val &&& 31)).toInt - 1 ∧ ((1 : Int32) <<< (nI k.val &&& 31)).toInt ≤ 128 := by decide +kernel
  have tE : ((1 : Int32) <<< (S2.1 1 0 &&& 31) - 1).toInt = ((1 : Int32) <<< (S2.1 1 0 &&& 31)).toInt - 1 ∧ ((1 : Int32) <<< (S2.1 1 0 &&& 31)).toInt ≤ 128 := by
    obtain ⟨j, hj, hj2⟩ := bd_nI hP.1
    rw [hj]
    exact tP ⟨j, by have := hP.2; omega⟩
  rw [F_X9_live, F_X10_live, F_X6_hasPersons, F_X3_allLive_15, s0, s1, s2, e0, e5]
  generalize (1 : Int32) <<< (S2.1 1 0 &&& 31) = T at *
  have hs : (if x < 0 then (0 : Int32) else if T ≤ x then 0 else 1) = if mm_b 0 (T - 1).toInt x then 1 else 0 := by
    by_cases q : x < 0
    · have q2 : x.toInt < 0 := Int32.lt_iff_toInt_lt.mp q
      rw [if_pos q, if_neg (show ¬ mm_b 0 (T - 1).toInt x from fun w => by have := w.1; omega)]
    · have q2 : (0 : Int) ≤ x.toInt := Int32.le_iff_toInt_le.mp (bd_nlt q)
      rw [if_neg q]
      by_cases r : T ≤ x
      · have r2 := Int32.le_iff_toInt_le.mp r
        rw [if_pos r, if_neg (show ¬ mm_b 0 (T - 1).toInt x from fun w => by have := w.2; omega)]
      · have r2 := Int32.lt_iff_toInt_lt.mp (bd_nle r)
        rw [if_neg r, if_pos (show mm_b 0 (T - 1).toInt x from ⟨q2, by omega⟩)]
  rw [hs]
  by_cases q : mm_b 0 (T - 1).toInt x
  · rw [if_pos q, if_neg one0, if_neg one0]
    have x127 : mm_b 0 127 x := ⟨q.1, by have := q.2; omega⟩
    by_cases y1 : y < 0
    · have y2 : y.toInt < 0 := Int32.lt_iff_toInt_lt.mp y1
      rw [if_pos y1, if_neg (show ¬ mm_b 0 60 y from fun w => by have := w.1; omega), if_pos (show (0 : Int32) = 0 from rfl)]
    · have y2 : (0 : Int) ≤ y.toInt := Int32.le_iff_toInt_le.mp (bd_nlt y1)
      rw [if_neg y1]
      by_cases y3 : (60 : Int32) < y
      · have y4 : (60 : Int) < y.toInt := Int32.lt_iff_toInt_lt.mp y3
        rw [if_pos y3, if_neg (show ¬ mm_b 0 60 y from fun w => by have := w.2; omega), if_pos (show (0 : Int32) = 0 from rfl)]
      · have y4 : y.toInt ≤ 60 := Int32.le_iff_toInt_le.mp (bd_nlt y3)
        rw [if_neg y3, if_pos (show mm_b 0 60 y from ⟨y2, y4⟩), if_neg one0]
        by_cases z1 : z < 0
        · have z2 : z.toInt < 0 := Int32.lt_iff_toInt_lt.mp z1
          rw [if_pos z1, if_neg (show ¬ mm_b 0 100 z from fun w => by have := w.1; omega), if_pos (show (0 : Int32) = 0 from rfl)]
        · have z2 : (0 : Int) ≤ z.toInt := Int32.le_iff_toInt_le.mp (bd_nlt z1)
          rw [if_neg z1]
          by_cases z3 : z ≤ 100
          · have z4 : z.toInt ≤ 100 := Int32.le_iff_toInt_le.mp z3
            rw [if_pos z3, if_pos (show mm_b 0 100 z from ⟨z2, z4⟩), if_neg one0]
            by_cases a : x &&& (S2.1 3 28 ^^^ -1) = 0
            · rw [if_pos a, if_pos a, if_neg one0, bc (S2 := S2) x127]
              have b7 := bc_b (S2 := S2) x127
              generalize F_X10_bits S2 x = c at *
              obtain ⟨i, hi, hi2⟩ := bd_nI b7.1
              obtain ⟨j, hj, hj2⟩ := bd_nI y2
              have i7 : i < 8 := by have := b7.2; omega
              have j60 : j < 61 := by omega
              have m := lvmT ⟨i, i7⟩ ⟨j, j60⟩
              have mb : i * j ≤ 7 * 60 := Nat.mul_le_mul (by omega) (by omega)
              rw [hi, hj, m.1, m.2]
              have e1 := lvC (S1 := S1) (x := z) 10001 (i * j) 0 1000000000 (by omega) (by omega)
              have e2 := lvM (S2 := S2) (x := z) 421 (i * j) 1000000000 (by omega) (by omega)
              rw [Nat.zero_add] at e1
              exact e1.trans e2.symm
            · rw [if_neg a, if_neg a, if_pos (show (0 : Int32) = 0 from rfl)]
          · have z4 : (100 : Int) < z.toInt := Int32.lt_iff_toInt_lt.mp (bd_nle z3)
            rw [if_neg z3, if_neg (show ¬ mm_b 0 100 z from fun w => by have := w.2; omega), if_pos (show (0 : Int32) = 0 from rfl)]
  · rw [if_neg q, if_pos (show (0 : Int32) = 0 from rfl), if_pos (show (0 : Int32) = 0 from rfl)]
end AD
