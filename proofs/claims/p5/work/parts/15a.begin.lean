/-! ===== a parish begins ===== -/
section BG
variable {a : Nat} {S S' R : mm_S} {x y v : Int32}
theorem hp_row (h0 : S'.1 a = S.1 a) : F_X6_hasPerson S' a x = F_X6_hasPerson S a x := by rw [F_X6_hasPerson, F_X6_hasPerson, h0]
theorem rg_row (h0 : S'.1 a = S.1 a) (h1 : S'.1 (a + 1) = S.1 (a + 1)) : F_X6_rangeOf S' a x = F_X6_rangeOf S a x := by rw [F_X6_rangeOf, F_X6_rangeOf, hp_row h0, h1]
theorem hv_row (h0 : S'.1 a = S.1 a) (h1 : S'.1 (a + 1) = S.1 (a + 1)) : F_X6_hasVoice S' a x = F_X6_hasVoice S a x := by rw [F_X6_hasVoice, F_X6_hasVoice, rg_row h0 h1]
theorem f1_row (h0 : S'.1 a = S.1 a) (h1 : S'.1 (a + 2) = S.1 (a + 2)) : F_X6_firstToldHeir S' a x = F_X6_firstToldHeir S a x := by rw [F_X6_firstToldHeir, F_X6_firstToldHeir, hp_row h0, h1]
theorem f2_row (h0 : S'.1 a = S.1 a) (h1 : S'.1 (a + 3) = S.1 (a + 3)) : F_X6_secondToldHeir S' a x = F_X6_secondToldHeir S a x := by rw [F_X6_secondToldHeir, F_X6_secondToldHeir, hp_row h0, h1]
def bgV (a : Nat) (S : mm_S) (i : Nat) : Int32 := if F_X6_hasVoice S a (nI i) = 0 then 9 else nI i
def bgP (a : Nat) (R S : mm_S) (y : Int32) : Prop :=
  ((∀ b, b ≠ 16 → b ≠ 17 → b ≠ 18 → b ≠ 19 → R.1 b = S.1 b) ∧ R.2 = S.2) ∧
  (∀ i : Nat, (i : Int) < y.toInt → R.1 16 i = S.1 16 i ∧ R.1 17 i = S.1 17 i ∧ R.1 18 i = S.1 18 i ∧ R.1 19 i = S.1 19 i) ∧
  (∀ i : Nat, y.toInt ≤ i → i < 7 → R.1 16 i = bgV a S i ∧ R.1 17 i = 0 ∧ R.1 18 i = F_X6_firstToldHeir S a (nI i) ∧ R.1 19 i = F_X6_secondToldHeir S a (nI i))
theorem bg_s (ha : a + 3 < 16) {y v p q : Int32} (cy : (y.toNatClampNeg : Int) = y.toInt) (ny : y = nI y.toNatClampNeg) (ty : (y + Int32.ofInt 1).toInt = y.toInt + 1) (hv : v = bgV a S y.toNatClampNeg) (hp : p = F_X6_firstToldHeir S a y) (hq : q = F_X6_secondToldHeir S a y) (e : S' = mm_up (mm_up (mm_up (mm_up S 16 y.toNatClampNeg v) 17 y.toNatClampNeg 0) 18 y.toNatClampNeg p) 19 y.toNatClampNeg q) (h : bgP a R S' (y + Int32.ofInt 1)) : bgP a R S y := by
  have ro : ∀ b, b ≠ 16 → b ≠ 17 → b ≠ 18 → b ≠ 19 → S'.1 b = S.1 b := fun b h1 h2 h3 h4 => by rw [e, up_row h4, up_row h3, up_row h2, up_row h1]
  obtain ⟨⟨k1, k2⟩, k3, k4⟩ := h
  have z2 : S'.2 = S.2 := by rw [e, up_2, up_2, up_2, up_2]
  refine ⟨⟨fun b h1 h2 h3 h4 => by rw [k1 b h1 h2 h3 h4, ro b h1 h2 h3 h4], by rw [k2, z2]⟩, fun i hi => ?_, fun i h1 h2 => ?_⟩
  · obtain ⟨m1, m2, m3, m4⟩ := k3 i (by omega)
    rw [m1, m2, m3, m4, e]
    refine ⟨?_, ?_, ?_, ?_⟩
    · rw [up_ne (by omega), up_ne (by omega), up_ne (by omega), up_ne (by omega)]
    · rw [up_ne (by omega), up_ne (by omega), up_ne (by omega), up_ne (by omega)]
    · rw [up_ne (by omega), up_ne (by omega), up_ne (by omega), up_ne (by omega)]
    · rw [up_ne (by omega), up_ne (by omega), up_ne (by omega), up_ne (by omega)]
  · by_cases hi : i = y.toNatClampNeg
    · obtain ⟨m1, m2, m3, m4⟩ := k3 i (by omega)
      rw [m1, m2, m3, m4, hi, e]
      refine ⟨?_, ?_, ?_, ?_⟩
      · rw [up_ne (by omega), up_ne (by omega), up_ne (by omega), up_at, hv]
      · rw [up_ne (by omega), up_ne (by omega), up_at]
      · rw [up_ne (by omega), up_at, hp, ← ny]
      · rw [up_at, hq, ← ny]
    · obtain ⟨m1, m2, m3, m4⟩ := k4 i (by omega) h2
      rw [m1, m2, m3, m4]
      refine ⟨?_, rfl, f1_row (ro a (by omega) (by omega) (by omega) (by omega)) (ro (a + 2) (by omega) (by omega) (by omega) (by omega)), f2_row (ro a (by omega) (by omega) (by omega) (by omega)) (ro (a + 3) (by omega) (by omega) (by omega) (by omega))⟩
      rw [bgV, bgV, hv_row (ro a (by omega) (by omega) (by omega) (by omega)) (ro (a + 1) (by omega) (by omega) (by omega) (by omega))]
theorem nI_cl {y : Int32} (h : 0 ≤ y.toInt) : y = nI y.toNatClampNeg := by
  obtain ⟨j, hj, hj2⟩ := bd_nI h
  have : y.toNatClampNeg = j := by have := pz_cl h; omega
  rw [this]
  exact hj
theorem bg_L (ha : a + 3 < 16) : ∀ (N : Nat) (S : mm_S) (y : Int32), mm_b 0 7 y → (7 - y.toInt).toNat < N → bgP a (F_X3_begin_L32 a N S y) S y
  | 0, S, y, _, h => absurd h (Nat.not_lt_zero _)
  | N + 1, S, y, hy, h => by
    have cy := pz_cl (x := y) hy.1
    have ny := nI_cl (y := y) hy.1
    by_cases q : (7 : Int32) ≤ y
    · have q2 : (7 : Int) ≤ y.toInt := Int32.le_iff_toInt_le.mp q
      rw [F_X3_begin_L32, if_pos q]
      exact ⟨⟨fun _ _ _ _ _ => rfl, rfl⟩, fun _ _ => ⟨rfl, rfl, rfl, rfl⟩, fun i h1 h2 => by omega⟩
    · have q2 : y.toInt < 7 := Int32.lt_iff_toInt_lt.mp (bd_nle q)
      have ty : (y + Int32.ofInt 1).toInt = y.toInt + 1 := by rw [pz_of1]; exact pz_ti1 ⟨by omega, by omega⟩
      have key : ∀ v : Int32, v = bgV a S y.toNatClampNeg → bgP a (F_X3_begin_L32ftu72 (F_X3_begin_L32 a N) (mm_up (mm_up S 16 y.toNatClampNeg v) 17 y.toNatClampNeg 0) y a) S y := fun v hv => by
        rw [F_X3_begin_L32ftu72, F_X3_begin_L32ftu72u83]
        refine bg_s ha cy ny ty hv rfl rfl ?_ (bg_L ha N _ _ ⟨by omega, by omega⟩ (by omega))
        rw [f1_row (S := S) (by rw [up_row (by omega), up_row (by omega)]) (by rw [up_row (by omega), up_row (by omega)]), f2_row (S := S) (by rw [up_row (by omega), up_row (by omega), up_row (by omega)]) (by rw [up_row (by omega), up_row (by omega), up_row (by omega)])]
      rw [F_X3_begin_L32, if_neg q]
      by_cases z : F_X6_hasVoice S a y = 0
      · rw [if_pos z]
        exact key 9 (by rw [bgV, ← ny, if_pos z])
      · rw [if_neg z]
        exact key y (by rw [bgV, ← ny, if_neg z])
/-- the class's folk begin -/
theorem bg_c (ha : a + 3 < 15) (hP : mm_b 0 7 (S.1 a 0)) : ((∀ b, b ≠ 15 → b ≠ 16 → b ≠ 17 → b ≠ 18 → b ≠ 19 → (F_X3_begin S a).1 b = S.1 b) ∧ (F_X3_begin S a).2 = S.2) ∧ ((F_X3_begin S a).1 15 2 = S.1 a 0 ∧ (F_X3_begin S a).1 15 0 = 1 <<< (S.1 a 0 &&& 31) - 1 ∧ (F_X3_begin S a).1 15 1 = 0) ∧ (∀ i : Nat, i < 7 → (F_X3_begin S a).1 16 i = bgV a S i ∧ (F_X3_begin S a).1 17 i = 0 ∧ (F_X3_begin S a).1 18 i = F_X6_firstToldHeir S a (nI i) ∧ (F_X3_begin S a).1 19 i = F_X6_secondToldHeir S a (nI i)) := by
  have n7 : ¬ (7 : Int32) < S.1 a 0 := fun q => by have : (7 : Int) < (S.1 a 0).toInt := Int32.lt_iff_toInt_lt.mp q; omega
  rw [F_X3_begin, if_neg n7]
  generalize e : mm_up (mm_up (mm_up S 15 2 (S.1 a 0)) 15 0 (1 <<< (S.1 a 0 &&& 31) - 1)) 15 1 0 = T
  have ro : ∀ b, b ≠ 15 → T.1 b = S.1 b := fun b h => by rw [← e, up_row h, up_row h, up_row h]
  obtain ⟨⟨k1, k2⟩, k3, k4⟩ := bg_L (a := a) (by omega) 9 T 0 (by decide) (by decide)
  refine ⟨⟨fun b h1 h2 h3 h4 h5 => ?_, ?_⟩, ⟨?_, ?_, ?_⟩, fun i hi => ?_⟩
  · rw [k1 b h2 h3 h4 h5, ro b h1]
  · rw [k2, ← e, up_2, up_2, up_2]
  · rw [k1 15 (by omega) (by omega) (by omega) (by omega), ← e, up_ne (by omega), up_ne (by omega), up_at]
  · rw [k1 15 (by omega) (by omega) (by omega) (by omega), ← e, up_ne (by omega), up_at]
  · rw [k1 15 (by omega) (by omega) (by omega) (by omega), ← e, up_at]
  · obtain ⟨m1, m2, m3, m4⟩ := k4 i (by show (0 : Int) ≤ i; omega) hi
    rw [m1, m2, m3, m4]
    refine ⟨?_, rfl, f1_row (ro a (by omega)) (ro (a + 2) (by omega)), f2_row (ro a (by omega)) (ro (a + 3) (by omega))⟩
    rw [bgV, bgV, hv_row (ro a (by omega)) (ro (a + 1) (by omega))]
/-! the reference -/
def bgW (S : mm_S) (i : Nat) : Int32 := if S.1 1 (3 + i) = 9 then 9 else nI i
def bmP (R S : mm_S) (y : Int32) : Prop :=
  ((∀ b, b ≠ 3 → R.1 b = S.1 b) ∧ R.2 = S.2) ∧
  (∀ i : Nat, (i : Int) < y.toInt → R.1 3 i = S.1 3 i ∧ R.1 3 (7 + i) = S.1 3 (7 + i)) ∧ (∀ i : Nat, 14 ≤ i → R.1 3 i = S.1 3 i) ∧
  (∀ i : Nat, y.toInt ≤ i → i < 7 → R.1 3 i = bgW S i ∧ R.1 3 (7 + i) = 0)
theorem bm_s {y v : Int32} (cy : (y.toNatClampNeg : Int) = y.toInt) (y7 : y.toInt < 7) (ty : (y + Int32.ofInt 1).toInt = y.toInt + 1) (hv : v = bgW S y.toNatClampNeg) (h : bmP R (mm_up (mm_up S 3 y.toNatClampNeg v) 3 (7 + y.toNatClampNeg) 0) (y + Int32.ofInt 1)) : bmP R S y := by
  generalize e : mm_up (mm_up S 3 y.toNatClampNeg v) 3 (7 + y.toNatClampNeg) 0 = S' at h
  have ro : ∀ b, b ≠ 3 → S'.1 b = S.1 b := fun b h1 => by rw [← e, up_row h1, up_row h1]
  obtain ⟨⟨k1, k2⟩, k3, k5, k4⟩ := h
  refine ⟨⟨fun b h1 => by rw [k1 b h1, ro b h1], by rw [k2, ← e, up_2, up_2]⟩, fun i hi => ?_, fun i hi => ?_, fun i h1 h2 => ?_⟩
  · obtain ⟨m1, m2⟩ := k3 i (by omega)
    rw [m1, m2, ← e, up_ne (by omega), up_ne (by omega), up_ne (by omega), up_ne (by omega)]
    exact ⟨rfl, rfl⟩
  · rw [k5 i hi, ← e, up_ne (by omega), up_ne (by omega)]
  · by_cases hi : i = y.toNatClampNeg
    · obtain ⟨m1, m2⟩ := k3 i (by omega)
      rw [m1, m2, hi, ← e]
      refine ⟨?_, up_at⟩
      rw [up_ne (by omega), up_at, hv]
    · obtain ⟨m1, m2⟩ := k4 i (by omega) h2
      rw [m1, m2, bgW, bgW, ro 1 (by omega)]
      exact ⟨rfl, rfl⟩
def bmT (S : mm_S) : mm_S := F_X10_begins_L2tc68 (F_X10_copies_13 S 10 14 14)
theorem bm_L : ∀ (N : Nat) (S : mm_S) (y : Int32), mm_b 0 7 y → (7 - y.toInt).toNat < N → ∃ R, F_X10_begins_L2 N S y = bmT R ∧ bmP R S y
  | 0, S, y, _, h => absurd h (Nat.not_lt_zero _)
  | N + 1, S, y, hy, h => by
    have cy := pz_cl (x := y) hy.1
    have ny := nI_cl (y := y) hy.1
    by_cases q : (7 : Int32) ≤ y
    · have q2 : (7 : Int) ≤ y.toInt := Int32.le_iff_toInt_le.mp q
      refine ⟨S, by rw [F_X10_begins_L2, if_pos q]; rfl, ⟨fun _ _ => rfl, rfl⟩, fun _ _ => ⟨rfl, rfl⟩, fun _ _ => rfl, fun i h1 h2 => by omega⟩
    · have q2 : y.toInt < 7 := Int32.lt_iff_toInt_lt.mp (bd_nle q)
      have ty : (y + Int32.ofInt 1).toInt = y.toInt + 1 := by rw [pz_of1]; exact pz_ti1 ⟨by omega, by omega⟩
      have c0 : (0 + y).toNatClampNeg = y.toNatClampNeg := by rw [Int32.zero_add]
      have c3 : (3 + y).toNatClampNeg = 3 + y.toNatClampNeg := pz_addc (by decide) ⟨hy.1, by omega⟩
      have c7 : (7 + y).toNatClampNeg = 7 + y.toNatClampNeg := pz_addc (by decide) ⟨hy.1, by omega⟩
      rw [F_X10_begins_L2, if_neg q, c0, c3, c7]
      by_cases z : S.1 1 (3 + y.toNatClampNeg) = 9
      · rw [if_pos z]
        obtain ⟨R, e, hR⟩ := bm_L N (mm_up (mm_up S 3 y.toNatClampNeg 9) 3 (7 + y.toNatClampNeg) 0) (y + Int32.ofInt 1) ⟨by omega, by omega⟩ (by omega)
        exact ⟨R, e, bm_s cy q2 ty (by rw [bgW, if_pos z]) hR⟩
      · rw [if_neg z]
        obtain ⟨R, e, hR⟩ := bm_L N (mm_up (mm_up S 3 y.toNatClampNeg y) 3 (7 + y.toNatClampNeg) 0) (y + Int32.ofInt 1) ⟨by omega, by omega⟩ (by omega)
        exact ⟨R, e, bm_s cy q2 ty (by rw [bgW, if_neg z]; exact ny) hR⟩
/-- the reference's state begins -/
theorem bg_m : ((∀ b, b ≠ 0 → b ≠ 3 → b ≠ 7 → (F_X10_begins S).1 b = S.1 b) ∧ (F_X10_begins S).2 = S.2) ∧
    ((∀ j, j ≠ 5 → j ≠ 13 → j ≠ 15 → j ≠ 17 → (F_X10_begins S).1 0 j = S.1 0 j) ∧ (F_X10_begins S).1 0 5 = 0 ∧ (F_X10_begins S).1 0 13 = 0 ∧ (F_X10_begins S).1 0 15 = 0 ∧ (F_X10_begins S).1 0 17 = 0) ∧
    ((F_X10_begins S).1 7 0 = 0 ∧ (F_X10_begins S).1 7 1 = 0) ∧
    ((F_X10_begins S).1 3 28 = 1 <<< (S.1 1 0 &&& 31) - 1 ∧ (F_X10_begins S).1 3 29 = 0) ∧
    (∀ i : Nat, i < 7 → (F_X10_begins S).1 3 i = bgW S i ∧ (F_X10_begins S).1 3 (7 + i) = 0 ∧ (F_X10_begins S).1 3 (14 + i) = S.1 1 (10 + i) ∧ (F_X10_begins S).1 3 (21 + i) = S.1 1 (17 + i)) := by
  obtain ⟨R, e, ⟨k1, k2⟩, k3, k5, k4⟩ := bm_L 9 S 0 (by decide) (by decide)
  have e2 : F_X10_begins S = bmT R := e
  rw [e2, bmT, F_X10_begins_L2tc68]
  generalize hC : F_X10_copies_13 R 10 14 14 = C
  have hC2 : C = mm_cp R 1 10 3 14 14 := hC.symm
  have r1 : ∀ b, b ≠ 3 → C.1 b = S.1 b := fun b h => by
    rw [← k1 b h, hC2]
    exact funext fun i => if_neg (fun q => h q.1)
  have r3 : ∀ i, i < 14 → C.1 3 i = R.1 3 i := fun i h => by
    rw [hC2]
    exact if_neg (by omega)
  have r14 : ∀ i, i < 14 → C.1 3 (14 + i) = S.1 1 (10 + i) := fun i h => by
    rw [hC2]
    show (if 3 = 3 ∧ 14 ≤ 14 + i ∧ 14 + i < 14 + 14 then R.1 1 (10 + (14 + i - 14)) else R.1 3 (14 + i)) = _
    rw [if_pos (by omega), k1 1 (by omega), show 14 + i - 14 = i by omega]
  have r2 : C.2 = S.2 := by rw [← k2, hC2]; rfl
  have p0 : C.1 1 0 = S.1 1 0 := by rw [r1 1 (by omega)]
  rw [p0]
  refine ⟨⟨fun b h1 h2 h3 => ?_, ?_⟩, ⟨fun j h1 h2 h3 h4 => ?_, ?_, ?_, ?_, ?_⟩, ⟨?_, ?_⟩, ⟨?_, ?_⟩, fun i hi => ⟨?_, ?_, ?_, ?_⟩⟩
  · rw [up_row h3, up_row h3, up_row h1, up_row h1, up_row h1, up_row h1, up_row h2, up_row h2, r1 b h2]
  · rw [up_2, up_2, up_2, up_2, up_2, up_2, up_2, up_2, r2]
  · rw [up_ne (by omega), up_ne (by omega), up_ne (by omega), up_ne (by omega), up_ne (by omega), up_ne (by omega), up_ne (by omega), up_ne (by omega), r1 0 (by omega)]
  · rw [up_ne (by omega), up_ne (by omega), up_ne (by omega), up_ne (by omega), up_ne (by omega), up_at]
  · rw [up_ne (by omega), up_ne (by omega), up_ne (by omega), up_ne (by omega), up_at]
  · rw [up_ne (by omega), up_ne (by omega), up_ne (by omega), up_at]
  · rw [up_ne (by omega), up_ne (by omega), up_at]
  · rw [up_ne (by omega), up_at]
  · rw [up_at]
  · rw [up_ne (by omega), up_ne (by omega), up_ne (by omega), up_ne (by omega), up_ne (by omega), up_ne (by omega), up_ne (by omega), up_at]
  · rw [up_ne (by omega), up_ne (by omega), up_ne (by omega), up_ne (by omega), up_ne (by omega), up_ne (by omega), up_at]
  · rw [up_ne (by omega), up_ne (by omega), up_ne (by omega), up_ne (by omega), up_ne (by omega), up_ne (by omega), up_ne (by omega), up_ne (by omega), r3 i (by omega)]
    exact (k4 i (by show (0 : Int) ≤ i; omega) hi).1
  · rw [up_ne (by omega), up_ne (by omega), up_ne (by omega), up_ne (by omega), up_ne (by omega), up_ne (by omega), up_ne (by omega), up_ne (by omega), r3 (7 + i) (by omega)]
    exact (k4 i (by show (0 : Int) ≤ i; omega) hi).2
  · rw [up_ne (by omega), up_ne (by omega), up_ne (by omega), up_ne (by omega), up_ne (by omega), up_ne (by omega), up_ne (by omega), up_ne (by omega), r14 i (by omega)]
  · have := r14 (7 + i) (by omega)
    rw [show 14 + (7 + i) = 21 + i by omega, show 10 + (7 + i) = 17 + i by omega] at this
    rw [up_ne (by omega), up_ne (by omega), up_ne (by omega), up_ne (by omega), up_ne (by omega), up_ne (by omega), up_ne (by omega), up_ne (by omega), this]
end BG
