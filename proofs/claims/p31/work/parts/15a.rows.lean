/-! ===== a parish begins ===== -/
section BG
variable {a : Nat} {S S' R : mm_S} {x y v : Int32}
theorem hp_row (h0 : S'.1 a = S.1 a) : F_X6_hasPerson S' a x = F_X6_hasPerson S a x := by rw [F_X6_hasPerson, F_X6_hasPerson, h0]
theorem rg_row (h0 : S'.1 a = S.1 a) (h1 : S'.1 (a + 1) = S.1 (a + 1)) : F_X6_rangeOf S' a x = F_X6_rangeOf S a x := by rw [F_X6_rangeOf, F_X6_rangeOf, hp_row h0, h1]
theorem hv_row (h0 : S'.1 a = S.1 a) (h1 : S'.1 (a + 1) = S.1 (a + 1)) : F_X6_hasVoice S' a x = F_X6_hasVoice S a x := by rw [F_X6_hasVoice, F_X6_hasVoice, rg_row h0 h1]
theorem f1_row (h0 : S'.1 a = S.1 a) (h1 : S'.1 (a + 2) = S.1 (a + 2)) : F_X6_firstToldHeir S' a x = F_X6_firstToldHeir S a x := by rw [F_X6_firstToldHeir, F_X6_firstToldHeir, hp_row h0, h1]
theorem f2_row (h0 : S'.1 a = S.1 a) (h1 : S'.1 (a + 3) = S.1 (a + 3)) : F_X6_secondToldHeir S' a x = F_X6_secondToldHeir S a x := by rw [F_X6_secondToldHeir, F_X6_secondToldHeir, hp_row h0, h1]
def bgV (a : Nat) (S : mm_S) (i : Nat) : Int32 := if F_X6_hasVoice S a (nI i) = 0 then 9 else nI i
def bgP (a : Nat) (R S : mm_S) (y : Int32) : Prop :=
  ((∀ b, b ≠ 16 → b ≠ 17 → b ≠ 18 → b ≠ 19 → R.1 b = S.1 b) ∧ R.2 = S.2) ∧
  (∀ i : Nat, (i : Int) < y.toInt → R.1 16 i = S.1 16 i ∧ R.1 17 i = S.1 17 i ∧ R.1 18 i = S.1 18 i ∧ R.1 19 i = S.1 19 i) ∧
  (∀ i : Nat, y.toInt ≤ i → i < 7 → R.1 16 i = bgV a S i ∧ R.1 17 i = 0 ∧ R.1 18 i = F_X6_firstToldHeir S a (nI i) ∧ R.1 19 i = F_X6_secondToldHeir S a (nI i))
theorem bg_s (ha : a + 3 < 16) {y v p q : Int32} (cy : (y.toNatClampNeg : Int) = y.toInt) (ny : y = nI y.toNatClampNeg) (ty : (y + Int32.ofInt 1).toInt = y.toInt + 1) (hv : v = bgV a S y.toNatClampNeg) (hp : p = F_X6_firstToldHeir S a y) (hq : q = F_X6_secondToldHeir S a y) (e : S' = mm_up (mm_up (mm_up (mm_up S 16 y.toNatClampNeg v) 17 y.toNatClampNeg 0) 18 y.toNatClampNeg p) 19 y.toNatClampNeg q) (h : bgP a R S' (y + Int32.ofInt 1)) : bgP a R S y := by
  have ro : ∀ b, b ≠ 16 → b ≠ 17 → b ≠ 18 → b ≠ 19 → S'.1 b = S.1 b := fun b h1 h2 h3 h4 => by rw [e, up_row h4, up_row h3, up_row h2, up_row h1]
  obtain ⟨⟨k1, k2⟩, k3, k4⟩ := h
  have z2 : S'.2 = S.2 := by rw [e, up_2, up_2, up_2, up_2]
  refine ⟨⟨fun b h1 h2 h3 h4 => by rw [k1 b h1 h2 h3 h4, ro b h1 h2 h3 h4], by rw [k2, z2]⟩, fun i hi => ?_, fun i h1 h2 => ?_⟩
  · obtain ⟨m1, m2, m3, m4⟩ := k3 i (by omega)
    rw [m1, m2, m3, m4, e]
    refine ⟨?_, ?_, ?_, ?_⟩
    · rw [up_ne (by omega), up_ne (by omega), up_ne (by omega), up_ne (by omega)]
    · rw [up_ne (by omega), up_ne (by omega), up_ne (by omega), up_ne (by omega)]
    · rw [up_ne (by omega), up_ne (by omega), up_ne (by omega), up_ne (by omega)]
    · rw [up_ne (by omega), up_ne (by omega), up_ne (by omega), up_ne (by omega)]
  · by_cases hi : i = y.toNatClampNeg
    · obtain ⟨m1, m2, m3, m4⟩ := k3 i (by omega)
      rw [m1, m2, m3, m4, hi, e]
      refine ⟨?_, ?_, ?_, ?_⟩
      · rw [up_ne (by omega), up_ne (by omega), up_ne (by omega), up_at, hv]
      · rw [up_ne (by omega), up_ne (by omega), up_at]
      · rw [up_ne (by omega), up_at, hp, ← ny]
      · rw [up_at, hq, ← ny]
    · obtain ⟨m1, m2, m3, m4⟩ := k4 i (by omega) h2
      rw [m1, m2, m3, m4]
      refine ⟨?_, rfl, f1_row (ro a (by omega) (by omega) (by omega) (by omega)) (ro (a + 2) (by omega) (by omega) (by omega) (by omega)), f2_row (ro a (by omega) (by omega) (by omega) (by omega)) (ro (a + 3) (by omega) (by omega) (by omega) (by omega))⟩
      rw [bgV, bgV, hv_row (ro a (by omega) (by omega) (by omega) (by omega)) (ro (a + 1) (by omega) (by omega) (by omega) (by omega))]
theorem nI_cl {y : Int32} (h : 0 ≤ y.toInt) : y = nI y.toNatClampNeg := by
  obtain ⟨j, hj, hj2⟩ := bd_nI h
  have : y.toNatClampNeg = j := by have := pz_cl h; omega
  rw [this]
  exact hj
theorem bg_L (ha : a + 3 < 16) : ∀ (N : Nat) (S : mm_S) (y : Int32), mm_b 0 7 y → (7 - y.toInt).toNat < N → bgP a (F_X3_begin_L32 a N S y) S y
  | 0, S, y, _, h => absurd h (Nat.not_lt_zero _)
  | N + 1, S, y, hy, h => by
    have cy := pz_cl (x := y) hy.1
    have ny := nI_cl (y := y) hy.1
    by_cases q : (7 : Int32) ≤ y
    · have q2 : (7 : Int) ≤ y.toInt := Int32.le_iff_toInt_le.mp q
      rw [F_X3_begin_L32, if_pos q]
      exact ⟨⟨fun _ _ _ _ _ => rfl, rfl⟩, fun _ _ => ⟨rfl, rfl, rfl, rfl⟩, fun i h1 h2 => by omega⟩
    · have q2 : y.toInt < 7 := Int32.lt_iff_toInt_lt.mp (bd_nle q)
      have ty : (y + Int32.ofInt 1).toInt = y.toInt + 1 := by rw [pz_of1]; exact pz_ti1 ⟨by omega, by omega⟩
      have key : ∀ v : Int32, v = bgV a S y.toNatClampNeg → bgP a (F_X3_begin_L32ftu72 (F_X3_begin_L32 a N) (mm_up (mm_up S 16 y.toNatClampNeg v) 17 y.toNatClampNeg 0) y a) S y := fun v hv => by
        rw [F_X3_begin_L32ftu72, F_X3_begin_L32ftu72u83]
        refine bg_s ha cy ny ty hv rfl rfl ?_ (bg_L ha N _ _ ⟨by omega, by omega⟩ (by omega))
        rw [f1_row (S := S) (by rw [up_row (by omega), up_row (by omega)]) (by rw [up_row (by omega), up_row (by omega)]), f2_row (S := S) (by rw [up_row (by omega), up_row (by omega), up_row (by omega)]) (by rw [up_row (by omega), up_row (by omega), up_row (by omega)])]
      rw [F_X3_begin_L32, if_neg q]
      by_cases z : F_X6_hasVoice S a y = 0
      · rw [if_pos z]
        exact key 9 (by rw [bgV, ← ny, if_pos z])
      · rw [if_neg z]
        exact key y (by rw [bgV, ← ny, if_neg z])
/-- the class's folk begin -/
theorem bg_c (ha : a + 3 < 15) (hP : mm_b 0 7 (S.1 a 0)) : ((∀ b, b ≠ 15 → b ≠ 16 → b ≠ 17 → b ≠ 18 → b ≠ 19 → (F_X3_begin S a).1 b = S.1 b) ∧ (F_X3_begin S a).2 = S.2) ∧ ((F_X3_begin S a).1 15 2 = S.1 a 0 ∧ (F_X3_begin S a).1 15 0 = 1 <<< (S.1 a 0 &&& 31) - 1 ∧ (F_X3_begin S a).1 15 1 = 0) ∧ (∀ i : Nat, i < 7 → (F_X3_begin S a).1 16 i = bgV a S i ∧ (F_X3_begin S a).1 17 i = 0 ∧ (F_X3_begin S a).1 18 i = F_X6_firstToldHeir S a (nI i) ∧ (F_X3_begin S a).1 19 i = F_X6_secondToldHeir S a (nI i)) := by
  have n7 : ¬ (7 : Int32) < S.1 a 0 := fun q => by have : (7 : Int) < (S.1 a 0).toInt := Int32.lt_iff_toInt_lt.mp q; omega
  rw [F_X3_begin, if_neg n7]
  generalize e : mm_up (mm_up (mm_up S 15 2 (S.1 a 0)) 15 0 (1 <<< (S.1 a 0 &&& 31) - 1)) 15 1 0 = T
  have ro : ∀ b, b ≠ 15 → T.1 b = S.1 b := fun b h => by rw [← e, up_row h, up_row h, up_row h]
  obtain ⟨⟨k1, k2⟩, k3, k4⟩ := bg_L (a := a) (by omega) 9 T 0 (by decide) (by decide)
  refine ⟨⟨fun b h1 h2 h3 h4 h5 => ?_, ?_⟩, ⟨?_, ?_, ?_⟩, fun i hi => ?_⟩
  · rw [k1 b h2 h3 h4 h5, ro b h1]
  · rw [k2, ← e, up_2, up_2, up_2]
  · rw [k1 15 (by omega) (by omega) (by omega) (by omega), ← e, up_ne (by omega), up_ne (by omega), up_at]
  · rw [k1 15 (by omega) (by omega) (by omega) (by omega), ← e, up_ne (by omega), up_at]
  · rw [k1 15 (by omega) (by omega) (by omega) (by omega), ← e, up_at]
  · obtain ⟨m1, m2, m3, m4⟩ := k4 i (by show (0 : Int) ≤ i; omega) hi
    rw [m1, m2, m3, m4]
    refine ⟨?_, rfl, f1_row (ro a (by omega)) (ro (a + 2) (by omega)), f2_row (ro a (by omega)) (ro (a + 3) (by omega))⟩
    rw [bgV, bgV, hv_row (ro a (by omega)) (ro (a + 1) (by omega))]
/-! the reference -/
def bgW (S : mm_S) (i : Nat) : Int32 := if S.1 1 (3 + i) = 9 then 9 else nI i
def bmP (R S : mm_S) (y : Int32) : Prop :=
  ((∀ b, b ≠ 3 → R.1 b = S.1 b) ∧ R.2 = S.2) ∧
  (∀ i : Nat, (i : Int) < y.toInt → R.1 3 i = S.1 3 i ∧ R.1 3 (7 + i) = S.1 3 (7 + i)) ∧ (∀ i : Nat, 14 ≤ i → R.1 3 i = S.1 3 i) ∧
  (∀ i : Nat, y.toInt ≤ i → i < 7 → R.1 3 i = bgW S i ∧ R.1 3 (7 + i) = 0)
theorem bm_s {y v : Int32} (cy : (y.toNatClampNeg : Int) = y.toInt) (y7 : y.toInt < 7) (ty : (y + Int32.ofInt 1).toInt = y.toInt + 1) (hv : v = bgW S y.toNatClampNeg) (h : bmP R (mm_up (mm_up S 3 y.toNatClampNeg v) 3 (7 + y.toNatClampNeg) 0) (y + Int32.ofInt 1)) : bmP R S y := by
  generalize e : mm_up (mm_up S 3 y.toNatClampNeg v) 3 (7 + y.toNatClampNeg) 0 = S' at h
  have ro : ∀ b, b ≠ 3 → S'.1 b = S.1 b := fun b h1 => by rw [← e, up_row h1, up_row h1]
  obtain ⟨⟨k1, k2⟩, k3, k5, k4⟩ := h
  refine ⟨⟨fun b h1 => by rw [k1 b h1, ro b h1], by rw [k2, ← e, up_2, up_2]⟩, fun i hi => ?_, fun i hi => ?_, fun i h1 h2 => ?_⟩
  · obtain ⟨m1, m2⟩ := k3 i (by omega)
    rw [m1, m2, ← e, up_ne (by omega), up_ne (by omega), up_ne (by omega), up_ne (by omega)]
    exact ⟨rfl, rfl⟩
  · rw [k5 i hi, ← e, up_ne (by omega), up_ne (by omega)]
  · by_cases hi : i = y.toNatClampNeg
    · obtain ⟨m1, m2⟩ := k3 i (by omega)
      rw [m1, m2, hi, ← e]
      refine ⟨?_, up_at⟩
      rw [up_ne (by omega), up_at, hv]
    · obtain ⟨m1, m2⟩ := k4 i (by omega) h2
      rw [m1, m2, bgW, bgW, ro 1 (by omega)]
      exact ⟨rfl, rfl⟩
def bmT (S : mm_S) : mm_S := F_X10_begins_L2tc68 (F_X10_copies_13 S 10 14 14)
theorem bm_L : ∀ (N : Nat) (S : mm_S) (y : Int32), mm_b 0 7 y → (7 - y.toInt).toNat < N → ∃ R, F_X10_begins_L2 N S y = bmT R ∧ bmP R S y
  | 0, S, y, _, h => absurd h (Nat.not_lt_zero _)
  | N + 1, S, y, hy, h => by
    have cy := pz_cl (x := y) hy.1
    have ny := nI_cl (y := y) hy.1
    by_cases q : (7 : Int32) ≤ y
    · have q2 : (7 : Int) ≤ y.toInt := Int32.le_iff_toInt_le.mp q
      refine ⟨S, by rw [F_X10_begins_L2, if_pos q]; rfl, ⟨fun _ _ => rfl, rfl⟩, fun _ _ => ⟨rfl, rfl⟩, fun _ _ => rfl, fun i h1 h2 => by omega⟩
    · have q2 : y.toInt < 7 := Int32.lt_iff_toInt_lt.mp (bd_nle q)
      have ty : (y + Int32.ofInt 1).toInt = y.toInt + 1 := by rw [pz_of1]; exact pz_ti1 ⟨by omega, by omega⟩
      have c0 : (0 + y).toNatClampNeg = y.toNatClampNeg := by rw [Int32.zero_add]
      have c3 : (3 + y).toNatClampNeg = 3 + y.toNatClampNeg := pz_addc (by decide) ⟨hy.1, by omega⟩
      have c7 : (7 + y).toNatClampNeg = 7 + y.toNatClampNeg := pz_addc (by decide) ⟨hy.1, by omega⟩
      rw [F_X10_begins_L2, if_neg q, c0, c3, c7]
      by_cases z : S.1 1 (3 + y.toNatClampNeg) = 9
      · rw [if_pos z]
        obtain ⟨R, e, hR⟩ := bm_L N (mm_up (mm_up S 3 y.toNatClampNeg 9) 3 (7 + y.toNatClampNeg) 0) (y + Int32.ofInt 1) ⟨by omega, by omega⟩ (by omega)
        exact ⟨R, e, bm_s cy q2 ty (by rw [bgW, if_pos z]) hR⟩
      · rw [if_neg z]
        obtain ⟨R, e, hR⟩ := bm_L N (mm_up (mm_up S 3 y.toNatClampNeg y) 3 (7 + y.toNatClampNeg) 0) (y + Int32.ofInt 1) ⟨by omega, by omega⟩ (by omega)
        exact ⟨R, e, bm_s cy q2 ty (by rw [bgW, if_neg z]; exact ny) hR⟩
/-- the reference's state begins -/
theorem bg_m : ((∀ b, b ≠ 0 → b ≠ 3 → b ≠ 7 → (F_X10_begins S).1 b = S.1 b) ∧ (F_X10_begins S).2 = S.2) ∧
    ((∀ j, j ≠ 5 → j ≠ 13 → j ≠ 15 → j ≠ 17 → (F_X10_begins S).1 0 j = S.1 0 j) ∧ (F_X10_begins S).1 0 5 = 0 ∧ (F_X10_begins S).1 0 13 = 0 ∧ (F_X10_begins S).1 0 15 = 0 ∧ (F_X10_begins S).1 0 17 = 0) ∧
    ((F_X10_begins S).1 7 0 = 0 ∧ (F_X10_begins S).1 7 1 = 0) ∧
    ((F_X10_begins S).1 3 28 = 1 <<< (S.1 1 0 &&& 31) - 1 ∧ (F_X10_begins S).1 3 29 = 0) ∧
    (∀ i : Nat, i < 7 → (F_X10_begins S).1 3 i = bgW S i ∧ (F_X10_begins S).1 3 (7 + i) = 0 ∧ (F_X10_begins S).1 3 (14 + i) = S.1 1 (10 + i) ∧ (F_X10_begins S).1 3 (21 + i) = S.1 1 (17 + i)) := by
  obtain ⟨R, e, ⟨k1, k2⟩, k3, k5, k4⟩ := bm_L 9 S 0 (by decide) (by decide)
  have e2 : F_X10_begins S = bmT R := e
  rw [e2, bmT, F_X10_begins_L2tc68]
  generalize hC : F_X10_copies_13 R 10 14 14 = C
  have hC2 : C = mm_cp R 1 10 3 14 14 := hC.symm
  have r1 : ∀ b, b ≠ 3 → C.1 b = S.1 b := fun b h => by
    rw [← k1 b h, hC2]
    exact funext fun i => if_neg (fun q => h q.1)
  have r3 : ∀ i, i < 14 → C.1 3 i = R.1 3 i := fun i h => by
    rw [hC2]
    exact if_neg (by omega)
  have r14 : ∀ i, i < 14 → C.1 3 (14 + i) = S.1 1 (10 + i) := fun i h => by
    rw [hC2]
    show (if 3 = 3 ∧ 14 ≤ 14 + i ∧ 14 + i < 14 + 14 then R.1 1 (10 + (14 + i - 14)) else R.1 3 (14 + i)) = _
    rw [if_pos (by omega), k1 1 (by omega), show 14 + i - 14 = i by omega]
  have r2 : C.2 = S.2 := by rw [← k2, hC2]; rfl
  have p0 : C.1 1 0 = S.1 1 0 := by rw [r1 1 (by omega)]
  rw [p0]
  refine ⟨⟨fun b h1 h2 h3 => ?_, ?_⟩, ⟨fun j h1 h2 h3 h4 => ?_, ?_, ?_, ?_, ?_⟩, ⟨?_, ?_⟩, ⟨?_, ?_⟩, fun i hi => ⟨?_, ?_, ?_, ?_⟩⟩
  · rw [up_row h3, up_row h3, up_row h1, up_row h1, up_row h1, up_row h1, up_row h2, up_row h2, r1 b h2]
  · rw [up_2, up_2, up_2, up_2, up_2, up_2, up_2, up_2, r2]
  · rw [up_ne (by omega), up_ne (by omega), up_ne (by omega), up_ne (by omega), up_ne (by omega), up_ne (by omega), up_ne (by omega), up_ne (by omega), r1 0 (by omega)]
  · rw [up_ne (by omega), up_ne (by omega), up_ne (by omega), up_ne (by omega), up_ne (by omega), up_at]
  · rw [up_ne (by omega), up_ne (by omega), up_ne (by omega), up_ne (by omega), up_at]
  · rw [up_ne (by omega), up_ne (by omega), up_ne (by omega), up_at]
  · rw [up_ne (by omega), up_ne (by omega), up_at]
  · rw [up_ne (by omega), up_at]
  · rw [up_at]
  · rw [up_ne (by omega), up_ne (by omega), up_ne (by omega), up_ne (by omega), up_ne (by omega), up_ne (by omega), up_ne (by omega), up_at]
  · rw [up_ne (by omega), up_ne (by omega), up_ne (by omega), up_ne (by omega), up_ne (by omega), up_ne (by omega), up_at]
  · rw [up_ne (by omega), up_ne (by omega), up_ne (by omega), up_ne (by omega), up_ne (by omega), up_ne (by omega), up_ne (by omega), up_ne (by omega), r3 i (by omega)]
    exact (k4 i (by show (0 : Int) ≤ i; omega) hi).1
  · rw [up_ne (by omega), up_ne (by omega), up_ne (by omega), up_ne (by omega), up_ne (by omega), up_ne (by omega), up_ne (by omega), up_ne (by omega), r3 (7 + i) (by omega)]
    exact (k4 i (by show (0 : Int) ≤ i; omega) hi).2
  · rw [up_ne (by omega), up_ne (by omega), up_ne (by omega), up_ne (by omega), up_ne (by omega), up_ne (by omega), up_ne (by omega), up_ne (by omega), r14 i (by omega)]
  · have := r14 (7 + i) (by omega)
    rw [show 14 + (7 + i) = 21 + i by omega, show 10 + (7 + i) = 17 + i by omega] at this
    rw [up_ne (by omega), up_ne (by omega), up_ne (by omega), up_ne (by omega), up_ne (by omega), up_ne (by omega), up_ne (by omega), up_ne (by omega), this]
end BG
/-! ===== folk copied ===== -/
section CPs
variable {a c : Nat} {S S' R : mm_S} {x y v : Int32}
def cpP (a c : Nat) (R S : mm_S) (y : Int32) : Prop :=
  ((∀ b, b ≠ a + 1 → b ≠ a + 2 → b ≠ a + 3 → b ≠ a + 4 → R.1 b = S.1 b) ∧ R.2 = S.2) ∧
  (∀ i : Nat, (i : Int) < y.toInt → R.1 (a + 1) i = S.1 (a + 1) i ∧ R.1 (a + 2) i = S.1 (a + 2) i ∧ R.1 (a + 3) i = S.1 (a + 3) i ∧ R.1 (a + 4) i = S.1 (a + 4) i) ∧
  (∀ i : Nat, y.toInt ≤ i → i < 7 → R.1 (a + 1) i = S.1 (c + 1) i ∧ R.1 (a + 2) i = S.1 (c + 2) i ∧ R.1 (a + 3) i = S.1 (c + 3) i ∧ R.1 (a + 4) i = S.1 (c + 4) i)
theorem cp_s (hac : a + 4 < c ∨ c + 4 < a) (cy : (y.toNatClampNeg : Int) = y.toInt) (ty : (y + Int32.ofInt 1).toInt = y.toInt + 1) (h : cpP a c R (mm_up (mm_up (mm_up (mm_up S (a + 1) y.toNatClampNeg (S.1 (c + 1) y.toNatClampNeg)) (a + 2) y.toNatClampNeg (S.1 (c + 2) y.toNatClampNeg)) (a + 3) y.toNatClampNeg (S.1 (c + 3) y.toNatClampNeg)) (a + 4) y.toNatClampNeg (S.1 (c + 4) y.toNatClampNeg)) (y + Int32.ofInt 1)) : cpP a c R S y := by
  generalize e : mm_up (mm_up (mm_up (mm_up S (a + 1) y.toNatClampNeg (S.1 (c + 1) y.toNatClampNeg)) (a + 2) y.toNatClampNeg (S.1 (c + 2) y.toNatClampNeg)) (a + 3) y.toNatClampNeg (S.1 (c + 3) y.toNatClampNeg)) (a + 4) y.toNatClampNeg (S.1 (c + 4) y.toNatClampNeg) = S' at h
  have ro : ∀ b, b ≠ a + 1 → b ≠ a + 2 → b ≠ a + 3 → b ≠ a + 4 → S'.1 b = S.1 b := fun b h1 h2 h3 h4 => by rw [← e, up_row h4, up_row h3, up_row h2, up_row h1]
  obtain ⟨⟨k1, k2⟩, k3, k4⟩ := h
  refine ⟨⟨fun b h1 h2 h3 h4 => by rw [k1 b h1 h2 h3 h4, ro b h1 h2 h3 h4], by rw [k2, ← e, up_2, up_2, up_2, up_2]⟩, fun i hi => ?_, fun i h1 h2 => ?_⟩
  · obtain ⟨m1, m2, m3, m4⟩ := k3 i (by omega)
    rw [m1, m2, m3, m4, ← e]
    refine ⟨?_, ?_, ?_, ?_⟩
    · rw [up_ne (by omega), up_ne (by omega), up_ne (by omega), up_ne (by omega)]
    · rw [up_ne (by omega), up_ne (by omega), up_ne (by omega), up_ne (by omega)]
    · rw [up_ne (by omega), up_ne (by omega), up_ne (by omega), up_ne (by omega)]
    · rw [up_ne (by omega), up_ne (by omega), up_ne (by omega), up_ne (by omega)]
  · by_cases hi : i = y.toNatClampNeg
    · obtain ⟨m1, m2, m3, m4⟩ := k3 i (by omega)
      rw [m1, m2, m3, m4, hi, ← e]
      refine ⟨?_, ?_, ?_, ?_⟩
      · rw [up_ne (by omega), up_ne (by omega), up_ne (by omega), up_at]
      · rw [up_ne (by omega), up_ne (by omega), up_at]
      · rw [up_ne (by omega), up_at]
      · rw [up_at]
    · obtain ⟨m1, m2, m3, m4⟩ := k4 i (by omega) h2
      rw [m1, m2, m3, m4, ro (c + 1) (by omega) (by omega) (by omega) (by omega), ro (c + 2) (by omega) (by omega) (by omega) (by omega), ro (c + 3) (by omega) (by omega) (by omega) (by omega), ro (c + 4) (by omega) (by omega) (by omega) (by omega)]
      exact ⟨rfl, rfl, rfl, rfl⟩
theorem cp_L (hac : a + 4 < c ∨ c + 4 < a) : ∀ (N : Nat) (S : mm_S) (y : Int32), mm_b 0 7 y → (7 - y.toInt).toNat < N → cpP a c (F_X3_copy_L26 a c N S y) S y
  | 0, S, y, _, h => absurd h (Nat.not_lt_zero _)
  | N + 1, S, y, hy, h => by
    have cy := pz_cl (x := y) hy.1
    by_cases q : (7 : Int32) ≤ y
    · have q2 : (7 : Int) ≤ y.toInt := Int32.le_iff_toInt_le.mp q
      rw [F_X3_copy_L26, if_pos q]
      exact ⟨⟨fun _ _ _ _ _ => rfl, rfl⟩, fun _ _ => ⟨rfl, rfl, rfl, rfl⟩, fun i h1 h2 => by omega⟩
    · have q2 : y.toInt < 7 := Int32.lt_iff_toInt_lt.mp (bd_nle q)
      have ty : (y + Int32.ofInt 1).toInt = y.toInt + 1 := by rw [pz_of1]; exact pz_ti1 ⟨by omega, by omega⟩
      have h21 : c + 2 ≠ a + 1 := by omega
      have h31 : c + 3 ≠ a + 1 := by omega
      have h32 : c + 3 ≠ a + 2 := by omega
      have h41 : c + 4 ≠ a + 1 := by omega
      have h42 : c + 4 ≠ a + 2 := by omega
      have h43 : c + 4 ≠ a + 3 := by omega
      rw [F_X3_copy_L26, if_neg q]
      simp only [up_row h21, up_row h31, up_row h32, up_row h41, up_row h42, up_row h43]
      exact cp_s hac cy ty (cp_L hac N _ _ ⟨by omega, by omega⟩ (by omega))
/-- the copy as a whole -/
theorem cp_c (hac : a + 4 < c ∨ c + 4 < a) : ((∀ b, b ≠ a → b ≠ a + 1 → b ≠ a + 2 → b ≠ a + 3 → b ≠ a + 4 → (F_X3_copy S a c).1 b = S.1 b) ∧ (F_X3_copy S a c).2 = S.2) ∧
    ((F_X3_copy S a c).1 a 0 = S.1 c 0 ∧ (F_X3_copy S a c).1 a 1 = S.1 c 1 ∧ (F_X3_copy S a c).1 a 2 = S.1 c 2 ∧ ∀ j, 3 ≤ j → (F_X3_copy S a c).1 a j = S.1 a j) ∧
    (∀ i : Nat, i < 7 → (F_X3_copy S a c).1 (a + 1) i = S.1 (c + 1) i ∧ (F_X3_copy S a c).1 (a + 2) i = S.1 (c + 2) i ∧ (F_X3_copy S a c).1 (a + 3) i = S.1 (c + 3) i ∧ (F_X3_copy S a c).1 (a + 4) i = S.1 (c + 4) i) := by
  have hca : c ≠ a := by omega
  have e : mm_up (mm_up (mm_up S a 2 (S.1 c 2)) a 0 ((mm_up S a 2 (S.1 c 2)).1 c 0)) a 1 ((mm_up (mm_up S a 2 (S.1 c 2)) a 0 ((mm_up S a 2 (S.1 c 2)).1 c 0)).1 c 1) = mm_up (mm_up (mm_up S a 2 (S.1 c 2)) a 0 (S.1 c 0)) a 1 (S.1 c 1) := by
    simp only [up_row hca]
  rw [F_X3_copy, e]
  generalize hT : mm_up (mm_up (mm_up S a 2 (S.1 c 2)) a 0 (S.1 c 0)) a 1 (S.1 c 1) = T
  have ro : ∀ b, b ≠ a → T.1 b = S.1 b := fun b h => by rw [← hT, up_row h, up_row h, up_row h]
  obtain ⟨⟨k1, k2⟩, -, k4⟩ := cp_L hac 9 T 0 (by decide) (by decide)
  refine ⟨⟨fun b h0 h1 h2 h3 h4 => ?_, ?_⟩, ⟨?_, ?_, ?_, fun j hj => ?_⟩, fun i hi => ?_⟩
  · rw [k1 b h1 h2 h3 h4, ro b h0]
  · rw [k2, ← hT, up_2, up_2, up_2]
  · rw [k1 a (by omega) (by omega) (by omega) (by omega), ← hT, up_ne (by omega), up_at]
  · rw [k1 a (by omega) (by omega) (by omega) (by omega), ← hT, up_at]
  · rw [k1 a (by omega) (by omega) (by omega) (by omega), ← hT, up_ne (by omega), up_ne (by omega), up_at]
  · rw [k1 a (by omega) (by omega) (by omega) (by omega), ← hT, up_ne (by omega), up_ne (by omega), up_ne (by omega)]
  · obtain ⟨m1, m2, m3, m4⟩ := k4 i (by show (0 : Int) ≤ i; omega) hi
    rw [m1, m2, m3, m4, ro (c + 1) (by omega), ro (c + 2) (by omega), ro (c + 3) (by omega), ro (c + 4) (by omega)]
    exact ⟨rfl, rfl, rfl, rfl⟩
end CPs
/-! ===== the relation: text, parish, kept, seen, known, book ===== -/
def Pr (a : Nat) (S1 S2 : mm_S) : Prop :=
  (S1.1 a 0 = S2.1 1 0 ∧ S1.1 a 1 = S2.1 1 1 ∧ S1.1 a 2 = S2.1 1 2) ∧
  (mm_b 0 7 (S2.1 1 0) ∧ mm_b 0 6 (S2.1 1 1) ∧ mm_b 0 6 (S2.1 1 2)) ∧
  (∀ p : Nat, (p : Int) < (S2.1 1 0).toInt → S1.1 (a + 1) p = S2.1 1 (3 + p)) ∧
  (∀ p : Nat, p < 7 → (S2.1 1 0).toInt ≤ p → S2.1 1 (3 + p) = 9) ∧
  (∀ p : Nat, (p : Int) < (S2.1 1 1).toInt → S1.1 (a + 4) p = S2.1 1 (25 + p)) ∧
  (∀ p : Nat, (p : Int) < (S2.1 1 2).toInt → S1.1 (a + 5) p = S2.1 1 (31 + p))
def En (s z w : Nat) (S1 S2 : mm_S) : Prop := S1.1 s 0 = S2.1 0 z ∧ ∀ k : Nat, (k : Int) < (S2.1 0 z).toInt → S1.1 (s + 1) k = S2.1 w (2 * k) ∧ S1.1 (s + 2) k = S2.1 w (2 * k + 1)
def RA (S1 S2 : mm_S) : Prop :=
  (S1.1 1 0 = S2.1 0 10 ∧ S1.1 2 = S2.1 8 ∧ S1.1 1 2 = S2.1 0 11) ∧
  ¬ S1.2.2 0 1 = S1.2.2 0 2 ∧ Pr (S1.2.2 0 1) S1 S2 ∧
  (S1.1 151 0 = S2.1 7 0 ∧ S1.1 157 0 = S2.1 7 1) ∧
  En 129 13 9 S1 S2 ∧ En 132 15 10 S1 S2 ∧ En 135 17 11 S1 S2
abbrev LG1 : List Nat := [1, 2, 3, 4, 5, 6, 7, 8, 9, 10, 11, 12, 13, 14, 129, 130, 131, 132, 133, 134, 135, 136, 137, 151, 157]
abbrev LG2 : List Nat := [1, 7, 8, 9, 10, 11]
abbrev LF2 : List Nat := [10, 11, 13, 15, 17]
def G1 (S U : mm_S) : Prop := (∀ b ∈ LG1, U.1 b = S.1 b) ∧ U.2 = S.2
def G2 (S U : mm_S) : Prop := (∀ b ∈ LG2, U.1 b = S.1 b) ∧ ∀ j ∈ LF2, U.1 0 j = S.1 0 j
theorem G1_rf {S : mm_S} : G1 S S := ⟨fun _ _ => rfl, rfl⟩
theorem G2_rf {S : mm_S} : G2 S S := ⟨fun _ _ => rfl, fun _ _ => rfl⟩
theorem G1_eq {S U : mm_S} (h : S = U) : G1 S U := h ▸ G1_rf
theorem G2_eq {S U : mm_S} (h : S = U) : G2 S U := h ▸ G2_rf
theorem fr_G1 {wr wf : List Nat} {m : Bool} {S U : mm_S} (h : fr wr wf true m S U) (hd : ∀ b ∈ LG1, b ∉ wr ∧ b ≠ 0) : G1 S U := ⟨fun b hb => funext fun j => h.1 b j (hd b hb).1 (hd b hb).2, h.2.2.1 rfl⟩
theorem fr_G2 {wr wf : List Nat} {k m : Bool} {S U : mm_S} (h : fr wr wf k m S U) (hd : ∀ b ∈ LG2, b ∉ wr ∧ b ≠ 0) (hf : ∀ j ∈ LF2, j ∉ wf) : G2 S U := ⟨fun b hb => funext fun j => h.1 b j (hd b hb).1 (hd b hb).2, fun j hj => h.2.1 j (hf j hj)⟩
theorem pa_in {a : Nat} (h : a ∈ LC_parish) : a = 3 ∨ a = 9 := by
  rcases List.mem_cons.mp h with h | h
  · exact Or.inl h
  · exact Or.inr (List.mem_singleton.mp h)
theorem G1_pa {S U : mm_S} (h : G1 S U) {a : Nat} (ha : a ∈ LC_parish) : U.1 a = S.1 a ∧ U.1 (a + 1) = S.1 (a + 1) ∧ U.1 (a + 2) = S.1 (a + 2) ∧ U.1 (a + 3) = S.1 (a + 3) ∧ U.1 (a + 4) = S.1 (a + 4) ∧ U.1 (a + 5) = S.1 (a + 5) := by
  rcases pa_in ha with rfl | rfl
  · exact ⟨h.1 _ (by decide), h.1 _ (by decide), h.1 _ (by decide), h.1 _ (by decide), h.1 _ (by decide), h.1 _ (by decide)⟩
  · exact ⟨h.1 _ (by decide), h.1 _ (by decide), h.1 _ (by decide), h.1 _ (by decide), h.1 _ (by decide), h.1 _ (by decide)⟩
theorem RA_G {S1 S2 U1 U2 : mm_S} (h : RA S1 S2) (hJ : JC S1) (g1 : G1 S1 U1) (g2 : G2 S2 U2) : RA U1 U2 := by
  obtain ⟨⟨a1, a2, a3⟩, a4, a5, ⟨a6, a7⟩, a8, a9, a10⟩ := h
  obtain ⟨p0, p1, p2, p3, p4, p5⟩ := G1_pa g1 (JRC_1 hJ)
  refine ⟨⟨?_, ?_, ?_⟩, ?_, ?_, ⟨?_, ?_⟩, ?_, ?_, ?_⟩
  · rw [g1.1 1 (by decide), g2.2 10 (by decide)]; exact a1
  · rw [g1.1 2 (by decide), g2.1 8 (by decide)]; exact a2
  · rw [g1.1 1 (by decide), g2.2 11 (by decide)]; exact a3
  · rw [g1.2]; exact a4
  · unfold Pr
    rw [g1.2, p0, p1, p4, p5, g2.1 1 (by decide)]; exact a5
  · rw [g1.1 151 (by decide), g2.1 7 (by decide)]; exact a6
  · rw [g1.1 157 (by decide), g2.1 7 (by decide)]; exact a7
  · unfold En
    rw [g1.1 129 (by decide), g1.1 (129 + 1) (by decide), g1.1 (129 + 2) (by decide), g2.2 13 (by decide), g2.1 9 (by decide)]; exact a8
  · unfold En
    rw [g1.1 132 (by decide), g1.1 (132 + 1) (by decide), g1.1 (132 + 2) (by decide), g2.2 15 (by decide), g2.1 10 (by decide)]; exact a9
  · unfold En
    rw [g1.1 135 (by decide), g1.1 (135 + 1) (by decide), g1.1 (135 + 2) (by decide), g2.2 17 (by decide), g2.1 11 (by decide)]; exact a10
/-! persons, doors -/
theorem has_eq {S : mm_S} {x P : Int32} (hP : mm_b 0 7 P) : (if x < 0 then (0 : Int32) else if P ≤ x then 0 else 1) = F_X10_in S x.toInt64 0 (P - 1).toInt64 := by
  have e : F_X10_in S x.toInt64 0 (P - 1).toInt64 = if mm_b 0 (P - 1).toInt x then 1 else 0 := m_in (lo := 0)
  have t := pz_sub1 hP
  rw [e]
  by_cases h : x < 0
  · have h2 : x.toInt < 0 := Int32.lt_iff_toInt_lt.mp h
    rw [if_pos h, if_neg (fun q => by omega)]
  · have h2 : 0 ≤ x.toInt := Int32.le_iff_toInt_le.mp (bd_nlt h)
    rw [if_neg h]
    by_cases q : P ≤ x
    · have := Int32.le_iff_toInt_le.mp q
      rw [if_pos q, if_neg (fun q => by omega)]
    · have := Int32.lt_iff_toInt_lt.mp (bd_nle q)
      rw [if_neg q, if_pos ⟨h2, by omega⟩]
section AN
variable {S1 S2 : mm_S} {x y : Int32}
theorem an_p (h : RA S1 S2) : F_X6_hasPerson S1 (S1.2.2 0 1) x = F_X10_isPerson S2 x := by
  rw [F_X6_hasPerson, F_X10_isPerson, h.2.2.1.1.1]
  exact has_eq h.2.2.1.2.1.1
theorem an_d (h : RA S1 S2) : F_X6_hasDoor S1 (S1.2.2 0 1) x = F_X10_in S2 x.toInt64 0 (S2.1 1 1 - 1).toInt64 := by
  have b := h.2.2.1.2.1.2.1
  rw [F_X6_hasDoor, h.2.2.1.1.2.1]
  exact has_eq (bd_w b (by decide))
end AN
/-! ===== the relation kept: feed, see, has, write, tear, keep, parish ===== -/
section ST
variable {S1 S2 U1 U2 : mm_S} {x y : Int32}
def Rt (S1 S2 : mm_S) : Prop := S1.1 1 0 = S2.1 0 10 ∧ S1.1 2 = S2.1 8 ∧ S1.1 1 2 = S2.1 0 11
def Rp (S1 S2 : mm_S) : Prop := ¬ S1.2.2 0 1 = S1.2.2 0 2 ∧ Pr (S1.2.2 0 1) S1 S2
def Rk (S1 S2 : mm_S) : Prop := S1.1 151 0 = S2.1 7 0 ∧ S1.1 157 0 = S2.1 7 1
theorem RA_mk (a : Rt S1 S2) (b : Rp S1 S2) (c : Rk S1 S2) (d : En 129 13 9 S1 S2) (e : En 132 15 10 S1 S2) (f : En 135 17 11 S1 S2) : RA S1 S2 := ⟨a, b.1, b.2, c, d, e, f⟩
theorem Rt_G (h : Rt S1 S2) (c1 : U1.1 1 = S1.1 1) (c2 : U1.1 2 = S1.1 2) (m8 : U2.1 8 = S2.1 8) (m10 : U2.1 0 10 = S2.1 0 10) (m11 : U2.1 0 11 = S2.1 0 11) : Rt U1 U2 := by
  unfold Rt
  rw [c1, c2, m8, m10, m11]
  exact h
theorem Rp_G (h : Rp S1 S2) (hJ : JC S1) (c2 : U1.2 = S1.2) (hr : ∀ b, 3 ≤ b → b ≤ 14 → U1.1 b = S1.1 b) (m1 : U2.1 1 = S2.1 1) : Rp U1 U2 := by
  have ha : 3 ≤ S1.2.2 0 1 ∧ S1.2.2 0 1 ≤ 9 := by rcases pa_in (JRC_1 hJ) with q | q <;> omega
  unfold Rp Pr
  rw [c2, m1, hr (S1.2.2 0 1) (by omega) (by omega), hr (S1.2.2 0 1 + 1) (by omega) (by omega), hr (S1.2.2 0 1 + 4) (by omega) (by omega), hr (S1.2.2 0 1 + 5) (by omega) (by omega)]
  exact h
theorem Rk_G (h : Rk S1 S2) (c1 : U1.1 151 = S1.1 151) (c2 : U1.1 157 = S1.1 157) (m7 : U2.1 7 = S2.1 7) : Rk U1 U2 := by
  unfold Rk
  rw [c1, c2, m7]
  exact h
theorem En_G {s z w : Nat} (h : En s z w S1 S2) (c0 : U1.1 s = S1.1 s) (c1 : U1.1 (s + 1) = S1.1 (s + 1)) (c2 : U1.1 (s + 2) = S1.1 (s + 2)) (mz : U2.1 0 z = S2.1 0 z) (mw : U2.1 w = S2.1 w) : En s z w U1 U2 := by
  unfold En
  rw [c0, c1, c2, mz, mw]
  exact h
theorem En_0 {s z w : Nat} (c0 : U1.1 s 0 = 0) (m0 : U2.1 0 z = 0) : En s z w U1 U2 := by
  refine ⟨by rw [c0, m0], fun k hk => ?_⟩
  rw [m0] at hk
  have : (0 : Int32).toInt = 0 := rfl
  omega
theorem pz_mul2 {Z : Int32} (h : mm_b 0 100 Z) : (2 * Z).toNatClampNeg = 2 * Z.toNatClampNeg ∧ (2 * Z + 1).toNatClampNeg = 2 * Z.toNatClampNeg + 1 := by
  have e : (2 * Z).toInt = 2 * Z.toInt := by
    rw [bd_ti_mul (by show -2147483648 ≤ 2 * Z.toInt; omega) (by show 2 * Z.toInt ≤ 2147483647; omega)]
    rfl
  have e2 : (2 * Z + 1).toInt = 2 * Z.toInt + 1 := by rw [pz_ti1 ⟨by omega, by omega⟩, e]
  constructor
  · show (2 * Z).toInt.toNat = 2 * Z.toInt.toNat
    omega
  · show (2 * Z + 1).toInt.toNat = 2 * Z.toInt.toNat + 1
    omega
theorem En_add {s z w : Nat} (hs : s ≠ 0) (hw : w ≠ 0) (h : En s z w S1 S2) {Z : Int32} (eZ : S2.1 0 z = Z) (hZ : mm_b 0 100 Z) : En s z w (mm_up (mm_up (mm_up S1 (s + 1) Z.toNatClampNeg x) (s + 2) Z.toNatClampNeg y) s 0 (Z + 1)) (mm_up (mm_up (mm_up S2 w (2 * Z).toNatClampNeg x) w (2 * Z + 1).toNatClampNeg y) 0 z (Z + 1)) := by
  have cZ := pz_cl (x := Z) hZ.1
  have tZ : (Z + 1).toInt = Z.toInt + 1 := pz_ti1 ⟨by omega, by omega⟩
  rw [(pz_mul2 hZ).1, (pz_mul2 hZ).2]
  obtain ⟨h1, h2⟩ := h
  rw [eZ] at h2
  generalize Z.toNatClampNeg = N at cZ ⊢
  refine ⟨by rw [up_at, up_at], fun k hk => ?_⟩
  rw [up_at, tZ] at hk
  by_cases hN : k = N
  · rw [hN]
    refine ⟨?_, ?_⟩
    · rw [up_ne (by omega), up_ne (by omega), up_at, up_ne (by omega), up_ne (by omega), up_at]
    · rw [up_ne (by omega), up_at, up_ne (by omega), up_at]
  · have q := h2 k (by omega)
    refine ⟨?_, ?_⟩
    · rw [up_ne (by omega), up_ne (by omega), up_ne (by omega), up_ne (by omega), up_ne (by omega), up_ne (by omega)]
      exact q.1
    · rw [up_ne (by omega), up_ne (by omega), up_ne (by omega), up_ne (by omega), up_ne (by omega), up_ne (by omega)]
      exact q.2
/-! feed -/
theorem st_feed (h : RA S1 S2) (hJ : JC S1) : (F_X9_feed S1 x).1 = (F_X10_feed S2 x).1 ∧ RA (F_X9_feed S1 x).2 (F_X10_feed S2 x).2 := by
  obtain ⟨a1, a2, a3, a4, a5, a6, a7⟩ := h
  have hn : mm_b 0 240 (S1.1 1 0) := JIC_fld hJ rfl tbC_0 (by decide)
  have e : F_X10_in S2 x.toInt64 0 255 = if mm_b 0 255 x then 1 else 0 := m_in (lo := 0) (hi := 255)
  rw [F_X9_feed, F_X10_feed, e]
  by_cases q : x < 0
  · have q2 : x.toInt < 0 := Int32.lt_iff_toInt_lt.mp q
    rw [if_pos q, if_neg (fun z : mm_b 0 255 x => by omega), if_pos (show (0 : Int32) = 0 from rfl)]
    exact ⟨rfl, a1, a2, a3, a4, a5, a6, a7⟩
  · have q2 : 0 ≤ x.toInt := Int32.le_iff_toInt_le.mp (bd_nlt q)
    rw [if_neg q]
    by_cases r : x ≤ 255
    · have r2 : x.toInt ≤ 255 := Int32.le_iff_toInt_le.mp r
      rw [if_pos r, if_pos (show mm_b 0 255 x from ⟨q2, r2⟩), if_neg one0, F_X8_add, ← a1.1]
      by_cases f : S1.1 1 0 < 240
      · have f2 : ¬ S1.1 1 0 = 240 := fun z => by rw [z] at f; exact absurd f (by decide)
        rw [if_pos f, if_neg f2]
        show (F_X9_feed_ftc22 1 (mm_up (mm_up S1 2 (S1.1 1 0).toNatClampNeg x) 1 0 (S1.1 1 0 + 1))).1 = _ ∧ RA (F_X9_feed_ftc22 1 (mm_up (mm_up S1 2 (S1.1 1 0).toNatClampNeg x) 1 0 (S1.1 1 0 + 1))).2 _
        rw [F_X9_feed_ftc22, if_neg one0]
        refine ⟨(by dsimp only; rw [up_at]), RA_mk ⟨?_, ?_, ?_⟩ (Rp_G ⟨a2, a3⟩ hJ (by rw [up_2, up_2]) (fun b h3 h14 => by rw [up_row (by omega), up_row (by omega)]) (by rw [up_row (by omega), up_row (by omega)])) (Rk_G a4 (by rw [up_row (by omega), up_row (by omega)]) (by rw [up_row (by omega), up_row (by omega)]) (by rw [up_row (by omega), up_row (by omega)])) (En_G a5 (by rw [up_row (by omega), up_row (by omega)]) (by rw [up_row (by omega), up_row (by omega)]) (by rw [up_row (by omega), up_row (by omega)]) (by rw [up_ne (by omega), up_ne (by omega)]) (by rw [up_row (by omega), up_row (by omega)])) (En_G a6 (by rw [up_row (by omega), up_row (by omega)]) (by rw [up_row (by omega), up_row (by omega)]) (by rw [up_row (by omega), up_row (by omega)]) (by rw [up_ne (by omega), up_ne (by omega)]) (by rw [up_row (by omega), up_row (by omega)])) (En_G a7 (by rw [up_row (by omega), up_row (by omega)]) (by rw [up_row (by omega), up_row (by omega)]) (by rw [up_row (by omega), up_row (by omega)]) (by rw [up_ne (by omega), up_ne (by omega)]) (by rw [up_row (by omega), up_row (by omega)]))⟩
        · show (mm_up (mm_up S1 2 (S1.1 1 0).toNatClampNeg x) 1 0 (S1.1 1 0 + 1)).1 1 0 = _
          rw [up_at, up_at]
        · show (mm_up (mm_up S1 2 (S1.1 1 0).toNatClampNeg x) 1 0 (S1.1 1 0 + 1)).1 2 = (mm_up (mm_up S2 8 (S1.1 1 0).toNatClampNeg x) 0 10 (S1.1 1 0 + 1)).1 8
          rw [up_row (show 2 ≠ 1 by omega), up_row (show 8 ≠ 0 by omega)]
          funext i
          show (if 2 = 2 ∧ i = (S1.1 1 0).toNatClampNeg then x else S1.1 2 i) = (if 8 = 8 ∧ i = (S1.1 1 0).toNatClampNeg then x else S2.1 8 i)
          rw [a1.2.1]
          by_cases z : i = (S1.1 1 0).toNatClampNeg
          · rw [if_pos ⟨rfl, z⟩, if_pos ⟨rfl, z⟩]
          · rw [if_neg (fun q => z q.2), if_neg (fun q => z q.2)]
        · show (mm_up (mm_up S1 2 (S1.1 1 0).toNatClampNeg x) 1 0 (S1.1 1 0 + 1)).1 1 2 = _
          rw [up_ne (by omega), up_ne (by omega), up_ne (by omega), up_ne (by omega)]
          exact a1.2.2
      · have f2 : S1.1 1 0 = 240 := Int32.toInt_inj.mp (by have z : 240 ≤ (S1.1 1 0).toInt := Int32.le_iff_toInt_le.mp (bd_nlt f); show (S1.1 1 0).toInt = 240; omega)
        rw [if_neg f, if_pos f2]
        show (F_X9_feed_ftc22 0 S1).1 = _ ∧ RA (F_X9_feed_ftc22 0 S1).2 _
        rw [F_X9_feed_ftc22, if_pos (show (0 : Int32) = 0 from rfl)]
        exact ⟨rfl, a1, a2, a3, a4, a5, a6, a7⟩
    · have r2 : 255 < x.toInt := Int32.lt_iff_toInt_lt.mp (bd_nle r)
      rw [if_neg r, if_neg (fun z : mm_b 0 255 x => by omega), if_pos (show (0 : Int32) = 0 from rfl)]
      exact ⟨rfl, a1, a2, a3, a4, a5, a6, a7⟩
/-! entries -/
theorem add_ok (s z w : Nat) (M : Int32) (hM : mm_b 0 15 M) (hsw : (s = 129 ∧ z = 13 ∧ w = 9) ∨ (s = 132 ∧ z = 15 ∧ w = 10) ∨ (s = 135 ∧ z = 17 ∧ w = 11)) (h : RA S1 S2) (hJ : JC S1) (hb : mm_b 0 M.toInt (S2.1 0 z)) (hf : ¬ S2.1 0 z = M) : RA (mm_up (mm_up (mm_up S1 (s + 1) (S2.1 0 z).toNatClampNeg x) (s + 2) (S2.1 0 z).toNatClampNeg y) s 0 (S2.1 0 z + 1)) (mm_up (mm_up (mm_up S2 w (2 * S2.1 0 z).toNatClampNeg x) w (2 * S2.1 0 z + 1).toNatClampNeg y) 0 z (S2.1 0 z + 1)) := by
  obtain ⟨a1, a2, a3, a4, a5, a6, a7⟩ := h
  have hs1 : 129 ≤ s ∧ s ≤ 135 := by omega
  have hz1 : 13 ≤ z ∧ z ≤ 17 := by omega
  have hw1 : 9 ≤ w ∧ w ≤ 11 := by omega
  have eE : En s z w S1 S2 := by
    rcases hsw with ⟨rfl, rfl, rfl⟩ | ⟨rfl, rfl, rfl⟩ | ⟨rfl, rfl, rfl⟩
    · exact a5
    · exact a6
    · exact a7
  have eA := En_add (x := x) (y := y) (by omega) (by omega) eE rfl ⟨hb.1, by omega⟩
  have c1 : ∀ b, b ≠ s → b ≠ s + 1 → b ≠ s + 2 → (mm_up (mm_up (mm_up S1 (s + 1) (S2.1 0 z).toNatClampNeg x) (s + 2) (S2.1 0 z).toNatClampNeg y) s 0 (S2.1 0 z + 1)).1 b = S1.1 b := fun b h0 h1 h2 => by rw [up_row h0, up_row h2, up_row h1]
  have c2 : (mm_up (mm_up (mm_up S1 (s + 1) (S2.1 0 z).toNatClampNeg x) (s + 2) (S2.1 0 z).toNatClampNeg y) s 0 (S2.1 0 z + 1)).2 = S1.2 := by rw [up_2, up_2, up_2]
  have m1 : ∀ b, b ≠ 0 → b ≠ w → (mm_up (mm_up (mm_up S2 w (2 * S2.1 0 z).toNatClampNeg x) w (2 * S2.1 0 z + 1).toNatClampNeg y) 0 z (S2.1 0 z + 1)).1 b = S2.1 b := fun b h0 h1 => by rw [up_row h0, up_row h1, up_row h1]
  have m0 : ∀ j, j ≠ z → (mm_up (mm_up (mm_up S2 w (2 * S2.1 0 z).toNatClampNeg x) w (2 * S2.1 0 z + 1).toNatClampNeg y) 0 z (S2.1 0 z + 1)).1 0 j = S2.1 0 j := fun j h0 => by rw [up_ne (by omega), up_ne (by omega), up_ne (by omega)]
  generalize mm_up (mm_up (mm_up S1 (s + 1) (S2.1 0 z).toNatClampNeg x) (s + 2) (S2.1 0 z).toNatClampNeg y) s 0 (S2.1 0 z + 1) = U1 at *
  generalize mm_up (mm_up (mm_up S2 w (2 * S2.1 0 z).toNatClampNeg x) w (2 * S2.1 0 z + 1).toNatClampNeg y) 0 z (S2.1 0 z + 1) = U2 at *
  have T : Rt U1 U2 := Rt_G a1 (c1 1 (by omega) (by omega) (by omega)) (c1 2 (by omega) (by omega) (by omega)) (m1 8 (by omega) (by omega)) (m0 10 (by omega)) (m0 11 (by omega))
  have Pp : Rp U1 U2 := Rp_G ⟨a2, a3⟩ hJ c2 (fun b h3 h14 => c1 b (by omega) (by omega) (by omega)) (m1 1 (by omega) (by omega))
  have K : Rk U1 U2 := Rk_G a4 (c1 151 (by omega) (by omega) (by omega)) (c1 157 (by omega) (by omega) (by omega)) (m1 7 (by omega) (by omega))
  rcases hsw with ⟨rfl, rfl, rfl⟩ | ⟨rfl, rfl, rfl⟩ | ⟨rfl, rfl, rfl⟩
  · exact RA_mk T Pp K eA (En_G a6 (c1 132 (by omega) (by omega) (by omega)) (c1 (132 + 1) (by omega) (by omega) (by omega)) (c1 (132 + 2) (by omega) (by omega) (by omega)) (m0 15 (by omega)) (m1 10 (by omega) (by omega))) (En_G a7 (c1 135 (by omega) (by omega) (by omega)) (c1 (135 + 1) (by omega) (by omega) (by omega)) (c1 (135 + 2) (by omega) (by omega) (by omega)) (m0 17 (by omega)) (m1 11 (by omega) (by omega)))
  · exact RA_mk T Pp K (En_G a5 (c1 129 (by omega) (by omega) (by omega)) (c1 (129 + 1) (by omega) (by omega) (by omega)) (c1 (129 + 2) (by omega) (by omega) (by omega)) (m0 13 (by omega)) (m1 9 (by omega) (by omega))) eA (En_G a7 (c1 135 (by omega) (by omega) (by omega)) (c1 (135 + 1) (by omega) (by omega) (by omega)) (c1 (135 + 2) (by omega) (by omega) (by omega)) (m0 17 (by omega)) (m1 11 (by omega) (by omega)))
  · exact RA_mk T Pp K (En_G a5 (c1 129 (by omega) (by omega) (by omega)) (c1 (129 + 1) (by omega) (by omega) (by omega)) (c1 (129 + 2) (by omega) (by omega) (by omega)) (m0 13 (by omega)) (m1 9 (by omega) (by omega))) (En_G a6 (c1 132 (by omega) (by omega) (by omega)) (c1 (132 + 1) (by omega) (by omega) (by omega)) (c1 (132 + 2) (by omega) (by omega) (by omega)) (m0 15 (by omega)) (m1 10 (by omega) (by omega))) eA
theorem full_eq {Z M : Int32} (h : mm_b 0 M.toInt Z) : (M ≤ Z) ↔ Z = M := by
  constructor
  · intro q
    have := Int32.le_iff_toInt_le.mp q
    exact Int32.toInt_inj.mp (by omega)
  · intro q
    rw [q]
    exact Int32.le_iff_toInt_le.mpr (Int.le_refl _)
/-- promise 21 -/
theorem st_see (h : RA S1 S2) (hJ : JC S1) (hM : JM S2) : (F_X9_see S1 x y).1 = (F_X10_see S2 x y).1 ∧ RA (F_X9_see S1 x y).2 (F_X10_see S2 x y).2 := by
  have hb : mm_b 0 6 (S2.1 0 13) := JIM_fld hM rfl tbM_3 (by decide)
  have e9 := h.2.2.2.2.1.1
  rw [F_X9_see, F_X10_see, an_d h]
  by_cases q : F_X10_in S2 x.toInt64 0 (S2.1 1 1 - 1).toInt64 = 0
  · rw [if_pos q, if_pos q]
    exact ⟨rfl, h⟩
  · rw [if_neg q, if_neg q, F_X2_add_129, F_X2_add_129, e9]
    by_cases f : S2.1 0 13 = 6
    · have f2 : (6 : Int32) ≤ S2.1 0 13 := (full_eq (M := 6) hb).mpr f
      rw [if_pos f2, if_pos f2, if_pos f]
      have z : (if y = 0 then F_X9_see_ttc31 (0 : Int32) S1 else F_X9_see_ttc31 0 S1) = ((-1000000004 : Int32), S1) := by
        rw [F_X9_see_ttc31, if_pos (show (0 : Int32) = 0 from rfl)]
        split <;> rfl
      show (if y = 0 then F_X9_see_ttc31 (0 : Int32) S1 else F_X9_see_ttc31 0 S1).1 = _ ∧ RA (if y = 0 then F_X9_see_ttc31 (0 : Int32) S1 else F_X9_see_ttc31 0 S1).2 _
      rw [z]
      exact ⟨rfl, h⟩
    · have f2 : ¬ (6 : Int32) ≤ S2.1 0 13 := fun z => f ((full_eq (M := 6) hb).mp z)
      rw [if_neg f2, if_neg f2, if_neg f]
      have key : ∀ u : Int32, RA (mm_up (mm_up (mm_up S1 130 (S2.1 0 13).toNatClampNeg x) 131 (S2.1 0 13).toNatClampNeg u) 129 0 (S2.1 0 13 + 1)) (mm_up (mm_up (mm_up S2 9 (2 * S2.1 0 13).toNatClampNeg x) 9 (2 * S2.1 0 13 + 1).toNatClampNeg u) 0 13 (S2.1 0 13 + 1)) := fun u => add_ok 129 13 9 6 (by decide) (Or.inl ⟨rfl, rfl, rfl⟩) h hJ hb f
      by_cases y0 : y = 0
      · rw [if_pos y0, if_pos y0]
        show (F_X9_see_ttc31 1 _).1 = _ ∧ RA (F_X9_see_ttc31 1 _).2 _
        rw [F_X9_see_ttc31, if_neg one0]
        exact ⟨(by dsimp only; rw [up_at]), key 0⟩
      · rw [if_neg y0, if_neg y0]
        show (F_X9_see_ttc31 1 _).1 = _ ∧ RA (F_X9_see_ttc31 1 _).2 _
        rw [F_X9_see_ttc31, if_neg one0]
        exact ⟨(by dsimp only; rw [up_at]), key 1⟩
theorem an_use : F_X9_isVoiceOrNone S1 x = F_X10_isUse S2 x := by
  have e : F_X10_isVoice S2 x = if mm_b 0 6 x then 1 else 0 := m_in (lo := 0) (hi := 6)
  rw [F_X9_isVoiceOrNone, F_X10_isUse, e, F_X9_isVoiceNumber]
  by_cases h9 : x = 9
  · rw [h9]
    decide
  · rw [if_neg h9, if_neg h9]
    by_cases q : x < 0
    · have : x.toInt < 0 := Int32.lt_iff_toInt_lt.mp q
      rw [if_pos q, if_neg (show ¬ mm_b 0 6 x from fun z => by omega)]
    · have q2 : 0 ≤ x.toInt := Int32.le_iff_toInt_le.mp (bd_nlt q)
      rw [if_neg q]
      by_cases r : (7 : Int32) ≤ x
      · have : (7 : Int) ≤ x.toInt := Int32.le_iff_toInt_le.mp r
        rw [if_pos r, if_neg (show ¬ mm_b 0 6 x from fun z => by omega)]
      · have : x.toInt < 7 := Int32.lt_iff_toInt_lt.mp (bd_nle r)
        rw [if_neg r, if_pos (show mm_b 0 6 x from ⟨q2, by omega⟩)]
/-- promise 24 -/
theorem st_has (h : RA S1 S2) (hJ : JC S1) (hM : JM S2) : (F_X9_has S1 x y).1 = (F_X10_has S2 x y).1 ∧ RA (F_X9_has S1 x y).2 (F_X10_has S2 x y).2 := by
  have hb : mm_b 0 6 (S2.1 0 15) := JIM_fld hM rfl tbM_4 (by decide)
  have e9 := h.2.2.2.2.2.1.1
  rw [F_X9_has, F_X10_has, an_p h, an_use (S1 := S1) (S2 := S2)]
  by_cases q : F_X10_isPerson S2 x = 0
  · rw [if_pos q, if_pos q]
    exact ⟨rfl, h⟩
  · rw [if_neg q, if_neg q]
    by_cases r : F_X10_isUse S2 y = 0
    · rw [if_pos r, if_pos r]
      exact ⟨rfl, h⟩
    · rw [if_neg r, if_neg r, F_X2_add_132, e9]
      by_cases f : S2.1 0 15 = 6
      · rw [if_pos ((full_eq (M := 6) hb).mpr f), if_pos f]
        show (F_X9_has_ftc30 0 S1).1 = _ ∧ RA (F_X9_has_ftc30 0 S1).2 _
        rw [F_X9_has_ftc30, if_pos (show (0 : Int32) = 0 from rfl)]
        exact ⟨rfl, h⟩
      · rw [if_neg (fun z => f ((full_eq (M := 6) hb).mp z)), if_neg f]
        show (F_X9_has_ftc30 1 _).1 = _ ∧ RA (F_X9_has_ftc30 1 _).2 _
        rw [F_X9_has_ftc30, if_neg one0]
        exact ⟨(by dsimp only; rw [up_at]), add_ok 132 15 10 6 (by decide) (Or.inr (Or.inl ⟨rfl, rfl, rfl⟩)) h hJ hb f⟩
/-- promise 26 -/
theorem st_write (h : RA S1 S2) (hJ : JC S1) (hM : JM S2) : (F_X9_write S1 x y).1 = (F_X10_write S2 x y).1 ∧ RA (F_X9_write S1 x y).2 (F_X10_write S2 x y).2 := by
  have hb : mm_b 0 15 (S2.1 0 17) := JIM_fld hM rfl tbM_5 (by decide)
  have e9 := h.2.2.2.2.2.2.1
  rw [F_X9_write, F_X10_write, an_p h, an_use (S1 := S1) (S2 := S2)]
  by_cases q : F_X10_isPerson S2 x = 0
  · rw [if_pos q, if_pos q]
    exact ⟨rfl, h⟩
  · rw [if_neg q, if_neg q]
    by_cases r : F_X10_isUse S2 y = 0
    · rw [if_pos r, if_pos r]
      exact ⟨rfl, h⟩
    · rw [if_neg r, if_neg r, F_X2_add_135, e9]
      by_cases f : S2.1 0 17 = 15
      · rw [if_pos ((full_eq (M := 15) hb).mpr f), if_pos f]
        show (F_X9_write_ftc30 0 S1).1 = _ ∧ RA (F_X9_write_ftc30 0 S1).2 _
        rw [F_X9_write_ftc30, if_pos (show (0 : Int32) = 0 from rfl)]
        exact ⟨rfl, h⟩
      · rw [if_neg (fun z => f ((full_eq (M := 15) hb).mp z)), if_neg f]
        show (F_X9_write_ftc30 1 _).1 = _ ∧ RA (F_X9_write_ftc30 1 _).2 _
        rw [F_X9_write_ftc30, if_neg one0]
        exact ⟨(by dsimp only; rw [up_at]), add_ok 135 17 11 15 (by decide) (Or.inr (Or.inr ⟨rfl, rfl, rfl⟩)) h hJ hb f⟩
/-- promise 27 -/
theorem st_tear (h : RA S1 S2) (hJ : JC S1) : (F_X9_tear S1).1 = (F_X10_tear S2).1 ∧ RA (F_X9_tear S1).2 (F_X10_tear S2).2 := by
  obtain ⟨a1, a2, a3, a4, a5, a6, a7⟩ := h
  rw [F_X9_tear, F_X9_tear_c31, F_X9_tear_c31c38, F_X9_tear_c31c38c45, F_X2_clear_129, F_X2_clear_132, F_X2_clear_135, F_X10_tear, a5.1, a6.1, a7.1]
  refine ⟨rfl, RA_mk (Rt_G a1 ?_ ?_ ?_ ?_ ?_) (Rp_G ⟨a2, a3⟩ hJ ?_ (fun b h3 h14 => ?_) ?_) (Rk_G a4 ?_ ?_ ?_) (En_0 ?_ ?_) (En_0 ?_ ?_) (En_0 ?_ ?_)⟩
  · rw [up_row (by omega), up_row (by omega), up_row (by omega)]
  · rw [up_row (by omega), up_row (by omega), up_row (by omega)]
  · rw [up_row (by omega), up_row (by omega), up_row (by omega)]
  · rw [up_ne (by omega), up_ne (by omega), up_ne (by omega)]
  · rw [up_ne (by omega), up_ne (by omega), up_ne (by omega)]
  · rw [up_2, up_2, up_2]
  · rw [up_row (by omega), up_row (by omega), up_row (by omega)]
  · rw [up_row (by omega), up_row (by omega), up_row (by omega)]
  · rw [up_row (by omega), up_row (by omega), up_row (by omega)]
  · rw [up_row (by omega), up_row (by omega), up_row (by omega)]
  · rw [up_row (by omega), up_row (by omega), up_row (by omega)]
  · rw [up_ne (by omega), up_ne (by omega), up_at]
  · rw [up_ne (by omega), up_ne (by omega), up_at]
  · rw [up_ne (by omega), up_at]
  · rw [up_ne (by omega), up_at]
  · rw [up_at]
  · rw [up_at]
end ST
/-! ===== the relation kept: keep, goBack's answer, parish ===== -/
section ST2
variable {S1 S2 U1 U2 : mm_S} {x y : Int32}
theorem img_v {x : Int32} (h : mm_b 0 1 x) : (x = 0 ∧ imgF x = 151) ∨ (x = 1 ∧ imgF x = 157) := by
  rcases (by omega : x.toInt = 0 ∨ x.toInt = 1) with q | q
  · have e : x = 0 := Int32.toInt_inj.mp q
    subst e
    exact Or.inl ⟨rfl, by decide⟩
  · have e : x = 1 := Int32.toInt_inj.mp q
    subst e
    exact Or.inr ⟨rfl, by decide⟩
theorem in01 {S : mm_S} : F_X10_in S x.toInt64 0 1 = if mm_b 0 1 x then 1 else 0 := m_in (lo := 0) (hi := 1)
/-- promise 30 -/
theorem st_keep (h : RA S1 S2) (hJ : JC S1) : (F_X9_keep S1 x).1 = (F_X10_keep S2 x).1 ∧ RA (F_X9_keep S1 x).2 (F_X10_keep S2 x).2 := by
  obtain ⟨a1, a2, a3, a4, a5, a6, a7⟩ := h
  rw [F_X9_keep, F_X10_keep, in01]
  by_cases q : mm_b 0 1 x
  · rw [if_pos q, if_pos q, if_neg one0, F_X9_keep_ic24, F_X9_keep_ic24u44, F_X9_keep_ic24u44c47, F_X7_forget, F_X10_keep_tc31]
    generalize hv : (31 : Int32) * x = v
    generalize hc : F_X10_copies_36 S2 0 v 30 = C2
    have hC2 : ∀ b, b ≠ 6 → C2.1 b = S2.1 b := fun b hb => by
      rw [← hc]
      exact funext fun i => if_neg (fun z => hb z.1)
    have key : ∀ (i : Nat), (imgF x = i) → (i = 151 ∨ i = 157) → (∀ b, b ≠ i → b ≠ i + 1 → b ≠ i + 1 + 1 → b ≠ i + 1 + 2 → b ≠ i + 1 + 3 → b ≠ i + 1 + 4 → b ≠ 25 → (mm_up (mm_up (mm_up (mm_up (F_X3_copy S1 (imgF x + 1) 15) (imgF x) 1 ((F_X3_copy S1 (imgF x + 1) 15).1 128 0)) (imgF x) 0 1) 25 0 0) 25 1 0).1 b = S1.1 b) ∧ (mm_up (mm_up (mm_up (mm_up (F_X3_copy S1 (imgF x + 1) 15) (imgF x) 1 ((F_X3_copy S1 (imgF x + 1) 15).1 128 0)) (imgF x) 0 1) 25 0 0) 25 1 0).2 = S1.2 ∧ (mm_up (mm_up (mm_up (mm_up (F_X3_copy S1 (imgF x + 1) 15) (imgF x) 1 ((F_X3_copy S1 (imgF x + 1) 15).1 128 0)) (imgF x) 0 1) 25 0 0) 25 1 0).1 i 0 = 1 := by
      intro i hi hi2
      rw [hi]
      obtain ⟨⟨k1, k2⟩, -, -⟩ := cp_c (S := S1) (a := i + 1) (c := 15) (by omega)
      refine ⟨fun b h0 h1 h2 h3 h4 h5 h6 => ?_, ?_, ?_⟩
      · rw [up_row h6, up_row h6, up_row h0, up_row h0, k1 b h1 h2 h3 h4 h5]
      · rw [up_2, up_2, up_2, up_2, k2]
      · rw [up_ne (by omega), up_ne (by omega), up_at]
    have m1 : ∀ b, b ≠ 0 → b ≠ 6 → b ≠ 7 → (mm_up (mm_up (mm_up C2 6 (v + 30).toNatClampNeg (C2.2.1 0 8).toInt32) 7 x.toNatClampNeg 1) 0 5 0).1 b = S2.1 b := fun b h0 h1 h2 => by rw [up_row h0, up_row h2, up_row h1, hC2 b h1]
    have m0 : ∀ j, j ≠ 5 → (mm_up (mm_up (mm_up C2 6 (v + 30).toNatClampNeg (C2.2.1 0 8).toInt32) 7 x.toNatClampNeg 1) 0 5 0).1 0 j = S2.1 0 j := fun j h0 => by rw [up_ne (by omega), up_ne (by omega), up_ne (by omega), hC2 0 (by omega)]
    have m7 : ∀ j, (mm_up (mm_up (mm_up C2 6 (v + 30).toNatClampNeg (C2.2.1 0 8).toInt32) 7 x.toNatClampNeg 1) 0 5 0).1 7 j = if j = x.toNatClampNeg then 1 else S2.1 7 j := fun j => by
      rw [up_ne (by omega)]
      show (if 7 = 7 ∧ j = x.toNatClampNeg then (1 : Int32) else (mm_up C2 6 (v + 30).toNatClampNeg (C2.2.1 0 8).toInt32).1 7 j) = _
      by_cases z : j = x.toNatClampNeg
      · rw [if_pos ⟨rfl, z⟩, if_pos z]
      · rw [if_neg (fun q => z q.2), if_neg z, up_ne (by omega), hC2 7 (by omega)]
    refine ⟨rfl, ?_⟩
    show RA (mm_up (mm_up (mm_up (mm_up (F_X3_copy S1 (imgF x + 1) 15) (imgF x) 1 ((F_X3_copy S1 (imgF x + 1) 15).1 128 0)) (imgF x) 0 1) 25 0 0) 25 1 0) (mm_up (mm_up (mm_up C2 6 (v + 30).toNatClampNeg (C2.2.1 0 8).toInt32) 7 x.toNatClampNeg 1) 0 5 0)
    generalize mm_up (mm_up (mm_up C2 6 (v + 30).toNatClampNeg (C2.2.1 0 8).toInt32) 7 x.toNatClampNeg 1) 0 5 0 = U2 at *
    generalize mm_up (mm_up (mm_up (mm_up (F_X3_copy S1 (imgF x + 1) 15) (imgF x) 1 ((F_X3_copy S1 (imgF x + 1) 15).1 128 0)) (imgF x) 0 1) 25 0 0) 25 1 0 = U1 at *
    have fin : ∀ i, (i = 151 ∨ i = 157) → (∀ b, b ≠ i → b ≠ i + 1 → b ≠ i + 1 + 1 → b ≠ i + 1 + 2 → b ≠ i + 1 + 3 → b ≠ i + 1 + 4 → b ≠ 25 → U1.1 b = S1.1 b) → U1.2 = S1.2 → Rk U1 U2 → RA U1 U2 := fun i hi k1 k2 hk =>
      RA_mk (Rt_G a1 (k1 1 (by omega) (by omega) (by omega) (by omega) (by omega) (by omega) (by omega)) (k1 2 (by omega) (by omega) (by omega) (by omega) (by omega) (by omega) (by omega)) (m1 8 (by omega) (by omega) (by omega)) (m0 10 (by omega)) (m0 11 (by omega)))
        (Rp_G ⟨a2, a3⟩ hJ k2 (fun b h3 h14 => k1 b (by omega) (by omega) (by omega) (by omega) (by omega) (by omega) (by omega)) (m1 1 (by omega) (by omega) (by omega))) hk
        (En_G a5 (k1 129 (by omega) (by omega) (by omega) (by omega) (by omega) (by omega) (by omega)) (k1 (129 + 1) (by omega) (by omega) (by omega) (by omega) (by omega) (by omega) (by omega)) (k1 (129 + 2) (by omega) (by omega) (by omega) (by omega) (by omega) (by omega) (by omega)) (m0 13 (by omega)) (m1 9 (by omega) (by omega) (by omega)))
        (En_G a6 (k1 132 (by omega) (by omega) (by omega) (by omega) (by omega) (by omega) (by omega)) (k1 (132 + 1) (by omega) (by omega) (by omega) (by omega) (by omega) (by omega) (by omega)) (k1 (132 + 2) (by omega) (by omega) (by omega) (by omega) (by omega) (by omega) (by omega)) (m0 15 (by omega)) (m1 10 (by omega) (by omega) (by omega)))
        (En_G a7 (k1 135 (by omega) (by omega) (by omega) (by omega) (by omega) (by omega) (by omega)) (k1 (135 + 1) (by omega) (by omega) (by omega) (by omega) (by omega) (by omega) (by omega)) (k1 (135 + 2) (by omega) (by omega) (by omega) (by omega) (by omega) (by omega) (by omega)) (m0 17 (by omega)) (m1 11 (by omega) (by omega) (by omega)))
    rcases img_v q with ⟨hx, hi⟩ | ⟨hx, hi⟩
    · obtain ⟨k1, k2, k3⟩ := key 151 hi (Or.inl rfl)
      refine fin 151 (Or.inl rfl) k1 k2 ⟨?_, ?_⟩
      · rw [k3, m7 0, hx, if_pos (by decide)]
      · rw [k1 157 (by omega) (by omega) (by omega) (by omega) (by omega) (by omega) (by omega), m7 1, hx, if_neg (by decide)]
        exact a4.2
    · obtain ⟨k1, k2, k3⟩ := key 157 hi (Or.inr rfl)
      refine fin 157 (Or.inr rfl) k1 k2 ⟨?_, ?_⟩
      · rw [k1 151 (by omega) (by omega) (by omega) (by omega) (by omega) (by omega) (by omega), m7 0, hx, if_neg (by decide)]
        exact a4.1
      · rw [k3, m7 1, hx, if_pos (by decide)]
  · rw [if_neg q, if_neg q, if_pos (show (0 : Int32) = 0 from rfl)]
    exact ⟨rfl, a1, a2, a3, a4, a5, a6, a7⟩
/-- promise 31: the answer -/
theorem an_goBack (h : RA S1 S2) : (F_X9_goBack S1 x).1 = (F_X10_goBack S2 x).1 := by
  rw [F_X9_goBack, F_X10_goBack, in01]
  by_cases q : mm_b 0 1 x
  · have e : S1.1 (imgF x) 0 = S2.1 7 x.toNatClampNeg := by
      rcases img_v q with ⟨hx, hi⟩ | ⟨hx, hi⟩
      · rw [hi, hx]
        exact h.2.2.2.1.1
      · rw [hi, hx]
        exact h.2.2.2.1.2
    rw [if_pos q, if_pos q, if_neg one0, e]
    by_cases z : S2.1 7 x.toNatClampNeg = 0
    · rw [if_pos z, if_pos z]
    · rw [if_neg z, if_neg z]
      rfl
  · rw [if_neg q, if_neg q, if_pos (show (0 : Int32) = 0 from rfl)]
/-! parish -/
theorem L84 {S : mm_S} : F_X9_parish_L84 4 S 0 = ((mm_up (mm_up S 151 0 0) 157 0 0).1 (S.2.2 0 1) 0, mm_up (mm_up S 151 0 0) 157 0 0) := by
  have e1 : aaC_127 0 = 151 := by decide
  have e2 : aaC_127 (0 + Int32.ofInt 1) = 157 := by decide
  rw [F_X9_parish_L84, if_neg (show ¬ (2 : Int32) ≤ 0 by decide), e1, F_X9_parish_L84, if_neg (show ¬ (2 : Int32) ≤ 0 + Int32.ofInt 1 by decide), e2, F_X9_parish_L84, if_pos (show (2 : Int32) ≤ 0 + Int32.ofInt 1 + Int32.ofInt 1 by decide), up_2, up_2]
/-- a fault: all else is as it was -/
theorem pa_bad (h : RA S1 S2) (hJ : JC S1) {C1 C2 : mm_S} {k c' m' q' b' s' g' v' : Int32} (hB : Bs (S1.2.2 0 2) (S1.1 2) (S1.1 1 0) S1 (mm_up S2 0 11 (-1)) C1 C2) : RA (rd (mm_up C1 1 0 0) k b' c' m') (mm_up (mm_up (td C2 q' b' s' g' v' k) 0 10 0) 0 11 b') := by
  obtain ⟨a1, a2, a3, a4, a5, a6, a7⟩ := h
  obtain ⟨⟨k1, k2⟩, ⟨k3, k4⟩, -, -, -, -⟩ := hB
  have hd := pa_in (JRC_2 hJ)
  have ha := pa_in (JRC_1 hJ)
  have c1 : ∀ b, b ≠ 1 → ¬ (S1.2.2 0 2 ≤ b ∧ b ≤ S1.2.2 0 2 + 5) → (rd (mm_up C1 1 0 0) k b' c' m').1 b = S1.1 b := fun b h1 h2 => by rw [rd_row h1, up_row h1, k1 b h2]
  have c2 : (rd (mm_up C1 1 0 0) k b' c' m').2 = S1.2 := k2
  have m1 : ∀ b, b ≠ 0 → b ≠ 2 → (mm_up (mm_up (td C2 q' b' s' g' v' k) 0 10 0) 0 11 b').1 b = S2.1 b := fun b h0 h2 => by rw [up_row h0, up_row h0, td_row h0, k3 b h2, up_row h0]
  have m0 : ∀ j, j < 18 → j ≠ 10 → j ≠ 11 → (mm_up (mm_up (td C2 q' b' s' g' v' k) 0 10 0) 0 11 b').1 0 j = S2.1 0 j := fun j h0 h1 h2 => by
    rw [up_ne (by omega), up_ne (by omega)]
    show (if j = 18 then q' else if j = 19 then b' else if j = 20 then s' else if j = 21 then g' else if j = 22 then v' else if j = 23 then k else C2.1 0 j) = _
    rw [if_neg (by omega), if_neg (by omega), if_neg (by omega), if_neg (by omega), if_neg (by omega), if_neg (by omega), k3 0 (by omega), up_ne (by omega)]
  refine RA_mk ⟨?_, ?_, ?_⟩ ⟨?_, ?_⟩ (Rk_G a4 ?_ ?_ ?_) (En_G a5 ?_ ?_ ?_ ?_ ?_) (En_G a6 ?_ ?_ ?_ ?_ ?_) (En_G a7 ?_ ?_ ?_ ?_ ?_)
  · rw [rd_0, up_at, up_ne (by omega), up_at]
  · rw [c1 2 (by omega) (by omega), m1 8 (by omega) (by omega)]
    exact a1.2.1
  · rw [rd_2, up_at]
  · rw [c2]
    exact a2
  · unfold Pr
    rw [c2, m1 1 (by omega) (by omega), c1 (S1.2.2 0 1) (by omega) (by omega), c1 (S1.2.2 0 1 + 1) (by omega) (by omega), c1 (S1.2.2 0 1 + 4) (by omega) (by omega), c1 (S1.2.2 0 1 + 5) (by omega) (by omega)]
    exact a3
  all_goals first
    | exact c1 _ (by omega) (by omega)
    | exact m1 _ (by omega) (by omega)
    | exact m0 _ (by omega) (by omega) (by omega)
/-- a parish: what was read is here -/
theorem pa_ok (h : RA S1 S2) (hJ : JC S1) {C1 C2 : mm_S} {c' m' q' b' s' g' v' w' : Int32} (hB : Bs (S1.2.2 0 2) (S1.1 2) (S1.1 1 0) S1 (mm_up S2 0 11 (-1)) C1 C2) (D : Dr (S1.2.2 0 2) C1 C2) :
    (F_X9_parish_c11 1 (rd (mm_up C1 1 0 0) 0 (-1) c' m')).1 = (F_X10_parish_L23ttu87 (mm_up (td C2 q' b' s' g' v' w') 0 10 0)).1 ∧ RA (F_X9_parish_c11 1 (rd (mm_up C1 1 0 0) 0 (-1) c' m')).2 (F_X10_parish_L23ttu87 (mm_up (td C2 q' b' s' g' v' w') 0 10 0)).2 := by
  obtain ⟨a1, a2, a3, a4, a5, a6, a7⟩ := h
  obtain ⟨⟨k1, k2⟩, ⟨k3, k4⟩, -, -, -, -⟩ := hB
  have hd := pa_in (JRC_2 hJ)
  have ha := pa_in (JRC_1 hJ)
  -- the class
  generalize hR : rd (mm_up C1 1 0 0) 0 (-1) c' m' = R
  have r2 : R.2 = S1.2 := by rw [← hR]; exact k2
  have r1 : ∀ b, b ≠ 1 → R.1 b = C1.1 b := fun b h1 => by rw [← hR, rd_row h1, up_row h1]
  generalize hd2 : S1.2.2 0 2 = d at *
  generalize hW : mm_upR (mm_upR R 0 1 (R.2.2 0 2)) 0 2 (R.2.2 0 1) = W
  have w1 : W.1 = R.1 := by rw [← hW]; rfl
  have w01 : W.2.2 0 1 = d := by rw [← hW]; show R.2.2 0 2 = d; rw [r2, hd2]
  have w02 : W.2.2 0 2 = S1.2.2 0 1 := by rw [← hW]; show R.2.2 0 1 = _; rw [r2]
  have hp0 : W.1 d 0 = C2.1 2 0 := by rw [w1, r1 d (by omega)]; exact D.1.1
  obtain ⟨⟨b1, b2⟩, -, -⟩ := bg_c (S := W) (a := d) (by omega) (by rw [hp0]; exact D.2.1.1)
  have ec : F_X9_parish_c11 1 R = ((mm_up (mm_up (F_X7_forget (F_X2_clear_135 (F_X2_clear_132 (F_X2_clear_129 (F_X3_begin W d))))) 151 0 0) 157 0 0).1 d 0, mm_up (mm_up (F_X7_forget (F_X2_clear_135 (F_X2_clear_132 (F_X2_clear_129 (F_X3_begin W d))))) 151 0 0) 157 0 0) := by
    rw [F_X9_parish_c11, if_neg one0, hW, w01, F_X9_parish_c11tu51, F_X9_parish_c11tu51c54, F_X9_parish_c11tu51c54c61, F_X9_parish_c11tu51c54c61c68, F_X9_parish_c11tu51c54c61c68c75, F_X9_parish_c11tu51c54c61c68c75c82, L84]
    have z : (F_X7_forget (F_X2_clear_135 (F_X2_clear_132 (F_X2_clear_129 (F_X3_begin W d))))).2.2 0 1 = d := by
      rw [F_X7_forget, F_X2_clear_135, F_X2_clear_132, F_X2_clear_129, up_2, up_2, up_2, up_2, up_2, b2, w01]
    rw [z]
  rw [ec]
  generalize hU : mm_up (mm_up (F_X7_forget (F_X2_clear_135 (F_X2_clear_132 (F_X2_clear_129 (F_X3_begin W d))))) 151 0 0) 157 0 0 = U1
  have u1 : ∀ b, b < 15 → U1.1 b = R.1 b := fun b hb => by
    rw [← hU, F_X7_forget, F_X2_clear_135, F_X2_clear_132, F_X2_clear_129, up_row (by omega), up_row (by omega), up_row (by omega), up_row (by omega), up_row (by omega), up_row (by omega), up_row (by omega), b1 b (by omega) (by omega) (by omega) (by omega) (by omega), w1]
  have u2 : U1.2.2 0 1 = d ∧ U1.2.2 0 2 = S1.2.2 0 1 := by
    rw [← hU, F_X7_forget, F_X2_clear_135, F_X2_clear_132, F_X2_clear_129, up_2, up_2, up_2, up_2, up_2, up_2, up_2, b2]
    exact ⟨w01, w02⟩
  have u129 : U1.1 129 0 = 0 ∧ U1.1 132 0 = 0 ∧ U1.1 135 0 = 0 ∧ U1.1 151 0 = 0 ∧ U1.1 157 0 = 0 := by
    rw [← hU, F_X7_forget, F_X2_clear_135, F_X2_clear_132, F_X2_clear_129]
    refine ⟨?_, ?_, ?_, ?_, ?_⟩
    · rw [up_ne (by omega), up_ne (by omega), up_ne (by omega), up_ne (by omega), up_ne (by omega), up_ne (by omega), up_at]
    · rw [up_ne (by omega), up_ne (by omega), up_ne (by omega), up_ne (by omega), up_ne (by omega), up_at]
    · rw [up_ne (by omega), up_ne (by omega), up_ne (by omega), up_ne (by omega), up_at]
    · rw [up_ne (by omega), up_at]
    · rw [up_at]
  -- the reference
  rw [F_X10_parish_L23ttu87, F_X10_parish_L23ttu87c90, F_X10_parish_L23ttu87c90c94]
  generalize hT : mm_up (td C2 q' b' s' g' v' w') 0 10 0 = T
  generalize hC : F_X10_copies_21 T 0 0 37 = C
  obtain ⟨⟨n1, -⟩, ⟨n0, -, n13, n15, n17⟩, ⟨n70, n71⟩, -, -⟩ := bg_m (S := C)
  have t1 : ∀ b, b ≠ 0 → T.1 b = C2.1 b := fun b h0 => by rw [← hT, up_row h0, td_row h0]
  have cc : ∀ b, b ≠ 1 → C.1 b = T.1 b := fun b h1 => by
    rw [← hC]
    exact funext fun i => if_neg (fun z => h1 z.1)
  have c1 : ∀ i, i < 37 → C.1 1 i = C2.1 2 i := fun i hi => by
    rw [← hC]
    show (if 1 = 1 ∧ (0 : Int32).toNatClampNeg ≤ i ∧ i < (0 : Int32).toNatClampNeg + (37 : Int32).toNatClampNeg then T.1 2 ((0 : Int32).toNatClampNeg + (i - (0 : Int32).toNatClampNeg)) else T.1 1 i) = _
    rw [show (0 : Int32).toNatClampNeg = 0 by decide, show (37 : Int32).toNatClampNeg = 37 by decide, if_pos (by omega), t1 2 (by omega), show 0 + (i - 0) = i by omega]
  generalize F_X10_begins C = U2 at *
  have v1 : ∀ i, i < 37 → U2.1 1 i = C2.1 2 i := fun i hi => by rw [n1 1 (by omega) (by omega) (by omega), c1 i hi]
  obtain ⟨⟨d1, d2, d3, d4⟩, ⟨d5, d6, d7⟩, d8, d9, d10, d11⟩ := D
  refine ⟨?_, RA_mk ⟨?_, ?_, ?_⟩ ⟨?_, ?_⟩ ⟨?_, ?_⟩ (En_0 u129.1 n13) (En_0 u129.2.1 n15) (En_0 u129.2.2.1 n17)⟩
  · show U1.1 d 0 = U2.1 1 0
    rw [u1 d (by omega), r1 d (by omega), v1 0 (by omega)]
    exact d1
  · show U1.1 1 0 = U2.1 0 10
    rw [u1 1 (by omega), ← hR, rd_0, up_at, n0 10 (by omega) (by omega) (by omega) (by omega), cc 0 (by omega), ← hT, up_at]
  · show U1.1 2 = U2.1 8
    rw [u1 2 (by omega), r1 2 (by omega), k1 2 (by omega), n1 8 (by omega) (by omega) (by omega), cc 8 (by omega), t1 8 (by omega), k3 8 (by omega), up_row (by omega)]
    exact a1.2.1
  · show U1.1 1 2 = U2.1 0 11
    rw [u1 1 (by omega), ← hR, rd_2, n0 11 (by omega) (by omega) (by omega) (by omega), cc 0 (by omega), ← hT, up_ne (by omega)]
    show (-1 : Int32) = C2.1 0 11
    rw [k3 0 (by omega), up_at]
  · show ¬ U1.2.2 0 1 = U1.2.2 0 2
    rw [u2.1, u2.2]
    exact fun z => a2 z.symm
  · show Pr (U1.2.2 0 1) U1 U2
    rw [u2.1]
    unfold Pr
    rw [v1 0 (by omega), v1 1 (by omega), v1 2 (by omega), u1 d (by omega), u1 (d + 1) (by omega), u1 (d + 4) (by omega), u1 (d + 5) (by omega), r1 d (by omega), r1 (d + 1) (by omega), r1 (d + 4) (by omega), r1 (d + 5) (by omega)]
    refine ⟨⟨d1, d2, d3⟩, ⟨d5, d6, d7⟩, fun p hp => ?_, fun p h7 hp => ?_, fun p hp => ?_, fun p hp => ?_⟩
    · rw [v1 (3 + p) (by omega)]
      exact (d8 p hp).1
    · rw [v1 (3 + p) (by omega)]
      exact (d9 p h7 hp).1
    · rw [v1 (25 + p) (by omega)]
      exact d10 p hp
    · rw [v1 (31 + p) (by omega)]
      exact d11 p hp
  · show U1.1 151 0 = U2.1 7 0
    rw [u129.2.2.2.1, n70]
  · show U1.1 157 0 = U2.1 7 1
    rw [u129.2.2.2.2, n71]
/-- promise 3 -/
theorem st_parish (h : RA S1 S2) (hJ : JC S1) : (F_X9_parish S1).1 = (F_X10_parish S2).1 ∧ RA (F_X9_parish S1).2 (F_X10_parish S2).2 := by
  have hd := pa_in (JRC_2 hJ)
  have hn : pz_p (S1.1 1 0) := JIC_fld hJ rfl tbC_0 (by decide)
  have ht : ∀ j : Nat, j < 240 → 0 ≤ (S1.1 2 j).toInt := fun j hj => (JIC_fld (j := j) hJ rfl tbC_2 ⟨by omega, by omega⟩).1
  rw [F_X9_parish]
  rcases parse (a := S1.2.2 0 2) (by omega) h.1.1 h.1.2.1 hn ht with ⟨C1, C2, c', m', q', b', s', g', v', w', e1, e2, D, hB⟩ | ⟨C1, C2, k, c', m', q', b', s', g', v', e1, e2, hk, hB⟩
  · rw [e1, e2]
    exact pa_ok h hJ hB D
  · rw [e1, e2]
    show (F_X9_parish_c11 0 (rd (mm_up C1 1 0 0) k b' c' m')).1 = _ ∧ RA (F_X9_parish_c11 0 (rd (mm_up C1 1 0 0) k b' c' m')).2 _
    rw [F_X9_parish_c11, if_pos (show (0 : Int32) = 0 from rfl), rd_1]
    exact ⟨rfl, pa_bad h hJ hB⟩
end ST2
/-! ===== the start told exactly; orders with its frame ===== -/
def SM1 (S : mm_S) : Prop := S = F_X10_begins (F_X10_blank1 SM0)
set_option maxRecDepth 100000 in
set_option maxHeartbeats 8000000 in
theorem k_modelx {g : mm_G} : mcn g yX10_init cX10_init 1 (mn_rm 2 12 1988) [.ref 0] [.inl (10, df10)] (qv shM (fun S => JM S ∧ SM1 S)) := by
  refine mcn_of (own := RX10) (by decide) (Nat.le_of_ble_eq_true rfl) rfl rfl rfl ?_
  show mn (mn_f g 1) _ _ _ _ _ _ _ _ 0 0 ([] ++ [.inl (10, df10)]) 0 [(0, .ref 0)] []
  refine mn_aload_n dX10_init_0 rfl 0 rfl ?_
  refine mn_objInit dX10_init_1 ko_RX10 kc_O1 kc_O2 (by omega) ⟨Nat.le_of_ble_eq_true rfl, Nat.le_of_ble_eq_true rfl⟩ ?_
  refine mn_aload_n dX10_init_4 rfl 0 rfl ?_
  refine mn_bipush (v := 37) dX10_init_5 (by decide) ?_
  refine mp_newi (j := 1) (b := 0) (t' := [.inl (10, [.null, .null, .null, .null, .null, .int 0, .null, .null, .long 0, .null, .int 0, .int 0, .null, .int 0, .null, .int 0, .null, .int 0, .int 0, .int 0, .int 0, .int 0, .int 0, .int 0, .null]), .inr (0, 37, .inl (fun _ => 0))]) rfl dX10_init_7 rfl rfl (Nat.le_of_ble_eq_true rfl) (by decide) rfl (by omega) (by omega) ⟨Nat.le_of_ble_eq_true rfl, Nat.le_of_ble_eq_true rfl⟩ ?_
  refine mp_putF (i := 0) (b := 0) (t' := [.inl (10, [.ref 1, .null, .null, .null, .null, .int 0, .null, .null, .long 0, .null, .int 0, .int 0, .null, .int 0, .null, .int 0, .null, .int 0, .int 0, .int 0, .int 0, .int 0, .int 0, .int 0, .null]), .inr (0, 37, .inl (fun _ => 0))]) rfl rfl dX10_init_9 rfl rfl rfl (by decide) gX10_7 rfl rfl rfl rfl rfl (Nat.le_of_ble_eq_true rfl) rfl ?_
  refine mn_aload_n dX10_init_12 rfl 0 rfl ?_
  refine mn_bipush (v := 37) dX10_init_13 (by decide) ?_
  refine mp_newi (j := 2) (b := 0) (t' := [.inl (10, [.ref 1, .null, .null, .null, .null, .int 0, .null, .null, .long 0, .null, .int 0, .int 0, .null, .int 0, .null, .int 0, .null, .int 0, .int 0, .int 0, .int 0, .int 0, .int 0, .int 0, .null]), .inr (0, 37, .inl (fun _ => 0)), .inr (0, 37, .inl (fun _ => 0))]) rfl dX10_init_15 rfl rfl (Nat.le_of_ble_eq_true rfl) (by decide) rfl (by omega) (by omega) ⟨Nat.le_of_ble_eq_true rfl, Nat.le_of_ble_eq_true rfl⟩ ?_
  refine mp_putF (i := 0) (b := 0) (t' := [.inl (10, [.ref 1, .ref 2, .null, .null, .null, .int 0, .null, .null, .long 0, .null, .int 0, .int 0, .null, .int 0, .null, .int 0, .null, .int 0, .int 0, .int 0, .int 0, .int 0, .int 0, .int 0, .null]), .inr (0, 37, .inl (fun _ => 0)), .inr (0, 37, .inl (fun _ => 0))]) rfl rfl dX10_init_17 rfl rfl rfl (by decide) gX10_13 rfl rfl rfl rfl rfl (Nat.le_of_ble_eq_true rfl) rfl ?_
  refine mn_aload_n dX10_init_20 rfl 0 rfl ?_
  refine mn_bipush (v := 30) dX10_init_21 (by decide) ?_
  refine mp_newi (j := 3) (b := 0) (t' := [.inl (10, [.ref 1, .ref 2, .null, .null, .null, .int 0, .null, .null, .long 0, .null, .int 0, .int 0, .null, .int 0, .null, .int 0, .null, .int 0, .int 0, .int 0, .int 0, .int 0, .int 0, .int 0, .null]), .inr (0, 37, .inl (fun _ => 0)), .inr (0, 37, .inl (fun _ => 0)), .inr (0, 30, .inl (fun _ => 0))]) rfl dX10_init_23 rfl rfl (Nat.le_of_ble_eq_true rfl) (by decide) rfl (by omega) (by omega) ⟨Nat.le_of_ble_eq_true rfl, Nat.le_of_ble_eq_true rfl⟩ ?_
  refine mp_putF (i := 0) (b := 0) (t' := [.inl (10, [.ref 1, .ref 2, .ref 3, .null, .null, .int 0, .null, .null, .long 0, .null, .int 0, .int 0, .null, .int 0, .null, .int 0, .null, .int 0, .int 0, .int 0, .int 0, .int 0, .int 0, .int 0, .null]), .inr (0, 37, .inl (fun _ => 0)), .inr (0, 37, .inl (fun _ => 0)), .inr (0, 30, .inl (fun _ => 0))]) rfl rfl dX10_init_25 rfl rfl rfl (by decide) gX10_16 rfl rfl rfl rfl rfl (Nat.le_of_ble_eq_true rfl) rfl ?_
  refine mn_aload_n dX10_init_28 rfl 0 rfl ?_
  refine mn_bipush (v := 30) dX10_init_29 (by decide) ?_
  refine mp_newi (j := 4) (b := 0) (t' := [.inl (10, [.ref 1, .ref 2, .ref 3, .null, .null, .int 0, .null, .null, .long 0, .null, .int 0, .int 0, .null, .int 0, .null, .int 0, .null, .int 0, .int 0, .int 0, .int 0, .int 0, .int 0, .int 0, .null]), .inr (0, 37, .inl (fun _ => 0)), .inr (0, 37, .inl (fun _ => 0)), .inr (0, 30, .inl (fun _ => 0)), .inr (0, 30, .inl (fun _ => 0))]) rfl dX10_init_31 rfl rfl (Nat.le_of_ble_eq_true rfl) (by decide) rfl (by omega) (by omega) ⟨Nat.le_of_ble_eq_true rfl, Nat.le_of_ble_eq_true rfl⟩ ?_
  refine mp_putF (i := 0) (b := 0) (t' := [.inl (10, [.ref 1, .ref 2, .ref 3, .ref 4, .null, .int 0, .null, .null, .long 0, .null, .int 0, .int 0, .null, .int 0, .null, .int 0, .null, .int 0, .int 0, .int 0, .int 0, .int 0, .int 0, .int 0, .null]), .inr (0, 37, .inl (fun _ => 0)), .inr (0, 37, .inl (fun _ => 0)), .inr (0, 30, .inl (fun _ => 0)), .inr (0, 30, .inl (fun _ => 0))]) rfl rfl dX10_init_33 rfl rfl rfl (by decide) gX10_19 rfl rfl rfl rfl rfl (Nat.le_of_ble_eq_true rfl) rfl ?_
  refine mn_aload_n dX10_init_36 rfl 0 rfl ?_
  refine mn_sipush (v := 600) dX10_init_37 (by decide) ?_
  refine mp_newi (j := 5) (b := 0) (t' := [.inl (10, [.ref 1, .ref 2, .ref 3, .ref 4, .null, .int 0, .null, .null, .long 0, .null, .int 0, .int 0, .null, .int 0, .null, .int 0, .null, .int 0, .int 0, .int 0, .int 0, .int 0, .int 0, .int 0, .null]), .inr (0, 37, .inl (fun _ => 0)), .inr (0, 37, .inl (fun _ => 0)), .inr (0, 30, .inl (fun _ => 0)), .inr (0, 30, .inl (fun _ => 0)), .inr (0, 600, .inl (fun _ => 0))]) rfl dX10_init_40 rfl rfl (Nat.le_of_ble_eq_true rfl) (by decide) rfl (by omega) (by omega) ⟨Nat.le_of_ble_eq_true rfl, Nat.le_of_ble_eq_true rfl⟩ ?_
  refine mp_putF (i := 0) (b := 0) (t' := [.inl (10, [.ref 1, .ref 2, .ref 3, .ref 4, .ref 5, .int 0, .null, .null, .long 0, .null, .int 0, .int 0, .null, .int 0, .null, .int 0, .null, .int 0, .int 0, .int 0, .int 0, .int 0, .int 0, .int 0, .null]), .inr (0, 37, .inl (fun _ => 0)), .inr (0, 37, .inl (fun _ => 0)), .inr (0, 30, .inl (fun _ => 0)), .inr (0, 30, .inl (fun _ => 0)), .inr (0, 600, .inl (fun _ => 0))]) rfl rfl dX10_init_42 rfl rfl rfl (by decide) gX10_22 rfl rfl rfl rfl rfl (Nat.le_of_ble_eq_true rfl) rfl ?_
  refine mn_aload_n dX10_init_45 rfl 0 rfl ?_
  refine mn_bipush (v := 62) dX10_init_46 (by decide) ?_
  refine mp_newi (j := 6) (b := 0) (t' := [.inl (10, [.ref 1, .ref 2, .ref 3, .ref 4, .ref 5, .int 0, .null, .null, .long 0, .null, .int 0, .int 0, .null, .int 0, .null, .int 0, .null, .int 0, .int 0, .int 0, .int 0, .int 0, .int 0, .int 0, .null]), .inr (0, 37, .inl (fun _ => 0)), .inr (0, 37, .inl (fun _ => 0)), .inr (0, 30, .inl (fun _ => 0)), .inr (0, 30, .inl (fun _ => 0)), .inr (0, 600, .inl (fun _ => 0)), .inr (0, 62, .inl (fun _ => 0))]) rfl dX10_init_48 rfl rfl (Nat.le_of_ble_eq_true rfl) (by decide) rfl (by omega) (by omega) ⟨Nat.le_of_ble_eq_true rfl, Nat.le_of_ble_eq_true rfl⟩ ?_
  refine mp_putF (i := 0) (b := 0) (t' := [.inl (10, [.ref 1, .ref 2, .ref 3, .ref 4, .ref 5, .int 0, .ref 6, .null, .long 0, .null, .int 0, .int 0, .null, .int 0, .null, .int 0, .null, .int 0, .int 0, .int 0, .int 0, .int 0, .int 0, .int 0, .null]), .inr (0, 37, .inl (fun _ => 0)), .inr (0, 37, .inl (fun _ => 0)), .inr (0, 30, .inl (fun _ => 0)), .inr (0, 30, .inl (fun _ => 0)), .inr (0, 600, .inl (fun _ => 0)), .inr (0, 62, .inl (fun _ => 0))]) rfl rfl dX10_init_50 rfl rfl rfl (by decide) gX10_25 rfl rfl rfl rfl rfl (Nat.le_of_ble_eq_true rfl) rfl ?_
  refine mn_aload_n dX10_init_53 rfl 0 rfl ?_
  refine mn_iconst (v := 2) dX10_init_54 (by decide) ?_
  refine mp_newz (j := 7) (b := 0) (t' := [.inl (10, [.ref 1, .ref 2, .ref 3, .ref 4, .ref 5, .int 0, .ref 6, .null, .long 0, .null, .int 0, .int 0, .null, .int 0, .null, .int 0, .null, .int 0, .int 0, .int 0, .int 0, .int 0, .int 0, .int 0, .null]), .inr (0, 37, .inl (fun _ => 0)), .inr (0, 37, .inl (fun _ => 0)), .inr (0, 30, .inl (fun _ => 0)), .inr (0, 30, .inl (fun _ => 0)), .inr (0, 600, .inl (fun _ => 0)), .inr (0, 62, .inl (fun _ => 0)), .inr (1, 2, .inl (fun _ => 0))]) rfl dX10_init_55 rfl rfl (Nat.le_of_ble_eq_true rfl) (by decide) rfl (by omega) (by omega) ⟨Nat.le_of_ble_eq_true rfl, Nat.le_of_ble_eq_true rfl⟩ ?_
  refine mp_putF (i := 0) (b := 0) (t' := [.inl (10, [.ref 1, .ref 2, .ref 3, .ref 4, .ref 5, .int 0, .ref 6, .ref 7, .long 0, .null, .int 0, .int 0, .null, .int 0, .null, .int 0, .null, .int 0, .int 0, .int 0, .int 0, .int 0, .int 0, .int 0, .null]), .inr (0, 37, .inl (fun _ => 0)), .inr (0, 37, .inl (fun _ => 0)), .inr (0, 30, .inl (fun _ => 0)), .inr (0, 30, .inl (fun _ => 0)), .inr (0, 600, .inl (fun _ => 0)), .inr (0, 62, .inl (fun _ => 0)), .inr (1, 2, .inl (fun _ => 0))]) rfl rfl dX10_init_57 rfl rfl rfl (by decide) gX10_28 rfl rfl rfl rfl rfl (Nat.le_of_ble_eq_true rfl) rfl ?_
  refine mn_aload_n dX10_init_60 rfl 0 rfl ?_
  refine mn_sipush (v := 240) dX10_init_61 (by decide) ?_
  refine mp_newi (j := 8) (b := 0) (t' := [.inl (10, [.ref 1, .ref 2, .ref 3, .ref 4, .ref 5, .int 0, .ref 6, .ref 7, .long 0, .null, .int 0, .int 0, .null, .int 0, .null, .int 0, .null, .int 0, .int 0, .int 0, .int 0, .int 0, .int 0, .int 0, .null]), .inr (0, 37, .inl (fun _ => 0)), .inr (0, 37, .inl (fun _ => 0)), .inr (0, 30, .inl (fun _ => 0)), .inr (0, 30, .inl (fun _ => 0)), .inr (0, 600, .inl (fun _ => 0)), .inr (0, 62, .inl (fun _ => 0)), .inr (1, 2, .inl (fun _ => 0)), .inr (0, 240, .inl (fun _ => 0))]) rfl dX10_init_64 rfl rfl (Nat.le_of_ble_eq_true rfl) (by decide) rfl (by omega) (by omega) ⟨Nat.le_of_ble_eq_true rfl, Nat.le_of_ble_eq_true rfl⟩ ?_
  refine mp_putF (i := 0) (b := 0) (t' := [.inl (10, [.ref 1, .ref 2, .ref 3, .ref 4, .ref 5, .int 0, .ref 6, .ref 7, .long 0, .ref 8, .int 0, .int 0, .null, .int 0, .null, .int 0, .null, .int 0, .int 0, .int 0, .int 0, .int 0, .int 0, .int 0, .null]), .inr (0, 37, .inl (fun _ => 0)), .inr (0, 37, .inl (fun _ => 0)), .inr (0, 30, .inl (fun _ => 0)), .inr (0, 30, .inl (fun _ => 0)), .inr (0, 600, .inl (fun _ => 0)), .inr (0, 62, .inl (fun _ => 0)), .inr (1, 2, .inl (fun _ => 0)), .inr (0, 240, .inl (fun _ => 0))]) rfl rfl dX10_init_66 rfl rfl rfl (by decide) gX10_32 rfl rfl rfl rfl rfl (Nat.le_of_ble_eq_true rfl) rfl ?_
  refine mn_aload_n dX10_init_69 rfl 0 rfl ?_
  refine mn_iconst (v := -1) dX10_init_70 (by decide) ?_
  refine mp_put (i := 0) (b := 0) (t' := [.inl (10, [.ref 1, .ref 2, .ref 3, .ref 4, .ref 5, .int 0, .ref 6, .ref 7, .long 0, .ref 8, .int 0, .int (-1), .null, .int 0, .null, .int 0, .null, .int 0, .int 0, .int 0, .int 0, .int 0, .int 0, .int 0, .null]), .inr (0, 37, .inl (fun _ => 0)), .inr (0, 37, .inl (fun _ => 0)), .inr (0, 30, .inl (fun _ => 0)), .inr (0, 30, .inl (fun _ => 0)), .inr (0, 600, .inl (fun _ => 0)), .inr (0, 62, .inl (fun _ => 0)), .inr (1, 2, .inl (fun _ => 0)), .inr (0, 240, .inl (fun _ => 0))]) rfl dX10_init_71 rfl rfl rfl (by decide) gX10_35 rfl rfl rfl rfl (Nat.le_of_ble_eq_true rfl) rfl ?_
  refine mn_aload_n dX10_init_74 rfl 0 rfl ?_
  refine mn_bipush (v := 12) dX10_init_75 (by decide) ?_
  refine mp_newi (j := 9) (b := 0) (t' := [.inl (10, [.ref 1, .ref 2, .ref 3, .ref 4, .ref 5, .int 0, .ref 6, .ref 7, .long 0, .ref 8, .int 0, .int (-1), .null, .int 0, .null, .int 0, .null, .int 0, .int 0, .int 0, .int 0, .int 0, .int 0, .int 0, .null]), .inr (0, 37, .inl (fun _ => 0)), .inr (0, 37, .inl (fun _ => 0)), .inr (0, 30, .inl (fun _ => 0)), .inr (0, 30, .inl (fun _ => 0)), .inr (0, 600, .inl (fun _ => 0)), .inr (0, 62, .inl (fun _ => 0)), .inr (1, 2, .inl (fun _ => 0)), .inr (0, 240, .inl (fun _ => 0)), .inr (0, 12, .inl (fun _ => 0))]) rfl dX10_init_77 rfl rfl (Nat.le_of_ble_eq_true rfl) (by decide) rfl (by omega) (by omega) ⟨Nat.le_of_ble_eq_true rfl, Nat.le_of_ble_eq_true rfl⟩ ?_
  refine mp_putF (i := 0) (b := 0) (t' := [.inl (10, [.ref 1, .ref 2, .ref 3, .ref 4, .ref 5, .int 0, .ref 6, .ref 7, .long 0, .ref 8, .int 0, .int (-1), .ref 9, .int 0, .null, .int 0, .null, .int 0, .int 0, .int 0, .int 0, .int 0, .int 0, .int 0, .null]), .inr (0, 37, .inl (fun _ => 0)), .inr (0, 37, .inl (fun _ => 0)), .inr (0, 30, .inl (fun _ => 0)), .inr (0, 30, .inl (fun _ => 0)), .inr (0, 600, .inl (fun _ => 0)), .inr (0, 62, .inl (fun _ => 0)), .inr (1, 2, .inl (fun _ => 0)), .inr (0, 240, .inl (fun _ => 0)), .inr (0, 12, .inl (fun _ => 0))]) rfl rfl dX10_init_79 rfl rfl rfl (by decide) gX10_39 rfl rfl rfl rfl rfl (Nat.le_of_ble_eq_true rfl) rfl ?_
  refine mn_aload_n dX10_init_82 rfl 0 rfl ?_
  refine mn_bipush (v := 12) dX10_init_83 (by decide) ?_
  refine mp_newi (j := 10) (b := 0) (t' := [.inl (10, [.ref 1, .ref 2, .ref 3, .ref 4, .ref 5, .int 0, .ref 6, .ref 7, .long 0, .ref 8, .int 0, .int (-1), .ref 9, .int 0, .null, .int 0, .null, .int 0, .int 0, .int 0, .int 0, .int 0, .int 0, .int 0, .null]), .inr (0, 37, .inl (fun _ => 0)), .inr (0, 37, .inl (fun _ => 0)), .inr (0, 30, .inl (fun _ => 0)), .inr (0, 30, .inl (fun _ => 0)), .inr (0, 600, .inl (fun _ => 0)), .inr (0, 62, .inl (fun _ => 0)), .inr (1, 2, .inl (fun _ => 0)), .inr (0, 240, .inl (fun _ => 0)), .inr (0, 12, .inl (fun _ => 0)), .inr (0, 12, .inl (fun _ => 0))]) rfl dX10_init_85 rfl rfl (Nat.le_of_ble_eq_true rfl) (by decide) rfl (by omega) (by omega) ⟨Nat.le_of_ble_eq_true rfl, Nat.le_of_ble_eq_true rfl⟩ ?_
  refine mp_putF (i := 0) (b := 0) (t' := [.inl (10, [.ref 1, .ref 2, .ref 3, .ref 4, .ref 5, .int 0, .ref 6, .ref 7, .long 0, .ref 8, .int 0, .int (-1), .ref 9, .int 0, .ref 10, .int 0, .null, .int 0, .int 0, .int 0, .int 0, .int 0, .int 0, .int 0, .null]), .inr (0, 37, .inl (fun _ => 0)), .inr (0, 37, .inl (fun _ => 0)), .inr (0, 30, .inl (fun _ => 0)), .inr (0, 30, .inl (fun _ => 0)), .inr (0, 600, .inl (fun _ => 0)), .inr (0, 62, .inl (fun _ => 0)), .inr (1, 2, .inl (fun _ => 0)), .inr (0, 240, .inl (fun _ => 0)), .inr (0, 12, .inl (fun _ => 0)), .inr (0, 12, .inl (fun _ => 0))]) rfl rfl dX10_init_87 rfl rfl rfl (by decide) gX10_42 rfl rfl rfl rfl rfl (Nat.le_of_ble_eq_true rfl) rfl ?_
  refine mn_aload_n dX10_init_90 rfl 0 rfl ?_
  refine mn_bipush (v := 30) dX10_init_91 (by decide) ?_
  refine mp_newi (j := 11) (b := 0) (t' := [.inl (10, [.ref 1, .ref 2, .ref 3, .ref 4, .ref 5, .int 0, .ref 6, .ref 7, .long 0, .ref 8, .int 0, .int (-1), .ref 9, .int 0, .ref 10, .int 0, .null, .int 0, .int 0, .int 0, .int 0, .int 0, .int 0, .int 0, .null]), .inr (0, 37, .inl (fun _ => 0)), .inr (0, 37, .inl (fun _ => 0)), .inr (0, 30, .inl (fun _ => 0)), .inr (0, 30, .inl (fun _ => 0)), .inr (0, 600, .inl (fun _ => 0)), .inr (0, 62, .inl (fun _ => 0)), .inr (1, 2, .inl (fun _ => 0)), .inr (0, 240, .inl (fun _ => 0)), .inr (0, 12, .inl (fun _ => 0)), .inr (0, 12, .inl (fun _ => 0)), .inr (0, 30, .inl (fun _ => 0))]) rfl dX10_init_93 rfl rfl (Nat.le_of_ble_eq_true rfl) (by decide) rfl (by omega) (by omega) ⟨Nat.le_of_ble_eq_true rfl, Nat.le_of_ble_eq_true rfl⟩ ?_
  refine mp_putF (i := 0) (b := 0) (t' := [.inl (10, [.ref 1, .ref 2, .ref 3, .ref 4, .ref 5, .int 0, .ref 6, .ref 7, .long 0, .ref 8, .int 0, .int (-1), .ref 9, .int 0, .ref 10, .int 0, .ref 11, .int 0, .int 0, .int 0, .int 0, .int 0, .int 0, .int 0, .null]), .inr (0, 37, .inl (fun _ => 0)), .inr (0, 37, .inl (fun _ => 0)), .inr (0, 30, .inl (fun _ => 0)), .inr (0, 30, .inl (fun _ => 0)), .inr (0, 600, .inl (fun _ => 0)), .inr (0, 62, .inl (fun _ => 0)), .inr (1, 2, .inl (fun _ => 0)), .inr (0, 240, .inl (fun _ => 0)), .inr (0, 12, .inl (fun _ => 0)), .inr (0, 12, .inl (fun _ => 0)), .inr (0, 30, .inl (fun _ => 0))]) rfl rfl dX10_init_95 rfl rfl rfl (by decide) gX10_45 rfl rfl rfl rfl rfl (Nat.le_of_ble_eq_true rfl) rfl ?_
  refine mn_aload_n dX10_init_98 rfl 0 rfl ?_
  refine mn_sipush (v := 896) dX10_init_99 (by decide) ?_
  refine mp_newi (j := 12) (b := 0) (t' := [.inl (10, [.ref 1, .ref 2, .ref 3, .ref 4, .ref 5, .int 0, .ref 6, .ref 7, .long 0, .ref 8, .int 0, .int (-1), .ref 9, .int 0, .ref 10, .int 0, .ref 11, .int 0, .int 0, .int 0, .int 0, .int 0, .int 0, .int 0, .null]), .inr (0, 37, .inl (fun _ => 0)), .inr (0, 37, .inl (fun _ => 0)), .inr (0, 30, .inl (fun _ => 0)), .inr (0, 30, .inl (fun _ => 0)), .inr (0, 600, .inl (fun _ => 0)), .inr (0, 62, .inl (fun _ => 0)), .inr (1, 2, .inl (fun _ => 0)), .inr (0, 240, .inl (fun _ => 0)), .inr (0, 12, .inl (fun _ => 0)), .inr (0, 12, .inl (fun _ => 0)), .inr (0, 30, .inl (fun _ => 0)), .inr (0, 896, .inl (fun _ => 0))]) rfl dX10_init_102 rfl rfl (Nat.le_of_ble_eq_true rfl) (by decide) rfl (by omega) (by omega) ⟨Nat.le_of_ble_eq_true rfl, Nat.le_of_ble_eq_true rfl⟩ ?_
  refine mp_putF (i := 0) (b := 0) (t' := [.inl (10, [.ref 1, .ref 2, .ref 3, .ref 4, .ref 5, .int 0, .ref 6, .ref 7, .long 0, .ref 8, .int 0, .int (-1), .ref 9, .int 0, .ref 10, .int 0, .ref 11, .int 0, .int 0, .int 0, .int 0, .int 0, .int 0, .int 0, .ref 12]), .inr (0, 37, .inl (fun _ => 0)), .inr (0, 37, .inl (fun _ => 0)), .inr (0, 30, .inl (fun _ => 0)), .inr (0, 30, .inl (fun _ => 0)), .inr (0, 600, .inl (fun _ => 0)), .inr (0, 62, .inl (fun _ => 0)), .inr (1, 2, .inl (fun _ => 0)), .inr (0, 240, .inl (fun _ => 0)), .inr (0, 12, .inl (fun _ => 0)), .inr (0, 12, .inl (fun _ => 0)), .inr (0, 30, .inl (fun _ => 0)), .inr (0, 896, .inl (fun _ => 0))]) rfl rfl dX10_init_104 rfl rfl rfl (by decide) gX10_48 rfl rfl rfl rfl rfl (Nat.le_of_ble_eq_true rfl) rfl ?_
  rw [k_model0]
  refine mn_aload_n dX10_init_107 rfl 0 rfl ?_
  refine mn_get dX10_init_108 (mm_enc_get shM_0) rfl (by decide) gX10_7 rfl ?_
  refine mn_callS (as := [.ref 1]) (st := []) dX10_init_111 rfl mX10_51 t_X10_blank rfl (Nat.le_of_ble_eq_true rfl) ⟨Nat.le_of_ble_eq_true rfl, Nat.le_of_ble_eq_true rfl⟩ ⟨Nat.le_of_ble_eq_true rfl, Nat.le_of_ble_eq_true rfl⟩ (cx_X10_blank1 (g := g) SM0 JM0) (fun r w1 hq => ?_)
  obtain ⟨S1, rfl, rfl, h1, -, -, e1⟩ := hq
  refine mn_aload_n dX10_init_114 rfl 0 rfl ?_
  refine mn_callV (as := []) (st := []) dX10_init_115 rfl (mm_enc_get shM_0) rfl rfl mX10_55 t_X10_begins rfl (Nat.le_of_ble_eq_true rfl) ⟨Nat.le_of_ble_eq_true rfl, Nat.le_of_ble_eq_true rfl⟩ ⟨Nat.le_of_ble_eq_true rfl, Nat.le_of_ble_eq_true rfl⟩ (cx_X10_begins (g := g) S1 h1) (fun r w1 hq => ?_)
  obtain ⟨S2, rfl, rfl, h2, -, -, e2⟩ := hq
  exact mn_vret rfl dX10_init_118 rfl rfl ⟨S2, rfl, rfl, h2, by rw [SM1, ← e2, ← e1]⟩
theorem k_class1x {g : mm_G} : mcn g yX9_init cX9_init 2 (mn_rm 3 162 2193) [.ref 0] [.inl (9, df9)] (qv shC (fun S => JC S ∧ S = SC0)) := mcn_wk (k_class (g := g) [] 0 rfl (by decide)) (fun r w ⟨h1, h2⟩ => ⟨SC0, h1, h2.trans k_class0, JC0, rfl⟩)
theorem fr_up {wr wf wr2 wf2 : List Nat} {k k2 m m2 : Bool} {S S2 : mm_S} (h2 : fr wr2 wf2 k2 m2 S S2) (hw : ∀ a ∈ wr2, a ∈ wr) (hf : ∀ a ∈ wf2, a ∈ wf) (hk : k = true → k2 = true) (hm : m = true → m2 = true) : fr wr wf k m S S2 := fr_tr fr_rf h2 hw hf hk hm
theorem c_X10_ordersf {g : mm_G} (S : mm_S) (hI : JM S) (x1 x2 : Int32) : mc g yX10_orders cX10_orders 8 (some .int) (mm_rm 5) [.ref 0, .int x1, .int x2] (mm_enc shM S) (qi shM (fun S1 v => JM S1 ∧ fr [4] [] true true S S1 ∧ True)) := by
  have h := bd_all x1
  by_cases a : x1.toInt ≤ -1
  · exact mc_wk (c_X10_orders_a S hI x1 ⟨h.1, a⟩ x2) (fun _ _ ⟨S1, v, q1, q2, q3⟩ => ⟨S1, v, q1, q2, q3.1, fr_up q3.2.1 (by decide) (by decide) (by decide) (by decide), trivial⟩)
  by_cases a1 : x1.toInt ≤ 0
  · exact mc_wk (c_X10_orders_b S hI x1 ⟨by omega, a1⟩ x2) (fun _ _ ⟨S1, v, q1, q2, q3⟩ => ⟨S1, v, q1, q2, q3.1, q3.2.1, trivial⟩)
  by_cases a2 : x1.toInt ≤ 127
  · exact mc_wk (c_X10_orders_c S hI x1 ⟨by omega, a2⟩ x2) (fun _ _ ⟨S1, v, q1, q2, q3⟩ => ⟨S1, v, q1, q2, q3.1, q3.2.1, trivial⟩)
  · exact mc_wk (c_X10_orders_d S hI x1 ⟨by omega, h.2⟩ x2) (fun _ _ ⟨S1, v, q1, q2, q3⟩ => ⟨S1, v, q1, q2, q3.1, fr_up q3.2.1 (by decide) (by decide) (by decide) (by decide), trivial⟩)
section BQ
variable {S2 : mm_S}
def bkQ (R S : mm_S) (y : Int32) : Prop := (∀ b', b' ≠ 1 → R.1 b' = S.1 b') ∧ R.2 = S.2 ∧ (∀ i : Nat, (i : Int) < y.toInt → R.1 1 i = S.1 1 i) ∧ (∀ i : Nat, y.toInt ≤ i → i < 37 → R.1 1 i = if 3 ≤ i ∧ i ≤ 23 then 9 else 0)
theorem bq_s {R S : mm_S} {y v : Int32} (cy : (y.toNatClampNeg : Int) = y.toInt) (ty : (y + Int32.ofInt 1).toInt = y.toInt + 1) (hv : v = if 3 ≤ y.toNatClampNeg ∧ y.toNatClampNeg ≤ 23 then 9 else 0) (h : bkQ R (mm_up S 1 y.toNatClampNeg v) (y + Int32.ofInt 1)) : bkQ R S y := by
  obtain ⟨k1, k2, k3, k4⟩ := h
  refine ⟨fun b' hb => ?_, k2, fun i hi => ?_, fun i h1 h2 => ?_⟩
  · rw [k1 b' hb, up_row hb]
  · rw [k3 i (by omega), up_ne (by omega)]
  · by_cases hi : i = y.toNatClampNeg
    · rw [k3 i (by omega), hi, up_at, hv]
    · exact k4 i (by omega) h2
theorem bq_L : ∀ (N : Nat) (S : mm_S) (y : Int32), mm_b 0 37 y → (37 - y.toInt).toNat < N → bkQ (F_X10_blank1_L2 N S y) S y
  | 0, S, y, _, h => absurd h (Nat.not_lt_zero _)
  | N + 1, S, y, hy, h => by
    have cy := pz_cl (x := y) hy.1
    by_cases q : (37 : Int32) ≤ y
    · have q2 : (37 : Int) ≤ y.toInt := Int32.le_iff_toInt_le.mp q
      rw [F_X10_blank1_L2, if_pos q]
      exact ⟨fun _ _ => rfl, rfl, fun _ _ => rfl, fun i h1 h2 => by omega⟩
    · have q2 : y.toInt < 37 := Int32.lt_iff_toInt_lt.mp (bd_nle q)
      have ty : (y + Int32.ofInt 1).toInt = y.toInt + 1 := by rw [pz_of1]; exact pz_ti1 ⟨by omega, by omega⟩
      have eI : F_X10_in S y.toInt64 3 23 = if mm_b 3 23 y then 1 else 0 := m_in (lo := 3) (hi := 23)
      by_cases z : mm_b 3 23 y
      · rw [F_X10_blank1_L2, if_neg q, eI, if_pos z, if_neg one0]
        exact bq_s cy ty (by rw [if_pos ⟨by omega, by omega⟩]) (bq_L N _ _ ⟨by omega, by omega⟩ (by omega))
      · rw [F_X10_blank1_L2, if_neg q, eI, if_neg z, if_pos (show (0 : Int32) = 0 from rfl)]
        exact bq_s cy ty (by rw [if_neg (by omega)]) (bq_L N _ _ ⟨by omega, by omega⟩ (by omega))
theorem bq : (∀ b', b' ≠ 1 → (F_X10_blank1 S2).1 b' = S2.1 b') ∧ (F_X10_blank1 S2).2 = S2.2 ∧ (∀ i : Nat, i < 37 → (F_X10_blank1 S2).1 1 i = if 3 ≤ i ∧ i ≤ 23 then 9 else 0) := by
  obtain ⟨k1, k2, k3, k4⟩ : bkQ (F_X10_blank1 S2) S2 0 := bq_L 61 S2 0 (by decide) (by decide)
  exact ⟨k1, k2, fun i hi => k4 i (by show (0 : Int) ≤ i; omega) hi⟩
end BQ
theorem RA_0 : ∀ S, SM1 S → RA SC0 S := by
  intro S hS
  obtain ⟨⟨n1, -⟩, ⟨n0, -, n13, n15, n17⟩, ⟨n70, n71⟩, -, -⟩ := bg_m (S := F_X10_blank1 SM0)
  obtain ⟨k1, k2, k3⟩ := bq (S2 := SM0)
  rw [SM1] at hS
  rw [← hS] at n1 n0 n13 n15 n17 n70 n71
  have v1 : ∀ i, i < 37 → S.1 1 i = if 3 ≤ i ∧ i ≤ 23 then 9 else 0 := fun i hi => by rw [n1 1 (by omega) (by omega) (by omega), k3 i hi]
  have t0 : (0 : Int32).toInt = 0 := rfl
  have p0 : S.1 1 0 = 0 := v1 0 (by omega)
  have p1 : S.1 1 1 = 0 := v1 1 (by omega)
  have p2 : S.1 1 2 = 0 := v1 2 (by omega)
  refine RA_mk ⟨?_, ?_, ?_⟩ ⟨by decide, ⟨?_, ?_, ?_⟩, ⟨?_, ?_, ?_⟩, ?_, ?_, ?_, ?_⟩ ⟨?_, ?_⟩ (En_0 rfl n13) (En_0 rfl n15) (En_0 rfl n17)
  · rw [n0 10 (by omega) (by omega) (by omega) (by omega), k1 0 (by omega)]
    rfl
  · rw [n1 8 (by omega) (by omega) (by omega), k1 8 (by omega)]
    funext j
    rw [SC0_z 2 j (by omega), SM0_z 8 j (by omega)]
  · rw [n0 11 (by omega) (by omega) (by omega) (by omega), k1 0 (by omega)]
    rfl
  · rw [p0]; rfl
  · rw [p1]; rfl
  · rw [p2]; rfl
  · rw [p0]; decide
  · rw [p1]; decide
  · rw [p2]; decide
  · intro p hp
    rw [p0] at hp
    omega
  · intro p h7 hp
    rw [v1 (3 + p) (by omega), if_pos (by omega)]
  · intro p hp
    rw [p1] at hp
    omega
  · intro p hp
    rw [p2] at hp
    omega
  · rw [n70]; rfl
  · rw [n71]; rfl
theorem st_of {R : mm_S → mm_S → Prop} {A B : Int32 × mm_S} {v1 v2 : Int32} {U1 U2 : mm_S} (e1 : A = (v1, U1)) (e2 : B = (v2, U2)) (h : A.1 = B.1 ∧ R A.2 B.2) : v1 = v2 ∧ R U1 U2 := by
  rw [e1, e2] at h
  exact h
