/-! ===== the past: the reference remembers; both together; undone ===== -/
section PS2
variable {P : Int32} {S S1 S2 U1 U2 : mm_S}
/-- the shift of the reference's past -/
theorem sh_L : ∀ (N k : Nat) (S : mm_S), k ≤ 570 → 570 - k < N → ∃ R : mm_S, F_X10_remember_L11 N S (nI k) = F_X10_remember_L11tu67 (mm_up R 0 5 (R.1 0 5 - 1)) (30 * (R.1 0 5 - 1)) (R.1 0 5 - 1) ∧ (∀ b, b ≠ 5 → R.1 b = S.1 b) ∧ R.2 = S.2 ∧ (∀ i, i < k → R.1 5 i = S.1 5 i) ∧ (∀ i, k ≤ i → i < 570 → R.1 5 i = S.1 5 (i + 30)) ∧ (∀ i, 570 ≤ i → R.1 5 i = S.1 5 i)
  | 0, k, S, _, hN => absurd hN (Nat.not_lt_zero _)
  | N + 1, k, S, hk, hN => by
    rw [F_X10_remember_L11]
    by_cases z : (570 : Int32) ≤ nI k
    · have z2 : 570 ≤ k := (nz_le (k := 570) (by omega) (by omega)).mp z
      rw [if_pos z]
      exact ⟨S, rfl, fun _ _ => rfl, rfl, fun _ _ => rfl, fun i h1 h2 => by omega, fun _ _ => rfl⟩
    · have z2 : k < 570 := by
        rcases Nat.lt_or_ge k 570 with q | q
        · exact q
        · exact absurd ((nz_le (k := 570) (by omega) (by omega)).mpr q) z
      have ck : (nI k).toNatClampNeg = k := by
        have e : (nI k).toInt = k := nI_toInt (by omega)
        show (nI k).toInt.toNat = k
        omega
      have ck30 : (nI k + 30).toNatClampNeg = k + 30 := by
        have e : (nI k).toInt = k := nI_toInt (by omega)
        have e2 : (nI k + 30).toInt = k + 30 := by
          rw [bd_ti_add (by rw [e]; show -2147483648 ≤ (k : Int) + 30; omega) (by rw [e]; show (k : Int) + 30 ≤ 2147483647; omega), e]
          rfl
        show (nI k + 30).toInt.toNat = k + 30
        omega
      have es : nI k + Int32.ofInt 1 = nI (k + 1) := by rw [pz_of1]; exact nz_1 (by omega)
      rw [if_neg z, ck, ck30, es]
      obtain ⟨R, e, r1, r2, r3, r4, r5⟩ := sh_L N (k + 1) (mm_up S 5 k (S.1 5 (k + 30))) (by omega) (by omega)
      refine ⟨R, e, fun b hb => by rw [r1 b hb, up_row hb], by rw [r2, up_2], fun i hi => ?_, fun i h1 h2 => ?_, fun i hi => ?_⟩
      · rw [r3 i (by omega), up_ne (by omega)]
      · by_cases q : i = k
        · rw [q, r3 k (by omega), up_at]
        · rw [r4 i (by omega) h2, up_ne (by omega)]
      · rw [r5 i hi, up_ne (by omega)]
theorem nz_sub1 {k : Nat} (h : k < 1000) : nI (k + 1) - 1 = nI k := by
  have e : (nI (k + 1)).toInt = ((k + 1 : Nat) : Int) := nI_toInt (by omega)
  have e1 : (1 : Int32).toInt = 1 := rfl
  exact Int32.toInt_inj.mp (by rw [bd_ti_sub (by omega) (by omega), e, e1, nI_toInt (by omega)]; omega)
theorem nz_mul {c k : Nat} (hc : c < 100) (h : k < 100) : (nI c * nI k).toNatClampNeg = c * k := by
  have e : (nI k).toInt = k := nI_toInt (by omega)
  have e2 : (nI c).toInt = c := nI_toInt (by omega)
  have hm : c * k ≤ 100 * 100 := Nat.mul_le_mul (by omega) (by omega)
  have hm2 : ((c * k : Nat) : Int) = (c : Int) * (k : Int) := by norm_cast
  have e3 : (nI c * nI k).toInt = ((c * k : Nat) : Int) := by rw [bd_ti_mul (by rw [e, e2]; omega) (by rw [e, e2]; omega), e, e2, hm2]
  show (nI c * nI k).toInt.toNat = c * k
  omega
/-- the reference remembers -/
theorem rmM {n : Nat} (hn : S2.1 0 5 = nI n) (n20 : n ≤ 20) : ∃ d : Nat, (d = if n = 20 then 1 else 0) ∧ ((∀ b, b ≠ 0 → b ≠ 5 → (F_X10_remember S2).1 b = S2.1 b) ∧ (∀ j, j ≠ 5 → (F_X10_remember S2).1 0 j = S2.1 0 j) ∧ (F_X10_remember S2).2 = S2.2) ∧ (F_X10_remember S2).1 0 5 = nI (n + 1 - d) ∧ (∀ k, k < n - d → ∀ i, i < 30 → (F_X10_remember S2).1 5 (30 * k + i) = S2.1 5 (30 * (k + d) + i)) ∧ (∀ i, i < 30 → (F_X10_remember S2).1 5 (30 * (n - d) + i) = S2.1 3 i) := by
  have c0 : (0 : Int32).toNatClampNeg = 0 := by decide
  have c30 : (30 : Int32).toNatClampNeg = 30 := by decide
  have cpf : ∀ (T : mm_S) (m : Nat), m < 100 → ∀ b i, (F_X10_copies_35 T 0 (30 * nI m) 30).1 b i = if b = 5 ∧ 30 * m ≤ i ∧ i < 30 * m + 30 then T.1 3 (i - 30 * m) else T.1 b i := fun T m hm b i => by
    have e : (30 * nI m : Int32).toNatClampNeg = 30 * m := nz_mul (c := 30) (by omega) hm
    show (if b = 5 ∧ (30 * nI m : Int32).toNatClampNeg ≤ i ∧ i < (30 * nI m : Int32).toNatClampNeg + (30 : Int32).toNatClampNeg then T.1 3 ((0 : Int32).toNatClampNeg + (i - (30 * nI m : Int32).toNatClampNeg)) else T.1 b i) = _
    rw [e, c0, c30, Nat.zero_add]
  have cp2 : ∀ (T : mm_S) (m : Nat), (F_X10_copies_35 T 0 (30 * nI m) 30).2 = T.2 := fun T m => rfl
  by_cases q : n = 20
  · refine ⟨1, by rw [if_pos q], ?_⟩
    subst q
    have z : S2.1 0 5 = 20 := hn
    obtain ⟨R, e, r1, r2, -, r4, -⟩ := sh_L 601 0 S2 (by omega) (by omega)
    have r05 : R.1 0 5 = nI 20 := by rw [r1 0 (by omega)]; exact hn
    have e19 : nI 20 - 1 = nI 19 := nz_sub1 (k := 19) (by omega)
    have ef : F_X10_remember S2 = mm_up (F_X10_copies_35 (mm_up R 0 5 (nI 19)) 0 (30 * nI 19) 30) 0 5 (nI 19 + 1) := by
      rw [F_X10_remember, if_pos z]
      show F_X10_remember_L11 601 S2 (nI 0) = _
      rw [e, r05, e19, F_X10_remember_L11tu67, F_X10_remember_tc70]
    rw [ef]
    refine ⟨⟨fun b h0 h5 => ?_, fun j hj => ?_, ?_⟩, ?_, fun k hk i hi => ?_, fun i hi => ?_⟩
    · rw [up_row h0]
      funext i
      rw [cpf _ _ (by omega), if_neg (fun y => h5 y.1), up_ne (by omega), r1 b h5]
    · rw [up_ne (by omega), cpf _ _ (by omega), if_neg (by omega), up_ne (by omega), r1 0 (by omega)]
    · rw [up_2, cp2, up_2, r2]
    · rw [up_at]
      exact nz_1 (by omega)
    · rw [up_ne (by omega), cpf _ _ (by omega), if_neg (by omega), up_ne (by omega), r4 (30 * k + i) (by omega) (by omega), show 30 * k + i + 30 = 30 * (k + 1) + i by omega]
    · rw [up_ne (by omega), cpf _ _ (by omega), if_pos (by omega), up_ne (by omega), r1 3 (by omega), show 30 * (20 - 1) + i - 30 * 19 = i by omega]
  · refine ⟨0, by rw [if_neg q], ?_⟩
    have z : ¬ S2.1 0 5 = 20 := fun y => q ((nz_inj (l := 20) (by omega) (by omega)).mp (hn.symm.trans y))
    have ef : F_X10_remember S2 = mm_up (F_X10_copies_35 S2 0 (30 * nI n) 30) 0 5 (nI n + 1) := by
      rw [F_X10_remember, if_neg z, hn, F_X10_remember_tc70]
    rw [ef]
    refine ⟨⟨fun b h0 h5 => ?_, fun j hj => ?_, ?_⟩, ?_, fun k hk i hi => ?_, fun i hi => ?_⟩
    · rw [up_row h0]
      funext i
      rw [cpf _ _ (by omega), if_neg (fun y => h5 y.1)]
    · rw [up_ne (by omega), cpf _ _ (by omega), if_neg (by omega)]
    · rw [up_2, cp2]
    · rw [up_at, nz_1 (by omega)]
      rfl
    · rw [up_ne (by omega), cpf _ _ (by omega), if_neg (by omega)]
      rfl
    · rw [up_ne (by omega), cpf _ _ (by omega), if_pos (by omega), show 30 * (n - 0) + i - 30 * n = i by omega]
/-- both remember -/
theorem rm_Pa (h : Fk15 P S1 S2) (w : Wf 3 P S2) (hp : Pa P S1 S2) : Pa P (F_X7_remember S1) (F_X10_remember S2) := by
  obtain ⟨n, x, hn, hx, hm, n20, x20, hk⟩ := hp
  obtain ⟨⟨a1, a2⟩, a3, a4, a5⟩ := rmC hn hx n20 x20
  obtain ⟨d, hd, ⟨b1, b2, b3⟩, b4, b5, b6⟩ := rmM hm n20
  have hdd : (n = 20 ∧ d = 1) ∨ (n < 20 ∧ d = 0) := by
    by_cases q : n = 20
    · exact Or.inl ⟨q, by rw [hd, if_pos q]⟩
    · exact Or.inr ⟨by omega, by rw [hd, if_neg q]⟩
  have hn' : (if 20 < n + 1 then 20 else n + 1) = n + 1 - d := by
    split <;> omega
  rw [hn'] at a4
  refine ⟨n + 1 - d, x % 20 + 1, a4, a3, b4, by omega, by omega, fun k hk2 => ?_⟩
  by_cases q : k < n - d
  · obtain ⟨f, wf⟩ := hk (k + d) (by omega)
    have ei : (x % 20 + 1 + 20 - (n + 1 - d) + k) % 20 = (x + 20 - n + (k + d)) % 20 := by omega
    rw [ei]
    have ne : (x + 20 - n + (k + d)) % 20 ≠ x % 20 := by omega
    have lt : (x + 20 - n + (k + d)) % 20 < 20 := Nat.mod_lt _ (by omega)
    generalize (x + 20 - n + (k + d)) % 20 = s at *
    have lx : x % 20 < 20 := Nat.mod_lt _ (by omega)
    generalize x % 20 = y at *
    exact ⟨FkO_mv f (fun b h1 h2 => a1 b (by omega) (by omega)) (fun i hi => b5 k q i hi), WfO_mv wf (fun i hi => b5 k q i hi)⟩
  · have ek : k = n - d := by omega
    have ei : (x % 20 + 1 + 20 - (n + 1 - d) + k) % 20 = x % 20 := by omega
    rw [ei, ek]
    exact ⟨FkO_in h (by omega) b6 a5, WfO_in w b6⟩
end PS2
