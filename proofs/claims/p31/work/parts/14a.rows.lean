/-! ===== the reader: writes and tokens, plainly ===== -/
theorem up_at {S : mm_S} {a j : Nat} {x : Int32} : (mm_up S a j x).1 a j = x := if_pos ⟨rfl, rfl⟩
theorem up_ne {S : mm_S} {a j b i : Nat} {x : Int32} (h : ¬ (b = a ∧ i = j)) : (mm_up S a j x).1 b i = S.1 b i := if_neg h
theorem up_row {S : mm_S} {a j b : Nat} {x : Int32} (h : b ≠ a) : (mm_up S a j x).1 b = S.1 b := funext fun _ => if_neg (fun q => h q.1)
/-! the class's reader: four fields over a base -/
def rd (S : mm_S) (k f a m : Int32) : mm_S := (fun b j => if b = 1 then (if j = 1 then k else if j = 2 then f else if j = 3 then a else if j = 4 then m else S.1 1 j) else S.1 b j, S.2)
section RD
variable {S : mm_S} {k f a m x : Int32}
theorem rd_1 : (rd S k f a m).1 1 1 = k := rfl
theorem rd_2 : (rd S k f a m).1 1 2 = f := rfl
theorem rd_3 : (rd S k f a m).1 1 3 = a := rfl
theorem rd_4 : (rd S k f a m).1 1 4 = m := rfl
theorem rd_0 : (rd S k f a m).1 1 0 = S.1 1 0 := rfl
theorem rd_row {b : Nat} (h : b ≠ 1) : (rd S k f a m).1 b = S.1 b := funext fun _ => if_neg h
theorem rd_up1 : mm_up (rd S k f a m) 1 1 x = rd S x f a m := by
  refine Prod.ext (funext fun b => funext fun j => ?_) rfl
  show (if b = 1 ∧ j = 1 then x else (rd S k f a m).1 b j) = (rd S x f a m).1 b j
  unfold rd
  dsimp only
  by_cases hb : b = 1
  · by_cases hj : j = 1
    · rw [if_pos ⟨hb, hj⟩, if_pos hb, if_pos hj]
    · rw [if_neg (fun q => hj q.2), if_pos hb, if_pos hb, if_neg hj, if_neg hj]
  · rw [if_neg (fun q => hb q.1), if_neg hb, if_neg hb]
theorem rd_up2 : mm_up (rd S k f a m) 1 2 x = rd S k x a m := by
  refine Prod.ext (funext fun b => funext fun j => ?_) rfl
  show (if b = 1 ∧ j = 2 then x else (rd S k f a m).1 b j) = (rd S k x a m).1 b j
  unfold rd
  dsimp only
  by_cases hb : b = 1
  · by_cases hj : j = 2
    · subst hb; subst hj; rfl
    · rw [if_neg (fun q => hj q.2), if_pos hb, if_pos hb, if_neg hj, if_neg hj]
  · rw [if_neg (fun q => hb q.1), if_neg hb, if_neg hb]
theorem rd_up3 : mm_up (rd S k f a m) 1 3 x = rd S k f x m := by
  refine Prod.ext (funext fun b => funext fun j => ?_) rfl
  show (if b = 1 ∧ j = 3 then x else (rd S k f a m).1 b j) = (rd S k f x m).1 b j
  unfold rd
  dsimp only
  by_cases hb : b = 1
  · by_cases hj : j = 3
    · subst hb; subst hj; rfl
    · rw [if_neg (fun q => hj q.2), if_pos hb, if_pos hb, if_neg hj, if_neg hj]
  · rw [if_neg (fun q => hb q.1), if_neg hb, if_neg hb]
theorem rd_up4 : mm_up (rd S k f a m) 1 4 x = rd S k f a x := by
  refine Prod.ext (funext fun b => funext fun j => ?_) rfl
  show (if b = 1 ∧ j = 4 then x else (rd S k f a m).1 b j) = (rd S k f a x).1 b j
  unfold rd
  dsimp only
  by_cases hb : b = 1
  · by_cases hj : j = 4
    · subst hb; subst hj; rfl
    · rw [if_neg (fun q => hj q.2), if_pos hb, if_pos hb, if_neg hj, if_neg hj]
  · rw [if_neg (fun q => hb q.1), if_neg hb, if_neg hb]
theorem rd_upo {b j : Nat} (h : b ≠ 1) : mm_up (rd S k f a m) b j x = rd (mm_up S b j x) k f a m := by
  refine Prod.ext (funext fun c => funext fun i => ?_) rfl
  show (if c = b ∧ i = j then x else (rd S k f a m).1 c i) = (rd (mm_up S b j x) k f a m).1 c i
  unfold rd
  dsimp only
  by_cases hc : c = 1
  · rw [if_neg (fun q => h (q.1.symm.trans hc)), if_pos hc, if_pos hc, up_row (fun q => h q.symm)]
  · rw [if_neg hc, if_neg hc]
    rfl
theorem rd_up0 : mm_up (rd S k f a m) 1 0 x = rd (mm_up S 1 0 x) k f a m := by
  refine Prod.ext (funext fun b => funext fun j => ?_) rfl
  show (if b = 1 ∧ j = 0 then x else (rd S k f a m).1 b j) = (rd (mm_up S 1 0 x) k f a m).1 b j
  unfold rd
  dsimp only
  by_cases hb : b = 1
  · by_cases hj : j = 0
    · subst hb; subst hj; rfl
    · rw [if_neg (fun q => hj q.2), if_pos hb, if_pos hb, up_ne (fun q => hj q.2)]
  · rw [if_neg (fun q => hb q.1), if_neg hb, if_neg hb, up_row hb]
theorem rd_eta : rd S (S.1 1 1) (S.1 1 2) (S.1 1 3) (S.1 1 4) = S := by
  refine Prod.ext (funext fun b => funext fun j => ?_) rfl
  unfold rd
  dsimp only
  by_cases hb : b = 1
  · rw [if_pos hb, hb]
    split
    · rename_i h; rw [h]
    · split
      · rename_i h; rw [h]
      · split
        · rename_i h; rw [h]
        · split
          · rename_i h; rw [h]
          · rfl
  · rw [if_neg hb]
end RD
/-! the reference's reader: six fields over a base -/
def td (S : mm_S) (p b s f v w : Int32) : mm_S := (fun x j => if x = 0 then (if j = 18 then p else if j = 19 then b else if j = 20 then s else if j = 21 then f else if j = 22 then v else if j = 23 then w else S.1 0 j) else S.1 x j, S.2)
section TDs
variable {S : mm_S} {p b s f v w x : Int32}
theorem td_18 : (td S p b s f v w).1 0 18 = p := rfl
theorem td_19 : (td S p b s f v w).1 0 19 = b := rfl
theorem td_20 : (td S p b s f v w).1 0 20 = s := rfl
theorem td_21 : (td S p b s f v w).1 0 21 = f := rfl
theorem td_22 : (td S p b s f v w).1 0 22 = v := rfl
theorem td_23 : (td S p b s f v w).1 0 23 = w := rfl
theorem td_2 : (td S p b s f v w).1 2 = S.1 2 := rfl
theorem td_row {c : Nat} (h : c ≠ 0) : (td S p b s f v w).1 c = S.1 c := funext fun _ => if_neg h
theorem td_upo {c j : Nat} (h : c ≠ 0) : mm_up (td S p b s f v w) c j x = td (mm_up S c j x) p b s f v w := by
  refine Prod.ext (funext fun d => funext fun i => ?_) rfl
  show (if d = c ∧ i = j then x else (td S p b s f v w).1 d i) = (td (mm_up S c j x) p b s f v w).1 d i
  unfold td
  dsimp only
  by_cases hd : d = 0
  · rw [if_neg (fun q => h (q.1.symm.trans hd)), if_pos hd, if_pos hd, up_row (fun q => h q.symm)]
  · rw [if_neg hd, if_neg hd]
    rfl
theorem td_eta : td S (S.1 0 18) (S.1 0 19) (S.1 0 20) (S.1 0 21) (S.1 0 22) (S.1 0 23) = S := by
  refine Prod.ext (funext fun c => funext fun j => ?_) rfl
  unfold td
  dsimp only
  by_cases hc : c = 0
  · rw [if_pos hc, hc]
    split
    · rename_i h; rw [h]
    · split
      · rename_i h; rw [h]
      · split
        · rename_i h; rw [h]
        · split
          · rename_i h; rw [h]
          · split
            · rename_i h; rw [h]
            · split
              · rename_i h; rw [h]
              · rfl
  · rw [if_neg hc]
theorem td_up18 : mm_up (td S p b s f v w) 0 18 x = td S x b s f v w := by
  refine Prod.ext (funext fun c => funext fun j => ?_) rfl
  show (if c = 0 ∧ j = 18 then x else (td S p b s f v w).1 c j) = (td S x b s f v w).1 c j
  unfold td
  dsimp only
  by_cases hc : c = 0
  · by_cases hj : j = 18
    · subst hc; subst hj; rfl
    · rw [if_neg (fun q => hj q.2), if_pos hc, if_pos hc, if_neg hj, if_neg hj]
  · rw [if_neg (fun q => hc q.1), if_neg hc, if_neg hc]
theorem td_up19 : mm_up (td S p b s f v w) 0 19 x = td S p x s f v w := by
  refine Prod.ext (funext fun c => funext fun j => ?_) rfl
  show (if c = 0 ∧ j = 19 then x else (td S p b s f v w).1 c j) = (td S p x s f v w).1 c j
  unfold td
  dsimp only
  by_cases hc : c = 0
  · by_cases hj : j = 19
    · subst hc; subst hj; rfl
    · rw [if_neg (fun q => hj q.2), if_pos hc, if_pos hc, if_neg hj, if_neg hj]
  · rw [if_neg (fun q => hc q.1), if_neg hc, if_neg hc]
theorem td_up20 : mm_up (td S p b s f v w) 0 20 x = td S p b x f v w := by
  refine Prod.ext (funext fun c => funext fun j => ?_) rfl
  show (if c = 0 ∧ j = 20 then x else (td S p b s f v w).1 c j) = (td S p b x f v w).1 c j
  unfold td
  dsimp only
  by_cases hc : c = 0
  · by_cases hj : j = 20
    · subst hc; subst hj; rfl
    · rw [if_neg (fun q => hj q.2), if_pos hc, if_pos hc, if_neg hj, if_neg hj]
  · rw [if_neg (fun q => hc q.1), if_neg hc, if_neg hc]
theorem td_up21 : mm_up (td S p b s f v w) 0 21 x = td S p b s x v w := by
  refine Prod.ext (funext fun c => funext fun j => ?_) rfl
  show (if c = 0 ∧ j = 21 then x else (td S p b s f v w).1 c j) = (td S p b s x v w).1 c j
  unfold td
  dsimp only
  by_cases hc : c = 0
  · by_cases hj : j = 21
    · subst hc; subst hj; rfl
    · rw [if_neg (fun q => hj q.2), if_pos hc, if_pos hc, if_neg hj, if_neg hj]
  · rw [if_neg (fun q => hc q.1), if_neg hc, if_neg hc]
theorem td_up22 : mm_up (td S p b s f v w) 0 22 x = td S p b s f x w := by
  refine Prod.ext (funext fun c => funext fun j => ?_) rfl
  show (if c = 0 ∧ j = 22 then x else (td S p b s f v w).1 c j) = (td S p b s f x w).1 c j
  unfold td
  dsimp only
  by_cases hc : c = 0
  · by_cases hj : j = 22
    · subst hc; subst hj; rfl
    · rw [if_neg (fun q => hj q.2), if_pos hc, if_pos hc, if_neg hj, if_neg hj]
  · rw [if_neg (fun q => hc q.1), if_neg hc, if_neg hc]
theorem td_up23 : mm_up (td S p b s f v w) 0 23 x = td S p b s f v x := by
  refine Prod.ext (funext fun c => funext fun j => ?_) rfl
  show (if c = 0 ∧ j = 23 then x else (td S p b s f v w).1 c j) = (td S p b s f v x).1 c j
  unfold td
  dsimp only
  by_cases hc : c = 0
  · by_cases hj : j = 23
    · subst hc; subst hj; rfl
    · rw [if_neg (fun q => hj q.2), if_pos hc, if_pos hc, if_neg hj, if_neg hj]
  · rw [if_neg (fun q => hc q.1), if_neg hc, if_neg hc]
end TDs
/-! ===== tokens ===== -/
def hr (t : Nat → Int32) (n p : Int32) : Int32 := if p < n then t p.toNatClampNeg else -1
def skp (t : Nat → Int32) (n : Int32) : Nat → Int32 → Int32
  | 0, p => p
  | N + 1, p => if hr t n p = 32 then skp t n N (p + 1) else p
def numL (t : Nat → Int32) (n : Int32) : Nat → Int32 → Int32 → Int32 → Int32 × Int32 × Int32
  | 0, p, f, v => (p, f, v)
  | N + 1, p, f, v => if mm_b 48 57 (hr t n p) then numL t n N (p + 1) (f + 1) (if 3 ≤ f then v else 10 * v + hr t n p - 48) else (p, f, v)
theorem pz_ti1 {p : Int32} (h : mm_b (-1) 1000 p) : (p + 1).toInt = p.toInt + 1 := by
  rw [bd_ti_add (by show -2147483648 ≤ p.toInt + 1; omega) (by show p.toInt + 1 ≤ 2147483647; omega)]
  rfl
theorem pz_of1 : Int32.ofInt 1 = 1 := rfl
theorem hr_lt {t : Nat → Int32} {n p : Int32} (h : 0 ≤ (hr t n p).toInt) : p < n := by
  unfold hr at h
  split at h
  · assumption
  · exact absurd h (by decide)
theorem hr_ge {t : Nat → Int32} {n p : Int32} (h : n ≤ p) : hr t n p = -1 := if_neg (fun q => lt_no q h)
theorem hr_ok {t : Nat → Int32} {n p : Int32} (h : ¬ n ≤ p) : hr t n p = t p.toNatClampNeg := if_pos (bd_nle h)
/-- a place: between 0 and 240 -/
abbrev pz_p (p : Int32) : Prop := mm_b 0 240 p
theorem pz_nx {n p : Int32} (hn : pz_p n) (hp : pz_p p) (h : p < n) : pz_p (p + 1) ∧ (p + 1).toInt = p.toInt + 1 := by
  have h1 := Int32.lt_iff_toInt_lt.mp h
  have e := pz_ti1 (p := p) ⟨by omega, by omega⟩
  exact ⟨⟨by omega, by omega⟩, e⟩
theorem skp_b {t : Nat → Int32} {n : Int32} (hn : pz_p n) : ∀ (N : Nat) (p : Int32), pz_p p → pz_p (skp t n N p) ∧ p.toInt ≤ (skp t n N p).toInt
  | 0, p, hp => ⟨hp, Int.le_refl _⟩
  | N + 1, p, hp => by
    unfold skp
    split
    · rename_i h
      obtain ⟨h1, h2⟩ := pz_nx hn hp (hr_lt (by rw [h]; decide))
      obtain ⟨h3, h4⟩ := skp_b hn N (p + 1) h1
      exact ⟨h3, by omega⟩
    · exact ⟨hp, Int.le_refl _⟩
theorem skp_no {t : Nat → Int32} {n : Int32} (hn : pz_p n) : ∀ (N : Nat) (p : Int32), pz_p p → (240 - p.toInt).toNat < N → ¬ hr t n (skp t n N p) = 32
  | 0, p, _, h => absurd h (Nat.not_lt_zero _)
  | N + 1, p, hp, h => by
    unfold skp
    split
    · rename_i q
      have hl := hr_lt (t := t) (n := n) (p := p) (by rw [q]; decide)
      obtain ⟨h1, h2⟩ := pz_nx hn hp hl
      have h3 := Int32.lt_iff_toInt_lt.mp hl
      exact skp_no hn N (p + 1) h1 (by omega)
    · assumption
abbrev sk (t : Nat → Int32) (n p : Int32) : Int32 := skp t n 242 p
theorem sk_no {t : Nat → Int32} {n p : Int32} (hn : pz_p n) (hp : pz_p p) : ¬ hr t n (sk t n p) = 32 := skp_no hn 242 p hp (by omega)
theorem sk_fix {t : Nat → Int32} {n p : Int32} (h : ¬ hr t n p = 32) : sk t n p = p := by
  show skp t n (241 + 1) p = p
  rw [skp, if_neg h]
theorem sk_sk {t : Nat → Int32} {n p : Int32} (hn : pz_p n) (hp : pz_p p) : sk t n (sk t n p) = sk t n p := sk_fix (sk_no hn hp)
theorem numL_b {t : Nat → Int32} {n : Int32} (hn : pz_p n) : ∀ (N : Nat) (p f v : Int32), pz_p p → mm_b 0 p.toInt f → mm_b 0 999 v → (f.toInt ≤ 2 → v.toInt ≤ 99) → (f.toInt ≤ 1 → v.toInt ≤ 9) → (f.toInt ≤ 0 → v.toInt ≤ 0) →
    pz_p (numL t n N p f v).1 ∧ p.toInt ≤ (numL t n N p f v).1.toInt ∧ mm_b f.toInt 240 (numL t n N p f v).2.1 ∧ mm_b 0 999 (numL t n N p f v).2.2
  | 0, p, f, v, hp, hf, hv, _, _, _ => ⟨hp, Int.le_refl _, ⟨Int.le_refl _, by show f.toInt ≤ 240; omega⟩, hv⟩
  | N + 1, p, f, v, hp, hf, hv, v2, v1, v0 => by
    unfold numL
    split
    · rename_i h
      obtain ⟨h1, h2⟩ := pz_nx hn hp (hr_lt (t := t) (by omega))
      have h3 := pz_ti1 (p := f) ⟨by omega, by omega⟩
      have key : mm_b 0 999 (if 3 ≤ f then v else 10 * v + hr t n p - 48) ∧ ((f + 1).toInt ≤ 2 → (if 3 ≤ f then v else 10 * v + hr t n p - 48).toInt ≤ 99) ∧ ((f + 1).toInt ≤ 1 → (if 3 ≤ f then v else 10 * v + hr t n p - 48).toInt ≤ 9) := by
        by_cases q : 3 ≤ f
        · have q2 : 3 ≤ f.toInt := Int32.le_iff_toInt_le.mp q
          rw [if_pos q]
          exact ⟨hv, fun _ => by omega, fun _ => by omega⟩
        · have q2 : f.toInt < 3 := Int32.lt_iff_toInt_lt.mp (bd_nle q)
          have e1 : (10 * v).toInt = 10 * v.toInt := by
            rw [bd_ti_mul (by show -2147483648 ≤ 10 * v.toInt; omega) (by show 10 * v.toInt ≤ 2147483647; omega)]
            rfl
          have e2 : (10 * v + hr t n p).toInt = 10 * v.toInt + (hr t n p).toInt := by rw [bd_ti_add (by omega) (by omega), e1]
          have e3 : (10 * v + hr t n p - 48).toInt = 10 * v.toInt + (hr t n p).toInt - 48 := by
            rw [bd_ti_sub (by show -2147483648 ≤ (10 * v + hr t n p).toInt - 48; omega) (by show (10 * v + hr t n p).toInt - 48 ≤ 2147483647; omega), e2]
            rfl
          rw [if_neg q]
          refine ⟨⟨by omega, by omega⟩, fun _ => by omega, fun _ => by omega⟩
      obtain ⟨k1, k2, k3⟩ := key
      obtain ⟨g1, g2, g3, g4⟩ := numL_b hn N (p + 1) (f + 1) _ h1 ⟨by omega, by omega⟩ k1 k2 k3 (fun _ => by omega)
      exact ⟨g1, by omega, ⟨by omega, g3.2⟩, g4⟩
    · exact ⟨hp, Int.le_refl _, ⟨Int.le_refl _, by show f.toInt ≤ 240; omega⟩, hv⟩
abbrev nm (t : Nat → Int32) (n p : Int32) : Int32 × Int32 × Int32 := numL t n 242 p 0 0
theorem nm_b {t : Nat → Int32} {n p : Int32} (hn : pz_p n) (hp : pz_p p) : pz_p (nm t n p).1 ∧ p.toInt ≤ (nm t n p).1.toInt ∧ mm_b 0 240 (nm t n p).2.1 ∧ mm_b 0 999 (nm t n p).2.2 :=
  numL_b hn 242 p 0 0 hp ⟨Int.le_refl _, hp.1⟩ (by decide) (fun _ => by decide) (fun _ => by decide) (fun _ => by decide)
theorem nm_no {t : Nat → Int32} {n p : Int32} (h : ¬ mm_b 48 57 (hr t n p)) : nm t n p = (p, 0, 0) := by
  show numL t n (241 + 1) p 0 0 = _
  rw [numL, if_neg h]
theorem nm_yes {t : Nat → Int32} {n p : Int32} (hn : pz_p n) (hp : pz_p p) (h : mm_b 48 57 (hr t n p)) : 1 ≤ (nm t n p).2.1.toInt := by
  show 1 ≤ (numL t n (241 + 1) p 0 0).2.1.toInt
  rw [numL, if_pos h]
  obtain ⟨h1, h2⟩ := pz_nx hn hp (hr_lt (t := t) (by omega))
  have e : (10 * (0 : Int32) + hr t n p - 48).toInt = (hr t n p).toInt - 48 := by
    have e0 : (10 * (0 : Int32) + hr t n p).toInt = (hr t n p).toInt := by rw [show (10 * (0 : Int32)) = 0 from rfl, Int32.zero_add]
    rw [bd_ti_sub (by show -2147483648 ≤ (10 * (0 : Int32) + hr t n p).toInt - 48; omega) (by show (10 * (0 : Int32) + hr t n p).toInt - 48 ≤ 2147483647; omega), e0]
    rfl
  obtain ⟨g1, g2, g3, g4⟩ := numL_b (t := t) hn 241 (p + 1) (0 + 1) (if 3 ≤ (0 : Int32) then 0 else 10 * 0 + hr t n p - 48) h1 ⟨by decide, by show (1 : Int) ≤ (p + 1).toInt; omega⟩ (by rw [if_neg (by decide)]; exact ⟨by omega, by omega⟩) (fun _ => by rw [if_neg (by decide)]; omega) (fun _ => by rw [if_neg (by decide)]; omega) (fun q => absurd q (by decide))
  exact g3.1
/-! the class's reader -/
section RC
variable {S : mm_S} {k f a m x w : Int32}
theorem c_lh : F_X8_letterHere (rd S k f a m) = hr (S.1 2) (S.1 1 0) a := by
  show (if S.1 1 0 ≤ a then (-1 : Int32) else S.1 2 a.toNatClampNeg) = _
  split
  · rename_i h
    exact (hr_ge h).symm
  · rename_i h
    exact (hr_ok h).symm
theorem c_is : F_X8_isSound (rd S k f a m) = if k = 0 then 1 else 0 := rfl
theorem c_is0 : F_X8_isSound (rd S 0 f a m) = 1 := rfl
theorem c_isk (h : ¬ k = 0) : F_X8_isSound (rd S k f a m) = 0 := if_neg h
theorem c_bl0 : F_X8_blame (rd S 0 f a m) x w = rd S x w a m := by
  rw [F_X8_blame, if_pos (show (rd S 0 f a m).1 1 1 = 0 from rfl), rd_up1, rd_up2]
theorem c_blk (h : ¬ k = 0) : F_X8_blame (rd S k f a m) x w = rd S k f a m := by
  rw [F_X8_blame, if_neg (show ¬ (rd S k f a m).1 1 1 = 0 from h)]
theorem c_skL : ∀ (N : Nat) (a : Int32), F_X8_skipBlanks_L0 N (rd S k f a m) = rd S k f (skp (S.1 2) (S.1 1 0) N a) m
  | 0, a => rfl
  | N + 1, a => by
    rw [F_X8_skipBlanks_L0, skp]
    show (if S.1 1 0 ≤ a then rd S k f a m else if S.1 2 a.toNatClampNeg = 32 then F_X8_skipBlanks_L0 N (mm_up (rd S k f a m) 1 3 (a + 1)) else rd S k f a m) = _
    by_cases h : S.1 1 0 ≤ a
    · rw [if_pos h, hr_ge h, if_neg (by decide)]
    · rw [if_neg h, hr_ok h]
      by_cases q : S.1 2 a.toNatClampNeg = 32
      · rw [if_pos q, if_pos q, rd_up3, c_skL N (a + 1)]
      · rw [if_neg q, if_neg q]
theorem c_sk : F_X8_skipBlanks (rd S k f a m) = rd S k f (sk (S.1 2) (S.1 1 0) a) m := c_skL 242 a
theorem c_in0 : F_X8_isNext (rd S 0 f a m) x = (if hr (S.1 2) (S.1 1 0) (sk (S.1 2) (S.1 1 0) a) = x then 1 else 0, rd S 0 f (sk (S.1 2) (S.1 1 0) a) m) := by
  rw [F_X8_isNext, c_is0, if_neg (by decide), c_sk, F_X8_isNext_tc13, c_lh]
  split <;> rfl
theorem c_ink (h : ¬ k = 0) : F_X8_isNext (rd S k f a m) x = (0, rd S k f a m) := by
  rw [F_X8_isNext, c_isk h, if_pos rfl]
theorem c_rs0 : F_X8_readSign (rd S 0 f a m) x = if hr (S.1 2) (S.1 1 0) (sk (S.1 2) (S.1 1 0) a) = x then (1, rd S 0 f (sk (S.1 2) (S.1 1 0) a + 1) m) else (0, rd S 1 (sk (S.1 2) (S.1 1 0) a) (sk (S.1 2) (S.1 1 0) a) m) := by
  rw [F_X8_readSign, c_in0]
  by_cases q : hr (S.1 2) (S.1 1 0) (sk (S.1 2) (S.1 1 0) a) = x
  · rw [if_pos q, if_pos q]
    show F_X8_readSign_c5 1 (rd S 0 f (sk (S.1 2) (S.1 1 0) a) m) = _
    rw [F_X8_readSign_c5, if_neg (by decide), rd_up3, rd_3]
  · rw [if_neg q, if_neg q]
    show F_X8_readSign_c5 0 (rd S 0 f (sk (S.1 2) (S.1 1 0) a) m) = _
    rw [F_X8_readSign_c5, if_pos rfl, c_bl0, F_X8_readSign_c5tc29, rd_3]
theorem c_rsk (h : ¬ k = 0) : F_X8_readSign (rd S k f a m) x = (0, rd S k f a m) := by
  rw [F_X8_readSign, c_ink h]
  show F_X8_readSign_c5 0 (rd S k f a m) = _
  rw [F_X8_readSign_c5, if_pos rfl, c_blk h, F_X8_readSign_c5tc29]
/-- what a number comes to: its end, its first letter, figures, value -/
def rnE (S : mm_S) (f m x : Int32) (r : Int32 × Int32 × Int32) : Int32 × mm_S := if r.2.1 = 0 then (-1, rd S 1 r.1 r.1 m) else if 3 < r.2.1 then (-1, rd S 2 m r.1 m) else if r.2.2 ≤ x then (r.2.2, rd S 0 f r.1 m) else (-1, rd S 2 m r.1 m)
theorem c_fig : F_X8_isFigure S x = if mm_b 48 57 x then 1 else 0 := by
  unfold F_X8_isFigure
  by_cases h : x < 48
  · have := Int32.lt_iff_toInt_lt.mp h
    rw [if_pos h, if_neg (fun q => absurd q.1 (by have : x.toInt < 48 := this; omega))]
  · have h1 : 48 ≤ x.toInt := Int32.le_iff_toInt_le.mp (bd_nlt h)
    rw [if_neg h]
    by_cases q : 57 < x
    · have : (57 : Int) < x.toInt := Int32.lt_iff_toInt_lt.mp q
      rw [if_pos q, if_neg (fun z => by omega)]
    · have : x.toInt ≤ 57 := Int32.le_iff_toInt_le.mp (bd_nlt q)
      rw [if_neg q, if_pos ⟨h1, this⟩]
theorem c_rnX {v g : Int32} : (if g = 0 then F_X8_readNumber_L25tttc119 (F_X8_blame (rd S 0 f a m) 1 ((rd S 0 f a m).1 1 3)) v else (if (3 : Int32) < g then F_X8_readNumber_L25tttc119 (F_X8_blame (rd S 0 f a m) 2 ((rd S 0 f a m).1 1 4)) v else (if v ≤ x then (if F_X8_isSound (rd S 0 f a m) = 0 then ((-1 : Int32), rd S 0 f a m) else (v, rd S 0 f a m)) else F_X8_readNumber_L25tttc119 (F_X8_blame (rd S 0 f a m) 2 ((rd S 0 f a m).1 1 4)) v))) = rnE S f m x (a, g, v) := by
  unfold rnE
  dsimp only
  by_cases h : g = 0
  · rw [if_pos h, if_pos h, c_bl0, F_X8_readNumber_L25tttc119, c_isk (by decide), if_pos rfl, rd_3]
  · rw [if_neg h, if_neg h]
    by_cases h3 : 3 < g
    · rw [if_pos h3, if_pos h3, c_bl0, F_X8_readNumber_L25tttc119, c_isk (by decide), if_pos rfl, rd_4]
    · rw [if_neg h3, if_neg h3]
      by_cases hv : v ≤ x
      · rw [if_pos hv, if_pos hv, c_is0, if_neg (by decide)]
      · rw [if_neg hv, if_neg hv, c_bl0, F_X8_readNumber_L25tttc119, c_isk (by decide), if_pos rfl, rd_4]
theorem c_rnL (hn : pz_p (S.1 1 0)) : ∀ (N : Nat) (a g v : Int32), pz_p a → mm_b 0 a.toInt g → (240 - a.toInt).toNat < N → F_X8_readNumber_L25 x N (rd S 0 f a m) g v = rnE S f m x (numL (S.1 2) (S.1 1 0) N a g v)
  | 0, a, g, v, _, _, h => absurd h (Nat.not_lt_zero _)
  | N + 1, a, g, v, ha, hg, h => by
    rw [F_X8_readNumber_L25, c_lh, c_fig, c_rnX, rd_0, rd_3, numL]
    by_cases q : S.1 1 0 ≤ a
    · rw [if_pos q, if_neg (by rw [hr_ge q]; decide)]
    · rw [if_neg q]
      have ql := bd_nle q
      have ql2 := Int32.lt_iff_toInt_lt.mp ql
      obtain ⟨h1, h2⟩ := pz_nx hn ha ql
      have h3 := pz_ti1 (p := g) ⟨by omega, by omega⟩
      by_cases d : mm_b 48 57 (hr (S.1 2) (S.1 1 0) a)
      · rw [if_pos d, if_pos d, if_neg (by decide), rd_up3, pz_of1]
        have ih := fun v' => c_rnL hn N (a + 1) (g + 1) v' h1 ⟨by omega, by omega⟩ (by omega)
        by_cases z : 3 ≤ g
        · have z2 : 3 ≤ g.toInt := Int32.le_iff_toInt_le.mp z
          rw [if_pos z, if_neg (fun y => by have : (g + 1).toInt ≤ 3 := Int32.le_iff_toInt_le.mp y; omega)]
          exact ih v
        · have z2 : g.toInt < 3 := Int32.lt_iff_toInt_lt.mp (bd_nle z)
          rw [if_neg z, if_pos (Int32.le_iff_toInt_le.mpr (by show (g + 1).toInt ≤ 3; omega))]
          exact ih _
      · rw [if_neg d, if_neg d, if_pos rfl]
theorem c_rn0 (hn : pz_p (S.1 1 0)) (ha : pz_p a) : F_X8_readNumber (rd S 0 f a m) x = rnE S f (sk (S.1 2) (S.1 1 0) a) x (nm (S.1 2) (S.1 1 0) (sk (S.1 2) (S.1 1 0) a)) := by
  rw [F_X8_readNumber, c_is0, if_neg (by decide), c_sk, F_X8_readNumber_tc13, rd_up4, rd_3]
  have hb : pz_p (sk (S.1 2) (S.1 1 0) a) := (skp_b (t := S.1 2) hn 242 a ha).1
  exact c_rnL hn 242 _ 0 0 hb ⟨Int.le_refl _, hb.1⟩ (by omega)
theorem c_rnk (h : ¬ k = 0) : F_X8_readNumber (rd S k f a m) x = (-1, rd S k f a m) := by
  rw [F_X8_readNumber, c_isk h, if_pos rfl]
end RC
/-! the reference's step -/
section RM
variable {S : mm_S} {p b s f v w : Int32}
theorem m_hr : hereF (td S p b s f v w) = hr (S.1 8) (S.1 0 10) p := rfl
theorem m_93 : ∀ (N : Nat) (p f v : Int32), F_X10_step_L93 N (td S p b s f v w) = td S (numL (S.1 8) (S.1 0 10) N p f v).1 b s (numL (S.1 8) (S.1 0 10) N p f v).2.1 (numL (S.1 8) (S.1 0 10) N p f v).2.2 w
  | 0, p, f, v => rfl
  | N + 1, p, f, v => by
    rw [F_X10_step_L93, numL, m_hr]
    by_cases h : mm_b 48 57 (hr (S.1 8) (S.1 0 10) p)
    · rw [if_pos h, if_pos h, td_21, td_22, td_18, td_up22, td_up21, td_up18]
      exact m_93 N _ _ _
    · rw [if_neg h, if_neg h]
theorem m_22 : F_X10_step_22 (td S p b s f v w) = if mm_b 48 57 (hr (S.1 8) (S.1 0 10) p) then td S (nm (S.1 8) (S.1 0 10) p).1 p 48 (nm (S.1 8) (S.1 0 10) p).2.1 (nm (S.1 8) (S.1 0 10) p).2.2 w else td S (p + if 0 ≤ hr (S.1 8) (S.1 0 10) p then 1 else 0) p (hr (S.1 8) (S.1 0 10) p) 0 0 w := by
  have hT : stT (td S p b s f v w) = td S p p (hr (S.1 8) (S.1 0 10) p) 0 0 w := by
    rw [stT, m_hr, td_18, td_up19, td_up20, td_up21, td_up22]
  rw [F_X10_step_22, hT, m_hr, td_18]
  by_cases h : mm_b 48 57 (hr (S.1 8) (S.1 0 10) p)
  · rw [if_pos h, if_pos h, td_up20, m_93]
  · rw [if_neg h, if_neg h, td_up18]
theorem m_0 (hn : pz_p (S.1 0 10)) : ∀ (N : Nat) (p : Int32), pz_p p → (240 - p.toInt).toNat < N → F_X10_step_L0 N (td S p b s f v w) = F_X10_step_22 (td S (skp (S.1 8) (S.1 0 10) N p) b s f v w)
  | 0, p, _, h => absurd h (Nat.not_lt_zero _)
  | N + 1, p, hp, h => by
    rw [F_X10_step_L0, skp, m_hr]
    by_cases q : hr (S.1 8) (S.1 0 10) p = 32
    · have hl := hr_lt (t := S.1 8) (n := S.1 0 10) (p := p) (by rw [q]; decide)
      have hl2 := Int32.lt_iff_toInt_lt.mp hl
      obtain ⟨h1, h2⟩ := pz_nx hn hp hl
      rw [if_pos q, if_pos q, td_18, td_up18]
      exact m_0 hn N (p + 1) h1 (by omega)
    · rw [if_neg q, if_neg q]
/-- the state behind a token that begins at q -/
def stp (S : mm_S) (w q : Int32) : mm_S := if mm_b 48 57 (hr (S.1 8) (S.1 0 10) q) then td S (nm (S.1 8) (S.1 0 10) q).1 q 48 (nm (S.1 8) (S.1 0 10) q).2.1 (nm (S.1 8) (S.1 0 10) q).2.2 w else td S (q + if 0 ≤ hr (S.1 8) (S.1 0 10) q then 1 else 0) q (hr (S.1 8) (S.1 0 10) q) 0 0 w
theorem m_st (hn : pz_p (S.1 0 10)) (hp : pz_p p) : F_X10_step (td S p b s f v w) = stp S w (sk (S.1 8) (S.1 0 10) p) := by
  rw [F_X10_step, m_0 hn 242 p hp (by omega), m_22]
  rfl
end RM
/-! ===== clauses: the class beside the reference ===== -/
theorem pz_cl {x : Int32} (h : 0 ≤ x.toInt) : (x.toNatClampNeg : Int) = x.toInt := by
  show ((x.toInt.toNat : Nat) : Int) = x.toInt
  omega
theorem pz_addc {c P : Int32} (hc : mm_b 0 1000 c) (hP : mm_b 0 1000 P) : (c + P).toNatClampNeg = c.toNatClampNeg + P.toNatClampNeg := by
  have e : (c + P).toInt = c.toInt + P.toInt := bd_ti_add (by omega) (by omega)
  show (c + P).toInt.toNat = c.toInt.toNat + P.toInt.toNat
  omega
/-- what was read so far -/
def Dr (a : Nat) (B1 B2 : mm_S) : Prop :=
  (B1.1 a 0 = B2.1 2 0 ∧ B1.1 a 1 = B2.1 2 1 ∧ B1.1 a 2 = B2.1 2 2 ∧ B1.1 a 3 = B2.1 2 24) ∧
  (mm_b 0 7 (B2.1 2 0) ∧ mm_b 0 6 (B2.1 2 1) ∧ mm_b 0 6 (B2.1 2 2)) ∧
  (∀ p : Nat, (p : Int) < (B2.1 2 0).toInt → B1.1 (a + 1) p = B2.1 2 (3 + p) ∧ B1.1 (a + 2) p = B2.1 2 (10 + p) ∧ B1.1 (a + 3) p = B2.1 2 (17 + p)) ∧
  (∀ p : Nat, p < 7 → (B2.1 2 0).toInt ≤ p → B2.1 2 (3 + p) = 9 ∧ B2.1 2 (10 + p) = 9 ∧ B2.1 2 (17 + p) = 9) ∧
  (∀ p : Nat, (p : Int) < (B2.1 2 1).toInt → B1.1 (a + 4) p = B2.1 2 (25 + p)) ∧
  (∀ p : Nat, (p : Int) < (B2.1 2 2).toInt → B1.1 (a + 5) p = B2.1 2 (31 + p))
/-- the bases: nothing but the draft differs from the start -/
def Bs (a : Nat) (t : Nat → Int32) (n : Int32) (S1 S2 B1 B2 : mm_S) : Prop :=
  ((∀ b, ¬ (a ≤ b ∧ b ≤ a + 5) → B1.1 b = S1.1 b) ∧ B1.2 = S1.2) ∧ ((∀ b, b ≠ 2 → B2.1 b = S2.1 b) ∧ B2.2 = S2.2) ∧ B1.1 1 0 = n ∧ B1.1 2 = t ∧ B2.1 0 10 = n ∧ B2.1 8 = t
theorem Bs_1 {a : Nat} {t : Nat → Int32} {n : Int32} {S1 S2 B1 B2 : mm_S} (ha : 3 ≤ a) (h : Bs a t n S1 S2 B1 B2) {x j : Nat} {v : Int32} (hx : a ≤ x ∧ x ≤ a + 5) : Bs a t n S1 S2 (mm_up B1 x j v) B2 := by
  obtain ⟨⟨h1, h2⟩, h3, h4, h5, h6⟩ := h
  refine ⟨⟨fun b hb => ?_, h2⟩, h3, ?_, ?_, h6⟩
  · rw [up_row (b := b) (a := x) (fun q => hb (by rw [q]; exact hx))]
    exact h1 b hb
  · rw [up_ne (by omega)]
    exact h4
  · rw [up_row (by omega)]
    exact h5
theorem Bs_2 {a : Nat} {t : Nat → Int32} {n : Int32} {S1 S2 B1 B2 : mm_S} (h : Bs a t n S1 S2 B1 B2) {j : Nat} {v : Int32} : Bs a t n S1 S2 B1 (mm_up B2 2 j v) := by
  obtain ⟨h1, ⟨h2, h3⟩, h4, h5, h6, h7⟩ := h
  refine ⟨h1, ⟨fun b hb => ?_, h3⟩, h4, h5, ?_, ?_⟩
  · rw [up_row hb]
    exact h2 b hb
  · rw [up_ne (by omega)]
    exact h6
  · rw [up_row (by omega)]
    exact h7
/-- what a clause comes to -/
def Oc (a : Nat) (t : Nat → Int32) (n : Int32) (S1 S2 : mm_S) (f c : Int32) (R1 : mm_S) (R2 : Int32 × mm_S) : Prop :=
  (∃ (B1 B2 : mm_S) (c' m' b' s' g' v' w' : Int32), R1 = rd B1 0 f c' m' ∧ R2 = (1, td B2 c' b' s' g' v' w') ∧ Dr a B1 B2 ∧ Bs a t n S1 S2 B1 B2 ∧ c.toInt < c'.toInt ∧ pz_p c') ∨
  (∃ (B1 B2 : mm_S) (k b' c' m' q' s' g' v' : Int32), R1 = rd B1 k b' c' m' ∧ R2 = (0, td B2 q' b' s' g' v' k) ∧ ¬ k = 0 ∧ Bs a t n S1 S2 B1 B2)
section CL
variable {a : Nat} {t : Nat → Int32} {n : Int32} {S1 S2 B1 B2 : mm_S} {f c m b s g v w x : Int32}
/-! tokens, both sides -/
theorem tk_1 (h : Bs a t n S1 S2 B1 B2) (hn : pz_p n) (hc : pz_p c) : F_X8_readNumber (rd B1 0 f c m) x = rnE B1 f (sk t n c) x (nm t n (sk t n c)) := by
  obtain ⟨-, -, h4, h5, -, -⟩ := h
  have e := c_rn0 (S := B1) (f := f) (a := c) (m := m) (x := x) (by rw [h4]; exact hn) hc
  rw [h4, h5] at e
  exact e
theorem tk_s (h : Bs a t n S1 S2 B1 B2) : F_X8_readSign (rd B1 0 f c m) x = if hr t n (sk t n c) = x then (1, rd B1 0 f (sk t n c + 1) m) else (0, rd B1 1 (sk t n c) (sk t n c) m) := by
  obtain ⟨-, -, h4, h5, -, -⟩ := h
  have e := c_rs0 (S := B1) (f := f) (a := c) (m := m) (x := x)
  rw [h4, h5] at e
  exact e
theorem tk_i (h : Bs a t n S1 S2 B1 B2) : F_X8_isNext (rd B1 0 f c m) x = (if hr t n (sk t n c) = x then 1 else 0, rd B1 0 f (sk t n c) m) := by
  obtain ⟨-, -, h4, h5, -, -⟩ := h
  have e := c_in0 (S := B1) (f := f) (a := c) (m := m) (x := x)
  rw [h4, h5] at e
  exact e
def stq (t : Nat → Int32) (n : Int32) (S : mm_S) (w q : Int32) : mm_S := if mm_b 48 57 (hr t n q) then td S (nm t n q).1 q 48 (nm t n q).2.1 (nm t n q).2.2 w else td S (q + if 0 ≤ hr t n q then 1 else 0) q (hr t n q) 0 0 w
theorem tk_2 (h : Bs a t n S1 S2 B1 B2) (hn : pz_p n) (hc : pz_p c) : F_X10_step (td B2 c b s g v w) = stq t n B2 w (sk t n c) := by
  obtain ⟨-, -, -, -, h6, h7⟩ := h
  have e := m_st (S := B2) (p := c) (b := b) (s := s) (f := g) (v := v) (w := w) (by rw [h6]; exact hn) hc
  rw [e, stp, stq, h6, h7]
theorem skb (hn : pz_p n) (hc : pz_p c) : pz_p (sk t n c) ∧ c.toInt ≤ (sk t n c).toInt := skp_b hn 242 c hc
theorem stq_d {q : Int32} (h : mm_b 48 57 (hr t n q)) : stq t n B2 w q = td B2 (nm t n q).1 q 48 (nm t n q).2.1 (nm t n q).2.2 w := if_pos h
theorem stq_l {q : Int32} (h : ¬ mm_b 48 57 (hr t n q)) : stq t n B2 w q = td B2 (q + if 0 ≤ hr t n q then 1 else 0) q (hr t n q) 0 0 w := if_neg h
theorem no48 {q : Int32} (h : ¬ mm_b 48 57 (hr t n q)) : ¬ hr t n q = 48 := fun e => h (by rw [e]; decide)
theorem m_in {S : mm_S} {v lo hi : Int32} : F_X10_in S v.toInt64 lo.toInt64 hi.toInt64 = if mm_b lo.toInt hi.toInt v then 1 else 0 := by
  unfold F_X10_in
  rw [Int32.toInt_toInt64, Int32.toInt_toInt64, Int32.toInt_toInt64]
theorem m_fl : F_X10_fails (td B2 c b s g v w) x = (0, td B2 c b s g v x) := by
  rw [F_X10_fails, td_up23]
/-- a number, read by both -/
theorem nu (h : Bs a t n S1 S2 B1 B2) (hn : pz_p n) (hc : pz_p c) (y : Int32) (hx : 0 ≤ x.toInt) :
    (∃ (k p e q' s' g' v' : Int32), F_X8_readNumber (rd B1 0 f c m) x = (-1, rd B1 k p e p) ∧ F_X10_number_r (td B2 c b s g v w) y 0 x = (0, td B2 q' p s' g' v' k) ∧ ¬ k = 0) ∨
    (∃ (p e g' v' : Int32), F_X8_readNumber (rd B1 0 f c m) x = (v', rd B1 0 f e p) ∧ F_X10_number_r (td B2 c b s g v w) y 0 x = (1, td (mm_up B2 2 y.toNatClampNeg v') e p 48 g' v' w) ∧ mm_b 0 x.toInt v' ∧ pz_p e ∧ c.toInt ≤ e.toInt) := by
  obtain ⟨hb, hle⟩ := skb (t := t) hn hc
  rw [tk_1 h hn hc, F_X10_number_r, tk_2 h hn hc]
  generalize sk t n c = p at hb hle ⊢
  by_cases d : mm_b 48 57 (hr t n p)
  · rw [stq_d d, F_X10_number_r_c4, td_20, if_pos rfl, td_21, td_22]
    obtain ⟨b1, b2, b3, b4⟩ := nm_b (t := t) hn hb
    have g1 := nm_yes hn hb d
    generalize nm t n p = r at b1 b2 b3 b4 g1 ⊢
    obtain ⟨e, g', v'⟩ := r
    dsimp only at b1 b2 b3 b4 g1 ⊢
    have z : ¬ g' = 0 := fun q => by rw [q] at g1; exact absurd g1 (by decide)
    rw [rnE]
    dsimp only
    rw [if_neg z, m_in, m_fl, F_X10_number_r_c4ttc47]
    by_cases h3 : 3 < g'
    · rw [if_pos h3, if_pos h3]
      exact Or.inl ⟨2, p, e, _, _, _, _, rfl, rfl, by decide⟩
    · rw [if_neg h3, if_neg h3]
      by_cases hv : v' ≤ x
      · have hv2 := Int32.le_iff_toInt_le.mp hv
        have hv3 : mm_b (0 : Int32).toInt x.toInt v' := ⟨b4.1, hv2⟩
        rw [if_pos hv, if_pos hv3, if_neg (by decide), td_upo (by decide)]
        exact Or.inr ⟨p, e, g', v', rfl, rfl, hv3, b1, by omega⟩
      · have hv3 : ¬ mm_b (0 : Int32).toInt x.toInt v' := fun q => hv (Int32.le_iff_toInt_le.mpr q.2)
        rw [if_neg hv, if_neg hv3, if_pos rfl]
        exact Or.inl ⟨2, p, e, _, _, _, _, rfl, rfl, by decide⟩
  · rw [stq_l d, nm_no d, F_X10_number_r_c4, td_20, if_neg (no48 d), m_fl, F_X10_number_r_c4ttc47]
    exact Or.inl ⟨1, p, p, _, _, _, _, rfl, rfl, by decide⟩
theorem nu_d {S : mm_S} {y z : Int32} : F_X10_number_d S y z x = F_X10_number_r S y z x := rfl
theorem nu_p {S : mm_S} {y z : Int32} : F_X10_number_p S y z x = F_X10_number_r S y z x := rfl
/-- the end of a clause, read by both -/
theorem en (h : Bs a t n S1 S2 B1 B2) (hn : pz_p n) (hc : pz_p c) :
    (∃ (e p : Int32), F_X8_readSign (rd B1 0 f c m) 59 = (1, rd B1 0 f e m) ∧ F_X10_ends (td B2 c b s g v w) = (1, td B2 e p 59 0 0 w) ∧ c.toInt < e.toInt ∧ pz_p e) ∨
    (∃ (p q' s' g' v' : Int32), F_X8_readSign (rd B1 0 f c m) 59 = (0, rd B1 1 p p m) ∧ F_X10_ends (td B2 c b s g v w) = (0, td B2 q' p s' g' v' 1)) := by
  obtain ⟨hb, hle⟩ := skb (t := t) hn hc
  rw [tk_s h, F_X10_ends, tk_2 h hn hc]
  generalize sk t n c = p at hb hle ⊢
  by_cases d : hr t n p = 59
  · have d2 : ¬ mm_b 48 57 (hr t n p) := by rw [d]; decide
    obtain ⟨h1, h2⟩ := pz_nx hn hb (hr_lt (t := t) (by rw [d]; decide))
    rw [if_pos d, stq_l d2, F_X10_ends_c4, td_20, if_pos d, d]
    exact Or.inl ⟨p + 1, p, rfl, rfl, by omega, h1⟩
  · rw [if_neg d]
    by_cases d2 : mm_b 48 57 (hr t n p)
    · rw [stq_d d2, F_X10_ends_c4, td_20, if_neg (by decide), m_fl, F_X10_ends_c4fc18]
      exact Or.inr ⟨p, _, _, _, _, rfl, rfl⟩
    · rw [stq_l d2, F_X10_ends_c4, td_20, if_neg d, m_fl, F_X10_ends_c4fc18]
      exact Or.inr ⟨p, _, _, _, _, rfl, rfl⟩
/-! a person -/
theorem Dr_person (ha : 3 ≤ a) (D : Dr a B1 B2) (hp : B2.1 2 0 < 7) {P : Int32} (e : B2.1 2 0 = P) : Dr a (mm_up (mm_up (mm_up (mm_up B1 (a + 1) P.toNatClampNeg v) (a + 2) P.toNatClampNeg 9) (a + 3) P.toNatClampNeg 9) a 0 (P + 1)) (mm_up (mm_up B2 2 0 (P + 1)) 2 (3 + P).toNatClampNeg v) := by
  obtain ⟨⟨d1, d2, d3, d4⟩, ⟨d5, d6, d7⟩, d8, d9, d10, d11⟩ := D
  rw [e] at d1 d5 d8 d9 hp
  have hp7 : P.toInt < 7 := Int32.lt_iff_toInt_lt.mp hp
  have cP := pz_cl (x := P) d5.1
  have c3 : (3 + P).toNatClampNeg = 3 + P.toNatClampNeg := pz_addc (by decide) ⟨d5.1, by omega⟩
  have tP : (P + 1).toInt = P.toInt + 1 := pz_ti1 ⟨by omega, by omega⟩
  rw [c3]
  generalize P.toNatClampNeg = N at cP ⊢
  have r0 : (mm_up (mm_up B2 2 0 (P + 1)) 2 (3 + N) v).1 2 0 = P + 1 := by rw [up_ne (by omega), up_at]
  have ro : ∀ i, i ≠ 0 → i ≠ 3 + N → (mm_up (mm_up B2 2 0 (P + 1)) 2 (3 + N) v).1 2 i = B2.1 2 i := fun i h0 h3 => by rw [up_ne (by omega), up_ne (by omega)]
  have rv : (mm_up (mm_up B2 2 0 (P + 1)) 2 (3 + N) v).1 2 (3 + N) = v := up_at
  generalize mm_up (mm_up B2 2 0 (P + 1)) 2 (3 + N) v = C2 at r0 ro rv ⊢
  refine ⟨⟨?_, ?_, ?_, ?_⟩, ⟨?_, ?_, ?_⟩, ?_, ?_, ?_, ?_⟩
  · rw [up_at, r0]
  · rw [up_ne (by omega), up_ne (by omega), up_ne (by omega), up_ne (by omega), ro 1 (by omega) (by omega)]
    exact d2
  · rw [up_ne (by omega), up_ne (by omega), up_ne (by omega), up_ne (by omega), ro 2 (by omega) (by omega)]
    exact d3
  · rw [up_ne (by omega), up_ne (by omega), up_ne (by omega), up_ne (by omega), ro 24 (by omega) (by omega)]
    exact d4
  · rw [r0]
    exact ⟨by omega, by omega⟩
  · rw [ro 1 (by omega) (by omega)]
    exact d6
  · rw [ro 2 (by omega) (by omega)]
    exact d7
  · intro p hp2
    rw [r0, tP] at hp2
    by_cases hN : p = N
    · subst hN
      have z := d9 p (by omega) (by omega)
      refine ⟨?_, ?_, ?_⟩
      · rw [rv, up_ne (by omega), up_ne (by omega), up_ne (by omega), up_at]
      · rw [ro (10 + p) (by omega) (by omega), up_ne (by omega), up_ne (by omega), up_at]
        exact z.2.1.symm
      · rw [ro (17 + p) (by omega) (by omega), up_ne (by omega), up_at]
        exact z.2.2.symm
    · have z := d8 p (by omega)
      refine ⟨?_, ?_, ?_⟩
      · rw [ro (3 + p) (by omega) (by omega), up_ne (by omega), up_ne (by omega), up_ne (by omega), up_ne (by omega)]
        exact z.1
      · rw [ro (10 + p) (by omega) (by omega), up_ne (by omega), up_ne (by omega), up_ne (by omega), up_ne (by omega)]
        exact z.2.1
      · rw [ro (17 + p) (by omega) (by omega), up_ne (by omega), up_ne (by omega), up_ne (by omega), up_ne (by omega)]
        exact z.2.2
  · intro p h7 hp2
    rw [r0, tP] at hp2
    rw [ro (3 + p) (by omega) (by omega), ro (10 + p) (by omega) (by omega), ro (17 + p) (by omega) (by omega)]
    exact d9 p h7 (by omega)
  · intro p hp2
    rw [ro 1 (by omega) (by omega)] at hp2
    rw [ro (25 + p) (by omega) (by omega), up_ne (by omega), up_ne (by omega), up_ne (by omega), up_ne (by omega)]
    exact d10 p hp2
  · intro p hp2
    rw [ro 2 (by omega) (by omega)] at hp2
    rw [ro (31 + p) (by omega) (by omega), up_ne (by omega), up_ne (by omega), up_ne (by omega), up_ne (by omega)]
    exact d11 p hp2
theorem cl_person (ha : 3 ≤ a) (D : Dr a B1 B2) (h : Bs a t n S1 S2 B1 B2) (hn : pz_p n) (hc : pz_p c) (hl : c < n) : Oc a t n S1 S2 f c (F_X8_readPerson (rd B1 0 f c m) a) (F_X10_readsPerson (td B2 (c + 1) c s g v w)) := by
  have e1 : (rd B1 0 f c m).1 a 0 = B2.1 2 0 := by rw [rd_row (by omega)]; exact D.1.1
  obtain ⟨h1, h2⟩ := pz_nx hn hc hl
  have b7 := D.2.1.1
  rw [F_X8_readPerson, F_X10_readsPerson, e1, rd_3, rd_up3, td_2, m_fl]
  by_cases hp : B2.1 2 0 < 7
  · have hne : ¬ B2.1 2 0 = 7 := fun q => by rw [q] at hp; exact absurd hp (by decide)
    rw [if_pos hp, if_neg hne, F_X8_readPerson_tu32, F_X10_readsPerson_tu36, td_upo (by decide)]
    rcases nu (f := f) (m := m) (b := c) (s := s) (g := g) (v := v) (w := w) (x := 9) (Bs_2 (j := 0) (v := B2.1 2 0 + 1) h) hn h1 (3 + B2.1 2 0) (by decide) with ⟨k, p, e, q', s', g', v', r1, r2, hk⟩ | ⟨p, e, g', v', r1, r2, hv, he, hle⟩
    · rw [r1, r2]
      show Oc a t n S1 S2 f c (F_X8_readPerson_tu32c35 (rd B1 k p e p) a (-1)) (F_X10_readsPerson_tu36c39 0 (td (mm_up B2 2 0 (B2.1 2 0 + 1)) q' p s' g' v' k))
      rw [F_X8_readPerson_tu32c35, c_rsk hk, F_X10_readsPerson_tu36c39, if_pos rfl]
      show Oc a t n S1 S2 f c (F_X8_readPerson_tu32c35c42 0 (rd B1 k p e p) a (-1)) _
      rw [F_X8_readPerson_tu32c35c42, if_pos rfl]
      exact Or.inr ⟨_, _, k, p, _, _, _, _, _, _, rfl, rfl, hk, Bs_2 h⟩
    · rw [r1, r2]
      show Oc a t n S1 S2 f c (F_X8_readPerson_tu32c35 (rd B1 0 f e p) a v') (F_X10_readsPerson_tu36c39 1 (td (mm_up (mm_up B2 2 0 (B2.1 2 0 + 1)) 2 (3 + B2.1 2 0).toNatClampNeg v') e p 48 g' v' w))
      rw [F_X8_readPerson_tu32c35, F_X10_readsPerson_tu36c39, if_neg (by decide)]
      rcases en (f := f) (m := p) (b := p) (s := 48) (g := g') (v := v') (w := w) (Bs_2 (j := (3 + B2.1 2 0).toNatClampNeg) (v := v') (Bs_2 (j := 0) (v := B2.1 2 0 + 1) h)) hn he with ⟨e2, p2, q1, q2, q3, q4⟩ | ⟨p2, q', s', g2, v2, q1, q2⟩
      · rw [q1, q2]
        show Oc a t n S1 S2 f c (F_X8_readPerson_tu32c35c42 1 (rd B1 0 f e2 p) a v') (F_X10_readsPerson_tu36c39fc46 1 (td (mm_up (mm_up B2 2 0 (B2.1 2 0 + 1)) 2 (3 + B2.1 2 0).toNatClampNeg v') e2 p2 59 0 0 w))
        rw [F_X8_readPerson_tu32c35c42, if_neg (by decide), F_X8_readPerson_tu32c35c42fc50, F_X10_readsPerson_tu36c39fc46, if_neg (by decide), F_X6_addPerson]
        have e3 : (rd B1 0 f e2 p).1 a 0 = B2.1 2 0 := by rw [rd_row (by omega)]; exact D.1.1
        rw [e3, if_neg (fun q => lt_no hp q), rd_upo (by omega), rd_upo (by omega), rd_upo (by omega), rd_upo (by omega)]
        refine Or.inl ⟨_, _, e2, p, p2, 59, 0, 0, w, rfl, rfl, Dr_person ha D hp rfl, ?_, by omega, q4⟩
        exact Bs_1 ha (Bs_1 ha (Bs_1 ha (Bs_1 ha (Bs_2 (Bs_2 h)) ⟨by omega, by omega⟩) ⟨by omega, by omega⟩) ⟨by omega, by omega⟩) ⟨by omega, by omega⟩
      · rw [q1, q2]
        show Oc a t n S1 S2 f c (F_X8_readPerson_tu32c35c42 0 (rd B1 1 p2 p2 p) a v') (F_X10_readsPerson_tu36c39fc46 0 (td (mm_up (mm_up B2 2 0 (B2.1 2 0 + 1)) 2 (3 + B2.1 2 0).toNatClampNeg v') q' p2 s' g2 v2 1))
        rw [F_X8_readPerson_tu32c35c42, if_pos rfl, F_X10_readsPerson_tu36c39fc46, if_pos rfl]
        exact Or.inr ⟨_, _, 1, p2, _, _, _, _, _, _, rfl, rfl, by decide, Bs_2 (Bs_2 h)⟩
  · have heq : B2.1 2 0 = 7 := Int32.toInt_inj.mp (by have z : 7 ≤ (B2.1 2 0).toInt := Int32.le_iff_toInt_le.mp (bd_nlt hp); show (B2.1 2 0).toInt = 7; omega)
    rw [if_neg hp, if_pos heq, c_bl0, F_X8_readPerson_tu32c35c42fc50, F_X10_readsPerson_fc18]
    exact Or.inr ⟨_, _, 3, c, _, _, _, _, _, _, rfl, rfl, by decide, h⟩
end CL
/-! ===== doors, parts, wills ===== -/
section CL2
variable {a : Nat} {t : Nat → Int32} {n : Int32} {S1 S2 B1 B2 : mm_S} {f c m b s g v w x : Int32}
theorem Dr_door (ha : 3 ≤ a) (D : Dr a B1 B2) (hp : B2.1 2 1 < 6) {P : Int32} (e : B2.1 2 1 = P) : Dr a (mm_up (mm_up B1 (a + 4) P.toNatClampNeg v) a 1 (P + 1)) (mm_up (mm_up B2 2 1 (P + 1)) 2 (25 + P).toNatClampNeg v) := by
  obtain ⟨⟨d1, d2, d3, d4⟩, ⟨d5, d6, d7⟩, d8, d9, d10, d11⟩ := D
  rw [e] at d2 d6 d10 hp
  have hp7 : P.toInt < 6 := Int32.lt_iff_toInt_lt.mp hp
  have cP := pz_cl (x := P) d6.1
  have c3 : (25 + P).toNatClampNeg = 25 + P.toNatClampNeg := pz_addc (by decide) ⟨d6.1, by omega⟩
  have tP : (P + 1).toInt = P.toInt + 1 := pz_ti1 ⟨by omega, by omega⟩
  rw [c3]
  generalize P.toNatClampNeg = N at cP ⊢
  have r0 : (mm_up (mm_up B2 2 1 (P + 1)) 2 (25 + N) v).1 2 1 = P + 1 := by rw [up_ne (by omega), up_at]
  have ro : ∀ i, i ≠ 1 → i ≠ 25 + N → (mm_up (mm_up B2 2 1 (P + 1)) 2 (25 + N) v).1 2 i = B2.1 2 i := fun i h0 h3 => by rw [up_ne (by omega), up_ne (by omega)]
  have rv : (mm_up (mm_up B2 2 1 (P + 1)) 2 (25 + N) v).1 2 (25 + N) = v := up_at
  generalize mm_up (mm_up B2 2 1 (P + 1)) 2 (25 + N) v = C2 at r0 ro rv ⊢
  have rb : ∀ x i, ¬ (x = a ∧ i = 1) → ¬ (x = a + 4 ∧ i = N) → (mm_up (mm_up B1 (a + 4) N v) a 1 (P + 1)).1 x i = B1.1 x i := fun x i h0 h3 => by rw [up_ne h0, up_ne h3]
  have r1 : (mm_up (mm_up B1 (a + 4) N v) a 1 (P + 1)).1 a 1 = P + 1 := up_at
  have r4 : (mm_up (mm_up B1 (a + 4) N v) a 1 (P + 1)).1 (a + 4) N = v := by rw [up_ne (by omega), up_at]
  generalize mm_up (mm_up B1 (a + 4) N v) a 1 (P + 1) = C1 at rb r1 r4 ⊢
  refine ⟨⟨?_, ?_, ?_, ?_⟩, ⟨?_, ?_, ?_⟩, ?_, ?_, ?_, ?_⟩
  · rw [rb a 0 (by omega) (by omega), ro 0 (by omega) (by omega)]
    exact d1
  · rw [r1, r0]
  · rw [rb a 2 (by omega) (by omega), ro 2 (by omega) (by omega)]
    exact d3
  · rw [rb a 3 (by omega) (by omega), ro 24 (by omega) (by omega)]
    exact d4
  · rw [ro 0 (by omega) (by omega)]
    exact d5
  · rw [r0]
    exact ⟨by omega, by omega⟩
  · rw [ro 2 (by omega) (by omega)]
    exact d7
  · intro p hp2
    rw [ro 0 (by omega) (by omega)] at hp2
    rw [rb (a + 1) p (by omega) (by omega), rb (a + 2) p (by omega) (by omega), rb (a + 3) p (by omega) (by omega), ro (3 + p) (by omega) (by omega), ro (10 + p) (by omega) (by omega), ro (17 + p) (by omega) (by omega)]
    exact d8 p hp2
  · intro p h7 hp2
    rw [ro 0 (by omega) (by omega)] at hp2
    rw [ro (3 + p) (by omega) (by omega), ro (10 + p) (by omega) (by omega), ro (17 + p) (by omega) (by omega)]
    exact d9 p h7 hp2
  · intro p hp2
    rw [r0, tP] at hp2
    by_cases hN : p = N
    · rw [hN, rv, r4]
    · rw [ro (25 + p) (by omega) (by omega), rb (a + 4) p (by omega) (by omega)]
      exact d10 p (by omega)
  · intro p hp2
    rw [ro 2 (by omega) (by omega)] at hp2
    rw [ro (31 + p) (by omega) (by omega), rb (a + 5) p (by omega) (by omega)]
    exact d11 p hp2
theorem cl_door (ha : 3 ≤ a) (D : Dr a B1 B2) (h : Bs a t n S1 S2 B1 B2) (hn : pz_p n) (hc : pz_p c) (hl : c < n) : Oc a t n S1 S2 f c (F_X8_readDoor (rd B1 0 f c m) a) (F_X10_readsDoor (td B2 (c + 1) c s g v w)) := by
  have e1 : (rd B1 0 f c m).1 a 1 = B2.1 2 1 := by rw [rd_row (by omega)]; exact D.1.2.1
  obtain ⟨h1, h2⟩ := pz_nx hn hc hl
  have b7 := D.2.1.2.1
  rw [F_X8_readDoor, F_X10_readsDoor, e1, rd_3, rd_up3, td_2, m_fl]
  by_cases hp : B2.1 2 1 < 6
  · have hne : ¬ B2.1 2 1 = 6 := fun q => by rw [q] at hp; exact absurd hp (by decide)
    rw [if_pos hp, if_neg hne, F_X8_readDoor_tu32, F_X10_readsDoor_tu37, td_upo (by decide), nu_d]
    rcases nu (f := f) (m := m) (b := c) (s := s) (g := g) (v := v) (w := w) (x := 127) (Bs_2 (j := 1) (v := B2.1 2 1 + 1) h) hn h1 (25 + B2.1 2 1) (by decide) with ⟨k, p, e, q', s', g', v', r1, r2, hk⟩ | ⟨p, e, g', v', r1, r2, hv, he, hle⟩
    · rw [r1, r2]
      show Oc a t n S1 S2 f c (F_X8_readDoor_tu32c35 (rd B1 k p e p) a (-1)) (F_X10_readsDoor_tu37c40 0 (td (mm_up B2 2 1 (B2.1 2 1 + 1)) q' p s' g' v' k))
      rw [F_X8_readDoor_tu32c35, c_rsk hk, F_X10_readsDoor_tu37c40, if_pos rfl]
      show Oc a t n S1 S2 f c (F_X8_readDoor_tu32c35c42 0 (rd B1 k p e p) a (-1)) _
      rw [F_X8_readDoor_tu32c35c42, if_pos rfl]
      exact Or.inr ⟨_, _, k, p, _, _, _, _, _, _, rfl, rfl, hk, Bs_2 h⟩
    · rw [r1, r2]
      show Oc a t n S1 S2 f c (F_X8_readDoor_tu32c35 (rd B1 0 f e p) a v') (F_X10_readsDoor_tu37c40 1 (td (mm_up (mm_up B2 2 1 (B2.1 2 1 + 1)) 2 (25 + B2.1 2 1).toNatClampNeg v') e p 48 g' v' w))
      rw [F_X8_readDoor_tu32c35, F_X10_readsDoor_tu37c40, if_neg (by decide)]
      rcases en (f := f) (m := p) (b := p) (s := 48) (g := g') (v := v') (w := w) (Bs_2 (j := (25 + B2.1 2 1).toNatClampNeg) (v := v') (Bs_2 (j := 1) (v := B2.1 2 1 + 1) h)) hn he with ⟨e2, p2, q1, q2, q3, q4⟩ | ⟨p2, q', s', g2, v2, q1, q2⟩
      · rw [q1, q2]
        show Oc a t n S1 S2 f c (F_X8_readDoor_tu32c35c42 1 (rd B1 0 f e2 p) a v') (F_X10_readsDoor_tu37c40fc47 1 (td (mm_up (mm_up B2 2 1 (B2.1 2 1 + 1)) 2 (25 + B2.1 2 1).toNatClampNeg v') e2 p2 59 0 0 w))
        rw [F_X8_readDoor_tu32c35c42, if_neg (by decide), F_X8_readDoor_tu32c35c42fc50, F_X10_readsDoor_tu37c40fc47, if_neg (by decide), F_X6_addDoor]
        have e3 : (rd B1 0 f e2 p).1 a 1 = B2.1 2 1 := by rw [rd_row (by omega)]; exact D.1.2.1
        rw [e3, if_neg (fun q => lt_no hp q), rd_upo (by omega), rd_upo (by omega)]
        refine Or.inl ⟨_, _, e2, p, p2, 59, 0, 0, w, rfl, rfl, Dr_door ha D hp rfl, ?_, by omega, q4⟩
        exact Bs_1 ha (Bs_1 ha (Bs_2 (Bs_2 h)) ⟨by omega, by omega⟩) ⟨by omega, by omega⟩
      · rw [q1, q2]
        show Oc a t n S1 S2 f c (F_X8_readDoor_tu32c35c42 0 (rd B1 1 p2 p2 p) a v') (F_X10_readsDoor_tu37c40fc47 0 (td (mm_up (mm_up B2 2 1 (B2.1 2 1 + 1)) 2 (25 + B2.1 2 1).toNatClampNeg v') q' p2 s' g2 v2 1))
        rw [F_X8_readDoor_tu32c35c42, if_pos rfl, F_X10_readsDoor_tu37c40fc47, if_pos rfl]
        exact Or.inr ⟨_, _, 1, p2, _, _, _, _, _, _, rfl, rfl, by decide, Bs_2 (Bs_2 h)⟩
  · have heq : B2.1 2 1 = 6 := Int32.toInt_inj.mp (by have z : 6 ≤ (B2.1 2 1).toInt := Int32.le_iff_toInt_le.mp (bd_nlt hp); show (B2.1 2 1).toInt = 6; omega)
    rw [if_neg hp, if_pos heq, c_bl0, F_X8_readDoor_tu32c35c42fc50, F_X10_readsDoor_fc18]
    exact Or.inr ⟨_, _, 3, c, _, _, _, _, _, _, rfl, rfl, by decide, h⟩
/-! parts -/
theorem Dr_part (ha : 3 ≤ a) (D : Dr a B1 B2) (hp : B2.1 2 2 < 6) {P : Int32} (e : B2.1 2 2 = P) : Dr a (mm_up (mm_up B1 (a + 5) P.toNatClampNeg v) a 2 (P + 1)) (mm_up (mm_up B2 2 (31 + P).toNatClampNeg v) 2 2 (P + 1)) := by
  obtain ⟨⟨d1, d2, d3, d4⟩, ⟨d5, d6, d7⟩, d8, d9, d10, d11⟩ := D
  rw [e] at d3 d7 d11 hp
  have hp7 : P.toInt < 6 := Int32.lt_iff_toInt_lt.mp hp
  have cP := pz_cl (x := P) d7.1
  have c3 : (31 + P).toNatClampNeg = 31 + P.toNatClampNeg := pz_addc (by decide) ⟨d7.1, by omega⟩
  have tP : (P + 1).toInt = P.toInt + 1 := pz_ti1 ⟨by omega, by omega⟩
  rw [c3]
  generalize P.toNatClampNeg = N at cP ⊢
  have r0 : (mm_up (mm_up B2 2 (31 + N) v) 2 2 (P + 1)).1 2 2 = P + 1 := up_at
  have ro : ∀ i, i ≠ 2 → i ≠ 31 + N → (mm_up (mm_up B2 2 (31 + N) v) 2 2 (P + 1)).1 2 i = B2.1 2 i := fun i h0 h3 => by rw [up_ne (by omega), up_ne (by omega)]
  have rv : (mm_up (mm_up B2 2 (31 + N) v) 2 2 (P + 1)).1 2 (31 + N) = v := by rw [up_ne (by omega), up_at]
  generalize mm_up (mm_up B2 2 (31 + N) v) 2 2 (P + 1) = C2 at r0 ro rv ⊢
  have rb : ∀ x i, ¬ (x = a ∧ i = 2) → ¬ (x = a + 5 ∧ i = N) → (mm_up (mm_up B1 (a + 5) N v) a 2 (P + 1)).1 x i = B1.1 x i := fun x i h0 h3 => by rw [up_ne h0, up_ne h3]
  have r1 : (mm_up (mm_up B1 (a + 5) N v) a 2 (P + 1)).1 a 2 = P + 1 := up_at
  have r4 : (mm_up (mm_up B1 (a + 5) N v) a 2 (P + 1)).1 (a + 5) N = v := by rw [up_ne (by omega), up_at]
  generalize mm_up (mm_up B1 (a + 5) N v) a 2 (P + 1) = C1 at rb r1 r4 ⊢
  refine ⟨⟨?_, ?_, ?_, ?_⟩, ⟨?_, ?_, ?_⟩, ?_, ?_, ?_, ?_⟩
  · rw [rb a 0 (by omega) (by omega), ro 0 (by omega) (by omega)]
    exact d1
  · rw [rb a 1 (by omega) (by omega), ro 1 (by omega) (by omega)]
    exact d2
  · rw [r1, r0]
  · rw [rb a 3 (by omega) (by omega), ro 24 (by omega) (by omega)]
    exact d4
  · rw [ro 0 (by omega) (by omega)]
    exact d5
  · rw [ro 1 (by omega) (by omega)]
    exact d6
  · rw [r0]
    exact ⟨by omega, by omega⟩
  · intro p hp2
    rw [ro 0 (by omega) (by omega)] at hp2
    rw [rb (a + 1) p (by omega) (by omega), rb (a + 2) p (by omega) (by omega), rb (a + 3) p (by omega) (by omega), ro (3 + p) (by omega) (by omega), ro (10 + p) (by omega) (by omega), ro (17 + p) (by omega) (by omega)]
    exact d8 p hp2
  · intro p h7 hp2
    rw [ro 0 (by omega) (by omega)] at hp2
    rw [ro (3 + p) (by omega) (by omega), ro (10 + p) (by omega) (by omega), ro (17 + p) (by omega) (by omega)]
    exact d9 p h7 hp2
  · intro p hp2
    rw [ro 1 (by omega) (by omega)] at hp2
    rw [ro (25 + p) (by omega) (by omega), rb (a + 4) p (by omega) (by omega)]
    exact d10 p hp2
  · intro p hp2
    rw [r0, tP] at hp2
    by_cases hN : p = N
    · rw [hN, rv, r4]
    · rw [ro (31 + p) (by omega) (by omega), rb (a + 5) p (by omega) (by omega)]
      exact d11 p (by omega)
/-- behind a fault the choir reads on to no end -/
theorem ch_bad (ha : 3 ≤ a) {k : Int32} (hk : ¬ k = 0) (N : Nat) (y : Int32) : F_X8_readChoir_L39 a (N + 1) (rd B1 k f c m) y = rd B1 k f c m := by
  rw [F_X8_readChoir_L39]
  split
  · rw [c_rsk hk, F_X8_readChoir_L39tc86]
  · rw [c_ink hk, F_X8_readChoir_L39fc51, if_pos rfl, c_rsk hk, F_X8_readChoir_L39tc86]
theorem ch_add (ha : 3 ≤ a) {k v : Int32} : ∃ C1, F_X6_addPart (rd B1 k f c m) a v = rd C1 k f c m ∧ (∀ B2, Bs a t n S1 S2 B1 B2 → Bs a t n S1 S2 C1 B2) := by
  rw [F_X6_addPart]
  split
  · exact ⟨B1, rfl, fun _ h => h⟩
  · rw [rd_upo (by omega), rd_upo (by omega)]
    exact ⟨_, rfl, fun _ h => Bs_1 ha (Bs_1 ha h ⟨by omega, by omega⟩) ⟨by omega, by omega⟩⟩
/-- from a number of a part on: k parts stand, N rounds are left on both sides -/
theorem ch_L (ha : 3 ≤ a) (hn : pz_p n) : ∀ (N M : Nat) (B1 B2 : mm_S) (c m b s g v w : Int32), Dr a B1 B2 → Bs a t n S1 S2 B1 B2 → pz_p c → B2.1 2 2 < 6 → (6 - (B2.1 2 2).toInt).toNat ≤ N → (6 - (B2.1 2 2).toInt).toNat ≤ M → ∀ y : Int32, y.toInt = (B2.1 2 2).toInt + 1 → ∀ c0 : Int32, c0.toInt < c.toInt →
    Oc a t n S1 S2 f c0 (F_X8_readChoir_L39 a (N + 1) (F_X6_addPart (F_X8_readNumber (rd B1 0 f c m) 8).2 a (F_X8_readNumber (rd B1 0 f c m) 8).1) y) (F_X10_readsParts_L15 (M + 1) (td B2 c b s g v w)) := by
  intro N
  induction N with
  | zero =>
    intro M B1 B2 c m b s g v w D h hc hp hN
    have := Int32.lt_iff_toInt_lt.mp hp
    have : (B2.1 2 2).toInt < 6 := this
    omega
  | succ N ih =>
    intro M B1 B2 c m b s g v w D h hc hp hN hM y hy c0 hc0
    have hp6 : (B2.1 2 2).toInt < 6 := Int32.lt_iff_toInt_lt.mp hp
    have d7 := D.2.1.2.2
    rw [F_X10_readsParts_L15, td_2, nu_p]
    rcases nu (f := f) (m := m) (b := b) (s := s) (g := g) (v := v) (w := w) (x := 8) h hn hc (31 + B2.1 2 2) (by decide) with ⟨k, p, e, q', s', g', v', r1, r2, hk⟩ | ⟨p, e, g', v', r1, r2, hv, he, hle⟩
    · rw [r1, r2]
      show Oc a t n S1 S2 f c0 (F_X8_readChoir_L39 a (N + 1 + 1) (F_X6_addPart (rd B1 k p e p) a (-1)) y) (F_X10_readsParts_L15c31 0 (td B2 q' p s' g' v' k) _ _)
      obtain ⟨C1, hC, hB⟩ := ch_add (B1 := B1) (f := p) (c := e) (m := p) (t := t) (n := n) (S1 := S1) (S2 := S2) ha (k := k) (v := -1)
      rw [hC, ch_bad ha hk, F_X10_readsParts_L15c31, if_pos rfl]
      exact Or.inr ⟨_, _, k, p, _, _, _, _, _, _, rfl, rfl, hk, hB _ h⟩
    · rw [r1, r2]
      show Oc a t n S1 S2 f c0 (F_X8_readChoir_L39 a (N + 1 + 1) (F_X6_addPart (rd B1 0 f e p) a v') y) (F_X10_readsParts_L15c31 1 (td (mm_up B2 2 (31 + B2.1 2 2).toNatClampNeg v') e p 48 g' v' w) (B2.1 2 2) _)
      rw [F_X10_readsParts_L15c31, if_neg (by decide), F_X10_readsParts_L15c31fu45, td_upo (by decide), F_X6_addPart]
      have e3 : (rd B1 0 f e p).1 a 2 = B2.1 2 2 := by rw [rd_row (by omega)]; exact D.1.2.2.1
      rw [e3, if_neg (fun q => lt_no hp q), rd_upo (by omega), rd_upo (by omega)]
      have D' := Dr_part (v := v') ha D hp rfl
      have h' : Bs a t n S1 S2 (mm_up (mm_up B1 (a + 5) (B2.1 2 2).toNatClampNeg v') a 2 (B2.1 2 2 + 1)) (mm_up (mm_up B2 2 (31 + B2.1 2 2).toNatClampNeg v') 2 2 (B2.1 2 2 + 1)) := Bs_1 ha (Bs_1 ha (Bs_2 (Bs_2 h)) ⟨by omega, by omega⟩) ⟨by omega, by omega⟩
      have tP : (B2.1 2 2 + 1).toInt = (B2.1 2 2).toInt + 1 := pz_ti1 ⟨by omega, by omega⟩
      have r22 : (mm_up (mm_up B2 2 (31 + B2.1 2 2).toNatClampNeg v') 2 2 (B2.1 2 2 + 1)).1 2 2 = B2.1 2 2 + 1 := up_at
      generalize B2.1 2 2 = P at *
      generalize mm_up (mm_up B2 2 (31 + P).toNatClampNeg v') 2 2 (P + 1) = C2 at *
      generalize mm_up (mm_up B1 (a + 5) P.toNatClampNeg v') a 2 (P + 1) = C1 at *
      rw [tk_2 h' hn he]
      obtain ⟨hb, hle2⟩ := skb (t := t) hn he
      have hyP : y = P + 1 := Int32.toInt_inj.mp (by omega)
      rw [F_X8_readChoir_L39]
      -- what stands behind the number
      have fin : ¬ hr t n (sk t n e) = 44 ∨ (6 : Int32) ≤ y → Oc a t n S1 S2 f c0 (F_X8_readChoir_L39tc86 (F_X8_readSign (rd C1 0 f e p) 59).2) (F_X10_readsParts_L15c31fu45c48 (stq t n C2 w (sk t n e)) (P + 1) (F_X10_readsParts_L15 M)) := by
        intro hz
        rw [tk_s h', F_X8_readChoir_L39tc86]
        by_cases d : hr t n (sk t n e) = 59
        · have d2 : ¬ mm_b 48 57 (hr t n (sk t n e)) := by rw [d]; decide
          obtain ⟨h1, h2⟩ := pz_nx hn hb (hr_lt (t := t) (by rw [d]; decide))
          rw [if_pos d, stq_l d2, F_X10_readsParts_L15c31fu45c48, td_20, if_pos d, d]
          exact Or.inl ⟨_, _, _, p, _, _, _, _, w, rfl, rfl, D', h', by show c0.toInt < (sk t n e + 1).toInt; omega, h1⟩
        · rw [if_neg d]
          by_cases d2 : mm_b 48 57 (hr t n (sk t n e))
          · rw [stq_d d2, F_X10_readsParts_L15c31fu45c48, td_20, if_neg (by decide), if_neg (by decide), m_fl, F_X10_readsParts_L15c31fu45c48ttc84]
            exact Or.inr ⟨_, _, 1, _, _, _, _, _, _, _, rfl, rfl, by decide, h'⟩
          · rw [stq_l d2, F_X10_readsParts_L15c31fu45c48, td_20, if_neg d, m_fl, F_X10_readsParts_L15c31fu45c48ttc84]
            by_cases d4 : hr t n (sk t n e) = 44
            · have hP6 : P + 1 = 6 := by
                have : (6 : Int) ≤ y.toInt := Int32.le_iff_toInt_le.mp (hz.resolve_left (fun q => q d4))
                exact Int32.toInt_inj.mp (by show (P + 1).toInt = 6; omega)
              rw [if_pos d4, if_pos hP6]
              exact Or.inr ⟨_, _, 1, _, _, _, _, _, _, _, rfl, rfl, by decide, h'⟩
            · rw [if_neg d4]
              exact Or.inr ⟨_, _, 1, _, _, _, _, _, _, _, rfl, rfl, by decide, h'⟩
      by_cases hy6 : (6 : Int32) ≤ y
      · rw [if_pos hy6]
        exact fin (Or.inr hy6)
      · rw [if_neg hy6, tk_i h']
        by_cases d4 : hr t n (sk t n e) = 44
        · rw [if_pos d4]
          show Oc a t n S1 S2 f c0 (F_X8_readChoir_L39fc51 1 (rd C1 0 f (sk t n e) p) (F_X8_readChoir_L39 a (N + 1)) a y) _
          have d2 : ¬ mm_b 48 57 (hr t n (sk t n e)) := by rw [d4]; decide
          obtain ⟨h1, h2⟩ := pz_nx hn hb (hr_lt (t := t) (by rw [d4]; decide))
          have hy5 : y.toInt < 6 := Int32.lt_iff_toInt_lt.mp (bd_nle hy6)
          have hP6 : ¬ P + 1 = 6 := fun q => by rw [q] at tP; have : (6 : Int32).toInt = 6 := rfl; omega
          rw [F_X8_readChoir_L39fc51, if_neg (by decide), F_X8_readChoir_L39fc51fu68, F_X8_readChoir_L39fc51fu68c71, F_X8_readChoir_L39fc51fu68c71c74, rd_up3, rd_3, stq_l d2, F_X10_readsParts_L15c31fu45c48, td_20, d4, if_neg (by decide), if_pos rfl, if_neg hP6]
          obtain ⟨M, rfl⟩ : ∃ M', M = M' + 1 := ⟨M - 1, by omega⟩
          have ty : (y + Int32.ofInt 1).toInt = y.toInt + 1 := by rw [pz_of1]; exact pz_ti1 ⟨by omega, by omega⟩
          exact ih M C1 C2 (sk t n e + 1) p (sk t n e) 44 0 0 w D' h' h1 (by rw [r22]; exact Int32.lt_iff_toInt_lt.mpr (by show (P + 1).toInt < 6; omega)) (by rw [r22]; omega) (by rw [r22]; omega) (y + Int32.ofInt 1) (by rw [r22]; omega) c0 (by omega)
        · rw [if_neg d4]
          show Oc a t n S1 S2 f c0 (F_X8_readChoir_L39fc51 0 (rd C1 0 f (sk t n e) p) (F_X8_readChoir_L39 a (N + 1)) a y) _
          rw [F_X8_readChoir_L39fc51, if_pos rfl]
          have z := fin (Or.inl d4)
          rw [tk_s h'] at z ⊢
          rw [sk_sk hn he]
          exact z
end CL2
section CL30
variable {a : Nat} {t : Nat → Int32} {n : Int32} {S1 S2 B1 B2 : mm_S} {f c m b s g v w x : Int32}
theorem cl_choir (ha : 3 ≤ a) (D : Dr a B1 B2) (h : Bs a t n S1 S2 B1 B2) (hn : pz_p n) (hc : pz_p c) (hl : c < n) : Oc a t n S1 S2 f c (F_X8_readChoir (rd B1 0 f c m) a) (F_X10_readsParts (td B2 (c + 1) c s g v w)) := by
  have e1 : (rd B1 0 f c m).1 a 2 = B2.1 2 2 := by rw [rd_row (by omega)]; exact D.1.2.2.1
  obtain ⟨h1, h2⟩ := pz_nx hn hc hl
  have b7 := D.2.1.2.2
  rw [F_X8_readChoir, F_X10_readsParts, e1, rd_3, rd_up3, td_2, m_fl]
  by_cases hp : B2.1 2 2 ≤ 0
  · have hp0 : (B2.1 2 2).toInt ≤ 0 := Int32.le_iff_toInt_le.mp hp
    rw [if_pos hp, if_pos hp, F_X8_readChoir_tu31, F_X8_readChoir_tu31c34, F_X8_readChoir_tu31c34c37]
    exact ch_L ha hn 6 6 B1 B2 (c + 1) m c s g v w D h h1 (Int32.lt_iff_toInt_lt.mpr (by show (B2.1 2 2).toInt < 6; omega)) (by omega) (by omega) 1 (by show (1 : Int) = _; omega) c (by omega)
  · rw [if_neg hp, if_neg hp, c_bl0, F_X8_readChoir_L39tc86, F_X10_readsParts_L15c31fu45c48ttc84]
    exact Or.inr ⟨_, _, 3, c, _, _, _, _, _, _, rfl, rfl, by decide, h⟩
/-! behind a fault -/
theorem wl_h {k : Int32} (hk : ¬ k = 0) : F_X8_readHeir (rd B1 k f c m) a x = (-1, rd B1 k f c m) := by
  rw [F_X8_readHeir, c_rnk hk, F_X8_readHeir_c6, c_isk hk, if_pos rfl]
theorem wl_58 {k y z : Int32} (hk : ¬ k = 0) : F_X8_readWill_u17c20tc51c58 (rd B1 k f c m) a x y z = rd B1 k f c m := by
  rw [F_X8_readWill_u17c20tc51c58, c_rsk hk, F_X8_readWill_u17c20tc51c58c66, if_pos rfl]
theorem wl_51 {k y : Int32} (hk : ¬ k = 0) : F_X8_readWill_u17c20tc51 (rd B1 k f c m) a x y = rd B1 k f c m := by
  rw [F_X8_readWill_u17c20tc51, wl_h hk]
  exact wl_58 hk
theorem wl_45 {k : Int32} (hk : ¬ k = 0) : F_X8_readWill_u17c20ffc45 (rd B1 k f c m) a x = rd B1 k f c m := by
  rw [F_X8_readWill_u17c20ffc45, wl_h hk]
  exact wl_51 hk
theorem wl_20 {k : Int32} (hk : ¬ k = 0) : F_X8_readWill_u17c20 (rd B1 k f c m) a x = rd B1 k f c m := by
  rw [F_X8_readWill_u17c20, c_isk hk, if_pos rfl, wl_h hk]
  exact wl_51 hk
theorem pz_sub1 {P : Int32} (h : mm_b 0 7 P) : (P - 1).toInt = P.toInt - 1 := by
  rw [bd_ti_sub (by show -2147483648 ≤ P.toInt - 1; omega) (by show P.toInt - 1 ≤ 2147483647; omega)]
  rfl
end CL30
section CL31
variable {a : Nat} {t : Nat → Int32} {n : Int32} {S1 S2 B1 B2 : mm_S} {f c m b s g v w x : Int32}
/-- whose will, read by both -/
theorem t0 (h : Bs a t n S1 S2 B1 B2) (hn : pz_p n) (hc : pz_p c) (hP : mm_b 0 7 (B2.1 2 0)) :
    (∃ (k p e q' s' g' v' : Int32), F_X8_readNumber (rd B1 0 f c m) (B2.1 2 0 - 1) = (-1, rd B1 k p e p) ∧ F_X10_isTold_0 (td B2 c b s g v w) 0 = (0, td B2 q' p s' g' v' k) ∧ ¬ k = 0) ∨
    (∃ (p e g' v' : Int32), F_X8_readNumber (rd B1 0 f c m) (B2.1 2 0 - 1) = (v', rd B1 0 f e p) ∧ F_X10_isTold_0 (td B2 c b s g v w) 0 = (1, td B2 e p 48 g' v' w) ∧ 0 ≤ v'.toInt ∧ v'.toInt < (B2.1 2 0).toInt ∧ pz_p e ∧ c.toInt ≤ e.toInt) := by
  obtain ⟨hb, hle⟩ := skb (t := t) hn hc
  have tP := pz_sub1 hP
  rw [tk_1 h hn hc, F_X10_isTold_0, tk_2 h hn hc]
  generalize sk t n c = p at hb hle ⊢
  by_cases d : mm_b 48 57 (hr t n p)
  · rw [stq_d d, F_X10_isTold_0_c4, td_20, if_pos rfl, td_21, td_22, td_2]
    obtain ⟨b1, b2, b3, b4⟩ := nm_b (t := t) hn hb
    have g1 := nm_yes hn hb d
    generalize nm t n p = r at b1 b2 b3 b4 g1 ⊢
    obtain ⟨e, g', v'⟩ := r
    dsimp only at b1 b2 b3 b4 g1 ⊢
    have z : ¬ g' = 0 := fun q => by rw [q] at g1; exact absurd g1 (by decide)
    rw [rnE]
    dsimp only
    rw [if_neg z, m_fl, F_X10_isTold_0_c4ttc68]
    by_cases h3 : 3 < g'
    · have h4 : (4 : Int32) ≤ g' := Int32.le_iff_toInt_le.mpr (by have : (3 : Int) < g'.toInt := Int32.lt_iff_toInt_lt.mp h3; show (4 : Int) ≤ g'.toInt; omega)
      rw [if_pos h3, if_pos h4]
      exact Or.inl ⟨2, p, e, _, _, _, _, rfl, rfl, by decide⟩
    · have h4 : ¬ (4 : Int32) ≤ g' := fun q => h3 (Int32.lt_iff_toInt_lt.mpr (by have : (4 : Int) ≤ g'.toInt := Int32.le_iff_toInt_le.mp q; show (3 : Int) < g'.toInt; omega))
      rw [if_neg h3, if_neg h4]
      by_cases hv : v' ≤ B2.1 2 0 - 1
      · have hv2 := Int32.le_iff_toInt_le.mp hv
        rw [if_pos hv, if_pos (Int32.lt_iff_toInt_lt.mpr (by omega))]
        exact Or.inr ⟨p, e, g', v', rfl, rfl, b4.1, by omega, b1, by omega⟩
      · have hv3 : ¬ v' < B2.1 2 0 := fun q => hv (Int32.le_iff_toInt_le.mpr (by have := Int32.lt_iff_toInt_lt.mp q; omega))
        rw [if_neg hv, if_neg hv3]
        exact Or.inl ⟨2, p, e, _, _, _, _, rfl, rfl, by decide⟩
  · rw [stq_l d, nm_no d, F_X10_isTold_0_c4, td_20, if_neg (no48 d), m_fl, F_X10_isTold_0_c4fc18]
    exact Or.inl ⟨1, p, p, _, _, _, _, rfl, rfl, by decide⟩
end CL31
section CL32
variable {a : Nat} {t : Nat → Int32} {n : Int32} {S1 S2 B1 B2 : mm_S} {f c m b s g v w x : Int32}
theorem one0 : ¬ (1 : Int32) = 0 := by decide
/-- an heir, read by both: the class behind its number -/
theorem hc_k {k z : Int32} (hk : ¬ k = 0) : F_X8_readHeir_c6 (rd B1 k f c m) z a x = (z, rd B1 k f c m) := by
  rw [F_X8_readHeir_c6, c_isk hk, if_pos rfl]
theorem hc_p (ha : 3 ≤ a) {z P : Int32} (hE : B1.1 a 0 = P) (hz : 0 ≤ z.toInt) : F_X6_hasPerson (rd B1 0 f c m) a z = if P ≤ z then 0 else 1 := by
  have e0 : (rd B1 0 f c m).1 a 0 = P := by rw [rd_row (by omega)]; exact hE
  have n0 : ¬ z < 0 := fun q => absurd (Int32.lt_iff_toInt_lt.mp q) (by show ¬ z.toInt < 0; omega)
  rw [F_X6_hasPerson, e0, if_neg n0]
theorem hc_9 : F_X8_readHeir_c6 (rd B1 0 f c m) 9 a x = (9, rd B1 0 f c m) := by
  rw [F_X8_readHeir_c6, c_is0, if_neg (by decide), if_pos rfl]
theorem hc_2 (ha : 3 ≤ a) {z P : Int32} (hE : B1.1 a 0 = P) (hz : 0 ≤ z.toInt) (h9 : ¬ z = 9) (hq : P ≤ z) : F_X8_readHeir_c6 (rd B1 0 f c m) z a x = (z, rd B1 2 m c m) := by
  rw [F_X8_readHeir_c6, c_is0, if_neg (by decide), if_neg h9, hc_p ha hE hz, if_pos hq, if_pos rfl, c_bl0, rd_4, F_X8_readHeir_c6fftfc54]
theorem hc_4 (ha : 3 ≤ a) {z P : Int32} (hE : B1.1 a 0 = P) (hz : 0 ≤ z.toInt) (h9 : ¬ z = 9) (hq : ¬ P ≤ z) (hx : z = x) : F_X8_readHeir_c6 (rd B1 0 f c m) z a x = (z, rd B1 4 m c m) := by
  rw [F_X8_readHeir_c6, c_is0, if_neg (by decide), if_neg h9, hc_p ha hE hz, if_neg hq, if_neg (by decide), if_pos hx, c_bl0, rd_4, F_X8_readHeir_c6fftfc54]
theorem hc_0 (ha : 3 ≤ a) {z P : Int32} (hE : B1.1 a 0 = P) (hz : 0 ≤ z.toInt) (h9 : ¬ z = 9) (hq : ¬ P ≤ z) (hx : ¬ z = x) : F_X8_readHeir_c6 (rd B1 0 f c m) z a x = (z, rd B1 0 f c m) := by
  rw [F_X8_readHeir_c6, c_is0, if_neg (by decide), if_neg h9, hc_p ha hE hz, if_neg hq, if_neg (by decide), if_neg hx]
theorem tw_no {T : Int32 × mm_S} {S' : mm_S} {pp y : Int32} {K : mm_S → Int32 → Int32 → Int32 × mm_S} (h : T = (0, S')) : F_X10_readsWill_L50fc60 T.1 T.2 pp K y = (0, S') := by
  rw [h, F_X10_readsWill_L50fc60, if_pos rfl]
theorem tw_4 {T : Int32 × mm_S} {pp y : Int32} {K : mm_S → Int32 → Int32 → Int32 × mm_S} (h : T = (1, td B2 c b s g v w)) (hv : v = pp) : F_X10_readsWill_L50fc60 T.1 T.2 pp K y = (0, td B2 c b s g v 4) := by
  rw [h]
  show F_X10_readsWill_L50fc60 1 (td B2 c b s g v w) pp K y = _
  rw [F_X10_readsWill_L50fc60, if_neg one0, td_22, if_pos hv, m_fl, F_X10_readsWill_L50tc107]
theorem tw_ok {T : Int32 × mm_S} {pp y : Int32} {K : mm_S → Int32 → Int32 → Int32 × mm_S} (h : T = (1, td B2 c b s g v w)) (hv : ¬ v = pp) : F_X10_readsWill_L50fc60 T.1 T.2 pp K y = K (td (mm_up B2 2 ((((10 : Int32) + ((7 : Int32) * y)) + pp)).toNatClampNeg v) c b s g v w) pp (y + Int32.ofInt 1) := by
  rw [h]
  show F_X10_readsWill_L50fc60 1 (td B2 c b s g v w) pp K y = _
  rw [F_X10_readsWill_L50fc60, if_neg one0, td_22, if_neg hv, td_upo (by decide)]
theorem ti_2 {g' v' : Int32} (h : (4 : Int32) ≤ g' ∨ (¬ v' < B2.1 2 0 ∧ ¬ v' = 9)) : F_X10_isTold_1_c4 (td B2 c b 48 g' v' w) = (0, td B2 c b 48 g' v' 2) := by
  rw [F_X10_isTold_1_c4, td_20, if_pos rfl, td_21, td_22, td_2, m_fl, F_X10_isTold_1_c4ttc68]
  by_cases q : (4 : Int32) ≤ g'
  · rw [if_pos q]
  · have z := h.resolve_left q
    rw [if_neg q, if_neg z.1, if_neg z.2]
theorem ti_1 {g' v' : Int32} (h : ¬ (4 : Int32) ≤ g') (hv : v' < B2.1 2 0 ∨ v' = 9) : F_X10_isTold_1_c4 (td B2 c b 48 g' v' w) = (1, td B2 c b 48 g' v' w) := by
  rw [F_X10_isTold_1_c4, td_20, if_pos rfl, td_21, td_22, td_2, if_neg h]
  by_cases q : v' < B2.1 2 0
  · rw [if_pos q]
  · rw [if_neg q, if_pos (hv.resolve_left q)]
end CL32
section CL33
variable {a : Nat} {t : Nat → Int32} {n : Int32} {S1 S2 B1 B2 : mm_S} {f c m b s g v w x : Int32}
theorem t1 (ha : 3 ≤ a) (h : Bs a t n S1 S2 B1 B2) (hn : pz_p n) (hc : pz_p c) (hP : mm_b 0 7 (B2.1 2 0)) (hE : B1.1 a 0 = B2.1 2 0) (pp y : Int32) (hpp : 0 ≤ pp.toInt ∧ pp.toInt < (B2.1 2 0).toInt) (K : mm_S → Int32 → Int32 → Int32 × mm_S) :
    (∃ (k p e z q' s' g' v' : Int32), F_X8_readHeir (rd B1 0 f c m) a pp = (z, rd B1 k p e p) ∧ F_X10_readsWill_L50fc60 (F_X10_isTold_1 (td B2 c b s g v w) 1).1 (F_X10_isTold_1 (td B2 c b s g v w) 1).2 pp K y = (0, td B2 q' p s' g' v' k) ∧ ¬ k = 0) ∨
    (∃ (p e g' v' : Int32), F_X8_readHeir (rd B1 0 f c m) a pp = (v', rd B1 0 f e p) ∧ F_X10_readsWill_L50fc60 (F_X10_isTold_1 (td B2 c b s g v w) 1).1 (F_X10_isTold_1 (td B2 c b s g v w) 1).2 pp K y = K (td (mm_up B2 2 ((((10 : Int32) + ((7 : Int32) * y)) + pp)).toNatClampNeg v') e p 48 g' v' w) pp (y + Int32.ofInt 1) ∧ pz_p e ∧ c.toInt ≤ e.toInt) := by
  obtain ⟨hb, hle⟩ := skb (t := t) hn hc
  have eT : F_X10_isTold_1 (td B2 c b s g v w) 1 = F_X10_isTold_1_c4 (stq t n B2 w (sk t n c)) := by rw [F_X10_isTold_1, tk_2 h hn hc]
  have eC : F_X8_readHeir (rd B1 0 f c m) a pp = F_X8_readHeir_c6 (rnE B1 f (sk t n c) 9 (nm t n (sk t n c))).2 (rnE B1 f (sk t n c) 9 (nm t n (sk t n c))).1 a pp := by rw [F_X8_readHeir, tk_1 h hn hc]
  generalize F_X10_isTold_1 (td B2 c b s g v w) 1 = T at eT ⊢
  generalize F_X8_readHeir (rd B1 0 f c m) a pp = C at eC ⊢
  generalize sk t n c = p at hb hle eT eC
  by_cases d : mm_b 48 57 (hr t n p)
  · rw [stq_d d] at eT
    obtain ⟨b1, b2, b3, b4⟩ := nm_b (t := t) hn hb
    have g1 := nm_yes hn hb d
    generalize nm t n p = r at b1 b2 b3 b4 g1 eT eC
    obtain ⟨e, g', v'⟩ := r
    dsimp only at b1 b2 b3 b4 g1 eT
    have z : ¬ g' = 0 := fun q => by rw [q] at g1; exact absurd g1 (by decide)
    have eR : rnE B1 f p 9 (e, g', v') = if 3 < g' then (-1, rd B1 2 p e p) else if v' ≤ 9 then (v', rd B1 0 f e p) else (-1, rd B1 2 p e p) := by
      rw [rnE]
      exact if_neg z
    by_cases h3 : 3 < g'
    · have h4 : (4 : Int32) ≤ g' := Int32.le_iff_toInt_le.mpr (by have : (3 : Int) < g'.toInt := Int32.lt_iff_toInt_lt.mp h3; show (4 : Int) ≤ g'.toInt; omega)
      rw [if_pos h3] at eR
      rw [eR] at eC
      rw [ti_2 (Or.inl h4)] at eT
      exact Or.inl ⟨2, p, e, -1, _, _, _, _, eC.trans (hc_k (by decide)), tw_no eT, by decide⟩
    · have h4 : ¬ (4 : Int32) ≤ g' := fun q => h3 (Int32.lt_iff_toInt_lt.mpr (by have : (4 : Int) ≤ g'.toInt := Int32.le_iff_toInt_le.mp q; show (3 : Int) < g'.toInt; omega))
      rw [if_neg h3] at eR
      by_cases hv : v' ≤ 9
      · have hv2 : v'.toInt ≤ 9 := Int32.le_iff_toInt_le.mp hv
        rw [if_pos hv] at eR
        rw [eR] at eC
        by_cases h9 : v' = 9
        · have n2 : ¬ v' = pp := fun q => by rw [← q, h9] at hpp; have : (9 : Int) < (B2.1 2 0).toInt := hpp.2; omega
          rw [ti_1 h4 (Or.inr h9)] at eT
          refine Or.inr ⟨p, e, g', v', eC.trans ?_, tw_ok eT n2, b1, by omega⟩
          show F_X8_readHeir_c6 (rd B1 0 f e p) v' a pp = _
          rw [h9]
          exact hc_9
        · by_cases hq : B2.1 2 0 ≤ v'
          · rw [ti_2 (Or.inr ⟨fun q => lt_no q hq, h9⟩)] at eT
            exact Or.inl ⟨2, p, e, v', _, _, _, _, eC.trans (hc_2 ha hE b4.1 h9 hq), tw_no eT, by decide⟩
          · rw [ti_1 h4 (Or.inl (bd_nle hq))] at eT
            by_cases hpq : v' = pp
            · exact Or.inl ⟨4, p, e, v', _, _, _, _, eC.trans (hc_4 ha hE b4.1 h9 hq hpq), tw_4 eT hpq, by decide⟩
            · exact Or.inr ⟨p, e, g', v', eC.trans (hc_0 ha hE b4.1 h9 hq hpq), tw_ok eT hpq, b1, by omega⟩
      · have hv2 : 9 < v'.toInt := Int32.lt_iff_toInt_lt.mp (bd_nle hv)
        have n1 : ¬ v' < B2.1 2 0 := fun q => by have := Int32.lt_iff_toInt_lt.mp q; omega
        have n2 : ¬ v' = 9 := fun q => by rw [q] at hv2; exact absurd hv2 (by decide)
        rw [if_neg hv] at eR
        rw [eR] at eC
        rw [ti_2 (Or.inr ⟨n1, n2⟩)] at eT
        exact Or.inl ⟨2, p, e, -1, _, _, _, _, eC.trans (hc_k (by decide)), tw_no eT, by decide⟩
  · have eT2 : T = (0, td B2 (p + if 0 ≤ hr t n p then 1 else 0) p (hr t n p) 0 0 1) := by
      rw [eT, stq_l d, F_X10_isTold_1_c4, td_20, if_neg (no48 d), m_fl, F_X10_isTold_1_c4fc18]
    have eC2 : C = F_X8_readHeir_c6 (rd B1 1 p p p) (-1) a pp := by rw [eC, nm_no d]; rfl
    exact Or.inl ⟨1, p, p, -1, _, _, _, _, eC2.trans (hc_k (by decide)), tw_no eT2, by decide⟩
end CL33
section CL34
variable {a : Nat} {t : Nat → Int32} {n : Int32} {S1 S2 B1 B2 : mm_S} {f c m b s g v w x : Int32}
theorem and1 (x : Int32) : x &&& 1 = 0 ∨ x &&& 1 = 1 := by
  have hb : mm_b 0 1 (x &&& 1) := bd_andR (lo := 0) (hi := 1) (a := 1) (b := 1) rfl (by decide) (by decide)
  rcases (by omega : (x &&& 1).toInt = 0 ∨ (x &&& 1).toInt = 1) with q | q
  · exact Or.inl (Int32.toInt_inj.mp q)
  · exact Or.inr (Int32.toInt_inj.mp q)
theorem hw {S T : mm_S} {W p : Int32} (hp : 0 ≤ p.toInt ∧ p.toInt < 7) : F_X9_isIn S W p = F_X10_isIn T W p := by
  rw [F_X9_isIn, F_X10_isIn, if_neg (fun q => by have : p.toInt < 0 := Int32.lt_iff_toInt_lt.mp q; omega), if_neg (fun q => by have : (7 : Int) ≤ p.toInt := Int32.le_iff_toInt_le.mp q; omega)]
  rcases and1 (W >>> (p &&& 31)) with q | q
  · rw [q, if_pos rfl, if_neg (by decide)]
  · rw [q, if_neg (by decide), if_pos rfl]
end CL34
section CL35
variable {a : Nat} {t : Nat → Int32} {n : Int32} {S1 S2 B1 B2 : mm_S} {f c m b s g v w x : Int32}
theorem Dr_will (ha : 3 ≤ a) (D : Dr a B1 B2) {p x y : Int32} (hp : 0 ≤ p.toInt ∧ p.toInt < (B2.1 2 0).toInt) {W : Int32} :
    Dr a (mm_up (mm_up (mm_up B1 (a + 2) p.toNatClampNeg x) (a + 3) p.toNatClampNeg y) a 3 W) (mm_up (mm_up (mm_up B2 2 24 W) 2 (10 + 7 * (0 : Int32) + p).toNatClampNeg x) 2 (10 + 7 * (0 + Int32.ofInt 1) + p).toNatClampNeg y) := by
  obtain ⟨⟨d1, d2, d3, d4⟩, ⟨d5, d6, d7⟩, d8, d9, d10, d11⟩ := D
  have cP := pz_cl (x := p) hp.1
  have c1 : (10 + 7 * (0 : Int32) + p).toNatClampNeg = 10 + p.toNatClampNeg := pz_addc (c := 10) (by decide) ⟨hp.1, by omega⟩
  have c2 : (10 + 7 * (0 + Int32.ofInt 1) + p).toNatClampNeg = 17 + p.toNatClampNeg := pz_addc (c := 17) (by decide) ⟨hp.1, by omega⟩
  rw [c1, c2]
  generalize p.toNatClampNeg = N at cP ⊢
  have ro : ∀ i, i ≠ 24 → i ≠ 10 + N → i ≠ 17 + N → (mm_up (mm_up (mm_up B2 2 24 W) 2 (10 + N) x) 2 (17 + N) y).1 2 i = B2.1 2 i := fun i h0 h3 h4 => by rw [up_ne (by omega), up_ne (by omega), up_ne (by omega)]
  have r24 : (mm_up (mm_up (mm_up B2 2 24 W) 2 (10 + N) x) 2 (17 + N) y).1 2 24 = W := by rw [up_ne (by omega), up_ne (by omega), up_at]
  have r10 : (mm_up (mm_up (mm_up B2 2 24 W) 2 (10 + N) x) 2 (17 + N) y).1 2 (10 + N) = x := by rw [up_ne (by omega), up_at]
  have r17 : (mm_up (mm_up (mm_up B2 2 24 W) 2 (10 + N) x) 2 (17 + N) y).1 2 (17 + N) = y := up_at
  generalize mm_up (mm_up (mm_up B2 2 24 W) 2 (10 + N) x) 2 (17 + N) y = C2 at ro r24 r10 r17 ⊢
  have rb : ∀ z i, ¬ (z = a ∧ i = 3) → ¬ (z = a + 2 ∧ i = N) → ¬ (z = a + 3 ∧ i = N) → (mm_up (mm_up (mm_up B1 (a + 2) N x) (a + 3) N y) a 3 W).1 z i = B1.1 z i := fun z i h0 h3 h4 => by rw [up_ne h0, up_ne h4, up_ne h3]
  have rW : (mm_up (mm_up (mm_up B1 (a + 2) N x) (a + 3) N y) a 3 W).1 a 3 = W := up_at
  have rx : (mm_up (mm_up (mm_up B1 (a + 2) N x) (a + 3) N y) a 3 W).1 (a + 2) N = x := by rw [up_ne (by omega), up_ne (by omega), up_at]
  have ry : (mm_up (mm_up (mm_up B1 (a + 2) N x) (a + 3) N y) a 3 W).1 (a + 3) N = y := by rw [up_ne (by omega), up_at]
  generalize mm_up (mm_up (mm_up B1 (a + 2) N x) (a + 3) N y) a 3 W = C1 at rb rW rx ry ⊢
  refine ⟨⟨?_, ?_, ?_, ?_⟩, ⟨?_, ?_, ?_⟩, ?_, ?_, ?_, ?_⟩
  · rw [rb a 0 (by omega) (by omega) (by omega), ro 0 (by omega) (by omega) (by omega)]
    exact d1
  · rw [rb a 1 (by omega) (by omega) (by omega), ro 1 (by omega) (by omega) (by omega)]
    exact d2
  · rw [rb a 2 (by omega) (by omega) (by omega), ro 2 (by omega) (by omega) (by omega)]
    exact d3
  · rw [rW, r24]
  · rw [ro 0 (by omega) (by omega) (by omega)]
    exact d5
  · rw [ro 1 (by omega) (by omega) (by omega)]
    exact d6
  · rw [ro 2 (by omega) (by omega) (by omega)]
    exact d7
  · intro q hq
    rw [ro 0 (by omega) (by omega) (by omega)] at hq
    have z := d8 q hq
    by_cases hN : q = N
    · subst hN
      rw [rx, ry, r10, r17, rb (a + 1) q (by omega) (by omega) (by omega), ro (3 + q) (by omega) (by omega) (by omega)]
      exact ⟨z.1, rfl, rfl⟩
    · rw [rb (a + 1) q (by omega) (by omega) (by omega), rb (a + 2) q (by omega) (by omega) (by omega), rb (a + 3) q (by omega) (by omega) (by omega), ro (3 + q) (by omega) (by omega) (by omega), ro (10 + q) (by omega) (by omega) (by omega), ro (17 + q) (by omega) (by omega) (by omega)]
      exact z
  · intro q h7 hq
    rw [ro 0 (by omega) (by omega) (by omega)] at hq
    rw [ro (3 + q) (by omega) (by omega) (by omega), ro (10 + q) (by omega) (by omega) (by omega), ro (17 + q) (by omega) (by omega) (by omega)]
    exact d9 q h7 hq
  · intro q hq
    rw [ro 1 (by omega) (by omega) (by omega)] at hq
    rw [ro (25 + q) (by omega) (by omega) (by omega), rb (a + 4) q (by omega) (by omega) (by omega)]
    exact d10 q hq
  · intro q hq
    rw [ro 2 (by omega) (by omega) (by omega)] at hq
    rw [ro (31 + q) (by omega) (by omega) (by omega), rb (a + 5) q (by omega) (by omega) (by omega)]
    exact d11 q hq
end CL35
section CL36
variable {a : Nat} {t : Nat → Int32} {n : Int32} {S1 S2 B1 B2 : mm_S} {f c m b s g v w x : Int32}
/-- a will -/
theorem cl_will (ha : 3 ≤ a) (D : Dr a B1 B2) (h : Bs a t n S1 S2 B1 B2) (hn : pz_p n) (hc : pz_p c) (hl : c < n) : Oc a t n S1 S2 f c (F_X8_readWill (rd B1 0 f c m) a) (F_X10_readsWill (td B2 (c + 1) c s g v w)) := by
  obtain ⟨h1, h2⟩ := pz_nx hn hc hl
  have e1 : (rd B1 0 f (c + 1) m).1 a 0 = B2.1 2 0 := by rw [rd_row (by omega)]; exact D.1.1
  have b7 := D.2.1.1
  rw [F_X8_readWill, rd_3, rd_up3, e1, F_X8_readWill_u17, F_X10_readsWill]
  rcases t0 (f := f) (m := m) (b := c) (s := s) (g := g) (v := v) (w := w) h hn h1 b7 with ⟨k, p, e, q', s', g', v', r1, r2, hk⟩ | ⟨p, e, g', pp, r1, r2, hp0, hp1, he, hle⟩
  · rw [r1, r2]
    show Oc a t n S1 S2 f c (F_X8_readWill_u17c20 (rd B1 k p e p) a (-1)) (F_X10_readsWill_c5 0 (td B2 q' p s' g' v' k))
    rw [wl_20 hk, F_X10_readsWill_c5, if_pos rfl]
    exact Or.inr ⟨_, _, k, p, _, _, _, _, _, _, rfl, rfl, hk, h⟩
  · rw [r1, r2]
    show Oc a t n S1 S2 f c (F_X8_readWill_u17c20 (rd B1 0 f e p) a pp) (F_X10_readsWill_c5 1 (td B2 e p 48 g' pp w))
    have hW : F_X6_hasWill (rd B1 0 f e p) a pp = F_X10_isIn (td B2 e p 48 g' pp w) (B2.1 2 24) pp := by
      have e4 : (rd B1 0 f e p).1 a 3 = B2.1 2 24 := by rw [rd_row (by omega)]; exact D.1.2.2.2
      rw [F_X6_hasWill, e4]
      exact hw ⟨hp0, by omega⟩
    rw [F_X8_readWill_u17c20, c_is0, if_neg one0, F_X10_readsWill_c5, if_neg one0, td_2, td_22, hW]
    by_cases q : F_X10_isIn (td B2 e p 48 g' pp w) (B2.1 2 24) pp = 0
    · rw [if_pos q, if_pos q, td_upo (by decide)]
      generalize hWe : B2.1 2 24 ||| (1 : Int32) <<< (pp &&& 31) = W
      have hB := Bs_2 (j := 24) (v := W) h
      have r0 : (mm_up B2 2 24 W).1 2 0 = B2.1 2 0 := up_ne (by omega)
      show Oc a t n S1 S2 f c (F_X8_readWill_u17c20tc51 (F_X8_readHeir (rd B1 0 f e p) a pp).2 a pp (F_X8_readHeir (rd B1 0 f e p) a pp).1) (F_X10_readsWill_L50 (3 + 1) (td (mm_up B2 2 24 W) e p 48 g' pp w) pp 0)
      rw [F_X10_readsWill_L50, if_neg (show ¬ (2 : Int32) ≤ 0 by decide)]
      rcases t1 (f := f) (m := p) (b := p) (s := 48) (g := g') (v := pp) (w := w) ha hB hn he (by rw [r0]; exact b7) (by rw [r0]; exact D.1.1) pp 0 (by rw [r0]; exact ⟨hp0, hp1⟩) (F_X10_readsWill_L50 3) with ⟨k, p2, e2, z2, q', s', g2, v2, u1, u2, hk⟩ | ⟨p2, e2, g2, v2, u1, u2, he2, hle2⟩
      · rw [u1, u2]
        show Oc a t n S1 S2 f c (F_X8_readWill_u17c20tc51 (rd B1 k p2 e2 p2) a pp z2) _
        rw [wl_51 hk]
        exact Or.inr ⟨_, _, k, p2, _, _, _, _, _, _, rfl, rfl, hk, hB⟩
      · rw [u1, u2]
        show Oc a t n S1 S2 f c (F_X8_readWill_u17c20tc51 (rd B1 0 f e2 p2) a pp v2) (F_X10_readsWill_L50 (2 + 1) _ pp _)
        rw [F_X8_readWill_u17c20tc51, F_X10_readsWill_L50, if_neg (show ¬ (2 : Int32) ≤ 0 + Int32.ofInt 1 by decide)]
        have hB2 := Bs_2 (j := (10 + 7 * (0 : Int32) + pp).toNatClampNeg) (v := v2) hB
        have cP := pz_cl (x := pp) hp0
        have c1 : (10 + 7 * (0 : Int32) + pp).toNatClampNeg = 10 + pp.toNatClampNeg := pz_addc (c := 10) (by decide) ⟨hp0, by omega⟩
        have r0b : (mm_up (mm_up B2 2 24 W) 2 (10 + 7 * (0 : Int32) + pp).toNatClampNeg v2).1 2 0 = B2.1 2 0 := by rw [up_ne (by omega), r0]
        rcases t1 (f := f) (m := p2) (b := p2) (s := 48) (g := g2) (v := v2) (w := w) ha hB2 hn he2 (by rw [r0b]; exact b7) (by rw [r0b]; exact D.1.1) pp (0 + Int32.ofInt 1) (by rw [r0b]; exact ⟨hp0, hp1⟩) (F_X10_readsWill_L50 2) with ⟨k, p3, e3, z3, q', s', g3, v3, u3, u4, hk⟩ | ⟨p3, e3, g3, v3, u3, u4, he3, hle3⟩
        · rw [u3, u4]
          show Oc a t n S1 S2 f c (F_X8_readWill_u17c20tc51c58 (rd B1 k p3 e3 p3) a pp v2 z3) _
          rw [wl_58 hk]
          exact Or.inr ⟨_, _, k, p3, _, _, _, _, _, _, rfl, rfl, hk, hB2⟩
        · rw [u3, u4]
          show Oc a t n S1 S2 f c (F_X8_readWill_u17c20tc51c58 (rd B1 0 f e3 p3) a pp v2 v3) (F_X10_readsWill_L50 (1 + 1) _ pp _)
          rw [F_X8_readWill_u17c20tc51c58, F_X10_readsWill_L50, if_pos (show (2 : Int32) ≤ 0 + Int32.ofInt 1 + Int32.ofInt 1 by decide), F_X10_readsWill_L50tc107]
          have hB3 := Bs_2 (j := (10 + 7 * (0 + Int32.ofInt 1) + pp).toNatClampNeg) (v := v3) hB2
          rcases en (f := f) (m := p3) (b := p3) (s := 48) (g := g3) (v := v3) (w := w) hB3 hn he3 with ⟨e4, p4, y1, y2, y3, y4⟩ | ⟨p4, q', s', g4, v4, y1, y2⟩
          · rw [y1, y2]
            show Oc a t n S1 S2 f c (F_X8_readWill_u17c20tc51c58c66 1 (rd B1 0 f e4 p3) a pp v2 v3) _
            have e9 : (rd B1 0 f e4 p3).1 a 3 = B2.1 2 24 := by rw [rd_row (by omega)]; exact D.1.2.2.2
            rw [F_X8_readWill_u17c20tc51c58c66, if_neg one0, F_X8_readWill_u17c20tc51c58c66fc77, F_X6_addWill, hc_p ha D.1.1 hp0, if_neg (show ¬ B2.1 2 0 ≤ pp from fun q => by have := Int32.le_iff_toInt_le.mp q; omega), if_neg one0, e9, hWe, rd_upo (by omega), rd_upo (by omega), rd_upo (by omega)]
            refine Or.inl ⟨_, _, e4, p3, p4, 59, 0, 0, w, rfl, rfl, Dr_will ha D ⟨hp0, hp1⟩, ?_, by omega, y4⟩
            exact Bs_1 ha (Bs_1 ha (Bs_1 ha hB3 ⟨by omega, by omega⟩) ⟨by omega, by omega⟩) ⟨by omega, by omega⟩
          · rw [y1, y2]
            show Oc a t n S1 S2 f c (F_X8_readWill_u17c20tc51c58c66 0 (rd B1 1 p4 p4 p3) a pp v2 v3) _
            rw [F_X8_readWill_u17c20tc51c58c66, if_pos rfl]
            exact Or.inr ⟨_, _, 1, p4, _, _, _, _, _, _, rfl, rfl, by decide, hB3⟩
    · rw [if_neg q, if_neg q, c_bl0, rd_4, wl_45 (by decide), m_fl, F_X10_readsWill_L50tc107]
      exact Or.inr ⟨_, _, 4, p, _, _, _, _, _, _, rfl, rfl, by decide, h⟩
end CL36
section CL37
variable {a : Nat} {t : Nat → Int32} {n : Int32} {S1 S2 B1 B2 : mm_S} {f c m b s g v w x : Int32}
theorem pr_eta (p : Int32 × mm_S) : (p.1, p.2) = p := rfl
/-- a clause -/
theorem cl_any (ha : 3 ≤ a) (D : Dr a B1 B2) (h : Bs a t n S1 S2 B1 B2) (hn : pz_p n) (hc : pz_p c) (hl : c < n) (h0 : 0 ≤ hr t n c) : Oc a t n S1 S2 f c (F_X8_readClause (rd B1 0 f c m) a) (F_X10_readsClause (stq t n B2 w c)) := by
  have eL : F_X8_letterHere (rd B1 0 f c m) = hr t n c := by
    obtain ⟨-, -, h4, h5, -, -⟩ := h
    rw [c_lh, h4, h5]
  rw [F_X8_readClause, eL, F_X10_readsClause]
  by_cases d : mm_b 48 57 (hr t n c)
  · have n1 : ¬ (hr t n c).toInt = 99 := by omega
    have n2 : ¬ (hr t n c).toInt = 100 := by omega
    have n3 : ¬ (hr t n c).toInt = 112 := by omega
    have n4 : ¬ (hr t n c).toInt = 119 := by omega
    rw [stq_d d, td_20, if_neg n1, if_neg n2, if_neg n3, if_neg n4, if_neg (show ¬ (48 : Int32).toInt = 99 by decide), if_neg (show ¬ (48 : Int32).toInt = 100 by decide), if_neg (show ¬ (48 : Int32).toInt = 112 by decide), if_neg (show ¬ (48 : Int32).toInt = 119 by decide), m_fl, c_bl0, rd_3, F_X8_readClause_dc89, F_X10_readsClause_dc73]
    exact Or.inr ⟨_, _, 1, c, _, _, _, _, _, _, rfl, rfl, by decide, h⟩
  · rw [stq_l d, td_20, if_pos h0]
    by_cases q1 : (hr t n c).toInt = 99
    · rw [if_pos q1, if_pos q1, F_X8_readClause_dc89, F_X10_readsClause_dc73, pr_eta]
      exact cl_choir ha D h hn hc hl
    · rw [if_neg q1, if_neg q1]
      by_cases q2 : (hr t n c).toInt = 100
      · rw [if_pos q2, if_pos q2, F_X8_readClause_dc89, F_X10_readsClause_dc73, pr_eta]
        exact cl_door ha D h hn hc hl
      · rw [if_neg q2, if_neg q2]
        by_cases q3 : (hr t n c).toInt = 112
        · rw [if_pos q3, if_pos q3, F_X8_readClause_dc89, F_X10_readsClause_dc73, pr_eta]
          exact cl_person ha D h hn hc hl
        · rw [if_neg q3, if_neg q3]
          by_cases q4 : (hr t n c).toInt = 119
          · rw [if_pos q4, if_pos q4, F_X8_readClause_dc89, F_X10_readsClause_dc73, pr_eta]
            exact cl_will ha D h hn hc hl
          · rw [if_neg q4, if_neg q4, c_bl0, rd_3, m_fl, F_X8_readClause_dc89, F_X10_readsClause_dc73]
            exact Or.inr ⟨_, _, 1, c, _, _, _, _, _, _, rfl, rfl, by decide, h⟩
end CL37
/-! ===== the text as a whole ===== -/
section LPs
variable {a : Nat} {t : Nat → Int32} {n : Int32} {S1 S2 B1 B2 : mm_S} {f c m b s g v w x : Int32}
theorem lp_t {k : Int32} : F_X8_readInto_L25tu71 (mm_up (rd B1 k f c m) 1 0 0) = (if k = 0 then 1 else 0, rd (mm_up B1 1 0 0) k f c m) := by
  rw [F_X8_readInto_L25tu71, rd_up0, c_is]
theorem lp_bad {k y : Int32} (hk : ¬ k = 0) (N : Nat) : F_X8_readInto_L25 a (N + 1) (rd B1 k f c m) y = (0, rd (mm_up B1 1 0 0) k f c m) := by
  rw [F_X8_readInto_L25, lp_t, if_neg hk, c_isk hk, if_pos (show (0 : Int32) = 0 from rfl)]
  split
  · rfl
  · split <;> rfl
theorem lp_m (M : Nat) : F_X10_parish_L23 (M + 1) (td B2 c b s g v w) 0 = (-10 - w, mm_up (mm_up (td B2 c b s g v w) 0 10 0) 0 11 b) := by
  rw [F_X10_parish_L23, td_23, td_19, if_pos (show (0 : Int32) = 0 from rfl)]
  split <;> rfl
theorem lp_all (ha : 3 ≤ a) (hn : pz_p n) (ht : ∀ j : Nat, j < 240 → 0 ≤ (t j).toInt) : ∀ (N M : Nat) (B1 B2 : mm_S) (p m w y : Int32), Dr a B1 B2 → Bs a t n S1 S2 B1 B2 → pz_p p → (240 - p.toInt).toNat + 2 ≤ N → (240 - p.toInt).toNat + 2 ≤ M → 0 ≤ y.toInt → y.toInt ≤ p.toInt →
    (∃ (C1 C2 : mm_S) (c' m' q' b' s' g' v' w' : Int32), F_X8_readInto_L25 a N (rd B1 0 f p m) y = (1, rd (mm_up C1 1 0 0) 0 f c' m') ∧ F_X10_parish_L23 M (stq t n B2 w p) 1 = F_X10_parish_L23ttu87 (mm_up (td C2 q' b' s' g' v' w') 0 10 0) ∧ Dr a C1 C2 ∧ Bs a t n S1 S2 C1 C2) ∨
    (∃ (C1 C2 : mm_S) (k c' m' q' b' s' g' v' : Int32), F_X8_readInto_L25 a N (rd B1 0 f p m) y = (0, rd (mm_up C1 1 0 0) k b' c' m') ∧ F_X10_parish_L23 M (stq t n B2 w p) 1 = (-10 - k, mm_up (mm_up (td C2 q' b' s' g' v' k) 0 10 0) 0 11 b') ∧ ¬ k = 0 ∧ Bs a t n S1 S2 C1 C2) := by
  intro N
  induction N with
  | zero =>
    intro M B1 B2 p m w y D h hp hN
    omega
  | succ N ih =>
    intro M B1 B2 p m w y D h hp hN hM hy0 hy
    obtain ⟨M, rfl⟩ : ∃ M', M = M' + 1 := ⟨M - 1, by omega⟩
    have e0 : (rd B1 0 f p m).1 1 0 = n := h.2.2.1
    by_cases hl : p < n
    · have hl2 := Int32.lt_iff_toInt_lt.mp hl
      have cp := pz_cl (x := p) hp.1
      have h0 : 0 ≤ hr t n p := by
        rw [hr, if_pos hl]
        exact Int32.le_iff_toInt_le.mpr (ht _ (by omega))
      have y240 : ¬ (240 : Int32) ≤ y := fun q => by have : (240 : Int) ≤ y.toInt := Int32.le_iff_toInt_le.mp q; omega
      have es : F_X8_readInto_L25 a (N + 1) (rd B1 0 f p m) y = F_X8_readInto_L25fffc55 (F_X8_readInto_L25 a N) (F_X8_readClause (rd B1 0 f p m) a) y := by
        rw [F_X8_readInto_L25, if_neg y240, e0, rd_3, if_neg (fun q => lt_no hl q), c_is0, if_neg one0]
      have sg : ¬ (stq t n B2 w p).1 0 20 < 0 := by
        by_cases d : mm_b 48 57 (hr t n p)
        · rw [stq_d d, td_20]
          decide
        · rw [stq_l d, td_20]
          exact fun q => lt_no q h0
      have em : F_X10_parish_L23 (M + 1) (stq t n B2 w p) 1 = F_X10_parish_L23ffc38 (F_X10_readsClause (stq t n B2 w p)).1 (F_X10_parish_L23 M) (F_X10_readsClause (stq t n B2 w p)).2 := by
        rw [F_X10_parish_L23, if_neg sg, if_neg one0]
      rcases cl_any (f := f) (m := m) (w := w) ha D h hn hp hl h0 with ⟨C1, C2, c', m', b', s', g', v', w', r1, r2, D', h', hlt, hc'⟩ | ⟨C1, C2, k, b', c', m', q', s', g', v', r1, r2, hk, h'⟩
      · have z1 : pz_p (sk t n c') ∧ c'.toInt ≤ (sk t n c').toInt := skb hn hc'
        have ec : F_X8_readInto_L25 a (N + 1) (rd B1 0 f p m) y = F_X8_readInto_L25 a N (rd C1 0 f (sk t n c') m') (y + Int32.ofInt 1) := by
          rw [es, r1, F_X8_readInto_L25fffc55, c_sk, h'.2.2.1, h'.2.2.2.1, F_X8_readInto_L25fffc55c59]
        have e2 : F_X10_parish_L23 (M + 1) (stq t n B2 w p) 1 = F_X10_parish_L23 M (stq t n C2 w' (sk t n c')) 1 := by
          rw [em, r2]
          show F_X10_parish_L23ffc38 1 (F_X10_parish_L23 M) (td C2 c' b' s' g' v' w') = _
          rw [F_X10_parish_L23ffc38, if_neg one0, F_X10_parish_L23ffc38fc47, tk_2 h' hn hc']
        have ty : (y + Int32.ofInt 1).toInt = y.toInt + 1 := by rw [pz_of1]; exact pz_ti1 ⟨by omega, by omega⟩
        rw [ec, e2]
        exact ih M C1 C2 (sk t n c') m' w' (y + Int32.ofInt 1) D' h' z1.1 (by omega) (by omega) (by omega) (by omega)
      · obtain ⟨N, rfl⟩ : ∃ N', N = N' + 1 := ⟨N - 1, by omega⟩
        obtain ⟨M, rfl⟩ : ∃ M', M = M' + 1 := ⟨M - 1, by omega⟩
        refine Or.inr ⟨C1, C2, k, sk t n c', m', q', b', s', g', v', ?_, ?_, hk, h'⟩
        · rw [es, r1, F_X8_readInto_L25fffc55, c_sk, h'.2.2.1, h'.2.2.2.1, F_X8_readInto_L25fffc55c59, lp_bad hk]
        · rw [em, r2]
          show F_X10_parish_L23ffc38 0 (F_X10_parish_L23 (M + 1)) (td C2 q' b' s' g' v' k) = _
          rw [F_X10_parish_L23ffc38, if_pos (show (0 : Int32) = 0 from rfl), lp_m]
    · have hge := bd_nlt hl
      have d : ¬ mm_b 48 57 (hr t n p) := by rw [hr_ge hge]; decide
      refine Or.inl ⟨B1, B2, p, m, p + if 0 ≤ hr t n p then 1 else 0, p, hr t n p, 0, 0, w, ?_, ?_, D, h⟩
      · rw [F_X8_readInto_L25, lp_t, e0, rd_3, if_pos (show (0 : Int32) = 0 from rfl)]
        split <;> first
          | rfl
          | rw [if_pos hge]
      · rw [stq_l d, F_X10_parish_L23, td_20, if_pos (show hr t n p < 0 by rw [hr_ge hge]; decide), if_neg one0]
/-! the start -/
def bkP (R S : mm_S) (y : Int32) : Prop := (∀ b', b' ≠ 2 → R.1 b' = S.1 b') ∧ R.2 = S.2 ∧ (∀ i : Nat, (i : Int) < y.toInt → R.1 2 i = S.1 2 i) ∧ (∀ i : Nat, y.toInt ≤ i → i < 37 → R.1 2 i = if 3 ≤ i ∧ i ≤ 23 then 9 else 0)
theorem bk_s {R S : mm_S} {y v : Int32} (cy : (y.toNatClampNeg : Int) = y.toInt) (ty : (y + Int32.ofInt 1).toInt = y.toInt + 1) (hv : v = if 3 ≤ y.toNatClampNeg ∧ y.toNatClampNeg ≤ 23 then 9 else 0) (h : bkP R (mm_up S 2 y.toNatClampNeg v) (y + Int32.ofInt 1)) : bkP R S y := by
  obtain ⟨k1, k2, k3, k4⟩ := h
  refine ⟨fun b' hb => ?_, k2, fun i hi => ?_, fun i h1 h2 => ?_⟩
  · rw [k1 b' hb, up_row hb]
  · rw [k3 i (by omega), up_ne (by omega)]
  · by_cases hi : i = y.toNatClampNeg
    · rw [k3 i (by omega), hi, up_at, hv]
    · exact k4 i (by omega) h2
theorem bk_L : ∀ (N : Nat) (S : mm_S) (y : Int32), mm_b 0 37 y → (37 - y.toInt).toNat < N → bkP (F_X10_blank2_L2 N S y) S y
  | 0, S, y, _, h => absurd h (Nat.not_lt_zero _)
  | N + 1, S, y, hy, h => by
    have cy := pz_cl (x := y) hy.1
    by_cases q : (37 : Int32) ≤ y
    · have q2 : (37 : Int) ≤ y.toInt := Int32.le_iff_toInt_le.mp q
      rw [F_X10_blank2_L2, if_pos q]
      exact ⟨fun _ _ => rfl, rfl, fun _ _ => rfl, fun i h1 h2 => by omega⟩
    · have q2 : y.toInt < 37 := Int32.lt_iff_toInt_lt.mp (bd_nle q)
      have ty : (y + Int32.ofInt 1).toInt = y.toInt + 1 := by rw [pz_of1]; exact pz_ti1 ⟨by omega, by omega⟩
      have eI : F_X10_in S y.toInt64 3 23 = if mm_b 3 23 y then 1 else 0 := m_in (lo := 3) (hi := 23)
      by_cases z : mm_b 3 23 y
      · rw [F_X10_blank2_L2, if_neg q, eI, if_pos z, if_neg one0]
        exact bk_s cy ty (by rw [if_pos ⟨by omega, by omega⟩]) (bk_L N _ _ ⟨by omega, by omega⟩ (by omega))
      · rw [F_X10_blank2_L2, if_neg q, eI, if_neg z, if_pos (show (0 : Int32) = 0 from rfl)]
        exact bk_s cy ty (by rw [if_neg (by omega)]) (bk_L N _ _ ⟨by omega, by omega⟩ (by omega))
theorem bk : (∀ b', b' ≠ 2 → (F_X10_blank2 S2).1 b' = S2.1 b') ∧ (F_X10_blank2 S2).2 = S2.2 ∧ (∀ i : Nat, i < 37 → (F_X10_blank2 S2).1 2 i = if 3 ≤ i ∧ i ≤ 23 then 9 else 0) := by
  obtain ⟨k1, k2, k3, k4⟩ : bkP (F_X10_blank2 S2) S2 0 := bk_L 61 S2 0 (by decide) (by decide)
  exact ⟨k1, k2, fun i hi => k4 i (by show (0 : Int) ≤ i; omega) hi⟩
theorem em_row (ha : 3 ≤ a) {b' : Nat} (hb : b' ≠ a) : (F_X6_empty S1 a).1 b' = S1.1 b' := by
  rw [F_X6_empty, up_row hb, up_row hb, up_row hb, up_row hb]
theorem up_2 {S : mm_S} {x j : Nat} {y : Int32} : (mm_up S x j y).2 = S.2 := by unfold mm_up; rfl
theorem em_2 : (F_X6_empty S1 a).2 = S1.2 := by rw [F_X6_empty, up_2, up_2, up_2, up_2]
theorem pa_B (ha : 3 ≤ a) (hs : S1.1 1 0 = S2.1 0 10) (htx : S1.1 2 = S2.1 8) : Bs a (S1.1 2) (S1.1 1 0) S1 (mm_up S2 0 11 (-1)) (F_X6_empty S1 a) (mm_up (F_X10_blank2 S2) 0 11 (-1)) := by
  obtain ⟨k1, k2, k3⟩ := bk (S2 := S2)
  refine ⟨⟨fun b' hb => em_row ha (by omega), em_2⟩, ⟨fun b' hb => ?_, ?_⟩, ?_, em_row ha (by omega), ?_, ?_⟩
  · funext i
    show (if b' = 0 ∧ i = 11 then (-1 : Int32) else (F_X10_blank2 S2).1 b' i) = if b' = 0 ∧ i = 11 then (-1 : Int32) else S2.1 b' i
    rw [k1 b' hb]
  · rw [up_2, up_2]
    exact k2
  · rw [em_row ha (by omega)]
  · rw [up_ne (by omega), k1 0 (by omega), hs]
  · rw [up_row (by omega), k1 8 (by omega), htx]
theorem pa_D (ha : 3 ≤ a) : Dr a (F_X6_empty S1 a) (mm_up (F_X10_blank2 S2) 0 11 (-1)) := by
  obtain ⟨k1, k2, k3⟩ := bk (S2 := S2)
  have e2 : ∀ i : Nat, i < 37 → (mm_up (F_X10_blank2 S2) 0 11 (-1)).1 2 i = if 3 ≤ i ∧ i ≤ 23 then 9 else 0 := fun i hi => by rw [up_row (by omega), k3 i hi]
  have q0 : (mm_up (F_X10_blank2 S2) 0 11 (-1)).1 2 0 = 0 := e2 0 (by omega)
  have q1 : (mm_up (F_X10_blank2 S2) 0 11 (-1)).1 2 1 = 0 := e2 1 (by omega)
  have q2 : (mm_up (F_X10_blank2 S2) 0 11 (-1)).1 2 2 = 0 := e2 2 (by omega)
  have q24 : (mm_up (F_X10_blank2 S2) 0 11 (-1)).1 2 24 = 0 := e2 24 (by omega)
  have t0 : (0 : Int32).toInt = 0 := rfl
  generalize mm_up (F_X10_blank2 S2) 0 11 (-1) = U at e2 q0 q1 q2 q24 ⊢
  refine ⟨⟨?_, ?_, ?_, ?_⟩, ⟨?_, ?_, ?_⟩, ?_, ?_, ?_, ?_⟩
  · rw [q0, F_X6_empty, up_ne (by omega), up_ne (by omega), up_ne (by omega), up_at]
  · rw [q1, F_X6_empty, up_ne (by omega), up_ne (by omega), up_at]
  · rw [q2, F_X6_empty, up_ne (by omega), up_at]
  · rw [q24, F_X6_empty, up_at]
  · rw [q0]; decide
  · rw [q1]; decide
  · rw [q2]; decide
  · intro p hp
    rw [q0] at hp
    omega
  · intro p h7 hp
    rw [e2 (3 + p) (by omega), e2 (10 + p) (by omega), e2 (17 + p) (by omega), if_pos (by omega), if_pos (by omega), if_pos (by omega)]
    exact ⟨rfl, rfl, rfl⟩
  · intro p hp
    rw [q1] at hp
    omega
  · intro p hp
    rw [q2] at hp
    omega
theorem pa_c {E : mm_S} (hE : F_X6_empty S1 a = E) (h1 : E.1 1 0 = n) (h2 : E.1 2 = t) : F_X8_readInto S1 a = F_X8_readInto_L25 a 242 (rd E 0 (-1) (sk t n 0) (E.1 1 4)) 0 := by
  have e : mm_up (mm_up (mm_up E 1 3 0) 1 1 0) 1 2 (-1) = rd E 0 (-1) 0 (E.1 1 4) := by
    have z : E = rd E (E.1 1 1) (E.1 1 2) (E.1 1 3) (E.1 1 4) := rd_eta.symm
    have z2 : mm_up (mm_up (mm_up E 1 3 0) 1 1 0) 1 2 (-1) = mm_up (mm_up (mm_up (rd E (E.1 1 1) (E.1 1 2) (E.1 1 3) (E.1 1 4)) 1 3 0) 1 1 0) 1 2 (-1) := congrArg (fun X => mm_up (mm_up (mm_up X 1 3 0) 1 1 0) 1 2 (-1)) z
    rw [z2, rd_up3, rd_up1, rd_up2]
  rw [F_X8_readInto, hE, F_X8_readInto_c4, e, F_X8_readInto_c4u20, c_sk, h1, h2, F_X8_readInto_c4u20c23]
theorem pa_m {U : mm_S} (hU : mm_up (F_X10_blank2 S2) 0 11 (-1) = U) {X : mm_S} (h : Bs a t n S1 X B1 U) (hn : pz_p n) : F_X10_parish S2 = F_X10_parish_L23 245 (stq t n U (U.1 0 23) (sk t n 0)) 1 := by
  have hc : mm_up (mm_up (F_X10_blank2 S2) 0 18 0) 0 11 (-1) = td U 0 (U.1 0 19) (U.1 0 20) (U.1 0 21) (U.1 0 22) (U.1 0 23) := by
    rw [← td_up18 (S := U) (p := U.1 0 18), td_eta, ← hU]
    refine Prod.ext (funext fun x => funext fun i => ?_) rfl
    show (if x = 0 ∧ i = 11 then (-1 : Int32) else if x = 0 ∧ i = 18 then 0 else (F_X10_blank2 S2).1 x i) = (if x = 0 ∧ i = 18 then (0 : Int32) else if x = 0 ∧ i = 11 then (-1 : Int32) else (F_X10_blank2 S2).1 x i)
    by_cases h1 : x = 0 ∧ i = 11
    · rw [if_pos h1, if_neg (show ¬ (x = 0 ∧ i = 18) by omega), if_pos h1]
    · rw [if_neg h1, if_neg h1]
  rw [F_X10_parish, F_X10_parish_c7, hc, F_X10_parish_c7u20, tk_2 h hn (by decide), F_X10_parish_c7u20c23]
/-- the parse: what both come to -/
theorem parse (ha : 3 ≤ a) (hs : S1.1 1 0 = S2.1 0 10) (htx : S1.1 2 = S2.1 8) (hn : pz_p (S1.1 1 0)) (ht : ∀ j : Nat, j < 240 → 0 ≤ (S1.1 2 j).toInt) :
    (∃ (C1 C2 : mm_S) (c' m' q' b' s' g' v' w' : Int32), F_X8_readInto S1 a = (1, rd (mm_up C1 1 0 0) 0 (-1) c' m') ∧ F_X10_parish S2 = F_X10_parish_L23ttu87 (mm_up (td C2 q' b' s' g' v' w') 0 10 0) ∧ Dr a C1 C2 ∧ Bs a (S1.1 2) (S1.1 1 0) S1 (mm_up S2 0 11 (-1)) C1 C2) ∨
    (∃ (C1 C2 : mm_S) (k c' m' q' b' s' g' v' : Int32), F_X8_readInto S1 a = (0, rd (mm_up C1 1 0 0) k b' c' m') ∧ F_X10_parish S2 = (-10 - k, mm_up (mm_up (td C2 q' b' s' g' v' k) 0 10 0) 0 11 b') ∧ ¬ k = 0 ∧ Bs a (S1.1 2) (S1.1 1 0) S1 (mm_up S2 0 11 (-1)) C1 C2) := by
  have hB := pa_B ha hs htx
  have D := pa_D (S1 := S1) (S2 := S2) ha
  have z0 : pz_p 0 := by decide
  have b1 := skb (t := S1.1 2) hn z0
  have ec := pa_c (S1 := S1) (a := a) rfl hB.2.2.1 hB.2.2.2.1
  have em := pa_m (S2 := S2) rfl hB hn
  generalize F_X6_empty S1 a = E at hB D ec
  generalize mm_up (F_X10_blank2 S2) 0 11 (-1) = U at hB D em
  have t0 : (0 : Int32).toInt = 0 := rfl
  rw [ec, em]
  exact lp_all ha hn ht 242 245 E U (sk (S1.1 2) (S1.1 1 0) 0) (E.1 1 4) (U.1 0 23) 0 D hB b1.1 (by omega) (by omega) (Int.le_refl _) (by omega)
end LPs
