/-! ===== bounds of ints; tables of bounds ===== -/
abbrev mm_b (lo hi : Int) (x : Int32) : Prop := lo ≤ x.toInt ∧ x.toInt ≤ hi
theorem bd_rng (x : Int32) : -2147483648 ≤ x.toInt ∧ x.toInt ≤ 2147483647 := by
  have h1 := Int32.le_toInt x
  have h2 := Int32.toInt_lt x
  omega
theorem bd_all (x : Int32) : mm_b (-2147483648) 2147483647 x := bd_rng x
theorem bd_w {lo hi a b : Int} {x : Int32} (h : mm_b a b x) (h2 : lo ≤ a ∧ b ≤ hi) : mm_b lo hi x := ⟨Int.le_trans h2.1 h.1, Int.le_trans h.2 h2.2⟩
theorem bd_bmod {z : Int} (h1 : -2147483648 ≤ z) (h2 : z ≤ 2147483647) : z.bmod (2 ^ 32) = z := by
  rw [Int.bmod_eq_of_le (by omega) (by omega)]
theorem bd_ti_add {x y : Int32} (h1 : -2147483648 ≤ x.toInt + y.toInt) (h2 : x.toInt + y.toInt ≤ 2147483647) : (x + y).toInt = x.toInt + y.toInt := by
  rw [Int32.toInt_add, bd_bmod h1 h2]
theorem bd_ti_sub {x y : Int32} (h1 : -2147483648 ≤ x.toInt - y.toInt) (h2 : x.toInt - y.toInt ≤ 2147483647) : (x - y).toInt = x.toInt - y.toInt := by
  rw [Int32.toInt_sub, bd_bmod h1 h2]
theorem bd_ti_mul {x y : Int32} (h1 : -2147483648 ≤ x.toInt * y.toInt) (h2 : x.toInt * y.toInt ≤ 2147483647) : (x * y).toInt = x.toInt * y.toInt := by
  rw [Int32.toInt_mul, bd_bmod h1 h2]
theorem bd_add {lo hi a b c d : Int} {x y z : Int32} (e : z = x + y) (hx : mm_b a b x) (hy : mm_b c d y) (h : (-2147483648 ≤ a + c ∧ b + d ≤ 2147483647) ∧ lo ≤ a + c ∧ b + d ≤ hi) : mm_b lo hi z := by
  obtain ⟨h1, h2⟩ := hx
  obtain ⟨h3, h4⟩ := hy
  obtain ⟨⟨h5, h6⟩, h7, h8⟩ := h
  rw [e, mm_b, bd_ti_add (by omega) (by omega)]
  omega
theorem bd_sub {lo hi a b c d : Int} {x y z : Int32} (e : z = x - y) (hx : mm_b a b x) (hy : mm_b c d y) (h : (-2147483648 ≤ a - d ∧ b - c ≤ 2147483647) ∧ lo ≤ a - d ∧ b - c ≤ hi) : mm_b lo hi z := by
  obtain ⟨h1, h2⟩ := hx
  obtain ⟨h3, h4⟩ := hy
  obtain ⟨⟨h5, h6⟩, h7, h8⟩ := h
  rw [e, mm_b, bd_ti_sub (by omega) (by omega)]
  omega
theorem bd_mul {lo hi a b c d : Int} {x y z : Int32} (e : z = x * y) (hx : mm_b a b x) (hy : mm_b c d y) (h : (0 ≤ a ∧ 0 ≤ c ∧ b * d ≤ 2147483647) ∧ lo ≤ a * c ∧ b * d ≤ hi) : mm_b lo hi z := by
  obtain ⟨h1, h2⟩ := hx
  obtain ⟨h3, h4⟩ := hy
  obtain ⟨⟨h5, h5c, h6⟩, h7, h8⟩ := h
  have g1 : a * c ≤ x.toInt * y.toInt := Int.mul_le_mul h1 h3 h5c (Int.le_trans h5 h1)
  have g2 : x.toInt * y.toInt ≤ b * d := Int.mul_le_mul h2 h4 (Int.le_trans h5c h3) (Int.le_trans h5 (Int.le_trans h1 h2))
  have g3 : 0 ≤ a * c := Int.mul_nonneg h5 h5c
  rw [e, mm_b, bd_ti_mul (by omega) (by omega)]
  omega
theorem bd_neg {lo hi a b : Int} {x z : Int32} (e : z = -x) (hx : mm_b a b x) (h : (-2147483647 ≤ a) ∧ lo ≤ -b ∧ -a ≤ hi) : mm_b lo hi z := by
  obtain ⟨h1, h2⟩ := hx
  have := bd_rng x
  rw [e, mm_b, Int32.toInt_neg, bd_bmod (by omega) (by omega)]
  omega
theorem bd_tn (x : Int32) : x.toInt = if 2 * x.toBitVec.toNat < 4294967296 then (x.toBitVec.toNat : Int) else (x.toBitVec.toNat : Int) - 4294967296 := BitVec.toInt_eq_toNat_cond _
theorem bd_pos {x : Int32} (h : 0 ≤ x.toInt) : x.toInt = (x.toBitVec.toNat : Int) ∧ x.toBitVec.toNat < 2147483648 := by
  have h1 := bd_tn x
  have h2 := x.toBitVec.isLt
  split at h1 <;> omega
theorem bd_small {x : Int32} (h : x.toBitVec.toNat < 2147483648) : x.toInt = (x.toBitVec.toNat : Int) := by
  have h1 := bd_tn x
  split at h1 <;> omega
theorem bd_and {lo hi a b : Int} {x y z : Int32} (e : z = x &&& y) (hx : mm_b a b x) (h : 0 ≤ a ∧ lo ≤ 0 ∧ b ≤ hi) : mm_b lo hi z := by
  obtain ⟨h1, h2⟩ := hx
  obtain ⟨g1, g2⟩ := bd_pos (x := x) (by omega)
  have g3 : (x &&& y).toBitVec.toNat ≤ x.toBitVec.toNat := by
    rw [Int32.toBitVec_and, BitVec.toNat_and]
    exact Nat.and_le_left
  rw [e, mm_b, bd_small (by omega)]
  omega
theorem bd_andR {lo hi a b : Int} {x y z : Int32} (e : z = x &&& y) (hy : mm_b a b y) (h : 0 ≤ a ∧ lo ≤ 0 ∧ b ≤ hi) : mm_b lo hi z := by
  obtain ⟨h1, h2⟩ := hy
  obtain ⟨g1, g2⟩ := bd_pos (x := y) (by omega)
  have g3 : (x &&& y).toBitVec.toNat ≤ y.toBitVec.toNat := by
    rw [Int32.toBitVec_and, BitVec.toNat_and]
    exact Nat.and_le_right
  rw [e, mm_b, bd_small (by omega)]
  omega
theorem bd_or {lo hi a b c d : Int} {x y z : Int32} (k : Nat) (e : z = x ||| y) (hx : mm_b a b x) (hy : mm_b c d y) (h : (0 ≤ a ∧ 0 ≤ c ∧ b < 2 ^ k ∧ d < 2 ^ k ∧ k ≤ 31) ∧ lo ≤ 0 ∧ 2 ^ k - 1 ≤ hi) : mm_b lo hi z := by
  obtain ⟨h1, h2⟩ := hx
  obtain ⟨h3, h4⟩ := hy
  obtain ⟨⟨h5, h6, h7, h8, h9⟩, h10, h11⟩ := h
  obtain ⟨g1, g2⟩ := bd_pos (x := x) (by omega)
  obtain ⟨f1, f2⟩ := bd_pos (x := y) (by omega)
  have e9 : ((2 ^ k : Nat) : Int) = 2 ^ k := by norm_cast
  have g3 : (x ||| y).toBitVec.toNat < 2 ^ k := by
    rw [Int32.toBitVec_or, BitVec.toNat_or]
    exact Nat.or_lt_two_pow (by omega) (by omega)
  have g4 : 2 ^ k ≤ 2 ^ 31 := Nat.pow_le_pow_right (by decide) h9
  rw [e, mm_b, bd_small (by omega)]
  omega
theorem bd_sh1 : ∀ j : Fin 31, ((1 : Int32) <<< (nI j.val &&& 31)).toInt = 2 ^ j.val := by decide +kernel
theorem bd_nI {x : Int32} (h : 0 ≤ x.toInt) : ∃ j : Nat, x = nI j ∧ (j : Int) = x.toInt := by
  obtain ⟨g1, g2⟩ := bd_pos h
  refine ⟨x.toBitVec.toNat, ?_, g1.symm⟩
  apply Int32.toInt_inj.mp
  rw [nI_toInt (by omega)]
  exact g1
theorem bd_shl {lo hi c d : Int} {y z : Int32} (k : Nat) (e : z = 1 <<< (y &&& 31)) (hy : mm_b c d y) (h : (0 ≤ c ∧ d ≤ k ∧ k ≤ 30) ∧ lo ≤ 1 ∧ 2 ^ k ≤ hi) : mm_b lo hi z := by
  obtain ⟨h3, h4⟩ := hy
  obtain ⟨⟨h5, h6, h7⟩, h8, h9⟩ := h
  obtain ⟨j, rfl, hj⟩ := bd_nI (x := y) (by omega)
  have hj2 : j ≤ k := by omega
  have := bd_sh1 ⟨j, by omega⟩
  have e9 : ((2 ^ k : Nat) : Int) = 2 ^ k := by norm_cast
  have e8 : ((2 ^ j : Nat) : Int) = 2 ^ j := by norm_cast
  have g4 : 2 ^ j ≤ 2 ^ k := Nat.pow_le_pow_right (by decide) hj2
  have g5 : 1 ≤ 2 ^ j := Nat.one_le_two_pow
  rw [e, mm_b, this]
  dsimp only
  omega
theorem bd_shr {lo hi a b : Int} {x y z : Int32} (e : z = x >>> (y &&& 31)) (hx : mm_b a b x) (h : 0 ≤ a ∧ lo ≤ 0 ∧ b ≤ hi) : mm_b lo hi z := by
  obtain ⟨h1, h2⟩ := hx
  have g := pk_shr x (y &&& 31) _ rfl
  rw [Int.shiftRight_eq_div_pow] at g
  have g1 : 0 ≤ x.toInt / ((2 ^ ((y &&& 31).toBitVec.smod 32).toNat : Nat) : Int) := Int.ediv_nonneg (by omega) (Int.natCast_nonneg _)
  have g2 : x.toInt / ((2 ^ ((y &&& 31).toBitVec.smod 32).toNat : Nat) : Int) ≤ x.toInt := Int.ediv_le_self _ (by omega)
  rw [e, mm_b, g]
  omega
theorem bd_div {lo hi a b c d : Int} {x y z : Int32} (e : z = x / y) (hx : mm_b a b x) (hy : mm_b c d y) (h : (0 ≤ a ∧ 1 ≤ c) ∧ lo ≤ a / d ∧ b / c ≤ hi) : mm_b lo hi z := by
  obtain ⟨h1, h2⟩ := hx
  obtain ⟨h3, h4⟩ := hy
  obtain ⟨⟨h5, h6⟩, h7, h8⟩ := h
  have r := bd_rng x
  have g1 : 0 ≤ x.toInt / y.toInt := Int.ediv_nonneg (by omega) (by omega)
  have g2 : x.toInt / y.toInt ≤ x.toInt := Int.ediv_le_self _ (by omega)
  have g3 : x.toInt / y.toInt ≤ b / c := by
    refine Int.le_trans (Int.ediv_le_ediv (by omega) h2) ?_
    rw [Int.le_ediv_iff_mul_le (by omega)]
    refine Int.le_trans (Int.mul_le_mul_of_nonneg_left h3 (Int.ediv_nonneg (by omega) (by omega))) ?_
    exact Int.ediv_mul_le _ (by omega)
  have g4 : a / d ≤ x.toInt / y.toInt := by
    refine Int.le_trans (Int.ediv_le_ediv (by omega) h1) ?_
    rw [Int.le_ediv_iff_mul_le (by omega)]
    refine Int.le_trans (Int.mul_le_mul_of_nonneg_left h4 (Int.ediv_nonneg (by omega) (by omega))) ?_
    exact Int.ediv_mul_le _ (by omega)
  rw [e, mm_b, Int32.toInt_div, Int.tdiv_eq_ediv_of_nonneg (by omega), bd_bmod (by omega) (by omega)]
  omega
theorem bd_rem {lo hi a b c d : Int} {x y z : Int32} (e : z = x - x / y * y) (hx : mm_b a b x) (hy : mm_b c d y) (h : (0 ≤ a ∧ 1 ≤ c) ∧ lo ≤ 0 ∧ d - 1 ≤ hi) : mm_b lo hi z := by
  obtain ⟨h1, h2⟩ := hx
  obtain ⟨h3, h4⟩ := hy
  obtain ⟨⟨h5, h6⟩, h7, h8⟩ := h
  have g1 := Int.emod_nonneg x.toInt (show y.toInt ≠ 0 by omega)
  have g2 := Int.emod_lt_of_pos x.toInt (show 0 < y.toInt by omega)
  rw [e, mm_b, rem_toInt, Int.tmod_eq_emod_of_nonneg (by omega)]
  omega
theorem bd_ne0 {c d : Int} {y : Int32} (hy : mm_b c d y) (h : 1 ≤ c) : ¬ y = 0 := by
  intro e
  have : y.toInt = 0 := by rw [e]; rfl
  omega
/-! comparisons -/
theorem bd_lt_l {lo hi a b c d : Int} {x y : Int32} (q : x < y) (hx : mm_b a b x) (hy : mm_b c d y) (h : lo ≤ a ∧ (b ≤ hi ∨ d - 1 ≤ hi)) : mm_b lo hi x := by
  have := Int32.lt_iff_toInt_lt.mp q
  omega
theorem bd_lt_r {lo hi a b c d : Int} {x y : Int32} (q : x < y) (hx : mm_b a b x) (hy : mm_b c d y) (h : (lo ≤ c ∨ lo ≤ a + 1) ∧ d ≤ hi) : mm_b lo hi y := by
  have := Int32.lt_iff_toInt_lt.mp q
  omega
theorem bd_le_l {lo hi a b c d : Int} {x y : Int32} (q : x ≤ y) (hx : mm_b a b x) (hy : mm_b c d y) (h : lo ≤ a ∧ (b ≤ hi ∨ d ≤ hi)) : mm_b lo hi x := by
  have := Int32.le_iff_toInt_le.mp q
  omega
theorem bd_le_r {lo hi a b c d : Int} {x y : Int32} (q : x ≤ y) (hx : mm_b a b x) (hy : mm_b c d y) (h : (lo ≤ c ∨ lo ≤ a) ∧ d ≤ hi) : mm_b lo hi y := by
  have := Int32.le_iff_toInt_le.mp q
  omega
theorem bd_nlt {x y : Int32} (q : ¬ x < y) : y ≤ x := by
  rw [Int32.lt_iff_toInt_lt] at q
  rw [Int32.le_iff_toInt_le]
  omega
theorem bd_nle {x y : Int32} (q : ¬ x ≤ y) : y < x := by
  rw [Int32.le_iff_toInt_le] at q
  rw [Int32.lt_iff_toInt_lt]
  omega
theorem bd_eq_l {lo hi a b c d : Int} {x y : Int32} (q : x = y) (hx : mm_b a b x) (hy : mm_b c d y) (h : (lo ≤ a ∨ lo ≤ c) ∧ (b ≤ hi ∨ d ≤ hi)) : mm_b lo hi x := by
  subst q
  omega
theorem bd_ne_l {lo hi a b c : Int} {x y : Int32} (q : ¬ x = y) (hx : mm_b a b x) (hy : mm_b c c y) (h : (lo ≤ a ∨ (a = c ∧ lo ≤ a + 1)) ∧ (b ≤ hi ∨ (b = c ∧ b - 1 ≤ hi))) : mm_b lo hi x := by
  have : x.toInt ≠ y.toInt := fun e => q (Int32.toInt_inj.mp e)
  omega
/-! false branches -/
theorem bd_flt {a b c d : Int} {x y : Int32} {P : Prop} (q : x < y) (hx : mm_b a b x) (hy : mm_b c d y) (h : d ≤ a) : P := by
  have := Int32.lt_iff_toInt_lt.mp q
  omega
theorem bd_fle {a b c d : Int} {x y : Int32} {P : Prop} (q : x ≤ y) (hx : mm_b a b x) (hy : mm_b c d y) (h : d < a) : P := by
  have := Int32.le_iff_toInt_le.mp q
  omega
theorem bd_feq {a b c d : Int} {x y : Int32} {P : Prop} (q : x = y) (hx : mm_b a b x) (hy : mm_b c d y) (h : d < a ∨ b < c) : P := by
  subst q
  omega
theorem bd_fne {a : Int} {x y : Int32} {P : Prop} (q : ¬ x = y) (hx : mm_b a a x) (hy : mm_b a a y) : P := absurd (Int32.toInt_inj.mp (by omega)) q
theorem bd_in {lo hi : Int} {i : Int32} {N : Nat} (h : mm_b lo hi i) (h2 : 0 ≤ lo ∧ hi < N) : vp_in i N := vp_in_iff.mpr ⟨by omega, by omega⟩
theorem bd_cl {lo hi : Int} {i : Int32} (h : mm_b lo hi i) (h2 : 0 ≤ lo) : (i.toNatClampNeg : Int) = i.toInt := by
  show ((i.toInt.toNat : Nat) : Int) = i.toInt
  omega
/-! tables: address, from, to, least, most -/
abbrev mm_T : Type := List (Nat × Nat × Nat × Int × Int)
def mm_I (tb : mm_T) (S : mm_S) : Prop := ∀ q ∈ tb, ∀ j, q.2.1 ≤ j → j ≤ q.2.2.1 → mm_b q.2.2.2.1 q.2.2.2.2 (S.1 q.1 j)
theorem mm_I.fld {tb : mm_T} {S : mm_S} (h : mm_I tb S) {a j l u : Nat} {lo hi : Int} {v : Int32} (e : v = S.1 a j) (hq : (a, l, u, lo, hi) ∈ tb) (hj : l ≤ j ∧ j ≤ u) : mm_b lo hi v := by
  rw [e]
  exact h _ hq j hj.1 hj.2
theorem mm_I.elt {tb : mm_T} {S : mm_S} (h : mm_I tb S) {a l u : Nat} {lo hi c d : Int} {v i : Int32} (e : v = S.1 a i.toNatClampNeg) (hi1 : mm_b c d i) (hq : (a, l, u, lo, hi) ∈ tb) (hj : (l : Int) ≤ c ∧ d ≤ u) : mm_b lo hi v := by
  rw [e]
  have := bd_cl hi1 (by omega)
  exact h _ hq _ (by dsimp only; omega) (by dsimp only; omega)
/-- may a value between lo and hi be written at the places from il to ih of the address a? -/
def mm_ck (tb : mm_T) (a : Nat) (il ih lo hi : Int) : Bool := tb.all (fun q => q.1 != a || (decide (ih < q.2.1) || (decide ((q.2.2.1 : Int) < il) || (decide (q.2.2.2.1 ≤ lo) && decide (hi ≤ q.2.2.2.2)))))
theorem mm_I.put {tb : mm_T} {S : mm_S} (h : mm_I tb S) {a j : Nat} {il ih lo hi : Int} {v : Int32} (hv : mm_b lo hi v) (hj : il ≤ j ∧ j ≤ ih) (hc : mm_ck tb a il ih lo hi = true) : mm_I tb (mm_up S a j v) := by
  intro q hq i h1 h2
  have h3 := List.all_eq_true.mp hc q hq
  simp only [Bool.or_eq_true, Bool.and_eq_true, decide_eq_true_eq, bne_iff_ne] at h3
  show mm_b _ _ (if q.1 = a ∧ i = j then v else S.1 q.1 i)
  split
  · rename_i h4
    rcases h3 with h3 | h3 | h3 | h3
    · exact absurd h4.1 h3
    · omega
    · omega
    · exact ⟨Int.le_trans h3.1 hv.1, Int.le_trans hv.2 h3.2⟩
  · exact h q hq i h1 h2
theorem mm_I.puta {tb : mm_T} {S : mm_S} (h : mm_I tb S) {a : Nat} {il ih lo hi : Int} {v i : Int32} (hv : mm_b lo hi v) (hi1 : mm_b il ih i) (h0 : 0 ≤ il) (hc : mm_ck tb a il ih lo hi = true) : mm_I tb (mm_up S a i.toNatClampNeg v) := by
  have := bd_cl hi1 h0
  exact h.put hv (by omega) hc
theorem mm_I.putL {tb : mm_T} {S : mm_S} (h : mm_I tb S) {a j : Nat} {v : Int64} : mm_I tb (mm_upL S a j v) := h
theorem mm_I.putR {tb : mm_T} {S : mm_S} (h : mm_I tb S) {a j : Nat} {v : Nat} : mm_I tb (mm_upR S a j v) := h
