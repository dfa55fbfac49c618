/-! ===== the orders of a small set, as numbers that rise ===== -/
def fcN (m : Nat) : Nat := if m = 4 then 24 else if m = 3 then 6 else if m = 2 then 2 else 1
/-- the member of this index, the least first -/
def mbF (l : Nat) : Nat → Nat → Nat → Nat
  | 0, _, _ => 0
  | f + 1, j, p => if l.testBit p then (if j = 0 then p else mbF l f (j - 1) (p + 1)) else mbF l f j (p + 1)
def mbN (l j : Nat) : Nat := mbF l 7 j 0
def clN (l p : Nat) : Nat := l &&& (127 ^^^ (1 <<< p))
def plN : Nat → Nat → Nat → List Nat
  | 0, _, _ => []
  | m + 1, l, r => mbN l (r / fcN m) :: plN m (clN l (mbN l (r / fcN m))) (r % fcN m)
def nuN (a : Nat) : List Nat → Nat
  | [] => a
  | p :: t => nuN (10 * a + p + 1) t
/-- the number of the order of index i of the set s -/
def onN (s i : Nat) : Nat := nuN 0 (plN (pcN s) s i)
theorem plN_len : ∀ (m l r : Nat), (plN m l r).length = m
  | 0, l, r => rfl
  | m + 1, l, r => by rw [plN, List.length_cons, plN_len m]
/-- an order of this set: its figures, the last one first -/
def okd (s o k : Nat) : Bool := (List.range k).all (fun j => decide (1 ≤ fg o j ∧ fg o j ≤ 7) && s.testBit (fg o j - 1)) && (List.range k).all (fun j => (List.range j).all (fun l => fg o l != fg o j)) && (List.range 7).all (fun q => !s.testBit q || (List.range k).any (fun j => fg o j == q + 1))
def ckN (s i : Nat) : Bool := okd s (onN s i) (pcN s) && decide (10 ^ (pcN s - 1) ≤ onN s i ∧ onN s i < 10 ^ pcN s) && (List.range (pcN s)).all (fun j => fg (onN s i) (pcN s - 1 - j) == (plN (pcN s) s i).getD j 0 + 1) && (decide (i + 1 = fcN (pcN s)) || decide (onN s i < onN s (i + 1)))
set_option maxRecDepth 100000 in
theorem ckT : ∀ s : Fin 128, 1 ≤ pcN s.val ∧ pcN s.val ≤ 4 → ∀ i : Fin 24, i.val < fcN (pcN s.val) → ckN s.val i.val = true := by decide +kernel
/-! every such number is among them -/
def rk4 (a b c d : Nat) : Nat := 6 * ((if b < a then 1 else 0) + (if c < a then 1 else 0) + (if d < a then 1 else 0)) + 2 * ((if c < b then 1 else 0) + (if d < b then 1 else 0)) + (if d < c then 1 else 0)
def rk3 (b c d : Nat) : Nat := 2 * ((if c < b then 1 else 0) + (if d < b then 1 else 0)) + (if d < c then 1 else 0)
set_option maxRecDepth 100000 in
theorem cm4 : ∀ a b c d : Fin 7, a ≠ b ∧ a ≠ c ∧ a ≠ d ∧ b ≠ c ∧ b ≠ d ∧ c ≠ d → onN (2 ^ a.val ||| 2 ^ b.val ||| 2 ^ c.val ||| 2 ^ d.val) (rk4 a.val b.val c.val d.val) = 1000 * (a.val + 1) + 100 * (b.val + 1) + 10 * (c.val + 1) + (d.val + 1) ∧ rk4 a.val b.val c.val d.val < 24 := by decide +kernel
set_option maxRecDepth 100000 in
theorem cm3 : ∀ b c d : Fin 7, b ≠ c ∧ b ≠ d ∧ c ≠ d → onN (2 ^ b.val ||| 2 ^ c.val ||| 2 ^ d.val) (rk3 b.val c.val d.val) = 100 * (b.val + 1) + 10 * (c.val + 1) + (d.val + 1) ∧ rk3 b.val c.val d.val < 6 := by decide +kernel
theorem cm2 : ∀ c d : Fin 7, c ≠ d → onN (2 ^ c.val ||| 2 ^ d.val) (if d.val < c.val then 1 else 0) = 10 * (c.val + 1) + (d.val + 1) := by decide +kernel
theorem cm1 : ∀ d : Fin 7, onN (2 ^ d.val) 0 = d.val + 1 := by decide +kernel
/-! okd as a sentence -/
section PRM
variable {s o k i j q : Nat}
theorem okd_p (h : okd s o k = true) : (∀ j, j < k → 1 ≤ fg o j ∧ fg o j ≤ 7 ∧ s.testBit (fg o j - 1) = true) ∧ (∀ j l, l < j → j < k → fg o l ≠ fg o j) ∧ (∀ q, q < 7 → s.testBit q = true → ∃ j, j < k ∧ fg o j = q + 1) := by
  unfold okd at h
  simp only [Bool.and_eq_true, List.all_eq_true, List.mem_range, decide_eq_true_eq, bne_iff_ne, Bool.or_eq_true, Bool.not_eq_true', List.any_eq_true, beq_iff_eq] at h
  obtain ⟨⟨h1, h2⟩, h3⟩ := h
  refine ⟨fun j hj => ⟨(h1 j hj).1.1, (h1 j hj).1.2, (h1 j hj).2⟩, fun j l hl hj => h2 j hj l hl, fun q hq ht => ?_⟩
  rcases h3 q hq with z | z
  · rw [ht] at z
    exact absurd z (by decide)
  · exact z
theorem btN : ∀ s : Fin 128, ∀ p : Fin 7, bt (nI s.val) p.val ↔ s.val.testBit p.val = true := by decide +kernel
theorem bt_N (hs : s < 128) (hq : q < 7) : bt (nI s) q ↔ s.testBit q = true := btN ⟨s, hs⟩ ⟨q, hq⟩
/-- an order of the set, in figures -/
def vd (s o k : Nat) : Prop := og (nI s) o 0 k ∧ mk (nI s) o 0 k
theorem vd_of (hs : s < 128) (h : okd s o k = true) : vd s o k := by
  obtain ⟨h1, h2, h3⟩ := okd_p h
  refine ⟨⟨fun j _ hj => ⟨(h1 j hj).1, (h1 j hj).2.1, ?_⟩, fun l j _ hl hj => h2 j l hl hj⟩, fun q hq => ?_⟩
  · have := h1 j hj
    exact (bt_N hs (by omega)).mpr this.2.2
  · rw [bt_N hs hq]
    constructor
    · intro z
      obtain ⟨j, hj, e⟩ := h3 q hq z
      exact ⟨j, by omega, hj, e⟩
    · rintro ⟨j, _, hj, e⟩
      have := (h1 j hj).2.2
      rw [e] at this
      exact this
theorem vd_bit (hs : s < 128) (h : vd s o k) (t : Nat) (ht : t < 128) (e : ∀ q, q < 7 → (t.testBit q = true ↔ ∃ j, j < k ∧ fg o j = q + 1)) : s = t := by
  apply Nat.eq_of_testBit_eq
  intro i
  rcases Nat.lt_or_ge i 7 with hi | hi
  · have a := h.2 i hi
    rw [bt_N hs hi] at a
    have b := e i hi
    have c : s.testBit i = true ↔ t.testBit i = true := by
      rw [a, b]
      exact ⟨fun ⟨j, _, x, y⟩ => ⟨j, x, y⟩, fun ⟨j, x, y⟩ => ⟨j, by omega, x, y⟩⟩
    exact Bool.eq_iff_iff.mpr c
  · have p : 2 ^ 7 ≤ 2 ^ i := Nat.pow_le_pow_right (by decide) hi
    rw [Nat.testBit_lt_two_pow (by omega), Nat.testBit_lt_two_pow (by omega)]
theorem vd_all (hs : s < 128) (k1 : 1 ≤ k) (k4 : k ≤ 4) (lo : 10 ^ (k - 1) ≤ o) (hi : o < 10 ^ k) (h : vd s o k) : ∃ i, i < fcN k ∧ onN s i = o := by
  have f : ∀ j, j < k → ∃ p : Fin 7, fg o j = p.val + 1 := fun j hj => by
    have g := h.1.1 j (by omega) hj
    have g1 := g.1
    have g2 := g.2.1
    exact ⟨⟨fg o j - 1, by omega⟩, by dsimp only; omega⟩
  have ne : ∀ j l, j < l → l < k → fg o j ≠ fg o l := fun j l a b => h.1.2 j l (by omega) a b
  have d0 : fg o 0 = o % 10 := by rw [fg, Nat.pow_zero, Nat.div_one]
  have d1 : fg o 1 = o / 10 % 10 := by rw [fg, Nat.pow_one]
  have d2 : fg o 2 = o / 100 % 10 := rfl
  have d3 : fg o 3 = o / 1000 % 10 := rfl
  have tb : ∀ (x q : Nat), (2 ^ x).testBit q = true ↔ x = q := fun x q => by rw [Nat.testBit_two_pow, decide_eq_true_eq]
  rcases (by omega : k = 1 ∨ k = 2 ∨ k = 3 ∨ k = 4) with rfl | rfl | rfl | rfl
  · skip
    obtain ⟨d, e0⟩ := f 0 (by omega)
    have hd := d.isLt
    have es : s = 2 ^ d.val := vd_bit hs h _ (Nat.pow_lt_pow_right (n := 7) (by decide) hd) (fun q hq => by
      rw [tb]
      constructor
      · intro z
        exact ⟨0, by omega, by omega⟩
      · rintro ⟨j, hj, z⟩
        rw [show j = 0 by omega] at z
        omega)
    refine ⟨0, by decide, ?_⟩
    rw [es, cm1 d]
    omega
  · skip
    obtain ⟨d, e0⟩ := f 0 (by omega)
    obtain ⟨c, e1⟩ := f 1 (by omega)
    have n01 := ne 0 1 (by omega) (by omega)
    have hd := d.isLt
    have hc := c.isLt
    have es : s = 2 ^ c.val ||| 2 ^ d.val := vd_bit hs h _ (Nat.or_lt_two_pow (n := 7) (Nat.pow_lt_pow_right (by decide) hc) (Nat.pow_lt_pow_right (by decide) hd)) (fun q hq => by
      rw [Nat.testBit_or, Bool.or_eq_true, tb, tb]
      constructor
      · rintro (z | z)
        · exact ⟨1, by omega, by omega⟩
        · exact ⟨0, by omega, by omega⟩
      · rintro ⟨j, hj, z⟩
        rcases (by omega : j = 0 ∨ j = 1) with y | y
        · rw [y] at z; omega
        · rw [y] at z; omega)
    have m := cm2 c d (fun z => n01 (by rw [e0, e1, z]))
    refine ⟨if d.val < c.val then 1 else 0, by show (if d.val < c.val then 1 else 0) < 2; split <;> omega, ?_⟩
    rw [es, m]
    omega
  · skip
    obtain ⟨d, e0⟩ := f 0 (by omega)
    obtain ⟨c, e1⟩ := f 1 (by omega)
    obtain ⟨b, e2⟩ := f 2 (by omega)
    have n01 := ne 0 1 (by omega) (by omega)
    have n02 := ne 0 2 (by omega) (by omega)
    have n12 := ne 1 2 (by omega) (by omega)
    have hd := d.isLt
    have hc := c.isLt
    have hb := b.isLt
    have es : s = 2 ^ b.val ||| 2 ^ c.val ||| 2 ^ d.val := vd_bit hs h _ (Nat.or_lt_two_pow (n := 7) (Nat.or_lt_two_pow (Nat.pow_lt_pow_right (by decide) hb) (Nat.pow_lt_pow_right (by decide) hc)) (Nat.pow_lt_pow_right (by decide) hd)) (fun q hq => by
      rw [Nat.testBit_or, Nat.testBit_or, Bool.or_eq_true, Bool.or_eq_true, tb, tb, tb]
      constructor
      · rintro ((z | z) | z)
        · exact ⟨2, by omega, by omega⟩
        · exact ⟨1, by omega, by omega⟩
        · exact ⟨0, by omega, by omega⟩
      · rintro ⟨j, hj, z⟩
        rcases (by omega : j = 0 ∨ j = 1 ∨ j = 2) with y | y | y
        · rw [y] at z; omega
        · rw [y] at z; omega
        · rw [y] at z; omega)
    have m := cm3 b c d ⟨fun z => n12 (by rw [e1, e2, z]), fun z => n02 (by rw [e0, e2, z]), fun z => n01 (by rw [e0, e1, z])⟩
    refine ⟨rk3 b.val c.val d.val, m.2, ?_⟩
    rw [es, m.1]
    omega
  · skip
    obtain ⟨d, e0⟩ := f 0 (by omega)
    obtain ⟨c, e1⟩ := f 1 (by omega)
    obtain ⟨b, e2⟩ := f 2 (by omega)
    obtain ⟨a, e3⟩ := f 3 (by omega)
    have n01 := ne 0 1 (by omega) (by omega)
    have n02 := ne 0 2 (by omega) (by omega)
    have n03 := ne 0 3 (by omega) (by omega)
    have n12 := ne 1 2 (by omega) (by omega)
    have n13 := ne 1 3 (by omega) (by omega)
    have n23 := ne 2 3 (by omega) (by omega)
    have hd := d.isLt
    have hc := c.isLt
    have hb := b.isLt
    have ha := a.isLt
    have es : s = 2 ^ a.val ||| 2 ^ b.val ||| 2 ^ c.val ||| 2 ^ d.val := vd_bit hs h _ (Nat.or_lt_two_pow (n := 7) (Nat.or_lt_two_pow (Nat.or_lt_two_pow (Nat.pow_lt_pow_right (by decide) ha) (Nat.pow_lt_pow_right (by decide) hb)) (Nat.pow_lt_pow_right (by decide) hc)) (Nat.pow_lt_pow_right (by decide) hd)) (fun q hq => by
      rw [Nat.testBit_or, Nat.testBit_or, Nat.testBit_or, Bool.or_eq_true, Bool.or_eq_true, Bool.or_eq_true, tb, tb, tb, tb]
      constructor
      · rintro (((z | z) | z) | z)
        · exact ⟨3, by omega, by omega⟩
        · exact ⟨2, by omega, by omega⟩
        · exact ⟨1, by omega, by omega⟩
        · exact ⟨0, by omega, by omega⟩
      · rintro ⟨j, hj, z⟩
        rcases (by omega : j = 0 ∨ j = 1 ∨ j = 2 ∨ j = 3) with y | y | y | y
        · rw [y] at z; omega
        · rw [y] at z; omega
        · rw [y] at z; omega
        · rw [y] at z; omega)
    have m := cm4 a b c d ⟨fun z => n23 (by rw [e2, e3, z]), fun z => n13 (by rw [e1, e3, z]), fun z => n03 (by rw [e0, e3, z]), fun z => n12 (by rw [e1, e2, z]), fun z => n02 (by rw [e0, e2, z]), fun z => n01 (by rw [e0, e1, z])⟩
    refine ⟨rk4 a.val b.val c.val d.val, m.2, ?_⟩
    rw [es, m.1]
    omega
/-- what is told of the orders of a set -/
theorem on_p (hs : s < 128) (k1 : 1 ≤ pcN s) (k4 : pcN s ≤ 4) (hi : i < fcN (pcN s)) : vd s (onN s i) (pcN s) ∧ 10 ^ (pcN s - 1) ≤ onN s i ∧ onN s i < 10 ^ pcN s ∧ (∀ j, j < pcN s → fg (onN s i) (pcN s - 1 - j) = (plN (pcN s) s i).getD j 0 + 1) ∧ (i + 1 < fcN (pcN s) → onN s i < onN s (i + 1)) := by
  have f24 : fcN (pcN s) ≤ 24 := by
    unfold fcN
    split
    · omega
    · split
      · omega
      · split <;> omega
  have c := ckT ⟨s, hs⟩ ⟨k1, k4⟩ ⟨i, by omega⟩ hi
  dsimp only at c
  unfold ckN at c
  simp only [Bool.and_eq_true, List.all_eq_true, List.mem_range, decide_eq_true_eq, Bool.or_eq_true, beq_iff_eq] at c
  obtain ⟨⟨⟨c1, c2⟩, c3⟩, c4⟩ := c
  exact ⟨vd_of hs c1, c2.1, c2.2, c3, fun z => c4.resolve_left (by omega)⟩
theorem on_mono (hs : s < 128) (k1 : 1 ≤ pcN s) (k4 : pcN s ≤ 4) : ∀ d i, i + d + 1 < fcN (pcN s) → onN s i < onN s (i + d + 1)
  | 0, i, h => (on_p hs k1 k4 (by omega)).2.2.2.2 h
  | d + 1, i, h => Nat.lt_trans (on_mono hs k1 k4 d i (by omega)) ((on_p hs k1 k4 (i := i + d + 1) (by omega)).2.2.2.2 (by omega))
/-- none between two that follow each other, ahead of the first, behind the last -/
theorem on_gap (hs : s < 128) (k1 : 1 ≤ pcN s) (k4 : pcN s ≤ 4) (lo : 10 ^ (pcN s - 1) ≤ o) (hi : o < 10 ^ pcN s) (i : Nat) (a : i = 0 ∨ (i ≤ fcN (pcN s) ∧ onN s (i - 1) < o)) (b : i = fcN (pcN s) ∨ (i < fcN (pcN s) ∧ o < onN s i)) : ¬ vd s o (pcN s) := by
  intro v
  obtain ⟨j, hj, e⟩ := vd_all hs k1 k4 lo hi v
  rcases Nat.lt_or_ge j i with q | q
  · rcases a with a | ⟨a1, a2⟩
    · omega
    · rcases Nat.lt_or_ge j (i - 1) with r | r
      · have := on_mono hs k1 k4 (i - 1 - j - 1) j (by omega)
        rw [show j + (i - 1 - j - 1) + 1 = i - 1 by omega] at this
        omega
      · rw [show j = i - 1 by omega] at e
        omega
  · rcases b with b | ⟨b1, b2⟩
    · omega
    · rcases Nat.lt_or_ge i j with r | r
      · have := on_mono hs k1 k4 (j - i - 1) i (by omega)
        rw [show i + (j - i - 1) + 1 = j by omega] at this
        omega
      · rw [show i = j by omega] at b2
        omega
end PRM
