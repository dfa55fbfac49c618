/-! ===== folk: the class's five rows beside the reference's one ===== -/
def Fk (f u j a b r : Nat) (P : Int32) (S1 S2 : mm_S) : Prop := S1.1 f 0 = S2.1 r 28 ∧ S1.1 f 1 = S2.1 r 29 ∧ S1.1 f 2 = P ∧ ∀ i, i < 7 → S1.1 u i = S2.1 r i ∧ S1.1 j i = S2.1 r (7 + i) ∧ S1.1 a i = S2.1 r (14 + i) ∧ S1.1 b i = S2.1 r (21 + i)
def Wf (r : Nat) (P : Int32) (S2 : mm_S) : Prop := mm_b 0 127 (S2.1 r 28) ∧ (∀ i, i < 7 → bt (S2.1 r 28) i → (i : Int) < P.toInt) ∧ ∀ i, i < 7 → (S2.1 r i = 9 ∨ mm_b 0 6 (S2.1 r i)) ∧ mm_b 0 127 (S2.1 r (7 + i)) ∧ (¬ bt (S2.1 r 28) i → S2.1 r i = 9 ∧ S2.1 r (7 + i) = 0) ∧ mm_b 0 9 (S2.1 r (14 + i)) ∧ mm_b 0 9 (S2.1 r (21 + i))
def Gf (f b : Nat) (S U : mm_S) : Prop := (∀ x, x < f ∨ b < x → U.1 x = S.1 x) ∧ U.2 = S.2
def Gm (r : Nat) (S U : mm_S) : Prop := (∀ x, x ≠ r → U.1 x = S.1 x) ∧ U.2 = S.2
def Sm (f u j a b r : Nat) (P : Int32) (S1 S2 U1 U2 : mm_S) : Prop := Fk f u j a b r P U1 U2 ∧ Wf r P U2 ∧ Gf f b S1 U1 ∧ Gm r S2 U2
section FK
variable {f u j a b r : Nat} {P v x : Int32} {S S1 S2 U1 U2 V1 V2 : mm_S} {i : Nat}
theorem Gf_rf : Gf f b S S := ⟨fun _ _ => rfl, rfl⟩
theorem Gm_rf : Gm r S S := ⟨fun _ _ => rfl, rfl⟩
theorem Gf_tr (h : Gf f b S U1) (h2 : Gf f b U1 V1) : Gf f b S V1 := ⟨fun x hx => (h2.1 x hx).trans (h.1 x hx), h2.2.trans h.2⟩
theorem Gm_tr (h : Gm r S U1) (h2 : Gm r U1 V1) : Gm r S V1 := ⟨fun x hx => (h2.1 x hx).trans (h.1 x hx), h2.2.trans h.2⟩
theorem Gf_up (h : Gf f b S U1) {x k : Nat} (hx : f ≤ x ∧ x ≤ b) : Gf f b S (mm_up U1 x k v) := ⟨fun y hy => by rw [up_row (by omega)]; exact h.1 y hy, by rw [up_2]; exact h.2⟩
theorem Gm_up (h : Gm r S U1) {k : Nat} : Gm r S (mm_up U1 r k v) := ⟨fun y hy => by rw [up_row hy]; exact h.1 y hy, by rw [up_2]; exact h.2⟩
theorem Sm_rf (h : Fk f u j a b r P S1 S2) (w : Wf r P S2) : Sm f u j a b r P S1 S2 S1 S2 := ⟨h, w, Gf_rf, Gm_rf⟩
theorem Sm_tr (h : Sm f u j a b r P S1 S2 U1 U2) (h2 : Sm f u j a b r P U1 U2 V1 V2) : Sm f u j a b r P S1 S2 V1 V2 := ⟨h2.1, h2.2.1, Gf_tr h.2.2.1 h2.2.2.1, Gm_tr h.2.2.2 h2.2.2.2⟩
theorem Fk_u (hd : f < u ∧ u < j ∧ j < a ∧ a < b) (h : Fk f u j a b r P S1 S2) (hi : i < 7) : Fk f u j a b r P (mm_up S1 u i v) (mm_up S2 r i v) := by
  obtain ⟨h0, h1, h2, h3⟩ := h
  refine ⟨?_, ?_, ?_, fun k hk => ?_⟩
  · rw [up_ne (by omega), up_ne (by omega)]; exact h0
  · rw [up_ne (by omega), up_ne (by omega)]; exact h1
  · rw [up_ne (by omega)]; exact h2
  · obtain ⟨q1, q2, q3, q4⟩ := h3 k hk
    refine ⟨?_, ?_, ?_, ?_⟩
    · by_cases e : k = i
      · rw [e, up_at, up_at]
      · rw [up_ne (by omega), up_ne (by omega)]; exact q1
    · rw [up_ne (by omega), up_ne (by omega)]; exact q2
    · rw [up_ne (by omega), up_ne (by omega)]; exact q3
    · rw [up_ne (by omega), up_ne (by omega)]; exact q4
theorem Fk_j (hd : f < u ∧ u < j ∧ j < a ∧ a < b) (h : Fk f u j a b r P S1 S2) (hi : i < 7) : Fk f u j a b r P (mm_up S1 j i v) (mm_up S2 r (7 + i) v) := by
  obtain ⟨h0, h1, h2, h3⟩ := h
  refine ⟨?_, ?_, ?_, fun k hk => ?_⟩
  · rw [up_ne (by omega), up_ne (by omega)]; exact h0
  · rw [up_ne (by omega), up_ne (by omega)]; exact h1
  · rw [up_ne (by omega)]; exact h2
  · obtain ⟨q1, q2, q3, q4⟩ := h3 k hk
    refine ⟨?_, ?_, ?_, ?_⟩
    · rw [up_ne (by omega), up_ne (by omega)]; exact q1
    · by_cases e : k = i
      · rw [e, up_at, up_at]
      · rw [up_ne (by omega), up_ne (by omega)]; exact q2
    · rw [up_ne (by omega), up_ne (by omega)]; exact q3
    · rw [up_ne (by omega), up_ne (by omega)]; exact q4
theorem Fk_1 (hd : f < u ∧ u < j ∧ j < a ∧ a < b) (h : Fk f u j a b r P S1 S2) (hi : i < 7) : Fk f u j a b r P (mm_up S1 a i v) (mm_up S2 r (14 + i) v) := by
  obtain ⟨h0, h1, h2, h3⟩ := h
  refine ⟨?_, ?_, ?_, fun k hk => ?_⟩
  · rw [up_ne (by omega), up_ne (by omega)]; exact h0
  · rw [up_ne (by omega), up_ne (by omega)]; exact h1
  · rw [up_ne (by omega)]; exact h2
  · obtain ⟨q1, q2, q3, q4⟩ := h3 k hk
    refine ⟨?_, ?_, ?_, ?_⟩
    · rw [up_ne (by omega), up_ne (by omega)]; exact q1
    · rw [up_ne (by omega), up_ne (by omega)]; exact q2
    · by_cases e : k = i
      · rw [e, up_at, up_at]
      · rw [up_ne (by omega), up_ne (by omega)]; exact q3
    · rw [up_ne (by omega), up_ne (by omega)]; exact q4
theorem Fk_2 (hd : f < u ∧ u < j ∧ j < a ∧ a < b) (h : Fk f u j a b r P S1 S2) (hi : i < 7) : Fk f u j a b r P (mm_up S1 b i v) (mm_up S2 r (21 + i) v) := by
  obtain ⟨h0, h1, h2, h3⟩ := h
  refine ⟨?_, ?_, ?_, fun k hk => ?_⟩
  · rw [up_ne (by omega), up_ne (by omega)]; exact h0
  · rw [up_ne (by omega), up_ne (by omega)]; exact h1
  · rw [up_ne (by omega)]; exact h2
  · obtain ⟨q1, q2, q3, q4⟩ := h3 k hk
    refine ⟨?_, ?_, ?_, ?_⟩
    · rw [up_ne (by omega), up_ne (by omega)]; exact q1
    · rw [up_ne (by omega), up_ne (by omega)]; exact q2
    · rw [up_ne (by omega), up_ne (by omega)]; exact q3
    · by_cases e : k = i
      · rw [e, up_at, up_at]
      · rw [up_ne (by omega), up_ne (by omega)]; exact q4
theorem Fk_a (hd : f < u ∧ u < j ∧ j < a ∧ a < b) (h : Fk f u j a b r P S1 S2) : Fk f u j a b r P (mm_up S1 f 0 v) (mm_up S2 r 28 v) := by
  obtain ⟨h0, h1, h2, h3⟩ := h
  refine ⟨?_, ?_, ?_, fun k hk => ?_⟩
  · rw [up_at, up_at]
  · rw [up_ne (by omega), up_ne (by omega)]; exact h1
  · rw [up_ne (by omega)]; exact h2
  · obtain ⟨q1, q2, q3, q4⟩ := h3 k hk
    refine ⟨?_, ?_, ?_, ?_⟩
    · rw [up_ne (by omega), up_ne (by omega)]; exact q1
    · rw [up_ne (by omega), up_ne (by omega)]; exact q2
    · rw [up_ne (by omega), up_ne (by omega)]; exact q3
    · rw [up_ne (by omega), up_ne (by omega)]; exact q4
theorem Fk_d (hd : f < u ∧ u < j ∧ j < a ∧ a < b) (h : Fk f u j a b r P S1 S2) : Fk f u j a b r P (mm_up S1 f 1 v) (mm_up S2 r 29 v) := by
  obtain ⟨h0, h1, h2, h3⟩ := h
  refine ⟨?_, ?_, ?_, fun k hk => ?_⟩
  · rw [up_ne (by omega), up_ne (by omega)]; exact h0
  · rw [up_at, up_at]
  · rw [up_ne (by omega)]; exact h2
  · obtain ⟨q1, q2, q3, q4⟩ := h3 k hk
    refine ⟨?_, ?_, ?_, ?_⟩
    · rw [up_ne (by omega), up_ne (by omega)]; exact q1
    · rw [up_ne (by omega), up_ne (by omega)]; exact q2
    · rw [up_ne (by omega), up_ne (by omega)]; exact q3
    · rw [up_ne (by omega), up_ne (by omega)]; exact q4
/-- one who is alive comes to another voice -/
theorem Wf_u (w : Wf r P S2) (hi : i < 7) (hb : bt (S2.1 r 28) i) (hv : v = 9 ∨ mm_b 0 6 v) : Wf r P (mm_up S2 r i v) := by
  obtain ⟨w0, w1, w2⟩ := w
  have e28 : (mm_up S2 r i v).1 r 28 = S2.1 r 28 := up_ne (by omega)
  refine ⟨by rw [e28]; exact w0, by rw [e28]; exact w1, fun k hk => ?_⟩
  obtain ⟨q1, q2, q3, q4⟩ := w2 k hk
  rw [e28, up_ne (i := 7 + k) (by omega), up_ne (i := 14 + k) (by omega), up_ne (i := 21 + k) (by omega)]
  by_cases e : k = i
  · rw [e, up_at]
    exact ⟨hv, by rw [← e]; exact q2, fun z => absurd hb z, by rw [← e]; exact q4⟩
  · rw [up_ne (by omega)]
    exact ⟨q1, q2, q3, q4⟩
theorem Wf_j (w : Wf r P S2) (hi : i < 7) (hb : bt (S2.1 r 28) i) (hv : mm_b 0 127 v) : Wf r P (mm_up S2 r (7 + i) v) := by
  obtain ⟨w0, w1, w2⟩ := w
  have e28 : (mm_up S2 r (7 + i) v).1 r 28 = S2.1 r 28 := up_ne (by omega)
  refine ⟨by rw [e28]; exact w0, by rw [e28]; exact w1, fun k hk => ?_⟩
  obtain ⟨q1, q2, q3, q4⟩ := w2 k hk
  rw [e28, up_ne (i := k) (by omega), up_ne (i := 14 + k) (by omega), up_ne (i := 21 + k) (by omega)]
  by_cases e : k = i
  · rw [e, up_at]
    exact ⟨by rw [← e]; exact q1, hv, fun z => absurd hb z, by rw [← e]; exact q4⟩
  · rw [up_ne (by omega)]
    exact ⟨q1, q2, q3, q4⟩
theorem Wf_h (w : Wf r P S2) {k : Nat} (hk : 14 ≤ k ∧ k < 28) (hv : mm_b 0 9 v) : Wf r P (mm_up S2 r k v) := by
  obtain ⟨w0, w1, w2⟩ := w
  have e28 : (mm_up S2 r k v).1 r 28 = S2.1 r 28 := up_ne (by omega)
  refine ⟨by rw [e28]; exact w0, by rw [e28]; exact w1, fun l hl => ?_⟩
  obtain ⟨q1, q2, q3, q4, q5⟩ := w2 l hl
  rw [e28, up_ne (i := l) (by omega), up_ne (i := 7 + l) (by omega)]
  refine ⟨q1, q2, q3, ?_, ?_⟩
  · by_cases e : 14 + l = k
    · rw [e, up_at]; exact hv
    · rw [up_ne (by omega)]; exact q4
  · by_cases e : 21 + l = k
    · rw [e, up_at]; exact hv
    · rw [up_ne (by omega)]; exact q5
theorem Fk_row (h : Fk f u j a b r P S1 S2) (c0 : U1.1 f = S1.1 f) (c1 : U1.1 u = S1.1 u) (c2 : U1.1 j = S1.1 j) (c3 : U1.1 a = S1.1 a) (c4 : U1.1 b = S1.1 b) (m : U2.1 r = S2.1 r) : Fk f u j a b r P U1 U2 := by
  unfold Fk
  rw [c0, c1, c2, c3, c4, m]
  exact h
theorem Wf_row (w : Wf r P S2) (m : U2.1 r = S2.1 r) : Wf r P U2 := by
  unfold Wf
  rw [m]
  exact w
theorem nI_s {k : Nat} (h : k < 100) : nI k + Int32.ofInt 1 = nI (k + 1) := by
  rw [pz_of1]
  have e : (nI k).toInt = k := nI_toInt (by omega)
  exact Int32.toInt_inj.mp (by rw [pz_ti1 ⟨by omega, by omega⟩, e, nI_toInt (by omega)]; omega)
theorem nI_c {k : Nat} (h : k < 100) : (nI k).toNatClampNeg = k := by
  have e : (nI k).toInt = k := nI_toInt (by omega)
  show (nI k).toInt.toNat = k
  omega
end FK
