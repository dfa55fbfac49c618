/-! ===== bits of small sets ===== -/
abbrev bt (A : Int32) (p : Nat) : Prop := (A >>> (nI p &&& 31)) &&& 1 = 1
theorem sm_nI {A : Int32} (h : mm_b 0 127 A) : ∃ s : Fin 128, A = nI s.val := by
  obtain ⟨j, hj, hj2⟩ := bd_nI (x := A) h.1
  exact ⟨⟨j, by omega⟩, hj⟩
theorem bt_clT : ∀ s : Fin 128, ∀ p i : Fin 7, bt ((nI s.val) &&& (((1 : Int32) <<< (nI p.val &&& 31)) ^^^ (-1))) i.val ↔ (bt (nI s.val) i.val ∧ i ≠ p) := by decide +kernel
theorem bt_cl {A : Int32} (h : mm_b 0 127 A) {p i : Nat} (hp : p < 7) (hi : i < 7) : bt (A &&& (((1 : Int32) <<< (nI p &&& 31)) ^^^ (-1))) i ↔ (bt A i ∧ i ≠ p) := by
  obtain ⟨s, rfl⟩ := sm_nI h
  have := bt_clT s ⟨p, hp⟩ ⟨i, hi⟩
  rw [this]
  constructor
  · exact fun q => ⟨q.1, fun z => q.2 (Fin.ext z)⟩
  · exact fun q => ⟨q.1, fun z => q.2 (congrArg Fin.val z)⟩
theorem sm_and {A B : Int32} (h : mm_b 0 127 A) : mm_b 0 127 (A &&& B) := bd_and rfl h (by decide)
theorem sm_orT : ∀ s : Fin 128, ∀ p : Fin 7, mm_b 0 127 ((nI s.val) ||| ((1 : Int32) <<< (nI p.val &&& 31))) := by decide +kernel
theorem sm_or {A u : Int32} (h : mm_b 0 127 A) (hu : mm_b 0 6 u) : mm_b 0 127 (A ||| ((1 : Int32) <<< (u &&& 31))) := by
  obtain ⟨s, rfl⟩ := sm_nI h
  obtain ⟨j, rfl, hj⟩ := bd_nI (x := u) hu.1
  exact sm_orT s ⟨j, by omega⟩
theorem bt_hiT : ∀ s : Fin 128, ∀ p : Fin 10, bt (nI s.val) p.val → p.val ≤ 6 := by decide +kernel
theorem bt_hi {A : Int32} (h : mm_b 0 127 A) {p : Nat} (hp : p < 10) (hb : bt A p) : p < 7 := by
  obtain ⟨s, rfl⟩ := sm_nI h
  have := bt_hiT s ⟨p, hp⟩ hb
  dsimp only at this
  omega
theorem in_bt {S : mm_S} {A q : Int32} (hq : 0 ≤ q.toInt) : F_X10_isIn S A q = if bt A q.toNatClampNeg then 1 else 0 := by
  show F_X10_isIn S A q = if (A >>> (nI q.toNatClampNeg &&& 31)) &&& 1 = 1 then 1 else 0
  rw [F_X10_isIn, ← nI_cl hq]
theorem bt_0 {i : Nat} (hi : i < 7) : ¬ bt 0 i := by
  have : ∀ i : Fin 7, ¬ bt 0 i.val := by decide +kernel
  exact this ⟨i, hi⟩
/-- who is alive, as both ask it -/
abbrev lv (A q : Int32) : Prop := (0 ≤ q.toInt ∧ q.toInt ≤ 6) ∧ bt A q.toNatClampNeg
/-! the least of some -/
def lmF (β : Nat → Bool) : Nat → Nat → Int32
  | 0, _ => -1
  | k + 1, y => if β y then nI y else lmF β k (y + 1)
def setL (β : Nat → Bool) : Nat → Nat → Nat → Nat
  | 0, _, s => s
  | k + 1, y, s => setL β k (y + 1) (if β y then s ||| 2 ^ y else s)
theorem lmF_ext {β : Nat → Bool} : ∀ (k d y : Nat), (∀ i, y + k ≤ i → i < y + k + d → β i = false) → lmF β (k + d) y = lmF β k y
  | 0, 0, y, _ => rfl
  | 0, d + 1, y, h => by
    have e : β y = false := h y (by omega) (by omega)
    have ih := lmF_ext (β := β) 0 d (y + 1) (fun i h1 h2 => h i (by omega) (by omega))
    rw [Nat.zero_add] at ih ⊢
    show (if β y then nI y else lmF β d (y + 1)) = lmF β 0 y
    rw [e, if_neg Bool.false_ne_true]
    exact ih
  | k + 1, d, y, h => by
    rw [show k + 1 + d = k + d + 1 by omega, lmF, lmF, lmF_ext k d (y + 1) (fun i h1 h2 => h i (by omega) (by omega))]
theorem setL_ext {β : Nat → Bool} : ∀ (k d y s : Nat), (∀ i, y + k ≤ i → i < y + k + d → β i = false) → setL β (k + d) y s = setL β k y s
  | 0, 0, y, s, _ => rfl
  | 0, d + 1, y, s, h => by
    have e : β y = false := h y (by omega) (by omega)
    have ih := setL_ext (β := β) 0 d (y + 1) s (fun i h1 h2 => h i (by omega) (by omega))
    rw [Nat.zero_add] at ih ⊢
    show setL β d (y + 1) (if β y then s ||| 2 ^ y else s) = setL β 0 y s
    rw [e, if_neg Bool.false_ne_true]
    exact ih
  | k + 1, d, y, s, h => by
    rw [show k + 1 + d = k + d + 1 by omega, setL, setL, setL_ext k d (y + 1) _ (fun i h1 h2 => h i (by omega) (by omega))]
theorem lmF_or {β : Nat → Bool} : ∀ (k y : Nat), (lmF β k y = -1 ∧ ∀ i, y ≤ i → i < y + k → β i = false) ∨ (∃ i, y ≤ i ∧ i < y + k ∧ β i = true ∧ lmF β k y = nI i)
  | 0, y => Or.inl ⟨rfl, fun i h1 h2 => by omega⟩
  | k + 1, y => by
    rw [lmF]
    cases e : β y with
    | true => exact Or.inr ⟨y, by omega, by omega, e, if_pos rfl⟩
    | false =>
      rcases lmF_or (β := β) k (y + 1) with ⟨h1, h2⟩ | ⟨i, h1, h2, h3, h4⟩
      · refine Or.inl ⟨h1, fun i g1 g2 => ?_⟩
        by_cases q : i = y
        · rw [q]; exact e
        · exact h2 i (by omega) (by omega)
      · exact Or.inr ⟨i, by omega, by omega, h3, h4⟩
def bs7 (b0 b1 b2 b3 b4 b5 b6 : Bool) : Nat → Bool := fun i => match i with
  | 0 => b0
  | 1 => b1
  | 2 => b2
  | 3 => b3
  | 4 => b4
  | 5 => b5
  | 6 => b6
  | _ => false
theorem ls7T : ∀ b0 b1 b2 b3 b4 b5 b6 : Bool, F_X3_leastOf SC0 (nI (setL (bs7 b0 b1 b2 b3 b4 b5 b6) 7 0 0)) = lmF (bs7 b0 b1 b2 b3 b4 b5 b6) 7 0 := by decide +kernel
theorem lo_any {S T : mm_S} {x : Int32} : F_X3_leastOf S x = F_X3_leastOf T x := rfl
theorem ls7 {S : mm_S} {β : Nat → Bool} : F_X3_leastOf S (nI (setL β 7 0 0)) = lmF β 7 0 := by
  rw [lo_any (T := SC0)]
  have e1 : setL β 7 0 0 = setL (bs7 (β 0) (β 1) (β 2) (β 3) (β 4) (β 5) (β 6)) 7 0 0 := rfl
  have e2 : lmF β 7 0 = lmF (bs7 (β 0) (β 1) (β 2) (β 3) (β 4) (β 5) (β 6)) 7 0 := rfl
  rw [e1, e2]
  exact ls7T _ _ _ _ _ _ _
theorem nI_orT : ∀ s : Fin 128, ∀ y : Fin 7, nI s.val ||| ((1 : Int32) <<< (nI y.val &&& 31)) = nI (s.val ||| 2 ^ y.val) := by decide +kernel
/-- the least voice of a jar: 9 for none there, -1 here -/
theorem jar_leastT : ∀ s : Fin 128, (s.val = 0 → F_X3_leastOf SC0 (nI s.val) = -1 ∧ F_X10_leastOf SC0 (nI s.val) = 9) ∧ (s.val ≠ 0 → F_X3_leastOf SC0 (nI s.val) = F_X10_leastOf SC0 (nI s.val) ∧ mm_b 0 6 (F_X10_leastOf SC0 (nI s.val))) := by decide +kernel
theorem lo10_L {S T : mm_S} {x : Int32} : ∀ (N : Nat) (y : Int32), F_X10_leastOf_L2 x N S y = F_X10_leastOf_L2 x N T y
  | 0, y => rfl
  | N + 1, y => by
    rw [F_X10_leastOf_L2, F_X10_leastOf_L2, lo10_L N]
    rfl
theorem lo10_any {S T : mm_S} {x : Int32} : F_X10_leastOf S x = F_X10_leastOf T x := lo10_L 9 0
theorem jar_least {S T : mm_S} {j : Int32} (h : mm_b 0 127 j) : (j = 0 ∧ F_X3_leastOf S j = -1 ∧ F_X10_leastOf T j = 9) ∨ (¬ j = 0 ∧ F_X3_leastOf S j = F_X10_leastOf T j ∧ mm_b 0 6 (F_X10_leastOf T j)) := by
  rw [lo_any (S := S) (T := SC0), lo10_any (S := T) (T := SC0)]
  obtain ⟨s, rfl⟩ := sm_nI h
  have := jar_leastT s
  by_cases q : s.val = 0
  · exact Or.inl ⟨by rw [q]; rfl, this.1 q⟩
  · refine Or.inr ⟨fun z => q ?_, this.2 q⟩
    have t : (nI s.val).toInt = 0 := by rw [z]; rfl
    rw [nI_toInt (by omega)] at t
    omega
/-! ===== folk: the class's five rows beside the reference's one ===== -/
def Fk (f u j a b r : Nat) (P : Int32) (S1 S2 : mm_S) : Prop := S1.1 f 0 = S2.1 r 28 ∧ S1.1 f 1 = S2.1 r 29 ∧ S1.1 f 2 = P ∧ ∀ i, i < 7 → S1.1 u i = S2.1 r i ∧ S1.1 j i = S2.1 r (7 + i) ∧ S1.1 a i = S2.1 r (14 + i) ∧ S1.1 b i = S2.1 r (21 + i)
def Wf (r : Nat) (P : Int32) (S2 : mm_S) : Prop := mm_b 0 127 (S2.1 r 28) ∧ (∀ i, i < 7 → bt (S2.1 r 28) i → (i : Int) < P.toInt) ∧ ∀ i, i < 7 → (S2.1 r i = 9 ∨ mm_b 0 6 (S2.1 r i)) ∧ mm_b 0 127 (S2.1 r (7 + i)) ∧ (¬ bt (S2.1 r 28) i → S2.1 r i = 9 ∧ S2.1 r (7 + i) = 0) ∧ mm_b 0 9 (S2.1 r (14 + i)) ∧ mm_b 0 9 (S2.1 r (21 + i))
def Gf (f b : Nat) (S U : mm_S) : Prop := (∀ x, x < f ∨ b < x → U.1 x = S.1 x) ∧ U.2 = S.2
def Gm (r : Nat) (S U : mm_S) : Prop := (∀ x, x ≠ r → U.1 x = S.1 x) ∧ U.2 = S.2
def Sm (f u j a b r : Nat) (P : Int32) (S1 S2 U1 U2 : mm_S) : Prop := Fk f u j a b r P U1 U2 ∧ Wf r P U2 ∧ Gf f b S1 U1 ∧ Gm r S2 U2
section FK
variable {f u j a b r : Nat} {P v x : Int32} {S S1 S2 U1 U2 V1 V2 : mm_S} {i : Nat}
theorem Gf_rf : Gf f b S S := ⟨fun _ _ => rfl, rfl⟩
theorem Gm_rf : Gm r S S := ⟨fun _ _ => rfl, rfl⟩
theorem Gf_tr (h : Gf f b S U1) (h2 : Gf f b U1 V1) : Gf f b S V1 := ⟨fun x hx => (h2.1 x hx).trans (h.1 x hx), h2.2.trans h.2⟩
theorem Gm_tr (h : Gm r S U1) (h2 : Gm r U1 V1) : Gm r S V1 := ⟨fun x hx => (h2.1 x hx).trans (h.1 x hx), h2.2.trans h.2⟩
theorem Gf_up (h : Gf f b S U1) {x k : Nat} (hx : f ≤ x ∧ x ≤ b) : Gf f b S (mm_up U1 x k v) := ⟨fun y hy => by rw [up_row (by omega)]; exact h.1 y hy, by rw [up_2]; exact h.2⟩
theorem Gm_up (h : Gm r S U1) {k : Nat} : Gm r S (mm_up U1 r k v) := ⟨fun y hy => by rw [up_row hy]; exact h.1 y hy, by rw [up_2]; exact h.2⟩
theorem Sm_rf (h : Fk f u j a b r P S1 S2) (w : Wf r P S2) : Sm f u j a b r P S1 S2 S1 S2 := ⟨h, w, Gf_rf, Gm_rf⟩
theorem Sm_tr (h : Sm f u j a b r P S1 S2 U1 U2) (h2 : Sm f u j a b r P U1 U2 V1 V2) : Sm f u j a b r P S1 S2 V1 V2 := ⟨h2.1, h2.2.1, Gf_tr h.2.2.1 h2.2.2.1, Gm_tr h.2.2.2 h2.2.2.2⟩
theorem Fk_u (hd : f < u ∧ u < j ∧ j < a ∧ a < b) (h : Fk f u j a b r P S1 S2) (hi : i < 7) : Fk f u j a b r P (mm_up S1 u i v) (mm_up S2 r i v) := by
  obtain ⟨h0, h1, h2, h3⟩ := h
  refine ⟨?_, ?_, ?_, fun k hk => ?_⟩
  · rw [up_ne (by omega), up_ne (by omega)]; exact h0
  · rw [up_ne (by omega), up_ne (by omega)]; exact h1
  · rw [up_ne (by omega)]; exact h2
  · obtain ⟨q1, q2, q3, q4⟩ := h3 k hk
    refine ⟨?_, ?_, ?_, ?_⟩
    · by_cases e : k = i
      · rw [e, up_at, up_at]
      · rw [up_ne (by omega), up_ne (by omega)]; exact q1
    · rw [up_ne (by omega), up_ne (by omega)]; exact q2
    · rw [up_ne (by omega), up_ne (by omega)]; exact q3
    · rw [up_ne (by omega), up_ne (by omega)]; exact q4
theorem Fk_j (hd : f < u ∧ u < j ∧ j < a ∧ a < b) (h : Fk f u j a b r P S1 S2) (hi : i < 7) : Fk f u j a b r P (mm_up S1 j i v) (mm_up S2 r (7 + i) v) := by
  obtain ⟨h0, h1, h2, h3⟩ := h
  refine ⟨?_, ?_, ?_, fun k hk => ?_⟩
  · rw [up_ne (by omega), up_ne (by omega)]; exact h0
  · rw [up_ne (by omega), up_ne (by omega)]; exact h1
  · rw [up_ne (by omega)]; exact h2
  · obtain ⟨q1, q2, q3, q4⟩ := h3 k hk
    refine ⟨?_, ?_, ?_, ?_⟩
    · rw [up_ne (by omega), up_ne (by omega)]; exact q1
    · by_cases e : k = i
      · rw [e, up_at, up_at]
      · rw [up_ne (by omega), up_ne (by omega)]; exact q2
    · rw [up_ne (by omega), up_ne (by omega)]; exact q3
    · rw [up_ne (by omega), up_ne (by omega)]; exact q4
theorem Fk_1 (hd : f < u ∧ u < j ∧ j < a ∧ a < b) (h : Fk f u j a b r P S1 S2) (hi : i < 7) : Fk f u j a b r P (mm_up S1 a i v) (mm_up S2 r (14 + i) v) := by
  obtain ⟨h0, h1, h2, h3⟩ := h
  refine ⟨?_, ?_, ?_, fun k hk => ?_⟩
  · rw [up_ne (by omega), up_ne (by omega)]; exact h0
  · rw [up_ne (by omega), up_ne (by omega)]; exact h1
  · rw [up_ne (by omega)]; exact h2
  · obtain ⟨q1, q2, q3, q4⟩ := h3 k hk
    refine ⟨?_, ?_, ?_, ?_⟩
    · rw [up_ne (by omega), up_ne (by omega)]; exact q1
    · rw [up_ne (by omega), up_ne (by omega)]; exact q2
    · by_cases e : k = i
      · rw [e, up_at, up_at]
      · rw [up_ne (by omega), up_ne (by omega)]; exact q3
    · rw [up_ne (by omega), up_ne (by omega)]; exact q4
theorem Fk_2 (hd : f < u ∧ u < j ∧ j < a ∧ a < b) (h : Fk f u j a b r P S1 S2) (hi : i < 7) : Fk f u j a b r P (mm_up S1 b i v) (mm_up S2 r (21 + i) v) := by
  obtain ⟨h0, h1, h2, h3⟩ := h
  refine ⟨?_, ?_, ?_, fun k hk => ?_⟩
  · rw [up_ne (by omega), up_ne (by omega)]; exact h0
  · rw [up_ne (by omega), up_ne (by omega)]; exact h1
  · rw [up_ne (by omega)]; exact h2
  · obtain ⟨q1, q2, q3, q4⟩ := h3 k hk
    refine ⟨?_, ?_, ?_, ?_⟩
    · rw [up_ne (by omega), up_ne (by omega)]; exact q1
    · rw [up_ne (by omega), up_ne (by omega)]; exact q2
    · rw [up_ne (by omega), up_ne (by omega)]; exact q3
    · by_cases e : k = i
      · rw [e, up_at, up_at]
      · rw [up_ne (by omega), up_ne (by omega)]; exact q4
theorem Fk_a (hd : f < u ∧ u < j ∧ j < a ∧ a < b) (h : Fk f u j a b r P S1 S2) : Fk f u j a b r P (mm_up S1 f 0 v) (mm_up S2 r 28 v) := by
  obtain ⟨h0, h1, h2, h3⟩ := h
  refine ⟨?_, ?_, ?_, fun k hk => ?_⟩
  · rw [up_at, up_at]
  · rw [up_ne (by omega), up_ne (by omega)]; exact h1
  · rw [up_ne (by omega)]; exact h2
  · obtain ⟨q1, q2, q3, q4⟩ := h3 k hk
    refine ⟨?_, ?_, ?_, ?_⟩
    · rw [up_ne (by omega), up_ne (by omega)]; exact q1
    · rw [up_ne (by omega), up_ne (by omega)]; exact q2
    · rw [up_ne (by omega), up_ne (by omega)]; exact q3
    · rw [up_ne (by omega), up_ne (by omega)]; exact q4
theorem Fk_d (hd : f < u ∧ u < j ∧ j < a ∧ a < b) (h : Fk f u j a b r P S1 S2) : Fk f u j a b r P (mm_up S1 f 1 v) (mm_up S2 r 29 v) := by
  obtain ⟨h0, h1, h2, h3⟩ := h
  refine ⟨?_, ?_, ?_, fun k hk => ?_⟩
  · rw [up_ne (by omega), up_ne (by omega)]; exact h0
  · rw [up_at, up_at]
  · rw [up_ne (by omega)]; exact h2
  · obtain ⟨q1, q2, q3, q4⟩ := h3 k hk
    refine ⟨?_, ?_, ?_, ?_⟩
    · rw [up_ne (by omega), up_ne (by omega)]; exact q1
    · rw [up_ne (by omega), up_ne (by omega)]; exact q2
    · rw [up_ne (by omega), up_ne (by omega)]; exact q3
    · rw [up_ne (by omega), up_ne (by omega)]; exact q4
/-- one who is alive comes to another voice -/
theorem Wf_u (w : Wf r P S2) (hi : i < 7) (hb : bt (S2.1 r 28) i) (hv : v = 9 ∨ mm_b 0 6 v) : Wf r P (mm_up S2 r i v) := by
  obtain ⟨w0, w1, w2⟩ := w
  have e28 : (mm_up S2 r i v).1 r 28 = S2.1 r 28 := up_ne (by omega)
  refine ⟨by rw [e28]; exact w0, by rw [e28]; exact w1, fun k hk => ?_⟩
  obtain ⟨q1, q2, q3, q4⟩ := w2 k hk
  rw [e28, up_ne (i := 7 + k) (by omega), up_ne (i := 14 + k) (by omega), up_ne (i := 21 + k) (by omega)]
  by_cases e : k = i
  · rw [e, up_at]
    exact ⟨hv, by rw [← e]; exact q2, fun z => absurd hb z, by rw [← e]; exact q4⟩
  · rw [up_ne (by omega)]
    exact ⟨q1, q2, q3, q4⟩
theorem Wf_j (w : Wf r P S2) (hi : i < 7) (hb : bt (S2.1 r 28) i) (hv : mm_b 0 127 v) : Wf r P (mm_up S2 r (7 + i) v) := by
  obtain ⟨w0, w1, w2⟩ := w
  have e28 : (mm_up S2 r (7 + i) v).1 r 28 = S2.1 r 28 := up_ne (by omega)
  refine ⟨by rw [e28]; exact w0, by rw [e28]; exact w1, fun k hk => ?_⟩
  obtain ⟨q1, q2, q3, q4⟩ := w2 k hk
  rw [e28, up_ne (i := k) (by omega), up_ne (i := 14 + k) (by omega), up_ne (i := 21 + k) (by omega)]
  by_cases e : k = i
  · rw [e, up_at]
    exact ⟨by rw [← e]; exact q1, hv, fun z => absurd hb z, by rw [← e]; exact q4⟩
  · rw [up_ne (by omega)]
    exact ⟨q1, q2, q3, q4⟩
theorem Wf_h (w : Wf r P S2) {k : Nat} (hk : 14 ≤ k ∧ k < 28) (hv : mm_b 0 9 v) : Wf r P (mm_up S2 r k v) := by
  obtain ⟨w0, w1, w2⟩ := w
  have e28 : (mm_up S2 r k v).1 r 28 = S2.1 r 28 := up_ne (by omega)
  refine ⟨by rw [e28]; exact w0, by rw [e28]; exact w1, fun l hl => ?_⟩
  obtain ⟨q1, q2, q3, q4, q5⟩ := w2 l hl
  rw [e28, up_ne (i := l) (by omega), up_ne (i := 7 + l) (by omega)]
  refine ⟨q1, q2, q3, ?_, ?_⟩
  · by_cases e : 14 + l = k
    · rw [e, up_at]; exact hv
    · rw [up_ne (by omega)]; exact q4
  · by_cases e : 21 + l = k
    · rw [e, up_at]; exact hv
    · rw [up_ne (by omega)]; exact q5
theorem Fk_row (h : Fk f u j a b r P S1 S2) (c0 : U1.1 f = S1.1 f) (c1 : U1.1 u = S1.1 u) (c2 : U1.1 j = S1.1 j) (c3 : U1.1 a = S1.1 a) (c4 : U1.1 b = S1.1 b) (m : U2.1 r = S2.1 r) : Fk f u j a b r P U1 U2 := by
  unfold Fk
  rw [c0, c1, c2, c3, c4, m]
  exact h
theorem Wf_row (w : Wf r P S2) (m : U2.1 r = S2.1 r) : Wf r P U2 := by
  unfold Wf
  rw [m]
  exact w
theorem nI_s {k : Nat} (h : k < 100) : nI k + Int32.ofInt 1 = nI (k + 1) := by
  rw [pz_of1]
  have e : (nI k).toInt = k := nI_toInt (by omega)
  exact Int32.toInt_inj.mp (by rw [pz_ti1 ⟨by omega, by omega⟩, e, nI_toInt (by omega)]; omega)
theorem nI_c {k : Nat} (h : k < 100) : (nI k).toNatClampNeg = k := by
  have e : (nI k).toInt = k := nI_toInt (by omega)
  show (nI k).toInt.toNat = k
  omega
end FK
/-! ===== folk at 15, row 3: who is alive, the least mute one, giving, dying ===== -/
section F15
variable {P v x q : Int32} {S1 S2 : mm_S}
abbrev Fk15 (P : Int32) (S1 S2 : mm_S) : Prop := Fk 15 16 17 18 19 3 P S1 S2
abbrev Sm15 (P : Int32) (S1 S2 U1 U2 : mm_S) : Prop := Sm 15 16 17 18 19 3 P S1 S2 U1 U2
theorem lc15 (h : Fk15 P S1 S2) (w : Wf 3 P S2) (hP : mm_b 0 7 P) : F_X3_lives_15 S1 q = if lv (S2.1 3 28) q then 1 else 0 := by
  obtain ⟨h0, h1, h2, -⟩ := h
  rw [F_X3_lives_15, h0, h2]
  by_cases q0 : q < 0
  · have : q.toInt < 0 := Int32.lt_iff_toInt_lt.mp q0
    rw [if_pos q0, if_neg (fun z : lv (S2.1 3 28) q => by have := z.1.1; omega)]
  · have q1 : 0 ≤ q.toInt := Int32.le_iff_toInt_le.mp (bd_nlt q0)
    have cq := pz_cl q1
    rw [if_neg q0]
    by_cases p0 : P ≤ q
    · have p1 := Int32.le_iff_toInt_le.mp p0
      rw [if_pos p0, if_neg (fun z : lv (S2.1 3 28) q => by have := w.2.1 q.toNatClampNeg (by have := z.1.2; omega) z.2; omega)]
    · have p1 := Int32.lt_iff_toInt_lt.mp (bd_nle p0)
      rw [if_neg p0]
      have e : (S2.1 3 28 >>> (q &&& 31)) = (S2.1 3 28 >>> (nI q.toNatClampNeg &&& 31)) := by rw [← nI_cl q1]
      rcases and1 (S2.1 3 28 >>> (q &&& 31)) with z | z
      · rw [if_pos z, if_neg (fun y : lv (S2.1 3 28) q => by have y2 : (S2.1 3 28 >>> (nI q.toNatClampNeg &&& 31)) &&& 1 = 1 := y.2; rw [← e, z] at y2; exact absurd y2 (by decide))]
      · rw [if_neg (fun y => by rw [z] at y; exact absurd y (by decide)), if_pos (show lv (S2.1 3 28) q from ⟨⟨q1, by omega⟩, by show (S2.1 3 28 >>> (nI q.toNatClampNeg &&& 31)) &&& 1 = 1; rw [← e]; exact z⟩)]
theorem lm15 (w : Wf 3 P S2) (hq : mm_b 0 9 q) : F_X10_lives3 S2 q = if lv (S2.1 3 28) q then 1 else 0 := by
  have cq := pz_cl hq.1
  rw [F_X10_lives3, in_bt hq.1]
  by_cases h9 : q = 9
  · rw [if_pos h9, if_neg (fun z : lv (S2.1 3 28) q => by have := z.1.2; rw [h9] at this; exact absurd this (by decide))]
  · rw [if_neg h9]
    by_cases z : bt (S2.1 3 28) q.toNatClampNeg
    · have h7 : q.toNatClampNeg < 7 := bt_hi w.1 (by omega) z
      rw [if_pos z, if_neg one0, if_pos (show lv (S2.1 3 28) q from ⟨⟨hq.1, by omega⟩, z⟩)]
    · rw [if_neg z, if_pos (show (0 : Int32) = 0 from rfl), if_neg (fun y : lv (S2.1 3 28) q => z y.2)]
/-- who is mute -/
def mu15 (S2 : mm_S) : Nat → Bool := fun i => decide (bt (S2.1 3 28) i ∧ S2.1 3 i = 9)
theorem si15 (h : Fk15 P S1 S2) {Pn : Nat} (hP : P.toInt = Pn) (h7 : Pn ≤ 7) : ∀ (N s k : Nat), s < 128 → k ≤ Pn → Pn - k < N → F_X3_silent_15_L4 N S1 (nI s) (nI k) = nI (setL (mu15 S2) (Pn - k) k s)
  | 0, s, k, _, _, hN => absurd hN (Nat.not_lt_zero _)
  | N + 1, s, k, hs, hk, hN => by
    obtain ⟨h0, h1, h2, h3⟩ := h
    have tk : (nI k).toInt = k := nI_toInt (by omega)
    rw [F_X3_silent_15_L4, h0, h2]
    by_cases z : P ≤ nI k
    · have z2 := Int32.le_iff_toInt_le.mp z
      rw [if_pos z, show Pn - k = 0 by omega]
      rfl
    · have z2 := Int32.lt_iff_toInt_lt.mp (bd_nle z)
      obtain ⟨d, hd⟩ : ∃ d, Pn - k = d + 1 := ⟨Pn - k - 1, by omega⟩
      have ih := fun s' hs' => si15 ⟨h0, h1, h2, h3⟩ hP h7 N s' (k + 1) hs' (by omega) (by omega)
      rw [show Pn - (k + 1) = d by omega] at ih
      rw [if_neg z, hd, setL, nI_s (by omega), nI_c (by omega), (h3 k (by omega)).1]
      by_cases y : bt (S2.1 3 28) k
      · have y0 : ¬ (S2.1 3 28 >>> (nI k &&& 31)) &&& 1 = 0 := fun q => by have y2 : (S2.1 3 28 >>> (nI k &&& 31)) &&& 1 = 1 := y; rw [q] at y2; exact absurd y2 (by decide)
        rw [if_neg y0]
        by_cases x9 : S2.1 3 k = 9
        · have e : mu15 S2 k = true := decide_eq_true ⟨y, x9⟩
          rw [if_pos x9, e, if_pos rfl, nI_orT ⟨s, hs⟩ ⟨k, by omega⟩]
          exact ih _ (Nat.or_lt_two_pow (n := 7) hs (Nat.pow_lt_pow_right (by decide) (by omega)))
        · have e : mu15 S2 k = false := decide_eq_false (fun q => x9 q.2)
          rw [if_neg x9, e]
          exact ih s hs
      · have y0 : (S2.1 3 28 >>> (nI k &&& 31)) &&& 1 = 0 := (and1 _).resolve_right y
        have e : mu15 S2 k = false := decide_eq_false (fun q => y q.1)
        rw [if_pos y0, e]
        exact ih s hs
theorem le15 {Pn : Nat} (hP : (S2.1 1 0).toInt = Pn) (h7 : Pn ≤ 7) : ∀ (N k : Nat), k ≤ Pn → Pn - k < N → F_X10_leastMute3_L2 N S2 (nI k) = lmF (mu15 S2) (Pn - k) k
  | 0, k, _, hN => absurd hN (Nat.not_lt_zero _)
  | N + 1, k, hk, hN => by
    have tk : (nI k).toInt = k := nI_toInt (by omega)
    rw [F_X10_leastMute3_L2]
    by_cases z : S2.1 1 0 ≤ nI k
    · have z2 := Int32.le_iff_toInt_le.mp z
      rw [if_pos z, show Pn - k = 0 by omega]
      rfl
    · have z2 := Int32.lt_iff_toInt_lt.mp (bd_nle z)
      obtain ⟨d, hd⟩ : ∃ d, Pn - k = d + 1 := ⟨Pn - k - 1, by omega⟩
      have ih := le15 hP h7 N (k + 1) (by omega) (by omega)
      rw [show Pn - (k + 1) = d by omega] at ih
      rw [if_neg z, hd, lmF, nI_s (by omega), in_bt (by omega), nI_c (by omega), show ((0 : Int32) + nI k).toNatClampNeg = k by rw [Int32.zero_add]; exact nI_c (by omega)]
      by_cases y : bt (S2.1 3 28) k
      · rw [if_pos y, if_neg one0]
        by_cases x9 : S2.1 3 k = 9
        · have e : mu15 S2 k = true := decide_eq_true ⟨y, x9⟩
          rw [if_pos x9, e, if_pos rfl]
        · have e : mu15 S2 k = false := decide_eq_false (fun q => x9 q.2)
          rw [if_neg x9, e, ih]
          rfl
      · have e : mu15 S2 k = false := decide_eq_false (fun q => y q.1)
        rw [if_neg y, if_pos (show (0 : Int32) = 0 from rfl), e, ih]
        rfl
theorem mu15_hi (w : Wf 3 P S2) {Pn : Nat} (hP : P.toInt = Pn) : ∀ i, Pn ≤ i → i < 7 → mu15 S2 i = false := fun i h1 h2 => decide_eq_false (fun q => by have := w.2.1 i h2 q.1; omega)
/-- the least mute one, both sides -/
theorem lst15 (h : Fk15 P S1 S2) (w : Wf 3 P S2) (hP : mm_b 0 7 P) (e1 : S2.1 1 0 = P) : F_X3_leastOf S1 (F_X3_silent_15 S1) = lmF (mu15 S2) 7 0 ∧ F_X10_leastMute3 S2 = lmF (mu15 S2) 7 0 := by
  obtain ⟨Pn, hPn⟩ : ∃ n : Nat, P.toInt = n := ⟨P.toInt.toNat, by omega⟩
  have h7 : Pn ≤ 7 := by omega
  have x1 : setL (mu15 S2) 7 0 0 = setL (mu15 S2) Pn 0 0 := by
    have := setL_ext (β := mu15 S2) Pn (7 - Pn) 0 0 (fun i g1 g2 => mu15_hi w hPn i (by omega) (by omega))
    rw [show Pn + (7 - Pn) = 7 by omega] at this
    exact this
  have x2 : lmF (mu15 S2) 7 0 = lmF (mu15 S2) Pn 0 := by
    have := lmF_ext (β := mu15 S2) Pn (7 - Pn) 0 (fun i g1 g2 => mu15_hi w hPn i (by omega) (by omega))
    rw [show Pn + (7 - Pn) = 7 by omega] at this
    exact this
  constructor
  · have z := si15 h hPn h7 9 0 0 (by omega) (by omega) (by omega)
    rw [show Pn - 0 = Pn by omega, ← x1] at z
    rw [F_X3_silent_15]
    show F_X3_leastOf S1 (F_X3_silent_15_L4 9 S1 (nI 0) (nI 0)) = _
    rw [z]
    exact ls7
  · have z := le15 (S2 := S2) (by rw [e1]; exact hPn) h7 9 0 (by omega) (by omega)
    rw [show Pn - 0 = Pn by omega, ← x2] at z
    exact z
/-- one gets a voice -/
theorem gv15 (h : Fk15 P S1 S2) (w : Wf 3 P S2) (hP : mm_b 0 7 P) (hq : lv (S2.1 3 28) q) (hv : mm_b 0 6 v) : Sm15 P S1 S2 (F_X3_give_15 S1 q v) (F_X10_gets3 S2 q v) := by
  have hd : 15 < 16 ∧ 16 < 17 ∧ 17 < 18 ∧ 18 < 19 := by decide
  have cq := pz_cl hq.1.1
  have q7 : q.toNatClampNeg < 7 := by have := hq.1.2; omega
  have c0 : ((0 : Int32) + q).toNatClampNeg = q.toNatClampNeg := by rw [Int32.zero_add]
  have c7 : ((7 : Int32) + q).toNatClampNeg = 7 + q.toNatClampNeg := pz_addc (by decide) ⟨hq.1.1, by have := hq.1.2; omega⟩
  obtain ⟨u1, u2, -, -⟩ := h.2.2.2 q.toNatClampNeg q7
  obtain ⟨w1, w2, -, -⟩ := w.2.2 q.toNatClampNeg q7
  have jar0 : S2.1 3 (7 + q.toNatClampNeg) ||| 0 = S2.1 3 (7 + q.toNatClampNeg) := Int32.or_zero
  rw [F_X3_give_15, lc15 h w hP, if_pos hq, if_neg one0, F_X10_gets3, c0, c7, F_X9_isVoiceNumber, u1, u2]
  have hb := hq.2
  generalize q.toNatClampNeg = i at *
  by_cases e9 : S2.1 3 i = 9
  · rw [if_pos e9, e9, if_neg (show ¬ (9 : Int32) < 0 by decide), if_pos (show (7 : Int32) ≤ 9 by decide), if_pos (show (0 : Int32) = 0 from rfl), jar0, up_self]
    exact ⟨Fk_u hd h q7, Wf_u w q7 hb (Or.inr hv), Gf_up Gf_rf (by decide), Gm_up Gm_rf⟩
  · have b6 := w1.resolve_left e9
    have n0 : ¬ S2.1 3 i < 0 := fun z => by have : (S2.1 3 i).toInt < 0 := Int32.lt_iff_toInt_lt.mp z; omega
    have n7 : ¬ (7 : Int32) ≤ S2.1 3 i := fun z => by have : (7 : Int) ≤ (S2.1 3 i).toInt := Int32.le_iff_toInt_le.mp z; omega
    rw [if_neg e9, if_neg n0, if_neg n7, if_neg one0]
    have e28 : (mm_up S2 3 (7 + i) (S2.1 3 (7 + i) ||| (1 : Int32) <<< (S2.1 3 i &&& 31))).1 3 28 = S2.1 3 28 := up_ne (by omega)
    exact ⟨Fk_u hd (Fk_j hd h q7) q7, Wf_u (Wf_j w q7 hb (sm_or w2 b6)) q7 (by rw [e28]; exact hb) (Or.inr hv), Gf_up (Gf_up Gf_rf (by decide)) (by decide), Gm_up (Gm_up Gm_rf)⟩
theorem gn15 (h : Fk15 P S1 S2) (w : Wf 3 P S2) (hP : mm_b 0 7 P) (hq : ¬ lv (S2.1 3 28) q) : F_X3_give_15 S1 q v = S1 := by
  rw [F_X3_give_15, lc15 h w hP, if_neg hq, if_pos (show (0 : Int32) = 0 from rfl)]
/-- the jar of a dead one -/
theorem jr015 {h0 : Int32} : ∀ (N : Nat) (y : Int32) (S2 : mm_S), (7 - y.toInt).toNat < N → mm_b 0 7 y → F_X10_dies3_L125 N S2 0 h0 y = (h0, S2)
  | 0, y, S2, hN, _ => absurd hN (Nat.not_lt_zero _)
  | N + 1, y, S2, hN, hy => by
    have cy := pz_cl hy.1
    rw [F_X10_dies3_L125]
    by_cases z : (7 : Int32) ≤ y
    · rw [if_pos z]
    · have z2 : y.toInt < 7 := Int32.lt_iff_toInt_lt.mp (bd_nle z)
      have ty : (y + Int32.ofInt 1).toInt = y.toInt + 1 := by rw [pz_of1]; exact pz_ti1 ⟨by omega, by omega⟩
      rw [if_neg z, in_bt hy.1, if_neg (bt_0 (by omega)), if_pos (show (0 : Int32) = 0 from rfl)]
      exact jr015 N _ S2 (by omega) ⟨by omega, by omega⟩
theorem jr15 {jar h0 : Int32} (hP : mm_b 0 7 P) : ∀ (N : Nat) (y : Int32) (S1 S2 : mm_S), (7 - y.toInt).toNat < N → mm_b 0 7 y → Fk15 P S1 S2 → Wf 3 P S2 → S2.1 1 0 = P → (F_X3_bury_15_L100 N S1 jar h0 y).1 = (F_X10_dies3_L125 N S2 jar h0 y).1 ∧ (F_X10_dies3_L125 N S2 jar h0 y).1 = h0 ∧ Sm15 P S1 S2 (F_X3_bury_15_L100 N S1 jar h0 y).2 (F_X10_dies3_L125 N S2 jar h0 y).2
  | 0, y, S1, S2, hN, _, _, _, _ => absurd hN (Nat.not_lt_zero _)
  | N + 1, y, S1, S2, hN, hy, h, w, e1 => by
    have cy := pz_cl hy.1
    by_cases j0 : jar = 0
    · have e2 : F_X10_dies3_L125 (N + 1) S2 jar h0 y = (h0, S2) := by rw [j0]; exact jr015 (N + 1) y S2 hN hy
      have e3 : F_X3_bury_15_L100 (N + 1) S1 jar h0 y = (h0, S1) := by
        rw [F_X3_bury_15_L100, if_pos j0]
        split <;> rfl
      rw [e2, e3]
      exact ⟨rfl, rfl, Sm_rf h w⟩
    · rw [F_X3_bury_15_L100, F_X10_dies3_L125]
      by_cases z : (7 : Int32) ≤ y
      · rw [if_pos z, if_pos z]
        exact ⟨rfl, rfl, Sm_rf h w⟩
      · have z2 : y.toInt < 7 := Int32.lt_iff_toInt_lt.mp (bd_nle z)
        have ty : (y + Int32.ofInt 1).toInt = y.toInt + 1 := by rw [pz_of1]; exact pz_ti1 ⟨by omega, by omega⟩
        have hny : (7 - (y + Int32.ofInt 1).toInt).toNat < N := by omega
        have hby : mm_b 0 7 (y + Int32.ofInt 1) := ⟨by omega, by omega⟩
        rw [if_neg z, if_neg z, if_neg j0, hw (T := S2) ⟨hy.1, z2⟩]
        by_cases q0 : F_X10_isIn S2 jar y = 0
        · rw [if_pos q0, if_pos q0]
          exact jr15 hP N _ S1 S2 hny hby h w e1
        · rw [if_neg q0, if_neg q0, F_X3_bury_15_L100fffc133]
          obtain ⟨l1, l2⟩ := lst15 h w hP e1
          rw [l1, l2]
          rcases lmF_or (β := mu15 S2) 7 0 with ⟨g1, g2⟩ | ⟨i, g1, g2, g3, g4⟩
          · rw [g1, if_pos (show (-1 : Int32) = -1 from rfl), gn15 h w hP (fun y : lv (S2.1 3 28) (-1) => absurd y.1.1 (by decide))]
            exact jr15 hP N _ S1 S2 hny hby h w e1
          · have g5 := of_decide_eq_true g3
            have ti : (nI i).toInt = i := nI_toInt (by omega)
            have ni : ¬ nI i = -1 := fun y => by rw [y] at ti; have : (-1 : Int32).toInt = -1 := rfl; omega
            have hl : lv (S2.1 3 28) (nI i) := ⟨⟨by omega, by omega⟩, by rw [nI_c (by omega)]; exact g5.1⟩
            have e5 : F_X10_gets3 S2 (nI i) y = mm_up S2 3 ((0 : Int32) + nI i).toNatClampNeg y := by
              have c0 : ((0 : Int32) + nI i).toNatClampNeg = i := by rw [Int32.zero_add]; exact nI_c (by omega)
              have jar0 : ∀ m : Int32, m ||| 0 = m := fun m => Int32.or_zero
              rw [F_X10_gets3, c0, if_pos g5.2, jar0, up_self]
            rw [g4, if_neg ni, ← e5]
            have s1 := gv15 (v := y) h w hP hl ⟨hy.1, by omega⟩
            have s2 := jr15 (jar := jar) (h0 := h0) hP N (y + Int32.ofInt 1) _ _ hny hby s1.1 s1.2.1 (by rw [s1.2.2.2.1 1 (by decide)]; exact e1)
            exact ⟨s2.1, s2.2.1, Sm_tr s1 s2.2.2⟩
/-- one dies -/
theorem by15 (h : Fk15 P S1 S2) (w : Wf 3 P S2) (hP : mm_b 0 7 P) (e1 : S2.1 1 0 = P) (hq : lv (S2.1 3 28) q) : (F_X3_bury_15 S1 q).1 = (F_X10_dies3 S2 q).1 ∧ Sm15 P S1 S2 (F_X3_bury_15 S1 q).2 (F_X10_dies3 S2 q).2 := by
  have hd : 15 < 16 ∧ 16 < 17 ∧ 17 < 18 ∧ 18 < 19 := by decide
  have cq := pz_cl hq.1.1
  have q7 : q.toNatClampNeg < 7 := by have := hq.1.2; omega
  have bq : mm_b 0 1000 q := ⟨hq.1.1, by have := hq.1.2; omega⟩
  have c0 : ((0 : Int32) + q).toNatClampNeg = q.toNatClampNeg := by rw [Int32.zero_add]
  have c7 : ((7 : Int32) + q).toNatClampNeg = 7 + q.toNatClampNeg := pz_addc (by decide) bq
  have c14 : ((14 : Int32) + q).toNatClampNeg = 14 + q.toNatClampNeg := pz_addc (by decide) bq
  have c21 : ((21 : Int32) + q).toNatClampNeg = 21 + q.toNatClampNeg := pz_addc (by decide) bq
  have nq := nI_cl hq.1.1
  obtain ⟨h0, h1, h2, h3⟩ := h
  obtain ⟨u1, u2, u3, u4⟩ := h3 q.toNatClampNeg q7
  obtain ⟨w1, w2, -, bf⟩ := w.2.2 q.toNatClampNeg q7
  rw [F_X3_bury_15, lc15 ⟨h0, h1, h2, h3⟩ w hP, if_pos hq, if_neg one0, F_X10_dies3, c0, c7, c14, u1, u2, u3, u4, h0, h1]
  have hb := hq.2
  -- the dead one
  generalize hA : S2.1 3 28 &&& ((1 : Int32) <<< (q &&& 31) ^^^ -1) = A'
  generalize hi : q.toNatClampNeg = i at *
  have hA2 : A' = S2.1 3 28 &&& ((1 : Int32) <<< (nI i &&& 31) ^^^ -1) := by rw [← hA, nq]
  have bA : ∀ k, k < 7 → (bt A' k ↔ (bt (S2.1 3 28) k ∧ k ≠ i)) := fun k hk => by rw [hA2]; exact bt_cl w.1 q7 hk
  generalize hT2 : mm_up (mm_up (mm_up (mm_up S2 3 28 A') 3 i 9) 3 (7 + i) 0) 3 29 (S2.1 3 29 + 1) = T2
  generalize hT1 : mm_up (mm_up (mm_up (mm_up S1 15 0 A') 16 i 9) 17 i 0) 15 1 (S2.1 3 29 + 1) = T1
  have hF : Fk15 P T1 T2 := by
    rw [← hT1, ← hT2]
    exact Fk_d hd (Fk_j hd (Fk_u hd (Fk_a hd ⟨h0, h1, h2, h3⟩) q7) q7)
  have r2 : ∀ k, k ≠ 28 → k ≠ i → k ≠ 7 + i → k ≠ 29 → T2.1 3 k = S2.1 3 k := fun k k1 k2 k3 k4 => by rw [← hT2, up_ne (by omega), up_ne (by omega), up_ne (by omega), up_ne (by omega)]
  have r28 : T2.1 3 28 = A' := by rw [← hT2, up_ne (by omega), up_ne (by omega), up_ne (by omega), up_at]
  have ri : T2.1 3 i = 9 ∧ T2.1 3 (7 + i) = 0 := by
    rw [← hT2]
    refine ⟨?_, ?_⟩
    · rw [up_ne (by omega), up_ne (by omega), up_at]
    · rw [up_ne (by omega), up_at]
  have hW : Wf 3 P T2 := by
    refine ⟨by rw [r28, hA2]; exact sm_and w.1, fun k hk z => ?_, fun k hk => ?_⟩
    · rw [r28] at z
      exact w.2.1 k hk ((bA k hk).mp z).1
    · by_cases e : k = i
      · rw [e, ri.1, ri.2, r2 (14 + i) (by omega) (by omega) (by omega) (by omega), r2 (21 + i) (by omega) (by omega) (by omega) (by omega)]
        exact ⟨Or.inl rfl, by decide, fun _ => ⟨rfl, rfl⟩, bf⟩
      · rw [r28, r2 k (by omega) e (by omega) (by omega), r2 (7 + k) (by omega) (by omega) (by omega) (by omega), r2 (14 + k) (by omega) (by omega) (by omega) (by omega), r2 (21 + k) (by omega) (by omega) (by omega) (by omega)]
        obtain ⟨y1, y2, y3, y4⟩ := w.2.2 k hk
        exact ⟨y1, y2, fun z => y3 (fun y => z ((bA k hk).mpr ⟨y, e⟩)), y4⟩
  have hG : Gf 15 19 S1 T1 ∧ Gm 3 S2 T2 := by
    rw [← hT1, ← hT2]
    exact ⟨Gf_up (Gf_up (Gf_up (Gf_up Gf_rf (by decide)) (by decide)) (by decide)) (by decide), Gm_up (Gm_up (Gm_up (Gm_up Gm_rf)))⟩
  have s0 : Sm15 P S1 S2 T1 T2 := ⟨hF, hW, hG.1, hG.2⟩
  have p1 : T2.1 1 0 = P := by rw [hG.2.1 1 (by decide)]; exact e1
  by_cases e9 : S2.1 3 i = 9
  · rw [if_pos e9, if_pos e9]
    have s2 := jr15 (jar := S2.1 3 (7 + i)) (h0 := -1) hP 9 0 T1 T2 (by decide) (by decide) hF hW p1
    exact ⟨s2.1, Sm_tr s0 s2.2.2⟩
  · have b6 := w1.resolve_left e9
    have r14 : T2.1 3 (14 + i) = S2.1 3 (14 + i) := r2 _ (by omega) (by omega) (by omega) (by omega)
    have r21 : T2.1 3 (21 + i) = S2.1 3 (21 + i) := r2 _ (by omega) (by omega) (by omega) (by omega)
    rw [if_neg e9, if_neg e9, F_X3_bury_15_tfu85, F_X3_bury_15_tfu85c97, F_X10_dies3_fu64, c21, r21]
    obtain ⟨l1, l2⟩ := lst15 hF hW hP p1
    have lf : F_X10_lives3 T2 ((mm_up (mm_up (mm_up S2 3 28 A') 3 i 9) 3 (7 + i) 0).1 3 (14 + i)) = if lv A' (S2.1 3 (14 + i)) then 1 else 0 := by
      rw [up_ne (by omega), up_ne (by omega), up_ne (by omega), lm15 hW bf.1, r28]
    have lf2 : (mm_up (mm_up (mm_up S2 3 28 A') 3 i 9) 3 (7 + i) 0).1 3 (14 + i) = S2.1 3 (14 + i) := by rw [up_ne (by omega), up_ne (by omega), up_ne (by omega)]
    rw [lf2] at lf ⊢
    rw [lf, lm15 hW bf.2, r28, F_X3_firstAlive_15, lc15 hF hW hP, lc15 hF hW hP, r28, l1, l2]
    -- heirs
    have go : ∀ hr : Int32, lv A' hr → (F_X3_bury_15_L100 9 (F_X3_give_15 T1 hr (S2.1 3 i)) (S2.1 3 (7 + i)) hr 0).1 = (F_X10_dies3_fu64ttfc122 (F_X10_gets3 T2 hr (S2.1 3 i)) (S2.1 3 (7 + i)) hr).1 ∧ Sm15 P S1 S2 (F_X3_bury_15_L100 9 (F_X3_give_15 T1 hr (S2.1 3 i)) (S2.1 3 (7 + i)) hr 0).2 (F_X10_dies3_fu64ttfc122 (F_X10_gets3 T2 hr (S2.1 3 i)) (S2.1 3 (7 + i)) hr).2 := fun hr hl => by
      have s1 := gv15 (v := S2.1 3 i) hF hW hP (by rw [r28]; exact hl) b6
      have s2 := jr15 (jar := S2.1 3 (7 + i)) (h0 := hr) hP 9 0 _ _ (by decide) (by decide) s1.1 s1.2.1 (by rw [s1.2.2.2.1 1 (by decide)]; exact p1)
      rw [F_X10_dies3_fu64ttfc122]
      exact ⟨s2.1, Sm_tr s0 (Sm_tr s1 s2.2.2)⟩
    by_cases x1 : lv A' (S2.1 3 (14 + i))
    · rw [if_pos x1, if_neg one0, if_neg one0]
      exact go _ x1
    · rw [if_neg x1, if_pos (show (0 : Int32) = 0 from rfl), if_pos (show (0 : Int32) = 0 from rfl)]
      by_cases x2 : lv A' (S2.1 3 (21 + i))
      · rw [if_pos x2, if_neg one0, if_neg one0]
        exact go _ x2
      · rw [if_neg x2, if_pos (show (0 : Int32) = 0 from rfl), if_pos (show (0 : Int32) = 0 from rfl)]
        rcases lmF_or (β := mu15 T2) 7 0 with ⟨g1, g2⟩ | ⟨k, g1, g2, g3, g4⟩
        · rw [g1, if_pos (show (-1 : Int32) = -1 from rfl), gn15 hF hW hP (fun y : lv (T2.1 3 28) (-1) => absurd y.1.1 (by decide))]
          have s2 := jr15 (jar := S2.1 3 (7 + i)) (h0 := -1) hP 9 0 T1 T2 (by decide) (by decide) hF hW p1
          exact ⟨s2.1, Sm_tr s0 s2.2.2⟩
        · have g5 := of_decide_eq_true g3
          have tk : (nI k).toInt = k := nI_toInt (by omega)
          have nk : ¬ nI k = -1 := fun y => by rw [y] at tk; have : (-1 : Int32).toInt = -1 := rfl; omega
          rw [g4, if_neg nk]
          exact go _ ⟨⟨by omega, by omega⟩, by rw [nI_c (by omega), ← r28]; exact g5.1⟩
end F15
/-! ===== sold, put by, wills changed ===== -/
section DE
variable {P v x p q : Int32} {S1 S2 : mm_S}
theorem one_lc (h : Fk15 P S1 S2) (hP : mm_b 0 7 P) (hq : 0 ≤ q.toInt ∧ q.toInt < P.toInt) : F_X3_isOne_15 S1 q = 1 := by
  have n0 : ¬ q < 0 := fun z => by have : q.toInt < 0 := Int32.lt_iff_toInt_lt.mp z; omega
  rw [F_X3_isOne_15, h.2.2.1, if_neg n0, if_neg (fun z => by have := Int32.le_iff_toInt_le.mp z; omega)]
theorem alv (w : Wf 3 P S2) (hq : 0 ≤ q.toInt ∧ q.toInt ≤ 6) : F_X10_isAlive S2 q = if lv (S2.1 3 28) q then 1 else 0 := by
  rw [F_X10_isAlive, in_bt hq.1]
  by_cases z : bt (S2.1 3 28) q.toNatClampNeg
  · rw [if_pos z, if_pos (show lv (S2.1 3 28) q from ⟨hq, z⟩)]
  · rw [if_neg z, if_neg (fun y : lv (S2.1 3 28) q => z y.2)]
theorem ifz {c : Prop} [Decidable c] : ((if c then (1 : Int32) else 0) = 0) ↔ ¬ c := by
  by_cases h : c
  · rw [if_pos h]
    exact ⟨fun q => absurd q one0, fun q => absurd h q⟩
  · rw [if_neg h]
    exact ⟨fun _ => h, fun _ => rfl⟩
/-- may one sell: both ask the same -/
theorem ms (h : Fk15 P S1 S2) (w : Wf 3 P S2) (hP : mm_b 0 7 P) (hp : 0 ≤ p.toInt ∧ p.toInt ≤ 6) (hq : 0 ≤ q.toInt ∧ q.toInt ≤ 6) : F_X3_canHandOver_15 S1 p q = F_X10_maySell S2 p q ∧ (¬ F_X10_maySell S2 p q = 0 → ¬ p = q ∧ lv (S2.1 3 28) p ∧ lv (S2.1 3 28) q ∧ ¬ S2.1 3 p.toNatClampNeg = 9) := by
  have cp := pz_cl hp.1
  have c0 : ((0 : Int32) + p).toNatClampNeg = p.toNatClampNeg := by rw [Int32.zero_add]
  rw [F_X3_canHandOver_15, F_X10_maySell, lc15 h w hP, lc15 h w hP, alv w hp, alv w hq, c0, (h.2.2.2 p.toNatClampNeg (by omega)).1]
  refine ⟨rfl, fun z => ?_⟩
  by_cases e : p = q
  · rw [if_pos e] at z
    exact absurd rfl z
  · rw [if_neg e] at z
    by_cases l1 : lv (S2.1 3 28) p
    · rw [if_neg (fun y => absurd l1 (ifz.mp y))] at z
      by_cases l2 : lv (S2.1 3 28) q
      · rw [if_neg (fun y => absurd l2 (ifz.mp y))] at z
        by_cases e9 : S2.1 3 p.toNatClampNeg = 9
        · rw [if_pos e9] at z
          exact absurd rfl z
        · exact ⟨e, l1, l2, e9⟩
      · rw [if_pos (ifz.mpr l2)] at z
        exact absurd rfl z
    · rw [if_pos (ifz.mpr l1)] at z
      exact absurd rfl z
/-- sold -/
theorem so (h : Fk15 P S1 S2) (w : Wf 3 P S2) (hP : mm_b 0 7 P) (hp : 0 ≤ p.toInt ∧ p.toInt ≤ 6) (hq : 0 ≤ q.toInt ∧ q.toInt ≤ 6) (hm : ¬ F_X10_maySell S2 p q = 0) : Sm15 P S1 S2 (F_X3_handOver_15 S1 p q) (F_X10_sells S2 p q) := by
  have hd : 15 < 16 ∧ 16 < 17 ∧ 17 < 18 ∧ 18 < 19 := by decide
  obtain ⟨m1, m2⟩ := ms h w hP hp hq
  obtain ⟨hpq, l1, l2, e9⟩ := m2 hm
  have cp := pz_cl hp.1
  have p7 : p.toNatClampNeg < 7 := by omega
  have c0 : ((0 : Int32) + p).toNatClampNeg = p.toNatClampNeg := by rw [Int32.zero_add]
  have c7 : ((7 : Int32) + p).toNatClampNeg = 7 + p.toNatClampNeg := pz_addc (by decide) ⟨hp.1, by omega⟩
  have b6 := (w.2.2 p.toNatClampNeg p7).1.resolve_left e9
  rw [F_X3_handOver_15, m1, if_neg hm, F_X10_sells, c0, (h.2.2.2 p.toNatClampNeg p7).1]
  have s1 := gv15 (v := S2.1 3 p.toNatClampNeg) h w hP l2 b6
  have e28 : (F_X10_gets3 S2 q (S2.1 3 p.toNatClampNeg)).1 3 28 = S2.1 3 28 := by
    have cq := pz_cl hq.1
    have d0 : ((0 : Int32) + q).toNatClampNeg = q.toNatClampNeg := by rw [Int32.zero_add]
    have d7 : ((7 : Int32) + q).toNatClampNeg = 7 + q.toNatClampNeg := pz_addc (by decide) ⟨hq.1, by omega⟩
    rw [F_X10_gets3, d0, d7]
    split
    · rw [up_ne (by omega), up_ne (by omega)]
    · rw [up_ne (by omega), up_ne (by omega)]
  generalize F_X3_give_15 S1 q (S2.1 3 p.toNatClampNeg) = T1 at s1 ⊢
  generalize F_X10_gets3 S2 q (S2.1 3 p.toNatClampNeg) = T2 at s1 e28 ⊢
  obtain ⟨f1, w1, g1, g2⟩ := s1
  refine Sm_tr ⟨f1, w1, g1, g2⟩ ?_
  have hb : bt (T2.1 3 28) p.toNatClampNeg := by rw [e28]; exact l1.2
  rw [F_X3_handOver_15_tc21, F_X10_sells_c17, c0, c7, (f1.2.2.2 p.toNatClampNeg p7).2.1]
  have bj := (w1.2.2 p.toNatClampNeg p7).2.1
  generalize hi : p.toNatClampNeg = i at *
  rcases jar_least (S := T1) (T := T2) bj with ⟨j0, k1, k2⟩ | ⟨j0, k1, k2⟩
  · have e : (mm_up T2 3 i 9).1 3 (7 + i) &&& -1 = (mm_up T2 3 i 9).1 3 (7 + i) := Int32.and_neg_one
    rw [k1, k2, if_pos (show (-1 : Int32) = -1 from rfl), if_pos (show (9 : Int32) = 9 from rfl), e, up_self]
    exact ⟨Fk_u hd f1 p7, Wf_u w1 p7 hb (Or.inl rfl), Gf_up Gf_rf (by decide), Gm_up Gm_rf⟩
  · have n1 : ¬ F_X10_leastOf T2 (T2.1 3 (7 + i)) = -1 := fun z => by rw [z] at k2; exact absurd k2 (by decide)
    have n9 : ¬ F_X10_leastOf T2 (T2.1 3 (7 + i)) = 9 := fun z => by rw [z] at k2; exact absurd k2 (by decide)
    have e : (mm_up T2 3 i (F_X10_leastOf T2 (T2.1 3 (7 + i)))).1 3 (7 + i) = T2.1 3 (7 + i) := up_ne (by omega)
    have e2 : (mm_up T2 3 i (F_X10_leastOf T2 (T2.1 3 (7 + i)))).1 3 28 = T2.1 3 28 := up_ne (by omega)
    rw [k1, if_neg n1, if_neg n9, e]
    exact ⟨Fk_j hd (Fk_u hd f1 p7) p7, Wf_j (Wf_u w1 p7 hb (Or.inr k2)) p7 (by rw [e2]; exact hb) (sm_and bj), Gf_up (Gf_up Gf_rf (by decide)) (by decide), Gm_up (Gm_up Gm_rf)⟩
/-- put by -/
theorem pb (h : Fk15 P S1 S2) (w : Wf 3 P S2) (hP : mm_b 0 7 P) (hp : lv (S2.1 3 28) p) (hv : mm_b 0 6 v) (hj : ¬ F_X10_isIn S2 (S2.1 3 (7 + p.toNatClampNeg)) v = 0) : (F_X3_takeOut_15 S1 p v).1 = S2.1 3 p.toNatClampNeg ∧ Sm15 P S1 S2 (F_X3_takeOut_15 S1 p v).2 (F_X10_gets3 (mm_up S2 3 (7 + p.toNatClampNeg) (S2.1 3 (7 + p.toNatClampNeg) &&& ((1 : Int32) <<< (v &&& 31) ^^^ -1))) p v) := by
  have hd : 15 < 16 ∧ 16 < 17 ∧ 17 < 18 ∧ 18 < 19 := by decide
  have cp := pz_cl hp.1.1
  have p7 : p.toNatClampNeg < 7 := by have := hp.1.2; omega
  obtain ⟨u1, u2, -, -⟩ := h.2.2.2 p.toNatClampNeg p7
  have bj := (w.2.2 p.toNatClampNeg p7).2.1
  rw [F_X3_takeOut_15, lc15 h w hP, if_pos hp, if_neg one0, u1, u2, hw (T := S2) ⟨hv.1, by omega⟩, if_neg hj, F_X3_takeOut_15_ftu48, F_X3_takeOut_15_ftu48c51]
  refine ⟨rfl, ?_⟩
  show Sm15 P S1 S2 (F_X3_give_15 _ p v) _
  have f1 := Fk_j (v := S2.1 3 (7 + p.toNatClampNeg) &&& ((1 : Int32) <<< (v &&& 31) ^^^ -1)) hd h p7
  have w1 := Wf_j (v := S2.1 3 (7 + p.toNatClampNeg) &&& ((1 : Int32) <<< (v &&& 31) ^^^ -1)) w p7 hp.2 (sm_and bj)
  have e2 : (mm_up S2 3 (7 + p.toNatClampNeg) (S2.1 3 (7 + p.toNatClampNeg) &&& ((1 : Int32) <<< (v &&& 31) ^^^ -1))).1 3 28 = S2.1 3 28 := up_ne (by omega)
  exact Sm_tr ⟨f1, w1, Gf_up Gf_rf (by decide), Gm_up Gm_rf⟩ (gv15 f1 w1 hP (by rw [e2]; exact hp) hv)
/-- a will changed -/
theorem wc {a b : Int32} (h : Fk15 P S1 S2) (w : Wf 3 P S2) (hP : mm_b 0 7 P) (hp : 0 ≤ p.toInt ∧ p.toInt < P.toInt) (ha : mm_b 0 9 a) (hb : mm_b 0 9 b) : Sm15 P S1 S2 (F_X3_changeWill_15 S1 p a b) (mm_up (mm_up S2 3 (14 + p.toNatClampNeg) a) 3 (21 + p.toNatClampNeg) b) := by
  have hd : 15 < 16 ∧ 16 < 17 ∧ 17 < 18 ∧ 18 < 19 := by decide
  have cp := pz_cl hp.1
  have p7 : p.toNatClampNeg < 7 := by omega
  rw [F_X3_changeWill_15, one_lc h hP hp, if_neg one0]
  exact ⟨Fk_2 hd (Fk_1 hd h p7) p7, Wf_h (Wf_h w ⟨by omega, by omega⟩ ha) ⟨by omega, by omega⟩ hb, Gf_up (Gf_up Gf_rf (by decide)) (by decide), Gm_up (Gm_up Gm_rf)⟩
end DE
/-! ===== a copy doesn't look at other rows ===== -/
theorem cpy_L {g c : Nat} {x k : Nat} {v : Int32} (hx : x ≠ g + 1 ∧ x ≠ g + 2 ∧ x ≠ g + 3 ∧ x ≠ g + 4) (hc : x ≠ c + 1 ∧ x ≠ c + 2 ∧ x ≠ c + 3 ∧ x ≠ c + 4) : ∀ (N : Nat) (S : mm_S) (y : Int32), F_X3_copy_L26 g c N (mm_up S x k v) y = mm_up (F_X3_copy_L26 g c N S y) x k v
  | 0, S, y => rfl
  | N + 1, S, y => by
    have sw : ∀ (T : mm_S) (a i : Nat) (u : Int32), a ≠ x → mm_up (mm_up T x k v) a i u = mm_up (mm_up T a i u) x k v := fun T a i u ha => by
      refine Prod.ext (funext fun b => funext fun l => ?_) rfl
      show (if b = a ∧ l = i then u else if b = x ∧ l = k then v else T.1 b l) = (if b = x ∧ l = k then v else if b = a ∧ l = i then u else T.1 b l)
      by_cases h1 : b = a ∧ l = i
      · rw [if_pos h1, if_neg (show ¬ (b = x ∧ l = k) by omega), if_pos h1]
      · rw [if_neg h1, if_neg h1]
    have r1 : ∀ T : mm_S, (mm_up T x k v).1 (c + 1) = T.1 (c + 1) := fun T => up_row (by omega)
    have r2 : ∀ T : mm_S, (mm_up T x k v).1 (c + 2) = T.1 (c + 2) := fun T => up_row (by omega)
    have r3 : ∀ T : mm_S, (mm_up T x k v).1 (c + 3) = T.1 (c + 3) := fun T => up_row (by omega)
    have r4 : ∀ T : mm_S, (mm_up T x k v).1 (c + 4) = T.1 (c + 4) := fun T => up_row (by omega)
    have w1 := fun T i u => sw T (g + 1) i u (by omega)
    have w2 := fun T i u => sw T (g + 2) i u (by omega)
    have w3 := fun T i u => sw T (g + 3) i u (by omega)
    have w4 := fun T i u => sw T (g + 4) i u (by omega)
    rw [F_X3_copy_L26, F_X3_copy_L26]
    split
    · rfl
    · simp only [r1, r2, r3, r4, w1, w2, w3, w4]
      exact cpy_L hx hc N _ _
theorem cpy_25 {S : mm_S} {v : Int32} {k g : Nat} (hg : 25 < g) : ∀ b, b ≠ 25 → (F_X3_copy (mm_up S 25 k v) g 15).1 b = (F_X3_copy S g 15).1 b := by
  intro b hb
  have sw : ∀ (T : mm_S) (i : Nat) (u : Int32), mm_up (mm_up T 25 k v) g i u = mm_up (mm_up T g i u) 25 k v := fun T i u => by
    refine Prod.ext (funext fun b => funext fun l => ?_) rfl
    show (if b = g ∧ l = i then u else if b = 25 ∧ l = k then v else T.1 b l) = (if b = 25 ∧ l = k then v else if b = g ∧ l = i then u else T.1 b l)
    by_cases h1 : b = g ∧ l = i
    · rw [if_pos h1, if_neg (show ¬ (b = 25 ∧ l = k) by omega), if_pos h1]
    · rw [if_neg h1, if_neg h1]
  have r : ∀ T : mm_S, (mm_up T 25 k v).1 15 = T.1 15 := fun T => up_row (by omega)
  rw [F_X3_copy, F_X3_copy]
  simp only [r, sw]
  rw [cpy_L (by omega) (by omega), up_row hb]
/-! ===== folk laid by: the past, the images ===== -/
def FkO (f r o : Nat) (P : Int32) (S1 S2 : mm_S) : Prop := S1.1 f 0 = S2.1 r (o + 28) ∧ S1.1 f 1 = S2.1 r (o + 29) ∧ S1.1 f 2 = P ∧ ∀ i, i < 7 → S1.1 (f + 1) i = S2.1 r (o + i) ∧ S1.1 (f + 2) i = S2.1 r (o + (7 + i)) ∧ S1.1 (f + 3) i = S2.1 r (o + (14 + i)) ∧ S1.1 (f + 4) i = S2.1 r (o + (21 + i))
def WfO (r o : Nat) (P : Int32) (S2 : mm_S) : Prop := mm_b 0 127 (S2.1 r (o + 28)) ∧ (∀ i, i < 7 → bt (S2.1 r (o + 28)) i → (i : Int) < P.toInt) ∧ ∀ i, i < 7 → (S2.1 r (o + i) = 9 ∨ mm_b 0 6 (S2.1 r (o + i))) ∧ mm_b 0 127 (S2.1 r (o + (7 + i))) ∧ (¬ bt (S2.1 r (o + 28)) i → S2.1 r (o + i) = 9 ∧ S2.1 r (o + (7 + i)) = 0) ∧ mm_b 0 9 (S2.1 r (o + (14 + i))) ∧ mm_b 0 9 (S2.1 r (o + (21 + i)))
section PS
variable {P : Int32} {S S1 S2 U1 U2 : mm_S} {g r o : Nat}
theorem FkO_in (h : Fk15 P S1 S2) (hg : 19 < g) (m : ∀ i, i < 30 → U2.1 r (o + i) = S2.1 3 i) (c : ∀ b, g ≤ b → b ≤ g + 4 → U1.1 b = (F_X3_copy S1 g 15).1 b) : FkO g r o P U1 U2 := by
  obtain ⟨-, ⟨k0, k1, k2, -⟩, k3⟩ := cp_c (S := S1) (a := g) (c := 15) (by omega)
  obtain ⟨h0, h1, h2, h3⟩ := h
  refine ⟨?_, ?_, ?_, fun i hi => ?_⟩
  · rw [c g (by omega) (by omega), k0, m 28 (by omega)]; exact h0
  · rw [c g (by omega) (by omega), k1, m 29 (by omega)]; exact h1
  · rw [c g (by omega) (by omega), k2]; exact h2
  · obtain ⟨a1, a2, a3, a4⟩ := k3 i hi
    rw [c (g + 1) (by omega) (by omega), c (g + 2) (by omega) (by omega), c (g + 3) (by omega) (by omega), c (g + 4) (by omega) (by omega), a1, a2, a3, a4, m i (by omega), m (7 + i) (by omega), m (14 + i) (by omega), m (21 + i) (by omega)]
    exact h3 i hi
theorem WfO_in (w : Wf 3 P S2) (m : ∀ i, i < 30 → U2.1 r (o + i) = S2.1 3 i) : WfO r o P U2 := by
  obtain ⟨w0, w1, w2⟩ := w
  refine ⟨by rw [m 28 (by omega)]; exact w0, by rw [m 28 (by omega)]; exact w1, fun i hi => ?_⟩
  rw [m 28 (by omega), m i (by omega), m (7 + i) (by omega), m (14 + i) (by omega), m (21 + i) (by omega)]
  exact w2 i hi
theorem FkO_out (h : FkO g r o P S1 S2) (hg : 19 < g) (m : ∀ i, i < 30 → U2.1 3 i = S2.1 r (o + i)) (c : ∀ b, 15 ≤ b → b ≤ 19 → U1.1 b = (F_X3_copy S1 15 g).1 b) : Fk15 P U1 U2 := by
  obtain ⟨-, ⟨k0, k1, k2, -⟩, k3⟩ := cp_c (S := S1) (a := 15) (c := g) (by omega)
  obtain ⟨h0, h1, h2, h3⟩ := h
  refine ⟨?_, ?_, ?_, fun i hi => ?_⟩
  · rw [c 15 (by omega) (by omega), k0, m 28 (by omega)]; exact h0
  · rw [c 15 (by omega) (by omega), k1, m 29 (by omega)]; exact h1
  · rw [c 15 (by omega) (by omega), k2]; exact h2
  · obtain ⟨a1, a2, a3, a4⟩ := k3 i hi
    rw [c 16 (by omega) (by omega), c 17 (by omega) (by omega), c 18 (by omega) (by omega), c 19 (by omega) (by omega), m i (by omega), m (7 + i) (by omega), m (14 + i) (by omega), m (21 + i) (by omega)]
    obtain ⟨q1, q2, q3, q4⟩ := h3 i hi
    exact ⟨a1.trans q1, a2.trans q2, a3.trans q3, a4.trans q4⟩
theorem WfO_out (w : WfO r o P S2) (m : ∀ i, i < 30 → U2.1 3 i = S2.1 r (o + i)) : Wf 3 P U2 := by
  obtain ⟨w0, w1, w2⟩ := w
  refine ⟨by rw [m 28 (by omega)]; exact w0, by rw [m 28 (by omega)]; exact w1, fun i hi => ?_⟩
  rw [m 28 (by omega), m i (by omega), m (7 + i) (by omega), m (14 + i) (by omega), m (21 + i) (by omega)]
  exact w2 i hi
theorem FkO_mv {o2 : Nat} (h : FkO g r o P S1 S2) (c : ∀ b, g ≤ b → b ≤ g + 4 → U1.1 b = S1.1 b) (m : ∀ i, i < 30 → U2.1 r (o2 + i) = S2.1 r (o + i)) : FkO g r o2 P U1 U2 := by
  obtain ⟨h0, h1, h2, h3⟩ := h
  refine ⟨?_, ?_, ?_, fun i hi => ?_⟩
  · rw [c g (by omega) (by omega), m 28 (by omega)]; exact h0
  · rw [c g (by omega) (by omega), m 29 (by omega)]; exact h1
  · rw [c g (by omega) (by omega)]; exact h2
  · rw [c (g + 1) (by omega) (by omega), c (g + 2) (by omega) (by omega), c (g + 3) (by omega) (by omega), c (g + 4) (by omega) (by omega), m i (by omega), m (7 + i) (by omega), m (14 + i) (by omega), m (21 + i) (by omega)]
    exact h3 i hi
theorem WfO_mv {o2 : Nat} (w : WfO r o P S2) (m : ∀ i, i < 30 → U2.1 r (o2 + i) = S2.1 r (o + i)) : WfO r o2 P U2 := by
  obtain ⟨w0, w1, w2⟩ := w
  refine ⟨by rw [m 28 (by omega)]; exact w0, by rw [m 28 (by omega)]; exact w1, fun i hi => ?_⟩
  rw [m 28 (by omega), m i (by omega), m (7 + i) (by omega), m (14 + i) (by omega), m (21 + i) (by omega)]
  exact w2 i hi
/-! the past -/
def Pa (P : Int32) (S1 S2 : mm_S) : Prop := ∃ n x : Nat, S1.1 25 0 = nI n ∧ S1.1 25 1 = nI x ∧ S2.1 0 5 = nI n ∧ n ≤ 20 ∧ x ≤ 20 ∧ ∀ k, k < n → FkO (27 + 5 * ((x + 20 - n + k) % 20)) 5 (30 * k) P S1 S2 ∧ WfO 5 (30 * k) P S2
theorem aa26T : ∀ k : Fin 20, aaC_26 (nI k.val) = 27 + 5 * k.val := by decide +kernel
theorem aa26 {k : Nat} (h : k < 20) : aaC_26 (nI k) = 27 + 5 * k := aa26T ⟨k, h⟩
theorem nz_1 {k : Nat} (h : k < 1000) : nI k + 1 = nI (k + 1) := by
  have e : (nI k).toInt = k := nI_toInt (by omega)
  exact Int32.toInt_inj.mp (by rw [pz_ti1 ⟨by omega, by omega⟩, e, nI_toInt (by omega)]; omega)
theorem nz_lt {k l : Nat} (hk : k < 1000) (hl : l < 1000) : (nI k < nI l) ↔ k < l := by
  rw [Int32.lt_iff_toInt_lt, nI_toInt (by omega), nI_toInt (by omega)]
  omega
theorem nz_le {k l : Nat} (hk : k < 1000) (hl : l < 1000) : (nI k ≤ nI l) ↔ k ≤ l := by
  rw [Int32.le_iff_toInt_le, nI_toInt (by omega), nI_toInt (by omega)]
  omega
theorem nz_inj {k l : Nat} (hk : k < 1000) (hl : l < 1000) : (nI k = nI l) ↔ k = l := by
  constructor
  · intro h
    have := congrArg Int32.toInt h
    rw [nI_toInt (by omega), nI_toInt (by omega)] at this
    omega
  · intro h
    rw [h]
/-- the class remembers -/
theorem rmC {n x : Nat} (hn : S1.1 25 0 = nI n) (hx : S1.1 25 1 = nI x) (n20 : n ≤ 20) (x20 : x ≤ 20) : ((∀ b, b ≠ 25 → ¬ (27 + 5 * (x % 20) ≤ b ∧ b ≤ 27 + 5 * (x % 20) + 4) → (F_X7_remember S1).1 b = S1.1 b) ∧ (F_X7_remember S1).2 = S1.2) ∧ (F_X7_remember S1).1 25 1 = nI (x % 20 + 1) ∧ (F_X7_remember S1).1 25 0 = nI (if 20 < n + 1 then 20 else n + 1) ∧ (∀ b, 27 + 5 * (x % 20) ≤ b → b ≤ 27 + 5 * (x % 20) + 4 → (F_X7_remember S1).1 b = (F_X3_copy S1 (27 + 5 * (x % 20)) 15).1 b) := by
  have x0 : ¬ nI x < 0 := fun z => absurd ((nz_lt (k := x) (l := 0) (by omega) (by omega)).mp z) (by omega)
  have hmin : ∀ T : mm_S, T.1 25 0 = nI n → (if (20 : Int32) < T.1 25 0 + 1 then (20 : Int32) else T.1 25 0 + 1) = nI (if 20 < n + 1 then 20 else n + 1) := fun T hT => by
    rw [hT, nz_1 (by omega)]
    by_cases q : 20 < n + 1
    · rw [if_pos q, if_pos (show (20 : Int32) < nI (n + 1) from (nz_lt (k := 20) (by omega) (by omega)).mpr q)]
      rfl
    · rw [if_neg q, if_neg (fun z : (20 : Int32) < nI (n + 1) => q ((nz_lt (k := 20) (by omega) (by omega)).mp z))]
  rw [F_X7_remember, hx, if_neg x0]
  by_cases q : x < 20
  · have e : x % 20 = x := by omega
    rw [if_pos (show nI x < 20 from (nz_lt (l := 20) (by omega) (by omega)).mpr q), aa26 q, e, F_X7_remember_ftc37, F_X7_remember_tu34c37u59, nz_1 (by omega)]
    obtain ⟨⟨k1, k2⟩, -, -⟩ := cp_c (S := S1) (a := 27 + 5 * x) (c := 15) (by omega)
    have c25 : (F_X3_copy S1 (27 + 5 * x) 15).1 25 = S1.1 25 := k1 25 (by omega) (by omega) (by omega) (by omega) (by omega)
    rw [hmin _ (by rw [c25]; exact hn)]
    refine ⟨⟨fun b h1 h2 => ?_, ?_⟩, ?_, ?_, fun b h1 h2 => ?_⟩
    · rw [up_row h1, up_row h1, k1 b (by omega) (by omega) (by omega) (by omega) (by omega)]
    · rw [up_2, up_2, k2]
    · rw [up_ne (by omega), up_at]
    · rw [up_at]
    · rw [up_row (by omega), up_row (by omega)]
  · have e : x % 20 = 0 := by omega
    rw [if_neg (fun z : nI x < 20 => q ((nz_lt (l := 20) (by omega) (by omega)).mp z)), F_X7_remember_tu34, show aaC_26 0 = 27 + 5 * 0 from by decide, e, F_X7_remember_tu34c37, F_X7_remember_tu34c37u59]
    obtain ⟨⟨k1, k2⟩, ⟨j0, j1, j2, j3⟩, k3⟩ := cp_c (S := mm_up S1 25 1 0) (a := 27 + 5 * 0) (c := 15) (by omega)
    obtain ⟨-, ⟨i0, i1, i2, i3⟩, l3⟩ := cp_c (S := S1) (a := 27 + 5 * 0) (c := 15) (by omega)
    have c25 : (F_X3_copy (mm_up S1 25 1 0) (27 + 5 * 0) 15).1 25 0 = nI n := by
      rw [k1 25 (by omega) (by omega) (by omega) (by omega) (by omega), up_ne (by omega)]
      exact hn
    rw [hmin _ c25]
    have ro : ∀ b, b ≠ 25 → (mm_up S1 25 1 0).1 b = S1.1 b := fun b h => up_row h
    have cpE : ∀ b, b ≠ 25 → (F_X3_copy (mm_up S1 25 1 0) (27 + 5 * 0) 15).1 b = (F_X3_copy S1 (27 + 5 * 0) 15).1 b := fun b hb => by
      have z := cpy_25 (S := S1) (v := 0) (k := 1) (g := 27 + 5 * 0) (by omega) b hb
      exact z
    refine ⟨⟨fun b h1 h2 => ?_, ?_⟩, ?_, ?_, fun b h1 h2 => ?_⟩
    · rw [up_row h1, up_row h1, k1 b (by omega) (by omega) (by omega) (by omega) (by omega), ro b h1]
    · rw [up_2, up_2, k2, up_2]
    · rw [up_ne (by omega), up_at]
      rfl
    · rw [up_at]
    · rw [up_row (by omega), up_row (by omega), cpE b (by omega)]
end PS
/-! ===== the past: the reference remembers; both together; undone ===== -/
section PS2
variable {P : Int32} {S S1 S2 U1 U2 : mm_S}
/-- the shift of the reference's past -/
theorem sh_L : ∀ (N k : Nat) (S : mm_S), k ≤ 570 → 570 - k < N → ∃ R : mm_S, F_X10_remember_L11 N S (nI k) = F_X10_remember_L11tu67 (mm_up R 0 5 (R.1 0 5 - 1)) (30 * (R.1 0 5 - 1)) (R.1 0 5 - 1) ∧ (∀ b, b ≠ 5 → R.1 b = S.1 b) ∧ R.2 = S.2 ∧ (∀ i, i < k → R.1 5 i = S.1 5 i) ∧ (∀ i, k ≤ i → i < 570 → R.1 5 i = S.1 5 (i + 30)) ∧ (∀ i, 570 ≤ i → R.1 5 i = S.1 5 i)
  | 0, k, S, _, hN => absurd hN (Nat.not_lt_zero _)
  | N + 1, k, S, hk, hN => by
    rw [F_X10_remember_L11]
    by_cases z : (570 : Int32) ≤ nI k
    · have z2 : 570 ≤ k := (nz_le (k := 570) (by omega) (by omega)).mp z
      rw [if_pos z]
      exact ⟨S, rfl, fun _ _ => rfl, rfl, fun _ _ => rfl, fun i h1 h2 => by omega, fun _ _ => rfl⟩
    · have z2 : k < 570 := by
        rcases Nat.lt_or_ge k 570 with q | q
        · exact q
        · exact absurd ((nz_le (k := 570) (by omega) (by omega)).mpr q) z
      have ck : (nI k).toNatClampNeg = k := by
        have e : (nI k).toInt = k := nI_toInt (by omega)
        show (nI k).toInt.toNat = k
        omega
      have ck30 : (nI k + 30).toNatClampNeg = k + 30 := by
        have e : (nI k).toInt = k := nI_toInt (by omega)
        have e2 : (nI k + 30).toInt = k + 30 := by
          rw [bd_ti_add (by rw [e]; show -2147483648 ≤ (k : Int) + 30; omega) (by rw [e]; show (k : Int) + 30 ≤ 2147483647; omega), e]
          rfl
        show (nI k + 30).toInt.toNat = k + 30
        omega
      have es : nI k + Int32.ofInt 1 = nI (k + 1) := by rw [pz_of1]; exact nz_1 (by omega)
      rw [if_neg z, ck, ck30, es]
      obtain ⟨R, e, r1, r2, r3, r4, r5⟩ := sh_L N (k + 1) (mm_up S 5 k (S.1 5 (k + 30))) (by omega) (by omega)
      refine ⟨R, e, fun b hb => by rw [r1 b hb, up_row hb], by rw [r2, up_2], fun i hi => ?_, fun i h1 h2 => ?_, fun i hi => ?_⟩
      · rw [r3 i (by omega), up_ne (by omega)]
      · by_cases q : i = k
        · rw [q, r3 k (by omega), up_at]
        · rw [r4 i (by omega) h2, up_ne (by omega)]
      · rw [r5 i hi, up_ne (by omega)]
theorem nz_sub1 {k : Nat} (h : k < 1000) : nI (k + 1) - 1 = nI k := by
  have e : (nI (k + 1)).toInt = ((k + 1 : Nat) : Int) := nI_toInt (by omega)
  have e1 : (1 : Int32).toInt = 1 := rfl
  exact Int32.toInt_inj.mp (by rw [bd_ti_sub (by omega) (by omega), e, e1, nI_toInt (by omega)]; omega)
theorem nz_mul {c k : Nat} (hc : c < 100) (h : k < 100) : (nI c * nI k).toNatClampNeg = c * k := by
  have e : (nI k).toInt = k := nI_toInt (by omega)
  have e2 : (nI c).toInt = c := nI_toInt (by omega)
  have hm : c * k ≤ 100 * 100 := Nat.mul_le_mul (by omega) (by omega)
  have hm2 : ((c * k : Nat) : Int) = (c : Int) * (k : Int) := by norm_cast
  have e3 : (nI c * nI k).toInt = ((c * k : Nat) : Int) := by rw [bd_ti_mul (by rw [e, e2]; omega) (by rw [e, e2]; omega), e, e2, hm2]
  show (nI c * nI k).toInt.toNat = c * k
  omega
/-- the reference remembers -/
theorem rmM {n : Nat} (hn : S2.1 0 5 = nI n) (n20 : n ≤ 20) : ∃ d : Nat, (d = if n = 20 then 1 else 0) ∧ ((∀ b, b ≠ 0 → b ≠ 5 → (F_X10_remember S2).1 b = S2.1 b) ∧ (∀ j, j ≠ 5 → (F_X10_remember S2).1 0 j = S2.1 0 j) ∧ (F_X10_remember S2).2 = S2.2) ∧ (F_X10_remember S2).1 0 5 = nI (n + 1 - d) ∧ (∀ k, k < n - d → ∀ i, i < 30 → (F_X10_remember S2).1 5 (30 * k + i) = S2.1 5 (30 * (k + d) + i)) ∧ (∀ i, i < 30 → (F_X10_remember S2).1 5 (30 * (n - d) + i) = S2.1 3 i) := by
  have c0 : (0 : Int32).toNatClampNeg = 0 := by decide
  have c30 : (30 : Int32).toNatClampNeg = 30 := by decide
  have cpf : ∀ (T : mm_S) (m : Nat), m < 100 → ∀ b i, (F_X10_copies_35 T 0 (30 * nI m) 30).1 b i = if b = 5 ∧ 30 * m ≤ i ∧ i < 30 * m + 30 then T.1 3 (i - 30 * m) else T.1 b i := fun T m hm b i => by
    have e : (30 * nI m : Int32).toNatClampNeg = 30 * m := nz_mul (c := 30) (by omega) hm
    show (if b = 5 ∧ (30 * nI m : Int32).toNatClampNeg ≤ i ∧ i < (30 * nI m : Int32).toNatClampNeg + (30 : Int32).toNatClampNeg then T.1 3 ((0 : Int32).toNatClampNeg + (i - (30 * nI m : Int32).toNatClampNeg)) else T.1 b i) = _
    rw [e, c0, c30, Nat.zero_add]
  have cp2 : ∀ (T : mm_S) (m : Nat), (F_X10_copies_35 T 0 (30 * nI m) 30).2 = T.2 := fun T m => rfl
  by_cases q : n = 20
  · refine ⟨1, by rw [if_pos q], ?_⟩
    subst q
    have z : S2.1 0 5 = 20 := hn
    obtain ⟨R, e, r1, r2, -, r4, -⟩ := sh_L 601 0 S2 (by omega) (by omega)
    have r05 : R.1 0 5 = nI 20 := by rw [r1 0 (by omega)]; exact hn
    have e19 : nI 20 - 1 = nI 19 := nz_sub1 (k := 19) (by omega)
    have ef : F_X10_remember S2 = mm_up (F_X10_copies_35 (mm_up R 0 5 (nI 19)) 0 (30 * nI 19) 30) 0 5 (nI 19 + 1) := by
      rw [F_X10_remember, if_pos z]
      show F_X10_remember_L11 601 S2 (nI 0) = _
      rw [e, r05, e19, F_X10_remember_L11tu67, F_X10_remember_tc70]
    rw [ef]
    refine ⟨⟨fun b h0 h5 => ?_, fun j hj => ?_, ?_⟩, ?_, fun k hk i hi => ?_, fun i hi => ?_⟩
    · rw [up_row h0]
      funext i
      rw [cpf _ _ (by omega), if_neg (fun y => h5 y.1), up_ne (by omega), r1 b h5]
    · rw [up_ne (by omega), cpf _ _ (by omega), if_neg (by omega), up_ne (by omega), r1 0 (by omega)]
    · rw [up_2, cp2, up_2, r2]
    · rw [up_at]
      exact nz_1 (by omega)
    · rw [up_ne (by omega), cpf _ _ (by omega), if_neg (by omega), up_ne (by omega), r4 (30 * k + i) (by omega) (by omega), show 30 * k + i + 30 = 30 * (k + 1) + i by omega]
    · rw [up_ne (by omega), cpf _ _ (by omega), if_pos (by omega), up_ne (by omega), r1 3 (by omega), show 30 * (20 - 1) + i - 30 * 19 = i by omega]
  · refine ⟨0, by rw [if_neg q], ?_⟩
    have z : ¬ S2.1 0 5 = 20 := fun y => q ((nz_inj (l := 20) (by omega) (by omega)).mp (hn.symm.trans y))
    have ef : F_X10_remember S2 = mm_up (F_X10_copies_35 S2 0 (30 * nI n) 30) 0 5 (nI n + 1) := by
      rw [F_X10_remember, if_neg z, hn, F_X10_remember_tc70]
    rw [ef]
    refine ⟨⟨fun b h0 h5 => ?_, fun j hj => ?_, ?_⟩, ?_, fun k hk i hi => ?_, fun i hi => ?_⟩
    · rw [up_row h0]
      funext i
      rw [cpf _ _ (by omega), if_neg (fun y => h5 y.1)]
    · rw [up_ne (by omega), cpf _ _ (by omega), if_neg (by omega)]
    · rw [up_2, cp2]
    · rw [up_at, nz_1 (by omega)]
      rfl
    · rw [up_ne (by omega), cpf _ _ (by omega), if_neg (by omega)]
      rfl
    · rw [up_ne (by omega), cpf _ _ (by omega), if_pos (by omega), show 30 * (n - 0) + i - 30 * n = i by omega]
/-- both remember -/
theorem rm_Pa (h : Fk15 P S1 S2) (w : Wf 3 P S2) (hp : Pa P S1 S2) : Pa P (F_X7_remember S1) (F_X10_remember S2) := by
  obtain ⟨n, x, hn, hx, hm, n20, x20, hk⟩ := hp
  obtain ⟨⟨a1, a2⟩, a3, a4, a5⟩ := rmC hn hx n20 x20
  obtain ⟨d, hd, ⟨b1, b2, b3⟩, b4, b5, b6⟩ := rmM hm n20
  have hdd : (n = 20 ∧ d = 1) ∨ (n < 20 ∧ d = 0) := by
    by_cases q : n = 20
    · exact Or.inl ⟨q, by rw [hd, if_pos q]⟩
    · exact Or.inr ⟨by omega, by rw [hd, if_neg q]⟩
  have hn' : (if 20 < n + 1 then 20 else n + 1) = n + 1 - d := by
    split <;> omega
  rw [hn'] at a4
  refine ⟨n + 1 - d, x % 20 + 1, a4, a3, b4, by omega, by omega, fun k hk2 => ?_⟩
  by_cases q : k < n - d
  · obtain ⟨f, wf⟩ := hk (k + d) (by omega)
    have ei : (x % 20 + 1 + 20 - (n + 1 - d) + k) % 20 = (x + 20 - n + (k + d)) % 20 := by omega
    rw [ei]
    have ne : (x + 20 - n + (k + d)) % 20 ≠ x % 20 := by omega
    have lt : (x + 20 - n + (k + d)) % 20 < 20 := Nat.mod_lt _ (by omega)
    generalize (x + 20 - n + (k + d)) % 20 = s at *
    have lx : x % 20 < 20 := Nat.mod_lt _ (by omega)
    generalize x % 20 = y at *
    exact ⟨FkO_mv f (fun b h1 h2 => a1 b (by omega) (by omega)) (fun i hi => b5 k q i hi), WfO_mv wf (fun i hi => b5 k q i hi)⟩
  · have ek : k = n - d := by omega
    have ei : (x % 20 + 1 + 20 - (n + 1 - d) + k) % 20 = x % 20 := by omega
    rw [ei, ek]
    exact ⟨FkO_in h (by omega) b6 a5, WfO_in w b6⟩
end PS2
/-! ===== undone ===== -/
section UN
variable {P : Int32} {S S1 S2 U1 U2 : mm_S}
theorem cpy_25b {S : mm_S} {v : Int32} {k g : Nat} (hg : 25 < g) : ∀ b, b ≠ 25 → (F_X3_copy (mm_up S 25 k v) 15 g).1 b = (F_X3_copy S 15 g).1 b := by
  intro b hb
  have sw : ∀ (T : mm_S) (i : Nat) (u : Int32), mm_up (mm_up T 25 k v) 15 i u = mm_up (mm_up T 15 i u) 25 k v := fun T i u => by
    refine Prod.ext (funext fun b => funext fun l => ?_) rfl
    show (if b = 15 ∧ l = i then u else if b = 25 ∧ l = k then v else T.1 b l) = (if b = 25 ∧ l = k then v else if b = 15 ∧ l = i then u else T.1 b l)
    by_cases h1 : b = 15 ∧ l = i
    · rw [if_pos h1, if_neg (show ¬ (b = 25 ∧ l = k) by omega), if_pos h1]
    · rw [if_neg h1, if_neg h1]
  have r : ∀ T : mm_S, (mm_up T 25 k v).1 g = T.1 g := fun T => up_row (by omega)
  rw [F_X3_copy, F_X3_copy]
  simp only [r, sw]
  rw [cpy_L (by omega) (by omega), up_row hb]
/-- what undo comes to on both sides, something being there -/
theorem un_ok (hp : Pa P S1 S2) (hz : ¬ S2.1 0 5 = 0) : (F_X9_undo S1).1 = (F_X10_undo S2).1 ∧ Fk15 P (F_X9_undo S1).2 (F_X10_undo S2).2 ∧ Wf 3 P (F_X10_undo S2).2 ∧ Pa P (F_X9_undo S1).2 (F_X10_undo S2).2 ∧ ((∀ b, ¬ (15 ≤ b ∧ b ≤ 19) → b ≠ 25 → (F_X9_undo S1).2.1 b = S1.1 b) ∧ (F_X9_undo S1).2.2 = S1.2) ∧ ((∀ b, b ≠ 0 → b ≠ 3 → (F_X10_undo S2).2.1 b = S2.1 b) ∧ (∀ j, j ≠ 5 → (F_X10_undo S2).2.1 0 j = S2.1 0 j) ∧ (F_X10_undo S2).2.2 = S2.2) := by
  obtain ⟨n, x, hn, hx, hm, n20, x20, hk⟩ := hp
  have n0 : n ≠ 0 := fun q => hz (by rw [hm, q]; rfl)
  obtain ⟨m, rfl⟩ : ∃ m, n = m + 1 := ⟨n - 1, by omega⟩
  have em : nI (m + 1) - 1 = nI m := nz_sub1 (by omega)
  have zc : ¬ S1.1 25 0 = 0 := by
    rw [hn]
    exact fun q => absurd ((nz_inj (k := m + 1) (l := 0) (by omega) (by omega)).mp q) (by omega)
  -- the class
  have ec : ∃ y : Nat, y = (x + 19) % 20 ∧ F_X7_bringBack S1 = (1, mm_up (F_X3_copy (mm_up S1 25 1 (nI y)) 15 (27 + 5 * y)) 25 0 (nI m)) := by
    refine ⟨(x + 19) % 20, rfl, ?_⟩
    have ly : (x + 19) % 20 < 20 := Nat.mod_lt _ (by omega)
    rw [F_X7_bringBack, if_neg zc, hx, hn]
    have e19 : (20 : Int32) - 1 = nI 19 := by decide
    by_cases q : x = 0
    · rw [if_pos (show nI x ≤ 0 by rw [q]; decide), e19, aa26 (by omega), F_X7_bringBack_ttu58, F_X7_bringBack_ttu58c61, em, show (x + 19) % 20 = 19 by omega]
    · obtain ⟨z, rfl⟩ : ∃ z, x = z + 1 := ⟨x - 1, by omega⟩
      have ez : nI (z + 1) - 1 = nI z := nz_sub1 (by omega)
      rw [if_neg (fun y : nI (z + 1) ≤ 0 => absurd ((nz_le (k := z + 1) (l := 0) (by omega) (by omega)).mp y) (by omega)), if_pos (show nI (z + 1) ≤ 20 from (nz_le (l := 20) (by omega) (by omega)).mpr (by omega)), ez, aa26 (by omega), F_X7_bringBack_ttu58, F_X7_bringBack_ttu58c61, em, show (z + 1 + 19) % 20 = z by omega]
  obtain ⟨y, hy, ey⟩ := ec
  have ly : y < 20 := by rw [hy]; exact Nat.mod_lt _ (by omega)
  have eu : F_X9_undo S1 = (nI m, mm_up (F_X3_copy (mm_up S1 25 1 (nI y)) 15 (27 + 5 * y)) 25 0 (nI m)) := by
    rw [F_X9_undo, ey]
    show F_X9_undo_c11 1 _ = _
    rw [F_X9_undo_c11, if_neg one0, up_at]
  -- the reference
  have eM : F_X10_undo S2 = (nI m, F_X10_copies_53 (mm_up S2 0 5 (nI m)) (30 * nI m) 0 30) := by
    rw [F_X10_undo, if_neg hz, hm, em, F_X10_undo_tu38, F_X10_undo_tu38c41]
  rw [eu, eM]
  obtain ⟨⟨k1, k2⟩, -, -⟩ := cp_c (S := mm_up S1 25 1 (nI y)) (a := 15) (c := 27 + 5 * y) (by omega)
  have c1 : ∀ b, 15 ≤ b → b ≤ 19 → (mm_up (F_X3_copy (mm_up S1 25 1 (nI y)) 15 (27 + 5 * y)) 25 0 (nI m)).1 b = (F_X3_copy S1 15 (27 + 5 * y)).1 b := fun b h1 h2 => by rw [up_row (by omega), cpy_25b (by omega) b (by omega)]
  have c2 : ∀ b, ¬ (15 ≤ b ∧ b ≤ 19) → b ≠ 25 → (mm_up (F_X3_copy (mm_up S1 25 1 (nI y)) 15 (27 + 5 * y)) 25 0 (nI m)).1 b = S1.1 b := fun b h1 h2 => by rw [up_row h2, k1 b (by omega) (by omega) (by omega) (by omega) (by omega), up_row h2]
  have c3 : (mm_up (F_X3_copy (mm_up S1 25 1 (nI y)) 15 (27 + 5 * y)) 25 0 (nI m)).2 = S1.2 := by rw [up_2, k2, up_2]
  have c25 : (mm_up (F_X3_copy (mm_up S1 25 1 (nI y)) 15 (27 + 5 * y)) 25 0 (nI m)).1 25 1 = nI y := by rw [up_ne (by omega), k1 25 (by omega) (by omega) (by omega) (by omega) (by omega), up_at]
  have c20 : (mm_up (F_X3_copy (mm_up S1 25 1 (nI y)) 15 (27 + 5 * y)) 25 0 (nI m)).1 25 0 = nI m := up_at
  generalize mm_up (F_X3_copy (mm_up S1 25 1 (nI y)) 15 (27 + 5 * y)) 25 0 (nI m) = V1 at *
  have e30 : (30 * nI m : Int32).toNatClampNeg = 30 * m := nz_mul (c := 30) (by omega) (by omega)
  have d1 : ∀ b i, (F_X10_copies_53 (mm_up S2 0 5 (nI m)) (30 * nI m) 0 30).1 b i = if b = 3 ∧ i < 30 then S2.1 5 (30 * m + i) else (mm_up S2 0 5 (nI m)).1 b i := fun b i => by
    show (if b = 3 ∧ (0 : Int32).toNatClampNeg ≤ i ∧ i < (0 : Int32).toNatClampNeg + (30 : Int32).toNatClampNeg then (mm_up S2 0 5 (nI m)).1 5 ((30 * nI m : Int32).toNatClampNeg + (i - (0 : Int32).toNatClampNeg)) else (mm_up S2 0 5 (nI m)).1 b i) = _
    rw [e30, show (0 : Int32).toNatClampNeg = 0 by decide, show (30 : Int32).toNatClampNeg = 30 by decide, up_row (b := 5) (by omega)]
    by_cases q : b = 3 ∧ i < 30
    · rw [if_pos q, if_pos (by omega), show i - 0 = i by omega]
    · rw [if_neg q, if_neg (by omega)]
  have d2 : (F_X10_copies_53 (mm_up S2 0 5 (nI m)) (30 * nI m) 0 30).2 = S2.2 := by
    show (mm_up S2 0 5 (nI m)).2 = S2.2
    rw [up_2]
  generalize F_X10_copies_53 (mm_up S2 0 5 (nI m)) (30 * nI m) 0 30 = V2 at *
  have v3 : ∀ i, i < 30 → V2.1 3 i = S2.1 5 (30 * m + i) := fun i hi => by rw [d1, if_pos ⟨rfl, hi⟩]
  have vb : ∀ b, b ≠ 0 → b ≠ 3 → V2.1 b = S2.1 b := fun b h0 h3 => by
    funext i
    rw [d1, if_neg (fun z => h3 z.1), up_ne (by omega)]
  have v0 : ∀ j, j ≠ 5 → V2.1 0 j = S2.1 0 j := fun j hj => by rw [d1, if_neg (by omega), up_ne (by omega)]
  have v05 : V2.1 0 5 = nI m := by rw [d1, if_neg (by omega), up_at]
  obtain ⟨f, wf⟩ := hk m (by omega)
  rw [show (x + 20 - (m + 1) + m) % 20 = y by omega] at f
  refine ⟨rfl, FkO_out f (by omega) v3 c1, WfO_out wf v3, ⟨m, y, c20, c25, v05, by omega, by omega, fun k hk2 => ?_⟩, ⟨c2, c3⟩, vb, v0, d2⟩
  obtain ⟨f2, wf2⟩ := hk k (by omega)
  rw [show (y + 20 - m + k) % 20 = (x + 20 - (m + 1) + k) % 20 by omega]
  have lt : (x + 20 - (m + 1) + k) % 20 < 20 := Nat.mod_lt _ (by omega)
  generalize (x + 20 - (m + 1) + k) % 20 = s at *
  exact ⟨FkO_mv f2 (fun b h1 h2 => c2 b (by omega) (by omega)) (fun i hi => by rw [vb 5 (by omega) (by omega)]), WfO_mv wf2 (fun i hi => by rw [vb 5 (by omega) (by omega)])⟩
theorem un_no (hp : Pa P S1 S2) (hz : S2.1 0 5 = 0) : F_X9_undo S1 = (-1000000003, S1) ∧ F_X10_undo S2 = (-1000000003, S2) := by
  obtain ⟨n, x, hn, hx, hm, n20, x20, hk⟩ := hp
  have e : S1.1 25 0 = 0 := by rw [hn, ← hm, hz]
  constructor
  · rw [F_X9_undo, F_X7_bringBack, if_pos e]
    show F_X9_undo_c11 0 S1 = _
    rw [F_X9_undo_c11, if_pos (show (0 : Int32) = 0 from rfl)]
  · rw [F_X10_undo, if_pos hz]
end UN
