/-! ===== bits of small sets ===== -/
abbrev bt (A : Int32) (p : Nat) : Prop := (A >>> (nI p &&& 31)) &&& 1 = 1
theorem sm_nI {A : Int32} (h : mm_b 0 127 A) : ∃ s : Fin 128, A = nI s.val := by
  obtain ⟨j, hj, hj2⟩ := bd_nI (x := A) h.1
  exact ⟨⟨j, by omega⟩, hj⟩
theorem bt_clT : ∀ s : Fin 128, ∀ p i : Fin 7, bt ((nI s.val) &&& (((1 : Int32) <<< (nI p.val &&& 31)) ^^^ (-1))) i.val ↔ (bt (nI s.val) i.val ∧ i ≠ p) := by decide +kernel
theorem bt_cl {A : Int32} (h : mm_b 0 127 A) {p i : Nat} (hp : p < 7) (hi : i < 7) : bt (A &&& (((1 : Int32) <<< (nI p &&& 31)) ^^^ (-1))) i ↔ (bt A i ∧ i ≠ p) := by
  obtain ⟨s, rfl⟩ := sm_nI h
  have := bt_clT s ⟨p, hp⟩ ⟨i, hi⟩
  rw [this]
  constructor
  · exact fun q => ⟨q.1, fun z => q.2 (Fin.ext z)⟩
  · exact fun q => ⟨q.1, fun z => q.2 (congrArg Fin.val z)⟩
theorem bt_orT : ∀ s : Fin 128, ∀ p i : Fin 7, bt ((nI s.val) ||| ((1 : Int32) <<< (nI p.val &&& 31))) i.val ↔ (bt (nI s.val) i.val ∨ i = p) := by decide +kernel
theorem sm_and {A B : Int32} (h : mm_b 0 127 A) : mm_b 0 127 (A &&& B) := bd_and rfl h (by decide)
theorem sm_orT : ∀ s : Fin 128, ∀ p : Fin 7, mm_b 0 127 ((nI s.val) ||| ((1 : Int32) <<< (nI p.val &&& 31))) := by decide +kernel
theorem sm_or {A u : Int32} (h : mm_b 0 127 A) (hu : mm_b 0 6 u) : mm_b 0 127 (A ||| ((1 : Int32) <<< (u &&& 31))) := by
  obtain ⟨s, rfl⟩ := sm_nI h
  obtain ⟨j, rfl, hj⟩ := bd_nI (x := u) hu.1
  exact sm_orT s ⟨j, by omega⟩
theorem bt_hiT : ∀ s : Fin 128, ∀ p : Fin 10, bt (nI s.val) p.val → p.val ≤ 6 := by decide +kernel
theorem bt_hi {A : Int32} (h : mm_b 0 127 A) {p : Nat} (hp : p < 10) (hb : bt A p) : p < 7 := by
  obtain ⟨s, rfl⟩ := sm_nI h
  have := bt_hiT s ⟨p, hp⟩ hb
  dsimp only at this
  omega
theorem in_bt {S : mm_S} {A q : Int32} (hq : 0 ≤ q.toInt) : F_X10_isIn S A q = if bt A q.toNatClampNeg then 1 else 0 := by
  show F_X10_isIn S A q = if (A >>> (nI q.toNatClampNeg &&& 31)) &&& 1 = 1 then 1 else 0
  rw [F_X10_isIn, ← nI_cl hq]
theorem bt_0 {i : Nat} (hi : i < 7) : ¬ bt 0 i := by
  have : ∀ i : Fin 7, ¬ bt 0 i.val := by decide +kernel
  exact this ⟨i, hi⟩
/-- who is alive, as both ask it -/
abbrev lv (A q : Int32) : Prop := (0 ≤ q.toInt ∧ q.toInt ≤ 6) ∧ bt A q.toNatClampNeg
/-! the least of some -/
def lmF (β : Nat → Bool) : Nat → Nat → Int32
  | 0, _ => -1
  | k + 1, y => if β y then nI y else lmF β k (y + 1)
def setL (β : Nat → Bool) : Nat → Nat → Nat → Nat
  | 0, _, s => s
  | k + 1, y, s => setL β k (y + 1) (if β y then s ||| 2 ^ y else s)
theorem lmF_ext {β : Nat → Bool} : ∀ (k d y : Nat), (∀ i, y + k ≤ i → i < y + k + d → β i = false) → lmF β (k + d) y = lmF β k y
  | 0, 0, y, _ => rfl
  | 0, d + 1, y, h => by
    have e : β y = false := h y (by omega) (by omega)
    have ih := lmF_ext (β := β) 0 d (y + 1) (fun i h1 h2 => h i (by omega) (by omega))
    rw [Nat.zero_add] at ih ⊢
    show (if β y then nI y else lmF β d (y + 1)) = lmF β 0 y
    rw [e, if_neg Bool.false_ne_true]
    exact ih
  | k + 1, d, y, h => by
    rw [show k + 1 + d = k + d + 1 by omega, lmF, lmF, lmF_ext k d (y + 1) (fun i h1 h2 => h i (by omega) (by omega))]
theorem setL_ext {β : Nat → Bool} : ∀ (k d y s : Nat), (∀ i, y + k ≤ i → i < y + k + d → β i = false) → setL β (k + d) y s = setL β k y s
  | 0, 0, y, s, _ => rfl
  | 0, d + 1, y, s, h => by
    have e : β y = false := h y (by omega) (by omega)
    have ih := setL_ext (β := β) 0 d (y + 1) s (fun i h1 h2 => h i (by omega) (by omega))
    rw [Nat.zero_add] at ih ⊢
    show setL β d (y + 1) (if β y then s ||| 2 ^ y else s) = setL β 0 y s
    rw [e, if_neg Bool.false_ne_true]
    exact ih
  | k + 1, d, y, s, h => by
    rw [show k + 1 + d = k + d + 1 by omega, setL, setL, setL_ext k d (y + 1) _ (fun i h1 h2 => h i (by omega) (by omega))]
theorem setL_lt {β : Nat → Bool} : ∀ (k y s : Nat), y + k ≤ 7 → s < 128 → setL β k y s < 128
  | 0, y, s, _, hs => hs
  | k + 1, y, s, hy, hs => by
    rw [setL]
    refine setL_lt k (y + 1) _ (by omega) ?_
    split
    · have h2 : 2 ^ y < 2 ^ 7 := Nat.pow_lt_pow_right (by decide) (by omega)
      exact Nat.or_lt_two_pow (n := 7) hs h2
    · exact hs
theorem lmF_or {β : Nat → Bool} : ∀ (k y : Nat), (lmF β k y = -1 ∧ ∀ i, y ≤ i → i < y + k → β i = false) ∨ (∃ i, y ≤ i ∧ i < y + k ∧ β i = true ∧ lmF β k y = nI i)
  | 0, y => Or.inl ⟨rfl, fun i h1 h2 => by omega⟩
  | k + 1, y => by
    rw [lmF]
    cases e : β y with
    | true => exact Or.inr ⟨y, by omega, by omega, e, if_pos rfl⟩
    | false =>
      rcases lmF_or (β := β) k (y + 1) with ⟨h1, h2⟩ | ⟨i, h1, h2, h3, h4⟩
      · refine Or.inl ⟨h1, fun i g1 g2 => ?_⟩
        by_cases q : i = y
        · rw [q]; exact e
        · exact h2 i (by omega) (by omega)
      · exact Or.inr ⟨i, by omega, by omega, h3, h4⟩
def bs7 (b0 b1 b2 b3 b4 b5 b6 : Bool) : Nat → Bool := fun i => match i with
  | 0 => b0
  | 1 => b1
  | 2 => b2
  | 3 => b3
  | 4 => b4
  | 5 => b5
  | 6 => b6
  | _ => false
theorem ls7T : ∀ b0 b1 b2 b3 b4 b5 b6 : Bool, F_X3_leastOf SC0 (nI (setL (bs7 b0 b1 b2 b3 b4 b5 b6) 7 0 0)) = lmF (bs7 b0 b1 b2 b3 b4 b5 b6) 7 0 := by decide +kernel
theorem lo_any {S T : mm_S} {x : Int32} : F_X3_leastOf S x = F_X3_leastOf T x := rfl
theorem ls7 {S : mm_S} {β : Nat → Bool} : F_X3_leastOf S (nI (setL β 7 0 0)) = lmF β 7 0 := by
  rw [lo_any (T := SC0)]
  have e1 : setL β 7 0 0 = setL (bs7 (β 0) (β 1) (β 2) (β 3) (β 4) (β 5) (β 6)) 7 0 0 := rfl
  have e2 : lmF β 7 0 = lmF (bs7 (β 0) (β 1) (β 2) (β 3) (β 4) (β 5) (β 6)) 7 0 := rfl
  rw [e1, e2]
  exact ls7T _ _ _ _ _ _ _
theorem nI_orT : ∀ s : Fin 128, ∀ y : Fin 7, nI s.val ||| ((1 : Int32) <<< (nI y.val &&& 31)) = nI (s.val ||| 2 ^ y.val) := by decide +kernel
/-- the least voice of a jar: 9 for none there, -1 here -/
theorem jar_leastT : ∀ s : Fin 128, (s.val = 0 → F_X3_leastOf SC0 (nI s.val) = -1 ∧ F_X10_leastOf SC0 (nI s.val) = 9) ∧ (s.val ≠ 0 → F_X3_leastOf SC0 (nI s.val) = F_X10_leastOf SC0 (nI s.val) ∧ mm_b 0 6 (F_X10_leastOf SC0 (nI s.val))) := by decide +kernel
theorem lo10_L {S T : mm_S} {x : Int32} : ∀ (N : Nat) (y : Int32), F_X10_leastOf_L2 x N S y = F_X10_leastOf_L2 x N T y
  | 0, y => rfl
  | N + 1, y => by
    rw [F_X10_leastOf_L2, F_X10_leastOf_L2, lo10_L N]
    rfl
theorem lo10_any {S T : mm_S} {x : Int32} : F_X10_leastOf S x = F_X10_leastOf T x := lo10_L 9 0
theorem jar_least {S T : mm_S} {j : Int32} (h : mm_b 0 127 j) : (j = 0 ∧ F_X3_leastOf S j = -1 ∧ F_X10_leastOf T j = 9) ∨ (¬ j = 0 ∧ F_X3_leastOf S j = F_X10_leastOf T j ∧ mm_b 0 6 (F_X10_leastOf T j)) := by
  rw [lo_any (S := S) (T := SC0), lo10_any (S := T) (T := SC0)]
  obtain ⟨s, rfl⟩ := sm_nI h
  have := jar_leastT s
  by_cases q : s.val = 0
  · exact Or.inl ⟨by rw [q]; rfl, this.1 q⟩
  · refine Or.inr ⟨fun z => q ?_, this.2 q⟩
    have t : (nI s.val).toInt = 0 := by rw [z]; rfl
    rw [nI_toInt (by omega)] at t
    omega
