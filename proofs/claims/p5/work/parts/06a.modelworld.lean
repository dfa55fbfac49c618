/-! ===== the reference: its shape, its bounds ===== -/
def shM : List mm_F := [.inl (10, [.inr 1, .inr 2, .inr 3, .inr 4, .inr 5, .inl 0, .inr 6, .inr 7, .inl 1, .inr 8, .inl 0, .inl 0, .inr 9, .inl 0, .inr 10, .inl 0, .inr 11, .inl 0, .inl 0, .inl 0, .inl 0, .inl 0, .inl 0, .inl 0, .inr 12]), .inr (0, 37, none), .inr (0, 37, none), .inr (0, 30, none), .inr (0, 30, none), .inr (0, 600, none), .inr (0, 62, none), .inr (1, 2, none), .inr (0, 240, none), .inr (0, 12, none), .inr (0, 12, none), .inr (0, 30, none), .inr (0, 896, none)]
def tbM_now (a o : Nat) : mm_T := [(a, o, o + 6, 0, 9), (a, o + 14, o + 27, 0, 9), (a, o + 28, o + 28, 0, 127)]
def tbM_par (a : Nat) : mm_T := [(a, 0, 0, 0, 7), (a, 1, 1, 0, 6), (a, 2, 2, 0, 6), (a, 3, 9, 0, 9), (a, 10, 23, 0, 9), (a, 25, 30, 0, 127), (a, 31, 36, 0, 8)]
def tbM : mm_T := [(12, 0, 895, 0, 2147483647), (0, 5, 5, 0, 20), (0, 10, 10, 0, 240), (0, 13, 13, 0, 6), (0, 15, 15, 0, 6), (0, 17, 17, 0, 15), (0, 18, 18, 0, 240), (0, 20, 20, -1, 255), (0, 22, 22, 0, 999), (8, 0, 239, 0, 255), (9, 0, 11, 0, 5), (10, 0, 11, 0, 9), (11, 0, 29, 0, 9), (7, 0, 1, 0, 1), (6, 30, 30, 0, 2147483647), (6, 61, 61, 0, 2147483647)] ++ (tbM_par 1 ++ (tbM_par 2 ++ (tbM_now 3 0 ++ (tbM_now 4 0 ++ (tbM_now 6 0 ++ (tbM_now 6 31 ++ (List.range 20).flatMap (fun u => tbM_now 5 (30 * u))))))))
def XM (S : mm_S) : Prop := mm_bl 0 2147483647 (S.2.1 0 8)
def JM (S : mm_S) : Prop := mm_I tbM S ∧ XM S
theorem JM_long {S : mm_S} (h : JM S) : mm_bl 0 2147483647 (S.2.1 0 8) := h.2
theorem JIM_fld {S : mm_S} (h : JM S) {a j l u : Nat} {lo hi : Int} {v : Int32} (e : v = S.1 a j) (hq : (a, l, u, lo, hi) ∈ tbM) (hj : l ≤ j ∧ j ≤ u) : mm_b lo hi v := h.1.fld e hq hj
theorem JIM_elt {S : mm_S} (h : JM S) {a l u : Nat} {lo hi c d : Int} {v i : Int32} (e : v = S.1 a i.toNatClampNeg) (hi1 : mm_b c d i) (hq : (a, l, u, lo, hi) ∈ tbM) (hj : (l : Int) ≤ c ∧ d ≤ u) : mm_b lo hi v := h.1.elt e hi1 hq hj
theorem JIM_put {S : mm_S} (h : JM S) {a j : Nat} {lo hi : Int} {v : Int32} (hv : mm_b lo hi v) (hc : mm_ck tbM a j j lo hi = true) : JM (mm_up S a j v) := ⟨h.1.put hv ⟨Int.le_refl _, Int.le_refl _⟩ hc, h.2⟩
theorem JIM_puta {S : mm_S} (h : JM S) {a : Nat} {il ih lo hi : Int} {v i : Int32} (hv : mm_b lo hi v) (hi1 : mm_b il ih i) (h0 : 0 ≤ il) (hc : mm_ck tbM a il ih lo hi = true) : JM (mm_up S a i.toNatClampNeg v) := ⟨h.1.puta hv hi1 h0 hc, h.2⟩
theorem JLM_put {S : mm_S} (h : JM S) {a b : Int} {v : Int64} (hv : mm_bl a b v) (hc : 0 ≤ a ∧ b ≤ 2147483647) : JM (mm_upL S 0 8 v) := by
  refine ⟨h.1.putL, ?_⟩
  show mm_bl 0 2147483647 (if (0 : Nat) = 0 ∧ (8 : Nat) = 8 then v else S.2.1 0 8)
  rw [if_pos ⟨rfl, rfl⟩]
  exact ⟨by omega, by omega⟩
/-! copies -/
def mm_cp (S : mm_S) (a i b j n : Nat) : mm_S := (fun x k => if x = b ∧ j ≤ k ∧ k < j + n then S.1 a (i + (k - j)) else S.1 x k, S.2)
theorem mm_cp_0 (S : mm_S) (a i b j : Nat) : mm_cp S a i b j 0 = S := by
  unfold mm_cp
  have : (fun x k => if x = b ∧ j ≤ k ∧ k < j + 0 then S.1 a (i + (k - j)) else S.1 x k) = S.1 := by
    funext x k
    rw [if_neg (by omega)]
  rw [this]
theorem mm_cp_s (S : mm_S) {a i b j n : Nat} (h : a ≠ b) : mm_up (mm_cp S a i b j n) b (j + n) ((mm_cp S a i b j n).1 a (i + n)) = mm_cp S a i b j (n + 1) := by
  unfold mm_up mm_cp
  dsimp only
  congr 1
  funext x k
  by_cases hx : x = b
  · subst hx
    by_cases hk : k = j + n
    · subst hk
      rw [if_pos ⟨rfl, rfl⟩, if_neg (fun q => h q.1), if_pos ⟨rfl, by omega, by omega⟩, show i + (j + n - j) = i + n by omega]
    · rw [if_neg (fun q => hk q.2)]
      by_cases h2 : j ≤ k ∧ k < j + n
      · rw [if_pos ⟨rfl, h2⟩, if_pos ⟨rfl, by omega, by omega⟩]
      · rw [if_neg (fun q => h2 q.2), if_neg (fun q => by omega)]
  · rw [if_neg (fun q => hx q.1), if_neg (fun q => hx q.1), if_neg (fun q => hx q.1)]
/-- may n places of a from i on be copied to b from j on? -/
def mm_cq (tb : mm_T) (a i b j n : Nat) : Bool := tb.all (fun q => q.1 != b || (decide (q.2.2.1 < j) || (decide (j + n ≤ q.2.1) || (decide (j ≤ q.2.1) && (decide (q.2.2.1 < j + n) && tb.any (fun e => e.1 == a && (decide (e.2.1 ≤ i + (q.2.1 - j)) && (decide (i + (q.2.2.1 - j) ≤ e.2.2.1) && (decide (q.2.2.2.1 ≤ e.2.2.2.1) && decide (e.2.2.2.2 ≤ q.2.2.2.2))))))))))
theorem mm_I.cp {tb : mm_T} {S : mm_S} (h : mm_I tb S) {a i b j n : Nat} (hc : mm_cq tb a i b j n = true) : mm_I tb (mm_cp S a i b j n) := by
  intro q hq k h1 h2
  have h3 := List.all_eq_true.mp hc q hq
  simp only [Bool.or_eq_true, Bool.and_eq_true, decide_eq_true_eq, bne_iff_ne, List.any_eq_true, beq_iff_eq] at h3
  show mm_b _ _ (if q.1 = b ∧ j ≤ k ∧ k < j + n then S.1 a (i + (k - j)) else S.1 q.1 k)
  split
  · rename_i h4
    rcases h3 with h3 | h3 | h3 | ⟨h5, h6, e, he, h7, h8, h9, h10, h11⟩
    · exact absurd h4.1 h3
    · omega
    · omega
    · have := h e he (i + (k - j)) (by omega) (by omega)
      rw [h7] at this
      exact ⟨Int.le_trans h10 this.1, Int.le_trans this.2 h11⟩
  · exact h q hq k h1 h2
/-! who may sing -/
def absF (x : Int32) : Int32 := if 0 ≤ x then x else -x
abbrev aliveF (S : mm_S) (p : Int32) : Prop := ((S.1 3 28) >>> (p &&& 31)) &&& 1 = 1
abbrev mayF (S : mm_S) (p q : Int32) : Prop := aliveF S p ∧ ¬ S.1 3 (0 + p).toNatClampNeg = 9 ∧ absF (S.1 1 (3 + S.1 3 (0 + p).toNatClampNeg).toNatClampNeg - S.1 1 (31 + q).toNatClampNeg) < 2
def sbF (S : mm_S) (a t p : Int32) : Int32 := if p = S.1 1 0 then S.1 12 (128 * (a + 1) + t).toNatClampNeg else if (t >>> (p &&& 31)) &&& 1 = 1 ∨ ¬ mayF S p a then -1000000 else 1 + S.1 12 (128 * (a + 1) + (t ||| ((1 : Int32) <<< (p &&& 31)))).toNatClampNeg
theorem al_no {v : Int32} {A : Prop} (x : (v = 0 ∧ ¬ A) ∨ (v = 1 ∧ A)) (b : mm_b 0 0 v) : ¬ A := by
  rcases x with x | x
  · exact x.2
  · rw [x.1] at b
    exact absurd b (by decide)
theorem al_yes {v : Int32} {A : Prop} (x : (v = 0 ∧ ¬ A) ∨ (v = 1 ∧ A)) (b : mm_b 1 1 v) : A := by
  rcases x with x | x
  · rw [x.1] at b
    exact absurd b (by decide)
  · exact x.2
theorem is_no {v : Int32} {A : Prop} (x : (v = 0 ∧ ¬ A) ∨ (v = 1 ∧ A)) (b : mm_b 0 0 v) : ¬ A := al_no x b
theorem is_yes {v : Int32} {A : Prop} (x : (v = 0 ∧ ¬ A) ∨ (v = 1 ∧ A)) (b : mm_b 1 1 v) : A := al_yes x b
theorem lt_no {x y : Int32} (h : x < y) (h2 : y ≤ x) : False := by
  have := Int32.lt_iff_toInt_lt.mp h
  have := Int32.le_iff_toInt_le.mp h2
  omega
theorem sb_p {S : mm_S} {p v : Int32} {a b c d : Int} (hp : p.toInt ≤ (S.1 1 0).toInt) (q : ¬ p = v) (e : v = S.1 1 0) (bp : mm_b a b p) (bv : mm_b c d v) (h : 0 ≤ a ∧ d ≤ 7 := by decide) : mm_b 0 6 p := by
  have : p.toInt ≠ v.toInt := fun z => q (Int32.toInt_inj.mp z)
  rw [← e] at hp
  omega
theorem sb_1 {S : mm_S} {a t p v : Int32} (h : p = S.1 1 0) (hv : v = S.1 12 (128 * (a + 1) + t).toNatClampNeg) : v = sbF S a t p := by
  unfold sbF
  rw [if_pos h, hv]
theorem sb_2 {S : mm_S} {a t p v : Int32} (h : ¬ p = S.1 1 0) (h2 : (t >>> (p &&& 31)) &&& 1 = 1 ∨ ¬ mayF S p a) (hv : v = -1000000) : v = sbF S a t p := by
  unfold sbF
  rw [if_neg h, if_pos h2, hv]
theorem sb_3 {S : mm_S} {a t p v : Int32} (h : ¬ p = S.1 1 0) (h2 : ¬ (t >>> (p &&& 31)) &&& 1 = 1) (h3 : mayF S p a) (hv : v = 1 + S.1 12 (128 * (a + 1) + (t ||| ((1 : Int32) <<< (p &&& 31)))).toNatClampNeg) : v = sbF S a t p := by
  unfold sbF
  rw [if_neg h, if_neg (fun z => z.elim h2 (fun z => z h3)), hv]
