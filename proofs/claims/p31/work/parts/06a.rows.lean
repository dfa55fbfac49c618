/-! ===== the reference: its shape, its bounds ===== -/
def shM : List mm_F := [.inl (10, [.inr 1, .inr 2, .inr 3, .inr 4, .inr 5, .inl 0, .inr 6, .inr 7, .inl 1, .inr 8, .inl 0, .inl 0, .inr 9, .inl 0, .inr 10, .inl 0, .inr 11, .inl 0, .inl 0, .inl 0, .inl 0, .inl 0, .inl 0, .inl 0, .inr 12]), .inr (0, 37, none), .inr (0, 37, none), .inr (0, 30, none), .inr (0, 30, none), .inr (0, 600, none), .inr (0, 62, none), .inr (1, 2, none), .inr (0, 240, none), .inr (0, 12, none), .inr (0, 12, none), .inr (0, 30, none), .inr (0, 896, none)]
def tbM_now (a o : Nat) : mm_T := [(a, o, o + 6, 0, 9), (a, o + 14, o + 27, 0, 9), (a, o + 28, o + 28, 0, 127)]
def tbM_par (a : Nat) : mm_T := [(a, 0, 0, 0, 7), (a, 1, 1, 0, 6), (a, 2, 2, 0, 6), (a, 3, 9, 0, 9), (a, 10, 23, 0, 9), (a, 25, 30, 0, 127), (a, 31, 36, 0, 8)]
def tbM : mm_T := [(12, 0, 895, 0, 2147483647), (0, 5, 5, 0, 20), (0, 10, 10, 0, 240), (0, 13, 13, 0, 6), (0, 15, 15, 0, 6), (0, 17, 17, 0, 15), (0, 18, 18, 0, 240), (0, 20, 20, -1, 255), (0, 22, 22, 0, 999), (8, 0, 239, 0, 255), (9, 0, 11, 0, 5), (10, 0, 11, 0, 9), (11, 0, 29, 0, 9), (7, 0, 1, 0, 1), (6, 30, 30, 0, 2147483647), (6, 61, 61, 0, 2147483647)] ++ (tbM_par 1 ++ (tbM_par 2 ++ (tbM_now 3 0 ++ (tbM_now 4 0 ++ (tbM_now 6 0 ++ (tbM_now 6 31 ++ (List.range 20).flatMap (fun u => tbM_now 5 (30 * u))))))))
def XM (S : mm_S) : Prop := mm_bl 0 2147483647 (S.2.1 0 8)
def JM (S : mm_S) : Prop := mm_I tbM S ∧ XM S
theorem JM_long {S : mm_S} (h : JM S) : mm_bl 0 2147483647 (S.2.1 0 8) := h.2
theorem JIM_fld {S : mm_S} (h : JM S) {a j l u : Nat} {lo hi : Int} {v : Int32} (e : v = S.1 a j) (hq : (a, l, u, lo, hi) ∈ tbM) (hj : l ≤ j ∧ j ≤ u) : mm_b lo hi v := h.1.fld e hq hj
theorem JIM_elt {S : mm_S} (h : JM S) {a l u : Nat} {lo hi c d : Int} {v i : Int32} (e : v = S.1 a i.toNatClampNeg) (hi1 : mm_b c d i) (hq : (a, l, u, lo, hi) ∈ tbM) (hj : (l : Int) ≤ c ∧ d ≤ u) : mm_b lo hi v := h.1.elt e hi1 hq hj
theorem JIM_put {S : mm_S} (h : JM S) {a j : Nat} {lo hi : Int} {v : Int32} (hv : mm_b lo hi v) (hc : mm_ck tbM a j j lo hi = true) : JM (mm_up S a j v) := ⟨h.1.put hv ⟨Int.le_refl _, Int.le_refl _⟩ hc, h.2⟩
theorem JIM_puta {S : mm_S} (h : JM S) {a : Nat} {il ih lo hi : Int} {v i : Int32} (hv : mm_b lo hi v) (hi1 : mm_b il ih i) (h0 : 0 ≤ il) (hc : mm_ck tbM a il ih lo hi = true) : JM (mm_up S a i.toNatClampNeg v) := ⟨h.1.puta hv hi1 h0 hc, h.2⟩
theorem JLM_put {S : mm_S} (h : JM S) {a b : Int} {v : Int64} (hv : mm_bl a b v) (hc : 0 ≤ a ∧ b ≤ 2147483647) : JM (mm_upL S 0 8 v) := by
  refine ⟨h.1.putL, ?_⟩
  show mm_bl 0 2147483647 (if (0 : Nat) = 0 ∧ (8 : Nat) = 8 then v else S.2.1 0 8)
  rw [if_pos ⟨rfl, rfl⟩]
  exact ⟨by omega, by omega⟩
/-! copies -/
def mm_cp (S : mm_S) (a i b j n : Nat) : mm_S := (fun x k => if x = b ∧ j ≤ k ∧ k < j + n then S.1 a (i + (k - j)) else S.1 x k, S.2)
theorem mm_cp_0 (S : mm_S) (a i b j : Nat) : mm_cp S a i b j 0 = S := by
  unfold mm_cp
  have : (fun x k => if x = b ∧ j ≤ k ∧ k < j + 0 then S.1 a (i + (k - j)) else S.1 x k) = S.1 := by
    funext x k
    rw [if_neg (by omega)]
  rw [this]
theorem mm_cp_s (S : mm_S) {a i b j n : Nat} (h : a ≠ b) : mm_up (mm_cp S a i b j n) b (j + n) ((mm_cp S a i b j n).1 a (i + n)) = mm_cp S a i b j (n + 1) := by
  unfold mm_up mm_cp
  dsimp only
  congr 1
  funext x k
  by_cases hx : x = b
  · subst hx
    by_cases hk : k = j + n
    · subst hk
      rw [if_pos ⟨rfl, rfl⟩, if_neg (fun q => h q.1), if_pos ⟨rfl, by omega, by omega⟩, show i + (j + n - j) = i + n by omega]
    · rw [if_neg (fun q => hk q.2)]
      by_cases h2 : j ≤ k ∧ k < j + n
      · rw [if_pos ⟨rfl, h2⟩, if_pos ⟨rfl, by omega, by omega⟩]
      · rw [if_neg (fun q => h2 q.2), if_neg (fun q => by omega)]
  · rw [if_neg (fun q => hx q.1), if_neg (fun q => hx q.1), if_neg (fun q => hx q.1)]
/-- may n places of a from i on be copied to b from j on? -/
def mm_cq (tb : mm_T) (a i b j n : Nat) : Bool := tb.all (fun q => q.1 != b || (decide (q.2.2.1 < j) || (decide (j + n ≤ q.2.1) || (decide (j ≤ q.2.1) && (decide (q.2.2.1 < j + n) && tb.any (fun e => e.1 == a && (decide (e.2.1 ≤ i + (q.2.1 - j)) && (decide (i + (q.2.2.1 - j) ≤ e.2.2.1) && (decide (q.2.2.2.1 ≤ e.2.2.2.1) && decide (e.2.2.2.2 ≤ q.2.2.2.2))))))))))
theorem mm_I.cp {tb : mm_T} {S : mm_S} (h : mm_I tb S) {a i b j n : Nat} (hc : mm_cq tb a i b j n = true) : mm_I tb (mm_cp S a i b j n) := by
  intro q hq k h1 h2
  have h3 := List.all_eq_true.mp hc q hq
  simp only [Bool.or_eq_true, Bool.and_eq_true, decide_eq_true_eq, bne_iff_ne, List.any_eq_true, beq_iff_eq] at h3
  show mm_b _ _ (if q.1 = b ∧ j ≤ k ∧ k < j + n then S.1 a (i + (k - j)) else S.1 q.1 k)
  split
  · rename_i h4
    rcases h3 with h3 | h3 | h3 | ⟨h5, h6, e, he, h7, h8, h9, h10, h11⟩
    · exact absurd h4.1 h3
    · omega
    · omega
    · have := h e he (i + (k - j)) (by omega) (by omega)
      rw [h7] at this
      exact ⟨Int.le_trans h10 this.1, Int.le_trans this.2 h11⟩
  · exact h q hq k h1 h2
/-! who may sing -/
def absF (x : Int32) : Int32 := if 0 ≤ x then x else -x
abbrev aliveF (S : mm_S) (p : Int32) : Prop := ((S.1 3 28) >>> (p &&& 31)) &&& 1 = 1
abbrev mayF (S : mm_S) (p q : Int32) : Prop := aliveF S p ∧ ¬ S.1 3 (0 + p).toNatClampNeg = 9 ∧ absF (S.1 1 (3 + S.1 3 (0 + p).toNatClampNeg).toNatClampNeg - S.1 1 (31 + q).toNatClampNeg) < 2
def sbF (S : mm_S) (a t p : Int32) : Int32 := if p = S.1 1 0 then S.1 12 (128 * (a + 1) + t).toNatClampNeg else if (t >>> (p &&& 31)) &&& 1 = 1 ∨ ¬ mayF S p a then -1000000 else 1 + S.1 12 (128 * (a + 1) + (t ||| ((1 : Int32) <<< (p &&& 31)))).toNatClampNeg
theorem al_no {v : Int32} {A : Prop} (x : (v = 0 ∧ ¬ A) ∨ (v = 1 ∧ A)) (b : mm_b 0 0 v) : ¬ A := by
  rcases x with x | x
  · exact x.2
  · rw [x.1] at b
    exact absurd b (by decide)
theorem al_yes {v : Int32} {A : Prop} (x : (v = 0 ∧ ¬ A) ∨ (v = 1 ∧ A)) (b : mm_b 1 1 v) : A := by
  rcases x with x | x
  · rw [x.1] at b
    exact absurd b (by decide)
  · exact x.2
theorem is_no {v : Int32} {A : Prop} (x : (v = 0 ∧ ¬ A) ∨ (v = 1 ∧ A)) (b : mm_b 0 0 v) : ¬ A := al_no x b
theorem is_yes {v : Int32} {A : Prop} (x : (v = 0 ∧ ¬ A) ∨ (v = 1 ∧ A)) (b : mm_b 1 1 v) : A := al_yes x b
theorem lt_no {x y : Int32} (h : x < y) (h2 : y ≤ x) : False := by
  have := Int32.lt_iff_toInt_lt.mp h
  have := Int32.le_iff_toInt_le.mp h2
  omega
theorem sb_p {S : mm_S} {p v : Int32} {a b c d : Int} (hp : p.toInt ≤ (S.1 1 0).toInt) (q : ¬ p = v) (e : v = S.1 1 0) (bp : mm_b a b p) (bv : mm_b c d v) (h : 0 ≤ a ∧ d ≤ 7 := by decide) : mm_b 0 6 p := by
  have : p.toInt ≠ v.toInt := fun z => q (Int32.toInt_inj.mp z)
  rw [← e] at hp
  omega
theorem sb_1 {S : mm_S} {a t p v : Int32} (h : p = S.1 1 0) (hv : v = S.1 12 (128 * (a + 1) + t).toNatClampNeg) : v = sbF S a t p := by
  unfold sbF
  rw [if_pos h, hv]
theorem sb_2 {S : mm_S} {a t p v : Int32} (h : ¬ p = S.1 1 0) (h2 : (t >>> (p &&& 31)) &&& 1 = 1 ∨ ¬ mayF S p a) (hv : v = -1000000) : v = sbF S a t p := by
  unfold sbF
  rw [if_neg h, if_pos h2, hv]
theorem sb_3 {S : mm_S} {a t p v : Int32} (h : ¬ p = S.1 1 0) (h2 : ¬ (t >>> (p &&& 31)) &&& 1 = 1) (h3 : mayF S p a) (hv : v = 1 + S.1 12 (128 * (a + 1) + (t ||| ((1 : Int32) <<< (p &&& 31)))).toNatClampNeg) : v = sbF S a t p := by
  unfold sbF
  rw [if_neg h, if_neg (fun z => z.elim h2 (fun z => z h3)), hv]
theorem shM_0 : shM[0]? = some (.inl (10, [.inr 1, .inr 2, .inr 3, .inr 4, .inr 5, .inl 0, .inr 6, .inr 7, .inl 1, .inr 8, .inl 0, .inl 0, .inr 9, .inl 0, .inr 10, .inl 0, .inr 11, .inl 0, .inl 0, .inl 0, .inl 0, .inl 0, .inl 0, .inl 0, .inr 12])) := rfl
theorem shM_1 : shM[1]? = some (.inr (0, 37, none)) := rfl
theorem shM_2 : shM[2]? = some (.inr (0, 37, none)) := rfl
theorem shM_3 : shM[3]? = some (.inr (0, 30, none)) := rfl
theorem shM_4 : shM[4]? = some (.inr (0, 30, none)) := rfl
theorem shM_5 : shM[5]? = some (.inr (0, 600, none)) := rfl
theorem shM_6 : shM[6]? = some (.inr (0, 62, none)) := rfl
theorem shM_7 : shM[7]? = some (.inr (1, 2, none)) := rfl
theorem shM_8 : shM[8]? = some (.inr (0, 240, none)) := rfl
theorem shM_9 : shM[9]? = some (.inr (0, 12, none)) := rfl
theorem shM_10 : shM[10]? = some (.inr (0, 12, none)) := rfl
theorem shM_11 : shM[11]? = some (.inr (0, 30, none)) := rfl
theorem shM_12 : shM[12]? = some (.inr (0, 896, none)) := rfl
theorem tbM_0 : (12, 0, 895, (0 : Int), (2147483647 : Int)) ∈ tbM := List.mem_of_getElem? (i := 0) rfl
theorem tbM_1 : (0, 5, 5, (0 : Int), (20 : Int)) ∈ tbM := List.mem_of_getElem? (i := 1) rfl
theorem tbM_2 : (0, 10, 10, (0 : Int), (240 : Int)) ∈ tbM := List.mem_of_getElem? (i := 2) rfl
theorem tbM_3 : (0, 13, 13, (0 : Int), (6 : Int)) ∈ tbM := List.mem_of_getElem? (i := 3) rfl
theorem tbM_4 : (0, 15, 15, (0 : Int), (6 : Int)) ∈ tbM := List.mem_of_getElem? (i := 4) rfl
theorem tbM_5 : (0, 17, 17, (0 : Int), (15 : Int)) ∈ tbM := List.mem_of_getElem? (i := 5) rfl
theorem tbM_6 : (0, 18, 18, (0 : Int), (240 : Int)) ∈ tbM := List.mem_of_getElem? (i := 6) rfl
theorem tbM_7 : (0, 20, 20, (-1 : Int), (255 : Int)) ∈ tbM := List.mem_of_getElem? (i := 7) rfl
theorem tbM_8 : (0, 22, 22, (0 : Int), (999 : Int)) ∈ tbM := List.mem_of_getElem? (i := 8) rfl
theorem tbM_9 : (8, 0, 239, (0 : Int), (255 : Int)) ∈ tbM := List.mem_of_getElem? (i := 9) rfl
theorem tbM_10 : (9, 0, 11, (0 : Int), (5 : Int)) ∈ tbM := List.mem_of_getElem? (i := 10) rfl
theorem tbM_11 : (10, 0, 11, (0 : Int), (9 : Int)) ∈ tbM := List.mem_of_getElem? (i := 11) rfl
theorem tbM_12 : (11, 0, 29, (0 : Int), (9 : Int)) ∈ tbM := List.mem_of_getElem? (i := 12) rfl
theorem tbM_13 : (7, 0, 1, (0 : Int), (1 : Int)) ∈ tbM := List.mem_of_getElem? (i := 13) rfl
theorem tbM_16 : (1, 0, 0, (0 : Int), (7 : Int)) ∈ tbM := List.mem_of_getElem? (i := 16) rfl
theorem tbM_17 : (1, 1, 1, (0 : Int), (6 : Int)) ∈ tbM := List.mem_of_getElem? (i := 17) rfl
theorem tbM_18 : (1, 2, 2, (0 : Int), (6 : Int)) ∈ tbM := List.mem_of_getElem? (i := 18) rfl
theorem tbM_19 : (1, 3, 9, (0 : Int), (9 : Int)) ∈ tbM := List.mem_of_getElem? (i := 19) rfl
theorem tbM_21 : (1, 25, 30, (0 : Int), (127 : Int)) ∈ tbM := List.mem_of_getElem? (i := 21) rfl
theorem tbM_22 : (1, 31, 36, (0 : Int), (8 : Int)) ∈ tbM := List.mem_of_getElem? (i := 22) rfl
theorem tbM_23 : (2, 0, 0, (0 : Int), (7 : Int)) ∈ tbM := List.mem_of_getElem? (i := 23) rfl
theorem tbM_24 : (2, 1, 1, (0 : Int), (6 : Int)) ∈ tbM := List.mem_of_getElem? (i := 24) rfl
theorem tbM_25 : (2, 2, 2, (0 : Int), (6 : Int)) ∈ tbM := List.mem_of_getElem? (i := 25) rfl
theorem tbM_30 : (3, 0, 6, (0 : Int), (9 : Int)) ∈ tbM := List.mem_of_getElem? (i := 30) rfl
theorem tbM_31 : (3, 14, 27, (0 : Int), (9 : Int)) ∈ tbM := List.mem_of_getElem? (i := 31) rfl
theorem tbM_32 : (3, 28, 28, (0 : Int), (127 : Int)) ∈ tbM := List.mem_of_getElem? (i := 32) rfl
theorem tbM_33 : (4, 0, 6, (0 : Int), (9 : Int)) ∈ tbM := List.mem_of_getElem? (i := 33) rfl
theorem tbM_34 : (4, 14, 27, (0 : Int), (9 : Int)) ∈ tbM := List.mem_of_getElem? (i := 34) rfl
theorem tbM_35 : (4, 28, 28, (0 : Int), (127 : Int)) ∈ tbM := List.mem_of_getElem? (i := 35) rfl
/-! ===== the reference: walks by hand ===== -/
theorem in_use {lo hi a1 a2 b1 b2 : Int} {v p : Int32} {w a b : Int64} (x : (v = 0 ∧ ¬ (a.toInt ≤ w.toInt ∧ w.toInt ≤ b.toInt)) ∨ (a.toInt ≤ w.toInt ∧ w.toInt ≤ b.toInt)) (e : w = p.toInt64) (ba : mm_bl a1 a2 a) (bb : mm_bl b1 b2 b) (h : lo ≤ a1 ∧ b2 ≤ hi) : v = 0 ∨ mm_b lo hi p := by
  rcases x with x | x
  · exact Or.inl x.1
  · rw [e, Int32.toInt_toInt64] at x
    exact Or.inr ⟨by omega, by omega⟩
set_option maxRecDepth 100000 in
set_option maxHeartbeats 4000000 in
theorem c_X10_in {g : mm_G} (S : mm_S) (hI : JM S) (x0 x1 x2 : Int64) : mc g yX10_in cX10_in 6 (some .boolean) (mm_rm 0) [.long x0, .long x1, .long x2] (mm_enc shM S) (qi shM (fun S1 v => S = S1 ∧ mm_b 0 1 v ∧ ((v = 0 ∧ ¬ (x1.toInt ≤ x0.toInt ∧ x0.toInt ≤ x2.toInt)) ∨ (x1.toInt ≤ x0.toInt ∧ x0.toInt ≤ x2.toInt)))) := by
  refine mc_of2 (own := RX10) (ini := false) (ls := [(0, .long x0), (2, .long x1), (4, .long x2)]) (by decide) (Nat.le_of_ble_eq_true rfl) rfl (by decide) rfl ?_
  refine mw_lload_n dX10_in_0 rfl 0 rfl ?_
  refine mw_lload_n dX10_in_1 rfl 1 rfl ?_
  refine mw_lcmp dX10_in_2 (fun z1 e1 => ?_)
  refine mw_if_lt (tgt := 17) dX10_in_3 (by decide) (fun q => ?_) (fun q => ?_)
  · refine mw_iconst dX10_in_17 ki_0 ?_
    refine mw_zret rfl (bd_nar n_0 (by decide)) dX10_in_18 rfl rfl ⟨S, _, rfl, rfl, rfl, bd_w n_0 (by decide), Or.inl ⟨rfl, fun h => ?_⟩⟩
    have h1 : 0 ≤ lg_cmp x0 x1 := (lg_cmp_ge x0 x1).mpr (Int64.le_iff_toInt_le.mpr h.1)
    rw [← e1] at h1
    have h2 := Int32.lt_iff_toInt_lt.mp q
    have h3 := Int32.le_iff_toInt_le.mp h1
    omega
  · have h1 : x1 ≤ x0 := (lg_cmp_ge x0 x1).mp (by rw [← e1]; exact bd_nlt q)
    refine mw_lload_n dX10_in_6 rfl 0 rfl ?_
    refine mw_lload dX10_in_7 2 rfl ?_
    refine mw_lcmp dX10_in_9 (fun z2 e2 => ?_)
    refine mw_if_gt (tgt := 17) dX10_in_10 (by decide) (fun q => ?_) (fun q => ?_)
    · refine mw_iconst dX10_in_17 ki_0 ?_
      refine mw_zret rfl (bd_nar n_0 (by decide)) dX10_in_18 rfl rfl ⟨S, _, rfl, rfl, rfl, bd_w n_0 (by decide), Or.inl ⟨rfl, fun h => ?_⟩⟩
      have h4 : lg_cmp x0 x2 ≤ 0 := (lg_cmp_le x0 x2).mpr (Int64.le_iff_toInt_le.mpr h.2)
      rw [← e2] at h4
      have h2 := Int32.lt_iff_toInt_lt.mp q
      have h3 := Int32.le_iff_toInt_le.mp h4
      omega
    · have h2 : x0 ≤ x2 := (lg_cmp_le x0 x2).mp (by rw [← e2]; exact bd_nlt q)
      refine mw_iconst dX10_in_13 ki_1 ?_
      refine mw_goto (tgt := 18) dX10_in_14 (by decide) ?_
      exact mw_zret rfl (bd_nar n_1 (by decide)) dX10_in_18 rfl rfl ⟨S, _, rfl, rfl, rfl, bd_w n_1 (by decide), Or.inr ⟨Int64.le_iff_toInt_le.mp h1, Int64.le_iff_toInt_le.mp h2⟩⟩
/-! bits -/
def bitsL : Nat → Int32 → Int32 → Option Int32
  | 0, _, _ => none
  | N + 1, l, n => if l = 0 then some n else bitsL N (l &&& (l - 1)) (n + Int32.ofInt 1)
theorem bitsL_mono : ∀ (N k : Nat) (l n v : Int32), bitsL N l n = some v → bitsL (N + k) l n = some v
  | 0, k, l, n, v, h => by simp [bitsL] at h
  | N + 1, k, l, n, v, h => by
    rw [show N + 1 + k = N + k + 1 by omega]
    unfold bitsL at h ⊢
    split
    · rename_i h0
      rw [if_pos h0] at h
      exact h
    · rename_i h0
      rw [if_neg h0] at h
      exact bitsL_mono N k _ _ _ h
theorem bitsL_one {N M : Nat} {l n v u : Int32} (h : bitsL N l n = some v) (h2 : bitsL M l n = some u) : v = u := by
  have a := bitsL_mono N M l n v h
  have b := bitsL_mono M N l n u h2
  rw [Nat.add_comm] at b
  exact Option.some.inj (a.symm.trans b)
theorem bits_dn {l : Int32} (h : ¬ l = 0) : (l &&& (l - 1)).toBitVec.toNat < l.toBitVec.toNat := by
  have h0 : l.toBitVec.toNat ≠ 0 := fun e => h (Int32.toBitVec_inj.mp (BitVec.eq_of_toNat_eq (by rw [e]; rfl)))
  have h1 : (l - 1).toBitVec.toNat = l.toBitVec.toNat - 1 := by
    rw [Int32.toBitVec_sub, BitVec.toNat_sub]
    have := l.toBitVec.isLt
    show (4294967296 - 1 + l.toBitVec.toNat) % 4294967296 = _
    omega
  rw [Int32.toBitVec_and, BitVec.toNat_and]
  exact Nat.lt_of_le_of_lt Nat.and_le_right (by omega)
set_option maxRecDepth 100000 in
set_option maxHeartbeats 4000000 in
theorem c_X10_bits {g : mm_G} (S : mm_S) (hI : JM S) (x0 : Int32) : mc g yX10_bits cX10_bits 3 (some .int) (mm_rm 0) [.int x0] (mm_enc shM S) (qi shM (fun S1 v => S = S1 ∧ mm_b (-2147483648) 2147483647 v ∧ (∃ N, bitsL N x0 0 = some v))) := by
  refine mc_of2 (own := RX10) (ini := false) (ls := [(0, .int x0)]) (by decide) (Nat.le_of_ble_eq_true rfl) rfl (by decide) rfl ?_
  refine mw_iconst dX10_bits_0 ki_0 ?_
  refine mw_istore_n (ls' := [(1, .int 0), (0, .int x0)]) dX10_bits_1 rfl (by decide) rfl ?_
  refine mw_iload_n dX10_bits_2 rfl 1 rfl ?_
  refine mw_istore_n (ls' := [(2, .int x0), (1, .int 0), (0, .int x0)]) dX10_bits_3 rfl (by decide) rfl ?_
  have cut : ∀ (N : Nat) (l n : Int32), l.toBitVec.toNat < N → (∀ v, (∃ K, bitsL K l n = some v) → ∃ K, bitsL K x0 0 = some v) → mw g RX10 cX10_bits 3 (some .int) false (mm_rm 0) (qi shM (fun S1 v => S = S1 ∧ mm_b (-2147483648) 2147483647 v ∧ (∃ N, bitsL N x0 0 = some v))) 0 0 (mm_enc shM S) 4 [(1, .int n), (2, .int l)] [] := by
    intro N
    induction N with
    | zero => intro l n h
              exact absurd h (Nat.not_lt_zero _)
    | succ N ih =>
      intro l n h hv
      refine mw_iload_n dX10_bits_4 rfl 1 rfl ?_
      refine mw_if_eq (tgt := 20) dX10_bits_5 (by decide) (fun q => ?_) (fun q => ?_)
      · refine mw_iload_n dX10_bits_20 rfl 0 rfl ?_
        exact mw_iret rfl dX10_bits_21 rfl rfl ⟨S, _, rfl, rfl, rfl, bd_all n, hv n ⟨1, by unfold bitsL; rw [if_pos q]⟩⟩
      · refine mw_iinc (ls' := fun v => [(1, .int v), (2, .int l)]) dX10_bits_8 0 rfl (by decide) (fun _ => rfl) (fun n1 e1 => ?_)
        refine mw_iload_n dX10_bits_11 rfl 1 rfl ?_
        refine mw_iload_n dX10_bits_12 rfl 1 rfl ?_
        refine mw_iconst dX10_bits_13 ki_1 ?_
        refine mw_isub dX10_bits_14 (fun z2 e2 => ?_)
        refine mw_iand dX10_bits_15 (fun z3 e3 => ?_)
        refine mw_istore_n (ls' := [(2, .int z3), (1, .int n1)]) dX10_bits_16 rfl (by decide) rfl ?_
        refine mw_goto (tgt := 4) dX10_bits_17 (by decide) ?_
        refine mw_ls [1, 0] rfl ?_
        have hl : z3 = l &&& (l - 1) := by rw [e3, e2]
        refine ih z3 n1 ?_ (fun v hk => hv v ?_)
        · have := bits_dn q
          rw [hl]
          omega
        · obtain ⟨K, hK⟩ := hk
          refine ⟨K + 1, ?_⟩
          unfold bitsL
          rw [if_neg q, ← hl, ← e1]
          exact hK
  refine mw_ls [1, 0] rfl ?_
  exact cut _ x0 0 (Nat.lt_succ_self _) (fun v h => h)
theorem bits_tab : ∀ s : Fin 128, ∃ v : Fin 8, bitsL 9 (nI s.val) 0 = some (nI v.val) := by decide +kernel
theorem bits_b {s v : Int32} (x : ∃ N, bitsL N s 0 = some v) (h : mm_b 0 127 s) : mm_b 0 7 v := by
  obtain ⟨N, x⟩ := x
  obtain ⟨j, rfl, hj⟩ := bd_nI h.1
  obtain ⟨u, hu⟩ := bits_tab ⟨j, by omega⟩
  rw [bitsL_one x hu, mm_b, nI_toInt (by omega)]
  omega
/-! ===== the reference: isIn, copies ===== -/
set_option maxRecDepth 100000 in
set_option maxHeartbeats 4000000 in
theorem c_X10_isIn {g : mm_G} (S : mm_S) (hI : JM S) (x0 : Int32) (x1 : Int32) : mc g yX10_isIn cX10_isIn 2 (some .boolean) (mm_rm 0) [.int x0, .int x1] (mm_enc shM S) (qi shM (fun S1 v => S = S1 ∧ mm_b (0) (1) v ∧ ((v = 0 ∧ ¬ (x0 >>> (x1 &&& 31)) &&& 1 = 1) ∨ (v = 1 ∧ (x0 >>> (x1 &&& 31)) &&& 1 = 1)))) := by
  refine mc_of2 (own := RX10) (ini := false) (ls := [(0, .int x0), (1, .int x1)]) (by decide) (Nat.le_of_ble_eq_true rfl) rfl (by decide) rfl ?_
  refine mw_iload_n dX10_isIn_0 rfl 0 rfl ?_
  refine mw_iload_n dX10_isIn_1 rfl 1 rfl ?_
  refine mw_ishr dX10_isIn_2 (fun v101 ev101 => ?_)
  refine mw_iconst dX10_isIn_3 ki_1 ?_
  refine mw_iand dX10_isIn_4 (fun v102 ev102 => ?_)
  refine mw_iconst dX10_isIn_5 ki_1 ?_
  refine mw_icmp_ne (tgt := 13) dX10_isIn_6 (by decide) (fun q104 => ?_) (fun q104 => ?_)
  · refine mw_iconst dX10_isIn_13 ki_0 ?_
    exact mw_zret rfl (bd_nar n_0 (by decide)) dX10_isIn_14 rfl rfl ⟨S, _, rfl, rfl, rfl, bd_w n_0 (by decide), Or.inl ⟨rfl, by rw [← ev101, ← ev102]; exact q104⟩⟩
  · refine mw_iconst dX10_isIn_9 ki_1 ?_
    refine mw_goto (tgt := 14) dX10_isIn_10 (by decide) ?_
    exact mw_zret rfl (bd_nar n_1 (by decide)) dX10_isIn_14 rfl rfl ⟨S, _, rfl, rfl, rfl, bd_w n_1 (by decide), Or.inr ⟨rfl, by rw [← ev101, ← ev102]; exact q104⟩⟩
theorem isIn_tab : ∀ s : Fin 128, ∀ j : Fin 32, (nI s.val >>> (nI j.val &&& 31)) &&& 1 = 1 → j.val ≤ 6 := by decide +kernel
theorem isIn_b {s i v : Int32} {lo hi a b : Int} (x : (v = 0 ∧ ¬ (s >>> (i &&& 31)) &&& 1 = 1) ∨ (v = 1 ∧ (s >>> (i &&& 31)) &&& 1 = 1)) (hs : mm_b a b s) (hi1 : mm_b lo hi i) (h : 0 ≤ a ∧ b ≤ 127 ∧ 0 ≤ lo ∧ hi ≤ 31) : v = 0 ∨ mm_b 0 6 i := by
  rcases x with x | ⟨-, x⟩
  · exact Or.inl x.1
  · obtain ⟨j, rfl, hj⟩ := bd_nI (x := s) (by omega)
    obtain ⟨k, rfl, hk⟩ := bd_nI (x := i) (by omega)
    have := isIn_tab ⟨j, by omega⟩ ⟨k, by omega⟩ x
    exact Or.inr ⟨by omega, by dsimp only at this; omega⟩
set_option maxRecDepth 100000 in
set_option maxHeartbeats 4000000 in
theorem c_cp {g : mm_G} (S : mm_S) {a b na nb : Nat} (ha : shM[a]? = some (.inr (0, na, none))) (hb : shM[b]? = some (.inr (0, nb, none))) (hab : a ≠ b) (i j n : Nat) (hi : i + n ≤ na) (hj : j + n ≤ nb) (hna : na ≤ 1000) (hnb : nb ≤ 1000) (xi xj xn : Int32) (ei : xi.toInt = i) (ej : xj.toInt = j) (en : xn.toInt = n) :
    mc g yX10_copies cX10_copies 6 none (mm_rm 0) [.ref a, .int xi, .ref b, .int xj, .int xn] (mm_enc shM S) (qv shM (fun S1 => S1 = mm_cp S a i b j n)) := by
  refine mc_of2 (own := RX10) (ini := false) (ls := [(0, .ref a), (1, .int xi), (2, .ref b), (3, .int xj), (4, .int xn)]) (by decide) (Nat.le_of_ble_eq_true rfl) rfl (by decide) rfl ?_
  refine mw_iconst dX10_copies_0 ki_0 ?_
  refine mw_istore (ls' := [(5, .int 0), (0, .ref a), (1, .int xi), (2, .ref b), (3, .int xj), (4, .int xn)]) dX10_copies_1 (by decide) rfl ?_
  have cut : ∀ (N k : Nat) (xk : Int32), n - k < N → xk.toInt = k → k ≤ n → mw g RX10 cX10_copies 6 none false (mm_rm 0) (qv shM (fun S1 => S1 = mm_cp S a i b j n)) 0 0 (mm_enc shM (mm_cp S a i b j k)) 3 [(5, .int xk), (0, .ref a), (1, .int xi), (2, .ref b), (3, .int xj), (4, .int xn)] [] := by
    intro N
    induction N with
    | zero =>
      intro k xk h
      exact absurd h (Nat.not_lt_zero _)
    | succ N ih =>
      intro k xk h hk hkn
      refine mw_iload dX10_copies_3 0 rfl ?_
      refine mw_iload dX10_copies_5 5 rfl ?_
      refine mw_icmp_ge (tgt := 28) dX10_copies_7 (by decide) (fun q => ?_) (fun q => ?_)
      · have h1 := Int32.le_iff_toInt_le.mp q
        have : k = n := by omega
        subst this
        exact mw_vret rfl dX10_copies_28 rfl rfl ⟨_, rfl, rfl, rfl⟩
      · have h1 := Int32.lt_iff_toInt_lt.mp (bd_nle q)
        have hk2 : k < n := by omega
        refine mw_aload_n dX10_copies_10 rfl 3 rfl ?_
        refine mw_iload_n dX10_copies_11 rfl 4 rfl ?_
        refine mw_iload dX10_copies_12 0 rfl ?_
        refine mw_iadd dX10_copies_14 (fun z1 e1 => ?_)
        have f1 : z1.toInt = ((j + k : Nat) : Int) := by rw [e1, bd_ti_add (by omega) (by omega)]; omega
        refine mw_aload_n dX10_copies_15 rfl 1 rfl ?_
        refine mw_iload_n dX10_copies_16 rfl 2 rfl ?_
        refine mw_iload dX10_copies_17 0 rfl ?_
        refine mw_iadd dX10_copies_19 (fun z2 e2 => ?_)
        have f2 : z2.toInt = ((i + k : Nat) : Int) := by rw [e2, bd_ti_add (by omega) (by omega)]; omega
        have c1 : z1.toNatClampNeg = j + k := by show z1.toInt.toNat = _; omega
        have c2 : z2.toNatClampNeg = i + k := by show z2.toInt.toNat = _; omega
        refine tw_iald dX10_copies_20 ha (vp_in_iff.mpr ⟨by omega, by omega⟩) (fun v3 e3 => ?_)
        refine tw_iast dX10_copies_21 hb (vp_in_iff.mpr ⟨by omega, by omega⟩) ?_
        rw [e3, c1, c2, mm_cp_s S hab]
        refine mw_iinc (ls' := fun v => [(5, .int v), (0, .ref a), (1, .int xi), (2, .ref b), (3, .int xj), (4, .int xn)]) dX10_copies_22 0 rfl (by decide) (fun _ => rfl) (fun x4 e4 => ?_)
        refine mw_goto (tgt := 3) dX10_copies_25 (by decide) ?_
        exact ih (k + 1) x4 (by omega) (by rw [e4, bd_ti_add (by rw [bd_ofI (by decide)]; omega) (by rw [bd_ofI (by decide)]; omega), bd_ofI (by decide)]; omega) (by omega)
  have h0 := cut (n + 1) 0 0 (by omega) rfl (Nat.zero_le _)
  rw [mm_cp_0] at h0
  exact h0
theorem fr_cp {S : mm_S} {a i b j n : Nat} (hb : b ≠ 0) : fr [b] [] true true S (mm_cp S a i b j n) := by
  refine ⟨fun x k hx h0 => ?_, fun k hk => ?_, fun _ => rfl, fun _ => ?_⟩
  · exact if_neg (fun q => hx (List.mem_singleton.mpr q.1))
  · exact if_neg (fun q => hb q.1.symm)
  · have : (mm_cp S a i b j n).1 0 18 = S.1 0 18 := if_neg (fun q => hb q.1.symm)
    rw [this]
    exact Int.le_refl _
theorem mc_wk {g : mm_G} {y : MethodName} {cc : ByteArray} {nL : Nat} {ret : Option FieldType} {rm : Room} {as : List Value} {w : List mm_E} {Q Q2 : Option Value → List mm_E → Prop} (h : mc g y cc nL ret rm as w Q) (hq : ∀ r w, Q r w → Q2 r w) : mc g y cc nL ret rm as w Q2 := by
  intro l p e ha hc hk s m args below hf happ hP hK
  obtain ⟨t, o, h1, h2, h3, h4⟩ := h l p e ha hc hk s m args below hf happ hP hK
  refine ⟨t, o, h1, h2, h3, ?_⟩
  obtain ⟨⟨⟨r, w1, a1, a2, a3⟩, a4⟩, a5⟩ := h4
  exact ⟨⟨⟨r, w1, a1, hq r w1 a2, a3⟩, a4⟩, a5⟩
theorem cp_J {S : mm_S} (hI : JM S) {a i b j n : Nat} (hc : mm_cq tbM a i b j n = true) : JM (mm_cp S a i b j n) := ⟨hI.1.cp hc, hI.2⟩
theorem bd_one {a : Int} {x : Int32} (h : mm_b a a x) : x.toInt = a := by omega
theorem c_X10_copies_34 {g : mm_G} (S : mm_S) (hI : JM S) (x1 : Int32) (h1 : mm_b 0 0 x1) (x3 : Int32) (h3 : mm_b 0 0 x3) (x4 : Int32) (h4 : mm_b 30 30 x4) : mc g yX10_copies cX10_copies 6 none (mm_rm 0) [.ref 3, .int x1, .ref 4, .int x3, .int x4] (mm_enc shM S) (qv shM (fun S1 => JM S1 ∧ fr [4] [] true true S S1 ∧ True)) :=
  mc_wk (c_cp S shM_3 shM_4 (by decide) 0 0 30 (by decide) (by decide) (by decide) (by decide) x1 x3 x4 (bd_one h1) (bd_one h3) (bd_one h4)) (fun r w ⟨S1, h, h2, h3⟩ => ⟨S1, h, h2, by rw [h3]; exact ⟨cp_J hI (by decide +kernel), fr_cp (by decide), trivial⟩⟩)
theorem cp_35 : ∀ u : Fin 20, mm_cq tbM 3 0 5 (30 * u.val) 30 = true := by decide +kernel
theorem cp_53 : ∀ u : Fin 20, mm_cq tbM 5 (30 * u.val) 3 0 30 = true := by decide +kernel
theorem cp_36 : ∀ u : Fin 2, mm_cq tbM 3 0 6 (31 * u.val) 30 = true := by decide +kernel
theorem cp_63 : ∀ u : Fin 2, mm_cq tbM 6 (31 * u.val) 3 0 30 = true := by decide +kernel
theorem cp_mul {c y z : Int32} {C : Nat} {lo hi : Int} {M : Nat} (e : z = c * y) (hc : mm_b C C c) (hy : mm_b lo hi y) (h : 0 ≤ lo ∧ hi < M ∧ C * M ≤ 1000) : ∃ u : Nat, u < M ∧ z.toInt = ((C * u : Nat) : Int) := by
  obtain ⟨j, rfl, hj⟩ := bd_nI (x := y) (by omega)
  have hc2 := bd_one hc
  have hm : ((C * j : Nat) : Int) = c.toInt * (nI j).toInt := by rw [hc2, ← hj]; omega
  have hle : C * j ≤ C * M := Nat.mul_le_mul_left C (by omega)
  refine ⟨j, by omega, ?_⟩
  rw [e, bd_ti_mul (by omega) (by omega)]
  exact hm.symm
theorem c_X10_copies_35 {g : mm_G} (S : mm_S) (hI : JM S) (x1 : Int32) (h1 : mm_b 0 0 x1) (x3 : Int32) (x4 : Int32) (h4 : mm_b 30 30 x4) (h3 : ∃ u : Nat, u < 20 ∧ x3.toInt = ((30 * u : Nat) : Int)) : mc g yX10_copies cX10_copies 6 none (mm_rm 0) [.ref 3, .int x1, .ref 5, .int x3, .int x4] (mm_enc shM S) (qv shM (fun S1 => JM S1 ∧ fr [5] [] true true S S1 ∧ True)) := by
  obtain ⟨u, hu, h3⟩ := h3
  exact mc_wk (c_cp S shM_3 shM_5 (by decide) 0 (30 * u) 30 (by decide) (by omega) (by decide) (by decide) x1 x3 x4 (bd_one h1) h3 (bd_one h4)) (fun r w ⟨S1, h, h2, h3⟩ => ⟨S1, h, h2, by rw [h3]; exact ⟨cp_J hI (cp_35 ⟨u, hu⟩), fr_cp (by decide), trivial⟩⟩)
theorem c_X10_copies_53 {g : mm_G} (S : mm_S) (hI : JM S) (x1 : Int32) (x3 : Int32) (h3 : mm_b 0 0 x3) (x4 : Int32) (h4 : mm_b 30 30 x4) (h1 : ∃ u : Nat, u < 20 ∧ x1.toInt = ((30 * u : Nat) : Int)) : mc g yX10_copies cX10_copies 6 none (mm_rm 0) [.ref 5, .int x1, .ref 3, .int x3, .int x4] (mm_enc shM S) (qv shM (fun S1 => JM S1 ∧ fr [3] [] true true S S1 ∧ True)) := by
  obtain ⟨u, hu, h1⟩ := h1
  exact mc_wk (c_cp S shM_5 shM_3 (by decide) (30 * u) 0 30 (by omega) (by decide) (by decide) (by decide) x1 x3 x4 h1 (bd_one h3) (bd_one h4)) (fun r w ⟨S1, h, h2, h3⟩ => ⟨S1, h, h2, by rw [h3]; exact ⟨cp_J hI (cp_53 ⟨u, hu⟩), fr_cp (by decide), trivial⟩⟩)
/-! the shift of the past -/
theorem tbM_sh : tbM.all (fun q => q.1 != 5 || (decide (570 ≤ q.2.1) || decide ((q.1, q.2.1 + 30, q.2.2.1 + 30, q.2.2.2.1, q.2.2.2.2) ∈ tbM))) = true := by decide +kernel
theorem JM_shift {S : mm_S} (hI : JM S) {k z v : Int32} (bk : mm_b 0 569 k) (ez : z = k + 30) (ev : v = S.1 5 z.toNatClampNeg) : JM (mm_up S 5 k.toNatClampNeg v) := by
  have h1 : z.toInt = k.toInt + 30 := by rw [ez, bd_ti_add (by show -2147483648 ≤ k.toInt + 30; omega) (by show k.toInt + 30 ≤ 2147483647; omega)]; rfl
  have c1 : z.toNatClampNeg = k.toNatClampNeg + 30 := by show z.toInt.toNat = k.toInt.toNat + 30; omega
  have c2 : (k.toNatClampNeg : Int) = k.toInt := bd_cl bk (by decide)
  refine ⟨fun q hq i h2 h3 => ?_, hI.2⟩
  show mm_b _ _ (if q.1 = 5 ∧ i = k.toNatClampNeg then v else S.1 q.1 i)
  split
  · rename_i h4
    have h5 := List.all_eq_true.mp tbM_sh q hq
    simp only [Bool.or_eq_true, decide_eq_true_eq, bne_iff_ne] at h5
    rcases h5 with h5 | h5 | h5
    · exact absurd h4.1 h5
    · omega
    · have h6 := hI.1 _ h5 (i + 30) (by dsimp only; omega) (by dsimp only; omega)
      rw [ev, c1, ← h4.2]
      dsimp only at h6
      rw [h4.1] at h6
      exact h6
  · exact hI.1 q hq i h2 h3
/-! the images' seeds -/
theorem tbM_im : (6, 30, 30, (0 : Int), (2147483647 : Int)) ∈ tbM ∧ (6, 61, 61, (0 : Int), (2147483647 : Int)) ∈ tbM := by decide +kernel
theorem img_ix {m z : Int32} (ez : z = m + 30) (hm : ∃ u : Nat, u < 2 ∧ m.toInt = ((31 * u : Nat) : Int)) : z.toNatClampNeg = 30 ∨ z.toNatClampNeg = 61 := by
  obtain ⟨u, hu, h⟩ := hm
  have h1 : z.toInt = m.toInt + 30 := by rw [ez, bd_ti_add (by show -2147483648 ≤ m.toInt + 30; omega) (by show m.toInt + 30 ≤ 2147483647; omega)]; rfl
  show z.toInt.toNat = 30 ∨ z.toInt.toNat = 61
  omega
theorem JM_img {S : mm_S} (hI : JM S) {m z v : Int32} (ez : z = m + 30) (hm : ∃ u : Nat, u < 2 ∧ m.toInt = ((31 * u : Nat) : Int)) (hv : mm_b 0 2147483647 v) : JM (mm_up S 6 z.toNatClampNeg v) := by
  rcases img_ix ez hm with h | h <;> rw [h]
  · exact JIM_put hI hv (by decide +kernel)
  · exact JIM_put hI hv (by decide +kernel)
theorem JM_imgr {S : mm_S} (hI : JM S) {m z v : Int32} (ez : z = m + 30) (hm : ∃ u : Nat, u < 2 ∧ m.toInt = ((31 * u : Nat) : Int)) (ev : v = S.1 6 z.toNatClampNeg) : mm_b 0 2147483647 v := by
  rcases img_ix ez hm with h | h <;> rw [h] at ev
  · exact JIM_fld hI ev tbM_im.1 ⟨Nat.le_refl _, Nat.le_refl _⟩
  · exact JIM_fld hI ev tbM_im.2 ⟨Nat.le_refl _, Nat.le_refl _⟩
/-! the least of a set -/
def lsN (s v : Int32) : Prop := ∀ j : Nat, (j : Int) < v.toInt → ¬ (s >>> (nI j &&& 31)) &&& 1 = 1
theorem lsN_0 {s : Int32} : lsN s 0 := fun j h => absurd h (by show ¬ (j : Int) < 0; omega)
theorem lsN_s {s i i2 v : Int32} {lo hi : Int} (h : lsN s i) (x : (v = 0 ∧ ¬ (s >>> (i &&& 31)) &&& 1 = 1) ∨ (v = 1 ∧ (s >>> (i &&& 31)) &&& 1 = 1)) (hv : v = 0) (hb : ¬ (s >>> (i &&& 31)) &&& 1 = 1) (bi : mm_b lo hi i) (h0 : 0 ≤ lo ∧ hi ≤ 100) (e : i2 = i + Int32.ofInt 1) : lsN s i2 := by
  have t : i2.toInt = i.toInt + 1 := by rw [e, bd_ti_add (by rw [bd_ofI (by decide)]; omega) (by rw [bd_ofI (by decide)]; omega), bd_ofI (by decide)]
  intro j hj
  rcases (by omega : (j : Int) < i.toInt ∨ i.toInt ≤ j) with q | q
  · exact h j q
  · obtain ⟨k, rfl, hk⟩ := bd_nI (x := i) (by omega)
    have : j = k := by omega
    subst this
    exact hb
theorem ls_tab : ∀ s : Fin 128, s.val ≠ 0 → ∃ j : Fin 7, (nI s.val >>> (nI j.val &&& 31)) &&& 1 = 1 := by decide +kernel
theorem ls_b {s v : Int32} {lo hi : Int} (x : mm_b 0 6 v ∨ (v = 9 ∧ lsN s 7)) (hs : mm_b lo hi s) (h : 1 ≤ lo ∧ hi ≤ 127) : mm_b 0 6 v := by
  rcases x with x | ⟨x, hx⟩
  · exact x
  · exfalso
    obtain ⟨k, rfl, hk⟩ := bd_nI (x := s) (by omega)
    obtain ⟨j, hj⟩ := ls_tab ⟨k, by omega⟩ (by show k ≠ 0; omega)
    exact hx j.val (by show (j.val : Int) < 7; omega) hj
theorem bits_0 {s v : Int32} (x : ∃ N, bitsL N s 0 = some v) (h : mm_b 0 0 s) : mm_b 0 0 v := by
  obtain ⟨N, x⟩ := x
  have hs := bd_zero h
  subst hs
  have : v = 0 := bitsL_one x (show bitsL 1 0 0 = some 0 from rfl)
  rw [this]
  decide
theorem bits_tab1 : ∀ s : Fin 128, s.val ≠ 0 → ∃ v : Fin 8, v.val ≠ 0 ∧ bitsL 9 (nI s.val) 0 = some (nI v.val) := by decide +kernel
theorem bits_1 {s v : Int32} {lo hi : Int} (x : ∃ N, bitsL N s 0 = some v) (h : mm_b lo hi s) (h2 : 1 ≤ lo ∧ hi ≤ 127) : mm_b 1 7 v := by
  obtain ⟨N, x⟩ := x
  obtain ⟨j, rfl, hj⟩ := bd_nI (x := s) (by omega)
  obtain ⟨u, hu0, hu⟩ := bits_tab1 ⟨j, by omega⟩ (by show j ≠ 0; omega)
  rw [bitsL_one x hu, mm_b, nI_toInt (by omega)]
  omega
theorem bits_eq {s v u : Int32} (x : ∃ N, bitsL N s 0 = some v) (y : ∃ N, bitsL N s 0 = some u) : v = u := by
  obtain ⟨N, x⟩ := x
  obtain ⟨M, y⟩ := y
  exact bitsL_one x y
theorem two_tab : ∀ s : Fin 128, ∀ o : Fin 7, (∀ b : Fin 2, ¬ bitsL 9 (nI s.val) 0 = some (nI b.val)) → ((nI s.val) &&& (((1 : Int32) <<< (nI o.val &&& 31)) ^^^ (-1))).toInt ≠ 0 := by decide +kernel
theorem two_b {s b o w1 w2 w m : Int32} {lo hi : Int} (x : ∃ N, bitsL N s 0 = some b) (hb : mm_b 2 7 b) (hs : mm_b lo hi s) (h : 0 ≤ lo ∧ hi ≤ 127) (ho : mm_b 0 6 o) (e1 : w1 = 1 <<< (o &&& 31)) (e2 : w2 = w1 ^^^ m) (hm : m = -1) (e3 : w = s &&& w2) : mm_b 1 127 w := by
  obtain ⟨N, x⟩ := x
  have hw : mm_b 0 127 w := bd_w (bd_and (lo := 0) (hi := hi) e3 hs ⟨h.1, Int.le_refl _, Int.le_refl _⟩) ⟨Int.le_refl _, h.2⟩
  obtain ⟨j, rfl, hj⟩ := bd_nI (x := s) (by omega)
  obtain ⟨k, rfl, hk⟩ := bd_nI (x := o) ho.1
  have := two_tab ⟨j, by omega⟩ ⟨k, by omega⟩ (fun c hc => by
    have e := bitsL_one x hc
    rw [e, mm_b, nI_toInt (by omega)] at hb
    omega)
  rw [e3, e2, e1, hm] at hw ⊢
  dsimp only at this
  omega
/-! codes of two heirs -/
theorem bd_ti_div2 {x y : Int32} (hx : 0 ≤ x.toInt) (hy : 0 < y.toInt) : (x / y).toInt = x.toInt / y.toInt := by
  have r := bd_rng x
  have g1 : 0 ≤ x.toInt / y.toInt := Int.ediv_nonneg hx (by omega)
  have g2 : x.toInt / y.toInt ≤ x.toInt := Int.ediv_le_self _ hx
  rw [Int32.toInt_div, Int.tdiv_eq_ediv_of_nonneg hx, bd_bmod (by omega) (by omega)]
theorem cb_1 {n : Int32} {lo hi : Int} (h : mm_b lo hi n) (h2 : 1 ≤ lo) : (1 : Int32).toInt ≤ n.toInt * n.toInt := by
  have : (1 : Int) * 1 ≤ n.toInt * n.toInt := Int.mul_le_mul (by omega) (by omega) (by decide) (by omega)
  exact this
theorem cb_n {n : Int32} {lo hi : Int} (h : mm_b lo hi n) (h2 : 1 ≤ lo) : n.toInt ≤ n.toInt * n.toInt := by
  have : n.toInt * 1 ≤ n.toInt * n.toInt := Int.mul_le_mul_of_nonneg_left (by omega) (by omega)
  omega
theorem cb_nn {n c : Int32} {lo hi : Int} (e : c = n * n) (h : mm_b lo hi n) (h2 : 1 ≤ lo ∧ hi ≤ 1000) : c.toInt ≤ n.toInt * n.toInt := by
  have h3 : n.toInt * n.toInt ≤ 1000 * 1000 := Int.mul_le_mul (by omega) (by omega) (by omega) (by decide)
  have h4 : 0 ≤ n.toInt * n.toInt := Int.mul_nonneg (by omega) (by omega)
  rw [e, bd_ti_mul (by omega) (by omega)]
  exact Int.le_refl _
theorem cb_div {x y z c : Int32} {a b lo hi : Int} (e : z = x / y) (hx : mm_b a b x) (hy : mm_b lo hi y) (h : 0 ≤ a ∧ 1 ≤ lo ∧ hi ≤ 8) (q : x < c) (hc : c.toInt ≤ y.toInt * y.toInt) : mm_b 0 7 z := by
  have q2 := Int32.lt_iff_toInt_lt.mp q
  have t : z.toInt = x.toInt / y.toInt := by rw [e, bd_ti_div2 (by omega) (by omega)]
  have g1 : 0 ≤ x.toInt / y.toInt := Int.ediv_nonneg (by omega) (by omega)
  have g2 : x.toInt / y.toInt < y.toInt := by
    rw [Int.ediv_lt_iff_lt_mul (by omega)]
    omega
  rw [mm_b, t]
  omega
theorem ls_no {s i v : Int32} (x : (v = 0 ∧ ¬ (s >>> (i &&& 31)) &&& 1 = 1) ∨ (v = 1 ∧ (s >>> (i &&& 31)) &&& 1 = 1)) (hv : mm_b 0 0 v) : ¬ (s >>> (i &&& 31)) &&& 1 = 1 := by
  rcases x with x | x
  · exact x.2
  · rw [x.1] at hv
    exact absurd hv (by decide)
theorem ls_7 {s y : Int32} {lo hi : Int} (h : lsN s y) (by_ : mm_b lo hi y) (h7 : 7 ≤ lo := by decide) : lsN s 7 := fun j hj => h j (by have : (j : Int) < 7 := hj; omega)
/-! ===== the reference: here, step ===== -/
def hereF (S : mm_S) : Int32 := if (S.1 0 18) < (S.1 0 10) then S.1 8 (S.1 0 18).toNatClampNeg else -1
set_option maxRecDepth 100000 in
set_option maxHeartbeats 4000000 in
theorem c_X10_here {g : mm_G} (S : mm_S) (hI : JM S)  : mc g yX10_here cX10_here 1 (some .int) (mm_rm 0) [.ref 0] (mm_enc shM S) (qi shM (fun S1 v => S = S1 ∧ mm_b (-1) (255) v ∧ (v = hereF S ∧ (v = -1 ∨ mm_b 0 239 (S.1 0 18))))) := by
  refine mc_of2 (own := RX10) (ini := false) (ls := [(0, .ref 0)]) (by decide) (Nat.le_of_ble_eq_true rfl) rfl (by decide) rfl ?_
  refine mw_aload_n dX10_here_0 rfl 0 rfl ?_
  refine tw_geti (j := 18) dX10_here_1 shM_0 rfl rfl (by decide) fX10_89 (fun v101 ev101 => ?_)
  have b102 : mm_b (0) (240) v101 := JIM_fld hI ev101 tbM_6 (by decide)
  refine mw_aload_n dX10_here_4 rfl 0 rfl ?_
  refine tw_geti (j := 10) dX10_here_5 shM_0 rfl rfl (by decide) fX10_85 (fun v103 ev103 => ?_)
  have b104 : mm_b (0) (240) v103 := JIM_fld hI ev103 tbM_2 (by decide)
  refine mw_icmp_ge (tgt := 23) dX10_here_8 (by decide) (fun q105 => ?_) (fun q105 => ?_)
  · refine mw_iconst dX10_here_23 ki_m1 ?_
    refine mw_iret rfl dX10_here_24 rfl rfl ⟨S, _, rfl, rfl, rfl, bd_w n_m1 (by decide), ?_, Or.inl rfl⟩
    unfold hereF
    rw [if_neg]
    rw [← ev101, ← ev103]
    intro q
    have h1 := Int32.lt_iff_toInt_lt.mp q
    have h2 := Int32.le_iff_toInt_le.mp q105
    omega
  · have b106 : mm_b (0) (239) v101 := bd_lt_l (bd_nle q105) b102 b104 (by decide)
    refine mw_aload_n dX10_here_11 rfl 0 rfl ?_
    refine tw_getr (j := 9) dX10_here_12 shM_0 rfl rfl (by decide) fX10_32 ?_
    refine mw_aload_n dX10_here_15 rfl 0 rfl ?_
    refine tw_geti (j := 18) dX10_here_16 shM_0 rfl rfl (by decide) fX10_89 (fun v108 ev108 => ?_)
    have cv108 : v101 = v108 := ev101.trans ev108.symm
    subst cv108
    refine tw_iald dX10_here_19 shM_8 (bd_in b106 (by decide)) (fun v109 ev109 => ?_)
    have b110 : mm_b (0) (255) v109 := JIM_elt hI ev109 b106 tbM_9 (by decide)
    refine mw_goto (tgt := 24) dX10_here_20 (by decide) ?_
    refine mw_iret rfl dX10_here_24 rfl rfl ⟨S, _, rfl, rfl, rfl, bd_w b110 (by decide), ?_, Or.inr (by rw [← ev101]; exact b106)⟩
    unfold hereF
    rw [if_pos, ← ev101, ev109]
    rw [← ev101, ← ev103]
    exact bd_nle q105
theorem fr_at {wr wf : List Nat} {k m : Bool} {S S1 S2 : mm_S} {v : Int32} (h : fr wr wf k m S S1) (e : mm_up S1 0 18 v = S2) (hj : 18 ∈ wf) (hv : (S1.1 0 18).toInt ≤ v.toInt) : fr wr wf k m S S2 := by
  refine ⟨fun b i hb h0 => ?_, fun i hi => ?_, fun q => ?_, fun q => ?_⟩
  · rw [← up_neA e h0]
    exact h.1 b i hb h0
  · rw [← up_neF e (fun z => hi (by rw [z]; exact hj))]
    exact h.2.1 i hi
  · rw [← e]
    exact h.2.2.1 q
  · rw [← up_eq e]
    exact Int.le_trans (h.2.2.2 q) hv
def stepR (S : mm_S) : Prop := 0 ≤ (S.1 0 21).toInt ∧ (S.1 0 21).toInt ≤ (S.1 0 18).toInt ∧ 0 ≤ (S.1 0 22).toInt ∧ (S.1 0 22).toInt ≤ 999 ∧ ((S.1 0 21).toInt ≤ 2 → (S.1 0 22).toInt ≤ 99) ∧ ((S.1 0 21).toInt ≤ 1 → (S.1 0 22).toInt ≤ 9) ∧ ((S.1 0 21).toInt ≤ 0 → (S.1 0 22).toInt ≤ 0)
/-! ===== the reference: how far the reading is ===== -/
def prM (S : mm_S) (w : Int32) : Nat := if w = 0 ∨ (S.1 0 20).toInt < 0 then 0 else if (S.1 0 20).toInt = 48 then 1 else (243 - (S.1 0 18).toInt).toNat
theorem prM_pos {S : mm_S} {v w : Int32} (e : v = S.1 0 20) (bv : mm_b 0 255 v) (bw : mm_b 1 1 w) : ¬ (w = 0 ∨ (S.1 0 20).toInt < 0) := by
  rw [← e]
  intro q
  rcases q with q | q
  · rw [q] at bw
    exact absurd bw (by decide)
  · omega
theorem pr_1 {S S2 : mm_S} {v w z : Int32} {N : Nat} (hm : prM S w < N + 1) (e : v = S.1 0 20) (bv : mm_b 0 255 v) (bw : mm_b 1 1 w) (hI : JM S) (bz : mm_b 0 0 z) : prM S2 z < N := by
  have h1 : prM S2 z = 0 := by unfold prM; rw [if_pos (Or.inl (bd_zero bz))]
  have b18 : mm_b 0 240 (S.1 0 18) := JIM_fld hI rfl tbM_6 (by decide)
  unfold prM at hm
  rw [if_neg (prM_pos e bv bw)] at hm
  rw [h1]
  split at hm <;> omega
theorem pr_2 {S S1 S2 : mm_S} {v w r : Int32} {N : Nat} {wr wf : List Nat} {k : Bool} (hm : prM S w < N + 1) (e : v = S.1 0 20) (bv : mm_b 99 119 v) (bw : mm_b 1 1 w) (hI : JM S) (f1 : fr wr wf k true S S1) (x2 : (S2.1 0 20).toInt < 0 ∨ (S2.1 0 20).toInt = 48 ∨ (S1.1 0 18).toInt < (S2.1 0 18).toInt) : prM S2 r < N := by
  have b18 : mm_b 0 240 (S.1 0 18) := JIM_fld hI rfl tbM_6 (by decide)
  have h18 := f1.2.2.2 rfl
  unfold prM at hm
  rw [if_neg (prM_pos e ⟨by omega, by omega⟩ bw), if_neg (by rw [← e]; omega)] at hm
  unfold prM
  split
  · omega
  · rename_i h
    split
    · omega
    · rename_i h48
      rcases x2 with x2 | x2 | x2
      · exact absurd (Or.inr x2) h
      · exact absurd x2 h48
      · omega
/-! ===== the reference: figures of an order ===== -/
def dgZ (o : Int32) : Prop := 0 ≤ o.toInt ∧ ∀ k : Nat, 0 < o.toInt.toNat / 10 ^ k → 1 ≤ o.toInt.toNat / 10 ^ k % 10 ∧ o.toInt.toNat / 10 ^ k % 10 ≤ 7
def dgA (o r : Int32) : Prop := 0 ≤ o.toInt ∧ ∃ i : Nat, r.toInt = ((o.toInt.toNat / 10 ^ i : Nat) : Int) ∧ ∀ k : Nat, k < i → 1 ≤ o.toInt.toNat / 10 ^ k % 10 ∧ o.toInt.toNat / 10 ^ k % 10 ≤ 7
theorem dgA_0 {o : Int32} {lo hi : Int} (h : mm_b lo hi o) (h2 : 0 ≤ lo) : dgA o o := by
  refine ⟨by omega, 0, ?_, fun k hk => absurd hk (Nat.not_lt_zero _)⟩
  rw [Nat.pow_zero, Nat.div_one]
  omega
theorem bd_ti_div {x y : Int32} (hx : 0 ≤ x.toInt) (hy : 0 < y.toInt) : (x / y).toInt = x.toInt / y.toInt := by
  have r := bd_rng x
  have g1 : 0 ≤ x.toInt / y.toInt := Int.ediv_nonneg hx (by omega)
  have g2 : x.toInt / y.toInt ≤ x.toInt := Int.ediv_le_self _ hx
  rw [Int32.toInt_div, Int.tdiv_eq_ediv_of_nonneg hx, bd_bmod (by omega) (by omega)]
theorem bd_ti_rem {x y : Int32} (hx : 0 ≤ x.toInt) : (x - x / y * y).toInt = x.toInt % y.toInt := by
  rw [rem_toInt, Int.tmod_eq_emod_of_nonneg hx]
theorem dgA_s {o r c d z1 z2 r2 : Int32} {lo hi : Int} (h : dgA o r) (br : mm_b lo hi r) (h1 : 1 ≤ lo) (e1 : z1 = r - r / c * c) (bc : mm_b 10 10 c) (e2 : z2 = z1 - d) (bd : mm_b 1 1 d) (b2 : mm_b 0 6 z2) (e3 : r2 = r / c) : dgA o r2 := by
  obtain ⟨h0, i, hi1, hk⟩ := h
  have tc : c.toInt = 10 := by omega
  have td : d.toInt = 1 := by omega
  have t1 : z1.toInt = r.toInt % 10 := by rw [e1, bd_ti_rem (by omega), tc]
  have t2 : z2.toInt = z1.toInt - 1 := by rw [e2, bd_ti_sub (by omega) (by omega), td]
  have t3 : r2.toInt = r.toInt / 10 := by rw [e3, bd_ti_div (by omega) (by omega), tc]
  refine ⟨h0, i + 1, ?_, fun k hk2 => ?_⟩
  · rw [t3, hi1, Nat.pow_succ, ← Nat.div_div_eq_div_mul]
    generalize o.toInt.toNat / 10 ^ i = A
    omega
  · rcases Nat.lt_or_ge k i with q | q
    · exact hk k q
    · have : k = i := by omega
      subst this
      generalize o.toInt.toNat / 10 ^ k = A at hi1 ⊢
      omega
theorem dgA_e {o r : Int32} {lo hi : Int} (h : dgA o r) (br : mm_b lo hi r) (h1 : hi ≤ 0) : dgZ o := by
  obtain ⟨h0, i, hi1, hk⟩ := h
  refine ⟨h0, fun k hk2 => ?_⟩
  rcases Nat.lt_or_ge k i with q | q
  · exact hk k q
  · exfalso
    have h3 : o.toInt.toNat / 10 ^ k ≤ o.toInt.toNat / 10 ^ i := Nat.div_le_div_left (Nat.pow_le_pow_right (by decide) q) (Nat.pow_pos (by decide))
    generalize o.toInt.toNat / 10 ^ i = A at hi1 h3
    generalize o.toInt.toNat / 10 ^ k = B at hk2 h3
    omega
def unU (o u : Int32) : Prop := ∃ k : Nat, u.toInt = ((10 ^ k : Nat) : Int) ∧ (k = 0 ∨ 10 ^ k ≤ o.toInt.toNat)
abbrev allQ (S : mm_S) : Option Value → List mm_E → Prop := qv shM (fun S1 => JM S1 ∧ fr [4] [] true true S S1 ∧ True)
