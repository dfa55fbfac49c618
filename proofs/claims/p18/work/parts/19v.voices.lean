/-! ===== only voices that are there are used or put by (reference) ===== -/
def VW (X : Int32 → Prop) (S : mm_S) : Prop := (∀ i, i < 7 → S.1 3 i = 9 ∨ X (S.1 3 i)) ∧ ∀ i, i < 7 → ∀ w, w < 7 → bt (S.1 3 (7 + i)) w → X (nI w)
def VO (X : Int32 → Prop) (r o : Nat) (S : mm_S) : Prop := (∀ i, i < 7 → S.1 r (o + i) = 9 ∨ X (S.1 r (o + i))) ∧ ∀ i, i < 7 → ∀ w, w < 7 → bt (S.1 r (o + (7 + i))) w → X (nI w)
def VX (X : Int32 → Prop) (S2 : mm_S) : Prop := VW X S2 ∧ (∀ n : Nat, S2.1 0 5 = nI n → n ≤ 20 → ∀ k, k < n → VO X 5 (30 * k) S2) ∧ (¬ S2.1 7 0 = 0 → VO X 6 0 S2) ∧ (¬ S2.1 7 1 = 0 → VO X 6 31 S2)
def Xv (S2 : mm_S) (v : Int32) : Prop := mm_b 0 6 v ∧ ¬ S2.1 1 (3 + v.toNatClampNeg) = 9
def Vx (S2 : mm_S) : Prop := VX (Xv S2) S2
section VXs
variable {X : Int32 → Prop} {P x y z v q : Int32} {S S1 S2 U U1 U2 : mm_S} {r o o2 i k : Nat}
theorem VO_in (h : VW X S) (m : ∀ i, i < 30 → U.1 r (o + i) = S.1 3 i) : VO X r o U := ⟨fun i hi => by rw [m i (by omega)]; exact h.1 i hi, fun i hi w hw => by rw [m (7 + i) (by omega)]; exact h.2 i hi w hw⟩
theorem VO_out (h : VO X r o S) (m : ∀ i, i < 30 → U.1 3 i = S.1 r (o + i)) : VW X U := ⟨fun i hi => by rw [m i (by omega)]; exact h.1 i hi, fun i hi w hw => by rw [m (7 + i) (by omega)]; exact h.2 i hi w hw⟩
theorem VO_mv (h : VO X r o S) (m : ∀ i, i < 30 → U.1 r (o2 + i) = S.1 r (o + i)) : VO X r o2 U := ⟨fun i hi => by rw [m i (by omega)]; exact h.1 i hi, fun i hi w hw => by rw [m (7 + i) (by omega)]; exact h.2 i hi w hw⟩
theorem VW_row (h : VW X S) (m : U.1 3 = S.1 3) : VW X U := by
  unfold VW
  rw [m]
  exact h
theorem VW_u (h : VW X S) (hi : i < 7) (hv : v = 9 ∨ X v) : VW X (mm_up S 3 i v) := by
  refine ⟨fun l hl => ?_, fun l hl w hw => ?_⟩
  · by_cases e : l = i
    · rw [e, up_at]; exact hv
    · rw [up_ne (by omega)]; exact h.1 l hl
  · rw [up_ne (by omega)]; exact h.2 l hl w hw
theorem VW_j (h : VW X S) (hi : i < 7) (hv : ∀ w, w < 7 → bt v w → X (nI w)) : VW X (mm_up S 3 (7 + i) v) := by
  refine ⟨fun l hl => ?_, fun l hl w hw => ?_⟩
  · rw [up_ne (by omega)]; exact h.1 l hl
  · by_cases e : l = i
    · rw [e, up_at]; exact hv w hw
    · rw [up_ne (by omega)]; exact h.2 l hl w hw
theorem VW_o (h : VW X S) (hk : 14 ≤ k) : VW X (mm_up S 3 k v) := by
  refine ⟨fun l hl => ?_, fun l hl w hw => ?_⟩
  · rw [up_ne (by omega)]; exact h.1 l hl
  · rw [up_ne (by omega)]; exact h.2 l hl w hw
/-- one gets a voice -/
theorem vw_gets (w : Wf 3 P S) (h : VW X S) (hq : 0 ≤ q.toInt ∧ q.toInt ≤ 6) (hx : X v) : VW X (F_X10_gets3 S q v) ∧ (F_X10_gets3 S q v).1 3 28 = S.1 3 28 ∧ Gm 3 S (F_X10_gets3 S q v) := by
  have cq := pz_cl hq.1
  have q7 : q.toNatClampNeg < 7 := by omega
  have c0 : ((0 : Int32) + q).toNatClampNeg = q.toNatClampNeg := by rw [Int32.zero_add]
  have c7 : ((7 : Int32) + q).toNatClampNeg = 7 + q.toNatClampNeg := pz_addc (by decide) ⟨hq.1, by omega⟩
  obtain ⟨w1, w2, -, -⟩ := w.2.2 q.toNatClampNeg q7
  have j0 : S.1 3 (7 + q.toNatClampNeg) ||| 0 = S.1 3 (7 + q.toNatClampNeg) := Int32.or_zero
  rw [F_X10_gets3, c0, c7]
  generalize q.toNatClampNeg = i at *
  by_cases e9 : S.1 3 i = 9
  · rw [if_pos e9, j0, up_self]
    exact ⟨VW_u h q7 (Or.inr hx), up_ne (by omega), Gm_up Gm_rf⟩
  · have b6 := w1.resolve_left e9
    have cu := pz_cl b6.1
    have u7 : (S.1 3 i).toNatClampNeg < 7 := by have := b6.2; omega
    have xu := (h.1 i q7).resolve_left e9
    rw [if_neg e9]
    refine ⟨VW_u (VW_j h q7 (fun l hl hb => ?_)) q7 (Or.inr hx), by rw [up_ne (by omega), up_ne (by omega)], Gm_up (Gm_up Gm_rf)⟩
    rw [nI_cl b6.1] at hb
    rcases (bt_or w2 u7 hl).mp hb with z | z
    · exact h.2 i q7 l hl z
    · rw [z, ← nI_cl b6.1]
      exact xu
theorem lmu (hP : mm_b 0 7 P) (e1 : S.1 1 0 = P) : F_X10_leastMute3 S = -1 ∨ ∃ i, i < 7 ∧ F_X10_leastMute3 S = nI i ∧ bt (S.1 3 28) i := by
  obtain ⟨Pn, hPn⟩ : ∃ n : Nat, P.toInt = n := ⟨P.toInt.toNat, by have := hP.1; omega⟩
  have p7 := hP.2
  have z := le15 (S2 := S) (Pn := Pn) (by rw [e1]; exact hPn) (by omega) 9 0 (by omega) (by omega)
  have z2 : F_X10_leastMute3 S = lmF (mu15 S) (Pn - 0) 0 := z
  rw [z2]
  rcases lmF_or (β := mu15 S) (Pn - 0) 0 with ⟨g1, -⟩ | ⟨i, g1, g2, g3, g4⟩
  · exact Or.inl g1
  · exact Or.inr ⟨i, by omega, g4, (of_decide_eq_true g3).1⟩
theorem vw_loop {jar h0 : Int32} (hP : mm_b 0 7 P) (hj : ∀ w, w < 7 → bt jar w → X (nI w)) : ∀ (N : Nat) (y : Int32) (S : mm_S), 0 ≤ y.toInt → Wf 3 P S → VW X S → S.1 1 0 = P → VW X (F_X10_dies3_L125 N S jar h0 y).2
  | 0, y, S, _, _, h, _ => h
  | N + 1, y, S, hy, w, h, e1 => by
    rw [F_X10_dies3_L125]
    by_cases z : (7 : Int32) ≤ y
    · rw [if_pos z]
      exact h
    · have z2 : y.toInt < 7 := Int32.lt_iff_toInt_lt.mp (bd_nle z)
      have cy := pz_cl hy
      have ty : (y + Int32.ofInt 1).toInt = y.toInt + 1 := by rw [pz_of1]; exact pz_ti1 ⟨by omega, by omega⟩
      rw [if_neg z, in_bt hy]
      by_cases b : bt jar y.toNatClampNeg
      · have xy : X y := by
          have := hj y.toNatClampNeg (by omega) b
          rw [← nI_cl hy] at this
          exact this
        rw [if_pos b, if_neg one0]
        rcases lmu hP e1 with g | ⟨i, i7, g, gb⟩
        · rw [if_pos g]
          exact vw_loop hP hj N _ S (by omega) w h e1
        · have ti : (nI i).toInt = i := nI_toInt (by omega)
          have ni : ¬ nI i = -1 := fun e => by rw [e] at ti; have : (-1 : Int32).toInt = -1 := rfl; omega
          have ci : ((0 : Int32) + nI i).toNatClampNeg = i := by rw [Int32.zero_add]; exact nI_c (by omega)
          rw [g, if_neg ni, ci]
          exact vw_loop hP hj N _ _ (by omega) (Wf_u w i7 gb (Or.inr ⟨hy, by omega⟩)) (VW_u h i7 (Or.inr xy)) (by rw [up_row (by omega)]; exact e1)
      · rw [if_neg b, if_pos (show (0 : Int32) = 0 from rfl)]
        exact vw_loop hP hj N _ S (by omega) w h e1
/-- one dies -/
theorem vw_dies (w : Wf 3 P S) (h : VW X S) (hP : mm_b 0 7 P) (e1 : S.1 1 0 = P) (hq : lv (S.1 3 28) q) : VW X (F_X10_dies3 S q).2 := by
  have cq := pz_cl hq.1.1
  have q7 : q.toNatClampNeg < 7 := by have := hq.1.2; omega
  have bq : mm_b 0 1000 q := ⟨hq.1.1, by have := hq.1.2; omega⟩
  have c0 : ((0 : Int32) + q).toNatClampNeg = q.toNatClampNeg := by rw [Int32.zero_add]
  have c7 : ((7 : Int32) + q).toNatClampNeg = 7 + q.toNatClampNeg := pz_addc (by decide) bq
  have c14 : ((14 : Int32) + q).toNatClampNeg = 14 + q.toNatClampNeg := pz_addc (by decide) bq
  have c21 : ((21 : Int32) + q).toNatClampNeg = 21 + q.toNatClampNeg := pz_addc (by decide) bq
  have nq := nI_cl hq.1.1
  obtain ⟨w1, w2, -, bf⟩ := w.2.2 q.toNatClampNeg q7
  rw [F_X10_dies3, c0, c7, c14]
  have hb := hq.2
  generalize hA : S.1 3 28 &&& ((1 : Int32) <<< (q &&& 31) ^^^ -1) = A'
  generalize hi : q.toNatClampNeg = i at *
  have hA2 : A' = S.1 3 28 &&& ((1 : Int32) <<< (nI i &&& 31) ^^^ -1) := by rw [← hA, nq]
  have bA : ∀ k, k < 7 → (bt A' k ↔ (bt (S.1 3 28) k ∧ k ≠ i)) := fun k hk => by rw [hA2]; exact bt_cl w.1 q7 hk
  generalize hT2 : mm_up (mm_up (mm_up (mm_up S 3 28 A') 3 i 9) 3 (7 + i) 0) 3 29 (S.1 3 29 + 1) = T
  have hj := h.2 i q7
  have hu := h.1 i q7
  have vT : VW X T := by
    rw [← hT2]
    exact VW_o (VW_j (VW_u (VW_o h (by omega)) q7 (Or.inl rfl)) q7 (fun l hl z => absurd z (bt_0 hl))) (by omega)
  have r2 : ∀ k, k ≠ 28 → k ≠ i → k ≠ 7 + i → k ≠ 29 → T.1 3 k = S.1 3 k := fun k k1 k2 k3 k4 => by rw [← hT2, up_ne (by omega), up_ne (by omega), up_ne (by omega), up_ne (by omega)]
  have r28 : T.1 3 28 = A' := by rw [← hT2, up_ne (by omega), up_ne (by omega), up_ne (by omega), up_at]
  have ri : T.1 3 i = 9 ∧ T.1 3 (7 + i) = 0 := by
    rw [← hT2]
    refine ⟨?_, ?_⟩
    · rw [up_ne (by omega), up_ne (by omega), up_at]
    · rw [up_ne (by omega), up_at]
  have hW : Wf 3 P T := by
    refine ⟨by rw [r28, hA2]; exact sm_and w.1, fun k hk z => ?_, fun k hk => ?_⟩
    · rw [r28] at z
      exact w.2.1 k hk ((bA k hk).mp z).1
    · by_cases e : k = i
      · rw [e, ri.1, ri.2, r2 (14 + i) (by omega) (by omega) (by omega) (by omega), r2 (21 + i) (by omega) (by omega) (by omega) (by omega)]
        exact ⟨Or.inl rfl, by decide, fun _ => ⟨rfl, rfl⟩, bf⟩
      · rw [r28, r2 k (by omega) e (by omega) (by omega), r2 (7 + k) (by omega) (by omega) (by omega) (by omega), r2 (14 + k) (by omega) (by omega) (by omega) (by omega), r2 (21 + k) (by omega) (by omega) (by omega) (by omega)]
        obtain ⟨y1, y2, y3, y4⟩ := w.2.2 k hk
        exact ⟨y1, y2, fun z => y3 (fun y => z ((bA k hk).mpr ⟨y, e⟩)), y4⟩
  have p1 : T.1 1 0 = P := by rw [← hT2, up_row (by omega), up_row (by omega), up_row (by omega), up_row (by omega)]; exact e1
  by_cases e9 : S.1 3 i = 9
  · rw [if_pos e9]
    exact vw_loop hP hj 9 0 T (by decide) hW vT p1
  · have b6 := w1.resolve_left e9
    have xu := hu.resolve_left e9
    have r21 : T.1 3 (21 + i) = S.1 3 (21 + i) := r2 _ (by omega) (by omega) (by omega) (by omega)
    have f14 : (mm_up (mm_up (mm_up S 3 28 A') 3 i 9) 3 (7 + i) 0).1 3 (14 + i) = S.1 3 (14 + i) := by rw [up_ne (by omega), up_ne (by omega), up_ne (by omega)]
    have go : ∀ hr : Int32, lv A' hr → VW X (F_X10_dies3_fu64ttfc122 (F_X10_gets3 T hr (S.1 3 i)) (S.1 3 (7 + i)) hr).2 := fun hr hl => by
      obtain ⟨v1, v2, v3⟩ := vw_gets (v := S.1 3 i) hW vT hl.1 xu
      have lT : lv (T.1 3 28) hr := by rw [r28]; exact hl
      have ch := pz_cl hl.1.1
      have h7 : hr.toNatClampNeg < 7 := by have := hl.1.2; omega
      have wg : Wf 3 P (F_X10_gets3 T hr (S.1 3 i)) := by
        have d0 : ((0 : Int32) + hr).toNatClampNeg = hr.toNatClampNeg := by rw [Int32.zero_add]
        have d7 : ((7 : Int32) + hr).toNatClampNeg = 7 + hr.toNatClampNeg := pz_addc (by decide) ⟨hl.1.1, by have := hl.1.2; omega⟩
        obtain ⟨x1, x2, -, -⟩ := hW.2.2 hr.toNatClampNeg h7
        have bb := lT.2
        rw [F_X10_gets3, d0, d7]
        generalize hr.toNatClampNeg = j at *
        by_cases g9 : T.1 3 j = 9
        · have j0 : T.1 3 (7 + j) ||| 0 = T.1 3 (7 + j) := Int32.or_zero
          rw [if_pos g9, j0, up_self]
          exact Wf_u hW h7 bb (Or.inr b6)
        · have e28 : (mm_up T 3 (7 + j) (T.1 3 (7 + j) ||| (1 : Int32) <<< (T.1 3 j &&& 31))).1 3 28 = T.1 3 28 := up_ne (by omega)
          rw [if_neg g9]
          exact Wf_u (Wf_j hW h7 bb (sm_or x2 (x1.resolve_left g9))) h7 (by rw [e28]; exact bb) (Or.inr b6)
      rw [F_X10_dies3_fu64ttfc122]
      exact vw_loop hP hj 9 0 _ (by decide) wg v1 (by rw [v3.1 1 (by omega)]; exact p1)
    rw [if_neg e9, F_X10_dies3_fu64, f14, c21, r21, lm15 hW bf.1, lm15 hW bf.2, r28]
    by_cases x1 : lv A' (S.1 3 (14 + i))
    · rw [if_pos x1, if_neg one0]
      exact go _ x1
    · rw [if_neg x1, if_pos (show (0 : Int32) = 0 from rfl)]
      by_cases x2 : lv A' (S.1 3 (21 + i))
      · rw [if_pos x2, if_neg one0]
        exact go _ x2
      · rw [if_neg x2, if_pos (show (0 : Int32) = 0 from rfl)]
        rcases lmu hP p1 with g | ⟨k, k7, g, gb⟩
        · rw [if_pos g]
          exact vw_loop hP hj 9 0 T (by decide) hW vT p1
        · have tk : (nI k).toInt = k := nI_toInt (by omega)
          have nk : ¬ nI k = -1 := fun y => by rw [y] at tk; have : (-1 : Int32).toInt = -1 := rfl; omega
          rw [g, if_neg nk]
          exact go _ ⟨⟨by omega, by omega⟩, by rw [nI_c (by omega), ← r28]; exact gb⟩
theorem lo_inT : ∀ s : Fin 128, F_X10_leastOf SC0 (nI s.val) = 9 ∨ (bt (nI s.val) (F_X10_leastOf SC0 (nI s.val)).toNatClampNeg ∧ (F_X10_leastOf SC0 (nI s.val)).toNatClampNeg < 7 ∧ nI (F_X10_leastOf SC0 (nI s.val)).toNatClampNeg = F_X10_leastOf SC0 (nI s.val)) := by decide +kernel
theorem lo_in {j : Int32} (hj : mm_b 0 127 j) (hx : ∀ w, w < 7 → bt j w → X (nI w)) : F_X10_leastOf S j = 9 ∨ X (F_X10_leastOf S j) := by
  rw [lo10_any (T := SC0)]
  obtain ⟨s, rfl⟩ := sm_nI hj
  rcases lo_inT s with e | ⟨e1, e2, e3⟩
  · exact Or.inl e
  · right
    have := hx _ e2 e1
    rw [e3] at this
    exact this
theorem bt_sub {j m : Int32} {l : Nat} (hj : mm_b 0 127 j) (hm : 0 ≤ m.toInt ∧ m.toInt ≤ 6) (hl : l < 7) (h : bt (j &&& ((1 : Int32) <<< (m &&& 31) ^^^ -1)) l) : bt j l := by
  have cm := pz_cl hm.1
  rw [nI_cl hm.1] at h
  exact ((bt_cl hj (by omega) hl).mp h).1
/-- sold -/
theorem vw_sells {p : Int32} (w : Wf 3 P S) (h : VW X S) (hp : 0 ≤ p.toInt ∧ p.toInt ≤ 6) (hq : 0 ≤ q.toInt ∧ q.toInt ≤ 6) (e9 : ¬ S.1 3 p.toNatClampNeg = 9) (wg : Wf 3 P (F_X10_gets3 S q (S.1 3 p.toNatClampNeg))) : VW X (F_X10_sells S p q) := by
  have cp := pz_cl hp.1
  have p7 : p.toNatClampNeg < 7 := by omega
  have c0 : ((0 : Int32) + p).toNatClampNeg = p.toNatClampNeg := by rw [Int32.zero_add]
  have c7 : ((7 : Int32) + p).toNatClampNeg = 7 + p.toNatClampNeg := pz_addc (by decide) ⟨hp.1, by omega⟩
  have xu := (h.1 p.toNatClampNeg p7).resolve_left e9
  rw [F_X10_sells, c0]
  obtain ⟨v1, v2, v3⟩ := vw_gets (v := S.1 3 p.toNatClampNeg) w h hq xu
  generalize F_X10_gets3 S q (S.1 3 p.toNatClampNeg) = T at v1 wg ⊢
  rw [F_X10_sells_c17, c0, c7]
  have bj := (wg.2.2 p.toNatClampNeg p7).2.1
  have hj := v1.2 p.toNatClampNeg p7
  have lx := lo_in (S := T) bj hj
  rcases jar_least (S := T) (T := T) bj with ⟨j0, k1, k2⟩ | ⟨j0, k1, k2⟩
  · have e : (mm_up T 3 p.toNatClampNeg 9).1 3 (7 + p.toNatClampNeg) &&& -1 = (mm_up T 3 p.toNatClampNeg 9).1 3 (7 + p.toNatClampNeg) := Int32.and_neg_one
    rw [k2, if_pos (show (9 : Int32) = 9 from rfl), e, up_self]
    exact VW_u v1 p7 (Or.inl rfl)
  · have n9 : ¬ F_X10_leastOf T (T.1 3 (7 + p.toNatClampNeg)) = 9 := fun z => by rw [z] at k2; exact absurd k2 (by decide)
    have e : (mm_up T 3 p.toNatClampNeg (F_X10_leastOf T (T.1 3 (7 + p.toNatClampNeg)))).1 3 (7 + p.toNatClampNeg) = T.1 3 (7 + p.toNatClampNeg) := up_ne (by omega)
    rw [if_neg n9, e]
    exact VW_j (VW_u v1 p7 lx) p7 (fun l hl hb => hj l hl (bt_sub bj ⟨k2.1, k2.2⟩ hl hb))
end VXs
