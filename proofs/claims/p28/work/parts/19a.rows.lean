/-! ===== the relation with the folk, the past, the images, the seed ===== -/
/-- no parish told yet: the class has no folk, the reference has seven mute ones -/
def Fq (P : Int32) (S1 S2 : mm_S) : Prop := (S1.1 15 0 = S2.1 3 28 ∧ S1.1 15 1 = S2.1 3 29 ∧ S1.1 15 2 = P) ∧ (¬ P = 0 → Fk15 P S1 S2)
def FqO (g r o : Nat) (P : Int32) (S1 S2 : mm_S) : Prop := (S1.1 g 0 = S2.1 r (o + 28) ∧ S1.1 g 1 = S2.1 r (o + 29) ∧ S1.1 g 2 = P) ∧ (¬ P = 0 → FkO g r o P S1 S2)
section FQ
variable {P : Int32} {S1 S2 U1 U2 : mm_S} {g r o : Nat}
theorem Fq_of (h : Fk15 P S1 S2) : Fq P S1 S2 := ⟨⟨h.1, h.2.1, h.2.2.1⟩, fun _ => h⟩
theorem Fq_row (h : Fq P S1 S2) (c0 : U1.1 15 = S1.1 15) (c1 : U1.1 16 = S1.1 16) (c2 : U1.1 17 = S1.1 17) (c3 : U1.1 18 = S1.1 18) (c4 : U1.1 19 = S1.1 19) (m : U2.1 3 = S2.1 3) : Fq P U1 U2 := ⟨by rw [c0, m]; exact h.1, fun q => Fk_row (h.2 q) c0 c1 c2 c3 c4 m⟩
theorem FqO_in (h : Fq P S1 S2) (hg : 19 < g) (m : ∀ i, i < 30 → U2.1 r (o + i) = S2.1 3 i) (c : ∀ b, g ≤ b → b ≤ g + 4 → U1.1 b = (F_X3_copy S1 g 15).1 b) : FqO g r o P U1 U2 := by
  obtain ⟨-, ⟨k0, k1, k2, -⟩, -⟩ := cp_c (S := S1) (a := g) (c := 15) (by omega)
  obtain ⟨⟨h0, h1, h2⟩, hk⟩ := h
  refine ⟨⟨?_, ?_, ?_⟩, fun q => FkO_in (hk q) hg m c⟩
  · rw [c g (by omega) (by omega), k0, m 28 (by omega)]; exact h0
  · rw [c g (by omega) (by omega), k1, m 29 (by omega)]; exact h1
  · rw [c g (by omega) (by omega), k2]; exact h2
theorem FqO_out (h : FqO g r o P S1 S2) (hg : 19 < g) (m : ∀ i, i < 30 → U2.1 3 i = S2.1 r (o + i)) (c : ∀ b, 15 ≤ b → b ≤ 19 → U1.1 b = (F_X3_copy S1 15 g).1 b) : Fq P U1 U2 := by
  obtain ⟨-, ⟨k0, k1, k2, -⟩, -⟩ := cp_c (S := S1) (a := 15) (c := g) (by omega)
  obtain ⟨⟨h0, h1, h2⟩, hk⟩ := h
  refine ⟨⟨?_, ?_, ?_⟩, fun q => FkO_out (hk q) hg m c⟩
  · rw [c 15 (by omega) (by omega), k0, m 28 (by omega)]; exact h0
  · rw [c 15 (by omega) (by omega), k1, m 29 (by omega)]; exact h1
  · rw [c 15 (by omega) (by omega), k2]; exact h2
theorem FqO_mv {o2 : Nat} (h : FqO g r o P S1 S2) (c : ∀ b, g ≤ b → b ≤ g + 4 → U1.1 b = S1.1 b) (m : ∀ i, i < 30 → U2.1 r (o2 + i) = S2.1 r (o + i)) : FqO g r o2 P U1 U2 := by
  obtain ⟨⟨h0, h1, h2⟩, hk⟩ := h
  refine ⟨⟨?_, ?_, ?_⟩, fun q => FkO_mv (hk q) c m⟩
  · rw [c g (by omega) (by omega), m 28 (by omega)]; exact h0
  · rw [c g (by omega) (by omega), m 29 (by omega)]; exact h1
  · rw [c g (by omega) (by omega)]; exact h2
end FQ
def Im (P : Int32) (S1 S2 : mm_S) : Prop := (¬ S1.1 151 0 = 0 → FqO 152 6 0 P S1 S2 ∧ WfO 6 0 P S2 ∧ S1.1 151 1 = S2.1 6 30) ∧ (¬ S1.1 157 0 = 0 → FqO 158 6 31 P S1 S2 ∧ WfO 6 31 P S2 ∧ S1.1 157 1 = S2.1 6 61)
def Se (S1 S2 : mm_S) : Prop := (S1.1 128 0).toInt = (S2.2.1 0 8).toInt
def RB (S1 S2 : mm_S) : Prop := RA S1 S2 ∧ Fq (S2.1 1 0) S1 S2 ∧ Wf 3 (S2.1 1 0) S2 ∧ Pa (S2.1 1 0) S1 S2 ∧ Im (S2.1 1 0) S1 S2 ∧ Se S1 S2
theorem LG1_a : ∀ b ∈ LG1, (1 ≤ b ∧ b < 15) ∨ (127 ≤ b ∧ b ≠ 128) := by decide
section RBs
variable {P : Int32} {S1 S2 U1 U2 : mm_S} {x y z : Int32}
theorem Pa_G (h : Pa P S1 S2) (c : ∀ b, 25 ≤ b → b ≤ 126 → U1.1 b = S1.1 b) (m5 : U2.1 5 = S2.1 5) (m0 : U2.1 0 5 = S2.1 0 5) : Pa P U1 U2 := by
  obtain ⟨n, x, hn, hx, hm, n20, x20, hk⟩ := h
  refine ⟨n, x, by rw [c 25 (by omega) (by omega)]; exact hn, by rw [c 25 (by omega) (by omega)]; exact hx, by rw [m0]; exact hm, n20, x20, fun k hk2 => ?_⟩
  obtain ⟨f, w⟩ := hk k hk2
  have lt : (x + 20 - n + k) % 20 < 20 := Nat.mod_lt _ (by omega)
  generalize (x + 20 - n + k) % 20 = s at *
  exact ⟨FkO_mv f (fun b h1 h2 => c b (by omega) (by omega)) (fun i _ => by rw [m5]), WfO_mv w (fun i _ => by rw [m5])⟩
theorem Im_G (h : Im P S1 S2) (c : ∀ b, 151 ≤ b → b ≤ 162 → U1.1 b = S1.1 b) (m6 : U2.1 6 = S2.1 6) : Im P U1 U2 := by
  obtain ⟨h1, h2⟩ := h
  refine ⟨fun q => ?_, fun q => ?_⟩
  · rw [c 151 (by omega) (by omega)] at q ⊢
    obtain ⟨f, w, e⟩ := h1 q
    exact ⟨FqO_mv f (fun b g1 g2 => c b (by omega) (by omega)) (fun i _ => by rw [m6]), WfO_mv w (fun i _ => by rw [m6]), by rw [m6]; exact e⟩
  · rw [c 157 (by omega) (by omega)] at q ⊢
    obtain ⟨f, w, e⟩ := h2 q
    exact ⟨FqO_mv f (fun b g1 g2 => c b (by omega) (by omega)) (fun i _ => by rw [m6]), WfO_mv w (fun i _ => by rw [m6]), by rw [m6]; exact e⟩
abbrev LB1 : List Nat := List.range' 1 19 ++ List.range' 25 113 ++ List.range' 151 12
abbrev LB2 : List Nat := [1, 3, 5, 6, 7, 8, 9, 10, 11]
abbrev LBF : List Nat := [5, 10, 11, 13, 15, 17]
theorem LB1_in {b : Nat} (h : (1 ≤ b ∧ b ≤ 19) ∨ (25 ≤ b ∧ b ≤ 137) ∨ (151 ≤ b ∧ b ≤ 162)) : b ∈ LB1 := by
  rcases h with h | h | h
  · exact List.mem_append_left _ (List.mem_append_left _ (List.mem_range'_1.mpr ⟨h.1, by omega⟩))
  · exact List.mem_append_left _ (List.mem_append_right _ (List.mem_range'_1.mpr ⟨h.1, by omega⟩))
  · exact List.mem_append_right _ (List.mem_range'_1.mpr ⟨h.1, by omega⟩)
/-- nothing of the relation's places is written -/
theorem RB_G (h : RB S1 S2) (hJ : JC S1) (c : ∀ b, b ∈ LB1 → U1.1 b = S1.1 b) (c2 : U1.2 = S1.2) (m : ∀ b ∈ LB2, U2.1 b = S2.1 b) (m0 : ∀ j ∈ LBF, U2.1 0 j = S2.1 0 j) (m2 : U2.2 = S2.2) : RB U1 U2 := by
  obtain ⟨a, f, w, p, i, s⟩ := h
  have cc : ∀ b, (1 ≤ b ∧ b ≤ 19) ∨ (25 ≤ b ∧ b ≤ 137) ∨ (151 ≤ b ∧ b ≤ 162) → U1.1 b = S1.1 b := fun b hb => c b (LB1_in hb)
  have e1 : U2.1 1 = S2.1 1 := m 1 (by decide)
  unfold RB
  rw [e1]
  refine ⟨RA_G a hJ ⟨fun b hb => c b (by revert b; decide), c2⟩ ⟨fun b hb => m b (by revert b; decide), fun j hj => m0 j (by revert j; decide)⟩, Fq_row f (cc 15 (by omega)) (cc 16 (by omega)) (cc 17 (by omega)) (cc 18 (by omega)) (cc 19 (by omega)) (m 3 (by decide)), Wf_row w (m 3 (by decide)), Pa_G p (fun b h1 h2 => cc b (by omega)) (m 5 (by decide)) (m0 5 (by decide)), Im_G i (fun b h1 h2 => cc b (by omega)) (m 6 (by decide)), ?_⟩
  unfold Se
  rw [cc 128 (by omega), m2]
  exact s
theorem fr_RB {wr wf wr2 wf2 : List Nat} {m m' : Bool} (h : RB S1 S2) (hJ : JC S1) (f1 : fr wr wf true m S1 U1) (f2 : fr wr2 wf2 true m' S2 U2) (h1 : ∀ b ∈ LB1, b ∉ wr ∧ b ≠ 0) (h2 : ∀ b ∈ LB2, b ∉ wr2 ∧ b ≠ 0) (h3 : ∀ j ∈ LBF, j ∉ wf2) : RB U1 U2 :=
  RB_G h hJ (fun b hb => funext fun j => f1.1 b j (h1 b hb).1 (h1 b hb).2) (f1.2.2.1 rfl) (fun b hb => funext fun j => f2.1 b j (h2 b hb).1 (h2 b hb).2) (fun j hj => f2.2.1 j (h3 j hj)) (f2.2.2.1 rfl)
/-- both remember, then do something to the folk -/
theorem RB_do (h : RB S1 S2) (hJ : JC S1) (hp : ¬ S2.1 1 0 = 0) (s : Sm15 (S2.1 1 0) (F_X7_remember S1) (F_X10_remember S2) U1 U2) : RB U1 U2 := by
  obtain ⟨a, f, w, p, i, se⟩ := h
  have p2 := rm_Pa (f.2 hp) w p
  obtain ⟨n, x, hn, hx, hm, n20, x20, -⟩ := p
  obtain ⟨⟨a1, a2⟩, -, -, -⟩ := rmC hn hx n20 x20
  obtain ⟨d, -, ⟨b1, b2, b3⟩, -, -, -⟩ := rmM hm n20
  obtain ⟨f', w', ⟨g1, g2⟩, g3, g4⟩ := s
  have lx : x % 20 < 20 := Nat.mod_lt _ (by omega)
  generalize x % 20 = sl at *
  have c : ∀ b, (1 ≤ b ∧ b < 15) ∨ (127 ≤ b) → U1.1 b = S1.1 b := fun b hb => by rw [g1 b (by omega), a1 b (by omega) (by omega)]
  have m : ∀ b, b ≠ 0 → b ≠ 3 → b ≠ 5 → U2.1 b = S2.1 b := fun b h0 h3 h5 => by rw [g3 b h3, b1 b h0 h5]
  have m0 : ∀ j, j ≠ 5 → U2.1 0 j = S2.1 0 j := fun j hj => by rw [g3 0 (by omega), b2 j hj]
  have e1 : U2.1 1 0 = S2.1 1 0 := by rw [m 1 (by omega) (by omega) (by omega)]
  unfold RB
  rw [e1]
  refine ⟨RA_G a hJ ⟨fun b hb => c b (by have z := LG1_a b hb; omega), by rw [g2, a2]⟩ ⟨fun b hb => m b (by revert b; decide) (by revert b; decide) (by revert b; decide), fun j hj => m0 j (by revert j; decide)⟩, Fq_of f', w', Pa_G p2 (fun b h1 h2 => g1 b (by omega)) (g3 5 (by omega)) (by rw [g3 0 (by omega)]), Im_G i (fun b h1 h2 => c b (by omega)) (m 6 (by omega) (by omega) (by omega)), ?_⟩
  unfold Se
  rw [c 128 (by omega), g4, b3]
  exact se
/-- what remembering leaves of the folk -/
theorem rm_fk (h : RB S1 S2) (hp : ¬ S2.1 1 0 = 0) : Fk15 (S2.1 1 0) (F_X7_remember S1) (F_X10_remember S2) ∧ Wf 3 (S2.1 1 0) (F_X10_remember S2) ∧ (F_X10_remember S2).1 1 0 = S2.1 1 0 ∧ (F_X10_remember S2).1 3 = S2.1 3 := by
  obtain ⟨a, f, w, ⟨n, x, hn, hx, hm, n20, x20, -⟩, i, se⟩ := h
  obtain ⟨⟨a1, a2⟩, -, -, -⟩ := rmC hn hx n20 x20
  obtain ⟨d, -, ⟨b1, b2, b3⟩, -, -, -⟩ := rmM hm n20
  have lx : x % 20 < 20 := Nat.mod_lt _ (by omega)
  generalize x % 20 = sl at *
  have m3 := b1 3 (by omega) (by omega)
  exact ⟨Fk_row (f.2 hp) (a1 15 (by omega) (by omega)) (a1 16 (by omega) (by omega)) (a1 17 (by omega) (by omega)) (a1 18 (by omega) (by omega)) (a1 19 (by omega) (by omega)) m3, Wf_row w m3, by rw [b1 1 (by omega) (by omega)], m3⟩
theorem per (h : RB S1 S2) (q : ¬ F_X10_isPerson S2 x = 0) : 0 ≤ x.toInt ∧ x.toInt < (S2.1 1 0).toInt ∧ x.toInt ≤ 6 := by
  have b := h.1.2.2.1.2.1.1
  have z := in_1 b q
  exact ⟨z.1, z.2, by omega⟩
theorem per0 (h : RB S1 S2) (q : ¬ F_X10_isPerson S2 x = 0) : ¬ S2.1 1 0 = 0 := fun e => by
  have z := per h q
  rw [e] at z
  have t : (0 : Int32).toInt = 0 := rfl
  omega
/-- promise 9 -/
theorem sb_die (h : RB S1 S2) (hJ : JC S1) : (F_X9_die S1 x).1 = (F_X10_die S2 x).1 ∧ RB (F_X9_die S1 x).2 (F_X10_die S2 x).2 := by
  have hP := h.1.2.2.1.2.1.1
  rw [F_X9_die, F_X10_die, an_p h.1]
  by_cases q : F_X10_isPerson S2 x = 0
  · rw [if_pos q, if_pos q]
    exact ⟨rfl, h⟩
  · have hx := per h q
    have hp := per0 h q
    have f0 := h.2.1.2 hp
    rw [if_neg q, if_neg q, lc15 f0 h.2.2.1 hP, alv h.2.2.1 ⟨hx.1, hx.2.2⟩]
    by_cases l : lv (S2.1 3 28) x
    · rw [if_pos l, if_neg one0, if_neg one0, F_X9_die_ttc39, F_X9_die_ttc39c47, F_X10_die_ttc26, F_X10_die_ttc26c35]
      obtain ⟨f, w, e1, e3⟩ := rm_fk h hp
      obtain ⟨r1, r2⟩ := by15 (q := x) f w hP e1 (by rw [e3]; exact l)
      exact ⟨r1, RB_do h hJ hp r2⟩
    · rw [if_neg l, if_pos (show (0 : Int32) = 0 from rfl), if_pos (show (0 : Int32) = 0 from rfl)]
      exact ⟨rfl, h⟩
/-- promise 10 -/
theorem sb_sell (h : RB S1 S2) (hJ : JC S1) : (F_X9_sell S1 x y).1 = (F_X10_sell S2 x y).1 ∧ RB (F_X9_sell S1 x y).2 (F_X10_sell S2 x y).2 := by
  have hP := h.1.2.2.1.2.1.1
  rw [F_X9_sell, F_X10_sell, an_p h.1, an_p h.1]
  by_cases q : F_X10_isPerson S2 x = 0
  · rw [if_pos q, if_pos q]
    exact ⟨rfl, h⟩
  · have hx := per h q
    have hp := per0 h q
    have f0 := h.2.1.2 hp
    rw [if_neg q, if_neg q]
    by_cases q2 : F_X10_isPerson S2 y = 0
    · rw [if_pos q2, if_pos q2]
      exact ⟨rfl, h⟩
    · have hy := per h q2
      rw [if_neg q2, if_neg q2]
      by_cases e : x = y
      · rw [if_pos e, if_pos e]
        exact ⟨rfl, h⟩
      · rw [if_neg e, if_neg e, (ms f0 h.2.2.1 hP ⟨hx.1, hx.2.2⟩ ⟨hy.1, hy.2.2⟩).1]
        by_cases q3 : F_X10_maySell S2 x y = 0
        · rw [if_pos q3, if_pos q3]
          exact ⟨rfl, h⟩
        · obtain ⟨f, w, e1, e3⟩ := rm_fk h hp
          have em : F_X10_maySell (F_X10_remember S2) x y = F_X10_maySell S2 x y := by
            rw [F_X10_maySell, F_X10_maySell, F_X10_isAlive, F_X10_isAlive, F_X10_isAlive, F_X10_isAlive, e3]
            rfl
          rw [if_neg q3, if_neg q3, F_X9_sell_ffttc56, F_X9_sell_ffttc56c65, F_X10_sell_ffttc40, F_X10_sell_ffttc40c46]
          have s := so f w hP ⟨hx.1, hx.2.2⟩ ⟨hy.1, hy.2.2⟩ (by rw [em]; exact q3)
          refine ⟨?_, RB_do h hJ hp s⟩
          have cx := pz_cl hx.1
          show F_X3_voiceOf_15 (F_X3_handOver_15 (F_X7_remember S1) x y) x = (F_X10_sells (F_X10_remember S2) x y).1 3 ((0 : Int32) + x).toNatClampNeg
          rw [F_X3_voiceOf_15, one_lc s.1 hP ⟨hx.1, hx.2.1⟩, if_neg one0, Int32.zero_add]
          exact (s.1.2.2.2 x.toNatClampNeg (by omega)).1
/-- promise 11 -/
theorem sb_putBy (h : RB S1 S2) (hJ : JC S1) : (F_X9_putBy S1 x y).1 = (F_X10_putBy S2 x y).1 ∧ RB (F_X9_putBy S1 x y).2 (F_X10_putBy S2 x y).2 := by
  have hP := h.1.2.2.1.2.1.1
  have ev : F_X9_isVoiceNumber S1 y = F_X10_isVoice S2 y := by
    have e : F_X10_isVoice S2 y = if mm_b 0 6 y then 1 else 0 := m_in (lo := 0) (hi := 6)
    rw [e, F_X9_isVoiceNumber]
    by_cases q : y < 0
    · have : y.toInt < 0 := Int32.lt_iff_toInt_lt.mp q
      rw [if_pos q, if_neg (show ¬ mm_b 0 6 y from fun z => by omega)]
    · have q2 : 0 ≤ y.toInt := Int32.le_iff_toInt_le.mp (bd_nlt q)
      rw [if_neg q]
      by_cases r : (7 : Int32) ≤ y
      · have : (7 : Int) ≤ y.toInt := Int32.le_iff_toInt_le.mp r
        rw [if_pos r, if_neg (show ¬ mm_b 0 6 y from fun z => by omega)]
      · have : y.toInt < 7 := Int32.lt_iff_toInt_lt.mp (bd_nle r)
        rw [if_neg r, if_pos (show mm_b 0 6 y from ⟨q2, by omega⟩)]
  rw [F_X9_putBy, F_X10_putBy, an_p h.1, ev]
  by_cases q : F_X10_isPerson S2 x = 0
  · rw [if_pos q, if_pos q]
    exact ⟨rfl, h⟩
  · have hx := per h q
    have hp := per0 h q
    have f0 := h.2.1.2 hp
    have cx := pz_cl hx.1
    rw [if_neg q, if_neg q]
    by_cases q2 : F_X10_isVoice S2 y = 0
    · rw [if_pos q2, if_pos q2]
      exact ⟨rfl, h⟩
    · have hy : mm_b 0 6 y := by
        have e : F_X10_isVoice S2 y = if mm_b 0 6 y then 1 else 0 := m_in (lo := 0) (hi := 6)
        rw [e] at q2
        by_cases z : mm_b 0 6 y
        · exact z
        · rw [if_neg z] at q2
          exact absurd rfl q2
      have c7 : ((7 : Int32) + x).toNatClampNeg = 7 + x.toNatClampNeg := pz_addc (by decide) ⟨hx.1, by omega⟩
      have c0 : ((0 : Int32) + x).toNatClampNeg = x.toNatClampNeg := by rw [Int32.zero_add]
      rw [if_neg q2, if_neg q2, lc15 f0 h.2.2.1 hP, alv h.2.2.1 ⟨hx.1, hx.2.2⟩, F_X3_jarOf_15, one_lc f0 hP ⟨hx.1, hx.2.1⟩, if_neg one0, (f0.2.2.2 x.toNatClampNeg (by omega)).2.1, c7, hw (T := S2) ⟨hy.1, by omega⟩]
      by_cases l : lv (S2.1 3 28) x
      · rw [if_pos l, if_neg one0, if_neg one0]
        by_cases q3 : F_X10_isIn S2 (S2.1 3 (7 + x.toNatClampNeg)) y = 0
        · rw [if_pos q3, if_pos q3]
          exact ⟨rfl, h⟩
        · obtain ⟨f, w, e1, e3⟩ := rm_fk h hp
          have s := pb (p := x) (v := y) f w hP (by rw [e3]; exact l) hy (by rw [e3]; exact q3)
          rw [if_neg q3, if_neg q3, F_X9_putBy_ftftc61, F_X9_putBy_ftftc61c70, F_X10_putBy_ftftc49, F_X10_putBy_ftftc49u82, F_X10_putBy_ftftc49u82c85, c7, c0]
          rw [e3] at s ⊢
          exact ⟨s.1, RB_do h hJ hp s.2⟩
      · rw [if_neg l, if_pos (show (0 : Int32) = 0 from rfl), if_pos (show (0 : Int32) = 0 from rfl)]
        exact ⟨rfl, h⟩
theorem an_heir (h : RA S1 S2) : F_X9_canInherit S1 x y = F_X10_isHeir S2 x y := by
  rw [F_X9_canInherit, F_X10_isHeir, an_p h]
theorem heir_b (h : RB S1 S2) (q : ¬ F_X10_isHeir S2 x y = 0) : mm_b 0 9 y := by
  rw [F_X10_isHeir] at q
  by_cases e : y = 9
  · rw [e]
    decide
  · rw [if_neg e] at q
    by_cases z : F_X10_isPerson S2 y = 0
    · rw [if_pos z] at q
      exact absurd rfl q
    · have := per h z
      exact ⟨this.1, by omega⟩
/-- promise 12 -/
theorem sb_will (h : RB S1 S2) (hJ : JC S1) : (F_X9_will S1 x y z).1 = (F_X10_will S2 x y z).1 ∧ RB (F_X9_will S1 x y z).2 (F_X10_will S2 x y z).2 := by
  have hP := h.1.2.2.1.2.1.1
  rw [F_X9_will, F_X10_will, an_p h.1, an_heir h.1, an_heir h.1]
  by_cases q : F_X10_isPerson S2 x = 0
  · rw [if_pos q, if_pos q]
    exact ⟨rfl, h⟩
  · have hx := per h q
    have hp := per0 h q
    have f0 := h.2.1.2 hp
    have cx := pz_cl hx.1
    rw [if_neg q, if_neg q]
    by_cases q2 : F_X10_isHeir S2 x y = 0
    · rw [if_pos q2, if_pos q2]
      exact ⟨rfl, h⟩
    · rw [if_neg q2, if_neg q2]
      by_cases q3 : F_X10_isHeir S2 x z = 0
      · rw [if_pos q3, if_pos q3]
        exact ⟨rfl, h⟩
      · rw [if_neg q3, if_neg q3, lc15 f0 h.2.2.1 hP, alv h.2.2.1 ⟨hx.1, hx.2.2⟩]
        by_cases l : lv (S2.1 3 28) x
        · obtain ⟨f, w, e1, e3⟩ := rm_fk h hp
          have c14 : ((14 : Int32) + x).toNatClampNeg = 14 + x.toNatClampNeg := pz_addc (by decide) ⟨hx.1, by omega⟩
          have c21 : ((21 : Int32) + x).toNatClampNeg = 21 + x.toNatClampNeg := pz_addc (by decide) ⟨hx.1, by omega⟩
          have s := wc (p := x) (a := y) (b := z) f w hP ⟨hx.1, hx.2.1⟩ (heir_b h q2) (heir_b h q3)
          have v := f.2.2.2 x.toNatClampNeg (by omega)
          rw [if_pos l, if_neg one0, if_neg one0, F_X9_will_ffttc57, F_X9_will_ffttc57c89, F_X10_will_ffttc44, c14, c21, F_X3_firstHeir_15, F_X3_secondHeir_15, one_lc f hP ⟨hx.1, hx.2.1⟩, if_neg one0, if_neg one0, v.2.2.1, v.2.2.2]
          exact ⟨rfl, RB_do h hJ hp s⟩
        · rw [if_neg l, if_pos (show (0 : Int32) = 0 from rfl), if_pos (show (0 : Int32) = 0 from rfl)]
          exact ⟨rfl, h⟩
/-- promise 14 -/
theorem sb_undo (h : RB S1 S2) (hJ : JC S1) : (F_X9_undo S1).1 = (F_X10_undo S2).1 ∧ RB (F_X9_undo S1).2 (F_X10_undo S2).2 := by
  obtain ⟨a, f, w, p, i, s⟩ := h
  by_cases q : S2.1 0 5 = 0
  · obtain ⟨e1, e2⟩ := un_no p q
    rw [e1, e2]
    exact ⟨rfl, a, f, w, p, i, s⟩
  · obtain ⟨r1, f', w', p', ⟨c1, c2⟩, m1, m0, m2⟩ := un_ok p q
    refine ⟨r1, ?_⟩
    generalize (F_X9_undo S1).2 = U1 at *
    generalize (F_X10_undo S2).2 = U2 at *
    have e1 : U2.1 1 0 = S2.1 1 0 := by rw [m1 1 (by omega) (by omega)]
    unfold RB
    rw [e1]
    refine ⟨RA_G a hJ ⟨fun b hb => c1 b (by have z := LG1_a b hb; omega) (by revert b; decide), c2⟩ ⟨fun b hb => m1 b (by revert b; decide) (by revert b; decide), fun j hj => m0 j (by revert j; decide)⟩, Fq_of f', w', p', Im_G i (fun b h1 h2 => c1 b (by omega) (by omega)) (m1 6 (by omega) (by omega)), ?_⟩
    unfold Se
    rw [c1 128 (by omega) (by omega), m2]
    exact s
end RBs
/-! ===== the relation kept: texts, entries; parish, images, seed ===== -/
section RB2
variable {P : Int32} {S1 S2 U1 U2 : mm_S} {x y z v1 v2 : Int32}
abbrev LA1 : List Nat := List.range' 15 5 ++ List.range' 25 104 ++ List.range' 151 12
theorem LA1_in {b : Nat} (h : (15 ≤ b ∧ b ≤ 19) ∨ (25 ≤ b ∧ b ≤ 128) ∨ (151 ≤ b ∧ b ≤ 162)) : b ∈ LA1 := by
  rcases h with h | h | h
  · exact List.mem_append_left _ (List.mem_append_left _ (List.mem_range'_1.mpr ⟨h.1, by omega⟩))
  · exact List.mem_append_left _ (List.mem_append_right _ (List.mem_range'_1.mpr ⟨h.1, by omega⟩))
  · exact List.mem_append_right _ (List.mem_range'_1.mpr ⟨h.1, by omega⟩)
theorem RB_A (h : RB S1 S2) (a' : RA U1 U2) (c : ∀ b, (15 ≤ b ∧ b ≤ 19) ∨ (25 ≤ b ∧ b ≤ 128) ∨ (151 ≤ b ∧ b ≤ 162) → U1.1 b = S1.1 b) (m : ∀ b, b = 1 ∨ b = 3 ∨ b = 5 ∨ b = 6 → U2.1 b = S2.1 b) (m0 : U2.1 0 5 = S2.1 0 5) (m2 : U2.2 = S2.2) : RB U1 U2 := by
  obtain ⟨a, f, w, p, i, s⟩ := h
  unfold RB
  rw [m 1 (by omega)]
  refine ⟨a', Fq_row f (c 15 (by omega)) (c 16 (by omega)) (c 17 (by omega)) (c 18 (by omega)) (c 19 (by omega)) (m 3 (by omega)), Wf_row w (m 3 (by omega)), Pa_G p (fun b h1 h2 => c b (by omega)) (m 5 (by omega)) m0, Im_G i (fun b h1 h2 => c b (by omega)) (m 6 (by omega)), ?_⟩
  unfold Se
  rw [c 128 (by omega), m2]
  exact s
theorem frB_A {wr wf wr2 wf2 : List Nat} {m m' : Bool} (h : RB S1 S2) (a' : RA U1 U2) (f1 : fr wr wf true m S1 U1) (f2 : fr wr2 wf2 true m' S2 U2) (h1 : ∀ b ∈ LA1, b ∉ wr ∧ b ≠ 0) (h2 : ∀ b ∈ [1, 3, 5, 6], b ∉ wr2 ∧ b ≠ 0) (h3 : 5 ∉ wf2) : RB U1 U2 :=
  RB_A h a' (fun b hb => funext fun j => f1.1 b j (h1 b (LA1_in hb)).1 (h1 b (LA1_in hb)).2) (fun b hb => funext fun j => f2.1 b j (h2 b (by rcases hb with rfl | rfl | rfl | rfl <;> decide)).1 (h2 b (by rcases hb with rfl | rfl | rfl | rfl <;> decide)).2) (f2.2.1 5 h3) (f2.2.2.1 rfl)
/-! parish -/
theorem alT : ∀ p : Fin 8, mm_b 0 127 ((1 : Int32) <<< (nI p.val &&& 31) - 1) ∧ ∀ i : Fin 7, (bt ((1 : Int32) <<< (nI p.val &&& 31) - 1) i.val ↔ i.val < p.val) := by decide +kernel
theorem al7 {p : Int32} (h : mm_b 0 7 p) : mm_b 0 127 ((1 : Int32) <<< (p &&& 31) - 1) ∧ ∀ i, i < 7 → (bt ((1 : Int32) <<< (p &&& 31) - 1) i ↔ (i : Int) < p.toInt) := by
  obtain ⟨j, rfl, hj⟩ := bd_nI h.1
  have t := alT ⟨j, by omega⟩
  refine ⟨t.1, fun i hi => ?_⟩
  have := t.2 ⟨i, hi⟩
  rw [this]
  dsimp only
  omega
theorem Pa_0 (c0 : U1.1 25 0 = 0) (c1 : U1.1 25 1 = 0) (m0 : U2.1 0 5 = 0) : Pa P U1 U2 := ⟨0, 0, c0, c1, m0, by omega, by omega, fun k hk => by omega⟩
theorem pB_ok (h : RA S1 S2) (hJ : JC S1) {C1 C2 : mm_S} {c' m' q' b' s' g' v' w' : Int32} (hB : Bs (S1.2.2 0 2) (S1.1 2) (S1.1 1 0) S1 (mm_up S2 0 11 (-1)) C1 C2) (D : Dr (S1.2.2 0 2) C1 C2) (hM : JM (F_X10_parish_L23ttu87 (mm_up (td C2 q' b' s' g' v' w') 0 10 0)).2) (hs : Se S1 S2) :
    Fk15 ((F_X10_parish_L23ttu87 (mm_up (td C2 q' b' s' g' v' w') 0 10 0)).2.1 1 0) (F_X9_parish_c11 1 (rd (mm_up C1 1 0 0) 0 (-1) c' m')).2 (F_X10_parish_L23ttu87 (mm_up (td C2 q' b' s' g' v' w') 0 10 0)).2 ∧ Wf 3 ((F_X10_parish_L23ttu87 (mm_up (td C2 q' b' s' g' v' w') 0 10 0)).2.1 1 0) (F_X10_parish_L23ttu87 (mm_up (td C2 q' b' s' g' v' w') 0 10 0)).2 ∧ (∀ P, Pa P (F_X9_parish_c11 1 (rd (mm_up C1 1 0 0) 0 (-1) c' m')).2 (F_X10_parish_L23ttu87 (mm_up (td C2 q' b' s' g' v' w') 0 10 0)).2) ∧ (∀ P, Im P (F_X9_parish_c11 1 (rd (mm_up C1 1 0 0) 0 (-1) c' m')).2 (F_X10_parish_L23ttu87 (mm_up (td C2 q' b' s' g' v' w') 0 10 0)).2) ∧ Se (F_X9_parish_c11 1 (rd (mm_up C1 1 0 0) 0 (-1) c' m')).2 (F_X10_parish_L23ttu87 (mm_up (td C2 q' b' s' g' v' w') 0 10 0)).2 := by
  obtain ⟨⟨k1, k2⟩, ⟨k3, k4⟩, -, -, -, -⟩ := hB
  have hd := pa_in (JRC_2 hJ)
  generalize hR : rd (mm_up C1 1 0 0) 0 (-1) c' m' = R
  have r2 : R.2 = S1.2 := by rw [← hR]; exact k2
  have r1 : ∀ b, b ≠ 1 → R.1 b = C1.1 b := fun b h1 => by rw [← hR, rd_row h1, up_row h1]
  generalize hd2 : S1.2.2 0 2 = d at *
  generalize hW : mm_upR (mm_upR R 0 1 (R.2.2 0 2)) 0 2 (R.2.2 0 1) = W
  have w1 : W.1 = R.1 := by rw [← hW]; rfl
  have w01 : W.2.2 0 1 = d := by rw [← hW]; show R.2.2 0 2 = d; rw [r2, hd2]
  have hp0 : W.1 d 0 = C2.1 2 0 := by rw [w1, r1 d (by omega)]; exact D.1.1
  obtain ⟨⟨b1, b2⟩, ⟨e2, e0, ed⟩, b3⟩ := bg_c (S := W) (a := d) (by omega) (by rw [hp0]; exact D.2.1.1)
  have ec : (F_X9_parish_c11 1 R).2 = mm_up (mm_up (F_X7_forget (F_X2_clear_135 (F_X2_clear_132 (F_X2_clear_129 (F_X3_begin W d))))) 151 0 0) 157 0 0 := by
    rw [F_X9_parish_c11, if_neg one0, hW, w01, F_X9_parish_c11tu51, F_X9_parish_c11tu51c54, F_X9_parish_c11tu51c54c61, F_X9_parish_c11tu51c54c61c68, F_X9_parish_c11tu51c54c61c68c75, F_X9_parish_c11tu51c54c61c68c75c82, L84]
  rw [ec]
  generalize hU : mm_up (mm_up (F_X7_forget (F_X2_clear_135 (F_X2_clear_132 (F_X2_clear_129 (F_X3_begin W d))))) 151 0 0) 157 0 0 = U1
  have u1 : ∀ b, b < 20 ∨ b = 128 → U1.1 b = (F_X3_begin W d).1 b := fun b hb => by
    rw [← hU, F_X7_forget, F_X2_clear_135, F_X2_clear_132, F_X2_clear_129, up_row (by omega), up_row (by omega), up_row (by omega), up_row (by omega), up_row (by omega), up_row (by omega), up_row (by omega)]
  have u25 : U1.1 25 0 = 0 ∧ U1.1 25 1 = 0 ∧ U1.1 151 0 = 0 ∧ U1.1 157 0 = 0 := by
    rw [← hU, F_X7_forget]
    refine ⟨?_, ?_, ?_, ?_⟩
    · rw [up_ne (by omega), up_ne (by omega), up_ne (by omega), up_at]
    · rw [up_ne (by omega), up_ne (by omega), up_at]
    · rw [up_ne (by omega), up_at]
    · rw [up_at]
  rw [F_X10_parish_L23ttu87, F_X10_parish_L23ttu87c90, F_X10_parish_L23ttu87c90c94] at hM ⊢
  generalize hT : mm_up (td C2 q' b' s' g' v' w') 0 10 0 = T at *
  generalize hC : F_X10_copies_21 T 0 0 37 = C at *
  obtain ⟨⟨n1, n2⟩, ⟨n0, n5, -, -, -⟩, -, ⟨n28, n29⟩, n3⟩ := bg_m (S := C)
  have t1 : ∀ b, b ≠ 0 → T.1 b = C2.1 b := fun b h0 => by rw [← hT, up_row h0, td_row h0]
  have c1 : ∀ i, i < 37 → C.1 1 i = C2.1 2 i := fun i hi => by
    rw [← hC]
    show (if 1 = 1 ∧ (0 : Int32).toNatClampNeg ≤ i ∧ i < (0 : Int32).toNatClampNeg + (37 : Int32).toNatClampNeg then T.1 2 ((0 : Int32).toNatClampNeg + (i - (0 : Int32).toNatClampNeg)) else T.1 1 i) = _
    rw [show (0 : Int32).toNatClampNeg = 0 by decide, show (37 : Int32).toNatClampNeg = 37 by decide, if_pos (by omega), t1 2 (by omega), show 0 + (i - 0) = i by omega]
  have cS : C.2 = S2.2 := by
    rw [← hC]
    show T.2 = S2.2
    rw [← hT, up_2]
    show C2.2 = S2.2
    rw [k4, up_2]
  have hM2 : JM (F_X10_begins C) := hM
  clear hM
  generalize F_X10_begins C = U2 at *
  show Fk15 (U2.1 1 0) U1 U2 ∧ Wf 3 (U2.1 1 0) U2 ∧ (∀ P, Pa P U1 U2) ∧ (∀ P, Im P U1 U2) ∧ Se U1 U2
  have v1 : ∀ i, i < 37 → U2.1 1 i = C2.1 2 i := fun i hi => by rw [n1 1 (by omega) (by omega) (by omega), c1 i hi]
  obtain ⟨⟨d1, d2, d3, d4⟩, ⟨d5, d6, d7⟩, d8, d9, d10, d11⟩ := D
  have p0 : U2.1 1 0 = C2.1 2 0 := v1 0 (by omega)
  rw [p0]
  have c10 : C.1 1 0 = C2.1 2 0 := c1 0 (by omega)
  -- a person's first voice
  have wr : ∀ b, b ≠ 1 → W.1 b = C1.1 b := fun b h1 => by rw [w1, r1 b h1]
  have hpn : ∀ i, i < 7 → F_X6_hasPerson W d (nI i) = if C2.1 2 0 ≤ nI i then 0 else 1 := fun i hi => by
    have ti : (nI i).toInt = i := nI_toInt (by omega)
    have n0 : ¬ nI i < 0 := fun q => by have : (nI i).toInt < 0 := Int32.lt_iff_toInt_lt.mp q; omega
    rw [F_X6_hasPerson, hp0, if_neg n0]
  have key : ∀ i, i < 7 → bgV d W i = bgW C i ∧ F_X6_firstToldHeir W d (nI i) = C.1 1 (10 + i) ∧ F_X6_secondToldHeir W d (nI i) = C.1 1 (17 + i) := fun i hi => by
    have ti : (nI i).toInt = i := nI_toInt (by omega)
    have ci : (nI i).toNatClampNeg = i := nI_c (by omega)
    rw [bgV, bgW, F_X6_hasVoice, F_X6_rangeOf, F_X6_firstToldHeir, F_X6_secondToldHeir, hpn i hi, ci, c1 (3 + i) (by omega), c1 (10 + i) (by omega), c1 (17 + i) (by omega), wr (d + 1) (by omega), wr (d + 2) (by omega), wr (d + 3) (by omega)]
    by_cases q : C2.1 2 0 ≤ nI i
    · have q2 := Int32.le_iff_toInt_le.mp q
      obtain ⟨z1, z2, z3⟩ := d9 i hi (by omega)
      rw [if_pos q, if_pos (show (0 : Int32) = 0 from rfl), if_pos (show (0 : Int32) = 0 from rfl), if_pos (show (0 : Int32) = 0 from rfl), if_pos (show (9 : Int32) = 9 from rfl), if_pos (show (0 : Int32) = 0 from rfl), z1, z2, z3, if_pos (show (9 : Int32) = 9 from rfl)]
      exact ⟨rfl, rfl, rfl⟩
    · have q2 := Int32.lt_iff_toInt_lt.mp (bd_nle q)
      obtain ⟨z1, z2, z3⟩ := d8 i (by omega)
      rw [if_neg q, if_neg one0, if_neg one0, if_neg one0, z1, z2, z3]
      refine ⟨?_, rfl, rfl⟩
      by_cases e : C2.1 2 (3 + i) = 9
      · rw [if_pos e, if_pos e, if_pos (show (0 : Int32) = 0 from rfl)]
      · rw [if_neg e, if_neg e, if_neg one0]
  obtain ⟨a7, a7b⟩ := al7 d5
  have bM : ∀ k, 14 ≤ k → k ≤ 27 → mm_b 0 9 (U2.1 3 k) := fun k h1 h2 => JIM_fld (j := k) (l := 14) (u := 27) hM2 rfl (by decide +kernel) ⟨h1, h2⟩
  refine ⟨⟨?_, ?_, ?_, fun i hi => ?_⟩, ⟨?_, ?_, fun i hi => ?_⟩, fun P => Pa_0 u25.1 u25.2.1 n5, fun P => ⟨fun q => absurd u25.2.2.1 q, fun q => absurd u25.2.2.2 q⟩, ?_⟩
  · rw [u1 15 (by omega), e0, hp0, n28, c10]
  · rw [u1 15 (by omega), ed, n29]
  · rw [u1 15 (by omega), e2, hp0]
  · obtain ⟨x1, x2, x3, x4⟩ := b3 i hi
    obtain ⟨y1, y2, y3, y4⟩ := n3 i hi
    obtain ⟨k1', k2', k3'⟩ := key i hi
    rw [u1 16 (by omega), u1 17 (by omega), u1 18 (by omega), u1 19 (by omega), x1, x2, x3, x4, y1, y2, y3, y4, k1', k2', k3']
    exact ⟨rfl, rfl, rfl, rfl⟩
  · rw [n28, c10]; exact a7
  · rw [n28, c10]
    exact fun i hi z => (a7b i hi).mp z
  · obtain ⟨y1, y2, y3, y4⟩ := n3 i hi
    have ti : (nI i).toInt = i := nI_toInt (by omega)
    refine ⟨?_, ?_, ?_, bM (14 + i) (by omega) (by omega), bM (21 + i) (by omega) (by omega)⟩
    · rw [y1, bgW]
      split
      · exact Or.inl rfl
      · exact Or.inr ⟨by omega, by omega⟩
    · rw [y2]; decide
    · rw [n28, c10, y1, y2, bgW, c1 (3 + i) (by omega)]
      intro z
      have z0 : (C2.1 2 0).toInt ≤ (i : Int) := by
        rcases Int.lt_or_le (i : Int) (C2.1 2 0).toInt with q | q
        · exact absurd ((a7b i hi).mpr q) z
        · exact q
      have z1 := (d9 i hi z0).1
      exact ⟨by rw [if_pos z1], rfl⟩
  · unfold Se
    rw [u1 128 (by omega), b1 128 (by omega) (by omega) (by omega) (by omega) (by omega), wr 128 (by omega), k1 128 (by omega), n2, cS]
    exact hs
theorem sb_parish (h : RB S1 S2) (hJ : JC S1) (e1 : F_X9_parish S1 = (v1, U1)) (e2 : F_X10_parish S2 = (v2, U2)) (hM : JM U2) : v1 = v2 ∧ RB U1 U2 := by
  have ra := st_of (R := RA) e1 e2 (st_parish h.1 hJ)
  refine ⟨ra.1, ?_⟩
  have hd := pa_in (JRC_2 hJ)
  have hn : pz_p (S1.1 1 0) := JIC_fld hJ rfl tbC_0 (by decide)
  have ht : ∀ j : Nat, j < 240 → 0 ≤ (S1.1 2 j).toInt := fun j hj => (JIC_fld (j := j) hJ rfl tbC_2 ⟨by omega, by omega⟩).1
  rw [F_X9_parish] at e1
  rcases parse (a := S1.2.2 0 2) (by omega) h.1.1.1 h.1.1.2.1 hn ht with ⟨C1, C2, c', m', q', b', s', g', v', w', e3, e4, D, hB⟩ | ⟨C1, C2, k, c', m', q', b', s', g', v', e3, e4, hk, hB⟩
  · rw [e3] at e1
    rw [e4] at e2
    have z := pB_ok (c' := c') (m' := m') (q' := q') (b' := b') (s' := s') (g' := g') (v' := v') (w' := w') h.1 hJ hB D (by rw [e2]; exact hM) h.2.2.2.2.2
    rw [e2] at z
    have e5 : (F_X9_parish_c11 1 (rd (mm_up C1 1 0 0) 0 (-1) c' m')).2 = U1 := congrArg Prod.snd e1
    rw [e5] at z
    exact ⟨ra.2, Fq_of z.1, z.2.1, z.2.2.1 _, z.2.2.2.1 _, z.2.2.2.2⟩
  · rw [e3] at e1
    rw [e4] at e2
    have e5 : rd (mm_up C1 1 0 0) k b' c' m' = U1 := by
      have : F_X9_parish_c11 0 (rd (mm_up C1 1 0 0) k b' c' m') = (v1, U1) := e1
      rw [F_X9_parish_c11, if_pos (show (0 : Int32) = 0 from rfl)] at this
      exact congrArg Prod.snd this
    have e6 : mm_up (mm_up (td C2 q' b' s' g' v' k) 0 10 0) 0 11 b' = U2 := congrArg Prod.snd e2
    obtain ⟨⟨k1, k2⟩, ⟨k3, k4⟩, -, -, -, -⟩ := hB
    refine RB_A h ra.2 (fun b hb => ?_) (fun b hb => ?_) ?_ ?_
    · rw [← e5, rd_row (by omega), up_row (by omega), k1 b (by omega)]
    · rw [← e6, up_row (by omega), up_row (by omega), td_row (by omega), k3 b (by omega), up_row (by omega)]
    · rw [← e6, up_ne (by omega), up_ne (by omega)]
      show C2.1 0 5 = _
      rw [k3 0 (by omega), up_ne (by omega)]
    · rw [← e6, up_2, up_2]
      show C2.2 = _
      rw [k4, up_2]
end RB2
theorem RB_eq {S1 S2 U1 U2 : mm_S} (h : RB S1 S2) (e1 : S1 = U1) (e2 : S2 = U2) : RB U1 U2 := by rw [← e1, ← e2]; exact h
/-! ===== the relation kept: images, seed ===== -/
section RB3
variable {P : Int32} {S1 S2 U1 U2 : mm_S} {x y z v1 v2 : Int32}
theorem upLat {S : mm_S} {a j : Nat} {v : Int64} : (mm_upL S a j v).2.1 a j = v := by
  show (if a = a ∧ j = j then v else S.2.1 a j) = v
  exact if_pos ⟨rfl, rfl⟩
theorem se_32 (h : Se S1 S2) : (S2.2.1 0 8).toInt32 = S1.1 128 0 := by
  have r := bd_rng (S1.1 128 0)
  unfold Se at h
  exact Int32.toInt_inj.mp (by rw [Int64.toInt_toInt32, ← h, bd_bmod (by omega) (by omega)])
theorem im_x (q : mm_b 0 1 x) : ∃ i o : Nat, imgF x = i ∧ ((31 : Int32) * x).toNatClampNeg = o ∧ ((31 : Int32) * x + 30).toNatClampNeg = o + 30 ∧ ((i = 151 ∧ o = 0 ∧ x.toNatClampNeg = 0) ∨ (i = 157 ∧ o = 31 ∧ x.toNatClampNeg = 1)) := by
  rcases img_v q with ⟨hx, hi⟩ | ⟨hx, hi⟩
  · exact ⟨151, 0, hi, by rw [hx]; decide, by rw [hx]; decide, Or.inl ⟨rfl, rfl, by rw [hx]; decide⟩⟩
  · exact ⟨157, 31, hi, by rw [hx]; decide, by rw [hx]; decide, Or.inr ⟨rfl, rfl, by rw [hx]; decide⟩⟩
/-- promise 30 -/
theorem sb_keep (h : RB S1 S2) (hJ : JC S1) : (F_X9_keep S1 x).1 = (F_X10_keep S2 x).1 ∧ RB (F_X9_keep S1 x).2 (F_X10_keep S2 x).2 := by
  have ra := st_keep (x := x) h.1 hJ
  refine ⟨ra.1, ?_⟩
  have ra2 := ra.2
  clear ra
  obtain ⟨a, f, w, p, im, se⟩ := h
  rw [F_X9_keep, F_X10_keep, in01] at ra2 ⊢
  by_cases q : mm_b 0 1 x
  · rw [if_pos q, if_pos q, if_neg one0, F_X9_keep_ic24, F_X9_keep_ic24u44, F_X9_keep_ic24u44c47, F_X7_forget, F_X10_keep_tc31] at ra2 ⊢
    obtain ⟨i, o, hi, ho, ho2, hio⟩ := im_x q
    rw [hi, ho2] at ra2 ⊢
    generalize hc : F_X10_copies_36 S2 0 (31 * x) 30 = C2 at ra2 ⊢
    have cF : ∀ b j, C2.1 b j = if b = 6 ∧ o ≤ j ∧ j < o + 30 then S2.1 3 (j - o) else S2.1 b j := fun b j => by
      rw [← hc]
      show (if b = 6 ∧ ((31 : Int32) * x).toNatClampNeg ≤ j ∧ j < ((31 : Int32) * x).toNatClampNeg + (30 : Int32).toNatClampNeg then S2.1 3 ((0 : Int32).toNatClampNeg + (j - ((31 : Int32) * x).toNatClampNeg)) else S2.1 b j) = _
      rw [ho, show (0 : Int32).toNatClampNeg = 0 by decide, show (30 : Int32).toNatClampNeg = 30 by decide, Nat.zero_add]
    have c2 : C2.2 = S2.2 := by rw [← hc]; rfl
    obtain ⟨⟨k1, k2⟩, -, -⟩ := cp_c (S := S1) (a := i + 1) (c := 15) (by omega)
    have s1 : (F_X3_copy S1 (i + 1) 15).1 128 0 = S1.1 128 0 := by rw [k1 128 (by omega) (by omega) (by omega) (by omega) (by omega)]
    have s2 : (C2.2.1 0 8).toInt32 = S1.1 128 0 := by rw [c2]; exact se_32 se
    rw [s1, s2] at ra2 ⊢
    generalize hU1 : mm_up (mm_up (mm_up (mm_up (F_X3_copy S1 (i + 1) 15) i 1 (S1.1 128 0)) i 0 1) 25 0 0) 25 1 0 = U1 at ra2 ⊢
    generalize hU2 : mm_up (mm_up (mm_up C2 6 (o + 30) (S1.1 128 0)) 7 x.toNatClampNeg 1) 0 5 0 = U2 at ra2 ⊢
    have ra3 : RA U1 U2 := ra2
    clear ra2
    show RB U1 U2
    have m : ∀ b, b ≠ 0 → b ≠ 6 → b ≠ 7 → U2.1 b = S2.1 b := fun b h0 h6 h7 => by
      rw [← hU2, up_row h0, up_row h7, up_row h6]
      funext j
      rw [cF, if_neg (fun z => h6 z.1)]
    have c : ∀ b, ¬ (i ≤ b ∧ b ≤ i + 5) → b ≠ 25 → U1.1 b = S1.1 b := fun b h1 h2 => by
      rw [← hU1, up_row h2, up_row h2, up_row (by omega), up_row (by omega), k1 b (by omega) (by omega) (by omega) (by omega) (by omega)]
    have cg : ∀ b, i + 1 ≤ b → b ≤ i + 1 + 4 → U1.1 b = (F_X3_copy S1 (i + 1) 15).1 b := fun b h1 h2 => by
      rw [← hU1, up_row (by omega), up_row (by omega), up_row (by omega), up_row (by omega)]
    have ci : U1.1 i 1 = S1.1 128 0 := by rw [← hU1, up_ne (by omega), up_ne (by omega), up_ne (by omega), up_at]
    have m6 : ∀ j, U2.1 6 j = if j = o + 30 then S1.1 128 0 else if o ≤ j ∧ j < o + 30 then S2.1 3 (j - o) else S2.1 6 j := fun j => by
      rw [← hU2, up_ne (by omega), up_ne (by omega)]
      by_cases e : j = o + 30
      · rw [if_pos e, e, up_at]
      · rw [if_neg e, up_ne (by omega), cF]
        by_cases e2 : o ≤ j ∧ j < o + 30
        · rw [if_pos e2, if_pos ⟨rfl, e2⟩]
        · rw [if_neg e2, if_neg (fun z => e2 z.2)]
    have u25 : U1.1 25 0 = 0 ∧ U1.1 25 1 = 0 ∧ U2.1 0 5 = 0 := by
      rw [← hU1, ← hU2]
      refine ⟨?_, ?_, ?_⟩
      · rw [up_ne (by omega), up_at]
      · rw [up_at]
      · rw [up_at]
    have sE : Se U1 U2 := by
      unfold Se
      rw [c 128 (by omega) (by omega), ← hU2, up_2, up_2, up_2, c2]
      exact se
    clear hU1 hU2
    unfold RB
    rw [m 1 (by omega) (by omega) (by omega)]
    refine ⟨ra3, Fq_row f (c 15 (by omega) (by omega)) (c 16 (by omega) (by omega)) (c 17 (by omega) (by omega)) (c 18 (by omega) (by omega)) (c 19 (by omega) (by omega)) (m 3 (by omega) (by omega) (by omega)), Wf_row w (m 3 (by omega) (by omega) (by omega)), Pa_0 u25.1 u25.2.1 u25.2.2, ?_, sE⟩
    have mI : ∀ j, j < 30 → U2.1 6 (o + j) = S2.1 3 j := fun j hj => by rw [m6, if_neg (by omega), if_pos (by omega), show o + j - o = j by omega]
    have mE : U2.1 6 (o + 30) = S1.1 128 0 := by rw [m6, if_pos rfl]
    have mO : ∀ j, j < o ∨ o + 30 < j → U2.1 6 j = S2.1 6 j := fun j hj => by rw [m6, if_neg (by omega), if_neg (by omega)]
    have im1 : FqO (i + 1) 6 o (S2.1 1 0) U1 U2 ∧ WfO 6 o (S2.1 1 0) U2 ∧ U1.1 i 1 = U2.1 6 (o + 30) := ⟨FqO_in f (by omega) mI cg, WfO_in w mI, ci.trans mE.symm⟩
    rcases hio with ⟨rfl, rfl, -⟩ | ⟨rfl, rfl, -⟩
    · refine ⟨fun _ => im1, fun z => ?_⟩
      rw [c 157 (by omega) (by omega)] at z ⊢
      obtain ⟨f2, w2, e2⟩ := im.2 z
      exact ⟨FqO_mv f2 (fun b g1 g2 => c b (by omega) (by omega)) (fun j hj => mO _ (by omega)), WfO_mv w2 (fun j hj => mO _ (by omega)), by rw [mO 61 (by omega)]; exact e2⟩
    · refine ⟨fun z => ?_, fun _ => im1⟩
      rw [c 151 (by omega) (by omega)] at z ⊢
      obtain ⟨f2, w2, e2⟩ := im.1 z
      exact ⟨FqO_mv f2 (fun b g1 g2 => c b (by omega) (by omega)) (fun j hj => mO _ (by omega)), WfO_mv w2 (fun j hj => mO _ (by omega)), by rw [mO 30 (by omega)]; exact e2⟩
  · rw [if_neg q, if_neg q, if_pos (show (0 : Int32) = 0 from rfl)]
    exact ⟨a, f, w, p, im, se⟩
/-- promise 31 -/
theorem sb_goBack (h : RB S1 S2) (hJ : JC S1) : (F_X9_goBack S1 x).1 = (F_X10_goBack S2 x).1 ∧ RB (F_X9_goBack S1 x).2 (F_X10_goBack S2 x).2 := by
  refine ⟨an_goBack h.1, ?_⟩
  obtain ⟨a, f, w, p, im, se⟩ := h
  rw [F_X9_goBack, F_X10_goBack, in01]
  by_cases q : mm_b 0 1 x
  · obtain ⟨i, o, hi, ho, ho2, hio⟩ := im_x q
    have e7 : S1.1 i 0 = S2.1 7 x.toNatClampNeg := by
      rcases hio with ⟨rfl, rfl, e⟩ | ⟨rfl, rfl, e⟩
      · rw [e]; exact a.2.2.2.1.1
      · rw [e]; exact a.2.2.2.1.2
    rw [if_pos q, if_pos q, if_neg one0, hi, e7]
    by_cases z : S2.1 7 x.toNatClampNeg = 0
    · rw [if_pos z, if_pos z]
      exact ⟨a, f, w, p, im, se⟩
    · rw [if_neg z, if_neg z, F_X9_goBack_itc34, F_X9_goBack_itc34u49, F_X9_goBack_itc34u49c52, F_X7_forget, F_X10_goBack_ttc43, ho2]
      have imx : FqO (i + 1) 6 o (S2.1 1 0) S1 S2 ∧ WfO 6 o (S2.1 1 0) S2 ∧ S1.1 i 1 = S2.1 6 (o + 30) := by
        rcases hio with ⟨rfl, rfl, e⟩ | ⟨rfl, rfl, e⟩
        · exact im.1 (by rw [e7]; exact z)
        · exact im.2 (by rw [e7]; exact z)
      obtain ⟨fI, wI, eI⟩ := imx
      have i1 : 151 ≤ i := by omega
      have i2 : i ≤ 157 := by omega
      generalize hc : F_X10_copies_63 S2 (31 * x) 0 30 = C2
      have cF : ∀ b j, C2.1 b j = if b = 3 ∧ j < 30 then S2.1 6 (o + j) else S2.1 b j := fun b j => by
        rw [← hc]
        show (if b = 3 ∧ (0 : Int32).toNatClampNeg ≤ j ∧ j < (0 : Int32).toNatClampNeg + (30 : Int32).toNatClampNeg then S2.1 6 (((31 : Int32) * x).toNatClampNeg + (j - (0 : Int32).toNatClampNeg)) else S2.1 b j) = _
        rw [ho, show (0 : Int32).toNatClampNeg = 0 by decide, show (30 : Int32).toNatClampNeg = 30 by decide]
        by_cases e : b = 3 ∧ j < 30
        · rw [if_pos e, if_pos (by omega), show j - 0 = j by omega]
        · rw [if_neg e, if_neg (by omega)]
      have c2 : C2.2 = S2.2 := by rw [← hc]; rfl
      obtain ⟨⟨k1, k2⟩, -, -⟩ := cp_c (S := S1) (a := 15) (c := i + 1) (by omega)
      have s1 : (F_X3_copy S1 15 (i + 1)).1 i 1 = S2.1 6 (o + 30) := by rw [k1 i (by omega) (by omega) (by omega) (by omega) (by omega)]; exact eI
      have s2 : C2.1 6 (o + 30) = S2.1 6 (o + 30) := by rw [cF, if_neg (by omega)]
      rw [s1, s2]
      generalize hU1 : mm_up (mm_up (mm_up (F_X3_copy S1 15 (i + 1)) 128 0 (S2.1 6 (o + 30))) 25 0 0) 25 1 0 = U1
      generalize hU2 : mm_up (mm_upL C2 0 8 (S2.1 6 (o + 30)).toInt64) 0 5 0 = U2
      show RB U1 U2
      have m : ∀ b, b ≠ 0 → b ≠ 3 → U2.1 b = S2.1 b := fun b h0 h3 => by
        rw [← hU2, up_row h0]
        funext j
        show C2.1 b j = _
        rw [cF, if_neg (fun z => h3 z.1)]
      have m0 : ∀ j, j ≠ 5 → U2.1 0 j = S2.1 0 j := fun j hj => by
        rw [← hU2, up_ne (by omega)]
        show C2.1 0 j = _
        rw [cF, if_neg (by omega)]
      have m3 : ∀ j, j < 30 → U2.1 3 j = S2.1 6 (o + j) := fun j hj => by
        rw [← hU2, up_ne (by omega)]
        show C2.1 3 j = _
        rw [cF, if_pos ⟨rfl, hj⟩]
      have c : ∀ b, ¬ (15 ≤ b ∧ b ≤ 19) → b ≠ 25 → b ≠ 128 → U1.1 b = S1.1 b := fun b h1 h2 h3 => by
        rw [← hU1, up_row h2, up_row h2, up_row h3, k1 b (by omega) (by omega) (by omega) (by omega) (by omega)]
      have cg : ∀ b, 15 ≤ b → b ≤ 19 → U1.1 b = (F_X3_copy S1 15 (i + 1)).1 b := fun b h1 h2 => by
        rw [← hU1, up_row (by omega), up_row (by omega), up_row (by omega)]
      have cr : U1.2 = S1.2 := by rw [← hU1, up_2, up_2, up_2, k2]
      have u25 : U1.1 25 0 = 0 ∧ U1.1 25 1 = 0 ∧ U2.1 0 5 = 0 := by
        rw [← hU1, ← hU2]
        refine ⟨?_, ?_, ?_⟩
        · rw [up_ne (by omega), up_at]
        · rw [up_at]
        · rw [up_at]
      have sE : Se U1 U2 := by
        unfold Se
        have e1 : U1.1 128 0 = S2.1 6 (o + 30) := by rw [← hU1, up_ne (by omega), up_ne (by omega), up_at]
        have e2 : U2.2.1 0 8 = (S2.1 6 (o + 30)).toInt64 := by
          rw [← hU2, up_2]
          exact upLat
        rw [e1, e2, Int32.toInt_toInt64]
      clear hU1 hU2
      unfold RB
      rw [m 1 (by omega) (by omega)]
      exact ⟨RA_G a hJ ⟨fun b hb => c b (by have z := LG1_a b hb; omega) (by revert b; decide) (by revert b; decide), cr⟩ ⟨fun b hb => m b (by revert b; decide) (by revert b; decide), fun j hj => m0 j (by revert j; decide)⟩,
        FqO_out fI (by omega) m3 cg, WfO_out wI m3, Pa_0 u25.1 u25.2.1 u25.2.2, Im_G im (fun b h1 h2 => c b (by omega) (by omega) (by omega)) (m 6 (by omega) (by omega)), sE⟩
  · rw [if_neg q, if_neg q, if_pos (show (0 : Int32) = 0 from rfl)]
    exact ⟨a, f, w, p, im, se⟩
/-- promise 29 -/
theorem sb_seed (h : RB S1 S2) (hJ : JC S1) : (F_X9_seed S1 x).1 = (F_X10_seed S2 x).1 ∧ RB (F_X9_seed S1 x).2 (F_X10_seed S2 x).2 := by
  have e32 := se_32 h.2.2.2.2.2
  rw [F_X9_seed, F_X10_seed]
  by_cases q : (0 : Int32) ≤ x
  · rw [if_pos q, if_pos q]
    refine ⟨e32.symm, ?_⟩
    obtain ⟨a, f, w, p, im, se⟩ := h
    show RB (mm_up S1 128 0 x) (mm_upL S2 0 8 x.toInt64)
    have c : ∀ b, b ≠ 128 → (mm_up S1 128 0 x).1 b = S1.1 b := fun b hb => up_row hb
    have m : (mm_upL S2 0 8 x.toInt64).1 = S2.1 := rfl
    have sE : Se (mm_up S1 128 0 x) (mm_upL S2 0 8 x.toInt64) := by
      unfold Se
      have e2 : (mm_upL S2 0 8 x.toInt64).2.1 0 8 = x.toInt64 := upLat
      rw [up_at, e2, Int32.toInt_toInt64]
    have cr : (mm_up S1 128 0 x).2 = S1.2 := up_2
    generalize mm_up S1 128 0 x = U1 at *
    generalize mm_upL S2 0 8 x.toInt64 = U2 at *
    unfold RB
    rw [m]
    exact ⟨RA_G a hJ ⟨fun b hb => c b (by revert b; decide), cr⟩ ⟨fun b _ => by rw [m], fun j _ => by rw [m]⟩,
      Fq_row f (c 15 (by omega)) (c 16 (by omega)) (c 17 (by omega)) (c 18 (by omega)) (c 19 (by omega)) (by rw [m]), Wf_row w (by rw [m]), Pa_G p (fun b h1 h2 => c b (by omega)) (by rw [m]) (by rw [m]), Im_G im (fun b h1 h2 => c b (by omega)) (by rw [m]), sE⟩
  · rw [if_neg q, if_neg q]
    exact ⟨rfl, h⟩
end RB3
/-! ===== drift ===== -/
section DRF
variable {P : Int32} {S1 S2 U1 U2 V1 V2 : mm_S} {x y z v n : Int32}
theorem bl_ti_div {x y : Int64} (hx : 0 ≤ x.toInt) (hy : 0 < y.toInt) : (x / y).toInt = x.toInt / y.toInt := by
  have r := bl_all x
  obtain ⟨r1, r2⟩ := r
  have g1 : 0 ≤ x.toInt / y.toInt := Int.ediv_nonneg hx (by omega)
  have g2 : x.toInt / y.toInt ≤ x.toInt := Int.ediv_le_self _ hx
  rw [Int64.toInt_div, Int.tdiv_eq_ediv_of_nonneg hx, bl_bmod (by omega) (by omega)]
theorem bl_ti_rem {x y : Int64} (hx : 0 ≤ x.toInt) (hy : 0 < y.toInt) : (x - x / y * y).toInt = x.toInt % y.toInt := by
  have r := bl_all x
  obtain ⟨r1, r2⟩ := r
  have d := bl_ti_div hx hy
  have g : x.toInt / y.toInt * y.toInt ≤ x.toInt := Int.ediv_mul_le _ (by omega)
  have g0 : 0 ≤ x.toInt / y.toInt * y.toInt := Int.mul_nonneg (Int.ediv_nonneg hx (by omega)) (by omega)
  have m : x.toInt % y.toInt = x.toInt - x.toInt / y.toInt * y.toInt := by rw [Int.emod_def, Int.mul_comm]
  have e : (x / y * y).toInt = x.toInt / y.toInt * y.toInt := by
    rw [Int64.toInt_mul, d]
    generalize x.toInt / y.toInt * y.toInt = k at *
    rw [bl_bmod (by omega) (by omega)]
  rw [Int64.toInt_sub, e, m]
  generalize x.toInt / y.toInt * y.toInt = k at *
  rw [bl_bmod (by omega) (by omega)]
/-- both draw the same -/
theorem dr (se : Se S1 S2) (hs : mm_bl 0 2147483647 (S2.2.1 0 8)) (hx : mm_b 1 7 x) : ∃ (v n : Int32), F_X1_next S1 x = (v, mm_up S1 128 0 n) ∧ F_X10_draw S2 x = (v, mm_upL S2 0 8 n.toInt64) ∧ 0 ≤ n.toInt ∧ 0 ≤ v.toInt ∧ v.toInt < x.toInt := by
  have e64 : (S1.1 128 0).toInt64 = S2.2.1 0 8 := Int64.toInt_inj.mp (by rw [Int32.toInt_toInt64]; exact se)
  obtain ⟨x1, x7⟩ := hx
  have np : ¬ x ≤ 0 := fun q => by have : x.toInt ≤ 0 := Int32.le_iff_toInt_le.mp q; omega
  have u : ∀ w, (mm_upL S2 0 8 w).2.1 0 8 = w := fun w => upLat
  rw [F_X1_next, if_neg np, F_X10_draw, e64, u]
  have b1 : mm_bl 0 2369780942852698515 (S2.2.1 0 8 * 1103515245) := bl_mul rfl hs L_1103515245 (by decide)
  have b2 : mm_bl 0 2369780942852710860 (S2.2.1 0 8 * 1103515245 + 12345) := bl_add rfl b1 L_12345 (by decide)
  have b3 : mm_bl 0 2147483647 (S2.2.1 0 8 * 1103515245 + 12345 - (S2.2.1 0 8 * 1103515245 + 12345) / 2147483648 * 2147483648) := bl_rem rfl b2 L_2147483648 (by decide)
  generalize S2.2.1 0 8 * 1103515245 + 12345 - (S2.2.1 0 8 * 1103515245 + 12345) / 2147483648 * 2147483648 = w at *
  obtain ⟨w0, w1⟩ := b3
  have t : w.toInt32.toInt = w.toInt := by rw [Int64.toInt_toInt32, bd_bmod (by omega) (by omega)]
  have n64 : w.toInt32.toInt64 = w := Int64.toInt_inj.mp (by rw [Int32.toInt_toInt64, t])
  have c1 : (65536 : Int64).toInt = 65536 := by decide
  have c2 : (65536 : Int32).toInt = 65536 := by decide
  have d0 : 0 ≤ w.toInt / 65536 := Int.ediv_nonneg w0 (by omega)
  have d1 : (w / 65536).toInt = w.toInt / 65536 := by rw [bl_ti_div w0 (by rw [c1]; omega), c1]
  have d2 : (w.toInt32 / 65536).toInt = w.toInt / 65536 := by rw [bd_ti_div (by omega) (by rw [c2]; omega), c2, t]
  have r0 := Int.emod_nonneg (w.toInt / 65536) (show x.toInt ≠ 0 by omega)
  have r1 := Int.emod_lt_of_pos (w.toInt / 65536) (show 0 < x.toInt by omega)
  have q1 : (w / 65536 - w / 65536 / x.toInt64 * x.toInt64).toInt = w.toInt / 65536 % x.toInt := by rw [bl_ti_rem (by omega) (by rw [Int32.toInt_toInt64]; omega), d1, Int32.toInt_toInt64]
  have q2 : (w.toInt32 / 65536 - w.toInt32 / 65536 / x * x).toInt = w.toInt / 65536 % x.toInt := by rw [bd_ti_rem (by omega), d2]
  have q3 : (w / 65536 - w / 65536 / x.toInt64 * x.toInt64).toInt32 = w.toInt32 / 65536 - w.toInt32 / 65536 / x * x := Int32.toInt_inj.mp (by rw [Int64.toInt_toInt32, q1, q2, bd_bmod (by omega) (by omega)])
  exact ⟨_, w.toInt32, rfl, by rw [n64, q3], by rw [t]; exact w0, by rw [q2]; exact r0, by rw [q2]; exact r1⟩
/-- the years so far: beside the state in which they began -/
def Yr (P : Int32) (S1 S2 U1 U2 : mm_S) : Prop := (Fk15 P U1 U2 ∧ Wf 3 P U2) ∧ (Se U1 U2 ∧ mm_bl 0 2147483647 (U2.2.1 0 8)) ∧ (∀ b, (b < 15 ∨ 19 < b) → b ≠ 128 → U1.1 b = S1.1 b) ∧ U1.2 = S1.2 ∧ ∀ b, b ≠ 3 → U2.1 b = S2.1 b
theorem Yr_sm (h : Yr P S1 S2 U1 U2) (s : Sm15 P U1 U2 V1 V2) : Yr P S1 S2 V1 V2 := by
  obtain ⟨-, ⟨a1, a2⟩, a3, a4, a5⟩ := h
  obtain ⟨f', w', ⟨g1, g2⟩, g3, g4⟩ := s
  refine ⟨⟨f', w'⟩, ⟨?_, by rw [g4]; exact a2⟩, fun b h1 h2 => by rw [g1 b h1]; exact a3 b h1 h2, by rw [g2]; exact a4, fun b hb => by rw [g3 b hb]; exact a5 b hb⟩
  unfold Se
  rw [g1 128 (by omega), g4]
  exact a1
theorem Yr_dr (h : Yr P S1 S2 U1 U2) (hn : 0 ≤ n.toInt) : Yr P S1 S2 (mm_up U1 128 0 n) (mm_upL U2 0 8 n.toInt64) := by
  obtain ⟨⟨f, w⟩, ⟨a1, a2⟩, a3, a4, a5⟩ := h
  have r := bd_rng n
  have e2 : (mm_upL U2 0 8 n.toInt64).2.1 0 8 = n.toInt64 := upLat
  refine ⟨⟨Fk_row f (up_row (by omega)) (up_row (by omega)) (up_row (by omega)) (up_row (by omega)) (up_row (by omega)) rfl, Wf_row w rfl⟩, ⟨?_, ?_⟩, fun b h1 h2 => by rw [up_row h2]; exact a3 b h1 h2, by rw [up_2]; exact a4, fun b hb => a5 b hb⟩
  · unfold Se
    rw [up_at, e2, Int32.toInt_toInt64]
  · rw [e2, mm_bl, Int32.toInt_toInt64]
    omega
/-- one year -/
theorem yr1 (hP : mm_b 1 7 P) (e1 : S2.1 1 0 = P) (ha : S1.2.2 0 1 < 15) (ea : S1.1 (S1.2.2 0 1) 0 = P) (h : Yr P S1 S2 U1 U2) (k : mm_S → Int32 → Int32 × mm_S) : ∃ V1 V2, F_X9_passYear U1 = V1 ∧ F_X10_drift_L33fc48 (F_X10_draw U2 (U2.1 1 0)).2 (F_X10_draw U2 (U2.1 1 0)).1 k y (U2.1 1 0) = k V2 (y + Int32.ofInt 1) ∧ Yr P S1 S2 V1 V2 := by
  have hP0 : mm_b 0 7 P := ⟨by have := hP.1; omega, hP.2⟩
  have pU : U1.1 (U1.2.2 0 1) 0 = P := by rw [h.2.2.2.1, h.2.2.1 _ (by omega) (by omega)]; exact ea
  have pM : U2.1 1 0 = P := by rw [h.2.2.2.2 1 (by omega)]; exact e1
  obtain ⟨v, n, d1, d2, hn, v0, vP⟩ := dr h.2.1.1 h.2.1.2 hP
  have hA := Yr_dr h hn
  rw [F_X9_passYear, pU, pM, d1, d2]
  show ∃ V1 V2, F_X9_passYear_c14 (mm_up U1 128 0 n) v = V1 ∧ F_X10_drift_L33fc48 (mm_upL U2 0 8 n.toInt64) v k y P = k V2 (y + Int32.ofInt 1) ∧ Yr P S1 S2 V1 V2
  generalize mm_up U1 128 0 n = A1 at *
  generalize mm_upL U2 0 8 n.toInt64 = A2 at *
  obtain ⟨t, n2, d3, d4, hn2, t0, t3⟩ := dr (x := 3) hA.2.1.1 hA.2.1.2 (by decide)
  have hB := Yr_dr hA hn2
  rw [F_X9_passYear_c14, F_X10_drift_L33fc48, d3, d4]
  show ∃ V1 V2, F_X9_passYear_c14c23 t (mm_up A1 128 0 n2) v = V1 ∧ F_X10_drift_L33fc48c54 t (mm_upL A2 0 8 n2.toInt64) v k y P = k V2 (y + Int32.ofInt 1) ∧ Yr P S1 S2 V1 V2
  generalize mm_up A1 128 0 n2 = B1 at *
  generalize mm_upL A2 0 8 n2.toInt64 = B2 at *
  obtain ⟨p1, p7⟩ := hP
  have bU : B1.1 (B1.2.2 0 1) 0 = P := by rw [hB.2.2.2.1, hB.2.2.1 _ (by omega) (by omega)]; exact ea
  have bM : B2.1 1 0 = P := by rw [hB.2.2.2.2 1 (by omega)]; exact e1
  have v6 : 0 ≤ v.toInt ∧ v.toInt ≤ 6 := ⟨v0, by omega⟩
  obtain ⟨⟨f, w⟩, -⟩ := id hB
  rw [F_X9_passYear_c14c23, F_X10_drift_L33fc48c54]
  by_cases q0 : t = 0
  · rw [if_pos q0, if_pos q0, alv w v6]
    by_cases l : lv (B2.1 3 28) v
    · rw [if_pos l, if_neg one0]
      obtain ⟨-, s⟩ := by15 (q := v) f w hP0 bM l
      exact ⟨_, _, rfl, rfl, Yr_sm hB s⟩
    · have el : F_X3_lives_15 B1 v = 0 := by rw [lc15 f w hP0, if_neg l]
      rw [if_neg l, if_pos (show (0 : Int32) = 0 from rfl), F_X3_bury_15, if_pos el]
      exact ⟨_, _, rfl, rfl, hB⟩
  · rw [if_neg q0, if_neg q0]
    by_cases q1 : t = 1
    · rw [if_pos q1, if_pos q1, bU]
      have t1 : (v + 1).toInt = v.toInt + 1 := pz_ti1 ⟨by omega, by omega⟩
      have rm : (v + 1 - (v + 1) / P * P).toInt = (v.toInt + 1) % P.toInt := by rw [bd_ti_rem (by omega), t1]
      have key : ∀ b : Int32, 0 ≤ b.toInt ∧ b.toInt ≤ 6 → v + 1 - (v + 1) / P * P = b → ∃ V1 V2, F_X9_passYear_c14c23tftc73 (F_X3_handOver_15 B1 v b) = V1 ∧ (if F_X10_maySell B2 v (v + 1 - (v + 1) / P * P) = 0 then k B2 (y + Int32.ofInt 1) else F_X10_drift_L33fc48c54tffc118 k (F_X10_sells B2 v (v + 1 - (v + 1) / P * P)) y) = k V2 (y + Int32.ofInt 1) ∧ Yr P S1 S2 V1 V2 := fun b hb eb => by
        rw [eb]
        by_cases m0 : F_X10_maySell B2 v b = 0
        · have e := (ms f w hP0 v6 hb).1
          rw [if_pos m0, F_X3_handOver_15, e, if_pos m0]
          exact ⟨_, _, rfl, rfl, hB⟩
        · rw [if_neg m0]
          exact ⟨_, _, rfl, rfl, Yr_sm hB (so f w hP0 v6 hb m0)⟩
      by_cases q2 : P ≤ v + 1
      · have q3 := Int32.le_iff_toInt_le.mp q2
        have e : v.toInt + 1 = P.toInt := by omega
        rw [if_pos q2]
        exact key 0 (by decide) (Int32.toInt_inj.mp (by rw [rm, e, Int.emod_self]; rfl))
      · have q3 := Int32.lt_iff_toInt_lt.mp (bd_nle q2)
        rw [if_neg q2]
        exact key (v + 1) ⟨by omega, by omega⟩ (Int32.toInt_inj.mp (by rw [rm, Int.emod_eq_of_lt (by omega) (by omega), t1]))
    · rw [if_neg q1, if_neg q1]
      exact ⟨_, _, rfl, rfl, hB⟩
theorem yrL (hP : mm_b 1 7 P) (e1 : S2.1 1 0 = P) (ha : S1.2.2 0 1 < 15) (ea : S1.1 (S1.2.2 0 1) 0 = P) : ∀ (N : Nat) (U1 U2 : mm_S) (y : Int32), Yr P S1 S2 U1 U2 → (F_X9_drift_L40 x N U1 y).1 = (F_X10_drift_L33 x N U2 y).1 ∧ Yr P S1 S2 (F_X9_drift_L40 x N U1 y).2 (F_X10_drift_L33 x N U2 y).2
  | 0, U1, U2, y, h => ⟨rfl, h⟩
  | N + 1, U1, U2, y, h => by
    rw [F_X9_drift_L40, F_X10_drift_L33]
    by_cases q : x ≤ y
    · rw [if_pos q, if_pos q]
      exact ⟨h.1.1.1, h⟩
    · rw [if_neg q, if_neg q]
      obtain ⟨V1, V2, r1, r2, hV⟩ := yr1 (y := y) hP e1 ha ea h (F_X10_drift_L33 x N)
      rw [r1, r2, F_X9_drift_L40fc49]
      exact yrL hP e1 ha ea N V1 V2 _ hV
theorem RB_yr (h : RB S1 S2) (hJ : JC S1) (hp : ¬ S2.1 1 0 = 0) (s : Yr (S2.1 1 0) (F_X7_remember S1) (F_X10_remember S2) U1 U2) : RB U1 U2 := by
  obtain ⟨a, f, w, p, i, se⟩ := h
  have p2 := rm_Pa (f.2 hp) w p
  obtain ⟨n, x, hn, hx, hm, n20, x20, -⟩ := p
  obtain ⟨⟨a1, a2⟩, -, -, -⟩ := rmC hn hx n20 x20
  obtain ⟨d, -, ⟨b1, b2, b3⟩, -, -, -⟩ := rmM hm n20
  obtain ⟨⟨f', w'⟩, ⟨s1, s2⟩, g1, g2, g3⟩ := s
  have lx : x % 20 < 20 := Nat.mod_lt _ (by omega)
  generalize x % 20 = sl at *
  have c : ∀ b, (1 ≤ b ∧ b < 15) ∨ (127 ≤ b ∧ b ≠ 128) → U1.1 b = S1.1 b := fun b hb => by rw [g1 b (by omega) (by omega), a1 b (by omega) (by omega)]
  have m : ∀ b, b ≠ 0 → b ≠ 3 → b ≠ 5 → U2.1 b = S2.1 b := fun b h0 h3 h5 => by rw [g3 b h3, b1 b h0 h5]
  have m0 : ∀ j, j ≠ 5 → U2.1 0 j = S2.1 0 j := fun j hj => by rw [g3 0 (by omega), b2 j hj]
  have e1 : U2.1 1 0 = S2.1 1 0 := by rw [m 1 (by omega) (by omega) (by omega)]
  unfold RB
  rw [e1]
  exact ⟨RA_G a hJ ⟨fun b hb => c b (by have z := LG1_a b hb; omega), by rw [g2, a2]⟩ ⟨fun b hb => m b (by revert b; decide) (by revert b; decide) (by revert b; decide), fun j hj => m0 j (by revert j; decide)⟩, Fq_of f', w', Pa_G p2 (fun b h1 h2 => g1 b (by omega) (by omega)) (g3 5 (by omega)) (by rw [g3 0 (by omega)]), Im_G i (fun b h1 h2 => c b (by omega)) (m 6 (by omega) (by omega) (by omega)), s1⟩
/-- promise 13 -/
theorem sb_drift (h : RB S1 S2) (hJ : JC S1) (hM : JM S2) : (F_X9_drift S1 x).1 = (F_X10_drift S2 x).1 ∧ RB (F_X9_drift S1 x).2 (F_X10_drift S2 x).2 := by
  have ei : F_X10_in S2 x.toInt64 1 60 = if mm_b 1 60 x then 1 else 0 := m_in (lo := 1) (hi := 60)
  rw [F_X9_drift, F_X10_drift, ei]
  by_cases q1 : x < 1
  · have q2 : x.toInt < 1 := Int32.lt_iff_toInt_lt.mp q1
    rw [if_pos q1, if_neg (show ¬ mm_b 1 60 x from fun z => by have := z.1; omega), if_pos (show (0 : Int32) = 0 from rfl)]
    exact ⟨rfl, h⟩
  · have q2 : (1 : Int) ≤ x.toInt := Int32.le_iff_toInt_le.mp (bd_nlt q1)
    rw [if_neg q1]
    by_cases q3 : x ≤ 60
    · have q4 : x.toInt ≤ 60 := Int32.le_iff_toInt_le.mp q3
      have ea : S1.1 (S1.2.2 0 1) 0 = S2.1 1 0 := h.1.2.2.1.1.1
      rw [if_pos q3, if_pos (show mm_b 1 60 x from ⟨q2, q4⟩), if_neg one0, ea]
      by_cases q5 : S2.1 1 0 = 0
      · rw [if_pos q5, if_pos q5]
        exact ⟨rfl, h⟩
      · rw [if_neg q5, if_neg q5, F_X9_drift_fttc38, F_X10_drift_ttc31]
        have hP := h.1.2.2.1.2.1.1
        have hP1 : mm_b 1 7 (S2.1 1 0) := by
          obtain ⟨z1, z2⟩ := hP
          refine ⟨?_, z2⟩
          have : (S2.1 1 0).toInt ≠ 0 := fun z => q5 (Int32.toInt_inj.mp z)
          omega
        obtain ⟨f, w, e1, e3⟩ := rm_fk h q5
        obtain ⟨⟨n, y, hn, hx, hm, n20, x20, -⟩, -⟩ := h.2.2.2
        obtain ⟨⟨a1, a2⟩, -, -, -⟩ := rmC hn hx n20 x20
        obtain ⟨d, -, ⟨b1, b2, b3⟩, -, -, -⟩ := rmM hm n20
        have hd := pa_in (JRC_1 hJ)
        have lx : y % 20 < 20 := Nat.mod_lt _ (by omega)
        have r128 : (F_X7_remember S1).1 128 = S1.1 128 := a1 128 (by omega) (by omega)
        have y0 : Yr (S2.1 1 0) (F_X7_remember S1) (F_X10_remember S2) (F_X7_remember S1) (F_X10_remember S2) := by
          refine ⟨⟨f, w⟩, ⟨?_, by rw [b3]; exact JM_long hM⟩, fun _ _ _ => rfl, rfl, fun _ _ => rfl⟩
          unfold Se
          rw [r128, b3]
          exact h.2.2.2.2.2
        have r := yrL (x := x) hP1 e1 (by rw [a2]; omega) (by rw [a2, a1 (S1.2.2 0 1) (by omega) (by omega)]; exact ea) 62 _ _ 0 y0
        exact ⟨r.1, RB_yr h hJ q5 r.2⟩
    · have q4 : (60 : Int) < x.toInt := Int32.lt_iff_toInt_lt.mp (bd_nle q3)
      rw [if_neg q3, if_neg (show ¬ mm_b 1 60 x from fun z => by have := z.2; omega), if_pos (show (0 : Int32) = 0 from rfl)]
      exact ⟨rfl, h⟩
end DRF
/-! ===== the start; answers under RB ===== -/
theorem RB_0 : ∀ S, SM1 S → RB SC0 S := by
  intro S hS
  have ra := RA_0 S hS
  obtain ⟨⟨n1, n2⟩, ⟨n0, n5, -, -, -⟩, -, ⟨n28, n29⟩, n3⟩ := bg_m (S := F_X10_blank1 SM0)
  obtain ⟨k1, k2, k3⟩ := bq (S2 := SM0)
  rw [SM1] at hS
  rw [← hS] at n1 n2 n0 n5 n28 n29 n3
  have c0 : (F_X10_blank1 SM0).1 1 0 = 0 := k3 0 (by omega)
  have p0 : S.1 1 0 = 0 := by rw [n1 1 (by omega) (by omega) (by omega)]; exact c0
  have a0 : S.1 3 28 = 0 := by rw [n28, c0]; decide
  unfold RB
  rw [p0]
  refine ⟨ra, ⟨⟨?_, ?_, ?_⟩, fun q => absurd rfl q⟩, ⟨?_, ?_, fun i hi => ?_⟩, Pa_0 (SC0_z 25 0 (by omega)) (SC0_z 25 1 (by omega)) n5, ⟨fun q => absurd (SC0_z 151 0 (by omega)) q, fun q => absurd (SC0_z 157 0 (by omega)) q⟩, ?_⟩
  · rw [a0]; exact SC0_z 15 0 (by omega)
  · rw [n29]; exact SC0_z 15 1 (by omega)
  · exact SC0_z 15 2 (by omega)
  · rw [a0]; decide
  · rw [a0]
    exact fun i hi z => absurd z (bt_0 hi)
  · obtain ⟨y1, y2, y3, y4⟩ := n3 i hi
    have u9 : S.1 3 i = 9 := by rw [y1, bgW, k3 (3 + i) (by omega), if_pos (show 3 ≤ 3 + i ∧ 3 + i ≤ 23 by omega), if_pos rfl]
    refine ⟨Or.inl u9, ?_, fun _ => ⟨u9, y2⟩, ?_, ?_⟩
    · rw [y2]; decide
    · rw [y3, k3 (10 + i) (by omega), if_pos (show 3 ≤ 10 + i ∧ 10 + i ≤ 23 by omega)]; decide
    · rw [y4, k3 (17 + i) (by omega), if_pos (show 3 ≤ 17 + i ∧ 17 + i ≤ 23 by omega)]; decide
  · unfold Se
    rw [n2, k2, SC0_z 128 0 (by omega)]
    rfl
section AB
variable {S1 S2 : mm_S} {x y z v p : Int32}
theorem vo (h : RB S1 S2) (hp : 0 ≤ p.toInt ∧ p.toInt ≤ 6) : F_X3_voiceOf_15 S1 p = S2.1 3 p.toNatClampNeg := by
  have cp := pz_cl hp.1
  have h2 : S1.1 15 2 = S2.1 1 0 := h.2.1.1.2.2
  have n0 : ¬ p < 0 := fun q => by have : p.toInt < 0 := Int32.lt_iff_toInt_lt.mp q; omega
  rw [F_X3_voiceOf_15, F_X3_isOne_15, h2, if_neg n0]
  by_cases q : S2.1 1 0 ≤ p
  · have q2 := Int32.le_iff_toInt_le.mp q
    have nb : ¬ bt (S2.1 3 28) p.toNatClampNeg := fun z => by have := h.2.2.1.2.1 p.toNatClampNeg (by omega) z; omega
    rw [if_pos q, if_pos (show (0 : Int32) = 0 from rfl)]
    exact ((h.2.2.1.2.2 p.toNatClampNeg (by omega)).2.2.1 nb).1.symm
  · have q2 := Int32.lt_iff_toInt_lt.mp (bd_nle q)
    have hp0 : ¬ S2.1 1 0 = 0 := fun e => by
      rw [e] at q2
      have : (0 : Int32).toInt = 0 := rfl
      omega
    rw [if_neg q, if_neg one0]
    exact ((h.2.1.2 hp0).2.2.2 p.toNatClampNeg (by omega)).1
theorem bcT : ∀ s : Fin 128, F_JbitCount SC0 (nI s.val) = F_X10_bits SC0 (nI s.val) ∧ mm_b 0 7 (F_JbitCount SC0 (nI s.val)) := by decide +kernel
/-- how many: both count the same -/
theorem bc {A : Int32} (h : mm_b 0 127 A) : F_JbitCount S1 A = F_X10_bits S2 A := by
  obtain ⟨s, rfl⟩ := sm_nI h
  exact (bcT s).1
end AB
/-! ===== answers under RB: told, live ===== -/
section AC
variable {S1 S2 : mm_S} {x y z v p : Int32}
theorem av_L {a : Nat} (ha : a = S1.2.2 0 1) (h : RA S1 S2) : ∀ (N k : Nat) (A : Int32), k < 100 → F_X6_voices_L4 a N S1 A (nI k) = F_X10_allVoices_L4 N S2 A (nI k)
  | 0, k, A, _ => rfl
  | N + 1, k, A, hk => by
    obtain ⟨⟨e0, -, -⟩, ⟨p7, -, -⟩, pk, -, -, -⟩ := h.2.2.1
    rw [F_X6_voices_L4, F_X10_allVoices_L4, F_X6_hasVoice, F_X6_rangeOf, F_X6_hasPerson, ha, e0]
    by_cases q : S2.1 1 0 ≤ nI k
    · rw [if_pos q, if_pos q]
    · have q2 := Int32.lt_iff_toInt_lt.mp (bd_nle q)
      have ek : (nI k).toInt = k := nI_toInt (by omega)
      obtain ⟨d0, d7⟩ := p7
      have ck : (nI k).toNatClampNeg = k := nI_c (by omega)
      have c3 : ((3 : Int32) + nI k).toNatClampNeg = 3 + k := by rw [pz_addc (by decide) ⟨by omega, by omega⟩, ck]; rfl
      have n0 : ¬ nI k < 0 := fun z => by have : (nI k).toInt < 0 := Int32.lt_iff_toInt_lt.mp z; omega
      rw [if_neg q, if_neg q, if_neg n0, if_neg q, if_neg one0, ck, c3, pk k (by omega), nI_s hk, Int32.or_zero, ← ha]
      by_cases e9 : S2.1 1 (3 + k) = 9
      · rw [if_pos e9, if_pos e9, if_pos (show (0 : Int32) = 0 from rfl)]
        exact av_L ha h N (k + 1) A (by omega)
      · rw [if_neg e9, if_neg e9, if_neg one0]
        exact av_L ha h N (k + 1) _ (by omega)
theorem av (h : RA S1 S2) : F_X6_voices S1 (S1.2.2 0 1) = F_X10_allVoices S2 := av_L rfl h 9 0 0 (by omega)
end AC
section AD
variable {S1 S2 : mm_S} {x y z : Int32}
end AD
/-! ===== what is seen and in the book speaks of this parish; spoke, knock, judge ===== -/
def Sn (S2 : mm_S) : Prop := (∀ k : Nat, (k : Int) < (S2.1 0 13).toInt → 0 ≤ (S2.1 9 (2 * k)).toInt ∧ (S2.1 9 (2 * k)).toInt < (S2.1 1 1).toInt) ∧ (∀ k : Nat, (k : Int) < (S2.1 0 17).toInt → 0 ≤ (S2.1 11 (2 * k)).toInt ∧ (S2.1 11 (2 * k)).toInt < (S2.1 1 0).toInt)
section SNs
variable {S1 S2 U1 U2 : mm_S} {x y z v p v2 : Int32}
theorem Sn_G (h : Sn S2) (m1 : U2.1 1 = S2.1 1) (m9 : U2.1 9 = S2.1 9) (m11 : U2.1 11 = S2.1 11) (z13 : U2.1 0 13 = S2.1 0 13) (z17 : U2.1 0 17 = S2.1 0 17) : Sn U2 := by
  unfold Sn
  rw [m1, m9, m11, z13, z17]
  exact h
theorem Sn_eq (h : Sn S2) (e : S2 = U2) : Sn U2 := e ▸ h
theorem fr_Sn {wr2 wf2 : List Nat} {k m' : Bool} (h : Sn S2) (f2 : fr wr2 wf2 k m' S2 U2) (h2 : ∀ b ∈ [1, 9, 11], b ∉ wr2 ∧ b ≠ 0) (h3 : ∀ j ∈ [13, 17], j ∉ wf2) : Sn U2 :=
  Sn_G h (funext fun j => f2.1 1 j (h2 1 (by decide)).1 (h2 1 (by decide)).2) (funext fun j => f2.1 9 j (h2 9 (by decide)).1 (h2 9 (by decide)).2) (funext fun j => f2.1 11 j (h2 11 (by decide)).1 (h2 11 (by decide)).2) (f2.2.1 13 (h3 13 (by decide))) (f2.2.1 17 (h3 17 (by decide)))
theorem Sn_z (z13 : U2.1 0 13 = 0) (z17 : U2.1 0 17 = 0) : Sn U2 := by
  have t : (0 : Int32).toInt = 0 := rfl
  refine ⟨fun k hk => ?_, fun k hk => ?_⟩
  · rw [z13] at hk; omega
  · rw [z17] at hk; omega
theorem two {c : Int32} (hc : mm_b 0 15 c) : (2 * c).toNatClampNeg = 2 * c.toNatClampNeg ∧ (2 * c + 1).toNatClampNeg = 2 * c.toNatClampNeg + 1 ∧ (c + 1).toInt = c.toInt + 1 := by
  obtain ⟨j, rfl, hj⟩ := bd_nI hc.1
  have t : ∀ k : Fin 16, (2 * nI k.val).toNatClampNeg = 2 * (nI k.val).toNatClampNeg ∧ (2 * nI k.val + 1).toNatClampNeg = 2 * (nI k.val).toNatClampNeg + 1 ∧ (nI k.val + 1).toInt = (nI k.val).toInt + 1 := by decide +kernel
  exact t ⟨j, by have := hc.2; omega⟩
theorem sn_see (h : Sn S2) (ra : RA S1 S2) (hM : JM S2) (e2 : F_X10_see S2 x y = (v2, U2)) : Sn U2 := by
  have hb : mm_b 0 6 (S2.1 0 13) := JIM_fld hM rfl tbM_3 (by decide)
  have cb := pz_cl hb.1
  obtain ⟨t1, t2, t3⟩ := two (c := S2.1 0 13) ⟨hb.1, by have := hb.2; omega⟩
  have key : ∀ w : Int32, (0 ≤ x.toInt ∧ x.toInt < (S2.1 1 1).toInt) → Sn (mm_up (mm_up (mm_up S2 9 (2 * S2.1 0 13).toNatClampNeg x) 9 (2 * S2.1 0 13 + 1).toNatClampNeg w) 0 13 (S2.1 0 13 + 1)) := fun w hx => by
    rw [t1, t2]
    refine ⟨fun k hk => ?_, fun k hk => ?_⟩
    · rw [up_at, t3] at hk
      rw [up_ne (a := 0) (b := 9) (by omega), up_ne (a := 0) (b := 1) (by omega), up_ne (a := 9) (b := 1) (by omega), up_ne (a := 9) (b := 1) (by omega), up_ne (a := 9) (i := 2 * k) (by omega)]
      by_cases q : k = (S2.1 0 13).toNatClampNeg
      · rw [q, up_at]
        exact hx
      · rw [up_ne (by omega)]
        exact h.1 k (by omega)
    · rw [up_ne (by omega), up_ne (by omega), up_ne (by omega)] at hk
      rw [up_ne (by omega), up_ne (by omega), up_ne (by omega), up_ne (by omega), up_ne (by omega), up_ne (by omega)]
      exact h.2 k hk
  rw [F_X10_see] at e2
  by_cases q : F_X10_in S2 x.toInt64 0 (S2.1 1 1 - 1).toInt64 = 0
  · rw [if_pos q] at e2
    exact Sn_eq h (congrArg Prod.snd e2)
  · rw [if_neg q] at e2
    have hx := in_1 (bd_w ra.2.2.1.2.1.2.1 (by decide)) q
    by_cases q2 : S2.1 0 13 = 6
    · rw [if_pos q2] at e2
      exact Sn_eq h (congrArg Prod.snd e2)
    · rw [if_neg q2] at e2
      by_cases q3 : y = 0
      · rw [if_pos q3] at e2
        exact Sn_eq (key 0 hx) (congrArg Prod.snd e2)
      · rw [if_neg q3] at e2
        exact Sn_eq (key 1 hx) (congrArg Prod.snd e2)
theorem sn_write (h : Sn S2) (ra : RA S1 S2) (hM : JM S2) (e2 : F_X10_write S2 x y = (v2, U2)) : Sn U2 := by
  have hb : mm_b 0 15 (S2.1 0 17) := JIM_fld hM rfl tbM_5 (by decide)
  have cb := pz_cl hb.1
  obtain ⟨t1, t2, t3⟩ := two (c := S2.1 0 17) hb
  have key : (0 ≤ x.toInt ∧ x.toInt < (S2.1 1 0).toInt) → Sn (mm_up (mm_up (mm_up S2 11 (2 * S2.1 0 17).toNatClampNeg x) 11 (2 * S2.1 0 17 + 1).toNatClampNeg y) 0 17 (S2.1 0 17 + 1)) := fun hx => by
    rw [t1, t2]
    refine ⟨fun k hk => ?_, fun k hk => ?_⟩
    · rw [up_ne (by omega), up_ne (by omega), up_ne (by omega)] at hk
      rw [up_ne (by omega), up_ne (by omega), up_ne (by omega), up_ne (by omega), up_ne (by omega), up_ne (by omega)]
      exact h.1 k hk
    · rw [up_at, t3] at hk
      rw [up_ne (a := 0) (b := 11) (by omega), up_ne (a := 0) (b := 1) (by omega), up_ne (a := 11) (b := 1) (by omega), up_ne (a := 11) (b := 1) (by omega), up_ne (a := 11) (i := 2 * k) (by omega)]
      by_cases q : k = (S2.1 0 17).toNatClampNeg
      · rw [q, up_at]
        exact hx
      · rw [up_ne (by omega)]
        exact h.2 k (by omega)
  rw [F_X10_write] at e2
  by_cases q : F_X10_isPerson S2 x = 0
  · rw [if_pos q] at e2
    exact Sn_eq h (congrArg Prod.snd e2)
  · rw [if_neg q] at e2
    have hx := in_1 ra.2.2.1.2.1.1 q
    by_cases q2 : F_X10_isUse S2 y = 0
    · rw [if_pos q2] at e2
      exact Sn_eq h (congrArg Prod.snd e2)
    · rw [if_neg q2] at e2
      by_cases q3 : S2.1 0 17 = 15
      · rw [if_pos q3] at e2
        exact Sn_eq h (congrArg Prod.snd e2)
      · rw [if_neg q3] at e2
        exact Sn_eq (key hx) (congrArg Prod.snd e2)
theorem sn_tear (e2 : F_X10_tear S2 = (v2, U2)) : Sn U2 := by
  rw [F_X10_tear] at e2
  refine Sn_eq (Sn_z ?_ ?_) (congrArg Prod.snd e2)
  · rw [up_ne (by omega), up_ne (by omega), up_at]
  · rw [up_at]
theorem sn_parish (h : Sn S2) (ra : RA S1 S2) (hJ : JC S1) (e2 : F_X10_parish S2 = (v2, U2)) : Sn U2 := by
  have hd := pa_in (JRC_2 hJ)
  have hn : pz_p (S1.1 1 0) := JIC_fld hJ rfl tbC_0 (by decide)
  have ht : ∀ j : Nat, j < 240 → 0 ≤ (S1.1 2 j).toInt := fun j hj => (JIC_fld (j := j) hJ rfl tbC_2 ⟨by omega, by omega⟩).1
  rcases parse (a := S1.2.2 0 2) (by omega) ra.1.1 ra.1.2.1 hn ht with ⟨C1, C2, c', m', q', b', s', g', v', w', e3, e4, D, hB⟩ | ⟨C1, C2, k, c', m', q', b', s', g', v', e3, e4, hk, hB⟩
  · rw [e4, F_X10_parish_L23ttu87, F_X10_parish_L23ttu87c90, F_X10_parish_L23ttu87c90c94] at e2
    generalize F_X10_copies_21 (mm_up (td C2 q' b' s' g' v' w') 0 10 0) 0 0 37 = C at e2
    obtain ⟨-, ⟨-, -, n13, n15, n17⟩, -, -, -⟩ := bg_m (S := C)
    exact Sn_eq (Sn_z n13 n17) (congrArg Prod.snd e2)
  · rw [e4] at e2
    have e6 : mm_up (mm_up (td C2 q' b' s' g' v' k) 0 10 0) 0 11 b' = U2 := congrArg Prod.snd e2
    obtain ⟨-, ⟨k3, k4⟩, -, -, -, -⟩ := hB
    have r : ∀ b, b ≠ 0 → b ≠ 2 → U2.1 b = S2.1 b := fun b h0 h2 => by rw [← e6, up_row h0, up_row h0, td_row h0, k3 b h2, up_row h0]
    have f : ∀ j, j < 18 → j ≠ 10 → j ≠ 11 → U2.1 0 j = S2.1 0 j := fun j hj h10 h11 => by
      rw [← e6, up_ne (by omega), up_ne (by omega)]
      show (if j = 18 then q' else if j = 19 then b' else if j = 20 then s' else if j = 21 then g' else if j = 22 then v' else if j = 23 then k else C2.1 0 j) = _
      rw [if_neg (by omega), if_neg (by omega), if_neg (by omega), if_neg (by omega), if_neg (by omega), if_neg (by omega), k3 0 (by omega), up_ne (by omega)]
    exact Sn_G h (r 1 (by omega) (by omega)) (r 9 (by omega) (by omega)) (r 11 (by omega) (by omega)) (f 13 (by omega) (by omega) (by omega)) (f 17 (by omega) (by omega) (by omega))
theorem Sn_0 : ∀ S, SM1 S → Sn S := by
  intro S hS
  obtain ⟨-, ⟨-, -, n13, n15, n17⟩, -, -, -⟩ := bg_m (S := F_X10_blank1 SM0)
  rw [SM1] at hS
  rw [← hS] at n13 n17
  exact Sn_z n13 n17
/-! the voices that spoke -/
theorem vs_L (ra : RA S1 S2) (h : Sn S2) (hb : mm_b 0 6 (S2.1 0 13)) : ∀ (N k : Nat) (A : Int32), k < 100 → F_X9_voicesThatSpoke_L10 N S1 A (nI k) = F_X10_voices_L7 N S2 A (nI k)
  | 0, k, A, _ => rfl
  | N + 1, k, A, hk => by
    obtain ⟨e9, ee⟩ := ra.2.2.2.2.1
    rw [F_X9_voicesThatSpoke_L10, F_X10_voices_L7, F_X2_valueAt_129, F_X2_subjectAt_129, e9]
    by_cases q : S2.1 0 13 ≤ nI k
    · rw [if_pos q, if_pos q]
    · have q2 := Int32.lt_iff_toInt_lt.mp (bd_nle q)
      have ek : (nI k).toInt = k := nI_toInt (by omega)
      obtain ⟨b0, b6⟩ := hb
      have ck : (nI k).toNatClampNeg = k := nI_c (by omega)
      obtain ⟨t1, t2, -⟩ := two (c := nI k) ⟨by omega, by omega⟩
      have n0 : ¬ nI k < 0 := fun z => by have : (nI k).toInt < 0 := Int32.lt_iff_toInt_lt.mp z; omega
      obtain ⟨d0, d1⟩ := h.1 k (by omega)
      obtain ⟨f0, f1⟩ := ee k (by omega)
      have g0 : S1.1 130 k = S2.1 9 (2 * k) := f0
      have g1 : S1.1 131 k = S2.1 9 (2 * k + 1) := f1
      obtain ⟨-, ⟨-, d6, -⟩, -, -, dk, -⟩ := ra.2.2.1
      rw [if_neg q, if_neg q, if_neg n0, if_neg q, if_neg n0, if_neg q, t1, t2, ck, g0, g1, nI_s hk]
      generalize hd : S2.1 9 (2 * k) = d at *
      have cd := pz_cl d0
      have c25 : ((25 : Int32) + d).toNatClampNeg = 25 + d.toNatClampNeg := pz_addc (by decide) ⟨d0, by have := d6.2; omega⟩
      have kn : F_X6_knownBy S1 (S1.2.2 0 1) d = S2.1 1 (25 + d.toNatClampNeg) := by
        rw [F_X6_knownBy, F_X6_hasDoor, ra.2.2.1.1.2.1, if_neg (fun z : d < 0 => by have : d.toInt < 0 := Int32.lt_iff_toInt_lt.mp z; omega), if_neg (fun z : S2.1 1 1 ≤ d => by have := Int32.le_iff_toInt_le.mp z; omega), if_neg one0]
        exact dk d.toNatClampNeg (by omega)
      rw [kn, c25]
      split
      · exact vs_L ra h ⟨b0, b6⟩ N (k + 1) _ (by omega)
      · exact vs_L ra h ⟨b0, b6⟩ N (k + 1) _ (by omega)
theorem vs (ra : RA S1 S2) (h : Sn S2) (hM : JM S2) : F_X9_voicesThatSpoke S1 = F_X10_voices S2 := by
  rw [F_X9_voicesThatSpoke, F_X10_voices, av ra]
  exact vs_L ra h (JIM_fld hM rfl tbM_3 (by decide)) 8 0 _ (by omega)
theorem ju_L (h : RB S1 S2) (hs : Sn S2) (hb : mm_b 0 15 (S2.1 0 17)) : ∀ (N k : Nat), k < 100 → F_X2_firstUnlike_135_15_L2 N S1 (nI k) = F_X10_judge_L2 N S2 (nI k)
  | 0, k, _ => rfl
  | N + 1, k, hk => by
    obtain ⟨e9, ee⟩ := h.1.2.2.2.2.2.2
    rw [F_X2_firstUnlike_135_15_L2, F_X10_judge_L2, e9]
    by_cases q : S2.1 0 17 ≤ nI k
    · rw [if_pos q, if_pos q]
    · have q2 := Int32.lt_iff_toInt_lt.mp (bd_nle q)
      have ek : (nI k).toInt = k := nI_toInt (by omega)
      obtain ⟨b0, b6⟩ := hb
      have ck : (nI k).toNatClampNeg = k := nI_c (by omega)
      obtain ⟨t1, t2, -⟩ := two (c := nI k) ⟨by omega, by omega⟩
      obtain ⟨d0, d1⟩ := hs.2 k (by omega)
      obtain ⟨f0, f1⟩ := ee k (by omega)
      have g0 : S1.1 136 k = S2.1 11 (2 * k) := f0
      have g1 : S1.1 137 k = S2.1 11 (2 * k + 1) := f1
      have p7 := h.1.2.2.1.2.1.1.2
      rw [if_neg q, if_neg q, t1, t2, ck, g0, g1, nI_s hk, Int32.zero_add, vo h ⟨d0, by omega⟩]
      split
      · exact ju_L h hs ⟨b0, b6⟩ N (k + 1) (by omega)
      · rfl
/-- promise 28 -/
theorem an_judge (h : RB S1 S2) (hs : Sn S2) (hM : JM S2) : F_X9_judge S1 = F_X10_judge S2 := by
  rw [F_X9_judge, F_X2_firstUnlike_135_15, F_X10_judge]
  exact ju_L h hs (JIM_fld hM rfl tbM_5 (by decide)) 17 0 (by omega)
end SNs
