/-! ===== the relation with the folk, the past, the images, the seed ===== -/
/-- no parish told yet: the class has no folk, the reference has seven mute ones -/
def Fq (P : Int32) (S1 S2 : mm_S) : Prop := (S1.1 15 0 = S2.1 3 28 ∧ S1.1 15 1 = S2.1 3 29 ∧ S1.1 15 2 = P) ∧ (¬ P = 0 → Fk15 P S1 S2)
def FqO (g r o : Nat) (P : Int32) (S1 S2 : mm_S) : Prop := (S1.1 g 0 = S2.1 r (o + 28) ∧ S1.1 g 1 = S2.1 r (o + 29) ∧ S1.1 g 2 = P) ∧ (¬ P = 0 → FkO g r o P S1 S2)
section FQ
variable {P : Int32} {S1 S2 U1 U2 : mm_S} {g r o : Nat}
theorem Fq_of (h : Fk15 P S1 S2) : Fq P S1 S2 := ⟨⟨h.1, h.2.1, h.2.2.1⟩, fun _ => h⟩
theorem Fq_row (h : Fq P S1 S2) (c0 : U1.1 15 = S1.1 15) (c1 : U1.1 16 = S1.1 16) (c2 : U1.1 17 = S1.1 17) (c3 : U1.1 18 = S1.1 18) (c4 : U1.1 19 = S1.1 19) (m : U2.1 3 = S2.1 3) : Fq P U1 U2 := ⟨by rw [c0, m]; exact h.1, fun q => Fk_row (h.2 q) c0 c1 c2 c3 c4 m⟩
theorem FqO_in (h : Fq P S1 S2) (hg : 19 < g) (m : ∀ i, i < 30 → U2.1 r (o + i) = S2.1 3 i) (c : ∀ b, g ≤ b → b ≤ g + 4 → U1.1 b = (F_X3_copy S1 g 15).1 b) : FqO g r o P U1 U2 := by
  obtain ⟨-, ⟨k0, k1, k2, -⟩, -⟩ := cp_c (S := S1) (a := g) (c := 15) (by omega)
  obtain ⟨⟨h0, h1, h2⟩, hk⟩ := h
  refine ⟨⟨?_, ?_, ?_⟩, fun q => FkO_in (hk q) hg m c⟩
  · rw [c g (by omega) (by omega), k0, m 28 (by omega)]; exact h0
  · rw [c g (by omega) (by omega), k1, m 29 (by omega)]; exact h1
  · rw [c g (by omega) (by omega), k2]; exact h2
theorem FqO_out (h : FqO g r o P S1 S2) (hg : 19 < g) (m : ∀ i, i < 30 → U2.1 3 i = S2.1 r (o + i)) (c : ∀ b, 15 ≤ b → b ≤ 19 → U1.1 b = (F_X3_copy S1 15 g).1 b) : Fq P U1 U2 := by
  obtain ⟨-, ⟨k0, k1, k2, -⟩, -⟩ := cp_c (S := S1) (a := 15) (c := g) (by omega)
  obtain ⟨⟨h0, h1, h2⟩, hk⟩ := h
  refine ⟨⟨?_, ?_, ?_⟩, fun q => FkO_out (hk q) hg m c⟩
  · rw [c 15 (by omega) (by omega), k0, m 28 (by omega)]; exact h0
  · rw [c 15 (by omega) (by omega), k1, m 29 (by omega)]; exact h1
  · rw [c 15 (by omega) (by omega), k2]; exact h2
theorem FqO_mv {o2 : Nat} (h : FqO g r o P S1 S2) (c : ∀ b, g ≤ b → b ≤ g + 4 → U1.1 b = S1.1 b) (m : ∀ i, i < 30 → U2.1 r (o2 + i) = S2.1 r (o + i)) : FqO g r o2 P U1 U2 := by
  obtain ⟨⟨h0, h1, h2⟩, hk⟩ := h
  refine ⟨⟨?_, ?_, ?_⟩, fun q => FkO_mv (hk q) c m⟩
  · rw [c g (by omega) (by omega), m 28 (by omega)]; exact h0
  · rw [c g (by omega) (by omega), m 29 (by omega)]; exact h1
  · rw [c g (by omega) (by omega)]; exact h2
end FQ
def Im (P : Int32) (S1 S2 : mm_S) : Prop := (¬ S1.1 151 0 = 0 → FqO 152 6 0 P S1 S2 ∧ WfO 6 0 P S2 ∧ S1.1 151 1 = S2.1 6 30) ∧ (¬ S1.1 157 0 = 0 → FqO 158 6 31 P S1 S2 ∧ WfO 6 31 P S2 ∧ S1.1 157 1 = S2.1 6 61)
def Se (S1 S2 : mm_S) : Prop := (S1.1 128 0).toInt = (S2.2.1 0 8).toInt
def RB (S1 S2 : mm_S) : Prop := RA S1 S2 ∧ Fq (S2.1 1 0) S1 S2 ∧ Wf 3 (S2.1 1 0) S2 ∧ Pa (S2.1 1 0) S1 S2 ∧ Im (S2.1 1 0) S1 S2 ∧ Se S1 S2
theorem LG1_a : ∀ b ∈ LG1, (1 ≤ b ∧ b < 15) ∨ (127 ≤ b ∧ b ≠ 128) := by decide
section RBs
variable {P : Int32} {S1 S2 U1 U2 : mm_S} {x y z : Int32}
theorem Pa_G (h : Pa P S1 S2) (c : ∀ b, 25 ≤ b → b ≤ 126 → U1.1 b = S1.1 b) (m5 : U2.1 5 = S2.1 5) (m0 : U2.1 0 5 = S2.1 0 5) : Pa P U1 U2 := by
  obtain ⟨n, x, hn, hx, hm, n20, x20, hk⟩ := h
  refine ⟨n, x, by rw [c 25 (by omega) (by omega)]; exact hn, by rw [c 25 (by omega) (by omega)]; exact hx, by rw [m0]; exact hm, n20, x20, fun k hk2 => ?_⟩
  obtain ⟨f, w⟩ := hk k hk2
  have lt : (x + 20 - n + k) % 20 < 20 := Nat.mod_lt _ (by omega)
  generalize (x + 20 - n + k) % 20 = s at *
  exact ⟨FkO_mv f (fun b h1 h2 => c b (by omega) (by omega)) (fun i _ => by rw [m5]), WfO_mv w (fun i _ => by rw [m5])⟩
theorem Im_G (h : Im P S1 S2) (c : ∀ b, 151 ≤ b → b ≤ 162 → U1.1 b = S1.1 b) (m6 : U2.1 6 = S2.1 6) : Im P U1 U2 := by
  obtain ⟨h1, h2⟩ := h
  refine ⟨fun q => ?_, fun q => ?_⟩
  · rw [c 151 (by omega) (by omega)] at q ⊢
    obtain ⟨f, w, e⟩ := h1 q
    exact ⟨FqO_mv f (fun b g1 g2 => c b (by omega) (by omega)) (fun i _ => by rw [m6]), WfO_mv w (fun i _ => by rw [m6]), by rw [m6]; exact e⟩
  · rw [c 157 (by omega) (by omega)] at q ⊢
    obtain ⟨f, w, e⟩ := h2 q
    exact ⟨FqO_mv f (fun b g1 g2 => c b (by omega) (by omega)) (fun i _ => by rw [m6]), WfO_mv w (fun i _ => by rw [m6]), by rw [m6]; exact e⟩
abbrev LB1 : List Nat := List.range' 1 19 ++ List.range' 25 113 ++ List.range' 151 12
abbrev LB2 : List Nat := [1, 3, 5, 6, 7, 8, 9, 10, 11]
abbrev LBF : List Nat := [5, 10, 11, 13, 15, 17]
theorem LB1_in {b : Nat} (h : (1 ≤ b ∧ b ≤ 19) ∨ (25 ≤ b ∧ b ≤ 137) ∨ (151 ≤ b ∧ b ≤ 162)) : b ∈ LB1 := by
  rcases h with h | h | h
  · exact List.mem_append_left _ (List.mem_append_left _ (List.mem_range'_1.mpr ⟨h.1, by omega⟩))
  · exact List.mem_append_left _ (List.mem_append_right _ (List.mem_range'_1.mpr ⟨h.1, by omega⟩))
  · exact List.mem_append_right _ (List.mem_range'_1.mpr ⟨h.1, by omega⟩)
/-- nothing of the relation's places is written -/
theorem RB_G (h : RB S1 S2) (hJ : JC S1) (c : ∀ b, b ∈ LB1 → U1.1 b = S1.1 b) (c2 : U1.2 = S1.2) (m : ∀ b ∈ LB2, U2.1 b = S2.1 b) (m0 : ∀ j ∈ LBF, U2.1 0 j = S2.1 0 j) (m2 : U2.2 = S2.2) : RB U1 U2 := by
  obtain ⟨a, f, w, p, i, s⟩ := h
  have cc : ∀ b, (1 ≤ b ∧ b ≤ 19) ∨ (25 ≤ b ∧ b ≤ 137) ∨ (151 ≤ b ∧ b ≤ 162) → U1.1 b = S1.1 b := fun b hb => c b (LB1_in hb)
  have e1 : U2.1 1 = S2.1 1 := m 1 (by decide)
  unfold RB
  rw [e1]
  refine ⟨RA_G a hJ ⟨fun b hb => c b (by revert b; decide), c2⟩ ⟨fun b hb => m b (by revert b; decide), fun j hj => m0 j (by revert j; decide)⟩, Fq_row f (cc 15 (by omega)) (cc 16 (by omega)) (cc 17 (by omega)) (cc 18 (by omega)) (cc 19 (by omega)) (m 3 (by decide)), Wf_row w (m 3 (by decide)), Pa_G p (fun b h1 h2 => cc b (by omega)) (m 5 (by decide)) (m0 5 (by decide)), Im_G i (fun b h1 h2 => cc b (by omega)) (m 6 (by decide)), ?_⟩
  unfold Se
  rw [cc 128 (by omega), m2]
  exact s
theorem fr_RB {wr wf wr2 wf2 : List Nat} {m m' : Bool} (h : RB S1 S2) (hJ : JC S1) (f1 : fr wr wf true m S1 U1) (f2 : fr wr2 wf2 true m' S2 U2) (h1 : ∀ b ∈ LB1, b ∉ wr ∧ b ≠ 0) (h2 : ∀ b ∈ LB2, b ∉ wr2 ∧ b ≠ 0) (h3 : ∀ j ∈ LBF, j ∉ wf2) : RB U1 U2 :=
  RB_G h hJ (fun b hb => funext fun j => f1.1 b j (h1 b hb).1 (h1 b hb).2) (f1.2.2.1 rfl) (fun b hb => funext fun j => f2.1 b j (h2 b hb).1 (h2 b hb).2) (fun j hj => f2.2.1 j (h3 j hj)) (f2.2.2.1 rfl)
/-- both remember, then do something to the folk -/
theorem RB_do (h : RB S1 S2) (hJ : JC S1) (hp : ¬ S2.1 1 0 = 0) (s : Sm15 (S2.1 1 0) (F_X7_remember S1) (F_X10_remember S2) U1 U2) : RB U1 U2 := by
  obtain ⟨a, f, w, p, i, se⟩ := h
  have p2 := rm_Pa (f.2 hp) w p
  obtain ⟨n, x, hn, hx, hm, n20, x20, -⟩ := p
  obtain ⟨⟨a1, a2⟩, -, -, -⟩ := rmC hn hx n20 x20
  obtain ⟨d, -, ⟨b1, b2, b3⟩, -, -, -⟩ := rmM hm n20
  obtain ⟨f', w', ⟨g1, g2⟩, g3, g4⟩ := s
  have lx : x % 20 < 20 := Nat.mod_lt _ (by omega)
  generalize x % 20 = sl at *
  have c : ∀ b, (1 ≤ b ∧ b < 15) ∨ (127 ≤ b) → U1.1 b = S1.1 b := fun b hb => by rw [g1 b (by omega), a1 b (by omega) (by omega)]
  have m : ∀ b, b ≠ 0 → b ≠ 3 → b ≠ 5 → U2.1 b = S2.1 b := fun b h0 h3 h5 => by rw [g3 b h3, b1 b h0 h5]
  have m0 : ∀ j, j ≠ 5 → U2.1 0 j = S2.1 0 j := fun j hj => by rw [g3 0 (by omega), b2 j hj]
  have e1 : U2.1 1 0 = S2.1 1 0 := by rw [m 1 (by omega) (by omega) (by omega)]
  unfold RB
  rw [e1]
  refine ⟨RA_G a hJ ⟨fun b hb => c b (by have z := LG1_a b hb; omega), by rw [g2, a2]⟩ ⟨fun b hb => m b (by revert b; decide) (by revert b; decide) (by revert b; decide), fun j hj => m0 j (by revert j; decide)⟩, Fq_of f', w', Pa_G p2 (fun b h1 h2 => g1 b (by omega)) (g3 5 (by omega)) (by rw [g3 0 (by omega)]), Im_G i (fun b h1 h2 => c b (by omega)) (m 6 (by omega) (by omega) (by omega)), ?_⟩
  unfold Se
  rw [c 128 (by omega), g4, b3]
  exact se
/-- what remembering leaves of the folk -/
theorem rm_fk (h : RB S1 S2) (hp : ¬ S2.1 1 0 = 0) : Fk15 (S2.1 1 0) (F_X7_remember S1) (F_X10_remember S2) ∧ Wf 3 (S2.1 1 0) (F_X10_remember S2) ∧ (F_X10_remember S2).1 1 0 = S2.1 1 0 ∧ (F_X10_remember S2).1 3 = S2.1 3 := by
  obtain ⟨a, f, w, ⟨n, x, hn, hx, hm, n20, x20, -⟩, i, se⟩ := h
  obtain ⟨⟨a1, a2⟩, -, -, -⟩ := rmC hn hx n20 x20
  obtain ⟨d, -, ⟨b1, b2, b3⟩, -, -, -⟩ := rmM hm n20
  have lx : x % 20 < 20 := Nat.mod_lt _ (by omega)
  generalize x % 20 = sl at *
  have m3 := b1 3 (by omega) (by omega)
  exact ⟨Fk_row (f.2 hp) (a1 15 (by omega) (by omega)) (a1 16 (by omega) (by omega)) (a1 17 (by omega) (by omega)) (a1 18 (by omega) (by omega)) (a1 19 (by omega) (by omega)) m3, Wf_row w m3, by rw [b1 1 (by omega) (by omega)], m3⟩
theorem per (h : RB S1 S2) (q : ¬ F_X10_isPerson S2 x = 0) : 0 ≤ x.toInt ∧ x.toInt < (S2.1 1 0).toInt ∧ x.toInt ≤ 6 := by
  have b := h.1.2.2.1.2.1.1
  have z := in_1 b q
  exact ⟨z.1, z.2, by omega⟩
theorem per0 (h : RB S1 S2) (q : ¬ F_X10_isPerson S2 x = 0) : ¬ S2.1 1 0 = 0 := fun e => by
  have z := per h q
  rw [e] at z
  have t : (0 : Int32).toInt = 0 := rfl
  omega
/-- promise 9 -/
theorem sb_die (h : RB S1 S2) (hJ : JC S1) : (F_X9_die S1 x).1 = (F_X10_die S2 x).1 ∧ RB (F_X9_die S1 x).2 (F_X10_die S2 x).2 := by
  have hP := h.1.2.2.1.2.1.1
  rw [F_X9_die, F_X10_die, an_p h.1]
  by_cases q : F_X10_isPerson S2 x = 0
  · rw [if_pos q, if_pos q]
    exact ⟨rfl, h⟩
  · have hx := per h q
    have hp := per0 h q
    have f0 := h.2.1.2 hp
    rw [if_neg q, if_neg q, lc15 f0 h.2.2.1 hP, alv h.2.2.1 ⟨hx.1, hx.2.2⟩]
    by_cases l : lv (S2.1 3 28) x
    · rw [if_pos l, if_neg one0, if_neg one0, F_X9_die_ttc39, F_X9_die_ttc39c47, F_X10_die_ttc26, F_X10_die_ttc26c35]
      obtain ⟨f, w, e1, e3⟩ := rm_fk h hp
      obtain ⟨r1, r2⟩ := by15 (q := x) f w hP e1 (by rw [e3]; exact l)
      exact ⟨r1, RB_do h hJ hp r2⟩
    · rw [if_neg l, if_pos (show (0 : Int32) = 0 from rfl), if_pos (show (0 : Int32) = 0 from rfl)]
      exact ⟨rfl, h⟩
/-- promise 10 -/
theorem sb_sell (h : RB S1 S2) (hJ : JC S1) : (F_X9_sell S1 x y).1 = (F_X10_sell S2 x y).1 ∧ RB (F_X9_sell S1 x y).2 (F_X10_sell S2 x y).2 := by
  have hP := h.1.2.2.1.2.1.1
  rw [F_X9_sell, F_X10_sell, an_p h.1, an_p h.1]
  by_cases q : F_X10_isPerson S2 x = 0
  · rw [if_pos q, if_pos q]
    exact ⟨rfl, h⟩
  · have hx := per h q
    have hp := per0 h q
    have f0 := h.2.1.2 hp
    rw [if_neg q, if_neg q]
    by_cases q2 : F_X10_isPerson S2 y = 0
    · rw [if_pos q2, if_pos q2]
      exact ⟨rfl, h⟩
    · have hy := per h q2
      rw [if_neg q2, if_neg q2]
      by_cases e : x = y
      · rw [if_pos e, if_pos e]
        exact ⟨rfl, h⟩
      · rw [if_neg e, if_neg e, (ms f0 h.2.2.1 hP ⟨hx.1, hx.2.2⟩ ⟨hy.1, hy.2.2⟩).1]
        by_cases q3 : F_X10_maySell S2 x y = 0
        · rw [if_pos q3, if_pos q3]
          exact ⟨rfl, h⟩
        · obtain ⟨f, w, e1, e3⟩ := rm_fk h hp
          have em : F_X10_maySell (F_X10_remember S2) x y = F_X10_maySell S2 x y := by
            rw [F_X10_maySell, F_X10_maySell, F_X10_isAlive, F_X10_isAlive, F_X10_isAlive, F_X10_isAlive, e3]
            rfl
          rw [if_neg q3, if_neg q3, F_X9_sell_ffttc56, F_X9_sell_ffttc56c65, F_X10_sell_ffttc40, F_X10_sell_ffttc40c46]
          have s := so f w hP ⟨hx.1, hx.2.2⟩ ⟨hy.1, hy.2.2⟩ (by rw [em]; exact q3)
          refine ⟨?_, RB_do h hJ hp s⟩
          have cx := pz_cl hx.1
          show F_X3_voiceOf_15 (F_X3_handOver_15 (F_X7_remember S1) x y) x = (F_X10_sells (F_X10_remember S2) x y).1 3 ((0 : Int32) + x).toNatClampNeg
          rw [F_X3_voiceOf_15, one_lc s.1 hP ⟨hx.1, hx.2.1⟩, if_neg one0, Int32.zero_add]
          exact (s.1.2.2.2 x.toNatClampNeg (by omega)).1
/-- promise 11 -/
theorem sb_putBy (h : RB S1 S2) (hJ : JC S1) : (F_X9_putBy S1 x y).1 = (F_X10_putBy S2 x y).1 ∧ RB (F_X9_putBy S1 x y).2 (F_X10_putBy S2 x y).2 := by
  have hP := h.1.2.2.1.2.1.1
  have ev : F_X9_isVoiceNumber S1 y = F_X10_isVoice S2 y := by
    have e : F_X10_isVoice S2 y = if mm_b 0 6 y then 1 else 0 := m_in (lo := 0) (hi := 6)
    rw [e, F_X9_isVoiceNumber]
    by_cases q : y < 0
    · have : y.toInt < 0 := Int32.lt_iff_toInt_lt.mp q
      rw [if_pos q, if_neg (show ¬ mm_b 0 6 y from fun z => by omega)]
    · have q2 : 0 ≤ y.toInt := Int32.le_iff_toInt_le.mp (bd_nlt q)
      rw [if_neg q]
      by_cases r : (7 : Int32) ≤ y
      · have : (7 : Int) ≤ y.toInt := Int32.le_iff_toInt_le.mp r
        rw [if_pos r, if_neg (show ¬ mm_b 0 6 y from fun z => by omega)]
      · have : y.toInt < 7 := Int32.lt_iff_toInt_lt.mp (bd_nle r)
        rw [if_neg r, if_pos (show mm_b 0 6 y from ⟨q2, by omega⟩)]
  rw [F_X9_putBy, F_X10_putBy, an_p h.1, ev]
  by_cases q : F_X10_isPerson S2 x = 0
  · rw [if_pos q, if_pos q]
    exact ⟨rfl, h⟩
  · have hx := per h q
    have hp := per0 h q
    have f0 := h.2.1.2 hp
    have cx := pz_cl hx.1
    rw [if_neg q, if_neg q]
    by_cases q2 : F_X10_isVoice S2 y = 0
    · rw [if_pos q2, if_pos q2]
      exact ⟨rfl, h⟩
    · have hy : mm_b 0 6 y := by
        have e : F_X10_isVoice S2 y = if mm_b 0 6 y then 1 else 0 := m_in (lo := 0) (hi := 6)
        rw [e] at q2
        by_cases z : mm_b 0 6 y
        · exact z
        · rw [if_neg z] at q2
          exact absurd rfl q2
      have c7 : ((7 : Int32) + x).toNatClampNeg = 7 + x.toNatClampNeg := pz_addc (by decide) ⟨hx.1, by omega⟩
      have c0 : ((0 : Int32) + x).toNatClampNeg = x.toNatClampNeg := by rw [Int32.zero_add]
      rw [if_neg q2, if_neg q2, lc15 f0 h.2.2.1 hP, alv h.2.2.1 ⟨hx.1, hx.2.2⟩, F_X3_jarOf_15, one_lc f0 hP ⟨hx.1, hx.2.1⟩, if_neg one0, (f0.2.2.2 x.toNatClampNeg (by omega)).2.1, c7, hw (T := S2) ⟨hy.1, by omega⟩]
      by_cases l : lv (S2.1 3 28) x
      · rw [if_pos l, if_neg one0, if_neg one0]
        by_cases q3 : F_X10_isIn S2 (S2.1 3 (7 + x.toNatClampNeg)) y = 0
        · rw [if_pos q3, if_pos q3]
          exact ⟨rfl, h⟩
        · obtain ⟨f, w, e1, e3⟩ := rm_fk h hp
          have s := pb (p := x) (v := y) f w hP (by rw [e3]; exact l) hy (by rw [e3]; exact q3)
          rw [if_neg q3, if_neg q3, F_X9_putBy_ftftc61, F_X9_putBy_ftftc61c70, F_X10_putBy_ftftc49, F_X10_putBy_ftftc49u82, F_X10_putBy_ftftc49u82c85, c7, c0]
          rw [e3] at s ⊢
          exact ⟨s.1, RB_do h hJ hp s.2⟩
      · rw [if_neg l, if_pos (show (0 : Int32) = 0 from rfl), if_pos (show (0 : Int32) = 0 from rfl)]
        exact ⟨rfl, h⟩
theorem an_heir (h : RA S1 S2) : F_X9_canInherit S1 x y = F_X10_isHeir S2 x y := by
  rw [F_X9_canInherit, F_X10_isHeir, an_p h]
theorem heir_b (h : RB S1 S2) (q : ¬ F_X10_isHeir S2 x y = 0) : mm_b 0 9 y := by
  rw [F_X10_isHeir] at q
  by_cases e : y = 9
  · rw [e]
    decide
  · rw [if_neg e] at q
    by_cases z : F_X10_isPerson S2 y = 0
    · rw [if_pos z] at q
      exact absurd rfl q
    · have := per h z
      exact ⟨this.1, by omega⟩
/-- promise 12 -/
theorem sb_will (h : RB S1 S2) (hJ : JC S1) : (F_X9_will S1 x y z).1 = (F_X10_will S2 x y z).1 ∧ RB (F_X9_will S1 x y z).2 (F_X10_will S2 x y z).2 := by
  have hP := h.1.2.2.1.2.1.1
  rw [F_X9_will, F_X10_will, an_p h.1, an_heir h.1, an_heir h.1]
  by_cases q : F_X10_isPerson S2 x = 0
  · rw [if_pos q, if_pos q]
    exact ⟨rfl, h⟩
  · have hx := per h q
    have hp := per0 h q
    have f0 := h.2.1.2 hp
    have cx := pz_cl hx.1
    rw [if_neg q, if_neg q]
    by_cases q2 : F_X10_isHeir S2 x y = 0
    · rw [if_pos q2, if_pos q2]
      exact ⟨rfl, h⟩
    · rw [if_neg q2, if_neg q2]
      by_cases q3 : F_X10_isHeir S2 x z = 0
      · rw [if_pos q3, if_pos q3]
        exact ⟨rfl, h⟩
      · rw [if_neg q3, if_neg q3, lc15 f0 h.2.2.1 hP, alv h.2.2.1 ⟨hx.1, hx.2.2⟩]
        by_cases l : lv (S2.1 3 28) x
        · obtain ⟨f, w, e1, e3⟩ := rm_fk h hp
          have c14 : ((14 : Int32) + x).toNatClampNeg = 14 + x.toNatClampNeg := pz_addc (by decide) ⟨hx.1, by omega⟩
          have c21 : ((21 : Int32) + x).toNatClampNeg = 21 + x.toNatClampNeg := pz_addc (by decide) ⟨hx.1, by omega⟩
          have s := wc (p := x) (a := y) (b := z) f w hP ⟨hx.1, hx.2.1⟩ (heir_b h q2) (heir_b h q3)
          have v := f.2.2.2 x.toNatClampNeg (by omega)
          rw [if_pos l, if_neg one0, if_neg one0, F_X9_will_ffttc57, F_X9_will_ffttc57c89, F_X10_will_ffttc44, c14, c21, F_X3_firstHeir_15, F_X3_secondHeir_15, one_lc f hP ⟨hx.1, hx.2.1⟩, if_neg one0, if_neg one0, v.2.2.1, v.2.2.2]
          exact ⟨rfl, RB_do h hJ hp s⟩
        · rw [if_neg l, if_pos (show (0 : Int32) = 0 from rfl), if_pos (show (0 : Int32) = 0 from rfl)]
          exact ⟨rfl, h⟩
/-- promise 14 -/
theorem sb_undo (h : RB S1 S2) (hJ : JC S1) : (F_X9_undo S1).1 = (F_X10_undo S2).1 ∧ RB (F_X9_undo S1).2 (F_X10_undo S2).2 := by
  obtain ⟨a, f, w, p, i, s⟩ := h
  by_cases q : S2.1 0 5 = 0
  · obtain ⟨e1, e2⟩ := un_no p q
    rw [e1, e2]
    exact ⟨rfl, a, f, w, p, i, s⟩
  · obtain ⟨r1, f', w', p', ⟨c1, c2⟩, m1, m0, m2⟩ := un_ok p q
    refine ⟨r1, ?_⟩
    generalize (F_X9_undo S1).2 = U1 at *
    generalize (F_X10_undo S2).2 = U2 at *
    have e1 : U2.1 1 0 = S2.1 1 0 := by rw [m1 1 (by omega) (by omega)]
    unfold RB
    rw [e1]
    refine ⟨RA_G a hJ ⟨fun b hb => c1 b (by have z := LG1_a b hb; omega) (by revert b; decide), c2⟩ ⟨fun b hb => m1 b (by revert b; decide) (by revert b; decide), fun j hj => m0 j (by revert j; decide)⟩, Fq_of f', w', p', Im_G i (fun b h1 h2 => c1 b (by omega) (by omega)) (m1 6 (by omega) (by omega)), ?_⟩
    unfold Se
    rw [c1 128 (by omega) (by omega), m2]
    exact s
end RBs
