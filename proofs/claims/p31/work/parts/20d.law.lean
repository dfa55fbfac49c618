section LC
variable {p : Program} {l : Launch} {e : Env} {s : State} {m : MethodId} {below : List Frame} {meth : Method} {c : Code} {b L : Nat} {xs : Nat → Int32} {Q : State → Prop} {g1 g2 : mm_G}
variable {i : Int32} {H : Heap} {locs : List Loc} {lsA : Array Slot} {k n : Nat} {S1 S2 : mm_S} {pc : Nat} {st st0 : List Value}
set_option maxRecDepth 100000 in
theorem la_sw (E : la_E p s m meth c b L xs g1 g2) (hR : Rl S1 S2) (hW : la_w s g1 g2 S1 S2 H locs) (hl : lv_has lsA 4 (la_ls g1 g2 b i)) (hkn : k ≤ room_1.cells ∧ n ≤ room_1.slots) (hin : ∀ v : Int32, 0 ≤ v.toInt ∧ v.toInt ≤ 4 → vp_in (i + v) L) (kk : ∀ (S1 S2 : mm_S) (H : Heap) (locs : List Loc), Rl S1 S2 → la_w s g1 g2 S1 S2 H locs → W p l e room_1 s m #[Value.ref b] below meth c H locs k n Q (F0 m 984 lsA [])) {v : Int32} {j : Nat} (hj : v.toInt = j) (hj30 : j < 30) : W p l e room_1 s m #[Value.ref b] below meth c H locs k n Q (F0 m 32 lsA [.int v]) := by
  match j, hj, hj30 with
  | 0, hj, _ => exact lv_tableIn (off := 136) (tgt := 168) E.1.1 E.1.2.1 dL_law_32 (by rw [hj]; decide) (by rw [hj]; decide) (by rw [hj]; rfl) (by decide) (la_c0 E hR hW hl hkn hin kk)
  | 1, hj, _ => exact lv_tableIn (off := 159) (tgt := 191) E.1.1 E.1.2.1 dL_law_32 (by rw [hj]; decide) (by rw [hj]; decide) (by rw [hj]; rfl) (by decide) (la_c1 E hR hW hl hkn hin kk)
  | 2, hj, _ => exact lv_tableIn (off := 172) (tgt := 204) E.1.1 E.1.2.1 dL_law_32 (by rw [hj]; decide) (by rw [hj]; decide) (by rw [hj]; rfl) (by decide) (la_c2 E hR hW hl hkn hin kk)
  | 3, hj, _ => exact lv_tableIn (off := 185) (tgt := 217) E.1.1 E.1.2.1 dL_law_32 (by rw [hj]; decide) (by rw [hj]; decide) (by rw [hj]; rfl) (by decide) (la_c3 E hR hW hl hkn hin kk)
  | 4, hj, _ => exact lv_tableIn (off := 208) (tgt := 240) E.1.1 E.1.2.1 dL_law_32 (by rw [hj]; decide) (by rw [hj]; decide) (by rw [hj]; rfl) (by decide) (la_c4 E hR hW hl hkn hin kk)
  | 5, hj, _ => exact lv_tableIn (off := 241) (tgt := 273) E.1.1 E.1.2.1 dL_law_32 (by rw [hj]; decide) (by rw [hj]; decide) (by rw [hj]; rfl) (by decide) (la_c5 E hR hW hl hkn hin kk)
  | 6, hj, _ => exact lv_tableIn (off := 264) (tgt := 296) E.1.1 E.1.2.1 dL_law_32 (by rw [hj]; decide) (by rw [hj]; decide) (by rw [hj]; rfl) (by decide) (la_c6 E hR hW hl hkn hin kk)
  | 7, hj, _ => exact lv_tableIn (off := 287) (tgt := 319) E.1.1 E.1.2.1 dL_law_32 (by rw [hj]; decide) (by rw [hj]; decide) (by rw [hj]; rfl) (by decide) (la_c7 E hR hW hl hkn hin kk)
  | 8, hj, _ => exact lv_tableIn (off := 310) (tgt := 342) E.1.1 E.1.2.1 dL_law_32 (by rw [hj]; decide) (by rw [hj]; decide) (by rw [hj]; rfl) (by decide) (la_c8 E hR hW hl hkn hin kk)
  | 9, hj, _ => exact lv_tableIn (off := 343) (tgt := 375) E.1.1 E.1.2.1 dL_law_32 (by rw [hj]; decide) (by rw [hj]; decide) (by rw [hj]; rfl) (by decide) (la_c9 E hR hW hl hkn hin kk)
  | 10, hj, _ => exact lv_tableIn (off := 376) (tgt := 408) E.1.1 E.1.2.1 dL_law_32 (by rw [hj]; decide) (by rw [hj]; decide) (by rw [hj]; rfl) (by decide) (la_c10 E hR hW hl hkn hin kk)
  | 11, hj, _ => exact lv_tableIn (off := 419) (tgt := 451) E.1.1 E.1.2.1 dL_law_32 (by rw [hj]; decide) (by rw [hj]; decide) (by rw [hj]; rfl) (by decide) (la_c11 E hR hW hl hkn hin kk)
  | 12, hj, _ => exact lv_tableIn (off := 442) (tgt := 474) E.1.1 E.1.2.1 dL_law_32 (by rw [hj]; decide) (by rw [hj]; decide) (by rw [hj]; rfl) (by decide) (la_c12 E hR hW hl hkn hin kk)
  | 13, hj, _ => exact lv_tableIn (off := 455) (tgt := 487) E.1.1 E.1.2.1 dL_law_32 (by rw [hj]; decide) (by rw [hj]; decide) (by rw [hj]; rfl) (by decide) (la_c13 E hR hW hl hkn hin kk)
  | 14, hj, _ => exact lv_tableIn (off := 488) (tgt := 520) E.1.1 E.1.2.1 dL_law_32 (by rw [hj]; decide) (by rw [hj]; decide) (by rw [hj]; rfl) (by decide) (la_c14 E hR hW hl hkn hin kk)
  | 15, hj, _ => exact lv_tableIn (off := 521) (tgt := 553) E.1.1 E.1.2.1 dL_law_32 (by rw [hj]; decide) (by rw [hj]; decide) (by rw [hj]; rfl) (by decide) (la_c15 E hR hW hl hkn hin kk)
  | 16, hj, _ => exact lv_tableIn (off := 574) (tgt := 606) E.1.1 E.1.2.1 dL_law_32 (by rw [hj]; decide) (by rw [hj]; decide) (by rw [hj]; rfl) (by decide) (la_c16 E hR hW hl hkn hin kk)
  | 17, hj, _ => exact lv_tableIn (off := 597) (tgt := 629) E.1.1 E.1.2.1 dL_law_32 (by rw [hj]; decide) (by rw [hj]; decide) (by rw [hj]; rfl) (by decide) (la_c17 E hR hW hl hkn hin kk)
  | 18, hj, _ => exact lv_tableIn (off := 630) (tgt := 662) E.1.1 E.1.2.1 dL_law_32 (by rw [hj]; decide) (by rw [hj]; decide) (by rw [hj]; rfl) (by decide) (la_c18 E hR hW hl hkn hin kk)
  | 19, hj, _ => exact lv_tableIn (off := 673) (tgt := 705) E.1.1 E.1.2.1 dL_law_32 (by rw [hj]; decide) (by rw [hj]; decide) (by rw [hj]; rfl) (by decide) (la_c19 E hR hW hl hkn hin kk)
  | 20, hj, _ => exact lv_tableIn (off := 722) (tgt := 754) E.1.1 E.1.2.1 dL_law_32 (by rw [hj]; decide) (by rw [hj]; decide) (by rw [hj]; rfl) (by decide) (la_c20 E hR hW hl hkn hin kk)
  | 21, hj, _ => exact lv_tableIn (off := 745) (tgt := 777) E.1.1 E.1.2.1 dL_law_32 (by rw [hj]; decide) (by rw [hj]; decide) (by rw [hj]; rfl) (by decide) (la_c21 E hR hW hl hkn hin kk)
  | 22, hj, _ => exact lv_tableIn (off := 758) (tgt := 790) E.1.1 E.1.2.1 dL_law_32 (by rw [hj]; decide) (by rw [hj]; decide) (by rw [hj]; rfl) (by decide) (la_c22 E hR hW hl hkn hin kk)
  | 23, hj, _ => exact lv_tableIn (off := 791) (tgt := 823) E.1.1 E.1.2.1 dL_law_32 (by rw [hj]; decide) (by rw [hj]; decide) (by rw [hj]; rfl) (by decide) (la_c23 E hR hW hl hkn hin kk)
  | 24, hj, _ => exact lv_tableIn (off := 824) (tgt := 856) E.1.1 E.1.2.1 dL_law_32 (by rw [hj]; decide) (by rw [hj]; decide) (by rw [hj]; rfl) (by decide) (la_c24 E hR hW hl hkn hin kk)
  | 25, hj, _ => exact lv_tableIn (off := 857) (tgt := 889) E.1.1 E.1.2.1 dL_law_32 (by rw [hj]; decide) (by rw [hj]; decide) (by rw [hj]; rfl) (by decide) (la_c25 E hR hW hl hkn hin kk)
  | 26, hj, _ => exact lv_tableIn (off := 870) (tgt := 902) E.1.1 E.1.2.1 dL_law_32 (by rw [hj]; decide) (by rw [hj]; decide) (by rw [hj]; rfl) (by decide) (la_c26 E hR hW hl hkn hin kk)
  | 27, hj, _ => exact lv_tableIn (off := 883) (tgt := 915) E.1.1 E.1.2.1 dL_law_32 (by rw [hj]; decide) (by rw [hj]; decide) (by rw [hj]; rfl) (by decide) (la_c27 E hR hW hl hkn hin kk)
  | 28, hj, _ => exact lv_tableIn (off := 906) (tgt := 938) E.1.1 E.1.2.1 dL_law_32 (by rw [hj]; decide) (by rw [hj]; decide) (by rw [hj]; rfl) (by decide) (la_c28 E hR hW hl hkn hin kk)
  | 29, hj, _ => exact lv_tableIn (off := 929) (tgt := 961) E.1.1 E.1.2.1 dL_law_32 (by rw [hj]; decide) (by rw [hj]; decide) (by rw [hj]; rfl) (by decide) (la_c29 E hR hW hl hkn hin kk)
  | j + 30, _, h => omega
theorem la_lt {g : mm_G} {w : List mm_E} {H : Heap} (h : va_P g.1 vwCl (mm_w g w) H) {i : Nat} (hi : i < w.length) : g.2.2.1 + i < H.size := (h i _ (mm_w_get (List.getElem?_eq_getElem hi))).lt
theorem la_in {i : Int32} {L : Nat} (h : 0 ≤ i.toInt ∧ i.toInt < L) : vp_in i L := by
  intro q
  rcases q with q | q
  · have h1 := Int32.lt_iff_toInt_lt.mp q
    have e : (0 : Int32).toInt = 0 := rfl
    omega
  · have e : i.toNatClampNeg = i.toInt.toNat := rfl
    omega
theorem la_nat {L : Nat} (h : L ≤ 2560) : (Int32.ofNat L).toInt = L := by
  first
    | exact Int32.toInt_ofNat_of_lt (by omega)
    | rw [Int32.toInt_ofNat, bd_bmod (by omega) (by omega)]
set_option maxRecDepth 100000 in
set_option maxHeartbeats 4000000 in
theorem la_loop (E : la_E p s m meth c b L xs g1 g2) (hkn : k ≤ room_1.cells ∧ n ≤ room_1.slots) (hL : L ≤ 2560) (d : Nat) : ∀ (i : Int32) (S1 S2 : mm_S) (H : Heap) (locs : List Loc) (lsA : Array Slot), Rl S1 S2 → la_w s g1 g2 S1 S2 H locs → lv_has lsA 4 (la_ls g1 g2 b i) → 0 ≤ i.toInt → i.toInt ≤ 2565 → 2600 ≤ i.toInt + d → W p l e room_1 s m #[Value.ref b] below meth c H locs k n (lw_Z below #[Value.ref b] s) (F0 m 18 lsA []) := by
  induction d with
  | zero =>
    intro i S1 S2 H locs lsA hR hW hl h0 h1 h2
    omega
  | succ d ih =>
    intro i S1 S2 H locs lsA hR hW hl h0 h1 h2
    have hbA : ¬ (s.heap.size ≤ b) := fun h => absurd E.1.2.2.2.2.2.2.2.1 (Nat.not_lt.mpr h)
    refine lv_iload_n E.1.1 E.1.2.1 dL_law_18 rfl (lv_at hl 0 rfl) ?_
    refine lv_aload_n E.1.1 E.1.2.1 dL_law_19 rfl (lv_at hl 3 rfl) ?_
    refine va_slen E.1.1 E.1.2.1 E.1.2.2.2.2.2.2.1 E.1.2.2.2.2.2.2.2.1 hbA hW.2.2.2.2 dL_law_20 ?_
    refine lv_iconst (v := 5) E.1.1 E.1.2.1 dL_law_21 (by decide) ?_
    refine lv_isub E.1.1 E.1.2.1 dL_law_22 ?_
    have e5 : (Int32.ofNat L - 5).toInt = (L : Int) - 5 := by
      have e1 := la_nat hL
      have e2 : (5 : Int32).toInt = 5 := rfl
      rw [bd_ti_sub (by omega) (by omega), e1, e2]
    refine lv_icmp_gt (tgt := 990) E.1.1 E.1.2.1 dL_law_23 (by decide) (fun _ => ?_) (fun q => ?_)
    · refine lv_iconst (v := 1) E.1.1 E.1.2.1 dL_law_990 (by decide) ?_
      refine va_forget (fun q hq => hW.2.2.2.2.2.2 q hq) ?_
      exact W.widen (k := 600000) (n := 7302250) hkn.1 hkn.2 (lw_ret E.1.1 E.1.2.1 E.1.2.2.1 E.1.2.2.2.2.2.2.2.2.1 dL_law_991)
    · have hi : i.toInt ≤ (L : Int) - 5 := by
        have h3 : ¬ (Int32.ofNat L - 5).toInt < i.toInt := fun h => q (Int32.lt_iff_toInt_lt.mpr h)
        omega
      have hin : ∀ v : Int32, 0 ≤ v.toInt ∧ v.toInt ≤ 4 → vp_in (i + v) L := fun v hv => la_in (by
        rw [bd_ti_add (by omega) (by omega)]
        omega)
      have hk : ∀ (S1 S2 : mm_S) (H : Heap) (locs : List Loc), Rl S1 S2 → la_w s g1 g2 S1 S2 H locs → W p l e room_1 s m #[Value.ref b] below meth c H locs k n (lw_Z below #[Value.ref b] s) (F0 m 984 lsA []) := by
        intro S1 S2 H locs hR hW
        have e1 : (Int32.ofInt 5).toInt = 5 := rfl
        have e2 : (i + Int32.ofInt 5).toInt = i.toInt + 5 := by rw [bd_ti_add (by omega) (by omega), e1]
        refine lv_iinc (lv' := la_ls g1 g2 b (i + Int32.ofInt 5)) (k := 0) E.1.1 E.1.2.1 dL_law_984 hl rfl rfl (by decide) rfl (fun lsB hB => ?_)
        refine lv_goto (tgt := 18) E.1.1 E.1.2.1 dL_law_987 (by decide) ?_
        exact ih (i + Int32.ofInt 5) S1 S2 H locs lsB hR hW hB (by omega) (by omega) (by omega)
      refine lv_aload_n E.1.1 E.1.2.1 dL_law_26 rfl (lv_at hl 3 rfl) ?_
      refine lv_iload_n E.1.1 E.1.2.1 dL_law_27 rfl (lv_at hl 0 rfl) ?_
      refine va_sld E.1.1 E.1.2.1 E.1.2.2.2.2.2.2.1 E.1.2.2.2.2.2.2.2.1 hbA hW.2.2.2.2 (la_in ⟨h0, by omega⟩) dL_law_28 ?_
      refine lv_bipush (v := 31) E.1.1 E.1.2.1 dL_law_29 (by decide) ?_
      refine lv_iand E.1.1 E.1.2.1 dL_law_31 ?_
      generalize xs i.toNatClampNeg &&& 31 = v
      by_cases ho : v.toInt < 0 ∨ 29 < v.toInt
      · exact lv_tableOut (tgt := 984) E.1.1 E.1.2.1 dL_law_32 ho (by decide) (hk _ _ _ _ hR hW)
      · obtain ⟨j, hj⟩ : ∃ j : Nat, v.toInt = j := ⟨v.toInt.toNat, by omega⟩
        have hj30 : j < 30 := by omega
        exact la_sw E hR hW hl hkn hin hk hj hj30
set_option maxRecDepth 100000 in
set_option maxHeartbeats 4000000 in
theorem la_start (l : Launch) (hL : L ≤ 2560) (C0 : lw_At p s m meth c b L xs) : W p l e room_1 s m #[Value.ref b] below meth c s.heap [] 0 0 (lw_Z below #[Value.ref b] s) (entryFrame m ([Value.ref b] : List Value).toArray 4) := by
  obtain ⟨G, z, ids, hK⟩ := la_K0 C0.2.2.2.2.2.1 C0.2.2.2.2.2.2.2.2.2 m.cls
  have hF := la_F0 C0.2.2.2.2.2.1
  have hl0 := lv_entry [Value.ref b] (n := 4) (Nat.le_of_ble_eq_true rfl)
  rw [lg_entry_eq]
  refine la_make (ga := (G, z, s.heap.size, ids, fun q => s.heap.size ≤ q)) (N := 13) C0 (hK _ _ (fun a h1 h2 => absurd h1 (Nat.not_lt.mpr h2))) hF rfl (fun _ => Iff.rfl) va_S.rf hl0.1 dL_law_0 dL_law_3 dL_law_4 lc_7 kc_D9 lm_9 tl_X9_init (Nat.le_of_ble_eq_true rfl) ⟨Nat.le_of_ble_eq_true rfl, Nat.le_of_ble_eq_true rfl⟩ ⟨Nat.le_of_ble_eq_true rfl, Nat.le_of_ble_eq_true rfl⟩ k_class1x (fun r w1 H1 locs1 hQ hH1 hS1 hz1 ho1 => ?_)
  obtain ⟨S1, hr1, hw1, hJ1, hz1a⟩ := hQ
  replace hw1 := hw1.symm
  subst hw1
  replace hr1 := hr1.symm
  subst hr1
  refine lv_astore_n (lv' := [(1, .ref s.heap.size), (0, .ref b)]) C0.1 C0.2.1 dL_law_7 rfl hl0 (by decide) rfl (fun ls1 hl1 => ?_)
  refine la_make (ga := (G, z, H1.size, ids, fun q => H1.size ≤ q)) (N := 25) C0 (hK _ _ (fun a h1 h2 => absurd h1 (Nat.not_lt.mpr (Nat.le_trans hz1 h2)))) hF rfl (fun _ => Iff.rfl) hS1 hl1.1 dL_law_8 dL_law_11 dL_law_12 lc_10 kc_D10 lm_12 tl_X10_init (Nat.le_of_ble_eq_true rfl) ⟨Nat.le_of_ble_eq_true rfl, Nat.le_of_ble_eq_true rfl⟩ ⟨Nat.le_of_ble_eq_true rfl, Nat.le_of_ble_eq_true rfl⟩ k_modelx (fun r w1 H2 locs2 hQ hH2 hS2 hz2 ho2 => ?_)
  obtain ⟨S2, hr2, hw2, hJ2, hz2a⟩ := hQ
  replace hw2 := hw2.symm
  subst hw2
  replace hr2 := hr2.symm
  subst hr2
  refine lv_astore_n (lv' := [(2, .ref H1.size), (1, .ref s.heap.size), (0, .ref b)]) C0.1 C0.2.1 dL_law_15 rfl hl1 (by decide) rfl (fun ls2 hl2 => ?_)
  refine lv_iconst (v := 0) C0.1 C0.2.1 dL_law_16 (by decide) ?_
  refine lv_istore_n (lv' := la_ls (G, z, s.heap.size, ids, fun q => s.heap.size ≤ q ∧ q < H1.size) (G, z, H1.size, ids, fun q => H1.size ≤ q) b 0) C0.1 C0.2.1 dL_law_17 rfl hl2 (by decide) rfl (fun ls3 hl3 => ?_)
  refine la_loop (g1 := (G, z, s.heap.size, ids, fun q => s.heap.size ≤ q ∧ q < H1.size)) (g2 := (G, z, H1.size, ids, fun q => H1.size ≤ q)) ⟨C0, hK _ _ (fun a h1 h2 => absurd h1 (Nat.not_lt.mpr h2.1)), hK _ _ (fun a h1 h2 => absurd h1 (Nat.not_lt.mpr (Nat.le_trans hz1 h2))), fun _ h => h.1, fun _ h => Nat.le_trans hz1 h, fun _ h1 h2 => absurd h2.2 (Nat.not_lt.mpr h1), fun _ h1 h2 => absurd h1.2 (Nat.not_lt.mpr h2)⟩ ⟨Nat.le_of_ble_eq_true rfl, Nat.le_of_ble_eq_true rfl⟩ hL 2600 0 S1 S2 H2 locs2 ls3 (by rw [hz1a]; exact Rl_0 _ hz2a) ⟨hJ1, hJ2, ⟨?_, ?_, hH1.2.2⟩, hH2, hS2⟩ hl3 (by decide) (by decide) (by decide)
  · exact va_P.kept (H := H1) hH1.1 (fun k x hx => ho2 _ ((hH1.1 k x hx).lt))
  · refine mm_D (fun i hi => ⟨Nat.le_add_right _ _, ?_⟩)
    exact la_lt (g := (G, z, s.heap.size, ids, fun q => s.heap.size ≤ q)) hH1.1 hi
end LC
theorem whole_start {p : Program} {e : Env} {s : State} {m : MethodId} {below : List Frame} {meth : Method} {c : Code} (l : Launch) {b L : Nat} {xs : Nat → Int32} (hL : L ≤ 2560) (C0 : lw_At p s m meth c b L xs) : W p l e room_1 s m #[Value.ref b] below meth c s.heap [] 0 0 (lw_Z below #[Value.ref b] s) (entryFrame m ([Value.ref b] : List Value).toArray 4) := la_start l hL C0
