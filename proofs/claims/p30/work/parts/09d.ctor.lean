/-! ===== constructors: Past, the class, the reference ===== -/
theorem kc_RX7_9 : Cond.classLink RX7 9 RX3 ∈ mm_ok := mm_in 199 (by decide +kernel) rfl
theorem ko_RX7 : Cond.methodLink RX7 3 Lib.objectInit ∈ mm_ok := mm_in 198 (by decide +kernel) rfl
theorem ko_RX9 : Cond.methodLink RX9 1 Lib.objectInit ∈ mm_ok := mm_in 90 (by decide +kernel) rfl
theorem kc_RX9_7 : Cond.classLink RX9 7 RX8 ∈ mm_ok := mm_in 93 (by decide +kernel) rfl
theorem kc_RX9_16 : Cond.classLink RX9 16 RX6 ∈ mm_ok := mm_in 122 (by decide +kernel) rfl
theorem kc_RX9_26 : Cond.classLink RX9 26 RX3 ∈ mm_ok := mm_in 163 (by decide +kernel) rfl
theorem kc_RX9_36 : Cond.classLink RX9 36 RX7 ∈ mm_ok := mm_in 193 (by decide +kernel) rfl
theorem kc_RX9_43 : Cond.classLink RX9 43 RX4 ∈ mm_ok := mm_in 213 (by decide +kernel) rfl
theorem kc_RX9_49 : Cond.classLink RX9 49 RX1 ∈ mm_ok := mm_in 215 (by decide +kernel) rfl
theorem kc_RX9_56 : Cond.classLink RX9 56 RX2 ∈ mm_ok := mm_in 226 (by decide +kernel) rfl
theorem kc_RX9_71 : Cond.classLink RX9 71 RX5 ∈ mm_ok := mm_in 246 (by decide +kernel) rfl
theorem kc_RX9_78 : Cond.classLink RX9 78 RX0 ∈ mm_ok := mm_in 262 (by decide +kernel) rfl
theorem ko_RX10 : Cond.methodLink RX10 1 Lib.objectInit ∈ mm_ok := mm_in 900 (by decide +kernel) rfl
theorem gX7_11 : Cond.fieldLink RX7 11 (TX7 2).1 (TX7 2).2.1 (TX7 2).2.2.1 ∈ mm_ok := mm_in 205 (by decide +kernel) rfl
theorem qmX7_17 : Cond.methodLinkNest RX7 17 yX3_init "VoiceWills" ∈ mm_nest := mm_inN 201 (by decide +kernel) rfl
theorem qmX9_9 : Cond.methodLinkNest RX9 9 yX8_init "VoiceWills" ∈ mm_nest := mm_inN 95 (by decide +kernel) rfl
theorem tk_X8_init : mm_mk yX8_init cX8_init 1 0 := ⟨mm_in 97 (by decide +kernel) rfl, mm_in 96 (by decide +kernel) rfl, rfl, mm_in 73 (by decide +kernel) rfl, by decide, by decide, by decide +kernel⟩
theorem gX9_10 : Cond.fieldLink RX9 10 (TX9 0).1 (TX9 0).2.1 (TX9 0).2.2.1 ∈ mm_ok := mm_in 298 (by decide +kernel) rfl
theorem qmX9_18 : Cond.methodLinkNest RX9 18 yX6_init "VoiceWills" ∈ mm_nest := mm_inN 124 (by decide +kernel) rfl
theorem tk_X6_init : mm_mk yX6_init cX6_init 1 0 := ⟨mm_in 126 (by decide +kernel) rfl, mm_in 125 (by decide +kernel) rfl, rfl, mm_in 74 (by decide +kernel) rfl, by decide, by decide, by decide +kernel⟩
theorem gX9_19 : Cond.fieldLink RX9 19 (TX9 1).1 (TX9 1).2.1 (TX9 1).2.2.1 ∈ mm_ok := mm_in 299 (by decide +kernel) rfl
theorem gX9_23 : Cond.fieldLink RX9 23 (TX9 2).1 (TX9 2).2.1 (TX9 2).2.2.1 ∈ mm_ok := mm_in 300 (by decide +kernel) rfl
theorem qmX9_28 : Cond.methodLinkNest RX9 28 yX3_init "VoiceWills" ∈ mm_nest := mm_inN 165 (by decide +kernel) rfl
theorem gX9_29 : Cond.fieldLink RX9 29 (TX9 3).1 (TX9 3).2.1 (TX9 3).2.2.1 ∈ mm_ok := mm_in 301 (by decide +kernel) rfl
theorem gX9_33 : Cond.fieldLink RX9 33 (TX9 4).1 (TX9 4).2.1 (TX9 4).2.2.1 ∈ mm_ok := mm_in 302 (by decide +kernel) rfl
theorem qmX9_38 : Cond.methodLink RX9 38 yX7_init ∈ mm_ok := mm_in 195 (by decide +kernel) rfl
theorem tk_X7_init : mm_mk yX7_init cX7_init 2 0 := ⟨mm_in 197 (by decide +kernel) rfl, mm_in 196 (by decide +kernel) rfl, rfl, mm_in 76 (by decide +kernel) rfl, by decide, by decide, by decide +kernel⟩
theorem gX9_39 : Cond.fieldLink RX9 39 (TX9 5).1 (TX9 5).2.1 (TX9 5).2.2.1 ∈ mm_ok := mm_in 303 (by decide +kernel) rfl
theorem gX9_45 : Cond.fieldLink RX9 45 (TX9 6).1 (TX9 6).2.1 (TX9 6).2.2.1 ∈ mm_ok := mm_in 304 (by decide +kernel) rfl
theorem qmX9_51 : Cond.methodLinkNest RX9 51 yX1_init "VoiceWills" ∈ mm_nest := mm_inN 217 (by decide +kernel) rfl
theorem tk_X1_init : mm_mk yX1_init cX1_init 1 0 := ⟨mm_in 219 (by decide +kernel) rfl, mm_in 218 (by decide +kernel) rfl, rfl, mm_in 77 (by decide +kernel) rfl, by decide, by decide, by decide +kernel⟩
theorem gX9_52 : Cond.fieldLink RX9 52 (TX9 7).1 (TX9 7).2.1 (TX9 7).2.2.1 ∈ mm_ok := mm_in 305 (by decide +kernel) rfl
theorem qmX9_58 : Cond.methodLink RX9 58 yX2_init ∈ mm_ok := mm_in 228 (by decide +kernel) rfl
theorem tk_X2_init : mm_mk yX2_init cX2_init 3 1 := ⟨mm_in 230 (by decide +kernel) rfl, mm_in 229 (by decide +kernel) rfl, rfl, mm_in 78 (by decide +kernel) rfl, by decide, by decide, by decide +kernel⟩
theorem gX9_61 : Cond.fieldLink RX9 61 (TX9 8).1 (TX9 8).2.1 (TX9 8).2.2.1 ∈ mm_ok := mm_in 306 (by decide +kernel) rfl
theorem gX9_65 : Cond.fieldLink RX9 65 (TX9 9).1 (TX9 9).2.1 (TX9 9).2.2.1 ∈ mm_ok := mm_in 307 (by decide +kernel) rfl
theorem gX9_68 : Cond.fieldLink RX9 68 (TX9 10).1 (TX9 10).2.1 (TX9 10).2.2.1 ∈ mm_ok := mm_in 308 (by decide +kernel) rfl
theorem qmX9_73 : Cond.methodLinkNest RX9 73 yX5_init "VoiceWills" ∈ mm_nest := mm_inN 248 (by decide +kernel) rfl
theorem tk_X5_init : mm_mk yX5_init cX5_init 1 0 := ⟨mm_in 250 (by decide +kernel) rfl, mm_in 249 (by decide +kernel) rfl, rfl, mm_in 80 (by decide +kernel) rfl, by decide, by decide, by decide +kernel⟩
theorem gX9_74 : Cond.fieldLink RX9 74 (TX9 11).1 (TX9 11).2.1 (TX9 11).2.2.1 ∈ mm_ok := mm_in 309 (by decide +kernel) rfl
theorem qmX9_80 : Cond.methodLinkNest RX9 80 yX0_init "VoiceWills" ∈ mm_nest := mm_inN 264 (by decide +kernel) rfl
theorem tk_X0_init : mm_mk yX0_init cX0_init 1 0 := ⟨mm_in 266 (by decide +kernel) rfl, mm_in 265 (by decide +kernel) rfl, rfl, mm_in 81 (by decide +kernel) rfl, by decide, by decide, by decide +kernel⟩
theorem gX9_81 : Cond.fieldLink RX9 81 (TX9 12).1 (TX9 12).2.1 (TX9 12).2.2.1 ∈ mm_ok := mm_in 310 (by decide +kernel) rfl
theorem qmX9_85 : Cond.methodLinkNest RX9 85 yX4_init "VoiceWills" ∈ mm_nest := mm_inN 281 (by decide +kernel) rfl
theorem tk_X4_init : mm_mk yX4_init cX4_init 1 0 := ⟨mm_in 283 (by decide +kernel) rfl, mm_in 282 (by decide +kernel) rfl, rfl, mm_in 82 (by decide +kernel) rfl, by decide, by decide, by decide +kernel⟩
theorem gX10_7 : Cond.fieldLink RX10 7 (TX10 0).1 (TX10 0).2.1 (TX10 0).2.2.1 ∈ mm_ok := mm_in 916 (by decide +kernel) rfl
theorem gX10_13 : Cond.fieldLink RX10 13 (TX10 1).1 (TX10 1).2.1 (TX10 1).2.2.1 ∈ mm_ok := mm_in 917 (by decide +kernel) rfl
theorem gX10_16 : Cond.fieldLink RX10 16 (TX10 2).1 (TX10 2).2.1 (TX10 2).2.2.1 ∈ mm_ok := mm_in 918 (by decide +kernel) rfl
theorem gX10_19 : Cond.fieldLink RX10 19 (TX10 3).1 (TX10 3).2.1 (TX10 3).2.2.1 ∈ mm_ok := mm_in 919 (by decide +kernel) rfl
theorem gX10_22 : Cond.fieldLink RX10 22 (TX10 4).1 (TX10 4).2.1 (TX10 4).2.2.1 ∈ mm_ok := mm_in 920 (by decide +kernel) rfl
theorem gX10_25 : Cond.fieldLink RX10 25 (TX10 6).1 (TX10 6).2.1 (TX10 6).2.2.1 ∈ mm_ok := mm_in 922 (by decide +kernel) rfl
theorem gX10_28 : Cond.fieldLink RX10 28 (TX10 7).1 (TX10 7).2.1 (TX10 7).2.2.1 ∈ mm_ok := mm_in 923 (by decide +kernel) rfl
theorem gX10_32 : Cond.fieldLink RX10 32 (TX10 9).1 (TX10 9).2.1 (TX10 9).2.2.1 ∈ mm_ok := mm_in 925 (by decide +kernel) rfl
theorem gX10_35 : Cond.fieldLink RX10 35 (TX10 11).1 (TX10 11).2.1 (TX10 11).2.2.1 ∈ mm_ok := mm_in 927 (by decide +kernel) rfl
theorem gX10_39 : Cond.fieldLink RX10 39 (TX10 12).1 (TX10 12).2.1 (TX10 12).2.2.1 ∈ mm_ok := mm_in 928 (by decide +kernel) rfl
theorem gX10_42 : Cond.fieldLink RX10 42 (TX10 14).1 (TX10 14).2.1 (TX10 14).2.2.1 ∈ mm_ok := mm_in 930 (by decide +kernel) rfl
theorem gX10_45 : Cond.fieldLink RX10 45 (TX10 16).1 (TX10 16).2.1 (TX10 16).2.2.1 ∈ mm_ok := mm_in 932 (by decide +kernel) rfl
theorem gX10_48 : Cond.fieldLink RX10 48 (TX10 24).1 (TX10 24).2.1 (TX10 24).2.2.1 ∈ mm_ok := mm_in 940 (by decide +kernel) rfl
theorem rs_choir_len (b : Nat) : (rs_choir b).length = 11 := rfl
theorem rs_draws_len (b : Nat) : (rs_draws b).length = 1 := rfl
theorem rs_ent6_len (b : Nat) : (rs_ent6 b).length = 3 := rfl
theorem rs_ent15_len (b : Nat) : (rs_ent15 b).length = 3 := rfl
theorem rs_folk_len (b : Nat) : (rs_folk b).length = 5 := rfl
theorem rs_line_len (b : Nat) : (rs_line b).length = 2 := rfl
theorem rs_parish_len (b : Nat) : (rs_parish b).length = 6 := rfl
theorem rs_reader_len (b : Nat) : (rs_reader b).length = 2 := rfl
theorem rs_image_len (b : Nat) : (rs_image b).length = 6 := rfl
def fk (c : Nat) : Nat → List mm_E
  | 0 => []
  | k + 1 => fk c k ++ rs_folk (c + 5 * k)
def pl (c : Nat) : Nat → List Nat
  | 0 => []
  | k + 1 => pl c k ++ [c + 5 * k]
theorem pl_len (c : Nat) : ∀ k, (pl c k).length = k
  | 0 => rfl
  | k + 1 => by rw [pl, List.length_append, pl_len c k]; rfl
theorem fk_len (c : Nat) : ∀ k, (fk c k).length = 5 * k
  | 0 => rfl
  | k + 1 => by rw [fk, List.length_append, fk_len c k, rs_folk_len]; omega
def tP (b k : Nat) : List mm_E := .inl (7, [.int 0, .int 0, .ref (b + 1)]) :: .inr (2, 20, .inr (fun j => (pl (b + 2) k)[j]?)) :: fk (b + 2) k
theorem tP_len (b k : Nat) : (tP b k).length = 2 + 5 * k := by
  unfold tP
  rw [List.length_cons, List.length_cons, fk_len]
  omega
def rs_past (b : Nat) : List mm_E := tP b 20
theorem rs_past_len (b : Nat) : (rs_past b).length = 102 := tP_len b 20
theorem kp_lt : ∀ k, k < 20 → ¬ (20 : Int32) ≤ Int32.ofNat k ∧ ¬ (Int32.ofNat k < 0 ∨ 20 ≤ (Int32.ofNat k).toNatClampNeg) ∧ (Int32.ofNat k).toNatClampNeg = k ∧ Int32.ofNat k + Int32.ofInt 1 = Int32.ofNat (k + 1) := by decide
theorem kp_get {x : mm_E} {A B C : List mm_E} {y : mm_E} {n : Nat} (h : A.length = n) (hB : B = y :: C) : (A ++ B)[n]? = some y := by
  subst hB
  subst h
  rw [List.getElem?_append_right (Nat.le_refl _), Nat.sub_self]
  rfl
theorem kp_loop {g : mm_G} {w : List mm_E} {b : Nat} (hb : w.length = b) (h9 : b + 102 < 999) : ∀ d k, k + d = 20 → mn (mn_f g (b + 1)) g RX7 cX7_init 2 none true (mn_rm 2 101 720) (fun r w1 => r = none ∧ w1 = w ++ rs_past b) (1 + 5 * k) (20 + 35 * k) (w ++ tP b k) 15 [(1, .int (Int32.ofNat k)), (0, .ref b)] [] := by
  intro d
  induction d with
  | zero =>
    intro k hk
    have hk : k = 20 := hk
    subst hk
    refine mn_iload_n dX7_init_15 rfl 0 rfl ?_
    refine mn_aload_n dX7_init_16 rfl 1 rfl ?_
    refine mp_get (i := 0) hb dX7_init_17 rfl rfl rfl (by decide) gX7_11 rfl ?_
    refine mp_alen (i := 1) (v := 20) hb dX7_init_20 rfl rfl rfl (by decide) ?_
    refine mn_icmp_ge (tgt := 43) dX7_init_21 rfl (fun q => ?_) (fun q => absurd (by decide) q)
    exact mn_vret rfl dX7_init_43 rfl rfl ⟨rfl, rfl⟩
  | succ d ih =>
    intro k hk
    obtain ⟨q1, q2, q3, q4⟩ := kp_lt k (by omega)
    have e2 : b + (2 + 5 * k) = b + 2 + 5 * k := by omega
    refine mn_iload_n dX7_init_15 rfl 0 rfl ?_
    refine mn_aload_n dX7_init_16 rfl 1 rfl ?_
    refine mp_get (i := 0) hb dX7_init_17 rfl rfl rfl (by decide) gX7_11 rfl ?_
    refine mp_alen (i := 1) (v := 20) hb dX7_init_20 rfl rfl rfl (by decide) ?_
    refine mn_icmp_ge (tgt := 43) dX7_init_21 rfl (fun q => absurd q q1) (fun q => ?_)
    refine mn_aload_n dX7_init_24 rfl 1 rfl ?_
    refine mp_get (i := 0) hb dX7_init_25 rfl rfl rfl (by decide) gX7_11 rfl ?_
    refine mn_iload_n dX7_init_28 rfl 0 rfl ?_
    refine mp_new (j := 2 + 5 * k) (t' := tP b k ++ [.inl (3, df3)]) hb dX7_init_29 kc_RX7_9 kc_D3 (tP_len b k) rfl (by omega) (by omega) ⟨by show _ ≤ 101; omega, by show _ ≤ 720; omega⟩ ?_
    refine mn_dup dX7_init_32 rfl ?_
    rw [e2]
    refine mp_callIN (j := 2 + 5 * k) (t0 := tP b k) (t' := tP b k ++ rs_folk (b + 2 + 5 * k)) hb dX7_init_33 qmX7_17 k_folk rfl (tP_len b k) e2 rfl rfl (by omega) tk_X3_init rfl (Nat.le_of_ble_eq_true rfl) ⟨Nat.le_of_ble_eq_true rfl, Nat.le_of_ble_eq_true rfl⟩ ⟨by show _ + 4 ≤ 101; omega, by show _ + 28 ≤ 720; omega⟩ (by omega) ?_
    refine mp_aast (i1 := 1) (i2 := 2 + 5 * k) (r := (RX3, TX3, 7)) (l := pl (b + 2) k) (t' := tP b (k + 1)) hb dX7_init_36 rfl rfl rfl e2 (kp_get (x := .inl (3, df3)) (tP_len b k) rfl) rfl q2 (by rw [q3, pl_len]) rfl rfl ?_
    refine mn_iinc (ls' := fun v => [(1, .int v), (0, .ref b)]) dX7_init_37 0 rfl (by decide) (fun _ => rfl) (fun v hv => ?_)
    subst hv
    rw [q4]
    refine mn_goto (tgt := 15) dX7_init_40 rfl ?_
    have h := ih (k + 1) (by omega)
    rw [show 1 + 5 * (k + 1) = 1 + 5 * k + 1 + 4 by omega, show 20 + 35 * (k + 1) = 20 + 35 * k + 7 + 28 by omega] at h
    exact h
theorem k_past {g : mm_G} : mp_ctor g yX7_init cX7_init 2 (mn_rm 2 101 720) [] (.inl (7, df7)) rs_past 102 := by
  refine mp_of (own := RX7) (by decide) (fun _ => Nat.le_of_ble_eq_true rfl) rfl rfl ?_
  intro w b hb h9
  show mn _ _ _ _ _ _ _ _ _ 0 0 (w ++ [.inl (7, df7)]) 0 [(0, .ref b)] []
  refine mn_aload_n dX7_init_0 rfl 0 rfl ?_
  refine mn_objInit dX7_init_1 ko_RX7 kc_O1 kc_O2 (by omega) ⟨Nat.le_of_ble_eq_true rfl, Nat.le_of_ble_eq_true rfl⟩ ?_
  refine mn_aload_n dX7_init_4 rfl 0 rfl ?_
  refine mn_bipush (v := 20) dX7_init_5 (by decide) ?_
  refine mp_anew (N := 20) (t0 := 2) (j := 1) (t' := [.inl (7, df7), .inr (2, 20, .inr (fun _ => none))]) hb dX7_init_7 kc_RX7_9 (fun s h => h.2.1) rfl rfl rfl (by decide) (by decide) rfl (by omega) (by omega) ⟨Nat.le_of_ble_eq_true rfl, Nat.le_of_ble_eq_true rfl⟩ ?_
  refine mp_putF (i := 0) (t' := tP b 0) hb rfl dX7_init_10 rfl rfl rfl (by decide) gX7_11 rfl rfl rfl rfl rfl (Nat.le_of_ble_eq_true rfl) rfl ?_
  refine mn_iconst (v := 0) dX7_init_13 (by decide) ?_
  refine mn_istore_n (ls' := [(1, .int 0), (0, .ref b)]) dX7_init_14 rfl (by decide) rfl ?_
  exact kp_loop hb h9 20 0 rfl
theorem kv_len {x : mm_E} {A : List mm_E} {n : Nat} (h : A.length = n) : (x :: A).length = n + 1 := by rw [List.length_cons, h]
theorem kv_len2 {x e : mm_E} {A B : List mm_E} {n m : Nat} (h : A.length = n) (hB : B.length = m) : (x :: (A ++ e :: B)).length = n + m + 2 := by
  rw [List.length_cons, List.length_append, List.length_cons, h, hB]
  omega
theorem kv_app {x e : mm_E} {A B X : List mm_E} : (x :: (A ++ e :: B)) ++ X = x :: (A ++ e :: (B ++ X)) := by simp
theorem kv_get {x e : mm_E} {A B : List mm_E} {n : Nat} (h : A.length = n) : (x :: (A ++ e :: B))[n + 1]? = some e := by
  subst h
  simp
theorem kv_set {x e e' : mm_E} {A B : List mm_E} {n : Nat} (h : A.length = n) : (x :: (A ++ e :: B)).set (n + 1) e' = x :: (A ++ e' :: B) := by
  subst h
  simp
theorem kv_get2 {x e y : mm_E} {A B C D : List mm_E} {n m : Nat} (h : A.length = n) (hB : B.length = m) (hC : C = y :: D) : (x :: (A ++ e :: (B ++ C)))[n + m + 2]? = some y := by
  subst hC
  subst h
  subst hB
  rw [show A.length + B.length + 2 = (A.length + (B.length + 1)) + 1 by omega, List.getElem?_cons_succ, List.getElem?_append_right (by omega), Nat.add_sub_cancel_left, List.getElem?_cons_succ, List.getElem?_append_right (by omega), Nat.sub_self]
  rfl
def vi_0 (_ : Nat) : List mm_E := []
theorem vi_0_len (b : Nat) : (vi_0 b).length = 0 := rfl
def vq_0 (_ : Nat) : List mm_E := []
theorem vq_0_len (b : Nat) : (vq_0 b).length = 0 := rfl
def vi_1 (b : Nat) : List mm_E := vi_0 b ++ rs_reader (b + 1)
theorem vi_1_len (b : Nat) : (vi_1 b).length = 2 := by rw [vi_1, List.length_append, vi_0_len, rs_reader_len]
def vi_2 (b : Nat) : List mm_E := vi_1 b ++ rs_parish (b + 3)
theorem vi_2_len (b : Nat) : (vi_2 b).length = 8 := by rw [vi_2, List.length_append, vi_1_len, rs_parish_len]
def vi_3 (b : Nat) : List mm_E := vi_2 b ++ rs_parish (b + 9)
theorem vi_3_len (b : Nat) : (vi_3 b).length = 14 := by rw [vi_3, List.length_append, vi_2_len, rs_parish_len]
def vi_4 (b : Nat) : List mm_E := vi_3 b ++ rs_folk (b + 15)
theorem vi_4_len (b : Nat) : (vi_4 b).length = 19 := by rw [vi_4, List.length_append, vi_3_len, rs_folk_len]
def vi_5 (b : Nat) : List mm_E := vi_4 b ++ rs_folk (b + 20)
theorem vi_5_len (b : Nat) : (vi_5 b).length = 24 := by rw [vi_5, List.length_append, vi_4_len, rs_folk_len]
def vi_6 (b : Nat) : List mm_E := vi_5 b ++ rs_past (b + 25)
theorem vi_6_len (b : Nat) : (vi_6 b).length = 126 := by rw [vi_6, List.length_append, vi_5_len, rs_past_len]
def vq_1 (b : Nat) : List mm_E := vq_0 b ++ rs_draws (b + 128)
theorem vq_1_len (b : Nat) : (vq_1 b).length = 1 := by rw [vq_1, List.length_append, vq_0_len, rs_draws_len]
def vq_2 (b : Nat) : List mm_E := vq_1 b ++ rs_ent6 (b + 129)
theorem vq_2_len (b : Nat) : (vq_2 b).length = 4 := by rw [vq_2, List.length_append, vq_1_len, rs_ent6_len]
def vq_3 (b : Nat) : List mm_E := vq_2 b ++ rs_ent6 (b + 132)
theorem vq_3_len (b : Nat) : (vq_3 b).length = 7 := by rw [vq_3, List.length_append, vq_2_len, rs_ent6_len]
def vq_4 (b : Nat) : List mm_E := vq_3 b ++ rs_ent15 (b + 135)
theorem vq_4_len (b : Nat) : (vq_4 b).length = 10 := by rw [vq_4, List.length_append, vq_3_len, rs_ent15_len]
def vq_5 (b : Nat) : List mm_E := vq_4 b ++ rs_line (b + 138)
theorem vq_5_len (b : Nat) : (vq_5 b).length = 12 := by rw [vq_5, List.length_append, vq_4_len, rs_line_len]
def vq_6 (b : Nat) : List mm_E := vq_5 b ++ rs_choir (b + 140)
theorem vq_6_len (b : Nat) : (vq_6 b).length = 23 := by rw [vq_6, List.length_append, vq_5_len, rs_choir_len]
def vq_7 (b : Nat) : List mm_E := vq_6 b ++ rs_image (b + 151)
theorem vq_7_len (b : Nat) : (vq_7 b).length = 29 := by rw [vq_7, List.length_append, vq_6_len, rs_image_len]
def vq_8 (b : Nat) : List mm_E := vq_7 b ++ rs_image (b + 157)
theorem vq_8_len (b : Nat) : (vq_8 b).length = 35 := by rw [vq_8, List.length_append, vq_7_len, rs_image_len]
def rs_class (b : Nat) : List mm_E := .inl (9, [.ref (b + 1), .ref (b + 3), .ref (b + 9), .ref (b + 15), .ref (b + 20), .ref (b + 25), .ref (b + 127), .ref (b + 128), .ref (b + 129), .ref (b + 132), .ref (b + 135), .ref (b + 138), .ref (b + 140)]) :: (vi_6 b ++ .inr (3, 2, .inr (fun j => ([b + 151, b + 157] : List Nat)[j]?)) :: vq_8 b)
theorem k_class {g : mm_G} : mp_ctor g yX9_init cX9_init 2 (mn_rm 3 162 2193) [] (.inl (9, df9)) rs_class 163 := by
  refine mp_of (own := RX9) (by decide) (fun _ => Nat.le_of_ble_eq_true rfl) rfl rfl ?_
  intro w b hb h9
  show mn _ _ _ _ _ _ _ _ _ 0 0 (w ++ (.inl (9, df9) :: vi_0 b)) 0 [(0, .ref b)] []
  refine mn_aload_n dX9_init_0 rfl 0 rfl ?_
  refine mn_objInit dX9_init_1 ko_RX9 kc_O1 kc_O2 (by omega) ⟨Nat.le_of_ble_eq_true rfl, Nat.le_of_ble_eq_true rfl⟩ ?_
  refine mn_aload_n dX9_init_4 rfl 0 rfl ?_
  refine mp_new (j := 1) (t' := .inl (9, [.null, .null, .null, .null, .null, .null, .null, .null, .null, .null, .null, .null, .null]) :: (vi_0 b ++ [.inl (8, df8)])) hb dX9_init_5 kc_RX9_7 kc_D8 (kv_len (vi_0_len b)) rfl (by omega) (by omega) ⟨Nat.le_of_ble_eq_true rfl, Nat.le_of_ble_eq_true rfl⟩ ?_
  refine mn_dup dX9_init_8 rfl ?_
  refine mp_callIN (j := 1) (t0 := .inl (9, [.null, .null, .null, .null, .null, .null, .null, .null, .null, .null, .null, .null, .null]) :: vi_0 b) (t' := .inl (9, [.null, .null, .null, .null, .null, .null, .null, .null, .null, .null, .null, .null, .null]) :: vi_1 b) (st := [.ref (b + 1), .ref b]) hb dX9_init_9 qmX9_9 k_reader rfl (kv_len (vi_0_len b)) rfl rfl rfl (by omega) tk_X8_init rfl (Nat.le_of_ble_eq_true rfl) ⟨Nat.le_of_ble_eq_true rfl, Nat.le_of_ble_eq_true rfl⟩ ⟨Nat.le_of_ble_eq_true rfl, Nat.le_of_ble_eq_true rfl⟩ (by omega) ?_
  show mn _ _ _ _ _ _ _ _ _ 2 246 _ _ _ _
  refine mp_putF (i := 0) (t' := .inl (9, [.ref (b + 1), .null, .null, .null, .null, .null, .null, .null, .null, .null, .null, .null, .null]) :: vi_1 b) hb rfl dX9_init_12 rfl rfl rfl (by decide) gX9_10 rfl rfl rfl rfl rfl (Nat.le_of_ble_eq_true rfl) rfl ?_
  refine mn_aload_n dX9_init_15 rfl 0 rfl ?_
  refine mp_new (j := 3) (t' := .inl (9, [.ref (b + 1), .null, .null, .null, .null, .null, .null, .null, .null, .null, .null, .null, .null]) :: (vi_1 b ++ [.inl (6, df6)])) hb dX9_init_16 kc_RX9_16 kc_D6 (kv_len (vi_1_len b)) rfl (by omega) (by omega) ⟨Nat.le_of_ble_eq_true rfl, Nat.le_of_ble_eq_true rfl⟩ ?_
  refine mn_dup dX9_init_19 rfl ?_
  refine mp_callIN (j := 3) (t0 := .inl (9, [.ref (b + 1), .null, .null, .null, .null, .null, .null, .null, .null, .null, .null, .null, .null]) :: vi_1 b) (t' := .inl (9, [.ref (b + 1), .null, .null, .null, .null, .null, .null, .null, .null, .null, .null, .null, .null]) :: vi_2 b) (st := [.ref (b + 3), .ref b]) hb dX9_init_20 qmX9_18 k_parish rfl (kv_len (vi_1_len b)) rfl rfl rfl (by omega) tk_X6_init rfl (Nat.le_of_ble_eq_true rfl) ⟨Nat.le_of_ble_eq_true rfl, Nat.le_of_ble_eq_true rfl⟩ ⟨Nat.le_of_ble_eq_true rfl, Nat.le_of_ble_eq_true rfl⟩ (by omega) ?_
  show mn _ _ _ _ _ _ _ _ _ 8 288 _ _ _ _
  refine mp_put (i := 0) (t' := .inl (9, [.ref (b + 1), .ref (b + 3), .null, .null, .null, .null, .null, .null, .null, .null, .null, .null, .null]) :: vi_2 b) hb dX9_init_23 rfl rfl rfl (by decide) gX9_19 rfl rfl rfl rfl (Nat.le_of_ble_eq_true rfl) rfl ?_
  refine mn_aload_n dX9_init_26 rfl 0 rfl ?_
  refine mp_new (j := 9) (t' := .inl (9, [.ref (b + 1), .ref (b + 3), .null, .null, .null, .null, .null, .null, .null, .null, .null, .null, .null]) :: (vi_2 b ++ [.inl (6, df6)])) hb dX9_init_27 kc_RX9_16 kc_D6 (kv_len (vi_2_len b)) rfl (by omega) (by omega) ⟨Nat.le_of_ble_eq_true rfl, Nat.le_of_ble_eq_true rfl⟩ ?_
  refine mn_dup dX9_init_30 rfl ?_
  refine mp_callIN (j := 9) (t0 := .inl (9, [.ref (b + 1), .ref (b + 3), .null, .null, .null, .null, .null, .null, .null, .null, .null, .null, .null]) :: vi_2 b) (t' := .inl (9, [.ref (b + 1), .ref (b + 3), .null, .null, .null, .null, .null, .null, .null, .null, .null, .null, .null]) :: vi_3 b) (st := [.ref (b + 9), .ref b]) hb dX9_init_31 qmX9_18 k_parish rfl (kv_len (vi_2_len b)) rfl rfl rfl (by omega) tk_X6_init rfl (Nat.le_of_ble_eq_true rfl) ⟨Nat.le_of_ble_eq_true rfl, Nat.le_of_ble_eq_true rfl⟩ ⟨Nat.le_of_ble_eq_true rfl, Nat.le_of_ble_eq_true rfl⟩ (by omega) ?_
  show mn _ _ _ _ _ _ _ _ _ 14 330 _ _ _ _
  refine mp_put (i := 0) (t' := .inl (9, [.ref (b + 1), .ref (b + 3), .ref (b + 9), .null, .null, .null, .null, .null, .null, .null, .null, .null, .null]) :: vi_3 b) hb dX9_init_34 rfl rfl rfl (by decide) gX9_23 rfl rfl rfl rfl (Nat.le_of_ble_eq_true rfl) rfl ?_
  refine mn_aload_n dX9_init_37 rfl 0 rfl ?_
  refine mp_new (j := 15) (t' := .inl (9, [.ref (b + 1), .ref (b + 3), .ref (b + 9), .null, .null, .null, .null, .null, .null, .null, .null, .null, .null]) :: (vi_3 b ++ [.inl (3, df3)])) hb dX9_init_38 kc_RX9_26 kc_D3 (kv_len (vi_3_len b)) rfl (by omega) (by omega) ⟨Nat.le_of_ble_eq_true rfl, Nat.le_of_ble_eq_true rfl⟩ ?_
  refine mn_dup dX9_init_41 rfl ?_
  refine mp_callIN (j := 15) (t0 := .inl (9, [.ref (b + 1), .ref (b + 3), .ref (b + 9), .null, .null, .null, .null, .null, .null, .null, .null, .null, .null]) :: vi_3 b) (t' := .inl (9, [.ref (b + 1), .ref (b + 3), .ref (b + 9), .null, .null, .null, .null, .null, .null, .null, .null, .null, .null]) :: vi_4 b) (st := [.ref (b + 15), .ref b]) hb dX9_init_42 qmX9_28 k_folk rfl (kv_len (vi_3_len b)) rfl rfl rfl (by omega) tk_X3_init rfl (Nat.le_of_ble_eq_true rfl) ⟨Nat.le_of_ble_eq_true rfl, Nat.le_of_ble_eq_true rfl⟩ ⟨Nat.le_of_ble_eq_true rfl, Nat.le_of_ble_eq_true rfl⟩ (by omega) ?_
  show mn _ _ _ _ _ _ _ _ _ 19 365 _ _ _ _
  refine mp_putF (i := 0) (t' := .inl (9, [.ref (b + 1), .ref (b + 3), .ref (b + 9), .ref (b + 15), .null, .null, .null, .null, .null, .null, .null, .null, .null]) :: vi_4 b) hb rfl dX9_init_45 rfl rfl rfl (by decide) gX9_29 rfl rfl rfl rfl rfl (Nat.le_of_ble_eq_true rfl) rfl ?_
  refine mn_aload_n dX9_init_48 rfl 0 rfl ?_
  refine mp_new (j := 20) (t' := .inl (9, [.ref (b + 1), .ref (b + 3), .ref (b + 9), .ref (b + 15), .null, .null, .null, .null, .null, .null, .null, .null, .null]) :: (vi_4 b ++ [.inl (3, df3)])) hb dX9_init_49 kc_RX9_26 kc_D3 (kv_len (vi_4_len b)) rfl (by omega) (by omega) ⟨Nat.le_of_ble_eq_true rfl, Nat.le_of_ble_eq_true rfl⟩ ?_
  refine mn_dup dX9_init_52 rfl ?_
  refine mp_callIN (j := 20) (t0 := .inl (9, [.ref (b + 1), .ref (b + 3), .ref (b + 9), .ref (b + 15), .null, .null, .null, .null, .null, .null, .null, .null, .null]) :: vi_4 b) (t' := .inl (9, [.ref (b + 1), .ref (b + 3), .ref (b + 9), .ref (b + 15), .null, .null, .null, .null, .null, .null, .null, .null, .null]) :: vi_5 b) (st := [.ref (b + 20), .ref b]) hb dX9_init_53 qmX9_28 k_folk rfl (kv_len (vi_4_len b)) rfl rfl rfl (by omega) tk_X3_init rfl (Nat.le_of_ble_eq_true rfl) ⟨Nat.le_of_ble_eq_true rfl, Nat.le_of_ble_eq_true rfl⟩ ⟨Nat.le_of_ble_eq_true rfl, Nat.le_of_ble_eq_true rfl⟩ (by omega) ?_
  show mn _ _ _ _ _ _ _ _ _ 24 400 _ _ _ _
  refine mp_putF (i := 0) (t' := .inl (9, [.ref (b + 1), .ref (b + 3), .ref (b + 9), .ref (b + 15), .ref (b + 20), .null, .null, .null, .null, .null, .null, .null, .null]) :: vi_5 b) hb rfl dX9_init_56 rfl rfl rfl (by decide) gX9_33 rfl rfl rfl rfl rfl (Nat.le_of_ble_eq_true rfl) rfl ?_
  refine mn_aload_n dX9_init_59 rfl 0 rfl ?_
  refine mp_new (j := 25) (t' := .inl (9, [.ref (b + 1), .ref (b + 3), .ref (b + 9), .ref (b + 15), .ref (b + 20), .null, .null, .null, .null, .null, .null, .null, .null]) :: (vi_5 b ++ [.inl (7, df7)])) hb dX9_init_60 kc_RX9_36 kc_D7 (kv_len (vi_5_len b)) rfl (by omega) (by omega) ⟨Nat.le_of_ble_eq_true rfl, Nat.le_of_ble_eq_true rfl⟩ ?_
  refine mn_dup dX9_init_63 rfl ?_
  refine mp_callI (j := 25) (t0 := .inl (9, [.ref (b + 1), .ref (b + 3), .ref (b + 9), .ref (b + 15), .ref (b + 20), .null, .null, .null, .null, .null, .null, .null, .null]) :: vi_5 b) (t' := .inl (9, [.ref (b + 1), .ref (b + 3), .ref (b + 9), .ref (b + 15), .ref (b + 20), .null, .null, .null, .null, .null, .null, .null, .null]) :: vi_6 b) (st := [.ref (b + 25), .ref b]) hb dX9_init_64 qmX9_38 k_past rfl (kv_len (vi_5_len b)) rfl rfl rfl (by omega) tk_X7_init rfl (Nat.le_of_ble_eq_true rfl) ⟨Nat.le_of_ble_eq_true rfl, Nat.le_of_ble_eq_true rfl⟩ ⟨Nat.le_of_ble_eq_true rfl, Nat.le_of_ble_eq_true rfl⟩ (by omega) ?_
  show mn _ _ _ _ _ _ _ _ _ 126 1123 _ _ _ _
  refine mp_putF (i := 0) (t' := .inl (9, [.ref (b + 1), .ref (b + 3), .ref (b + 9), .ref (b + 15), .ref (b + 20), .ref (b + 25), .null, .null, .null, .null, .null, .null, .null]) :: vi_6 b) hb rfl dX9_init_67 rfl rfl rfl (by decide) gX9_39 rfl rfl rfl rfl rfl (Nat.le_of_ble_eq_true rfl) rfl ?_
  refine mn_aload_n dX9_init_70 rfl 0 rfl ?_
  refine mn_iconst (v := 2) dX9_init_71 (by decide) ?_
  refine mp_anew (N := 2) (t0 := 3) (j := 127) (t' := .inl (9, [.ref (b + 1), .ref (b + 3), .ref (b + 9), .ref (b + 15), .ref (b + 20), .ref (b + 25), .null, .null, .null, .null, .null, .null, .null]) :: vi_6 b ++ [.inr (3, 2, .inr (fun _ => none))]) hb dX9_init_72 kc_RX9_43 (fun s h => h.2.2.1) rfl (kv_len (vi_6_len b)) rfl (by decide) (by decide) rfl (by omega) (by omega) ⟨Nat.le_of_ble_eq_true rfl, Nat.le_of_ble_eq_true rfl⟩ ?_
  refine mp_putF (i := 0) (t' := .inl (9, [.ref (b + 1), .ref (b + 3), .ref (b + 9), .ref (b + 15), .ref (b + 20), .ref (b + 25), .ref (b + 127), .null, .null, .null, .null, .null, .null]) :: (vi_6 b ++ .inr (3, 2, .inr (fun j => ([] : List Nat)[j]?)) :: vq_0 b)) hb rfl dX9_init_75 rfl rfl rfl (by decide) gX9_45 rfl rfl rfl rfl rfl (Nat.le_of_ble_eq_true rfl) rfl ?_
  refine mn_aload_n dX9_init_78 rfl 0 rfl ?_
  refine mp_new (j := 128) (t' := .inl (9, [.ref (b + 1), .ref (b + 3), .ref (b + 9), .ref (b + 15), .ref (b + 20), .ref (b + 25), .ref (b + 127), .null, .null, .null, .null, .null, .null]) :: (vi_6 b ++ .inr (3, 2, .inr (fun j => ([] : List Nat)[j]?)) :: (vq_0 b ++ [.inl (1, df1)]))) hb dX9_init_79 kc_RX9_49 kc_D1 (kv_len2 (vi_6_len b) (vq_0_len b)) kv_app (by omega) (by omega) ⟨Nat.le_of_ble_eq_true rfl, Nat.le_of_ble_eq_true rfl⟩ ?_
  refine mn_dup dX9_init_82 rfl ?_
  refine mp_callIN (j := 128) (t0 := .inl (9, [.ref (b + 1), .ref (b + 3), .ref (b + 9), .ref (b + 15), .ref (b + 20), .ref (b + 25), .ref (b + 127), .null, .null, .null, .null, .null, .null]) :: (vi_6 b ++ .inr (3, 2, .inr (fun j => ([] : List Nat)[j]?)) :: vq_0 b)) (t' := .inl (9, [.ref (b + 1), .ref (b + 3), .ref (b + 9), .ref (b + 15), .ref (b + 20), .ref (b + 25), .ref (b + 127), .null, .null, .null, .null, .null, .null]) :: (vi_6 b ++ .inr (3, 2, .inr (fun j => ([] : List Nat)[j]?)) :: vq_1 b)) (st := [.ref (b + 128), .ref b]) hb dX9_init_83 qmX9_51 k_draws rfl (kv_len2 (vi_6_len b) (vq_0_len b)) rfl kv_app kv_app (by omega) tk_X1_init rfl (Nat.le_of_ble_eq_true rfl) ⟨Nat.le_of_ble_eq_true rfl, Nat.le_of_ble_eq_true rfl⟩ ⟨Nat.le_of_ble_eq_true rfl, Nat.le_of_ble_eq_true rfl⟩ (by omega) ?_
  show mn _ _ _ _ _ _ _ _ _ 128 1126 _ _ _ _
  refine mp_putF (i := 0) (t' := .inl (9, [.ref (b + 1), .ref (b + 3), .ref (b + 9), .ref (b + 15), .ref (b + 20), .ref (b + 25), .ref (b + 127), .ref (b + 128), .null, .null, .null, .null, .null]) :: (vi_6 b ++ .inr (3, 2, .inr (fun j => ([] : List Nat)[j]?)) :: vq_1 b)) hb rfl dX9_init_86 rfl rfl rfl (by decide) gX9_52 rfl rfl rfl rfl rfl (Nat.le_of_ble_eq_true rfl) rfl ?_
  refine mn_aload_n dX9_init_89 rfl 0 rfl ?_
  refine mp_new (j := 129) (t' := .inl (9, [.ref (b + 1), .ref (b + 3), .ref (b + 9), .ref (b + 15), .ref (b + 20), .ref (b + 25), .ref (b + 127), .ref (b + 128), .null, .null, .null, .null, .null]) :: (vi_6 b ++ .inr (3, 2, .inr (fun j => ([] : List Nat)[j]?)) :: (vq_1 b ++ [.inl (2, df2)]))) hb dX9_init_90 kc_RX9_56 kc_D2 (kv_len2 (vi_6_len b) (vq_1_len b)) kv_app (by omega) (by omega) ⟨Nat.le_of_ble_eq_true rfl, Nat.le_of_ble_eq_true rfl⟩ ?_
  refine mn_dup dX9_init_93 rfl ?_
  refine mn_bipush (v := 6) dX9_init_94 (by decide) ?_
  refine mp_callI (j := 129) (t0 := .inl (9, [.ref (b + 1), .ref (b + 3), .ref (b + 9), .ref (b + 15), .ref (b + 20), .ref (b + 25), .ref (b + 127), .ref (b + 128), .null, .null, .null, .null, .null]) :: (vi_6 b ++ .inr (3, 2, .inr (fun j => ([] : List Nat)[j]?)) :: vq_1 b)) (t' := .inl (9, [.ref (b + 1), .ref (b + 3), .ref (b + 9), .ref (b + 15), .ref (b + 20), .ref (b + 25), .ref (b + 127), .ref (b + 128), .null, .null, .null, .null, .null]) :: (vi_6 b ++ .inr (3, 2, .inr (fun j => ([] : List Nat)[j]?)) :: vq_2 b)) (st := [.ref (b + 129), .ref b]) hb dX9_init_96 qmX9_58 k_ent6 rfl (kv_len2 (vi_6_len b) (vq_1_len b)) rfl kv_app kv_app (by omega) tk_X2_init rfl (Nat.le_of_ble_eq_true rfl) ⟨Nat.le_of_ble_eq_true rfl, Nat.le_of_ble_eq_true rfl⟩ ⟨Nat.le_of_ble_eq_true rfl, Nat.le_of_ble_eq_true rfl⟩ (by omega) ?_
  show mn _ _ _ _ _ _ _ _ _ 131 1141 _ _ _ _
  refine mp_putF (i := 0) (t' := .inl (9, [.ref (b + 1), .ref (b + 3), .ref (b + 9), .ref (b + 15), .ref (b + 20), .ref (b + 25), .ref (b + 127), .ref (b + 128), .ref (b + 129), .null, .null, .null, .null]) :: (vi_6 b ++ .inr (3, 2, .inr (fun j => ([] : List Nat)[j]?)) :: vq_2 b)) hb rfl dX9_init_99 rfl rfl rfl (by decide) gX9_61 rfl rfl rfl rfl rfl (Nat.le_of_ble_eq_true rfl) rfl ?_
  refine mn_aload_n dX9_init_102 rfl 0 rfl ?_
  refine mp_new (j := 132) (t' := .inl (9, [.ref (b + 1), .ref (b + 3), .ref (b + 9), .ref (b + 15), .ref (b + 20), .ref (b + 25), .ref (b + 127), .ref (b + 128), .ref (b + 129), .null, .null, .null, .null]) :: (vi_6 b ++ .inr (3, 2, .inr (fun j => ([] : List Nat)[j]?)) :: (vq_2 b ++ [.inl (2, df2)]))) hb dX9_init_103 kc_RX9_56 kc_D2 (kv_len2 (vi_6_len b) (vq_2_len b)) kv_app (by omega) (by omega) ⟨Nat.le_of_ble_eq_true rfl, Nat.le_of_ble_eq_true rfl⟩ ?_
  refine mn_dup dX9_init_106 rfl ?_
  refine mn_bipush (v := 6) dX9_init_107 (by decide) ?_
  refine mp_callI (j := 132) (t0 := .inl (9, [.ref (b + 1), .ref (b + 3), .ref (b + 9), .ref (b + 15), .ref (b + 20), .ref (b + 25), .ref (b + 127), .ref (b + 128), .ref (b + 129), .null, .null, .null, .null]) :: (vi_6 b ++ .inr (3, 2, .inr (fun j => ([] : List Nat)[j]?)) :: vq_2 b)) (t' := .inl (9, [.ref (b + 1), .ref (b + 3), .ref (b + 9), .ref (b + 15), .ref (b + 20), .ref (b + 25), .ref (b + 127), .ref (b + 128), .ref (b + 129), .null, .null, .null, .null]) :: (vi_6 b ++ .inr (3, 2, .inr (fun j => ([] : List Nat)[j]?)) :: vq_3 b)) (st := [.ref (b + 132), .ref b]) hb dX9_init_109 qmX9_58 k_ent6 rfl (kv_len2 (vi_6_len b) (vq_2_len b)) rfl kv_app kv_app (by omega) tk_X2_init rfl (Nat.le_of_ble_eq_true rfl) ⟨Nat.le_of_ble_eq_true rfl, Nat.le_of_ble_eq_true rfl⟩ ⟨Nat.le_of_ble_eq_true rfl, Nat.le_of_ble_eq_true rfl⟩ (by omega) ?_
  show mn _ _ _ _ _ _ _ _ _ 134 1156 _ _ _ _
  refine mp_putF (i := 0) (t' := .inl (9, [.ref (b + 1), .ref (b + 3), .ref (b + 9), .ref (b + 15), .ref (b + 20), .ref (b + 25), .ref (b + 127), .ref (b + 128), .ref (b + 129), .ref (b + 132), .null, .null, .null]) :: (vi_6 b ++ .inr (3, 2, .inr (fun j => ([] : List Nat)[j]?)) :: vq_3 b)) hb rfl dX9_init_112 rfl rfl rfl (by decide) gX9_65 rfl rfl rfl rfl rfl (Nat.le_of_ble_eq_true rfl) rfl ?_
  refine mn_aload_n dX9_init_115 rfl 0 rfl ?_
  refine mp_new (j := 135) (t' := .inl (9, [.ref (b + 1), .ref (b + 3), .ref (b + 9), .ref (b + 15), .ref (b + 20), .ref (b + 25), .ref (b + 127), .ref (b + 128), .ref (b + 129), .ref (b + 132), .null, .null, .null]) :: (vi_6 b ++ .inr (3, 2, .inr (fun j => ([] : List Nat)[j]?)) :: (vq_3 b ++ [.inl (2, df2)]))) hb dX9_init_116 kc_RX9_56 kc_D2 (kv_len2 (vi_6_len b) (vq_3_len b)) kv_app (by omega) (by omega) ⟨Nat.le_of_ble_eq_true rfl, Nat.le_of_ble_eq_true rfl⟩ ?_
  refine mn_dup dX9_init_119 rfl ?_
  refine mn_bipush (v := 15) dX9_init_120 (by decide) ?_
  refine mp_callI (j := 135) (t0 := .inl (9, [.ref (b + 1), .ref (b + 3), .ref (b + 9), .ref (b + 15), .ref (b + 20), .ref (b + 25), .ref (b + 127), .ref (b + 128), .ref (b + 129), .ref (b + 132), .null, .null, .null]) :: (vi_6 b ++ .inr (3, 2, .inr (fun j => ([] : List Nat)[j]?)) :: vq_3 b)) (t' := .inl (9, [.ref (b + 1), .ref (b + 3), .ref (b + 9), .ref (b + 15), .ref (b + 20), .ref (b + 25), .ref (b + 127), .ref (b + 128), .ref (b + 129), .ref (b + 132), .null, .null, .null]) :: (vi_6 b ++ .inr (3, 2, .inr (fun j => ([] : List Nat)[j]?)) :: vq_4 b)) (st := [.ref (b + 135), .ref b]) hb dX9_init_122 qmX9_58 k_ent15 rfl (kv_len2 (vi_6_len b) (vq_3_len b)) rfl kv_app kv_app (by omega) tk_X2_init rfl (Nat.le_of_ble_eq_true rfl) ⟨Nat.le_of_ble_eq_true rfl, Nat.le_of_ble_eq_true rfl⟩ ⟨Nat.le_of_ble_eq_true rfl, Nat.le_of_ble_eq_true rfl⟩ (by omega) ?_
  show mn _ _ _ _ _ _ _ _ _ 137 1189 _ _ _ _
  refine mp_putF (i := 0) (t' := .inl (9, [.ref (b + 1), .ref (b + 3), .ref (b + 9), .ref (b + 15), .ref (b + 20), .ref (b + 25), .ref (b + 127), .ref (b + 128), .ref (b + 129), .ref (b + 132), .ref (b + 135), .null, .null]) :: (vi_6 b ++ .inr (3, 2, .inr (fun j => ([] : List Nat)[j]?)) :: vq_4 b)) hb rfl dX9_init_125 rfl rfl rfl (by decide) gX9_68 rfl rfl rfl rfl rfl (Nat.le_of_ble_eq_true rfl) rfl ?_
  refine mn_aload_n dX9_init_128 rfl 0 rfl ?_
  refine mp_new (j := 138) (t' := .inl (9, [.ref (b + 1), .ref (b + 3), .ref (b + 9), .ref (b + 15), .ref (b + 20), .ref (b + 25), .ref (b + 127), .ref (b + 128), .ref (b + 129), .ref (b + 132), .ref (b + 135), .null, .null]) :: (vi_6 b ++ .inr (3, 2, .inr (fun j => ([] : List Nat)[j]?)) :: (vq_4 b ++ [.inl (5, df5)]))) hb dX9_init_129 kc_RX9_71 kc_D5 (kv_len2 (vi_6_len b) (vq_4_len b)) kv_app (by omega) (by omega) ⟨Nat.le_of_ble_eq_true rfl, Nat.le_of_ble_eq_true rfl⟩ ?_
  refine mn_dup dX9_init_132 rfl ?_
  refine mp_callIN (j := 138) (t0 := .inl (9, [.ref (b + 1), .ref (b + 3), .ref (b + 9), .ref (b + 15), .ref (b + 20), .ref (b + 25), .ref (b + 127), .ref (b + 128), .ref (b + 129), .ref (b + 132), .ref (b + 135), .null, .null]) :: (vi_6 b ++ .inr (3, 2, .inr (fun j => ([] : List Nat)[j]?)) :: vq_4 b)) (t' := .inl (9, [.ref (b + 1), .ref (b + 3), .ref (b + 9), .ref (b + 15), .ref (b + 20), .ref (b + 25), .ref (b + 127), .ref (b + 128), .ref (b + 129), .ref (b + 132), .ref (b + 135), .null, .null]) :: (vi_6 b ++ .inr (3, 2, .inr (fun j => ([] : List Nat)[j]?)) :: vq_5 b)) (st := [.ref (b + 138), .ref b]) hb dX9_init_133 qmX9_73 k_line rfl (kv_len2 (vi_6_len b) (vq_4_len b)) rfl kv_app kv_app (by omega) tk_X5_init rfl (Nat.le_of_ble_eq_true rfl) ⟨Nat.le_of_ble_eq_true rfl, Nat.le_of_ble_eq_true rfl⟩ ⟨Nat.le_of_ble_eq_true rfl, Nat.le_of_ble_eq_true rfl⟩ (by omega) ?_
  show mn _ _ _ _ _ _ _ _ _ 139 1199 _ _ _ _
  refine mp_putF (i := 0) (t' := .inl (9, [.ref (b + 1), .ref (b + 3), .ref (b + 9), .ref (b + 15), .ref (b + 20), .ref (b + 25), .ref (b + 127), .ref (b + 128), .ref (b + 129), .ref (b + 132), .ref (b + 135), .ref (b + 138), .null]) :: (vi_6 b ++ .inr (3, 2, .inr (fun j => ([] : List Nat)[j]?)) :: vq_5 b)) hb rfl dX9_init_136 rfl rfl rfl (by decide) gX9_74 rfl rfl rfl rfl rfl (Nat.le_of_ble_eq_true rfl) rfl ?_
  refine mn_aload_n dX9_init_139 rfl 0 rfl ?_
  refine mp_new (j := 140) (t' := .inl (9, [.ref (b + 1), .ref (b + 3), .ref (b + 9), .ref (b + 15), .ref (b + 20), .ref (b + 25), .ref (b + 127), .ref (b + 128), .ref (b + 129), .ref (b + 132), .ref (b + 135), .ref (b + 138), .null]) :: (vi_6 b ++ .inr (3, 2, .inr (fun j => ([] : List Nat)[j]?)) :: (vq_5 b ++ [.inl (0, df0)]))) hb dX9_init_140 kc_RX9_78 kc_D0 (kv_len2 (vi_6_len b) (vq_5_len b)) kv_app (by omega) (by omega) ⟨Nat.le_of_ble_eq_true rfl, Nat.le_of_ble_eq_true rfl⟩ ?_
  refine mn_dup dX9_init_143 rfl ?_
  refine mp_callIN (j := 140) (t0 := .inl (9, [.ref (b + 1), .ref (b + 3), .ref (b + 9), .ref (b + 15), .ref (b + 20), .ref (b + 25), .ref (b + 127), .ref (b + 128), .ref (b + 129), .ref (b + 132), .ref (b + 135), .ref (b + 138), .null]) :: (vi_6 b ++ .inr (3, 2, .inr (fun j => ([] : List Nat)[j]?)) :: vq_5 b)) (t' := .inl (9, [.ref (b + 1), .ref (b + 3), .ref (b + 9), .ref (b + 15), .ref (b + 20), .ref (b + 25), .ref (b + 127), .ref (b + 128), .ref (b + 129), .ref (b + 132), .ref (b + 135), .ref (b + 138), .null]) :: (vi_6 b ++ .inr (3, 2, .inr (fun j => ([] : List Nat)[j]?)) :: vq_6 b)) (st := [.ref (b + 140), .ref b]) hb dX9_init_144 qmX9_80 k_choir rfl (kv_len2 (vi_6_len b) (vq_5_len b)) rfl kv_app kv_app (by omega) tk_X0_init rfl (Nat.le_of_ble_eq_true rfl) ⟨Nat.le_of_ble_eq_true rfl, Nat.le_of_ble_eq_true rfl⟩ ⟨Nat.le_of_ble_eq_true rfl, Nat.le_of_ble_eq_true rfl⟩ (by omega) ?_
  show mn _ _ _ _ _ _ _ _ _ 150 2117 _ _ _ _
  refine mp_putF (i := 0) (t' := .inl (9, [.ref (b + 1), .ref (b + 3), .ref (b + 9), .ref (b + 15), .ref (b + 20), .ref (b + 25), .ref (b + 127), .ref (b + 128), .ref (b + 129), .ref (b + 132), .ref (b + 135), .ref (b + 138), .ref (b + 140)]) :: (vi_6 b ++ .inr (3, 2, .inr (fun j => ([] : List Nat)[j]?)) :: vq_6 b)) hb rfl dX9_init_147 rfl rfl rfl (by decide) gX9_81 rfl rfl rfl rfl rfl (Nat.le_of_ble_eq_true rfl) rfl ?_
  refine mn_iconst (v := 0) dX9_init_150 (by decide) ?_
  refine mn_istore_n (ls' := [(1, .int 0), (0, .ref b)]) dX9_init_151 rfl (by decide) rfl ?_
  refine mn_iload_n dX9_init_152 rfl 0 rfl ?_
  refine mn_aload_n dX9_init_153 rfl 1 rfl ?_
  refine mp_get (i := 0) hb dX9_init_154 rfl rfl rfl (by decide) gX9_45 rfl ?_
  refine mp_alen (i := 127) (v := 2) hb dX9_init_157 rfl (kv_get (vi_6_len b)) rfl (by decide) ?_
  refine mn_icmp_ge (tgt := 180) dX9_init_158 rfl (fun q => absurd q (by decide)) (fun q => ?_)
  refine mn_aload_n dX9_init_161 rfl 1 rfl ?_
  refine mp_get (i := 0) hb dX9_init_162 rfl rfl rfl (by decide) gX9_45 rfl ?_
  refine mn_iload_n dX9_init_165 rfl 0 rfl ?_
  refine mp_new (j := 151) (t' := .inl (9, [.ref (b + 1), .ref (b + 3), .ref (b + 9), .ref (b + 15), .ref (b + 20), .ref (b + 25), .ref (b + 127), .ref (b + 128), .ref (b + 129), .ref (b + 132), .ref (b + 135), .ref (b + 138), .ref (b + 140)]) :: (vi_6 b ++ .inr (3, 2, .inr (fun j => ([] : List Nat)[j]?)) :: (vq_6 b ++ [.inl (4, df4)]))) hb dX9_init_166 kc_RX9_43 kc_D4 (kv_len2 (vi_6_len b) (vq_6_len b)) kv_app (by omega) (by omega) ⟨Nat.le_of_ble_eq_true rfl, Nat.le_of_ble_eq_true rfl⟩ ?_
  refine mn_dup dX9_init_169 rfl ?_
  refine mp_callIN (j := 151) (t0 := .inl (9, [.ref (b + 1), .ref (b + 3), .ref (b + 9), .ref (b + 15), .ref (b + 20), .ref (b + 25), .ref (b + 127), .ref (b + 128), .ref (b + 129), .ref (b + 132), .ref (b + 135), .ref (b + 138), .ref (b + 140)]) :: (vi_6 b ++ .inr (3, 2, .inr (fun j => ([] : List Nat)[j]?)) :: vq_6 b)) (t' := .inl (9, [.ref (b + 1), .ref (b + 3), .ref (b + 9), .ref (b + 15), .ref (b + 20), .ref (b + 25), .ref (b + 127), .ref (b + 128), .ref (b + 129), .ref (b + 132), .ref (b + 135), .ref (b + 138), .ref (b + 140)]) :: (vi_6 b ++ .inr (3, 2, .inr (fun j => ([] : List Nat)[j]?)) :: vq_7 b)) (st := [.ref (b + 151), .int 0, .ref (b + 127)]) hb dX9_init_170 qmX9_85 k_image rfl (kv_len2 (vi_6_len b) (vq_6_len b)) rfl kv_app kv_app (by omega) tk_X4_init rfl (Nat.le_of_ble_eq_true rfl) ⟨Nat.le_of_ble_eq_true rfl, Nat.le_of_ble_eq_true rfl⟩ ⟨Nat.le_of_ble_eq_true rfl, Nat.le_of_ble_eq_true rfl⟩ (by omega) ?_
  show mn _ _ _ _ _ _ _ _ _ 156 2155 _ _ _ _
  refine mp_aast (i1 := 127) (i2 := 151) (r := (RX4, TX4, 3)) (l := []) (l' := [b + 151]) (t' := .inl (9, [.ref (b + 1), .ref (b + 3), .ref (b + 9), .ref (b + 15), .ref (b + 20), .ref (b + 25), .ref (b + 127), .ref (b + 128), .ref (b + 129), .ref (b + 132), .ref (b + 135), .ref (b + 138), .ref (b + 140)]) :: (vi_6 b ++ .inr (3, 2, .inr (fun j => ([b + 151] : List Nat)[j]?)) :: vq_7 b)) hb dX9_init_173 rfl (kv_get (vi_6_len b)) rfl rfl (kv_get2 (vi_6_len b) (vq_6_len b) rfl) rfl (by unfold vp_in; decide) rfl rfl (kv_set (vi_6_len b)) ?_
  refine mn_iinc (ls' := fun v => [(1, .int v), (0, .ref b)]) dX9_init_174 0 rfl (by decide) (fun _ => rfl) (fun v hv => ?_)
  obtain rfl : v = 1 := hv.trans (by decide)
  refine mn_goto (tgt := 152) dX9_init_177 rfl ?_
  refine mn_iload_n dX9_init_152 rfl 0 rfl ?_
  refine mn_aload_n dX9_init_153 rfl 1 rfl ?_
  refine mp_get (i := 0) hb dX9_init_154 rfl rfl rfl (by decide) gX9_45 rfl ?_
  refine mp_alen (i := 127) (v := 2) hb dX9_init_157 rfl (kv_get (vi_6_len b)) rfl (by decide) ?_
  refine mn_icmp_ge (tgt := 180) dX9_init_158 rfl (fun q => absurd q (by decide)) (fun q => ?_)
  refine mn_aload_n dX9_init_161 rfl 1 rfl ?_
  refine mp_get (i := 0) hb dX9_init_162 rfl rfl rfl (by decide) gX9_45 rfl ?_
  refine mn_iload_n dX9_init_165 rfl 0 rfl ?_
  refine mp_new (j := 157) (t' := .inl (9, [.ref (b + 1), .ref (b + 3), .ref (b + 9), .ref (b + 15), .ref (b + 20), .ref (b + 25), .ref (b + 127), .ref (b + 128), .ref (b + 129), .ref (b + 132), .ref (b + 135), .ref (b + 138), .ref (b + 140)]) :: (vi_6 b ++ .inr (3, 2, .inr (fun j => ([b + 151] : List Nat)[j]?)) :: (vq_7 b ++ [.inl (4, df4)]))) hb dX9_init_166 kc_RX9_43 kc_D4 (kv_len2 (vi_6_len b) (vq_7_len b)) kv_app (by omega) (by omega) ⟨Nat.le_of_ble_eq_true rfl, Nat.le_of_ble_eq_true rfl⟩ ?_
  refine mn_dup dX9_init_169 rfl ?_
  refine mp_callIN (j := 157) (t0 := .inl (9, [.ref (b + 1), .ref (b + 3), .ref (b + 9), .ref (b + 15), .ref (b + 20), .ref (b + 25), .ref (b + 127), .ref (b + 128), .ref (b + 129), .ref (b + 132), .ref (b + 135), .ref (b + 138), .ref (b + 140)]) :: (vi_6 b ++ .inr (3, 2, .inr (fun j => ([b + 151] : List Nat)[j]?)) :: vq_7 b)) (t' := .inl (9, [.ref (b + 1), .ref (b + 3), .ref (b + 9), .ref (b + 15), .ref (b + 20), .ref (b + 25), .ref (b + 127), .ref (b + 128), .ref (b + 129), .ref (b + 132), .ref (b + 135), .ref (b + 138), .ref (b + 140)]) :: (vi_6 b ++ .inr (3, 2, .inr (fun j => ([b + 151] : List Nat)[j]?)) :: vq_8 b)) (st := [.ref (b + 157), .int 1, .ref (b + 127)]) hb dX9_init_170 qmX9_85 k_image rfl (kv_len2 (vi_6_len b) (vq_7_len b)) rfl kv_app kv_app (by omega) tk_X4_init rfl (Nat.le_of_ble_eq_true rfl) ⟨Nat.le_of_ble_eq_true rfl, Nat.le_of_ble_eq_true rfl⟩ ⟨Nat.le_of_ble_eq_true rfl, Nat.le_of_ble_eq_true rfl⟩ (by omega) ?_
  show mn _ _ _ _ _ _ _ _ _ 162 2193 _ _ _ _
  refine mp_aast (i1 := 127) (i2 := 157) (r := (RX4, TX4, 3)) (l := [b + 151]) (l' := [b + 151, b + 157]) (t' := .inl (9, [.ref (b + 1), .ref (b + 3), .ref (b + 9), .ref (b + 15), .ref (b + 20), .ref (b + 25), .ref (b + 127), .ref (b + 128), .ref (b + 129), .ref (b + 132), .ref (b + 135), .ref (b + 138), .ref (b + 140)]) :: (vi_6 b ++ .inr (3, 2, .inr (fun j => ([b + 151, b + 157] : List Nat)[j]?)) :: vq_8 b)) hb dX9_init_173 rfl (kv_get (vi_6_len b)) rfl rfl (kv_get2 (vi_6_len b) (vq_7_len b) rfl) rfl (by unfold vp_in; decide) rfl rfl (kv_set (vi_6_len b)) ?_
  refine mn_iinc (ls' := fun v => [(1, .int v), (0, .ref b)]) dX9_init_174 0 rfl (by decide) (fun _ => rfl) (fun v hv => ?_)
  obtain rfl : v = 2 := hv.trans (by decide)
  refine mn_goto (tgt := 152) dX9_init_177 rfl ?_
  refine mn_iload_n dX9_init_152 rfl 0 rfl ?_
  refine mn_aload_n dX9_init_153 rfl 1 rfl ?_
  refine mp_get (i := 0) hb dX9_init_154 rfl rfl rfl (by decide) gX9_45 rfl ?_
  refine mp_alen (i := 127) (v := 2) hb dX9_init_157 rfl (kv_get (vi_6_len b)) rfl (by decide) ?_
  refine mn_icmp_ge (tgt := 180) dX9_init_158 rfl (fun q => ?_) (fun q => absurd (by decide) q)
  exact mn_vret rfl dX9_init_180 rfl rfl ⟨rfl, rfl⟩
def SM0 : mm_S := (fun a j => match a, j with | 0, 11 => -1 | _, _ => 0, fun _ _ => 0, fun _ _ => 0)
def SC0 : mm_S := (fun a j => match a, j with | 1, 2 => -1 | _, _ => 0, fun _ _ => 0, fun a j => match a, j with | 0, 1 => 3 | 0, 2 => 9 | _, _ => 0)
theorem mm_I0 {tb : mm_T} {S : mm_S} {a0 j0 : Nat} (h : ∀ a j, ¬ (a = a0 ∧ j = j0) → S.1 a j = 0) (ht : (tb.all fun q => decide (q.2.2.2.1 ≤ 0) && decide (0 ≤ q.2.2.2.2) && (q.1 != a0 || decide (j0 < q.2.1) || decide (q.2.2.1 < j0))) = true) : mm_I tb S := by
  intro q hq j h1 h2
  have h3 := List.all_eq_true.mp ht q hq
  simp only [Bool.and_eq_true, Bool.or_eq_true, decide_eq_true_eq, bne_iff_ne] at h3
  rw [h q.1 j (fun e => by
    rcases h3.2 with (h4 | h4) | h4
    · exact h4 e.1
    · omega
    · omega)]
  exact ⟨h3.1.1, h3.1.2⟩
theorem SM0_z : ∀ a j, ¬ (a = 0 ∧ j = 11) → SM0.1 a j = 0 := by
  intro a j h
  unfold SM0
  dsimp only
  split
  · exact absurd ⟨rfl, rfl⟩ h
  · rfl
theorem SC0_z : ∀ a j, ¬ (a = 1 ∧ j = 2) → SC0.1 a j = 0 := by
  intro a j h
  unfold SC0
  dsimp only
  split
  · exact absurd ⟨rfl, rfl⟩ h
  · rfl
theorem JM0 : JM SM0 := ⟨mm_I0 SM0_z (by decide +kernel), by unfold XM mm_bl; decide⟩
theorem JC0 : JC SC0 := ⟨mm_I0 SC0_z (by decide +kernel), by unfold XC; decide⟩
theorem k_model0 : ([] ++ [.inl (10, [.ref 1, .ref 2, .ref 3, .ref 4, .ref 5, .int 0, .ref 6, .ref 7, .long 0, .ref 8, .int 0, .int (-1), .ref 9, .int 0, .ref 10, .int 0, .ref 11, .int 0, .int 0, .int 0, .int 0, .int 0, .int 0, .int 0, .ref 12]), .inr (0, 37, .inl (fun _ => 0)), .inr (0, 37, .inl (fun _ => 0)), .inr (0, 30, .inl (fun _ => 0)), .inr (0, 30, .inl (fun _ => 0)), .inr (0, 600, .inl (fun _ => 0)), .inr (0, 62, .inl (fun _ => 0)), .inr (1, 2, .inl (fun _ => 0)), .inr (0, 240, .inl (fun _ => 0)), .inr (0, 12, .inl (fun _ => 0)), .inr (0, 12, .inl (fun _ => 0)), .inr (0, 30, .inl (fun _ => 0)), .inr (0, 896, .inl (fun _ => 0))] : List mm_E) = mm_enc shM SM0 := by rfl
theorem k_model {g : mm_G} : mcn g yX10_init cX10_init 1 (mn_rm 2 12 1988) [.ref 0] [.inl (10, df10)] (qv shM JM) := by
  refine mcn_of (own := RX10) (by decide) (Nat.le_of_ble_eq_true rfl) rfl rfl rfl ?_
  show mn _ _ _ _ _ _ _ _ _ 0 0 ([] ++ [.inl (10, df10)]) 0 [(0, .ref 0)] []
  refine mn_aload_n dX10_init_0 rfl 0 rfl ?_
  refine mn_objInit dX10_init_1 ko_RX10 kc_O1 kc_O2 (by omega) ⟨Nat.le_of_ble_eq_true rfl, Nat.le_of_ble_eq_true rfl⟩ ?_
  refine mn_aload_n dX10_init_4 rfl 0 rfl ?_
  refine mn_bipush (v := 37) dX10_init_5 (by decide) ?_
  refine mp_newi (j := 1) (b := 0) (t' := [.inl (10, [.null, .null, .null, .null, .null, .int 0, .null, .null, .long 0, .null, .int 0, .int 0, .null, .int 0, .null, .int 0, .null, .int 0, .int 0, .int 0, .int 0, .int 0, .int 0, .int 0, .null]), .inr (0, 37, .inl (fun _ => 0))]) rfl dX10_init_7 rfl rfl (Nat.le_of_ble_eq_true rfl) (by decide) rfl (by omega) (by omega) ⟨Nat.le_of_ble_eq_true rfl, Nat.le_of_ble_eq_true rfl⟩ ?_
  refine mp_putF (i := 0) (b := 0) (t' := [.inl (10, [.ref 1, .null, .null, .null, .null, .int 0, .null, .null, .long 0, .null, .int 0, .int 0, .null, .int 0, .null, .int 0, .null, .int 0, .int 0, .int 0, .int 0, .int 0, .int 0, .int 0, .null]), .inr (0, 37, .inl (fun _ => 0))]) rfl rfl dX10_init_9 rfl rfl rfl (by decide) gX10_7 rfl rfl rfl rfl rfl (Nat.le_of_ble_eq_true rfl) rfl ?_
  refine mn_aload_n dX10_init_12 rfl 0 rfl ?_
  refine mn_bipush (v := 37) dX10_init_13 (by decide) ?_
  refine mp_newi (j := 2) (b := 0) (t' := [.inl (10, [.ref 1, .null, .null, .null, .null, .int 0, .null, .null, .long 0, .null, .int 0, .int 0, .null, .int 0, .null, .int 0, .null, .int 0, .int 0, .int 0, .int 0, .int 0, .int 0, .int 0, .null]), .inr (0, 37, .inl (fun _ => 0)), .inr (0, 37, .inl (fun _ => 0))]) rfl dX10_init_15 rfl rfl (Nat.le_of_ble_eq_true rfl) (by decide) rfl (by omega) (by omega) ⟨Nat.le_of_ble_eq_true rfl, Nat.le_of_ble_eq_true rfl⟩ ?_
  refine mp_putF (i := 0) (b := 0) (t' := [.inl (10, [.ref 1, .ref 2, .null, .null, .null, .int 0, .null, .null, .long 0, .null, .int 0, .int 0, .null, .int 0, .null, .int 0, .null, .int 0, .int 0, .int 0, .int 0, .int 0, .int 0, .int 0, .null]), .inr (0, 37, .inl (fun _ => 0)), .inr (0, 37, .inl (fun _ => 0))]) rfl rfl dX10_init_17 rfl rfl rfl (by decide) gX10_13 rfl rfl rfl rfl rfl (Nat.le_of_ble_eq_true rfl) rfl ?_
  refine mn_aload_n dX10_init_20 rfl 0 rfl ?_
  refine mn_bipush (v := 30) dX10_init_21 (by decide) ?_
  refine mp_newi (j := 3) (b := 0) (t' := [.inl (10, [.ref 1, .ref 2, .null, .null, .null, .int 0, .null, .null, .long 0, .null, .int 0, .int 0, .null, .int 0, .null, .int 0, .null, .int 0, .int 0, .int 0, .int 0, .int 0, .int 0, .int 0, .null]), .inr (0, 37, .inl (fun _ => 0)), .inr (0, 37, .inl (fun _ => 0)), .inr (0, 30, .inl (fun _ => 0))]) rfl dX10_init_23 rfl rfl (Nat.le_of_ble_eq_true rfl) (by decide) rfl (by omega) (by omega) ⟨Nat.le_of_ble_eq_true rfl, Nat.le_of_ble_eq_true rfl⟩ ?_
  refine mp_putF (i := 0) (b := 0) (t' := [.inl (10, [.ref 1, .ref 2, .ref 3, .null, .null, .int 0, .null, .null, .long 0, .null, .int 0, .int 0, .null, .int 0, .null, .int 0, .null, .int 0, .int 0, .int 0, .int 0, .int 0, .int 0, .int 0, .null]), .inr (0, 37, .inl (fun _ => 0)), .inr (0, 37, .inl (fun _ => 0)), .inr (0, 30, .inl (fun _ => 0))]) rfl rfl dX10_init_25 rfl rfl rfl (by decide) gX10_16 rfl rfl rfl rfl rfl (Nat.le_of_ble_eq_true rfl) rfl ?_
  refine mn_aload_n dX10_init_28 rfl 0 rfl ?_
  refine mn_bipush (v := 30) dX10_init_29 (by decide) ?_
  refine mp_newi (j := 4) (b := 0) (t' := [.inl (10, [.ref 1, .ref 2, .ref 3, .null, .null, .int 0, .null, .null, .long 0, .null, .int 0, .int 0, .null, .int 0, .null, .int 0, .null, .int 0, .int 0, .int 0, .int 0, .int 0, .int 0, .int 0, .null]), .inr (0, 37, .inl (fun _ => 0)), .inr (0, 37, .inl (fun _ => 0)), .inr (0, 30, .inl (fun _ => 0)), .inr (0, 30, .inl (fun _ => 0))]) rfl dX10_init_31 rfl rfl (Nat.le_of_ble_eq_true rfl) (by decide) rfl (by omega) (by omega) ⟨Nat.le_of_ble_eq_true rfl, Nat.le_of_ble_eq_true rfl⟩ ?_
  refine mp_putF (i := 0) (b := 0) (t' := [.inl (10, [.ref 1, .ref 2, .ref 3, .ref 4, .null, .int 0, .null, .null, .long 0, .null, .int 0, .int 0, .null, .int 0, .null, .int 0, .null, .int 0, .int 0, .int 0, .int 0, .int 0, .int 0, .int 0, .null]), .inr (0, 37, .inl (fun _ => 0)), .inr (0, 37, .inl (fun _ => 0)), .inr (0, 30, .inl (fun _ => 0)), .inr (0, 30, .inl (fun _ => 0))]) rfl rfl dX10_init_33 rfl rfl rfl (by decide) gX10_19 rfl rfl rfl rfl rfl (Nat.le_of_ble_eq_true rfl) rfl ?_
  refine mn_aload_n dX10_init_36 rfl 0 rfl ?_
  refine mn_sipush (v := 600) dX10_init_37 (by decide) ?_
  refine mp_newi (j := 5) (b := 0) (t' := [.inl (10, [.ref 1, .ref 2, .ref 3, .ref 4, .null, .int 0, .null, .null, .long 0, .null, .int 0, .int 0, .null, .int 0, .null, .int 0, .null, .int 0, .int 0, .int 0, .int 0, .int 0, .int 0, .int 0, .null]), .inr (0, 37, .inl (fun _ => 0)), .inr (0, 37, .inl (fun _ => 0)), .inr (0, 30, .inl (fun _ => 0)), .inr (0, 30, .inl (fun _ => 0)), .inr (0, 600, .inl (fun _ => 0))]) rfl dX10_init_40 rfl rfl (Nat.le_of_ble_eq_true rfl) (by decide) rfl (by omega) (by omega) ⟨Nat.le_of_ble_eq_true rfl, Nat.le_of_ble_eq_true rfl⟩ ?_
  refine mp_putF (i := 0) (b := 0) (t' := [.inl (10, [.ref 1, .ref 2, .ref 3, .ref 4, .ref 5, .int 0, .null, .null, .long 0, .null, .int 0, .int 0, .null, .int 0, .null, .int 0, .null, .int 0, .int 0, .int 0, .int 0, .int 0, .int 0, .int 0, .null]), .inr (0, 37, .inl (fun _ => 0)), .inr (0, 37, .inl (fun _ => 0)), .inr (0, 30, .inl (fun _ => 0)), .inr (0, 30, .inl (fun _ => 0)), .inr (0, 600, .inl (fun _ => 0))]) rfl rfl dX10_init_42 rfl rfl rfl (by decide) gX10_22 rfl rfl rfl rfl rfl (Nat.le_of_ble_eq_true rfl) rfl ?_
  refine mn_aload_n dX10_init_45 rfl 0 rfl ?_
  refine mn_bipush (v := 62) dX10_init_46 (by decide) ?_
  refine mp_newi (j := 6) (b := 0) (t' := [.inl (10, [.ref 1, .ref 2, .ref 3, .ref 4, .ref 5, .int 0, .null, .null, .long 0, .null, .int 0, .int 0, .null, .int 0, .null, .int 0, .null, .int 0, .int 0, .int 0, .int 0, .int 0, .int 0, .int 0, .null]), .inr (0, 37, .inl (fun _ => 0)), .inr (0, 37, .inl (fun _ => 0)), .inr (0, 30, .inl (fun _ => 0)), .inr (0, 30, .inl (fun _ => 0)), .inr (0, 600, .inl (fun _ => 0)), .inr (0, 62, .inl (fun _ => 0))]) rfl dX10_init_48 rfl rfl (Nat.le_of_ble_eq_true rfl) (by decide) rfl (by omega) (by omega) ⟨Nat.le_of_ble_eq_true rfl, Nat.le_of_ble_eq_true rfl⟩ ?_
  refine mp_putF (i := 0) (b := 0) (t' := [.inl (10, [.ref 1, .ref 2, .ref 3, .ref 4, .ref 5, .int 0, .ref 6, .null, .long 0, .null, .int 0, .int 0, .null, .int 0, .null, .int 0, .null, .int 0, .int 0, .int 0, .int 0, .int 0, .int 0, .int 0, .null]), .inr (0, 37, .inl (fun _ => 0)), .inr (0, 37, .inl (fun _ => 0)), .inr (0, 30, .inl (fun _ => 0)), .inr (0, 30, .inl (fun _ => 0)), .inr (0, 600, .inl (fun _ => 0)), .inr (0, 62, .inl (fun _ => 0))]) rfl rfl dX10_init_50 rfl rfl rfl (by decide) gX10_25 rfl rfl rfl rfl rfl (Nat.le_of_ble_eq_true rfl) rfl ?_
  refine mn_aload_n dX10_init_53 rfl 0 rfl ?_
  refine mn_iconst (v := 2) dX10_init_54 (by decide) ?_
  refine mp_newz (j := 7) (b := 0) (t' := [.inl (10, [.ref 1, .ref 2, .ref 3, .ref 4, .ref 5, .int 0, .ref 6, .null, .long 0, .null, .int 0, .int 0, .null, .int 0, .null, .int 0, .null, .int 0, .int 0, .int 0, .int 0, .int 0, .int 0, .int 0, .null]), .inr (0, 37, .inl (fun _ => 0)), .inr (0, 37, .inl (fun _ => 0)), .inr (0, 30, .inl (fun _ => 0)), .inr (0, 30, .inl (fun _ => 0)), .inr (0, 600, .inl (fun _ => 0)), .inr (0, 62, .inl (fun _ => 0)), .inr (1, 2, .inl (fun _ => 0))]) rfl dX10_init_55 rfl rfl (Nat.le_of_ble_eq_true rfl) (by decide) rfl (by omega) (by omega) ⟨Nat.le_of_ble_eq_true rfl, Nat.le_of_ble_eq_true rfl⟩ ?_
  refine mp_putF (i := 0) (b := 0) (t' := [.inl (10, [.ref 1, .ref 2, .ref 3, .ref 4, .ref 5, .int 0, .ref 6, .ref 7, .long 0, .null, .int 0, .int 0, .null, .int 0, .null, .int 0, .null, .int 0, .int 0, .int 0, .int 0, .int 0, .int 0, .int 0, .null]), .inr (0, 37, .inl (fun _ => 0)), .inr (0, 37, .inl (fun _ => 0)), .inr (0, 30, .inl (fun _ => 0)), .inr (0, 30, .inl (fun _ => 0)), .inr (0, 600, .inl (fun _ => 0)), .inr (0, 62, .inl (fun _ => 0)), .inr (1, 2, .inl (fun _ => 0))]) rfl rfl dX10_init_57 rfl rfl rfl (by decide) gX10_28 rfl rfl rfl rfl rfl (Nat.le_of_ble_eq_true rfl) rfl ?_
  refine mn_aload_n dX10_init_60 rfl 0 rfl ?_
  refine mn_sipush (v := 240) dX10_init_61 (by decide) ?_
  refine mp_newi (j := 8) (b := 0) (t' := [.inl (10, [.ref 1, .ref 2, .ref 3, .ref 4, .ref 5, .int 0, .ref 6, .ref 7, .long 0, .null, .int 0, .int 0, .null, .int 0, .null, .int 0, .null, .int 0, .int 0, .int 0, .int 0, .int 0, .int 0, .int 0, .null]), .inr (0, 37, .inl (fun _ => 0)), .inr (0, 37, .inl (fun _ => 0)), .inr (0, 30, .inl (fun _ => 0)), .inr (0, 30, .inl (fun _ => 0)), .inr (0, 600, .inl (fun _ => 0)), .inr (0, 62, .inl (fun _ => 0)), .inr (1, 2, .inl (fun _ => 0)), .inr (0, 240, .inl (fun _ => 0))]) rfl dX10_init_64 rfl rfl (Nat.le_of_ble_eq_true rfl) (by decide) rfl (by omega) (by omega) ⟨Nat.le_of_ble_eq_true rfl, Nat.le_of_ble_eq_true rfl⟩ ?_
  refine mp_putF (i := 0) (b := 0) (t' := [.inl (10, [.ref 1, .ref 2, .ref 3, .ref 4, .ref 5, .int 0, .ref 6, .ref 7, .long 0, .ref 8, .int 0, .int 0, .null, .int 0, .null, .int 0, .null, .int 0, .int 0, .int 0, .int 0, .int 0, .int 0, .int 0, .null]), .inr (0, 37, .inl (fun _ => 0)), .inr (0, 37, .inl (fun _ => 0)), .inr (0, 30, .inl (fun _ => 0)), .inr (0, 30, .inl (fun _ => 0)), .inr (0, 600, .inl (fun _ => 0)), .inr (0, 62, .inl (fun _ => 0)), .inr (1, 2, .inl (fun _ => 0)), .inr (0, 240, .inl (fun _ => 0))]) rfl rfl dX10_init_66 rfl rfl rfl (by decide) gX10_32 rfl rfl rfl rfl rfl (Nat.le_of_ble_eq_true rfl) rfl ?_
  refine mn_aload_n dX10_init_69 rfl 0 rfl ?_
  refine mn_iconst (v := -1) dX10_init_70 (by decide) ?_
  refine mp_put (i := 0) (b := 0) (t' := [.inl (10, [.ref 1, .ref 2, .ref 3, .ref 4, .ref 5, .int 0, .ref 6, .ref 7, .long 0, .ref 8, .int 0, .int (-1), .null, .int 0, .null, .int 0, .null, .int 0, .int 0, .int 0, .int 0, .int 0, .int 0, .int 0, .null]), .inr (0, 37, .inl (fun _ => 0)), .inr (0, 37, .inl (fun _ => 0)), .inr (0, 30, .inl (fun _ => 0)), .inr (0, 30, .inl (fun _ => 0)), .inr (0, 600, .inl (fun _ => 0)), .inr (0, 62, .inl (fun _ => 0)), .inr (1, 2, .inl (fun _ => 0)), .inr (0, 240, .inl (fun _ => 0))]) rfl dX10_init_71 rfl rfl rfl (by decide) gX10_35 rfl rfl rfl rfl (Nat.le_of_ble_eq_true rfl) rfl ?_
  refine mn_aload_n dX10_init_74 rfl 0 rfl ?_
  refine mn_bipush (v := 12) dX10_init_75 (by decide) ?_
  refine mp_newi (j := 9) (b := 0) (t' := [.inl (10, [.ref 1, .ref 2, .ref 3, .ref 4, .ref 5, .int 0, .ref 6, .ref 7, .long 0, .ref 8, .int 0, .int (-1), .null, .int 0, .null, .int 0, .null, .int 0, .int 0, .int 0, .int 0, .int 0, .int 0, .int 0, .null]), .inr (0, 37, .inl (fun _ => 0)), .inr (0, 37, .inl (fun _ => 0)), .inr (0, 30, .inl (fun _ => 0)), .inr (0, 30, .inl (fun _ => 0)), .inr (0, 600, .inl (fun _ => 0)), .inr (0, 62, .inl (fun _ => 0)), .inr (1, 2, .inl (fun _ => 0)), .inr (0, 240, .inl (fun _ => 0)), .inr (0, 12, .inl (fun _ => 0))]) rfl dX10_init_77 rfl rfl (Nat.le_of_ble_eq_true rfl) (by decide) rfl (by omega) (by omega) ⟨Nat.le_of_ble_eq_true rfl, Nat.le_of_ble_eq_true rfl⟩ ?_
  refine mp_putF (i := 0) (b := 0) (t' := [.inl (10, [.ref 1, .ref 2, .ref 3, .ref 4, .ref 5, .int 0, .ref 6, .ref 7, .long 0, .ref 8, .int 0, .int (-1), .ref 9, .int 0, .null, .int 0, .null, .int 0, .int 0, .int 0, .int 0, .int 0, .int 0, .int 0, .null]), .inr (0, 37, .inl (fun _ => 0)), .inr (0, 37, .inl (fun _ => 0)), .inr (0, 30, .inl (fun _ => 0)), .inr (0, 30, .inl (fun _ => 0)), .inr (0, 600, .inl (fun _ => 0)), .inr (0, 62, .inl (fun _ => 0)), .inr (1, 2, .inl (fun _ => 0)), .inr (0, 240, .inl (fun _ => 0)), .inr (0, 12, .inl (fun _ => 0))]) rfl rfl dX10_init_79 rfl rfl rfl (by decide) gX10_39 rfl rfl rfl rfl rfl (Nat.le_of_ble_eq_true rfl) rfl ?_
  refine mn_aload_n dX10_init_82 rfl 0 rfl ?_
  refine mn_bipush (v := 12) dX10_init_83 (by decide) ?_
  refine mp_newi (j := 10) (b := 0) (t' := [.inl (10, [.ref 1, .ref 2, .ref 3, .ref 4, .ref 5, .int 0, .ref 6, .ref 7, .long 0, .ref 8, .int 0, .int (-1), .ref 9, .int 0, .null, .int 0, .null, .int 0, .int 0, .int 0, .int 0, .int 0, .int 0, .int 0, .null]), .inr (0, 37, .inl (fun _ => 0)), .inr (0, 37, .inl (fun _ => 0)), .inr (0, 30, .inl (fun _ => 0)), .inr (0, 30, .inl (fun _ => 0)), .inr (0, 600, .inl (fun _ => 0)), .inr (0, 62, .inl (fun _ => 0)), .inr (1, 2, .inl (fun _ => 0)), .inr (0, 240, .inl (fun _ => 0)), .inr (0, 12, .inl (fun _ => 0)), .inr (0, 12, .inl (fun _ => 0))]) rfl dX10_init_85 rfl rfl (Nat.le_of_ble_eq_true rfl) (by decide) rfl (by omega) (by omega) ⟨Nat.le_of_ble_eq_true rfl, Nat.le_of_ble_eq_true rfl⟩ ?_
  refine mp_putF (i := 0) (b := 0) (t' := [.inl (10, [.ref 1, .ref 2, .ref 3, .ref 4, .ref 5, .int 0, .ref 6, .ref 7, .long 0, .ref 8, .int 0, .int (-1), .ref 9, .int 0, .ref 10, .int 0, .null, .int 0, .int 0, .int 0, .int 0, .int 0, .int 0, .int 0, .null]), .inr (0, 37, .inl (fun _ => 0)), .inr (0, 37, .inl (fun _ => 0)), .inr (0, 30, .inl (fun _ => 0)), .inr (0, 30, .inl (fun _ => 0)), .inr (0, 600, .inl (fun _ => 0)), .inr (0, 62, .inl (fun _ => 0)), .inr (1, 2, .inl (fun _ => 0)), .inr (0, 240, .inl (fun _ => 0)), .inr (0, 12, .inl (fun _ => 0)), .inr (0, 12, .inl (fun _ => 0))]) rfl rfl dX10_init_87 rfl rfl rfl (by decide) gX10_42 rfl rfl rfl rfl rfl (Nat.le_of_ble_eq_true rfl) rfl ?_
  refine mn_aload_n dX10_init_90 rfl 0 rfl ?_
  refine mn_bipush (v := 30) dX10_init_91 (by decide) ?_
  refine mp_newi (j := 11) (b := 0) (t' := [.inl (10, [.ref 1, .ref 2, .ref 3, .ref 4, .ref 5, .int 0, .ref 6, .ref 7, .long 0, .ref 8, .int 0, .int (-1), .ref 9, .int 0, .ref 10, .int 0, .null, .int 0, .int 0, .int 0, .int 0, .int 0, .int 0, .int 0, .null]), .inr (0, 37, .inl (fun _ => 0)), .inr (0, 37, .inl (fun _ => 0)), .inr (0, 30, .inl (fun _ => 0)), .inr (0, 30, .inl (fun _ => 0)), .inr (0, 600, .inl (fun _ => 0)), .inr (0, 62, .inl (fun _ => 0)), .inr (1, 2, .inl (fun _ => 0)), .inr (0, 240, .inl (fun _ => 0)), .inr (0, 12, .inl (fun _ => 0)), .inr (0, 12, .inl (fun _ => 0)), .inr (0, 30, .inl (fun _ => 0))]) rfl dX10_init_93 rfl rfl (Nat.le_of_ble_eq_true rfl) (by decide) rfl (by omega) (by omega) ⟨Nat.le_of_ble_eq_true rfl, Nat.le_of_ble_eq_true rfl⟩ ?_
  refine mp_putF (i := 0) (b := 0) (t' := [.inl (10, [.ref 1, .ref 2, .ref 3, .ref 4, .ref 5, .int 0, .ref 6, .ref 7, .long 0, .ref 8, .int 0, .int (-1), .ref 9, .int 0, .ref 10, .int 0, .ref 11, .int 0, .int 0, .int 0, .int 0, .int 0, .int 0, .int 0, .null]), .inr (0, 37, .inl (fun _ => 0)), .inr (0, 37, .inl (fun _ => 0)), .inr (0, 30, .inl (fun _ => 0)), .inr (0, 30, .inl (fun _ => 0)), .inr (0, 600, .inl (fun _ => 0)), .inr (0, 62, .inl (fun _ => 0)), .inr (1, 2, .inl (fun _ => 0)), .inr (0, 240, .inl (fun _ => 0)), .inr (0, 12, .inl (fun _ => 0)), .inr (0, 12, .inl (fun _ => 0)), .inr (0, 30, .inl (fun _ => 0))]) rfl rfl dX10_init_95 rfl rfl rfl (by decide) gX10_45 rfl rfl rfl rfl rfl (Nat.le_of_ble_eq_true rfl) rfl ?_
  refine mn_aload_n dX10_init_98 rfl 0 rfl ?_
  refine mn_sipush (v := 896) dX10_init_99 (by decide) ?_
  refine mp_newi (j := 12) (b := 0) (t' := [.inl (10, [.ref 1, .ref 2, .ref 3, .ref 4, .ref 5, .int 0, .ref 6, .ref 7, .long 0, .ref 8, .int 0, .int (-1), .ref 9, .int 0, .ref 10, .int 0, .ref 11, .int 0, .int 0, .int 0, .int 0, .int 0, .int 0, .int 0, .null]), .inr (0, 37, .inl (fun _ => 0)), .inr (0, 37, .inl (fun _ => 0)), .inr (0, 30, .inl (fun _ => 0)), .inr (0, 30, .inl (fun _ => 0)), .inr (0, 600, .inl (fun _ => 0)), .inr (0, 62, .inl (fun _ => 0)), .inr (1, 2, .inl (fun _ => 0)), .inr (0, 240, .inl (fun _ => 0)), .inr (0, 12, .inl (fun _ => 0)), .inr (0, 12, .inl (fun _ => 0)), .inr (0, 30, .inl (fun _ => 0)), .inr (0, 896, .inl (fun _ => 0))]) rfl dX10_init_102 rfl rfl (Nat.le_of_ble_eq_true rfl) (by decide) rfl (by omega) (by omega) ⟨Nat.le_of_ble_eq_true rfl, Nat.le_of_ble_eq_true rfl⟩ ?_
  refine mp_putF (i := 0) (b := 0) (t' := [.inl (10, [.ref 1, .ref 2, .ref 3, .ref 4, .ref 5, .int 0, .ref 6, .ref 7, .long 0, .ref 8, .int 0, .int (-1), .ref 9, .int 0, .ref 10, .int 0, .ref 11, .int 0, .int 0, .int 0, .int 0, .int 0, .int 0, .int 0, .ref 12]), .inr (0, 37, .inl (fun _ => 0)), .inr (0, 37, .inl (fun _ => 0)), .inr (0, 30, .inl (fun _ => 0)), .inr (0, 30, .inl (fun _ => 0)), .inr (0, 600, .inl (fun _ => 0)), .inr (0, 62, .inl (fun _ => 0)), .inr (1, 2, .inl (fun _ => 0)), .inr (0, 240, .inl (fun _ => 0)), .inr (0, 12, .inl (fun _ => 0)), .inr (0, 12, .inl (fun _ => 0)), .inr (0, 30, .inl (fun _ => 0)), .inr (0, 896, .inl (fun _ => 0))]) rfl rfl dX10_init_104 rfl rfl rfl (by decide) gX10_48 rfl rfl rfl rfl rfl (Nat.le_of_ble_eq_true rfl) rfl ?_
  rw [k_model0]
  refine mn_aload_n dX10_init_107 rfl 0 rfl ?_
  refine mn_get dX10_init_108 (mm_enc_get shM_0) rfl (by decide) gX10_7 rfl ?_
  refine mn_callS (as := [.ref 1]) (st := []) dX10_init_111 rfl mX10_51 t_X10_blank rfl (Nat.le_of_ble_eq_true rfl) ⟨Nat.le_of_ble_eq_true rfl, Nat.le_of_ble_eq_true rfl⟩ ⟨Nat.le_of_ble_eq_true rfl, Nat.le_of_ble_eq_true rfl⟩ (c_X10_blank1 (g := g) SM0 JM0) (fun r w1 hq => ?_)
  obtain ⟨S1, rfl, rfl, h1, -, -⟩ := hq
  refine mn_aload_n dX10_init_114 rfl 0 rfl ?_
  refine mn_callV (as := []) (st := []) dX10_init_115 rfl (mm_enc_get shM_0) rfl rfl mX10_55 t_X10_begins rfl (Nat.le_of_ble_eq_true rfl) ⟨Nat.le_of_ble_eq_true rfl, Nat.le_of_ble_eq_true rfl⟩ ⟨Nat.le_of_ble_eq_true rfl, Nat.le_of_ble_eq_true rfl⟩ (c_X10_begins (g := g) S1 h1) (fun r w1 hq => ?_)
  obtain ⟨S2, rfl, rfl, h2, -, -⟩ := hq
  exact mn_vret rfl dX10_init_118 rfl rfl ⟨S2, rfl, rfl, h2⟩
theorem kq_choir : (fun i => if i < 7 then some (0 + 140 + 3 + 1 + i) else none) = fun i => ([144, 145, 146, 147, 148, 149, 150] : List Nat)[i]? := by
  funext i
  match i with
  | 0 | 1 | 2 | 3 | 4 | 5 | 6 => rfl
  | n + 7 => simp
theorem k_class0 : ([] ++ rs_class 0 : List mm_E) = mm_enc shC SC0 := by
  unfold rs_class vq_8 vq_7 vq_6 rs_choir
  rw [kq_choir]
  rfl
theorem mcn_wk {g : mm_G} {y : MethodName} {cc : ByteArray} {nL : Nat} {rm : Room} {as : List Value} {w : List mm_E} {Q Q2 : Option Value → List mm_E → Prop} (h : mcn g y cc nL rm as w Q) (hq : ∀ r w, Q r w → Q2 r w) : mcn g y cc nL rm as w Q2 := by
  intro l p e ha hc hk s m args below hf happ hP hK
  obtain ⟨t, o, h1, h2, h3, h4⟩ := h l p e ha hc hk s m args below hf happ hP hK
  refine ⟨t, o, h1, h2, h3, ?_⟩
  obtain ⟨⟨⟨r, w1, a1, a2, a3⟩, a4⟩, a5⟩ := h4
  exact ⟨⟨⟨r, w1, a1, hq r w1 a2, a3⟩, a4⟩, a5⟩
theorem k_class1 {g : mm_G} : mcn g yX9_init cX9_init 2 (mn_rm 3 162 2193) [.ref 0] [.inl (9, df9)] (qv shC JC) := mcn_wk (k_class (g := g) [] 0 rfl (by decide)) (fun r w ⟨h1, h2⟩ => ⟨SC0, h1, h2.trans k_class0, JC0⟩)
