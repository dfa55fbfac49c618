/-! ===== constructors: Past, the class, the reference ===== -/
theorem kc_RX7_9 : Cond.classLink RX7 9 RX3 ∈ mm_ok := mm_in 199 (by decide +kernel) rfl
theorem ko_RX7 : Cond.methodLink RX7 3 Lib.objectInit ∈ mm_ok := mm_in 198 (by decide +kernel) rfl
theorem ko_RX9 : Cond.methodLink RX9 1 Lib.objectInit ∈ mm_ok := mm_in 90 (by decide +kernel) rfl
theorem kc_RX9_7 : Cond.classLink RX9 7 RX8 ∈ mm_ok := mm_in 93 (by decide +kernel) rfl
theorem kc_RX9_16 : Cond.classLink RX9 16 RX6 ∈ mm_ok := mm_in 122 (by decide +kernel) rfl
theorem kc_RX9_26 : Cond.classLink RX9 26 RX3 ∈ mm_ok := mm_in 163 (by decide +kernel) rfl
theorem kc_RX9_36 : Cond.classLink RX9 36 RX7 ∈ mm_ok := mm_in 193 (by decide +kernel) rfl
theorem kc_RX9_43 : Cond.classLink RX9 43 RX4 ∈ mm_ok := mm_in 213 (by decide +kernel) rfl
theorem kc_RX9_49 : Cond.classLink RX9 49 RX1 ∈ mm_ok := mm_in 215 (by decide +kernel) rfl
theorem kc_RX9_56 : Cond.classLink RX9 56 RX2 ∈ mm_ok := mm_in 226 (by decide +kernel) rfl
theorem kc_RX9_71 : Cond.classLink RX9 71 RX5 ∈ mm_ok := mm_in 246 (by decide +kernel) rfl
theorem kc_RX9_78 : Cond.classLink RX9 78 RX0 ∈ mm_ok := mm_in 262 (by decide +kernel) rfl
theorem ko_RX10 : Cond.methodLink RX10 1 Lib.objectInit ∈ mm_ok := mm_in 900 (by decide +kernel) rfl
theorem gX7_11 : Cond.fieldLink RX7 11 (TX7 2).1 (TX7 2).2.1 (TX7 2).2.2.1 ∈ mm_ok := mm_in 205 (by decide +kernel) rfl
theorem qmX7_17 : Cond.methodLinkNest RX7 17 yX3_init "VoiceWills" ∈ mm_nest := mm_inN 201 (by decide +kernel) rfl
theorem qmX9_9 : Cond.methodLinkNest RX9 9 yX8_init "VoiceWills" ∈ mm_nest := mm_inN 95 (by decide +kernel) rfl
theorem tk_X8_init : mm_mk yX8_init cX8_init 1 0 := ⟨mm_in 97 (by decide +kernel) rfl, mm_in 96 (by decide +kernel) rfl, rfl, mm_in 73 (by decide +kernel) rfl, by decide, by decide, by decide +kernel⟩
theorem gX9_10 : Cond.fieldLink RX9 10 (TX9 0).1 (TX9 0).2.1 (TX9 0).2.2.1 ∈ mm_ok := mm_in 298 (by decide +kernel) rfl
theorem qmX9_18 : Cond.methodLinkNest RX9 18 yX6_init "VoiceWills" ∈ mm_nest := mm_inN 124 (by decide +kernel) rfl
theorem tk_X6_init : mm_mk yX6_init cX6_init 1 0 := ⟨mm_in 126 (by decide +kernel) rfl, mm_in 125 (by decide +kernel) rfl, rfl, mm_in 74 (by decide +kernel) rfl, by decide, by decide, by decide +kernel⟩
theorem gX9_19 : Cond.fieldLink RX9 19 (TX9 1).1 (TX9 1).2.1 (TX9 1).2.2.1 ∈ mm_ok := mm_in 299 (by decide +kernel) rfl
theorem gX9_23 : Cond.fieldLink RX9 23 (TX9 2).1 (TX9 2).2.1 (TX9 2).2.2.1 ∈ mm_ok := mm_in 300 (by decide +kernel) rfl
theorem qmX9_28 : Cond.methodLinkNest RX9 28 yX3_init "VoiceWills" ∈ mm_nest := mm_inN 165 (by decide +kernel) rfl
theorem gX9_29 : Cond.fieldLink RX9 29 (TX9 3).1 (TX9 3).2.1 (TX9 3).2.2.1 ∈ mm_ok := mm_in 301 (by decide +kernel) rfl
theorem gX9_33 : Cond.fieldLink RX9 33 (TX9 4).1 (TX9 4).2.1 (TX9 4).2.2.1 ∈ mm_ok := mm_in 302 (by decide +kernel) rfl
theorem qmX9_38 : Cond.methodLink RX9 38 yX7_init ∈ mm_ok := mm_in 195 (by decide +kernel) rfl
theorem tk_X7_init : mm_mk yX7_init cX7_init 2 0 := ⟨mm_in 197 (by decide +kernel) rfl, mm_in 196 (by decide +kernel) rfl, rfl, mm_in 76 (by decide +kernel) rfl, by decide, by decide, by decide +kernel⟩
theorem gX9_39 : Cond.fieldLink RX9 39 (TX9 5).1 (TX9 5).2.1 (TX9 5).2.2.1 ∈ mm_ok := mm_in 303 (by decide +kernel) rfl
theorem gX9_45 : Cond.fieldLink RX9 45 (TX9 6).1 (TX9 6).2.1 (TX9 6).2.2.1 ∈ mm_ok := mm_in 304 (by decide +kernel) rfl
theorem qmX9_51 : Cond.methodLinkNest RX9 51 yX1_init "VoiceWills" ∈ mm_nest := mm_inN 217 (by decide +kernel) rfl
theorem tk_X1_init : mm_mk yX1_init cX1_init 1 0 := ⟨mm_in 219 (by decide +kernel) rfl, mm_in 218 (by decide +kernel) rfl, rfl, mm_in 77 (by decide +kernel) rfl, by decide, by decide, by decide +kernel⟩
theorem gX9_52 : Cond.fieldLink RX9 52 (TX9 7).1 (TX9 7).2.1 (TX9 7).2.2.1 ∈ mm_ok := mm_in 305 (by decide +kernel) rfl
theorem qmX9_58 : Cond.methodLink RX9 58 yX2_init ∈ mm_ok := mm_in 228 (by decide +kernel) rfl
theorem tk_X2_init : mm_mk yX2_init cX2_init 3 1 := ⟨mm_in 230 (by decide +kernel) rfl, mm_in 229 (by decide +kernel) rfl, rfl, mm_in 78 (by decide +kernel) rfl, by decide, by decide, by decide +kernel⟩
theorem gX9_61 : Cond.fieldLink RX9 61 (TX9 8).1 (TX9 8).2.1 (TX9 8).2.2.1 ∈ mm_ok := mm_in 306 (by decide +kernel) rfl
theorem gX9_65 : Cond.fieldLink RX9 65 (TX9 9).1 (TX9 9).2.1 (TX9 9).2.2.1 ∈ mm_ok := mm_in 307 (by decide +kernel) rfl
theorem gX9_68 : Cond.fieldLink RX9 68 (TX9 10).1 (TX9 10).2.1 (TX9 10).2.2.1 ∈ mm_ok := mm_in 308 (by decide +kernel) rfl
theorem qmX9_73 : Cond.methodLinkNest RX9 73 yX5_init "VoiceWills" ∈ mm_nest := mm_inN 248 (by decide +kernel) rfl
theorem tk_X5_init : mm_mk yX5_init cX5_init 1 0 := ⟨mm_in 250 (by decide +kernel) rfl, mm_in 249 (by decide +kernel) rfl, rfl, mm_in 80 (by decide +kernel) rfl, by decide, by decide, by decide +kernel⟩
theorem gX9_74 : Cond.fieldLink RX9 74 (TX9 11).1 (TX9 11).2.1 (TX9 11).2.2.1 ∈ mm_ok := mm_in 309 (by decide +kernel) rfl
theorem qmX9_80 : Cond.methodLinkNest RX9 80 yX0_init "VoiceWills" ∈ mm_nest := mm_inN 264 (by decide +kernel) rfl
theorem tk_X0_init : mm_mk yX0_init cX0_init 1 0 := ⟨mm_in 266 (by decide +kernel) rfl, mm_in 265 (by decide +kernel) rfl, rfl, mm_in 81 (by decide +kernel) rfl, by decide, by decide, by decide +kernel⟩
theorem gX9_81 : Cond.fieldLink RX9 81 (TX9 12).1 (TX9 12).2.1 (TX9 12).2.2.1 ∈ mm_ok := mm_in 310 (by decide +kernel) rfl
theorem qmX9_85 : Cond.methodLinkNest RX9 85 yX4_init "VoiceWills" ∈ mm_nest := mm_inN 281 (by decide +kernel) rfl
theorem tk_X4_init : mm_mk yX4_init cX4_init 1 0 := ⟨mm_in 283 (by decide +kernel) rfl, mm_in 282 (by decide +kernel) rfl, rfl, mm_in 82 (by decide +kernel) rfl, by decide, by decide, by decide +kernel⟩
theorem gX10_7 : Cond.fieldLink RX10 7 (TX10 0).1 (TX10 0).2.1 (TX10 0).2.2.1 ∈ mm_ok := mm_in 916 (by decide +kernel) rfl
theorem gX10_13 : Cond.fieldLink RX10 13 (TX10 1).1 (TX10 1).2.1 (TX10 1).2.2.1 ∈ mm_ok := mm_in 917 (by decide +kernel) rfl
theorem gX10_16 : Cond.fieldLink RX10 16 (TX10 2).1 (TX10 2).2.1 (TX10 2).2.2.1 ∈ mm_ok := mm_in 918 (by decide +kernel) rfl
theorem gX10_19 : Cond.fieldLink RX10 19 (TX10 3).1 (TX10 3).2.1 (TX10 3).2.2.1 ∈ mm_ok := mm_in 919 (by decide +kernel) rfl
theorem gX10_22 : Cond.fieldLink RX10 22 (TX10 4).1 (TX10 4).2.1 (TX10 4).2.2.1 ∈ mm_ok := mm_in 920 (by decide +kernel) rfl
theorem gX10_25 : Cond.fieldLink RX10 25 (TX10 6).1 (TX10 6).2.1 (TX10 6).2.2.1 ∈ mm_ok := mm_in 922 (by decide +kernel) rfl
theorem gX10_28 : Cond.fieldLink RX10 28 (TX10 7).1 (TX10 7).2.1 (TX10 7).2.2.1 ∈ mm_ok := mm_in 923 (by decide +kernel) rfl
theorem gX10_32 : Cond.fieldLink RX10 32 (TX10 9).1 (TX10 9).2.1 (TX10 9).2.2.1 ∈ mm_ok := mm_in 925 (by decide +kernel) rfl
theorem gX10_35 : Cond.fieldLink RX10 35 (TX10 11).1 (TX10 11).2.1 (TX10 11).2.2.1 ∈ mm_ok := mm_in 927 (by decide +kernel) rfl
theorem gX10_39 : Cond.fieldLink RX10 39 (TX10 12).1 (TX10 12).2.1 (TX10 12).2.2.1 ∈ mm_ok := mm_in 928 (by decide +kernel) rfl
theorem gX10_42 : Cond.fieldLink RX10 42 (TX10 14).1 (TX10 14).2.1 (TX10 14).2.2.1 ∈ mm_ok := mm_in 930 (by decide +kernel) rfl
theorem gX10_45 : Cond.fieldLink RX10 45 (TX10 16).1 (TX10 16).2.1 (TX10 16).2.2.1 ∈ mm_ok := mm_in 932 (by decide +kernel) rfl
theorem gX10_48 : Cond.fieldLink RX10 48 (TX10 24).1 (TX10 24).2.1 (TX10 24).2.2.1 ∈ mm_ok := mm_in 940 (by decide +kernel) rfl
theorem rs_choir_len (b : Nat) : (rs_choir b).length = 11 := rfl
theorem rs_draws_len (b : Nat) : (rs_draws b).length = 1 := rfl
theorem rs_ent6_len (b : Nat) : (rs_ent6 b).length = 3 := rfl
theorem rs_ent15_len (b : Nat) : (rs_ent15 b).length = 3 := rfl
theorem rs_folk_len (b : Nat) : (rs_folk b).length = 5 := rfl
theorem rs_line_len (b : Nat) : (rs_line b).length = 2 := rfl
theorem rs_parish_len (b : Nat) : (rs_parish b).length = 6 := rfl
theorem rs_reader_len (b : Nat) : (rs_reader b).length = 2 := rfl
theorem rs_image_len (b : Nat) : (rs_image b).length = 6 := rfl
def fk (c : Nat) : Nat → List mm_E
  | 0 => []
  | k + 1 => fk c k ++ rs_folk (c + 5 * k)
def pl (c : Nat) : Nat → List Nat
  | 0 => []
  | k + 1 => pl c k ++ [c + 5 * k]
theorem pl_len (c : Nat) : ∀ k, (pl c k).length = k
  | 0 => rfl
  | k + 1 => by rw [pl, List.length_append, pl_len c k]; rfl
theorem fk_len (c : Nat) : ∀ k, (fk c k).length = 5 * k
  | 0 => rfl
  | k + 1 => by rw [fk, List.length_append, fk_len c k, rs_folk_len]; omega
def tP (b k : Nat) : List mm_E := .inl (7, [.int 0, .int 0, .ref (b + 1)]) :: .inr (2, 20, .inr (fun j => (pl (b + 2) k)[j]?)) :: fk (b + 2) k
theorem tP_len (b k : Nat) : (tP b k).length = 2 + 5 * k := by
  unfold tP
  rw [List.length_cons, List.length_cons, fk_len]
  omega
def rs_past (b : Nat) : List mm_E := tP b 20
theorem rs_past_len (b : Nat) : (rs_past b).length = 102 := tP_len b 20
theorem kp_lt : ∀ k, k < 20 → ¬ (20 : Int32) ≤ Int32.ofNat k ∧ ¬ (Int32.ofNat k < 0 ∨ 20 ≤ (Int32.ofNat k).toNatClampNeg) ∧ (Int32.ofNat k).toNatClampNeg = k ∧ Int32.ofNat k + Int32.ofInt 1 = Int32.ofNat (k + 1) := by decide
theorem kp_get {x : mm_E} {A B C : List mm_E} {y : mm_E} {n : Nat} (h : A.length = n) (hB : B = y :: C) : (A ++ B)[n]? = some y := by
  subst hB
  subst h
  rw [List.getElem?_append_right (Nat.le_refl _), Nat.sub_self]
  rfl
theorem kp_loop {g : mm_G} {w : List mm_E} {b : Nat} (hb : w.length = b) (h9 : b + 102 < 999) : ∀ d k, k + d = 20 → mn (mn_f g (b + 1)) g RX7 cX7_init 2 none true (mn_rm 2 101 720) (fun r w1 => r = none ∧ w1 = w ++ rs_past b) (1 + 5 * k) (20 + 35 * k) (w ++ tP b k) 15 [(1, .int (Int32.ofNat k)), (0, .ref b)] [] := by
  intro d
  induction d with
  | zero =>
    intro k hk
    have hk : k = 20 := hk
    subst hk
    refine mn_iload_n dX7_init_15 rfl 0 rfl ?_
    refine mn_aload_n dX7_init_16 rfl 1 rfl ?_
    refine mp_get (i := 0) hb dX7_init_17 rfl rfl rfl (by decide) gX7_11 rfl ?_
    refine mp_alen (i := 1) (v := 20) hb dX7_init_20 rfl rfl rfl (by decide) ?_
    refine mn_icmp_ge (tgt := 43) dX7_init_21 rfl (fun q => ?_) (fun q => absurd (by decide) q)
    exact mn_vret rfl dX7_init_43 rfl rfl ⟨rfl, rfl⟩
  | succ d ih =>
    intro k hk
    obtain ⟨q1, q2, q3, q4⟩ := kp_lt k (by omega)
    have e2 : b + (2 + 5 * k) = b + 2 + 5 * k := by omega
    refine mn_iload_n dX7_init_15 rfl 0 rfl ?_
    refine mn_aload_n dX7_init_16 rfl 1 rfl ?_
    refine mp_get (i := 0) hb dX7_init_17 rfl rfl rfl (by decide) gX7_11 rfl ?_
    refine mp_alen (i := 1) (v := 20) hb dX7_init_20 rfl rfl rfl (by decide) ?_
    refine mn_icmp_ge (tgt := 43) dX7_init_21 rfl (fun q => absurd q q1) (fun q => ?_)
    refine mn_aload_n dX7_init_24 rfl 1 rfl ?_
    refine mp_get (i := 0) hb dX7_init_25 rfl rfl rfl (by decide) gX7_11 rfl ?_
    refine mn_iload_n dX7_init_28 rfl 0 rfl ?_
    refine mp_new (j := 2 + 5 * k) (t' := tP b k ++ [.inl (3, df3)]) hb dX7_init_29 kc_RX7_9 kc_D3 (tP_len b k) rfl (by omega) (by omega) ⟨by show _ ≤ 101; omega, by show _ ≤ 720; omega⟩ ?_
    refine mn_dup dX7_init_32 rfl ?_
    rw [e2]
    refine mp_callIN (j := 2 + 5 * k) (t0 := tP b k) (t' := tP b k ++ rs_folk (b + 2 + 5 * k)) hb dX7_init_33 qmX7_17 k_folk rfl (tP_len b k) e2 rfl rfl (by omega) tk_X3_init rfl (Nat.le_of_ble_eq_true rfl) ⟨Nat.le_of_ble_eq_true rfl, Nat.le_of_ble_eq_true rfl⟩ ⟨by show _ + 4 ≤ 101; omega, by show _ + 28 ≤ 720; omega⟩ (by omega) ?_
    refine mp_aast (i1 := 1) (i2 := 2 + 5 * k) (r := (RX3, TX3, 7)) (l := pl (b + 2) k) (t' := tP b (k + 1)) hb dX7_init_36 rfl rfl rfl e2 (kp_get (x := .inl (3, df3)) (tP_len b k) rfl) rfl q2 (by rw [q3, pl_len]) rfl rfl ?_
    refine mn_iinc (ls' := fun v => [(1, .int v), (0, .ref b)]) dX7_init_37 0 rfl (by decide) (fun _ => rfl) (fun v hv => ?_)
    subst hv
    rw [q4]
    refine mn_goto (tgt := 15) dX7_init_40 rfl ?_
    have h := ih (k + 1) (by omega)
    rw [show 1 + 5 * (k + 1) = 1 + 5 * k + 1 + 4 by omega, show 20 + 35 * (k + 1) = 20 + 35 * k + 7 + 28 by omega] at h
    exact h
theorem k_past {g : mm_G} : mp_ctor g yX7_init cX7_init 2 (mn_rm 2 101 720) [] (.inl (7, df7)) rs_past 102 := by
  refine mp_of (own := RX7) (by decide) (fun _ => Nat.le_of_ble_eq_true rfl) rfl rfl ?_
  intro w b hb h9
  show mn _ _ _ _ _ _ _ _ _ 0 0 (w ++ [.inl (7, df7)]) 0 [(0, .ref b)] []
  refine mn_aload_n dX7_init_0 rfl 0 rfl ?_
  refine mn_objInit dX7_init_1 ko_RX7 kc_O1 kc_O2 (by omega) ⟨Nat.le_of_ble_eq_true rfl, Nat.le_of_ble_eq_true rfl⟩ ?_
  refine mn_aload_n dX7_init_4 rfl 0 rfl ?_
  refine mn_bipush (v := 20) dX7_init_5 (by decide) ?_
  refine mp_anew (N := 20) (t0 := 2) (j := 1) (t' := [.inl (7, df7), .inr (2, 20, .inr (fun _ => none))]) hb dX7_init_7 kc_RX7_9 (fun s h => h.2.1) rfl rfl rfl (by decide) (by decide) rfl (by omega) (by omega) ⟨Nat.le_of_ble_eq_true rfl, Nat.le_of_ble_eq_true rfl⟩ ?_
  refine mp_putF (i := 0) (t' := tP b 0) hb rfl dX7_init_10 rfl rfl rfl (by decide) gX7_11 rfl rfl rfl rfl rfl (Nat.le_of_ble_eq_true rfl) rfl ?_
  refine mn_iconst (v := 0) dX7_init_13 (by decide) ?_
  refine mn_istore_n (ls' := [(1, .int 0), (0, .ref b)]) dX7_init_14 rfl (by decide) rfl ?_
  exact kp_loop hb h9 20 0 rfl
theorem kv_len {x : mm_E} {A : List mm_E} {n : Nat} (h : A.length = n) : (x :: A).length = n + 1 := by rw [List.length_cons, h]
theorem kv_len2 {x e : mm_E} {A B : List mm_E} {n m : Nat} (h : A.length = n) (hB : B.length = m) : (x :: (A ++ e :: B)).length = n + m + 2 := by
  rw [List.length_cons, List.length_append, List.length_cons, h, hB]
  omega
theorem kv_app {x e : mm_E} {A B X : List mm_E} : (x :: (A ++ e :: B)) ++ X = x :: (A ++ e :: (B ++ X)) := by simp
theorem kv_get {x e : mm_E} {A B : List mm_E} {n : Nat} (h : A.length = n) : (x :: (A ++ e :: B))[n + 1]? = some e := by
  subst h
  simp
theorem kv_set {x e e' : mm_E} {A B : List mm_E} {n : Nat} (h : A.length = n) : (x :: (A ++ e :: B)).set (n + 1) e' = x :: (A ++ e' :: B) := by
  subst h
  simp
theorem kv_get2 {x e y : mm_E} {A B C D : List mm_E} {n m : Nat} (h : A.length = n) (hB : B.length = m) (hC : C = y :: D) : (x :: (A ++ e :: (B ++ C)))[n + m + 2]? = some y := by
  subst hC
  subst h
  subst hB
  rw [show A.length + B.length + 2 = (A.length + (B.length + 1)) + 1 by omega, List.getElem?_cons_succ, List.getElem?_append_right (by omega), Nat.add_sub_cancel_left, List.getElem?_cons_succ, List.getElem?_append_right (by omega), Nat.sub_self]
  rfl
def vi_0 (_ : Nat) : List mm_E := []
theorem vi_0_len (b : Nat) : (vi_0 b).length = 0 := rfl
def vq_0 (_ : Nat) : List mm_E := []
theorem vq_0_len (b : Nat) : (vq_0 b).length = 0 := rfl
def vi_1 (b : Nat) : List mm_E := vi_0 b ++ rs_reader (b + 1)
theorem vi_1_len (b : Nat) : (vi_1 b).length = 2 := by rw [vi_1, List.length_append, vi_0_len, rs_reader_len]
def vi_2 (b : Nat) : List mm_E := vi_1 b ++ rs_parish (b + 3)
theorem vi_2_len (b : Nat) : (vi_2 b).length = 8 := by rw [vi_2, List.length_append, vi_1_len, rs_parish_len]
def vi_3 (b : Nat) : List mm_E := vi_2 b ++ rs_parish (b + 9)
theorem vi_3_len (b : Nat) : (vi_3 b).length = 14 := by rw [vi_3, List.length_append, vi_2_len, rs_parish_len]
def vi_4 (b : Nat) : List mm_E := vi_3 b ++ rs_folk (b + 15)
theorem vi_4_len (b : Nat) : (vi_4 b).length = 19 := by rw [vi_4, List.length_append, vi_3_len, rs_folk_len]
def vi_5 (b : Nat) : List mm_E := vi_4 b ++ rs_folk (b + 20)
theorem vi_5_len (b : Nat) : (vi_5 b).length = 24 := by rw [vi_5, List.length_append, vi_4_len, rs_folk_len]
def vi_6 (b : Nat) : List mm_E := vi_5 b ++ rs_past (b + 25)
theorem vi_6_len (b : Nat) : (vi_6 b).length = 126 := by rw [vi_6, List.length_append, vi_5_len, rs_past_len]
def vq_1 (b : Nat) : List mm_E := vq_0 b ++ rs_draws (b + 128)
theorem vq_1_len (b : Nat) : (vq_1 b).length = 1 := by rw [vq_1, List.length_append, vq_0_len, rs_draws_len]
def vq_2 (b : Nat) : List mm_E := vq_1 b ++ rs_ent6 (b + 129)
theorem vq_2_len (b : Nat) : (vq_2 b).length = 4 := by rw [vq_2, List.length_append, vq_1_len, rs_ent6_len]
def vq_3 (b : Nat) : List mm_E := vq_2 b ++ rs_ent6 (b + 132)
theorem vq_3_len (b : Nat) : (vq_3 b).length = 7 := by rw [vq_3, List.length_append, vq_2_len, rs_ent6_len]
def vq_4 (b : Nat) : List mm_E := vq_3 b ++ rs_ent15 (b + 135)
theorem vq_4_len (b : Nat) : (vq_4 b).length = 10 := by rw [vq_4, List.length_append, vq_3_len, rs_ent15_len]
def vq_5 (b : Nat) : List mm_E := vq_4 b ++ rs_line (b + 138)
theorem vq_5_len (b : Nat) : (vq_5 b).length = 12 := by rw [vq_5, List.length_append, vq_4_len, rs_line_len]
def vq_6 (b : Nat) : List mm_E := vq_5 b ++ rs_choir (b + 140)
theorem vq_6_len (b : Nat) : (vq_6 b).length = 23 := by rw [vq_6, List.length_append, vq_5_len, rs_choir_len]
def vq_7 (b : Nat) : List mm_E := vq_6 b ++ rs_image (b + 151)
theorem vq_7_len (b : Nat) : (vq_7 b).length = 29 := by rw [vq_7, List.length_append, vq_6_len, rs_image_len]
def vq_8 (b : Nat) : List mm_E := vq_7 b ++ rs_image (b + 157)
theorem vq_8_len (b : Nat) : (vq_8 b).length = 35 := by rw [vq_8, List.length_append, vq_7_len, rs_image_len]
def rs_class (b : Nat) : List mm_E := .inl (9, [.ref (b + 1), .ref (b + 3), .ref (b + 9), .ref (b + 15), .ref (b + 20), .ref (b + 25), .ref (b + 127), .ref (b + 128), .ref (b + 129), .ref (b + 132), .ref (b + 135), .ref (b + 138), .ref (b + 140)]) :: (vi_6 b ++ .inr (3, 2, .inr (fun j => ([b + 151, b + 157] : List Nat)[j]?)) :: vq_8 b)
