/-! ===== the law: its thirty cases ===== -/
section LB
variable {p : Program} {l : Launch} {e : Env} {s : State} {m : MethodId} {below : List Frame} {meth : Method} {c : Code} {b L : Nat} {xs : Nat → Int32} {Q : State → Prop} {g1 g2 : mm_G}
def la_E (p : Program) (s : State) (m : MethodId) (meth : Method) (c : Code) (b L : Nat) (xs : Nat → Int32) (g1 g2 : mm_G) : Prop := lw_At p s m meth c b L xs ∧ mm_K g1 s ∧ mm_K g2 s ∧ (∀ q, g1.2.2.2.2 q → s.heap.size ≤ q) ∧ (∀ q, g2.2.2.2.2 q → s.heap.size ≤ q) ∧ (∀ q, g2.2.2.2.2 q → ¬ g1.2.2.2.2 q) ∧ (∀ q, g1.2.2.2.2 q → ¬ g2.2.2.2.2 q)
def la_w (s : State) (g1 g2 : mm_G) (S1 S2 : mm_S) (H : Heap) (locs : List Loc) : Prop := JC S1 ∧ JM S2 ∧ la_at s g1 g2 (mm_enc shC S1) (mm_enc shM S2) H locs
def la_ls (g1 g2 : mm_G) (b : Nat) (i : Int32) : List (Nat × Value) := [(3, .int i), (2, .ref g2.2.2.1), (1, .ref g1.2.2.1), (0, .ref b)]
variable {i : Int32} {H : Heap} {locs : List Loc} {lsA : Array Slot} {k n : Nat} {S1 S2 : mm_S} {pc : Nat} {st st0 : List Value}
theorem la_arg (E : la_E p s m meth c b L xs g1 g2) (hW : la_w s g1 g2 S1 S2 H locs) (hl : lv_has lsA 4 (la_ls g1 g2 b i)) {z : Int} {v : Int32} (d0 : decode cL_law pc = .ok (.aload_n 0, 1)) (d1 : decode cL_law (pc + 1) = .ok (.iload_n 3, 1)) (d2 : decode cL_law (pc + 2) = .ok (.iconst z, 1)) (d3 : decode cL_law (pc + 3) = .ok (.iadd, 1)) (d4 : decode cL_law (pc + 4) = .ok (.iaload, 1)) (hv : Int32.ofInt z = v) (hin : vp_in (i + v) L)
    (kk : ∀ x : Int32, x = xs (i + v).toNatClampNeg → W p l e room_1 s m #[Value.ref b] below meth c H locs k n Q (F0 m (pc + 5) lsA (.int x :: st))) : W p l e room_1 s m #[Value.ref b] below meth c H locs k n Q (F0 m pc lsA st) := by
  refine lv_aload_n E.1.1 E.1.2.1 d0 rfl (lv_at hl 3 rfl) ?_
  refine lv_iload_n E.1.1 E.1.2.1 d1 rfl (lv_at hl 0 rfl) ?_
  refine lv_iconst E.1.1 E.1.2.1 d2 hv ?_
  refine lv_iadd E.1.1 E.1.2.1 d3 ?_
  exact va_sld E.1.1 E.1.2.1 E.1.2.2.2.2.2.2.1 E.1.2.2.2.2.2.2.2.1 (fun h => absurd E.1.2.2.2.2.2.2.2.1 (Nat.not_lt.mpr h)) hW.2.2.2.2 hin d4 (kk _ rfl)
set_option maxRecDepth 100000 in
theorem la_x {y : MethodName} {bytes : ByteArray} {nL1 a1 idx d1 : Nat} {as : List Value} {R : mm_S → Int32 → Prop} (E : la_E p s m meth c b L xs g1 g2) (hW : la_w s g1 g2 S1 S2 H locs) (hl : lv_has lsA 4 (la_ls g1 g2 b i)) (hkn : k ≤ room_1.cells ∧ n ≤ room_1.slots)
    (d : decode cL_law pc = .ok (.invokevirtual idx, 3)) (hst : st0 = as.reverse ++ .ref g1.2.2.1 :: st) (hy : y.cls = RX9) (hlk : Cond.methodLink R_law idx y ∈ mm_ok) (hm : mm_mi y bytes nL1 (some .int) a1) (hn : as.length = a1) (has : as.map (mm_v g1) = as) (h8 : (st.map fun v => v.category).sum ≤ 8) (hR : (mm_rm d1).frames + 1 ≤ room_1.frames ∧ 8 + (nL1 + 11) + (mm_rm d1).locals ≤ room_1.locals)
    (hM : mc g1 y bytes nL1 (some .int) (mm_rm d1) (.ref 0 :: as) (mm_enc shC S1) (qi shC (fun S v => JC S ∧ R S v)))
    (kk : ∀ (S : mm_S) (v : Int32) (H1 : Heap) (locs1 : List Loc), R S v → la_w s g1 g2 S S2 H1 locs1 → W p l e room_1 s m #[Value.ref b] below meth c H1 locs1 k n Q (F0 m (pc + 3) lsA (.int v :: st))) : W p l e room_1 s m #[Value.ref b] below meth c H locs k n Q (F0 m pc lsA st0) := by
  refine la_call (a := 0) E.1 E.2.1 E.2.2.2.1 E.2.2.2.2.2.1 hW.2.2 hl.1 d hst (mm_enc_get shC_0) rfl hy hlk hm hn has h8 hR hkn hM (fun r w1 H1 locs1 hQ hH => ?_)
  obtain ⟨S, v, hr1, hw1, hJ, hr⟩ := hQ
  replace hw1 := hw1.symm
  subst hw1
  replace hr1 := hr1.symm
  subst hr1
  exact kk S v H1 locs1 hr ⟨hJ, hW.2.1, hH⟩
set_option maxRecDepth 100000 in
theorem la_m {y : MethodName} {bytes : ByteArray} {nL1 a1 idx d1 : Nat} {as : List Value} {R : mm_S → Int32 → Prop} (E : la_E p s m meth c b L xs g1 g2) (hW : la_w s g1 g2 S1 S2 H locs) (hl : lv_has lsA 4 (la_ls g1 g2 b i)) (hkn : k ≤ room_1.cells ∧ n ≤ room_1.slots)
    (d : decode cL_law pc = .ok (.invokevirtual idx, 3)) (hst : st0 = as.reverse ++ .ref g2.2.2.1 :: st) (hy : y.cls = RX10) (hlk : Cond.methodLink R_law idx y ∈ mm_ok) (hm : mm_mi y bytes nL1 (some .int) a1) (hn : as.length = a1) (has : as.map (mm_v g2) = as) (h8 : (st.map fun v => v.category).sum ≤ 8) (hR : (mm_rm d1).frames + 1 ≤ room_1.frames ∧ 8 + (nL1 + 11) + (mm_rm d1).locals ≤ room_1.locals)
    (hM : mc g2 y bytes nL1 (some .int) (mm_rm d1) (.ref 0 :: as) (mm_enc shM S2) (qi shM (fun S v => JM S ∧ R S v)))
    (kk : ∀ (S : mm_S) (v : Int32) (H1 : Heap) (locs1 : List Loc), R S v → la_w s g1 g2 S1 S H1 locs1 → W p l e room_1 s m #[Value.ref b] below meth c H1 locs1 k n Q (F0 m (pc + 3) lsA (.int v :: st))) : W p l e room_1 s m #[Value.ref b] below meth c H locs k n Q (F0 m pc lsA st0) := by
  refine la_call (a := 0) E.1 E.2.2.1 E.2.2.2.2.1 E.2.2.2.2.2.2 ⟨hW.2.2.2.1, hW.2.2.1, hW.2.2.2.2⟩ hl.1 d hst (mm_enc_get shM_0) rfl hy hlk hm hn has h8 hR hkn hM (fun r w1 H1 locs1 hQ hH => ?_)
  obtain ⟨S, v, hr1, hw1, hJ, hr⟩ := hQ
  replace hw1 := hw1.symm
  subst hw1
  replace hr1 := hr1.symm
  subst hr1
  exact kk S v H1 locs1 hr ⟨hW.1, hJ, hH.2.1, hH.1, hH.2.2⟩
theorem la_pP {sh : List mm_F} {J : mm_S → Prop} {P : mm_S → Int32 → Prop} {g : mm_G} {y : MethodName} {cc : ByteArray} {nL : Nat} {ret : Option FieldType} {rm : Room} {as : List Value} {w : List mm_E} {S0 : mm_S} (hJ : J S0) (h : mc g y cc nL ret rm as w (qi sh (fun S v => S0 = S ∧ P S v))) : mc g y cc nL ret rm as w (qi sh (fun S v => J S ∧ S0 = S ∧ P S v)) := mc_wk h (fun _ _ ⟨S, v, h1, h2, h3⟩ => ⟨S, v, h1, h2, by rw [← h3.1]; exact hJ, h3⟩)
theorem la_c0 (E : la_E p s m meth c b L xs g1 g2) (hR : Rl S1 S2) (hW : la_w s g1 g2 S1 S2 H locs) (hl : lv_has lsA 4 (la_ls g1 g2 b i)) (hkn : k ≤ room_1.cells ∧ n ≤ room_1.slots) (hin : ∀ v : Int32, 0 ≤ v.toInt ∧ v.toInt ≤ 4 → vp_in (i + v) L) (kk : ∀ (S1 S2 : mm_S) (H : Heap) (locs : List Loc), Rl S1 S2 → la_w s g1 g2 S1 S2 H locs → W p l e room_1 s m #[Value.ref b] below meth c H locs k n Q (F0 m 984 lsA [])) : W p l e room_1 s m #[Value.ref b] below meth c H locs k n Q (F0 m 168 lsA []) := by
  refine lv_aload_n E.1.1 E.1.2.1 dL_law_168 rfl (lv_at hl 2 rfl) ?_
  refine la_arg (v := 1) E hW hl dL_law_169 dL_law_170 dL_law_171 dL_law_172 dL_law_173 (by decide) (hin 1 (by decide)) (fun x1 ex1 => ?_)
  refine la_x (as := [.int x1]) (st := []) E hW hl hkn dL_law_174 rfl rfl lm_13 tl_X9_feed rfl rfl (Nat.le_of_ble_eq_true rfl) ⟨Nat.le_of_ble_eq_true rfl, Nat.le_of_ble_eq_true rfl⟩ (cx_X9_feed (g := g1) S1 hW.1 x1) (fun U1 v1 H1 locs1 r1 hW1 => ?_)
  refine lv_pop E.1.1 E.1.2.1 dL_law_177 rfl ?_
  refine lv_aload_n E.1.1 E.1.2.1 dL_law_178 rfl (lv_at hl 1 rfl) ?_
  refine la_arg (v := 1) E hW1 hl dL_law_179 dL_law_180 dL_law_181 dL_law_182 dL_law_183 (by decide) (hin 1 (by decide)) (fun y1 ey1 => ?_)
  obtain rfl : x1 = y1 := ex1.trans ey1.symm
  refine la_m (as := [.int x1]) (st := []) E hW1 hl hkn dL_law_184 rfl rfl lm_17 tl_X10_feed rfl rfl (Nat.le_of_ble_eq_true rfl) ⟨Nat.le_of_ble_eq_true rfl, Nat.le_of_ble_eq_true rfl⟩ (cx_X10_feed (g := g2) S2 hW1.2.1 x1) (fun U2 v2 H2 locs2 r2 hW2 => ?_)
  refine lv_pop E.1.1 E.1.2.1 dL_law_187 rfl ?_
  exact lv_goto E.1.1 E.1.2.1 dL_law_188 (by decide) (kk _ _ _ _ (st_of r1.2.2.2 r2.2.2.2 (st_feed hR hW.1)).2 hW2)
theorem la_c1 (E : la_E p s m meth c b L xs g1 g2) (hR : Rl S1 S2) (hW : la_w s g1 g2 S1 S2 H locs) (hl : lv_has lsA 4 (la_ls g1 g2 b i)) (hkn : k ≤ room_1.cells ∧ n ≤ room_1.slots) (hin : ∀ v : Int32, 0 ≤ v.toInt ∧ v.toInt ≤ 4 → vp_in (i + v) L) (kk : ∀ (S1 S2 : mm_S) (H : Heap) (locs : List Loc), Rl S1 S2 → la_w s g1 g2 S1 S2 H locs → W p l e room_1 s m #[Value.ref b] below meth c H locs k n Q (F0 m 984 lsA [])) : W p l e room_1 s m #[Value.ref b] below meth c H locs k n Q (F0 m 191 lsA []) := by
  refine lv_aload_n E.1.1 E.1.2.1 dL_law_191 rfl (lv_at hl 2 rfl) ?_
  refine la_x (as := []) (st := []) E hW hl hkn dL_law_192 rfl rfl lm_18 tl_X9_parish rfl rfl (Nat.le_of_ble_eq_true rfl) ⟨Nat.le_of_ble_eq_true rfl, Nat.le_of_ble_eq_true rfl⟩ (cx_X9_parish (g := g1) S1 hW.1 ) (fun U1 v1 H1 locs1 r1 hW1 => ?_)
  refine lv_pop E.1.1 E.1.2.1 dL_law_195 rfl ?_
  refine lv_aload_n E.1.1 E.1.2.1 dL_law_196 rfl (lv_at hl 1 rfl) ?_
  refine la_m (as := []) (st := []) E hW1 hl hkn dL_law_197 rfl rfl lm_22 tl_X10_parish rfl rfl (Nat.le_of_ble_eq_true rfl) ⟨Nat.le_of_ble_eq_true rfl, Nat.le_of_ble_eq_true rfl⟩ (cx_X10_parish (g := g2) S2 hW1.2.1 ) (fun U2 v2 H2 locs2 r2 hW2 => ?_)
  refine lv_pop E.1.1 E.1.2.1 dL_law_200 rfl ?_
  exact lv_goto E.1.1 E.1.2.1 dL_law_201 (by decide) (kk _ _ _ _ (st_of r1.2.2.2 r2.2.2.2 (st_parish hR hW.1)).2 hW2)
theorem la_c2 (E : la_E p s m meth c b L xs g1 g2) (hR : Rl S1 S2) (hW : la_w s g1 g2 S1 S2 H locs) (hl : lv_has lsA 4 (la_ls g1 g2 b i)) (hkn : k ≤ room_1.cells ∧ n ≤ room_1.slots) (hin : ∀ v : Int32, 0 ≤ v.toInt ∧ v.toInt ≤ 4 → vp_in (i + v) L) (kk : ∀ (S1 S2 : mm_S) (H : Heap) (locs : List Loc), Rl S1 S2 → la_w s g1 g2 S1 S2 H locs → W p l e room_1 s m #[Value.ref b] below meth c H locs k n Q (F0 m 984 lsA [])) : W p l e room_1 s m #[Value.ref b] below meth c H locs k n Q (F0 m 204 lsA []) := by
  refine lv_aload_n E.1.1 E.1.2.1 dL_law_204 rfl (lv_at hl 2 rfl) ?_
  refine la_x (as := []) (st := []) E hW hl hkn dL_law_205 rfl rfl lm_23 tl_X9_fault rfl rfl (Nat.le_of_ble_eq_true rfl) ⟨Nat.le_of_ble_eq_true rfl, Nat.le_of_ble_eq_true rfl⟩ (la_pP hW.1 (c_X9_fault (g := g1) S1 hW.1 )) (fun U1 v1 H1 locs1 r1 hW1 => ?_)
  refine lv_pop E.1.1 E.1.2.1 dL_law_208 rfl ?_
  refine lv_aload_n E.1.1 E.1.2.1 dL_law_209 rfl (lv_at hl 1 rfl) ?_
  refine la_m (as := []) (st := []) E hW1 hl hkn dL_law_210 rfl rfl lm_26 tl_X10_fault rfl rfl (Nat.le_of_ble_eq_true rfl) ⟨Nat.le_of_ble_eq_true rfl, Nat.le_of_ble_eq_true rfl⟩ (la_pP hW1.2.1 (c_X10_fault (g := g2) S2 hW1.2.1 )) (fun U2 v2 H2 locs2 r2 hW2 => ?_)
  refine lv_pop E.1.1 E.1.2.1 dL_law_213 rfl ?_
  exact lv_goto E.1.1 E.1.2.1 dL_law_214 (by decide) (kk _ _ _ _ (RA_G hR hW.1 (G1_eq r1.1) (G2_eq r2.1)) hW2)
theorem la_c3 (E : la_E p s m meth c b L xs g1 g2) (hR : Rl S1 S2) (hW : la_w s g1 g2 S1 S2 H locs) (hl : lv_has lsA 4 (la_ls g1 g2 b i)) (hkn : k ≤ room_1.cells ∧ n ≤ room_1.slots) (hin : ∀ v : Int32, 0 ≤ v.toInt ∧ v.toInt ≤ 4 → vp_in (i + v) L) (kk : ∀ (S1 S2 : mm_S) (H : Heap) (locs : List Loc), Rl S1 S2 → la_w s g1 g2 S1 S2 H locs → W p l e room_1 s m #[Value.ref b] below meth c H locs k n Q (F0 m 984 lsA [])) : W p l e room_1 s m #[Value.ref b] below meth c H locs k n Q (F0 m 217 lsA []) := by
  refine lv_aload_n E.1.1 E.1.2.1 dL_law_217 rfl (lv_at hl 2 rfl) ?_
  refine la_arg (v := 1) E hW hl dL_law_218 dL_law_219 dL_law_220 dL_law_221 dL_law_222 (by decide) (hin 1 (by decide)) (fun x1 ex1 => ?_)
  refine la_x (as := [.int x1]) (st := []) E hW hl hkn dL_law_223 rfl rfl lm_27 tl_X9_told rfl rfl (Nat.le_of_ble_eq_true rfl) ⟨Nat.le_of_ble_eq_true rfl, Nat.le_of_ble_eq_true rfl⟩ (la_pP hW.1 (c_X9_told (g := g1) S1 hW.1 x1)) (fun U1 v1 H1 locs1 r1 hW1 => ?_)
  refine lv_pop E.1.1 E.1.2.1 dL_law_226 rfl ?_
  refine lv_aload_n E.1.1 E.1.2.1 dL_law_227 rfl (lv_at hl 1 rfl) ?_
  refine la_arg (v := 1) E hW1 hl dL_law_228 dL_law_229 dL_law_230 dL_law_231 dL_law_232 (by decide) (hin 1 (by decide)) (fun y1 ey1 => ?_)
  obtain rfl : x1 = y1 := ex1.trans ey1.symm
  refine la_m (as := [.int x1]) (st := []) E hW1 hl hkn dL_law_233 rfl rfl lm_30 tl_X10_told rfl rfl (Nat.le_of_ble_eq_true rfl) ⟨Nat.le_of_ble_eq_true rfl, Nat.le_of_ble_eq_true rfl⟩ (la_pP hW1.2.1 (c_X10_told (g := g2) S2 hW1.2.1 x1)) (fun U2 v2 H2 locs2 r2 hW2 => ?_)
  refine lv_pop E.1.1 E.1.2.1 dL_law_236 rfl ?_
  exact lv_goto E.1.1 E.1.2.1 dL_law_237 (by decide) (kk _ _ _ _ (RA_G hR hW.1 (G1_eq r1.1) (G2_eq r2.1)) hW2)
theorem la_c4 (E : la_E p s m meth c b L xs g1 g2) (hR : Rl S1 S2) (hW : la_w s g1 g2 S1 S2 H locs) (hl : lv_has lsA 4 (la_ls g1 g2 b i)) (hkn : k ≤ room_1.cells ∧ n ≤ room_1.slots) (hin : ∀ v : Int32, 0 ≤ v.toInt ∧ v.toInt ≤ 4 → vp_in (i + v) L) (kk : ∀ (S1 S2 : mm_S) (H : Heap) (locs : List Loc), Rl S1 S2 → la_w s g1 g2 S1 S2 H locs → W p l e room_1 s m #[Value.ref b] below meth c H locs k n Q (F0 m 984 lsA [])) : W p l e room_1 s m #[Value.ref b] below meth c H locs k n Q (F0 m 240 lsA []) := by
  refine lv_aload_n E.1.1 E.1.2.1 dL_law_240 rfl (lv_at hl 2 rfl) ?_
  refine la_arg (v := 1) E hW hl dL_law_241 dL_law_242 dL_law_243 dL_law_244 dL_law_245 (by decide) (hin 1 (by decide)) (fun x1 ex1 => ?_)
  refine la_arg (v := 2) E hW hl dL_law_246 dL_law_247 dL_law_248 dL_law_249 dL_law_250 (by decide) (hin 2 (by decide)) (fun x2 ex2 => ?_)
  refine la_x (as := [.int x1, .int x2]) (st := []) E hW hl hkn dL_law_251 rfl rfl lm_31 tl_X9_person rfl rfl (Nat.le_of_ble_eq_true rfl) ⟨Nat.le_of_ble_eq_true rfl, Nat.le_of_ble_eq_true rfl⟩ (la_pP hW.1 (c_X9_person (g := g1) S1 hW.1 x1 x2)) (fun U1 v1 H1 locs1 r1 hW1 => ?_)
  refine lv_pop E.1.1 E.1.2.1 dL_law_254 rfl ?_
  refine lv_aload_n E.1.1 E.1.2.1 dL_law_255 rfl (lv_at hl 1 rfl) ?_
  refine la_arg (v := 1) E hW1 hl dL_law_256 dL_law_257 dL_law_258 dL_law_259 dL_law_260 (by decide) (hin 1 (by decide)) (fun y1 ey1 => ?_)
  obtain rfl : x1 = y1 := ex1.trans ey1.symm
  refine la_arg (v := 2) E hW1 hl dL_law_261 dL_law_262 dL_law_263 dL_law_264 dL_law_265 (by decide) (hin 2 (by decide)) (fun y2 ey2 => ?_)
  obtain rfl : x2 = y2 := ex2.trans ey2.symm
  refine la_m (as := [.int x1, .int x2]) (st := []) E hW1 hl hkn dL_law_266 rfl rfl lm_35 tl_X10_person rfl rfl (Nat.le_of_ble_eq_true rfl) ⟨Nat.le_of_ble_eq_true rfl, Nat.le_of_ble_eq_true rfl⟩ (la_pP hW1.2.1 (c_X10_person (g := g2) S2 hW1.2.1 x1 x2)) (fun U2 v2 H2 locs2 r2 hW2 => ?_)
  refine lv_pop E.1.1 E.1.2.1 dL_law_269 rfl ?_
  exact lv_goto E.1.1 E.1.2.1 dL_law_270 (by decide) (kk _ _ _ _ (RA_G hR hW.1 (G1_eq r1.1) (G2_eq r2.1)) hW2)
theorem la_c5 (E : la_E p s m meth c b L xs g1 g2) (hR : Rl S1 S2) (hW : la_w s g1 g2 S1 S2 H locs) (hl : lv_has lsA 4 (la_ls g1 g2 b i)) (hkn : k ≤ room_1.cells ∧ n ≤ room_1.slots) (hin : ∀ v : Int32, 0 ≤ v.toInt ∧ v.toInt ≤ 4 → vp_in (i + v) L) (kk : ∀ (S1 S2 : mm_S) (H : Heap) (locs : List Loc), Rl S1 S2 → la_w s g1 g2 S1 S2 H locs → W p l e room_1 s m #[Value.ref b] below meth c H locs k n Q (F0 m 984 lsA [])) : W p l e room_1 s m #[Value.ref b] below meth c H locs k n Q (F0 m 273 lsA []) := by
  refine lv_aload_n E.1.1 E.1.2.1 dL_law_273 rfl (lv_at hl 2 rfl) ?_
  refine la_arg (v := 1) E hW hl dL_law_274 dL_law_275 dL_law_276 dL_law_277 dL_law_278 (by decide) (hin 1 (by decide)) (fun x1 ex1 => ?_)
  refine la_x (as := [.int x1]) (st := []) E hW hl hkn dL_law_279 rfl rfl lm_36 tl_X9_range rfl rfl (Nat.le_of_ble_eq_true rfl) ⟨Nat.le_of_ble_eq_true rfl, Nat.le_of_ble_eq_true rfl⟩ (la_pP hW.1 (c_X9_range (g := g1) S1 hW.1 x1)) (fun U1 v1 H1 locs1 r1 hW1 => ?_)
  refine lv_pop E.1.1 E.1.2.1 dL_law_282 rfl ?_
  refine lv_aload_n E.1.1 E.1.2.1 dL_law_283 rfl (lv_at hl 1 rfl) ?_
  refine la_arg (v := 1) E hW1 hl dL_law_284 dL_law_285 dL_law_286 dL_law_287 dL_law_288 (by decide) (hin 1 (by decide)) (fun y1 ey1 => ?_)
  obtain rfl : x1 = y1 := ex1.trans ey1.symm
  refine la_m (as := [.int x1]) (st := []) E hW1 hl hkn dL_law_289 rfl rfl lm_39 tl_X10_range rfl rfl (Nat.le_of_ble_eq_true rfl) ⟨Nat.le_of_ble_eq_true rfl, Nat.le_of_ble_eq_true rfl⟩ (la_pP hW1.2.1 (c_X10_range (g := g2) S2 hW1.2.1 x1)) (fun U2 v2 H2 locs2 r2 hW2 => ?_)
  refine lv_pop E.1.1 E.1.2.1 dL_law_292 rfl ?_
  exact lv_goto E.1.1 E.1.2.1 dL_law_293 (by decide) (kk _ _ _ _ (RA_G hR hW.1 (G1_eq r1.1) (G2_eq r2.1)) hW2)
theorem la_c6 (E : la_E p s m meth c b L xs g1 g2) (hR : Rl S1 S2) (hW : la_w s g1 g2 S1 S2 H locs) (hl : lv_has lsA 4 (la_ls g1 g2 b i)) (hkn : k ≤ room_1.cells ∧ n ≤ room_1.slots) (hin : ∀ v : Int32, 0 ≤ v.toInt ∧ v.toInt ≤ 4 → vp_in (i + v) L) (kk : ∀ (S1 S2 : mm_S) (H : Heap) (locs : List Loc), Rl S1 S2 → la_w s g1 g2 S1 S2 H locs → W p l e room_1 s m #[Value.ref b] below meth c H locs k n Q (F0 m 984 lsA [])) : W p l e room_1 s m #[Value.ref b] below meth c H locs k n Q (F0 m 296 lsA []) := by
  refine lv_aload_n E.1.1 E.1.2.1 dL_law_296 rfl (lv_at hl 2 rfl) ?_
  refine la_arg (v := 1) E hW hl dL_law_297 dL_law_298 dL_law_299 dL_law_300 dL_law_301 (by decide) (hin 1 (by decide)) (fun x1 ex1 => ?_)
  refine la_x (as := [.int x1]) (st := []) E hW hl hkn dL_law_302 rfl rfl lm_40 tl_X9_door rfl rfl (Nat.le_of_ble_eq_true rfl) ⟨Nat.le_of_ble_eq_true rfl, Nat.le_of_ble_eq_true rfl⟩ (la_pP hW.1 (c_X9_door (g := g1) S1 hW.1 x1)) (fun U1 v1 H1 locs1 r1 hW1 => ?_)
  refine lv_pop E.1.1 E.1.2.1 dL_law_305 rfl ?_
  refine lv_aload_n E.1.1 E.1.2.1 dL_law_306 rfl (lv_at hl 1 rfl) ?_
  refine la_arg (v := 1) E hW1 hl dL_law_307 dL_law_308 dL_law_309 dL_law_310 dL_law_311 (by decide) (hin 1 (by decide)) (fun y1 ey1 => ?_)
  obtain rfl : x1 = y1 := ex1.trans ey1.symm
  refine la_m (as := [.int x1]) (st := []) E hW1 hl hkn dL_law_312 rfl rfl lm_43 tl_X10_door rfl rfl (Nat.le_of_ble_eq_true rfl) ⟨Nat.le_of_ble_eq_true rfl, Nat.le_of_ble_eq_true rfl⟩ (la_pP hW1.2.1 (c_X10_door (g := g2) S2 hW1.2.1 x1)) (fun U2 v2 H2 locs2 r2 hW2 => ?_)
  refine lv_pop E.1.1 E.1.2.1 dL_law_315 rfl ?_
  exact lv_goto E.1.1 E.1.2.1 dL_law_316 (by decide) (kk _ _ _ _ (RA_G hR hW.1 (G1_eq r1.1) (G2_eq r2.1)) hW2)
theorem la_c7 (E : la_E p s m meth c b L xs g1 g2) (hR : Rl S1 S2) (hW : la_w s g1 g2 S1 S2 H locs) (hl : lv_has lsA 4 (la_ls g1 g2 b i)) (hkn : k ≤ room_1.cells ∧ n ≤ room_1.slots) (hin : ∀ v : Int32, 0 ≤ v.toInt ∧ v.toInt ≤ 4 → vp_in (i + v) L) (kk : ∀ (S1 S2 : mm_S) (H : Heap) (locs : List Loc), Rl S1 S2 → la_w s g1 g2 S1 S2 H locs → W p l e room_1 s m #[Value.ref b] below meth c H locs k n Q (F0 m 984 lsA [])) : W p l e room_1 s m #[Value.ref b] below meth c H locs k n Q (F0 m 319 lsA []) := by
  refine lv_aload_n E.1.1 E.1.2.1 dL_law_319 rfl (lv_at hl 2 rfl) ?_
  refine la_arg (v := 1) E hW hl dL_law_320 dL_law_321 dL_law_322 dL_law_323 dL_law_324 (by decide) (hin 1 (by decide)) (fun x1 ex1 => ?_)
  refine la_x (as := [.int x1]) (st := []) E hW hl hkn dL_law_325 rfl rfl lm_44 tl_X9_die rfl rfl (Nat.le_of_ble_eq_true rfl) ⟨Nat.le_of_ble_eq_true rfl, Nat.le_of_ble_eq_true rfl⟩ (c_X9_die (g := g1) S1 hW.1 x1) (fun U1 v1 H1 locs1 r1 hW1 => ?_)
  refine lv_pop E.1.1 E.1.2.1 dL_law_328 rfl ?_
  refine lv_aload_n E.1.1 E.1.2.1 dL_law_329 rfl (lv_at hl 1 rfl) ?_
  refine la_arg (v := 1) E hW1 hl dL_law_330 dL_law_331 dL_law_332 dL_law_333 dL_law_334 (by decide) (hin 1 (by decide)) (fun y1 ey1 => ?_)
  obtain rfl : x1 = y1 := ex1.trans ey1.symm
  refine la_m (as := [.int x1]) (st := []) E hW1 hl hkn dL_law_335 rfl rfl lm_47 tl_X10_die rfl rfl (Nat.le_of_ble_eq_true rfl) ⟨Nat.le_of_ble_eq_true rfl, Nat.le_of_ble_eq_true rfl⟩ (c_X10_die (g := g2) S2 hW1.2.1 x1) (fun U2 v2 H2 locs2 r2 hW2 => ?_)
  refine lv_pop E.1.1 E.1.2.1 dL_law_338 rfl ?_
  exact lv_goto E.1.1 E.1.2.1 dL_law_339 (by decide) (kk _ _ _ _ (RA_G hR hW.1 (fr_G1 r1.1 (by decide)) (fr_G2 r2.1 (by decide) (by decide))) hW2)
theorem la_c8 (E : la_E p s m meth c b L xs g1 g2) (hR : Rl S1 S2) (hW : la_w s g1 g2 S1 S2 H locs) (hl : lv_has lsA 4 (la_ls g1 g2 b i)) (hkn : k ≤ room_1.cells ∧ n ≤ room_1.slots) (hin : ∀ v : Int32, 0 ≤ v.toInt ∧ v.toInt ≤ 4 → vp_in (i + v) L) (kk : ∀ (S1 S2 : mm_S) (H : Heap) (locs : List Loc), Rl S1 S2 → la_w s g1 g2 S1 S2 H locs → W p l e room_1 s m #[Value.ref b] below meth c H locs k n Q (F0 m 984 lsA [])) : W p l e room_1 s m #[Value.ref b] below meth c H locs k n Q (F0 m 342 lsA []) := by
  refine lv_aload_n E.1.1 E.1.2.1 dL_law_342 rfl (lv_at hl 2 rfl) ?_
  refine la_arg (v := 1) E hW hl dL_law_343 dL_law_344 dL_law_345 dL_law_346 dL_law_347 (by decide) (hin 1 (by decide)) (fun x1 ex1 => ?_)
  refine la_arg (v := 2) E hW hl dL_law_348 dL_law_349 dL_law_350 dL_law_351 dL_law_352 (by decide) (hin 2 (by decide)) (fun x2 ex2 => ?_)
  refine la_x (as := [.int x1, .int x2]) (st := []) E hW hl hkn dL_law_353 rfl rfl lm_48 tl_X9_sell rfl rfl (Nat.le_of_ble_eq_true rfl) ⟨Nat.le_of_ble_eq_true rfl, Nat.le_of_ble_eq_true rfl⟩ (c_X9_sell (g := g1) S1 hW.1 x1 x2) (fun U1 v1 H1 locs1 r1 hW1 => ?_)
  refine lv_pop E.1.1 E.1.2.1 dL_law_356 rfl ?_
  refine lv_aload_n E.1.1 E.1.2.1 dL_law_357 rfl (lv_at hl 1 rfl) ?_
  refine la_arg (v := 1) E hW1 hl dL_law_358 dL_law_359 dL_law_360 dL_law_361 dL_law_362 (by decide) (hin 1 (by decide)) (fun y1 ey1 => ?_)
  obtain rfl : x1 = y1 := ex1.trans ey1.symm
  refine la_arg (v := 2) E hW1 hl dL_law_363 dL_law_364 dL_law_365 dL_law_366 dL_law_367 (by decide) (hin 2 (by decide)) (fun y2 ey2 => ?_)
  obtain rfl : x2 = y2 := ex2.trans ey2.symm
  refine la_m (as := [.int x1, .int x2]) (st := []) E hW1 hl hkn dL_law_368 rfl rfl lm_51 tl_X10_sell rfl rfl (Nat.le_of_ble_eq_true rfl) ⟨Nat.le_of_ble_eq_true rfl, Nat.le_of_ble_eq_true rfl⟩ (c_X10_sell (g := g2) S2 hW1.2.1 x1 x2) (fun U2 v2 H2 locs2 r2 hW2 => ?_)
  refine lv_pop E.1.1 E.1.2.1 dL_law_371 rfl ?_
  exact lv_goto E.1.1 E.1.2.1 dL_law_372 (by decide) (kk _ _ _ _ (RA_G hR hW.1 (fr_G1 r1.1 (by decide)) (fr_G2 r2.1 (by decide) (by decide))) hW2)
theorem la_c9 (E : la_E p s m meth c b L xs g1 g2) (hR : Rl S1 S2) (hW : la_w s g1 g2 S1 S2 H locs) (hl : lv_has lsA 4 (la_ls g1 g2 b i)) (hkn : k ≤ room_1.cells ∧ n ≤ room_1.slots) (hin : ∀ v : Int32, 0 ≤ v.toInt ∧ v.toInt ≤ 4 → vp_in (i + v) L) (kk : ∀ (S1 S2 : mm_S) (H : Heap) (locs : List Loc), Rl S1 S2 → la_w s g1 g2 S1 S2 H locs → W p l e room_1 s m #[Value.ref b] below meth c H locs k n Q (F0 m 984 lsA [])) : W p l e room_1 s m #[Value.ref b] below meth c H locs k n Q (F0 m 375 lsA []) := by
  refine lv_aload_n E.1.1 E.1.2.1 dL_law_375 rfl (lv_at hl 2 rfl) ?_
  refine la_arg (v := 1) E hW hl dL_law_376 dL_law_377 dL_law_378 dL_law_379 dL_law_380 (by decide) (hin 1 (by decide)) (fun x1 ex1 => ?_)
  refine la_arg (v := 2) E hW hl dL_law_381 dL_law_382 dL_law_383 dL_law_384 dL_law_385 (by decide) (hin 2 (by decide)) (fun x2 ex2 => ?_)
  refine la_x (as := [.int x1, .int x2]) (st := []) E hW hl hkn dL_law_386 rfl rfl lm_52 tl_X9_putBy rfl rfl (Nat.le_of_ble_eq_true rfl) ⟨Nat.le_of_ble_eq_true rfl, Nat.le_of_ble_eq_true rfl⟩ (c_X9_putBy (g := g1) S1 hW.1 x1 x2) (fun U1 v1 H1 locs1 r1 hW1 => ?_)
  refine lv_pop E.1.1 E.1.2.1 dL_law_389 rfl ?_
  refine lv_aload_n E.1.1 E.1.2.1 dL_law_390 rfl (lv_at hl 1 rfl) ?_
  refine la_arg (v := 1) E hW1 hl dL_law_391 dL_law_392 dL_law_393 dL_law_394 dL_law_395 (by decide) (hin 1 (by decide)) (fun y1 ey1 => ?_)
  obtain rfl : x1 = y1 := ex1.trans ey1.symm
  refine la_arg (v := 2) E hW1 hl dL_law_396 dL_law_397 dL_law_398 dL_law_399 dL_law_400 (by decide) (hin 2 (by decide)) (fun y2 ey2 => ?_)
  obtain rfl : x2 = y2 := ex2.trans ey2.symm
  refine la_m (as := [.int x1, .int x2]) (st := []) E hW1 hl hkn dL_law_401 rfl rfl lm_55 tl_X10_putBy rfl rfl (Nat.le_of_ble_eq_true rfl) ⟨Nat.le_of_ble_eq_true rfl, Nat.le_of_ble_eq_true rfl⟩ (c_X10_putBy (g := g2) S2 hW1.2.1 x1 x2) (fun U2 v2 H2 locs2 r2 hW2 => ?_)
  refine lv_pop E.1.1 E.1.2.1 dL_law_404 rfl ?_
  exact lv_goto E.1.1 E.1.2.1 dL_law_405 (by decide) (kk _ _ _ _ (RA_G hR hW.1 (fr_G1 r1.1 (by decide)) (fr_G2 r2.1 (by decide) (by decide))) hW2)
theorem la_c10 (E : la_E p s m meth c b L xs g1 g2) (hR : Rl S1 S2) (hW : la_w s g1 g2 S1 S2 H locs) (hl : lv_has lsA 4 (la_ls g1 g2 b i)) (hkn : k ≤ room_1.cells ∧ n ≤ room_1.slots) (hin : ∀ v : Int32, 0 ≤ v.toInt ∧ v.toInt ≤ 4 → vp_in (i + v) L) (kk : ∀ (S1 S2 : mm_S) (H : Heap) (locs : List Loc), Rl S1 S2 → la_w s g1 g2 S1 S2 H locs → W p l e room_1 s m #[Value.ref b] below meth c H locs k n Q (F0 m 984 lsA [])) : W p l e room_1 s m #[Value.ref b] below meth c H locs k n Q (F0 m 408 lsA []) := by
  refine lv_aload_n E.1.1 E.1.2.1 dL_law_408 rfl (lv_at hl 2 rfl) ?_
  refine la_arg (v := 1) E hW hl dL_law_409 dL_law_410 dL_law_411 dL_law_412 dL_law_413 (by decide) (hin 1 (by decide)) (fun x1 ex1 => ?_)
  refine la_arg (v := 2) E hW hl dL_law_414 dL_law_415 dL_law_416 dL_law_417 dL_law_418 (by decide) (hin 2 (by decide)) (fun x2 ex2 => ?_)
  refine la_arg (v := 3) E hW hl dL_law_419 dL_law_420 dL_law_421 dL_law_422 dL_law_423 (by decide) (hin 3 (by decide)) (fun x3 ex3 => ?_)
  refine la_x (as := [.int x1, .int x2, .int x3]) (st := []) E hW hl hkn dL_law_424 rfl rfl lm_56 tl_X9_will rfl rfl (Nat.le_of_ble_eq_true rfl) ⟨Nat.le_of_ble_eq_true rfl, Nat.le_of_ble_eq_true rfl⟩ (c_X9_will (g := g1) S1 hW.1 x1 x2 x3) (fun U1 v1 H1 locs1 r1 hW1 => ?_)
  refine lv_pop E.1.1 E.1.2.1 dL_law_427 rfl ?_
  refine lv_aload_n E.1.1 E.1.2.1 dL_law_428 rfl (lv_at hl 1 rfl) ?_
  refine la_arg (v := 1) E hW1 hl dL_law_429 dL_law_430 dL_law_431 dL_law_432 dL_law_433 (by decide) (hin 1 (by decide)) (fun y1 ey1 => ?_)
  obtain rfl : x1 = y1 := ex1.trans ey1.symm
  refine la_arg (v := 2) E hW1 hl dL_law_434 dL_law_435 dL_law_436 dL_law_437 dL_law_438 (by decide) (hin 2 (by decide)) (fun y2 ey2 => ?_)
  obtain rfl : x2 = y2 := ex2.trans ey2.symm
  refine la_arg (v := 3) E hW1 hl dL_law_439 dL_law_440 dL_law_441 dL_law_442 dL_law_443 (by decide) (hin 3 (by decide)) (fun y3 ey3 => ?_)
  obtain rfl : x3 = y3 := ex3.trans ey3.symm
  refine la_m (as := [.int x1, .int x2, .int x3]) (st := []) E hW1 hl hkn dL_law_444 rfl rfl lm_60 tl_X10_will rfl rfl (Nat.le_of_ble_eq_true rfl) ⟨Nat.le_of_ble_eq_true rfl, Nat.le_of_ble_eq_true rfl⟩ (c_X10_will (g := g2) S2 hW1.2.1 x1 x2 x3) (fun U2 v2 H2 locs2 r2 hW2 => ?_)
  refine lv_pop E.1.1 E.1.2.1 dL_law_447 rfl ?_
  exact lv_goto E.1.1 E.1.2.1 dL_law_448 (by decide) (kk _ _ _ _ (RA_G hR hW.1 (fr_G1 r1.1 (by decide)) (fr_G2 r2.1 (by decide) (by decide))) hW2)
theorem la_c11 (E : la_E p s m meth c b L xs g1 g2) (hR : Rl S1 S2) (hW : la_w s g1 g2 S1 S2 H locs) (hl : lv_has lsA 4 (la_ls g1 g2 b i)) (hkn : k ≤ room_1.cells ∧ n ≤ room_1.slots) (hin : ∀ v : Int32, 0 ≤ v.toInt ∧ v.toInt ≤ 4 → vp_in (i + v) L) (kk : ∀ (S1 S2 : mm_S) (H : Heap) (locs : List Loc), Rl S1 S2 → la_w s g1 g2 S1 S2 H locs → W p l e room_1 s m #[Value.ref b] below meth c H locs k n Q (F0 m 984 lsA [])) : W p l e room_1 s m #[Value.ref b] below meth c H locs k n Q (F0 m 451 lsA []) := by
  refine lv_aload_n E.1.1 E.1.2.1 dL_law_451 rfl (lv_at hl 2 rfl) ?_
  refine la_arg (v := 1) E hW hl dL_law_452 dL_law_453 dL_law_454 dL_law_455 dL_law_456 (by decide) (hin 1 (by decide)) (fun x1 ex1 => ?_)
  refine la_x (as := [.int x1]) (st := []) E hW hl hkn dL_law_457 rfl rfl lm_61 tl_X9_drift rfl rfl (Nat.le_of_ble_eq_true rfl) ⟨Nat.le_of_ble_eq_true rfl, Nat.le_of_ble_eq_true rfl⟩ (c_X9_drift (g := g1) S1 hW.1 x1) (fun U1 v1 H1 locs1 r1 hW1 => ?_)
  refine lv_pop E.1.1 E.1.2.1 dL_law_460 rfl ?_
  refine lv_aload_n E.1.1 E.1.2.1 dL_law_461 rfl (lv_at hl 1 rfl) ?_
  refine la_arg (v := 1) E hW1 hl dL_law_462 dL_law_463 dL_law_464 dL_law_465 dL_law_466 (by decide) (hin 1 (by decide)) (fun y1 ey1 => ?_)
  obtain rfl : x1 = y1 := ex1.trans ey1.symm
  refine la_m (as := [.int x1]) (st := []) E hW1 hl hkn dL_law_467 rfl rfl lm_64 tl_X10_drift rfl rfl (Nat.le_of_ble_eq_true rfl) ⟨Nat.le_of_ble_eq_true rfl, Nat.le_of_ble_eq_true rfl⟩ (c_X10_drift (g := g2) S2 hW1.2.1 x1) (fun U2 v2 H2 locs2 r2 hW2 => ?_)
  refine lv_pop E.1.1 E.1.2.1 dL_law_470 rfl ?_
  exact lv_goto E.1.1 E.1.2.1 dL_law_471 (by decide) (kk _ _ _ _ (RA_G hR hW.1 (fr_G1 r1.1 (by decide)) (fr_G2 r2.1 (by decide) (by decide))) hW2)
theorem la_c12 (E : la_E p s m meth c b L xs g1 g2) (hR : Rl S1 S2) (hW : la_w s g1 g2 S1 S2 H locs) (hl : lv_has lsA 4 (la_ls g1 g2 b i)) (hkn : k ≤ room_1.cells ∧ n ≤ room_1.slots) (hin : ∀ v : Int32, 0 ≤ v.toInt ∧ v.toInt ≤ 4 → vp_in (i + v) L) (kk : ∀ (S1 S2 : mm_S) (H : Heap) (locs : List Loc), Rl S1 S2 → la_w s g1 g2 S1 S2 H locs → W p l e room_1 s m #[Value.ref b] below meth c H locs k n Q (F0 m 984 lsA [])) : W p l e room_1 s m #[Value.ref b] below meth c H locs k n Q (F0 m 474 lsA []) := by
  refine lv_aload_n E.1.1 E.1.2.1 dL_law_474 rfl (lv_at hl 2 rfl) ?_
  refine la_x (as := []) (st := []) E hW hl hkn dL_law_475 rfl rfl lm_65 tl_X9_undo rfl rfl (Nat.le_of_ble_eq_true rfl) ⟨Nat.le_of_ble_eq_true rfl, Nat.le_of_ble_eq_true rfl⟩ (c_X9_undo (g := g1) S1 hW.1 ) (fun U1 v1 H1 locs1 r1 hW1 => ?_)
  refine lv_pop E.1.1 E.1.2.1 dL_law_478 rfl ?_
  refine lv_aload_n E.1.1 E.1.2.1 dL_law_479 rfl (lv_at hl 1 rfl) ?_
  refine la_m (as := []) (st := []) E hW1 hl hkn dL_law_480 rfl rfl lm_68 tl_X10_undo rfl rfl (Nat.le_of_ble_eq_true rfl) ⟨Nat.le_of_ble_eq_true rfl, Nat.le_of_ble_eq_true rfl⟩ (c_X10_undo (g := g2) S2 hW1.2.1 ) (fun U2 v2 H2 locs2 r2 hW2 => ?_)
  refine lv_pop E.1.1 E.1.2.1 dL_law_483 rfl ?_
  exact lv_goto E.1.1 E.1.2.1 dL_law_484 (by decide) (kk _ _ _ _ (RA_G hR hW.1 (fr_G1 r1.1 (by decide)) (fr_G2 r2.1 (by decide) (by decide))) hW2)
theorem la_c13 (E : la_E p s m meth c b L xs g1 g2) (hR : Rl S1 S2) (hW : la_w s g1 g2 S1 S2 H locs) (hl : lv_has lsA 4 (la_ls g1 g2 b i)) (hkn : k ≤ room_1.cells ∧ n ≤ room_1.slots) (hin : ∀ v : Int32, 0 ≤ v.toInt ∧ v.toInt ≤ 4 → vp_in (i + v) L) (kk : ∀ (S1 S2 : mm_S) (H : Heap) (locs : List Loc), Rl S1 S2 → la_w s g1 g2 S1 S2 H locs → W p l e room_1 s m #[Value.ref b] below meth c H locs k n Q (F0 m 984 lsA [])) : W p l e room_1 s m #[Value.ref b] below meth c H locs k n Q (F0 m 487 lsA []) := by
  refine lv_aload_n E.1.1 E.1.2.1 dL_law_487 rfl (lv_at hl 2 rfl) ?_
  refine la_arg (v := 1) E hW hl dL_law_488 dL_law_489 dL_law_490 dL_law_491 dL_law_492 (by decide) (hin 1 (by decide)) (fun x1 ex1 => ?_)
  refine la_arg (v := 2) E hW hl dL_law_493 dL_law_494 dL_law_495 dL_law_496 dL_law_497 (by decide) (hin 2 (by decide)) (fun x2 ex2 => ?_)
  refine la_x (as := [.int x1, .int x2]) (st := []) E hW hl hkn dL_law_498 rfl rfl lm_69 tl_X9_after rfl rfl (Nat.le_of_ble_eq_true rfl) ⟨Nat.le_of_ble_eq_true rfl, Nat.le_of_ble_eq_true rfl⟩ (c_X9_after (g := g1) S1 hW.1 x1 x2) (fun U1 v1 H1 locs1 r1 hW1 => ?_)
  refine lv_pop E.1.1 E.1.2.1 dL_law_501 rfl ?_
  refine lv_aload_n E.1.1 E.1.2.1 dL_law_502 rfl (lv_at hl 1 rfl) ?_
  refine la_arg (v := 1) E hW1 hl dL_law_503 dL_law_504 dL_law_505 dL_law_506 dL_law_507 (by decide) (hin 1 (by decide)) (fun y1 ey1 => ?_)
  obtain rfl : x1 = y1 := ex1.trans ey1.symm
  refine la_arg (v := 2) E hW1 hl dL_law_508 dL_law_509 dL_law_510 dL_law_511 dL_law_512 (by decide) (hin 2 (by decide)) (fun y2 ey2 => ?_)
  obtain rfl : x2 = y2 := ex2.trans ey2.symm
  refine la_m (as := [.int x1, .int x2]) (st := []) E hW1 hl hkn dL_law_513 rfl rfl lm_72 tl_X10_after rfl rfl (Nat.le_of_ble_eq_true rfl) ⟨Nat.le_of_ble_eq_true rfl, Nat.le_of_ble_eq_true rfl⟩ (c_X10_after (g := g2) S2 hW1.2.1 x1 x2) (fun U2 v2 H2 locs2 r2 hW2 => ?_)
  refine lv_pop E.1.1 E.1.2.1 dL_law_516 rfl ?_
  exact lv_goto E.1.1 E.1.2.1 dL_law_517 (by decide) (kk _ _ _ _ (RA_G hR hW.1 (fr_G1 r1.1 (by decide)) (fr_G2 r2.1 (by decide) (by decide))) hW2)
theorem la_c14 (E : la_E p s m meth c b L xs g1 g2) (hR : Rl S1 S2) (hW : la_w s g1 g2 S1 S2 H locs) (hl : lv_has lsA 4 (la_ls g1 g2 b i)) (hkn : k ≤ room_1.cells ∧ n ≤ room_1.slots) (hin : ∀ v : Int32, 0 ≤ v.toInt ∧ v.toInt ≤ 4 → vp_in (i + v) L) (kk : ∀ (S1 S2 : mm_S) (H : Heap) (locs : List Loc), Rl S1 S2 → la_w s g1 g2 S1 S2 H locs → W p l e room_1 s m #[Value.ref b] below meth c H locs k n Q (F0 m 984 lsA [])) : W p l e room_1 s m #[Value.ref b] below meth c H locs k n Q (F0 m 520 lsA []) := by
  refine lv_aload_n E.1.1 E.1.2.1 dL_law_520 rfl (lv_at hl 2 rfl) ?_
  refine la_arg (v := 1) E hW hl dL_law_521 dL_law_522 dL_law_523 dL_law_524 dL_law_525 (by decide) (hin 1 (by decide)) (fun x1 ex1 => ?_)
  refine la_arg (v := 2) E hW hl dL_law_526 dL_law_527 dL_law_528 dL_law_529 dL_law_530 (by decide) (hin 2 (by decide)) (fun x2 ex2 => ?_)
  refine la_x (as := [.int x1, .int x2]) (st := []) E hW hl hkn dL_law_531 rfl rfl lm_73 tl_X9_whose rfl rfl (Nat.le_of_ble_eq_true rfl) ⟨Nat.le_of_ble_eq_true rfl, Nat.le_of_ble_eq_true rfl⟩ (c_X9_whose (g := g1) S1 hW.1 x1 x2) (fun U1 v1 H1 locs1 r1 hW1 => ?_)
  refine lv_pop E.1.1 E.1.2.1 dL_law_534 rfl ?_
  refine lv_aload_n E.1.1 E.1.2.1 dL_law_535 rfl (lv_at hl 1 rfl) ?_
  refine la_arg (v := 1) E hW1 hl dL_law_536 dL_law_537 dL_law_538 dL_law_539 dL_law_540 (by decide) (hin 1 (by decide)) (fun y1 ey1 => ?_)
  obtain rfl : x1 = y1 := ex1.trans ey1.symm
  refine la_arg (v := 2) E hW1 hl dL_law_541 dL_law_542 dL_law_543 dL_law_544 dL_law_545 (by decide) (hin 2 (by decide)) (fun y2 ey2 => ?_)
  obtain rfl : x2 = y2 := ex2.trans ey2.symm
  refine la_m (as := [.int x1, .int x2]) (st := []) E hW1 hl hkn dL_law_546 rfl rfl lm_76 tl_X10_whose rfl rfl (Nat.le_of_ble_eq_true rfl) ⟨Nat.le_of_ble_eq_true rfl, Nat.le_of_ble_eq_true rfl⟩ (c_X10_whose (g := g2) S2 hW1.2.1 x1 x2) (fun U2 v2 H2 locs2 r2 hW2 => ?_)
  refine lv_pop E.1.1 E.1.2.1 dL_law_549 rfl ?_
  exact lv_goto E.1.1 E.1.2.1 dL_law_550 (by decide) (kk _ _ _ _ (RA_G hR hW.1 (fr_G1 r1.1 (by decide)) (fr_G2 r2.1 (by decide) (by decide))) hW2)
theorem la_c15 (E : la_E p s m meth c b L xs g1 g2) (hR : Rl S1 S2) (hW : la_w s g1 g2 S1 S2 H locs) (hl : lv_has lsA 4 (la_ls g1 g2 b i)) (hkn : k ≤ room_1.cells ∧ n ≤ room_1.slots) (hin : ∀ v : Int32, 0 ≤ v.toInt ∧ v.toInt ≤ 4 → vp_in (i + v) L) (kk : ∀ (S1 S2 : mm_S) (H : Heap) (locs : List Loc), Rl S1 S2 → la_w s g1 g2 S1 S2 H locs → W p l e room_1 s m #[Value.ref b] below meth c H locs k n Q (F0 m 984 lsA [])) : W p l e room_1 s m #[Value.ref b] below meth c H locs k n Q (F0 m 553 lsA []) := by
  refine lv_aload_n E.1.1 E.1.2.1 dL_law_553 rfl (lv_at hl 2 rfl) ?_
  refine la_arg (v := 1) E hW hl dL_law_554 dL_law_555 dL_law_556 dL_law_557 dL_law_558 (by decide) (hin 1 (by decide)) (fun x1 ex1 => ?_)
  refine la_arg (v := 2) E hW hl dL_law_559 dL_law_560 dL_law_561 dL_law_562 dL_law_563 (by decide) (hin 2 (by decide)) (fun x2 ex2 => ?_)
  refine la_arg (v := 3) E hW hl dL_law_564 dL_law_565 dL_law_566 dL_law_567 dL_law_568 (by decide) (hin 3 (by decide)) (fun x3 ex3 => ?_)
  refine la_arg (v := 4) E hW hl dL_law_569 dL_law_570 dL_law_571 dL_law_572 dL_law_573 (by decide) (hin 4 (by decide)) (fun x4 ex4 => ?_)
  refine la_x (as := [.int x1, .int x2, .int x3, .int x4]) (st := []) E hW hl hkn dL_law_574 rfl rfl lm_77 tl_X9_wills rfl rfl (Nat.le_of_ble_eq_true rfl) ⟨Nat.le_of_ble_eq_true rfl, Nat.le_of_ble_eq_true rfl⟩ (c_X9_wills (g := g1) S1 hW.1 x1 x2 x3 x4) (fun U1 v1 H1 locs1 r1 hW1 => ?_)
  refine lv_pop E.1.1 E.1.2.1 dL_law_577 rfl ?_
  refine lv_aload_n E.1.1 E.1.2.1 dL_law_578 rfl (lv_at hl 1 rfl) ?_
  refine la_arg (v := 1) E hW1 hl dL_law_579 dL_law_580 dL_law_581 dL_law_582 dL_law_583 (by decide) (hin 1 (by decide)) (fun y1 ey1 => ?_)
  obtain rfl : x1 = y1 := ex1.trans ey1.symm
  refine la_arg (v := 2) E hW1 hl dL_law_584 dL_law_585 dL_law_586 dL_law_587 dL_law_588 (by decide) (hin 2 (by decide)) (fun y2 ey2 => ?_)
  obtain rfl : x2 = y2 := ex2.trans ey2.symm
  refine la_arg (v := 3) E hW1 hl dL_law_589 dL_law_590 dL_law_591 dL_law_592 dL_law_593 (by decide) (hin 3 (by decide)) (fun y3 ey3 => ?_)
  obtain rfl : x3 = y3 := ex3.trans ey3.symm
  refine la_arg (v := 4) E hW1 hl dL_law_594 dL_law_595 dL_law_596 dL_law_597 dL_law_598 (by decide) (hin 4 (by decide)) (fun y4 ey4 => ?_)
  obtain rfl : x4 = y4 := ex4.trans ey4.symm
  refine la_m (as := [.int x1, .int x2, .int x3, .int x4]) (st := []) E hW1 hl hkn dL_law_599 rfl rfl lm_81 tl_X10_wills rfl rfl (Nat.le_of_ble_eq_true rfl) ⟨Nat.le_of_ble_eq_true rfl, Nat.le_of_ble_eq_true rfl⟩ (c_X10_wills (g := g2) S2 hW1.2.1 x1 x2 x3 x4) (fun U2 v2 H2 locs2 r2 hW2 => ?_)
  refine lv_pop E.1.1 E.1.2.1 dL_law_602 rfl ?_
  exact lv_goto E.1.1 E.1.2.1 dL_law_603 (by decide) (kk _ _ _ _ (RA_G hR hW.1 (fr_G1 r1.1 (by decide)) (fr_G2 r2.1 (by decide) (by decide))) hW2)
theorem la_c16 (E : la_E p s m meth c b L xs g1 g2) (hR : Rl S1 S2) (hW : la_w s g1 g2 S1 S2 H locs) (hl : lv_has lsA 4 (la_ls g1 g2 b i)) (hkn : k ≤ room_1.cells ∧ n ≤ room_1.slots) (hin : ∀ v : Int32, 0 ≤ v.toInt ∧ v.toInt ≤ 4 → vp_in (i + v) L) (kk : ∀ (S1 S2 : mm_S) (H : Heap) (locs : List Loc), Rl S1 S2 → la_w s g1 g2 S1 S2 H locs → W p l e room_1 s m #[Value.ref b] below meth c H locs k n Q (F0 m 984 lsA [])) : W p l e room_1 s m #[Value.ref b] below meth c H locs k n Q (F0 m 606 lsA []) := by
  refine lv_aload_n E.1.1 E.1.2.1 dL_law_606 rfl (lv_at hl 2 rfl) ?_
  refine la_arg (v := 1) E hW hl dL_law_607 dL_law_608 dL_law_609 dL_law_610 dL_law_611 (by decide) (hin 1 (by decide)) (fun x1 ex1 => ?_)
  refine la_x (as := [.int x1]) (st := []) E hW hl hkn dL_law_612 rfl rfl lm_82 tl_X9_sing rfl rfl (Nat.le_of_ble_eq_true rfl) ⟨Nat.le_of_ble_eq_true rfl, Nat.le_of_ble_eq_true rfl⟩ (c_X9_sing (g := g1) S1 hW.1 x1) (fun U1 v1 H1 locs1 r1 hW1 => ?_)
  refine lv_pop E.1.1 E.1.2.1 dL_law_615 rfl ?_
  refine lv_aload_n E.1.1 E.1.2.1 dL_law_616 rfl (lv_at hl 1 rfl) ?_
  refine la_arg (v := 1) E hW1 hl dL_law_617 dL_law_618 dL_law_619 dL_law_620 dL_law_621 (by decide) (hin 1 (by decide)) (fun y1 ey1 => ?_)
  obtain rfl : x1 = y1 := ex1.trans ey1.symm
  refine la_m (as := [.int x1]) (st := []) E hW1 hl hkn dL_law_622 rfl rfl lm_85 tl_X10_sing rfl rfl (Nat.le_of_ble_eq_true rfl) ⟨Nat.le_of_ble_eq_true rfl, Nat.le_of_ble_eq_true rfl⟩ (c_X10_sing (g := g2) S2 hW1.2.1 x1) (fun U2 v2 H2 locs2 r2 hW2 => ?_)
  refine lv_pop E.1.1 E.1.2.1 dL_law_625 rfl ?_
  exact lv_goto E.1.1 E.1.2.1 dL_law_626 (by decide) (kk _ _ _ _ (RA_G hR hW.1 (fr_G1 r1.1 (by decide)) (fr_G2 r2.1 (by decide) (by decide))) hW2)
theorem la_c17 (E : la_E p s m meth c b L xs g1 g2) (hR : Rl S1 S2) (hW : la_w s g1 g2 S1 S2 H locs) (hl : lv_has lsA 4 (la_ls g1 g2 b i)) (hkn : k ≤ room_1.cells ∧ n ≤ room_1.slots) (hin : ∀ v : Int32, 0 ≤ v.toInt ∧ v.toInt ≤ 4 → vp_in (i + v) L) (kk : ∀ (S1 S2 : mm_S) (H : Heap) (locs : List Loc), Rl S1 S2 → la_w s g1 g2 S1 S2 H locs → W p l e room_1 s m #[Value.ref b] below meth c H locs k n Q (F0 m 984 lsA [])) : W p l e room_1 s m #[Value.ref b] below meth c H locs k n Q (F0 m 629 lsA []) := by
  refine lv_aload_n E.1.1 E.1.2.1 dL_law_629 rfl (lv_at hl 2 rfl) ?_
  refine la_arg (v := 1) E hW hl dL_law_630 dL_law_631 dL_law_632 dL_law_633 dL_law_634 (by decide) (hin 1 (by decide)) (fun x1 ex1 => ?_)
  refine la_arg (v := 2) E hW hl dL_law_635 dL_law_636 dL_law_637 dL_law_638 dL_law_639 (by decide) (hin 2 (by decide)) (fun x2 ex2 => ?_)
  refine la_x (as := [.int x1, .int x2]) (st := []) E hW hl hkn dL_law_640 rfl rfl lm_86 tl_X9_bid rfl rfl (Nat.le_of_ble_eq_true rfl) ⟨Nat.le_of_ble_eq_true rfl, Nat.le_of_ble_eq_true rfl⟩ (la_pP hW.1 (c_X9_bid (g := g1) S1 hW.1 x1 x2)) (fun U1 v1 H1 locs1 r1 hW1 => ?_)
  refine lv_pop E.1.1 E.1.2.1 dL_law_643 rfl ?_
  refine lv_aload_n E.1.1 E.1.2.1 dL_law_644 rfl (lv_at hl 1 rfl) ?_
  refine la_arg (v := 1) E hW1 hl dL_law_645 dL_law_646 dL_law_647 dL_law_648 dL_law_649 (by decide) (hin 1 (by decide)) (fun y1 ey1 => ?_)
  obtain rfl : x1 = y1 := ex1.trans ey1.symm
  refine la_arg (v := 2) E hW1 hl dL_law_650 dL_law_651 dL_law_652 dL_law_653 dL_law_654 (by decide) (hin 2 (by decide)) (fun y2 ey2 => ?_)
  obtain rfl : x2 = y2 := ex2.trans ey2.symm
  refine la_m (as := [.int x1, .int x2]) (st := []) E hW1 hl hkn dL_law_655 rfl rfl lm_89 tl_X10_bid rfl rfl (Nat.le_of_ble_eq_true rfl) ⟨Nat.le_of_ble_eq_true rfl, Nat.le_of_ble_eq_true rfl⟩ (la_pP hW1.2.1 (c_X10_bid (g := g2) S2 hW1.2.1 x1 x2)) (fun U2 v2 H2 locs2 r2 hW2 => ?_)
  refine lv_pop E.1.1 E.1.2.1 dL_law_658 rfl ?_
  exact lv_goto E.1.1 E.1.2.1 dL_law_659 (by decide) (kk _ _ _ _ (RA_G hR hW.1 (G1_eq r1.1) (G2_eq r2.1)) hW2)
theorem la_c18 (E : la_E p s m meth c b L xs g1 g2) (hR : Rl S1 S2) (hW : la_w s g1 g2 S1 S2 H locs) (hl : lv_has lsA 4 (la_ls g1 g2 b i)) (hkn : k ≤ room_1.cells ∧ n ≤ room_1.slots) (hin : ∀ v : Int32, 0 ≤ v.toInt ∧ v.toInt ≤ 4 → vp_in (i + v) L) (kk : ∀ (S1 S2 : mm_S) (H : Heap) (locs : List Loc), Rl S1 S2 → la_w s g1 g2 S1 S2 H locs → W p l e room_1 s m #[Value.ref b] below meth c H locs k n Q (F0 m 984 lsA [])) : W p l e room_1 s m #[Value.ref b] below meth c H locs k n Q (F0 m 662 lsA []) := by
  refine lv_aload_n E.1.1 E.1.2.1 dL_law_662 rfl (lv_at hl 2 rfl) ?_
  refine la_arg (v := 1) E hW hl dL_law_663 dL_law_664 dL_law_665 dL_law_666 dL_law_667 (by decide) (hin 1 (by decide)) (fun x1 ex1 => ?_)
  refine la_arg (v := 2) E hW hl dL_law_668 dL_law_669 dL_law_670 dL_law_671 dL_law_672 (by decide) (hin 2 (by decide)) (fun x2 ex2 => ?_)
  refine la_arg (v := 3) E hW hl dL_law_673 dL_law_674 dL_law_675 dL_law_676 dL_law_677 (by decide) (hin 3 (by decide)) (fun x3 ex3 => ?_)
  refine la_x (as := [.int x1, .int x2, .int x3]) (st := []) E hW hl hkn dL_law_678 rfl rfl lm_90 tl_X9_live rfl rfl (Nat.le_of_ble_eq_true rfl) ⟨Nat.le_of_ble_eq_true rfl, Nat.le_of_ble_eq_true rfl⟩ (la_pP hW.1 (c_X9_live (g := g1) S1 hW.1 x1 x2 x3)) (fun U1 v1 H1 locs1 r1 hW1 => ?_)
  refine lv_pop E.1.1 E.1.2.1 dL_law_681 rfl ?_
  refine lv_aload_n E.1.1 E.1.2.1 dL_law_682 rfl (lv_at hl 1 rfl) ?_
  refine la_arg (v := 1) E hW1 hl dL_law_683 dL_law_684 dL_law_685 dL_law_686 dL_law_687 (by decide) (hin 1 (by decide)) (fun y1 ey1 => ?_)
  obtain rfl : x1 = y1 := ex1.trans ey1.symm
  refine la_arg (v := 2) E hW1 hl dL_law_688 dL_law_689 dL_law_690 dL_law_691 dL_law_692 (by decide) (hin 2 (by decide)) (fun y2 ey2 => ?_)
  obtain rfl : x2 = y2 := ex2.trans ey2.symm
  refine la_arg (v := 3) E hW1 hl dL_law_693 dL_law_694 dL_law_695 dL_law_696 dL_law_697 (by decide) (hin 3 (by decide)) (fun y3 ey3 => ?_)
  obtain rfl : x3 = y3 := ex3.trans ey3.symm
  refine la_m (as := [.int x1, .int x2, .int x3]) (st := []) E hW1 hl hkn dL_law_698 rfl rfl lm_93 tl_X10_live rfl rfl (Nat.le_of_ble_eq_true rfl) ⟨Nat.le_of_ble_eq_true rfl, Nat.le_of_ble_eq_true rfl⟩ (la_pP hW1.2.1 (c_X10_live (g := g2) S2 hW1.2.1 x1 x2 x3)) (fun U2 v2 H2 locs2 r2 hW2 => ?_)
  refine lv_pop E.1.1 E.1.2.1 dL_law_701 rfl ?_
  exact lv_goto E.1.1 E.1.2.1 dL_law_702 (by decide) (kk _ _ _ _ (RA_G hR hW.1 (G1_eq r1.1) (G2_eq r2.1)) hW2)
theorem la_c19 (E : la_E p s m meth c b L xs g1 g2) (hR : Rl S1 S2) (hW : la_w s g1 g2 S1 S2 H locs) (hl : lv_has lsA 4 (la_ls g1 g2 b i)) (hkn : k ≤ room_1.cells ∧ n ≤ room_1.slots) (hin : ∀ v : Int32, 0 ≤ v.toInt ∧ v.toInt ≤ 4 → vp_in (i + v) L) (kk : ∀ (S1 S2 : mm_S) (H : Heap) (locs : List Loc), Rl S1 S2 → la_w s g1 g2 S1 S2 H locs → W p l e room_1 s m #[Value.ref b] below meth c H locs k n Q (F0 m 984 lsA [])) : W p l e room_1 s m #[Value.ref b] below meth c H locs k n Q (F0 m 705 lsA []) := by
  refine lv_aload_n E.1.1 E.1.2.1 dL_law_705 rfl (lv_at hl 2 rfl) ?_
  refine la_arg (v := 1) E hW hl dL_law_706 dL_law_707 dL_law_708 dL_law_709 dL_law_710 (by decide) (hin 1 (by decide)) (fun x1 ex1 => ?_)
  refine la_arg (v := 2) E hW hl dL_law_711 dL_law_712 dL_law_713 dL_law_714 dL_law_715 (by decide) (hin 2 (by decide)) (fun x2 ex2 => ?_)
  have key : ∀ z1 : Int32, (z1 = if x2 = 0 then 0 else 1) → mm_b 0 1 z1 → W p l e room_1 s m #[Value.ref b] below meth c H locs k n Q (F0 m 724 lsA [.int z1, .int x1, .ref g1.2.2.1]) := by
    intro z1 ez1 hx2
    refine la_x (as := [.int x1, .int z1]) (st := []) E hW hl hkn dL_law_724 rfl rfl lm_94 tl_X9_see rfl rfl (Nat.le_of_ble_eq_true rfl) ⟨Nat.le_of_ble_eq_true rfl, Nat.le_of_ble_eq_true rfl⟩ (cx_X9_see (g := g1) S1 hW.1 x1 z1 hx2) (fun U1 v1 H1 locs1 r1 hW1 => ?_)
    refine lv_pop E.1.1 E.1.2.1 dL_law_727 rfl ?_
    refine lv_aload_n E.1.1 E.1.2.1 dL_law_728 rfl (lv_at hl 1 rfl) ?_
    refine la_arg (v := 1) E hW1 hl dL_law_729 dL_law_730 dL_law_731 dL_law_732 dL_law_733 (by decide) (hin 1 (by decide)) (fun y1 ey1 => ?_)
    obtain rfl : x1 = y1 := ex1.trans ey1.symm
    refine la_arg (v := 2) E hW1 hl dL_law_734 dL_law_735 dL_law_736 dL_law_737 dL_law_738 (by decide) (hin 2 (by decide)) (fun y2 ey2 => ?_)
    obtain rfl : x2 = y2 := ex2.trans ey2.symm
    have key : W p l e room_1 s m #[Value.ref b] below meth c H1 locs1 k n Q (F0 m 747 lsA [.int z1, .int x1, .ref g2.2.2.1]) := by
      refine la_m (as := [.int x1, .int z1]) (st := []) E hW1 hl hkn dL_law_747 rfl rfl lm_98 tl_X10_see rfl rfl (Nat.le_of_ble_eq_true rfl) ⟨Nat.le_of_ble_eq_true rfl, Nat.le_of_ble_eq_true rfl⟩ (cx_X10_see (g := g2) S2 hW1.2.1 x1 z1 hx2) (fun U2 v2 H2 locs2 r2 hW2 => ?_)
      refine lv_pop E.1.1 E.1.2.1 dL_law_750 rfl ?_
      exact lv_goto E.1.1 E.1.2.1 dL_law_751 (by decide) (kk _ _ _ _ (st_of r1.2.2.2 r2.2.2.2 (st_see hR hW.1 hW.2.1)).2 hW2)
    refine lv_if_eq (tgt := 746) E.1.1 E.1.2.1 dL_law_739 (by decide) (fun q => ?_) (fun q => ?_)
    · have ez2 := ez1.trans (if_pos q)
      subst ez2
      exact lv_iconst (v := 0) E.1.1 E.1.2.1 dL_law_746 (by decide) key
    · have ez2 := ez1.trans (if_neg q)
      subst ez2
      exact lv_iconst (v := 1) E.1.1 E.1.2.1 dL_law_742 (by decide) (lv_goto (tgt := 747) E.1.1 E.1.2.1 dL_law_743 (by decide) key)
  refine lv_if_eq (tgt := 723) E.1.1 E.1.2.1 dL_law_716 (by decide) (fun q => ?_) (fun q => ?_)
  · refine lv_iconst (v := 0) E.1.1 E.1.2.1 dL_law_723 (by decide) ?_
    exact key 0 (if_pos q).symm (by decide)
  · refine lv_iconst (v := 1) E.1.1 E.1.2.1 dL_law_719 (by decide) ?_
    exact lv_goto (tgt := 724) E.1.1 E.1.2.1 dL_law_720 (by decide) (key 1 (if_neg q).symm (by decide))
theorem la_c20 (E : la_E p s m meth c b L xs g1 g2) (hR : Rl S1 S2) (hW : la_w s g1 g2 S1 S2 H locs) (hl : lv_has lsA 4 (la_ls g1 g2 b i)) (hkn : k ≤ room_1.cells ∧ n ≤ room_1.slots) (hin : ∀ v : Int32, 0 ≤ v.toInt ∧ v.toInt ≤ 4 → vp_in (i + v) L) (kk : ∀ (S1 S2 : mm_S) (H : Heap) (locs : List Loc), Rl S1 S2 → la_w s g1 g2 S1 S2 H locs → W p l e room_1 s m #[Value.ref b] below meth c H locs k n Q (F0 m 984 lsA [])) : W p l e room_1 s m #[Value.ref b] below meth c H locs k n Q (F0 m 754 lsA []) := by
  refine lv_aload_n E.1.1 E.1.2.1 dL_law_754 rfl (lv_at hl 2 rfl) ?_
  refine la_arg (v := 1) E hW hl dL_law_755 dL_law_756 dL_law_757 dL_law_758 dL_law_759 (by decide) (hin 1 (by decide)) (fun x1 ex1 => ?_)
  refine la_x (as := [.int x1]) (st := []) E hW hl hkn dL_law_760 rfl rfl lm_99 tl_X9_spoke rfl rfl (Nat.le_of_ble_eq_true rfl) ⟨Nat.le_of_ble_eq_true rfl, Nat.le_of_ble_eq_true rfl⟩ (la_pP hW.1 (c_X9_spoke (g := g1) S1 hW.1 x1)) (fun U1 v1 H1 locs1 r1 hW1 => ?_)
  refine lv_pop E.1.1 E.1.2.1 dL_law_763 rfl ?_
  refine lv_aload_n E.1.1 E.1.2.1 dL_law_764 rfl (lv_at hl 1 rfl) ?_
  refine la_arg (v := 1) E hW1 hl dL_law_765 dL_law_766 dL_law_767 dL_law_768 dL_law_769 (by decide) (hin 1 (by decide)) (fun y1 ey1 => ?_)
  obtain rfl : x1 = y1 := ex1.trans ey1.symm
  refine la_m (as := [.int x1]) (st := []) E hW1 hl hkn dL_law_770 rfl rfl lm_102 tl_X10_spoke rfl rfl (Nat.le_of_ble_eq_true rfl) ⟨Nat.le_of_ble_eq_true rfl, Nat.le_of_ble_eq_true rfl⟩ (la_pP hW1.2.1 (c_X10_spoke (g := g2) S2 hW1.2.1 x1)) (fun U2 v2 H2 locs2 r2 hW2 => ?_)
  refine lv_pop E.1.1 E.1.2.1 dL_law_773 rfl ?_
  exact lv_goto E.1.1 E.1.2.1 dL_law_774 (by decide) (kk _ _ _ _ (RA_G hR hW.1 (G1_eq r1.1) (G2_eq r2.1)) hW2)
theorem la_c21 (E : la_E p s m meth c b L xs g1 g2) (hR : Rl S1 S2) (hW : la_w s g1 g2 S1 S2 H locs) (hl : lv_has lsA 4 (la_ls g1 g2 b i)) (hkn : k ≤ room_1.cells ∧ n ≤ room_1.slots) (hin : ∀ v : Int32, 0 ≤ v.toInt ∧ v.toInt ≤ 4 → vp_in (i + v) L) (kk : ∀ (S1 S2 : mm_S) (H : Heap) (locs : List Loc), Rl S1 S2 → la_w s g1 g2 S1 S2 H locs → W p l e room_1 s m #[Value.ref b] below meth c H locs k n Q (F0 m 984 lsA [])) : W p l e room_1 s m #[Value.ref b] below meth c H locs k n Q (F0 m 777 lsA []) := by
  refine lv_aload_n E.1.1 E.1.2.1 dL_law_777 rfl (lv_at hl 2 rfl) ?_
  refine la_x (as := []) (st := []) E hW hl hkn dL_law_778 rfl rfl lm_103 tl_X9_knock rfl rfl (Nat.le_of_ble_eq_true rfl) ⟨Nat.le_of_ble_eq_true rfl, Nat.le_of_ble_eq_true rfl⟩ (la_pP hW.1 (c_X9_knock (g := g1) S1 hW.1 )) (fun U1 v1 H1 locs1 r1 hW1 => ?_)
  refine lv_pop E.1.1 E.1.2.1 dL_law_781 rfl ?_
  refine lv_aload_n E.1.1 E.1.2.1 dL_law_782 rfl (lv_at hl 1 rfl) ?_
  refine la_m (as := []) (st := []) E hW1 hl hkn dL_law_783 rfl rfl lm_106 tl_X10_knock rfl rfl (Nat.le_of_ble_eq_true rfl) ⟨Nat.le_of_ble_eq_true rfl, Nat.le_of_ble_eq_true rfl⟩ (la_pP hW1.2.1 (c_X10_knock (g := g2) S2 hW1.2.1 )) (fun U2 v2 H2 locs2 r2 hW2 => ?_)
  refine lv_pop E.1.1 E.1.2.1 dL_law_786 rfl ?_
  exact lv_goto E.1.1 E.1.2.1 dL_law_787 (by decide) (kk _ _ _ _ (RA_G hR hW.1 (G1_eq r1.1) (G2_eq r2.1)) hW2)
theorem la_c22 (E : la_E p s m meth c b L xs g1 g2) (hR : Rl S1 S2) (hW : la_w s g1 g2 S1 S2 H locs) (hl : lv_has lsA 4 (la_ls g1 g2 b i)) (hkn : k ≤ room_1.cells ∧ n ≤ room_1.slots) (hin : ∀ v : Int32, 0 ≤ v.toInt ∧ v.toInt ≤ 4 → vp_in (i + v) L) (kk : ∀ (S1 S2 : mm_S) (H : Heap) (locs : List Loc), Rl S1 S2 → la_w s g1 g2 S1 S2 H locs → W p l e room_1 s m #[Value.ref b] below meth c H locs k n Q (F0 m 984 lsA [])) : W p l e room_1 s m #[Value.ref b] below meth c H locs k n Q (F0 m 790 lsA []) := by
  refine lv_aload_n E.1.1 E.1.2.1 dL_law_790 rfl (lv_at hl 2 rfl) ?_
  refine la_arg (v := 1) E hW hl dL_law_791 dL_law_792 dL_law_793 dL_law_794 dL_law_795 (by decide) (hin 1 (by decide)) (fun x1 ex1 => ?_)
  refine la_arg (v := 2) E hW hl dL_law_796 dL_law_797 dL_law_798 dL_law_799 dL_law_800 (by decide) (hin 2 (by decide)) (fun x2 ex2 => ?_)
  refine la_x (as := [.int x1, .int x2]) (st := []) E hW hl hkn dL_law_801 rfl rfl lm_107 tl_X9_has rfl rfl (Nat.le_of_ble_eq_true rfl) ⟨Nat.le_of_ble_eq_true rfl, Nat.le_of_ble_eq_true rfl⟩ (cx_X9_has (g := g1) S1 hW.1 x1 x2) (fun U1 v1 H1 locs1 r1 hW1 => ?_)
  refine lv_pop E.1.1 E.1.2.1 dL_law_804 rfl ?_
  refine lv_aload_n E.1.1 E.1.2.1 dL_law_805 rfl (lv_at hl 1 rfl) ?_
  refine la_arg (v := 1) E hW1 hl dL_law_806 dL_law_807 dL_law_808 dL_law_809 dL_law_810 (by decide) (hin 1 (by decide)) (fun y1 ey1 => ?_)
  obtain rfl : x1 = y1 := ex1.trans ey1.symm
  refine la_arg (v := 2) E hW1 hl dL_law_811 dL_law_812 dL_law_813 dL_law_814 dL_law_815 (by decide) (hin 2 (by decide)) (fun y2 ey2 => ?_)
  obtain rfl : x2 = y2 := ex2.trans ey2.symm
  refine la_m (as := [.int x1, .int x2]) (st := []) E hW1 hl hkn dL_law_816 rfl rfl lm_110 tl_X10_has rfl rfl (Nat.le_of_ble_eq_true rfl) ⟨Nat.le_of_ble_eq_true rfl, Nat.le_of_ble_eq_true rfl⟩ (cx_X10_has (g := g2) S2 hW1.2.1 x1 x2) (fun U2 v2 H2 locs2 r2 hW2 => ?_)
  refine lv_pop E.1.1 E.1.2.1 dL_law_819 rfl ?_
  exact lv_goto E.1.1 E.1.2.1 dL_law_820 (by decide) (kk _ _ _ _ (st_of r1.2.2.2 r2.2.2.2 (st_has hR hW.1 hW.2.1)).2 hW2)
theorem la_c23 (E : la_E p s m meth c b L xs g1 g2) (hR : Rl S1 S2) (hW : la_w s g1 g2 S1 S2 H locs) (hl : lv_has lsA 4 (la_ls g1 g2 b i)) (hkn : k ≤ room_1.cells ∧ n ≤ room_1.slots) (hin : ∀ v : Int32, 0 ≤ v.toInt ∧ v.toInt ≤ 4 → vp_in (i + v) L) (kk : ∀ (S1 S2 : mm_S) (H : Heap) (locs : List Loc), Rl S1 S2 → la_w s g1 g2 S1 S2 H locs → W p l e room_1 s m #[Value.ref b] below meth c H locs k n Q (F0 m 984 lsA [])) : W p l e room_1 s m #[Value.ref b] below meth c H locs k n Q (F0 m 823 lsA []) := by
  refine lv_aload_n E.1.1 E.1.2.1 dL_law_823 rfl (lv_at hl 2 rfl) ?_
  refine la_arg (v := 1) E hW hl dL_law_824 dL_law_825 dL_law_826 dL_law_827 dL_law_828 (by decide) (hin 1 (by decide)) (fun x1 ex1 => ?_)
  refine la_arg (v := 2) E hW hl dL_law_829 dL_law_830 dL_law_831 dL_law_832 dL_law_833 (by decide) (hin 2 (by decide)) (fun x2 ex2 => ?_)
  refine la_x (as := [.int x1, .int x2]) (st := []) E hW hl hkn dL_law_834 rfl rfl lm_111 tl_X9_orders rfl rfl (Nat.le_of_ble_eq_true rfl) ⟨Nat.le_of_ble_eq_true rfl, Nat.le_of_ble_eq_true rfl⟩ (c_X9_orders (g := g1) S1 hW.1 x1 x2) (fun U1 v1 H1 locs1 r1 hW1 => ?_)
  refine lv_pop E.1.1 E.1.2.1 dL_law_837 rfl ?_
  refine lv_aload_n E.1.1 E.1.2.1 dL_law_838 rfl (lv_at hl 1 rfl) ?_
  refine la_arg (v := 1) E hW1 hl dL_law_839 dL_law_840 dL_law_841 dL_law_842 dL_law_843 (by decide) (hin 1 (by decide)) (fun y1 ey1 => ?_)
  obtain rfl : x1 = y1 := ex1.trans ey1.symm
  refine la_arg (v := 2) E hW1 hl dL_law_844 dL_law_845 dL_law_846 dL_law_847 dL_law_848 (by decide) (hin 2 (by decide)) (fun y2 ey2 => ?_)
  obtain rfl : x2 = y2 := ex2.trans ey2.symm
  refine la_m (as := [.int x1, .int x2]) (st := []) E hW1 hl hkn dL_law_849 rfl rfl lm_114 tl_X10_orders rfl rfl (Nat.le_of_ble_eq_true rfl) ⟨Nat.le_of_ble_eq_true rfl, Nat.le_of_ble_eq_true rfl⟩ (c_X10_ordersf (g := g2) S2 hW1.2.1 x1 x2) (fun U2 v2 H2 locs2 r2 hW2 => ?_)
  refine lv_pop E.1.1 E.1.2.1 dL_law_852 rfl ?_
  exact lv_goto E.1.1 E.1.2.1 dL_law_853 (by decide) (kk _ _ _ _ (RA_G hR hW.1 (fr_G1 r1.1 (by decide)) (fr_G2 r2.1 (by decide) (by decide))) hW2)
theorem la_c24 (E : la_E p s m meth c b L xs g1 g2) (hR : Rl S1 S2) (hW : la_w s g1 g2 S1 S2 H locs) (hl : lv_has lsA 4 (la_ls g1 g2 b i)) (hkn : k ≤ room_1.cells ∧ n ≤ room_1.slots) (hin : ∀ v : Int32, 0 ≤ v.toInt ∧ v.toInt ≤ 4 → vp_in (i + v) L) (kk : ∀ (S1 S2 : mm_S) (H : Heap) (locs : List Loc), Rl S1 S2 → la_w s g1 g2 S1 S2 H locs → W p l e room_1 s m #[Value.ref b] below meth c H locs k n Q (F0 m 984 lsA [])) : W p l e room_1 s m #[Value.ref b] below meth c H locs k n Q (F0 m 856 lsA []) := by
  refine lv_aload_n E.1.1 E.1.2.1 dL_law_856 rfl (lv_at hl 2 rfl) ?_
  refine la_arg (v := 1) E hW hl dL_law_857 dL_law_858 dL_law_859 dL_law_860 dL_law_861 (by decide) (hin 1 (by decide)) (fun x1 ex1 => ?_)
  refine la_arg (v := 2) E hW hl dL_law_862 dL_law_863 dL_law_864 dL_law_865 dL_law_866 (by decide) (hin 2 (by decide)) (fun x2 ex2 => ?_)
  refine la_x (as := [.int x1, .int x2]) (st := []) E hW hl hkn dL_law_867 rfl rfl lm_115 tl_X9_write rfl rfl (Nat.le_of_ble_eq_true rfl) ⟨Nat.le_of_ble_eq_true rfl, Nat.le_of_ble_eq_true rfl⟩ (cx_X9_write (g := g1) S1 hW.1 x1 x2) (fun U1 v1 H1 locs1 r1 hW1 => ?_)
  refine lv_pop E.1.1 E.1.2.1 dL_law_870 rfl ?_
  refine lv_aload_n E.1.1 E.1.2.1 dL_law_871 rfl (lv_at hl 1 rfl) ?_
  refine la_arg (v := 1) E hW1 hl dL_law_872 dL_law_873 dL_law_874 dL_law_875 dL_law_876 (by decide) (hin 1 (by decide)) (fun y1 ey1 => ?_)
  obtain rfl : x1 = y1 := ex1.trans ey1.symm
  refine la_arg (v := 2) E hW1 hl dL_law_877 dL_law_878 dL_law_879 dL_law_880 dL_law_881 (by decide) (hin 2 (by decide)) (fun y2 ey2 => ?_)
  obtain rfl : x2 = y2 := ex2.trans ey2.symm
  refine la_m (as := [.int x1, .int x2]) (st := []) E hW1 hl hkn dL_law_882 rfl rfl lm_118 tl_X10_write rfl rfl (Nat.le_of_ble_eq_true rfl) ⟨Nat.le_of_ble_eq_true rfl, Nat.le_of_ble_eq_true rfl⟩ (cx_X10_write (g := g2) S2 hW1.2.1 x1 x2) (fun U2 v2 H2 locs2 r2 hW2 => ?_)
  refine lv_pop E.1.1 E.1.2.1 dL_law_885 rfl ?_
  exact lv_goto E.1.1 E.1.2.1 dL_law_886 (by decide) (kk _ _ _ _ (st_of r1.2.2.2 r2.2.2.2 (st_write hR hW.1 hW.2.1)).2 hW2)
theorem la_c25 (E : la_E p s m meth c b L xs g1 g2) (hR : Rl S1 S2) (hW : la_w s g1 g2 S1 S2 H locs) (hl : lv_has lsA 4 (la_ls g1 g2 b i)) (hkn : k ≤ room_1.cells ∧ n ≤ room_1.slots) (hin : ∀ v : Int32, 0 ≤ v.toInt ∧ v.toInt ≤ 4 → vp_in (i + v) L) (kk : ∀ (S1 S2 : mm_S) (H : Heap) (locs : List Loc), Rl S1 S2 → la_w s g1 g2 S1 S2 H locs → W p l e room_1 s m #[Value.ref b] below meth c H locs k n Q (F0 m 984 lsA [])) : W p l e room_1 s m #[Value.ref b] below meth c H locs k n Q (F0 m 889 lsA []) := by
  refine lv_aload_n E.1.1 E.1.2.1 dL_law_889 rfl (lv_at hl 2 rfl) ?_
  refine la_x (as := []) (st := []) E hW hl hkn dL_law_890 rfl rfl lm_119 tl_X9_tear rfl rfl (Nat.le_of_ble_eq_true rfl) ⟨Nat.le_of_ble_eq_true rfl, Nat.le_of_ble_eq_true rfl⟩ (cx_X9_tear (g := g1) S1 hW.1 ) (fun U1 v1 H1 locs1 r1 hW1 => ?_)
  refine lv_pop E.1.1 E.1.2.1 dL_law_893 rfl ?_
  refine lv_aload_n E.1.1 E.1.2.1 dL_law_894 rfl (lv_at hl 1 rfl) ?_
  refine la_m (as := []) (st := []) E hW1 hl hkn dL_law_895 rfl rfl lm_122 tl_X10_tear rfl rfl (Nat.le_of_ble_eq_true rfl) ⟨Nat.le_of_ble_eq_true rfl, Nat.le_of_ble_eq_true rfl⟩ (cx_X10_tear (g := g2) S2 hW1.2.1 ) (fun U2 v2 H2 locs2 r2 hW2 => ?_)
  refine lv_pop E.1.1 E.1.2.1 dL_law_898 rfl ?_
  exact lv_goto E.1.1 E.1.2.1 dL_law_899 (by decide) (kk _ _ _ _ (st_of r1.2.2.2 r2.2.2.2 (st_tear hR hW.1)).2 hW2)
theorem la_c26 (E : la_E p s m meth c b L xs g1 g2) (hR : Rl S1 S2) (hW : la_w s g1 g2 S1 S2 H locs) (hl : lv_has lsA 4 (la_ls g1 g2 b i)) (hkn : k ≤ room_1.cells ∧ n ≤ room_1.slots) (hin : ∀ v : Int32, 0 ≤ v.toInt ∧ v.toInt ≤ 4 → vp_in (i + v) L) (kk : ∀ (S1 S2 : mm_S) (H : Heap) (locs : List Loc), Rl S1 S2 → la_w s g1 g2 S1 S2 H locs → W p l e room_1 s m #[Value.ref b] below meth c H locs k n Q (F0 m 984 lsA [])) : W p l e room_1 s m #[Value.ref b] below meth c H locs k n Q (F0 m 902 lsA []) := by
  refine lv_aload_n E.1.1 E.1.2.1 dL_law_902 rfl (lv_at hl 2 rfl) ?_
  refine la_x (as := []) (st := []) E hW hl hkn dL_law_903 rfl rfl lm_123 tl_X9_judge rfl rfl (Nat.le_of_ble_eq_true rfl) ⟨Nat.le_of_ble_eq_true rfl, Nat.le_of_ble_eq_true rfl⟩ (la_pP hW.1 (c_X9_judge (g := g1) S1 hW.1 )) (fun U1 v1 H1 locs1 r1 hW1 => ?_)
  refine lv_pop E.1.1 E.1.2.1 dL_law_906 rfl ?_
  refine lv_aload_n E.1.1 E.1.2.1 dL_law_907 rfl (lv_at hl 1 rfl) ?_
  refine la_m (as := []) (st := []) E hW1 hl hkn dL_law_908 rfl rfl lm_126 tl_X10_judge rfl rfl (Nat.le_of_ble_eq_true rfl) ⟨Nat.le_of_ble_eq_true rfl, Nat.le_of_ble_eq_true rfl⟩ (la_pP hW1.2.1 (c_X10_judge (g := g2) S2 hW1.2.1 )) (fun U2 v2 H2 locs2 r2 hW2 => ?_)
  refine lv_pop E.1.1 E.1.2.1 dL_law_911 rfl ?_
  exact lv_goto E.1.1 E.1.2.1 dL_law_912 (by decide) (kk _ _ _ _ (RA_G hR hW.1 (G1_eq r1.1) (G2_eq r2.1)) hW2)
theorem la_c27 (E : la_E p s m meth c b L xs g1 g2) (hR : Rl S1 S2) (hW : la_w s g1 g2 S1 S2 H locs) (hl : lv_has lsA 4 (la_ls g1 g2 b i)) (hkn : k ≤ room_1.cells ∧ n ≤ room_1.slots) (hin : ∀ v : Int32, 0 ≤ v.toInt ∧ v.toInt ≤ 4 → vp_in (i + v) L) (kk : ∀ (S1 S2 : mm_S) (H : Heap) (locs : List Loc), Rl S1 S2 → la_w s g1 g2 S1 S2 H locs → W p l e room_1 s m #[Value.ref b] below meth c H locs k n Q (F0 m 984 lsA [])) : W p l e room_1 s m #[Value.ref b] below meth c H locs k n Q (F0 m 915 lsA []) := by
  refine lv_aload_n E.1.1 E.1.2.1 dL_law_915 rfl (lv_at hl 2 rfl) ?_
  refine la_arg (v := 1) E hW hl dL_law_916 dL_law_917 dL_law_918 dL_law_919 dL_law_920 (by decide) (hin 1 (by decide)) (fun x1 ex1 => ?_)
  refine la_x (as := [.int x1]) (st := []) E hW hl hkn dL_law_921 rfl rfl lm_127 tl_X9_seed rfl rfl (Nat.le_of_ble_eq_true rfl) ⟨Nat.le_of_ble_eq_true rfl, Nat.le_of_ble_eq_true rfl⟩ (c_X9_seed (g := g1) S1 hW.1 x1) (fun U1 v1 H1 locs1 r1 hW1 => ?_)
  refine lv_pop E.1.1 E.1.2.1 dL_law_924 rfl ?_
  refine lv_aload_n E.1.1 E.1.2.1 dL_law_925 rfl (lv_at hl 1 rfl) ?_
  refine la_arg (v := 1) E hW1 hl dL_law_926 dL_law_927 dL_law_928 dL_law_929 dL_law_930 (by decide) (hin 1 (by decide)) (fun y1 ey1 => ?_)
  obtain rfl : x1 = y1 := ex1.trans ey1.symm
  refine la_m (as := [.int x1]) (st := []) E hW1 hl hkn dL_law_931 rfl rfl lm_130 tl_X10_seed rfl rfl (Nat.le_of_ble_eq_true rfl) ⟨Nat.le_of_ble_eq_true rfl, Nat.le_of_ble_eq_true rfl⟩ (c_X10_seed (g := g2) S2 hW1.2.1 x1) (fun U2 v2 H2 locs2 r2 hW2 => ?_)
  refine lv_pop E.1.1 E.1.2.1 dL_law_934 rfl ?_
  exact lv_goto E.1.1 E.1.2.1 dL_law_935 (by decide) (kk _ _ _ _ (RA_G hR hW.1 (fr_G1 r1.1 (by decide)) (fr_G2 r2.1 (by decide) (by decide))) hW2)
theorem la_c28 (E : la_E p s m meth c b L xs g1 g2) (hR : Rl S1 S2) (hW : la_w s g1 g2 S1 S2 H locs) (hl : lv_has lsA 4 (la_ls g1 g2 b i)) (hkn : k ≤ room_1.cells ∧ n ≤ room_1.slots) (hin : ∀ v : Int32, 0 ≤ v.toInt ∧ v.toInt ≤ 4 → vp_in (i + v) L) (kk : ∀ (S1 S2 : mm_S) (H : Heap) (locs : List Loc), Rl S1 S2 → la_w s g1 g2 S1 S2 H locs → W p l e room_1 s m #[Value.ref b] below meth c H locs k n Q (F0 m 984 lsA [])) : W p l e room_1 s m #[Value.ref b] below meth c H locs k n Q (F0 m 938 lsA []) := by
  refine lv_aload_n E.1.1 E.1.2.1 dL_law_938 rfl (lv_at hl 2 rfl) ?_
  refine la_arg (v := 1) E hW hl dL_law_939 dL_law_940 dL_law_941 dL_law_942 dL_law_943 (by decide) (hin 1 (by decide)) (fun x1 ex1 => ?_)
  refine la_x (as := [.int x1]) (st := []) E hW hl hkn dL_law_944 rfl rfl lm_131 tl_X9_keep rfl rfl (Nat.le_of_ble_eq_true rfl) ⟨Nat.le_of_ble_eq_true rfl, Nat.le_of_ble_eq_true rfl⟩ (cx_X9_keep (g := g1) S1 hW.1 x1) (fun U1 v1 H1 locs1 r1 hW1 => ?_)
  refine lv_pop E.1.1 E.1.2.1 dL_law_947 rfl ?_
  refine lv_aload_n E.1.1 E.1.2.1 dL_law_948 rfl (lv_at hl 1 rfl) ?_
  refine la_arg (v := 1) E hW1 hl dL_law_949 dL_law_950 dL_law_951 dL_law_952 dL_law_953 (by decide) (hin 1 (by decide)) (fun y1 ey1 => ?_)
  obtain rfl : x1 = y1 := ex1.trans ey1.symm
  refine la_m (as := [.int x1]) (st := []) E hW1 hl hkn dL_law_954 rfl rfl lm_134 tl_X10_keep rfl rfl (Nat.le_of_ble_eq_true rfl) ⟨Nat.le_of_ble_eq_true rfl, Nat.le_of_ble_eq_true rfl⟩ (cx_X10_keep (g := g2) S2 hW1.2.1 x1) (fun U2 v2 H2 locs2 r2 hW2 => ?_)
  refine lv_pop E.1.1 E.1.2.1 dL_law_957 rfl ?_
  exact lv_goto E.1.1 E.1.2.1 dL_law_958 (by decide) (kk _ _ _ _ (st_of r1.2.2.2 r2.2.2.2 (st_keep hR hW.1)).2 hW2)
theorem la_c29 (E : la_E p s m meth c b L xs g1 g2) (hR : Rl S1 S2) (hW : la_w s g1 g2 S1 S2 H locs) (hl : lv_has lsA 4 (la_ls g1 g2 b i)) (hkn : k ≤ room_1.cells ∧ n ≤ room_1.slots) (hin : ∀ v : Int32, 0 ≤ v.toInt ∧ v.toInt ≤ 4 → vp_in (i + v) L) (kk : ∀ (S1 S2 : mm_S) (H : Heap) (locs : List Loc), Rl S1 S2 → la_w s g1 g2 S1 S2 H locs → W p l e room_1 s m #[Value.ref b] below meth c H locs k n Q (F0 m 984 lsA [])) : W p l e room_1 s m #[Value.ref b] below meth c H locs k n Q (F0 m 961 lsA []) := by
  refine lv_aload_n E.1.1 E.1.2.1 dL_law_961 rfl (lv_at hl 2 rfl) ?_
  refine la_arg (v := 1) E hW hl dL_law_962 dL_law_963 dL_law_964 dL_law_965 dL_law_966 (by decide) (hin 1 (by decide)) (fun x1 ex1 => ?_)
  refine la_x (as := [.int x1]) (st := []) E hW hl hkn dL_law_967 rfl rfl lm_135 tl_X9_goBack rfl rfl (Nat.le_of_ble_eq_true rfl) ⟨Nat.le_of_ble_eq_true rfl, Nat.le_of_ble_eq_true rfl⟩ (cx_X9_goBack (g := g1) S1 hW.1 x1) (fun U1 v1 H1 locs1 r1 hW1 => ?_)
  refine lv_aload_n E.1.1 E.1.2.1 dL_law_970 rfl (lv_at hl 1 rfl) ?_
  refine la_arg (v := 1) E hW1 hl dL_law_971 dL_law_972 dL_law_973 dL_law_974 dL_law_975 (by decide) (hin 1 (by decide)) (fun y1 ey1 => ?_)
  obtain rfl : x1 = y1 := ex1.trans ey1.symm
  refine la_m (as := [.int x1]) (st := [.int v1]) E hW1 hl hkn dL_law_976 rfl rfl lm_138 tl_X10_goBack rfl rfl (Nat.le_of_ble_eq_true rfl) ⟨Nat.le_of_ble_eq_true rfl, Nat.le_of_ble_eq_true rfl⟩ (cx_X10_goBack (g := g2) S2 hW1.2.1 x1) (fun U2 v2 H2 locs2 r2 hW2 => ?_)
  refine lv_icmp_eq (tgt := 984) E.1.1 E.1.2.1 dL_law_979 (by decide) (fun _ => kk _ _ _ _ (RA_G hR hW.1 (fr_G1 r1.1 (by decide)) (fr_G2 r2.1 (by decide) (by decide))) hW2) (fun q => ?_)
  exact absurd ((congrArg Prod.fst r1.2.2.2).symm.trans ((an_goBack hR).trans (congrArg Prod.fst r2.2.2.2))) q
end LB
