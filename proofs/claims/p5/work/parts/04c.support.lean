/-! ===== what the printed walks lean on ===== -/
def mm_rm (d : Nat) : Room := { frames := d, cells := 0, slots := 0, locals := 33 * d }
abbrev qi (sh : List mm_F) (P : mm_S → Int32 → Prop) : Option Value → List mm_E → Prop := fun r w => ∃ (S1 : mm_S) (v : Int32), r = some (.int v) ∧ w = mm_enc sh S1 ∧ P S1 v
abbrev qv (sh : List mm_F) (P : mm_S → Prop) : Option Value → List mm_E → Prop := fun r w => ∃ S1 : mm_S, r = none ∧ w = mm_enc sh S1 ∧ P S1
theorem mc_of2 {g : mm_G} {y : MethodName} {cc : ByteArray} {nL : Nat} {ret : Option FieldType} {rm : Room} {as : List Value} {w : List mm_E} {Q : Option Value → List mm_E → Prop} {own : String} {ini : Bool} {ls : List (Nat × Value)} (hy : plainName y.cls = true) (hn : (lg_sl as).length ≤ nL) (ho : y.cls = own) (hi : ini = true → y.name = "<init>") (hl : lv_args 0 as = ls)
    (h : mw g own cc nL ret ini rm Q 0 0 w 0 ls []) : mc g y cc nL ret rm as w Q := by
  subst ho
  subst hl
  intro l
  refine Met.ofW (cc := cc) (maxL := nL) (ret := ret) hy rfl ?_
  intro p e s m args below meth c s₁ B hml hv
  obtain ⟨rfl, hH, hK⟩ := hv
  have hl := lv_entry (as.map (mm_v g)) (n := nL) (by rw [mm_sl]; exact hn)
  rw [lg_entry_eq]
  refine h p l e s m _ below meth c s.heap [] _ ⟨⟨B.exec, B.bytes, hml, findClass_of_methodNamed B.named, fun w hw => atoms_spec (ws := mm_ws y cc nL ret) B.pre w (List.mem_cons_of_mem _ hw), B.returns, B.notSynchronized, fun q => ?_⟩, hK, hH, va_S.rf, ?_⟩
  · rw [(name_of_methodNamed B.named B.method).1]
    exact hi q
  · rw [← mm_largs]
    exact hl
section TC
variable {g : mm_G} {own : String} {cc : ByteArray} {nL : Nat} {ret : Option FieldType} {ini : Bool} {rm : Room} {Q : Option Value → List mm_E → Prop} {k n : Nat} {sh : List mm_F} {S : mm_S} {pc : Nat} {ls : List (Nat × Value)} {st : List Value} {w : List mm_E}
theorem mw_ls (is : List Nat) {ls' : List (Nat × Value)} (h : is.filterMap (fun i => ls[i]?) = ls') (kk : mw g own cc nL ret ini rm Q k n w pc ls' st) : mw g own cc nL ret ini rm Q k n w pc ls st := by
  intro p l e s m args below meth c H locs lsA a
  refine kk p l e s m args below meth c H locs lsA ⟨a.1, a.2.1, a.2.2.1, a.2.2.2.1, a.2.2.2.2.1, a.2.2.2.2.2.1, fun q hq => ?_⟩
  obtain ⟨r, hr, rfl⟩ := List.mem_map.mp hq
  rw [← h] at hr
  obtain ⟨i, -, hi⟩ := List.mem_filterMap.mp hr
  exact a.2.2.2.2.2.2 _ (List.mem_map.mpr ⟨r, List.mem_of_getElem? hi, rfl⟩)
theorem mw_nm {x : Int32} (kk : ∀ v : Int32, v = x → mw g own cc nL ret ini rm Q k n w pc ls (.int v :: st)) : mw g own cc nL ret ini rm Q k n w pc ls (.int x :: st) := kk x rfl
variable {y : MethodName} {bytes : ByteArray} {nL1 a1 idx a ci d1 d2 : Nat} {ret1 : Option FieldType} {as : List Value} {ks : List (Nat ⊕ Nat)} {C host : String} {T : u_T} {N : Nat} {st0 : List Value}
theorem mm_room (hd : d1 + 1 ≤ d2) (hL : nL1 ≤ 14) : (mm_rm d1).frames + 1 ≤ (mm_rm d2).frames ∧ 8 + (nL1 + 11) + (mm_rm d1).locals ≤ (mm_rm d2).locals := by
  unfold mm_rm
  dsimp only
  omega
theorem tc_Vi {P : mm_S → Int32 → Prop} (d : decode cc pc = .ok (.invokevirtual idx, 3)) (hst : st0 = as.reverse ++ .ref a :: st) (hs : sh[a]? = some (.inl (ci, ks))) (hc : vwCl[ci]? = some (C, T, N)) (hy : y.cls = C) (hl : Cond.methodLink own idx y ∈ mm_ok) (hm : mm_mi y bytes nL1 ret1 a1) (hn : as.length = a1) (h8 : (st.map fun v => v.category).sum ≤ 8) (hd : d1 + 1 ≤ d2) (hL : nL1 ≤ 14)
    (hM : mc g y bytes nL1 ret1 (mm_rm d1) (.ref a :: as) (mm_enc sh S) (qi sh P)) (kk : ∀ (S1 : mm_S) (v : Int32), P S1 v → mw g own cc nL ret ini (mm_rm d2) Q 0 0 (mm_enc sh S1) (pc + 3) ls (.int v :: st)) : mw g own cc nL ret ini (mm_rm d2) Q 0 0 (mm_enc sh S) pc ls st0 :=
  mw_callV d hst (mm_enc_get hs) hc hy hl hm hn h8 (mm_room hd hL) ⟨Nat.le_refl 0, Nat.le_refl 0⟩ hM (fun r w1 hq => by obtain ⟨S1, v, rfl, rfl, hp⟩ := hq; exact kk S1 v hp)
theorem tc_Vv {P : mm_S → Prop} (d : decode cc pc = .ok (.invokevirtual idx, 3)) (hst : st0 = as.reverse ++ .ref a :: st) (hs : sh[a]? = some (.inl (ci, ks))) (hc : vwCl[ci]? = some (C, T, N)) (hy : y.cls = C) (hl : Cond.methodLink own idx y ∈ mm_ok) (hm : mm_mi y bytes nL1 ret1 a1) (hn : as.length = a1) (h8 : (st.map fun v => v.category).sum ≤ 8) (hd : d1 + 1 ≤ d2) (hL : nL1 ≤ 14)
    (hM : mc g y bytes nL1 ret1 (mm_rm d1) (.ref a :: as) (mm_enc sh S) (qv sh P)) (kk : ∀ (S1 : mm_S), P S1 → mw g own cc nL ret ini (mm_rm d2) Q 0 0 (mm_enc sh S1) (pc + 3) ls st) : mw g own cc nL ret ini (mm_rm d2) Q 0 0 (mm_enc sh S) pc ls st0 :=
  mw_callV d hst (mm_enc_get hs) hc hy hl hm hn h8 (mm_room hd hL) ⟨Nat.le_refl 0, Nat.le_refl 0⟩ hM (fun r w1 hq => by obtain ⟨S1, rfl, rfl, hp⟩ := hq; exact kk S1 hp)
theorem tc_ViN {P : mm_S → Int32 → Prop} (d : decode cc pc = .ok (.invokevirtual idx, 3)) (hst : st0 = as.reverse ++ .ref a :: st) (hs : sh[a]? = some (.inl (ci, ks))) (hc : vwCl[ci]? = some (C, T, N)) (hy : y.cls = C) (hl : Cond.methodLinkNest own idx y host ∈ mm_nest) (hm : mm_mi y bytes nL1 ret1 a1) (hn : as.length = a1) (h8 : (st.map fun v => v.category).sum ≤ 8) (hd : d1 + 1 ≤ d2) (hL : nL1 ≤ 14)
    (hM : mc g y bytes nL1 ret1 (mm_rm d1) (.ref a :: as) (mm_enc sh S) (qi sh P)) (kk : ∀ (S1 : mm_S) (v : Int32), P S1 v → mw g own cc nL ret ini (mm_rm d2) Q 0 0 (mm_enc sh S1) (pc + 3) ls (.int v :: st)) : mw g own cc nL ret ini (mm_rm d2) Q 0 0 (mm_enc sh S) pc ls st0 :=
  mw_callVN d hst (mm_enc_get hs) hc hy hl hm hn h8 (mm_room hd hL) ⟨Nat.le_refl 0, Nat.le_refl 0⟩ hM (fun r w1 hq => by obtain ⟨S1, v, rfl, rfl, hp⟩ := hq; exact kk S1 v hp)
theorem tc_VvN {P : mm_S → Prop} (d : decode cc pc = .ok (.invokevirtual idx, 3)) (hst : st0 = as.reverse ++ .ref a :: st) (hs : sh[a]? = some (.inl (ci, ks))) (hc : vwCl[ci]? = some (C, T, N)) (hy : y.cls = C) (hl : Cond.methodLinkNest own idx y host ∈ mm_nest) (hm : mm_mi y bytes nL1 ret1 a1) (hn : as.length = a1) (h8 : (st.map fun v => v.category).sum ≤ 8) (hd : d1 + 1 ≤ d2) (hL : nL1 ≤ 14)
    (hM : mc g y bytes nL1 ret1 (mm_rm d1) (.ref a :: as) (mm_enc sh S) (qv sh P)) (kk : ∀ (S1 : mm_S), P S1 → mw g own cc nL ret ini (mm_rm d2) Q 0 0 (mm_enc sh S1) (pc + 3) ls st) : mw g own cc nL ret ini (mm_rm d2) Q 0 0 (mm_enc sh S) pc ls st0 :=
  mw_callVN d hst (mm_enc_get hs) hc hy hl hm hn h8 (mm_room hd hL) ⟨Nat.le_refl 0, Nat.le_refl 0⟩ hM (fun r w1 hq => by obtain ⟨S1, rfl, rfl, hp⟩ := hq; exact kk S1 hp)
theorem tc_Si {P : mm_S → Int32 → Prop} (d : decode cc pc = .ok (.invokestatic idx, 3)) (hst : st0 = as.reverse ++ st) (hl : Cond.methodLink own idx y ∈ mm_ok) (hm : mm_ms y bytes nL1 ret1 a1) (hn : as.length = a1) (h8 : (st.map fun v => v.category).sum ≤ 8) (hd : d1 + 1 ≤ d2) (hL : nL1 ≤ 14)
    (hM : mc g y bytes nL1 ret1 (mm_rm d1) as (mm_enc sh S) (qi sh P)) (kk : ∀ (S1 : mm_S) (v : Int32), P S1 v → mw g own cc nL ret ini (mm_rm d2) Q 0 0 (mm_enc sh S1) (pc + 3) ls (.int v :: st)) : mw g own cc nL ret ini (mm_rm d2) Q 0 0 (mm_enc sh S) pc ls st0 :=
  mw_callS d hst hl hm hn h8 (mm_room hd hL) ⟨Nat.le_refl 0, Nat.le_refl 0⟩ hM (fun r w1 hq => by obtain ⟨S1, v, rfl, rfl, hp⟩ := hq; exact kk S1 v hp)
theorem tc_Sv {P : mm_S → Prop} (d : decode cc pc = .ok (.invokestatic idx, 3)) (hst : st0 = as.reverse ++ st) (hl : Cond.methodLink own idx y ∈ mm_ok) (hm : mm_ms y bytes nL1 ret1 a1) (hn : as.length = a1) (h8 : (st.map fun v => v.category).sum ≤ 8) (hd : d1 + 1 ≤ d2) (hL : nL1 ≤ 14)
    (hM : mc g y bytes nL1 ret1 (mm_rm d1) as (mm_enc sh S) (qv sh P)) (kk : ∀ (S1 : mm_S), P S1 → mw g own cc nL ret ini (mm_rm d2) Q 0 0 (mm_enc sh S1) (pc + 3) ls st) : mw g own cc nL ret ini (mm_rm d2) Q 0 0 (mm_enc sh S) pc ls st0 :=
  mw_callS d hst hl hm hn h8 (mm_room hd hL) ⟨Nat.le_refl 0, Nat.le_refl 0⟩ hM (fun r w1 hq => by obtain ⟨S1, rfl, rfl, hp⟩ := hq; exact kk S1 hp)
theorem tc_SiN {P : mm_S → Int32 → Prop} (d : decode cc pc = .ok (.invokestatic idx, 3)) (hst : st0 = as.reverse ++ st) (hl : Cond.methodLinkNest own idx y host ∈ mm_nest) (hm : mm_ms y bytes nL1 ret1 a1) (hn : as.length = a1) (h8 : (st.map fun v => v.category).sum ≤ 8) (hd : d1 + 1 ≤ d2) (hL : nL1 ≤ 14)
    (hM : mc g y bytes nL1 ret1 (mm_rm d1) as (mm_enc sh S) (qi sh P)) (kk : ∀ (S1 : mm_S) (v : Int32), P S1 v → mw g own cc nL ret ini (mm_rm d2) Q 0 0 (mm_enc sh S1) (pc + 3) ls (.int v :: st)) : mw g own cc nL ret ini (mm_rm d2) Q 0 0 (mm_enc sh S) pc ls st0 :=
  mw_callSN d hst hl hm hn h8 (mm_room hd hL) ⟨Nat.le_refl 0, Nat.le_refl 0⟩ hM (fun r w1 hq => by obtain ⟨S1, v, rfl, rfl, hp⟩ := hq; exact kk S1 v hp)
end TC
/-! measures -/
theorem bd_ofI {c : Int} (h : -1000 ≤ c ∧ c ≤ 1000) : (Int32.ofInt c).toInt = c := by
  rw [Int32.toInt_ofInt, bd_bmod (by omega) (by omega)]
theorem bd_inc {lo hi a b c : Int} {x v : Int32} (e : v = x + Int32.ofInt c) (hx : mm_b a b x) (h : (-1000 ≤ c ∧ c ≤ 1000) ∧ (-2147483648 ≤ a + c ∧ b + c ≤ 2147483647) ∧ lo ≤ a + c ∧ b + c ≤ hi) : mm_b lo hi v := by
  have h1 := bd_ofI h.1
  exact bd_add (c := c) (d := c) e hx ⟨by omega, by omega⟩ ⟨h.2.1, h.2.2⟩
theorem ms_inc {a b c H : Int} {x v : Int32} {N : Nat} (e : v = x + Int32.ofInt c) (hx : mm_b a b x) (h : (0 < c ∧ c ≤ 1000) ∧ (-2147483648 ≤ a + c ∧ b + c ≤ 2147483647) ∧ b < H) (hm : (H - x.toInt).toNat < N + 1) : (H - v.toInt).toNat < N := by
  have h1 := bd_ofI (c := c) (by omega)
  have h2 : v.toInt = x.toInt + c := by rw [e, bd_ti_add (by omega) (by omega), h1]
  omega
theorem ms_dec {a b c L : Int} {x v : Int32} {N : Nat} (e : v = x + Int32.ofInt c) (hx : mm_b a b x) (h : (c < 0 ∧ -1000 ≤ c) ∧ (-2147483648 ≤ a + c ∧ b + c ≤ 2147483647) ∧ L < a) (hm : (x.toInt - L).toNat < N + 1) : (v.toInt - L).toNat < N := by
  have h1 := bd_ofI (c := c) (by omega)
  have h2 : v.toInt = x.toInt + c := by rw [e, bd_ti_add (by omega) (by omega), h1]
  omega
theorem bd_bool {lo hi : Int} {v : Int32} (h : mm_b lo hi v) (h2 : 0 ≤ lo ∧ hi ≤ 1) : v = 0 ∨ v = 1 := by
  rcases (by omega : v.toInt = 0 ∨ v.toInt = 1) with q | q
  · exact Or.inl (Int32.toInt_inj.mp q)
  · exact Or.inr (Int32.toInt_inj.mp q)
theorem bd_nar {lo hi : Int} {v : Int32} (h : mm_b lo hi v) (h2 : 0 ≤ lo ∧ hi ≤ 1) : narrow .boolean (.int v) = .int v := by
  rcases bd_bool h h2 with rfl | rfl <;> rfl
theorem bd_both {lo hi a b c d : Int} {v : Int32} (h1 : mm_b a b v) (h2 : mm_b c d v) (h : (lo ≤ a ∨ lo ≤ c) ∧ (b ≤ hi ∨ d ≤ hi)) : mm_b lo hi v := by omega
theorem bd_ord {v : Int32} {j : Nat} (e : v = mm_ordn j) : mm_b 1 24 v := by
  rw [e]
  unfold mm_ordn
  split <;> decide
/-! longs -/
abbrev mm_bl (lo hi : Int) (x : Int64) : Prop := lo ≤ x.toInt ∧ x.toInt ≤ hi
theorem bl_all (x : Int64) : mm_bl (-9223372036854775808) 9223372036854775807 x := by
  have h1 := Int64.le_toInt x
  have h2 := Int64.toInt_lt x
  constructor <;> omega
theorem bl_i2l {lo hi : Int} {x : Int32} {z : Int64} (e : z = x.toInt64) (h : mm_b lo hi x) : mm_bl lo hi z := by
  rw [e, mm_bl, Int32.toInt_toInt64]
  exact h
theorem bl_l2i {lo hi a b : Int} {x : Int64} {z : Int32} (e : z = x.toInt32) (h : mm_bl a b x) (h2 : (-2147483648 ≤ a ∧ b ≤ 2147483647) ∧ lo ≤ a ∧ b ≤ hi) : mm_b lo hi z := by
  rw [e, mm_b, Int64.toInt_toInt32, bd_bmod (by omega) (by omega)]
  omega
theorem bl_bmod {z : Int} (h1 : -9223372036854775808 ≤ z) (h2 : z ≤ 9223372036854775807) : z.bmod (2 ^ 64) = z := by
  rw [Int.bmod_eq_of_le (by omega) (by omega)]
theorem bl_add {lo hi a b c d : Int} {x y z : Int64} (e : z = x + y) (hx : mm_bl a b x) (hy : mm_bl c d y) (h : (-9223372036854775808 ≤ a + c ∧ b + d ≤ 9223372036854775807) ∧ lo ≤ a + c ∧ b + d ≤ hi) : mm_bl lo hi z := by
  rw [e, mm_bl, Int64.toInt_add, bl_bmod (by omega) (by omega)]
  omega
theorem bl_mul {lo hi a b c d : Int} {x y z : Int64} (e : z = x * y) (hx : mm_bl a b x) (hy : mm_bl c d y) (h : (0 ≤ a ∧ 0 ≤ c ∧ b * d ≤ 9223372036854775807) ∧ lo ≤ a * c ∧ b * d ≤ hi) : mm_bl lo hi z := by
  obtain ⟨h1, h2⟩ := hx
  obtain ⟨h3, h4⟩ := hy
  obtain ⟨⟨h5, h5c, h6⟩, h7, h8⟩ := h
  have g1 : a * c ≤ x.toInt * y.toInt := Int.mul_le_mul h1 h3 h5c (Int.le_trans h5 h1)
  have g2 : x.toInt * y.toInt ≤ b * d := Int.mul_le_mul h2 h4 (Int.le_trans h5c h3) (Int.le_trans h5 (Int.le_trans h1 h2))
  have g3 : 0 ≤ a * c := Int.mul_nonneg h5 h5c
  rw [e, mm_bl, Int64.toInt_mul, bl_bmod (by omega) (by omega)]
  omega
theorem bl_div {lo hi a b c d : Int} {x y z : Int64} (e : z = x / y) (hx : mm_bl a b x) (hy : mm_bl c d y) (h : (0 ≤ a ∧ 1 ≤ c) ∧ lo ≤ 0 ∧ b / c ≤ hi) : mm_bl lo hi z := by
  obtain ⟨h1, h2⟩ := hx
  obtain ⟨h3, h4⟩ := hy
  obtain ⟨⟨h5, h6⟩, h7, h8⟩ := h
  have r := bl_all x
  have g1 : 0 ≤ x.toInt / y.toInt := Int.ediv_nonneg (by omega) (by omega)
  have g2 : x.toInt / y.toInt ≤ x.toInt := Int.ediv_le_self _ (by omega)
  have g3 : x.toInt / y.toInt ≤ b / c := by
    refine Int.le_trans (Int.ediv_le_ediv (by omega) h2) ?_
    rw [Int.le_ediv_iff_mul_le (by omega)]
    refine Int.le_trans (Int.mul_le_mul_of_nonneg_left h3 (Int.ediv_nonneg (by omega) (by omega))) ?_
    exact Int.ediv_mul_le _ (by omega)
  rw [e, mm_bl, Int64.toInt_div, Int.tdiv_eq_ediv_of_nonneg (by omega), bl_bmod (by omega) (by omega)]
  omega
theorem bl_rem {lo hi a b c d : Int} {x y z : Int64} (e : z = x - x / y * y) (hx : mm_bl a b x) (hy : mm_bl c d y) (h : (0 ≤ a ∧ 1 ≤ c) ∧ lo ≤ 0 ∧ d - 1 ≤ hi) : mm_bl lo hi z := by
  have r := bl_all x
  have r2 := bl_all y
  obtain ⟨j, hj, rfl⟩ := pk_lOf (x := x) (by rw [Int64.lt_iff_toInt_lt]; show ¬ x.toInt < 0; omega)
  obtain ⟨i, hi2, rfl⟩ := pk_lOf (x := y) (by rw [Int64.lt_iff_toInt_lt]; show ¬ y.toInt < 0; omega)
  rw [mm_bl, pk_lT hi2] at hy
  have hi0 : 0 < i := by omega
  rw [e, pk_lRem hj hi0 hi2, mm_bl, pk_lT (Nat.lt_of_le_of_lt (Nat.mod_le _ _) hj)]
  have := Nat.mod_lt j hi0
  omega
theorem bl_ne0 {c d : Int} {y : Int64} (hy : mm_bl c d y) (h : 1 ≤ c) : ¬ y = 0 := by
  intro e
  have : y.toInt = 0 := by rw [e]; rfl
  omega
/-! tables at addresses of a kind -/
theorem ckS {tb : mm_T} {L : List Nat} {a off : Nat} {il ih lo hi : Int} (ha : a ∈ L) (h : L.all (fun a => mm_ck tb (a + off) il ih lo hi) = true) : mm_ck tb (a + off) il ih lo hi = true := List.all_eq_true.mp h a ha
theorem ckZ {tb : mm_T} {L : List Nat} {a : Nat} {il ih lo hi : Int} (ha : a ∈ L) (h : L.all (fun a => mm_ck tb a il ih lo hi) = true) : mm_ck tb a il ih lo hi = true := List.all_eq_true.mp h a ha
/-! what a write leaves -/
theorem up_eq {S S2 : mm_S} {a j : Nat} {v : Int32} (h : mm_up S a j v = S2) : v = S2.1 a j := by
  rw [← h]
  exact (if_pos ⟨rfl, rfl⟩).symm
theorem up_neA {S S2 : mm_S} {a j b i : Nat} {v : Int32} (h : mm_up S a j v = S2) (hb : b ≠ a) : S.1 b i = S2.1 b i := by
  rw [← h]
  exact (if_neg (fun q => hb q.1)).symm
theorem up_neF {S S2 : mm_S} {a j b i : Nat} {v : Int32} (h : mm_up S a j v = S2) (hb : i ≠ j) : S.1 b i = S2.1 b i := by
  rw [← h]
  exact (if_neg (fun q => hb q.2)).symm
theorem upL_ne {S S2 : mm_S} {a j b i : Nat} {v : Int64} (h : mm_upL S a j v = S2) : S.1 b i = S2.1 b i := by rw [← h]; rfl
theorem upR_ne {S S2 : mm_S} {a j b i : Nat} {v : Nat} (h : mm_upR S a j v = S2) : S.1 b i = S2.1 b i := by rw [← h]; rfl
/-! what a method leaves as it was -/
def fr (wr wf : List Nat) (k m : Bool) (S S1 : mm_S) : Prop := (∀ a j, a ∉ wr → a ≠ 0 → S1.1 a j = S.1 a j) ∧ (∀ j, j ∉ wf → S1.1 0 j = S.1 0 j) ∧ (k = true → S1.2 = S.2) ∧ (m = true → (S.1 0 18).toInt ≤ (S1.1 0 18).toInt)
theorem fr_rf {wr wf : List Nat} {k m : Bool} {S : mm_S} : fr wr wf k m S S := ⟨fun _ _ _ _ => rfl, fun _ _ => rfl, fun _ => rfl, fun _ => Int.le_refl _⟩
theorem fr_upA {wr wf : List Nat} {k m : Bool} {S S1 S2 : mm_S} {a j : Nat} {v : Int32} (h : fr wr wf k m S S1) (e : mm_up S1 a j v = S2) (ha : a ∈ wr ∧ a ≠ 0) : fr wr wf k m S S2 := by
  refine ⟨fun b i hb h0 => ?_, fun i hi => ?_, fun q => ?_, fun q => ?_⟩
  · rw [← up_neA e (fun z => hb (by rw [z]; exact ha.1))]
    exact h.1 b i hb h0
  · rw [← up_neA e (fun z => ha.2 z.symm)]
    exact h.2.1 i hi
  · rw [← e]
    exact h.2.2.1 q
  · rw [← up_neA e (fun z => ha.2 z.symm)]
    exact h.2.2.2 q
theorem fr_upF {wr wf : List Nat} {k m : Bool} {S S1 S2 : mm_S} {j : Nat} {v : Int32} (h : fr wr wf k m S S1) (e : mm_up S1 0 j v = S2) (hj : j ∈ wf ∧ (m = true → j ≠ 18)) : fr wr wf k m S S2 := by
  refine ⟨fun b i hb h0 => ?_, fun i hi => ?_, fun q => ?_, fun q => ?_⟩
  · rw [← up_neA e h0]
    exact h.1 b i hb h0
  · rw [← up_neF e (fun z => hi (by rw [z]; exact hj.1))]
    exact h.2.1 i hi
  · rw [← e]
    exact h.2.2.1 q
  · rw [← up_neF e (fun z => hj.2 q z.symm)]
    exact h.2.2.2 q
theorem fr_upL {wr wf : List Nat} {m : Bool} {S S1 S2 : mm_S} {a j : Nat} {v : Int64} (h : fr wr wf false m S S1) (e : mm_upL S1 a j v = S2) : fr wr wf false m S S2 := by
  refine ⟨fun b i hb h0 => ?_, fun i hi => ?_, fun q => (by cases q), fun q => ?_⟩
  · rw [← upL_ne e]
    exact h.1 b i hb h0
  · rw [← upL_ne e]
    exact h.2.1 i hi
  · rw [← upL_ne e]
    exact h.2.2.2 q
theorem fr_upR {wr wf : List Nat} {m : Bool} {S S1 S2 : mm_S} {a j : Nat} {v : Nat} (h : fr wr wf false m S S1) (e : mm_upR S1 a j v = S2) : fr wr wf false m S S2 := by
  refine ⟨fun b i hb h0 => ?_, fun i hi => ?_, fun q => (by cases q), fun q => ?_⟩
  · rw [← upR_ne e]
    exact h.1 b i hb h0
  · rw [← upR_ne e]
    exact h.2.1 i hi
  · rw [← upR_ne e]
    exact h.2.2.2 q
theorem fr_tr {wr wf wr2 wf2 : List Nat} {k k2 m m2 : Bool} {S S1 S2 : mm_S} (h : fr wr wf k m S S1) (h2 : fr wr2 wf2 k2 m2 S1 S2) (hw : ∀ a ∈ wr2, a ∈ wr) (hf : ∀ a ∈ wf2, a ∈ wf) (hk : k = true → k2 = true) (hm : m = true → m2 = true) : fr wr wf k m S S2 :=
  ⟨fun a j ha h0 => (h2.1 a j (fun z => ha (hw a z)) h0).trans (h.1 a j ha h0), fun j hj => (h2.2.1 j (fun z => hj (hf j z))).trans (h.2.1 j hj), fun q => (h2.2.2.1 (hk q)).trans (h.2.2.1 q), fun q => Int.le_trans (h.2.2.2 q) (h2.2.2.2 (hm q))⟩
theorem fr_A {wr wf : List Nat} {k m : Bool} {S S1 : mm_S} {a j : Nat} (h : fr wr wf k m S S1) (ha : a ∉ wr) (h0 : a ≠ 0) : S.1 a j = S1.1 a j := (h.1 a j ha h0).symm
theorem fr_F {wr wf : List Nat} {k m : Bool} {S S1 : mm_S} {j : Nat} (h : fr wr wf k m S S1) (hj : j ∉ wf) : S.1 0 j = S1.1 0 j := (h.2.1 j hj).symm
theorem fr_AS {wr wf L : List Nat} {k m : Bool} {S S1 : mm_S} {a j off : Nat} (h : fr wr wf k m S S1) (hl : a ∈ L) (ha : ∀ a ∈ L, (a + off) ∉ wr) (h0 : ∀ a ∈ L, a + off ≠ 0) : S.1 (a + off) j = S1.1 (a + off) j := (h.1 _ j (ha a hl) (h0 a hl)).symm
theorem fr_AZ {wr wf L : List Nat} {k m : Bool} {S S1 : mm_S} {a j : Nat} (h : fr wr wf k m S S1) (hl : a ∈ L) (ha : ∀ a ∈ L, a ∉ wr) (h0 : ∀ a ∈ L, a ≠ 0) : S.1 a j = S1.1 a j := (h.1 _ j (ha a hl) (h0 a hl)).symm
theorem memS {wr L : List Nat} {a off : Nat} (hl : a ∈ L) (h : ∀ a ∈ L, (a + off) ∈ wr ∧ a + off ≠ 0) : a + off ∈ wr ∧ a + off ≠ 0 := h a hl
theorem memZ {wr L : List Nat} {a : Nat} (hl : a ∈ L) (h : ∀ a ∈ L, a ∈ wr ∧ a ≠ 0) : a ∈ wr ∧ a ≠ 0 := h a hl
theorem cl_ne {lo hi : Int} {i : Int32} {j : Nat} (h : mm_b lo hi i) (h2 : 0 ≤ lo ∧ ((j : Int) < lo ∨ hi < j)) : j ≠ i.toNatClampNeg := by
  have := bd_cl h h2.1
  omega
theorem ms_add {a b c H : Int} {x y v : Int32} {N : Nat} (e : v = x + y) (hx : mm_b a b x) (hy : mm_b c c y) (h : 0 < c ∧ (-2147483648 ≤ a + c ∧ b + c ≤ 2147483647) ∧ b < H) (hm : (H - x.toInt).toNat < N + 1) : (H - v.toInt).toNat < N := by
  have h2 : v.toInt = x.toInt + y.toInt := by rw [e, bd_ti_add (by omega) (by omega)]
  omega
theorem bd_zero {v : Int32} (h : mm_b 0 0 v) : v = 0 := Int32.toInt_inj.mp (show v.toInt = 0 by omega)
theorem neS {L : List Nat} {a b off : Nat} (ha : a ∈ L) (h : ∀ a ∈ L, b ≠ a + off) : b ≠ a + off := h a ha
theorem neZ {L : List Nat} {a b : Nat} (ha : a ∈ L) (h : ∀ a ∈ L, b ≠ a) : b ≠ a := h a ha
theorem knS {L M : List Nat} {a off : Nat} (ha : a ∈ L) (h : ∀ a ∈ L, a + off ∈ M) : a + off ∈ M := h a ha
theorem knZ {L M : List Nat} {a : Nat} (ha : a ∈ L) (h : ∀ a ∈ L, a ∈ M) : a ∈ M := h a ha
theorem ms_div {a b c d : Int} {x y v : Int32} {N : Nat} (e : v = x / y) (hx : mm_b a b x) (hy : mm_b c d y) (h : 1 ≤ a ∧ 2 ≤ c) (hm : x.toInt.toNat < N + 1) : v.toInt.toNat < N := by
  have r := bd_rng x
  have g1 : 0 ≤ x.toInt / y.toInt := Int.ediv_nonneg (by omega) (by omega)
  have g2 : x.toInt / y.toInt < x.toInt := by
    rw [Int.ediv_lt_iff_lt_mul (by omega)]
    have : x.toInt * 2 ≤ x.toInt * y.toInt := Int.mul_le_mul_of_nonneg_left (by omega) (by omega)
    omega
  have h2 : v.toInt = x.toInt / y.toInt := by rw [e, Int32.toInt_div, Int.tdiv_eq_ediv_of_nonneg (by omega), bd_bmod (by omega) (by omega)]
  omega
theorem min_b {lo hi a b c d : Int} {x y v : Int32} (e : v = if y < x then y else x) (hx : mm_b a b x) (hy : mm_b c d y) (h : (lo ≤ a ∧ lo ≤ c) ∧ (b ≤ hi ∨ d ≤ hi)) : mm_b lo hi v := by
  rw [e]
  split
  · rename_i q
    have := Int32.lt_iff_toInt_lt.mp q
    omega
  · rename_i q
    have := Int32.le_iff_toInt_le.mp (bd_nlt q)
    omega
theorem max_b {lo hi a b c d : Int} {x y v : Int32} (e : v = if x < y then y else x) (hx : mm_b a b x) (hy : mm_b c d y) (h : (lo ≤ a ∨ lo ≤ c) ∧ (b ≤ hi ∧ d ≤ hi)) : mm_b lo hi v := by
  rw [e]
  split
  · rename_i q
    have := Int32.lt_iff_toInt_lt.mp q
    omega
  · rename_i q
    have := Int32.le_iff_toInt_le.mp (bd_nlt q)
    omega
theorem bd_nec {lo hi : Int} {v c : Int32} (h : mm_b lo hi v) (h2 : c.toInt < lo ∨ hi < c.toInt) : ¬ v = c := by
  intro e
  subst e
  omega
abbrev qr (sh : List mm_F) (P : mm_S → Value → Prop) : Option Value → List mm_E → Prop := fun r w => ∃ (S1 : mm_S) (v : Value), r = some v ∧ w = mm_enc sh S1 ∧ P S1 v
section TD
variable {g : mm_G} {own : String} {cc : ByteArray} {nL : Nat} {ret : Option FieldType} {ini : Bool} {rm : Room} {Q : Option Value → List mm_E → Prop} {k n : Nat} {sh : List mm_F} {S : mm_S} {pc : Nat} {ls : List (Nat × Value)} {st : List Value} {w : List mm_E}
variable {y : MethodName} {bytes : ByteArray} {nL1 a1 idx a ci d1 d2 : Nat} {ret1 : Option FieldType} {as : List Value} {ks : List (Nat ⊕ Nat)} {C host : String} {T : u_T} {N : Nat} {st0 : List Value}
theorem tc_Vr {P : mm_S → Value → Prop} (d : decode cc pc = .ok (.invokevirtual idx, 3)) (hst : st0 = as.reverse ++ .ref a :: st) (hs : sh[a]? = some (.inl (ci, ks))) (hc : vwCl[ci]? = some (C, T, N)) (hy : y.cls = C) (hl : Cond.methodLink own idx y ∈ mm_ok) (hm : mm_mi y bytes nL1 ret1 a1) (hn : as.length = a1) (h8 : (st.map fun v => v.category).sum ≤ 8) (hd : d1 + 1 ≤ d2) (hL : nL1 ≤ 14)
    (hM : mc g y bytes nL1 ret1 (mm_rm d1) (.ref a :: as) (mm_enc sh S) (qr sh P)) (kk : ∀ (S1 : mm_S) (v : Value), P S1 v → mw g own cc nL ret ini (mm_rm d2) Q 0 0 (mm_enc sh S1) (pc + 3) ls (v :: st)) : mw g own cc nL ret ini (mm_rm d2) Q 0 0 (mm_enc sh S) pc ls st0 :=
  mw_callV d hst (mm_enc_get hs) hc hy hl hm hn h8 (mm_room hd hL) ⟨Nat.le_refl 0, Nat.le_refl 0⟩ hM (fun r w1 hq => by obtain ⟨S1, v, rfl, rfl, hp⟩ := hq; exact kk S1 v hp)
theorem mw_aload_nN {f : Fin 4} {i : Nat} (d : decode cc pc = .ok (.aload_n f, 1)) (hi : (f : Nat) = i) (j : Nat) (h : ls[j]? = some (i, .null))
    (kk : mw g own cc nL ret ini rm Q k n w (pc + 1) ls (.null :: st)) : mw g own cc nL ret ini rm Q k n w pc ls st := by
  intro p l e s m args below meth c H locs lsA a
  exact lv_aload_nN a.1.1 a.1.2.1 d hi (mm_loc a.2.2.2.2 h) (kk p l e s m args below meth c H locs lsA a)
theorem mw_astore_nN {f : Fin 4} {i : Nat} {ls' : List (Nat × Value)} (d : decode cc pc = .ok (.astore_n f, 1)) (hi : (f : Nat) = i) (hn : i < nL) (hl : ((i, Value.null) :: ls.filter (fun q => !(q.1 == i) && !(q.1 + 1 == i && q.2.category == 2))) = ls')
    (kk : mw g own cc nL ret ini rm Q k n w (pc + 1) ls' st) : mw g own cc nL ret ini rm Q k n w pc ls (.null :: st) := by
  intro p l e s m args below meth c H locs lsA a
  refine lv_astore_nN (lv' := ls'.map (fun q => (q.1, mm_v g q.2))) a.1.1 a.1.2.1 d hi a.2.2.2.2 hn (by rw [← hl]; exact mm_store (v := Value.null)) (fun lsB hB => ?_)
  exact kk p l e s m args below meth c H locs lsB ⟨a.1, a.2.1, a.2.2.1, a.2.2.2.1, hB⟩
end TD
/-! Math's own -/
section TM
variable {g : mm_G} {own : String} {cc : ByteArray} {nL : Nat} {ret : Option FieldType} {ini : Bool} {d2 : Nat} {Q : Option Value → List mm_E → Prop} {pc : Nat} {ls : List (Nat × Value)} {st : List Value} {w : List mm_E}
theorem mm_mx : Cond.code Lib.Math.max.name Lib.Math.max.code 2 (some .int) ∈ mm_ok ∧ Cond.static Lib.Math.max.name ∈ mm_ok ∧ Cond.initialized "java/lang/Math" ∈ mm_ok := ⟨mm_in 234 (by decide +kernel) rfl, mm_in 233 (by decide +kernel) rfl, mm_in 79 (by decide +kernel) rfl⟩
theorem mm_mn : Cond.code Lib.Math.min.name Lib.Math.min.code 2 (some .int) ∈ mm_ok ∧ Cond.static Lib.Math.min.name ∈ mm_ok := ⟨mm_in 449 (by decide +kernel) rfl, mm_in 448 (by decide +kernel) rfl⟩
theorem mm_ma : Cond.code Lib.Math.abs.name Lib.Math.abs.code 1 (some .int) ∈ mm_ok ∧ Cond.static Lib.Math.abs.name ∈ mm_ok := ⟨mm_in 734 (by decide +kernel) rfl, mm_in 733 (by decide +kernel) rfl⟩
theorem mw_max {idx : Nat} {x y : Int32} (d : decode cc pc = .ok (.invokestatic idx, 3)) (hl : Cond.methodLink own idx Lib.Math.max.name ∈ mm_ok) (h8 : (st.map fun v => v.category).sum ≤ 8) (hd : 1 ≤ d2)
    (kk : ∀ z : Int32, z = (if x < y then y else x) → mw g own cc nL ret ini (mm_rm d2) Q 0 0 w (pc + 3) ls (.int z :: st)) : mw g own cc nL ret ini (mm_rm d2) Q 0 0 w pc ls (.int y :: .int x :: st) := by
  intro p l e s m args below meth c H locs lsA A
  exact va_mmax A.1.1 A.1.2.1 (A.1.2.2.1.trans A.2.2.2.2.1.symm) A.1.2.2.2.1 (A.1.2.2.2.2.1 _ hl) (A.1.2.2.2.2.1 _ mm_mx.2.1) (A.1.2.2.2.2.1 _ mm_mx.2.2) (A.1.2.2.2.2.1 _ mm_mx.1) hd (by rw [mm_cat_sum]; show _ ≤ 33 * d2; omega) (Nat.le_refl 0) (Nat.le_refl 0) d (kk _ rfl p l e s m args below meth c H locs lsA A)
theorem mw_min {idx : Nat} {x y : Int32} (d : decode cc pc = .ok (.invokestatic idx, 3)) (hl : Cond.methodLink own idx Lib.Math.min.name ∈ mm_ok) (h8 : (st.map fun v => v.category).sum ≤ 8) (hd : 1 ≤ d2)
    (kk : ∀ z : Int32, z = (if y < x then y else x) → mw g own cc nL ret ini (mm_rm d2) Q 0 0 w (pc + 3) ls (.int z :: st)) : mw g own cc nL ret ini (mm_rm d2) Q 0 0 w pc ls (.int y :: .int x :: st) := by
  intro p l e s m args below meth c H locs lsA A
  exact va_mmin A.1.1 A.1.2.1 (A.1.2.2.1.trans A.2.2.2.2.1.symm) A.1.2.2.2.1 (A.1.2.2.2.2.1 _ hl) (A.1.2.2.2.2.1 _ mm_mn.2) (A.1.2.2.2.2.1 _ mm_mx.2.2) (A.1.2.2.2.2.1 _ mm_mn.1) hd (by rw [mm_cat_sum]; show _ ≤ 33 * d2; omega) (Nat.le_refl 0) (Nat.le_refl 0) d (kk _ rfl p l e s m args below meth c H locs lsA A)
theorem mw_abs {idx : Nat} {x : Int32} (d : decode cc pc = .ok (.invokestatic idx, 3)) (hl : Cond.methodLink own idx Lib.Math.abs.name ∈ mm_ok) (h8 : (st.map fun v => v.category).sum ≤ 8) (hd : 1 ≤ d2)
    (kk : ∀ z : Int32, z = (if 0 ≤ x then x else 0 - x) → mw g own cc nL ret ini (mm_rm d2) Q 0 0 w (pc + 3) ls (.int z :: st)) : mw g own cc nL ret ini (mm_rm d2) Q 0 0 w pc ls (.int x :: st) := by
  intro p l e s m args below meth c H locs lsA A
  exact va_mabs A.1.1 A.1.2.1 (A.1.2.2.1.trans A.2.2.2.2.1.symm) A.1.2.2.2.1 (A.1.2.2.2.2.1 _ hl) (A.1.2.2.2.2.1 _ mm_ma.2) (A.1.2.2.2.2.1 _ mm_mx.2.2) (A.1.2.2.2.2.1 _ mm_ma.1) hd (by rw [mm_cat_sum]; show _ ≤ 33 * d2; omega) (Nat.le_refl 0) (Nat.le_refl 0) d (kk _ rfl p l e s m args below meth c H locs lsA A)
end TM
