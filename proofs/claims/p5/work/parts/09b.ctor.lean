/-! ===== constructors: worlds cut behind what was there ===== -/
theorem kc_AI : Cond.arrayClass .int ∈ mm_ok := mm_in 121 (by decide +kernel) rfl
theorem kc_AZ : Cond.arrayClass .boolean ∈ mm_ok := mm_in 992 (by decide +kernel) rfl
theorem kc_O1 : Cond.instanceMethod Lib.objectInit ∈ mm_ok := mm_in 91 (by decide +kernel) rfl
theorem kc_O2 : Cond.code Lib.objectInit ⟨#[0xb1]⟩ 1 none ∈ mm_ok := mm_in 92 (by decide +kernel) rfl
def mn_cls (C : String) (ci : Nat) (T : u_T) (N : Nat) (fs : List Value) : Prop := Cond.instantiable C N ∈ mm_ok ∧ Cond.initialized C ∈ mm_ok ∧ vwCl[ci]? = some (C, T, N) ∧ ∃ ty : Nat → FieldType, (∀ k, k < N → parseFieldDescriptor (T k).2.2.1 = some (ty k)) ∧ (∀ j, j < N → defaultValue (ty j) = vp_V fs j) ∧ ∀ g : mm_G, fs.map (mm_v g) = fs
def df0 : List Value := [.null, .null, .null]
theorem kc_D0 : mn_cls RX0 0 TX0 3 df0 := ⟨mm_in 263 (by decide +kernel) rfl, mm_in 81 (by decide +kernel) rfl, rfl, tyX0, tyX0_ok, by decide +kernel, fun _ => rfl⟩
def df1 : List Value := [.int 0]
theorem kc_D1 : mn_cls RX1 1 TX1 1 df1 := ⟨mm_in 216 (by decide +kernel) rfl, mm_in 77 (by decide +kernel) rfl, rfl, tyX1, tyX1_ok, by decide +kernel, fun _ => rfl⟩
def df2 : List Value := [.int 0, .null, .null]
theorem kc_D2 : mn_cls RX2 2 TX2 3 df2 := ⟨mm_in 227 (by decide +kernel) rfl, mm_in 78 (by decide +kernel) rfl, rfl, tyX2, tyX2_ok, by decide +kernel, fun _ => rfl⟩
def df3 : List Value := [.int 0, .int 0, .int 0, .null, .null, .null, .null]
theorem kc_D3 : mn_cls RX3 3 TX3 7 df3 := ⟨mm_in 164 (by decide +kernel) rfl, mm_in 75 (by decide +kernel) rfl, rfl, tyX3, tyX3_ok, by decide +kernel, fun _ => rfl⟩
def df4 : List Value := [.int 0, .int 0, .null]
theorem kc_D4 : mn_cls RX4 4 TX4 3 df4 := ⟨mm_in 280 (by decide +kernel) rfl, mm_in 82 (by decide +kernel) rfl, rfl, tyX4, tyX4_ok, by decide +kernel, fun _ => rfl⟩
def df5 : List Value := [.int 0, .int 0, .null]
theorem kc_D5 : mn_cls RX5 5 TX5 3 df5 := ⟨mm_in 247 (by decide +kernel) rfl, mm_in 80 (by decide +kernel) rfl, rfl, tyX5, tyX5_ok, by decide +kernel, fun _ => rfl⟩
def df6 : List Value := [.int 0, .int 0, .int 0, .int 0, .null, .null, .null, .null, .null]
theorem kc_D6 : mn_cls RX6 6 TX6 9 df6 := ⟨mm_in 123 (by decide +kernel) rfl, mm_in 74 (by decide +kernel) rfl, rfl, tyX6, tyX6_ok, by decide +kernel, fun _ => rfl⟩
def df7 : List Value := [.int 0, .int 0, .null]
theorem kc_D7 : mn_cls RX7 7 TX7 3 df7 := ⟨mm_in 194 (by decide +kernel) rfl, mm_in 76 (by decide +kernel) rfl, rfl, tyX7, tyX7_ok, by decide +kernel, fun _ => rfl⟩
def df8 : List Value := [.int 0, .int 0, .int 0, .int 0, .int 0, .null]
theorem kc_D8 : mn_cls RX8 8 TX8 6 df8 := ⟨mm_in 94 (by decide +kernel) rfl, mm_in 73 (by decide +kernel) rfl, rfl, tyX8, tyX8_ok, by decide +kernel, fun _ => rfl⟩
def df9 : List Value := [.null, .null, .null, .null, .null, .null, .null, .null, .null, .null, .null, .null, .null]
theorem kc_D9 : mn_cls RX9 9 TX9 13 df9 := ⟨mm_in 86 (by decide +kernel) rfl, mm_in 72 (by decide +kernel) rfl, rfl, tyX9, tyX9_ok, by decide +kernel, fun _ => rfl⟩
def df10 : List Value := [.null, .null, .null, .null, .null, .int 0, .null, .null, .long 0, .null, .int 0, .int 0, .null, .int 0, .null, .int 0, .null, .int 0, .int 0, .int 0, .int 0, .int 0, .int 0, .int 0, .null]
theorem kc_D10 : mn_cls RX10 10 TX10 25 df10 := ⟨mm_in 896 (by decide +kernel) rfl, mm_in 83 (by decide +kernel) rfl, rfl, tyX10, tyX10_ok, by decide +kernel, fun _ => rfl⟩
theorem mp_g {w t : List mm_E} {b i a : Nat} {e : mm_E} (hb : w.length = b) (ha : b + i = a) (h : t[i]? = some e) : (w ++ t)[a]? = some e := by
  subst hb
  subst ha
  rw [List.getElem?_append_right (Nat.le_add_right _ _), Nat.add_sub_cancel_left]
  exact h
theorem mp_s {w t t' : List mm_E} {b i a : Nat} {e : mm_E} (hb : w.length = b) (ha : b + i = a) (h : t.set i e = t') : (w ++ t).set a e = w ++ t' := by
  subst hb
  subst ha
  subst h
  rw [List.set_append_right _ _ (Nat.le_add_right _ _), Nat.add_sub_cancel_left]
theorem mp_l {w t : List mm_E} {b j : Nat} (hb : w.length = b) (hj : t.length = j) : (w ++ t).length = b + j := by
  rw [List.length_append, hb, hj]
section MP
variable {φ : State → Prop} {g : mm_G} {own : String} {cc : ByteArray} {nL : Nat} {ret : Option FieldType} {ini : Bool} {rm : Room} {Q : Option Value → List mm_E → Prop} {k n : Nat} {w t t' : List mm_E} {pc : Nat} {ls : List (Nat × Value)} {st : List Value} {b j nw : Nat}
theorem mp_newi {N : Nat} {x : Int32} (hb : w.length = b) (d : decode cc pc = .ok (.newarray .int, 2)) (hj : t.length = j) (ht : t ++ [.inr (0, N, .inl (fun _ => 0))] = t') (h4 : N * 4 ≤ 536870912) (hx : ¬ x < 0) (hN : x.toNatClampNeg = N) (hz : nw + k = b + j) (h9 : b + j < 999) (hcs : k + 1 ≤ rm.cells ∧ n + N ≤ rm.slots)
    (kk : mn (mn_f g nw) g own cc nL ret ini rm Q (k + 1) (n + N) (w ++ t') (pc + 2) ls (.ref (b + j) :: st)) : mn (mn_f g nw) g own cc nL ret ini rm Q k n (w ++ t) pc ls (.int x :: st) := by
  subst ht
  have e := mp_l hb hj
  refine mn_newi d kc_AI h4 hx hN (by rw [e]; exact hz) (by rw [e]; exact h9) hcs ?_
  rw [e, List.append_assoc]
  exact kk
theorem mp_newz {N : Nat} {x : Int32} (hb : w.length = b) (d : decode cc pc = .ok (.newarray .boolean, 2)) (hj : t.length = j) (ht : t ++ [.inr (1, N, .inl (fun _ => 0))] = t') (h4 : N * 1 ≤ 536870912) (hx : ¬ x < 0) (hN : x.toNatClampNeg = N) (hz : nw + k = b + j) (h9 : b + j < 999) (hcs : k + 1 ≤ rm.cells ∧ n + N ≤ rm.slots)
    (kk : mn (mn_f g nw) g own cc nL ret ini rm Q (k + 1) (n + N) (w ++ t') (pc + 2) ls (.ref (b + j) :: st)) : mn (mn_f g nw) g own cc nL ret ini rm Q k n (w ++ t) pc ls (.int x :: st) := by
  subst ht
  have e := mp_l hb hj
  refine mn_newz d kc_AZ h4 hx hN (by rw [e]; exact hz) (by rw [e]; exact h9) hcs ?_
  rw [e, List.append_assoc]
  exact kk
theorem mp_anew {N t0 idx : Nat} {C : String} {x : Int32} (hb : w.length = b) (d : decode cc pc = .ok (.anewarray idx, 3)) (hcl : Cond.classLink own idx C ∈ mm_ok) (ho : ∀ s : State, mn_f g nw s → va_AO C s) (hty : (mm_tys g)[t0]? = some (g.2.2.2.1 t0, .object C)) (hj : t.length = j) (ht : t ++ [.inr (t0, N, .inr (fun _ => none))] = t') (h4 : N * 4 ≤ 536870912) (hx : ¬ x < 0) (hN : x.toNatClampNeg = N) (hz : nw + k = b + j) (h9 : b + j < 999) (hcs : k + 1 ≤ rm.cells ∧ n + N ≤ rm.slots)
    (kk : mn (mn_f g nw) g own cc nL ret ini rm Q (k + 1) (n + N) (w ++ t') (pc + 3) ls (.ref (b + j) :: st)) : mn (mn_f g nw) g own cc nL ret ini rm Q k n (w ++ t) pc ls (.int x :: st) := by
  subst ht
  have e := mp_l hb hj
  refine mn_anew d hcl ho hty h4 hx hN (by rw [e]; exact hz) (by rw [e]; exact h9) hcs ?_
  rw [e, List.append_assoc]
  exact kk
theorem mp_new {N idx ci : Nat} {C : String} {T : u_T} {fs : List Value} (hb : w.length = b) (d : decode cc pc = .ok (.new idx, 3)) (hcl : Cond.classLink own idx C ∈ mm_ok) (hq : mn_cls C ci T N fs) (hj : t.length = j) (ht : t ++ [.inl (ci, fs)] = t') (hz : nw + k = b + j) (h9 : b + j < 999) (hcs : k + 1 ≤ rm.cells ∧ n + N ≤ rm.slots)
    (kk : mn (mn_f g nw) g own cc nL ret ini rm Q (k + 1) (n + N) (w ++ t') (pc + 3) ls (.ref (b + j) :: st)) : mn (mn_f g nw) g own cc nL ret ini rm Q k n (w ++ t) pc ls st := by
  subst ht
  have e := mp_l hb hj
  obtain ⟨h1, h2, h3, ty, h5, h6, h7⟩ := hq
  refine mn_new d hcl h1 h2 h3 ty h5 h6 h7 (by rw [e]; exact hz) (by rw [e]; exact h9) hcs ?_
  rw [e, List.append_assoc]
  exact kk
theorem mp_mna {N K idx : Nat} {x y : Int32} (hb : w.length = b) (d : decode cc pc = .ok (.multianewarray idx 2, 4)) (hcl : Cond.classLink own idx ("[" ++ (FieldType.array .int).toString) ∈ mm_ok) (hj : t.length = j) (ht : t ++ (.inr (4, N, .inr (fun i => if i < N then some (b + j + 1 + i) else none)) :: List.replicate N (.inr (0, K, .inl (fun _ => 0)))) = t') (hx : ¬ x < 0) (hy : ¬ y < 0) (hN : x.toNatClampNeg = N) (hK : y.toNatClampNeg = K) (h4 : N * 4 ≤ 536870912 ∧ K * 4 ≤ 536870912) (hz : nw + k = b + j) (h9 : b + j + N < 999) (hcs : k + (1 + N) ≤ rm.cells ∧ n + (N + N * K) ≤ rm.slots)
    (kk : mn (mn_f g nw) g own cc nL ret ini rm Q (k + 1 + N) (n + N + N * K) (w ++ t') (pc + 4) ls (.ref (b + j) :: st)) : mn (mn_f g nw) g own cc nL ret ini rm Q k n (w ++ t) pc ls (.int y :: .int x :: st) := by
  subst ht
  have e := mp_l hb hj
  refine mn_mna d hcl kc_AI hx hy hN hK h4 (by rw [e]; exact hz) (by rw [e]; exact h9) hcs ?_
  rw [e, List.append_assoc]
  exact kk
theorem mp_putF {a i ci f idx N : Nat} {fs : List Value} {C : String} {T : u_T} {ty : FieldType} {v : Value} (hb : w.length = b) (hi : ini = true) (d : decode cc pc = .ok (.putfield idx, 3)) (ha : b + i = a) (hw : t[i]? = some (.inl (ci, fs))) (hc : vwCl[ci]? = some (C, T, N)) (hj : f < N) (hl : Cond.fieldLink own idx (T f).1 (T f).2.1 (T f).2.2.1 ∈ mm_ok) (hf : (T f).2.2.2 = true) (ho : (T f).1 = own) (hd : parseFieldDescriptor (T f).2.2.1 = some ty) (hn : narrow ty v = v) (hfit : fits ty v = true) (hlen : f < fs.length) (ht : t.set i (.inl (ci, fs.set f v)) = t')
    (kk : mn φ g own cc nL ret ini rm Q k n (w ++ t') (pc + 3) ls st) : mn φ g own cc nL ret ini rm Q k n (w ++ t) pc ls (v :: .ref a :: st) :=
  mn_putF hi d (mp_g hb ha hw) hc hj hl hf ho hd hn hfit hlen (by rw [mp_s hb ha ht]; exact kk)
theorem mp_put {a i ci f idx N : Nat} {fs : List Value} {C : String} {T : u_T} {ty : FieldType} {v : Value} (hb : w.length = b) (d : decode cc pc = .ok (.putfield idx, 3)) (ha : b + i = a) (hw : t[i]? = some (.inl (ci, fs))) (hc : vwCl[ci]? = some (C, T, N)) (hj : f < N) (hl : Cond.fieldLink own idx (T f).1 (T f).2.1 (T f).2.2.1 ∈ mm_ok) (hf : (T f).2.2.2 = false) (hd : parseFieldDescriptor (T f).2.2.1 = some ty) (hn : narrow ty v = v) (hfit : fits ty v = true) (hlen : f < fs.length) (ht : t.set i (.inl (ci, fs.set f v)) = t')
    (kk : mn φ g own cc nL ret ini rm Q k n (w ++ t') (pc + 3) ls st) : mn φ g own cc nL ret ini rm Q k n (w ++ t) pc ls (v :: .ref a :: st) :=
  mn_put d (mp_g hb ha hw) hc hj hl hf hd hn hfit hlen (by rw [mp_s hb ha ht]; exact kk)
theorem mp_get {a i ci f idx N : Nat} {fs : List Value} {C : String} {T : u_T} {v : Value} (hb : w.length = b) (d : decode cc pc = .ok (.getfield idx, 3)) (ha : b + i = a) (hw : t[i]? = some (.inl (ci, fs))) (hc : vwCl[ci]? = some (C, T, N)) (hj : f < N) (hl : Cond.fieldLink own idx (T f).1 (T f).2.1 (T f).2.2.1 ∈ mm_ok) (hv : fs[f]? = some v)
    (kk : mn φ g own cc nL ret ini rm Q k n (w ++ t) (pc + 3) ls (v :: st)) : mn φ g own cc nL ret ini rm Q k n (w ++ t) pc ls (.ref a :: st) :=
  mn_get d (mp_g hb ha hw) hc hj hl hv kk
theorem mp_alen {a i t0 N : Nat} {f : (Nat → Int32) ⊕ (Nat → Option Nat)} {ty : FieldType} {v : Int32} (hb : w.length = b) (d : decode cc pc = .ok (.arraylength, 1)) (ha : b + i = a) (hw : t[i]? = some (.inr (t0, N, f))) (hty : (mm_tys g)[t0]? = some (g.2.2.2.1 t0, ty)) (hv : Int32.ofNat N = v)
    (kk : mn φ g own cc nL ret ini rm Q k n (w ++ t) (pc + 1) ls (.int v :: st)) : mn φ g own cc nL ret ini rm Q k n (w ++ t) pc ls (.ref a :: st) :=
  mn_alen d (mp_g hb ha hw) hty hv kk
theorem mp_aast {a v i1 i2 t0 ci N : Nat} {r : vw_C} {l l' : List Nat} {vs : List Value} {x : Int32} (hb : w.length = b) (d : decode cc pc = .ok (.aastore, 1)) (ha : b + i1 = a) (hw : t[i1]? = some (.inr (t0, N, .inr (fun j => l[j]?)))) (hty : (mm_tys g)[t0]? = some (g.2.2.2.1 t0, .object r.1)) (hv1 : b + i2 = v) (hv : t[i2]? = some (.inl (ci, vs))) (hc : vwCl[ci]? = some r) (hin : vp_in x N) (hx : x.toNatClampNeg = l.length) (hl' : l ++ [v] = l') (ht : t.set i1 (.inr (t0, N, .inr (fun j => l'[j]?))) = t')
    (kk : mn φ g own cc nL ret ini rm Q k n (w ++ t') (pc + 1) ls st) : mn φ g own cc nL ret ini rm Q k n (w ++ t) pc ls (.ref v :: .int x :: .ref a :: st) := by
  subst hl'
  exact mn_aast d (mp_g hb ha hw) hty (mp_g hb hv1 hv) hc hin hx (by rw [mp_s hb ha ht]; exact kk)
/-- a constructor at the cell that was made last -/
def mp_ctor (g : mm_G) (y : MethodName) (cc : ByteArray) (nL : Nat) (rm : Room) (as : List Value) (o : mm_E) (res : Nat → List mm_E) (K : Nat) : Prop :=
  ∀ (w : List mm_E) (b : Nat), w.length = b → b + K < 999 → mcn g y cc nL rm (.ref b :: as) (w ++ [o]) (fun r w1 => r = none ∧ w1 = w ++ res b)
theorem mp_callI {y : MethodName} {bytes : ByteArray} {nL1 a1 idx a K : Nat} {rm1 : Room} {as : List Value} {st0 : List Value} {t0 : List mm_E} {o : mm_E} {res : Nat → List mm_E} (hb : w.length = b) (d : decode cc pc = .ok (.invokespecial idx, 3)) (hl : Cond.methodLink own idx y ∈ mm_ok) (hM : mp_ctor g y bytes nL1 rm1 as o res K) (hst : st0 = as.reverse ++ .ref a :: st) (hj : t0.length = j) (ha : b + j = a) (ht0 : t0 ++ [o] = t) (ht : t0 ++ res a = t') (h9 : a + K < 999) (hm : mm_mk y bytes nL1 a1) (hn : as.length = a1) (h8 : (st.map fun v => v.category).sum ≤ 8) (hR : rm1.frames + 1 ≤ rm.frames ∧ 8 + (nL1 + 11) + rm1.locals ≤ rm.locals) (hf : k + rm1.cells ≤ rm.cells ∧ n + rm1.slots ≤ rm.slots) (hz : nw + k = a + 1)
    (kk : mn (mn_f g nw) g own cc nL ret ini rm Q (k + rm1.cells) (n + rm1.slots) (w ++ t') (pc + 3) ls st) : mn (mn_f g nw) g own cc nL ret ini rm Q k n (w ++ t) pc ls st0 := by
  subst ht0
  subst ht
  subst ha
  have e := mp_l hb hj
  rw [← List.append_assoc]
  refine mn_callI d hst (by omega) hl hm hn h8 hR hf (by rw [List.length_append, e]; exact hz) (hM (w ++ t0) (b + j) e h9) (fun r w1 hq => ?_)
  obtain ⟨rfl, rfl⟩ := hq
  rw [List.append_assoc]
  exact kk
theorem mp_callIN {y : MethodName} {bytes : ByteArray} {nL1 a1 idx a K : Nat} {host : String} {rm1 : Room} {as : List Value} {st0 : List Value} {t0 : List mm_E} {o : mm_E} {res : Nat → List mm_E} (hb : w.length = b) (d : decode cc pc = .ok (.invokespecial idx, 3)) (hl : Cond.methodLinkNest own idx y host ∈ mm_nest) (hM : mp_ctor g y bytes nL1 rm1 as o res K) (hst : st0 = as.reverse ++ .ref a :: st) (hj : t0.length = j) (ha : b + j = a) (ht0 : t0 ++ [o] = t) (ht : t0 ++ res a = t') (h9 : a + K < 999) (hm : mm_mk y bytes nL1 a1) (hn : as.length = a1) (h8 : (st.map fun v => v.category).sum ≤ 8) (hR : rm1.frames + 1 ≤ rm.frames ∧ 8 + (nL1 + 11) + rm1.locals ≤ rm.locals) (hf : k + rm1.cells ≤ rm.cells ∧ n + rm1.slots ≤ rm.slots) (hz : nw + k = a + 1)
    (kk : mn (mn_f g nw) g own cc nL ret ini rm Q (k + rm1.cells) (n + rm1.slots) (w ++ t') (pc + 3) ls st) : mn (mn_f g nw) g own cc nL ret ini rm Q k n (w ++ t) pc ls st0 := by
  subst ht0
  subst ht
  subst ha
  have e := mp_l hb hj
  rw [← List.append_assoc]
  refine mn_callIN d hst (by omega) hl hm hn h8 hR hf (by rw [List.length_append, e]; exact hz) (hM (w ++ t0) (b + j) e h9) (fun r w1 hq => ?_)
  obtain ⟨rfl, rfl⟩ := hq
  rw [List.append_assoc]
  exact kk
theorem mp_of {y : MethodName} {rm : Room} {as : List Value} {K : Nat} {o : mm_E} {res : Nat → List mm_E} (hy : plainName y.cls = true) (hn : ∀ b : Nat, (lg_sl (.ref b :: as)).length ≤ nL) (ho : y.cls = own) (hi : y.name = "<init>")
    (h : ∀ (w : List mm_E) (b : Nat), w.length = b → b + K < 999 → mn (mn_f g (b + 1)) g own cc nL none true rm (fun r w1 => r = none ∧ w1 = w ++ res b) 0 0 (w ++ [o]) 0 (lv_args 0 (.ref b :: as)) []) : mp_ctor g y cc nL rm as o res K := by
  intro w b hb h9
  refine mcn_of hy (hn b) ho hi rfl ?_
  rw [List.length_append, hb]
  exact h w b hb h9
end MP
