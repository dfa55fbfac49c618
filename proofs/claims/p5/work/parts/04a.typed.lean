/-! ===== worlds of a fixed shape: a state is three functions of address and place ===== -/
abbrev mm_S : Type := (Nat → Nat → Int32) × (Nat → Nat → Int64) × (Nat → Nat → Nat)
/-- an object: its class, its fields (.inl 0 an int, .inl 1 a long, .inl 2 a reference that changes, .inr a reference that doesn't); an array: tag, length, and its references if it holds such -/
abbrev mm_F : Type := (Nat × List (Nat ⊕ Nat)) ⊕ (Nat × Nat × Option (List Nat))
def mm_fv (S : mm_S) (a j : Nat) (q : Nat ⊕ Nat) : Value := match q with
  | .inl 0 => .int (S.1 a j)
  | .inl 1 => .long (S.2.1 a j)
  | .inl _ => .ref (S.2.2 a j)
  | .inr b => .ref b
def mm_ce (S : mm_S) (a : Nat) (c : mm_F) : mm_E := match c with
  | .inl o => .inl (o.1, o.2.mapIdx (fun j q => mm_fv S a j q))
  | .inr (t, n, none) => .inr (t, n, .inl (S.1 a))
  | .inr (t, n, some l) => .inr (t, n, .inr (fun i => l[i]?))
def mm_enc (sh : List mm_F) (S : mm_S) : List mm_E := sh.mapIdx (fun a c => mm_ce S a c)
def mm_up (S : mm_S) (a j : Nat) (v : Int32) : mm_S := (fun a1 j1 => if a1 = a ∧ j1 = j then v else S.1 a1 j1, S.2)
def mm_upL (S : mm_S) (a j : Nat) (v : Int64) : mm_S := (S.1, fun a1 j1 => if a1 = a ∧ j1 = j then v else S.2.1 a1 j1, S.2.2)
def mm_upR (S : mm_S) (a j : Nat) (v : Nat) : mm_S := (S.1, S.2.1, fun a1 j1 => if a1 = a ∧ j1 = j then v else S.2.2 a1 j1)
theorem mm_enc_get {sh : List mm_F} {S : mm_S} {a : Nat} {c : mm_F} (h : sh[a]? = some c) : (mm_enc sh S)[a]? = some (mm_ce S a c) := by
  unfold mm_enc
  rw [List.getElem?_mapIdx, h]
  rfl
theorem mm_enc_set {sh : List mm_F} {S S1 : mm_S} {a : Nat} {c : mm_F} {e : mm_E} (h : sh[a]? = some c) (he : e = mm_ce S1 a c) (hne : ∀ b q, b ≠ a → mm_ce S1 b q = mm_ce S b q) : (mm_enc sh S).set a e = mm_enc sh S1 := by
  apply List.ext_getElem?
  intro i
  unfold mm_enc
  rw [List.getElem?_set, List.length_mapIdx, List.getElem?_mapIdx, List.getElem?_mapIdx]
  by_cases hi : a = i
  · subst hi
    rw [if_pos rfl, if_pos (List.getElem?_eq_some_iff.mp h).1, h, he]
    rfl
  · rw [if_neg hi]
    cases sh[i]? with
    | none => rfl
    | some q =>
      exact congrArg some (hne i q (fun z => hi z.symm)).symm
theorem mm_fv_up {S : mm_S} {a j b i : Nat} {v : Int32} {q : Nat ⊕ Nat} (h : ¬ (b = a ∧ i = j)) : mm_fv (mm_up S a j v) b i q = mm_fv S b i q := by
  unfold mm_fv mm_up
  split <;> first | rfl | (simp only [h, if_false])
theorem mm_fv_upL {S : mm_S} {a j b i : Nat} {v : Int64} {q : Nat ⊕ Nat} (h : ¬ (b = a ∧ i = j)) : mm_fv (mm_upL S a j v) b i q = mm_fv S b i q := by
  unfold mm_fv mm_upL
  split <;> first | rfl | (simp only [h, if_false])
theorem mm_fv_upR {S : mm_S} {a j b i : Nat} {v : Nat} {q : Nat ⊕ Nat} (h : ¬ (b = a ∧ i = j)) : mm_fv (mm_upR S a j v) b i q = mm_fv S b i q := by
  unfold mm_fv mm_upR
  split <;> first | rfl | (simp only [h, if_false])
theorem mm_fields {S S1 : mm_S} {a j : Nat} {ks : List (Nat ⊕ Nat)} {q : Nat ⊕ Nat} (hk : ks[j]? = some q) (h : ∀ i r, i ≠ j → mm_fv S1 a i r = mm_fv S a i r) : (ks.mapIdx (fun j q => mm_fv S a j q)).set j (mm_fv S1 a j q) = ks.mapIdx (fun j q => mm_fv S1 a j q) := by
  apply List.ext_getElem?
  intro i
  rw [List.getElem?_set, List.length_mapIdx, List.getElem?_mapIdx, List.getElem?_mapIdx]
  by_cases hi : j = i
  · subst hi
    rw [if_pos rfl, if_pos (List.getElem?_eq_some_iff.mp hk).1, hk]
    rfl
  · rw [if_neg hi]
    cases ks[i]? with
    | none => rfl
    | some r =>
      exact congrArg some (h i r (fun z => hi z.symm)).symm
theorem mm_ce_up {S : mm_S} {a j b : Nat} {v : Int32} {q : mm_F} (h : b ≠ a) : mm_ce (mm_up S a j v) b q = mm_ce S b q := by
  unfold mm_ce
  split
  · congr 3
    funext i r
    exact mm_fv_up (fun z => h z.1)
  · congr 4
    funext i
    unfold mm_up
    simp [h]
  · rfl
theorem mm_ce_upL {S : mm_S} {a j b : Nat} {v : Int64} {q : mm_F} (h : b ≠ a) : mm_ce (mm_upL S a j v) b q = mm_ce S b q := by
  unfold mm_ce
  split
  · congr 3
    funext i r
    exact mm_fv_upL (fun z => h z.1)
  · rfl
  · rfl
theorem mm_ce_upR {S : mm_S} {a j b : Nat} {v : Nat} {q : mm_F} (h : b ≠ a) : mm_ce (mm_upR S a j v) b q = mm_ce S b q := by
  unfold mm_ce
  split
  · congr 3
    funext i r
    exact mm_fv_upR (fun z => h z.1)
  · rfl
  · rfl
theorem mm_enc_puti {sh : List mm_F} {S : mm_S} {a ci j : Nat} {ks : List (Nat ⊕ Nat)} {v : Int32} (h : sh[a]? = some (.inl (ci, ks))) (hk : ks[j]? = some (.inl 0)) : (mm_enc sh S).set a (.inl (ci, (ks.mapIdx (fun j q => mm_fv S a j q)).set j (.int v))) = mm_enc sh (mm_up S a j v) := by
  refine mm_enc_set h ?_ (fun b q hb => mm_ce_up hb)
  show Sum.inl (ci, _) = Sum.inl (ci, _)
  congr 2
  have e : (Value.int v) = mm_fv (mm_up S a j v) a j (.inl 0) := by simp [mm_fv, mm_up]
  rw [e]
  exact mm_fields hk (fun i r hi => mm_fv_up (fun z => hi z.2))
theorem mm_enc_putl {sh : List mm_F} {S : mm_S} {a ci j : Nat} {ks : List (Nat ⊕ Nat)} {v : Int64} (h : sh[a]? = some (.inl (ci, ks))) (hk : ks[j]? = some (.inl 1)) : (mm_enc sh S).set a (.inl (ci, (ks.mapIdx (fun j q => mm_fv S a j q)).set j (.long v))) = mm_enc sh (mm_upL S a j v) := by
  refine mm_enc_set h ?_ (fun b q hb => mm_ce_upL hb)
  show Sum.inl (ci, _) = Sum.inl (ci, _)
  congr 2
  have e : (Value.long v) = mm_fv (mm_upL S a j v) a j (.inl 1) := by simp [mm_fv, mm_upL]
  rw [e]
  exact mm_fields hk (fun i r hi => mm_fv_upL (fun z => hi z.2))
theorem mm_enc_putm {sh : List mm_F} {S : mm_S} {a ci j : Nat} {ks : List (Nat ⊕ Nat)} {v : Nat} (h : sh[a]? = some (.inl (ci, ks))) (hk : ks[j]? = some (.inl 2)) : (mm_enc sh S).set a (.inl (ci, (ks.mapIdx (fun j q => mm_fv S a j q)).set j (.ref v))) = mm_enc sh (mm_upR S a j v) := by
  refine mm_enc_set h ?_ (fun b q hb => mm_ce_upR hb)
  show Sum.inl (ci, _) = Sum.inl (ci, _)
  congr 2
  have e : (Value.ref v) = mm_fv (mm_upR S a j v) a j (.inl 2) := by simp [mm_fv, mm_upR]
  rw [e]
  exact mm_fields hk (fun i r hi => mm_fv_upR (fun z => hi z.2))
theorem mm_enc_ast {sh : List mm_F} {S : mm_S} {a t N j : Nat} {v : Int32} (h : sh[a]? = some (.inr (t, N, none))) : (mm_enc sh S).set a (.inr (t, N, .inl (upd (S.1 a) j v))) = mm_enc sh (mm_up S a j v) := by
  refine mm_enc_set h ?_ (fun b q hb => mm_ce_up hb)
  show Sum.inr (t, N, Sum.inl _) = Sum.inr (t, N, Sum.inl _)
  congr 4
  funext i
  unfold upd mm_up
  simp
section TW
variable {g : mm_G} {own : String} {cc : ByteArray} {nL : Nat} {ret : Option FieldType} {ini : Bool} {rm : Room} {Q : Option Value → List mm_E → Prop} {k n : Nat} {sh : List mm_F} {S : mm_S} {pc : Nat} {ls : List (Nat × Value)} {st : List Value}
theorem tm_fld {a j : Nat} {ks : List (Nat ⊕ Nat)} {q : Nat ⊕ Nat} (hk : ks[j]? = some q) : (ks.mapIdx (fun j q => mm_fv S a j q))[j]? = some (mm_fv S a j q) := by
  rw [List.getElem?_mapIdx, hk]
  rfl
theorem tw_geti {a ci j idx : Nat} {ks : List (Nat ⊕ Nat)} {C : String} {T : u_T} {N : Nat} (d : decode cc pc = .ok (.getfield idx, 3)) (hs : sh[a]? = some (.inl (ci, ks))) (hk : ks[j]? = some (.inl 0)) (hc : vwCl[ci]? = some (C, T, N)) (hj : j < N) (hl : Cond.fieldLink own idx (T j).1 (T j).2.1 (T j).2.2.1 ∈ mm_ok)
    (kk : ∀ v : Int32, v = S.1 a j → mw g own cc nL ret ini rm Q k n (mm_enc sh S) (pc + 3) ls (.int v :: st)) : mw g own cc nL ret ini rm Q k n (mm_enc sh S) pc ls (.ref a :: st) := mw_get d (mm_enc_get hs) hc hj hl (tm_fld hk) (kk _ rfl)
theorem tw_getl {a ci j idx : Nat} {ks : List (Nat ⊕ Nat)} {C : String} {T : u_T} {N : Nat} (d : decode cc pc = .ok (.getfield idx, 3)) (hs : sh[a]? = some (.inl (ci, ks))) (hk : ks[j]? = some (.inl 1)) (hc : vwCl[ci]? = some (C, T, N)) (hj : j < N) (hl : Cond.fieldLink own idx (T j).1 (T j).2.1 (T j).2.2.1 ∈ mm_ok)
    (kk : ∀ v : Int64, v = S.2.1 a j → mw g own cc nL ret ini rm Q k n (mm_enc sh S) (pc + 3) ls (.long v :: st)) : mw g own cc nL ret ini rm Q k n (mm_enc sh S) pc ls (.ref a :: st) := mw_get d (mm_enc_get hs) hc hj hl (tm_fld hk) (kk _ rfl)
theorem tw_getm {a ci j idx : Nat} {ks : List (Nat ⊕ Nat)} {C : String} {T : u_T} {N : Nat} (d : decode cc pc = .ok (.getfield idx, 3)) (hs : sh[a]? = some (.inl (ci, ks))) (hk : ks[j]? = some (.inl 2)) (hc : vwCl[ci]? = some (C, T, N)) (hj : j < N) (hl : Cond.fieldLink own idx (T j).1 (T j).2.1 (T j).2.2.1 ∈ mm_ok)
    (kk : ∀ b : Nat, b = S.2.2 a j → mw g own cc nL ret ini rm Q k n (mm_enc sh S) (pc + 3) ls (.ref b :: st)) : mw g own cc nL ret ini rm Q k n (mm_enc sh S) pc ls (.ref a :: st) := mw_get d (mm_enc_get hs) hc hj hl (tm_fld hk) (kk _ rfl)
theorem tw_getr {a ci j idx b : Nat} {ks : List (Nat ⊕ Nat)} {C : String} {T : u_T} {N : Nat} (d : decode cc pc = .ok (.getfield idx, 3)) (hs : sh[a]? = some (.inl (ci, ks))) (hk : ks[j]? = some (.inr b)) (hc : vwCl[ci]? = some (C, T, N)) (hj : j < N) (hl : Cond.fieldLink own idx (T j).1 (T j).2.1 (T j).2.2.1 ∈ mm_ok)
    (kk : mw g own cc nL ret ini rm Q k n (mm_enc sh S) (pc + 3) ls (.ref b :: st)) : mw g own cc nL ret ini rm Q k n (mm_enc sh S) pc ls (.ref a :: st) := mw_get d (mm_enc_get hs) hc hj hl (tm_fld hk) kk
theorem tm_len {a j : Nat} {ks : List (Nat ⊕ Nat)} {q : Nat ⊕ Nat} (hk : ks[j]? = some q) : j < (ks.mapIdx (fun j q => mm_fv S a j q)).length := by
  rw [List.length_mapIdx]
  exact (List.getElem?_eq_some_iff.mp hk).1
theorem tw_puti {a ci j idx : Nat} {ks : List (Nat ⊕ Nat)} {C : String} {T : u_T} {N : Nat} {v : Int32} (d : decode cc pc = .ok (.putfield idx, 3)) (hs : sh[a]? = some (.inl (ci, ks))) (hk : ks[j]? = some (.inl 0)) (hc : vwCl[ci]? = some (C, T, N)) (hj : j < N) (hl : Cond.fieldLink own idx (T j).1 (T j).2.1 (T j).2.2.1 ∈ mm_ok) (hf : (T j).2.2.2 = false) (hd : parseFieldDescriptor (T j).2.2.1 = some .int)
    (kk : mw g own cc nL ret ini rm Q k n (mm_enc sh (mm_up S a j v)) (pc + 3) ls st) : mw g own cc nL ret ini rm Q k n (mm_enc sh S) pc ls (.int v :: .ref a :: st) :=
  mw_put d (mm_enc_get hs) hc hj hl hf hd rfl rfl (tm_len hk) (by rw [mm_enc_puti hs hk]; exact kk)
theorem tw_putz {a ci j idx : Nat} {ks : List (Nat ⊕ Nat)} {C : String} {T : u_T} {N : Nat} {v : Int32} (d : decode cc pc = .ok (.putfield idx, 3)) (hs : sh[a]? = some (.inl (ci, ks))) (hk : ks[j]? = some (.inl 0)) (hc : vwCl[ci]? = some (C, T, N)) (hj : j < N) (hl : Cond.fieldLink own idx (T j).1 (T j).2.1 (T j).2.2.1 ∈ mm_ok) (hf : (T j).2.2.2 = false) (hd : parseFieldDescriptor (T j).2.2.1 = some .boolean) (hv : v = 0 ∨ v = 1)
    (kk : mw g own cc nL ret ini rm Q k n (mm_enc sh (mm_up S a j v)) (pc + 3) ls st) : mw g own cc nL ret ini rm Q k n (mm_enc sh S) pc ls (.int v :: .ref a :: st) :=
  mw_put d (mm_enc_get hs) hc hj hl hf hd (by rcases hv with rfl | rfl <;> rfl) (by rcases hv with rfl | rfl <;> rfl) (tm_len hk) (by rw [mm_enc_puti hs hk]; exact kk)
theorem tw_putl {a ci j idx : Nat} {ks : List (Nat ⊕ Nat)} {C : String} {T : u_T} {N : Nat} {v : Int64} (d : decode cc pc = .ok (.putfield idx, 3)) (hs : sh[a]? = some (.inl (ci, ks))) (hk : ks[j]? = some (.inl 1)) (hc : vwCl[ci]? = some (C, T, N)) (hj : j < N) (hl : Cond.fieldLink own idx (T j).1 (T j).2.1 (T j).2.2.1 ∈ mm_ok) (hf : (T j).2.2.2 = false) (hd : parseFieldDescriptor (T j).2.2.1 = some .long)
    (kk : mw g own cc nL ret ini rm Q k n (mm_enc sh (mm_upL S a j v)) (pc + 3) ls st) : mw g own cc nL ret ini rm Q k n (mm_enc sh S) pc ls (.long v :: .ref a :: st) :=
  mw_put d (mm_enc_get hs) hc hj hl hf hd rfl rfl (tm_len hk) (by rw [mm_enc_putl hs hk]; exact kk)
theorem tw_putm {a ci j idx : Nat} {ks : List (Nat ⊕ Nat)} {C D : String} {T : u_T} {N : Nat} {v : Nat} (d : decode cc pc = .ok (.putfield idx, 3)) (hs : sh[a]? = some (.inl (ci, ks))) (hk : ks[j]? = some (.inl 2)) (hc : vwCl[ci]? = some (C, T, N)) (hj : j < N) (hl : Cond.fieldLink own idx (T j).1 (T j).2.1 (T j).2.2.1 ∈ mm_ok) (hf : (T j).2.2.2 = false) (hd : parseFieldDescriptor (T j).2.2.1 = some (.object D))
    (kk : mw g own cc nL ret ini rm Q k n (mm_enc sh (mm_upR S a j v)) (pc + 3) ls st) : mw g own cc nL ret ini rm Q k n (mm_enc sh S) pc ls (.ref v :: .ref a :: st) :=
  mw_put d (mm_enc_get hs) hc hj hl hf hd rfl rfl (tm_len hk) (by rw [mm_enc_putm hs hk]; exact kk)
theorem tw_iald {a N : Nat} {i : Int32} (d : decode cc pc = .ok (.iaload, 1)) (hs : sh[a]? = some (.inr (0, N, none))) (hin : vp_in i N)
    (kk : ∀ v : Int32, v = S.1 a i.toNatClampNeg → mw g own cc nL ret ini rm Q k n (mm_enc sh S) (pc + 1) ls (.int v :: st)) : mw g own cc nL ret ini rm Q k n (mm_enc sh S) pc ls (.int i :: .ref a :: st) := mw_iald d (mm_enc_get hs) hin (kk _ rfl)
theorem tw_zald {a N : Nat} {i : Int32} (d : decode cc pc = .ok (.baload, 1)) (hs : sh[a]? = some (.inr (1, N, none))) (hin : vp_in i N)
    (kk : ∀ v : Int32, v = S.1 a i.toNatClampNeg → mw g own cc nL ret ini rm Q k n (mm_enc sh S) (pc + 1) ls (.int v :: st)) : mw g own cc nL ret ini rm Q k n (mm_enc sh S) pc ls (.int i :: .ref a :: st) := mw_zald d (mm_enc_get hs) hin (kk _ rfl)
theorem tw_iast {a N : Nat} {i x : Int32} (d : decode cc pc = .ok (.iastore, 1)) (hs : sh[a]? = some (.inr (0, N, none))) (hin : vp_in i N)
    (kk : mw g own cc nL ret ini rm Q k n (mm_enc sh (mm_up S a i.toNatClampNeg x)) (pc + 1) ls st) : mw g own cc nL ret ini rm Q k n (mm_enc sh S) pc ls (.int x :: .int i :: .ref a :: st) := mw_iast d (mm_enc_get hs) hin (by rw [mm_enc_ast hs]; exact kk)
theorem tw_zast {a N : Nat} {i x : Int32} (d : decode cc pc = .ok (.bastore, 1)) (hs : sh[a]? = some (.inr (1, N, none))) (hin : vp_in i N) (hx : x = 0 ∨ x = 1)
    (kk : mw g own cc nL ret ini rm Q k n (mm_enc sh (mm_up S a i.toNatClampNeg x)) (pc + 1) ls st) : mw g own cc nL ret ini rm Q k n (mm_enc sh S) pc ls (.int x :: .int i :: .ref a :: st) :=
  mw_zast d (mm_enc_get hs) hin (by rw [show vp_nar .boolean x = x by rcases hx with rfl | rfl <;> rfl, mm_enc_ast hs]; exact kk)
theorem tw_aald {a t N b : Nat} {l : List Nat} {i : Int32} {ty : FieldType} (d : decode cc pc = .ok (.aaload, 1)) (hs : sh[a]? = some (.inr (t, N, some l))) (ht : (mm_tys g)[t]? = some (g.2.2.2.1 t, ty)) (hty : ty.isReference = true) (hin : vp_in i N) (hb : l[i.toNatClampNeg]? = some b) (hb9 : b < 999)
    (kk : mw g own cc nL ret ini rm Q k n (mm_enc sh S) (pc + 1) ls (.ref b :: st)) : mw g own cc nL ret ini rm Q k n (mm_enc sh S) pc ls (.int i :: .ref a :: st) := mw_aald d (mm_enc_get hs) ht hty hin hb hb9 kk
theorem tw_aleni {a t N : Nat} {v : Int32} {ty : FieldType} (d : decode cc pc = .ok (.arraylength, 1)) (hs : sh[a]? = some (.inr (t, N, none))) (ht : (mm_tys g)[t]? = some (g.2.2.2.1 t, ty)) (hv : Int32.ofNat N = v)
    (kk : mw g own cc nL ret ini rm Q k n (mm_enc sh S) (pc + 1) ls (.int v :: st)) : mw g own cc nL ret ini rm Q k n (mm_enc sh S) pc ls (.ref a :: st) := mw_alen d (mm_enc_get hs) ht hv kk
theorem tw_alenr {a t N : Nat} {l : List Nat} {v : Int32} {ty : FieldType} (d : decode cc pc = .ok (.arraylength, 1)) (hs : sh[a]? = some (.inr (t, N, some l))) (ht : (mm_tys g)[t]? = some (g.2.2.2.1 t, ty)) (hv : Int32.ofNat N = v)
    (kk : mw g own cc nL ret ini rm Q k n (mm_enc sh S) (pc + 1) ls (.int v :: st)) : mw g own cc nL ret ini rm Q k n (mm_enc sh S) pc ls (.ref a :: st) := mw_alen d (mm_enc_get hs) ht hv kk
end TW
