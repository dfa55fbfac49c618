/-! ===== constructors: the rows again, with a word of the heap's size at the entry ===== -/
def mn (φ : State → Prop) (g : mm_G) (own : String) (cc : ByteArray) (nL : Nat) (ret : Option FieldType) (ini : Bool) (rm : Room) (Q : Option Value → List mm_E → Prop) (k n : Nat) (w : List mm_E) (pc : Nat) (ls : List (Nat × Value)) (st : List Value) : Prop :=
  ∀ (p : Program) (l : Launch) (e : Env) (s : State) (m : MethodId) (args : Array Value) (below : List Frame) (meth : Method) (c : Code) (H : Heap) (locs : List Loc) (lsA : Array Slot), mm_at g own cc nL ret ini w ls p s m args meth c H locs lsA → φ s →
    W p l e rm s m args below meth c H locs k n (MQ below (mm_Q g Q) args s rm.cells rm.slots g.2.2.2.2) (F0 m pc lsA (st.map (mm_v g)))
def mn_AA (U : State) : Prop := (Cond.arrayOver (.array .int)).before #[] U = true
theorem mn_AA.moved {u U : State} (hvm : u.vm.Alike U.vm) (h : mn_AA u) : mn_AA U := by
  obtain ⟨comp, c, k, h1, h2, h3, h4, h5⟩ := arrayOverA_spec h
  obtain ⟨k', hk', he⟩ := hvm.2.2 _ _ h3
  have hi : (U.vm.classes.findIdx? fun (x : Class) => match x.kind with | .array component _ => component == comp | _ => false) = some c := by
    refine Eq.trans (va_idx_bare U.vm comp).symm ?_
    first | rw [hvm.bare_eq] | rw [← hvm.bare_eq]
    exact (va_idx_bare u.vm comp).trans h2
  have hkind : k'.kind = .array comp (.array .int) := by rw [he]; exact h4
  have f1 : U.vm.findClass (FieldType.array .int).toString = some comp := by rw [hvm.findClass]; exact h1
  have f2 : U.vm.findClass ("[" ++ (FieldType.array .int).toString) = some c := by rw [hvm.findClass]; exact h5
  unfold mn_AA Cond.before Cond.holds
  simp only [Cond.value]
  rw [f1, Option.bind_some]
  refine (congrArg (fun o : Option Nat => (o.bind (fun c => (U.vm.classes[c]?).map fun (k : Class) => match k.kind with | .array _ ty => decide (ty = FieldType.array .int) && decide (U.vm.findClass ("[" ++ (FieldType.array .int).toString) = some c) | _ => false) == some true)) hi).trans ?_
  simp [hk', hkind, f2]
def mn_f (g : mm_G) (nw : Nat) (s : State) : Prop := s.heap.size = g.2.2.1 + nw ∧ va_AO "VoiceWills$Folk" s ∧ va_AO "VoiceWills$Image" s ∧ mn_AA s ∧ ∀ q, g.2.2.1 ≤ q → g.2.2.2.2 q
theorem mn_f.on {g : mm_G} {nw nw1 : Nat} {s U : State} (h : mn_f g nw s) (hvm : s.vm.Alike U.vm) (hz : U.heap.size = g.2.2.1 + nw1) : mn_f g nw1 U := ⟨hz, va_AO.moved hvm h.2.1, va_AO.moved hvm h.2.2.1, mn_AA.moved hvm h.2.2.2.1, h.2.2.2.2⟩
theorem mn_f.calling {g : mm_G} {nw : Nat} {U : State} {f : JFrame} {mk : MethodId} {a : Array Value} (h : mn_f g nw U) : mn_f g nw (U.calling f mk a) := h.on (U := U.calling f mk a) (Vm.Alike.refl U.vm) h.1
def mn_rm (d c s : Nat) : Room := { frames := d, cells := c, slots := s, locals := 33 * d }
/-- a constructor's contract -/
def mcn (g : mm_G) (y : MethodName) (cc : ByteArray) (nL : Nat) (rm : Room) (as : List Value) (w : List mm_E) (Q : Option Value → List mm_E → Prop) : Prop :=
  ∀ l : Launch, Met l y (mm_ws y cc nL none) rm (va_Pc (as.map (mm_v g)) (fun U => (mm_H g w U.heap ∧ mm_K g U) ∧ mn_f g w.length U)) (mm_Q g Q) rm.cells rm.slots g.2.2.2.2
theorem mcn_of {g : mm_G} {y : MethodName} {cc : ByteArray} {nL : Nat} {rm : Room} {as : List Value} {w : List mm_E} {Q : Option Value → List mm_E → Prop} {own : String} {ls : List (Nat × Value)} (hy : plainName y.cls = true) (hn : (lg_sl as).length ≤ nL) (ho : y.cls = own) (hi : y.name = "<init>") (hl : lv_args 0 as = ls)
    (h : mn (mn_f g w.length) g own cc nL none true rm Q 0 0 w 0 ls []) : mcn g y cc nL rm as w Q := by
  subst ho
  subst hl
  intro l
  refine Met.ofW (cc := cc) (maxL := nL) (ret := none) hy rfl ?_
  intro p e s m args below meth c s₁ B hml hv
  obtain ⟨rfl, ⟨hH, hK⟩, hF⟩ := hv
  have hl := lv_entry (as.map (mm_v g)) (n := nL) (by rw [mm_sl]; exact hn)
  rw [lg_entry_eq]
  refine h p l e s m _ below meth c s.heap [] _ ⟨⟨B.exec, B.bytes, hml, findClass_of_methodNamed B.named, fun w hw => atoms_spec (ws := mm_ws y cc nL none) B.pre w (List.mem_cons_of_mem _ hw), B.returns, B.notSynchronized, fun q => ?_⟩, hK, hH, va_S.rf, ?_⟩ hF
  · rw [(name_of_methodNamed B.named B.method).1]
    exact hi
  · rw [← mm_largs]
    exact hl
section MN
variable {φ : State → Prop} {g : mm_G} {own : String} {cc : ByteArray} {nL : Nat} {ret : Option FieldType} {ini : Bool} {rm : Room} {Q : Option Value → List mm_E → Prop} {k n : Nat} {w : List mm_E} {pc : Nat} {ls : List (Nat × Value)} {st : List Value}
theorem mn_iconst {i : Int} {v : Int32} (d : decode cc pc = .ok (.iconst i, 1)) (hv : Int32.ofInt i = v)
    (kk : mn φ g own cc nL ret ini rm Q k n w (pc + 1) ls (.int v :: st)) : mn φ g own cc nL ret ini rm Q k n w pc ls st := by
  intro p l e s m args below meth c H locs lsA a hφ
  exact lv_iconst a.1.1 a.1.2.1 d hv (kk p l e s m args below meth c H locs lsA a hφ)
theorem mn_bipush {i : Int} {v : Int32} (d : decode cc pc = .ok (.bipush i, 2)) (hv : (Int8.ofInt i).toInt32 = v)
    (kk : mn φ g own cc nL ret ini rm Q k n w (pc + 2) ls (.int v :: st)) : mn φ g own cc nL ret ini rm Q k n w pc ls st := by
  intro p l e s m args below meth c H locs lsA a hφ
  exact lv_bipush a.1.1 a.1.2.1 d hv (kk p l e s m args below meth c H locs lsA a hφ)
theorem mn_sipush {i : Int} {v : Int32} (d : decode cc pc = .ok (.sipush i, 3)) (hv : (Int16.ofInt i).toInt32 = v)
    (kk : mn φ g own cc nL ret ini rm Q k n w (pc + 3) ls (.int v :: st)) : mn φ g own cc nL ret ini rm Q k n w pc ls st := by
  intro p l e s m args below meth c H locs lsA a hφ
  exact lv_sipush a.1.1 a.1.2.1 d hv (kk p l e s m args below meth c H locs lsA a hφ)
theorem mn_aload_n {f : Fin 4} {i : Nat} {x : Nat} (d : decode cc pc = .ok (.aload_n f, 1)) (hi : (f : Nat) = i) (j : Nat) (h : ls[j]? = some (i, .ref x))
    (kk : mn φ g own cc nL ret ini rm Q k n w (pc + 1) ls (.ref x :: st)) : mn φ g own cc nL ret ini rm Q k n w pc ls st := by
  intro p l e s m args below meth c H locs lsA a hφ
  exact lv_aload_n a.1.1 a.1.2.1 d hi (mm_loc a.2.2.2.2 h) (kk p l e s m args below meth c H locs lsA a hφ)
theorem mn_iload_n {f : Fin 4} {i : Nat} {x : Int32} (d : decode cc pc = .ok (.iload_n f, 1)) (hi : (f : Nat) = i) (j : Nat) (h : ls[j]? = some (i, .int x))
    (kk : mn φ g own cc nL ret ini rm Q k n w (pc + 1) ls (.int x :: st)) : mn φ g own cc nL ret ini rm Q k n w pc ls st := by
  intro p l e s m args below meth c H locs lsA a hφ
  exact lv_iload_n a.1.1 a.1.2.1 d hi (mm_loc a.2.2.2.2 h) (kk p l e s m args below meth c H locs lsA a hφ)
theorem mn_istore_n {f : Fin 4} {i : Nat} {x : Int32} {ls' : List (Nat × Value)} (d : decode cc pc = .ok (.istore_n f, 1)) (hi : (f : Nat) = i) (hn : i < nL) (hl : ((i, .int x) :: ls.filter (fun q => !(q.1 == i) && !(q.1 + 1 == i && q.2.category == 2))) = ls')
    (kk : mn φ g own cc nL ret ini rm Q k n w (pc + 1) ls' st) : mn φ g own cc nL ret ini rm Q k n w pc ls (.int x :: st) := by
  intro p l e s m args below meth c H locs lsA a hφ
  refine lv_istore_n (lv' := ls'.map (fun q => (q.1, mm_v g q.2))) a.1.1 a.1.2.1 d hi a.2.2.2.2 hn (by rw [← hl]; exact mm_store (v := .int x)) (fun lsB hB => ?_)
  exact kk p l e s m args below meth c H locs lsB ⟨a.1, a.2.1, a.2.2.1, a.2.2.2.1, hB⟩ hφ
theorem mn_iinc {i : Nat} {z : Int} {x : Int32} {ls' : Int32 → List (Nat × Value)} (d : decode cc pc = .ok (.iinc i z, 3)) (j : Nat) (h : ls[j]? = some (i, .int x)) (hn : i < nL) (hl : ∀ v : Int32, ((i, .int v) :: ls.filter (fun q => !(q.1 == i) && !(q.1 + 1 == i && q.2.category == 2))) = ls' v)
    (kk : ∀ v : Int32, v = x + Int32.ofInt z → mn φ g own cc nL ret ini rm Q k n w (pc + 3) (ls' v) st) : mn φ g own cc nL ret ini rm Q k n w pc ls st := by
  intro p l e s m args below meth c H locs lsA a hφ
  refine lv_iinc (v := x + Int32.ofInt z) (lv' := (ls' (x + Int32.ofInt z)).map (fun q => (q.1, mm_v g q.2))) a.1.1 a.1.2.1 d a.2.2.2.2 (k := j) (by rw [List.getElem?_map, h]; rfl) rfl hn (by rw [← hl]; exact mm_store (v := .int (x + Int32.ofInt z))) (fun lsB hB => ?_)
  exact kk _ rfl p l e s m args below meth c H locs lsB ⟨a.1, a.2.1, a.2.2.1, a.2.2.2.1, hB⟩ hφ
theorem mn_icmp_ge {x y : Int32} {off : Int} {tgt : Nat} (d : decode cc pc = .ok (.if_icmp .ge off, 3)) (ht : (pc : Int) + off = (tgt : Int)) (kt : y ≤ x → mn φ g own cc nL ret ini rm Q k n w tgt ls st)
    (kf : ¬ y ≤ x → mn φ g own cc nL ret ini rm Q k n w (pc + 3) ls st) : mn φ g own cc nL ret ini rm Q k n w pc ls (.int y :: .int x :: st) := by
  intro p l e s m args below meth c H locs lsA a hφ
  exact lv_icmp_ge a.1.1 a.1.2.1 d ht (fun q => kt q p l e s m args below meth c H locs lsA a hφ) (fun q => kf q p l e s m args below meth c H locs lsA a hφ)
theorem mn_goto {off : Int} {tgt : Nat} (d : decode cc pc = .ok (.goto off, 3)) (ht : (pc : Int) + off = (tgt : Int))
    (kk : mn φ g own cc nL ret ini rm Q k n w tgt ls st) : mn φ g own cc nL ret ini rm Q k n w pc ls st := by
  intro p l e s m args below meth c H locs lsA a hφ
  exact lv_goto a.1.1 a.1.2.1 d ht (kk p l e s m args below meth c H locs lsA a hφ)
theorem mn_dup {v : Value} (d : decode cc pc = .ok (.dup, 1)) (hc : v.category = 1)
    (kk : mn φ g own cc nL ret ini rm Q k n w (pc + 1) ls (v :: v :: st)) : mn φ g own cc nL ret ini rm Q k n w pc ls (v :: st) := by
  intro p l e s m args below meth c H locs lsA a hφ
  exact lv_dup a.1.1 a.1.2.1 d ((mm_v_cat g v).trans hc) (kk p l e s m args below meth c H locs lsA a hφ)
theorem mn_get {a ci j idx : Nat} {fs : List Value} {C : String} {T : u_T} {N : Nat} {v : Value} (d : decode cc pc = .ok (.getfield idx, 3)) (hw : w[a]? = some (.inl (ci, fs))) (hc : vwCl[ci]? = some (C, T, N)) (hj : j < N) (hl : Cond.fieldLink own idx (T j).1 (T j).2.1 (T j).2.2.1 ∈ mm_ok) (hv : fs[j]? = some v)
    (kk : mn φ g own cc nL ret ini rm Q k n w (pc + 3) ls (v :: st)) : mn φ g own cc nL ret ini rm Q k n w pc ls (.ref a :: st) := by
  intro p l e s m args below meth c H locs lsA A hφ
  have ha := Nat.lt_of_lt_of_le (mm_lt hw) A.2.2.1.2.2
  show W _ _ _ _ _ _ _ _ _ _ _ _ _ _ _ (F0 m pc lsA (mm_v g (.ref a) :: st.map (mm_v g)))
  rw [mm_v_ref ha]
  exact va_get A.1.1 A.1.2.1 A.1.2.2.2.2.1 (mm_inX _ (List.mem_of_getElem? hc)) A.1.2.2.2.1 A.2.1.1 A.2.2.1.1 a (mm_w_get hw) hc j hj (A.1.2.2.2.2.1 _ hl) (fun _ h => h) (by rw [List.getElem?_map, hv]; rfl) d (kk p l e s m args below meth c H locs lsA A hφ)
theorem mn_put {a ci j idx : Nat} {fs : List Value} {C : String} {T : u_T} {N : Nat} {ty : FieldType} {v : Value} (d : decode cc pc = .ok (.putfield idx, 3)) (hw : w[a]? = some (.inl (ci, fs))) (hc : vwCl[ci]? = some (C, T, N)) (hj : j < N) (hl : Cond.fieldLink own idx (T j).1 (T j).2.1 (T j).2.2.1 ∈ mm_ok) (hf : (T j).2.2.2 = false) (hd : parseFieldDescriptor (T j).2.2.1 = some ty) (hn : narrow ty v = v) (hfit : fits ty v = true) (hlen : j < fs.length)
    (kk : mn φ g own cc nL ret ini rm Q k n (w.set a (.inl (ci, fs.set j v))) (pc + 3) ls st) : mn φ g own cc nL ret ini rm Q k n w pc ls (v :: .ref a :: st) := by
  intro p l e s m args below meth c H locs lsA A hφ
  have ha := Nat.lt_of_lt_of_le (mm_lt hw) A.2.2.1.2.2
  show W _ _ _ _ _ _ _ _ _ _ _ _ _ _ _ (F0 m pc lsA (mm_v g v :: mm_v g (.ref a) :: st.map (mm_v g)))
  rw [mm_v_ref ha]
  obtain ⟨ty0, hty⟩ := mm_tyX hc
  refine va_put A.1.1 A.1.2.1 A.1.2.2.2.2.1 (mm_inX _ (List.mem_of_getElem? hc)) ty0 hty (mm_nmX _ (List.mem_of_getElem? hc)) A.1.2.2.2.1 A.2.1.1 A.2.2.1.1 A.2.2.1.2.1 A.2.2.2.1 a (mm_w_get hw) hc j hj (A.1.2.2.2.2.1 _ hl) (fun _ h => h) hf hd (mm_narrow g hn) (mm_fits g hfit) (by rw [List.length_map]; exact hlen) d (fun H1 locs1 hP hD hS => ?_)
  rw [← List.map_set, ← mm_e_obj, mm_w_set] at hP hD
  exact kk p l e s m args below meth c H1 locs1 lsA ⟨A.1, A.2.1, ⟨hP, hD, by rw [List.length_set]; exact A.2.2.1.2.2⟩, hS, A.2.2.2.2⟩ hφ
theorem mn_putF {a ci j idx : Nat} {fs : List Value} {C : String} {T : u_T} {N : Nat} {ty : FieldType} {v : Value} (hi : ini = true) (d : decode cc pc = .ok (.putfield idx, 3)) (hw : w[a]? = some (.inl (ci, fs))) (hc : vwCl[ci]? = some (C, T, N)) (hj : j < N) (hl : Cond.fieldLink own idx (T j).1 (T j).2.1 (T j).2.2.1 ∈ mm_ok) (hf : (T j).2.2.2 = true) (ho : (T j).1 = own) (hd : parseFieldDescriptor (T j).2.2.1 = some ty) (hn : narrow ty v = v) (hfit : fits ty v = true) (hlen : j < fs.length)
    (kk : mn φ g own cc nL ret ini rm Q k n (w.set a (.inl (ci, fs.set j v))) (pc + 3) ls st) : mn φ g own cc nL ret ini rm Q k n w pc ls (v :: .ref a :: st) := by
  intro p l e s m args below meth c H locs lsA A hφ
  have ha := Nat.lt_of_lt_of_le (mm_lt hw) A.2.2.1.2.2
  show W _ _ _ _ _ _ _ _ _ _ _ _ _ _ _ (F0 m pc lsA (mm_v g v :: mm_v g (.ref a) :: st.map (mm_v g)))
  rw [mm_v_ref ha]
  obtain ⟨ty0, hty⟩ := mm_tyX hc
  refine va_putF A.1.1 A.1.2.1 A.1.2.2.2.2.1 (mm_inX _ (List.mem_of_getElem? hc)) ty0 hty (mm_nmX _ (List.mem_of_getElem? hc)) A.1.2.2.2.1 A.2.1.1 A.2.2.1.1 A.2.2.1.2.1 A.2.2.2.1 a (mm_w_get hw) hc j hj (A.1.2.2.2.2.1 _ hl) (fun _ h => h) hf (A.1.2.2.2.2.2.2.2 hi) ho hd (mm_narrow g hn) (mm_fits g hfit) (by rw [List.length_map]; exact hlen) d (fun H1 locs1 hP hD hS => ?_)
  rw [← List.map_set, ← mm_e_obj, mm_w_set] at hP hD
  exact kk p l e s m args below meth c H1 locs1 lsA ⟨A.1, A.2.1, ⟨hP, hD, by rw [List.length_set]; exact A.2.2.1.2.2⟩, hS, A.2.2.2.2⟩ hφ
theorem mn_alen {a t N : Nat} {f : (Nat → Int32) ⊕ (Nat → Option Nat)} {ty : FieldType} {v : Int32} (d : decode cc pc = .ok (.arraylength, 1)) (hw : w[a]? = some (.inr (t, N, f))) (ht : (mm_tys g)[t]? = some (g.2.2.2.1 t, ty)) (hv : Int32.ofNat N = v)
    (kk : mn φ g own cc nL ret ini rm Q k n w (pc + 1) ls (.int v :: st)) : mn φ g own cc nL ret ini rm Q k n w pc ls (.ref a :: st) := by
  intro p l e s m args below meth c H locs lsA A hφ
  have ha := Nat.lt_of_lt_of_le (mm_lt hw) A.2.2.1.2.2
  show W _ _ _ _ _ _ _ _ _ _ _ _ _ _ _ (F0 m pc lsA (mm_v g (.ref a) :: st.map (mm_v g)))
  rw [mm_v_ref ha]
  have hg := mm_w_get (g := g) hw
  rcases f with f | f
  · exact va_alen A.1.1 A.1.2.1 A.2.1.1 A.2.2.1.1 a t hg ht hv d (kk p l e s m args below meth c H locs lsA A hφ)
  · exact va_alen A.1.1 A.1.2.1 A.2.1.1 A.2.2.1.1 a t hg ht hv d (kk p l e s m args below meth c H locs lsA A hφ)
theorem mn_vret (hr : ret = none) (d : decode cc pc = .ok (.return_, 1)) (hc : k = rm.cells) (hs : n = rm.slots)
    (hq : Q none w) : mn φ g own cc nL ret ini rm Q k n w pc ls [] := by
  intro p l e s m args below meth c H locs lsA a hφ
  subst hc
  subst hs
  exact W.vret a.1.1 a.1.2.1 (by rw [a.1.2.2.2.2.2.1]; exact hr) (fun t ht hW => ⟨⟨none, w, rfl, hq, by rw [ht]; exact a.2.2.1⟩, a.2.2.2.1.F ht⟩) a.2.2.2.1.2.2 d (hlocks := a.1.2.2.2.2.2.2.1)
theorem mn_sz {nw : Nat} {p : Program} {l : Launch} {e : Env} {s : State} {m : MethodId} {args : Array Value} {below : List Frame} {meth : Method} {c : Code} {H : Heap} {locs : List Loc} {lsA : Array Slot} (A : mm_at g own cc nL ret ini w ls p s m args meth c H locs lsA) (F : mn_f g nw s) (hz : nw + k = w.length) {T : State} (hT : T.heap = H) (X : Stand p l e rm s m args below meth c T locs k n) : H.size = g.2.2.1 + w.length := by
  have h1 := X.heapSize
  rw [hT, F.1] at h1
  have h2 : g.2.2.1 + w.length ≤ H.size := by
    by_cases hw : w.length = 0
    · have h3 := A.2.2.2.1.1
      rw [F.1] at h3
      omega
    · have hg : w[w.length - 1]? = some (w[w.length - 1]'(by omega)) := List.getElem?_eq_getElem _
      have h3 : g.2.2.1 + (w.length - 1) < H.size := (A.2.2.1.1 _ _ (mm_w_get (g := g) hg)).lt
      omega
  omega
theorem mn_at1 {nw : Nat} {p : Program} {s : State} {m : MethodId} {args : Array Value} {meth : Method} {c : Code} {H H1 : Heap} {locs : List Loc} {lsA : Array Slot} {e1 : mm_E} (A : mm_at g own cc nL ret ini w ls p s m args meth c H locs lsA) (F : mn_f g nw s) (hsz : H.size = g.2.2.1 + w.length) (z1 : H1.size = H.size + 1) (o1 : ∀ q, q < H.size → H1[q]? = H[q]?) (hl9 : w.length < 999)
    (hn : va_at g.1 vwCl (g.2.2.1 + w.length, mm_e g e1) H1) : mm_at g own cc nL ret ini (w ++ [e1]) ls p s m args meth c H1 locs lsA := by
  have hP := A.2.2.1.1
  have hk : ∀ (k : Nat) (x : Nat × va_E), (mm_w g w)[k]? = some x → H1[x.1]? = H[x.1]? := fun k x hx => o1 x.1 ((hP k x hx).lt)
  have hS := A.2.2.2.1
  refine ⟨A.1, A.2.1, ⟨?_, ?_, by rw [List.length_append, List.length_singleton]; omega⟩, ⟨Nat.le_trans hS.1 (by omega), fun x h1 h2 => (o1 x (Nat.lt_of_lt_of_le h1 hS.1)).trans (hS.2.1 x h1 h2), hS.2.2⟩, A.2.2.2.2⟩
  · rw [mm_w_push]
    refine (hP.kept hk).app (fun k x hx => ?_)
    have hz : k < 1 := (List.getElem?_eq_some_iff.mp hx).1
    rw [show k = 0 by omega] at hx
    cases hx
    exact hn
  · rw [mm_w_push]
    exact A.2.2.1.2.1.push hP hsz.symm (F.2.2.2.2 _ (Nat.le_add_right _ _))
theorem mn_new {nw idx ci N : Nat} {C : String} {T : u_T} {fs : List Value} (d : decode cc pc = .ok (.new idx, 3)) (hcl : Cond.classLink own idx C ∈ mm_ok) (hins : Cond.instantiable C N ∈ mm_ok) (hini : Cond.initialized C ∈ mm_ok) (hc : vwCl[ci]? = some (C, T, N)) (ty : Nat → FieldType) (hty : ∀ k, k < N → parseFieldDescriptor (T k).2.2.1 = some (ty k)) (hfs : ∀ j, j < N → defaultValue (ty j) = vp_V fs j) (hmap : ∀ g, fs.map (mm_v g) = fs) (hz : nw + k = w.length) (hl9 : w.length < 999) (hcs : k + 1 ≤ rm.cells ∧ n + N ≤ rm.slots)
    (kk : mn (mn_f g nw) g own cc nL ret ini rm Q (k + 1) (n + N) (w ++ [.inl (ci, fs)]) (pc + 3) ls (.ref w.length :: st)) : mn (mn_f g nw) g own cc nL ret ini rm Q k n w pc ls st := by
  intro p l e s m args below meth c H locs lsA A F T1 hT X
  have hsz := mn_sz A F hz hT X
  have hKn := A.2.1.1.1 ci _ hc
  refine W.newcK A.1.1 A.1.2.1 A.1.2.2.2.1 (A.1.2.2.2.2.1 _ hcl) (A.1.2.2.2.2.1 _ hins) (A.1.2.2.2.2.1 _ hini) (g := F0 m pc lsA (st.map (mm_v g))) rfl d hcs.1 hcs.2 hKn.2.1 hsz (fun H1 kC hkC e1 z1 o1 => ?_) T1 hT X
  have h9 := kk p l e s m args below meth c H1 locs lsA (mn_at1 A F hsz (by rw [z1, hsz]) (by rw [hsz]; exact o1) hl9 (by
    rw [mm_e_obj, hmap]
    exact ⟨_, hc, (u_born ty A.1.2.2.2.2.1 (mm_inX _ (List.mem_of_getElem? hc)) hKn hkC e1 hty).to hfs⟩)) F
  rw [List.map_cons, mm_v_ref hl9] at h9
  exact h9
theorem mn_newa {nw t N : Nat} {at1 : ArrayType} {x : Int32} (d : decode cc pc = .ok (.newarray at1, 2)) (ha : Cond.arrayClass (newarray.typeOf at1) ∈ mm_ok) (ht : (mm_tys g)[t]? = some (g.2.2.2.1 t, newarray.typeOf at1)) (hc0 : ∀ cA : ClassId, vp_cell cA (N, .inl (fun _ => 0)) = arrV cA N (fun _ => defaultValue (newarray.typeOf at1))) (hra : ∀ (U : State) (cA : ClassId), va_RA U cA (newarray.typeOf at1) → U.vm.findClass ("[" ++ (newarray.typeOf at1).toString) = some cA) (hb : N * componentBytes (newarray.typeOf at1) ≤ 536870912) (hx : ¬ x < 0) (hN : x.toNatClampNeg = N) (hz : nw + k = w.length) (hl9 : w.length < 999) (hcs : k + 1 ≤ rm.cells ∧ n + N ≤ rm.slots)
    (kk : mn (mn_f g nw) g own cc nL ret ini rm Q (k + 1) (n + N) (w ++ [.inr (t, N, .inl (fun _ => 0))]) (pc + 2) ls (.ref w.length :: st)) : mn (mn_f g nw) g own cc nL ret ini rm Q k n w pc ls (.int x :: st) := by
  intro p l e s m args below meth c H locs lsA A F T1 hT X
  have hsz := mn_sz A F hz hT X
  refine va_newaK A.1.1 A.1.2.1 (A.1.2.2.2.2.1 _ ha) (g := F0 m pc lsA (.int x :: st.map (mm_v g))) rfl d rfl hx hN hb hcs.1 hcs.2 hsz (fun H1 cA e1 z1 o1 _ hNm => ?_) T1 hT X
  have hcA : cA = g.2.2.2.1 t := Option.some.inj (hNm.symm.trans (hra _ _ (A.2.1.1.2 t _ ht).2))
  subst hcA
  have h9 := kk p l e s m args below meth c H1 locs lsA (mn_at1 A F hsz (by rw [z1, hsz]) (by rw [hsz]; exact o1) hl9 (by
    rw [mm_e_int]
    show H1[g.2.2.1 + w.length]? = some (vp_cell _ _)
    rw [hc0]
    exact e1)) F
  rw [List.map_cons, mm_v_ref hl9] at h9
  exact h9
theorem mn_newi {nw N : Nat} {x : Int32} (d : decode cc pc = .ok (.newarray .int, 2)) (ha : Cond.arrayClass .int ∈ mm_ok) (hb : N * 4 ≤ 536870912) (hx : ¬ x < 0) (hN : x.toNatClampNeg = N) (hz : nw + k = w.length) (hl9 : w.length < 999) (hcs : k + 1 ≤ rm.cells ∧ n + N ≤ rm.slots)
    (kk : mn (mn_f g nw) g own cc nL ret ini rm Q (k + 1) (n + N) (w ++ [.inr (0, N, .inl (fun _ => 0))]) (pc + 2) ls (.ref w.length :: st)) : mn (mn_f g nw) g own cc nL ret ini rm Q k n w pc ls (.int x :: st) :=
  mn_newa d ha rfl (fun _ => rfl) (fun _ _ h => h) hb hx hN hz hl9 hcs kk
theorem mn_newz {nw N : Nat} {x : Int32} (d : decode cc pc = .ok (.newarray .boolean, 2)) (ha : Cond.arrayClass .boolean ∈ mm_ok) (hb : N * 1 ≤ 536870912) (hx : ¬ x < 0) (hN : x.toNatClampNeg = N) (hz : nw + k = w.length) (hl9 : w.length < 999) (hcs : k + 1 ≤ rm.cells ∧ n + N ≤ rm.slots)
    (kk : mn (mn_f g nw) g own cc nL ret ini rm Q (k + 1) (n + N) (w ++ [.inr (1, N, .inl (fun _ => 0))]) (pc + 2) ls (.ref w.length :: st)) : mn (mn_f g nw) g own cc nL ret ini rm Q k n w pc ls (.int x :: st) :=
  mn_newa d ha rfl (fun _ => rfl) (fun _ _ h => h) hb hx hN hz hl9 hcs kk
theorem mn_anew {nw t N idx : Nat} {C : String} {x : Int32} (d : decode cc pc = .ok (.anewarray idx, 3)) (hcl : Cond.classLink own idx C ∈ mm_ok) (ho : ∀ s : State, mn_f g nw s → va_AO C s) (ht : (mm_tys g)[t]? = some (g.2.2.2.1 t, .object C)) (hb : N * 4 ≤ 536870912) (hx : ¬ x < 0) (hN : x.toNatClampNeg = N) (hz : nw + k = w.length) (hl9 : w.length < 999) (hcs : k + 1 ≤ rm.cells ∧ n + N ≤ rm.slots)
    (kk : mn (mn_f g nw) g own cc nL ret ini rm Q (k + 1) (n + N) (w ++ [.inr (t, N, .inr (fun _ => none))]) (pc + 3) ls (.ref w.length :: st)) : mn (mn_f g nw) g own cc nL ret ini rm Q k n w pc ls (.int x :: st) := by
  intro p l e s m args below meth c H locs lsA A F T1 hT X
  subst hN
  have hsz := mn_sz A F hz hT X
  refine W.anew A.1.1 A.1.2.1 A.1.2.2.2.1 (A.1.2.2.2.2.1 _ hcl) (va_AO.use (ho s F)) (g := F0 m pc lsA (.int x :: st.map (mm_v g))) rfl d rfl hx hb hcs.1 hcs.2 (fun cA kA comp hNm _ _ _ => ?_) T1 hT X
  obtain ⟨_, _, _, _, _, hRA⟩ := (A.2.1.1.2 t _ ht).2
  have hcA : cA = g.2.2.2.1 t := Option.some.inj (hNm.symm.trans hRA)
  subst hcA
  have h9 := kk p l e s m args below meth c (H.push { cls := g.2.2.2.1 t, slots := Array.replicate x.toNatClampNeg .null, vm := .none }) locs lsA (mn_at1 A F hsz (by simp) (fun q hq => by rw [Array.getElem?_push, if_neg (Nat.ne_of_lt hq)]) hl9 (by
    show (H.push _)[g.2.2.1 + w.length]? = some (vp_cell _ _)
    rw [← hsz, arrV_new, Array.getElem?_push, if_pos rfl]
    rfl)) F
  rw [List.map_cons, mm_v_ref hl9] at h9
  rw [hsz]
  exact h9
theorem mn_up {f : Nat → Option Nat} {i b v : Nat} : va_up (fun j => (f j).map (fun a => b + a)) i (some (b + v)) = fun j => (va_up f i (some v) j).map (fun a => b + a) := by
  funext j
  unfold va_up
  by_cases h : j = i
  · simp [h]
  · simp [h]
theorem mn_upl {l : List Nat} {v : Nat} : va_up (fun j => l[j]?) l.length (some v) = fun j => (l ++ [v])[j]? := by
  funext j
  unfold va_up
  by_cases h : j = l.length
  · simp [h]
  · by_cases h2 : j < l.length
    · simp [h, List.getElem?_append_left h2]
    · simp only [h, if_false]
      rw [List.getElem?_eq_none (by omega), List.getElem?_eq_none (by rw [List.length_append, List.length_singleton]; omega)]
theorem mn_aast {a v t ci N : Nat} {r : vw_C} {l : List Nat} {vs : List Value} {i : Int32} (d : decode cc pc = .ok (.aastore, 1)) (hw : w[a]? = some (.inr (t, N, .inr (fun j => l[j]?)))) (ht : (mm_tys g)[t]? = some (g.2.2.2.1 t, .object r.1)) (hv : w[v]? = some (.inl (ci, vs))) (hc : vwCl[ci]? = some r) (hin : vp_in i N) (hi : i.toNatClampNeg = l.length)
    (kk : mn φ g own cc nL ret ini rm Q k n (w.set a (.inr (t, N, .inr (fun j => (l ++ [v])[j]?)))) (pc + 1) ls st) : mn φ g own cc nL ret ini rm Q k n w pc ls (.ref v :: .int i :: .ref a :: st) := by
  intro p l0 e s m args below meth c H locs lsA A hφ
  have ha := Nat.lt_of_lt_of_le (mm_lt hw) A.2.2.1.2.2
  have hv9 := Nat.lt_of_lt_of_le (mm_lt hv) A.2.2.1.2.2
  show W _ _ _ _ _ _ _ _ _ _ _ _ _ _ _ (F0 m pc lsA (mm_v g (.ref v) :: .int i :: mm_v g (.ref a) :: st.map (mm_v g)))
  rw [mm_v_ref ha, mm_v_ref hv9]
  refine va_astq A.1.1 A.1.2.1 A.2.1.1 A.2.2.1.1 A.2.2.1.2.1 A.2.2.2.1 a t v ci (mm_w_get hw) ht (mm_w_get hv) hc hin d (fun H1 locs1 hP hD hS => ?_)
  have e9 : mm_e g (.inr (t, N, .inr (fun j => (l ++ [v])[j]?))) = .inl (g.2.2.2.1 t, N, .inr (.inr (.inr (.inr (va_up (fun j => (l[j]?).map (fun a => g.2.2.1 + a)) i.toNatClampNeg (some (g.2.2.1 + v))))))) := by
    rw [mn_up, hi, mn_upl]
    rfl
  rw [← e9, mm_w_set] at hP hD
  exact kk p l0 e s m args below meth c H1 locs1 lsA ⟨A.1, A.2.1, ⟨hP, hD, by rw [List.length_set]; exact A.2.2.1.2.2⟩, hS, A.2.2.2.2⟩ hφ
theorem mn_objInit {idx a : Nat} (d : decode cc pc = .ok (.invokespecial idx, 3)) (hl : Cond.methodLink own idx Lib.objectInit ∈ mm_ok) (h1 : Cond.instanceMethod Lib.objectInit ∈ mm_ok) (h2 : Cond.code Lib.objectInit ⟨#[0xb1]⟩ 1 none ∈ mm_ok) (ha : a < 999) (hR : 1 ≤ rm.frames ∧ 12 ≤ rm.locals)
    (kk : mn φ g own cc nL ret ini rm Q k n w (pc + 3) ls []) : mn φ g own cc nL ret ini rm Q k n w pc ls [.ref a] := by
  intro p l e s m args below meth c H locs lsA A hφ
  show W _ _ _ _ _ _ _ _ _ _ _ _ _ _ _ (F0 m pc lsA (mm_v g (.ref a) :: []))
  rw [mm_v_ref ha]
  exact W.objInit A.1.1 A.1.2.1 A.1.2.2.2.1 (A.1.2.2.2.2.1 _ hl) (A.1.2.2.2.2.1 _ h1) (A.1.2.2.2.2.1 _ h2) (g := F0 m pc lsA [.ref (g.2.2.1 + a)]) rfl (A.2.2.2.2.1.trans A.1.2.2.1.symm) rfl d hR.1 (by simpa using hR.2) (kk p l e s m args below meth c H locs lsA A hφ)
theorem mn_go {p : Program} {l : Launch} {e : Env} {s : State} {m : MethodId} {args : Array Value} {below : List Frame} {meth : Method} {c : Code} {H : Heap} {locs : List Loc} {lsA : Array Slot} {mc1 ms1 : Nat} {st0 : List Value} {Q1 : Option Value → List mm_E → Prop} {aa : Array Value}
    (A : mm_at g own cc nL ret ini w ls p s m args meth c H locs lsA) (hφ : φ s) {T : State} (hT : T.heap = H) (X : Stand p l e rm s m args below meth c T locs k n) (hr : va_Run p l e rm s m args below meth c H locs k n mc1 ms1 (F0 m pc lsA st0) (st.map (mm_v g)) (mm_Q g Q1 aa) g.2.2.2.2)
    (kk : ∀ (r : Option Value) (w1 : List mm_E), Q1 r w1 → mn φ g own cc nL ret ini rm Q (k + mc1) (n + ms1) w1 (pc + 3) ls (r.toList ++ st)) : ∃ t, Steps p.tables e below (T.setTop (F0 m pc lsA st0)) t ∧ MQ below (mm_Q g Q) args s rm.cells rm.slots g.2.2.2.2 t := by
  obtain ⟨v, st₀, t, T', L, h0, X', hL, e1, e2, ⟨⟨r, w1, hv, hQ, hH⟩, hz, hk⟩, st2⟩ := hr T hT X
  have hv2 : v = r.map (mm_v g) := Outcome.returned.inj hv
  subst hv2
  rw [h0] at hz hk
  have hS := A.2.2.2.1
  obtain ⟨t2, a1, b1⟩ := kk r w1 hQ p l e s m args below meth c T'.heap (locs ++ L) lsA ⟨A.1, A.2.1, by rw [e1]; exact hH, ⟨Nat.le_trans hS.1 (by rw [e1]; exact hz), fun q h1 h2 => by rw [e1, hk q (Nat.lt_of_lt_of_le h1 hS.1) h2]; exact hS.2.1 q h1 h2, fun q hq => by
      rcases List.mem_append.mp hq with h | h
      · exact hS.2.2 q h
      · exact hL q h⟩, A.2.2.2.2⟩ hφ T' rfl X'
  refine ⟨t2, st2 t2 ?_, b1⟩
  rw [List.map_append] at a1
  have e9 : List.map (mm_v g) r.toList = (Option.map (mm_v g) r).toList := by cases r <;> rfl
  rw [e9] at a1
  exact a1
theorem mn_blind {g : mm_G} {av : List Value} {w : List mm_E} {nw : Nat} : FrameBlind (va_Pc av (fun U => (mm_H g w U.heap ∧ mm_K g U) ∧ mn_f g nw U)) := fun _ _ _ _ q => ⟨q.1, ⟨q.2.1.1, q.2.1.2.calling⟩, q.2.2.calling⟩
theorem mn_pre {nw : Nat} {p : Program} {s : State} {m : MethodId} {args : Array Value} {meth : Method} {c : Code} {H : Heap} {locs : List Loc} {lsA : Array Slot} {as : List Value} (A : mm_at g own cc nL ret ini w ls p s m args meth c H locs lsA) (F : mn_f g nw s) (hsz : H.size = g.2.2.1 + w.length) :
    ∀ U : State, U.heap = H → s.WarmedH U.vm → va_Pc (as.map (mm_v g)) (fun U => (mm_H g w U.heap ∧ mm_K g U) ∧ mn_f g w.length U) (as.map (mm_v g)).toArray U := fun U hU hW => ⟨rfl, ⟨by rw [hU]; exact A.2.2.1, A.2.1.moved hW (fun a h1 h2 => by rw [hU]; exact A.2.2.2.1.2.1 a h1 h2)⟩, F.on hW.alike (by rw [hU]; exact hsz)⟩
theorem mn_callI {nw : Nat} {y : MethodName} {bytes : ByteArray} {nL1 a1 idx a : Nat} {rm1 : Room} {as : List Value} {Q1 : Option Value → List mm_E → Prop} {st0 : List Value} (d : decode cc pc = .ok (.invokespecial idx, 3)) (hst : st0 = as.reverse ++ .ref a :: st) (ha : a < 999) (hl : Cond.methodLink own idx y ∈ mm_ok) (hm : mm_mk y bytes nL1 a1) (hn : as.length = a1) (h8 : (st.map fun v => v.category).sum ≤ 8) (hR : rm1.frames + 1 ≤ rm.frames ∧ 8 + (nL1 + 11) + rm1.locals ≤ rm.locals) (hf : k + rm1.cells ≤ rm.cells ∧ n + rm1.slots ≤ rm.slots) (hz : nw + k = w.length)
    (hM : mcn g y bytes nL1 rm1 (.ref a :: as) w Q1) (kk : ∀ (r : Option Value) (w1 : List mm_E), Q1 r w1 → mn (mn_f g nw) g own cc nL ret ini rm Q (k + rm1.cells) (n + rm1.slots) w1 (pc + 3) ls (r.toList ++ st)) : mn (mn_f g nw) g own cc nL ret ini rm Q k n w pc ls st0 := by
  intro p l e s m args below meth c H locs lsA A F T hT X
  have hsz := mn_sz A F hz hT X
  rw [mm_st hst, mm_v_ref ha]
  have hM1 := hM l
  rw [List.map_cons, mm_v_ref ha] at hM1
  refine mn_go (st := st) A F hT X (va_runI (As := as.map (mm_v g)) (rest := st.map (mm_v g)) (b := g.2.2.1 + a) (bytes := bytes) (maxL := nL1) (own := own) (index := idx) ⟨A.1.1, A.1.2.1, A.1.2.2.1, A.1.2.2.2.1, A.1.2.2.2.2.1⟩ hM1 (cwI a1 A.1.2.2.2.2.1 (mm_good hm.1) rfl rfl rfl (A.1.2.2.2.2.1 _ hm.2.2.2.1) (A.1.2.2.2.2.1 _ hl) (A.1.2.2.2.2.1 _ hm.2.1) hm.2.2.1 hm.2.2.2.2 hR) ⟨mn_blind, ?_⟩ rfl (by rw [List.length_map]; exact hn) A.2.2.2.2.1 rfl (lv_room (by rw [mm_cat_sum]; exact h8)) d hf) kk
  intro U hU hW
  have h := mn_pre (as := .ref a :: as) A F hsz U hU hW
  rw [List.map_cons, mm_v_ref ha] at h
  exact h
theorem mn_callIN {nw : Nat} {y : MethodName} {bytes : ByteArray} {nL1 a1 idx a : Nat} {host : String} {rm1 : Room} {as : List Value} {Q1 : Option Value → List mm_E → Prop} {st0 : List Value} (d : decode cc pc = .ok (.invokespecial idx, 3)) (hst : st0 = as.reverse ++ .ref a :: st) (ha : a < 999) (hl : Cond.methodLinkNest own idx y host ∈ mm_nest) (hm : mm_mk y bytes nL1 a1) (hn : as.length = a1) (h8 : (st.map fun v => v.category).sum ≤ 8) (hR : rm1.frames + 1 ≤ rm.frames ∧ 8 + (nL1 + 11) + rm1.locals ≤ rm.locals) (hf : k + rm1.cells ≤ rm.cells ∧ n + rm1.slots ≤ rm.slots) (hz : nw + k = w.length)
    (hM : mcn g y bytes nL1 rm1 (.ref a :: as) w Q1) (kk : ∀ (r : Option Value) (w1 : List mm_E), Q1 r w1 → mn (mn_f g nw) g own cc nL ret ini rm Q (k + rm1.cells) (n + rm1.slots) w1 (pc + 3) ls (r.toList ++ st)) : mn (mn_f g nw) g own cc nL ret ini rm Q k n w pc ls st0 := by
  intro p l e s m args below meth c H locs lsA A F T hT X
  have hsz := mn_sz A F hz hT X
  rw [mm_st hst, mm_v_ref ha]
  have hM1 := hM l
  rw [List.map_cons, mm_v_ref ha] at hM1
  refine mn_go (st := st) A F hT X (va_runIN (As := as.map (mm_v g)) (rest := st.map (mm_v g)) (b := g.2.2.1 + a) (bytes := bytes) (maxL := nL1) (own := own) (index := idx) ⟨A.1.1, A.1.2.1, A.1.2.2.1, A.1.2.2.2.1, A.1.2.2.2.2.1⟩ hM1 ⟨va_cnB a1 A.1.2.2.2.2.1 (mm_good hm.1) rfl rfl rfl (A.2.1.2.1 _ hl) (A.1.2.2.2.2.1 _ hm.2.2.2.1) hm.2.2.2.2 hR, hm.2.2.1, A.1.2.2.2.2.1 _ hm.2.1⟩ ⟨mn_blind, ?_⟩ rfl (by rw [List.length_map]; exact hn) A.2.2.2.2.1 rfl (lv_room (by rw [mm_cat_sum]; exact h8)) d hf) kk
  intro U hU hW
  have h := mn_pre (as := .ref a :: as) A F hsz U hU hW
  rw [List.map_cons, mm_v_ref ha] at h
  exact h
theorem mn_callV {y : MethodName} {bytes : ByteArray} {nL1 a1 idx a ci : Nat} {ret1 : Option FieldType} {rm1 : Room} {as : List Value} {fs : List Value} {C : String} {T : u_T} {N : Nat} {Q1 : Option Value → List mm_E → Prop} {st0 : List Value} (d : decode cc pc = .ok (.invokevirtual idx, 3)) (hst : st0 = as.reverse ++ .ref a :: st) (hw : w[a]? = some (.inl (ci, fs))) (hc : vwCl[ci]? = some (C, T, N)) (hy : y.cls = C) (hl : Cond.methodLink own idx y ∈ mm_ok) (hm : mm_mi y bytes nL1 ret1 a1) (hn : as.length = a1) (h8 : (st.map fun v => v.category).sum ≤ 8) (hR : rm1.frames + 1 ≤ rm.frames ∧ 8 + (nL1 + 11) + rm1.locals ≤ rm.locals) (hf : k + rm1.cells ≤ rm.cells ∧ n + rm1.slots ≤ rm.slots)
    (hM : mc g y bytes nL1 ret1 rm1 (.ref a :: as) w Q1) (kk : ∀ (r : Option Value) (w1 : List mm_E), Q1 r w1 → mn φ g own cc nL ret ini rm Q (k + rm1.cells) (n + rm1.slots) w1 (pc + 3) ls (r.toList ++ st)) : mn φ g own cc nL ret ini rm Q k n w pc ls st0 := by
  intro p l e s m args below meth c H locs lsA A hφ T1 hT X
  have ha := Nat.lt_of_lt_of_le (mm_lt hw) A.2.2.1.2.2
  subst hy
  rw [mm_st hst, mm_v_ref ha]
  have hM1 := hM l
  rw [List.map_cons, mm_v_ref ha] at hM1
  refine mn_go (st := st) A hφ hT X (va_runV (As := as.map (mm_v g)) (rest := st.map (mm_v g)) (b := g.2.2.1 + a) (C := y.cls) (bytes := bytes) (maxL := nL1) (ret := ret1) (own := own) (index := idx) ⟨A.1.1, A.1.2.1, A.1.2.2.1, A.1.2.2.2.1, A.1.2.2.2.2.1⟩ hM1 (cwV a1 A.1.2.2.2.2.1 (mm_goodV hl hm.2.1 hm.2.2.1 hm.2.2.2.1 (mm_good hm.1)) rfl rfl rfl ⟨rfl, hm.2.2.2.2⟩ hR) ⟨mm_blind, va_recv A.2.1.1 A.2.2.1.1 hc (mm_w_get hw), ?_⟩ rfl (by rw [List.length_map]; exact hn) A.2.2.2.2.1 rfl (lv_room (by rw [mm_cat_sum]; exact h8)) d hf) kk
  intro U hU hW
  have h := mm_pre (as := .ref a :: as) A U hU hW
  rw [List.map_cons, mm_v_ref ha] at h
  exact h
theorem mn_callS {y : MethodName} {bytes : ByteArray} {nL1 a1 idx : Nat} {ret1 : Option FieldType} {rm1 : Room} {as : List Value} {Q1 : Option Value → List mm_E → Prop} {st0 : List Value} (d : decode cc pc = .ok (.invokestatic idx, 3)) (hst : st0 = as.reverse ++ st) (hl : Cond.methodLink own idx y ∈ mm_ok) (hm : mm_ms y bytes nL1 ret1 a1) (hn : as.length = a1) (h8 : (st.map fun v => v.category).sum ≤ 8) (hR : rm1.frames + 1 ≤ rm.frames ∧ 8 + (nL1 + 11) + rm1.locals ≤ rm.locals) (hf : k + rm1.cells ≤ rm.cells ∧ n + rm1.slots ≤ rm.slots)
    (hM : mc g y bytes nL1 ret1 rm1 as w Q1) (kk : ∀ (r : Option Value) (w1 : List mm_E), Q1 r w1 → mn φ g own cc nL ret ini rm Q (k + rm1.cells) (n + rm1.slots) w1 (pc + 3) ls (r.toList ++ st)) : mn φ g own cc nL ret ini rm Q k n w pc ls st0 := by
  intro p l e s m args below meth c H locs lsA A hφ T1 hT X
  rw [mm_stS hst]
  exact mn_go (st := st) A hφ hT X (va_runS (As := as.map (mm_v g)) (rest := st.map (mm_v g)) (bytes := bytes) (maxL := nL1) (ret := ret1) (own := own) (index := idx) ⟨A.1.1, A.1.2.1, A.1.2.2.1, A.1.2.2.2.1, A.1.2.2.2.2.1⟩ (hM l) (va_cwS a1 A.1.2.2.2.2.1 (mm_goodS hl hm.2.1 hm.2.2.1 (mm_good hm.1)) rfl rfl rfl hm.2.2.2 hR) ⟨mm_blind, mm_pre A⟩ rfl (by rw [List.length_map]; exact hn) A.2.2.2.2.1 rfl (lv_room (by rw [mm_cat_sum]; exact h8)) d hf) kk
theorem mn_max {idx : Nat} {x y v : Int32} (hv : (if x < y then y else x) = v) (d : decode cc pc = .ok (.invokestatic idx, 3)) (hl : Cond.methodLink own idx Lib.Math.max.name ∈ mm_ok) (h8 : (st.map fun v => v.category).sum ≤ 8) (hR : 1 ≤ rm.frames ∧ 33 ≤ rm.locals) (hf : k ≤ rm.cells ∧ n ≤ rm.slots)
    (kk : mn φ g own cc nL ret ini rm Q k n w (pc + 3) ls (.int v :: st)) : mn φ g own cc nL ret ini rm Q k n w pc ls (.int y :: .int x :: st) := by
  subst hv
  intro p l e s m args below meth c H locs lsA A hφ T hT X
  exact va_mmax A.1.1 A.1.2.1 (A.1.2.2.1.trans A.2.2.2.2.1.symm) A.1.2.2.2.1 (A.1.2.2.2.2.1 _ hl) (A.1.2.2.2.2.1 _ mm_mx.2.1) (A.1.2.2.2.2.1 _ mm_mx.2.2) (A.1.2.2.2.2.1 _ mm_mx.1) hR.1 (by rw [mm_cat_sum]; omega) hf.1 hf.2 d (kk p l e s m args below meth c H locs lsA A hφ) T hT X
theorem mm_w_inv {g : mm_G} {w : List mm_E} {i : Nat} {x : Nat × va_E} (h : (mm_w g w)[i]? = some x) : ∃ e, w[i]? = some e ∧ x = (g.2.2.1 + i, mm_e g e) := by
  unfold mm_w at h
  rw [List.getElem?_mapIdx] at h
  cases h2 : w[i]? with
  | none => rw [h2] at h; cases h
  | some e => rw [h2] at h; exact ⟨e, rfl, (Option.some.inj h).symm⟩
theorem mm_D {g : mm_G} {w : List mm_E} (h : ∀ i, i < w.length → g.2.2.2.2 (g.2.2.1 + i)) : va_D g.2.2.2.2 (mm_w g w) := by
  refine ⟨fun i j x y hi hj hxy => ?_, fun i x hi => ?_⟩
  · obtain ⟨_, _, rfl⟩ := mm_w_inv hi
    obtain ⟨_, _, rfl⟩ := mm_w_inv hj
    have : g.2.2.1 + i = g.2.2.1 + j := hxy
    omega
  · obtain ⟨e, he, rfl⟩ := mm_w_inv hi
    exact h i (mm_lt he)
theorem mn_outer (c : ClassId) (N h0 : Nat) : ∀ i : Nat, Jvm.Free.Multi.outerC c N h0 i = arrV c N (fun j => va_rf (if j < i then some (h0 + 1 + j) else none))
  | 0 => by
    show ({ cls := c, slots := Array.replicate N .null, vm := .none } : Cell) = _
    rw [arrV_new]
    refine congrArg (arrV c N) (funext fun j => ?_)
    simp [va_rf]
  | i + 1 => by
    show (Jvm.Free.Multi.outerC c N h0 i).setSlot i (.ref (h0 + 1 + i)) = _
    rw [mn_outer c N h0 i, arrV_store]
    refine congrArg (arrV c N) (funext fun j => ?_)
    by_cases e : j = i
    · subst e
      simp [updV, va_rf]
    · by_cases h : j < i
      · simp [updV, e, h, Nat.lt_succ_of_lt h]
      · simp [updV, e, h, show ¬ j < i + 1 by omega]
theorem mn_mna {nw N K idx : Nat} {x y : Int32} (d : decode cc pc = .ok (.multianewarray idx 2, 4)) (hcl : Cond.classLink own idx ("[" ++ (FieldType.array .int).toString) ∈ mm_ok) (ha : Cond.arrayClass .int ∈ mm_ok) (hx : ¬ x < 0) (hy : ¬ y < 0) (hN : x.toNatClampNeg = N) (hK : y.toNatClampNeg = K) (hb : N * 4 ≤ 536870912 ∧ K * 4 ≤ 536870912) (hz : nw + k = w.length) (hl9 : w.length + N < 999) (hcs : k + (1 + N) ≤ rm.cells ∧ n + (N + N * K) ≤ rm.slots)
    (kk : mn (mn_f g nw) g own cc nL ret ini rm Q (k + 1 + N) (n + N + N * K) (w ++ (.inr (4, N, .inr (fun i => if i < N then some (w.length + 1 + i) else none)) :: List.replicate N (.inr (0, K, .inl (fun _ => 0))))) (pc + 4) ls (.ref w.length :: st)) : mn (mn_f g nw) g own cc nL ret ini rm Q k n w pc ls (.int y :: .int x :: st) := by
  intro p l e s m args below meth c H locs lsA A F T hT Xs
  subst hN
  subst hK
  have hsz := mn_sz A F hz hT Xs
  obtain ⟨vm₁, cA, comp, -, fA, fC, hO, -, X', step⟩ := Xs.multianewarray2F A.1.1 A.1.2.2.2.1 (A.1.2.2.2.2.1 _ hcl) (show (Cond.arrayOver (.array .int)).before args s = true from F.2.2.2.1) (A.1.2.2.2.2.1 _ ha) (g := F0 m pc lsA (.int y :: .int x :: st.map (mm_v g))) rfl (by rw [A.1.2.1]; exact d) rfl hx hy hb.1 hb.2 (by omega) rfl rfl hcs.1 hcs.2
  have hcA : cA = g.2.2.2.1 4 := Option.some.inj (fA.symm.trans (A.2.1.1.2 4 _ rfl).2)
  have hcI : comp = g.2.2.2.1 0 := Option.some.inj (fC.symm.trans (A.2.1.1.2 0 _ rfl).2)
  subst hcA
  subst hcI
  generalize hF : Jvm.Free.Multi.fill (T.setVm vm₁) (g.2.2.2.1 4) (g.2.2.2.1 0) x.toNatClampNeg y.toNatClampNeg (defaultValue .int) x.toNatClampNeg = F1 at X' step
  have hTh : (T.setVm vm₁).heap = H := hT
  obtain ⟨f1, f2, -, -⟩ := Jvm.Free.Multi.fill_facts (T.setVm vm₁) (g.2.2.2.1 4) (g.2.2.2.1 0) x.toNatClampNeg y.toNatClampNeg (defaultValue .int) x.toNatClampNeg
  rw [hF, hTh] at f1 f2
  have hold : ∀ q : Nat, q < H.size → F1.heap[q]? = H[q]? := fun q hq => by
    have := Jvm.Free.Multi.fill_old (T.setVm vm₁) (g.2.2.2.1 4) (g.2.2.2.1 0) x.toNatClampNeg y.toNatClampNeg (defaultValue .int) (a := q) (by rw [hTh]; exact hq) x.toNatClampNeg
    rw [hF, hTh] at this
    exact this
  have hrow : ∀ j : Nat, j < x.toNatClampNeg → F1.heap[H.size + 1 + j]? = some (vp_cell (g.2.2.2.1 0) (y.toNatClampNeg, .inl (fun _ => 0))) := fun j hj => by
    have := Jvm.Free.Multi.fill_inner (T.setVm vm₁) (g.2.2.2.1 4) (g.2.2.2.1 0) x.toNatClampNeg y.toNatClampNeg (defaultValue .int) x.toNatClampNeg j hj
    rw [hF, hTh] at this
    rw [this]
    show some ({ cls := _, slots := Array.replicate _ _, vm := .none } : Cell) = _
    rw [arrV_new]
    rfl
  have hS := A.2.2.2.1
  have hP := A.2.2.1.1
  have hlen : (w ++ (.inr (4, x.toNatClampNeg, .inr (fun i => if i < x.toNatClampNeg then some (w.length + 1 + i) else none)) :: List.replicate x.toNatClampNeg (.inr (0, y.toNatClampNeg, .inl (fun _ => 0))) : List mm_E)).length = w.length + 1 + x.toNatClampNeg := by
    rw [List.length_append, List.length_cons, List.length_replicate]
    omega
  have hat : mm_at g own cc nL ret ini (w ++ (.inr (4, x.toNatClampNeg, .inr (fun i => if i < x.toNatClampNeg then some (w.length + 1 + i) else none)) :: List.replicate x.toNatClampNeg (.inr (0, y.toNatClampNeg, .inl (fun _ => 0))))) ls p s m args meth c F1.heap locs lsA := by
    refine ⟨A.1, A.2.1, ⟨fun i q hq => ?_, mm_D (fun i _ => F.2.2.2.2 _ (Nat.le_add_right _ _)), by rw [hlen]; omega⟩, ⟨by rw [f1]; have := hS.1; omega, fun q h1 h2 => (hold q (Nat.lt_of_lt_of_le h1 hS.1)).trans (hS.2.1 q h1 h2), hS.2.2⟩, A.2.2.2.2⟩
    obtain ⟨e1, he, rfl⟩ := mm_w_inv hq
    by_cases h1 : i < w.length
    · rw [List.getElem?_append_left h1] at he
      exact (hP i _ (mm_w_get he)).kept (hold _ ((hP i _ (mm_w_get he)).lt))
    · rw [List.getElem?_append_right (by omega)] at he
      by_cases h2 : i = w.length
      · subst h2
        rw [Nat.sub_self] at he
        cases he
        show F1.heap[g.2.2.1 + w.length]? = some (vp_cell _ _)
        rw [← hsz, f2, mn_outer]
        refine congrArg some ?_
        refine Eq.trans ?_ (vp_cell_q _ _ _).symm
        refine congrArg (arrV _ _) (funext fun j => congrArg va_rf ?_)
        by_cases hj : j < x.toNatClampNeg
        · simp only [hj, if_true, Option.map_some]
          rw [hsz]
          congr 1
          omega
        · simp only [hj, if_false, Option.map_none]
      · obtain ⟨j, hj⟩ : ∃ j, i - w.length = j + 1 := ⟨i - w.length - 1, by omega⟩
        rw [hj, List.getElem?_cons_succ, List.getElem?_replicate] at he
        by_cases h3 : j < x.toNatClampNeg
        · rw [if_pos h3] at he
          cases he
          show F1.heap[g.2.2.1 + i]? = some (vp_cell _ _)
          rw [show g.2.2.1 + i = H.size + 1 + j by omega]
          exact hrow j h3
        · rw [if_neg h3] at he
          cases he
  obtain ⟨t, a1, b1⟩ := kk p l e s m args below meth c F1.heap locs lsA hat F F1 rfl X'
  refine ⟨t, step t ?_, b1⟩
  rw [List.map_cons, mm_v_ref (by omega : w.length < 999)] at a1
  rw [hT, hsz]
  exact a1
end MN
/-! ===== constructors: worlds cut behind what was there ===== -/
theorem kc_AI : Cond.arrayClass .int ∈ mm_ok := mm_in 121 (by decide +kernel) rfl
theorem kc_AZ : Cond.arrayClass .boolean ∈ mm_ok := mm_in 992 (by decide +kernel) rfl
theorem kc_O1 : Cond.instanceMethod Lib.objectInit ∈ mm_ok := mm_in 91 (by decide +kernel) rfl
theorem kc_O2 : Cond.code Lib.objectInit ⟨#[0xb1]⟩ 1 none ∈ mm_ok := mm_in 92 (by decide +kernel) rfl
def mn_cls (C : String) (ci : Nat) (T : u_T) (N : Nat) (fs : List Value) : Prop := Cond.instantiable C N ∈ mm_ok ∧ Cond.initialized C ∈ mm_ok ∧ vwCl[ci]? = some (C, T, N) ∧ ∃ ty : Nat → FieldType, (∀ k, k < N → parseFieldDescriptor (T k).2.2.1 = some (ty k)) ∧ (∀ j, j < N → defaultValue (ty j) = vp_V fs j) ∧ ∀ g : mm_G, fs.map (mm_v g) = fs
def df0 : List Value := [.null, .null, .null]
theorem kc_D0 : mn_cls RX0 0 TX0 3 df0 := ⟨mm_in 263 (by decide +kernel) rfl, mm_in 81 (by decide +kernel) rfl, rfl, tyX0, tyX0_ok, by decide +kernel, fun _ => rfl⟩
def df1 : List Value := [.int 0]
theorem kc_D1 : mn_cls RX1 1 TX1 1 df1 := ⟨mm_in 216 (by decide +kernel) rfl, mm_in 77 (by decide +kernel) rfl, rfl, tyX1, tyX1_ok, by decide +kernel, fun _ => rfl⟩
def df2 : List Value := [.int 0, .null, .null]
theorem kc_D2 : mn_cls RX2 2 TX2 3 df2 := ⟨mm_in 227 (by decide +kernel) rfl, mm_in 78 (by decide +kernel) rfl, rfl, tyX2, tyX2_ok, by decide +kernel, fun _ => rfl⟩
def df3 : List Value := [.int 0, .int 0, .int 0, .null, .null, .null, .null]
theorem kc_D3 : mn_cls RX3 3 TX3 7 df3 := ⟨mm_in 164 (by decide +kernel) rfl, mm_in 75 (by decide +kernel) rfl, rfl, tyX3, tyX3_ok, by decide +kernel, fun _ => rfl⟩
def df4 : List Value := [.int 0, .int 0, .null]
theorem kc_D4 : mn_cls RX4 4 TX4 3 df4 := ⟨mm_in 280 (by decide +kernel) rfl, mm_in 82 (by decide +kernel) rfl, rfl, tyX4, tyX4_ok, by decide +kernel, fun _ => rfl⟩
def df5 : List Value := [.int 0, .int 0, .null]
theorem kc_D5 : mn_cls RX5 5 TX5 3 df5 := ⟨mm_in 247 (by decide +kernel) rfl, mm_in 80 (by decide +kernel) rfl, rfl, tyX5, tyX5_ok, by decide +kernel, fun _ => rfl⟩
def df6 : List Value := [.int 0, .int 0, .int 0, .int 0, .null, .null, .null, .null, .null]
theorem kc_D6 : mn_cls RX6 6 TX6 9 df6 := ⟨mm_in 123 (by decide +kernel) rfl, mm_in 74 (by decide +kernel) rfl, rfl, tyX6, tyX6_ok, by decide +kernel, fun _ => rfl⟩
def df7 : List Value := [.int 0, .int 0, .null]
theorem kc_D7 : mn_cls RX7 7 TX7 3 df7 := ⟨mm_in 194 (by decide +kernel) rfl, mm_in 76 (by decide +kernel) rfl, rfl, tyX7, tyX7_ok, by decide +kernel, fun _ => rfl⟩
def df8 : List Value := [.int 0, .int 0, .int 0, .int 0, .int 0, .null]
theorem kc_D8 : mn_cls RX8 8 TX8 6 df8 := ⟨mm_in 94 (by decide +kernel) rfl, mm_in 73 (by decide +kernel) rfl, rfl, tyX8, tyX8_ok, by decide +kernel, fun _ => rfl⟩
def df9 : List Value := [.null, .null, .null, .null, .null, .null, .null, .null, .null, .null, .null, .null, .null]
theorem kc_D9 : mn_cls RX9 9 TX9 13 df9 := ⟨mm_in 86 (by decide +kernel) rfl, mm_in 72 (by decide +kernel) rfl, rfl, tyX9, tyX9_ok, by decide +kernel, fun _ => rfl⟩
def df10 : List Value := [.null, .null, .null, .null, .null, .int 0, .null, .null, .long 0, .null, .int 0, .int 0, .null, .int 0, .null, .int 0, .null, .int 0, .int 0, .int 0, .int 0, .int 0, .int 0, .int 0, .null]
theorem kc_D10 : mn_cls RX10 10 TX10 25 df10 := ⟨mm_in 896 (by decide +kernel) rfl, mm_in 83 (by decide +kernel) rfl, rfl, tyX10, tyX10_ok, by decide +kernel, fun _ => rfl⟩
theorem mp_g {w t : List mm_E} {b i a : Nat} {e : mm_E} (hb : w.length = b) (ha : b + i = a) (h : t[i]? = some e) : (w ++ t)[a]? = some e := by
  subst hb
  subst ha
  rw [List.getElem?_append_right (Nat.le_add_right _ _), Nat.add_sub_cancel_left]
  exact h
theorem mp_s {w t t' : List mm_E} {b i a : Nat} {e : mm_E} (hb : w.length = b) (ha : b + i = a) (h : t.set i e = t') : (w ++ t).set a e = w ++ t' := by
  subst hb
  subst ha
  subst h
  rw [List.set_append_right _ _ (Nat.le_add_right _ _), Nat.add_sub_cancel_left]
theorem mp_l {w t : List mm_E} {b j : Nat} (hb : w.length = b) (hj : t.length = j) : (w ++ t).length = b + j := by
  rw [List.length_append, hb, hj]
section MP
variable {φ : State → Prop} {g : mm_G} {own : String} {cc : ByteArray} {nL : Nat} {ret : Option FieldType} {ini : Bool} {rm : Room} {Q : Option Value → List mm_E → Prop} {k n : Nat} {w t t' : List mm_E} {pc : Nat} {ls : List (Nat × Value)} {st : List Value} {b j nw : Nat}
theorem mp_newi {N : Nat} {x : Int32} (hb : w.length = b) (d : decode cc pc = .ok (.newarray .int, 2)) (hj : t.length = j) (ht : t ++ [.inr (0, N, .inl (fun _ => 0))] = t') (h4 : N * 4 ≤ 536870912) (hx : ¬ x < 0) (hN : x.toNatClampNeg = N) (hz : nw + k = b + j) (h9 : b + j < 999) (hcs : k + 1 ≤ rm.cells ∧ n + N ≤ rm.slots)
    (kk : mn (mn_f g nw) g own cc nL ret ini rm Q (k + 1) (n + N) (w ++ t') (pc + 2) ls (.ref (b + j) :: st)) : mn (mn_f g nw) g own cc nL ret ini rm Q k n (w ++ t) pc ls (.int x :: st) := by
  subst ht
  have e := mp_l hb hj
  refine mn_newi d kc_AI h4 hx hN (by rw [e]; exact hz) (by rw [e]; exact h9) hcs ?_
  rw [e, List.append_assoc]
  exact kk
theorem mp_newz {N : Nat} {x : Int32} (hb : w.length = b) (d : decode cc pc = .ok (.newarray .boolean, 2)) (hj : t.length = j) (ht : t ++ [.inr (1, N, .inl (fun _ => 0))] = t') (h4 : N * 1 ≤ 536870912) (hx : ¬ x < 0) (hN : x.toNatClampNeg = N) (hz : nw + k = b + j) (h9 : b + j < 999) (hcs : k + 1 ≤ rm.cells ∧ n + N ≤ rm.slots)
    (kk : mn (mn_f g nw) g own cc nL ret ini rm Q (k + 1) (n + N) (w ++ t') (pc + 2) ls (.ref (b + j) :: st)) : mn (mn_f g nw) g own cc nL ret ini rm Q k n (w ++ t) pc ls (.int x :: st) := by
  subst ht
  have e := mp_l hb hj
  refine mn_newz d kc_AZ h4 hx hN (by rw [e]; exact hz) (by rw [e]; exact h9) hcs ?_
  rw [e, List.append_assoc]
  exact kk
theorem mp_anew {N t0 idx : Nat} {C : String} {x : Int32} (hb : w.length = b) (d : decode cc pc = .ok (.anewarray idx, 3)) (hcl : Cond.classLink own idx C ∈ mm_ok) (ho : ∀ s : State, mn_f g nw s → va_AO C s) (hty : (mm_tys g)[t0]? = some (g.2.2.2.1 t0, .object C)) (hj : t.length = j) (ht : t ++ [.inr (t0, N, .inr (fun _ => none))] = t') (h4 : N * 4 ≤ 536870912) (hx : ¬ x < 0) (hN : x.toNatClampNeg = N) (hz : nw + k = b + j) (h9 : b + j < 999) (hcs : k + 1 ≤ rm.cells ∧ n + N ≤ rm.slots)
    (kk : mn (mn_f g nw) g own cc nL ret ini rm Q (k + 1) (n + N) (w ++ t') (pc + 3) ls (.ref (b + j) :: st)) : mn (mn_f g nw) g own cc nL ret ini rm Q k n (w ++ t) pc ls (.int x :: st) := by
  subst ht
  have e := mp_l hb hj
  refine mn_anew d hcl ho hty h4 hx hN (by rw [e]; exact hz) (by rw [e]; exact h9) hcs ?_
  rw [e, List.append_assoc]
  exact kk
theorem mp_new {N idx ci : Nat} {C : String} {T : u_T} {fs : List Value} (hb : w.length = b) (d : decode cc pc = .ok (.new idx, 3)) (hcl : Cond.classLink own idx C ∈ mm_ok) (hq : mn_cls C ci T N fs) (hj : t.length = j) (ht : t ++ [.inl (ci, fs)] = t') (hz : nw + k = b + j) (h9 : b + j < 999) (hcs : k + 1 ≤ rm.cells ∧ n + N ≤ rm.slots)
    (kk : mn (mn_f g nw) g own cc nL ret ini rm Q (k + 1) (n + N) (w ++ t') (pc + 3) ls (.ref (b + j) :: st)) : mn (mn_f g nw) g own cc nL ret ini rm Q k n (w ++ t) pc ls st := by
  subst ht
  have e := mp_l hb hj
  obtain ⟨h1, h2, h3, ty, h5, h6, h7⟩ := hq
  refine mn_new d hcl h1 h2 h3 ty h5 h6 h7 (by rw [e]; exact hz) (by rw [e]; exact h9) hcs ?_
  rw [e, List.append_assoc]
  exact kk
theorem mp_mna {N K idx : Nat} {x y : Int32} (hb : w.length = b) (d : decode cc pc = .ok (.multianewarray idx 2, 4)) (hcl : Cond.classLink own idx ("[" ++ (FieldType.array .int).toString) ∈ mm_ok) (hj : t.length = j) (ht : t ++ (.inr (4, N, .inr (fun i => if i < N then some (b + j + 1 + i) else none)) :: List.replicate N (.inr (0, K, .inl (fun _ => 0)))) = t') (hx : ¬ x < 0) (hy : ¬ y < 0) (hN : x.toNatClampNeg = N) (hK : y.toNatClampNeg = K) (h4 : N * 4 ≤ 536870912 ∧ K * 4 ≤ 536870912) (hz : nw + k = b + j) (h9 : b + j + N < 999) (hcs : k + (1 + N) ≤ rm.cells ∧ n + (N + N * K) ≤ rm.slots)
    (kk : mn (mn_f g nw) g own cc nL ret ini rm Q (k + 1 + N) (n + N + N * K) (w ++ t') (pc + 4) ls (.ref (b + j) :: st)) : mn (mn_f g nw) g own cc nL ret ini rm Q k n (w ++ t) pc ls (.int y :: .int x :: st) := by
  subst ht
  have e := mp_l hb hj
  refine mn_mna d hcl kc_AI hx hy hN hK h4 (by rw [e]; exact hz) (by rw [e]; exact h9) hcs ?_
  rw [e, List.append_assoc]
  exact kk
theorem mp_putF {a i ci f idx N : Nat} {fs : List Value} {C : String} {T : u_T} {ty : FieldType} {v : Value} (hb : w.length = b) (hi : ini = true) (d : decode cc pc = .ok (.putfield idx, 3)) (ha : b + i = a) (hw : t[i]? = some (.inl (ci, fs))) (hc : vwCl[ci]? = some (C, T, N)) (hj : f < N) (hl : Cond.fieldLink own idx (T f).1 (T f).2.1 (T f).2.2.1 ∈ mm_ok) (hf : (T f).2.2.2 = true) (ho : (T f).1 = own) (hd : parseFieldDescriptor (T f).2.2.1 = some ty) (hn : narrow ty v = v) (hfit : fits ty v = true) (hlen : f < fs.length) (ht : t.set i (.inl (ci, fs.set f v)) = t')
    (kk : mn φ g own cc nL ret ini rm Q k n (w ++ t') (pc + 3) ls st) : mn φ g own cc nL ret ini rm Q k n (w ++ t) pc ls (v :: .ref a :: st) :=
  mn_putF hi d (mp_g hb ha hw) hc hj hl hf ho hd hn hfit hlen (by rw [mp_s hb ha ht]; exact kk)
theorem mp_put {a i ci f idx N : Nat} {fs : List Value} {C : String} {T : u_T} {ty : FieldType} {v : Value} (hb : w.length = b) (d : decode cc pc = .ok (.putfield idx, 3)) (ha : b + i = a) (hw : t[i]? = some (.inl (ci, fs))) (hc : vwCl[ci]? = some (C, T, N)) (hj : f < N) (hl : Cond.fieldLink own idx (T f).1 (T f).2.1 (T f).2.2.1 ∈ mm_ok) (hf : (T f).2.2.2 = false) (hd : parseFieldDescriptor (T f).2.2.1 = some ty) (hn : narrow ty v = v) (hfit : fits ty v = true) (hlen : f < fs.length) (ht : t.set i (.inl (ci, fs.set f v)) = t')
    (kk : mn φ g own cc nL ret ini rm Q k n (w ++ t') (pc + 3) ls st) : mn φ g own cc nL ret ini rm Q k n (w ++ t) pc ls (v :: .ref a :: st) :=
  mn_put d (mp_g hb ha hw) hc hj hl hf hd hn hfit hlen (by rw [mp_s hb ha ht]; exact kk)
theorem mp_get {a i ci f idx N : Nat} {fs : List Value} {C : String} {T : u_T} {v : Value} (hb : w.length = b) (d : decode cc pc = .ok (.getfield idx, 3)) (ha : b + i = a) (hw : t[i]? = some (.inl (ci, fs))) (hc : vwCl[ci]? = some (C, T, N)) (hj : f < N) (hl : Cond.fieldLink own idx (T f).1 (T f).2.1 (T f).2.2.1 ∈ mm_ok) (hv : fs[f]? = some v)
    (kk : mn φ g own cc nL ret ini rm Q k n (w ++ t) (pc + 3) ls (v :: st)) : mn φ g own cc nL ret ini rm Q k n (w ++ t) pc ls (.ref a :: st) :=
  mn_get d (mp_g hb ha hw) hc hj hl hv kk
theorem mp_alen {a i t0 N : Nat} {f : (Nat → Int32) ⊕ (Nat → Option Nat)} {ty : FieldType} {v : Int32} (hb : w.length = b) (d : decode cc pc = .ok (.arraylength, 1)) (ha : b + i = a) (hw : t[i]? = some (.inr (t0, N, f))) (hty : (mm_tys g)[t0]? = some (g.2.2.2.1 t0, ty)) (hv : Int32.ofNat N = v)
    (kk : mn φ g own cc nL ret ini rm Q k n (w ++ t) (pc + 1) ls (.int v :: st)) : mn φ g own cc nL ret ini rm Q k n (w ++ t) pc ls (.ref a :: st) :=
  mn_alen d (mp_g hb ha hw) hty hv kk
theorem mp_aast {a v i1 i2 t0 ci N : Nat} {r : vw_C} {l l' : List Nat} {vs : List Value} {x : Int32} (hb : w.length = b) (d : decode cc pc = .ok (.aastore, 1)) (ha : b + i1 = a) (hw : t[i1]? = some (.inr (t0, N, .inr (fun j => l[j]?)))) (hty : (mm_tys g)[t0]? = some (g.2.2.2.1 t0, .object r.1)) (hv1 : b + i2 = v) (hv : t[i2]? = some (.inl (ci, vs))) (hc : vwCl[ci]? = some r) (hin : vp_in x N) (hx : x.toNatClampNeg = l.length) (hl' : l ++ [v] = l') (ht : t.set i1 (.inr (t0, N, .inr (fun j => l'[j]?))) = t')
    (kk : mn φ g own cc nL ret ini rm Q k n (w ++ t') (pc + 1) ls st) : mn φ g own cc nL ret ini rm Q k n (w ++ t) pc ls (.ref v :: .int x :: .ref a :: st) := by
  subst hl'
  exact mn_aast d (mp_g hb ha hw) hty (mp_g hb hv1 hv) hc hin hx (by rw [mp_s hb ha ht]; exact kk)
/-- a constructor at the cell that was made last -/
def mp_ctor (g : mm_G) (y : MethodName) (cc : ByteArray) (nL : Nat) (rm : Room) (as : List Value) (o : mm_E) (res : Nat → List mm_E) (K : Nat) : Prop :=
  ∀ (w : List mm_E) (b : Nat), w.length = b → b + K < 999 → mcn g y cc nL rm (.ref b :: as) (w ++ [o]) (fun r w1 => r = none ∧ w1 = w ++ res b)
theorem mp_callI {y : MethodName} {bytes : ByteArray} {nL1 a1 idx a K : Nat} {rm1 : Room} {as : List Value} {st0 : List Value} {t0 : List mm_E} {o : mm_E} {res : Nat → List mm_E} (hb : w.length = b) (d : decode cc pc = .ok (.invokespecial idx, 3)) (hl : Cond.methodLink own idx y ∈ mm_ok) (hM : mp_ctor g y bytes nL1 rm1 as o res K) (hst : st0 = as.reverse ++ .ref a :: st) (hj : t0.length = j) (ha : b + j = a) (ht0 : t0 ++ [o] = t) (ht : t0 ++ res a = t') (h9 : a + K < 999) (hm : mm_mk y bytes nL1 a1) (hn : as.length = a1) (h8 : (st.map fun v => v.category).sum ≤ 8) (hR : rm1.frames + 1 ≤ rm.frames ∧ 8 + (nL1 + 11) + rm1.locals ≤ rm.locals) (hf : k + rm1.cells ≤ rm.cells ∧ n + rm1.slots ≤ rm.slots) (hz : nw + k = a + 1)
    (kk : mn (mn_f g nw) g own cc nL ret ini rm Q (k + rm1.cells) (n + rm1.slots) (w ++ t') (pc + 3) ls st) : mn (mn_f g nw) g own cc nL ret ini rm Q k n (w ++ t) pc ls st0 := by
  subst ht0
  subst ht
  subst ha
  have e := mp_l hb hj
  rw [← List.append_assoc]
  refine mn_callI d hst (by omega) hl hm hn h8 hR hf (by rw [List.length_append, e]; exact hz) (hM (w ++ t0) (b + j) e h9) (fun r w1 hq => ?_)
  obtain ⟨rfl, rfl⟩ := hq
  rw [List.append_assoc]
  exact kk
theorem mp_callIN {y : MethodName} {bytes : ByteArray} {nL1 a1 idx a K : Nat} {host : String} {rm1 : Room} {as : List Value} {st0 : List Value} {t0 : List mm_E} {o : mm_E} {res : Nat → List mm_E} (hb : w.length = b) (d : decode cc pc = .ok (.invokespecial idx, 3)) (hl : Cond.methodLinkNest own idx y host ∈ mm_nest) (hM : mp_ctor g y bytes nL1 rm1 as o res K) (hst : st0 = as.reverse ++ .ref a :: st) (hj : t0.length = j) (ha : b + j = a) (ht0 : t0 ++ [o] = t) (ht : t0 ++ res a = t') (h9 : a + K < 999) (hm : mm_mk y bytes nL1 a1) (hn : as.length = a1) (h8 : (st.map fun v => v.category).sum ≤ 8) (hR : rm1.frames + 1 ≤ rm.frames ∧ 8 + (nL1 + 11) + rm1.locals ≤ rm.locals) (hf : k + rm1.cells ≤ rm.cells ∧ n + rm1.slots ≤ rm.slots) (hz : nw + k = a + 1)
    (kk : mn (mn_f g nw) g own cc nL ret ini rm Q (k + rm1.cells) (n + rm1.slots) (w ++ t') (pc + 3) ls st) : mn (mn_f g nw) g own cc nL ret ini rm Q k n (w ++ t) pc ls st0 := by
  subst ht0
  subst ht
  subst ha
  have e := mp_l hb hj
  rw [← List.append_assoc]
  refine mn_callIN d hst (by omega) hl hm hn h8 hR hf (by rw [List.length_append, e]; exact hz) (hM (w ++ t0) (b + j) e h9) (fun r w1 hq => ?_)
  obtain ⟨rfl, rfl⟩ := hq
  rw [List.append_assoc]
  exact kk
theorem mp_of {y : MethodName} {rm : Room} {as : List Value} {K : Nat} {o : mm_E} {res : Nat → List mm_E} (hy : plainName y.cls = true) (hn : ∀ b : Nat, (lg_sl (.ref b :: as)).length ≤ nL) (ho : y.cls = own) (hi : y.name = "<init>")
    (h : ∀ (w : List mm_E) (b : Nat), w.length = b → b + K < 999 → mn (mn_f g (b + 1)) g own cc nL none true rm (fun r w1 => r = none ∧ w1 = w ++ res b) 0 0 (w ++ [o]) 0 (lv_args 0 (.ref b :: as)) []) : mp_ctor g y cc nL rm as o res K := by
  intro w b hb h9
  refine mcn_of hy (hn b) ho hi rfl ?_
  rw [List.length_append, hb]
  exact h w b hb h9
end MP
/-! ===== constructors, printed ===== -/
theorem ko_RX0 : Cond.methodLink RX0 3 Lib.objectInit ∈ mm_ok := mm_in 267 (by decide +kernel) rfl
theorem kc_RX0_18 : Cond.classLink RX0 18 ("[" ++ (FieldType.array .int).toString) ∈ mm_ok := mm_in 268 (by decide +kernel) rfl
theorem ko_RX1 : Cond.methodLink RX1 1 Lib.objectInit ∈ mm_ok := mm_in 220 (by decide +kernel) rfl
theorem ko_RX2 : Cond.methodLink RX2 3 Lib.objectInit ∈ mm_ok := mm_in 231 (by decide +kernel) rfl
theorem kmx_RX2 : Cond.methodLink RX2 9 Lib.Math.max.name ∈ mm_ok := mm_in 232 (by decide +kernel) rfl
theorem ko_RX3 : Cond.methodLink RX3 3 Lib.objectInit ∈ mm_ok := mm_in 168 (by decide +kernel) rfl
theorem ko_RX5 : Cond.methodLink RX5 3 Lib.objectInit ∈ mm_ok := mm_in 251 (by decide +kernel) rfl
theorem ko_RX6 : Cond.methodLink RX6 3 Lib.objectInit ∈ mm_ok := mm_in 127 (by decide +kernel) rfl
theorem ko_RX8 : Cond.methodLink RX8 3 Lib.objectInit ∈ mm_ok := mm_in 98 (by decide +kernel) rfl
theorem ko_RX4 : Cond.methodLink RX4 1 Lib.objectInit ∈ mm_ok := mm_in 284 (by decide +kernel) rfl
theorem kc_RX4_7 : Cond.classLink RX4 7 RX3 ∈ mm_ok := mm_in 285 (by decide +kernel) rfl
theorem gX0_9 : Cond.fieldLink RX0 9 (TX0 0).1 (TX0 0).2.1 (TX0 0).2.2.1 ∈ mm_ok := mm_in 270 (by decide +kernel) rfl
theorem gX0_15 : Cond.fieldLink RX0 15 (TX0 1).1 (TX0 1).2.1 (TX0 1).2.2.1 ∈ mm_ok := mm_in 271 (by decide +kernel) rfl
theorem gX0_20 : Cond.fieldLink RX0 20 (TX0 2).1 (TX0 2).2.1 (TX0 2).2.2.1 ∈ mm_ok := mm_in 272 (by decide +kernel) rfl
theorem gX2_15 : Cond.fieldLink RX2 15 (TX2 1).1 (TX2 1).2.1 (TX2 1).2.2.1 ∈ mm_ok := mm_in 237 (by decide +kernel) rfl
theorem gX2_21 : Cond.fieldLink RX2 21 (TX2 2).1 (TX2 2).2.1 (TX2 2).2.2.1 ∈ mm_ok := mm_in 238 (by decide +kernel) rfl
theorem gX3_9 : Cond.fieldLink RX3 9 (TX3 3).1 (TX3 3).2.1 (TX3 3).2.2.1 ∈ mm_ok := mm_in 174 (by decide +kernel) rfl
theorem gX3_15 : Cond.fieldLink RX3 15 (TX3 4).1 (TX3 4).2.1 (TX3 4).2.2.1 ∈ mm_ok := mm_in 175 (by decide +kernel) rfl
theorem gX3_18 : Cond.fieldLink RX3 18 (TX3 5).1 (TX3 5).2.1 (TX3 5).2.2.1 ∈ mm_ok := mm_in 176 (by decide +kernel) rfl
theorem gX3_21 : Cond.fieldLink RX3 21 (TX3 6).1 (TX3 6).2.1 (TX3 6).2.2.1 ∈ mm_ok := mm_in 177 (by decide +kernel) rfl
theorem gX5_9 : Cond.fieldLink RX5 9 (TX5 2).1 (TX5 2).2.1 (TX5 2).2.2.1 ∈ mm_ok := mm_in 254 (by decide +kernel) rfl
theorem gX6_9 : Cond.fieldLink RX6 9 (TX6 4).1 (TX6 4).2.1 (TX6 4).2.2.1 ∈ mm_ok := mm_in 139 (by decide +kernel) rfl
theorem gX6_15 : Cond.fieldLink RX6 15 (TX6 5).1 (TX6 5).2.1 (TX6 5).2.2.1 ∈ mm_ok := mm_in 140 (by decide +kernel) rfl
theorem gX6_18 : Cond.fieldLink RX6 18 (TX6 6).1 (TX6 6).2.1 (TX6 6).2.2.1 ∈ mm_ok := mm_in 141 (by decide +kernel) rfl
theorem gX6_21 : Cond.fieldLink RX6 21 (TX6 7).1 (TX6 7).2.1 (TX6 7).2.2.1 ∈ mm_ok := mm_in 142 (by decide +kernel) rfl
theorem gX6_24 : Cond.fieldLink RX6 24 (TX6 8).1 (TX6 8).2.1 (TX6 8).2.2.1 ∈ mm_ok := mm_in 143 (by decide +kernel) rfl
theorem gX8_9 : Cond.fieldLink RX8 9 (TX8 2).1 (TX8 2).2.1 (TX8 2).2.2.1 ∈ mm_ok := mm_in 103 (by decide +kernel) rfl
theorem gX8_15 : Cond.fieldLink RX8 15 (TX8 5).1 (TX8 5).2.1 (TX8 5).2.2.1 ∈ mm_ok := mm_in 107 (by decide +kernel) rfl
theorem qmX4_9 : Cond.methodLinkNest RX4 9 yX3_init "VoiceWills" ∈ mm_nest := mm_inN 286 (by decide +kernel) rfl
theorem tk_X3_init : mm_mk yX3_init cX3_init 1 0 := ⟨mm_in 167 (by decide +kernel) rfl, mm_in 166 (by decide +kernel) rfl, rfl, mm_in 75 (by decide +kernel) rfl, by decide, by decide, by decide +kernel⟩
theorem gX4_10 : Cond.fieldLink RX4 10 (TX4 2).1 (TX4 2).2.1 (TX4 2).2.2.1 ∈ mm_ok := mm_in 289 (by decide +kernel) rfl
def rs_choir (b : Nat) : List mm_E := [.inl (0, [.ref (b + 1), .ref (b + 2), .ref (b + 3)]), .inr (0, 6, .inl (fun _ => 0)), .inr (0, 6, .inl (fun _ => 0)), .inr (4, 7, .inr (fun i => if i < 7 then some (b + 3 + 1 + i) else none)), .inr (0, 128, .inl (fun _ => 0)), .inr (0, 128, .inl (fun _ => 0)), .inr (0, 128, .inl (fun _ => 0)), .inr (0, 128, .inl (fun _ => 0)), .inr (0, 128, .inl (fun _ => 0)), .inr (0, 128, .inl (fun _ => 0)), .inr (0, 128, .inl (fun _ => 0))]
theorem k_choir {g : mm_G} : mp_ctor g yX0_init cX0_init 1 (mn_rm 1 10 915) [] (.inl (0, df0)) rs_choir 11 := by
  refine mp_of (own := RX0) (by decide) (fun _ => Nat.le_of_ble_eq_true rfl) rfl rfl ?_
  intro w b hb h9
  show mn _ _ _ _ _ _ _ _ _ 0 0 (w ++ [.inl (0, df0)]) 0 [(0, .ref b)] []
  refine mn_aload_n dX0_init_0 rfl 0 rfl ?_
  refine mn_objInit dX0_init_1 ko_RX0 kc_O1 kc_O2 (by omega) ⟨Nat.le_of_ble_eq_true rfl, Nat.le_of_ble_eq_true rfl⟩ ?_
  refine mn_aload_n dX0_init_4 rfl 0 rfl ?_
  refine mn_bipush (v := 6) dX0_init_5 (by decide) ?_
  refine mp_newi (j := 1) (t' := [.inl (0, [.null, .null, .null]), .inr (0, 6, .inl (fun _ => 0))]) hb dX0_init_7 rfl rfl (Nat.le_of_ble_eq_true rfl) (by decide) rfl (by omega) (by omega) ⟨Nat.le_of_ble_eq_true rfl, Nat.le_of_ble_eq_true rfl⟩ ?_
  refine mp_putF (i := 0) (t' := [.inl (0, [.ref (b + 1), .null, .null]), .inr (0, 6, .inl (fun _ => 0))]) hb rfl dX0_init_9 rfl rfl rfl (by decide) gX0_9 rfl rfl rfl rfl rfl (Nat.le_of_ble_eq_true rfl) rfl ?_
  refine mn_aload_n dX0_init_12 rfl 0 rfl ?_
  refine mn_bipush (v := 6) dX0_init_13 (by decide) ?_
  refine mp_newi (j := 2) (t' := [.inl (0, [.ref (b + 1), .null, .null]), .inr (0, 6, .inl (fun _ => 0)), .inr (0, 6, .inl (fun _ => 0))]) hb dX0_init_15 rfl rfl (Nat.le_of_ble_eq_true rfl) (by decide) rfl (by omega) (by omega) ⟨Nat.le_of_ble_eq_true rfl, Nat.le_of_ble_eq_true rfl⟩ ?_
  refine mp_putF (i := 0) (t' := [.inl (0, [.ref (b + 1), .ref (b + 2), .null]), .inr (0, 6, .inl (fun _ => 0)), .inr (0, 6, .inl (fun _ => 0))]) hb rfl dX0_init_17 rfl rfl rfl (by decide) gX0_15 rfl rfl rfl rfl rfl (Nat.le_of_ble_eq_true rfl) rfl ?_
  refine mn_aload_n dX0_init_20 rfl 0 rfl ?_
  refine mn_bipush (v := 7) dX0_init_21 (by decide) ?_
  refine mn_sipush (v := 128) dX0_init_23 (by decide) ?_
  refine mp_mna (j := 3) (t' := [.inl (0, [.ref (b + 1), .ref (b + 2), .null]), .inr (0, 6, .inl (fun _ => 0)), .inr (0, 6, .inl (fun _ => 0)), .inr (4, 7, .inr (fun i => if i < 7 then some (b + 3 + 1 + i) else none)), .inr (0, 128, .inl (fun _ => 0)), .inr (0, 128, .inl (fun _ => 0)), .inr (0, 128, .inl (fun _ => 0)), .inr (0, 128, .inl (fun _ => 0)), .inr (0, 128, .inl (fun _ => 0)), .inr (0, 128, .inl (fun _ => 0)), .inr (0, 128, .inl (fun _ => 0))]) hb dX0_init_26 kc_RX0_18 rfl rfl (by decide) (by decide) rfl rfl ⟨Nat.le_of_ble_eq_true rfl, Nat.le_of_ble_eq_true rfl⟩ (by omega) (by omega) ⟨Nat.le_of_ble_eq_true rfl, Nat.le_of_ble_eq_true rfl⟩ ?_
  refine mp_putF (i := 0) (t' := [.inl (0, [.ref (b + 1), .ref (b + 2), .ref (b + 3)]), .inr (0, 6, .inl (fun _ => 0)), .inr (0, 6, .inl (fun _ => 0)), .inr (4, 7, .inr (fun i => if i < 7 then some (b + 3 + 1 + i) else none)), .inr (0, 128, .inl (fun _ => 0)), .inr (0, 128, .inl (fun _ => 0)), .inr (0, 128, .inl (fun _ => 0)), .inr (0, 128, .inl (fun _ => 0)), .inr (0, 128, .inl (fun _ => 0)), .inr (0, 128, .inl (fun _ => 0)), .inr (0, 128, .inl (fun _ => 0))]) hb rfl dX0_init_30 rfl rfl rfl (by decide) gX0_20 rfl rfl rfl rfl rfl (Nat.le_of_ble_eq_true rfl) rfl ?_
  exact mn_vret rfl dX0_init_33 rfl rfl ⟨rfl, rfl⟩
def rs_draws (b : Nat) : List mm_E := [.inl (1, [.int 0])]
theorem k_draws {g : mm_G} : mp_ctor g yX1_init cX1_init 1 (mn_rm 1 0 0) [] (.inl (1, df1)) rs_draws 1 := by
  refine mp_of (own := RX1) (by decide) (fun _ => Nat.le_of_ble_eq_true rfl) rfl rfl ?_
  intro w b hb h9
  show mn _ _ _ _ _ _ _ _ _ 0 0 (w ++ [.inl (1, df1)]) 0 [(0, .ref b)] []
  refine mn_aload_n dX1_init_0 rfl 0 rfl ?_
  refine mn_objInit dX1_init_1 ko_RX1 kc_O1 kc_O2 (by omega) ⟨Nat.le_of_ble_eq_true rfl, Nat.le_of_ble_eq_true rfl⟩ ?_
  exact mn_vret rfl dX1_init_4 rfl rfl ⟨rfl, rfl⟩
def rs_ent6 (b : Nat) : List mm_E := [.inl (2, [.int 0, .ref (b + 1), .ref (b + 2)]), .inr (0, 6, .inl (fun _ => 0)), .inr (0, 6, .inl (fun _ => 0))]
theorem k_ent6 {g : mm_G} : mp_ctor g yX2_init cX2_init 3 (mn_rm 1 2 12) [.int 6] (.inl (2, df2)) rs_ent6 3 := by
  refine mp_of (own := RX2) (by decide) (fun _ => Nat.le_of_ble_eq_true rfl) rfl rfl ?_
  intro w b hb h9
  show mn _ _ _ _ _ _ _ _ _ 0 0 (w ++ [.inl (2, df2)]) 0 [(0, .ref b), (1, .int 6)] []
  refine mn_aload_n dX2_init_0 rfl 0 rfl ?_
  refine mn_objInit dX2_init_1 ko_RX2 kc_O1 kc_O2 (by omega) ⟨Nat.le_of_ble_eq_true rfl, Nat.le_of_ble_eq_true rfl⟩ ?_
  refine mn_iconst (v := 0) dX2_init_4 (by decide) ?_
  refine mn_iload_n dX2_init_5 rfl 1 rfl ?_
  refine mn_max (v := 6) (by decide) dX2_init_6 kmx_RX2 (Nat.le_of_ble_eq_true rfl) ⟨Nat.le_of_ble_eq_true rfl, Nat.le_of_ble_eq_true rfl⟩ ⟨Nat.le_of_ble_eq_true rfl, Nat.le_of_ble_eq_true rfl⟩ ?_
  refine mn_istore_n (ls' := [(2, .int 6), (0, .ref b), (1, .int 6)]) dX2_init_9 rfl (by decide) rfl ?_
  refine mn_aload_n dX2_init_10 rfl 1 rfl ?_
  refine mn_iload_n dX2_init_11 rfl 0 rfl ?_
  refine mp_newi (j := 1) (t' := [.inl (2, [.int 0, .null, .null]), .inr (0, 6, .inl (fun _ => 0))]) hb dX2_init_12 rfl rfl (Nat.le_of_ble_eq_true rfl) (by decide) rfl (by omega) (by omega) ⟨Nat.le_of_ble_eq_true rfl, Nat.le_of_ble_eq_true rfl⟩ ?_
  refine mp_putF (i := 0) (t' := [.inl (2, [.int 0, .ref (b + 1), .null]), .inr (0, 6, .inl (fun _ => 0))]) hb rfl dX2_init_14 rfl rfl rfl (by decide) gX2_15 rfl rfl rfl rfl rfl (Nat.le_of_ble_eq_true rfl) rfl ?_
  refine mn_aload_n dX2_init_17 rfl 1 rfl ?_
  refine mn_iload_n dX2_init_18 rfl 0 rfl ?_
  refine mp_newi (j := 2) (t' := [.inl (2, [.int 0, .ref (b + 1), .null]), .inr (0, 6, .inl (fun _ => 0)), .inr (0, 6, .inl (fun _ => 0))]) hb dX2_init_19 rfl rfl (Nat.le_of_ble_eq_true rfl) (by decide) rfl (by omega) (by omega) ⟨Nat.le_of_ble_eq_true rfl, Nat.le_of_ble_eq_true rfl⟩ ?_
  refine mp_putF (i := 0) (t' := [.inl (2, [.int 0, .ref (b + 1), .ref (b + 2)]), .inr (0, 6, .inl (fun _ => 0)), .inr (0, 6, .inl (fun _ => 0))]) hb rfl dX2_init_21 rfl rfl rfl (by decide) gX2_21 rfl rfl rfl rfl rfl (Nat.le_of_ble_eq_true rfl) rfl ?_
  exact mn_vret rfl dX2_init_24 rfl rfl ⟨rfl, rfl⟩
def rs_ent15 (b : Nat) : List mm_E := [.inl (2, [.int 0, .ref (b + 1), .ref (b + 2)]), .inr (0, 15, .inl (fun _ => 0)), .inr (0, 15, .inl (fun _ => 0))]
theorem k_ent15 {g : mm_G} : mp_ctor g yX2_init cX2_init 3 (mn_rm 1 2 30) [.int 15] (.inl (2, df2)) rs_ent15 3 := by
  refine mp_of (own := RX2) (by decide) (fun _ => Nat.le_of_ble_eq_true rfl) rfl rfl ?_
  intro w b hb h9
  show mn _ _ _ _ _ _ _ _ _ 0 0 (w ++ [.inl (2, df2)]) 0 [(0, .ref b), (1, .int 15)] []
  refine mn_aload_n dX2_init_0 rfl 0 rfl ?_
  refine mn_objInit dX2_init_1 ko_RX2 kc_O1 kc_O2 (by omega) ⟨Nat.le_of_ble_eq_true rfl, Nat.le_of_ble_eq_true rfl⟩ ?_
  refine mn_iconst (v := 0) dX2_init_4 (by decide) ?_
  refine mn_iload_n dX2_init_5 rfl 1 rfl ?_
  refine mn_max (v := 15) (by decide) dX2_init_6 kmx_RX2 (Nat.le_of_ble_eq_true rfl) ⟨Nat.le_of_ble_eq_true rfl, Nat.le_of_ble_eq_true rfl⟩ ⟨Nat.le_of_ble_eq_true rfl, Nat.le_of_ble_eq_true rfl⟩ ?_
  refine mn_istore_n (ls' := [(2, .int 15), (0, .ref b), (1, .int 15)]) dX2_init_9 rfl (by decide) rfl ?_
  refine mn_aload_n dX2_init_10 rfl 1 rfl ?_
  refine mn_iload_n dX2_init_11 rfl 0 rfl ?_
  refine mp_newi (j := 1) (t' := [.inl (2, [.int 0, .null, .null]), .inr (0, 15, .inl (fun _ => 0))]) hb dX2_init_12 rfl rfl (Nat.le_of_ble_eq_true rfl) (by decide) rfl (by omega) (by omega) ⟨Nat.le_of_ble_eq_true rfl, Nat.le_of_ble_eq_true rfl⟩ ?_
  refine mp_putF (i := 0) (t' := [.inl (2, [.int 0, .ref (b + 1), .null]), .inr (0, 15, .inl (fun _ => 0))]) hb rfl dX2_init_14 rfl rfl rfl (by decide) gX2_15 rfl rfl rfl rfl rfl (Nat.le_of_ble_eq_true rfl) rfl ?_
  refine mn_aload_n dX2_init_17 rfl 1 rfl ?_
  refine mn_iload_n dX2_init_18 rfl 0 rfl ?_
  refine mp_newi (j := 2) (t' := [.inl (2, [.int 0, .ref (b + 1), .null]), .inr (0, 15, .inl (fun _ => 0)), .inr (0, 15, .inl (fun _ => 0))]) hb dX2_init_19 rfl rfl (Nat.le_of_ble_eq_true rfl) (by decide) rfl (by omega) (by omega) ⟨Nat.le_of_ble_eq_true rfl, Nat.le_of_ble_eq_true rfl⟩ ?_
  refine mp_putF (i := 0) (t' := [.inl (2, [.int 0, .ref (b + 1), .ref (b + 2)]), .inr (0, 15, .inl (fun _ => 0)), .inr (0, 15, .inl (fun _ => 0))]) hb rfl dX2_init_21 rfl rfl rfl (by decide) gX2_21 rfl rfl rfl rfl rfl (Nat.le_of_ble_eq_true rfl) rfl ?_
  exact mn_vret rfl dX2_init_24 rfl rfl ⟨rfl, rfl⟩
def rs_folk (b : Nat) : List mm_E := [.inl (3, [.int 0, .int 0, .int 0, .ref (b + 1), .ref (b + 2), .ref (b + 3), .ref (b + 4)]), .inr (0, 7, .inl (fun _ => 0)), .inr (0, 7, .inl (fun _ => 0)), .inr (0, 7, .inl (fun _ => 0)), .inr (0, 7, .inl (fun _ => 0))]
theorem k_folk {g : mm_G} : mp_ctor g yX3_init cX3_init 1 (mn_rm 1 4 28) [] (.inl (3, df3)) rs_folk 5 := by
  refine mp_of (own := RX3) (by decide) (fun _ => Nat.le_of_ble_eq_true rfl) rfl rfl ?_
  intro w b hb h9
  show mn _ _ _ _ _ _ _ _ _ 0 0 (w ++ [.inl (3, df3)]) 0 [(0, .ref b)] []
  refine mn_aload_n dX3_init_0 rfl 0 rfl ?_
  refine mn_objInit dX3_init_1 ko_RX3 kc_O1 kc_O2 (by omega) ⟨Nat.le_of_ble_eq_true rfl, Nat.le_of_ble_eq_true rfl⟩ ?_
  refine mn_aload_n dX3_init_4 rfl 0 rfl ?_
  refine mn_bipush (v := 7) dX3_init_5 (by decide) ?_
  refine mp_newi (j := 1) (t' := [.inl (3, [.int 0, .int 0, .int 0, .null, .null, .null, .null]), .inr (0, 7, .inl (fun _ => 0))]) hb dX3_init_7 rfl rfl (Nat.le_of_ble_eq_true rfl) (by decide) rfl (by omega) (by omega) ⟨Nat.le_of_ble_eq_true rfl, Nat.le_of_ble_eq_true rfl⟩ ?_
  refine mp_putF (i := 0) (t' := [.inl (3, [.int 0, .int 0, .int 0, .ref (b + 1), .null, .null, .null]), .inr (0, 7, .inl (fun _ => 0))]) hb rfl dX3_init_9 rfl rfl rfl (by decide) gX3_9 rfl rfl rfl rfl rfl (Nat.le_of_ble_eq_true rfl) rfl ?_
  refine mn_aload_n dX3_init_12 rfl 0 rfl ?_
  refine mn_bipush (v := 7) dX3_init_13 (by decide) ?_
  refine mp_newi (j := 2) (t' := [.inl (3, [.int 0, .int 0, .int 0, .ref (b + 1), .null, .null, .null]), .inr (0, 7, .inl (fun _ => 0)), .inr (0, 7, .inl (fun _ => 0))]) hb dX3_init_15 rfl rfl (Nat.le_of_ble_eq_true rfl) (by decide) rfl (by omega) (by omega) ⟨Nat.le_of_ble_eq_true rfl, Nat.le_of_ble_eq_true rfl⟩ ?_
  refine mp_putF (i := 0) (t' := [.inl (3, [.int 0, .int 0, .int 0, .ref (b + 1), .ref (b + 2), .null, .null]), .inr (0, 7, .inl (fun _ => 0)), .inr (0, 7, .inl (fun _ => 0))]) hb rfl dX3_init_17 rfl rfl rfl (by decide) gX3_15 rfl rfl rfl rfl rfl (Nat.le_of_ble_eq_true rfl) rfl ?_
  refine mn_aload_n dX3_init_20 rfl 0 rfl ?_
  refine mn_bipush (v := 7) dX3_init_21 (by decide) ?_
  refine mp_newi (j := 3) (t' := [.inl (3, [.int 0, .int 0, .int 0, .ref (b + 1), .ref (b + 2), .null, .null]), .inr (0, 7, .inl (fun _ => 0)), .inr (0, 7, .inl (fun _ => 0)), .inr (0, 7, .inl (fun _ => 0))]) hb dX3_init_23 rfl rfl (Nat.le_of_ble_eq_true rfl) (by decide) rfl (by omega) (by omega) ⟨Nat.le_of_ble_eq_true rfl, Nat.le_of_ble_eq_true rfl⟩ ?_
  refine mp_putF (i := 0) (t' := [.inl (3, [.int 0, .int 0, .int 0, .ref (b + 1), .ref (b + 2), .ref (b + 3), .null]), .inr (0, 7, .inl (fun _ => 0)), .inr (0, 7, .inl (fun _ => 0)), .inr (0, 7, .inl (fun _ => 0))]) hb rfl dX3_init_25 rfl rfl rfl (by decide) gX3_18 rfl rfl rfl rfl rfl (Nat.le_of_ble_eq_true rfl) rfl ?_
  refine mn_aload_n dX3_init_28 rfl 0 rfl ?_
  refine mn_bipush (v := 7) dX3_init_29 (by decide) ?_
  refine mp_newi (j := 4) (t' := [.inl (3, [.int 0, .int 0, .int 0, .ref (b + 1), .ref (b + 2), .ref (b + 3), .null]), .inr (0, 7, .inl (fun _ => 0)), .inr (0, 7, .inl (fun _ => 0)), .inr (0, 7, .inl (fun _ => 0)), .inr (0, 7, .inl (fun _ => 0))]) hb dX3_init_31 rfl rfl (Nat.le_of_ble_eq_true rfl) (by decide) rfl (by omega) (by omega) ⟨Nat.le_of_ble_eq_true rfl, Nat.le_of_ble_eq_true rfl⟩ ?_
  refine mp_putF (i := 0) (t' := [.inl (3, [.int 0, .int 0, .int 0, .ref (b + 1), .ref (b + 2), .ref (b + 3), .ref (b + 4)]), .inr (0, 7, .inl (fun _ => 0)), .inr (0, 7, .inl (fun _ => 0)), .inr (0, 7, .inl (fun _ => 0)), .inr (0, 7, .inl (fun _ => 0))]) hb rfl dX3_init_33 rfl rfl rfl (by decide) gX3_21 rfl rfl rfl rfl rfl (Nat.le_of_ble_eq_true rfl) rfl ?_
  exact mn_vret rfl dX3_init_36 rfl rfl ⟨rfl, rfl⟩
def rs_line (b : Nat) : List mm_E := [.inl (5, [.int 0, .int 0, .ref (b + 1)]), .inr (0, 7, .inl (fun _ => 0))]
theorem k_line {g : mm_G} : mp_ctor g yX5_init cX5_init 1 (mn_rm 1 1 7) [] (.inl (5, df5)) rs_line 2 := by
  refine mp_of (own := RX5) (by decide) (fun _ => Nat.le_of_ble_eq_true rfl) rfl rfl ?_
  intro w b hb h9
  show mn _ _ _ _ _ _ _ _ _ 0 0 (w ++ [.inl (5, df5)]) 0 [(0, .ref b)] []
  refine mn_aload_n dX5_init_0 rfl 0 rfl ?_
  refine mn_objInit dX5_init_1 ko_RX5 kc_O1 kc_O2 (by omega) ⟨Nat.le_of_ble_eq_true rfl, Nat.le_of_ble_eq_true rfl⟩ ?_
  refine mn_aload_n dX5_init_4 rfl 0 rfl ?_
  refine mn_bipush (v := 7) dX5_init_5 (by decide) ?_
  refine mp_newi (j := 1) (t' := [.inl (5, [.int 0, .int 0, .null]), .inr (0, 7, .inl (fun _ => 0))]) hb dX5_init_7 rfl rfl (Nat.le_of_ble_eq_true rfl) (by decide) rfl (by omega) (by omega) ⟨Nat.le_of_ble_eq_true rfl, Nat.le_of_ble_eq_true rfl⟩ ?_
  refine mp_putF (i := 0) (t' := [.inl (5, [.int 0, .int 0, .ref (b + 1)]), .inr (0, 7, .inl (fun _ => 0))]) hb rfl dX5_init_9 rfl rfl rfl (by decide) gX5_9 rfl rfl rfl rfl rfl (Nat.le_of_ble_eq_true rfl) rfl ?_
  exact mn_vret rfl dX5_init_12 rfl rfl ⟨rfl, rfl⟩
def rs_parish (b : Nat) : List mm_E := [.inl (6, [.int 0, .int 0, .int 0, .int 0, .ref (b + 1), .ref (b + 2), .ref (b + 3), .ref (b + 4), .ref (b + 5)]), .inr (0, 7, .inl (fun _ => 0)), .inr (0, 7, .inl (fun _ => 0)), .inr (0, 7, .inl (fun _ => 0)), .inr (0, 6, .inl (fun _ => 0)), .inr (0, 6, .inl (fun _ => 0))]
theorem k_parish {g : mm_G} : mp_ctor g yX6_init cX6_init 1 (mn_rm 1 5 33) [] (.inl (6, df6)) rs_parish 6 := by
  refine mp_of (own := RX6) (by decide) (fun _ => Nat.le_of_ble_eq_true rfl) rfl rfl ?_
  intro w b hb h9
  show mn _ _ _ _ _ _ _ _ _ 0 0 (w ++ [.inl (6, df6)]) 0 [(0, .ref b)] []
  refine mn_aload_n dX6_init_0 rfl 0 rfl ?_
  refine mn_objInit dX6_init_1 ko_RX6 kc_O1 kc_O2 (by omega) ⟨Nat.le_of_ble_eq_true rfl, Nat.le_of_ble_eq_true rfl⟩ ?_
  refine mn_aload_n dX6_init_4 rfl 0 rfl ?_
  refine mn_bipush (v := 7) dX6_init_5 (by decide) ?_
  refine mp_newi (j := 1) (t' := [.inl (6, [.int 0, .int 0, .int 0, .int 0, .null, .null, .null, .null, .null]), .inr (0, 7, .inl (fun _ => 0))]) hb dX6_init_7 rfl rfl (Nat.le_of_ble_eq_true rfl) (by decide) rfl (by omega) (by omega) ⟨Nat.le_of_ble_eq_true rfl, Nat.le_of_ble_eq_true rfl⟩ ?_
  refine mp_putF (i := 0) (t' := [.inl (6, [.int 0, .int 0, .int 0, .int 0, .ref (b + 1), .null, .null, .null, .null]), .inr (0, 7, .inl (fun _ => 0))]) hb rfl dX6_init_9 rfl rfl rfl (by decide) gX6_9 rfl rfl rfl rfl rfl (Nat.le_of_ble_eq_true rfl) rfl ?_
  refine mn_aload_n dX6_init_12 rfl 0 rfl ?_
  refine mn_bipush (v := 7) dX6_init_13 (by decide) ?_
  refine mp_newi (j := 2) (t' := [.inl (6, [.int 0, .int 0, .int 0, .int 0, .ref (b + 1), .null, .null, .null, .null]), .inr (0, 7, .inl (fun _ => 0)), .inr (0, 7, .inl (fun _ => 0))]) hb dX6_init_15 rfl rfl (Nat.le_of_ble_eq_true rfl) (by decide) rfl (by omega) (by omega) ⟨Nat.le_of_ble_eq_true rfl, Nat.le_of_ble_eq_true rfl⟩ ?_
  refine mp_putF (i := 0) (t' := [.inl (6, [.int 0, .int 0, .int 0, .int 0, .ref (b + 1), .ref (b + 2), .null, .null, .null]), .inr (0, 7, .inl (fun _ => 0)), .inr (0, 7, .inl (fun _ => 0))]) hb rfl dX6_init_17 rfl rfl rfl (by decide) gX6_15 rfl rfl rfl rfl rfl (Nat.le_of_ble_eq_true rfl) rfl ?_
  refine mn_aload_n dX6_init_20 rfl 0 rfl ?_
  refine mn_bipush (v := 7) dX6_init_21 (by decide) ?_
  refine mp_newi (j := 3) (t' := [.inl (6, [.int 0, .int 0, .int 0, .int 0, .ref (b + 1), .ref (b + 2), .null, .null, .null]), .inr (0, 7, .inl (fun _ => 0)), .inr (0, 7, .inl (fun _ => 0)), .inr (0, 7, .inl (fun _ => 0))]) hb dX6_init_23 rfl rfl (Nat.le_of_ble_eq_true rfl) (by decide) rfl (by omega) (by omega) ⟨Nat.le_of_ble_eq_true rfl, Nat.le_of_ble_eq_true rfl⟩ ?_
  refine mp_putF (i := 0) (t' := [.inl (6, [.int 0, .int 0, .int 0, .int 0, .ref (b + 1), .ref (b + 2), .ref (b + 3), .null, .null]), .inr (0, 7, .inl (fun _ => 0)), .inr (0, 7, .inl (fun _ => 0)), .inr (0, 7, .inl (fun _ => 0))]) hb rfl dX6_init_25 rfl rfl rfl (by decide) gX6_18 rfl rfl rfl rfl rfl (Nat.le_of_ble_eq_true rfl) rfl ?_
  refine mn_aload_n dX6_init_28 rfl 0 rfl ?_
  refine mn_bipush (v := 6) dX6_init_29 (by decide) ?_
  refine mp_newi (j := 4) (t' := [.inl (6, [.int 0, .int 0, .int 0, .int 0, .ref (b + 1), .ref (b + 2), .ref (b + 3), .null, .null]), .inr (0, 7, .inl (fun _ => 0)), .inr (0, 7, .inl (fun _ => 0)), .inr (0, 7, .inl (fun _ => 0)), .inr (0, 6, .inl (fun _ => 0))]) hb dX6_init_31 rfl rfl (Nat.le_of_ble_eq_true rfl) (by decide) rfl (by omega) (by omega) ⟨Nat.le_of_ble_eq_true rfl, Nat.le_of_ble_eq_true rfl⟩ ?_
  refine mp_putF (i := 0) (t' := [.inl (6, [.int 0, .int 0, .int 0, .int 0, .ref (b + 1), .ref (b + 2), .ref (b + 3), .ref (b + 4), .null]), .inr (0, 7, .inl (fun _ => 0)), .inr (0, 7, .inl (fun _ => 0)), .inr (0, 7, .inl (fun _ => 0)), .inr (0, 6, .inl (fun _ => 0))]) hb rfl dX6_init_33 rfl rfl rfl (by decide) gX6_21 rfl rfl rfl rfl rfl (Nat.le_of_ble_eq_true rfl) rfl ?_
  refine mn_aload_n dX6_init_36 rfl 0 rfl ?_
  refine mn_bipush (v := 6) dX6_init_37 (by decide) ?_
  refine mp_newi (j := 5) (t' := [.inl (6, [.int 0, .int 0, .int 0, .int 0, .ref (b + 1), .ref (b + 2), .ref (b + 3), .ref (b + 4), .null]), .inr (0, 7, .inl (fun _ => 0)), .inr (0, 7, .inl (fun _ => 0)), .inr (0, 7, .inl (fun _ => 0)), .inr (0, 6, .inl (fun _ => 0)), .inr (0, 6, .inl (fun _ => 0))]) hb dX6_init_39 rfl rfl (Nat.le_of_ble_eq_true rfl) (by decide) rfl (by omega) (by omega) ⟨Nat.le_of_ble_eq_true rfl, Nat.le_of_ble_eq_true rfl⟩ ?_
  refine mp_putF (i := 0) (t' := [.inl (6, [.int 0, .int 0, .int 0, .int 0, .ref (b + 1), .ref (b + 2), .ref (b + 3), .ref (b + 4), .ref (b + 5)]), .inr (0, 7, .inl (fun _ => 0)), .inr (0, 7, .inl (fun _ => 0)), .inr (0, 7, .inl (fun _ => 0)), .inr (0, 6, .inl (fun _ => 0)), .inr (0, 6, .inl (fun _ => 0))]) hb rfl dX6_init_41 rfl rfl rfl (by decide) gX6_24 rfl rfl rfl rfl rfl (Nat.le_of_ble_eq_true rfl) rfl ?_
  exact mn_vret rfl dX6_init_44 rfl rfl ⟨rfl, rfl⟩
def rs_reader (b : Nat) : List mm_E := [.inl (8, [.int 0, .int 0, .int (-1), .int 0, .int 0, .ref (b + 1)]), .inr (0, 240, .inl (fun _ => 0))]
theorem k_reader {g : mm_G} : mp_ctor g yX8_init cX8_init 1 (mn_rm 1 1 240) [] (.inl (8, df8)) rs_reader 2 := by
  refine mp_of (own := RX8) (by decide) (fun _ => Nat.le_of_ble_eq_true rfl) rfl rfl ?_
  intro w b hb h9
  show mn _ _ _ _ _ _ _ _ _ 0 0 (w ++ [.inl (8, df8)]) 0 [(0, .ref b)] []
  refine mn_aload_n dX8_init_0 rfl 0 rfl ?_
  refine mn_objInit dX8_init_1 ko_RX8 kc_O1 kc_O2 (by omega) ⟨Nat.le_of_ble_eq_true rfl, Nat.le_of_ble_eq_true rfl⟩ ?_
  refine mn_aload_n dX8_init_4 rfl 0 rfl ?_
  refine mn_iconst (v := -1) dX8_init_5 (by decide) ?_
  refine mp_put (i := 0) (t' := [.inl (8, [.int 0, .int 0, .int (-1), .int 0, .int 0, .null])]) hb dX8_init_6 rfl rfl rfl (by decide) gX8_9 rfl rfl rfl rfl (Nat.le_of_ble_eq_true rfl) rfl ?_
  refine mn_aload_n dX8_init_9 rfl 0 rfl ?_
  refine mn_sipush (v := 240) dX8_init_10 (by decide) ?_
  refine mp_newi (j := 1) (t' := [.inl (8, [.int 0, .int 0, .int (-1), .int 0, .int 0, .null]), .inr (0, 240, .inl (fun _ => 0))]) hb dX8_init_13 rfl rfl (Nat.le_of_ble_eq_true rfl) (by decide) rfl (by omega) (by omega) ⟨Nat.le_of_ble_eq_true rfl, Nat.le_of_ble_eq_true rfl⟩ ?_
  refine mp_putF (i := 0) (t' := [.inl (8, [.int 0, .int 0, .int (-1), .int 0, .int 0, .ref (b + 1)]), .inr (0, 240, .inl (fun _ => 0))]) hb rfl dX8_init_15 rfl rfl rfl (by decide) gX8_15 rfl rfl rfl rfl rfl (Nat.le_of_ble_eq_true rfl) rfl ?_
  exact mn_vret rfl dX8_init_18 rfl rfl ⟨rfl, rfl⟩
def rs_image (b : Nat) : List mm_E := .inl (4, [.int 0, .int 0, .ref (b + 1)]) :: rs_folk (b + 1)
theorem k_image {g : mm_G} : mp_ctor g yX4_init cX4_init 1 (mn_rm 2 5 35) [] (.inl (4, df4)) rs_image 6 := by
  refine mp_of (own := RX4) (by decide) (fun _ => Nat.le_of_ble_eq_true rfl) rfl rfl ?_
  intro w b hb h9
  show mn _ _ _ _ _ _ _ _ _ 0 0 (w ++ [.inl (4, df4)]) 0 [(0, .ref b)] []
  refine mn_aload_n dX4_init_0 rfl 0 rfl ?_
  refine mn_objInit dX4_init_1 ko_RX4 kc_O1 kc_O2 (by omega) ⟨Nat.le_of_ble_eq_true rfl, Nat.le_of_ble_eq_true rfl⟩ ?_
  refine mn_aload_n dX4_init_4 rfl 0 rfl ?_
  refine mp_new (j := 1) (t' := [.inl (4, [.int 0, .int 0, .null]), .inl (3, df3)]) hb dX4_init_5 kc_RX4_7 kc_D3 rfl rfl (by omega) (by omega) ⟨Nat.le_of_ble_eq_true rfl, Nat.le_of_ble_eq_true rfl⟩ ?_
  refine mn_dup dX4_init_8 rfl ?_
  refine mp_callIN (j := 1) (t0 := [.inl (4, [.int 0, .int 0, .null])]) (t' := .inl (4, [.int 0, .int 0, .null]) :: rs_folk (b + 1)) hb dX4_init_9 qmX4_9 k_folk rfl rfl rfl rfl rfl (by omega) tk_X3_init rfl (Nat.le_of_ble_eq_true rfl) ⟨Nat.le_of_ble_eq_true rfl, Nat.le_of_ble_eq_true rfl⟩ ⟨Nat.le_of_ble_eq_true rfl, Nat.le_of_ble_eq_true rfl⟩ (by omega) ?_
  refine mp_putF (i := 0) (t' := (.inl (4, [.int 0, .int 0, .ref (b + 1)]) :: rs_folk (b + 1))) hb rfl dX4_init_12 rfl rfl rfl (by decide) gX4_10 rfl rfl rfl rfl rfl (Nat.le_of_ble_eq_true rfl) rfl ?_
  exact mn_vret rfl dX4_init_15 rfl rfl ⟨rfl, rfl⟩
/-! ===== constructors: Past, the class, the reference ===== -/
theorem kc_RX7_9 : Cond.classLink RX7 9 RX3 ∈ mm_ok := mm_in 199 (by decide +kernel) rfl
theorem ko_RX7 : Cond.methodLink RX7 3 Lib.objectInit ∈ mm_ok := mm_in 198 (by decide +kernel) rfl
theorem ko_RX9 : Cond.methodLink RX9 1 Lib.objectInit ∈ mm_ok := mm_in 90 (by decide +kernel) rfl
theorem kc_RX9_7 : Cond.classLink RX9 7 RX8 ∈ mm_ok := mm_in 93 (by decide +kernel) rfl
theorem kc_RX9_16 : Cond.classLink RX9 16 RX6 ∈ mm_ok := mm_in 122 (by decide +kernel) rfl
theorem kc_RX9_26 : Cond.classLink RX9 26 RX3 ∈ mm_ok := mm_in 163 (by decide +kernel) rfl
theorem kc_RX9_36 : Cond.classLink RX9 36 RX7 ∈ mm_ok := mm_in 193 (by decide +kernel) rfl
theorem kc_RX9_43 : Cond.classLink RX9 43 RX4 ∈ mm_ok := mm_in 213 (by decide +kernel) rfl
theorem kc_RX9_49 : Cond.classLink RX9 49 RX1 ∈ mm_ok := mm_in 215 (by decide +kernel) rfl
theorem kc_RX9_56 : Cond.classLink RX9 56 RX2 ∈ mm_ok := mm_in 226 (by decide +kernel) rfl
theorem kc_RX9_71 : Cond.classLink RX9 71 RX5 ∈ mm_ok := mm_in 246 (by decide +kernel) rfl
theorem kc_RX9_78 : Cond.classLink RX9 78 RX0 ∈ mm_ok := mm_in 262 (by decide +kernel) rfl
theorem ko_RX10 : Cond.methodLink RX10 1 Lib.objectInit ∈ mm_ok := mm_in 900 (by decide +kernel) rfl
theorem gX7_11 : Cond.fieldLink RX7 11 (TX7 2).1 (TX7 2).2.1 (TX7 2).2.2.1 ∈ mm_ok := mm_in 205 (by decide +kernel) rfl
theorem qmX7_17 : Cond.methodLinkNest RX7 17 yX3_init "VoiceWills" ∈ mm_nest := mm_inN 201 (by decide +kernel) rfl
theorem qmX9_9 : Cond.methodLinkNest RX9 9 yX8_init "VoiceWills" ∈ mm_nest := mm_inN 95 (by decide +kernel) rfl
theorem tk_X8_init : mm_mk yX8_init cX8_init 1 0 := ⟨mm_in 97 (by decide +kernel) rfl, mm_in 96 (by decide +kernel) rfl, rfl, mm_in 73 (by decide +kernel) rfl, by decide, by decide, by decide +kernel⟩
theorem gX9_10 : Cond.fieldLink RX9 10 (TX9 0).1 (TX9 0).2.1 (TX9 0).2.2.1 ∈ mm_ok := mm_in 298 (by decide +kernel) rfl
theorem qmX9_18 : Cond.methodLinkNest RX9 18 yX6_init "VoiceWills" ∈ mm_nest := mm_inN 124 (by decide +kernel) rfl
theorem tk_X6_init : mm_mk yX6_init cX6_init 1 0 := ⟨mm_in 126 (by decide +kernel) rfl, mm_in 125 (by decide +kernel) rfl, rfl, mm_in 74 (by decide +kernel) rfl, by decide, by decide, by decide +kernel⟩
theorem gX9_19 : Cond.fieldLink RX9 19 (TX9 1).1 (TX9 1).2.1 (TX9 1).2.2.1 ∈ mm_ok := mm_in 299 (by decide +kernel) rfl
theorem gX9_23 : Cond.fieldLink RX9 23 (TX9 2).1 (TX9 2).2.1 (TX9 2).2.2.1 ∈ mm_ok := mm_in 300 (by decide +kernel) rfl
theorem qmX9_28 : Cond.methodLinkNest RX9 28 yX3_init "VoiceWills" ∈ mm_nest := mm_inN 165 (by decide +kernel) rfl
theorem gX9_29 : Cond.fieldLink RX9 29 (TX9 3).1 (TX9 3).2.1 (TX9 3).2.2.1 ∈ mm_ok := mm_in 301 (by decide +kernel) rfl
theorem gX9_33 : Cond.fieldLink RX9 33 (TX9 4).1 (TX9 4).2.1 (TX9 4).2.2.1 ∈ mm_ok := mm_in 302 (by decide +kernel) rfl
theorem qmX9_38 : Cond.methodLink RX9 38 yX7_init ∈ mm_ok := mm_in 195 (by decide +kernel) rfl
theorem tk_X7_init : mm_mk yX7_init cX7_init 2 0 := ⟨mm_in 197 (by decide +kernel) rfl, mm_in 196 (by decide +kernel) rfl, rfl, mm_in 76 (by decide +kernel) rfl, by decide, by decide, by decide +kernel⟩
theorem gX9_39 : Cond.fieldLink RX9 39 (TX9 5).1 (TX9 5).2.1 (TX9 5).2.2.1 ∈ mm_ok := mm_in 303 (by decide +kernel) rfl
theorem gX9_45 : Cond.fieldLink RX9 45 (TX9 6).1 (TX9 6).2.1 (TX9 6).2.2.1 ∈ mm_ok := mm_in 304 (by decide +kernel) rfl
theorem qmX9_51 : Cond.methodLinkNest RX9 51 yX1_init "VoiceWills" ∈ mm_nest := mm_inN 217 (by decide +kernel) rfl
theorem tk_X1_init : mm_mk yX1_init cX1_init 1 0 := ⟨mm_in 219 (by decide +kernel) rfl, mm_in 218 (by decide +kernel) rfl, rfl, mm_in 77 (by decide +kernel) rfl, by decide, by decide, by decide +kernel⟩
theorem gX9_52 : Cond.fieldLink RX9 52 (TX9 7).1 (TX9 7).2.1 (TX9 7).2.2.1 ∈ mm_ok := mm_in 305 (by decide +kernel) rfl
theorem qmX9_58 : Cond.methodLink RX9 58 yX2_init ∈ mm_ok := mm_in 228 (by decide +kernel) rfl
theorem tk_X2_init : mm_mk yX2_init cX2_init 3 1 := ⟨mm_in 230 (by decide +kernel) rfl, mm_in 229 (by decide +kernel) rfl, rfl, mm_in 78 (by decide +kernel) rfl, by decide, by decide, by decide +kernel⟩
theorem gX9_61 : Cond.fieldLink RX9 61 (TX9 8).1 (TX9 8).2.1 (TX9 8).2.2.1 ∈ mm_ok := mm_in 306 (by decide +kernel) rfl
theorem gX9_65 : Cond.fieldLink RX9 65 (TX9 9).1 (TX9 9).2.1 (TX9 9).2.2.1 ∈ mm_ok := mm_in 307 (by decide +kernel) rfl
theorem gX9_68 : Cond.fieldLink RX9 68 (TX9 10).1 (TX9 10).2.1 (TX9 10).2.2.1 ∈ mm_ok := mm_in 308 (by decide +kernel) rfl
theorem qmX9_73 : Cond.methodLinkNest RX9 73 yX5_init "VoiceWills" ∈ mm_nest := mm_inN 248 (by decide +kernel) rfl
theorem tk_X5_init : mm_mk yX5_init cX5_init 1 0 := ⟨mm_in 250 (by decide +kernel) rfl, mm_in 249 (by decide +kernel) rfl, rfl, mm_in 80 (by decide +kernel) rfl, by decide, by decide, by decide +kernel⟩
theorem gX9_74 : Cond.fieldLink RX9 74 (TX9 11).1 (TX9 11).2.1 (TX9 11).2.2.1 ∈ mm_ok := mm_in 309 (by decide +kernel) rfl
theorem qmX9_80 : Cond.methodLinkNest RX9 80 yX0_init "VoiceWills" ∈ mm_nest := mm_inN 264 (by decide +kernel) rfl
theorem tk_X0_init : mm_mk yX0_init cX0_init 1 0 := ⟨mm_in 266 (by decide +kernel) rfl, mm_in 265 (by decide +kernel) rfl, rfl, mm_in 81 (by decide +kernel) rfl, by decide, by decide, by decide +kernel⟩
theorem gX9_81 : Cond.fieldLink RX9 81 (TX9 12).1 (TX9 12).2.1 (TX9 12).2.2.1 ∈ mm_ok := mm_in 310 (by decide +kernel) rfl
theorem qmX9_85 : Cond.methodLinkNest RX9 85 yX4_init "VoiceWills" ∈ mm_nest := mm_inN 281 (by decide +kernel) rfl
theorem tk_X4_init : mm_mk yX4_init cX4_init 1 0 := ⟨mm_in 283 (by decide +kernel) rfl, mm_in 282 (by decide +kernel) rfl, rfl, mm_in 82 (by decide +kernel) rfl, by decide, by decide, by decide +kernel⟩
theorem gX10_7 : Cond.fieldLink RX10 7 (TX10 0).1 (TX10 0).2.1 (TX10 0).2.2.1 ∈ mm_ok := mm_in 916 (by decide +kernel) rfl
theorem gX10_13 : Cond.fieldLink RX10 13 (TX10 1).1 (TX10 1).2.1 (TX10 1).2.2.1 ∈ mm_ok := mm_in 917 (by decide +kernel) rfl
theorem gX10_16 : Cond.fieldLink RX10 16 (TX10 2).1 (TX10 2).2.1 (TX10 2).2.2.1 ∈ mm_ok := mm_in 918 (by decide +kernel) rfl
theorem gX10_19 : Cond.fieldLink RX10 19 (TX10 3).1 (TX10 3).2.1 (TX10 3).2.2.1 ∈ mm_ok := mm_in 919 (by decide +kernel) rfl
theorem gX10_22 : Cond.fieldLink RX10 22 (TX10 4).1 (TX10 4).2.1 (TX10 4).2.2.1 ∈ mm_ok := mm_in 920 (by decide +kernel) rfl
theorem gX10_25 : Cond.fieldLink RX10 25 (TX10 6).1 (TX10 6).2.1 (TX10 6).2.2.1 ∈ mm_ok := mm_in 922 (by decide +kernel) rfl
theorem gX10_28 : Cond.fieldLink RX10 28 (TX10 7).1 (TX10 7).2.1 (TX10 7).2.2.1 ∈ mm_ok := mm_in 923 (by decide +kernel) rfl
theorem gX10_32 : Cond.fieldLink RX10 32 (TX10 9).1 (TX10 9).2.1 (TX10 9).2.2.1 ∈ mm_ok := mm_in 925 (by decide +kernel) rfl
theorem gX10_35 : Cond.fieldLink RX10 35 (TX10 11).1 (TX10 11).2.1 (TX10 11).2.2.1 ∈ mm_ok := mm_in 927 (by decide +kernel) rfl
theorem gX10_39 : Cond.fieldLink RX10 39 (TX10 12).1 (TX10 12).2.1 (TX10 12).2.2.1 ∈ mm_ok := mm_in 928 (by decide +kernel) rfl
theorem gX10_42 : Cond.fieldLink RX10 42 (TX10 14).1 (TX10 14).2.1 (TX10 14).2.2.1 ∈ mm_ok := mm_in 930 (by decide +kernel) rfl
theorem gX10_45 : Cond.fieldLink RX10 45 (TX10 16).1 (TX10 16).2.1 (TX10 16).2.2.1 ∈ mm_ok := mm_in 932 (by decide +kernel) rfl
theorem gX10_48 : Cond.fieldLink RX10 48 (TX10 24).1 (TX10 24).2.1 (TX10 24).2.2.1 ∈ mm_ok := mm_in 940 (by decide +kernel) rfl
theorem rs_choir_len (b : Nat) : (rs_choir b).length = 11 := rfl
theorem rs_draws_len (b : Nat) : (rs_draws b).length = 1 := rfl
theorem rs_ent6_len (b : Nat) : (rs_ent6 b).length = 3 := rfl
theorem rs_ent15_len (b : Nat) : (rs_ent15 b).length = 3 := rfl
theorem rs_folk_len (b : Nat) : (rs_folk b).length = 5 := rfl
theorem rs_line_len (b : Nat) : (rs_line b).length = 2 := rfl
theorem rs_parish_len (b : Nat) : (rs_parish b).length = 6 := rfl
theorem rs_reader_len (b : Nat) : (rs_reader b).length = 2 := rfl
theorem rs_image_len (b : Nat) : (rs_image b).length = 6 := rfl
def fk (c : Nat) : Nat → List mm_E
  | 0 => []
  | k + 1 => fk c k ++ rs_folk (c + 5 * k)
def pl (c : Nat) : Nat → List Nat
  | 0 => []
  | k + 1 => pl c k ++ [c + 5 * k]
theorem pl_len (c : Nat) : ∀ k, (pl c k).length = k
  | 0 => rfl
  | k + 1 => by rw [pl, List.length_append, pl_len c k]; rfl
theorem fk_len (c : Nat) : ∀ k, (fk c k).length = 5 * k
  | 0 => rfl
  | k + 1 => by rw [fk, List.length_append, fk_len c k, rs_folk_len]; omega
def tP (b k : Nat) : List mm_E := .inl (7, [.int 0, .int 0, .ref (b + 1)]) :: .inr (2, 20, .inr (fun j => (pl (b + 2) k)[j]?)) :: fk (b + 2) k
theorem tP_len (b k : Nat) : (tP b k).length = 2 + 5 * k := by
  unfold tP
  rw [List.length_cons, List.length_cons, fk_len]
  omega
def rs_past (b : Nat) : List mm_E := tP b 20
theorem rs_past_len (b : Nat) : (rs_past b).length = 102 := tP_len b 20
theorem kp_lt : ∀ k, k < 20 → ¬ (20 : Int32) ≤ Int32.ofNat k ∧ ¬ (Int32.ofNat k < 0 ∨ 20 ≤ (Int32.ofNat k).toNatClampNeg) ∧ (Int32.ofNat k).toNatClampNeg = k ∧ Int32.ofNat k + Int32.ofInt 1 = Int32.ofNat (k + 1) := by decide
theorem kp_get {x : mm_E} {A B C : List mm_E} {y : mm_E} {n : Nat} (h : A.length = n) (hB : B = y :: C) : (A ++ B)[n]? = some y := by
  subst hB
  subst h
  rw [List.getElem?_append_right (Nat.le_refl _), Nat.sub_self]
  rfl
theorem kp_loop {g : mm_G} {w : List mm_E} {b : Nat} (hb : w.length = b) (h9 : b + 102 < 999) : ∀ d k, k + d = 20 → mn (mn_f g (b + 1)) g RX7 cX7_init 2 none true (mn_rm 2 101 720) (fun r w1 => r = none ∧ w1 = w ++ rs_past b) (1 + 5 * k) (20 + 35 * k) (w ++ tP b k) 15 [(1, .int (Int32.ofNat k)), (0, .ref b)] [] := by
  intro d
  induction d with
  | zero =>
    intro k hk
    have hk : k = 20 := hk
    subst hk
    refine mn_iload_n dX7_init_15 rfl 0 rfl ?_
    refine mn_aload_n dX7_init_16 rfl 1 rfl ?_
    refine mp_get (i := 0) hb dX7_init_17 rfl rfl rfl (by decide) gX7_11 rfl ?_
    refine mp_alen (i := 1) (v := 20) hb dX7_init_20 rfl rfl rfl (by decide) ?_
    refine mn_icmp_ge (tgt := 43) dX7_init_21 rfl (fun q => ?_) (fun q => absurd (by decide) q)
    exact mn_vret rfl dX7_init_43 rfl rfl ⟨rfl, rfl⟩
  | succ d ih =>
    intro k hk
    obtain ⟨q1, q2, q3, q4⟩ := kp_lt k (by omega)
    have e2 : b + (2 + 5 * k) = b + 2 + 5 * k := by omega
    refine mn_iload_n dX7_init_15 rfl 0 rfl ?_
    refine mn_aload_n dX7_init_16 rfl 1 rfl ?_
    refine mp_get (i := 0) hb dX7_init_17 rfl rfl rfl (by decide) gX7_11 rfl ?_
    refine mp_alen (i := 1) (v := 20) hb dX7_init_20 rfl rfl rfl (by decide) ?_
    refine mn_icmp_ge (tgt := 43) dX7_init_21 rfl (fun q => absurd q q1) (fun q => ?_)
    refine mn_aload_n dX7_init_24 rfl 1 rfl ?_
    refine mp_get (i := 0) hb dX7_init_25 rfl rfl rfl (by decide) gX7_11 rfl ?_
    refine mn_iload_n dX7_init_28 rfl 0 rfl ?_
    refine mp_new (j := 2 + 5 * k) (t' := tP b k ++ [.inl (3, df3)]) hb dX7_init_29 kc_RX7_9 kc_D3 (tP_len b k) rfl (by omega) (by omega) ⟨by show _ ≤ 101; omega, by show _ ≤ 720; omega⟩ ?_
    refine mn_dup dX7_init_32 rfl ?_
    rw [e2]
    refine mp_callIN (j := 2 + 5 * k) (t0 := tP b k) (t' := tP b k ++ rs_folk (b + 2 + 5 * k)) hb dX7_init_33 qmX7_17 k_folk rfl (tP_len b k) e2 rfl rfl (by omega) tk_X3_init rfl (Nat.le_of_ble_eq_true rfl) ⟨Nat.le_of_ble_eq_true rfl, Nat.le_of_ble_eq_true rfl⟩ ⟨by show _ + 4 ≤ 101; omega, by show _ + 28 ≤ 720; omega⟩ (by omega) ?_
    refine mp_aast (i1 := 1) (i2 := 2 + 5 * k) (r := (RX3, TX3, 7)) (l := pl (b + 2) k) (t' := tP b (k + 1)) hb dX7_init_36 rfl rfl rfl e2 (kp_get (x := .inl (3, df3)) (tP_len b k) rfl) rfl q2 (by rw [q3, pl_len]) rfl rfl ?_
    refine mn_iinc (ls' := fun v => [(1, .int v), (0, .ref b)]) dX7_init_37 0 rfl (by decide) (fun _ => rfl) (fun v hv => ?_)
    subst hv
    rw [q4]
    refine mn_goto (tgt := 15) dX7_init_40 rfl ?_
    have h := ih (k + 1) (by omega)
    rw [show 1 + 5 * (k + 1) = 1 + 5 * k + 1 + 4 by omega, show 20 + 35 * (k + 1) = 20 + 35 * k + 7 + 28 by omega] at h
    exact h
theorem k_past {g : mm_G} : mp_ctor g yX7_init cX7_init 2 (mn_rm 2 101 720) [] (.inl (7, df7)) rs_past 102 := by
  refine mp_of (own := RX7) (by decide) (fun _ => Nat.le_of_ble_eq_true rfl) rfl rfl ?_
  intro w b hb h9
  show mn _ _ _ _ _ _ _ _ _ 0 0 (w ++ [.inl (7, df7)]) 0 [(0, .ref b)] []
  refine mn_aload_n dX7_init_0 rfl 0 rfl ?_
  refine mn_objInit dX7_init_1 ko_RX7 kc_O1 kc_O2 (by omega) ⟨Nat.le_of_ble_eq_true rfl, Nat.le_of_ble_eq_true rfl⟩ ?_
  refine mn_aload_n dX7_init_4 rfl 0 rfl ?_
  refine mn_bipush (v := 20) dX7_init_5 (by decide) ?_
  refine mp_anew (N := 20) (t0 := 2) (j := 1) (t' := [.inl (7, df7), .inr (2, 20, .inr (fun _ => none))]) hb dX7_init_7 kc_RX7_9 (fun s h => h.2.1) rfl rfl rfl (by decide) (by decide) rfl (by omega) (by omega) ⟨Nat.le_of_ble_eq_true rfl, Nat.le_of_ble_eq_true rfl⟩ ?_
  refine mp_putF (i := 0) (t' := tP b 0) hb rfl dX7_init_10 rfl rfl rfl (by decide) gX7_11 rfl rfl rfl rfl rfl (Nat.le_of_ble_eq_true rfl) rfl ?_
  refine mn_iconst (v := 0) dX7_init_13 (by decide) ?_
  refine mn_istore_n (ls' := [(1, .int 0), (0, .ref b)]) dX7_init_14 rfl (by decide) rfl ?_
  exact kp_loop hb h9 20 0 rfl
theorem kv_len {x : mm_E} {A : List mm_E} {n : Nat} (h : A.length = n) : (x :: A).length = n + 1 := by rw [List.length_cons, h]
theorem kv_len2 {x e : mm_E} {A B : List mm_E} {n m : Nat} (h : A.length = n) (hB : B.length = m) : (x :: (A ++ e :: B)).length = n + m + 2 := by
  rw [List.length_cons, List.length_append, List.length_cons, h, hB]
  omega
theorem kv_app {x e : mm_E} {A B X : List mm_E} : (x :: (A ++ e :: B)) ++ X = x :: (A ++ e :: (B ++ X)) := by simp
theorem kv_get {x e : mm_E} {A B : List mm_E} {n : Nat} (h : A.length = n) : (x :: (A ++ e :: B))[n + 1]? = some e := by
  subst h
  simp
theorem kv_set {x e e' : mm_E} {A B : List mm_E} {n : Nat} (h : A.length = n) : (x :: (A ++ e :: B)).set (n + 1) e' = x :: (A ++ e' :: B) := by
  subst h
  simp
theorem kv_get2 {x e y : mm_E} {A B C D : List mm_E} {n m : Nat} (h : A.length = n) (hB : B.length = m) (hC : C = y :: D) : (x :: (A ++ e :: (B ++ C)))[n + m + 2]? = some y := by
  subst hC
  subst h
  subst hB
  rw [show A.length + B.length + 2 = (A.length + (B.length + 1)) + 1 by omega, List.getElem?_cons_succ, List.getElem?_append_right (by omega), Nat.add_sub_cancel_left, List.getElem?_cons_succ, List.getElem?_append_right (by omega), Nat.sub_self]
  rfl
def vi_0 (_ : Nat) : List mm_E := []
theorem vi_0_len (b : Nat) : (vi_0 b).length = 0 := rfl
def vq_0 (_ : Nat) : List mm_E := []
theorem vq_0_len (b : Nat) : (vq_0 b).length = 0 := rfl
def vi_1 (b : Nat) : List mm_E := vi_0 b ++ rs_reader (b + 1)
theorem vi_1_len (b : Nat) : (vi_1 b).length = 2 := by rw [vi_1, List.length_append, vi_0_len, rs_reader_len]
def vi_2 (b : Nat) : List mm_E := vi_1 b ++ rs_parish (b + 3)
theorem vi_2_len (b : Nat) : (vi_2 b).length = 8 := by rw [vi_2, List.length_append, vi_1_len, rs_parish_len]
def vi_3 (b : Nat) : List mm_E := vi_2 b ++ rs_parish (b + 9)
theorem vi_3_len (b : Nat) : (vi_3 b).length = 14 := by rw [vi_3, List.length_append, vi_2_len, rs_parish_len]
def vi_4 (b : Nat) : List mm_E := vi_3 b ++ rs_folk (b + 15)
theorem vi_4_len (b : Nat) : (vi_4 b).length = 19 := by rw [vi_4, List.length_append, vi_3_len, rs_folk_len]
def vi_5 (b : Nat) : List mm_E := vi_4 b ++ rs_folk (b + 20)
theorem vi_5_len (b : Nat) : (vi_5 b).length = 24 := by rw [vi_5, List.length_append, vi_4_len, rs_folk_len]
def vi_6 (b : Nat) : List mm_E := vi_5 b ++ rs_past (b + 25)
theorem vi_6_len (b : Nat) : (vi_6 b).length = 126 := by rw [vi_6, List.length_append, vi_5_len, rs_past_len]
def vq_1 (b : Nat) : List mm_E := vq_0 b ++ rs_draws (b + 128)
theorem vq_1_len (b : Nat) : (vq_1 b).length = 1 := by rw [vq_1, List.length_append, vq_0_len, rs_draws_len]
def vq_2 (b : Nat) : List mm_E := vq_1 b ++ rs_ent6 (b + 129)
theorem vq_2_len (b : Nat) : (vq_2 b).length = 4 := by rw [vq_2, List.length_append, vq_1_len, rs_ent6_len]
def vq_3 (b : Nat) : List mm_E := vq_2 b ++ rs_ent6 (b + 132)
theorem vq_3_len (b : Nat) : (vq_3 b).length = 7 := by rw [vq_3, List.length_append, vq_2_len, rs_ent6_len]
def vq_4 (b : Nat) : List mm_E := vq_3 b ++ rs_ent15 (b + 135)
theorem vq_4_len (b : Nat) : (vq_4 b).length = 10 := by rw [vq_4, List.length_append, vq_3_len, rs_ent15_len]
def vq_5 (b : Nat) : List mm_E := vq_4 b ++ rs_line (b + 138)
theorem vq_5_len (b : Nat) : (vq_5 b).length = 12 := by rw [vq_5, List.length_append, vq_4_len, rs_line_len]
def vq_6 (b : Nat) : List mm_E := vq_5 b ++ rs_choir (b + 140)
theorem vq_6_len (b : Nat) : (vq_6 b).length = 23 := by rw [vq_6, List.length_append, vq_5_len, rs_choir_len]
def vq_7 (b : Nat) : List mm_E := vq_6 b ++ rs_image (b + 151)
theorem vq_7_len (b : Nat) : (vq_7 b).length = 29 := by rw [vq_7, List.length_append, vq_6_len, rs_image_len]
def vq_8 (b : Nat) : List mm_E := vq_7 b ++ rs_image (b + 157)
def rs_class (b : Nat) : List mm_E := .inl (9, [.ref (b + 1), .ref (b + 3), .ref (b + 9), .ref (b + 15), .ref (b + 20), .ref (b + 25), .ref (b + 127), .ref (b + 128), .ref (b + 129), .ref (b + 132), .ref (b + 135), .ref (b + 138), .ref (b + 140)]) :: (vi_6 b ++ .inr (3, 2, .inr (fun j => ([b + 151, b + 157] : List Nat)[j]?)) :: vq_8 b)
/-! ===== constructors: the class ===== -/
set_option maxRecDepth 100000 in
set_option maxHeartbeats 8000000 in
theorem k_class {g : mm_G} : mp_ctor g yX9_init cX9_init 2 (mn_rm 3 162 2193) [] (.inl (9, df9)) rs_class 163 := by
  refine mp_of (own := RX9) (by decide) (fun _ => Nat.le_of_ble_eq_true rfl) rfl rfl ?_
  intro w b hb h9
  show mn _ _ _ _ _ _ _ _ _ 0 0 (w ++ (.inl (9, df9) :: vi_0 b)) 0 [(0, .ref b)] []
  refine mn_aload_n dX9_init_0 rfl 0 rfl ?_
  refine mn_objInit dX9_init_1 ko_RX9 kc_O1 kc_O2 (by omega) ⟨Nat.le_of_ble_eq_true rfl, Nat.le_of_ble_eq_true rfl⟩ ?_
  refine mn_aload_n dX9_init_4 rfl 0 rfl ?_
  refine mp_new (j := 1) (t' := .inl (9, [.null, .null, .null, .null, .null, .null, .null, .null, .null, .null, .null, .null, .null]) :: (vi_0 b ++ [.inl (8, df8)])) hb dX9_init_5 kc_RX9_7 kc_D8 (kv_len (vi_0_len b)) rfl (by omega) (by omega) ⟨Nat.le_of_ble_eq_true rfl, Nat.le_of_ble_eq_true rfl⟩ ?_
  refine mn_dup dX9_init_8 rfl ?_
  refine mp_callIN (j := 1) (t0 := .inl (9, [.null, .null, .null, .null, .null, .null, .null, .null, .null, .null, .null, .null, .null]) :: vi_0 b) (t' := .inl (9, [.null, .null, .null, .null, .null, .null, .null, .null, .null, .null, .null, .null, .null]) :: vi_1 b) (st := [.ref (b + 1), .ref b]) hb dX9_init_9 qmX9_9 k_reader rfl (kv_len (vi_0_len b)) rfl rfl rfl (by omega) tk_X8_init rfl (Nat.le_of_ble_eq_true rfl) ⟨Nat.le_of_ble_eq_true rfl, Nat.le_of_ble_eq_true rfl⟩ ⟨Nat.le_of_ble_eq_true rfl, Nat.le_of_ble_eq_true rfl⟩ (by omega) ?_
  show mn _ _ _ _ _ _ _ _ _ 2 246 _ _ _ _
  refine mp_putF (i := 0) (t' := .inl (9, [.ref (b + 1), .null, .null, .null, .null, .null, .null, .null, .null, .null, .null, .null, .null]) :: vi_1 b) hb rfl dX9_init_12 rfl rfl rfl (by decide) gX9_10 rfl rfl rfl rfl rfl (Nat.le_of_ble_eq_true rfl) rfl ?_
  refine mn_aload_n dX9_init_15 rfl 0 rfl ?_
  refine mp_new (j := 3) (t' := .inl (9, [.ref (b + 1), .null, .null, .null, .null, .null, .null, .null, .null, .null, .null, .null, .null]) :: (vi_1 b ++ [.inl (6, df6)])) hb dX9_init_16 kc_RX9_16 kc_D6 (kv_len (vi_1_len b)) rfl (by omega) (by omega) ⟨Nat.le_of_ble_eq_true rfl, Nat.le_of_ble_eq_true rfl⟩ ?_
  refine mn_dup dX9_init_19 rfl ?_
  refine mp_callIN (j := 3) (t0 := .inl (9, [.ref (b + 1), .null, .null, .null, .null, .null, .null, .null, .null, .null, .null, .null, .null]) :: vi_1 b) (t' := .inl (9, [.ref (b + 1), .null, .null, .null, .null, .null, .null, .null, .null, .null, .null, .null, .null]) :: vi_2 b) (st := [.ref (b + 3), .ref b]) hb dX9_init_20 qmX9_18 k_parish rfl (kv_len (vi_1_len b)) rfl rfl rfl (by omega) tk_X6_init rfl (Nat.le_of_ble_eq_true rfl) ⟨Nat.le_of_ble_eq_true rfl, Nat.le_of_ble_eq_true rfl⟩ ⟨Nat.le_of_ble_eq_true rfl, Nat.le_of_ble_eq_true rfl⟩ (by omega) ?_
  show mn _ _ _ _ _ _ _ _ _ 8 288 _ _ _ _
  refine mp_put (i := 0) (t' := .inl (9, [.ref (b + 1), .ref (b + 3), .null, .null, .null, .null, .null, .null, .null, .null, .null, .null, .null]) :: vi_2 b) hb dX9_init_23 rfl rfl rfl (by decide) gX9_19 rfl rfl rfl rfl (Nat.le_of_ble_eq_true rfl) rfl ?_
  refine mn_aload_n dX9_init_26 rfl 0 rfl ?_
  refine mp_new (j := 9) (t' := .inl (9, [.ref (b + 1), .ref (b + 3), .null, .null, .null, .null, .null, .null, .null, .null, .null, .null, .null]) :: (vi_2 b ++ [.inl (6, df6)])) hb dX9_init_27 kc_RX9_16 kc_D6 (kv_len (vi_2_len b)) rfl (by omega) (by omega) ⟨Nat.le_of_ble_eq_true rfl, Nat.le_of_ble_eq_true rfl⟩ ?_
  refine mn_dup dX9_init_30 rfl ?_
  refine mp_callIN (j := 9) (t0 := .inl (9, [.ref (b + 1), .ref (b + 3), .null, .null, .null, .null, .null, .null, .null, .null, .null, .null, .null]) :: vi_2 b) (t' := .inl (9, [.ref (b + 1), .ref (b + 3), .null, .null, .null, .null, .null, .null, .null, .null, .null, .null, .null]) :: vi_3 b) (st := [.ref (b + 9), .ref b]) hb dX9_init_31 qmX9_18 k_parish rfl (kv_len (vi_2_len b)) rfl rfl rfl (by omega) tk_X6_init rfl (Nat.le_of_ble_eq_true rfl) ⟨Nat.le_of_ble_eq_true rfl, Nat.le_of_ble_eq_true rfl⟩ ⟨Nat.le_of_ble_eq_true rfl, Nat.le_of_ble_eq_true rfl⟩ (by omega) ?_
  show mn _ _ _ _ _ _ _ _ _ 14 330 _ _ _ _
  refine mp_put (i := 0) (t' := .inl (9, [.ref (b + 1), .ref (b + 3), .ref (b + 9), .null, .null, .null, .null, .null, .null, .null, .null, .null, .null]) :: vi_3 b) hb dX9_init_34 rfl rfl rfl (by decide) gX9_23 rfl rfl rfl rfl (Nat.le_of_ble_eq_true rfl) rfl ?_
  refine mn_aload_n dX9_init_37 rfl 0 rfl ?_
  refine mp_new (j := 15) (t' := .inl (9, [.ref (b + 1), .ref (b + 3), .ref (b + 9), .null, .null, .null, .null, .null, .null, .null, .null, .null, .null]) :: (vi_3 b ++ [.inl (3, df3)])) hb dX9_init_38 kc_RX9_26 kc_D3 (kv_len (vi_3_len b)) rfl (by omega) (by omega) ⟨Nat.le_of_ble_eq_true rfl, Nat.le_of_ble_eq_true rfl⟩ ?_
  refine mn_dup dX9_init_41 rfl ?_
  refine mp_callIN (j := 15) (t0 := .inl (9, [.ref (b + 1), .ref (b + 3), .ref (b + 9), .null, .null, .null, .null, .null, .null, .null, .null, .null, .null]) :: vi_3 b) (t' := .inl (9, [.ref (b + 1), .ref (b + 3), .ref (b + 9), .null, .null, .null, .null, .null, .null, .null, .null, .null, .null]) :: vi_4 b) (st := [.ref (b + 15), .ref b]) hb dX9_init_42 qmX9_28 k_folk rfl (kv_len (vi_3_len b)) rfl rfl rfl (by omega) tk_X3_init rfl (Nat.le_of_ble_eq_true rfl) ⟨Nat.le_of_ble_eq_true rfl, Nat.le_of_ble_eq_true rfl⟩ ⟨Nat.le_of_ble_eq_true rfl, Nat.le_of_ble_eq_true rfl⟩ (by omega) ?_
  show mn _ _ _ _ _ _ _ _ _ 19 365 _ _ _ _
  refine mp_putF (i := 0) (t' := .inl (9, [.ref (b + 1), .ref (b + 3), .ref (b + 9), .ref (b + 15), .null, .null, .null, .null, .null, .null, .null, .null, .null]) :: vi_4 b) hb rfl dX9_init_45 rfl rfl rfl (by decide) gX9_29 rfl rfl rfl rfl rfl (Nat.le_of_ble_eq_true rfl) rfl ?_
  refine mn_aload_n dX9_init_48 rfl 0 rfl ?_
  refine mp_new (j := 20) (t' := .inl (9, [.ref (b + 1), .ref (b + 3), .ref (b + 9), .ref (b + 15), .null, .null, .null, .null, .null, .null, .null, .null, .null]) :: (vi_4 b ++ [.inl (3, df3)])) hb dX9_init_49 kc_RX9_26 kc_D3 (kv_len (vi_4_len b)) rfl (by omega) (by omega) ⟨Nat.le_of_ble_eq_true rfl, Nat.le_of_ble_eq_true rfl⟩ ?_
  refine mn_dup dX9_init_52 rfl ?_
  refine mp_callIN (j := 20) (t0 := .inl (9, [.ref (b + 1), .ref (b + 3), .ref (b + 9), .ref (b + 15), .null, .null, .null, .null, .null, .null, .null, .null, .null]) :: vi_4 b) (t' := .inl (9, [.ref (b + 1), .ref (b + 3), .ref (b + 9), .ref (b + 15), .null, .null, .null, .null, .null, .null, .null, .null, .null]) :: vi_5 b) (st := [.ref (b + 20), .ref b]) hb dX9_init_53 qmX9_28 k_folk rfl (kv_len (vi_4_len b)) rfl rfl rfl (by omega) tk_X3_init rfl (Nat.le_of_ble_eq_true rfl) ⟨Nat.le_of_ble_eq_true rfl, Nat.le_of_ble_eq_true rfl⟩ ⟨Nat.le_of_ble_eq_true rfl, Nat.le_of_ble_eq_true rfl⟩ (by omega) ?_
  show mn _ _ _ _ _ _ _ _ _ 24 400 _ _ _ _
  refine mp_putF (i := 0) (t' := .inl (9, [.ref (b + 1), .ref (b + 3), .ref (b + 9), .ref (b + 15), .ref (b + 20), .null, .null, .null, .null, .null, .null, .null, .null]) :: vi_5 b) hb rfl dX9_init_56 rfl rfl rfl (by decide) gX9_33 rfl rfl rfl rfl rfl (Nat.le_of_ble_eq_true rfl) rfl ?_
  refine mn_aload_n dX9_init_59 rfl 0 rfl ?_
  refine mp_new (j := 25) (t' := .inl (9, [.ref (b + 1), .ref (b + 3), .ref (b + 9), .ref (b + 15), .ref (b + 20), .null, .null, .null, .null, .null, .null, .null, .null]) :: (vi_5 b ++ [.inl (7, df7)])) hb dX9_init_60 kc_RX9_36 kc_D7 (kv_len (vi_5_len b)) rfl (by omega) (by omega) ⟨Nat.le_of_ble_eq_true rfl, Nat.le_of_ble_eq_true rfl⟩ ?_
  refine mn_dup dX9_init_63 rfl ?_
  refine mp_callI (j := 25) (t0 := .inl (9, [.ref (b + 1), .ref (b + 3), .ref (b + 9), .ref (b + 15), .ref (b + 20), .null, .null, .null, .null, .null, .null, .null, .null]) :: vi_5 b) (t' := .inl (9, [.ref (b + 1), .ref (b + 3), .ref (b + 9), .ref (b + 15), .ref (b + 20), .null, .null, .null, .null, .null, .null, .null, .null]) :: vi_6 b) (st := [.ref (b + 25), .ref b]) hb dX9_init_64 qmX9_38 k_past rfl (kv_len (vi_5_len b)) rfl rfl rfl (by omega) tk_X7_init rfl (Nat.le_of_ble_eq_true rfl) ⟨Nat.le_of_ble_eq_true rfl, Nat.le_of_ble_eq_true rfl⟩ ⟨Nat.le_of_ble_eq_true rfl, Nat.le_of_ble_eq_true rfl⟩ (by omega) ?_
  show mn _ _ _ _ _ _ _ _ _ 126 1123 _ _ _ _
  refine mp_putF (i := 0) (t' := .inl (9, [.ref (b + 1), .ref (b + 3), .ref (b + 9), .ref (b + 15), .ref (b + 20), .ref (b + 25), .null, .null, .null, .null, .null, .null, .null]) :: vi_6 b) hb rfl dX9_init_67 rfl rfl rfl (by decide) gX9_39 rfl rfl rfl rfl rfl (Nat.le_of_ble_eq_true rfl) rfl ?_
  refine mn_aload_n dX9_init_70 rfl 0 rfl ?_
  refine mn_iconst (v := 2) dX9_init_71 (by decide) ?_
  refine mp_anew (N := 2) (t0 := 3) (j := 127) (t' := .inl (9, [.ref (b + 1), .ref (b + 3), .ref (b + 9), .ref (b + 15), .ref (b + 20), .ref (b + 25), .null, .null, .null, .null, .null, .null, .null]) :: vi_6 b ++ [.inr (3, 2, .inr (fun _ => none))]) hb dX9_init_72 kc_RX9_43 (fun s h => h.2.2.1) rfl (kv_len (vi_6_len b)) rfl (by decide) (by decide) rfl (by omega) (by omega) ⟨Nat.le_of_ble_eq_true rfl, Nat.le_of_ble_eq_true rfl⟩ ?_
  refine mp_putF (i := 0) (t' := .inl (9, [.ref (b + 1), .ref (b + 3), .ref (b + 9), .ref (b + 15), .ref (b + 20), .ref (b + 25), .ref (b + 127), .null, .null, .null, .null, .null, .null]) :: (vi_6 b ++ .inr (3, 2, .inr (fun j => ([] : List Nat)[j]?)) :: vq_0 b)) hb rfl dX9_init_75 rfl rfl rfl (by decide) gX9_45 rfl rfl rfl rfl rfl (Nat.le_of_ble_eq_true rfl) rfl ?_
  refine mn_aload_n dX9_init_78 rfl 0 rfl ?_
  refine mp_new (j := 128) (t' := .inl (9, [.ref (b + 1), .ref (b + 3), .ref (b + 9), .ref (b + 15), .ref (b + 20), .ref (b + 25), .ref (b + 127), .null, .null, .null, .null, .null, .null]) :: (vi_6 b ++ .inr (3, 2, .inr (fun j => ([] : List Nat)[j]?)) :: (vq_0 b ++ [.inl (1, df1)]))) hb dX9_init_79 kc_RX9_49 kc_D1 (kv_len2 (vi_6_len b) (vq_0_len b)) kv_app (by omega) (by omega) ⟨Nat.le_of_ble_eq_true rfl, Nat.le_of_ble_eq_true rfl⟩ ?_
  refine mn_dup dX9_init_82 rfl ?_
  refine mp_callIN (j := 128) (t0 := .inl (9, [.ref (b + 1), .ref (b + 3), .ref (b + 9), .ref (b + 15), .ref (b + 20), .ref (b + 25), .ref (b + 127), .null, .null, .null, .null, .null, .null]) :: (vi_6 b ++ .inr (3, 2, .inr (fun j => ([] : List Nat)[j]?)) :: vq_0 b)) (t' := .inl (9, [.ref (b + 1), .ref (b + 3), .ref (b + 9), .ref (b + 15), .ref (b + 20), .ref (b + 25), .ref (b + 127), .null, .null, .null, .null, .null, .null]) :: (vi_6 b ++ .inr (3, 2, .inr (fun j => ([] : List Nat)[j]?)) :: vq_1 b)) (st := [.ref (b + 128), .ref b]) hb dX9_init_83 qmX9_51 k_draws rfl (kv_len2 (vi_6_len b) (vq_0_len b)) rfl kv_app kv_app (by omega) tk_X1_init rfl (Nat.le_of_ble_eq_true rfl) ⟨Nat.le_of_ble_eq_true rfl, Nat.le_of_ble_eq_true rfl⟩ ⟨Nat.le_of_ble_eq_true rfl, Nat.le_of_ble_eq_true rfl⟩ (by omega) ?_
  show mn _ _ _ _ _ _ _ _ _ 128 1126 _ _ _ _
  refine mp_putF (i := 0) (t' := .inl (9, [.ref (b + 1), .ref (b + 3), .ref (b + 9), .ref (b + 15), .ref (b + 20), .ref (b + 25), .ref (b + 127), .ref (b + 128), .null, .null, .null, .null, .null]) :: (vi_6 b ++ .inr (3, 2, .inr (fun j => ([] : List Nat)[j]?)) :: vq_1 b)) hb rfl dX9_init_86 rfl rfl rfl (by decide) gX9_52 rfl rfl rfl rfl rfl (Nat.le_of_ble_eq_true rfl) rfl ?_
  refine mn_aload_n dX9_init_89 rfl 0 rfl ?_
  refine mp_new (j := 129) (t' := .inl (9, [.ref (b + 1), .ref (b + 3), .ref (b + 9), .ref (b + 15), .ref (b + 20), .ref (b + 25), .ref (b + 127), .ref (b + 128), .null, .null, .null, .null, .null]) :: (vi_6 b ++ .inr (3, 2, .inr (fun j => ([] : List Nat)[j]?)) :: (vq_1 b ++ [.inl (2, df2)]))) hb dX9_init_90 kc_RX9_56 kc_D2 (kv_len2 (vi_6_len b) (vq_1_len b)) kv_app (by omega) (by omega) ⟨Nat.le_of_ble_eq_true rfl, Nat.le_of_ble_eq_true rfl⟩ ?_
  refine mn_dup dX9_init_93 rfl ?_
  refine mn_bipush (v := 6) dX9_init_94 (by decide) ?_
  refine mp_callI (j := 129) (t0 := .inl (9, [.ref (b + 1), .ref (b + 3), .ref (b + 9), .ref (b + 15), .ref (b + 20), .ref (b + 25), .ref (b + 127), .ref (b + 128), .null, .null, .null, .null, .null]) :: (vi_6 b ++ .inr (3, 2, .inr (fun j => ([] : List Nat)[j]?)) :: vq_1 b)) (t' := .inl (9, [.ref (b + 1), .ref (b + 3), .ref (b + 9), .ref (b + 15), .ref (b + 20), .ref (b + 25), .ref (b + 127), .ref (b + 128), .null, .null, .null, .null, .null]) :: (vi_6 b ++ .inr (3, 2, .inr (fun j => ([] : List Nat)[j]?)) :: vq_2 b)) (st := [.ref (b + 129), .ref b]) hb dX9_init_96 qmX9_58 k_ent6 rfl (kv_len2 (vi_6_len b) (vq_1_len b)) rfl kv_app kv_app (by omega) tk_X2_init rfl (Nat.le_of_ble_eq_true rfl) ⟨Nat.le_of_ble_eq_true rfl, Nat.le_of_ble_eq_true rfl⟩ ⟨Nat.le_of_ble_eq_true rfl, Nat.le_of_ble_eq_true rfl⟩ (by omega) ?_
  show mn _ _ _ _ _ _ _ _ _ 131 1141 _ _ _ _
  refine mp_putF (i := 0) (t' := .inl (9, [.ref (b + 1), .ref (b + 3), .ref (b + 9), .ref (b + 15), .ref (b + 20), .ref (b + 25), .ref (b + 127), .ref (b + 128), .ref (b + 129), .null, .null, .null, .null]) :: (vi_6 b ++ .inr (3, 2, .inr (fun j => ([] : List Nat)[j]?)) :: vq_2 b)) hb rfl dX9_init_99 rfl rfl rfl (by decide) gX9_61 rfl rfl rfl rfl rfl (Nat.le_of_ble_eq_true rfl) rfl ?_
  refine mn_aload_n dX9_init_102 rfl 0 rfl ?_
  refine mp_new (j := 132) (t' := .inl (9, [.ref (b + 1), .ref (b + 3), .ref (b + 9), .ref (b + 15), .ref (b + 20), .ref (b + 25), .ref (b + 127), .ref (b + 128), .ref (b + 129), .null, .null, .null, .null]) :: (vi_6 b ++ .inr (3, 2, .inr (fun j => ([] : List Nat)[j]?)) :: (vq_2 b ++ [.inl (2, df2)]))) hb dX9_init_103 kc_RX9_56 kc_D2 (kv_len2 (vi_6_len b) (vq_2_len b)) kv_app (by omega) (by omega) ⟨Nat.le_of_ble_eq_true rfl, Nat.le_of_ble_eq_true rfl⟩ ?_
  refine mn_dup dX9_init_106 rfl ?_
  refine mn_bipush (v := 6) dX9_init_107 (by decide) ?_
  refine mp_callI (j := 132) (t0 := .inl (9, [.ref (b + 1), .ref (b + 3), .ref (b + 9), .ref (b + 15), .ref (b + 20), .ref (b + 25), .ref (b + 127), .ref (b + 128), .ref (b + 129), .null, .null, .null, .null]) :: (vi_6 b ++ .inr (3, 2, .inr (fun j => ([] : List Nat)[j]?)) :: vq_2 b)) (t' := .inl (9, [.ref (b + 1), .ref (b + 3), .ref (b + 9), .ref (b + 15), .ref (b + 20), .ref (b + 25), .ref (b + 127), .ref (b + 128), .ref (b + 129), .null, .null, .null, .null]) :: (vi_6 b ++ .inr (3, 2, .inr (fun j => ([] : List Nat)[j]?)) :: vq_3 b)) (st := [.ref (b + 132), .ref b]) hb dX9_init_109 qmX9_58 k_ent6 rfl (kv_len2 (vi_6_len b) (vq_2_len b)) rfl kv_app kv_app (by omega) tk_X2_init rfl (Nat.le_of_ble_eq_true rfl) ⟨Nat.le_of_ble_eq_true rfl, Nat.le_of_ble_eq_true rfl⟩ ⟨Nat.le_of_ble_eq_true rfl, Nat.le_of_ble_eq_true rfl⟩ (by omega) ?_
  show mn _ _ _ _ _ _ _ _ _ 134 1156 _ _ _ _
  refine mp_putF (i := 0) (t' := .inl (9, [.ref (b + 1), .ref (b + 3), .ref (b + 9), .ref (b + 15), .ref (b + 20), .ref (b + 25), .ref (b + 127), .ref (b + 128), .ref (b + 129), .ref (b + 132), .null, .null, .null]) :: (vi_6 b ++ .inr (3, 2, .inr (fun j => ([] : List Nat)[j]?)) :: vq_3 b)) hb rfl dX9_init_112 rfl rfl rfl (by decide) gX9_65 rfl rfl rfl rfl rfl (Nat.le_of_ble_eq_true rfl) rfl ?_
  refine mn_aload_n dX9_init_115 rfl 0 rfl ?_
  refine mp_new (j := 135) (t' := .inl (9, [.ref (b + 1), .ref (b + 3), .ref (b + 9), .ref (b + 15), .ref (b + 20), .ref (b + 25), .ref (b + 127), .ref (b + 128), .ref (b + 129), .ref (b + 132), .null, .null, .null]) :: (vi_6 b ++ .inr (3, 2, .inr (fun j => ([] : List Nat)[j]?)) :: (vq_3 b ++ [.inl (2, df2)]))) hb dX9_init_116 kc_RX9_56 kc_D2 (kv_len2 (vi_6_len b) (vq_3_len b)) kv_app (by omega) (by omega) ⟨Nat.le_of_ble_eq_true rfl, Nat.le_of_ble_eq_true rfl⟩ ?_
  refine mn_dup dX9_init_119 rfl ?_
  refine mn_bipush (v := 15) dX9_init_120 (by decide) ?_
  refine mp_callI (j := 135) (t0 := .inl (9, [.ref (b + 1), .ref (b + 3), .ref (b + 9), .ref (b + 15), .ref (b + 20), .ref (b + 25), .ref (b + 127), .ref (b + 128), .ref (b + 129), .ref (b + 132), .null, .null, .null]) :: (vi_6 b ++ .inr (3, 2, .inr (fun j => ([] : List Nat)[j]?)) :: vq_3 b)) (t' := .inl (9, [.ref (b + 1), .ref (b + 3), .ref (b + 9), .ref (b + 15), .ref (b + 20), .ref (b + 25), .ref (b + 127), .ref (b + 128), .ref (b + 129), .ref (b + 132), .null, .null, .null]) :: (vi_6 b ++ .inr (3, 2, .inr (fun j => ([] : List Nat)[j]?)) :: vq_4 b)) (st := [.ref (b + 135), .ref b]) hb dX9_init_122 qmX9_58 k_ent15 rfl (kv_len2 (vi_6_len b) (vq_3_len b)) rfl kv_app kv_app (by omega) tk_X2_init rfl (Nat.le_of_ble_eq_true rfl) ⟨Nat.le_of_ble_eq_true rfl, Nat.le_of_ble_eq_true rfl⟩ ⟨Nat.le_of_ble_eq_true rfl, Nat.le_of_ble_eq_true rfl⟩ (by omega) ?_
  show mn _ _ _ _ _ _ _ _ _ 137 1189 _ _ _ _
  refine mp_putF (i := 0) (t' := .inl (9, [.ref (b + 1), .ref (b + 3), .ref (b + 9), .ref (b + 15), .ref (b + 20), .ref (b + 25), .ref (b + 127), .ref (b + 128), .ref (b + 129), .ref (b + 132), .ref (b + 135), .null, .null]) :: (vi_6 b ++ .inr (3, 2, .inr (fun j => ([] : List Nat)[j]?)) :: vq_4 b)) hb rfl dX9_init_125 rfl rfl rfl (by decide) gX9_68 rfl rfl rfl rfl rfl (Nat.le_of_ble_eq_true rfl) rfl ?_
  refine mn_aload_n dX9_init_128 rfl 0 rfl ?_
  refine mp_new (j := 138) (t' := .inl (9, [.ref (b + 1), .ref (b + 3), .ref (b + 9), .ref (b + 15), .ref (b + 20), .ref (b + 25), .ref (b + 127), .ref (b + 128), .ref (b + 129), .ref (b + 132), .ref (b + 135), .null, .null]) :: (vi_6 b ++ .inr (3, 2, .inr (fun j => ([] : List Nat)[j]?)) :: (vq_4 b ++ [.inl (5, df5)]))) hb dX9_init_129 kc_RX9_71 kc_D5 (kv_len2 (vi_6_len b) (vq_4_len b)) kv_app (by omega) (by omega) ⟨Nat.le_of_ble_eq_true rfl, Nat.le_of_ble_eq_true rfl⟩ ?_
  refine mn_dup dX9_init_132 rfl ?_
  refine mp_callIN (j := 138) (t0 := .inl (9, [.ref (b + 1), .ref (b + 3), .ref (b + 9), .ref (b + 15), .ref (b + 20), .ref (b + 25), .ref (b + 127), .ref (b + 128), .ref (b + 129), .ref (b + 132), .ref (b + 135), .null, .null]) :: (vi_6 b ++ .inr (3, 2, .inr (fun j => ([] : List Nat)[j]?)) :: vq_4 b)) (t' := .inl (9, [.ref (b + 1), .ref (b + 3), .ref (b + 9), .ref (b + 15), .ref (b + 20), .ref (b + 25), .ref (b + 127), .ref (b + 128), .ref (b + 129), .ref (b + 132), .ref (b + 135), .null, .null]) :: (vi_6 b ++ .inr (3, 2, .inr (fun j => ([] : List Nat)[j]?)) :: vq_5 b)) (st := [.ref (b + 138), .ref b]) hb dX9_init_133 qmX9_73 k_line rfl (kv_len2 (vi_6_len b) (vq_4_len b)) rfl kv_app kv_app (by omega) tk_X5_init rfl (Nat.le_of_ble_eq_true rfl) ⟨Nat.le_of_ble_eq_true rfl, Nat.le_of_ble_eq_true rfl⟩ ⟨Nat.le_of_ble_eq_true rfl, Nat.le_of_ble_eq_true rfl⟩ (by omega) ?_
  show mn _ _ _ _ _ _ _ _ _ 139 1199 _ _ _ _
  refine mp_putF (i := 0) (t' := .inl (9, [.ref (b + 1), .ref (b + 3), .ref (b + 9), .ref (b + 15), .ref (b + 20), .ref (b + 25), .ref (b + 127), .ref (b + 128), .ref (b + 129), .ref (b + 132), .ref (b + 135), .ref (b + 138), .null]) :: (vi_6 b ++ .inr (3, 2, .inr (fun j => ([] : List Nat)[j]?)) :: vq_5 b)) hb rfl dX9_init_136 rfl rfl rfl (by decide) gX9_74 rfl rfl rfl rfl rfl (Nat.le_of_ble_eq_true rfl) rfl ?_
  refine mn_aload_n dX9_init_139 rfl 0 rfl ?_
  refine mp_new (j := 140) (t' := .inl (9, [.ref (b + 1), .ref (b + 3), .ref (b + 9), .ref (b + 15), .ref (b + 20), .ref (b + 25), .ref (b + 127), .ref (b + 128), .ref (b + 129), .ref (b + 132), .ref (b + 135), .ref (b + 138), .null]) :: (vi_6 b ++ .inr (3, 2, .inr (fun j => ([] : List Nat)[j]?)) :: (vq_5 b ++ [.inl (0, df0)]))) hb dX9_init_140 kc_RX9_78 kc_D0 (kv_len2 (vi_6_len b) (vq_5_len b)) kv_app (by omega) (by omega) ⟨Nat.le_of_ble_eq_true rfl, Nat.le_of_ble_eq_true rfl⟩ ?_
  refine mn_dup dX9_init_143 rfl ?_
  refine mp_callIN (j := 140) (t0 := .inl (9, [.ref (b + 1), .ref (b + 3), .ref (b + 9), .ref (b + 15), .ref (b + 20), .ref (b + 25), .ref (b + 127), .ref (b + 128), .ref (b + 129), .ref (b + 132), .ref (b + 135), .ref (b + 138), .null]) :: (vi_6 b ++ .inr (3, 2, .inr (fun j => ([] : List Nat)[j]?)) :: vq_5 b)) (t' := .inl (9, [.ref (b + 1), .ref (b + 3), .ref (b + 9), .ref (b + 15), .ref (b + 20), .ref (b + 25), .ref (b + 127), .ref (b + 128), .ref (b + 129), .ref (b + 132), .ref (b + 135), .ref (b + 138), .null]) :: (vi_6 b ++ .inr (3, 2, .inr (fun j => ([] : List Nat)[j]?)) :: vq_6 b)) (st := [.ref (b + 140), .ref b]) hb dX9_init_144 qmX9_80 k_choir rfl (kv_len2 (vi_6_len b) (vq_5_len b)) rfl kv_app kv_app (by omega) tk_X0_init rfl (Nat.le_of_ble_eq_true rfl) ⟨Nat.le_of_ble_eq_true rfl, Nat.le_of_ble_eq_true rfl⟩ ⟨Nat.le_of_ble_eq_true rfl, Nat.le_of_ble_eq_true rfl⟩ (by omega) ?_
  show mn _ _ _ _ _ _ _ _ _ 150 2117 _ _ _ _
  refine mp_putF (i := 0) (t' := .inl (9, [.ref (b + 1), .ref (b + 3), .ref (b + 9), .ref (b + 15), .ref (b + 20), .ref (b + 25), .ref (b + 127), .ref (b + 128), .ref (b + 129), .ref (b + 132), .ref (b + 135), .ref (b + 138), .ref (b + 140)]) :: (vi_6 b ++ .inr (3, 2, .inr (fun j => ([] : List Nat)[j]?)) :: vq_6 b)) hb rfl dX9_init_147 rfl rfl rfl (by decide) gX9_81 rfl rfl rfl rfl rfl (Nat.le_of_ble_eq_true rfl) rfl ?_
  refine mn_iconst (v := 0) dX9_init_150 (by decide) ?_
  refine mn_istore_n (ls' := [(1, .int 0), (0, .ref b)]) dX9_init_151 rfl (by decide) rfl ?_
  refine mn_iload_n dX9_init_152 rfl 0 rfl ?_
  refine mn_aload_n dX9_init_153 rfl 1 rfl ?_
  refine mp_get (i := 0) hb dX9_init_154 rfl rfl rfl (by decide) gX9_45 rfl ?_
  refine mp_alen (i := 127) (v := 2) hb dX9_init_157 rfl (kv_get (vi_6_len b)) rfl (by decide) ?_
  refine mn_icmp_ge (tgt := 180) dX9_init_158 rfl (fun q => absurd q (by decide)) (fun q => ?_)
  refine mn_aload_n dX9_init_161 rfl 1 rfl ?_
  refine mp_get (i := 0) hb dX9_init_162 rfl rfl rfl (by decide) gX9_45 rfl ?_
  refine mn_iload_n dX9_init_165 rfl 0 rfl ?_
  refine mp_new (j := 151) (t' := .inl (9, [.ref (b + 1), .ref (b + 3), .ref (b + 9), .ref (b + 15), .ref (b + 20), .ref (b + 25), .ref (b + 127), .ref (b + 128), .ref (b + 129), .ref (b + 132), .ref (b + 135), .ref (b + 138), .ref (b + 140)]) :: (vi_6 b ++ .inr (3, 2, .inr (fun j => ([] : List Nat)[j]?)) :: (vq_6 b ++ [.inl (4, df4)]))) hb dX9_init_166 kc_RX9_43 kc_D4 (kv_len2 (vi_6_len b) (vq_6_len b)) kv_app (by omega) (by omega) ⟨Nat.le_of_ble_eq_true rfl, Nat.le_of_ble_eq_true rfl⟩ ?_
  refine mn_dup dX9_init_169 rfl ?_
  refine mp_callIN (j := 151) (t0 := .inl (9, [.ref (b + 1), .ref (b + 3), .ref (b + 9), .ref (b + 15), .ref (b + 20), .ref (b + 25), .ref (b + 127), .ref (b + 128), .ref (b + 129), .ref (b + 132), .ref (b + 135), .ref (b + 138), .ref (b + 140)]) :: (vi_6 b ++ .inr (3, 2, .inr (fun j => ([] : List Nat)[j]?)) :: vq_6 b)) (t' := .inl (9, [.ref (b + 1), .ref (b + 3), .ref (b + 9), .ref (b + 15), .ref (b + 20), .ref (b + 25), .ref (b + 127), .ref (b + 128), .ref (b + 129), .ref (b + 132), .ref (b + 135), .ref (b + 138), .ref (b + 140)]) :: (vi_6 b ++ .inr (3, 2, .inr (fun j => ([] : List Nat)[j]?)) :: vq_7 b)) (st := [.ref (b + 151), .int 0, .ref (b + 127)]) hb dX9_init_170 qmX9_85 k_image rfl (kv_len2 (vi_6_len b) (vq_6_len b)) rfl kv_app kv_app (by omega) tk_X4_init rfl (Nat.le_of_ble_eq_true rfl) ⟨Nat.le_of_ble_eq_true rfl, Nat.le_of_ble_eq_true rfl⟩ ⟨Nat.le_of_ble_eq_true rfl, Nat.le_of_ble_eq_true rfl⟩ (by omega) ?_
  show mn _ _ _ _ _ _ _ _ _ 156 2155 _ _ _ _
  refine mp_aast (i1 := 127) (i2 := 151) (r := (RX4, TX4, 3)) (l := []) (l' := [b + 151]) (t' := .inl (9, [.ref (b + 1), .ref (b + 3), .ref (b + 9), .ref (b + 15), .ref (b + 20), .ref (b + 25), .ref (b + 127), .ref (b + 128), .ref (b + 129), .ref (b + 132), .ref (b + 135), .ref (b + 138), .ref (b + 140)]) :: (vi_6 b ++ .inr (3, 2, .inr (fun j => ([b + 151] : List Nat)[j]?)) :: vq_7 b)) hb dX9_init_173 rfl (kv_get (n := 126) (vi_6_len b)) rfl rfl (kv_get2 (n := 126) (m := 23) (vi_6_len b) (vq_6_len b) rfl) rfl (by unfold vp_in; decide) rfl rfl (kv_set (n := 126) (vi_6_len b)) ?_
  refine mn_iinc (ls' := fun v => [(1, .int v), (0, .ref b)]) dX9_init_174 0 rfl (by decide) (fun _ => rfl) (fun v hv => ?_)
  obtain rfl : v = 1 := hv.trans (by decide)
  refine mn_goto (tgt := 152) dX9_init_177 rfl ?_
  refine mn_iload_n dX9_init_152 rfl 0 rfl ?_
  refine mn_aload_n dX9_init_153 rfl 1 rfl ?_
  refine mp_get (i := 0) hb dX9_init_154 rfl rfl rfl (by decide) gX9_45 rfl ?_
  refine mp_alen (i := 127) (v := 2) hb dX9_init_157 rfl (kv_get (vi_6_len b)) rfl (by decide) ?_
  refine mn_icmp_ge (tgt := 180) dX9_init_158 rfl (fun q => absurd q (by decide)) (fun q => ?_)
  refine mn_aload_n dX9_init_161 rfl 1 rfl ?_
  refine mp_get (i := 0) hb dX9_init_162 rfl rfl rfl (by decide) gX9_45 rfl ?_
  refine mn_iload_n dX9_init_165 rfl 0 rfl ?_
  refine mp_new (j := 157) (t' := .inl (9, [.ref (b + 1), .ref (b + 3), .ref (b + 9), .ref (b + 15), .ref (b + 20), .ref (b + 25), .ref (b + 127), .ref (b + 128), .ref (b + 129), .ref (b + 132), .ref (b + 135), .ref (b + 138), .ref (b + 140)]) :: (vi_6 b ++ .inr (3, 2, .inr (fun j => ([b + 151] : List Nat)[j]?)) :: (vq_7 b ++ [.inl (4, df4)]))) hb dX9_init_166 kc_RX9_43 kc_D4 (kv_len2 (vi_6_len b) (vq_7_len b)) kv_app (by omega) (by omega) ⟨Nat.le_of_ble_eq_true rfl, Nat.le_of_ble_eq_true rfl⟩ ?_
  refine mn_dup dX9_init_169 rfl ?_
  refine mp_callIN (j := 157) (t0 := .inl (9, [.ref (b + 1), .ref (b + 3), .ref (b + 9), .ref (b + 15), .ref (b + 20), .ref (b + 25), .ref (b + 127), .ref (b + 128), .ref (b + 129), .ref (b + 132), .ref (b + 135), .ref (b + 138), .ref (b + 140)]) :: (vi_6 b ++ .inr (3, 2, .inr (fun j => ([b + 151] : List Nat)[j]?)) :: vq_7 b)) (t' := .inl (9, [.ref (b + 1), .ref (b + 3), .ref (b + 9), .ref (b + 15), .ref (b + 20), .ref (b + 25), .ref (b + 127), .ref (b + 128), .ref (b + 129), .ref (b + 132), .ref (b + 135), .ref (b + 138), .ref (b + 140)]) :: (vi_6 b ++ .inr (3, 2, .inr (fun j => ([b + 151] : List Nat)[j]?)) :: vq_8 b)) (st := [.ref (b + 157), .int 1, .ref (b + 127)]) hb dX9_init_170 qmX9_85 k_image rfl (kv_len2 (vi_6_len b) (vq_7_len b)) rfl kv_app kv_app (by omega) tk_X4_init rfl (Nat.le_of_ble_eq_true rfl) ⟨Nat.le_of_ble_eq_true rfl, Nat.le_of_ble_eq_true rfl⟩ ⟨Nat.le_of_ble_eq_true rfl, Nat.le_of_ble_eq_true rfl⟩ (by omega) ?_
  show mn _ _ _ _ _ _ _ _ _ 162 2193 _ _ _ _
  refine mp_aast (i1 := 127) (i2 := 157) (r := (RX4, TX4, 3)) (l := [b + 151]) (l' := [b + 151, b + 157]) (t' := .inl (9, [.ref (b + 1), .ref (b + 3), .ref (b + 9), .ref (b + 15), .ref (b + 20), .ref (b + 25), .ref (b + 127), .ref (b + 128), .ref (b + 129), .ref (b + 132), .ref (b + 135), .ref (b + 138), .ref (b + 140)]) :: (vi_6 b ++ .inr (3, 2, .inr (fun j => ([b + 151, b + 157] : List Nat)[j]?)) :: vq_8 b)) hb dX9_init_173 rfl (kv_get (n := 126) (vi_6_len b)) rfl rfl (kv_get2 (n := 126) (m := 29) (vi_6_len b) (vq_7_len b) rfl) rfl (by unfold vp_in; decide) rfl rfl (kv_set (n := 126) (vi_6_len b)) ?_
  refine mn_iinc (ls' := fun v => [(1, .int v), (0, .ref b)]) dX9_init_174 0 rfl (by decide) (fun _ => rfl) (fun v hv => ?_)
  obtain rfl : v = 2 := hv.trans (by decide)
  refine mn_goto (tgt := 152) dX9_init_177 rfl ?_
  refine mn_iload_n dX9_init_152 rfl 0 rfl ?_
  refine mn_aload_n dX9_init_153 rfl 1 rfl ?_
  refine mp_get (i := 0) hb dX9_init_154 rfl rfl rfl (by decide) gX9_45 rfl ?_
  refine mp_alen (i := 127) (v := 2) hb dX9_init_157 rfl (kv_get (vi_6_len b)) rfl (by decide) ?_
  refine mn_icmp_ge (tgt := 180) dX9_init_158 rfl (fun q => ?_) (fun q => absurd (by decide) q)
  exact mn_vret rfl dX9_init_180 rfl rfl ⟨rfl, rfl⟩
/-! ===== constructors: the reference; the worlds at the start ===== -/
def SM0 : mm_S := (fun a j => match a, j with | 0, 11 => -1 | _, _ => 0, fun _ _ => 0, fun _ _ => 0)
def SC0 : mm_S := (fun a j => match a, j with | 1, 2 => -1 | _, _ => 0, fun _ _ => 0, fun a j => match a, j with | 0, 1 => 3 | 0, 2 => 9 | _, _ => 0)
theorem mm_I0 {tb : mm_T} {S : mm_S} {a0 j0 : Nat} (h : ∀ a j, ¬ (a = a0 ∧ j = j0) → S.1 a j = 0) (ht : (tb.all fun q => decide (q.2.2.2.1 ≤ 0) && decide (0 ≤ q.2.2.2.2) && (q.1 != a0 || decide (j0 < q.2.1) || decide (q.2.2.1 < j0))) = true) : mm_I tb S := by
  intro q hq j h1 h2
  have h3 := List.all_eq_true.mp ht q hq
  simp only [Bool.and_eq_true, Bool.or_eq_true, decide_eq_true_eq, bne_iff_ne] at h3
  rw [h q.1 j (fun e => by
    rcases h3.2 with (h4 | h4) | h4
    · exact h4 e.1
    · omega
    · omega)]
  exact ⟨h3.1.1, h3.1.2⟩
theorem SM0_z : ∀ a j, ¬ (a = 0 ∧ j = 11) → SM0.1 a j = 0 := by
  intro a j h
  unfold SM0
  dsimp only
  split
  · exact absurd ⟨rfl, rfl⟩ h
  · rfl
theorem SC0_z : ∀ a j, ¬ (a = 1 ∧ j = 2) → SC0.1 a j = 0 := by
  intro a j h
  unfold SC0
  dsimp only
  split
  · exact absurd ⟨rfl, rfl⟩ h
  · rfl
theorem JM0 : JM SM0 := ⟨mm_I0 SM0_z (by decide +kernel), by unfold XM mm_bl; decide⟩
theorem JC0 : JC SC0 := ⟨mm_I0 SC0_z (by decide +kernel), by unfold XC; decide⟩
theorem k_model0 : ([] ++ [.inl (10, [.ref 1, .ref 2, .ref 3, .ref 4, .ref 5, .int 0, .ref 6, .ref 7, .long 0, .ref 8, .int 0, .int (-1), .ref 9, .int 0, .ref 10, .int 0, .ref 11, .int 0, .int 0, .int 0, .int 0, .int 0, .int 0, .int 0, .ref 12]), .inr (0, 37, .inl (fun _ => 0)), .inr (0, 37, .inl (fun _ => 0)), .inr (0, 30, .inl (fun _ => 0)), .inr (0, 30, .inl (fun _ => 0)), .inr (0, 600, .inl (fun _ => 0)), .inr (0, 62, .inl (fun _ => 0)), .inr (1, 2, .inl (fun _ => 0)), .inr (0, 240, .inl (fun _ => 0)), .inr (0, 12, .inl (fun _ => 0)), .inr (0, 12, .inl (fun _ => 0)), .inr (0, 30, .inl (fun _ => 0)), .inr (0, 896, .inl (fun _ => 0))] : List mm_E) = mm_enc shM SM0 := by rfl
theorem kq_choir : (fun i => if i < 7 then some (0 + 140 + 3 + 1 + i) else none) = fun i => ([144, 145, 146, 147, 148, 149, 150] : List Nat)[i]? := by
  funext i
  match i with
  | 0 | 1 | 2 | 3 | 4 | 5 | 6 => rfl
  | n + 7 => simp
set_option maxRecDepth 100000 in
set_option maxHeartbeats 8000000 in
theorem k_class0 : ([] ++ rs_class 0 : List mm_E) = mm_enc shC SC0 := by
  unfold rs_class vq_8 vq_7 vq_6 rs_choir
  rw [kq_choir]
  rfl
theorem mcn_wk {g : mm_G} {y : MethodName} {cc : ByteArray} {nL : Nat} {rm : Room} {as : List Value} {w : List mm_E} {Q Q2 : Option Value → List mm_E → Prop} (h : mcn g y cc nL rm as w Q) (hq : ∀ r w, Q r w → Q2 r w) : mcn g y cc nL rm as w Q2 := by
  intro l p e ha hc hk s m args below hf happ hP hK
  obtain ⟨t, o, h1, h2, h3, h4⟩ := h l p e ha hc hk s m args below hf happ hP hK
  refine ⟨t, o, h1, h2, h3, ?_⟩
  obtain ⟨⟨⟨r, w1, a1, a2, a3⟩, a4⟩, a5⟩ := h4
  exact ⟨⟨⟨r, w1, a1, hq r w1 a2, a3⟩, a4⟩, a5⟩
/-! ===== the reference: in, keep told exactly; orders joined ===== -/
set_option maxRecDepth 100000 in
set_option maxHeartbeats 4000000 in
theorem c_X10_inx {g : mm_G} (S : mm_S) (hI : JM S) (x0 x1 x2 : Int64) : mc g yX10_in cX10_in 6 (some .boolean) (mm_rm 0) [.long x0, .long x1, .long x2] (mm_enc shM S) (qi shM (fun S1 v => S = S1 ∧ mm_b 0 1 v ∧ ((v = 0 ∧ ¬ (x1.toInt ≤ x0.toInt ∧ x0.toInt ≤ x2.toInt)) ∨ (v = 1 ∧ x1.toInt ≤ x0.toInt ∧ x0.toInt ≤ x2.toInt)))) := by
  refine mc_of2 (own := RX10) (ini := false) (ls := [(0, .long x0), (2, .long x1), (4, .long x2)]) (by decide) (Nat.le_of_ble_eq_true rfl) rfl (by decide) rfl ?_
  refine mw_lload_n dX10_in_0 rfl 0 rfl ?_
  refine mw_lload_n dX10_in_1 rfl 1 rfl ?_
  refine mw_lcmp dX10_in_2 (fun z1 e1 => ?_)
  refine mw_if_lt (tgt := 17) dX10_in_3 (by decide) (fun q => ?_) (fun q => ?_)
  · refine mw_iconst dX10_in_17 ki_0 ?_
    refine mw_zret rfl (bd_nar n_0 (by decide)) dX10_in_18 rfl rfl ⟨S, _, rfl, rfl, rfl, bd_w n_0 (by decide), Or.inl ⟨rfl, fun h => ?_⟩⟩
    have h1 : 0 ≤ lg_cmp x0 x1 := (lg_cmp_ge x0 x1).mpr (Int64.le_iff_toInt_le.mpr h.1)
    rw [← e1] at h1
    have h2 := Int32.lt_iff_toInt_lt.mp q
    have h3 := Int32.le_iff_toInt_le.mp h1
    omega
  · have h1 : x1 ≤ x0 := (lg_cmp_ge x0 x1).mp (by rw [← e1]; exact bd_nlt q)
    refine mw_lload_n dX10_in_6 rfl 0 rfl ?_
    refine mw_lload dX10_in_7 2 rfl ?_
    refine mw_lcmp dX10_in_9 (fun z2 e2 => ?_)
    refine mw_if_gt (tgt := 17) dX10_in_10 (by decide) (fun q => ?_) (fun q => ?_)
    · refine mw_iconst dX10_in_17 ki_0 ?_
      refine mw_zret rfl (bd_nar n_0 (by decide)) dX10_in_18 rfl rfl ⟨S, _, rfl, rfl, rfl, bd_w n_0 (by decide), Or.inl ⟨rfl, fun h => ?_⟩⟩
      have h4 : lg_cmp x0 x2 ≤ 0 := (lg_cmp_le x0 x2).mpr (Int64.le_iff_toInt_le.mpr h.2)
      rw [← e2] at h4
      have h2 := Int32.lt_iff_toInt_lt.mp q
      have h3 := Int32.le_iff_toInt_le.mp h4
      omega
    · have h2 : x0 ≤ x2 := (lg_cmp_le x0 x2).mp (by rw [← e2]; exact bd_nlt q)
      refine mw_iconst dX10_in_13 ki_1 ?_
      refine mw_goto (tgt := 18) dX10_in_14 (by decide) ?_
      exact mw_zret rfl (bd_nar n_1 (by decide)) dX10_in_18 rfl rfl ⟨S, _, rfl, rfl, rfl, bd_w n_1 (by decide), Or.inr ⟨rfl, Int64.le_iff_toInt_le.mp h1, Int64.le_iff_toInt_le.mp h2⟩⟩
