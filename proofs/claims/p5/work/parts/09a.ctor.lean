/-! ===== constructors: the rows again, with a word of the heap's size at the entry ===== -/
def mn (φ : State → Prop) (g : mm_G) (own : String) (cc : ByteArray) (nL : Nat) (ret : Option FieldType) (ini : Bool) (rm : Room) (Q : Option Value → List mm_E → Prop) (k n : Nat) (w : List mm_E) (pc : Nat) (ls : List (Nat × Value)) (st : List Value) : Prop :=
  ∀ (p : Program) (l : Launch) (e : Env) (s : State) (m : MethodId) (args : Array Value) (below : List Frame) (meth : Method) (c : Code) (H : Heap) (locs : List Loc) (lsA : Array Slot), mm_at g own cc nL ret ini w ls p s m args meth c H locs lsA → φ s →
    W p l e rm s m args below meth c H locs k n (MQ below (mm_Q g Q) args s rm.cells rm.slots g.2.2.2.2) (F0 m pc lsA (st.map (mm_v g)))
def mn_AA (U : State) : Prop := (Cond.arrayOver (.array .int)).before #[] U = true
theorem mn_AA.moved {u U : State} (hvm : u.vm.Alike U.vm) (h : mn_AA u) : mn_AA U := by
  obtain ⟨comp, c, k, h1, h2, h3, h4, h5⟩ := arrayOverA_spec h
  obtain ⟨k', hk', he⟩ := hvm.2.2 _ _ h3
  have hi : (U.vm.classes.findIdx? fun (x : Class) => match x.kind with | .array component _ => component == comp | _ => false) = some c := by
    refine Eq.trans (va_idx_bare U.vm comp).symm ?_
    first | rw [hvm.bare_eq] | rw [← hvm.bare_eq]
    exact (va_idx_bare u.vm comp).trans h2
  have hkind : k'.kind = .array comp (.array .int) := by rw [he]; exact h4
  have f1 : U.vm.findClass (FieldType.array .int).toString = some comp := by rw [hvm.findClass]; exact h1
  have f2 : U.vm.findClass ("[" ++ (FieldType.array .int).toString) = some c := by rw [hvm.findClass]; exact h5
  unfold mn_AA Cond.before Cond.holds
  simp only [Cond.value]
  rw [f1, Option.bind_some]
  refine (congrArg (fun o : Option Nat => (o.bind (fun c => (U.vm.classes[c]?).map fun (k : Class) => match k.kind with | .array _ ty => decide (ty = FieldType.array .int) && decide (U.vm.findClass ("[" ++ (FieldType.array .int).toString) = some c) | _ => false) == some true)) hi).trans ?_
  simp [hk', hkind, f2]
def mn_f (g : mm_G) (nw : Nat) (s : State) : Prop := s.heap.size = g.2.2.1 + nw ∧ va_AO "VoiceWills$Folk" s ∧ va_AO "VoiceWills$Image" s ∧ mn_AA s ∧ ∀ q, g.2.2.1 ≤ q → g.2.2.2.2 q
theorem mn_f.on {g : mm_G} {nw nw1 : Nat} {s U : State} (h : mn_f g nw s) (hvm : s.vm.Alike U.vm) (hz : U.heap.size = g.2.2.1 + nw1) : mn_f g nw1 U := ⟨hz, va_AO.moved hvm h.2.1, va_AO.moved hvm h.2.2.1, mn_AA.moved hvm h.2.2.2.1, h.2.2.2.2⟩
theorem mn_f.calling {g : mm_G} {nw : Nat} {U : State} {f : JFrame} {mk : MethodId} {a : Array Value} (h : mn_f g nw U) : mn_f g nw (U.calling f mk a) := h.on (U := U.calling f mk a) (Vm.Alike.refl U.vm) h.1
def mn_rm (d c s : Nat) : Room := { frames := d, cells := c, slots := s, locals := 33 * d }
/-- a constructor's contract -/
def mcn (g : mm_G) (y : MethodName) (cc : ByteArray) (nL : Nat) (rm : Room) (as : List Value) (w : List mm_E) (Q : Option Value → List mm_E → Prop) : Prop :=
  ∀ l : Launch, Met l y (mm_ws y cc nL none) rm (va_Pc (as.map (mm_v g)) (fun U => (mm_H g w U.heap ∧ mm_K g U) ∧ mn_f g w.length U)) (mm_Q g Q) rm.cells rm.slots g.2.2.2.2
theorem mcn_of {g : mm_G} {y : MethodName} {cc : ByteArray} {nL : Nat} {rm : Room} {as : List Value} {w : List mm_E} {Q : Option Value → List mm_E → Prop} {own : String} {ls : List (Nat × Value)} (hy : plainName y.cls = true) (hn : (lg_sl as).length ≤ nL) (ho : y.cls = own) (hi : y.name = "<init>") (hl : lv_args 0 as = ls)
    (h : mn (mn_f g w.length) g own cc nL none true rm Q 0 0 w 0 ls []) : mcn g y cc nL rm as w Q := by
  subst ho
  subst hl
  intro l
  refine Met.ofW (cc := cc) (maxL := nL) (ret := none) hy rfl ?_
  intro p e s m args below meth c s₁ B hml hv
  obtain ⟨rfl, ⟨hH, hK⟩, hF⟩ := hv
  have hl := lv_entry (as.map (mm_v g)) (n := nL) (by rw [mm_sl]; exact hn)
  rw [lg_entry_eq]
  refine h p l e s m _ below meth c s.heap [] _ ⟨⟨B.exec, B.bytes, hml, findClass_of_methodNamed B.named, fun w hw => atoms_spec (ws := mm_ws y cc nL none) B.pre w (List.mem_cons_of_mem _ hw), B.returns, B.notSynchronized, fun q => ?_⟩, hK, hH, va_S.rf, ?_⟩ hF
  · rw [(name_of_methodNamed B.named B.method).1]
    exact hi
  · rw [← mm_largs]
    exact hl
section MN
variable {φ : State → Prop} {g : mm_G} {own : String} {cc : ByteArray} {nL : Nat} {ret : Option FieldType} {ini : Bool} {rm : Room} {Q : Option Value → List mm_E → Prop} {k n : Nat} {w : List mm_E} {pc : Nat} {ls : List (Nat × Value)} {st : List Value}
theorem mn_iconst {i : Int} {v : Int32} (d : decode cc pc = .ok (.iconst i, 1)) (hv : Int32.ofInt i = v)
    (kk : mn φ g own cc nL ret ini rm Q k n w (pc + 1) ls (.int v :: st)) : mn φ g own cc nL ret ini rm Q k n w pc ls st := by
  intro p l e s m args below meth c H locs lsA a hφ
  exact lv_iconst a.1.1 a.1.2.1 d hv (kk p l e s m args below meth c H locs lsA a hφ)
theorem mn_bipush {i : Int} {v : Int32} (d : decode cc pc = .ok (.bipush i, 2)) (hv : (Int8.ofInt i).toInt32 = v)
    (kk : mn φ g own cc nL ret ini rm Q k n w (pc + 2) ls (.int v :: st)) : mn φ g own cc nL ret ini rm Q k n w pc ls st := by
  intro p l e s m args below meth c H locs lsA a hφ
  exact lv_bipush a.1.1 a.1.2.1 d hv (kk p l e s m args below meth c H locs lsA a hφ)
theorem mn_sipush {i : Int} {v : Int32} (d : decode cc pc = .ok (.sipush i, 3)) (hv : (Int16.ofInt i).toInt32 = v)
    (kk : mn φ g own cc nL ret ini rm Q k n w (pc + 3) ls (.int v :: st)) : mn φ g own cc nL ret ini rm Q k n w pc ls st := by
  intro p l e s m args below meth c H locs lsA a hφ
  exact lv_sipush a.1.1 a.1.2.1 d hv (kk p l e s m args below meth c H locs lsA a hφ)
theorem mn_aload_n {f : Fin 4} {i : Nat} {x : Nat} (d : decode cc pc = .ok (.aload_n f, 1)) (hi : (f : Nat) = i) (j : Nat) (h : ls[j]? = some (i, .ref x))
    (kk : mn φ g own cc nL ret ini rm Q k n w (pc + 1) ls (.ref x :: st)) : mn φ g own cc nL ret ini rm Q k n w pc ls st := by
  intro p l e s m args below meth c H locs lsA a hφ
  exact lv_aload_n a.1.1 a.1.2.1 d hi (mm_loc a.2.2.2.2 h) (kk p l e s m args below meth c H locs lsA a hφ)
theorem mn_iload_n {f : Fin 4} {i : Nat} {x : Int32} (d : decode cc pc = .ok (.iload_n f, 1)) (hi : (f : Nat) = i) (j : Nat) (h : ls[j]? = some (i, .int x))
    (kk : mn φ g own cc nL ret ini rm Q k n w (pc + 1) ls (.int x :: st)) : mn φ g own cc nL ret ini rm Q k n w pc ls st := by
  intro p l e s m args below meth c H locs lsA a hφ
  exact lv_iload_n a.1.1 a.1.2.1 d hi (mm_loc a.2.2.2.2 h) (kk p l e s m args below meth c H locs lsA a hφ)
theorem mn_istore_n {f : Fin 4} {i : Nat} {x : Int32} {ls' : List (Nat × Value)} (d : decode cc pc = .ok (.istore_n f, 1)) (hi : (f : Nat) = i) (hn : i < nL) (hl : ((i, .int x) :: ls.filter (fun q => !(q.1 == i) && !(q.1 + 1 == i && q.2.category == 2))) = ls')
    (kk : mn φ g own cc nL ret ini rm Q k n w (pc + 1) ls' st) : mn φ g own cc nL ret ini rm Q k n w pc ls (.int x :: st) := by
  intro p l e s m args below meth c H locs lsA a hφ
  refine lv_istore_n (lv' := ls'.map (fun q => (q.1, mm_v g q.2))) a.1.1 a.1.2.1 d hi a.2.2.2.2 hn (by rw [← hl]; exact mm_store (v := .int x)) (fun lsB hB => ?_)
  exact kk p l e s m args below meth c H locs lsB ⟨a.1, a.2.1, a.2.2.1, a.2.2.2.1, hB⟩ hφ
theorem mn_iinc {i : Nat} {z : Int} {x : Int32} {ls' : Int32 → List (Nat × Value)} (d : decode cc pc = .ok (.iinc i z, 3)) (j : Nat) (h : ls[j]? = some (i, .int x)) (hn : i < nL) (hl : ∀ v : Int32, ((i, .int v) :: ls.filter (fun q => !(q.1 == i) && !(q.1 + 1 == i && q.2.category == 2))) = ls' v)
    (kk : ∀ v : Int32, v = x + Int32.ofInt z → mn φ g own cc nL ret ini rm Q k n w (pc + 3) (ls' v) st) : mn φ g own cc nL ret ini rm Q k n w pc ls st := by
  intro p l e s m args below meth c H locs lsA a hφ
  refine lv_iinc (v := x + Int32.ofInt z) (lv' := (ls' (x + Int32.ofInt z)).map (fun q => (q.1, mm_v g q.2))) a.1.1 a.1.2.1 d a.2.2.2.2 (k := j) (by rw [List.getElem?_map, h]; rfl) rfl hn (by rw [← hl]; exact mm_store (v := .int (x + Int32.ofInt z))) (fun lsB hB => ?_)
  exact kk _ rfl p l e s m args below meth c H locs lsB ⟨a.1, a.2.1, a.2.2.1, a.2.2.2.1, hB⟩ hφ
theorem mn_icmp_ge {x y : Int32} {off : Int} {tgt : Nat} (d : decode cc pc = .ok (.if_icmp .ge off, 3)) (ht : (pc : Int) + off = (tgt : Int)) (kt : y ≤ x → mn φ g own cc nL ret ini rm Q k n w tgt ls st)
    (kf : ¬ y ≤ x → mn φ g own cc nL ret ini rm Q k n w (pc + 3) ls st) : mn φ g own cc nL ret ini rm Q k n w pc ls (.int y :: .int x :: st) := by
  intro p l e s m args below meth c H locs lsA a hφ
  exact lv_icmp_ge a.1.1 a.1.2.1 d ht (fun q => kt q p l e s m args below meth c H locs lsA a hφ) (fun q => kf q p l e s m args below meth c H locs lsA a hφ)
theorem mn_goto {off : Int} {tgt : Nat} (d : decode cc pc = .ok (.goto off, 3)) (ht : (pc : Int) + off = (tgt : Int))
    (kk : mn φ g own cc nL ret ini rm Q k n w tgt ls st) : mn φ g own cc nL ret ini rm Q k n w pc ls st := by
  intro p l e s m args below meth c H locs lsA a hφ
  exact lv_goto a.1.1 a.1.2.1 d ht (kk p l e s m args below meth c H locs lsA a hφ)
theorem mn_dup {v : Value} (d : decode cc pc = .ok (.dup, 1)) (hc : v.category = 1)
    (kk : mn φ g own cc nL ret ini rm Q k n w (pc + 1) ls (v :: v :: st)) : mn φ g own cc nL ret ini rm Q k n w pc ls (v :: st) := by
  intro p l e s m args below meth c H locs lsA a hφ
  exact lv_dup a.1.1 a.1.2.1 d ((mm_v_cat g v).trans hc) (kk p l e s m args below meth c H locs lsA a hφ)
theorem mn_get {a ci j idx : Nat} {fs : List Value} {C : String} {T : u_T} {N : Nat} {v : Value} (d : decode cc pc = .ok (.getfield idx, 3)) (hw : w[a]? = some (.inl (ci, fs))) (hc : vwCl[ci]? = some (C, T, N)) (hj : j < N) (hl : Cond.fieldLink own idx (T j).1 (T j).2.1 (T j).2.2.1 ∈ mm_ok) (hv : fs[j]? = some v)
    (kk : mn φ g own cc nL ret ini rm Q k n w (pc + 3) ls (v :: st)) : mn φ g own cc nL ret ini rm Q k n w pc ls (.ref a :: st) := by
  intro p l e s m args below meth c H locs lsA A hφ
  have ha := Nat.lt_of_lt_of_le (mm_lt hw) A.2.2.1.2.2
  show W _ _ _ _ _ _ _ _ _ _ _ _ _ _ _ (F0 m pc lsA (mm_v g (.ref a) :: st.map (mm_v g)))
  rw [mm_v_ref ha]
  exact va_get A.1.1 A.1.2.1 A.1.2.2.2.2.1 (mm_inX _ (List.mem_of_getElem? hc)) A.1.2.2.2.1 A.2.1.1 A.2.2.1.1 a (mm_w_get hw) hc j hj (A.1.2.2.2.2.1 _ hl) (fun _ h => h) (by rw [List.getElem?_map, hv]; rfl) d (kk p l e s m args below meth c H locs lsA A hφ)
theorem mn_put {a ci j idx : Nat} {fs : List Value} {C : String} {T : u_T} {N : Nat} {ty : FieldType} {v : Value} (d : decode cc pc = .ok (.putfield idx, 3)) (hw : w[a]? = some (.inl (ci, fs))) (hc : vwCl[ci]? = some (C, T, N)) (hj : j < N) (hl : Cond.fieldLink own idx (T j).1 (T j).2.1 (T j).2.2.1 ∈ mm_ok) (hf : (T j).2.2.2 = false) (hd : parseFieldDescriptor (T j).2.2.1 = some ty) (hn : narrow ty v = v) (hfit : fits ty v = true) (hlen : j < fs.length)
    (kk : mn φ g own cc nL ret ini rm Q k n (w.set a (.inl (ci, fs.set j v))) (pc + 3) ls st) : mn φ g own cc nL ret ini rm Q k n w pc ls (v :: .ref a :: st) := by
  intro p l e s m args below meth c H locs lsA A hφ
  have ha := Nat.lt_of_lt_of_le (mm_lt hw) A.2.2.1.2.2
  show W _ _ _ _ _ _ _ _ _ _ _ _ _ _ _ (F0 m pc lsA (mm_v g v :: mm_v g (.ref a) :: st.map (mm_v g)))
  rw [mm_v_ref ha]
  obtain ⟨ty0, hty⟩ := mm_tyX hc
  refine va_put A.1.1 A.1.2.1 A.1.2.2.2.2.1 (mm_inX _ (List.mem_of_getElem? hc)) ty0 hty (mm_nmX _ (List.mem_of_getElem? hc)) A.1.2.2.2.1 A.2.1.1 A.2.2.1.1 A.2.2.1.2.1 A.2.2.2.1 a (mm_w_get hw) hc j hj (A.1.2.2.2.2.1 _ hl) (fun _ h => h) hf hd (mm_narrow g hn) (mm_fits g hfit) (by rw [List.length_map]; exact hlen) d (fun H1 locs1 hP hD hS => ?_)
  rw [← List.map_set, ← mm_e_obj, mm_w_set] at hP hD
  exact kk p l e s m args below meth c H1 locs1 lsA ⟨A.1, A.2.1, ⟨hP, hD, by rw [List.length_set]; exact A.2.2.1.2.2⟩, hS, A.2.2.2.2⟩ hφ
theorem mn_putF {a ci j idx : Nat} {fs : List Value} {C : String} {T : u_T} {N : Nat} {ty : FieldType} {v : Value} (hi : ini = true) (d : decode cc pc = .ok (.putfield idx, 3)) (hw : w[a]? = some (.inl (ci, fs))) (hc : vwCl[ci]? = some (C, T, N)) (hj : j < N) (hl : Cond.fieldLink own idx (T j).1 (T j).2.1 (T j).2.2.1 ∈ mm_ok) (hf : (T j).2.2.2 = true) (ho : (T j).1 = own) (hd : parseFieldDescriptor (T j).2.2.1 = some ty) (hn : narrow ty v = v) (hfit : fits ty v = true) (hlen : j < fs.length)
    (kk : mn φ g own cc nL ret ini rm Q k n (w.set a (.inl (ci, fs.set j v))) (pc + 3) ls st) : mn φ g own cc nL ret ini rm Q k n w pc ls (v :: .ref a :: st) := by
  intro p l e s m args below meth c H locs lsA A hφ
  have ha := Nat.lt_of_lt_of_le (mm_lt hw) A.2.2.1.2.2
  show W _ _ _ _ _ _ _ _ _ _ _ _ _ _ _ (F0 m pc lsA (mm_v g v :: mm_v g (.ref a) :: st.map (mm_v g)))
  rw [mm_v_ref ha]
  obtain ⟨ty0, hty⟩ := mm_tyX hc
  refine va_putF A.1.1 A.1.2.1 A.1.2.2.2.2.1 (mm_inX _ (List.mem_of_getElem? hc)) ty0 hty (mm_nmX _ (List.mem_of_getElem? hc)) A.1.2.2.2.1 A.2.1.1 A.2.2.1.1 A.2.2.1.2.1 A.2.2.2.1 a (mm_w_get hw) hc j hj (A.1.2.2.2.2.1 _ hl) (fun _ h => h) hf (A.1.2.2.2.2.2.2.2 hi) ho hd (mm_narrow g hn) (mm_fits g hfit) (by rw [List.length_map]; exact hlen) d (fun H1 locs1 hP hD hS => ?_)
  rw [← List.map_set, ← mm_e_obj, mm_w_set] at hP hD
  exact kk p l e s m args below meth c H1 locs1 lsA ⟨A.1, A.2.1, ⟨hP, hD, by rw [List.length_set]; exact A.2.2.1.2.2⟩, hS, A.2.2.2.2⟩ hφ
theorem mn_alen {a t N : Nat} {f : (Nat → Int32) ⊕ (Nat → Option Nat)} {ty : FieldType} {v : Int32} (d : decode cc pc = .ok (.arraylength, 1)) (hw : w[a]? = some (.inr (t, N, f))) (ht : (mm_tys g)[t]? = some (g.2.2.2.1 t, ty)) (hv : Int32.ofNat N = v)
    (kk : mn φ g own cc nL ret ini rm Q k n w (pc + 1) ls (.int v :: st)) : mn φ g own cc nL ret ini rm Q k n w pc ls (.ref a :: st) := by
  intro p l e s m args below meth c H locs lsA A hφ
  have ha := Nat.lt_of_lt_of_le (mm_lt hw) A.2.2.1.2.2
  show W _ _ _ _ _ _ _ _ _ _ _ _ _ _ _ (F0 m pc lsA (mm_v g (.ref a) :: st.map (mm_v g)))
  rw [mm_v_ref ha]
  have hg := mm_w_get (g := g) hw
  rcases f with f | f
  · exact va_alen A.1.1 A.1.2.1 A.2.1.1 A.2.2.1.1 a t hg ht hv d (kk p l e s m args below meth c H locs lsA A hφ)
  · exact va_alen A.1.1 A.1.2.1 A.2.1.1 A.2.2.1.1 a t hg ht hv d (kk p l e s m args below meth c H locs lsA A hφ)
theorem mn_vret (hr : ret = none) (d : decode cc pc = .ok (.return_, 1)) (hc : k = rm.cells) (hs : n = rm.slots)
    (hq : Q none w) : mn φ g own cc nL ret ini rm Q k n w pc ls [] := by
  intro p l e s m args below meth c H locs lsA a hφ
  subst hc
  subst hs
  exact W.vret a.1.1 a.1.2.1 (by rw [a.1.2.2.2.2.2.1]; exact hr) (fun t ht hW => ⟨⟨none, w, rfl, hq, by rw [ht]; exact a.2.2.1⟩, a.2.2.2.1.F ht⟩) a.2.2.2.1.2.2 d (hlocks := a.1.2.2.2.2.2.2.1)
theorem mn_sz {nw : Nat} {p : Program} {l : Launch} {e : Env} {s : State} {m : MethodId} {args : Array Value} {below : List Frame} {meth : Method} {c : Code} {H : Heap} {locs : List Loc} {lsA : Array Slot} (A : mm_at g own cc nL ret ini w ls p s m args meth c H locs lsA) (F : mn_f g nw s) (hz : nw + k = w.length) {T : State} (hT : T.heap = H) (X : Stand p l e rm s m args below meth c T locs k n) : H.size = g.2.2.1 + w.length := by
  have h1 := X.heapSize
  rw [hT, F.1] at h1
  have h2 : g.2.2.1 + w.length ≤ H.size := by
    by_cases hw : w.length = 0
    · have h3 := A.2.2.2.1.1
      rw [F.1] at h3
      omega
    · have hg : w[w.length - 1]? = some (w[w.length - 1]'(by omega)) := List.getElem?_eq_getElem _
      have h3 : g.2.2.1 + (w.length - 1) < H.size := (A.2.2.1.1 _ _ (mm_w_get (g := g) hg)).lt
      omega
  omega
theorem mn_at1 {nw : Nat} {p : Program} {s : State} {m : MethodId} {args : Array Value} {meth : Method} {c : Code} {H H1 : Heap} {locs : List Loc} {lsA : Array Slot} {e1 : mm_E} (A : mm_at g own cc nL ret ini w ls p s m args meth c H locs lsA) (F : mn_f g nw s) (hsz : H.size = g.2.2.1 + w.length) (z1 : H1.size = H.size + 1) (o1 : ∀ q, q < H.size → H1[q]? = H[q]?) (hl9 : w.length < 999)
    (hn : va_at g.1 vwCl (g.2.2.1 + w.length, mm_e g e1) H1) : mm_at g own cc nL ret ini (w ++ [e1]) ls p s m args meth c H1 locs lsA := by
  have hP := A.2.2.1.1
  have hk : ∀ (k : Nat) (x : Nat × va_E), (mm_w g w)[k]? = some x → H1[x.1]? = H[x.1]? := fun k x hx => o1 x.1 ((hP k x hx).lt)
  have hS := A.2.2.2.1
  refine ⟨A.1, A.2.1, ⟨?_, ?_, by rw [List.length_append, List.length_singleton]; omega⟩, ⟨Nat.le_trans hS.1 (by omega), fun x h1 h2 => (o1 x (Nat.lt_of_lt_of_le h1 hS.1)).trans (hS.2.1 x h1 h2), hS.2.2⟩, A.2.2.2.2⟩
  · rw [mm_w_push]
    refine (hP.kept hk).app (fun k x hx => ?_)
    have hz : k < 1 := (List.getElem?_eq_some_iff.mp hx).1
    rw [show k = 0 by omega] at hx
    cases hx
    exact hn
  · rw [mm_w_push]
    exact A.2.2.1.2.1.push hP hsz.symm (F.2.2.2.2 _ (Nat.le_add_right _ _))
theorem mn_new {nw idx ci N : Nat} {C : String} {T : u_T} {fs : List Value} (d : decode cc pc = .ok (.new idx, 3)) (hcl : Cond.classLink own idx C ∈ mm_ok) (hins : Cond.instantiable C N ∈ mm_ok) (hini : Cond.initialized C ∈ mm_ok) (hc : vwCl[ci]? = some (C, T, N)) (ty : Nat → FieldType) (hty : ∀ k, k < N → parseFieldDescriptor (T k).2.2.1 = some (ty k)) (hfs : ∀ j, j < N → defaultValue (ty j) = vp_V fs j) (hmap : ∀ g, fs.map (mm_v g) = fs) (hz : nw + k = w.length) (hl9 : w.length < 999) (hcs : k + 1 ≤ rm.cells ∧ n + N ≤ rm.slots)
    (kk : mn (mn_f g nw) g own cc nL ret ini rm Q (k + 1) (n + N) (w ++ [.inl (ci, fs)]) (pc + 3) ls (.ref w.length :: st)) : mn (mn_f g nw) g own cc nL ret ini rm Q k n w pc ls st := by
  intro p l e s m args below meth c H locs lsA A F T1 hT X
  have hsz := mn_sz A F hz hT X
  have hKn := A.2.1.1.1 ci _ hc
  refine W.newcK A.1.1 A.1.2.1 A.1.2.2.2.1 (A.1.2.2.2.2.1 _ hcl) (A.1.2.2.2.2.1 _ hins) (A.1.2.2.2.2.1 _ hini) (g := F0 m pc lsA (st.map (mm_v g))) rfl d hcs.1 hcs.2 hKn.2.1 hsz (fun H1 kC hkC e1 z1 o1 => ?_) T1 hT X
  have h9 := kk p l e s m args below meth c H1 locs lsA (mn_at1 A F hsz (by rw [z1, hsz]) (by rw [hsz]; exact o1) hl9 (by
    rw [mm_e_obj, hmap]
    exact ⟨_, hc, (u_born ty A.1.2.2.2.2.1 (mm_inX _ (List.mem_of_getElem? hc)) hKn hkC e1 hty).to hfs⟩)) F
  rw [List.map_cons, mm_v_ref hl9] at h9
  exact h9
theorem mn_newa {nw t N : Nat} {at1 : ArrayType} {x : Int32} (d : decode cc pc = .ok (.newarray at1, 2)) (ha : Cond.arrayClass (newarray.typeOf at1) ∈ mm_ok) (ht : (mm_tys g)[t]? = some (g.2.2.2.1 t, newarray.typeOf at1)) (hc0 : ∀ cA : ClassId, vp_cell cA (N, .inl (fun _ => 0)) = arrV cA N (fun _ => defaultValue (newarray.typeOf at1))) (hra : ∀ (U : State) (cA : ClassId), va_RA U cA (newarray.typeOf at1) → U.vm.findClass ("[" ++ (newarray.typeOf at1).toString) = some cA) (hb : N * componentBytes (newarray.typeOf at1) ≤ 536870912) (hx : ¬ x < 0) (hN : x.toNatClampNeg = N) (hz : nw + k = w.length) (hl9 : w.length < 999) (hcs : k + 1 ≤ rm.cells ∧ n + N ≤ rm.slots)
    (kk : mn (mn_f g nw) g own cc nL ret ini rm Q (k + 1) (n + N) (w ++ [.inr (t, N, .inl (fun _ => 0))]) (pc + 2) ls (.ref w.length :: st)) : mn (mn_f g nw) g own cc nL ret ini rm Q k n w pc ls (.int x :: st) := by
  intro p l e s m args below meth c H locs lsA A F T1 hT X
  have hsz := mn_sz A F hz hT X
  refine va_newaK A.1.1 A.1.2.1 (A.1.2.2.2.2.1 _ ha) (g := F0 m pc lsA (.int x :: st.map (mm_v g))) rfl d rfl hx hN hb hcs.1 hcs.2 hsz (fun H1 cA e1 z1 o1 _ hNm => ?_) T1 hT X
  have hcA : cA = g.2.2.2.1 t := Option.some.inj (hNm.symm.trans (hra _ _ (A.2.1.1.2 t _ ht).2))
  subst hcA
  have h9 := kk p l e s m args below meth c H1 locs lsA (mn_at1 A F hsz (by rw [z1, hsz]) (by rw [hsz]; exact o1) hl9 (by
    rw [mm_e_int]
    show H1[g.2.2.1 + w.length]? = some (vp_cell _ _)
    rw [hc0]
    exact e1)) F
  rw [List.map_cons, mm_v_ref hl9] at h9
  exact h9
theorem mn_newi {nw N : Nat} {x : Int32} (d : decode cc pc = .ok (.newarray .int, 2)) (ha : Cond.arrayClass .int ∈ mm_ok) (hb : N * 4 ≤ 536870912) (hx : ¬ x < 0) (hN : x.toNatClampNeg = N) (hz : nw + k = w.length) (hl9 : w.length < 999) (hcs : k + 1 ≤ rm.cells ∧ n + N ≤ rm.slots)
    (kk : mn (mn_f g nw) g own cc nL ret ini rm Q (k + 1) (n + N) (w ++ [.inr (0, N, .inl (fun _ => 0))]) (pc + 2) ls (.ref w.length :: st)) : mn (mn_f g nw) g own cc nL ret ini rm Q k n w pc ls (.int x :: st) :=
  mn_newa d ha rfl (fun _ => rfl) (fun _ _ h => h) hb hx hN hz hl9 hcs kk
theorem mn_newz {nw N : Nat} {x : Int32} (d : decode cc pc = .ok (.newarray .boolean, 2)) (ha : Cond.arrayClass .boolean ∈ mm_ok) (hb : N * 1 ≤ 536870912) (hx : ¬ x < 0) (hN : x.toNatClampNeg = N) (hz : nw + k = w.length) (hl9 : w.length < 999) (hcs : k + 1 ≤ rm.cells ∧ n + N ≤ rm.slots)
    (kk : mn (mn_f g nw) g own cc nL ret ini rm Q (k + 1) (n + N) (w ++ [.inr (1, N, .inl (fun _ => 0))]) (pc + 2) ls (.ref w.length :: st)) : mn (mn_f g nw) g own cc nL ret ini rm Q k n w pc ls (.int x :: st) :=
  mn_newa d ha rfl (fun _ => rfl) (fun _ _ h => h) hb hx hN hz hl9 hcs kk
theorem mn_anew {nw t N idx : Nat} {C : String} {x : Int32} (d : decode cc pc = .ok (.anewarray idx, 3)) (hcl : Cond.classLink own idx C ∈ mm_ok) (ho : ∀ s : State, mn_f g nw s → va_AO C s) (ht : (mm_tys g)[t]? = some (g.2.2.2.1 t, .object C)) (hb : N * 4 ≤ 536870912) (hx : ¬ x < 0) (hN : x.toNatClampNeg = N) (hz : nw + k = w.length) (hl9 : w.length < 999) (hcs : k + 1 ≤ rm.cells ∧ n + N ≤ rm.slots)
    (kk : mn (mn_f g nw) g own cc nL ret ini rm Q (k + 1) (n + N) (w ++ [.inr (t, N, .inr (fun _ => none))]) (pc + 3) ls (.ref w.length :: st)) : mn (mn_f g nw) g own cc nL ret ini rm Q k n w pc ls (.int x :: st) := by
  intro p l e s m args below meth c H locs lsA A F T1 hT X
  subst hN
  have hsz := mn_sz A F hz hT X
  refine W.anew A.1.1 A.1.2.1 A.1.2.2.2.1 (A.1.2.2.2.2.1 _ hcl) (va_AO.use (ho s F)) (g := F0 m pc lsA (.int x :: st.map (mm_v g))) rfl d rfl hx hb hcs.1 hcs.2 (fun cA kA comp hNm _ _ _ => ?_) T1 hT X
  obtain ⟨_, _, _, _, _, hRA⟩ := (A.2.1.1.2 t _ ht).2
  have hcA : cA = g.2.2.2.1 t := Option.some.inj (hNm.symm.trans hRA)
  subst hcA
  have h9 := kk p l e s m args below meth c (H.push { cls := g.2.2.2.1 t, slots := Array.replicate x.toNatClampNeg .null, vm := .none }) locs lsA (mn_at1 A F hsz (by simp) (fun q hq => by rw [Array.getElem?_push, if_neg (Nat.ne_of_lt hq)]) hl9 (by
    show (H.push _)[g.2.2.1 + w.length]? = some (vp_cell _ _)
    rw [← hsz, arrV_new, Array.getElem?_push, if_pos rfl]
    rfl)) F
  rw [List.map_cons, mm_v_ref hl9] at h9
  rw [hsz]
  exact h9
theorem mn_up {f : Nat → Option Nat} {i b v : Nat} : va_up (fun j => (f j).map (fun a => b + a)) i (some (b + v)) = fun j => (va_up f i (some v) j).map (fun a => b + a) := by
  funext j
  unfold va_up
  by_cases h : j = i
  · simp [h]
  · simp [h]
theorem mn_upl {l : List Nat} {v : Nat} : va_up (fun j => l[j]?) l.length (some v) = fun j => (l ++ [v])[j]? := by
  funext j
  unfold va_up
  by_cases h : j = l.length
  · simp [h]
  · by_cases h2 : j < l.length
    · simp [h, List.getElem?_append_left h2]
    · simp only [h, if_false]
      rw [List.getElem?_eq_none (by omega), List.getElem?_eq_none (by rw [List.length_append, List.length_singleton]; omega)]
theorem mn_aast {a v t ci N : Nat} {r : vw_C} {l : List Nat} {vs : List Value} {i : Int32} (d : decode cc pc = .ok (.aastore, 1)) (hw : w[a]? = some (.inr (t, N, .inr (fun j => l[j]?)))) (ht : (mm_tys g)[t]? = some (g.2.2.2.1 t, .object r.1)) (hv : w[v]? = some (.inl (ci, vs))) (hc : vwCl[ci]? = some r) (hin : vp_in i N) (hi : i.toNatClampNeg = l.length)
    (kk : mn φ g own cc nL ret ini rm Q k n (w.set a (.inr (t, N, .inr (fun j => (l ++ [v])[j]?)))) (pc + 1) ls st) : mn φ g own cc nL ret ini rm Q k n w pc ls (.ref v :: .int i :: .ref a :: st) := by
  intro p l0 e s m args below meth c H locs lsA A hφ
  have ha := Nat.lt_of_lt_of_le (mm_lt hw) A.2.2.1.2.2
  have hv9 := Nat.lt_of_lt_of_le (mm_lt hv) A.2.2.1.2.2
  show W _ _ _ _ _ _ _ _ _ _ _ _ _ _ _ (F0 m pc lsA (mm_v g (.ref v) :: .int i :: mm_v g (.ref a) :: st.map (mm_v g)))
  rw [mm_v_ref ha, mm_v_ref hv9]
  refine va_astq A.1.1 A.1.2.1 A.2.1.1 A.2.2.1.1 A.2.2.1.2.1 A.2.2.2.1 a t v ci (mm_w_get hw) ht (mm_w_get hv) hc hin d (fun H1 locs1 hP hD hS => ?_)
  have e9 : mm_e g (.inr (t, N, .inr (fun j => (l ++ [v])[j]?))) = .inl (g.2.2.2.1 t, N, .inr (.inr (.inr (.inr (va_up (fun j => (l[j]?).map (fun a => g.2.2.1 + a)) i.toNatClampNeg (some (g.2.2.1 + v))))))) := by
    rw [mn_up, hi, mn_upl]
    rfl
  rw [← e9, mm_w_set] at hP hD
  exact kk p l0 e s m args below meth c H1 locs1 lsA ⟨A.1, A.2.1, ⟨hP, hD, by rw [List.length_set]; exact A.2.2.1.2.2⟩, hS, A.2.2.2.2⟩ hφ
theorem mn_objInit {idx a : Nat} (d : decode cc pc = .ok (.invokespecial idx, 3)) (hl : Cond.methodLink own idx Lib.objectInit ∈ mm_ok) (h1 : Cond.instanceMethod Lib.objectInit ∈ mm_ok) (h2 : Cond.code Lib.objectInit ⟨#[0xb1]⟩ 1 none ∈ mm_ok) (ha : a < 999) (hR : 1 ≤ rm.frames ∧ 12 ≤ rm.locals)
    (kk : mn φ g own cc nL ret ini rm Q k n w (pc + 3) ls []) : mn φ g own cc nL ret ini rm Q k n w pc ls [.ref a] := by
  intro p l e s m args below meth c H locs lsA A hφ
  show W _ _ _ _ _ _ _ _ _ _ _ _ _ _ _ (F0 m pc lsA (mm_v g (.ref a) :: []))
  rw [mm_v_ref ha]
  exact W.objInit A.1.1 A.1.2.1 A.1.2.2.2.1 (A.1.2.2.2.2.1 _ hl) (A.1.2.2.2.2.1 _ h1) (A.1.2.2.2.2.1 _ h2) (g := F0 m pc lsA [.ref (g.2.2.1 + a)]) rfl (A.2.2.2.2.1.trans A.1.2.2.1.symm) rfl d hR.1 (by simpa using hR.2) (kk p l e s m args below meth c H locs lsA A hφ)
theorem mn_go {p : Program} {l : Launch} {e : Env} {s : State} {m : MethodId} {args : Array Value} {below : List Frame} {meth : Method} {c : Code} {H : Heap} {locs : List Loc} {lsA : Array Slot} {mc1 ms1 : Nat} {st0 : List Value} {Q1 : Option Value → List mm_E → Prop} {aa : Array Value}
    (A : mm_at g own cc nL ret ini w ls p s m args meth c H locs lsA) (hφ : φ s) {T : State} (hT : T.heap = H) (X : Stand p l e rm s m args below meth c T locs k n) (hr : va_Run p l e rm s m args below meth c H locs k n mc1 ms1 (F0 m pc lsA st0) (st.map (mm_v g)) (mm_Q g Q1 aa) g.2.2.2.2)
    (kk : ∀ (r : Option Value) (w1 : List mm_E), Q1 r w1 → mn φ g own cc nL ret ini rm Q (k + mc1) (n + ms1) w1 (pc + 3) ls (r.toList ++ st)) : ∃ t, Steps p.tables e below (T.setTop (F0 m pc lsA st0)) t ∧ MQ below (mm_Q g Q) args s rm.cells rm.slots g.2.2.2.2 t := by
  obtain ⟨v, st₀, t, T', L, h0, X', hL, e1, e2, ⟨⟨r, w1, hv, hQ, hH⟩, hz, hk⟩, st2⟩ := hr T hT X
  have hv2 : v = r.map (mm_v g) := Outcome.returned.inj hv
  subst hv2
  rw [h0] at hz hk
  have hS := A.2.2.2.1
  obtain ⟨t2, a1, b1⟩ := kk r w1 hQ p l e s m args below meth c T'.heap (locs ++ L) lsA ⟨A.1, A.2.1, by rw [e1]; exact hH, ⟨Nat.le_trans hS.1 (by rw [e1]; exact hz), fun q h1 h2 => by rw [e1, hk q (Nat.lt_of_lt_of_le h1 hS.1) h2]; exact hS.2.1 q h1 h2, fun q hq => by
      rcases List.mem_append.mp hq with h | h
      · exact hS.2.2 q h
      · exact hL q h⟩, A.2.2.2.2⟩ hφ T' rfl X'
  refine ⟨t2, st2 t2 ?_, b1⟩
  rw [List.map_append] at a1
  have e9 : List.map (mm_v g) r.toList = (Option.map (mm_v g) r).toList := by cases r <;> rfl
  rw [e9] at a1
  exact a1
theorem mn_blind {g : mm_G} {av : List Value} {w : List mm_E} {nw : Nat} : FrameBlind (va_Pc av (fun U => (mm_H g w U.heap ∧ mm_K g U) ∧ mn_f g nw U)) := fun _ _ _ _ q => ⟨q.1, ⟨q.2.1.1, q.2.1.2.calling⟩, q.2.2.calling⟩
theorem mn_pre {nw : Nat} {p : Program} {s : State} {m : MethodId} {args : Array Value} {meth : Method} {c : Code} {H : Heap} {locs : List Loc} {lsA : Array Slot} {as : List Value} (A : mm_at g own cc nL ret ini w ls p s m args meth c H locs lsA) (F : mn_f g nw s) (hsz : H.size = g.2.2.1 + w.length) :
    ∀ U : State, U.heap = H → s.WarmedH U.vm → va_Pc (as.map (mm_v g)) (fun U => (mm_H g w U.heap ∧ mm_K g U) ∧ mn_f g w.length U) (as.map (mm_v g)).toArray U := fun U hU hW => ⟨rfl, ⟨by rw [hU]; exact A.2.2.1, A.2.1.moved hW (fun a h1 h2 => by rw [hU]; exact A.2.2.2.1.2.1 a h1 h2)⟩, F.on hW.alike (by rw [hU]; exact hsz)⟩
theorem mn_callI {nw : Nat} {y : MethodName} {bytes : ByteArray} {nL1 a1 idx a : Nat} {rm1 : Room} {as : List Value} {Q1 : Option Value → List mm_E → Prop} {st0 : List Value} (d : decode cc pc = .ok (.invokespecial idx, 3)) (hst : st0 = as.reverse ++ .ref a :: st) (ha : a < 999) (hl : Cond.methodLink own idx y ∈ mm_ok) (hm : mm_mk y bytes nL1 a1) (hn : as.length = a1) (h8 : (st.map fun v => v.category).sum ≤ 8) (hR : rm1.frames + 1 ≤ rm.frames ∧ 8 + (nL1 + 11) + rm1.locals ≤ rm.locals) (hf : k + rm1.cells ≤ rm.cells ∧ n + rm1.slots ≤ rm.slots) (hz : nw + k = w.length)
    (hM : mcn g y bytes nL1 rm1 (.ref a :: as) w Q1) (kk : ∀ (r : Option Value) (w1 : List mm_E), Q1 r w1 → mn (mn_f g nw) g own cc nL ret ini rm Q (k + rm1.cells) (n + rm1.slots) w1 (pc + 3) ls (r.toList ++ st)) : mn (mn_f g nw) g own cc nL ret ini rm Q k n w pc ls st0 := by
  intro p l e s m args below meth c H locs lsA A F T hT X
  have hsz := mn_sz A F hz hT X
  rw [mm_st hst, mm_v_ref ha]
  have hM1 := hM l
  rw [List.map_cons, mm_v_ref ha] at hM1
  refine mn_go (st := st) A F hT X (va_runI (As := as.map (mm_v g)) (rest := st.map (mm_v g)) (b := g.2.2.1 + a) (bytes := bytes) (maxL := nL1) (own := own) (index := idx) ⟨A.1.1, A.1.2.1, A.1.2.2.1, A.1.2.2.2.1, A.1.2.2.2.2.1⟩ hM1 (cwI a1 A.1.2.2.2.2.1 (mm_good hm.1) rfl rfl rfl (A.1.2.2.2.2.1 _ hm.2.2.2.1) (A.1.2.2.2.2.1 _ hl) (A.1.2.2.2.2.1 _ hm.2.1) hm.2.2.1 hm.2.2.2.2 hR) ⟨mn_blind, ?_⟩ rfl (by rw [List.length_map]; exact hn) A.2.2.2.2.1 rfl (lv_room (by rw [mm_cat_sum]; exact h8)) d hf) kk
  intro U hU hW
  have h := mn_pre (as := .ref a :: as) A F hsz U hU hW
  rw [List.map_cons, mm_v_ref ha] at h
  exact h
theorem mn_callIN {nw : Nat} {y : MethodName} {bytes : ByteArray} {nL1 a1 idx a : Nat} {host : String} {rm1 : Room} {as : List Value} {Q1 : Option Value → List mm_E → Prop} {st0 : List Value} (d : decode cc pc = .ok (.invokespecial idx, 3)) (hst : st0 = as.reverse ++ .ref a :: st) (ha : a < 999) (hl : Cond.methodLinkNest own idx y host ∈ mm_nest) (hm : mm_mk y bytes nL1 a1) (hn : as.length = a1) (h8 : (st.map fun v => v.category).sum ≤ 8) (hR : rm1.frames + 1 ≤ rm.frames ∧ 8 + (nL1 + 11) + rm1.locals ≤ rm.locals) (hf : k + rm1.cells ≤ rm.cells ∧ n + rm1.slots ≤ rm.slots) (hz : nw + k = w.length)
    (hM : mcn g y bytes nL1 rm1 (.ref a :: as) w Q1) (kk : ∀ (r : Option Value) (w1 : List mm_E), Q1 r w1 → mn (mn_f g nw) g own cc nL ret ini rm Q (k + rm1.cells) (n + rm1.slots) w1 (pc + 3) ls (r.toList ++ st)) : mn (mn_f g nw) g own cc nL ret ini rm Q k n w pc ls st0 := by
  intro p l e s m args below meth c H locs lsA A F T hT X
  have hsz := mn_sz A F hz hT X
  rw [mm_st hst, mm_v_ref ha]
  have hM1 := hM l
  rw [List.map_cons, mm_v_ref ha] at hM1
  refine mn_go (st := st) A F hT X (va_runIN (As := as.map (mm_v g)) (rest := st.map (mm_v g)) (b := g.2.2.1 + a) (bytes := bytes) (maxL := nL1) (own := own) (index := idx) ⟨A.1.1, A.1.2.1, A.1.2.2.1, A.1.2.2.2.1, A.1.2.2.2.2.1⟩ hM1 ⟨va_cnB a1 A.1.2.2.2.2.1 (mm_good hm.1) rfl rfl rfl (A.2.1.2.1 _ hl) (A.1.2.2.2.2.1 _ hm.2.2.2.1) hm.2.2.2.2 hR, hm.2.2.1, A.1.2.2.2.2.1 _ hm.2.1⟩ ⟨mn_blind, ?_⟩ rfl (by rw [List.length_map]; exact hn) A.2.2.2.2.1 rfl (lv_room (by rw [mm_cat_sum]; exact h8)) d hf) kk
  intro U hU hW
  have h := mn_pre (as := .ref a :: as) A F hsz U hU hW
  rw [List.map_cons, mm_v_ref ha] at h
  exact h
theorem mn_callV {y : MethodName} {bytes : ByteArray} {nL1 a1 idx a ci : Nat} {ret1 : Option FieldType} {rm1 : Room} {as : List Value} {fs : List Value} {C : String} {T : u_T} {N : Nat} {Q1 : Option Value → List mm_E → Prop} {st0 : List Value} (d : decode cc pc = .ok (.invokevirtual idx, 3)) (hst : st0 = as.reverse ++ .ref a :: st) (hw : w[a]? = some (.inl (ci, fs))) (hc : vwCl[ci]? = some (C, T, N)) (hy : y.cls = C) (hl : Cond.methodLink own idx y ∈ mm_ok) (hm : mm_mi y bytes nL1 ret1 a1) (hn : as.length = a1) (h8 : (st.map fun v => v.category).sum ≤ 8) (hR : rm1.frames + 1 ≤ rm.frames ∧ 8 + (nL1 + 11) + rm1.locals ≤ rm.locals) (hf : k + rm1.cells ≤ rm.cells ∧ n + rm1.slots ≤ rm.slots)
    (hM : mc g y bytes nL1 ret1 rm1 (.ref a :: as) w Q1) (kk : ∀ (r : Option Value) (w1 : List mm_E), Q1 r w1 → mn φ g own cc nL ret ini rm Q (k + rm1.cells) (n + rm1.slots) w1 (pc + 3) ls (r.toList ++ st)) : mn φ g own cc nL ret ini rm Q k n w pc ls st0 := by
  intro p l e s m args below meth c H locs lsA A hφ T1 hT X
  have ha := Nat.lt_of_lt_of_le (mm_lt hw) A.2.2.1.2.2
  subst hy
  rw [mm_st hst, mm_v_ref ha]
  have hM1 := hM l
  rw [List.map_cons, mm_v_ref ha] at hM1
  refine mn_go (st := st) A hφ hT X (va_runV (As := as.map (mm_v g)) (rest := st.map (mm_v g)) (b := g.2.2.1 + a) (C := y.cls) (bytes := bytes) (maxL := nL1) (ret := ret1) (own := own) (index := idx) ⟨A.1.1, A.1.2.1, A.1.2.2.1, A.1.2.2.2.1, A.1.2.2.2.2.1⟩ hM1 (cwV a1 A.1.2.2.2.2.1 (mm_goodV hl hm.2.1 hm.2.2.1 hm.2.2.2.1 (mm_good hm.1)) rfl rfl rfl ⟨rfl, hm.2.2.2.2⟩ hR) ⟨mm_blind, va_recv A.2.1.1 A.2.2.1.1 hc (mm_w_get hw), ?_⟩ rfl (by rw [List.length_map]; exact hn) A.2.2.2.2.1 rfl (lv_room (by rw [mm_cat_sum]; exact h8)) d hf) kk
  intro U hU hW
  have h := mm_pre (as := .ref a :: as) A U hU hW
  rw [List.map_cons, mm_v_ref ha] at h
  exact h
theorem mn_callS {y : MethodName} {bytes : ByteArray} {nL1 a1 idx : Nat} {ret1 : Option FieldType} {rm1 : Room} {as : List Value} {Q1 : Option Value → List mm_E → Prop} {st0 : List Value} (d : decode cc pc = .ok (.invokestatic idx, 3)) (hst : st0 = as.reverse ++ st) (hl : Cond.methodLink own idx y ∈ mm_ok) (hm : mm_ms y bytes nL1 ret1 a1) (hn : as.length = a1) (h8 : (st.map fun v => v.category).sum ≤ 8) (hR : rm1.frames + 1 ≤ rm.frames ∧ 8 + (nL1 + 11) + rm1.locals ≤ rm.locals) (hf : k + rm1.cells ≤ rm.cells ∧ n + rm1.slots ≤ rm.slots)
    (hM : mc g y bytes nL1 ret1 rm1 as w Q1) (kk : ∀ (r : Option Value) (w1 : List mm_E), Q1 r w1 → mn φ g own cc nL ret ini rm Q (k + rm1.cells) (n + rm1.slots) w1 (pc + 3) ls (r.toList ++ st)) : mn φ g own cc nL ret ini rm Q k n w pc ls st0 := by
  intro p l e s m args below meth c H locs lsA A hφ T1 hT X
  rw [mm_stS hst]
  exact mn_go (st := st) A hφ hT X (va_runS (As := as.map (mm_v g)) (rest := st.map (mm_v g)) (bytes := bytes) (maxL := nL1) (ret := ret1) (own := own) (index := idx) ⟨A.1.1, A.1.2.1, A.1.2.2.1, A.1.2.2.2.1, A.1.2.2.2.2.1⟩ (hM l) (va_cwS a1 A.1.2.2.2.2.1 (mm_goodS hl hm.2.1 hm.2.2.1 (mm_good hm.1)) rfl rfl rfl hm.2.2.2 hR) ⟨mm_blind, mm_pre A⟩ rfl (by rw [List.length_map]; exact hn) A.2.2.2.2.1 rfl (lv_room (by rw [mm_cat_sum]; exact h8)) d hf) kk
theorem mn_max {idx : Nat} {x y v : Int32} (hv : (if x < y then y else x) = v) (d : decode cc pc = .ok (.invokestatic idx, 3)) (hl : Cond.methodLink own idx Lib.Math.max.name ∈ mm_ok) (h8 : (st.map fun v => v.category).sum ≤ 8) (hR : 1 ≤ rm.frames ∧ 33 ≤ rm.locals) (hf : k ≤ rm.cells ∧ n ≤ rm.slots)
    (kk : mn φ g own cc nL ret ini rm Q k n w (pc + 3) ls (.int v :: st)) : mn φ g own cc nL ret ini rm Q k n w pc ls (.int y :: .int x :: st) := by
  subst hv
  intro p l e s m args below meth c H locs lsA A hφ T hT X
  exact va_mmax A.1.1 A.1.2.1 (A.1.2.2.1.trans A.2.2.2.2.1.symm) A.1.2.2.2.1 (A.1.2.2.2.2.1 _ hl) (A.1.2.2.2.2.1 _ mm_mx.2.1) (A.1.2.2.2.2.1 _ mm_mx.2.2) (A.1.2.2.2.2.1 _ mm_mx.1) hR.1 (by rw [mm_cat_sum]; omega) hf.1 hf.2 d (kk p l e s m args below meth c H locs lsA A hφ) T hT X
theorem mm_w_inv {g : mm_G} {w : List mm_E} {i : Nat} {x : Nat × va_E} (h : (mm_w g w)[i]? = some x) : ∃ e, w[i]? = some e ∧ x = (g.2.2.1 + i, mm_e g e) := by
  unfold mm_w at h
  rw [List.getElem?_mapIdx] at h
  cases h2 : w[i]? with
  | none => rw [h2] at h; cases h
  | some e => rw [h2] at h; exact ⟨e, rfl, (Option.some.inj h).symm⟩
theorem mm_D {g : mm_G} {w : List mm_E} (h : ∀ i, i < w.length → g.2.2.2.2 (g.2.2.1 + i)) : va_D g.2.2.2.2 (mm_w g w) := by
  refine ⟨fun i j x y hi hj hxy => ?_, fun i x hi => ?_⟩
  · obtain ⟨_, _, rfl⟩ := mm_w_inv hi
    obtain ⟨_, _, rfl⟩ := mm_w_inv hj
    have : g.2.2.1 + i = g.2.2.1 + j := hxy
    omega
  · obtain ⟨e, he, rfl⟩ := mm_w_inv hi
    exact h i (mm_lt he)
theorem mn_outer (c : ClassId) (N h0 : Nat) : ∀ i : Nat, Jvm.Free.Multi.outerC c N h0 i = arrV c N (fun j => va_rf (if j < i then some (h0 + 1 + j) else none))
  | 0 => by
    show ({ cls := c, slots := Array.replicate N .null, vm := .none } : Cell) = _
    rw [arrV_new]
    refine congrArg (arrV c N) (funext fun j => ?_)
    simp [va_rf]
  | i + 1 => by
    show (Jvm.Free.Multi.outerC c N h0 i).setSlot i (.ref (h0 + 1 + i)) = _
    rw [mn_outer c N h0 i, arrV_store]
    refine congrArg (arrV c N) (funext fun j => ?_)
    by_cases e : j = i
    · subst e
      simp [updV, va_rf]
    · by_cases h : j < i
      · simp [updV, e, h, Nat.lt_succ_of_lt h]
      · simp [updV, e, h, show ¬ j < i + 1 by omega]
theorem mn_mna {nw N K idx : Nat} {x y : Int32} (d : decode cc pc = .ok (.multianewarray idx 2, 4)) (hcl : Cond.classLink own idx ("[" ++ (FieldType.array .int).toString) ∈ mm_ok) (ha : Cond.arrayClass .int ∈ mm_ok) (hx : ¬ x < 0) (hy : ¬ y < 0) (hN : x.toNatClampNeg = N) (hK : y.toNatClampNeg = K) (hb : N * 4 ≤ 536870912 ∧ K * 4 ≤ 536870912) (hz : nw + k = w.length) (hl9 : w.length + N < 999) (hcs : k + (1 + N) ≤ rm.cells ∧ n + (N + N * K) ≤ rm.slots)
    (kk : mn (mn_f g nw) g own cc nL ret ini rm Q (k + 1 + N) (n + N + N * K) (w ++ (.inr (4, N, .inr (fun i => if i < N then some (w.length + 1 + i) else none)) :: List.replicate N (.inr (0, K, .inl (fun _ => 0))))) (pc + 4) ls (.ref w.length :: st)) : mn (mn_f g nw) g own cc nL ret ini rm Q k n w pc ls (.int y :: .int x :: st) := by
  intro p l e s m args below meth c H locs lsA A F T hT Xs
  subst hN
  subst hK
  have hsz := mn_sz A F hz hT Xs
  obtain ⟨vm₁, cA, comp, -, fA, fC, hO, -, X', step⟩ := Xs.multianewarray2F A.1.1 A.1.2.2.2.1 (A.1.2.2.2.2.1 _ hcl) (show (Cond.arrayOver (.array .int)).before args s = true from F.2.2.2.1) (A.1.2.2.2.2.1 _ ha) (g := F0 m pc lsA (.int y :: .int x :: st.map (mm_v g))) rfl (by rw [A.1.2.1]; exact d) rfl hx hy hb.1 hb.2 (by omega) rfl rfl hcs.1 hcs.2
  have hcA : cA = g.2.2.2.1 4 := Option.some.inj (fA.symm.trans (A.2.1.1.2 4 _ rfl).2)
  have hcI : comp = g.2.2.2.1 0 := Option.some.inj (fC.symm.trans (A.2.1.1.2 0 _ rfl).2)
  subst hcA
  subst hcI
  generalize hF : Jvm.Free.Multi.fill (T.setVm vm₁) (g.2.2.2.1 4) (g.2.2.2.1 0) x.toNatClampNeg y.toNatClampNeg (defaultValue .int) x.toNatClampNeg = F1 at X' step
  have hTh : (T.setVm vm₁).heap = H := hT
  obtain ⟨f1, f2, -, -⟩ := Jvm.Free.Multi.fill_facts (T.setVm vm₁) (g.2.2.2.1 4) (g.2.2.2.1 0) x.toNatClampNeg y.toNatClampNeg (defaultValue .int) x.toNatClampNeg
  rw [hF, hTh] at f1 f2
  have hold : ∀ q : Nat, q < H.size → F1.heap[q]? = H[q]? := fun q hq => by
    have := Jvm.Free.Multi.fill_old (T.setVm vm₁) (g.2.2.2.1 4) (g.2.2.2.1 0) x.toNatClampNeg y.toNatClampNeg (defaultValue .int) (a := q) (by rw [hTh]; exact hq) x.toNatClampNeg
    rw [hF, hTh] at this
    exact this
  have hrow : ∀ j : Nat, j < x.toNatClampNeg → F1.heap[H.size + 1 + j]? = some (vp_cell (g.2.2.2.1 0) (y.toNatClampNeg, .inl (fun _ => 0))) := fun j hj => by
    have := Jvm.Free.Multi.fill_inner (T.setVm vm₁) (g.2.2.2.1 4) (g.2.2.2.1 0) x.toNatClampNeg y.toNatClampNeg (defaultValue .int) x.toNatClampNeg j hj
    rw [hF, hTh] at this
    rw [this]
    show some ({ cls := _, slots := Array.replicate _ _, vm := .none } : Cell) = _
    rw [arrV_new]
    rfl
  have hS := A.2.2.2.1
  have hP := A.2.2.1.1
  have hlen : (w ++ (.inr (4, x.toNatClampNeg, .inr (fun i => if i < x.toNatClampNeg then some (w.length + 1 + i) else none)) :: List.replicate x.toNatClampNeg (.inr (0, y.toNatClampNeg, .inl (fun _ => 0))) : List mm_E)).length = w.length + 1 + x.toNatClampNeg := by
    rw [List.length_append, List.length_cons, List.length_replicate]
    omega
  have hat : mm_at g own cc nL ret ini (w ++ (.inr (4, x.toNatClampNeg, .inr (fun i => if i < x.toNatClampNeg then some (w.length + 1 + i) else none)) :: List.replicate x.toNatClampNeg (.inr (0, y.toNatClampNeg, .inl (fun _ => 0))))) ls p s m args meth c F1.heap locs lsA := by
    refine ⟨A.1, A.2.1, ⟨fun i q hq => ?_, mm_D (fun i _ => F.2.2.2.2 _ (Nat.le_add_right _ _)), by rw [hlen]; omega⟩, ⟨by rw [f1]; have := hS.1; omega, fun q h1 h2 => (hold q (Nat.lt_of_lt_of_le h1 hS.1)).trans (hS.2.1 q h1 h2), hS.2.2⟩, A.2.2.2.2⟩
    obtain ⟨e1, he, rfl⟩ := mm_w_inv hq
    by_cases h1 : i < w.length
    · rw [List.getElem?_append_left h1] at he
      exact (hP i _ (mm_w_get he)).kept (hold _ ((hP i _ (mm_w_get he)).lt))
    · rw [List.getElem?_append_right (by omega)] at he
      by_cases h2 : i = w.length
      · subst h2
        rw [Nat.sub_self] at he
        cases he
        show F1.heap[g.2.2.1 + w.length]? = some (vp_cell _ _)
        rw [← hsz, f2, mn_outer]
        refine congrArg some ?_
        refine Eq.trans ?_ (vp_cell_q _ _ _).symm
        refine congrArg (arrV _ _) (funext fun j => congrArg va_rf ?_)
        by_cases hj : j < x.toNatClampNeg
        · simp only [hj, if_true, Option.map_some]
          rw [hsz]
          congr 1
          omega
        · simp only [hj, if_false, Option.map_none]
      · obtain ⟨j, hj⟩ : ∃ j, i - w.length = j + 1 := ⟨i - w.length - 1, by omega⟩
        rw [hj, List.getElem?_cons_succ, List.getElem?_replicate] at he
        by_cases h3 : j < x.toNatClampNeg
        · rw [if_pos h3] at he
          cases he
          show F1.heap[g.2.2.1 + i]? = some (vp_cell _ _)
          rw [show g.2.2.1 + i = H.size + 1 + j by omega]
          exact hrow j h3
        · rw [if_neg h3] at he
          cases he
  obtain ⟨t, a1, b1⟩ := kk p l e s m args below meth c F1.heap locs lsA hat F F1 rfl X'
  refine ⟨t, step t ?_, b1⟩
  rw [List.map_cons, mm_v_ref (by omega : w.length < 999)] at a1
  rw [hT, hsz]
  exact a1
end MN
