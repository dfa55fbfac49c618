/-! ===== a small machine over the kit's rows: a world is a list of cells at logical addresses ===== -/
abbrev mm_E : Type := (Nat × List Value) ⊕ (Nat × Nat × ((Nat → Int32) ⊕ (Nat → Option Nat)))
/-- classes and slots; the static array's address; the base; the array classes by tag; what may change -/
abbrev mm_G : Type := va_G × Nat × Nat × (Nat → ClassId) × (Nat → Prop)
def mm_ad (g : mm_G) (a : Nat) : Nat := if a = 999 then g.2.1 else g.2.2.1 + a
def mm_v (g : mm_G) (v : Value) : Value := match v with
  | .ref a => .ref (mm_ad g a)
  | x => x
def mm_e (g : mm_G) (e : mm_E) : va_E := match e with
  | .inl o => .inr (o.1, o.2.map (mm_v g))
  | .inr (t, n, .inl f) => .inl (g.2.2.2.1 t, n, .inl f)
  | .inr (t, n, .inr f) => .inl (g.2.2.2.1 t, n, .inr (.inr (.inr (.inr (fun j => (f j).map (fun a => g.2.2.1 + a))))))
def mm_w (g : mm_G) (w : List mm_E) : va_W := w.mapIdx (fun k e => (g.2.2.1 + k, mm_e g e))
theorem mm_w_get {g : mm_G} {w : List mm_E} {k : Nat} {e : mm_E} (h : w[k]? = some e) : (mm_w g w)[k]? = some (g.2.2.1 + k, mm_e g e) := by
  unfold mm_w
  rw [List.getElem?_mapIdx, h]
  rfl
theorem mm_w_set {g : mm_G} {w : List mm_E} {k : Nat} {e : mm_E} : (mm_w g w).set k (g.2.2.1 + k, mm_e g e) = mm_w g (w.set k e) := by
  apply List.ext_getElem?
  intro i
  unfold mm_w
  rw [List.getElem?_set, List.getElem?_mapIdx, List.getElem?_mapIdx, List.getElem?_set, List.length_mapIdx]
  by_cases h : k = i
  · subst h
    simp only [if_true]
    by_cases h2 : k < w.length
    · simp [h2]
    · simp [h2]
  · simp [h]
theorem mm_w_len {g : mm_G} {w : List mm_E} : (mm_w g w).length = w.length := by
  unfold mm_w
  rw [List.length_mapIdx]
theorem mm_w_push {g : mm_G} {w : List mm_E} {e : mm_E} : mm_w g (w ++ [e]) = mm_w g w ++ [(g.2.2.1 + w.length, mm_e g e)] := by
  unfold mm_w
  rw [List.mapIdx_append]
  simp
theorem mm_lt {w : List mm_E} {a : Nat} {e : mm_E} (h : w[a]? = some e) : a < w.length := (List.getElem?_eq_some_iff.mp h).1
theorem mm_ad_lt {g : mm_G} {a : Nat} (h : a < 999) : mm_ad g a = g.2.2.1 + a := if_neg (by omega)
theorem mm_v_ref {g : mm_G} {a : Nat} (h : a < 999) : mm_v g (.ref a) = .ref (g.2.2.1 + a) := congrArg Value.ref (mm_ad_lt h)
theorem mm_v_cat (g : mm_G) (v : Value) : (mm_v g v).category = v.category := by cases v <;> rfl
theorem mm_cat_sum (g : mm_G) (st : List Value) : ((st.map (mm_v g)).map fun v => v.category) = st.map fun v => v.category := by
  rw [List.map_map]
  exact List.map_congr_left (fun v _ => mm_v_cat g v)
/-! the tables' words that ride along -/
def mm_ok : List Cond := lw_tbl.filter goodWord
def mm_nw (w : Cond) : Bool := match w with
  | .methodLinkNest .. => true
  | .fieldLinkNest .. => true
  | _ => false
def mm_nest : List Cond := lw_tbl.filter mm_nw
theorem mm_in {w : Cond} (i : Nat) (h : lw_tbl[i]? = some w) (hg : goodWord w = true) : w ∈ mm_ok := List.mem_filter.mpr ⟨List.mem_of_getElem? h, hg⟩
theorem mm_inN {w : Cond} (i : Nat) (h : lw_tbl[i]? = some w) (hg : mm_nw w = true) : w ∈ mm_nest := List.mem_filter.mpr ⟨List.mem_of_getElem? h, hg⟩
theorem mm_ok_good : ∀ w ∈ mm_ok, goodWord w = true := fun w h => (List.mem_filter.mp h).2
def mm_ws (y : MethodName) (cc : ByteArray) (n : Nat) (r : Option FieldType) : List Cond := .code y cc n r :: mm_ok
theorem mm_good {y : MethodName} {cc : ByteArray} {n : Nat} {r : Option FieldType} (h : Cond.code y cc n r ∈ mm_ok) : GoodIn mm_ok (mm_ws y cc n r) := by
  intro w hw
  rcases List.mem_cons.mp hw with rfl | hw
  · exact ⟨h, good_of_word (mm_ok_good _ h)⟩
  · exact ⟨hw, good_of_word (mm_ok_good _ hw)⟩
def mm_tys (g : mm_G) : List (ClassId × FieldType) := [(g.2.2.2.1 0, .int), (g.2.2.2.1 1, .boolean), (g.2.2.2.1 2, .object "VoiceWills$Folk"), (g.2.2.2.1 3, .object "VoiceWills$Image"), (g.2.2.2.1 4, .array .int)]
def mm_ordn (j : Nat) : Int32 := match j with
  | 0 => 1
  | 1 => 1
  | 2 => 2
  | 3 => 6
  | _ => 24
def mm_ords : Nat → Value := fun j => .int (mm_ordn j)
def mm_K (g : mm_G) (U : State) : Prop := va_K g.1 vwCl (mm_tys g) U ∧ (∀ w ∈ mm_nest, va_Nw w U) ∧ va_Z "VoiceWills" "ORDERS_OF" "[I" (.ref g.2.1) g.2.2.2.2 U U.heap ∧ va_T .int g.2.1 5 mm_ords g.2.2.2.2 U U.heap
theorem mm_K.moved {g : mm_G} {s U : State} (hW : s.WarmedH U.vm) (hq : ∀ a : Nat, a < s.heap.size → ¬ g.2.2.2.2 a → U.heap[a]? = s.heap[a]?) (h : mm_K g s) : mm_K g U := by
  obtain ⟨h1, h2, h3, h4⟩ := h
  refine ⟨va_K.moved hW.alike h1, fun w hw => ?_, (va_Z.moved hW.alike h3).kept hq, (va_T.moved hW.alike h4).kept hq⟩
  have h9 := (List.mem_filter.mp hw).2
  have h8 := h2 w hw
  cases w with
  | methodLinkNest a i x h => exact va_Nw.warmM hW h8
  | fieldLinkNest a i b n d h => exact va_Nw.warmF hW h8
  | _ => exact absurd h9 (by simp [mm_nw])
/-! the judgement -/
def mm_C (own : String) (cc : ByteArray) (nL : Nat) (ret : Option FieldType) (ini : Bool) (p : Program) (s : State) (m : MethodId) (args : Array Value) (meth : Method) (c : Code) : Prop :=
  p.tables.exec = Jvm.exec ∧ c.code = cc ∧ c.maxLocals = nL ∧ s.vm.findClass own = some m.cls ∧ (∀ w ∈ mm_ok, w.before args s = true) ∧ meth.sig.returnType = ret ∧ meth.locks = false ∧ (ini = true → meth.name = "<init>")
def mm_H (g : mm_G) (w : List mm_E) (H : Heap) : Prop := va_P g.1 vwCl (mm_w g w) H ∧ va_D g.2.2.2.2 (mm_w g w) ∧ w.length ≤ 999
def mm_at (g : mm_G) (own : String) (cc : ByteArray) (nL : Nat) (ret : Option FieldType) (ini : Bool) (w : List mm_E) (ls : List (Nat × Value)) (p : Program) (s : State) (m : MethodId) (args : Array Value) (meth : Method) (c : Code) (H : Heap) (locs : List Loc) (lsA : Array Slot) : Prop :=
  mm_C own cc nL ret ini p s m args meth c ∧ mm_K g s ∧ mm_H g w H ∧ va_S g.2.2.2.2 s.heap H locs ∧ lv_has lsA nL (ls.map (fun q => (q.1, mm_v g q.2)))
def mm_Q (g : mm_G) (Q : Option Value → List mm_E → Prop) : Array Value → State → Outcome → State → Prop := fun _ st oc t =>
  (∃ (r : Option Value) (w : List mm_E), oc = .returned (r.map (mm_v g)) ∧ Q r w ∧ mm_H g w t.heap) ∧ va_F g.2.2.2.2 st t
def mw (g : mm_G) (own : String) (cc : ByteArray) (nL : Nat) (ret : Option FieldType) (ini : Bool) (rm : Room) (Q : Option Value → List mm_E → Prop) (k n : Nat) (w : List mm_E) (pc : Nat) (ls : List (Nat × Value)) (st : List Value) : Prop :=
  ∀ (p : Program) (l : Launch) (e : Env) (s : State) (m : MethodId) (args : Array Value) (below : List Frame) (meth : Method) (c : Code) (H : Heap) (locs : List Loc) (lsA : Array Slot), mm_at g own cc nL ret ini w ls p s m args meth c H locs lsA →
    W p l e rm s m args below meth c H locs k n (MQ below (mm_Q g Q) args s rm.cells rm.slots g.2.2.2.2) (F0 m pc lsA (st.map (mm_v g)))
/-- a method's contract at given arguments and a given world -/
def mc (g : mm_G) (y : MethodName) (cc : ByteArray) (nL : Nat) (ret : Option FieldType) (rm : Room) (as : List Value) (w : List mm_E) (Q : Option Value → List mm_E → Prop) : Prop :=
  ∀ l : Launch, Met l y (mm_ws y cc nL ret) rm (va_Pc (as.map (mm_v g)) (fun U => mm_H g w U.heap ∧ mm_K g U)) (mm_Q g Q) rm.cells rm.slots g.2.2.2.2
theorem mm_largs (g : mm_G) : ∀ (vs : List Value) (i : Nat), lv_args i (vs.map (mm_v g)) = (lv_args i vs).map (fun q => (q.1, mm_v g q.2))
  | [], i => rfl
  | v :: vs, i => by
    show (i, mm_v g v) :: lv_args (if (mm_v g v).category = 2 then i + 2 else i + 1) (vs.map (mm_v g)) = (i, mm_v g v) :: (lv_args (if v.category = 2 then i + 2 else i + 1) vs).map _
    rw [mm_v_cat, mm_largs g vs]
theorem mm_sl (g : mm_G) (vs : List Value) : (lg_sl (vs.map (mm_v g))).length = (lg_sl vs).length := by
  induction vs with
  | nil => rfl
  | cons v vs ih =>
    unfold lg_sl at ih ⊢
    rw [List.map_cons, List.flatMap_cons, List.flatMap_cons, List.length_append, List.length_append, ih, mm_v_cat]
    congr 1
    split <;> rfl
theorem mc_of {g : mm_G} {y : MethodName} {cc : ByteArray} {nL : Nat} {ret : Option FieldType} {rm : Room} {as : List Value} {w : List mm_E} {Q : Option Value → List mm_E → Prop} (hy : plainName y.cls = true) (hn : (lg_sl as).length ≤ nL)
    (h : mw g y.cls cc nL ret (y.name == "<init>") rm Q 0 0 w 0 (lv_args 0 as) []) : mc g y cc nL ret rm as w Q := by
  intro l
  refine Met.ofW (cc := cc) (maxL := nL) (ret := ret) hy rfl ?_
  intro p e s m args below meth c s₁ B hml hv
  obtain ⟨rfl, hH, hK⟩ := hv
  have hl := lv_entry (as.map (mm_v g)) (n := nL) (by rw [mm_sl]; exact hn)
  rw [lg_entry_eq]
  refine h p l e s m _ below meth c s.heap [] _ ⟨⟨B.exec, B.bytes, hml, findClass_of_methodNamed B.named, fun w hw => atoms_spec (ws := mm_ws y cc nL ret) B.pre w (List.mem_cons_of_mem _ hw), B.returns, B.notSynchronized, fun q => ?_⟩, hK, hH, va_S.rf, ?_⟩
  · rw [(name_of_methodNamed B.named B.method).1]
    exact eq_of_beq q
  · rw [← mm_largs]
    exact hl
/-! ===== rows of the small machine ===== -/
section MW
variable {g : mm_G} {own : String} {cc : ByteArray} {nL : Nat} {ret : Option FieldType} {ini : Bool} {rm : Room} {Q : Option Value → List mm_E → Prop} {k n : Nat} {w : List mm_E} {pc : Nat} {ls : List (Nat × Value)} {st : List Value}
theorem mm_loc {lsA : Array Slot} {j i : Nat} {v : Value} (hl : lv_has lsA nL (ls.map (fun q => (q.1, mm_v g q.2)))) (h : ls[j]? = some (i, v)) : lsA[i]? = some (.val (mm_v g v)) :=
  lv_at hl j (by rw [List.getElem?_map, h]; rfl)
theorem mm_store {i : Nat} {v : Value} : ((i, mm_v g v) :: (ls.map (fun q => (q.1, mm_v g q.2))).filter (fun q => !(q.1 == i) && !(q.1 + 1 == i && q.2.category == 2))) = ((i, v) :: ls.filter (fun q => !(q.1 == i) && !(q.1 + 1 == i && q.2.category == 2))).map (fun q => (q.1, mm_v g q.2)) := by
  rw [List.map_cons, List.filter_map]
  congr 2
  apply List.filter_congr
  intro q _
  simp [Function.comp, mm_v_cat]
theorem mm_store2 {i : Nat} {v : Value} : ((i, mm_v g v) :: (ls.map (fun q => (q.1, mm_v g q.2))).filter (fun q => !(q.1 == i) && (!(q.1 == i + 1) && !(q.1 + 1 == i && q.2.category == 2)))) = ((i, v) :: ls.filter (fun q => !(q.1 == i) && (!(q.1 == i + 1) && !(q.1 + 1 == i && q.2.category == 2)))).map (fun q => (q.1, mm_v g q.2)) := by
  rw [List.map_cons, List.filter_map]
  congr 2
  apply List.filter_congr
  intro q _
  simp [Function.comp, mm_v_cat]
theorem mw_iconst {i : Int} {v : Int32} (d : decode cc pc = .ok (.iconst i, 1)) (hv : Int32.ofInt i = v)
    (kk : mw g own cc nL ret ini rm Q k n w (pc + 1) ls (.int v :: st)) : mw g own cc nL ret ini rm Q k n w pc ls st := by
  intro p l e s m args below meth c H locs lsA a
  exact lv_iconst a.1.1 a.1.2.1 d hv (kk p l e s m args below meth c H locs lsA a)
theorem mw_bipush {i : Int} {v : Int32} (d : decode cc pc = .ok (.bipush i, 2)) (hv : (Int8.ofInt i).toInt32 = v)
    (kk : mw g own cc nL ret ini rm Q k n w (pc + 2) ls (.int v :: st)) : mw g own cc nL ret ini rm Q k n w pc ls st := by
  intro p l e s m args below meth c H locs lsA a
  exact lv_bipush a.1.1 a.1.2.1 d hv (kk p l e s m args below meth c H locs lsA a)
theorem mw_sipush {i : Int} {v : Int32} (d : decode cc pc = .ok (.sipush i, 3)) (hv : (Int16.ofInt i).toInt32 = v)
    (kk : mw g own cc nL ret ini rm Q k n w (pc + 3) ls (.int v :: st)) : mw g own cc nL ret ini rm Q k n w pc ls st := by
  intro p l e s m args below meth c H locs lsA a
  exact lv_sipush a.1.1 a.1.2.1 d hv (kk p l e s m args below meth c H locs lsA a)
theorem mw_lconst {i : Fin 2} {v : Int64} (d : decode cc pc = .ok (.lconst i, 1)) (hv : Int64.ofNat (i : Nat) = v)
    (kk : mw g own cc nL ret ini rm Q k n w (pc + 1) ls (.long v :: st)) : mw g own cc nL ret ini rm Q k n w pc ls st := by
  intro p l e s m args below meth c H locs lsA a
  exact lv_lconst a.1.1 a.1.2.1 d hv (kk p l e s m args below meth c H locs lsA a)
theorem mw_ldc {i : Nat} {v : Int32} (d : decode cc pc = .ok (.ldc i, 2)) (hw : Cond.constant own i v ∈ mm_ok)
    (kk : mw g own cc nL ret ini rm Q k n w (pc + 2) ls (.int v :: st)) : mw g own cc nL ret ini rm Q k n w pc ls st := by
  intro p l e s m args below meth c H locs lsA a
  exact lv_ldc a.1.1 a.1.2.1 a.1.2.2.2.1 (a.1.2.2.2.2.1 _ hw) d (kk p l e s m args below meth c H locs lsA a)
theorem mw_ldcw {i : Nat} {v : Int32} (d : decode cc pc = .ok (.ldc_w i, 3)) (hw : Cond.constant own i v ∈ mm_ok)
    (kk : mw g own cc nL ret ini rm Q k n w (pc + 3) ls (.int v :: st)) : mw g own cc nL ret ini rm Q k n w pc ls st := by
  intro p l e s m args below meth c H locs lsA a
  exact lv_ldcw a.1.1 a.1.2.1 a.1.2.2.2.1 (a.1.2.2.2.2.1 _ hw) d (kk p l e s m args below meth c H locs lsA a)
theorem mw_ldc2 {i : Nat} {v : Int64} (d : decode cc pc = .ok (.ldc2_w i, 3)) (hw : Cond.constantLong own i v ∈ mm_ok)
    (kk : mw g own cc nL ret ini rm Q k n w (pc + 3) ls (.long v :: st)) : mw g own cc nL ret ini rm Q k n w pc ls st := by
  intro p l e s m args below meth c H locs lsA a
  exact lv_ldc2 a.1.1 a.1.2.1 a.1.2.2.2.1 (a.1.2.2.2.2.1 _ hw) d (kk p l e s m args below meth c H locs lsA a)
theorem mw_null (d : decode cc pc = .ok (.aconst_null, 1))
    (kk : mw g own cc nL ret ini rm Q k n w (pc + 1) ls (.null :: st)) : mw g own cc nL ret ini rm Q k n w pc ls st := by
  intro p l e s m args below meth c H locs lsA a
  exact lv_null a.1.1 a.1.2.1 d (kk p l e s m args below meth c H locs lsA a)
theorem mw_iload_n {f : Fin 4} {i : Nat} {x : Int32} (d : decode cc pc = .ok (.iload_n f, 1)) (hi : (f : Nat) = i) (j : Nat) (h : ls[j]? = some (i, .int x))
    (kk : mw g own cc nL ret ini rm Q k n w (pc + 1) ls (.int x :: st)) : mw g own cc nL ret ini rm Q k n w pc ls st := by
  intro p l e s m args below meth c H locs lsA a
  exact lv_iload_n a.1.1 a.1.2.1 d hi (mm_loc a.2.2.2.2 h) (kk p l e s m args below meth c H locs lsA a)
theorem mw_iload {i : Nat} {x : Int32} (d : decode cc pc = .ok (.iload i, 2)) (j : Nat) (h : ls[j]? = some (i, .int x))
    (kk : mw g own cc nL ret ini rm Q k n w (pc + 2) ls (.int x :: st)) : mw g own cc nL ret ini rm Q k n w pc ls st := by
  intro p l e s m args below meth c H locs lsA a
  exact lv_iload a.1.1 a.1.2.1 d (mm_loc a.2.2.2.2 h) (kk p l e s m args below meth c H locs lsA a)
theorem mw_istore_n {f : Fin 4} {i : Nat} {x : Int32} {ls' : List (Nat × Value)} (d : decode cc pc = .ok (.istore_n f, 1)) (hi : (f : Nat) = i) (hn : i < nL) (hl : ((i, .int x) :: ls.filter (fun q => !(q.1 == i) && !(q.1 + 1 == i && q.2.category == 2))) = ls')
    (kk : mw g own cc nL ret ini rm Q k n w (pc + 1) ls' st) : mw g own cc nL ret ini rm Q k n w pc ls (.int x :: st) := by
  intro p l e s m args below meth c H locs lsA a
  refine lv_istore_n (lv' := ls'.map (fun q => (q.1, mm_v g q.2))) a.1.1 a.1.2.1 d hi a.2.2.2.2 hn (by rw [← hl]; exact mm_store (v := .int x)) (fun lsB hB => ?_)
  exact kk p l e s m args below meth c H locs lsB ⟨a.1, a.2.1, a.2.2.1, a.2.2.2.1, hB⟩
theorem mw_istore {i : Nat} {x : Int32} {ls' : List (Nat × Value)} (d : decode cc pc = .ok (.istore i, 2)) (hn : i < nL) (hl : ((i, .int x) :: ls.filter (fun q => !(q.1 == i) && !(q.1 + 1 == i && q.2.category == 2))) = ls')
    (kk : mw g own cc nL ret ini rm Q k n w (pc + 2) ls' st) : mw g own cc nL ret ini rm Q k n w pc ls (.int x :: st) := by
  intro p l e s m args below meth c H locs lsA a
  refine lv_istore (lv' := ls'.map (fun q => (q.1, mm_v g q.2))) a.1.1 a.1.2.1 d a.2.2.2.2 hn (by rw [← hl]; exact mm_store (v := .int x)) (fun lsB hB => ?_)
  exact kk p l e s m args below meth c H locs lsB ⟨a.1, a.2.1, a.2.2.1, a.2.2.2.1, hB⟩
theorem mw_lload_n {f : Fin 4} {i : Nat} {x : Int64} (d : decode cc pc = .ok (.lload_n f, 1)) (hi : (f : Nat) = i) (j : Nat) (h : ls[j]? = some (i, .long x))
    (kk : mw g own cc nL ret ini rm Q k n w (pc + 1) ls (.long x :: st)) : mw g own cc nL ret ini rm Q k n w pc ls st := by
  intro p l e s m args below meth c H locs lsA a
  exact lv_lload_n a.1.1 a.1.2.1 d hi (mm_loc a.2.2.2.2 h) (kk p l e s m args below meth c H locs lsA a)
theorem mw_lload {i : Nat} {x : Int64} (d : decode cc pc = .ok (.lload i, 2)) (j : Nat) (h : ls[j]? = some (i, .long x))
    (kk : mw g own cc nL ret ini rm Q k n w (pc + 2) ls (.long x :: st)) : mw g own cc nL ret ini rm Q k n w pc ls st := by
  intro p l e s m args below meth c H locs lsA a
  exact lv_lload a.1.1 a.1.2.1 d (mm_loc a.2.2.2.2 h) (kk p l e s m args below meth c H locs lsA a)
theorem mw_lstore_n {f : Fin 4} {i : Nat} {x : Int64} {ls' : List (Nat × Value)} (d : decode cc pc = .ok (.lstore_n f, 1)) (hi : (f : Nat) = i) (hn : i + 1 < nL) (hl : ((i, .long x) :: ls.filter (fun q => !(q.1 == i) && (!(q.1 == i + 1) && !(q.1 + 1 == i && q.2.category == 2)))) = ls')
    (kk : mw g own cc nL ret ini rm Q k n w (pc + 1) ls' st) : mw g own cc nL ret ini rm Q k n w pc ls (.long x :: st) := by
  intro p l e s m args below meth c H locs lsA a
  refine lv_lstore_n (lv' := ls'.map (fun q => (q.1, mm_v g q.2))) a.1.1 a.1.2.1 d hi a.2.2.2.2 hn (by rw [← hl]; exact mm_store2 (v := .long x)) (fun lsB hB => ?_)
  exact kk p l e s m args below meth c H locs lsB ⟨a.1, a.2.1, a.2.2.1, a.2.2.2.1, hB⟩
theorem mw_lstore {i : Nat} {x : Int64} {ls' : List (Nat × Value)} (d : decode cc pc = .ok (.lstore i, 2)) (hn : i + 1 < nL) (hl : ((i, .long x) :: ls.filter (fun q => !(q.1 == i) && (!(q.1 == i + 1) && !(q.1 + 1 == i && q.2.category == 2)))) = ls')
    (kk : mw g own cc nL ret ini rm Q k n w (pc + 2) ls' st) : mw g own cc nL ret ini rm Q k n w pc ls (.long x :: st) := by
  intro p l e s m args below meth c H locs lsA a
  refine lv_lstore (lv' := ls'.map (fun q => (q.1, mm_v g q.2))) a.1.1 a.1.2.1 d a.2.2.2.2 hn (by rw [← hl]; exact mm_store2 (v := .long x)) (fun lsB hB => ?_)
  exact kk p l e s m args below meth c H locs lsB ⟨a.1, a.2.1, a.2.2.1, a.2.2.2.1, hB⟩
theorem mw_aload_n {f : Fin 4} {i : Nat} {x : Nat} (d : decode cc pc = .ok (.aload_n f, 1)) (hi : (f : Nat) = i) (j : Nat) (h : ls[j]? = some (i, .ref x))
    (kk : mw g own cc nL ret ini rm Q k n w (pc + 1) ls (.ref x :: st)) : mw g own cc nL ret ini rm Q k n w pc ls st := by
  intro p l e s m args below meth c H locs lsA a
  exact lv_aload_n a.1.1 a.1.2.1 d hi (mm_loc a.2.2.2.2 h) (kk p l e s m args below meth c H locs lsA a)
theorem mw_aload {i : Nat} {x : Nat} (d : decode cc pc = .ok (.aload i, 2)) (j : Nat) (h : ls[j]? = some (i, .ref x))
    (kk : mw g own cc nL ret ini rm Q k n w (pc + 2) ls (.ref x :: st)) : mw g own cc nL ret ini rm Q k n w pc ls st := by
  intro p l e s m args below meth c H locs lsA a
  exact lv_aload a.1.1 a.1.2.1 d (mm_loc a.2.2.2.2 h) (kk p l e s m args below meth c H locs lsA a)
theorem mw_astore_n {f : Fin 4} {i : Nat} {x : Nat} {ls' : List (Nat × Value)} (d : decode cc pc = .ok (.astore_n f, 1)) (hi : (f : Nat) = i) (hn : i < nL) (hl : ((i, .ref x) :: ls.filter (fun q => !(q.1 == i) && !(q.1 + 1 == i && q.2.category == 2))) = ls')
    (kk : mw g own cc nL ret ini rm Q k n w (pc + 1) ls' st) : mw g own cc nL ret ini rm Q k n w pc ls (.ref x :: st) := by
  intro p l e s m args below meth c H locs lsA a
  refine lv_astore_n (lv' := ls'.map (fun q => (q.1, mm_v g q.2))) a.1.1 a.1.2.1 d hi a.2.2.2.2 hn (by rw [← hl]; exact mm_store (v := .ref x)) (fun lsB hB => ?_)
  exact kk p l e s m args below meth c H locs lsB ⟨a.1, a.2.1, a.2.2.1, a.2.2.2.1, hB⟩
theorem mw_astore {i : Nat} {x : Nat} {ls' : List (Nat × Value)} (d : decode cc pc = .ok (.astore i, 2)) (hn : i < nL) (hl : ((i, .ref x) :: ls.filter (fun q => !(q.1 == i) && !(q.1 + 1 == i && q.2.category == 2))) = ls')
    (kk : mw g own cc nL ret ini rm Q k n w (pc + 2) ls' st) : mw g own cc nL ret ini rm Q k n w pc ls (.ref x :: st) := by
  intro p l e s m args below meth c H locs lsA a
  refine lv_astore (lv' := ls'.map (fun q => (q.1, mm_v g q.2))) a.1.1 a.1.2.1 d a.2.2.2.2 hn (by rw [← hl]; exact mm_store (v := .ref x)) (fun lsB hB => ?_)
  exact kk p l e s m args below meth c H locs lsB ⟨a.1, a.2.1, a.2.2.1, a.2.2.2.1, hB⟩
theorem mw_iinc {i : Nat} {z : Int} {x : Int32} {ls' : Int32 → List (Nat × Value)} (d : decode cc pc = .ok (.iinc i z, 3)) (j : Nat) (h : ls[j]? = some (i, .int x)) (hn : i < nL) (hl : ∀ v : Int32, ((i, .int v) :: ls.filter (fun q => !(q.1 == i) && !(q.1 + 1 == i && q.2.category == 2))) = ls' v)
    (kk : ∀ v : Int32, v = x + Int32.ofInt z → mw g own cc nL ret ini rm Q k n w (pc + 3) (ls' v) st) : mw g own cc nL ret ini rm Q k n w pc ls st := by
  intro p l e s m args below meth c H locs lsA a
  refine lv_iinc (v := x + Int32.ofInt z) (lv' := (ls' (x + Int32.ofInt z)).map (fun q => (q.1, mm_v g q.2))) a.1.1 a.1.2.1 d a.2.2.2.2 (k := j) (by rw [List.getElem?_map, h]; rfl) rfl hn (by rw [← hl]; exact mm_store (v := .int (x + Int32.ofInt z))) (fun lsB hB => ?_)
  exact kk _ rfl p l e s m args below meth c H locs lsB ⟨a.1, a.2.1, a.2.2.1, a.2.2.2.1, hB⟩
theorem mw_iadd {x y : Int32} (d : decode cc pc = .ok (.iadd, 1))
    (kk : ∀ z : Int32, z = x + y → mw g own cc nL ret ini rm Q k n w (pc + 1) ls (.int z :: st)) : mw g own cc nL ret ini rm Q k n w pc ls (.int y :: .int x :: st) := by
  intro p l e s m args below meth c H locs lsA a
  exact lv_iadd a.1.1 a.1.2.1 d (kk _ rfl p l e s m args below meth c H locs lsA a)
theorem mw_isub {x y : Int32} (d : decode cc pc = .ok (.isub, 1))
    (kk : ∀ z : Int32, z = x - y → mw g own cc nL ret ini rm Q k n w (pc + 1) ls (.int z :: st)) : mw g own cc nL ret ini rm Q k n w pc ls (.int y :: .int x :: st) := by
  intro p l e s m args below meth c H locs lsA a
  exact lv_isub a.1.1 a.1.2.1 d (kk _ rfl p l e s m args below meth c H locs lsA a)
theorem mw_imul {x y : Int32} (d : decode cc pc = .ok (.imul, 1))
    (kk : ∀ z : Int32, z = x * y → mw g own cc nL ret ini rm Q k n w (pc + 1) ls (.int z :: st)) : mw g own cc nL ret ini rm Q k n w pc ls (.int y :: .int x :: st) := by
  intro p l e s m args below meth c H locs lsA a
  exact lv_imul a.1.1 a.1.2.1 d (kk _ rfl p l e s m args below meth c H locs lsA a)
theorem mw_iand {x y : Int32} (d : decode cc pc = .ok (.iand, 1))
    (kk : ∀ z : Int32, z = x &&& y → mw g own cc nL ret ini rm Q k n w (pc + 1) ls (.int z :: st)) : mw g own cc nL ret ini rm Q k n w pc ls (.int y :: .int x :: st) := by
  intro p l e s m args below meth c H locs lsA a
  exact lv_iand a.1.1 a.1.2.1 d (kk _ rfl p l e s m args below meth c H locs lsA a)
theorem mw_ior {x y : Int32} (d : decode cc pc = .ok (.ior, 1))
    (kk : ∀ z : Int32, z = x ||| y → mw g own cc nL ret ini rm Q k n w (pc + 1) ls (.int z :: st)) : mw g own cc nL ret ini rm Q k n w pc ls (.int y :: .int x :: st) := by
  intro p l e s m args below meth c H locs lsA a
  exact lv_ior a.1.1 a.1.2.1 d (kk _ rfl p l e s m args below meth c H locs lsA a)
theorem mw_ixor {x y : Int32} (d : decode cc pc = .ok (.ixor, 1))
    (kk : ∀ z : Int32, z = x ^^^ y → mw g own cc nL ret ini rm Q k n w (pc + 1) ls (.int z :: st)) : mw g own cc nL ret ini rm Q k n w pc ls (.int y :: .int x :: st) := by
  intro p l e s m args below meth c H locs lsA a
  exact lv_ixor a.1.1 a.1.2.1 d (kk _ rfl p l e s m args below meth c H locs lsA a)
theorem mw_ishl {x y : Int32} (d : decode cc pc = .ok (.ishl, 1))
    (kk : ∀ z : Int32, z = x <<< (y &&& 31) → mw g own cc nL ret ini rm Q k n w (pc + 1) ls (.int z :: st)) : mw g own cc nL ret ini rm Q k n w pc ls (.int y :: .int x :: st) := by
  intro p l e s m args below meth c H locs lsA a
  exact lv_ishl a.1.1 a.1.2.1 d (kk _ rfl p l e s m args below meth c H locs lsA a)
theorem mw_ishr {x y : Int32} (d : decode cc pc = .ok (.ishr, 1))
    (kk : ∀ z : Int32, z = x >>> (y &&& 31) → mw g own cc nL ret ini rm Q k n w (pc + 1) ls (.int z :: st)) : mw g own cc nL ret ini rm Q k n w pc ls (.int y :: .int x :: st) := by
  intro p l e s m args below meth c H locs lsA a
  exact lv_ishr a.1.1 a.1.2.1 d (kk _ rfl p l e s m args below meth c H locs lsA a)
theorem mw_iushr {x y : Int32} (d : decode cc pc = .ok (.iushr, 1))
    (kk : ∀ z : Int32, z = (x.toUInt32 >>> (y.toUInt32 &&& Int32.toUInt32 31)).toInt32 → mw g own cc nL ret ini rm Q k n w (pc + 1) ls (.int z :: st)) : mw g own cc nL ret ini rm Q k n w pc ls (.int y :: .int x :: st) := by
  intro p l e s m args below meth c H locs lsA a
  exact lv_iushr a.1.1 a.1.2.1 d rfl (kk _ rfl p l e s m args below meth c H locs lsA a)
theorem mw_idiv {x y : Int32} (d : decode cc pc = .ok (.idiv, 1)) (hy : ¬ y = 0)
    (kk : ∀ z : Int32, z = x / y → mw g own cc nL ret ini rm Q k n w (pc + 1) ls (.int z :: st)) : mw g own cc nL ret ini rm Q k n w pc ls (.int y :: .int x :: st) := by
  intro p l e s m args below meth c H locs lsA a
  exact lv_idiv a.1.1 a.1.2.1 d hy (kk _ rfl p l e s m args below meth c H locs lsA a)
theorem mw_irem {x y : Int32} (d : decode cc pc = .ok (.irem, 1)) (hy : ¬ y = 0)
    (kk : ∀ z : Int32, z = x - x / y * y → mw g own cc nL ret ini rm Q k n w (pc + 1) ls (.int z :: st)) : mw g own cc nL ret ini rm Q k n w pc ls (.int y :: .int x :: st) := by
  intro p l e s m args below meth c H locs lsA a
  exact lv_irem a.1.1 a.1.2.1 d hy (kk _ rfl p l e s m args below meth c H locs lsA a)
theorem mw_ineg {x : Int32} (d : decode cc pc = .ok (.ineg, 1))
    (kk : ∀ z : Int32, z = -x → mw g own cc nL ret ini rm Q k n w (pc + 1) ls (.int z :: st)) : mw g own cc nL ret ini rm Q k n w pc ls (.int x :: st) := by
  intro p l e s m args below meth c H locs lsA a
  exact lv_ineg a.1.1 a.1.2.1 d (kk _ rfl p l e s m args below meth c H locs lsA a)
theorem mw_ladd {x y : Int64} (d : decode cc pc = .ok (.ladd, 1))
    (kk : ∀ z : Int64, z = x + y → mw g own cc nL ret ini rm Q k n w (pc + 1) ls (.long z :: st)) : mw g own cc nL ret ini rm Q k n w pc ls (.long y :: .long x :: st) := by
  intro p l e s m args below meth c H locs lsA a
  exact lv_ladd a.1.1 a.1.2.1 d (kk _ rfl p l e s m args below meth c H locs lsA a)
theorem mw_lmul {x y : Int64} (d : decode cc pc = .ok (.lmul, 1))
    (kk : ∀ z : Int64, z = x * y → mw g own cc nL ret ini rm Q k n w (pc + 1) ls (.long z :: st)) : mw g own cc nL ret ini rm Q k n w pc ls (.long y :: .long x :: st) := by
  intro p l e s m args below meth c H locs lsA a
  exact lv_lmul a.1.1 a.1.2.1 d (kk _ rfl p l e s m args below meth c H locs lsA a)
theorem mw_ldiv {x y : Int64} (d : decode cc pc = .ok (.ldiv, 1)) (hy : ¬ y = 0)
    (kk : ∀ z : Int64, z = x / y → mw g own cc nL ret ini rm Q k n w (pc + 1) ls (.long z :: st)) : mw g own cc nL ret ini rm Q k n w pc ls (.long y :: .long x :: st) := by
  intro p l e s m args below meth c H locs lsA a
  exact lv_ldiv a.1.1 a.1.2.1 d hy (kk _ rfl p l e s m args below meth c H locs lsA a)
theorem mw_lrem {x y : Int64} (d : decode cc pc = .ok (.lrem, 1)) (hy : ¬ y = 0)
    (kk : ∀ z : Int64, z = x - x / y * y → mw g own cc nL ret ini rm Q k n w (pc + 1) ls (.long z :: st)) : mw g own cc nL ret ini rm Q k n w pc ls (.long y :: .long x :: st) := by
  intro p l e s m args below meth c H locs lsA a
  exact lv_lrem a.1.1 a.1.2.1 d hy (kk _ rfl p l e s m args below meth c H locs lsA a)
theorem mw_lcmp {x y : Int64} (d : decode cc pc = .ok (.lcmp, 1))
    (kk : ∀ z : Int32, z = lg_cmp x y → mw g own cc nL ret ini rm Q k n w (pc + 1) ls (.int z :: st)) : mw g own cc nL ret ini rm Q k n w pc ls (.long y :: .long x :: st) := by
  intro p l e s m args below meth c H locs lsA a
  exact W.lcmp a.1.1 a.1.2.1 d (kk _ rfl p l e s m args below meth c H locs lsA a)
theorem mw_i2l {x : Int32} (d : decode cc pc = .ok (.i2l, 1))
    (kk : ∀ z : Int64, z = x.toInt64 → mw g own cc nL ret ini rm Q k n w (pc + 1) ls (.long z :: st)) : mw g own cc nL ret ini rm Q k n w pc ls (.int x :: st) := by
  intro p l e s m args below meth c H locs lsA a
  exact lv_i2l a.1.1 a.1.2.1 d rfl (kk _ rfl p l e s m args below meth c H locs lsA a)
theorem mw_l2i {x : Int64} (d : decode cc pc = .ok (.l2i, 1))
    (kk : ∀ z : Int32, z = x.toInt32 → mw g own cc nL ret ini rm Q k n w (pc + 1) ls (.int z :: st)) : mw g own cc nL ret ini rm Q k n w pc ls (.long x :: st) := by
  intro p l e s m args below meth c H locs lsA a
  exact lv_l2i a.1.1 a.1.2.1 d rfl (kk _ rfl p l e s m args below meth c H locs lsA a)
theorem mw_dup {v : Value} (d : decode cc pc = .ok (.dup, 1)) (hc : v.category = 1)
    (kk : mw g own cc nL ret ini rm Q k n w (pc + 1) ls (v :: v :: st)) : mw g own cc nL ret ini rm Q k n w pc ls (v :: st) := by
  intro p l e s m args below meth c H locs lsA a
  exact lv_dup a.1.1 a.1.2.1 d ((mm_v_cat g v).trans hc) (kk p l e s m args below meth c H locs lsA a)
theorem mw_pop {v : Value} (d : decode cc pc = .ok (.pop, 1)) (hc : v.category = 1)
    (kk : mw g own cc nL ret ini rm Q k n w (pc + 1) ls st) : mw g own cc nL ret ini rm Q k n w pc ls (v :: st) := by
  intro p l e s m args below meth c H locs lsA a
  exact lv_pop a.1.1 a.1.2.1 d ((mm_v_cat g v).trans hc) (kk p l e s m args below meth c H locs lsA a)
theorem mw_dup2 {v u : Value} (d : decode cc pc = .ok (.dup2, 1)) (hc : v.category = 1) (hu : u.category = 1)
    (kk : mw g own cc nL ret ini rm Q k n w (pc + 1) ls (v :: u :: v :: u :: st)) : mw g own cc nL ret ini rm Q k n w pc ls (v :: u :: st) := by
  intro p l e s m args below meth c H locs lsA a
  exact lv_dup2_11 a.1.1 a.1.2.1 d ((mm_v_cat g v).trans hc) ((mm_v_cat g u).trans hu) (kk p l e s m args below meth c H locs lsA a)
theorem mw_if_eq {x : Int32} {off : Int} {tgt : Nat} (d : decode cc pc = .ok (.ifCond .eq off, 3)) (ht : (pc : Int) + off = (tgt : Int)) (kt : x = 0 → mw g own cc nL ret ini rm Q k n w tgt ls st)
    (kf : ¬ x = 0 → mw g own cc nL ret ini rm Q k n w (pc + 3) ls st) : mw g own cc nL ret ini rm Q k n w pc ls (.int x :: st) := by
  intro p l e s m args below meth c H locs lsA a
  exact lv_if_eq a.1.1 a.1.2.1 d ht (fun q => kt q p l e s m args below meth c H locs lsA a) (fun q => kf q p l e s m args below meth c H locs lsA a)
theorem mw_icmp_eq {x y : Int32} {off : Int} {tgt : Nat} (d : decode cc pc = .ok (.if_icmp .eq off, 3)) (ht : (pc : Int) + off = (tgt : Int)) (kt : x = y → mw g own cc nL ret ini rm Q k n w tgt ls st)
    (kf : ¬ x = y → mw g own cc nL ret ini rm Q k n w (pc + 3) ls st) : mw g own cc nL ret ini rm Q k n w pc ls (.int y :: .int x :: st) := by
  intro p l e s m args below meth c H locs lsA a
  exact lv_icmp_eq a.1.1 a.1.2.1 d ht (fun q => kt q p l e s m args below meth c H locs lsA a) (fun q => kf q p l e s m args below meth c H locs lsA a)
theorem mw_if_lt {x : Int32} {off : Int} {tgt : Nat} (d : decode cc pc = .ok (.ifCond .lt off, 3)) (ht : (pc : Int) + off = (tgt : Int)) (kt : x < 0 → mw g own cc nL ret ini rm Q k n w tgt ls st)
    (kf : ¬ x < 0 → mw g own cc nL ret ini rm Q k n w (pc + 3) ls st) : mw g own cc nL ret ini rm Q k n w pc ls (.int x :: st) := by
  intro p l e s m args below meth c H locs lsA a
  exact lv_if_lt a.1.1 a.1.2.1 d ht (fun q => kt q p l e s m args below meth c H locs lsA a) (fun q => kf q p l e s m args below meth c H locs lsA a)
theorem mw_icmp_lt {x y : Int32} {off : Int} {tgt : Nat} (d : decode cc pc = .ok (.if_icmp .lt off, 3)) (ht : (pc : Int) + off = (tgt : Int)) (kt : x < y → mw g own cc nL ret ini rm Q k n w tgt ls st)
    (kf : ¬ x < y → mw g own cc nL ret ini rm Q k n w (pc + 3) ls st) : mw g own cc nL ret ini rm Q k n w pc ls (.int y :: .int x :: st) := by
  intro p l e s m args below meth c H locs lsA a
  exact lv_icmp_lt a.1.1 a.1.2.1 d ht (fun q => kt q p l e s m args below meth c H locs lsA a) (fun q => kf q p l e s m args below meth c H locs lsA a)
theorem mw_if_ge {x : Int32} {off : Int} {tgt : Nat} (d : decode cc pc = .ok (.ifCond .ge off, 3)) (ht : (pc : Int) + off = (tgt : Int)) (kt : 0 ≤ x → mw g own cc nL ret ini rm Q k n w tgt ls st)
    (kf : ¬ 0 ≤ x → mw g own cc nL ret ini rm Q k n w (pc + 3) ls st) : mw g own cc nL ret ini rm Q k n w pc ls (.int x :: st) := by
  intro p l e s m args below meth c H locs lsA a
  exact lv_if_ge a.1.1 a.1.2.1 d ht (fun q => kt q p l e s m args below meth c H locs lsA a) (fun q => kf q p l e s m args below meth c H locs lsA a)
theorem mw_icmp_ge {x y : Int32} {off : Int} {tgt : Nat} (d : decode cc pc = .ok (.if_icmp .ge off, 3)) (ht : (pc : Int) + off = (tgt : Int)) (kt : y ≤ x → mw g own cc nL ret ini rm Q k n w tgt ls st)
    (kf : ¬ y ≤ x → mw g own cc nL ret ini rm Q k n w (pc + 3) ls st) : mw g own cc nL ret ini rm Q k n w pc ls (.int y :: .int x :: st) := by
  intro p l e s m args below meth c H locs lsA a
  exact lv_icmp_ge a.1.1 a.1.2.1 d ht (fun q => kt q p l e s m args below meth c H locs lsA a) (fun q => kf q p l e s m args below meth c H locs lsA a)
theorem mw_if_gt {x : Int32} {off : Int} {tgt : Nat} (d : decode cc pc = .ok (.ifCond .gt off, 3)) (ht : (pc : Int) + off = (tgt : Int)) (kt : 0 < x → mw g own cc nL ret ini rm Q k n w tgt ls st)
    (kf : ¬ 0 < x → mw g own cc nL ret ini rm Q k n w (pc + 3) ls st) : mw g own cc nL ret ini rm Q k n w pc ls (.int x :: st) := by
  intro p l e s m args below meth c H locs lsA a
  exact lv_if_gt a.1.1 a.1.2.1 d ht (fun q => kt q p l e s m args below meth c H locs lsA a) (fun q => kf q p l e s m args below meth c H locs lsA a)
theorem mw_icmp_gt {x y : Int32} {off : Int} {tgt : Nat} (d : decode cc pc = .ok (.if_icmp .gt off, 3)) (ht : (pc : Int) + off = (tgt : Int)) (kt : y < x → mw g own cc nL ret ini rm Q k n w tgt ls st)
    (kf : ¬ y < x → mw g own cc nL ret ini rm Q k n w (pc + 3) ls st) : mw g own cc nL ret ini rm Q k n w pc ls (.int y :: .int x :: st) := by
  intro p l e s m args below meth c H locs lsA a
  exact lv_icmp_gt a.1.1 a.1.2.1 d ht (fun q => kt q p l e s m args below meth c H locs lsA a) (fun q => kf q p l e s m args below meth c H locs lsA a)
theorem mw_if_le {x : Int32} {off : Int} {tgt : Nat} (d : decode cc pc = .ok (.ifCond .le off, 3)) (ht : (pc : Int) + off = (tgt : Int)) (kt : x ≤ 0 → mw g own cc nL ret ini rm Q k n w tgt ls st)
    (kf : ¬ x ≤ 0 → mw g own cc nL ret ini rm Q k n w (pc + 3) ls st) : mw g own cc nL ret ini rm Q k n w pc ls (.int x :: st) := by
  intro p l e s m args below meth c H locs lsA a
  exact lv_if_le a.1.1 a.1.2.1 d ht (fun q => kt q p l e s m args below meth c H locs lsA a) (fun q => kf q p l e s m args below meth c H locs lsA a)
theorem mw_icmp_le {x y : Int32} {off : Int} {tgt : Nat} (d : decode cc pc = .ok (.if_icmp .le off, 3)) (ht : (pc : Int) + off = (tgt : Int)) (kt : x ≤ y → mw g own cc nL ret ini rm Q k n w tgt ls st)
    (kf : ¬ x ≤ y → mw g own cc nL ret ini rm Q k n w (pc + 3) ls st) : mw g own cc nL ret ini rm Q k n w pc ls (.int y :: .int x :: st) := by
  intro p l e s m args below meth c H locs lsA a
  exact lv_icmp_le a.1.1 a.1.2.1 d ht (fun q => kt q p l e s m args below meth c H locs lsA a) (fun q => kf q p l e s m args below meth c H locs lsA a)
theorem mw_if_ne {x : Int32} {off : Int} {tgt : Nat} (d : decode cc pc = .ok (.ifCond .ne off, 3)) (ht : (pc : Int) + off = (tgt : Int)) (kt : ¬ x = 0 → mw g own cc nL ret ini rm Q k n w tgt ls st)
    (kf : x = 0 → mw g own cc nL ret ini rm Q k n w (pc + 3) ls st) : mw g own cc nL ret ini rm Q k n w pc ls (.int x :: st) := by
  intro p l e s m args below meth c H locs lsA a
  exact lv_if_ne a.1.1 a.1.2.1 d ht (fun q => kt q p l e s m args below meth c H locs lsA a) (fun q => kf q p l e s m args below meth c H locs lsA a)
theorem mw_icmp_ne {x y : Int32} {off : Int} {tgt : Nat} (d : decode cc pc = .ok (.if_icmp .ne off, 3)) (ht : (pc : Int) + off = (tgt : Int)) (kt : ¬ x = y → mw g own cc nL ret ini rm Q k n w tgt ls st)
    (kf : x = y → mw g own cc nL ret ini rm Q k n w (pc + 3) ls st) : mw g own cc nL ret ini rm Q k n w pc ls (.int y :: .int x :: st) := by
  intro p l e s m args below meth c H locs lsA a
  exact lv_icmp_ne a.1.1 a.1.2.1 d ht (fun q => kt q p l e s m args below meth c H locs lsA a) (fun q => kf q p l e s m args below meth c H locs lsA a)
theorem mw_goto {off : Int} {tgt : Nat} (d : decode cc pc = .ok (.goto off, 3)) (ht : (pc : Int) + off = (tgt : Int))
    (kk : mw g own cc nL ret ini rm Q k n w tgt ls st) : mw g own cc nL ret ini rm Q k n w pc ls st := by
  intro p l e s m args below meth c H locs lsA a
  exact lv_goto a.1.1 a.1.2.1 d ht (kk p l e s m args below meth c H locs lsA a)
theorem mw_nonnull {x : Nat} {off : Int} {tgt : Nat} (d : decode cc pc = .ok (.ifnonnull off, 3)) (ht : (pc : Int) + off = (tgt : Int))
    (kk : mw g own cc nL ret ini rm Q k n w tgt ls st) : mw g own cc nL ret ini rm Q k n w pc ls (.ref x :: st) := by
  intro p l e s m args below meth c H locs lsA a
  exact lv_ifnonnull a.1.1 a.1.2.1 d ht (kk p l e s m args below meth c H locs lsA a)
theorem mw_nonnullN {off : Int} (d : decode cc pc = .ok (.ifnonnull off, 3))
    (kk : mw g own cc nL ret ini rm Q k n w (pc + 3) ls st) : mw g own cc nL ret ini rm Q k n w pc ls (.null :: st) := by
  intro p l e s m args below meth c H locs lsA a
  exact lv_ifnonnullN a.1.1 a.1.2.1 d (kk p l e s m args below meth c H locs lsA a)
theorem mw_lookup {dflt : Int} {ps : Array (Int × Int)} {len : Nat} {x : Int32} {off : Int} {tgt : Nat} (d : decode cc pc = .ok (.lookupswitch dflt ps, len)) (hp : (ps.toList.zip (ps.toList.drop 1)).all (fun (a, next) => a.1 < next.1) = true) (ho : Op.lookupswitch.offset ps.toList dflt x.toInt = off) (ht : (pc : Int) + off = (tgt : Int))
    (kk : mw g own cc nL ret ini rm Q k n w tgt ls st) : mw g own cc nL ret ini rm Q k n w pc ls (.int x :: st) := by
  intro p l e s m args below meth c H locs lsA a
  exact lv_lookup a.1.1 a.1.2.1 d hp ho ht (kk p l e s m args below meth c H locs lsA a)
theorem mw_tableOut {dflt lo hi : Int} {offs : Array Int} {len : Nat} {x : Int32} {tgt : Nat} (d : decode cc pc = .ok (.tableswitch dflt lo hi offs, len)) (h : x.toInt < lo ∨ hi < x.toInt) (ht : (pc : Int) + dflt = (tgt : Int))
    (kk : mw g own cc nL ret ini rm Q k n w tgt ls st) : mw g own cc nL ret ini rm Q k n w pc ls (.int x :: st) := by
  intro p l e s m args below meth c H locs lsA a
  exact lv_tableOut a.1.1 a.1.2.1 d h ht (kk p l e s m args below meth c H locs lsA a)
theorem mw_tableIn {dflt lo hi : Int} {offs : Array Int} {len : Nat} {x : Int32} {off : Int} {tgt : Nat} (d : decode cc pc = .ok (.tableswitch dflt lo hi offs, len)) (h1 : ¬ x.toInt < lo) (h2 : ¬ hi < x.toInt) (ho : offs[(x.toInt - lo).toNat]? = some off) (ht : (pc : Int) + off = (tgt : Int))
    (kk : mw g own cc nL ret ini rm Q k n w tgt ls st) : mw g own cc nL ret ini rm Q k n w pc ls (.int x :: st) := by
  intro p l e s m args below meth c H locs lsA a
  exact lv_tableIn a.1.1 a.1.2.1 d h1 h2 ho ht (kk p l e s m args below meth c H locs lsA a)
theorem mw_iret {v : Int32} (hr : ret = some .int) (d : decode cc pc = .ok (.ireturn, 1)) (hc : k = rm.cells) (hs : n = rm.slots)
    (hq : Q (some (.int v)) w) : mw g own cc nL ret ini rm Q k n w pc ls [.int v] := by
  intro p l e s m args below meth c H locs lsA a
  subst hc
  subst hs
  exact W.iret a.1.1 a.1.2.1 (by rw [a.1.2.2.2.2.2.1]; exact hr) (fun t ht hW => ⟨⟨_, w, rfl, hq, by rw [ht]; exact a.2.2.1⟩, a.2.2.2.1.F ht⟩) a.2.2.2.1.2.2 d (hlocks := a.1.2.2.2.2.2.2.1)
theorem mw_zret {v : Int32} (hr : ret = some .boolean) (hv : narrow .boolean (.int v) = .int v) (d : decode cc pc = .ok (.ireturn, 1)) (hc : k = rm.cells) (hs : n = rm.slots)
    (hq : Q (some (.int v)) w) : mw g own cc nL ret ini rm Q k n w pc ls [.int v] := by
  intro p l e s m args below meth c H locs lsA a
  subst hc
  subst hs
  exact W.zret a.1.1 a.1.2.1 (by rw [a.1.2.2.2.2.2.1]; exact hr) hv (fun t ht hW => ⟨⟨_, w, rfl, hq, by rw [ht]; exact a.2.2.1⟩, a.2.2.2.1.F ht⟩) a.2.2.2.1.2.2 d (hlocks := a.1.2.2.2.2.2.2.1)
theorem mw_vret (hr : ret = none) (d : decode cc pc = .ok (.return_, 1)) (hc : k = rm.cells) (hs : n = rm.slots)
    (hq : Q none w) : mw g own cc nL ret ini rm Q k n w pc ls [] := by
  intro p l e s m args below meth c H locs lsA a
  subst hc
  subst hs
  exact W.vret a.1.1 a.1.2.1 (by rw [a.1.2.2.2.2.2.1]; exact hr) (fun t ht hW => ⟨⟨none, w, rfl, hq, by rw [ht]; exact a.2.2.1⟩, a.2.2.2.1.F ht⟩) a.2.2.2.1.2.2 d (hlocks := a.1.2.2.2.2.2.2.1)
theorem mw_aret {v : Value} {C : String} (hr : ret = some (.object C)) (hv : v = .null ∨ ∃ a, v = .ref a) (d : decode cc pc = .ok (.areturn, 1)) (hc : k = rm.cells) (hs : n = rm.slots)
    (hq : Q (some v) w) : mw g own cc nL ret ini rm Q k n w pc ls [v] := by
  intro p l e s m args below meth c H locs lsA a
  subst hc
  subst hs
  exact W.aret a.1.1 a.1.2.1 (by rw [a.1.2.2.2.2.2.1]; exact hr) (Or.inl ⟨_, rfl⟩) (by rcases hv with rfl | ⟨b, rfl⟩; exact Or.inl rfl; exact Or.inr ⟨_, rfl⟩) (fun t ht hW => ⟨⟨_, w, rfl, hq, by rw [ht]; exact a.2.2.1⟩, a.2.2.2.1.F ht⟩) a.2.2.2.1.2.2 d (hlocks := a.1.2.2.2.2.2.2.1)
end MW
/-! ===== rows of the small machine: cells, calls ===== -/
theorem mm_inX : ∀ q ∈ vwCl, ∀ w ∈ u_ws q.1 q.2.1 q.2.2, w ∈ mm_ok := by decide +kernel
theorem mm_nmX : ∀ q ∈ vwCl, ∀ a, a < q.2.2 → ∀ b, b < q.2.2 → a ≠ b → (q.2.1 a).2.1 ≠ (q.2.1 b).2.1 := by decide +kernel
theorem mm_tyX {ci : Nat} {q : vw_C} (h : vwCl[ci]? = some q) : ∃ ty : Nat → FieldType, ∀ k, k < q.2.2 → parseFieldDescriptor (q.2.1 k).2.2.1 = some (ty k) := by
  match ci, h with
  | 0, h => cases h; exact ⟨_, tyX0_ok⟩
  | 1, h => cases h; exact ⟨_, tyX1_ok⟩
  | 2, h => cases h; exact ⟨_, tyX2_ok⟩
  | 3, h => cases h; exact ⟨_, tyX3_ok⟩
  | 4, h => cases h; exact ⟨_, tyX4_ok⟩
  | 5, h => cases h; exact ⟨_, tyX5_ok⟩
  | 6, h => cases h; exact ⟨_, tyX6_ok⟩
  | 7, h => cases h; exact ⟨_, tyX7_ok⟩
  | 8, h => cases h; exact ⟨_, tyX8_ok⟩
  | 9, h => cases h; exact ⟨_, tyX9_ok⟩
  | 10, h => cases h; exact ⟨_, tyX10_ok⟩
  | k + 11, h => simp [vwCl] at h
theorem mm_e_obj {g : mm_G} {ci : Nat} {fs : List Value} : mm_e g (.inl (ci, fs)) = .inr (ci, fs.map (mm_v g)) := rfl
theorem mm_e_int {g : mm_G} {t n : Nat} {f : Nat → Int32} : mm_e g (.inr (t, n, .inl f)) = .inl (g.2.2.2.1 t, n, .inl f) := rfl
theorem mm_narrow {ty : FieldType} {v : Value} (g : mm_G) (h : narrow ty v = v) : narrow ty (mm_v g v) = mm_v g v := by
  cases v <;> first | exact h | (cases ty <;> rfl)
theorem mm_fits {ty : FieldType} {v : Value} (g : mm_G) (h : fits ty v = true) : fits ty (mm_v g v) = true := by
  cases v <;> first | exact h | (cases ty <;> first | exact h | rfl)
theorem mm_K.calling {g : mm_G} {U : State} {f : JFrame} {mk : MethodId} {a : Array Value} (h : mm_K g U) : mm_K g (U.calling f mk a) := by
  obtain ⟨h1, h2, h3, h4⟩ := h
  refine ⟨va_K.moved (u := U) (U := U.calling f mk a) (Vm.Alike.refl U.vm) h1, fun w hw => ?_, va_Z.moved (u := U) (U := U.calling f mk a) (Vm.Alike.refl U.vm) h3, va_T.moved (u := U) (U := U.calling f mk a) (Vm.Alike.refl U.vm) h4⟩
  have h9 := (List.mem_filter.mp hw).2
  have h8 := h2 w hw
  cases w with
  | methodLinkNest a i x h => exact va_Nw.same rfl rfl h8
  | fieldLinkNest a i b n d h => exact va_Nw.same rfl rfl h8
  | _ => exact absurd h9 (by simp [mm_nw])
section MW
variable {g : mm_G} {own : String} {cc : ByteArray} {nL : Nat} {ret : Option FieldType} {ini : Bool} {rm : Room} {Q : Option Value → List mm_E → Prop} {k n : Nat} {w : List mm_E} {pc : Nat} {ls : List (Nat × Value)} {st : List Value}
theorem mw_get {a ci j idx : Nat} {fs : List Value} {C : String} {T : u_T} {N : Nat} {v : Value} (d : decode cc pc = .ok (.getfield idx, 3)) (hw : w[a]? = some (.inl (ci, fs))) (hc : vwCl[ci]? = some (C, T, N)) (hj : j < N) (hl : Cond.fieldLink own idx (T j).1 (T j).2.1 (T j).2.2.1 ∈ mm_ok) (hv : fs[j]? = some v)
    (kk : mw g own cc nL ret ini rm Q k n w (pc + 3) ls (v :: st)) : mw g own cc nL ret ini rm Q k n w pc ls (.ref a :: st) := by
  intro p l e s m args below meth c H locs lsA A
  have ha := Nat.lt_of_lt_of_le (mm_lt hw) A.2.2.1.2.2
  show W _ _ _ _ _ _ _ _ _ _ _ _ _ _ _ (F0 m pc lsA (mm_v g (.ref a) :: st.map (mm_v g)))
  rw [mm_v_ref ha]
  exact va_get A.1.1 A.1.2.1 A.1.2.2.2.2.1 (mm_inX _ (List.mem_of_getElem? hc)) A.1.2.2.2.1 A.2.1.1 A.2.2.1.1 a (mm_w_get hw) hc j hj (A.1.2.2.2.2.1 _ hl) (fun _ h => h) (by rw [List.getElem?_map, hv]; rfl) d (kk p l e s m args below meth c H locs lsA A)
theorem mw_put {a ci j idx : Nat} {fs : List Value} {C : String} {T : u_T} {N : Nat} {ty : FieldType} {v : Value} (d : decode cc pc = .ok (.putfield idx, 3)) (hw : w[a]? = some (.inl (ci, fs))) (hc : vwCl[ci]? = some (C, T, N)) (hj : j < N) (hl : Cond.fieldLink own idx (T j).1 (T j).2.1 (T j).2.2.1 ∈ mm_ok) (hf : (T j).2.2.2 = false) (hd : parseFieldDescriptor (T j).2.2.1 = some ty) (hn : narrow ty v = v) (hfit : fits ty v = true) (hlen : j < fs.length)
    (kk : mw g own cc nL ret ini rm Q k n (w.set a (.inl (ci, fs.set j v))) (pc + 3) ls st) : mw g own cc nL ret ini rm Q k n w pc ls (v :: .ref a :: st) := by
  intro p l e s m args below meth c H locs lsA A
  have ha := Nat.lt_of_lt_of_le (mm_lt hw) A.2.2.1.2.2
  show W _ _ _ _ _ _ _ _ _ _ _ _ _ _ _ (F0 m pc lsA (mm_v g v :: mm_v g (.ref a) :: st.map (mm_v g)))
  rw [mm_v_ref ha]
  obtain ⟨ty0, hty⟩ := mm_tyX hc
  refine va_put A.1.1 A.1.2.1 A.1.2.2.2.2.1 (mm_inX _ (List.mem_of_getElem? hc)) ty0 hty (mm_nmX _ (List.mem_of_getElem? hc)) A.1.2.2.2.1 A.2.1.1 A.2.2.1.1 A.2.2.1.2.1 A.2.2.2.1 a (mm_w_get hw) hc j hj (A.1.2.2.2.2.1 _ hl) (fun _ h => h) hf hd (mm_narrow g hn) (mm_fits g hfit) (by rw [List.length_map]; exact hlen) d (fun H1 locs1 hP hD hS => ?_)
  rw [← List.map_set, ← mm_e_obj, mm_w_set] at hP hD
  exact kk p l e s m args below meth c H1 locs1 lsA ⟨A.1, A.2.1, ⟨hP, hD, by rw [List.length_set]; exact A.2.2.1.2.2⟩, hS, A.2.2.2.2⟩
theorem mw_putF {a ci j idx : Nat} {fs : List Value} {C : String} {T : u_T} {N : Nat} {ty : FieldType} {v : Value} (hi : ini = true) (d : decode cc pc = .ok (.putfield idx, 3)) (hw : w[a]? = some (.inl (ci, fs))) (hc : vwCl[ci]? = some (C, T, N)) (hj : j < N) (hl : Cond.fieldLink own idx (T j).1 (T j).2.1 (T j).2.2.1 ∈ mm_ok) (hf : (T j).2.2.2 = true) (ho : (T j).1 = own) (hd : parseFieldDescriptor (T j).2.2.1 = some ty) (hn : narrow ty v = v) (hfit : fits ty v = true) (hlen : j < fs.length)
    (kk : mw g own cc nL ret ini rm Q k n (w.set a (.inl (ci, fs.set j v))) (pc + 3) ls st) : mw g own cc nL ret ini rm Q k n w pc ls (v :: .ref a :: st) := by
  intro p l e s m args below meth c H locs lsA A
  have ha := Nat.lt_of_lt_of_le (mm_lt hw) A.2.2.1.2.2
  show W _ _ _ _ _ _ _ _ _ _ _ _ _ _ _ (F0 m pc lsA (mm_v g v :: mm_v g (.ref a) :: st.map (mm_v g)))
  rw [mm_v_ref ha]
  obtain ⟨ty0, hty⟩ := mm_tyX hc
  refine va_putF A.1.1 A.1.2.1 A.1.2.2.2.2.1 (mm_inX _ (List.mem_of_getElem? hc)) ty0 hty (mm_nmX _ (List.mem_of_getElem? hc)) A.1.2.2.2.1 A.2.1.1 A.2.2.1.1 A.2.2.1.2.1 A.2.2.2.1 a (mm_w_get hw) hc j hj (A.1.2.2.2.2.1 _ hl) (fun _ h => h) hf (A.1.2.2.2.2.2.2.2 hi) ho hd (mm_narrow g hn) (mm_fits g hfit) (by rw [List.length_map]; exact hlen) d (fun H1 locs1 hP hD hS => ?_)
  rw [← List.map_set, ← mm_e_obj, mm_w_set] at hP hD
  exact kk p l e s m args below meth c H1 locs1 lsA ⟨A.1, A.2.1, ⟨hP, hD, by rw [List.length_set]; exact A.2.2.1.2.2⟩, hS, A.2.2.2.2⟩
theorem mw_iald {a N : Nat} {f : Nat → Int32} {i : Int32} (d : decode cc pc = .ok (.iaload, 1)) (hw : w[a]? = some (.inr (0, N, .inl f))) (hin : vp_in i N)
    (kk : mw g own cc nL ret ini rm Q k n w (pc + 1) ls (.int (f i.toNatClampNeg) :: st)) : mw g own cc nL ret ini rm Q k n w pc ls (.int i :: .ref a :: st) := by
  intro p l e s m args below meth c H locs lsA A
  have ha := Nat.lt_of_lt_of_le (mm_lt hw) A.2.2.1.2.2
  show W _ _ _ _ _ _ _ _ _ _ _ _ _ _ _ (F0 m pc lsA (.int i :: mm_v g (.ref a) :: st.map (mm_v g)))
  rw [mm_v_ref ha]
  exact va_iald A.1.1 A.1.2.1 A.2.1.1 A.2.2.1.1 a 0 (mm_w_get hw) rfl hin d (kk p l e s m args below meth c H locs lsA A)
theorem mw_zald {a N : Nat} {f : Nat → Int32} {i : Int32} (d : decode cc pc = .ok (.baload, 1)) (hw : w[a]? = some (.inr (1, N, .inl f))) (hin : vp_in i N)
    (kk : mw g own cc nL ret ini rm Q k n w (pc + 1) ls (.int (f i.toNatClampNeg) :: st)) : mw g own cc nL ret ini rm Q k n w pc ls (.int i :: .ref a :: st) := by
  intro p l e s m args below meth c H locs lsA A
  have ha := Nat.lt_of_lt_of_le (mm_lt hw) A.2.2.1.2.2
  show W _ _ _ _ _ _ _ _ _ _ _ _ _ _ _ (F0 m pc lsA (.int i :: mm_v g (.ref a) :: st.map (mm_v g)))
  rw [mm_v_ref ha]
  exact va_zald A.1.1 A.1.2.1 A.2.1.1 A.2.2.1.1 a 1 (mm_w_get hw) rfl hin d (kk p l e s m args below meth c H locs lsA A)
theorem mw_iast {a N : Nat} {f : Nat → Int32} {i x : Int32} (d : decode cc pc = .ok (.iastore, 1)) (hw : w[a]? = some (.inr (0, N, .inl f))) (hin : vp_in i N)
    (kk : mw g own cc nL ret ini rm Q k n (w.set a (.inr (0, N, .inl (upd f i.toNatClampNeg x)))) (pc + 1) ls st) : mw g own cc nL ret ini rm Q k n w pc ls (.int x :: .int i :: .ref a :: st) := by
  intro p l e s m args below meth c H locs lsA A
  have ha := Nat.lt_of_lt_of_le (mm_lt hw) A.2.2.1.2.2
  show W _ _ _ _ _ _ _ _ _ _ _ _ _ _ _ (F0 m pc lsA (.int x :: .int i :: mm_v g (.ref a) :: st.map (mm_v g)))
  rw [mm_v_ref ha]
  refine va_iast A.1.1 A.1.2.1 A.2.1.1 A.2.2.1.1 A.2.2.1.2.1 A.2.2.2.1 a 0 (mm_w_get hw) rfl hin d (fun H1 locs1 hP hD hS => ?_)
  rw [← mm_e_int, mm_w_set] at hP hD
  exact kk p l e s m args below meth c H1 locs1 lsA ⟨A.1, A.2.1, ⟨hP, hD, by rw [List.length_set]; exact A.2.2.1.2.2⟩, hS, A.2.2.2.2⟩
theorem mw_zast {a N : Nat} {f : Nat → Int32} {i x : Int32} (d : decode cc pc = .ok (.bastore, 1)) (hw : w[a]? = some (.inr (1, N, .inl f))) (hin : vp_in i N)
    (kk : mw g own cc nL ret ini rm Q k n (w.set a (.inr (1, N, .inl (upd f i.toNatClampNeg (vp_nar .boolean x))))) (pc + 1) ls st) : mw g own cc nL ret ini rm Q k n w pc ls (.int x :: .int i :: .ref a :: st) := by
  intro p l e s m args below meth c H locs lsA A
  have ha := Nat.lt_of_lt_of_le (mm_lt hw) A.2.2.1.2.2
  show W _ _ _ _ _ _ _ _ _ _ _ _ _ _ _ (F0 m pc lsA (.int x :: .int i :: mm_v g (.ref a) :: st.map (mm_v g)))
  rw [mm_v_ref ha]
  refine va_zast A.1.1 A.1.2.1 A.2.1.1 A.2.2.1.1 A.2.2.1.2.1 A.2.2.2.1 a 1 (mm_w_get hw) rfl hin d (fun H1 locs1 hP hD hS => ?_)
  rw [← mm_e_int, mm_w_set] at hP hD
  exact kk p l e s m args below meth c H1 locs1 lsA ⟨A.1, A.2.1, ⟨hP, hD, by rw [List.length_set]; exact A.2.2.1.2.2⟩, hS, A.2.2.2.2⟩
theorem mw_aald {a t N b : Nat} {f : Nat → Option Nat} {i : Int32} {ty : FieldType} (d : decode cc pc = .ok (.aaload, 1)) (hw : w[a]? = some (.inr (t, N, .inr f))) (ht : (mm_tys g)[t]? = some (g.2.2.2.1 t, ty)) (hty : ty.isReference = true) (hin : vp_in i N) (hb : f i.toNatClampNeg = some b) (hb9 : b < 999)
    (kk : mw g own cc nL ret ini rm Q k n w (pc + 1) ls (.ref b :: st)) : mw g own cc nL ret ini rm Q k n w pc ls (.int i :: .ref a :: st) := by
  intro p l e s m args below meth c H locs lsA A
  have ha := Nat.lt_of_lt_of_le (mm_lt hw) A.2.2.1.2.2
  show W _ _ _ _ _ _ _ _ _ _ _ _ _ _ _ (F0 m pc lsA (.int i :: mm_v g (.ref a) :: st.map (mm_v g)))
  rw [mm_v_ref ha]
  have hlt : i.toNatClampNeg < N := Nat.not_le.mp fun q => hin (Or.inr q)
  have k2 := kk p l e s m args below meth c H locs lsA A
  rw [show List.map (mm_v g) (.ref b :: st) = .ref (g.2.2.1 + b) :: st.map (mm_v g) by rw [List.map_cons, mm_v_ref hb9]] at k2
  exact W.aald (v := .ref (g.2.2.1 + b)) (ty := ty) A.1.1 A.1.2.1 (A.2.2.1.1 a _ (mm_w_get hw)) ((A.2.1.1.2 t _ ht).1 N (fun j => va_rf ((f j).map (fun a => g.2.2.1 + a)))) hty (fun q => by cases q) (by show ¬ (i < 0 ∨ (arrV _ _ _).slots.size ≤ _); rw [arrV_size]; exact hin) (by show (arrV _ _ _).slots[_]? = _; rw [arrV_read _ _ hlt]; dsimp only; rw [hb]; rfl) rfl rfl d k2
theorem mw_alen {a t N : Nat} {f : (Nat → Int32) ⊕ (Nat → Option Nat)} {ty : FieldType} {v : Int32} (d : decode cc pc = .ok (.arraylength, 1)) (hw : w[a]? = some (.inr (t, N, f))) (ht : (mm_tys g)[t]? = some (g.2.2.2.1 t, ty)) (hv : Int32.ofNat N = v)
    (kk : mw g own cc nL ret ini rm Q k n w (pc + 1) ls (.int v :: st)) : mw g own cc nL ret ini rm Q k n w pc ls (.ref a :: st) := by
  intro p l e s m args below meth c H locs lsA A
  have ha := Nat.lt_of_lt_of_le (mm_lt hw) A.2.2.1.2.2
  show W _ _ _ _ _ _ _ _ _ _ _ _ _ _ _ (F0 m pc lsA (mm_v g (.ref a) :: st.map (mm_v g)))
  rw [mm_v_ref ha]
  have hg := mm_w_get (g := g) hw
  rcases f with f | f
  · exact va_alen A.1.1 A.1.2.1 A.2.1.1 A.2.2.1.1 a t hg ht hv d (kk p l e s m args below meth c H locs lsA A)
  · exact va_alen A.1.1 A.1.2.1 A.2.1.1 A.2.2.1.1 a t hg ht hv d (kk p l e s m args below meth c H locs lsA A)
/-! the static array -/
theorem mw_gets {idx : Nat} (d : decode cc pc = .ok (.getstatic idx, 3)) (hl : Cond.fieldLink own idx "VoiceWills" "ORDERS_OF" "[I" ∈ mm_ok)
    (kk : mw g own cc nL ret ini rm Q k n w (pc + 3) ls (.ref 999 :: st)) : mw g own cc nL ret ini rm Q k n w pc ls st := by
  intro p l e s m args below meth c H locs lsA A
  exact va_gets A.1.1 A.1.2.1 A.2.1.2.2.1 A.2.2.2.1 A.1.2.2.2.1 (A.1.2.2.2.2.1 _ hl) (fun _ h => h) d (kk p l e s m args below meth c H locs lsA A)
theorem mw_getsN {idx : Nat} {host : String} (d : decode cc pc = .ok (.getstatic idx, 3)) (hl : Cond.fieldLinkNest own idx "VoiceWills" "ORDERS_OF" "[I" host ∈ mm_nest)
    (kk : mw g own cc nL ret ini rm Q k n w (pc + 3) ls (.ref 999 :: st)) : mw g own cc nL ret ini rm Q k n w pc ls st := by
  intro p l e s m args below meth c H locs lsA A
  exact va_getsN A.1.1 A.1.2.1 A.2.1.2.2.1 A.2.2.2.1 A.1.2.2.2.1 (va_Nw.use rfl (A.2.1.2.1 _ hl)) (fun _ h => h) d (kk p l e s m args below meth c H locs lsA A)
theorem mw_iald9 {i : Int32} (d : decode cc pc = .ok (.iaload, 1)) (hin : vp_in i 5)
    (kk : mw g own cc nL ret ini rm Q k n w (pc + 1) ls (.int (mm_ordn i.toNatClampNeg) :: st)) : mw g own cc nL ret ini rm Q k n w pc ls (.int i :: .ref 999 :: st) := by
  intro p l e s m args below meth c H locs lsA A
  obtain ⟨cell, h1, h2, h3, h4, h5, h6, h7⟩ := A.2.1.2.2.2
  have hlt : i.toNatClampNeg < 5 := Nat.not_le.mp fun q => hin (Or.inr q)
  exact W.iald (v := .int (mm_ordn i.toNatClampNeg)) A.1.1 A.1.2.1 (by show H[g.2.1]? = _; rw [A.2.2.2.1.2.1 _ (Array.getElem?_eq_some_iff.mp h1).1 h7]; exact h1) h2 h3 (fun q => q.elim (fun q => hin (Or.inl q)) (fun q => by omega)) (h6 _ hlt) rfl rfl d (kk p l e s m args below meth c H locs lsA A)
theorem mw_alen9 (d : decode cc pc = .ok (.arraylength, 1))
    (kk : mw g own cc nL ret ini rm Q k n w (pc + 1) ls (.int 5 :: st)) : mw g own cc nL ret ini rm Q k n w pc ls (.ref 999 :: st) := by
  intro p l e s m args below meth c H locs lsA A
  obtain ⟨cell, h1, h2, h3, h4, h5, h6, h7⟩ := A.2.1.2.2.2
  exact W.alen (n := 5) A.1.1 A.1.2.1 (by show H[g.2.1]? = _; rw [A.2.2.2.1.2.1 _ (Array.getElem?_eq_some_iff.mp h1).1 h7]; exact h1) h2 h5 rfl rfl d (kk p l e s m args below meth c H locs lsA A)
end MW
/-! ===== rows of the small machine: calls ===== -/
/-- what the tables say of an instance method, of a static one, of a constructor -/
def mm_mi (y : MethodName) (cc : ByteArray) (nL : Nat) (ret : Option FieldType) (a : Nat) : Prop := Cond.code y cc nL ret ∈ mm_ok ∧ Cond.instanceMethod y ∈ mm_ok ∧ Cond.selects y.cls y y ∈ mm_ok ∧ Cond.initialized y.cls ∈ mm_ok ∧ (y.cls ≠ "java/lang/invoke/MethodHandle" ∧ y.cls ≠ "java/lang/invoke/VarHandle" ∧ (parseMethodDescriptor y.desc).map (fun d => d.parameters.length) = some a)
def mm_ms (y : MethodName) (cc : ByteArray) (nL : Nat) (ret : Option FieldType) (a : Nat) : Prop := Cond.code y cc nL ret ∈ mm_ok ∧ Cond.static y ∈ mm_ok ∧ Cond.initialized y.cls ∈ mm_ok ∧ (y.cls ≠ "java/lang/invoke/MethodHandle" ∧ y.cls ≠ "java/lang/invoke/VarHandle" ∧ (parseMethodDescriptor y.desc).map (fun d => d.parameters.length) = some a)
def mm_mk (y : MethodName) (cc : ByteArray) (nL : Nat) (a : Nat) : Prop := Cond.code y cc nL none ∈ mm_ok ∧ Cond.instanceMethod y ∈ mm_ok ∧ y.name = "<init>" ∧ Cond.initialized y.cls ∈ mm_ok ∧ (y.cls ≠ "java/lang/invoke/MethodHandle" ∧ y.cls ≠ "java/lang/invoke/VarHandle" ∧ (parseMethodDescriptor y.desc).map (fun d => d.parameters.length) = some a)
theorem mm_goodc {w : Cond} (h : w ∈ mm_ok) : w ∈ mm_ok ∧ ((w.onTables && w.keeps) = true ∨ ∃ ty, w = .arrayClass ty) := ⟨h, good_of_word (mm_ok_good _ h)⟩
theorem mm_goodV {own : String} {idx : Nat} {C : String} {y : MethodName} {ws : List Cond} (h1 : Cond.methodLink own idx y ∈ mm_ok) (h2 : Cond.instanceMethod y ∈ mm_ok) (h3 : Cond.selects C y y ∈ mm_ok) (h4 : Cond.initialized C ∈ mm_ok) (h5 : GoodIn mm_ok ws) : GoodIn mm_ok (wsV own idx C y ws) := by
  intro w hw
  unfold wsV at hw
  rcases List.mem_append.mp hw with hw | hw
  · simp only [List.mem_cons, List.not_mem_nil, or_false] at hw
    rcases hw with rfl | rfl | rfl | rfl
    · exact mm_goodc h1
    · exact mm_goodc h2
    · exact mm_goodc h3
    · exact mm_goodc h4
  · exact h5 w hw
theorem mm_goodS {own : String} {idx : Nat} {y : MethodName} {ws : List Cond} (h1 : Cond.methodLink own idx y ∈ mm_ok) (h2 : Cond.static y ∈ mm_ok) (h4 : Cond.initialized y.cls ∈ mm_ok) (h5 : GoodIn mm_ok ws) : GoodIn mm_ok (va_wsS own idx y ws) := by
  intro w hw
  unfold va_wsS at hw
  rcases List.mem_append.mp hw with hw | hw
  · simp only [List.mem_cons, List.not_mem_nil, or_false] at hw
    rcases hw with rfl | rfl | rfl
    · exact mm_goodc h1
    · exact mm_goodc h2
    · exact mm_goodc h4
  · exact h5 w hw
theorem mm_blind {g : mm_G} {av : List Value} {w : List mm_E} : FrameBlind (va_Pc av (fun U => mm_H g w U.heap ∧ mm_K g U)) := fun _ _ _ _ q => ⟨q.1, q.2.1, q.2.2.calling⟩
section MW
variable {g : mm_G} {own : String} {cc : ByteArray} {nL : Nat} {ret : Option FieldType} {ini : Bool} {rm : Room} {Q : Option Value → List mm_E → Prop} {k n : Nat} {w : List mm_E} {pc : Nat} {ls : List (Nat × Value)} {st : List Value}
theorem mm_go {p : Program} {l : Launch} {e : Env} {s : State} {m : MethodId} {args : Array Value} {below : List Frame} {meth : Method} {c : Code} {H : Heap} {locs : List Loc} {lsA : Array Slot} {mc1 ms1 : Nat} {st0 : List Value} {Q1 : Option Value → List mm_E → Prop} {aa : Array Value}
    (A : mm_at g own cc nL ret ini w ls p s m args meth c H locs lsA) (hr : va_Run p l e rm s m args below meth c H locs k n mc1 ms1 (F0 m pc lsA st0) (st.map (mm_v g)) (mm_Q g Q1 aa) g.2.2.2.2)
    (kk : ∀ (r : Option Value) (w1 : List mm_E), Q1 r w1 → mw g own cc nL ret ini rm Q (k + mc1) (n + ms1) w1 (pc + 3) ls (r.toList ++ st)) : W p l e rm s m args below meth c H locs k n (MQ below (mm_Q g Q) args s rm.cells rm.slots g.2.2.2.2) (F0 m pc lsA st0) := by
  intro T hT X
  obtain ⟨v, st₀, t, T', L, h0, X', hL, e1, e2, ⟨⟨r, w1, hv, hQ, hH⟩, hz, hk⟩, st2⟩ := hr T hT X
  have hv2 : v = r.map (mm_v g) := Outcome.returned.inj hv
  subst hv2
  rw [h0] at hz hk
  have hS := A.2.2.2.1
  obtain ⟨t2, a1, b1⟩ := kk r w1 hQ p l e s m args below meth c T'.heap (locs ++ L) lsA ⟨A.1, A.2.1, by rw [e1]; exact hH, ⟨Nat.le_trans hS.1 (by rw [e1]; exact hz), fun q h1 h2 => by rw [e1, hk q (Nat.lt_of_lt_of_le h1 hS.1) h2]; exact hS.2.1 q h1 h2, fun q hq => by
      rcases List.mem_append.mp hq with h | h
      · exact hS.2.2 q h
      · exact hL q h⟩, A.2.2.2.2⟩ T' rfl X'
  refine ⟨t2, st2 t2 ?_, b1⟩
  rw [List.map_append] at a1
  have e9 : List.map (mm_v g) r.toList = (Option.map (mm_v g) r).toList := by cases r <;> rfl
  rw [e9] at a1
  exact a1
theorem mm_pre {p : Program} {s : State} {m : MethodId} {args : Array Value} {meth : Method} {c : Code} {H : Heap} {locs : List Loc} {lsA : Array Slot} {as : List Value} (A : mm_at g own cc nL ret ini w ls p s m args meth c H locs lsA) :
    ∀ U : State, U.heap = H → s.WarmedH U.vm → va_Pc (as.map (mm_v g)) (fun U => mm_H g w U.heap ∧ mm_K g U) (as.map (mm_v g)).toArray U := fun U hU hW => ⟨rfl, by rw [hU]; exact A.2.2.1, A.2.1.moved hW (fun a h1 h2 => by rw [hU]; exact A.2.2.2.1.2.1 a h1 h2)⟩
theorem mm_st {as : List Value} {a : Nat} {st0 : List Value} (h : st0 = as.reverse ++ .ref a :: st) : st0.map (mm_v g) = (as.map (mm_v g)).reverse ++ mm_v g (.ref a) :: st.map (mm_v g) := by
  rw [h, List.map_append, List.map_reverse, List.map_cons]
theorem mm_stS {as : List Value} {st0 : List Value} (h : st0 = as.reverse ++ st) : st0.map (mm_v g) = (as.map (mm_v g)).reverse ++ st.map (mm_v g) := by
  rw [h, List.map_append, List.map_reverse]
/-- an instance method of a class of ours, at an object -/
theorem mw_callV {y : MethodName} {bytes : ByteArray} {nL1 a1 idx a ci : Nat} {ret1 : Option FieldType} {rm1 : Room} {as : List Value} {fs : List Value} {C : String} {T : u_T} {N : Nat} {Q1 : Option Value → List mm_E → Prop} {st0 : List Value} (d : decode cc pc = .ok (.invokevirtual idx, 3)) (hst : st0 = as.reverse ++ .ref a :: st) (hw : w[a]? = some (.inl (ci, fs))) (hc : vwCl[ci]? = some (C, T, N)) (hy : y.cls = C) (hl : Cond.methodLink own idx y ∈ mm_ok) (hm : mm_mi y bytes nL1 ret1 a1) (hn : as.length = a1) (h8 : (st.map fun v => v.category).sum ≤ 8) (hR : rm1.frames + 1 ≤ rm.frames ∧ 8 + (nL1 + 11) + rm1.locals ≤ rm.locals) (hf : k + rm1.cells ≤ rm.cells ∧ n + rm1.slots ≤ rm.slots)
    (hM : mc g y bytes nL1 ret1 rm1 (.ref a :: as) w Q1) (kk : ∀ (r : Option Value) (w1 : List mm_E), Q1 r w1 → mw g own cc nL ret ini rm Q (k + rm1.cells) (n + rm1.slots) w1 (pc + 3) ls (r.toList ++ st)) : mw g own cc nL ret ini rm Q k n w pc ls st0 := by
  intro p l e s m args below meth c H locs lsA A
  have ha := Nat.lt_of_lt_of_le (mm_lt hw) A.2.2.1.2.2
  subst hy
  rw [mm_st hst, mm_v_ref ha]
  have hM1 := hM l
  rw [List.map_cons, mm_v_ref ha] at hM1
  refine mm_go (st := st) A (va_runV (As := as.map (mm_v g)) (rest := st.map (mm_v g)) (b := g.2.2.1 + a) (C := y.cls) (bytes := bytes) (maxL := nL1) (ret := ret1) (own := own) (index := idx) ⟨A.1.1, A.1.2.1, A.1.2.2.1, A.1.2.2.2.1, A.1.2.2.2.2.1⟩ hM1 (cwV a1 A.1.2.2.2.2.1 (mm_goodV hl hm.2.1 hm.2.2.1 hm.2.2.2.1 (mm_good hm.1)) rfl rfl rfl ⟨rfl, hm.2.2.2.2⟩ hR) ⟨mm_blind, va_recv A.2.1.1 A.2.2.1.1 hc (mm_w_get hw), ?_⟩ rfl (by rw [List.length_map]; exact hn) A.2.2.2.2.1 rfl (lv_room (by rw [mm_cat_sum]; exact h8)) d hf) kk
  intro U hU hW
  have h := mm_pre (as := .ref a :: as) A U hU hW
  rw [List.map_cons, mm_v_ref ha] at h
  exact h
/-- ... a private one of a nest mate -/
theorem mw_callVN {y : MethodName} {bytes : ByteArray} {nL1 a1 idx a ci : Nat} {ret1 : Option FieldType} {rm1 : Room} {as : List Value} {fs : List Value} {C host : String} {T : u_T} {N : Nat} {Q1 : Option Value → List mm_E → Prop} {st0 : List Value} (d : decode cc pc = .ok (.invokevirtual idx, 3)) (hst : st0 = as.reverse ++ .ref a :: st) (hw : w[a]? = some (.inl (ci, fs))) (hc : vwCl[ci]? = some (C, T, N)) (hy : y.cls = C) (hl : Cond.methodLinkNest own idx y host ∈ mm_nest) (hm : mm_mi y bytes nL1 ret1 a1) (hn : as.length = a1) (h8 : (st.map fun v => v.category).sum ≤ 8) (hR : rm1.frames + 1 ≤ rm.frames ∧ 8 + (nL1 + 11) + rm1.locals ≤ rm.locals) (hf : k + rm1.cells ≤ rm.cells ∧ n + rm1.slots ≤ rm.slots)
    (hM : mc g y bytes nL1 ret1 rm1 (.ref a :: as) w Q1) (kk : ∀ (r : Option Value) (w1 : List mm_E), Q1 r w1 → mw g own cc nL ret ini rm Q (k + rm1.cells) (n + rm1.slots) w1 (pc + 3) ls (r.toList ++ st)) : mw g own cc nL ret ini rm Q k n w pc ls st0 := by
  intro p l e s m args below meth c H locs lsA A
  have ha := Nat.lt_of_lt_of_le (mm_lt hw) A.2.2.1.2.2
  subst hy
  rw [mm_st hst, mm_v_ref ha]
  have hM1 := hM l
  rw [List.map_cons, mm_v_ref ha] at hM1
  refine mm_go (st := st) A (va_runVN (As := as.map (mm_v g)) (rest := st.map (mm_v g)) (b := g.2.2.1 + a) (C := y.cls) (bytes := bytes) (maxL := nL1) (ret := ret1) (own := own) (index := idx) ⟨A.1.1, A.1.2.1, A.1.2.2.1, A.1.2.2.2.1, A.1.2.2.2.2.1⟩ hM1 ⟨va_cnB a1 A.1.2.2.2.2.1 (mm_good hm.1) rfl rfl rfl (A.2.1.2.1 _ hl) (A.1.2.2.2.2.1 _ hm.2.2.2.1) hm.2.2.2.2 hR, A.1.2.2.2.2.1 _ hm.2.1, A.1.2.2.2.2.1 _ hm.2.2.1⟩ ⟨mm_blind, va_recv A.2.1.1 A.2.2.1.1 hc (mm_w_get hw), ?_⟩ rfl (by rw [List.length_map]; exact hn) A.2.2.2.2.1 rfl (lv_room (by rw [mm_cat_sum]; exact h8)) d hf) kk
  intro U hU hW
  have h := mm_pre (as := .ref a :: as) A U hU hW
  rw [List.map_cons, mm_v_ref ha] at h
  exact h
theorem mw_callS {y : MethodName} {bytes : ByteArray} {nL1 a1 idx : Nat} {ret1 : Option FieldType} {rm1 : Room} {as : List Value} {Q1 : Option Value → List mm_E → Prop} {st0 : List Value} (d : decode cc pc = .ok (.invokestatic idx, 3)) (hst : st0 = as.reverse ++ st) (hl : Cond.methodLink own idx y ∈ mm_ok) (hm : mm_ms y bytes nL1 ret1 a1) (hn : as.length = a1) (h8 : (st.map fun v => v.category).sum ≤ 8) (hR : rm1.frames + 1 ≤ rm.frames ∧ 8 + (nL1 + 11) + rm1.locals ≤ rm.locals) (hf : k + rm1.cells ≤ rm.cells ∧ n + rm1.slots ≤ rm.slots)
    (hM : mc g y bytes nL1 ret1 rm1 as w Q1) (kk : ∀ (r : Option Value) (w1 : List mm_E), Q1 r w1 → mw g own cc nL ret ini rm Q (k + rm1.cells) (n + rm1.slots) w1 (pc + 3) ls (r.toList ++ st)) : mw g own cc nL ret ini rm Q k n w pc ls st0 := by
  intro p l e s m args below meth c H locs lsA A
  rw [mm_stS hst]
  exact mm_go (st := st) A (va_runS (As := as.map (mm_v g)) (rest := st.map (mm_v g)) (bytes := bytes) (maxL := nL1) (ret := ret1) (own := own) (index := idx) ⟨A.1.1, A.1.2.1, A.1.2.2.1, A.1.2.2.2.1, A.1.2.2.2.2.1⟩ (hM l) (va_cwS a1 A.1.2.2.2.2.1 (mm_goodS hl hm.2.1 hm.2.2.1 (mm_good hm.1)) rfl rfl rfl hm.2.2.2 hR) ⟨mm_blind, mm_pre A⟩ rfl (by rw [List.length_map]; exact hn) A.2.2.2.2.1 rfl (lv_room (by rw [mm_cat_sum]; exact h8)) d hf) kk
theorem mw_callSN {y : MethodName} {bytes : ByteArray} {nL1 a1 idx : Nat} {host : String} {ret1 : Option FieldType} {rm1 : Room} {as : List Value} {Q1 : Option Value → List mm_E → Prop} {st0 : List Value} (d : decode cc pc = .ok (.invokestatic idx, 3)) (hst : st0 = as.reverse ++ st) (hl : Cond.methodLinkNest own idx y host ∈ mm_nest) (hm : mm_ms y bytes nL1 ret1 a1) (hn : as.length = a1) (h8 : (st.map fun v => v.category).sum ≤ 8) (hR : rm1.frames + 1 ≤ rm.frames ∧ 8 + (nL1 + 11) + rm1.locals ≤ rm.locals) (hf : k + rm1.cells ≤ rm.cells ∧ n + rm1.slots ≤ rm.slots)
    (hM : mc g y bytes nL1 ret1 rm1 as w Q1) (kk : ∀ (r : Option Value) (w1 : List mm_E), Q1 r w1 → mw g own cc nL ret ini rm Q (k + rm1.cells) (n + rm1.slots) w1 (pc + 3) ls (r.toList ++ st)) : mw g own cc nL ret ini rm Q k n w pc ls st0 := by
  intro p l e s m args below meth c H locs lsA A
  rw [mm_stS hst]
  exact mm_go (st := st) A (va_runSN (As := as.map (mm_v g)) (rest := st.map (mm_v g)) (bytes := bytes) (maxL := nL1) (ret := ret1) (own := own) (index := idx) ⟨A.1.1, A.1.2.1, A.1.2.2.1, A.1.2.2.2.1, A.1.2.2.2.2.1⟩ (hM l) ⟨va_cnB a1 A.1.2.2.2.2.1 (mm_good hm.1) rfl rfl rfl (A.2.1.2.1 _ hl) (A.1.2.2.2.2.1 _ hm.2.2.1) hm.2.2.2 hR, A.1.2.2.2.2.1 _ hm.2.1, trivial⟩ ⟨mm_blind, mm_pre A⟩ rfl (by rw [List.length_map]; exact hn) A.2.2.2.2.1 rfl (lv_room (by rw [mm_cat_sum]; exact h8)) d hf) kk
end MW
/-! ===== worlds of a fixed shape: a state is three functions of address and place ===== -/
abbrev mm_S : Type := (Nat → Nat → Int32) × (Nat → Nat → Int64) × (Nat → Nat → Nat)
/-- an object: its class, its fields (.inl 0 an int, .inl 1 a long, .inl 2 a reference that changes, .inr a reference that doesn't); an array: tag, length, and its references if it holds such -/
abbrev mm_F : Type := (Nat × List (Nat ⊕ Nat)) ⊕ (Nat × Nat × Option (List Nat))
def mm_fv (S : mm_S) (a j : Nat) (q : Nat ⊕ Nat) : Value := match q with
  | .inl 0 => .int (S.1 a j)
  | .inl 1 => .long (S.2.1 a j)
  | .inl _ => .ref (S.2.2 a j)
  | .inr b => .ref b
def mm_ce (S : mm_S) (a : Nat) (c : mm_F) : mm_E := match c with
  | .inl o => .inl (o.1, o.2.mapIdx (fun j q => mm_fv S a j q))
  | .inr (t, n, none) => .inr (t, n, .inl (S.1 a))
  | .inr (t, n, some l) => .inr (t, n, .inr (fun i => l[i]?))
def mm_enc (sh : List mm_F) (S : mm_S) : List mm_E := sh.mapIdx (fun a c => mm_ce S a c)
def mm_up (S : mm_S) (a j : Nat) (v : Int32) : mm_S := (fun a1 j1 => if a1 = a ∧ j1 = j then v else S.1 a1 j1, S.2)
def mm_upL (S : mm_S) (a j : Nat) (v : Int64) : mm_S := (S.1, fun a1 j1 => if a1 = a ∧ j1 = j then v else S.2.1 a1 j1, S.2.2)
def mm_upR (S : mm_S) (a j : Nat) (v : Nat) : mm_S := (S.1, S.2.1, fun a1 j1 => if a1 = a ∧ j1 = j then v else S.2.2 a1 j1)
theorem mm_enc_get {sh : List mm_F} {S : mm_S} {a : Nat} {c : mm_F} (h : sh[a]? = some c) : (mm_enc sh S)[a]? = some (mm_ce S a c) := by
  unfold mm_enc
  rw [List.getElem?_mapIdx, h]
  rfl
theorem mm_enc_set {sh : List mm_F} {S S1 : mm_S} {a : Nat} {c : mm_F} {e : mm_E} (h : sh[a]? = some c) (he : e = mm_ce S1 a c) (hne : ∀ b q, b ≠ a → mm_ce S1 b q = mm_ce S b q) : (mm_enc sh S).set a e = mm_enc sh S1 := by
  apply List.ext_getElem?
  intro i
  unfold mm_enc
  rw [List.getElem?_set, List.length_mapIdx, List.getElem?_mapIdx, List.getElem?_mapIdx]
  by_cases hi : a = i
  · subst hi
    rw [if_pos rfl, if_pos (List.getElem?_eq_some_iff.mp h).1, h, he]
    rfl
  · rw [if_neg hi]
    cases sh[i]? with
    | none => rfl
    | some q =>
      exact congrArg some (hne i q (fun z => hi z.symm)).symm
theorem mm_fv_up {S : mm_S} {a j b i : Nat} {v : Int32} {q : Nat ⊕ Nat} (h : ¬ (b = a ∧ i = j)) : mm_fv (mm_up S a j v) b i q = mm_fv S b i q := by
  unfold mm_fv mm_up
  split <;> first | rfl | (simp only [h, if_false])
theorem mm_fv_upL {S : mm_S} {a j b i : Nat} {v : Int64} {q : Nat ⊕ Nat} (h : ¬ (b = a ∧ i = j)) : mm_fv (mm_upL S a j v) b i q = mm_fv S b i q := by
  unfold mm_fv mm_upL
  split <;> first | rfl | (simp only [h, if_false])
theorem mm_fv_upR {S : mm_S} {a j b i : Nat} {v : Nat} {q : Nat ⊕ Nat} (h : ¬ (b = a ∧ i = j)) : mm_fv (mm_upR S a j v) b i q = mm_fv S b i q := by
  unfold mm_fv mm_upR
  split <;> first | rfl | (simp only [h, if_false])
theorem mm_fields {S S1 : mm_S} {a j : Nat} {ks : List (Nat ⊕ Nat)} {q : Nat ⊕ Nat} (hk : ks[j]? = some q) (h : ∀ i r, i ≠ j → mm_fv S1 a i r = mm_fv S a i r) : (ks.mapIdx (fun j q => mm_fv S a j q)).set j (mm_fv S1 a j q) = ks.mapIdx (fun j q => mm_fv S1 a j q) := by
  apply List.ext_getElem?
  intro i
  rw [List.getElem?_set, List.length_mapIdx, List.getElem?_mapIdx, List.getElem?_mapIdx]
  by_cases hi : j = i
  · subst hi
    rw [if_pos rfl, if_pos (List.getElem?_eq_some_iff.mp hk).1, hk]
    rfl
  · rw [if_neg hi]
    cases ks[i]? with
    | none => rfl
    | some r =>
      exact congrArg some (h i r (fun z => hi z.symm)).symm
theorem mm_ce_up {S : mm_S} {a j b : Nat} {v : Int32} {q : mm_F} (h : b ≠ a) : mm_ce (mm_up S a j v) b q = mm_ce S b q := by
  unfold mm_ce
  split
  · congr 3
    funext i r
    exact mm_fv_up (fun z => h z.1)
  · congr 4
    funext i
    unfold mm_up
    simp [h]
  · rfl
theorem mm_ce_upL {S : mm_S} {a j b : Nat} {v : Int64} {q : mm_F} (h : b ≠ a) : mm_ce (mm_upL S a j v) b q = mm_ce S b q := by
  unfold mm_ce
  split
  · congr 3
    funext i r
    exact mm_fv_upL (fun z => h z.1)
  · rfl
  · rfl
theorem mm_ce_upR {S : mm_S} {a j b : Nat} {v : Nat} {q : mm_F} (h : b ≠ a) : mm_ce (mm_upR S a j v) b q = mm_ce S b q := by
  unfold mm_ce
  split
  · congr 3
    funext i r
    exact mm_fv_upR (fun z => h z.1)
  · rfl
  · rfl
theorem mm_enc_puti {sh : List mm_F} {S : mm_S} {a ci j : Nat} {ks : List (Nat ⊕ Nat)} {v : Int32} (h : sh[a]? = some (.inl (ci, ks))) (hk : ks[j]? = some (.inl 0)) : (mm_enc sh S).set a (.inl (ci, (ks.mapIdx (fun j q => mm_fv S a j q)).set j (.int v))) = mm_enc sh (mm_up S a j v) := by
  refine mm_enc_set h ?_ (fun b q hb => mm_ce_up hb)
  show Sum.inl (ci, _) = Sum.inl (ci, _)
  congr 2
  have e : (Value.int v) = mm_fv (mm_up S a j v) a j (.inl 0) := by simp [mm_fv, mm_up]
  rw [e]
  exact mm_fields hk (fun i r hi => mm_fv_up (fun z => hi z.2))
theorem mm_enc_putl {sh : List mm_F} {S : mm_S} {a ci j : Nat} {ks : List (Nat ⊕ Nat)} {v : Int64} (h : sh[a]? = some (.inl (ci, ks))) (hk : ks[j]? = some (.inl 1)) : (mm_enc sh S).set a (.inl (ci, (ks.mapIdx (fun j q => mm_fv S a j q)).set j (.long v))) = mm_enc sh (mm_upL S a j v) := by
  refine mm_enc_set h ?_ (fun b q hb => mm_ce_upL hb)
  show Sum.inl (ci, _) = Sum.inl (ci, _)
  congr 2
  have e : (Value.long v) = mm_fv (mm_upL S a j v) a j (.inl 1) := by simp [mm_fv, mm_upL]
  rw [e]
  exact mm_fields hk (fun i r hi => mm_fv_upL (fun z => hi z.2))
theorem mm_enc_putm {sh : List mm_F} {S : mm_S} {a ci j : Nat} {ks : List (Nat ⊕ Nat)} {v : Nat} (h : sh[a]? = some (.inl (ci, ks))) (hk : ks[j]? = some (.inl 2)) : (mm_enc sh S).set a (.inl (ci, (ks.mapIdx (fun j q => mm_fv S a j q)).set j (.ref v))) = mm_enc sh (mm_upR S a j v) := by
  refine mm_enc_set h ?_ (fun b q hb => mm_ce_upR hb)
  show Sum.inl (ci, _) = Sum.inl (ci, _)
  congr 2
  have e : (Value.ref v) = mm_fv (mm_upR S a j v) a j (.inl 2) := by simp [mm_fv, mm_upR]
  rw [e]
  exact mm_fields hk (fun i r hi => mm_fv_upR (fun z => hi z.2))
theorem mm_enc_ast {sh : List mm_F} {S : mm_S} {a t N j : Nat} {v : Int32} (h : sh[a]? = some (.inr (t, N, none))) : (mm_enc sh S).set a (.inr (t, N, .inl (upd (S.1 a) j v))) = mm_enc sh (mm_up S a j v) := by
  refine mm_enc_set h ?_ (fun b q hb => mm_ce_up hb)
  show Sum.inr (t, N, Sum.inl _) = Sum.inr (t, N, Sum.inl _)
  congr 4
  funext i
  unfold upd mm_up
  simp
section TW
variable {g : mm_G} {own : String} {cc : ByteArray} {nL : Nat} {ret : Option FieldType} {ini : Bool} {rm : Room} {Q : Option Value → List mm_E → Prop} {k n : Nat} {sh : List mm_F} {S : mm_S} {pc : Nat} {ls : List (Nat × Value)} {st : List Value}
theorem tm_fld {a j : Nat} {ks : List (Nat ⊕ Nat)} {q : Nat ⊕ Nat} (hk : ks[j]? = some q) : (ks.mapIdx (fun j q => mm_fv S a j q))[j]? = some (mm_fv S a j q) := by
  rw [List.getElem?_mapIdx, hk]
  rfl
theorem tw_geti {a ci j idx : Nat} {ks : List (Nat ⊕ Nat)} {C : String} {T : u_T} {N : Nat} (d : decode cc pc = .ok (.getfield idx, 3)) (hs : sh[a]? = some (.inl (ci, ks))) (hk : ks[j]? = some (.inl 0)) (hc : vwCl[ci]? = some (C, T, N)) (hj : j < N) (hl : Cond.fieldLink own idx (T j).1 (T j).2.1 (T j).2.2.1 ∈ mm_ok)
    (kk : ∀ v : Int32, v = S.1 a j → mw g own cc nL ret ini rm Q k n (mm_enc sh S) (pc + 3) ls (.int v :: st)) : mw g own cc nL ret ini rm Q k n (mm_enc sh S) pc ls (.ref a :: st) := mw_get d (mm_enc_get hs) hc hj hl (tm_fld hk) (kk _ rfl)
theorem tw_getl {a ci j idx : Nat} {ks : List (Nat ⊕ Nat)} {C : String} {T : u_T} {N : Nat} (d : decode cc pc = .ok (.getfield idx, 3)) (hs : sh[a]? = some (.inl (ci, ks))) (hk : ks[j]? = some (.inl 1)) (hc : vwCl[ci]? = some (C, T, N)) (hj : j < N) (hl : Cond.fieldLink own idx (T j).1 (T j).2.1 (T j).2.2.1 ∈ mm_ok)
    (kk : ∀ v : Int64, v = S.2.1 a j → mw g own cc nL ret ini rm Q k n (mm_enc sh S) (pc + 3) ls (.long v :: st)) : mw g own cc nL ret ini rm Q k n (mm_enc sh S) pc ls (.ref a :: st) := mw_get d (mm_enc_get hs) hc hj hl (tm_fld hk) (kk _ rfl)
theorem tw_getm {a ci j idx : Nat} {ks : List (Nat ⊕ Nat)} {C : String} {T : u_T} {N : Nat} (d : decode cc pc = .ok (.getfield idx, 3)) (hs : sh[a]? = some (.inl (ci, ks))) (hk : ks[j]? = some (.inl 2)) (hc : vwCl[ci]? = some (C, T, N)) (hj : j < N) (hl : Cond.fieldLink own idx (T j).1 (T j).2.1 (T j).2.2.1 ∈ mm_ok)
    (kk : ∀ b : Nat, b = S.2.2 a j → mw g own cc nL ret ini rm Q k n (mm_enc sh S) (pc + 3) ls (.ref b :: st)) : mw g own cc nL ret ini rm Q k n (mm_enc sh S) pc ls (.ref a :: st) := mw_get d (mm_enc_get hs) hc hj hl (tm_fld hk) (kk _ rfl)
theorem tw_getr {a ci j idx b : Nat} {ks : List (Nat ⊕ Nat)} {C : String} {T : u_T} {N : Nat} (d : decode cc pc = .ok (.getfield idx, 3)) (hs : sh[a]? = some (.inl (ci, ks))) (hk : ks[j]? = some (.inr b)) (hc : vwCl[ci]? = some (C, T, N)) (hj : j < N) (hl : Cond.fieldLink own idx (T j).1 (T j).2.1 (T j).2.2.1 ∈ mm_ok)
    (kk : mw g own cc nL ret ini rm Q k n (mm_enc sh S) (pc + 3) ls (.ref b :: st)) : mw g own cc nL ret ini rm Q k n (mm_enc sh S) pc ls (.ref a :: st) := mw_get d (mm_enc_get hs) hc hj hl (tm_fld hk) kk
theorem tm_len {a j : Nat} {ks : List (Nat ⊕ Nat)} {q : Nat ⊕ Nat} (hk : ks[j]? = some q) : j < (ks.mapIdx (fun j q => mm_fv S a j q)).length := by
  rw [List.length_mapIdx]
  exact (List.getElem?_eq_some_iff.mp hk).1
theorem tw_puti {a ci j idx : Nat} {ks : List (Nat ⊕ Nat)} {C : String} {T : u_T} {N : Nat} {v : Int32} (d : decode cc pc = .ok (.putfield idx, 3)) (hs : sh[a]? = some (.inl (ci, ks))) (hk : ks[j]? = some (.inl 0)) (hc : vwCl[ci]? = some (C, T, N)) (hj : j < N) (hl : Cond.fieldLink own idx (T j).1 (T j).2.1 (T j).2.2.1 ∈ mm_ok) (hf : (T j).2.2.2 = false) (hd : parseFieldDescriptor (T j).2.2.1 = some .int)
    (kk : mw g own cc nL ret ini rm Q k n (mm_enc sh (mm_up S a j v)) (pc + 3) ls st) : mw g own cc nL ret ini rm Q k n (mm_enc sh S) pc ls (.int v :: .ref a :: st) :=
  mw_put d (mm_enc_get hs) hc hj hl hf hd rfl rfl (tm_len hk) (by rw [mm_enc_puti hs hk]; exact kk)
theorem tw_putz {a ci j idx : Nat} {ks : List (Nat ⊕ Nat)} {C : String} {T : u_T} {N : Nat} {v : Int32} (d : decode cc pc = .ok (.putfield idx, 3)) (hs : sh[a]? = some (.inl (ci, ks))) (hk : ks[j]? = some (.inl 0)) (hc : vwCl[ci]? = some (C, T, N)) (hj : j < N) (hl : Cond.fieldLink own idx (T j).1 (T j).2.1 (T j).2.2.1 ∈ mm_ok) (hf : (T j).2.2.2 = false) (hd : parseFieldDescriptor (T j).2.2.1 = some .boolean) (hv : v = 0 ∨ v = 1)
    (kk : mw g own cc nL ret ini rm Q k n (mm_enc sh (mm_up S a j v)) (pc + 3) ls st) : mw g own cc nL ret ini rm Q k n (mm_enc sh S) pc ls (.int v :: .ref a :: st) :=
  mw_put d (mm_enc_get hs) hc hj hl hf hd (by rcases hv with rfl | rfl <;> rfl) (by rcases hv with rfl | rfl <;> rfl) (tm_len hk) (by rw [mm_enc_puti hs hk]; exact kk)
theorem tw_putl {a ci j idx : Nat} {ks : List (Nat ⊕ Nat)} {C : String} {T : u_T} {N : Nat} {v : Int64} (d : decode cc pc = .ok (.putfield idx, 3)) (hs : sh[a]? = some (.inl (ci, ks))) (hk : ks[j]? = some (.inl 1)) (hc : vwCl[ci]? = some (C, T, N)) (hj : j < N) (hl : Cond.fieldLink own idx (T j).1 (T j).2.1 (T j).2.2.1 ∈ mm_ok) (hf : (T j).2.2.2 = false) (hd : parseFieldDescriptor (T j).2.2.1 = some .long)
    (kk : mw g own cc nL ret ini rm Q k n (mm_enc sh (mm_upL S a j v)) (pc + 3) ls st) : mw g own cc nL ret ini rm Q k n (mm_enc sh S) pc ls (.long v :: .ref a :: st) :=
  mw_put d (mm_enc_get hs) hc hj hl hf hd rfl rfl (tm_len hk) (by rw [mm_enc_putl hs hk]; exact kk)
theorem tw_putm {a ci j idx : Nat} {ks : List (Nat ⊕ Nat)} {C D : String} {T : u_T} {N : Nat} {v : Nat} (d : decode cc pc = .ok (.putfield idx, 3)) (hs : sh[a]? = some (.inl (ci, ks))) (hk : ks[j]? = some (.inl 2)) (hc : vwCl[ci]? = some (C, T, N)) (hj : j < N) (hl : Cond.fieldLink own idx (T j).1 (T j).2.1 (T j).2.2.1 ∈ mm_ok) (hf : (T j).2.2.2 = false) (hd : parseFieldDescriptor (T j).2.2.1 = some (.object D))
    (kk : mw g own cc nL ret ini rm Q k n (mm_enc sh (mm_upR S a j v)) (pc + 3) ls st) : mw g own cc nL ret ini rm Q k n (mm_enc sh S) pc ls (.ref v :: .ref a :: st) :=
  mw_put d (mm_enc_get hs) hc hj hl hf hd rfl rfl (tm_len hk) (by rw [mm_enc_putm hs hk]; exact kk)
theorem tw_iald {a N : Nat} {i : Int32} (d : decode cc pc = .ok (.iaload, 1)) (hs : sh[a]? = some (.inr (0, N, none))) (hin : vp_in i N)
    (kk : ∀ v : Int32, v = S.1 a i.toNatClampNeg → mw g own cc nL ret ini rm Q k n (mm_enc sh S) (pc + 1) ls (.int v :: st)) : mw g own cc nL ret ini rm Q k n (mm_enc sh S) pc ls (.int i :: .ref a :: st) := mw_iald d (mm_enc_get hs) hin (kk _ rfl)
theorem tw_zald {a N : Nat} {i : Int32} (d : decode cc pc = .ok (.baload, 1)) (hs : sh[a]? = some (.inr (1, N, none))) (hin : vp_in i N)
    (kk : ∀ v : Int32, v = S.1 a i.toNatClampNeg → mw g own cc nL ret ini rm Q k n (mm_enc sh S) (pc + 1) ls (.int v :: st)) : mw g own cc nL ret ini rm Q k n (mm_enc sh S) pc ls (.int i :: .ref a :: st) := mw_zald d (mm_enc_get hs) hin (kk _ rfl)
theorem tw_iast {a N : Nat} {i x : Int32} (d : decode cc pc = .ok (.iastore, 1)) (hs : sh[a]? = some (.inr (0, N, none))) (hin : vp_in i N)
    (kk : mw g own cc nL ret ini rm Q k n (mm_enc sh (mm_up S a i.toNatClampNeg x)) (pc + 1) ls st) : mw g own cc nL ret ini rm Q k n (mm_enc sh S) pc ls (.int x :: .int i :: .ref a :: st) := mw_iast d (mm_enc_get hs) hin (by rw [mm_enc_ast hs]; exact kk)
theorem tw_zast {a N : Nat} {i x : Int32} (d : decode cc pc = .ok (.bastore, 1)) (hs : sh[a]? = some (.inr (1, N, none))) (hin : vp_in i N) (hx : x = 0 ∨ x = 1)
    (kk : mw g own cc nL ret ini rm Q k n (mm_enc sh (mm_up S a i.toNatClampNeg x)) (pc + 1) ls st) : mw g own cc nL ret ini rm Q k n (mm_enc sh S) pc ls (.int x :: .int i :: .ref a :: st) :=
  mw_zast d (mm_enc_get hs) hin (by rw [show vp_nar .boolean x = x by rcases hx with rfl | rfl <;> rfl, mm_enc_ast hs]; exact kk)
theorem tw_aald {a t N b : Nat} {l : List Nat} {i : Int32} {ty : FieldType} (d : decode cc pc = .ok (.aaload, 1)) (hs : sh[a]? = some (.inr (t, N, some l))) (ht : (mm_tys g)[t]? = some (g.2.2.2.1 t, ty)) (hty : ty.isReference = true) (hin : vp_in i N) (hb : l[i.toNatClampNeg]? = some b) (hb9 : b < 999)
    (kk : mw g own cc nL ret ini rm Q k n (mm_enc sh S) (pc + 1) ls (.ref b :: st)) : mw g own cc nL ret ini rm Q k n (mm_enc sh S) pc ls (.int i :: .ref a :: st) := mw_aald d (mm_enc_get hs) ht hty hin hb hb9 kk
theorem tw_aleni {a t N : Nat} {v : Int32} {ty : FieldType} (d : decode cc pc = .ok (.arraylength, 1)) (hs : sh[a]? = some (.inr (t, N, none))) (ht : (mm_tys g)[t]? = some (g.2.2.2.1 t, ty)) (hv : Int32.ofNat N = v)
    (kk : mw g own cc nL ret ini rm Q k n (mm_enc sh S) (pc + 1) ls (.int v :: st)) : mw g own cc nL ret ini rm Q k n (mm_enc sh S) pc ls (.ref a :: st) := mw_alen d (mm_enc_get hs) ht hv kk
theorem tw_alenr {a t N : Nat} {l : List Nat} {v : Int32} {ty : FieldType} (d : decode cc pc = .ok (.arraylength, 1)) (hs : sh[a]? = some (.inr (t, N, some l))) (ht : (mm_tys g)[t]? = some (g.2.2.2.1 t, ty)) (hv : Int32.ofNat N = v)
    (kk : mw g own cc nL ret ini rm Q k n (mm_enc sh S) (pc + 1) ls (.int v :: st)) : mw g own cc nL ret ini rm Q k n (mm_enc sh S) pc ls (.ref a :: st) := mw_alen d (mm_enc_get hs) ht hv kk
end TW
/-! ===== bounds of ints; tables of bounds ===== -/
abbrev mm_b (lo hi : Int) (x : Int32) : Prop := lo ≤ x.toInt ∧ x.toInt ≤ hi
theorem bd_rng (x : Int32) : -2147483648 ≤ x.toInt ∧ x.toInt ≤ 2147483647 := by
  have h1 := Int32.le_toInt x
  have h2 := Int32.toInt_lt x
  omega
theorem bd_all (x : Int32) : mm_b (-2147483648) 2147483647 x := bd_rng x
theorem bd_w {lo hi a b : Int} {x : Int32} (h : mm_b a b x) (h2 : lo ≤ a ∧ b ≤ hi) : mm_b lo hi x := ⟨Int.le_trans h2.1 h.1, Int.le_trans h.2 h2.2⟩
theorem bd_bmod {z : Int} (h1 : -2147483648 ≤ z) (h2 : z ≤ 2147483647) : z.bmod (2 ^ 32) = z := by
  rw [Int.bmod_eq_of_le (by omega) (by omega)]
theorem bd_ti_add {x y : Int32} (h1 : -2147483648 ≤ x.toInt + y.toInt) (h2 : x.toInt + y.toInt ≤ 2147483647) : (x + y).toInt = x.toInt + y.toInt := by
  rw [Int32.toInt_add, bd_bmod h1 h2]
theorem bd_ti_sub {x y : Int32} (h1 : -2147483648 ≤ x.toInt - y.toInt) (h2 : x.toInt - y.toInt ≤ 2147483647) : (x - y).toInt = x.toInt - y.toInt := by
  rw [Int32.toInt_sub, bd_bmod h1 h2]
theorem bd_ti_mul {x y : Int32} (h1 : -2147483648 ≤ x.toInt * y.toInt) (h2 : x.toInt * y.toInt ≤ 2147483647) : (x * y).toInt = x.toInt * y.toInt := by
  rw [Int32.toInt_mul, bd_bmod h1 h2]
theorem bd_add {lo hi a b c d : Int} {x y z : Int32} (e : z = x + y) (hx : mm_b a b x) (hy : mm_b c d y) (h : (-2147483648 ≤ a + c ∧ b + d ≤ 2147483647) ∧ lo ≤ a + c ∧ b + d ≤ hi) : mm_b lo hi z := by
  obtain ⟨h1, h2⟩ := hx
  obtain ⟨h3, h4⟩ := hy
  obtain ⟨⟨h5, h6⟩, h7, h8⟩ := h
  rw [e, mm_b, bd_ti_add (by omega) (by omega)]
  omega
theorem bd_sub {lo hi a b c d : Int} {x y z : Int32} (e : z = x - y) (hx : mm_b a b x) (hy : mm_b c d y) (h : (-2147483648 ≤ a - d ∧ b - c ≤ 2147483647) ∧ lo ≤ a - d ∧ b - c ≤ hi) : mm_b lo hi z := by
  obtain ⟨h1, h2⟩ := hx
  obtain ⟨h3, h4⟩ := hy
  obtain ⟨⟨h5, h6⟩, h7, h8⟩ := h
  rw [e, mm_b, bd_ti_sub (by omega) (by omega)]
  omega
theorem bd_mul {lo hi a b c d : Int} {x y z : Int32} (e : z = x * y) (hx : mm_b a b x) (hy : mm_b c d y) (h : (0 ≤ a ∧ 0 ≤ c ∧ b * d ≤ 2147483647) ∧ lo ≤ a * c ∧ b * d ≤ hi) : mm_b lo hi z := by
  obtain ⟨h1, h2⟩ := hx
  obtain ⟨h3, h4⟩ := hy
  obtain ⟨⟨h5, h5c, h6⟩, h7, h8⟩ := h
  have g1 : a * c ≤ x.toInt * y.toInt := Int.mul_le_mul h1 h3 h5c (Int.le_trans h5 h1)
  have g2 : x.toInt * y.toInt ≤ b * d := Int.mul_le_mul h2 h4 (Int.le_trans h5c h3) (Int.le_trans h5 (Int.le_trans h1 h2))
  have g3 : 0 ≤ a * c := Int.mul_nonneg h5 h5c
  rw [e, mm_b, bd_ti_mul (by omega) (by omega)]
  omega
theorem bd_neg {lo hi a b : Int} {x z : Int32} (e : z = -x) (hx : mm_b a b x) (h : (-2147483647 ≤ a) ∧ lo ≤ -b ∧ -a ≤ hi) : mm_b lo hi z := by
  obtain ⟨h1, h2⟩ := hx
  have := bd_rng x
  rw [e, mm_b, Int32.toInt_neg, bd_bmod (by omega) (by omega)]
  omega
theorem bd_tn (x : Int32) : x.toInt = if 2 * x.toBitVec.toNat < 4294967296 then (x.toBitVec.toNat : Int) else (x.toBitVec.toNat : Int) - 4294967296 := BitVec.toInt_eq_toNat_cond _
theorem bd_pos {x : Int32} (h : 0 ≤ x.toInt) : x.toInt = (x.toBitVec.toNat : Int) ∧ x.toBitVec.toNat < 2147483648 := by
  have h1 := bd_tn x
  have h2 := x.toBitVec.isLt
  split at h1 <;> omega
theorem bd_small {x : Int32} (h : x.toBitVec.toNat < 2147483648) : x.toInt = (x.toBitVec.toNat : Int) := by
  have h1 := bd_tn x
  split at h1 <;> omega
theorem bd_and {lo hi a b : Int} {x y z : Int32} (e : z = x &&& y) (hx : mm_b a b x) (h : 0 ≤ a ∧ lo ≤ 0 ∧ b ≤ hi) : mm_b lo hi z := by
  obtain ⟨h1, h2⟩ := hx
  obtain ⟨g1, g2⟩ := bd_pos (x := x) (by omega)
  have g3 : (x &&& y).toBitVec.toNat ≤ x.toBitVec.toNat := by
    rw [Int32.toBitVec_and, BitVec.toNat_and]
    exact Nat.and_le_left
  rw [e, mm_b, bd_small (by omega)]
  omega
theorem bd_andR {lo hi a b : Int} {x y z : Int32} (e : z = x &&& y) (hy : mm_b a b y) (h : 0 ≤ a ∧ lo ≤ 0 ∧ b ≤ hi) : mm_b lo hi z := by
  obtain ⟨h1, h2⟩ := hy
  obtain ⟨g1, g2⟩ := bd_pos (x := y) (by omega)
  have g3 : (x &&& y).toBitVec.toNat ≤ y.toBitVec.toNat := by
    rw [Int32.toBitVec_and, BitVec.toNat_and]
    exact Nat.and_le_right
  rw [e, mm_b, bd_small (by omega)]
  omega
theorem bd_or {lo hi a b c d : Int} {x y z : Int32} (k : Nat) (e : z = x ||| y) (hx : mm_b a b x) (hy : mm_b c d y) (h : (0 ≤ a ∧ 0 ≤ c ∧ b < 2 ^ k ∧ d < 2 ^ k ∧ k ≤ 31) ∧ lo ≤ 0 ∧ 2 ^ k - 1 ≤ hi) : mm_b lo hi z := by
  obtain ⟨h1, h2⟩ := hx
  obtain ⟨h3, h4⟩ := hy
  obtain ⟨⟨h5, h6, h7, h8, h9⟩, h10, h11⟩ := h
  obtain ⟨g1, g2⟩ := bd_pos (x := x) (by omega)
  obtain ⟨f1, f2⟩ := bd_pos (x := y) (by omega)
  have e9 : ((2 ^ k : Nat) : Int) = 2 ^ k := by norm_cast
  have g3 : (x ||| y).toBitVec.toNat < 2 ^ k := by
    rw [Int32.toBitVec_or, BitVec.toNat_or]
    exact Nat.or_lt_two_pow (by omega) (by omega)
  have g4 : 2 ^ k ≤ 2 ^ 31 := Nat.pow_le_pow_right (by decide) h9
  rw [e, mm_b, bd_small (by omega)]
  omega
theorem bd_sh1 : ∀ j : Fin 31, ((1 : Int32) <<< (nI j.val &&& 31)).toInt = 2 ^ j.val := by decide +kernel
theorem bd_nI {x : Int32} (h : 0 ≤ x.toInt) : ∃ j : Nat, x = nI j ∧ (j : Int) = x.toInt := by
  obtain ⟨g1, g2⟩ := bd_pos h
  refine ⟨x.toBitVec.toNat, ?_, g1.symm⟩
  apply Int32.toInt_inj.mp
  rw [nI_toInt (by omega)]
  exact g1
theorem bd_shl {lo hi c d : Int} {y z : Int32} (k : Nat) (e : z = 1 <<< (y &&& 31)) (hy : mm_b c d y) (h : (0 ≤ c ∧ d ≤ k ∧ k ≤ 30) ∧ lo ≤ 1 ∧ 2 ^ k ≤ hi) : mm_b lo hi z := by
  obtain ⟨h3, h4⟩ := hy
  obtain ⟨⟨h5, h6, h7⟩, h8, h9⟩ := h
  obtain ⟨j, rfl, hj⟩ := bd_nI (x := y) (by omega)
  have hj2 : j ≤ k := by omega
  have := bd_sh1 ⟨j, by omega⟩
  have e9 : ((2 ^ k : Nat) : Int) = 2 ^ k := by norm_cast
  have e8 : ((2 ^ j : Nat) : Int) = 2 ^ j := by norm_cast
  have g4 : 2 ^ j ≤ 2 ^ k := Nat.pow_le_pow_right (by decide) hj2
  have g5 : 1 ≤ 2 ^ j := Nat.one_le_two_pow
  rw [e, mm_b, this]
  dsimp only
  omega
theorem bd_shr {lo hi a b : Int} {x y z : Int32} (e : z = x >>> (y &&& 31)) (hx : mm_b a b x) (h : 0 ≤ a ∧ lo ≤ 0 ∧ b ≤ hi) : mm_b lo hi z := by
  obtain ⟨h1, h2⟩ := hx
  have g := pk_shr x (y &&& 31) _ rfl
  rw [Int.shiftRight_eq_div_pow] at g
  have g1 : 0 ≤ x.toInt / ((2 ^ ((y &&& 31).toBitVec.smod 32).toNat : Nat) : Int) := Int.ediv_nonneg (by omega) (Int.natCast_nonneg _)
  have g2 : x.toInt / ((2 ^ ((y &&& 31).toBitVec.smod 32).toNat : Nat) : Int) ≤ x.toInt := Int.ediv_le_self _ (by omega)
  rw [e, mm_b, g]
  omega
theorem bd_div {lo hi a b c d : Int} {x y z : Int32} (e : z = x / y) (hx : mm_b a b x) (hy : mm_b c d y) (h : (0 ≤ a ∧ 1 ≤ c) ∧ lo ≤ a / d ∧ b / c ≤ hi) : mm_b lo hi z := by
  obtain ⟨h1, h2⟩ := hx
  obtain ⟨h3, h4⟩ := hy
  obtain ⟨⟨h5, h6⟩, h7, h8⟩ := h
  have r := bd_rng x
  have g1 : 0 ≤ x.toInt / y.toInt := Int.ediv_nonneg (by omega) (by omega)
  have g2 : x.toInt / y.toInt ≤ x.toInt := Int.ediv_le_self _ (by omega)
  have g3 : x.toInt / y.toInt ≤ b / c := by
    refine Int.le_trans (Int.ediv_le_ediv (by omega) h2) ?_
    rw [Int.le_ediv_iff_mul_le (by omega)]
    refine Int.le_trans (Int.mul_le_mul_of_nonneg_left h3 (Int.ediv_nonneg (by omega) (by omega))) ?_
    exact Int.ediv_mul_le _ (by omega)
  have g4 : a / d ≤ x.toInt / y.toInt := by
    refine Int.le_trans (Int.ediv_le_ediv (by omega) h1) ?_
    rw [Int.le_ediv_iff_mul_le (by omega)]
    refine Int.le_trans (Int.mul_le_mul_of_nonneg_left h4 (Int.ediv_nonneg (by omega) (by omega))) ?_
    exact Int.ediv_mul_le _ (by omega)
  rw [e, mm_b, Int32.toInt_div, Int.tdiv_eq_ediv_of_nonneg (by omega), bd_bmod (by omega) (by omega)]
  omega
theorem bd_rem {lo hi a b c d : Int} {x y z : Int32} (e : z = x - x / y * y) (hx : mm_b a b x) (hy : mm_b c d y) (h : (0 ≤ a ∧ 1 ≤ c) ∧ lo ≤ 0 ∧ d - 1 ≤ hi) : mm_b lo hi z := by
  obtain ⟨h1, h2⟩ := hx
  obtain ⟨h3, h4⟩ := hy
  obtain ⟨⟨h5, h6⟩, h7, h8⟩ := h
  have g1 := Int.emod_nonneg x.toInt (show y.toInt ≠ 0 by omega)
  have g2 := Int.emod_lt_of_pos x.toInt (show 0 < y.toInt by omega)
  rw [e, mm_b, rem_toInt, Int.tmod_eq_emod_of_nonneg (by omega)]
  omega
theorem bd_ne0 {c d : Int} {y : Int32} (hy : mm_b c d y) (h : 1 ≤ c) : ¬ y = 0 := by
  intro e
  have : y.toInt = 0 := by rw [e]; rfl
  omega
/-! comparisons -/
theorem bd_lt_l {lo hi a b c d : Int} {x y : Int32} (q : x < y) (hx : mm_b a b x) (hy : mm_b c d y) (h : lo ≤ a ∧ (b ≤ hi ∨ d - 1 ≤ hi)) : mm_b lo hi x := by
  have := Int32.lt_iff_toInt_lt.mp q
  omega
theorem bd_lt_r {lo hi a b c d : Int} {x y : Int32} (q : x < y) (hx : mm_b a b x) (hy : mm_b c d y) (h : (lo ≤ c ∨ lo ≤ a + 1) ∧ d ≤ hi) : mm_b lo hi y := by
  have := Int32.lt_iff_toInt_lt.mp q
  omega
theorem bd_le_l {lo hi a b c d : Int} {x y : Int32} (q : x ≤ y) (hx : mm_b a b x) (hy : mm_b c d y) (h : lo ≤ a ∧ (b ≤ hi ∨ d ≤ hi)) : mm_b lo hi x := by
  have := Int32.le_iff_toInt_le.mp q
  omega
theorem bd_le_r {lo hi a b c d : Int} {x y : Int32} (q : x ≤ y) (hx : mm_b a b x) (hy : mm_b c d y) (h : (lo ≤ c ∨ lo ≤ a) ∧ d ≤ hi) : mm_b lo hi y := by
  have := Int32.le_iff_toInt_le.mp q
  omega
theorem bd_nlt {x y : Int32} (q : ¬ x < y) : y ≤ x := by
  rw [Int32.lt_iff_toInt_lt] at q
  rw [Int32.le_iff_toInt_le]
  omega
theorem bd_nle {x y : Int32} (q : ¬ x ≤ y) : y < x := by
  rw [Int32.le_iff_toInt_le] at q
  rw [Int32.lt_iff_toInt_lt]
  omega
theorem bd_eq_l {lo hi a b c d : Int} {x y : Int32} (q : x = y) (hx : mm_b a b x) (hy : mm_b c d y) (h : (lo ≤ a ∨ lo ≤ c) ∧ (b ≤ hi ∨ d ≤ hi)) : mm_b lo hi x := by
  subst q
  omega
theorem bd_ne_l {lo hi a b c : Int} {x y : Int32} (q : ¬ x = y) (hx : mm_b a b x) (hy : mm_b c c y) (h : (lo ≤ a ∨ (a = c ∧ lo ≤ a + 1)) ∧ (b ≤ hi ∨ (b = c ∧ b - 1 ≤ hi))) : mm_b lo hi x := by
  have : x.toInt ≠ y.toInt := fun e => q (Int32.toInt_inj.mp e)
  omega
/-! false branches -/
theorem bd_flt {a b c d : Int} {x y : Int32} {P : Prop} (q : x < y) (hx : mm_b a b x) (hy : mm_b c d y) (h : d ≤ a) : P := by
  have := Int32.lt_iff_toInt_lt.mp q
  omega
theorem bd_fle {a b c d : Int} {x y : Int32} {P : Prop} (q : x ≤ y) (hx : mm_b a b x) (hy : mm_b c d y) (h : d < a) : P := by
  have := Int32.le_iff_toInt_le.mp q
  omega
theorem bd_feq {a b c d : Int} {x y : Int32} {P : Prop} (q : x = y) (hx : mm_b a b x) (hy : mm_b c d y) (h : d < a ∨ b < c) : P := by
  subst q
  omega
theorem bd_fne {a : Int} {x y : Int32} {P : Prop} (q : ¬ x = y) (hx : mm_b a a x) (hy : mm_b a a y) : P := absurd (Int32.toInt_inj.mp (by omega)) q
theorem bd_in {lo hi : Int} {i : Int32} {N : Nat} (h : mm_b lo hi i) (h2 : 0 ≤ lo ∧ hi < N) : vp_in i N := vp_in_iff.mpr ⟨by omega, by omega⟩
theorem bd_cl {lo hi : Int} {i : Int32} (h : mm_b lo hi i) (h2 : 0 ≤ lo) : (i.toNatClampNeg : Int) = i.toInt := by
  show ((i.toInt.toNat : Nat) : Int) = i.toInt
  omega
/-! tables: address, from, to, least, most -/
abbrev mm_T : Type := List (Nat × Nat × Nat × Int × Int)
def mm_I (tb : mm_T) (S : mm_S) : Prop := ∀ q ∈ tb, ∀ j, q.2.1 ≤ j → j ≤ q.2.2.1 → mm_b q.2.2.2.1 q.2.2.2.2 (S.1 q.1 j)
theorem mm_I.fld {tb : mm_T} {S : mm_S} (h : mm_I tb S) {a j l u : Nat} {lo hi : Int} {v : Int32} (e : v = S.1 a j) (hq : (a, l, u, lo, hi) ∈ tb) (hj : l ≤ j ∧ j ≤ u) : mm_b lo hi v := by
  rw [e]
  exact h _ hq j hj.1 hj.2
theorem mm_I.elt {tb : mm_T} {S : mm_S} (h : mm_I tb S) {a l u : Nat} {lo hi c d : Int} {v i : Int32} (e : v = S.1 a i.toNatClampNeg) (hi1 : mm_b c d i) (hq : (a, l, u, lo, hi) ∈ tb) (hj : (l : Int) ≤ c ∧ d ≤ u) : mm_b lo hi v := by
  rw [e]
  have := bd_cl hi1 (by omega)
  exact h _ hq _ (by dsimp only; omega) (by dsimp only; omega)
/-- may a value between lo and hi be written at the places from il to ih of the address a? -/
def mm_ck (tb : mm_T) (a : Nat) (il ih lo hi : Int) : Bool := tb.all (fun q => q.1 != a || (decide (ih < q.2.1) || (decide ((q.2.2.1 : Int) < il) || (decide (q.2.2.2.1 ≤ lo) && decide (hi ≤ q.2.2.2.2)))))
theorem mm_I.put {tb : mm_T} {S : mm_S} (h : mm_I tb S) {a j : Nat} {il ih lo hi : Int} {v : Int32} (hv : mm_b lo hi v) (hj : il ≤ j ∧ j ≤ ih) (hc : mm_ck tb a il ih lo hi = true) : mm_I tb (mm_up S a j v) := by
  intro q hq i h1 h2
  have h3 := List.all_eq_true.mp hc q hq
  simp only [Bool.or_eq_true, Bool.and_eq_true, decide_eq_true_eq, bne_iff_ne] at h3
  show mm_b _ _ (if q.1 = a ∧ i = j then v else S.1 q.1 i)
  split
  · rename_i h4
    rcases h3 with h3 | h3 | h3 | h3
    · exact absurd h4.1 h3
    · omega
    · omega
    · exact ⟨Int.le_trans h3.1 hv.1, Int.le_trans hv.2 h3.2⟩
  · exact h q hq i h1 h2
theorem mm_I.puta {tb : mm_T} {S : mm_S} (h : mm_I tb S) {a : Nat} {il ih lo hi : Int} {v i : Int32} (hv : mm_b lo hi v) (hi1 : mm_b il ih i) (h0 : 0 ≤ il) (hc : mm_ck tb a il ih lo hi = true) : mm_I tb (mm_up S a i.toNatClampNeg v) := by
  have := bd_cl hi1 h0
  exact h.put hv (by omega) hc
theorem mm_I.putL {tb : mm_T} {S : mm_S} (h : mm_I tb S) {a j : Nat} {v : Int64} : mm_I tb (mm_upL S a j v) := h
theorem mm_I.putR {tb : mm_T} {S : mm_S} (h : mm_I tb S) {a j : Nat} {v : Nat} : mm_I tb (mm_upR S a j v) := h
/-! ===== what the printed walks lean on ===== -/
def mm_rm (d : Nat) : Room := { frames := d, cells := 0, slots := 0, locals := 33 * d }
abbrev qi (sh : List mm_F) (P : mm_S → Int32 → Prop) : Option Value → List mm_E → Prop := fun r w => ∃ (S1 : mm_S) (v : Int32), r = some (.int v) ∧ w = mm_enc sh S1 ∧ P S1 v
abbrev qv (sh : List mm_F) (P : mm_S → Prop) : Option Value → List mm_E → Prop := fun r w => ∃ S1 : mm_S, r = none ∧ w = mm_enc sh S1 ∧ P S1
theorem mc_of2 {g : mm_G} {y : MethodName} {cc : ByteArray} {nL : Nat} {ret : Option FieldType} {rm : Room} {as : List Value} {w : List mm_E} {Q : Option Value → List mm_E → Prop} {own : String} {ini : Bool} {ls : List (Nat × Value)} (hy : plainName y.cls = true) (hn : (lg_sl as).length ≤ nL) (ho : y.cls = own) (hi : ini = true → y.name = "<init>") (hl : lv_args 0 as = ls)
    (h : mw g own cc nL ret ini rm Q 0 0 w 0 ls []) : mc g y cc nL ret rm as w Q := by
  subst ho
  subst hl
  intro l
  refine Met.ofW (cc := cc) (maxL := nL) (ret := ret) hy rfl ?_
  intro p e s m args below meth c s₁ B hml hv
  obtain ⟨rfl, hH, hK⟩ := hv
  have hl := lv_entry (as.map (mm_v g)) (n := nL) (by rw [mm_sl]; exact hn)
  rw [lg_entry_eq]
  refine h p l e s m _ below meth c s.heap [] _ ⟨⟨B.exec, B.bytes, hml, findClass_of_methodNamed B.named, fun w hw => atoms_spec (ws := mm_ws y cc nL ret) B.pre w (List.mem_cons_of_mem _ hw), B.returns, B.notSynchronized, fun q => ?_⟩, hK, hH, va_S.rf, ?_⟩
  · rw [(name_of_methodNamed B.named B.method).1]
    exact hi q
  · rw [← mm_largs]
    exact hl
section TC
variable {g : mm_G} {own : String} {cc : ByteArray} {nL : Nat} {ret : Option FieldType} {ini : Bool} {rm : Room} {Q : Option Value → List mm_E → Prop} {k n : Nat} {sh : List mm_F} {S : mm_S} {pc : Nat} {ls : List (Nat × Value)} {st : List Value} {w : List mm_E}
theorem mw_ls (is : List Nat) {ls' : List (Nat × Value)} (h : is.filterMap (fun i => ls[i]?) = ls') (kk : mw g own cc nL ret ini rm Q k n w pc ls' st) : mw g own cc nL ret ini rm Q k n w pc ls st := by
  intro p l e s m args below meth c H locs lsA a
  refine kk p l e s m args below meth c H locs lsA ⟨a.1, a.2.1, a.2.2.1, a.2.2.2.1, a.2.2.2.2.1, a.2.2.2.2.2.1, fun q hq => ?_⟩
  obtain ⟨r, hr, rfl⟩ := List.mem_map.mp hq
  rw [← h] at hr
  obtain ⟨i, -, hi⟩ := List.mem_filterMap.mp hr
  exact a.2.2.2.2.2.2 _ (List.mem_map.mpr ⟨r, List.mem_of_getElem? hi, rfl⟩)
theorem mw_nm {x : Int32} (kk : ∀ v : Int32, v = x → mw g own cc nL ret ini rm Q k n w pc ls (.int v :: st)) : mw g own cc nL ret ini rm Q k n w pc ls (.int x :: st) := kk x rfl
variable {y : MethodName} {bytes : ByteArray} {nL1 a1 idx a ci d1 d2 : Nat} {ret1 : Option FieldType} {as : List Value} {ks : List (Nat ⊕ Nat)} {C host : String} {T : u_T} {N : Nat} {st0 : List Value}
theorem mm_room (hd : d1 + 1 ≤ d2) (hL : nL1 ≤ 14) : (mm_rm d1).frames + 1 ≤ (mm_rm d2).frames ∧ 8 + (nL1 + 11) + (mm_rm d1).locals ≤ (mm_rm d2).locals := by
  unfold mm_rm
  dsimp only
  omega
theorem tc_Vi {P : mm_S → Int32 → Prop} (d : decode cc pc = .ok (.invokevirtual idx, 3)) (hst : st0 = as.reverse ++ .ref a :: st) (hs : sh[a]? = some (.inl (ci, ks))) (hc : vwCl[ci]? = some (C, T, N)) (hy : y.cls = C) (hl : Cond.methodLink own idx y ∈ mm_ok) (hm : mm_mi y bytes nL1 ret1 a1) (hn : as.length = a1) (h8 : (st.map fun v => v.category).sum ≤ 8) (hd : d1 + 1 ≤ d2) (hL : nL1 ≤ 14)
    (hM : mc g y bytes nL1 ret1 (mm_rm d1) (.ref a :: as) (mm_enc sh S) (qi sh P)) (kk : ∀ (S1 : mm_S) (v : Int32), P S1 v → mw g own cc nL ret ini (mm_rm d2) Q 0 0 (mm_enc sh S1) (pc + 3) ls (.int v :: st)) : mw g own cc nL ret ini (mm_rm d2) Q 0 0 (mm_enc sh S) pc ls st0 :=
  mw_callV d hst (mm_enc_get hs) hc hy hl hm hn h8 (mm_room hd hL) ⟨Nat.le_refl 0, Nat.le_refl 0⟩ hM (fun r w1 hq => by obtain ⟨S1, v, rfl, rfl, hp⟩ := hq; exact kk S1 v hp)
theorem tc_Vv {P : mm_S → Prop} (d : decode cc pc = .ok (.invokevirtual idx, 3)) (hst : st0 = as.reverse ++ .ref a :: st) (hs : sh[a]? = some (.inl (ci, ks))) (hc : vwCl[ci]? = some (C, T, N)) (hy : y.cls = C) (hl : Cond.methodLink own idx y ∈ mm_ok) (hm : mm_mi y bytes nL1 ret1 a1) (hn : as.length = a1) (h8 : (st.map fun v => v.category).sum ≤ 8) (hd : d1 + 1 ≤ d2) (hL : nL1 ≤ 14)
    (hM : mc g y bytes nL1 ret1 (mm_rm d1) (.ref a :: as) (mm_enc sh S) (qv sh P)) (kk : ∀ (S1 : mm_S), P S1 → mw g own cc nL ret ini (mm_rm d2) Q 0 0 (mm_enc sh S1) (pc + 3) ls st) : mw g own cc nL ret ini (mm_rm d2) Q 0 0 (mm_enc sh S) pc ls st0 :=
  mw_callV d hst (mm_enc_get hs) hc hy hl hm hn h8 (mm_room hd hL) ⟨Nat.le_refl 0, Nat.le_refl 0⟩ hM (fun r w1 hq => by obtain ⟨S1, rfl, rfl, hp⟩ := hq; exact kk S1 hp)
theorem tc_ViN {P : mm_S → Int32 → Prop} (d : decode cc pc = .ok (.invokevirtual idx, 3)) (hst : st0 = as.reverse ++ .ref a :: st) (hs : sh[a]? = some (.inl (ci, ks))) (hc : vwCl[ci]? = some (C, T, N)) (hy : y.cls = C) (hl : Cond.methodLinkNest own idx y host ∈ mm_nest) (hm : mm_mi y bytes nL1 ret1 a1) (hn : as.length = a1) (h8 : (st.map fun v => v.category).sum ≤ 8) (hd : d1 + 1 ≤ d2) (hL : nL1 ≤ 14)
    (hM : mc g y bytes nL1 ret1 (mm_rm d1) (.ref a :: as) (mm_enc sh S) (qi sh P)) (kk : ∀ (S1 : mm_S) (v : Int32), P S1 v → mw g own cc nL ret ini (mm_rm d2) Q 0 0 (mm_enc sh S1) (pc + 3) ls (.int v :: st)) : mw g own cc nL ret ini (mm_rm d2) Q 0 0 (mm_enc sh S) pc ls st0 :=
  mw_callVN d hst (mm_enc_get hs) hc hy hl hm hn h8 (mm_room hd hL) ⟨Nat.le_refl 0, Nat.le_refl 0⟩ hM (fun r w1 hq => by obtain ⟨S1, v, rfl, rfl, hp⟩ := hq; exact kk S1 v hp)
theorem tc_VvN {P : mm_S → Prop} (d : decode cc pc = .ok (.invokevirtual idx, 3)) (hst : st0 = as.reverse ++ .ref a :: st) (hs : sh[a]? = some (.inl (ci, ks))) (hc : vwCl[ci]? = some (C, T, N)) (hy : y.cls = C) (hl : Cond.methodLinkNest own idx y host ∈ mm_nest) (hm : mm_mi y bytes nL1 ret1 a1) (hn : as.length = a1) (h8 : (st.map fun v => v.category).sum ≤ 8) (hd : d1 + 1 ≤ d2) (hL : nL1 ≤ 14)
    (hM : mc g y bytes nL1 ret1 (mm_rm d1) (.ref a :: as) (mm_enc sh S) (qv sh P)) (kk : ∀ (S1 : mm_S), P S1 → mw g own cc nL ret ini (mm_rm d2) Q 0 0 (mm_enc sh S1) (pc + 3) ls st) : mw g own cc nL ret ini (mm_rm d2) Q 0 0 (mm_enc sh S) pc ls st0 :=
  mw_callVN d hst (mm_enc_get hs) hc hy hl hm hn h8 (mm_room hd hL) ⟨Nat.le_refl 0, Nat.le_refl 0⟩ hM (fun r w1 hq => by obtain ⟨S1, rfl, rfl, hp⟩ := hq; exact kk S1 hp)
theorem tc_Si {P : mm_S → Int32 → Prop} (d : decode cc pc = .ok (.invokestatic idx, 3)) (hst : st0 = as.reverse ++ st) (hl : Cond.methodLink own idx y ∈ mm_ok) (hm : mm_ms y bytes nL1 ret1 a1) (hn : as.length = a1) (h8 : (st.map fun v => v.category).sum ≤ 8) (hd : d1 + 1 ≤ d2) (hL : nL1 ≤ 14)
    (hM : mc g y bytes nL1 ret1 (mm_rm d1) as (mm_enc sh S) (qi sh P)) (kk : ∀ (S1 : mm_S) (v : Int32), P S1 v → mw g own cc nL ret ini (mm_rm d2) Q 0 0 (mm_enc sh S1) (pc + 3) ls (.int v :: st)) : mw g own cc nL ret ini (mm_rm d2) Q 0 0 (mm_enc sh S) pc ls st0 :=
  mw_callS d hst hl hm hn h8 (mm_room hd hL) ⟨Nat.le_refl 0, Nat.le_refl 0⟩ hM (fun r w1 hq => by obtain ⟨S1, v, rfl, rfl, hp⟩ := hq; exact kk S1 v hp)
theorem tc_Sv {P : mm_S → Prop} (d : decode cc pc = .ok (.invokestatic idx, 3)) (hst : st0 = as.reverse ++ st) (hl : Cond.methodLink own idx y ∈ mm_ok) (hm : mm_ms y bytes nL1 ret1 a1) (hn : as.length = a1) (h8 : (st.map fun v => v.category).sum ≤ 8) (hd : d1 + 1 ≤ d2) (hL : nL1 ≤ 14)
    (hM : mc g y bytes nL1 ret1 (mm_rm d1) as (mm_enc sh S) (qv sh P)) (kk : ∀ (S1 : mm_S), P S1 → mw g own cc nL ret ini (mm_rm d2) Q 0 0 (mm_enc sh S1) (pc + 3) ls st) : mw g own cc nL ret ini (mm_rm d2) Q 0 0 (mm_enc sh S) pc ls st0 :=
  mw_callS d hst hl hm hn h8 (mm_room hd hL) ⟨Nat.le_refl 0, Nat.le_refl 0⟩ hM (fun r w1 hq => by obtain ⟨S1, rfl, rfl, hp⟩ := hq; exact kk S1 hp)
theorem tc_SiN {P : mm_S → Int32 → Prop} (d : decode cc pc = .ok (.invokestatic idx, 3)) (hst : st0 = as.reverse ++ st) (hl : Cond.methodLinkNest own idx y host ∈ mm_nest) (hm : mm_ms y bytes nL1 ret1 a1) (hn : as.length = a1) (h8 : (st.map fun v => v.category).sum ≤ 8) (hd : d1 + 1 ≤ d2) (hL : nL1 ≤ 14)
    (hM : mc g y bytes nL1 ret1 (mm_rm d1) as (mm_enc sh S) (qi sh P)) (kk : ∀ (S1 : mm_S) (v : Int32), P S1 v → mw g own cc nL ret ini (mm_rm d2) Q 0 0 (mm_enc sh S1) (pc + 3) ls (.int v :: st)) : mw g own cc nL ret ini (mm_rm d2) Q 0 0 (mm_enc sh S) pc ls st0 :=
  mw_callSN d hst hl hm hn h8 (mm_room hd hL) ⟨Nat.le_refl 0, Nat.le_refl 0⟩ hM (fun r w1 hq => by obtain ⟨S1, v, rfl, rfl, hp⟩ := hq; exact kk S1 v hp)
end TC
/-! measures -/
theorem bd_ofI {c : Int} (h : -1000 ≤ c ∧ c ≤ 1000) : (Int32.ofInt c).toInt = c := by
  rw [Int32.toInt_ofInt, bd_bmod (by omega) (by omega)]
theorem bd_inc {lo hi a b c : Int} {x v : Int32} (e : v = x + Int32.ofInt c) (hx : mm_b a b x) (h : (-1000 ≤ c ∧ c ≤ 1000) ∧ (-2147483648 ≤ a + c ∧ b + c ≤ 2147483647) ∧ lo ≤ a + c ∧ b + c ≤ hi) : mm_b lo hi v := by
  have h1 := bd_ofI h.1
  exact bd_add (c := c) (d := c) e hx ⟨by omega, by omega⟩ ⟨h.2.1, h.2.2⟩
theorem ms_inc {a b c H : Int} {x v : Int32} {N : Nat} (e : v = x + Int32.ofInt c) (hx : mm_b a b x) (h : (0 < c ∧ c ≤ 1000) ∧ (-2147483648 ≤ a + c ∧ b + c ≤ 2147483647) ∧ b < H) (hm : (H - x.toInt).toNat < N + 1) : (H - v.toInt).toNat < N := by
  have h1 := bd_ofI (c := c) (by omega)
  have h2 : v.toInt = x.toInt + c := by rw [e, bd_ti_add (by omega) (by omega), h1]
  omega
theorem ms_dec {a b c L : Int} {x v : Int32} {N : Nat} (e : v = x + Int32.ofInt c) (hx : mm_b a b x) (h : (c < 0 ∧ -1000 ≤ c) ∧ (-2147483648 ≤ a + c ∧ b + c ≤ 2147483647) ∧ L < a) (hm : (x.toInt - L).toNat < N + 1) : (v.toInt - L).toNat < N := by
  have h1 := bd_ofI (c := c) (by omega)
  have h2 : v.toInt = x.toInt + c := by rw [e, bd_ti_add (by omega) (by omega), h1]
  omega
theorem bd_bool {lo hi : Int} {v : Int32} (h : mm_b lo hi v) (h2 : 0 ≤ lo ∧ hi ≤ 1) : v = 0 ∨ v = 1 := by
  rcases (by omega : v.toInt = 0 ∨ v.toInt = 1) with q | q
  · exact Or.inl (Int32.toInt_inj.mp q)
  · exact Or.inr (Int32.toInt_inj.mp q)
theorem bd_nar {lo hi : Int} {v : Int32} (h : mm_b lo hi v) (h2 : 0 ≤ lo ∧ hi ≤ 1) : narrow .boolean (.int v) = .int v := by
  rcases bd_bool h h2 with rfl | rfl <;> rfl
theorem bd_both {lo hi a b c d : Int} {v : Int32} (h1 : mm_b a b v) (h2 : mm_b c d v) (h : (lo ≤ a ∨ lo ≤ c) ∧ (b ≤ hi ∨ d ≤ hi)) : mm_b lo hi v := by omega
theorem bd_ord {v : Int32} {j : Nat} (e : v = mm_ordn j) : mm_b 1 24 v := by
  rw [e]
  unfold mm_ordn
  split <;> decide
/-! longs -/
abbrev mm_bl (lo hi : Int) (x : Int64) : Prop := lo ≤ x.toInt ∧ x.toInt ≤ hi
theorem bl_all (x : Int64) : mm_bl (-9223372036854775808) 9223372036854775807 x := by
  have h1 := Int64.le_toInt x
  have h2 := Int64.toInt_lt x
  constructor <;> omega
theorem bl_i2l {lo hi : Int} {x : Int32} {z : Int64} (e : z = x.toInt64) (h : mm_b lo hi x) : mm_bl lo hi z := by
  rw [e, mm_bl, Int32.toInt_toInt64]
  exact h
theorem bl_l2i {lo hi a b : Int} {x : Int64} {z : Int32} (e : z = x.toInt32) (h : mm_bl a b x) (h2 : (-2147483648 ≤ a ∧ b ≤ 2147483647) ∧ lo ≤ a ∧ b ≤ hi) : mm_b lo hi z := by
  rw [e, mm_b, Int64.toInt_toInt32, bd_bmod (by omega) (by omega)]
  omega
theorem bl_bmod {z : Int} (h1 : -9223372036854775808 ≤ z) (h2 : z ≤ 9223372036854775807) : z.bmod (2 ^ 64) = z := by
  rw [Int.bmod_eq_of_le (by omega) (by omega)]
theorem bl_add {lo hi a b c d : Int} {x y z : Int64} (e : z = x + y) (hx : mm_bl a b x) (hy : mm_bl c d y) (h : (-9223372036854775808 ≤ a + c ∧ b + d ≤ 9223372036854775807) ∧ lo ≤ a + c ∧ b + d ≤ hi) : mm_bl lo hi z := by
  rw [e, mm_bl, Int64.toInt_add, bl_bmod (by omega) (by omega)]
  omega
theorem bl_mul {lo hi a b c d : Int} {x y z : Int64} (e : z = x * y) (hx : mm_bl a b x) (hy : mm_bl c d y) (h : (0 ≤ a ∧ 0 ≤ c ∧ b * d ≤ 9223372036854775807) ∧ lo ≤ a * c ∧ b * d ≤ hi) : mm_bl lo hi z := by
  obtain ⟨h1, h2⟩ := hx
  obtain ⟨h3, h4⟩ := hy
  obtain ⟨⟨h5, h5c, h6⟩, h7, h8⟩ := h
  have g1 : a * c ≤ x.toInt * y.toInt := Int.mul_le_mul h1 h3 h5c (Int.le_trans h5 h1)
  have g2 : x.toInt * y.toInt ≤ b * d := Int.mul_le_mul h2 h4 (Int.le_trans h5c h3) (Int.le_trans h5 (Int.le_trans h1 h2))
  have g3 : 0 ≤ a * c := Int.mul_nonneg h5 h5c
  rw [e, mm_bl, Int64.toInt_mul, bl_bmod (by omega) (by omega)]
  omega
theorem bl_div {lo hi a b c d : Int} {x y z : Int64} (e : z = x / y) (hx : mm_bl a b x) (hy : mm_bl c d y) (h : (0 ≤ a ∧ 1 ≤ c) ∧ lo ≤ 0 ∧ b / c ≤ hi) : mm_bl lo hi z := by
  obtain ⟨h1, h2⟩ := hx
  obtain ⟨h3, h4⟩ := hy
  obtain ⟨⟨h5, h6⟩, h7, h8⟩ := h
  have r := bl_all x
  have g1 : 0 ≤ x.toInt / y.toInt := Int.ediv_nonneg (by omega) (by omega)
  have g2 : x.toInt / y.toInt ≤ x.toInt := Int.ediv_le_self _ (by omega)
  have g3 : x.toInt / y.toInt ≤ b / c := by
    refine Int.le_trans (Int.ediv_le_ediv (by omega) h2) ?_
    rw [Int.le_ediv_iff_mul_le (by omega)]
    refine Int.le_trans (Int.mul_le_mul_of_nonneg_left h3 (Int.ediv_nonneg (by omega) (by omega))) ?_
    exact Int.ediv_mul_le _ (by omega)
  rw [e, mm_bl, Int64.toInt_div, Int.tdiv_eq_ediv_of_nonneg (by omega), bl_bmod (by omega) (by omega)]
  omega
theorem bl_rem {lo hi a b c d : Int} {x y z : Int64} (e : z = x - x / y * y) (hx : mm_bl a b x) (hy : mm_bl c d y) (h : (0 ≤ a ∧ 1 ≤ c) ∧ lo ≤ 0 ∧ d - 1 ≤ hi) : mm_bl lo hi z := by
  have r := bl_all x
  have r2 := bl_all y
  obtain ⟨j, hj, rfl⟩ := pk_lOf (x := x) (by rw [Int64.lt_iff_toInt_lt]; show ¬ x.toInt < 0; omega)
  obtain ⟨i, hi2, rfl⟩ := pk_lOf (x := y) (by rw [Int64.lt_iff_toInt_lt]; show ¬ y.toInt < 0; omega)
  rw [mm_bl, pk_lT hi2] at hy
  have hi0 : 0 < i := by omega
  rw [e, pk_lRem hj hi0 hi2, mm_bl, pk_lT (Nat.lt_of_le_of_lt (Nat.mod_le _ _) hj)]
  have := Nat.mod_lt j hi0
  omega
theorem bl_ne0 {c d : Int} {y : Int64} (hy : mm_bl c d y) (h : 1 ≤ c) : ¬ y = 0 := by
  intro e
  have : y.toInt = 0 := by rw [e]; rfl
  omega
/-! tables at addresses of a kind -/
theorem ckS {tb : mm_T} {L : List Nat} {a off : Nat} {il ih lo hi : Int} (ha : a ∈ L) (h : L.all (fun a => mm_ck tb (a + off) il ih lo hi) = true) : mm_ck tb (a + off) il ih lo hi = true := List.all_eq_true.mp h a ha
theorem ckZ {tb : mm_T} {L : List Nat} {a : Nat} {il ih lo hi : Int} (ha : a ∈ L) (h : L.all (fun a => mm_ck tb a il ih lo hi) = true) : mm_ck tb a il ih lo hi = true := List.all_eq_true.mp h a ha
/-! what a write leaves -/
theorem up_eq {S S2 : mm_S} {a j : Nat} {v : Int32} (h : mm_up S a j v = S2) : v = S2.1 a j := by
  rw [← h]
  exact (if_pos ⟨rfl, rfl⟩).symm
theorem up_neA {S S2 : mm_S} {a j b i : Nat} {v : Int32} (h : mm_up S a j v = S2) (hb : b ≠ a) : S.1 b i = S2.1 b i := by
  rw [← h]
  exact (if_neg (fun q => hb q.1)).symm
theorem up_neF {S S2 : mm_S} {a j b i : Nat} {v : Int32} (h : mm_up S a j v = S2) (hb : i ≠ j) : S.1 b i = S2.1 b i := by
  rw [← h]
  exact (if_neg (fun q => hb q.2)).symm
theorem upL_ne {S S2 : mm_S} {a j b i : Nat} {v : Int64} (h : mm_upL S a j v = S2) : S.1 b i = S2.1 b i := by rw [← h]; rfl
theorem upR_ne {S S2 : mm_S} {a j b i : Nat} {v : Nat} (h : mm_upR S a j v = S2) : S.1 b i = S2.1 b i := by rw [← h]; rfl
/-! what a method leaves as it was -/
def fr (wr wf : List Nat) (k m : Bool) (S S1 : mm_S) : Prop := (∀ a j, a ∉ wr → a ≠ 0 → S1.1 a j = S.1 a j) ∧ (∀ j, j ∉ wf → S1.1 0 j = S.1 0 j) ∧ (k = true → S1.2 = S.2) ∧ (m = true → (S.1 0 18).toInt ≤ (S1.1 0 18).toInt)
theorem fr_rf {wr wf : List Nat} {k m : Bool} {S : mm_S} : fr wr wf k m S S := ⟨fun _ _ _ _ => rfl, fun _ _ => rfl, fun _ => rfl, fun _ => Int.le_refl _⟩
theorem fr_upA {wr wf : List Nat} {k m : Bool} {S S1 S2 : mm_S} {a j : Nat} {v : Int32} (h : fr wr wf k m S S1) (e : mm_up S1 a j v = S2) (ha : a ∈ wr ∧ a ≠ 0) : fr wr wf k m S S2 := by
  refine ⟨fun b i hb h0 => ?_, fun i hi => ?_, fun q => ?_, fun q => ?_⟩
  · rw [← up_neA e (fun z => hb (by rw [z]; exact ha.1))]
    exact h.1 b i hb h0
  · rw [← up_neA e (fun z => ha.2 z.symm)]
    exact h.2.1 i hi
  · rw [← e]
    exact h.2.2.1 q
  · rw [← up_neA e (fun z => ha.2 z.symm)]
    exact h.2.2.2 q
theorem fr_upF {wr wf : List Nat} {k m : Bool} {S S1 S2 : mm_S} {j : Nat} {v : Int32} (h : fr wr wf k m S S1) (e : mm_up S1 0 j v = S2) (hj : j ∈ wf ∧ (m = true → j ≠ 18)) : fr wr wf k m S S2 := by
  refine ⟨fun b i hb h0 => ?_, fun i hi => ?_, fun q => ?_, fun q => ?_⟩
  · rw [← up_neA e h0]
    exact h.1 b i hb h0
  · rw [← up_neF e (fun z => hi (by rw [z]; exact hj.1))]
    exact h.2.1 i hi
  · rw [← e]
    exact h.2.2.1 q
  · rw [← up_neF e (fun z => hj.2 q z.symm)]
    exact h.2.2.2 q
theorem fr_upL {wr wf : List Nat} {m : Bool} {S S1 S2 : mm_S} {a j : Nat} {v : Int64} (h : fr wr wf false m S S1) (e : mm_upL S1 a j v = S2) : fr wr wf false m S S2 := by
  refine ⟨fun b i hb h0 => ?_, fun i hi => ?_, fun q => (by cases q), fun q => ?_⟩
  · rw [← upL_ne e]
    exact h.1 b i hb h0
  · rw [← upL_ne e]
    exact h.2.1 i hi
  · rw [← upL_ne e]
    exact h.2.2.2 q
theorem fr_upR {wr wf : List Nat} {m : Bool} {S S1 S2 : mm_S} {a j : Nat} {v : Nat} (h : fr wr wf false m S S1) (e : mm_upR S1 a j v = S2) : fr wr wf false m S S2 := by
  refine ⟨fun b i hb h0 => ?_, fun i hi => ?_, fun q => (by cases q), fun q => ?_⟩
  · rw [← upR_ne e]
    exact h.1 b i hb h0
  · rw [← upR_ne e]
    exact h.2.1 i hi
  · rw [← upR_ne e]
    exact h.2.2.2 q
theorem fr_tr {wr wf wr2 wf2 : List Nat} {k k2 m m2 : Bool} {S S1 S2 : mm_S} (h : fr wr wf k m S S1) (h2 : fr wr2 wf2 k2 m2 S1 S2) (hw : ∀ a ∈ wr2, a ∈ wr) (hf : ∀ a ∈ wf2, a ∈ wf) (hk : k = true → k2 = true) (hm : m = true → m2 = true) : fr wr wf k m S S2 :=
  ⟨fun a j ha h0 => (h2.1 a j (fun z => ha (hw a z)) h0).trans (h.1 a j ha h0), fun j hj => (h2.2.1 j (fun z => hj (hf j z))).trans (h.2.1 j hj), fun q => (h2.2.2.1 (hk q)).trans (h.2.2.1 q), fun q => Int.le_trans (h.2.2.2 q) (h2.2.2.2 (hm q))⟩
theorem fr_A {wr wf : List Nat} {k m : Bool} {S S1 : mm_S} {a j : Nat} (h : fr wr wf k m S S1) (ha : a ∉ wr) (h0 : a ≠ 0) : S.1 a j = S1.1 a j := (h.1 a j ha h0).symm
theorem fr_F {wr wf : List Nat} {k m : Bool} {S S1 : mm_S} {j : Nat} (h : fr wr wf k m S S1) (hj : j ∉ wf) : S.1 0 j = S1.1 0 j := (h.2.1 j hj).symm
theorem fr_AS {wr wf L : List Nat} {k m : Bool} {S S1 : mm_S} {a j off : Nat} (h : fr wr wf k m S S1) (hl : a ∈ L) (ha : ∀ a ∈ L, (a + off) ∉ wr) (h0 : ∀ a ∈ L, a + off ≠ 0) : S.1 (a + off) j = S1.1 (a + off) j := (h.1 _ j (ha a hl) (h0 a hl)).symm
theorem fr_AZ {wr wf L : List Nat} {k m : Bool} {S S1 : mm_S} {a j : Nat} (h : fr wr wf k m S S1) (hl : a ∈ L) (ha : ∀ a ∈ L, a ∉ wr) (h0 : ∀ a ∈ L, a ≠ 0) : S.1 a j = S1.1 a j := (h.1 _ j (ha a hl) (h0 a hl)).symm
theorem memS {wr L : List Nat} {a off : Nat} (hl : a ∈ L) (h : ∀ a ∈ L, (a + off) ∈ wr ∧ a + off ≠ 0) : a + off ∈ wr ∧ a + off ≠ 0 := h a hl
theorem memZ {wr L : List Nat} {a : Nat} (hl : a ∈ L) (h : ∀ a ∈ L, a ∈ wr ∧ a ≠ 0) : a ∈ wr ∧ a ≠ 0 := h a hl
theorem cl_ne {lo hi : Int} {i : Int32} {j : Nat} (h : mm_b lo hi i) (h2 : 0 ≤ lo ∧ ((j : Int) < lo ∨ hi < j)) : j ≠ i.toNatClampNeg := by
  have := bd_cl h h2.1
  omega
theorem ms_add {a b c H : Int} {x y v : Int32} {N : Nat} (e : v = x + y) (hx : mm_b a b x) (hy : mm_b c c y) (h : 0 < c ∧ (-2147483648 ≤ a + c ∧ b + c ≤ 2147483647) ∧ b < H) (hm : (H - x.toInt).toNat < N + 1) : (H - v.toInt).toNat < N := by
  have h2 : v.toInt = x.toInt + y.toInt := by rw [e, bd_ti_add (by omega) (by omega)]
  omega
theorem bd_zero {v : Int32} (h : mm_b 0 0 v) : v = 0 := Int32.toInt_inj.mp (show v.toInt = 0 by omega)
theorem neS {L : List Nat} {a b off : Nat} (ha : a ∈ L) (h : ∀ a ∈ L, b ≠ a + off) : b ≠ a + off := h a ha
theorem neZ {L : List Nat} {a b : Nat} (ha : a ∈ L) (h : ∀ a ∈ L, b ≠ a) : b ≠ a := h a ha
theorem knS {L M : List Nat} {a off : Nat} (ha : a ∈ L) (h : ∀ a ∈ L, a + off ∈ M) : a + off ∈ M := h a ha
theorem knZ {L M : List Nat} {a : Nat} (ha : a ∈ L) (h : ∀ a ∈ L, a ∈ M) : a ∈ M := h a ha
theorem ms_div {a b c d : Int} {x y v : Int32} {N : Nat} (e : v = x / y) (hx : mm_b a b x) (hy : mm_b c d y) (h : 1 ≤ a ∧ 2 ≤ c) (hm : x.toInt.toNat < N + 1) : v.toInt.toNat < N := by
  have r := bd_rng x
  have g1 : 0 ≤ x.toInt / y.toInt := Int.ediv_nonneg (by omega) (by omega)
  have g2 : x.toInt / y.toInt < x.toInt := by
    rw [Int.ediv_lt_iff_lt_mul (by omega)]
    have : x.toInt * 2 ≤ x.toInt * y.toInt := Int.mul_le_mul_of_nonneg_left (by omega) (by omega)
    omega
  have h2 : v.toInt = x.toInt / y.toInt := by rw [e, Int32.toInt_div, Int.tdiv_eq_ediv_of_nonneg (by omega), bd_bmod (by omega) (by omega)]
  omega
theorem min_b {lo hi a b c d : Int} {x y v : Int32} (e : v = if y < x then y else x) (hx : mm_b a b x) (hy : mm_b c d y) (h : (lo ≤ a ∧ lo ≤ c) ∧ (b ≤ hi ∨ d ≤ hi)) : mm_b lo hi v := by
  rw [e]
  split
  · rename_i q
    have := Int32.lt_iff_toInt_lt.mp q
    omega
  · rename_i q
    have := Int32.le_iff_toInt_le.mp (bd_nlt q)
    omega
theorem max_b {lo hi a b c d : Int} {x y v : Int32} (e : v = if x < y then y else x) (hx : mm_b a b x) (hy : mm_b c d y) (h : (lo ≤ a ∨ lo ≤ c) ∧ (b ≤ hi ∧ d ≤ hi)) : mm_b lo hi v := by
  rw [e]
  split
  · rename_i q
    have := Int32.lt_iff_toInt_lt.mp q
    omega
  · rename_i q
    have := Int32.le_iff_toInt_le.mp (bd_nlt q)
    omega
theorem bd_nec {lo hi : Int} {v c : Int32} (h : mm_b lo hi v) (h2 : c.toInt < lo ∨ hi < c.toInt) : ¬ v = c := by
  intro e
  subst e
  omega
abbrev qr (sh : List mm_F) (P : mm_S → Value → Prop) : Option Value → List mm_E → Prop := fun r w => ∃ (S1 : mm_S) (v : Value), r = some v ∧ w = mm_enc sh S1 ∧ P S1 v
section TD
variable {g : mm_G} {own : String} {cc : ByteArray} {nL : Nat} {ret : Option FieldType} {ini : Bool} {rm : Room} {Q : Option Value → List mm_E → Prop} {k n : Nat} {sh : List mm_F} {S : mm_S} {pc : Nat} {ls : List (Nat × Value)} {st : List Value} {w : List mm_E}
variable {y : MethodName} {bytes : ByteArray} {nL1 a1 idx a ci d1 d2 : Nat} {ret1 : Option FieldType} {as : List Value} {ks : List (Nat ⊕ Nat)} {C host : String} {T : u_T} {N : Nat} {st0 : List Value}
theorem tc_Vr {P : mm_S → Value → Prop} (d : decode cc pc = .ok (.invokevirtual idx, 3)) (hst : st0 = as.reverse ++ .ref a :: st) (hs : sh[a]? = some (.inl (ci, ks))) (hc : vwCl[ci]? = some (C, T, N)) (hy : y.cls = C) (hl : Cond.methodLink own idx y ∈ mm_ok) (hm : mm_mi y bytes nL1 ret1 a1) (hn : as.length = a1) (h8 : (st.map fun v => v.category).sum ≤ 8) (hd : d1 + 1 ≤ d2) (hL : nL1 ≤ 14)
    (hM : mc g y bytes nL1 ret1 (mm_rm d1) (.ref a :: as) (mm_enc sh S) (qr sh P)) (kk : ∀ (S1 : mm_S) (v : Value), P S1 v → mw g own cc nL ret ini (mm_rm d2) Q 0 0 (mm_enc sh S1) (pc + 3) ls (v :: st)) : mw g own cc nL ret ini (mm_rm d2) Q 0 0 (mm_enc sh S) pc ls st0 :=
  mw_callV d hst (mm_enc_get hs) hc hy hl hm hn h8 (mm_room hd hL) ⟨Nat.le_refl 0, Nat.le_refl 0⟩ hM (fun r w1 hq => by obtain ⟨S1, v, rfl, rfl, hp⟩ := hq; exact kk S1 v hp)
theorem mw_aload_nN {f : Fin 4} {i : Nat} (d : decode cc pc = .ok (.aload_n f, 1)) (hi : (f : Nat) = i) (j : Nat) (h : ls[j]? = some (i, .null))
    (kk : mw g own cc nL ret ini rm Q k n w (pc + 1) ls (.null :: st)) : mw g own cc nL ret ini rm Q k n w pc ls st := by
  intro p l e s m args below meth c H locs lsA a
  exact lv_aload_nN a.1.1 a.1.2.1 d hi (mm_loc a.2.2.2.2 h) (kk p l e s m args below meth c H locs lsA a)
theorem mw_astore_nN {f : Fin 4} {i : Nat} {ls' : List (Nat × Value)} (d : decode cc pc = .ok (.astore_n f, 1)) (hi : (f : Nat) = i) (hn : i < nL) (hl : ((i, Value.null) :: ls.filter (fun q => !(q.1 == i) && !(q.1 + 1 == i && q.2.category == 2))) = ls')
    (kk : mw g own cc nL ret ini rm Q k n w (pc + 1) ls' st) : mw g own cc nL ret ini rm Q k n w pc ls (.null :: st) := by
  intro p l e s m args below meth c H locs lsA a
  refine lv_astore_nN (lv' := ls'.map (fun q => (q.1, mm_v g q.2))) a.1.1 a.1.2.1 d hi a.2.2.2.2 hn (by rw [← hl]; exact mm_store (v := Value.null)) (fun lsB hB => ?_)
  exact kk p l e s m args below meth c H locs lsB ⟨a.1, a.2.1, a.2.2.1, a.2.2.2.1, hB⟩
end TD
/-! Math's own -/
section TM
variable {g : mm_G} {own : String} {cc : ByteArray} {nL : Nat} {ret : Option FieldType} {ini : Bool} {d2 : Nat} {Q : Option Value → List mm_E → Prop} {pc : Nat} {ls : List (Nat × Value)} {st : List Value} {w : List mm_E}
theorem mm_mx : Cond.code Lib.Math.max.name Lib.Math.max.code 2 (some .int) ∈ mm_ok ∧ Cond.static Lib.Math.max.name ∈ mm_ok ∧ Cond.initialized "java/lang/Math" ∈ mm_ok := ⟨mm_in 234 (by decide +kernel) rfl, mm_in 233 (by decide +kernel) rfl, mm_in 79 (by decide +kernel) rfl⟩
theorem mm_mn : Cond.code Lib.Math.min.name Lib.Math.min.code 2 (some .int) ∈ mm_ok ∧ Cond.static Lib.Math.min.name ∈ mm_ok := ⟨mm_in 449 (by decide +kernel) rfl, mm_in 448 (by decide +kernel) rfl⟩
theorem mm_ma : Cond.code Lib.Math.abs.name Lib.Math.abs.code 1 (some .int) ∈ mm_ok ∧ Cond.static Lib.Math.abs.name ∈ mm_ok := ⟨mm_in 734 (by decide +kernel) rfl, mm_in 733 (by decide +kernel) rfl⟩
theorem mw_max {idx : Nat} {x y : Int32} (d : decode cc pc = .ok (.invokestatic idx, 3)) (hl : Cond.methodLink own idx Lib.Math.max.name ∈ mm_ok) (h8 : (st.map fun v => v.category).sum ≤ 8) (hd : 1 ≤ d2)
    (kk : ∀ z : Int32, z = (if x < y then y else x) → mw g own cc nL ret ini (mm_rm d2) Q 0 0 w (pc + 3) ls (.int z :: st)) : mw g own cc nL ret ini (mm_rm d2) Q 0 0 w pc ls (.int y :: .int x :: st) := by
  intro p l e s m args below meth c H locs lsA A
  exact va_mmax A.1.1 A.1.2.1 (A.1.2.2.1.trans A.2.2.2.2.1.symm) A.1.2.2.2.1 (A.1.2.2.2.2.1 _ hl) (A.1.2.2.2.2.1 _ mm_mx.2.1) (A.1.2.2.2.2.1 _ mm_mx.2.2) (A.1.2.2.2.2.1 _ mm_mx.1) hd (by rw [mm_cat_sum]; show _ ≤ 33 * d2; omega) (Nat.le_refl 0) (Nat.le_refl 0) d (kk _ rfl p l e s m args below meth c H locs lsA A)
theorem mw_min {idx : Nat} {x y : Int32} (d : decode cc pc = .ok (.invokestatic idx, 3)) (hl : Cond.methodLink own idx Lib.Math.min.name ∈ mm_ok) (h8 : (st.map fun v => v.category).sum ≤ 8) (hd : 1 ≤ d2)
    (kk : ∀ z : Int32, z = (if y < x then y else x) → mw g own cc nL ret ini (mm_rm d2) Q 0 0 w (pc + 3) ls (.int z :: st)) : mw g own cc nL ret ini (mm_rm d2) Q 0 0 w pc ls (.int y :: .int x :: st) := by
  intro p l e s m args below meth c H locs lsA A
  exact va_mmin A.1.1 A.1.2.1 (A.1.2.2.1.trans A.2.2.2.2.1.symm) A.1.2.2.2.1 (A.1.2.2.2.2.1 _ hl) (A.1.2.2.2.2.1 _ mm_mn.2) (A.1.2.2.2.2.1 _ mm_mx.2.2) (A.1.2.2.2.2.1 _ mm_mn.1) hd (by rw [mm_cat_sum]; show _ ≤ 33 * d2; omega) (Nat.le_refl 0) (Nat.le_refl 0) d (kk _ rfl p l e s m args below meth c H locs lsA A)
theorem mw_abs {idx : Nat} {x : Int32} (d : decode cc pc = .ok (.invokestatic idx, 3)) (hl : Cond.methodLink own idx Lib.Math.abs.name ∈ mm_ok) (h8 : (st.map fun v => v.category).sum ≤ 8) (hd : 1 ≤ d2)
    (kk : ∀ z : Int32, z = (if 0 ≤ x then x else 0 - x) → mw g own cc nL ret ini (mm_rm d2) Q 0 0 w (pc + 3) ls (.int z :: st)) : mw g own cc nL ret ini (mm_rm d2) Q 0 0 w pc ls (.int x :: st) := by
  intro p l e s m args below meth c H locs lsA A
  exact va_mabs A.1.1 A.1.2.1 (A.1.2.2.1.trans A.2.2.2.2.1.symm) A.1.2.2.2.1 (A.1.2.2.2.2.1 _ hl) (A.1.2.2.2.2.1 _ mm_ma.2) (A.1.2.2.2.2.1 _ mm_mx.2.2) (A.1.2.2.2.2.1 _ mm_ma.1) hd (by rw [mm_cat_sum]; show _ ≤ 33 * d2; omega) (Nat.le_refl 0) (Nat.le_refl 0) d (kk _ rfl p l e s m args below meth c H locs lsA A)
end TM
