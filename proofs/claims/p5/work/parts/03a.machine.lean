/-! ===== a small machine over the kit's rows: a world is a list of cells at logical addresses ===== -/
abbrev mm_E : Type := (Nat × List Value) ⊕ (Nat × Nat × ((Nat → Int32) ⊕ (Nat → Option Nat)))
/-- classes and slots; the static array's address; the base; the array classes by tag; what may change -/
abbrev mm_G : Type := va_G × Nat × Nat × (Nat → ClassId) × (Nat → Prop)
def mm_ad (g : mm_G) (a : Nat) : Nat := if a = 999 then g.2.1 else g.2.2.1 + a
def mm_v (g : mm_G) (v : Value) : Value := match v with
  | .ref a => .ref (mm_ad g a)
  | x => x
def mm_e (g : mm_G) (e : mm_E) : va_E := match e with
  | .inl o => .inr (o.1, o.2.map (mm_v g))
  | .inr (t, n, .inl f) => .inl (g.2.2.2.1 t, n, .inl f)
  | .inr (t, n, .inr f) => .inl (g.2.2.2.1 t, n, .inr (.inr (.inr (.inr (fun j => (f j).map (fun a => g.2.2.1 + a))))))
def mm_w (g : mm_G) (w : List mm_E) : va_W := w.mapIdx (fun k e => (g.2.2.1 + k, mm_e g e))
theorem mm_w_get {g : mm_G} {w : List mm_E} {k : Nat} {e : mm_E} (h : w[k]? = some e) : (mm_w g w)[k]? = some (g.2.2.1 + k, mm_e g e) := by
  unfold mm_w
  rw [List.getElem?_mapIdx, h]
  rfl
theorem mm_w_set {g : mm_G} {w : List mm_E} {k : Nat} {e : mm_E} : (mm_w g w).set k (g.2.2.1 + k, mm_e g e) = mm_w g (w.set k e) := by
  apply List.ext_getElem?
  intro i
  unfold mm_w
  rw [List.getElem?_set, List.getElem?_mapIdx, List.getElem?_mapIdx, List.getElem?_set, List.length_mapIdx]
  by_cases h : k = i
  · subst h
    simp only [if_true]
    by_cases h2 : k < w.length
    · simp [h2]
    · simp [h2]
  · simp [h]
theorem mm_w_len {g : mm_G} {w : List mm_E} : (mm_w g w).length = w.length := by
  unfold mm_w
  rw [List.length_mapIdx]
theorem mm_w_push {g : mm_G} {w : List mm_E} {e : mm_E} : mm_w g (w ++ [e]) = mm_w g w ++ [(g.2.2.1 + w.length, mm_e g e)] := by
  unfold mm_w
  rw [List.mapIdx_append]
  simp
theorem mm_lt {w : List mm_E} {a : Nat} {e : mm_E} (h : w[a]? = some e) : a < w.length := (List.getElem?_eq_some_iff.mp h).1
theorem mm_ad_lt {g : mm_G} {a : Nat} (h : a < 999) : mm_ad g a = g.2.2.1 + a := if_neg (by omega)
theorem mm_v_ref {g : mm_G} {a : Nat} (h : a < 999) : mm_v g (.ref a) = .ref (g.2.2.1 + a) := congrArg Value.ref (mm_ad_lt h)
theorem mm_v_cat (g : mm_G) (v : Value) : (mm_v g v).category = v.category := by cases v <;> rfl
theorem mm_cat_sum (g : mm_G) (st : List Value) : ((st.map (mm_v g)).map fun v => v.category) = st.map fun v => v.category := by
  rw [List.map_map]
  exact List.map_congr_left (fun v _ => mm_v_cat g v)
/-! the tables' words that ride along -/
def mm_ok : List Cond := lw_tbl.filter goodWord
def mm_nw (w : Cond) : Bool := match w with
  | .methodLinkNest .. => true
  | .fieldLinkNest .. => true
  | _ => false
def mm_nest : List Cond := lw_tbl.filter mm_nw
theorem mm_in {w : Cond} (i : Nat) (h : lw_tbl[i]? = some w) (hg : goodWord w = true) : w ∈ mm_ok := List.mem_filter.mpr ⟨List.mem_of_getElem? h, hg⟩
theorem mm_inN {w : Cond} (i : Nat) (h : lw_tbl[i]? = some w) (hg : mm_nw w = true) : w ∈ mm_nest := List.mem_filter.mpr ⟨List.mem_of_getElem? h, hg⟩
theorem mm_ok_good : ∀ w ∈ mm_ok, goodWord w = true := fun w h => (List.mem_filter.mp h).2
def mm_ws (y : MethodName) (cc : ByteArray) (n : Nat) (r : Option FieldType) : List Cond := .code y cc n r :: mm_ok
theorem mm_good {y : MethodName} {cc : ByteArray} {n : Nat} {r : Option FieldType} (h : Cond.code y cc n r ∈ mm_ok) : GoodIn mm_ok (mm_ws y cc n r) := by
  intro w hw
  rcases List.mem_cons.mp hw with rfl | hw
  · exact ⟨h, good_of_word (mm_ok_good _ h)⟩
  · exact ⟨hw, good_of_word (mm_ok_good _ hw)⟩
def mm_tys (g : mm_G) : List (ClassId × FieldType) := [(g.2.2.2.1 0, .int), (g.2.2.2.1 1, .boolean), (g.2.2.2.1 2, .object "VoiceWills$Folk"), (g.2.2.2.1 3, .object "VoiceWills$Image"), (g.2.2.2.1 4, .array .int)]
def mm_ordn (j : Nat) : Int32 := match j with
  | 0 => 1
  | 1 => 1
  | 2 => 2
  | 3 => 6
  | _ => 24
def mm_ords : Nat → Value := fun j => .int (mm_ordn j)
def mm_K (g : mm_G) (U : State) : Prop := va_K g.1 vwCl (mm_tys g) U ∧ (∀ w ∈ mm_nest, va_Nw w U) ∧ va_Z "VoiceWills" "ORDERS_OF" "[I" (.ref g.2.1) g.2.2.2.2 U U.heap ∧ va_T .int g.2.1 5 mm_ords g.2.2.2.2 U U.heap
theorem mm_K.moved {g : mm_G} {s U : State} (hW : s.WarmedH U.vm) (hq : ∀ a : Nat, a < s.heap.size → ¬ g.2.2.2.2 a → U.heap[a]? = s.heap[a]?) (h : mm_K g s) : mm_K g U := by
  obtain ⟨h1, h2, h3, h4⟩ := h
  refine ⟨va_K.moved hW.alike h1, fun w hw => ?_, (va_Z.moved hW.alike h3).kept hq, (va_T.moved hW.alike h4).kept hq⟩
  have h9 := (List.mem_filter.mp hw).2
  have h8 := h2 w hw
  cases w with
  | methodLinkNest a i x h => exact va_Nw.warmM hW h8
  | fieldLinkNest a i b n d h => exact va_Nw.warmF hW h8
  | _ => exact absurd h9 (by simp [mm_nw])
/-! the judgement -/
def mm_C (own : String) (cc : ByteArray) (nL : Nat) (ret : Option FieldType) (ini : Bool) (p : Program) (s : State) (m : MethodId) (args : Array Value) (meth : Method) (c : Code) : Prop :=
  p.tables.exec = Jvm.exec ∧ c.code = cc ∧ c.maxLocals = nL ∧ s.vm.findClass own = some m.cls ∧ (∀ w ∈ mm_ok, w.before args s = true) ∧ meth.sig.returnType = ret ∧ meth.locks = false ∧ (ini = true → meth.name = "<init>")
def mm_H (g : mm_G) (w : List mm_E) (H : Heap) : Prop := va_P g.1 vwCl (mm_w g w) H ∧ va_D g.2.2.2.2 (mm_w g w) ∧ w.length ≤ 999
def mm_at (g : mm_G) (own : String) (cc : ByteArray) (nL : Nat) (ret : Option FieldType) (ini : Bool) (w : List mm_E) (ls : List (Nat × Value)) (p : Program) (s : State) (m : MethodId) (args : Array Value) (meth : Method) (c : Code) (H : Heap) (locs : List Loc) (lsA : Array Slot) : Prop :=
  mm_C own cc nL ret ini p s m args meth c ∧ mm_K g s ∧ mm_H g w H ∧ va_S g.2.2.2.2 s.heap H locs ∧ lv_has lsA nL (ls.map (fun q => (q.1, mm_v g q.2)))
def mm_Q (g : mm_G) (Q : Option Value → List mm_E → Prop) : Array Value → State → Outcome → State → Prop := fun _ st oc t =>
  (∃ (r : Option Value) (w : List mm_E), oc = .returned (r.map (mm_v g)) ∧ Q r w ∧ mm_H g w t.heap) ∧ va_F g.2.2.2.2 st t
def mw (g : mm_G) (own : String) (cc : ByteArray) (nL : Nat) (ret : Option FieldType) (ini : Bool) (rm : Room) (Q : Option Value → List mm_E → Prop) (k n : Nat) (w : List mm_E) (pc : Nat) (ls : List (Nat × Value)) (st : List Value) : Prop :=
  ∀ (p : Program) (l : Launch) (e : Env) (s : State) (m : MethodId) (args : Array Value) (below : List Frame) (meth : Method) (c : Code) (H : Heap) (locs : List Loc) (lsA : Array Slot), mm_at g own cc nL ret ini w ls p s m args meth c H locs lsA →
    W p l e rm s m args below meth c H locs k n (MQ below (mm_Q g Q) args s rm.cells rm.slots g.2.2.2.2) (F0 m pc lsA (st.map (mm_v g)))
/-- a method's contract at given arguments and a given world -/
def mc (g : mm_G) (y : MethodName) (cc : ByteArray) (nL : Nat) (ret : Option FieldType) (rm : Room) (as : List Value) (w : List mm_E) (Q : Option Value → List mm_E → Prop) : Prop :=
  ∀ l : Launch, Met l y (mm_ws y cc nL ret) rm (va_Pc (as.map (mm_v g)) (fun U => mm_H g w U.heap ∧ mm_K g U)) (mm_Q g Q) rm.cells rm.slots g.2.2.2.2
theorem mm_largs (g : mm_G) : ∀ (vs : List Value) (i : Nat), lv_args i (vs.map (mm_v g)) = (lv_args i vs).map (fun q => (q.1, mm_v g q.2))
  | [], i => rfl
  | v :: vs, i => by
    show (i, mm_v g v) :: lv_args (if (mm_v g v).category = 2 then i + 2 else i + 1) (vs.map (mm_v g)) = (i, mm_v g v) :: (lv_args (if v.category = 2 then i + 2 else i + 1) vs).map _
    rw [mm_v_cat, mm_largs g vs]
theorem mm_sl (g : mm_G) (vs : List Value) : (lg_sl (vs.map (mm_v g))).length = (lg_sl vs).length := by
  induction vs with
  | nil => rfl
  | cons v vs ih =>
    unfold lg_sl at ih ⊢
    rw [List.map_cons, List.flatMap_cons, List.flatMap_cons, List.length_append, List.length_append, ih, mm_v_cat]
    congr 1
    split <;> rfl
theorem mc_of {g : mm_G} {y : MethodName} {cc : ByteArray} {nL : Nat} {ret : Option FieldType} {rm : Room} {as : List Value} {w : List mm_E} {Q : Option Value → List mm_E → Prop} (hy : plainName y.cls = true) (hn : (lg_sl as).length ≤ nL)
    (h : mw g y.cls cc nL ret (y.name == "<init>") rm Q 0 0 w 0 (lv_args 0 as) []) : mc g y cc nL ret rm as w Q := by
  intro l
  refine Met.ofW (cc := cc) (maxL := nL) (ret := ret) hy rfl ?_
  intro p e s m args below meth c s₁ B hml hv
  obtain ⟨rfl, hH, hK⟩ := hv
  have hl := lv_entry (as.map (mm_v g)) (n := nL) (by rw [mm_sl]; exact hn)
  rw [lg_entry_eq]
  refine h p l e s m _ below meth c s.heap [] _ ⟨⟨B.exec, B.bytes, hml, findClass_of_methodNamed B.named, fun w hw => atoms_spec (ws := mm_ws y cc nL ret) B.pre w (List.mem_cons_of_mem _ hw), B.returns, B.notSynchronized, fun q => ?_⟩, hK, hH, va_S.rf, ?_⟩
  · rw [(name_of_methodNamed B.named B.method).1]
    exact eq_of_beq q
  · rw [← mm_largs]
    exact hl
