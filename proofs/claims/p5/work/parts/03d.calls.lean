/-! ===== rows of the small machine: calls ===== -/
/-- what the tables say of an instance method, of a static one, of a constructor -/
def mm_mi (y : MethodName) (cc : ByteArray) (nL : Nat) (ret : Option FieldType) (a : Nat) : Prop := Cond.code y cc nL ret ∈ mm_ok ∧ Cond.instanceMethod y ∈ mm_ok ∧ Cond.selects y.cls y y ∈ mm_ok ∧ Cond.initialized y.cls ∈ mm_ok ∧ (y.cls ≠ "java/lang/invoke/MethodHandle" ∧ y.cls ≠ "java/lang/invoke/VarHandle" ∧ (parseMethodDescriptor y.desc).map (fun d => d.parameters.length) = some a)
def mm_ms (y : MethodName) (cc : ByteArray) (nL : Nat) (ret : Option FieldType) (a : Nat) : Prop := Cond.code y cc nL ret ∈ mm_ok ∧ Cond.static y ∈ mm_ok ∧ Cond.initialized y.cls ∈ mm_ok ∧ (y.cls ≠ "java/lang/invoke/MethodHandle" ∧ y.cls ≠ "java/lang/invoke/VarHandle" ∧ (parseMethodDescriptor y.desc).map (fun d => d.parameters.length) = some a)
def mm_mk (y : MethodName) (cc : ByteArray) (nL : Nat) (a : Nat) : Prop := Cond.code y cc nL none ∈ mm_ok ∧ Cond.instanceMethod y ∈ mm_ok ∧ y.name = "<init>" ∧ Cond.initialized y.cls ∈ mm_ok ∧ (y.cls ≠ "java/lang/invoke/MethodHandle" ∧ y.cls ≠ "java/lang/invoke/VarHandle" ∧ (parseMethodDescriptor y.desc).map (fun d => d.parameters.length) = some a)
theorem mm_goodc {w : Cond} (h : w ∈ mm_ok) : w ∈ mm_ok ∧ ((w.onTables && w.keeps) = true ∨ ∃ ty, w = .arrayClass ty) := ⟨h, good_of_word (mm_ok_good _ h)⟩
theorem mm_goodV {own : String} {idx : Nat} {C : String} {y : MethodName} {ws : List Cond} (h1 : Cond.methodLink own idx y ∈ mm_ok) (h2 : Cond.instanceMethod y ∈ mm_ok) (h3 : Cond.selects C y y ∈ mm_ok) (h4 : Cond.initialized C ∈ mm_ok) (h5 : GoodIn mm_ok ws) : GoodIn mm_ok (wsV own idx C y ws) := by
  intro w hw
  unfold wsV at hw
  rcases List.mem_append.mp hw with hw | hw
  · simp only [List.mem_cons, List.not_mem_nil, or_false] at hw
    rcases hw with rfl | rfl | rfl | rfl
    · exact mm_goodc h1
    · exact mm_goodc h2
    · exact mm_goodc h3
    · exact mm_goodc h4
  · exact h5 w hw
theorem mm_goodS {own : String} {idx : Nat} {y : MethodName} {ws : List Cond} (h1 : Cond.methodLink own idx y ∈ mm_ok) (h2 : Cond.static y ∈ mm_ok) (h4 : Cond.initialized y.cls ∈ mm_ok) (h5 : GoodIn mm_ok ws) : GoodIn mm_ok (va_wsS own idx y ws) := by
  intro w hw
  unfold va_wsS at hw
  rcases List.mem_append.mp hw with hw | hw
  · simp only [List.mem_cons, List.not_mem_nil, or_false] at hw
    rcases hw with rfl | rfl | rfl
    · exact mm_goodc h1
    · exact mm_goodc h2
    · exact mm_goodc h4
  · exact h5 w hw
theorem mm_blind {g : mm_G} {av : List Value} {w : List mm_E} : FrameBlind (va_Pc av (fun U => mm_H g w U.heap ∧ mm_K g U)) := fun _ _ _ _ q => ⟨q.1, q.2.1, q.2.2.calling⟩
section MW
variable {g : mm_G} {own : String} {cc : ByteArray} {nL : Nat} {ret : Option FieldType} {ini : Bool} {rm : Room} {Q : Option Value → List mm_E → Prop} {k n : Nat} {w : List mm_E} {pc : Nat} {ls : List (Nat × Value)} {st : List Value}
theorem mm_go {p : Program} {l : Launch} {e : Env} {s : State} {m : MethodId} {args : Array Value} {below : List Frame} {meth : Method} {c : Code} {H : Heap} {locs : List Loc} {lsA : Array Slot} {mc1 ms1 : Nat} {st0 : List Value} {Q1 : Option Value → List mm_E → Prop} {aa : Array Value}
    (A : mm_at g own cc nL ret ini w ls p s m args meth c H locs lsA) (hr : va_Run p l e rm s m args below meth c H locs k n mc1 ms1 (F0 m pc lsA st0) (st.map (mm_v g)) (mm_Q g Q1 aa) g.2.2.2.2)
    (kk : ∀ (r : Option Value) (w1 : List mm_E), Q1 r w1 → mw g own cc nL ret ini rm Q (k + mc1) (n + ms1) w1 (pc + 3) ls (r.toList ++ st)) : W p l e rm s m args below meth c H locs k n (MQ below (mm_Q g Q) args s rm.cells rm.slots g.2.2.2.2) (F0 m pc lsA st0) := by
  intro T hT X
  obtain ⟨v, st₀, t, T', L, h0, X', hL, e1, e2, ⟨⟨r, w1, hv, hQ, hH⟩, hz, hk⟩, st2⟩ := hr T hT X
  have hv2 : v = r.map (mm_v g) := Outcome.returned.inj hv
  subst hv2
  rw [h0] at hz hk
  have hS := A.2.2.2.1
  obtain ⟨t2, a1, b1⟩ := kk r w1 hQ p l e s m args below meth c T'.heap (locs ++ L) lsA ⟨A.1, A.2.1, by rw [e1]; exact hH, ⟨Nat.le_trans hS.1 (by rw [e1]; exact hz), fun q h1 h2 => by rw [e1, hk q (Nat.lt_of_lt_of_le h1 hS.1) h2]; exact hS.2.1 q h1 h2, fun q hq => by
      rcases List.mem_append.mp hq with h | h
      · exact hS.2.2 q h
      · exact hL q h⟩, A.2.2.2.2⟩ T' rfl X'
  refine ⟨t2, st2 t2 ?_, b1⟩
  rw [List.map_append] at a1
  have e9 : List.map (mm_v g) r.toList = (Option.map (mm_v g) r).toList := by cases r <;> rfl
  rw [e9] at a1
  exact a1
theorem mm_pre {p : Program} {s : State} {m : MethodId} {args : Array Value} {meth : Method} {c : Code} {H : Heap} {locs : List Loc} {lsA : Array Slot} {as : List Value} (A : mm_at g own cc nL ret ini w ls p s m args meth c H locs lsA) :
    ∀ U : State, U.heap = H → s.WarmedH U.vm → va_Pc (as.map (mm_v g)) (fun U => mm_H g w U.heap ∧ mm_K g U) (as.map (mm_v g)).toArray U := fun U hU hW => ⟨rfl, by rw [hU]; exact A.2.2.1, A.2.1.moved hW (fun a h1 h2 => by rw [hU]; exact A.2.2.2.1.2.1 a h1 h2)⟩
theorem mm_st {as : List Value} {a : Nat} {st0 : List Value} (h : st0 = as.reverse ++ .ref a :: st) : st0.map (mm_v g) = (as.map (mm_v g)).reverse ++ mm_v g (.ref a) :: st.map (mm_v g) := by
  rw [h, List.map_append, List.map_reverse, List.map_cons]
theorem mm_stS {as : List Value} {st0 : List Value} (h : st0 = as.reverse ++ st) : st0.map (mm_v g) = (as.map (mm_v g)).reverse ++ st.map (mm_v g) := by
  rw [h, List.map_append, List.map_reverse]
/-- an instance method of a class of ours, at an object -/
theorem mw_callV {y : MethodName} {bytes : ByteArray} {nL1 a1 idx a ci : Nat} {ret1 : Option FieldType} {rm1 : Room} {as : List Value} {fs : List Value} {C : String} {T : u_T} {N : Nat} {Q1 : Option Value → List mm_E → Prop} {st0 : List Value} (d : decode cc pc = .ok (.invokevirtual idx, 3)) (hst : st0 = as.reverse ++ .ref a :: st) (hw : w[a]? = some (.inl (ci, fs))) (hc : vwCl[ci]? = some (C, T, N)) (hy : y.cls = C) (hl : Cond.methodLink own idx y ∈ mm_ok) (hm : mm_mi y bytes nL1 ret1 a1) (hn : as.length = a1) (h8 : (st.map fun v => v.category).sum ≤ 8) (hR : rm1.frames + 1 ≤ rm.frames ∧ 8 + (nL1 + 11) + rm1.locals ≤ rm.locals) (hf : k + rm1.cells ≤ rm.cells ∧ n + rm1.slots ≤ rm.slots)
    (hM : mc g y bytes nL1 ret1 rm1 (.ref a :: as) w Q1) (kk : ∀ (r : Option Value) (w1 : List mm_E), Q1 r w1 → mw g own cc nL ret ini rm Q (k + rm1.cells) (n + rm1.slots) w1 (pc + 3) ls (r.toList ++ st)) : mw g own cc nL ret ini rm Q k n w pc ls st0 := by
  intro p l e s m args below meth c H locs lsA A
  have ha := Nat.lt_of_lt_of_le (mm_lt hw) A.2.2.1.2.2
  subst hy
  rw [mm_st hst, mm_v_ref ha]
  have hM1 := hM l
  rw [List.map_cons, mm_v_ref ha] at hM1
  refine mm_go (st := st) A (va_runV (As := as.map (mm_v g)) (rest := st.map (mm_v g)) (b := g.2.2.1 + a) (C := y.cls) (bytes := bytes) (maxL := nL1) (ret := ret1) (own := own) (index := idx) ⟨A.1.1, A.1.2.1, A.1.2.2.1, A.1.2.2.2.1, A.1.2.2.2.2.1⟩ hM1 (cwV a1 A.1.2.2.2.2.1 (mm_goodV hl hm.2.1 hm.2.2.1 hm.2.2.2.1 (mm_good hm.1)) rfl rfl rfl ⟨rfl, hm.2.2.2.2⟩ hR) ⟨mm_blind, va_recv A.2.1.1 A.2.2.1.1 hc (mm_w_get hw), ?_⟩ rfl (by rw [List.length_map]; exact hn) A.2.2.2.2.1 rfl (lv_room (by rw [mm_cat_sum]; exact h8)) d hf) kk
  intro U hU hW
  have h := mm_pre (as := .ref a :: as) A U hU hW
  rw [List.map_cons, mm_v_ref ha] at h
  exact h
/-- ... a private one of a nest mate -/
theorem mw_callVN {y : MethodName} {bytes : ByteArray} {nL1 a1 idx a ci : Nat} {ret1 : Option FieldType} {rm1 : Room} {as : List Value} {fs : List Value} {C host : String} {T : u_T} {N : Nat} {Q1 : Option Value → List mm_E → Prop} {st0 : List Value} (d : decode cc pc = .ok (.invokevirtual idx, 3)) (hst : st0 = as.reverse ++ .ref a :: st) (hw : w[a]? = some (.inl (ci, fs))) (hc : vwCl[ci]? = some (C, T, N)) (hy : y.cls = C) (hl : Cond.methodLinkNest own idx y host ∈ mm_nest) (hm : mm_mi y bytes nL1 ret1 a1) (hn : as.length = a1) (h8 : (st.map fun v => v.category).sum ≤ 8) (hR : rm1.frames + 1 ≤ rm.frames ∧ 8 + (nL1 + 11) + rm1.locals ≤ rm.locals) (hf : k + rm1.cells ≤ rm.cells ∧ n + rm1.slots ≤ rm.slots)
    (hM : mc g y bytes nL1 ret1 rm1 (.ref a :: as) w Q1) (kk : ∀ (r : Option Value) (w1 : List mm_E), Q1 r w1 → mw g own cc nL ret ini rm Q (k + rm1.cells) (n + rm1.slots) w1 (pc + 3) ls (r.toList ++ st)) : mw g own cc nL ret ini rm Q k n w pc ls st0 := by
  intro p l e s m args below meth c H locs lsA A
  have ha := Nat.lt_of_lt_of_le (mm_lt hw) A.2.2.1.2.2
  subst hy
  rw [mm_st hst, mm_v_ref ha]
  have hM1 := hM l
  rw [List.map_cons, mm_v_ref ha] at hM1
  refine mm_go (st := st) A (va_runVN (As := as.map (mm_v g)) (rest := st.map (mm_v g)) (b := g.2.2.1 + a) (C := y.cls) (bytes := bytes) (maxL := nL1) (ret := ret1) (own := own) (index := idx) ⟨A.1.1, A.1.2.1, A.1.2.2.1, A.1.2.2.2.1, A.1.2.2.2.2.1⟩ hM1 ⟨va_cnB a1 A.1.2.2.2.2.1 (mm_good hm.1) rfl rfl rfl (A.2.1.2.1 _ hl) (A.1.2.2.2.2.1 _ hm.2.2.2.1) hm.2.2.2.2 hR, A.1.2.2.2.2.1 _ hm.2.1, A.1.2.2.2.2.1 _ hm.2.2.1⟩ ⟨mm_blind, va_recv A.2.1.1 A.2.2.1.1 hc (mm_w_get hw), ?_⟩ rfl (by rw [List.length_map]; exact hn) A.2.2.2.2.1 rfl (lv_room (by rw [mm_cat_sum]; exact h8)) d hf) kk
  intro U hU hW
  have h := mm_pre (as := .ref a :: as) A U hU hW
  rw [List.map_cons, mm_v_ref ha] at h
  exact h
theorem mw_callS {y : MethodName} {bytes : ByteArray} {nL1 a1 idx : Nat} {ret1 : Option FieldType} {rm1 : Room} {as : List Value} {Q1 : Option Value → List mm_E → Prop} {st0 : List Value} (d : decode cc pc = .ok (.invokestatic idx, 3)) (hst : st0 = as.reverse ++ st) (hl : Cond.methodLink own idx y ∈ mm_ok) (hm : mm_ms y bytes nL1 ret1 a1) (hn : as.length = a1) (h8 : (st.map fun v => v.category).sum ≤ 8) (hR : rm1.frames + 1 ≤ rm.frames ∧ 8 + (nL1 + 11) + rm1.locals ≤ rm.locals) (hf : k + rm1.cells ≤ rm.cells ∧ n + rm1.slots ≤ rm.slots)
    (hM : mc g y bytes nL1 ret1 rm1 as w Q1) (kk : ∀ (r : Option Value) (w1 : List mm_E), Q1 r w1 → mw g own cc nL ret ini rm Q (k + rm1.cells) (n + rm1.slots) w1 (pc + 3) ls (r.toList ++ st)) : mw g own cc nL ret ini rm Q k n w pc ls st0 := by
  intro p l e s m args below meth c H locs lsA A
  rw [mm_stS hst]
  exact mm_go (st := st) A (va_runS (As := as.map (mm_v g)) (rest := st.map (mm_v g)) (bytes := bytes) (maxL := nL1) (ret := ret1) (own := own) (index := idx) ⟨A.1.1, A.1.2.1, A.1.2.2.1, A.1.2.2.2.1, A.1.2.2.2.2.1⟩ (hM l) (va_cwS a1 A.1.2.2.2.2.1 (mm_goodS hl hm.2.1 hm.2.2.1 (mm_good hm.1)) rfl rfl rfl hm.2.2.2 hR) ⟨mm_blind, mm_pre A⟩ rfl (by rw [List.length_map]; exact hn) A.2.2.2.2.1 rfl (lv_room (by rw [mm_cat_sum]; exact h8)) d hf) kk
theorem mw_callSN {y : MethodName} {bytes : ByteArray} {nL1 a1 idx : Nat} {host : String} {ret1 : Option FieldType} {rm1 : Room} {as : List Value} {Q1 : Option Value → List mm_E → Prop} {st0 : List Value} (d : decode cc pc = .ok (.invokestatic idx, 3)) (hst : st0 = as.reverse ++ st) (hl : Cond.methodLinkNest own idx y host ∈ mm_nest) (hm : mm_ms y bytes nL1 ret1 a1) (hn : as.length = a1) (h8 : (st.map fun v => v.category).sum ≤ 8) (hR : rm1.frames + 1 ≤ rm.frames ∧ 8 + (nL1 + 11) + rm1.locals ≤ rm.locals) (hf : k + rm1.cells ≤ rm.cells ∧ n + rm1.slots ≤ rm.slots)
    (hM : mc g y bytes nL1 ret1 rm1 as w Q1) (kk : ∀ (r : Option Value) (w1 : List mm_E), Q1 r w1 → mw g own cc nL ret ini rm Q (k + rm1.cells) (n + rm1.slots) w1 (pc + 3) ls (r.toList ++ st)) : mw g own cc nL ret ini rm Q k n w pc ls st0 := by
  intro p l e s m args below meth c H locs lsA A
  rw [mm_stS hst]
  exact mm_go (st := st) A (va_runSN (As := as.map (mm_v g)) (rest := st.map (mm_v g)) (bytes := bytes) (maxL := nL1) (ret := ret1) (own := own) (index := idx) ⟨A.1.1, A.1.2.1, A.1.2.2.1, A.1.2.2.2.1, A.1.2.2.2.2.1⟩ (hM l) ⟨va_cnB a1 A.1.2.2.2.2.1 (mm_good hm.1) rfl rfl rfl (A.2.1.2.1 _ hl) (A.1.2.2.2.2.1 _ hm.2.2.1) hm.2.2.2 hR, A.1.2.2.2.2.1 _ hm.2.1, trivial⟩ ⟨mm_blind, mm_pre A⟩ rfl (by rw [List.length_map]; exact hn) A.2.2.2.2.1 rfl (lv_room (by rw [mm_cat_sum]; exact h8)) d hf) kk
end MW
