def R_law : String := "VoiceWillsLaw"
def lw_P (b : Addr) (xs : List Int32) (args : Array Value) (s : State) : Prop := args = #[.ref b] ∧ s.IntsAt b xs ∧ xs.length ≤ 2560 ∧ (Jvm.Cond.and given_1 narrow_1).before args s = true
def lw_Q (_ : Array Value) (s : State) (o : Outcome) (t : State) : Prop := o = .returned (some (.int 1)) ∧ Framed s o t [] 600000 7302250
def lw_Z (below : List Frame) (a : Array Value) (s : State) : State → Prop := fun t => ∃ o, t.status = .running ∧ Ended t below o ∧ lw_Q a s o t
/-- the law's own end, with 1 on the stack, nothing written that was there before, its room as the claim has it -/
theorem lw_ret {p : Program} {l : Launch} {e : Env} {s : State} {m : MethodId} {below : List Frame} {meth : Method} {c : Code} {b : Nat} (hx : p.tables.exec = Jvm.exec) (hb : c.code = code) (hr : meth.sig.returnType = ret) (hlocks : meth.locks = false) {pc : Nat} {H : Heap} {ls : Array Slot} (hdg : decode code pc = .ok (.ireturn, 1)) : W p l e room_1 s m #[Value.ref b] below meth c H [] 600000 7302250 (lw_Z below #[Value.ref b] s) (F0 m pc ls [.int 1]) := by
  intro T hT X
  obtain ⟨fs, hret, hrun, hended, hW, hframe⟩ := X.leave (v := some (.int 1)) (hlocks := hlocks) (fun h => by rw [hr] at h; cases h)
  have hmeth' : T.vm.method? m = some meth := X.method'
  refine ⟨T.setFrames fs, ?_, .returned (some (.int 1)), hrun, hended, rfl, ⟨_, rfl⟩, hW, hframe⟩
  jvm_step X.here [X.here.top, hx, hb, hdg, hmeth', hr, ret, narrow_b1]
  (try refine ⟨rfl, ?_⟩); (try refine ⟨rfl, ?_⟩)
  first | (intro acts; rw [hret _ acts rfl rfl rfl]) | rw [hret _ _ rfl rfl rfl]
  exact Steps.refl _
/-- what holds at the law's entry: the machine, the code, the tables' words (any of lw_tbl by 'hts w (by decide +kernel)'), the script of L ints xs at the cell b, what the Statement gives of the start (any of its parts by flat_of_before) -/
def lw_At (p : Program) (s : State) (m : MethodId) (meth : Method) (c : Code) (b L : Nat) (xs : Nat → Int32) : Prop :=
  p.tables.exec = Jvm.exec ∧ c.code = code ∧ meth.sig.returnType = ret ∧ c.maxLocals = 4 ∧ s.vm.findClass R_law = some m.cls ∧ (∀ w ∈ lw_tbl, w.before #[Value.ref b] s = true) ∧ va_X b L xs s s.heap ∧ b < s.heap.size ∧ meth.locks = false ∧ (Jvm.Cond.and given_1 narrow_1).before #[Value.ref b] s = true
theorem kc_IX9 : Cond.initialized "VoiceWills" ∈ mm_ok := mm_in 72 (by decide +kernel) rfl
/-! ===== the law: two worlds beside each other ===== -/
theorem la_nestT {w : Cond} (h : w ∈ mm_nest) : w.onTables = true := by
  have h9 := (List.mem_filter.mp h).2
  cases w with
  | methodLinkNest a i x h => rfl
  | fieldLinkNest a i b n d h => rfl
  | _ => exact absurd h9 (by simp [mm_nw])
theorem la_inst : ∀ q ∈ vwCl, Cond.instantiable q.1 q.2.2 ∈ mm_ok := by decide +kernel
theorem la_arrI {s : State} {args : Array Value} (h : (Cond.arrayClass .int).before args s = true) : ∃ c : ClassId, ArrOfT s c .int ∧ va_RA s c .int := by
  obtain ⟨c, k, comp, h1, h2, h3⟩ := Cond.arrayClass_spec h
  exact ⟨c, fun n z => ⟨fun k h => (by cases h), k, h2, comp, h3⟩, h1⟩
theorem la_arrZ {s : State} {args : Array Value} (h : (Cond.arrayClass .boolean).before args s = true) : ∃ c : ClassId, ArrOfT s c .boolean ∧ va_RA s c .boolean := by
  obtain ⟨c, k, comp, h1, h2, h3⟩ := Cond.arrayClass_spec h
  exact ⟨c, fun n z => ⟨fun k h => (by cases h), k, h2, comp, h3⟩, h1⟩
theorem la_arrO {s : State} {C : String} (h : va_AO C s) : ∃ c : ClassId, ArrOfT s c (.object C) ∧ va_RA s c (.object C) := by
  obtain ⟨comp, c, k, h1, h2, h3, h4, h5⟩ := Cond.arrayOver_spec h
  exact ⟨c, fun n z => ⟨fun k h => (by cases h), k, h3, comp, h4⟩, k, comp, h3, h4, h1, h5⟩
theorem la_arrA {s : State} (h : mn_AA s) : ∃ c : ClassId, ArrOfT s c (.array .int) ∧ va_RA s c (.array .int) := by
  obtain ⟨comp, c, k, h1, h2, h3, h4, h5⟩ := arrayOverA_spec h
  exact ⟨c, fun n z => ⟨fun k h => (by cases h), k, h3, comp, h4⟩, h5⟩
abbrev la_tm : Term := .static "VoiceWills" "ORDERS_OF" "[I"
theorem la_T0 {s : State} {b : Nat} (hg : (Jvm.Cond.and given_1 narrow_1).before #[Value.ref b] s = true) (A : Nat → Prop) (hA : ∀ a : Nat, a < s.heap.size → ¬ A a) : ∃ t : Nat, la_tm.eval #[Value.ref b] s none [] s = some (.ref t) ∧ va_T .int t 5 mm_ords A s s.heap := by
  have hs := flat_of_before _ hg
  refine va_Tof (tm := la_tm) (by decide) (hs _ (by decide +kernel)) (va_eqt (hs (Cond.eq (.length la_tm) (.int 5)) (by decide +kernel))) (fun j hj => ?_) hA
  match j, hj with
  | 0, _ => exact va_eqt (hs (Cond.eq (.elem la_tm (.int 0)) (.int 1)) (by decide +kernel))
  | 1, _ => exact va_eqt (hs (Cond.eq (.elem la_tm (.int 1)) (.int 1)) (by decide +kernel))
  | 2, _ => exact va_eqt (hs (Cond.eq (.elem la_tm (.int 2)) (.int 2)) (by decide +kernel))
  | 3, _ => exact va_eqt (hs (Cond.eq (.elem la_tm (.int 3)) (.int 6)) (by decide +kernel))
  | 4, _ => exact va_eqt (hs (Cond.eq (.elem la_tm (.int 4)) (.int 24)) (by decide +kernel))
  | n + 5, hj => omega
def la_ids (c0 c1 c2 c3 c4 : ClassId) : Nat → ClassId := fun k => match k with
  | 0 => c0
  | 1 => c1
  | 2 => c2
  | 3 => c3
  | _ => c4
/-- what rides along: the arrays' words -/
def la_F (s : State) : Prop := va_AO "VoiceWills$Folk" s ∧ va_AO "VoiceWills$Image" s ∧ mn_AA s
theorem la_AA {s : State} {A : Array Value} (h : (Cond.arrayOver (.array .int)).before A s = true) : mn_AA s := h
theorem la_F0 {s : State} {b : Nat} (hts : ∀ w ∈ lw_tbl, w.before #[Value.ref b] s = true) : la_F s := ⟨va_AO.of (hts _ (List.mem_of_getElem? (i := 200) (by decide +kernel))), va_AO.of (hts _ (List.mem_of_getElem? (i := 214) (by decide +kernel))), la_AA (hts _ (List.mem_of_getElem? (i := 269) (by decide +kernel)))⟩
theorem la_K0 {s : State} {b : Nat} (hts : ∀ w ∈ lw_tbl, w.before #[Value.ref b] s = true) (hg : (Jvm.Cond.and given_1 narrow_1).before #[Value.ref b] s = true) (cls : ClassId) : ∃ (G : va_G) (z : Nat) (ids : Nat → ClassId), ∀ (base : Nat) (A : Nat → Prop), (∀ a : Nat, a < s.heap.size → ¬ A a) → mm_K (G, z, base, ids, A) s := by
  have hok : ∀ w ∈ mm_ok, w.before #[Value.ref b] s = true := fun w hw => hts w (List.mem_filter.mp hw).1
  have h1 : ∀ c : Nat, ∃ q : ClassId × (Nat → Nat), ∀ x : vw_C, vwCl[c]? = some x → u_Kn s x.1 x.2.1 x.2.2 q.1 q.2 := by
    intro c
    cases hc : vwCl[c]? with
    | none => exact ⟨(cls, fun _ => 0), fun x hx => by cases hx⟩
    | some x =>
      obtain ⟨cC, iS, h⟩ := u_known hok (mm_inX x (List.mem_of_getElem? hc)) (hok _ (la_inst x (List.mem_of_getElem? hc)))
      exact ⟨(cC, iS), fun y hy => by cases hy; exact h⟩
  obtain ⟨f, hf⟩ := Classical.axiomOfChoice h1
  have hF := la_F0 hts
  obtain ⟨c0, a0⟩ := la_arrI (hok _ kc_AI)
  obtain ⟨c1, a1⟩ := la_arrZ (hok _ kc_AZ)
  obtain ⟨c2, a2⟩ := la_arrO hF.1
  obtain ⟨c3, a3⟩ := la_arrO hF.2.1
  obtain ⟨c4, a4⟩ := la_arrA hF.2.2
  obtain ⟨z, hz, -⟩ := la_T0 hg (fun _ => False) (fun _ _ h => h)
  refine ⟨(fun c => (f c).1, fun c => (f c).2), z, la_ids c0 c1 c2 c3 c4, fun base A hA => ⟨⟨fun c q hq => hf c q hq, fun k q hk => ?_⟩, fun w hw => va_Nw.of (la_nestT hw) (hts w (List.mem_filter.mp hw).1), va_Zref (hts (Cond.laysStatic "VoiceWills" "ORDERS_OF" "[I") (List.mem_of_getElem? (i := 831) (by decide +kernel))) (hok _ kc_IX9) hz hA, ?_⟩⟩
  · match k, hk with
    | 0, hk => cases hk; exact a0
    | 1, hk => cases hk; exact a1
    | 2, hk => cases hk; exact a2
    | 3, hk => cases hk; exact a3
    | 4, hk => cases hk; exact a4
    | k + 5, hk => cases hk
  · obtain ⟨z', hz', hT⟩ := la_T0 hg A hA
    cases hz.symm.trans hz'
    exact hT
/-- two worlds in a heap; nothing that was there at the start has changed -/
def la_at (s : State) (ga gb : mm_G) (wa wb : List mm_E) (H : Heap) (locs : List Loc) : Prop := mm_H ga wa H ∧ mm_H gb wb H ∧ va_S (fun q => s.heap.size ≤ q) s.heap H locs
section LA
variable {p : Program} {l : Launch} {e : Env} {s : State} {m : MethodId} {below : List Frame} {meth : Method} {c : Code} {b L : Nat} {xs : Nat → Int32} {Q : State → Prop}
theorem la_call {ga gb : mm_G} {wa wb : List mm_E} {H : Heap} {locs : List Loc} {lsA : Array Slot} {k n pc : Nat} {st st0 as : List Value} {y : MethodName} {bytes : ByteArray} {nL1 a1 idx a ci : Nat} {ret1 : Option FieldType} {rm1 : Room} {fs : List Value} {C : String} {T : u_T} {N : Nat} {Q1 : Option Value → List mm_E → Prop} (C0 : lw_At p s m meth c b L xs)
    (hK : mm_K ga s) (hA : ∀ q, ga.2.2.2.2 q → s.heap.size ≤ q) (hAB : ∀ q, gb.2.2.2.2 q → ¬ ga.2.2.2.2 q) (hH : la_at s ga gb wa wb H locs) (hsz : lsA.size = 4)
    (d : decode cL_law pc = .ok (.invokevirtual idx, 3)) (hst : st0 = as.reverse ++ .ref (ga.2.2.1 + a) :: st) (hw : wa[a]? = some (.inl (ci, fs))) (hc : vwCl[ci]? = some (C, T, N)) (hy : y.cls = C) (hl : Cond.methodLink R_law idx y ∈ mm_ok) (hm : mm_mi y bytes nL1 ret1 a1) (hn : as.length = a1) (has : as.map (mm_v ga) = as) (h8 : (st.map fun v => v.category).sum ≤ 8) (hR : rm1.frames + 1 ≤ room_1.frames ∧ 8 + (nL1 + 11) + rm1.locals ≤ room_1.locals) (hf : k + rm1.cells ≤ room_1.cells ∧ n + rm1.slots ≤ room_1.slots)
    (hM : mc ga y bytes nL1 ret1 rm1 (.ref a :: as) wa Q1)
    (kk : ∀ (r : Option Value) (w1 : List mm_E) (H1 : Heap) (locs1 : List Loc), Q1 r w1 → la_at s ga gb w1 wb H1 locs1 → W p l e room_1 s m #[Value.ref b] below meth c H1 locs1 (k + rm1.cells) (n + rm1.slots) Q (F0 m (pc + 3) lsA ((r.map (mm_v ga)).toList ++ st))) :
    W p l e room_1 s m #[Value.ref b] below meth c H locs k n Q (F0 m pc lsA st0) := by
  intro T1 hT X
  have ha : a < 999 := Nat.lt_of_lt_of_le (mm_lt hw) hH.1.2.2
  subst hy
  have hM1 := hM l
  rw [List.map_cons, mm_v_ref ha, has] at hM1
  have hts : ∀ w ∈ mm_ok, w.before #[Value.ref b] s = true := fun w hw => C0.2.2.2.2.2.1 w (List.mem_filter.mp hw).1
  have hS := hH.2.2
  obtain ⟨v, st₀, t, T', Lc, h0, X', hL, e1, e2, ⟨⟨r, w1, hv, hQ, hH1⟩, hz, hk⟩, st2⟩ := va_runV (As := as) (rest := st) (b := ga.2.2.1 + a) (C := y.cls) (bytes := bytes) (maxL := nL1) (ret := ret1) (own := R_law) (index := idx) (g := F0 m pc lsA st0) ⟨C0.1, C0.2.1, C0.2.2.2.1, C0.2.2.2.2.1, hts⟩ hM1 (cwV a1 hts (mm_goodV hl hm.2.1 hm.2.2.1 hm.2.2.2.1 (mm_good hm.1)) rfl rfl rfl ⟨rfl, hm.2.2.2.2⟩ hR) ⟨mm_blind, va_recv hK.1 hH.1.1 hc (mm_w_get hw), fun U hU hW => ⟨rfl, by rw [hU]; exact hH.1, hK.moved hW (fun q h1 _ => by rw [hU]; exact hS.2.1 q h1 (Nat.not_le.mpr h1))⟩⟩ rfl hn hsz hst (lv_room h8) d hf T1 hT X
  have hv2 : v = r.map (mm_v ga) := Outcome.returned.inj hv
  subst hv2
  rw [h0] at hz hk
  obtain ⟨t2, q1, q2⟩ := kk r w1 T'.heap (locs ++ Lc) hQ ⟨by rw [e1]; exact hH1, ⟨hH.2.1.1.kept (fun k x hx => by rw [e1]; exact hk x.1 ((hH.2.1.1 k x hx).lt) (hAB _ (hH.2.1.2.1.2 k x hx))), hH.2.1.2⟩, Nat.le_trans hS.1 (by rw [e1]; exact hz), fun q h1 h2 => by rw [e1, hk q (Nat.lt_of_lt_of_le h1 hS.1) (fun h => h2 (hA q h))]; exact hS.2.1 q h1 h2, fun q hq => (List.mem_append.mp hq).elim (hS.2.2 q) (fun h => hA _ (hL q h))⟩ T' rfl X'
  exact ⟨t2, st2 t2 q1, q2⟩
/-- new, dup, the constructor: a world at the heap's end -/
theorem la_make {ga : mm_G} {H : Heap} {locs : List Loc} {lsA : Array Slot} {k n pc : Nat} {st : List Value} {y : MethodName} {bytes : ByteArray} {nL1 idn idx ci : Nat} {rm1 : Room} {fs : List Value} {C : String} {T : u_T} {N : Nat} {Q1 : Option Value → List mm_E → Prop} (C0 : lw_At p s m meth c b L xs)
    (hK : mm_K ga s) (hF : la_F s) (hbase : ga.2.2.1 = H.size) (hA : ∀ q, ga.2.2.2.2 q ↔ H.size ≤ q) (hS : va_S (fun q => s.heap.size ≤ q) s.heap H locs) (hsz : lsA.size = 4)
    (d1 : decode cL_law pc = .ok (.new idn, 3)) (d2 : decode cL_law (pc + 3) = .ok (.dup, 1)) (d3 : decode cL_law (pc + 4) = .ok (.invokespecial idx, 3)) (hcl : Cond.classLink R_law idn C ∈ mm_ok) (hq : mn_cls C ci T N fs) (hl : Cond.methodLink R_law idx y ∈ mm_ok) (hm : mm_mk y bytes nL1 0) (h8 : (st.map fun v => v.category).sum ≤ 7) (hR : rm1.frames + 1 ≤ room_1.frames ∧ 8 + (nL1 + 11) + rm1.locals ≤ room_1.locals) (hf : k + 1 + rm1.cells ≤ room_1.cells ∧ n + N + rm1.slots ≤ room_1.slots)
    (hM : mcn ga y bytes nL1 rm1 [.ref 0] [.inl (ci, fs)] Q1)
    (kk : ∀ (r : Option Value) (w1 : List mm_E) (H1 : Heap) (locs1 : List Loc), Q1 r w1 → mm_H ga w1 H1 → va_S (fun q => s.heap.size ≤ q) s.heap H1 locs1 → H.size ≤ H1.size → (∀ q, q < H.size → H1[q]? = H[q]?) → W p l e room_1 s m #[Value.ref b] below meth c H1 locs1 (k + 1 + rm1.cells) (n + N + rm1.slots) Q (F0 m (pc + 7) lsA ((r.map (mm_v ga)).toList ++ .ref H.size :: st))) :
    W p l e room_1 s m #[Value.ref b] below meth c H locs k n Q (F0 m pc lsA st) := by
  have hts : ∀ w ∈ mm_ok, w.before #[Value.ref b] s = true := fun w hw => C0.2.2.2.2.2.1 w (List.mem_filter.mp hw).1
  obtain ⟨q1, q2, q3, ty, q5, q6, q7⟩ := hq
  have hKn := hK.1.1 ci _ q3
  refine W.newcK C0.1 C0.2.1 C0.2.2.2.2.1 (hts _ hcl) (hts _ q1) (hts _ q2) (g := F0 m pc lsA st) rfl d1 (by omega) (by omega) hKn.2.1 rfl (fun H1 kC hkC e1 z1 o1 => ?_)
  have hw1 : mm_H ga [.inl (ci, fs)] H1 := by
    refine ⟨fun i x hx => ?_, mm_D (fun i _ => (hA _).mpr (by omega)), Nat.le_of_ble_eq_true rfl⟩
    obtain ⟨e0, he, rfl⟩ := mm_w_inv hx
    have hi : i < 1 := mm_lt he
    obtain rfl : i = 0 := by omega
    cases he
    show va_at ga.1 vwCl (ga.2.2.1 + 0, mm_e ga (.inl (ci, fs))) H1
    rw [mm_e_obj, q7, hbase]
    exact ⟨_, q3, (u_born ty hts (mm_inX _ (List.mem_of_getElem? q3)) hKn hkC e1 q5).to q6⟩
  refine lv_dup C0.1 C0.2.1 d2 rfl ?_
  intro T1 hT X
  have hM1 := hM l
  have hv0 : ([Value.ref 0]).map (mm_v ga) = [.ref H.size] := by
    rw [List.map_cons, mm_v_ref (by decide), hbase]
    rfl
  rw [hv0] at hM1
  obtain ⟨v, st₀, t, T', Lc, h0, X', hL, e1', e2, ⟨⟨r, w1, hv, hQ, hH1⟩, hz, hk⟩, st2⟩ := va_runI (As := []) (rest := .ref H.size :: st) (b := H.size) (bytes := bytes) (maxL := nL1) (own := R_law) (index := idx) (g := F0 m (pc + 4) lsA (.ref H.size :: .ref H.size :: st)) ⟨C0.1, C0.2.1, C0.2.2.2.1, C0.2.2.2.2.1, hts⟩ hM1 (cwI 0 hts (mm_good hm.1) rfl rfl rfl (hts _ hm.2.2.2.1) (hts _ hl) (hts _ hm.2.1) hm.2.2.1 hm.2.2.2.2 hR) ⟨mn_blind, fun U hU hW => ⟨rfl, ⟨by rw [hU]; exact hw1, hK.moved hW (fun q h1 _ => by rw [hU, o1 q (Nat.lt_of_lt_of_le h1 hS.1)]; exact hS.2.1 q h1 (Nat.not_le.mpr h1))⟩, by rw [hU, z1, hbase]; rfl, va_AO.moved hW.alike hF.1, va_AO.moved hW.alike hF.2.1, mn_AA.moved hW.alike hF.2.2, fun q hq => (hA q).mpr (by rw [← hbase]; exact hq)⟩⟩ rfl rfl hsz rfl (lv_room (by simp only [List.map_cons, List.sum_cons]; have : (Value.ref H.size).category = 1 := rfl; omega)) d3 hf T1 hT X
  have hv2 : v = r.map (mm_v ga) := Outcome.returned.inj hv
  subst hv2
  rw [h0] at hz hk
  have hk2 : ∀ q, q < H.size → T'.heap[q]? = H[q]? := fun q h => by
    rw [e1', hk q (by rw [z1]; omega) (fun h2 => absurd ((hA q).mp h2) (by omega))]
    exact o1 q h
  obtain ⟨t2, r1, r2⟩ := kk r w1 T'.heap (locs ++ Lc) hQ (by rw [e1']; exact hH1) ⟨Nat.le_trans hS.1 (by rw [e1']; omega), fun q h1 h2 => by rw [hk2 q (Nat.lt_of_lt_of_le h1 hS.1)]; exact hS.2.1 q h1 h2, fun q hq => (List.mem_append.mp hq).elim (hS.2.2 q) (fun h => Nat.le_trans hS.1 ((hA _).mp (hL q h)))⟩ (by rw [e1']; omega) hk2 T' rfl X'
  exact ⟨t2, st2 t2 r1, r2⟩
end LA
set_option maxRecDepth 100000 in
theorem cw_z338 : Cond.methodLink R_law 13 yX9_feed ∈ mm_ok := by first | exact mm_inT (tm_2 (List.mem_of_getElem? (i := 27) rfl)) rfl | exact mm_in 338 (by decide +kernel) rfl
set_option maxRecDepth 100000 in
theorem cw_z341 : Cond.code yX9_feed cX9_feed 2 (some .int) ∈ mm_ok := mm_inT (tm_2 (List.mem_of_getElem? (i := 30) rfl)) rfl
set_option maxRecDepth 100000 in
theorem cw_z339 : Cond.instanceMethod yX9_feed ∈ mm_ok := by first | exact mm_inT (tm_2 (List.mem_of_getElem? (i := 28) rfl)) rfl | exact mm_in 339 (by decide +kernel) rfl
set_option maxRecDepth 100000 in
theorem cw_z340 : Cond.selects RX9 yX9_feed yX9_feed ∈ mm_ok := by first | exact mm_inT (tm_2 (List.mem_of_getElem? (i := 29) rfl)) rfl | exact mm_in 340 (by decide +kernel) rfl
set_option maxRecDepth 100000 in
theorem cw_z72 : Cond.initialized RX9 ∈ mm_ok := by first | exact mm_inT (tm_1 (List.mem_of_getElem? (i := 1) rfl)) rfl | exact mm_in 72 (by decide +kernel) rfl
set_option maxRecDepth 100000 in
theorem cw_z993 : Cond.methodLink R_law 17 yX10_feed ∈ mm_ok := by first | exact mm_inT (tm_4 (List.mem_of_getElem? (i := 202) rfl)) rfl | exact mm_in 993 (by decide +kernel) rfl
set_option maxRecDepth 100000 in
theorem cw_z996 : Cond.code yX10_feed cX10_feed 2 (some .int) ∈ mm_ok := mm_inT (tm_4 (List.mem_of_getElem? (i := 205) rfl)) rfl
set_option maxRecDepth 100000 in
theorem cw_z994 : Cond.instanceMethod yX10_feed ∈ mm_ok := by first | exact mm_inT (tm_4 (List.mem_of_getElem? (i := 203) rfl)) rfl | exact mm_in 994 (by decide +kernel) rfl
set_option maxRecDepth 100000 in
theorem cw_z995 : Cond.selects RX10 yX10_feed yX10_feed ∈ mm_ok := by first | exact mm_inT (tm_4 (List.mem_of_getElem? (i := 204) rfl)) rfl | exact mm_in 995 (by decide +kernel) rfl
set_option maxRecDepth 100000 in
theorem cw_z83 : Cond.initialized RX10 ∈ mm_ok := by first | exact mm_inT (tm_1 (List.mem_of_getElem? (i := 12) rfl)) rfl | exact mm_in 83 (by decide +kernel) rfl
set_option maxRecDepth 100000 in
theorem cw_z348 : Cond.methodLink R_law 18 yX9_parish ∈ mm_ok := by first | exact mm_inT (tm_2 (List.mem_of_getElem? (i := 37) rfl)) rfl | exact mm_in 348 (by decide +kernel) rfl
set_option maxRecDepth 100000 in
theorem cw_z351 : Cond.code yX9_parish cX9_parish 3 (some .int) ∈ mm_ok := mm_inT (tm_2 (List.mem_of_getElem? (i := 40) rfl)) rfl
set_option maxRecDepth 100000 in
theorem cw_z349 : Cond.instanceMethod yX9_parish ∈ mm_ok := by first | exact mm_inT (tm_2 (List.mem_of_getElem? (i := 38) rfl)) rfl | exact mm_in 349 (by decide +kernel) rfl
set_option maxRecDepth 100000 in
theorem cw_z350 : Cond.selects RX9 yX9_parish yX9_parish ∈ mm_ok := by first | exact mm_inT (tm_2 (List.mem_of_getElem? (i := 39) rfl)) rfl | exact mm_in 350 (by decide +kernel) rfl
set_option maxRecDepth 100000 in
theorem cw_z1000 : Cond.methodLink R_law 22 yX10_parish ∈ mm_ok := by first | exact mm_inT (tm_4 (List.mem_of_getElem? (i := 209) rfl)) rfl | exact mm_in 1000 (by decide +kernel) rfl
set_option maxRecDepth 100000 in
theorem cw_z1003 : Cond.code yX10_parish cX10_parish 2 (some .int) ∈ mm_ok := mm_inT (tm_4 (List.mem_of_getElem? (i := 212) rfl)) rfl
set_option maxRecDepth 100000 in
theorem cw_z1001 : Cond.instanceMethod yX10_parish ∈ mm_ok := by first | exact mm_inT (tm_4 (List.mem_of_getElem? (i := 210) rfl)) rfl | exact mm_in 1001 (by decide +kernel) rfl
set_option maxRecDepth 100000 in
theorem cw_z1002 : Cond.selects RX10 yX10_parish yX10_parish ∈ mm_ok := by first | exact mm_inT (tm_4 (List.mem_of_getElem? (i := 211) rfl)) rfl | exact mm_in 1002 (by decide +kernel) rfl
set_option maxRecDepth 100000 in
theorem cw_z474 : Cond.methodLink R_law 23 yX9_fault ∈ mm_ok := by first | exact mm_inT (tm_2 (List.mem_of_getElem? (i := 163) rfl)) rfl | exact mm_in 474 (by decide +kernel) rfl
set_option maxRecDepth 100000 in
theorem cw_z477 : Cond.code yX9_fault cX9_fault 1 (some .int) ∈ mm_ok := mm_inT (tm_2 (List.mem_of_getElem? (i := 166) rfl)) rfl
set_option maxRecDepth 100000 in
theorem cw_z475 : Cond.instanceMethod yX9_fault ∈ mm_ok := by first | exact mm_inT (tm_2 (List.mem_of_getElem? (i := 164) rfl)) rfl | exact mm_in 475 (by decide +kernel) rfl
set_option maxRecDepth 100000 in
theorem cw_z476 : Cond.selects RX9 yX9_fault yX9_fault ∈ mm_ok := by first | exact mm_inT (tm_2 (List.mem_of_getElem? (i := 165) rfl)) rfl | exact mm_in 476 (by decide +kernel) rfl
set_option maxRecDepth 100000 in
theorem cw_z1053 : Cond.methodLink R_law 26 yX10_fault ∈ mm_ok := by first | exact mm_inT (tm_5 (List.mem_of_getElem? (i := 22) rfl)) rfl | exact mm_in 1053 (by decide +kernel) rfl
set_option maxRecDepth 100000 in
theorem cw_z1056 : Cond.code yX10_fault cX10_fault 1 (some .int) ∈ mm_ok := mm_inT (tm_5 (List.mem_of_getElem? (i := 25) rfl)) rfl
set_option maxRecDepth 100000 in
theorem cw_z1054 : Cond.instanceMethod yX10_fault ∈ mm_ok := by first | exact mm_inT (tm_5 (List.mem_of_getElem? (i := 23) rfl)) rfl | exact mm_in 1054 (by decide +kernel) rfl
set_option maxRecDepth 100000 in
theorem cw_z1055 : Cond.selects RX10 yX10_fault yX10_fault ∈ mm_ok := by first | exact mm_inT (tm_5 (List.mem_of_getElem? (i := 24) rfl)) rfl | exact mm_in 1055 (by decide +kernel) rfl
set_option maxRecDepth 100000 in
theorem cw_z478 : Cond.methodLink R_law 27 yX9_told ∈ mm_ok := by first | exact mm_inT (tm_2 (List.mem_of_getElem? (i := 167) rfl)) rfl | exact mm_in 478 (by decide +kernel) rfl
set_option maxRecDepth 100000 in
theorem cw_z481 : Cond.code yX9_told cX9_told 2 (some .int) ∈ mm_ok := mm_inT (tm_2 (List.mem_of_getElem? (i := 170) rfl)) rfl
set_option maxRecDepth 100000 in
theorem cw_z479 : Cond.instanceMethod yX9_told ∈ mm_ok := by first | exact mm_inT (tm_2 (List.mem_of_getElem? (i := 168) rfl)) rfl | exact mm_in 479 (by decide +kernel) rfl
set_option maxRecDepth 100000 in
theorem cw_z480 : Cond.selects RX9 yX9_told yX9_told ∈ mm_ok := by first | exact mm_inT (tm_2 (List.mem_of_getElem? (i := 169) rfl)) rfl | exact mm_in 480 (by decide +kernel) rfl
set_option maxRecDepth 100000 in
theorem cw_z1057 : Cond.methodLink R_law 30 yX10_told ∈ mm_ok := by first | exact mm_inT (tm_5 (List.mem_of_getElem? (i := 26) rfl)) rfl | exact mm_in 1057 (by decide +kernel) rfl
set_option maxRecDepth 100000 in
theorem cw_z1060 : Cond.code yX10_told cX10_told 2 (some .int) ∈ mm_ok := mm_inT (tm_5 (List.mem_of_getElem? (i := 29) rfl)) rfl
set_option maxRecDepth 100000 in
theorem cw_z1058 : Cond.instanceMethod yX10_told ∈ mm_ok := by first | exact mm_inT (tm_5 (List.mem_of_getElem? (i := 27) rfl)) rfl | exact mm_in 1058 (by decide +kernel) rfl
set_option maxRecDepth 100000 in
theorem cw_z1059 : Cond.selects RX10 yX10_told yX10_told ∈ mm_ok := by first | exact mm_inT (tm_5 (List.mem_of_getElem? (i := 28) rfl)) rfl | exact mm_in 1059 (by decide +kernel) rfl
set_option maxRecDepth 100000 in
theorem cw_z502 : Cond.methodLink R_law 31 yX9_person ∈ mm_ok := by first | exact mm_inT (tm_2 (List.mem_of_getElem? (i := 191) rfl)) rfl | exact mm_in 502 (by decide +kernel) rfl
set_option maxRecDepth 100000 in
theorem cw_z505 : Cond.code yX9_person cX9_person 3 (some .int) ∈ mm_ok := mm_inT (tm_2 (List.mem_of_getElem? (i := 194) rfl)) rfl
set_option maxRecDepth 100000 in
theorem cw_z503 : Cond.instanceMethod yX9_person ∈ mm_ok := by first | exact mm_inT (tm_2 (List.mem_of_getElem? (i := 192) rfl)) rfl | exact mm_in 503 (by decide +kernel) rfl
set_option maxRecDepth 100000 in
theorem cw_z504 : Cond.selects RX9 yX9_person yX9_person ∈ mm_ok := by first | exact mm_inT (tm_2 (List.mem_of_getElem? (i := 193) rfl)) rfl | exact mm_in 504 (by decide +kernel) rfl
set_option maxRecDepth 100000 in
theorem cw_z1077 : Cond.methodLink R_law 35 yX10_person ∈ mm_ok := by first | exact mm_inT (tm_5 (List.mem_of_getElem? (i := 46) rfl)) rfl | exact mm_in 1077 (by decide +kernel) rfl
set_option maxRecDepth 100000 in
theorem cw_z1080 : Cond.code yX10_person cX10_person 3 (some .int) ∈ mm_ok := mm_inT (tm_5 (List.mem_of_getElem? (i := 49) rfl)) rfl
set_option maxRecDepth 100000 in
theorem cw_z1078 : Cond.instanceMethod yX10_person ∈ mm_ok := by first | exact mm_inT (tm_5 (List.mem_of_getElem? (i := 47) rfl)) rfl | exact mm_in 1078 (by decide +kernel) rfl
set_option maxRecDepth 100000 in
theorem cw_z1079 : Cond.selects RX10 yX10_person yX10_person ∈ mm_ok := by first | exact mm_inT (tm_5 (List.mem_of_getElem? (i := 48) rfl)) rfl | exact mm_in 1079 (by decide +kernel) rfl
set_option maxRecDepth 100000 in
theorem cw_z533 : Cond.methodLink R_law 36 yX9_range ∈ mm_ok := by first | exact mm_inT (tm_2 (List.mem_of_getElem? (i := 222) rfl)) rfl | exact mm_in 533 (by decide +kernel) rfl
set_option maxRecDepth 100000 in
theorem cw_z536 : Cond.code yX9_range cX9_range 2 (some .int) ∈ mm_ok := mm_inT (tm_2 (List.mem_of_getElem? (i := 225) rfl)) rfl
set_option maxRecDepth 100000 in
theorem cw_z534 : Cond.instanceMethod yX9_range ∈ mm_ok := by first | exact mm_inT (tm_2 (List.mem_of_getElem? (i := 223) rfl)) rfl | exact mm_in 534 (by decide +kernel) rfl
set_option maxRecDepth 100000 in
theorem cw_z535 : Cond.selects RX9 yX9_range yX9_range ∈ mm_ok := by first | exact mm_inT (tm_2 (List.mem_of_getElem? (i := 224) rfl)) rfl | exact mm_in 535 (by decide +kernel) rfl
set_option maxRecDepth 100000 in
theorem cw_z1090 : Cond.methodLink R_law 39 yX10_range ∈ mm_ok := by first | exact mm_inT (tm_5 (List.mem_of_getElem? (i := 59) rfl)) rfl | exact mm_in 1090 (by decide +kernel) rfl
set_option maxRecDepth 100000 in
theorem cw_z1093 : Cond.code yX10_range cX10_range 2 (some .int) ∈ mm_ok := mm_inT (tm_5 (List.mem_of_getElem? (i := 62) rfl)) rfl
set_option maxRecDepth 100000 in
theorem cw_z1091 : Cond.instanceMethod yX10_range ∈ mm_ok := by first | exact mm_inT (tm_5 (List.mem_of_getElem? (i := 60) rfl)) rfl | exact mm_in 1091 (by decide +kernel) rfl
set_option maxRecDepth 100000 in
theorem cw_z1092 : Cond.selects RX10 yX10_range yX10_range ∈ mm_ok := by first | exact mm_inT (tm_5 (List.mem_of_getElem? (i := 61) rfl)) rfl | exact mm_in 1092 (by decide +kernel) rfl
set_option maxRecDepth 100000 in
theorem cw_z538 : Cond.methodLink R_law 40 yX9_door ∈ mm_ok := by first | exact mm_inT (tm_2 (List.mem_of_getElem? (i := 227) rfl)) rfl | exact mm_in 538 (by decide +kernel) rfl
set_option maxRecDepth 100000 in
theorem cw_z541 : Cond.code yX9_door cX9_door 2 (some .int) ∈ mm_ok := mm_inT (tm_2 (List.mem_of_getElem? (i := 230) rfl)) rfl
set_option maxRecDepth 100000 in
theorem cw_z539 : Cond.instanceMethod yX9_door ∈ mm_ok := by first | exact mm_inT (tm_2 (List.mem_of_getElem? (i := 228) rfl)) rfl | exact mm_in 539 (by decide +kernel) rfl
set_option maxRecDepth 100000 in
theorem cw_z540 : Cond.selects RX9 yX9_door yX9_door ∈ mm_ok := by first | exact mm_inT (tm_2 (List.mem_of_getElem? (i := 229) rfl)) rfl | exact mm_in 540 (by decide +kernel) rfl
set_option maxRecDepth 100000 in
theorem cw_z1094 : Cond.methodLink R_law 43 yX10_door ∈ mm_ok := by first | exact mm_inT (tm_5 (List.mem_of_getElem? (i := 63) rfl)) rfl | exact mm_in 1094 (by decide +kernel) rfl
set_option maxRecDepth 100000 in
theorem cw_z1097 : Cond.code yX10_door cX10_door 2 (some .int) ∈ mm_ok := mm_inT (tm_5 (List.mem_of_getElem? (i := 66) rfl)) rfl
set_option maxRecDepth 100000 in
theorem cw_z1095 : Cond.instanceMethod yX10_door ∈ mm_ok := by first | exact mm_inT (tm_5 (List.mem_of_getElem? (i := 64) rfl)) rfl | exact mm_in 1095 (by decide +kernel) rfl
set_option maxRecDepth 100000 in
theorem cw_z1096 : Cond.selects RX10 yX10_door yX10_door ∈ mm_ok := by first | exact mm_inT (tm_5 (List.mem_of_getElem? (i := 65) rfl)) rfl | exact mm_in 1096 (by decide +kernel) rfl
set_option maxRecDepth 100000 in
theorem cw_z551 : Cond.methodLink R_law 44 yX9_die ∈ mm_ok := by first | exact mm_inT (tm_3 (List.mem_of_getElem? (i := 0) rfl)) rfl | exact mm_in 551 (by decide +kernel) rfl
set_option maxRecDepth 100000 in
theorem cw_z554 : Cond.code yX9_die cX9_die 2 (some .int) ∈ mm_ok := mm_inT (tm_3 (List.mem_of_getElem? (i := 3) rfl)) rfl
set_option maxRecDepth 100000 in
theorem cw_z552 : Cond.instanceMethod yX9_die ∈ mm_ok := by first | exact mm_inT (tm_3 (List.mem_of_getElem? (i := 1) rfl)) rfl | exact mm_in 552 (by decide +kernel) rfl
set_option maxRecDepth 100000 in
theorem cw_z553 : Cond.selects RX9 yX9_die yX9_die ∈ mm_ok := by first | exact mm_inT (tm_3 (List.mem_of_getElem? (i := 2) rfl)) rfl | exact mm_in 553 (by decide +kernel) rfl
set_option maxRecDepth 100000 in
theorem cw_z1098 : Cond.methodLink R_law 47 yX10_die ∈ mm_ok := by first | exact mm_inT (tm_5 (List.mem_of_getElem? (i := 67) rfl)) rfl | exact mm_in 1098 (by decide +kernel) rfl
set_option maxRecDepth 100000 in
theorem cw_z1101 : Cond.code yX10_die cX10_die 2 (some .int) ∈ mm_ok := mm_inT (tm_5 (List.mem_of_getElem? (i := 70) rfl)) rfl
set_option maxRecDepth 100000 in
theorem cw_z1099 : Cond.instanceMethod yX10_die ∈ mm_ok := by first | exact mm_inT (tm_5 (List.mem_of_getElem? (i := 68) rfl)) rfl | exact mm_in 1099 (by decide +kernel) rfl
set_option maxRecDepth 100000 in
theorem cw_z1100 : Cond.selects RX10 yX10_die yX10_die ∈ mm_ok := by first | exact mm_inT (tm_5 (List.mem_of_getElem? (i := 69) rfl)) rfl | exact mm_in 1100 (by decide +kernel) rfl
set_option maxRecDepth 100000 in
theorem cw_z586 : Cond.methodLink R_law 48 yX9_sell ∈ mm_ok := by first | exact mm_inT (tm_3 (List.mem_of_getElem? (i := 35) rfl)) rfl | exact mm_in 586 (by decide +kernel) rfl
set_option maxRecDepth 100000 in
theorem cw_z589 : Cond.code yX9_sell cX9_sell 3 (some .int) ∈ mm_ok := mm_inT (tm_3 (List.mem_of_getElem? (i := 38) rfl)) rfl
set_option maxRecDepth 100000 in
theorem cw_z587 : Cond.instanceMethod yX9_sell ∈ mm_ok := by first | exact mm_inT (tm_3 (List.mem_of_getElem? (i := 36) rfl)) rfl | exact mm_in 587 (by decide +kernel) rfl
set_option maxRecDepth 100000 in
theorem cw_z588 : Cond.selects RX9 yX9_sell yX9_sell ∈ mm_ok := by first | exact mm_inT (tm_3 (List.mem_of_getElem? (i := 37) rfl)) rfl | exact mm_in 588 (by decide +kernel) rfl
set_option maxRecDepth 100000 in
theorem cw_z1122 : Cond.methodLink R_law 51 yX10_sell ∈ mm_ok := by first | exact mm_inT (tm_5 (List.mem_of_getElem? (i := 91) rfl)) rfl | exact mm_in 1122 (by decide +kernel) rfl
set_option maxRecDepth 100000 in
theorem cw_z1125 : Cond.code yX10_sell cX10_sell 3 (some .int) ∈ mm_ok := mm_inT (tm_5 (List.mem_of_getElem? (i := 94) rfl)) rfl
set_option maxRecDepth 100000 in
theorem cw_z1123 : Cond.instanceMethod yX10_sell ∈ mm_ok := by first | exact mm_inT (tm_5 (List.mem_of_getElem? (i := 92) rfl)) rfl | exact mm_in 1123 (by decide +kernel) rfl
set_option maxRecDepth 100000 in
theorem cw_z1124 : Cond.selects RX10 yX10_sell yX10_sell ∈ mm_ok := by first | exact mm_inT (tm_5 (List.mem_of_getElem? (i := 93) rfl)) rfl | exact mm_in 1124 (by decide +kernel) rfl
set_option maxRecDepth 100000 in
theorem cw_z599 : Cond.methodLink R_law 52 yX9_putBy ∈ mm_ok := by first | exact mm_inT (tm_3 (List.mem_of_getElem? (i := 48) rfl)) rfl | exact mm_in 599 (by decide +kernel) rfl
set_option maxRecDepth 100000 in
theorem cw_z602 : Cond.code yX9_putBy cX9_putBy 3 (some .int) ∈ mm_ok := mm_inT (tm_3 (List.mem_of_getElem? (i := 51) rfl)) rfl
set_option maxRecDepth 100000 in
theorem cw_z600 : Cond.instanceMethod yX9_putBy ∈ mm_ok := by first | exact mm_inT (tm_3 (List.mem_of_getElem? (i := 49) rfl)) rfl | exact mm_in 600 (by decide +kernel) rfl
set_option maxRecDepth 100000 in
theorem cw_z601 : Cond.selects RX9 yX9_putBy yX9_putBy ∈ mm_ok := by first | exact mm_inT (tm_3 (List.mem_of_getElem? (i := 50) rfl)) rfl | exact mm_in 601 (by decide +kernel) rfl
set_option maxRecDepth 100000 in
theorem cw_z1137 : Cond.methodLink R_law 55 yX10_putBy ∈ mm_ok := by first | exact mm_inT (tm_5 (List.mem_of_getElem? (i := 106) rfl)) rfl | exact mm_in 1137 (by decide +kernel) rfl
set_option maxRecDepth 100000 in
theorem cw_z1140 : Cond.code yX10_putBy cX10_putBy 4 (some .int) ∈ mm_ok := mm_inT (tm_5 (List.mem_of_getElem? (i := 109) rfl)) rfl
set_option maxRecDepth 100000 in
theorem cw_z1138 : Cond.instanceMethod yX10_putBy ∈ mm_ok := by first | exact mm_inT (tm_5 (List.mem_of_getElem? (i := 107) rfl)) rfl | exact mm_in 1138 (by decide +kernel) rfl
set_option maxRecDepth 100000 in
theorem cw_z1139 : Cond.selects RX10 yX10_putBy yX10_putBy ∈ mm_ok := by first | exact mm_inT (tm_5 (List.mem_of_getElem? (i := 108) rfl)) rfl | exact mm_in 1139 (by decide +kernel) rfl
set_option maxRecDepth 100000 in
theorem cw_z609 : Cond.methodLink R_law 56 yX9_will ∈ mm_ok := by first | exact mm_inT (tm_3 (List.mem_of_getElem? (i := 58) rfl)) rfl | exact mm_in 609 (by decide +kernel) rfl
set_option maxRecDepth 100000 in
theorem cw_z612 : Cond.code yX9_will cX9_will 5 (some .int) ∈ mm_ok := mm_inT (tm_3 (List.mem_of_getElem? (i := 61) rfl)) rfl
set_option maxRecDepth 100000 in
theorem cw_z610 : Cond.instanceMethod yX9_will ∈ mm_ok := by first | exact mm_inT (tm_3 (List.mem_of_getElem? (i := 59) rfl)) rfl | exact mm_in 610 (by decide +kernel) rfl
set_option maxRecDepth 100000 in
theorem cw_z611 : Cond.selects RX9 yX9_will yX9_will ∈ mm_ok := by first | exact mm_inT (tm_3 (List.mem_of_getElem? (i := 60) rfl)) rfl | exact mm_in 611 (by decide +kernel) rfl
set_option maxRecDepth 100000 in
theorem cw_z1145 : Cond.methodLink R_law 60 yX10_will ∈ mm_ok := by first | exact mm_inT (tm_5 (List.mem_of_getElem? (i := 114) rfl)) rfl | exact mm_in 1145 (by decide +kernel) rfl
set_option maxRecDepth 100000 in
theorem cw_z1148 : Cond.code yX10_will cX10_will 5 (some .int) ∈ mm_ok := mm_inT (tm_5 (List.mem_of_getElem? (i := 117) rfl)) rfl
set_option maxRecDepth 100000 in
theorem cw_z1146 : Cond.instanceMethod yX10_will ∈ mm_ok := by first | exact mm_inT (tm_5 (List.mem_of_getElem? (i := 115) rfl)) rfl | exact mm_in 1146 (by decide +kernel) rfl
set_option maxRecDepth 100000 in
theorem cw_z1147 : Cond.selects RX10 yX10_will yX10_will ∈ mm_ok := by first | exact mm_inT (tm_5 (List.mem_of_getElem? (i := 116) rfl)) rfl | exact mm_in 1147 (by decide +kernel) rfl
set_option maxRecDepth 100000 in
theorem cw_z621 : Cond.methodLink R_law 61 yX9_drift ∈ mm_ok := by first | exact mm_inT (tm_3 (List.mem_of_getElem? (i := 70) rfl)) rfl | exact mm_in 621 (by decide +kernel) rfl
set_option maxRecDepth 100000 in
theorem cw_z624 : Cond.code yX9_drift cX9_drift 3 (some .int) ∈ mm_ok := mm_inT (tm_3 (List.mem_of_getElem? (i := 73) rfl)) rfl
set_option maxRecDepth 100000 in
theorem cw_z622 : Cond.instanceMethod yX9_drift ∈ mm_ok := by first | exact mm_inT (tm_3 (List.mem_of_getElem? (i := 71) rfl)) rfl | exact mm_in 622 (by decide +kernel) rfl
set_option maxRecDepth 100000 in
theorem cw_z623 : Cond.selects RX9 yX9_drift yX9_drift ∈ mm_ok := by first | exact mm_inT (tm_3 (List.mem_of_getElem? (i := 72) rfl)) rfl | exact mm_in 623 (by decide +kernel) rfl
set_option maxRecDepth 100000 in
theorem cw_z1153 : Cond.methodLink R_law 64 yX10_drift ∈ mm_ok := by first | exact mm_inT (tm_5 (List.mem_of_getElem? (i := 122) rfl)) rfl | exact mm_in 1153 (by decide +kernel) rfl
set_option maxRecDepth 100000 in
theorem cw_z1156 : Cond.code yX10_drift cX10_drift 7 (some .int) ∈ mm_ok := mm_inT (tm_5 (List.mem_of_getElem? (i := 125) rfl)) rfl
set_option maxRecDepth 100000 in
theorem cw_z1154 : Cond.instanceMethod yX10_drift ∈ mm_ok := by first | exact mm_inT (tm_5 (List.mem_of_getElem? (i := 123) rfl)) rfl | exact mm_in 1154 (by decide +kernel) rfl
set_option maxRecDepth 100000 in
theorem cw_z1155 : Cond.selects RX10 yX10_drift yX10_drift ∈ mm_ok := by first | exact mm_inT (tm_5 (List.mem_of_getElem? (i := 124) rfl)) rfl | exact mm_in 1155 (by decide +kernel) rfl
set_option maxRecDepth 100000 in
theorem cw_z637 : Cond.methodLink R_law 65 yX9_undo ∈ mm_ok := by first | exact mm_inT (tm_3 (List.mem_of_getElem? (i := 86) rfl)) rfl | exact mm_in 637 (by decide +kernel) rfl
set_option maxRecDepth 100000 in
theorem cw_z640 : Cond.code yX9_undo cX9_undo 1 (some .int) ∈ mm_ok := mm_inT (tm_3 (List.mem_of_getElem? (i := 89) rfl)) rfl
set_option maxRecDepth 100000 in
theorem cw_z638 : Cond.instanceMethod yX9_undo ∈ mm_ok := by first | exact mm_inT (tm_3 (List.mem_of_getElem? (i := 87) rfl)) rfl | exact mm_in 638 (by decide +kernel) rfl
set_option maxRecDepth 100000 in
theorem cw_z639 : Cond.selects RX9 yX9_undo yX9_undo ∈ mm_ok := by first | exact mm_inT (tm_3 (List.mem_of_getElem? (i := 88) rfl)) rfl | exact mm_in 639 (by decide +kernel) rfl
set_option maxRecDepth 100000 in
theorem cw_z1166 : Cond.methodLink R_law 68 yX10_undo ∈ mm_ok := by first | exact mm_inT (tm_5 (List.mem_of_getElem? (i := 135) rfl)) rfl | exact mm_in 1166 (by decide +kernel) rfl
set_option maxRecDepth 100000 in
theorem cw_z1169 : Cond.code yX10_undo cX10_undo 1 (some .int) ∈ mm_ok := mm_inT (tm_5 (List.mem_of_getElem? (i := 138) rfl)) rfl
set_option maxRecDepth 100000 in
theorem cw_z1167 : Cond.instanceMethod yX10_undo ∈ mm_ok := by first | exact mm_inT (tm_5 (List.mem_of_getElem? (i := 136) rfl)) rfl | exact mm_in 1167 (by decide +kernel) rfl
set_option maxRecDepth 100000 in
theorem cw_z1168 : Cond.selects RX10 yX10_undo yX10_undo ∈ mm_ok := by first | exact mm_inT (tm_5 (List.mem_of_getElem? (i := 137) rfl)) rfl | exact mm_in 1168 (by decide +kernel) rfl
set_option maxRecDepth 100000 in
theorem cw_z645 : Cond.methodLink R_law 69 yX9_after ∈ mm_ok := by first | exact mm_inT (tm_3 (List.mem_of_getElem? (i := 94) rfl)) rfl | exact mm_in 645 (by decide +kernel) rfl
set_option maxRecDepth 100000 in
theorem cw_z648 : Cond.code yX9_after cX9_after 3 (some .int) ∈ mm_ok := mm_inT (tm_3 (List.mem_of_getElem? (i := 97) rfl)) rfl
set_option maxRecDepth 100000 in
theorem cw_z646 : Cond.instanceMethod yX9_after ∈ mm_ok := by first | exact mm_inT (tm_3 (List.mem_of_getElem? (i := 95) rfl)) rfl | exact mm_in 646 (by decide +kernel) rfl
set_option maxRecDepth 100000 in
theorem cw_z647 : Cond.selects RX9 yX9_after yX9_after ∈ mm_ok := by first | exact mm_inT (tm_3 (List.mem_of_getElem? (i := 96) rfl)) rfl | exact mm_in 647 (by decide +kernel) rfl
set_option maxRecDepth 100000 in
theorem cw_z1170 : Cond.methodLink R_law 72 yX10_after ∈ mm_ok := by first | exact mm_inT (tm_5 (List.mem_of_getElem? (i := 139) rfl)) rfl | exact mm_in 1170 (by decide +kernel) rfl
set_option maxRecDepth 100000 in
theorem cw_z1173 : Cond.code yX10_after cX10_after 3 (some .int) ∈ mm_ok := mm_inT (tm_5 (List.mem_of_getElem? (i := 142) rfl)) rfl
set_option maxRecDepth 100000 in
theorem cw_z1171 : Cond.instanceMethod yX10_after ∈ mm_ok := by first | exact mm_inT (tm_5 (List.mem_of_getElem? (i := 140) rfl)) rfl | exact mm_in 1171 (by decide +kernel) rfl
set_option maxRecDepth 100000 in
theorem cw_z1172 : Cond.selects RX10 yX10_after yX10_after ∈ mm_ok := by first | exact mm_inT (tm_5 (List.mem_of_getElem? (i := 141) rfl)) rfl | exact mm_in 1172 (by decide +kernel) rfl
set_option maxRecDepth 100000 in
theorem cw_z678 : Cond.methodLink R_law 73 yX9_whose ∈ mm_ok := by first | exact mm_inT (tm_3 (List.mem_of_getElem? (i := 127) rfl)) rfl | exact mm_in 678 (by decide +kernel) rfl
set_option maxRecDepth 100000 in
theorem cw_z681 : Cond.code yX9_whose cX9_whose 3 (some .int) ∈ mm_ok := mm_inT (tm_3 (List.mem_of_getElem? (i := 130) rfl)) rfl
set_option maxRecDepth 100000 in
theorem cw_z679 : Cond.instanceMethod yX9_whose ∈ mm_ok := by first | exact mm_inT (tm_3 (List.mem_of_getElem? (i := 128) rfl)) rfl | exact mm_in 679 (by decide +kernel) rfl
set_option maxRecDepth 100000 in
theorem cw_z680 : Cond.selects RX9 yX9_whose yX9_whose ∈ mm_ok := by first | exact mm_inT (tm_3 (List.mem_of_getElem? (i := 129) rfl)) rfl | exact mm_in 680 (by decide +kernel) rfl
set_option maxRecDepth 100000 in
theorem cw_z1186 : Cond.methodLink R_law 76 yX10_whose ∈ mm_ok := by first | exact mm_inT (tm_5 (List.mem_of_getElem? (i := 155) rfl)) rfl | exact mm_in 1186 (by decide +kernel) rfl
set_option maxRecDepth 100000 in
theorem cw_z1189 : Cond.code yX10_whose cX10_whose 4 (some .int) ∈ mm_ok := mm_inT (tm_5 (List.mem_of_getElem? (i := 158) rfl)) rfl
set_option maxRecDepth 100000 in
theorem cw_z1187 : Cond.instanceMethod yX10_whose ∈ mm_ok := by first | exact mm_inT (tm_5 (List.mem_of_getElem? (i := 156) rfl)) rfl | exact mm_in 1187 (by decide +kernel) rfl
set_option maxRecDepth 100000 in
theorem cw_z1188 : Cond.selects RX10 yX10_whose yX10_whose ∈ mm_ok := by first | exact mm_inT (tm_5 (List.mem_of_getElem? (i := 157) rfl)) rfl | exact mm_in 1188 (by decide +kernel) rfl
set_option maxRecDepth 100000 in
theorem cw_z686 : Cond.methodLink R_law 77 yX9_wills ∈ mm_ok := by first | exact mm_inT (tm_3 (List.mem_of_getElem? (i := 135) rfl)) rfl | exact mm_in 686 (by decide +kernel) rfl
set_option maxRecDepth 100000 in
theorem cw_z689 : Cond.code yX9_wills cX9_wills 6 (some .int) ∈ mm_ok := mm_inT (tm_3 (List.mem_of_getElem? (i := 138) rfl)) rfl
set_option maxRecDepth 100000 in
theorem cw_z687 : Cond.instanceMethod yX9_wills ∈ mm_ok := by first | exact mm_inT (tm_3 (List.mem_of_getElem? (i := 136) rfl)) rfl | exact mm_in 687 (by decide +kernel) rfl
set_option maxRecDepth 100000 in
theorem cw_z688 : Cond.selects RX9 yX9_wills yX9_wills ∈ mm_ok := by first | exact mm_inT (tm_3 (List.mem_of_getElem? (i := 137) rfl)) rfl | exact mm_in 688 (by decide +kernel) rfl
set_option maxRecDepth 100000 in
theorem cw_z1190 : Cond.methodLink R_law 81 yX10_wills ∈ mm_ok := by first | exact mm_inT (tm_5 (List.mem_of_getElem? (i := 159) rfl)) rfl | exact mm_in 1190 (by decide +kernel) rfl
set_option maxRecDepth 100000 in
theorem cw_z1193 : Cond.code yX10_wills cX10_wills 10 (some .int) ∈ mm_ok := mm_inT (tm_5 (List.mem_of_getElem? (i := 162) rfl)) rfl
set_option maxRecDepth 100000 in
theorem cw_z1191 : Cond.instanceMethod yX10_wills ∈ mm_ok := by first | exact mm_inT (tm_5 (List.mem_of_getElem? (i := 160) rfl)) rfl | exact mm_in 1191 (by decide +kernel) rfl
set_option maxRecDepth 100000 in
theorem cw_z1192 : Cond.selects RX10 yX10_wills yX10_wills ∈ mm_ok := by first | exact mm_inT (tm_5 (List.mem_of_getElem? (i := 161) rfl)) rfl | exact mm_in 1192 (by decide +kernel) rfl
set_option maxRecDepth 100000 in
theorem cw_z710 : Cond.methodLink R_law 82 yX9_sing ∈ mm_ok := by first | exact mm_inT (tm_3 (List.mem_of_getElem? (i := 159) rfl)) rfl | exact mm_in 710 (by decide +kernel) rfl
set_option maxRecDepth 100000 in
theorem cw_z713 : Cond.code yX9_sing cX9_sing 2 (some .int) ∈ mm_ok := mm_inT (tm_3 (List.mem_of_getElem? (i := 162) rfl)) rfl
set_option maxRecDepth 100000 in
theorem cw_z711 : Cond.instanceMethod yX9_sing ∈ mm_ok := by first | exact mm_inT (tm_3 (List.mem_of_getElem? (i := 160) rfl)) rfl | exact mm_in 711 (by decide +kernel) rfl
set_option maxRecDepth 100000 in
theorem cw_z712 : Cond.selects RX9 yX9_sing yX9_sing ∈ mm_ok := by first | exact mm_inT (tm_3 (List.mem_of_getElem? (i := 161) rfl)) rfl | exact mm_in 712 (by decide +kernel) rfl
set_option maxRecDepth 100000 in
theorem cw_z1205 : Cond.methodLink R_law 85 yX10_sing ∈ mm_ok := by first | exact mm_inT (tm_5 (List.mem_of_getElem? (i := 174) rfl)) rfl | exact mm_in 1205 (by decide +kernel) rfl
set_option maxRecDepth 100000 in
theorem cw_z1208 : Cond.code yX10_sing cX10_sing 5 (some .int) ∈ mm_ok := mm_inT (tm_5 (List.mem_of_getElem? (i := 177) rfl)) rfl
set_option maxRecDepth 100000 in
theorem cw_z1206 : Cond.instanceMethod yX10_sing ∈ mm_ok := by first | exact mm_inT (tm_5 (List.mem_of_getElem? (i := 175) rfl)) rfl | exact mm_in 1206 (by decide +kernel) rfl
set_option maxRecDepth 100000 in
theorem cw_z1207 : Cond.selects RX10 yX10_sing yX10_sing ∈ mm_ok := by first | exact mm_inT (tm_5 (List.mem_of_getElem? (i := 176) rfl)) rfl | exact mm_in 1207 (by decide +kernel) rfl
set_option maxRecDepth 100000 in
theorem cw_z761 : Cond.methodLink R_law 86 yX9_bid ∈ mm_ok := by first | exact mm_inT (tm_3 (List.mem_of_getElem? (i := 210) rfl)) rfl | exact mm_in 761 (by decide +kernel) rfl
set_option maxRecDepth 100000 in
theorem cw_z764 : Cond.code yX9_bid cX9_bid 4 (some .int) ∈ mm_ok := mm_inT (tm_3 (List.mem_of_getElem? (i := 213) rfl)) rfl
set_option maxRecDepth 100000 in
theorem cw_z762 : Cond.instanceMethod yX9_bid ∈ mm_ok := by first | exact mm_inT (tm_3 (List.mem_of_getElem? (i := 211) rfl)) rfl | exact mm_in 762 (by decide +kernel) rfl
set_option maxRecDepth 100000 in
theorem cw_z763 : Cond.selects RX9 yX9_bid yX9_bid ∈ mm_ok := by first | exact mm_inT (tm_3 (List.mem_of_getElem? (i := 212) rfl)) rfl | exact mm_in 763 (by decide +kernel) rfl
set_option maxRecDepth 100000 in
theorem cw_z1225 : Cond.methodLink R_law 89 yX10_bid ∈ mm_ok := by first | exact mm_inT (tm_5 (List.mem_of_getElem? (i := 194) rfl)) rfl | exact mm_in 1225 (by decide +kernel) rfl
set_option maxRecDepth 100000 in
theorem cw_z1228 : Cond.code yX10_bid cX10_bid 4 (some .int) ∈ mm_ok := mm_inT (tm_5 (List.mem_of_getElem? (i := 197) rfl)) rfl
set_option maxRecDepth 100000 in
theorem cw_z1226 : Cond.instanceMethod yX10_bid ∈ mm_ok := by first | exact mm_inT (tm_5 (List.mem_of_getElem? (i := 195) rfl)) rfl | exact mm_in 1226 (by decide +kernel) rfl
set_option maxRecDepth 100000 in
theorem cw_z1227 : Cond.selects RX10 yX10_bid yX10_bid ∈ mm_ok := by first | exact mm_inT (tm_5 (List.mem_of_getElem? (i := 196) rfl)) rfl | exact mm_in 1227 (by decide +kernel) rfl
set_option maxRecDepth 100000 in
theorem cw_z765 : Cond.methodLink R_law 90 yX9_live ∈ mm_ok := by first | exact mm_inT (tm_3 (List.mem_of_getElem? (i := 214) rfl)) rfl | exact mm_in 765 (by decide +kernel) rfl
set_option maxRecDepth 100000 in
theorem cw_z768 : Cond.code yX9_live cX9_live 8 (some .int) ∈ mm_ok := mm_inT (tm_3 (List.mem_of_getElem? (i := 217) rfl)) rfl
set_option maxRecDepth 100000 in
theorem cw_z766 : Cond.instanceMethod yX9_live ∈ mm_ok := by first | exact mm_inT (tm_3 (List.mem_of_getElem? (i := 215) rfl)) rfl | exact mm_in 766 (by decide +kernel) rfl
set_option maxRecDepth 100000 in
theorem cw_z767 : Cond.selects RX9 yX9_live yX9_live ∈ mm_ok := by first | exact mm_inT (tm_3 (List.mem_of_getElem? (i := 216) rfl)) rfl | exact mm_in 767 (by decide +kernel) rfl
set_option maxRecDepth 100000 in
theorem cw_z1230 : Cond.methodLink R_law 93 yX10_live ∈ mm_ok := by first | exact mm_inT (tm_5 (List.mem_of_getElem? (i := 199) rfl)) rfl | exact mm_in 1230 (by decide +kernel) rfl
set_option maxRecDepth 100000 in
theorem cw_z1233 : Cond.code yX10_live cX10_live 7 (some .int) ∈ mm_ok := mm_inT (tm_5 (List.mem_of_getElem? (i := 202) rfl)) rfl
set_option maxRecDepth 100000 in
theorem cw_z1231 : Cond.instanceMethod yX10_live ∈ mm_ok := by first | exact mm_inT (tm_5 (List.mem_of_getElem? (i := 200) rfl)) rfl | exact mm_in 1231 (by decide +kernel) rfl
set_option maxRecDepth 100000 in
theorem cw_z1232 : Cond.selects RX10 yX10_live yX10_live ∈ mm_ok := by first | exact mm_inT (tm_5 (List.mem_of_getElem? (i := 201) rfl)) rfl | exact mm_in 1232 (by decide +kernel) rfl
set_option maxRecDepth 100000 in
theorem cw_z779 : Cond.methodLink R_law 94 yX9_see ∈ mm_ok := by first | exact mm_inT (tm_3 (List.mem_of_getElem? (i := 228) rfl)) rfl | exact mm_in 779 (by decide +kernel) rfl
set_option maxRecDepth 100000 in
theorem cw_z782 : Cond.code yX9_see cX9_see 3 (some .int) ∈ mm_ok := mm_inT (tm_3 (List.mem_of_getElem? (i := 231) rfl)) rfl
set_option maxRecDepth 100000 in
theorem cw_z780 : Cond.instanceMethod yX9_see ∈ mm_ok := by first | exact mm_inT (tm_3 (List.mem_of_getElem? (i := 229) rfl)) rfl | exact mm_in 780 (by decide +kernel) rfl
set_option maxRecDepth 100000 in
theorem cw_z781 : Cond.selects RX9 yX9_see yX9_see ∈ mm_ok := by first | exact mm_inT (tm_3 (List.mem_of_getElem? (i := 230) rfl)) rfl | exact mm_in 781 (by decide +kernel) rfl
set_option maxRecDepth 100000 in
theorem cw_z1240 : Cond.methodLink R_law 98 yX10_see ∈ mm_ok := by first | exact mm_inT (tm_5 (List.mem_of_getElem? (i := 209) rfl)) rfl | exact mm_in 1240 (by decide +kernel) rfl
set_option maxRecDepth 100000 in
theorem cw_z1243 : Cond.code yX10_see cX10_see 3 (some .int) ∈ mm_ok := mm_inT (tm_5 (List.mem_of_getElem? (i := 212) rfl)) rfl
set_option maxRecDepth 100000 in
theorem cw_z1241 : Cond.instanceMethod yX10_see ∈ mm_ok := by first | exact mm_inT (tm_5 (List.mem_of_getElem? (i := 210) rfl)) rfl | exact mm_in 1241 (by decide +kernel) rfl
set_option maxRecDepth 100000 in
theorem cw_z1242 : Cond.selects RX10 yX10_see yX10_see ∈ mm_ok := by first | exact mm_inT (tm_5 (List.mem_of_getElem? (i := 211) rfl)) rfl | exact mm_in 1242 (by decide +kernel) rfl
set_option maxRecDepth 100000 in
theorem cw_z787 : Cond.methodLink R_law 99 yX9_spoke ∈ mm_ok := by first | exact mm_inT (tm_3 (List.mem_of_getElem? (i := 236) rfl)) rfl | exact mm_in 787 (by decide +kernel) rfl
set_option maxRecDepth 100000 in
theorem cw_z790 : Cond.code yX9_spoke cX9_spoke 2 (some .int) ∈ mm_ok := mm_inT (tm_3 (List.mem_of_getElem? (i := 239) rfl)) rfl
set_option maxRecDepth 100000 in
theorem cw_z788 : Cond.instanceMethod yX9_spoke ∈ mm_ok := by first | exact mm_inT (tm_3 (List.mem_of_getElem? (i := 237) rfl)) rfl | exact mm_in 788 (by decide +kernel) rfl
set_option maxRecDepth 100000 in
theorem cw_z789 : Cond.selects RX9 yX9_spoke yX9_spoke ∈ mm_ok := by first | exact mm_inT (tm_3 (List.mem_of_getElem? (i := 238) rfl)) rfl | exact mm_in 789 (by decide +kernel) rfl
set_option maxRecDepth 100000 in
theorem cw_z1244 : Cond.methodLink R_law 102 yX10_spoke ∈ mm_ok := by first | exact mm_inT (tm_5 (List.mem_of_getElem? (i := 213) rfl)) rfl | exact mm_in 1244 (by decide +kernel) rfl
set_option maxRecDepth 100000 in
theorem cw_z1247 : Cond.code yX10_spoke cX10_spoke 5 (some .int) ∈ mm_ok := mm_inT (tm_5 (List.mem_of_getElem? (i := 216) rfl)) rfl
set_option maxRecDepth 100000 in
theorem cw_z1245 : Cond.instanceMethod yX10_spoke ∈ mm_ok := by first | exact mm_inT (tm_5 (List.mem_of_getElem? (i := 214) rfl)) rfl | exact mm_in 1245 (by decide +kernel) rfl
set_option maxRecDepth 100000 in
theorem cw_z1246 : Cond.selects RX10 yX10_spoke yX10_spoke ∈ mm_ok := by first | exact mm_inT (tm_5 (List.mem_of_getElem? (i := 215) rfl)) rfl | exact mm_in 1246 (by decide +kernel) rfl
set_option maxRecDepth 100000 in
theorem cw_z807 : Cond.methodLink R_law 103 yX9_knock ∈ mm_ok := by first | exact mm_inT (tm_4 (List.mem_of_getElem? (i := 16) rfl)) rfl | exact mm_in 807 (by decide +kernel) rfl
set_option maxRecDepth 100000 in
theorem cw_z810 : Cond.code yX9_knock cX9_knock 7 (some .int) ∈ mm_ok := mm_inT (tm_4 (List.mem_of_getElem? (i := 19) rfl)) rfl
set_option maxRecDepth 100000 in
theorem cw_z808 : Cond.instanceMethod yX9_knock ∈ mm_ok := by first | exact mm_inT (tm_4 (List.mem_of_getElem? (i := 17) rfl)) rfl | exact mm_in 808 (by decide +kernel) rfl
set_option maxRecDepth 100000 in
theorem cw_z809 : Cond.selects RX9 yX9_knock yX9_knock ∈ mm_ok := by first | exact mm_inT (tm_4 (List.mem_of_getElem? (i := 18) rfl)) rfl | exact mm_in 809 (by decide +kernel) rfl
set_option maxRecDepth 100000 in
theorem cw_z1252 : Cond.methodLink R_law 106 yX10_knock ∈ mm_ok := by first | exact mm_inT (tm_5 (List.mem_of_getElem? (i := 221) rfl)) rfl | exact mm_in 1252 (by decide +kernel) rfl
set_option maxRecDepth 100000 in
theorem cw_z1255 : Cond.code yX10_knock cX10_knock 8 (some .int) ∈ mm_ok := mm_inT (tm_5 (List.mem_of_getElem? (i := 224) rfl)) rfl
set_option maxRecDepth 100000 in
theorem cw_z1253 : Cond.instanceMethod yX10_knock ∈ mm_ok := by first | exact mm_inT (tm_5 (List.mem_of_getElem? (i := 222) rfl)) rfl | exact mm_in 1253 (by decide +kernel) rfl
set_option maxRecDepth 100000 in
theorem cw_z1254 : Cond.selects RX10 yX10_knock yX10_knock ∈ mm_ok := by first | exact mm_inT (tm_5 (List.mem_of_getElem? (i := 223) rfl)) rfl | exact mm_in 1254 (by decide +kernel) rfl
set_option maxRecDepth 100000 in
theorem cw_z812 : Cond.methodLink R_law 107 yX9_has ∈ mm_ok := by first | exact mm_inT (tm_4 (List.mem_of_getElem? (i := 21) rfl)) rfl | exact mm_in 812 (by decide +kernel) rfl
set_option maxRecDepth 100000 in
theorem cw_z815 : Cond.code yX9_has cX9_has 3 (some .int) ∈ mm_ok := mm_inT (tm_4 (List.mem_of_getElem? (i := 24) rfl)) rfl
set_option maxRecDepth 100000 in
theorem cw_z813 : Cond.instanceMethod yX9_has ∈ mm_ok := by first | exact mm_inT (tm_4 (List.mem_of_getElem? (i := 22) rfl)) rfl | exact mm_in 813 (by decide +kernel) rfl
set_option maxRecDepth 100000 in
theorem cw_z814 : Cond.selects RX9 yX9_has yX9_has ∈ mm_ok := by first | exact mm_inT (tm_4 (List.mem_of_getElem? (i := 23) rfl)) rfl | exact mm_in 814 (by decide +kernel) rfl
set_option maxRecDepth 100000 in
theorem cw_z1256 : Cond.methodLink R_law 110 yX10_has ∈ mm_ok := by first | exact mm_inT (tm_5 (List.mem_of_getElem? (i := 225) rfl)) rfl | exact mm_in 1256 (by decide +kernel) rfl
set_option maxRecDepth 100000 in
theorem cw_z1259 : Cond.code yX10_has cX10_has 3 (some .int) ∈ mm_ok := mm_inT (tm_5 (List.mem_of_getElem? (i := 228) rfl)) rfl
set_option maxRecDepth 100000 in
theorem cw_z1257 : Cond.instanceMethod yX10_has ∈ mm_ok := by first | exact mm_inT (tm_5 (List.mem_of_getElem? (i := 226) rfl)) rfl | exact mm_in 1257 (by decide +kernel) rfl
set_option maxRecDepth 100000 in
theorem cw_z1258 : Cond.selects RX10 yX10_has yX10_has ∈ mm_ok := by first | exact mm_inT (tm_5 (List.mem_of_getElem? (i := 227) rfl)) rfl | exact mm_in 1258 (by decide +kernel) rfl
set_option maxRecDepth 100000 in
theorem cw_z819 : Cond.methodLink R_law 111 yX9_orders ∈ mm_ok := by first | exact mm_inT (tm_4 (List.mem_of_getElem? (i := 28) rfl)) rfl | exact mm_in 819 (by decide +kernel) rfl
set_option maxRecDepth 100000 in
theorem cw_z822 : Cond.code yX9_orders cX9_orders 3 (some .int) ∈ mm_ok := mm_inT (tm_4 (List.mem_of_getElem? (i := 31) rfl)) rfl
set_option maxRecDepth 100000 in
theorem cw_z820 : Cond.instanceMethod yX9_orders ∈ mm_ok := by first | exact mm_inT (tm_4 (List.mem_of_getElem? (i := 29) rfl)) rfl | exact mm_in 820 (by decide +kernel) rfl
set_option maxRecDepth 100000 in
theorem cw_z821 : Cond.selects RX9 yX9_orders yX9_orders ∈ mm_ok := by first | exact mm_inT (tm_4 (List.mem_of_getElem? (i := 30) rfl)) rfl | exact mm_in 821 (by decide +kernel) rfl
set_option maxRecDepth 100000 in
theorem cw_z1263 : Cond.methodLink R_law 114 yX10_orders ∈ mm_ok := by first | exact mm_inT (tm_5 (List.mem_of_getElem? (i := 232) rfl)) rfl | exact mm_in 1263 (by decide +kernel) rfl
set_option maxRecDepth 100000 in
theorem cw_z1266 : Cond.code yX10_orders cX10_orders 8 (some .int) ∈ mm_ok := mm_inT (tm_5 (List.mem_of_getElem? (i := 235) rfl)) rfl
set_option maxRecDepth 100000 in
theorem cw_z1264 : Cond.instanceMethod yX10_orders ∈ mm_ok := by first | exact mm_inT (tm_5 (List.mem_of_getElem? (i := 233) rfl)) rfl | exact mm_in 1264 (by decide +kernel) rfl
set_option maxRecDepth 100000 in
theorem cw_z1265 : Cond.selects RX10 yX10_orders yX10_orders ∈ mm_ok := by first | exact mm_inT (tm_5 (List.mem_of_getElem? (i := 234) rfl)) rfl | exact mm_in 1265 (by decide +kernel) rfl
set_option maxRecDepth 100000 in
theorem cw_z867 : Cond.methodLink R_law 115 yX9_write ∈ mm_ok := by first | exact mm_inT (tm_4 (List.mem_of_getElem? (i := 76) rfl)) rfl | exact mm_in 867 (by decide +kernel) rfl
set_option maxRecDepth 100000 in
theorem cw_z870 : Cond.code yX9_write cX9_write 3 (some .int) ∈ mm_ok := mm_inT (tm_4 (List.mem_of_getElem? (i := 79) rfl)) rfl
set_option maxRecDepth 100000 in
theorem cw_z868 : Cond.instanceMethod yX9_write ∈ mm_ok := by first | exact mm_inT (tm_4 (List.mem_of_getElem? (i := 77) rfl)) rfl | exact mm_in 868 (by decide +kernel) rfl
set_option maxRecDepth 100000 in
theorem cw_z869 : Cond.selects RX9 yX9_write yX9_write ∈ mm_ok := by first | exact mm_inT (tm_4 (List.mem_of_getElem? (i := 78) rfl)) rfl | exact mm_in 869 (by decide +kernel) rfl
set_option maxRecDepth 100000 in
theorem cw_z1271 : Cond.methodLink R_law 118 yX10_write ∈ mm_ok := by first | exact mm_inT (tm_6 (List.mem_of_getElem? (i := 0) rfl)) rfl | exact mm_in 1271 (by decide +kernel) rfl
set_option maxRecDepth 100000 in
theorem cw_z1274 : Cond.code yX10_write cX10_write 3 (some .int) ∈ mm_ok := mm_inT (tm_6 (List.mem_of_getElem? (i := 3) rfl)) rfl
set_option maxRecDepth 100000 in
theorem cw_z1272 : Cond.instanceMethod yX10_write ∈ mm_ok := by first | exact mm_inT (tm_6 (List.mem_of_getElem? (i := 1) rfl)) rfl | exact mm_in 1272 (by decide +kernel) rfl
set_option maxRecDepth 100000 in
theorem cw_z1273 : Cond.selects RX10 yX10_write yX10_write ∈ mm_ok := by first | exact mm_inT (tm_6 (List.mem_of_getElem? (i := 2) rfl)) rfl | exact mm_in 1273 (by decide +kernel) rfl
set_option maxRecDepth 100000 in
theorem cw_z871 : Cond.methodLink R_law 119 yX9_tear ∈ mm_ok := by first | exact mm_inT (tm_4 (List.mem_of_getElem? (i := 80) rfl)) rfl | exact mm_in 871 (by decide +kernel) rfl
set_option maxRecDepth 100000 in
theorem cw_z874 : Cond.code yX9_tear cX9_tear 2 (some .int) ∈ mm_ok := mm_inT (tm_4 (List.mem_of_getElem? (i := 83) rfl)) rfl
set_option maxRecDepth 100000 in
theorem cw_z872 : Cond.instanceMethod yX9_tear ∈ mm_ok := by first | exact mm_inT (tm_4 (List.mem_of_getElem? (i := 81) rfl)) rfl | exact mm_in 872 (by decide +kernel) rfl
set_option maxRecDepth 100000 in
theorem cw_z873 : Cond.selects RX9 yX9_tear yX9_tear ∈ mm_ok := by first | exact mm_inT (tm_4 (List.mem_of_getElem? (i := 82) rfl)) rfl | exact mm_in 873 (by decide +kernel) rfl
set_option maxRecDepth 100000 in
theorem cw_z1275 : Cond.methodLink R_law 122 yX10_tear ∈ mm_ok := by first | exact mm_inT (tm_6 (List.mem_of_getElem? (i := 4) rfl)) rfl | exact mm_in 1275 (by decide +kernel) rfl
set_option maxRecDepth 100000 in
theorem cw_z1278 : Cond.code yX10_tear cX10_tear 2 (some .int) ∈ mm_ok := mm_inT (tm_6 (List.mem_of_getElem? (i := 7) rfl)) rfl
set_option maxRecDepth 100000 in
theorem cw_z1276 : Cond.instanceMethod yX10_tear ∈ mm_ok := by first | exact mm_inT (tm_6 (List.mem_of_getElem? (i := 5) rfl)) rfl | exact mm_in 1276 (by decide +kernel) rfl
set_option maxRecDepth 100000 in
theorem cw_z1277 : Cond.selects RX10 yX10_tear yX10_tear ∈ mm_ok := by first | exact mm_inT (tm_6 (List.mem_of_getElem? (i := 6) rfl)) rfl | exact mm_in 1277 (by decide +kernel) rfl
set_option maxRecDepth 100000 in
theorem cw_z875 : Cond.methodLink R_law 123 yX9_judge ∈ mm_ok := by first | exact mm_inT (tm_4 (List.mem_of_getElem? (i := 84) rfl)) rfl | exact mm_in 875 (by decide +kernel) rfl
set_option maxRecDepth 100000 in
theorem cw_z878 : Cond.code yX9_judge cX9_judge 1 (some .int) ∈ mm_ok := mm_inT (tm_4 (List.mem_of_getElem? (i := 87) rfl)) rfl
set_option maxRecDepth 100000 in
theorem cw_z876 : Cond.instanceMethod yX9_judge ∈ mm_ok := by first | exact mm_inT (tm_4 (List.mem_of_getElem? (i := 85) rfl)) rfl | exact mm_in 876 (by decide +kernel) rfl
set_option maxRecDepth 100000 in
theorem cw_z877 : Cond.selects RX9 yX9_judge yX9_judge ∈ mm_ok := by first | exact mm_inT (tm_4 (List.mem_of_getElem? (i := 86) rfl)) rfl | exact mm_in 877 (by decide +kernel) rfl
set_option maxRecDepth 100000 in
theorem cw_z1279 : Cond.methodLink R_law 126 yX10_judge ∈ mm_ok := by first | exact mm_inT (tm_6 (List.mem_of_getElem? (i := 8) rfl)) rfl | exact mm_in 1279 (by decide +kernel) rfl
set_option maxRecDepth 100000 in
theorem cw_z1282 : Cond.code yX10_judge cX10_judge 2 (some .int) ∈ mm_ok := mm_inT (tm_6 (List.mem_of_getElem? (i := 11) rfl)) rfl
set_option maxRecDepth 100000 in
theorem cw_z1280 : Cond.instanceMethod yX10_judge ∈ mm_ok := by first | exact mm_inT (tm_6 (List.mem_of_getElem? (i := 9) rfl)) rfl | exact mm_in 1280 (by decide +kernel) rfl
set_option maxRecDepth 100000 in
theorem cw_z1281 : Cond.selects RX10 yX10_judge yX10_judge ∈ mm_ok := by first | exact mm_inT (tm_6 (List.mem_of_getElem? (i := 10) rfl)) rfl | exact mm_in 1281 (by decide +kernel) rfl
set_option maxRecDepth 100000 in
theorem cw_z879 : Cond.methodLink R_law 127 yX9_seed ∈ mm_ok := by first | exact mm_inT (tm_4 (List.mem_of_getElem? (i := 88) rfl)) rfl | exact mm_in 879 (by decide +kernel) rfl
set_option maxRecDepth 100000 in
theorem cw_z882 : Cond.code yX9_seed cX9_seed 3 (some .int) ∈ mm_ok := mm_inT (tm_4 (List.mem_of_getElem? (i := 91) rfl)) rfl
set_option maxRecDepth 100000 in
theorem cw_z880 : Cond.instanceMethod yX9_seed ∈ mm_ok := by first | exact mm_inT (tm_4 (List.mem_of_getElem? (i := 89) rfl)) rfl | exact mm_in 880 (by decide +kernel) rfl
set_option maxRecDepth 100000 in
theorem cw_z881 : Cond.selects RX9 yX9_seed yX9_seed ∈ mm_ok := by first | exact mm_inT (tm_4 (List.mem_of_getElem? (i := 90) rfl)) rfl | exact mm_in 881 (by decide +kernel) rfl
set_option maxRecDepth 100000 in
theorem cw_z1283 : Cond.methodLink R_law 130 yX10_seed ∈ mm_ok := by first | exact mm_inT (tm_6 (List.mem_of_getElem? (i := 12) rfl)) rfl | exact mm_in 1283 (by decide +kernel) rfl
set_option maxRecDepth 100000 in
theorem cw_z1286 : Cond.code yX10_seed cX10_seed 3 (some .int) ∈ mm_ok := mm_inT (tm_6 (List.mem_of_getElem? (i := 15) rfl)) rfl
set_option maxRecDepth 100000 in
theorem cw_z1284 : Cond.instanceMethod yX10_seed ∈ mm_ok := by first | exact mm_inT (tm_6 (List.mem_of_getElem? (i := 13) rfl)) rfl | exact mm_in 1284 (by decide +kernel) rfl
set_option maxRecDepth 100000 in
theorem cw_z1285 : Cond.selects RX10 yX10_seed yX10_seed ∈ mm_ok := by first | exact mm_inT (tm_6 (List.mem_of_getElem? (i := 14) rfl)) rfl | exact mm_in 1285 (by decide +kernel) rfl
set_option maxRecDepth 100000 in
theorem cw_z883 : Cond.methodLink R_law 131 yX9_keep ∈ mm_ok := by first | exact mm_inT (tm_4 (List.mem_of_getElem? (i := 92) rfl)) rfl | exact mm_in 883 (by decide +kernel) rfl
set_option maxRecDepth 100000 in
theorem cw_z886 : Cond.code yX9_keep cX9_keep 3 (some .int) ∈ mm_ok := mm_inT (tm_4 (List.mem_of_getElem? (i := 95) rfl)) rfl
set_option maxRecDepth 100000 in
theorem cw_z884 : Cond.instanceMethod yX9_keep ∈ mm_ok := by first | exact mm_inT (tm_4 (List.mem_of_getElem? (i := 93) rfl)) rfl | exact mm_in 884 (by decide +kernel) rfl
set_option maxRecDepth 100000 in
theorem cw_z885 : Cond.selects RX9 yX9_keep yX9_keep ∈ mm_ok := by first | exact mm_inT (tm_4 (List.mem_of_getElem? (i := 94) rfl)) rfl | exact mm_in 885 (by decide +kernel) rfl
set_option maxRecDepth 100000 in
theorem cw_z1287 : Cond.methodLink R_law 134 yX10_keep ∈ mm_ok := by first | exact mm_inT (tm_6 (List.mem_of_getElem? (i := 16) rfl)) rfl | exact mm_in 1287 (by decide +kernel) rfl
set_option maxRecDepth 100000 in
theorem cw_z1290 : Cond.code yX10_keep cX10_keep 2 (some .int) ∈ mm_ok := mm_inT (tm_6 (List.mem_of_getElem? (i := 19) rfl)) rfl
set_option maxRecDepth 100000 in
theorem cw_z1288 : Cond.instanceMethod yX10_keep ∈ mm_ok := by first | exact mm_inT (tm_6 (List.mem_of_getElem? (i := 17) rfl)) rfl | exact mm_in 1288 (by decide +kernel) rfl
set_option maxRecDepth 100000 in
theorem cw_z1289 : Cond.selects RX10 yX10_keep yX10_keep ∈ mm_ok := by first | exact mm_inT (tm_6 (List.mem_of_getElem? (i := 18) rfl)) rfl | exact mm_in 1289 (by decide +kernel) rfl
set_option maxRecDepth 100000 in
theorem cw_z891 : Cond.methodLink R_law 135 yX9_goBack ∈ mm_ok := by first | exact mm_inT (tm_4 (List.mem_of_getElem? (i := 100) rfl)) rfl | exact mm_in 891 (by decide +kernel) rfl
set_option maxRecDepth 100000 in
theorem cw_z894 : Cond.code yX9_goBack cX9_goBack 3 (some .int) ∈ mm_ok := mm_inT (tm_4 (List.mem_of_getElem? (i := 103) rfl)) rfl
set_option maxRecDepth 100000 in
theorem cw_z892 : Cond.instanceMethod yX9_goBack ∈ mm_ok := by first | exact mm_inT (tm_4 (List.mem_of_getElem? (i := 101) rfl)) rfl | exact mm_in 892 (by decide +kernel) rfl
set_option maxRecDepth 100000 in
theorem cw_z893 : Cond.selects RX9 yX9_goBack yX9_goBack ∈ mm_ok := by first | exact mm_inT (tm_4 (List.mem_of_getElem? (i := 102) rfl)) rfl | exact mm_in 893 (by decide +kernel) rfl
set_option maxRecDepth 100000 in
theorem cw_z1291 : Cond.methodLink R_law 138 yX10_goBack ∈ mm_ok := by first | exact mm_inT (tm_6 (List.mem_of_getElem? (i := 20) rfl)) rfl | exact mm_in 1291 (by decide +kernel) rfl
set_option maxRecDepth 100000 in
theorem cw_z1294 : Cond.code yX10_goBack cX10_goBack 2 (some .int) ∈ mm_ok := mm_inT (tm_6 (List.mem_of_getElem? (i := 23) rfl)) rfl
set_option maxRecDepth 100000 in
theorem cw_z1292 : Cond.instanceMethod yX10_goBack ∈ mm_ok := by first | exact mm_inT (tm_6 (List.mem_of_getElem? (i := 21) rfl)) rfl | exact mm_in 1292 (by decide +kernel) rfl
set_option maxRecDepth 100000 in
theorem cw_z1293 : Cond.selects RX10 yX10_goBack yX10_goBack ∈ mm_ok := by first | exact mm_inT (tm_6 (List.mem_of_getElem? (i := 22) rfl)) rfl | exact mm_in 1293 (by decide +kernel) rfl
set_option maxRecDepth 100000 in
theorem cw_z85 : Cond.classLink R_law 7 RX9 ∈ mm_ok := by first | exact mm_inT (tm_1 (List.mem_of_getElem? (i := 14) rfl)) rfl | exact mm_in 85 (by decide +kernel) rfl
set_option maxRecDepth 100000 in
theorem cw_z895 : Cond.classLink R_law 10 RX10 ∈ mm_ok := by first | exact mm_inT (tm_4 (List.mem_of_getElem? (i := 104) rfl)) rfl | exact mm_in 895 (by decide +kernel) rfl
set_option maxRecDepth 100000 in
theorem cw_z87 : Cond.methodLink R_law 9 yX9_init ∈ mm_ok := by first | exact mm_inT (tm_1 (List.mem_of_getElem? (i := 16) rfl)) rfl | exact mm_in 87 (by decide +kernel) rfl
set_option maxRecDepth 100000 in
theorem cw_z897 : Cond.methodLink R_law 12 yX10_init ∈ mm_ok := by first | exact mm_inT (tm_4 (List.mem_of_getElem? (i := 106) rfl)) rfl | exact mm_in 897 (by decide +kernel) rfl
set_option maxRecDepth 100000 in
theorem cw_z89 : Cond.code yX9_init cX9_init 2 none ∈ mm_ok := mm_inT (tm_1 (List.mem_of_getElem? (i := 18) rfl)) rfl
set_option maxRecDepth 100000 in
theorem cw_z88 : Cond.instanceMethod yX9_init ∈ mm_ok := by first | exact mm_inT (tm_1 (List.mem_of_getElem? (i := 17) rfl)) rfl | exact mm_in 88 (by decide +kernel) rfl
set_option maxRecDepth 100000 in
theorem cw_z899 : Cond.code yX10_init cX10_init 1 none ∈ mm_ok := mm_inT (tm_4 (List.mem_of_getElem? (i := 108) rfl)) rfl
set_option maxRecDepth 100000 in
theorem cw_z898 : Cond.instanceMethod yX10_init ∈ mm_ok := by first | exact mm_inT (tm_4 (List.mem_of_getElem? (i := 107) rfl)) rfl | exact mm_in 898 (by decide +kernel) rfl
theorem lm_13 : Cond.methodLink R_law 13 yX9_feed ∈ mm_ok := cw_z338
theorem tl_X9_feed : mm_mi yX9_feed cX9_feed 2 (some .int) 1 := ⟨cw_z341, cw_z339, cw_z340, cw_z72, ncm_RX9, ncv_RX9, pd_3⟩
theorem lm_17 : Cond.methodLink R_law 17 yX10_feed ∈ mm_ok := cw_z993
theorem tl_X10_feed : mm_mi yX10_feed cX10_feed 2 (some .int) 1 := ⟨cw_z996, cw_z994, cw_z995, cw_z83, ncm_RX10, ncv_RX10, pd_3⟩
theorem lm_18 : Cond.methodLink R_law 18 yX9_parish ∈ mm_ok := cw_z348
theorem tl_X9_parish : mm_mi yX9_parish cX9_parish 3 (some .int) 0 := ⟨cw_z351, cw_z349, cw_z350, cw_z72, ncm_RX9, ncv_RX9, pd_0⟩
theorem lm_22 : Cond.methodLink R_law 22 yX10_parish ∈ mm_ok := cw_z1000
theorem tl_X10_parish : mm_mi yX10_parish cX10_parish 2 (some .int) 0 := ⟨cw_z1003, cw_z1001, cw_z1002, cw_z83, ncm_RX10, ncv_RX10, pd_0⟩
theorem lm_23 : Cond.methodLink R_law 23 yX9_fault ∈ mm_ok := cw_z474
theorem tl_X9_fault : mm_mi yX9_fault cX9_fault 1 (some .int) 0 := ⟨cw_z477, cw_z475, cw_z476, cw_z72, ncm_RX9, ncv_RX9, pd_0⟩
theorem lm_26 : Cond.methodLink R_law 26 yX10_fault ∈ mm_ok := cw_z1053
theorem tl_X10_fault : mm_mi yX10_fault cX10_fault 1 (some .int) 0 := ⟨cw_z1056, cw_z1054, cw_z1055, cw_z83, ncm_RX10, ncv_RX10, pd_0⟩
theorem lm_27 : Cond.methodLink R_law 27 yX9_told ∈ mm_ok := cw_z478
theorem tl_X9_told : mm_mi yX9_told cX9_told 2 (some .int) 1 := ⟨cw_z481, cw_z479, cw_z480, cw_z72, ncm_RX9, ncv_RX9, pd_3⟩
theorem lm_30 : Cond.methodLink R_law 30 yX10_told ∈ mm_ok := cw_z1057
theorem tl_X10_told : mm_mi yX10_told cX10_told 2 (some .int) 1 := ⟨cw_z1060, cw_z1058, cw_z1059, cw_z83, ncm_RX10, ncv_RX10, pd_3⟩
theorem lm_31 : Cond.methodLink R_law 31 yX9_person ∈ mm_ok := cw_z502
theorem tl_X9_person : mm_mi yX9_person cX9_person 3 (some .int) 2 := ⟨cw_z505, cw_z503, cw_z504, cw_z72, ncm_RX9, ncv_RX9, pd_7⟩
theorem lm_35 : Cond.methodLink R_law 35 yX10_person ∈ mm_ok := cw_z1077
theorem tl_X10_person : mm_mi yX10_person cX10_person 3 (some .int) 2 := ⟨cw_z1080, cw_z1078, cw_z1079, cw_z83, ncm_RX10, ncv_RX10, pd_7⟩
theorem lm_36 : Cond.methodLink R_law 36 yX9_range ∈ mm_ok := cw_z533
theorem tl_X9_range : mm_mi yX9_range cX9_range 2 (some .int) 1 := ⟨cw_z536, cw_z534, cw_z535, cw_z72, ncm_RX9, ncv_RX9, pd_3⟩
theorem lm_39 : Cond.methodLink R_law 39 yX10_range ∈ mm_ok := cw_z1090
theorem tl_X10_range : mm_mi yX10_range cX10_range 2 (some .int) 1 := ⟨cw_z1093, cw_z1091, cw_z1092, cw_z83, ncm_RX10, ncv_RX10, pd_3⟩
theorem lm_40 : Cond.methodLink R_law 40 yX9_door ∈ mm_ok := cw_z538
theorem tl_X9_door : mm_mi yX9_door cX9_door 2 (some .int) 1 := ⟨cw_z541, cw_z539, cw_z540, cw_z72, ncm_RX9, ncv_RX9, pd_3⟩
theorem lm_43 : Cond.methodLink R_law 43 yX10_door ∈ mm_ok := cw_z1094
theorem tl_X10_door : mm_mi yX10_door cX10_door 2 (some .int) 1 := ⟨cw_z1097, cw_z1095, cw_z1096, cw_z83, ncm_RX10, ncv_RX10, pd_3⟩
theorem lm_44 : Cond.methodLink R_law 44 yX9_die ∈ mm_ok := cw_z551
theorem tl_X9_die : mm_mi yX9_die cX9_die 2 (some .int) 1 := ⟨cw_z554, cw_z552, cw_z553, cw_z72, ncm_RX9, ncv_RX9, pd_3⟩
theorem lm_47 : Cond.methodLink R_law 47 yX10_die ∈ mm_ok := cw_z1098
theorem tl_X10_die : mm_mi yX10_die cX10_die 2 (some .int) 1 := ⟨cw_z1101, cw_z1099, cw_z1100, cw_z83, ncm_RX10, ncv_RX10, pd_3⟩
theorem lm_48 : Cond.methodLink R_law 48 yX9_sell ∈ mm_ok := cw_z586
theorem tl_X9_sell : mm_mi yX9_sell cX9_sell 3 (some .int) 2 := ⟨cw_z589, cw_z587, cw_z588, cw_z72, ncm_RX9, ncv_RX9, pd_7⟩
theorem lm_51 : Cond.methodLink R_law 51 yX10_sell ∈ mm_ok := cw_z1122
theorem tl_X10_sell : mm_mi yX10_sell cX10_sell 3 (some .int) 2 := ⟨cw_z1125, cw_z1123, cw_z1124, cw_z83, ncm_RX10, ncv_RX10, pd_7⟩
theorem lm_52 : Cond.methodLink R_law 52 yX9_putBy ∈ mm_ok := cw_z599
theorem tl_X9_putBy : mm_mi yX9_putBy cX9_putBy 3 (some .int) 2 := ⟨cw_z602, cw_z600, cw_z601, cw_z72, ncm_RX9, ncv_RX9, pd_7⟩
theorem lm_55 : Cond.methodLink R_law 55 yX10_putBy ∈ mm_ok := cw_z1137
theorem tl_X10_putBy : mm_mi yX10_putBy cX10_putBy 4 (some .int) 2 := ⟨cw_z1140, cw_z1138, cw_z1139, cw_z83, ncm_RX10, ncv_RX10, pd_7⟩
theorem lm_56 : Cond.methodLink R_law 56 yX9_will ∈ mm_ok := cw_z609
theorem tl_X9_will : mm_mi yX9_will cX9_will 5 (some .int) 3 := ⟨cw_z612, cw_z610, cw_z611, cw_z72, ncm_RX9, ncv_RX9, pd_10⟩
theorem lm_60 : Cond.methodLink R_law 60 yX10_will ∈ mm_ok := cw_z1145
theorem tl_X10_will : mm_mi yX10_will cX10_will 5 (some .int) 3 := ⟨cw_z1148, cw_z1146, cw_z1147, cw_z83, ncm_RX10, ncv_RX10, pd_10⟩
theorem lm_61 : Cond.methodLink R_law 61 yX9_drift ∈ mm_ok := cw_z621
theorem tl_X9_drift : mm_mi yX9_drift cX9_drift 3 (some .int) 1 := ⟨cw_z624, cw_z622, cw_z623, cw_z72, ncm_RX9, ncv_RX9, pd_3⟩
theorem lm_64 : Cond.methodLink R_law 64 yX10_drift ∈ mm_ok := cw_z1153
theorem tl_X10_drift : mm_mi yX10_drift cX10_drift 7 (some .int) 1 := ⟨cw_z1156, cw_z1154, cw_z1155, cw_z83, ncm_RX10, ncv_RX10, pd_3⟩
theorem lm_65 : Cond.methodLink R_law 65 yX9_undo ∈ mm_ok := cw_z637
theorem tl_X9_undo : mm_mi yX9_undo cX9_undo 1 (some .int) 0 := ⟨cw_z640, cw_z638, cw_z639, cw_z72, ncm_RX9, ncv_RX9, pd_0⟩
theorem lm_68 : Cond.methodLink R_law 68 yX10_undo ∈ mm_ok := cw_z1166
theorem tl_X10_undo : mm_mi yX10_undo cX10_undo 1 (some .int) 0 := ⟨cw_z1169, cw_z1167, cw_z1168, cw_z83, ncm_RX10, ncv_RX10, pd_0⟩
theorem lm_69 : Cond.methodLink R_law 69 yX9_after ∈ mm_ok := cw_z645
theorem tl_X9_after : mm_mi yX9_after cX9_after 3 (some .int) 2 := ⟨cw_z648, cw_z646, cw_z647, cw_z72, ncm_RX9, ncv_RX9, pd_7⟩
theorem lm_72 : Cond.methodLink R_law 72 yX10_after ∈ mm_ok := cw_z1170
theorem tl_X10_after : mm_mi yX10_after cX10_after 3 (some .int) 2 := ⟨cw_z1173, cw_z1171, cw_z1172, cw_z83, ncm_RX10, ncv_RX10, pd_7⟩
theorem lm_73 : Cond.methodLink R_law 73 yX9_whose ∈ mm_ok := cw_z678
theorem tl_X9_whose : mm_mi yX9_whose cX9_whose 3 (some .int) 2 := ⟨cw_z681, cw_z679, cw_z680, cw_z72, ncm_RX9, ncv_RX9, pd_7⟩
theorem lm_76 : Cond.methodLink R_law 76 yX10_whose ∈ mm_ok := cw_z1186
theorem tl_X10_whose : mm_mi yX10_whose cX10_whose 4 (some .int) 2 := ⟨cw_z1189, cw_z1187, cw_z1188, cw_z83, ncm_RX10, ncv_RX10, pd_7⟩
theorem lm_77 : Cond.methodLink R_law 77 yX9_wills ∈ mm_ok := cw_z686
theorem tl_X9_wills : mm_mi yX9_wills cX9_wills 6 (some .int) 4 := ⟨cw_z689, cw_z687, cw_z688, cw_z72, ncm_RX9, ncv_RX9, pd_13⟩
theorem lm_81 : Cond.methodLink R_law 81 yX10_wills ∈ mm_ok := cw_z1190
theorem tl_X10_wills : mm_mi yX10_wills cX10_wills 10 (some .int) 4 := ⟨cw_z1193, cw_z1191, cw_z1192, cw_z83, ncm_RX10, ncv_RX10, pd_13⟩
theorem lm_82 : Cond.methodLink R_law 82 yX9_sing ∈ mm_ok := cw_z710
theorem tl_X9_sing : mm_mi yX9_sing cX9_sing 2 (some .int) 1 := ⟨cw_z713, cw_z711, cw_z712, cw_z72, ncm_RX9, ncv_RX9, pd_3⟩
theorem lm_85 : Cond.methodLink R_law 85 yX10_sing ∈ mm_ok := cw_z1205
theorem tl_X10_sing : mm_mi yX10_sing cX10_sing 5 (some .int) 1 := ⟨cw_z1208, cw_z1206, cw_z1207, cw_z83, ncm_RX10, ncv_RX10, pd_3⟩
theorem lm_86 : Cond.methodLink R_law 86 yX9_bid ∈ mm_ok := cw_z761
theorem tl_X9_bid : mm_mi yX9_bid cX9_bid 4 (some .int) 2 := ⟨cw_z764, cw_z762, cw_z763, cw_z72, ncm_RX9, ncv_RX9, pd_7⟩
theorem lm_89 : Cond.methodLink R_law 89 yX10_bid ∈ mm_ok := cw_z1225
theorem tl_X10_bid : mm_mi yX10_bid cX10_bid 4 (some .int) 2 := ⟨cw_z1228, cw_z1226, cw_z1227, cw_z83, ncm_RX10, ncv_RX10, pd_7⟩
theorem lm_90 : Cond.methodLink R_law 90 yX9_live ∈ mm_ok := cw_z765
theorem tl_X9_live : mm_mi yX9_live cX9_live 8 (some .int) 3 := ⟨cw_z768, cw_z766, cw_z767, cw_z72, ncm_RX9, ncv_RX9, pd_10⟩
theorem lm_93 : Cond.methodLink R_law 93 yX10_live ∈ mm_ok := cw_z1230
theorem tl_X10_live : mm_mi yX10_live cX10_live 7 (some .int) 3 := ⟨cw_z1233, cw_z1231, cw_z1232, cw_z83, ncm_RX10, ncv_RX10, pd_10⟩
theorem lm_94 : Cond.methodLink R_law 94 yX9_see ∈ mm_ok := cw_z779
theorem tl_X9_see : mm_mi yX9_see cX9_see 3 (some .int) 2 := ⟨cw_z782, cw_z780, cw_z781, cw_z72, ncm_RX9, ncv_RX9, pd_18⟩
theorem lm_98 : Cond.methodLink R_law 98 yX10_see ∈ mm_ok := cw_z1240
theorem tl_X10_see : mm_mi yX10_see cX10_see 3 (some .int) 2 := ⟨cw_z1243, cw_z1241, cw_z1242, cw_z83, ncm_RX10, ncv_RX10, pd_18⟩
theorem lm_99 : Cond.methodLink R_law 99 yX9_spoke ∈ mm_ok := cw_z787
theorem tl_X9_spoke : mm_mi yX9_spoke cX9_spoke 2 (some .int) 1 := ⟨cw_z790, cw_z788, cw_z789, cw_z72, ncm_RX9, ncv_RX9, pd_3⟩
theorem lm_102 : Cond.methodLink R_law 102 yX10_spoke ∈ mm_ok := cw_z1244
theorem tl_X10_spoke : mm_mi yX10_spoke cX10_spoke 5 (some .int) 1 := ⟨cw_z1247, cw_z1245, cw_z1246, cw_z83, ncm_RX10, ncv_RX10, pd_3⟩
theorem lm_103 : Cond.methodLink R_law 103 yX9_knock ∈ mm_ok := cw_z807
theorem tl_X9_knock : mm_mi yX9_knock cX9_knock 7 (some .int) 0 := ⟨cw_z810, cw_z808, cw_z809, cw_z72, ncm_RX9, ncv_RX9, pd_0⟩
theorem lm_106 : Cond.methodLink R_law 106 yX10_knock ∈ mm_ok := cw_z1252
theorem tl_X10_knock : mm_mi yX10_knock cX10_knock 8 (some .int) 0 := ⟨cw_z1255, cw_z1253, cw_z1254, cw_z83, ncm_RX10, ncv_RX10, pd_0⟩
theorem lm_107 : Cond.methodLink R_law 107 yX9_has ∈ mm_ok := cw_z812
theorem tl_X9_has : mm_mi yX9_has cX9_has 3 (some .int) 2 := ⟨cw_z815, cw_z813, cw_z814, cw_z72, ncm_RX9, ncv_RX9, pd_7⟩
theorem lm_110 : Cond.methodLink R_law 110 yX10_has ∈ mm_ok := cw_z1256
theorem tl_X10_has : mm_mi yX10_has cX10_has 3 (some .int) 2 := ⟨cw_z1259, cw_z1257, cw_z1258, cw_z83, ncm_RX10, ncv_RX10, pd_7⟩
theorem lm_111 : Cond.methodLink R_law 111 yX9_orders ∈ mm_ok := cw_z819
theorem tl_X9_orders : mm_mi yX9_orders cX9_orders 3 (some .int) 2 := ⟨cw_z822, cw_z820, cw_z821, cw_z72, ncm_RX9, ncv_RX9, pd_7⟩
theorem lm_114 : Cond.methodLink R_law 114 yX10_orders ∈ mm_ok := cw_z1263
theorem tl_X10_orders : mm_mi yX10_orders cX10_orders 8 (some .int) 2 := ⟨cw_z1266, cw_z1264, cw_z1265, cw_z83, ncm_RX10, ncv_RX10, pd_7⟩
theorem lm_115 : Cond.methodLink R_law 115 yX9_write ∈ mm_ok := cw_z867
theorem tl_X9_write : mm_mi yX9_write cX9_write 3 (some .int) 2 := ⟨cw_z870, cw_z868, cw_z869, cw_z72, ncm_RX9, ncv_RX9, pd_7⟩
theorem lm_118 : Cond.methodLink R_law 118 yX10_write ∈ mm_ok := cw_z1271
theorem tl_X10_write : mm_mi yX10_write cX10_write 3 (some .int) 2 := ⟨cw_z1274, cw_z1272, cw_z1273, cw_z83, ncm_RX10, ncv_RX10, pd_7⟩
theorem lm_119 : Cond.methodLink R_law 119 yX9_tear ∈ mm_ok := cw_z871
theorem tl_X9_tear : mm_mi yX9_tear cX9_tear 2 (some .int) 0 := ⟨cw_z874, cw_z872, cw_z873, cw_z72, ncm_RX9, ncv_RX9, pd_0⟩
theorem lm_122 : Cond.methodLink R_law 122 yX10_tear ∈ mm_ok := cw_z1275
theorem tl_X10_tear : mm_mi yX10_tear cX10_tear 2 (some .int) 0 := ⟨cw_z1278, cw_z1276, cw_z1277, cw_z83, ncm_RX10, ncv_RX10, pd_0⟩
theorem lm_123 : Cond.methodLink R_law 123 yX9_judge ∈ mm_ok := cw_z875
theorem tl_X9_judge : mm_mi yX9_judge cX9_judge 1 (some .int) 0 := ⟨cw_z878, cw_z876, cw_z877, cw_z72, ncm_RX9, ncv_RX9, pd_0⟩
theorem lm_126 : Cond.methodLink R_law 126 yX10_judge ∈ mm_ok := cw_z1279
theorem tl_X10_judge : mm_mi yX10_judge cX10_judge 2 (some .int) 0 := ⟨cw_z1282, cw_z1280, cw_z1281, cw_z83, ncm_RX10, ncv_RX10, pd_0⟩
theorem lm_127 : Cond.methodLink R_law 127 yX9_seed ∈ mm_ok := cw_z879
theorem tl_X9_seed : mm_mi yX9_seed cX9_seed 3 (some .int) 1 := ⟨cw_z882, cw_z880, cw_z881, cw_z72, ncm_RX9, ncv_RX9, pd_3⟩
theorem lm_130 : Cond.methodLink R_law 130 yX10_seed ∈ mm_ok := cw_z1283
theorem tl_X10_seed : mm_mi yX10_seed cX10_seed 3 (some .int) 1 := ⟨cw_z1286, cw_z1284, cw_z1285, cw_z83, ncm_RX10, ncv_RX10, pd_3⟩
theorem lm_131 : Cond.methodLink R_law 131 yX9_keep ∈ mm_ok := cw_z883
theorem tl_X9_keep : mm_mi yX9_keep cX9_keep 3 (some .int) 1 := ⟨cw_z886, cw_z884, cw_z885, cw_z72, ncm_RX9, ncv_RX9, pd_3⟩
theorem lm_134 : Cond.methodLink R_law 134 yX10_keep ∈ mm_ok := cw_z1287
theorem tl_X10_keep : mm_mi yX10_keep cX10_keep 2 (some .int) 1 := ⟨cw_z1290, cw_z1288, cw_z1289, cw_z83, ncm_RX10, ncv_RX10, pd_3⟩
theorem lm_135 : Cond.methodLink R_law 135 yX9_goBack ∈ mm_ok := cw_z891
theorem tl_X9_goBack : mm_mi yX9_goBack cX9_goBack 3 (some .int) 1 := ⟨cw_z894, cw_z892, cw_z893, cw_z72, ncm_RX9, ncv_RX9, pd_3⟩
theorem lm_138 : Cond.methodLink R_law 138 yX10_goBack ∈ mm_ok := cw_z1291
theorem tl_X10_goBack : mm_mi yX10_goBack cX10_goBack 2 (some .int) 1 := ⟨cw_z1294, cw_z1292, cw_z1293, cw_z83, ncm_RX10, ncv_RX10, pd_3⟩
theorem lc_7 : Cond.classLink R_law 7 RX9 ∈ mm_ok := cw_z85
theorem lc_10 : Cond.classLink R_law 10 RX10 ∈ mm_ok := cw_z895
theorem lm_9 : Cond.methodLink R_law 9 yX9_init ∈ mm_ok := cw_z87
theorem lm_12 : Cond.methodLink R_law 12 yX10_init ∈ mm_ok := cw_z897
theorem tl_X9_init : mm_mk yX9_init cX9_init 2 0 := ⟨cw_z89, cw_z88, rfl, cw_z72, ncm_RX9, ncv_RX9, pd_1⟩
theorem tl_X10_init : mm_mk yX10_init cX10_init 1 0 := ⟨cw_z899, cw_z898, rfl, cw_z83, ncm_RX10, ncv_RX10, pd_1⟩
