/-! ===== rows of the small machine ===== -/
section MW
variable {g : mm_G} {own : String} {cc : ByteArray} {nL : Nat} {ret : Option FieldType} {ini : Bool} {rm : Room} {Q : Option Value → List mm_E → Prop} {k n : Nat} {w : List mm_E} {pc : Nat} {ls : List (Nat × Value)} {st : List Value}
theorem mm_loc {lsA : Array Slot} {j i : Nat} {v : Value} (hl : lv_has lsA nL (ls.map (fun q => (q.1, mm_v g q.2)))) (h : ls[j]? = some (i, v)) : lsA[i]? = some (.val (mm_v g v)) :=
  lv_at hl j (by rw [List.getElem?_map, h]; rfl)
theorem mm_store {i : Nat} {v : Value} : ((i, mm_v g v) :: (ls.map (fun q => (q.1, mm_v g q.2))).filter (fun q => !(q.1 == i) && !(q.1 + 1 == i && q.2.category == 2))) = ((i, v) :: ls.filter (fun q => !(q.1 == i) && !(q.1 + 1 == i && q.2.category == 2))).map (fun q => (q.1, mm_v g q.2)) := by
  rw [List.map_cons, List.filter_map]
  congr 2
  apply List.filter_congr
  intro q _
  simp [Function.comp, mm_v_cat]
theorem mm_store2 {i : Nat} {v : Value} : ((i, mm_v g v) :: (ls.map (fun q => (q.1, mm_v g q.2))).filter (fun q => !(q.1 == i) && (!(q.1 == i + 1) && !(q.1 + 1 == i && q.2.category == 2)))) = ((i, v) :: ls.filter (fun q => !(q.1 == i) && (!(q.1 == i + 1) && !(q.1 + 1 == i && q.2.category == 2)))).map (fun q => (q.1, mm_v g q.2)) := by
  rw [List.map_cons, List.filter_map]
  congr 2
  apply List.filter_congr
  intro q _
  simp [Function.comp, mm_v_cat]
theorem mw_iconst {i : Int} {v : Int32} (d : decode cc pc = .ok (.iconst i, 1)) (hv : Int32.ofInt i = v)
    (kk : mw g own cc nL ret ini rm Q k n w (pc + 1) ls (.int v :: st)) : mw g own cc nL ret ini rm Q k n w pc ls st := by
  intro p l e s m args below meth c H locs lsA a
  exact lv_iconst a.1.1 a.1.2.1 d hv (kk p l e s m args below meth c H locs lsA a)
theorem mw_bipush {i : Int} {v : Int32} (d : decode cc pc = .ok (.bipush i, 2)) (hv : (Int8.ofInt i).toInt32 = v)
    (kk : mw g own cc nL ret ini rm Q k n w (pc + 2) ls (.int v :: st)) : mw g own cc nL ret ini rm Q k n w pc ls st := by
  intro p l e s m args below meth c H locs lsA a
  exact lv_bipush a.1.1 a.1.2.1 d hv (kk p l e s m args below meth c H locs lsA a)
theorem mw_sipush {i : Int} {v : Int32} (d : decode cc pc = .ok (.sipush i, 3)) (hv : (Int16.ofInt i).toInt32 = v)
    (kk : mw g own cc nL ret ini rm Q k n w (pc + 3) ls (.int v :: st)) : mw g own cc nL ret ini rm Q k n w pc ls st := by
  intro p l e s m args below meth c H locs lsA a
  exact lv_sipush a.1.1 a.1.2.1 d hv (kk p l e s m args below meth c H locs lsA a)
theorem mw_lconst {i : Fin 2} {v : Int64} (d : decode cc pc = .ok (.lconst i, 1)) (hv : Int64.ofNat (i : Nat) = v)
    (kk : mw g own cc nL ret ini rm Q k n w (pc + 1) ls (.long v :: st)) : mw g own cc nL ret ini rm Q k n w pc ls st := by
  intro p l e s m args below meth c H locs lsA a
  exact lv_lconst a.1.1 a.1.2.1 d hv (kk p l e s m args below meth c H locs lsA a)
theorem mw_ldc {i : Nat} {v : Int32} (d : decode cc pc = .ok (.ldc i, 2)) (hw : Cond.constant own i v ∈ mm_ok)
    (kk : mw g own cc nL ret ini rm Q k n w (pc + 2) ls (.int v :: st)) : mw g own cc nL ret ini rm Q k n w pc ls st := by
  intro p l e s m args below meth c H locs lsA a
  exact lv_ldc a.1.1 a.1.2.1 a.1.2.2.2.1 (a.1.2.2.2.2.1 _ hw) d (kk p l e s m args below meth c H locs lsA a)
theorem mw_ldcw {i : Nat} {v : Int32} (d : decode cc pc = .ok (.ldc_w i, 3)) (hw : Cond.constant own i v ∈ mm_ok)
    (kk : mw g own cc nL ret ini rm Q k n w (pc + 3) ls (.int v :: st)) : mw g own cc nL ret ini rm Q k n w pc ls st := by
  intro p l e s m args below meth c H locs lsA a
  exact lv_ldcw a.1.1 a.1.2.1 a.1.2.2.2.1 (a.1.2.2.2.2.1 _ hw) d (kk p l e s m args below meth c H locs lsA a)
theorem mw_ldc2 {i : Nat} {v : Int64} (d : decode cc pc = .ok (.ldc2_w i, 3)) (hw : Cond.constantLong own i v ∈ mm_ok)
    (kk : mw g own cc nL ret ini rm Q k n w (pc + 3) ls (.long v :: st)) : mw g own cc nL ret ini rm Q k n w pc ls st := by
  intro p l e s m args below meth c H locs lsA a
  exact lv_ldc2 a.1.1 a.1.2.1 a.1.2.2.2.1 (a.1.2.2.2.2.1 _ hw) d (kk p l e s m args below meth c H locs lsA a)
theorem mw_null (d : decode cc pc = .ok (.aconst_null, 1))
    (kk : mw g own cc nL ret ini rm Q k n w (pc + 1) ls (.null :: st)) : mw g own cc nL ret ini rm Q k n w pc ls st := by
  intro p l e s m args below meth c H locs lsA a
  exact lv_null a.1.1 a.1.2.1 d (kk p l e s m args below meth c H locs lsA a)
theorem mw_iload_n {f : Fin 4} {i : Nat} {x : Int32} (d : decode cc pc = .ok (.iload_n f, 1)) (hi : (f : Nat) = i) (j : Nat) (h : ls[j]? = some (i, .int x))
    (kk : mw g own cc nL ret ini rm Q k n w (pc + 1) ls (.int x :: st)) : mw g own cc nL ret ini rm Q k n w pc ls st := by
  intro p l e s m args below meth c H locs lsA a
  exact lv_iload_n a.1.1 a.1.2.1 d hi (mm_loc a.2.2.2.2 h) (kk p l e s m args below meth c H locs lsA a)
theorem mw_iload {i : Nat} {x : Int32} (d : decode cc pc = .ok (.iload i, 2)) (j : Nat) (h : ls[j]? = some (i, .int x))
    (kk : mw g own cc nL ret ini rm Q k n w (pc + 2) ls (.int x :: st)) : mw g own cc nL ret ini rm Q k n w pc ls st := by
  intro p l e s m args below meth c H locs lsA a
  exact lv_iload a.1.1 a.1.2.1 d (mm_loc a.2.2.2.2 h) (kk p l e s m args below meth c H locs lsA a)
theorem mw_istore_n {f : Fin 4} {i : Nat} {x : Int32} {ls' : List (Nat × Value)} (d : decode cc pc = .ok (.istore_n f, 1)) (hi : (f : Nat) = i) (hn : i < nL) (hl : ((i, .int x) :: ls.filter (fun q => !(q.1 == i) && !(q.1 + 1 == i && q.2.category == 2))) = ls')
    (kk : mw g own cc nL ret ini rm Q k n w (pc + 1) ls' st) : mw g own cc nL ret ini rm Q k n w pc ls (.int x :: st) := by
  intro p l e s m args below meth c H locs lsA a
  refine lv_istore_n (lv' := ls'.map (fun q => (q.1, mm_v g q.2))) a.1.1 a.1.2.1 d hi a.2.2.2.2 hn (by rw [← hl]; exact mm_store (v := .int x)) (fun lsB hB => ?_)
  exact kk p l e s m args below meth c H locs lsB ⟨a.1, a.2.1, a.2.2.1, a.2.2.2.1, hB⟩
theorem mw_istore {i : Nat} {x : Int32} {ls' : List (Nat × Value)} (d : decode cc pc = .ok (.istore i, 2)) (hn : i < nL) (hl : ((i, .int x) :: ls.filter (fun q => !(q.1 == i) && !(q.1 + 1 == i && q.2.category == 2))) = ls')
    (kk : mw g own cc nL ret ini rm Q k n w (pc + 2) ls' st) : mw g own cc nL ret ini rm Q k n w pc ls (.int x :: st) := by
  intro p l e s m args below meth c H locs lsA a
  refine lv_istore (lv' := ls'.map (fun q => (q.1, mm_v g q.2))) a.1.1 a.1.2.1 d a.2.2.2.2 hn (by rw [← hl]; exact mm_store (v := .int x)) (fun lsB hB => ?_)
  exact kk p l e s m args below meth c H locs lsB ⟨a.1, a.2.1, a.2.2.1, a.2.2.2.1, hB⟩
theorem mw_lload_n {f : Fin 4} {i : Nat} {x : Int64} (d : decode cc pc = .ok (.lload_n f, 1)) (hi : (f : Nat) = i) (j : Nat) (h : ls[j]? = some (i, .long x))
    (kk : mw g own cc nL ret ini rm Q k n w (pc + 1) ls (.long x :: st)) : mw g own cc nL ret ini rm Q k n w pc ls st := by
  intro p l e s m args below meth c H locs lsA a
  exact lv_lload_n a.1.1 a.1.2.1 d hi (mm_loc a.2.2.2.2 h) (kk p l e s m args below meth c H locs lsA a)
theorem mw_lload {i : Nat} {x : Int64} (d : decode cc pc = .ok (.lload i, 2)) (j : Nat) (h : ls[j]? = some (i, .long x))
    (kk : mw g own cc nL ret ini rm Q k n w (pc + 2) ls (.long x :: st)) : mw g own cc nL ret ini rm Q k n w pc ls st := by
  intro p l e s m args below meth c H locs lsA a
  exact lv_lload a.1.1 a.1.2.1 d (mm_loc a.2.2.2.2 h) (kk p l e s m args below meth c H locs lsA a)
theorem mw_lstore_n {f : Fin 4} {i : Nat} {x : Int64} {ls' : List (Nat × Value)} (d : decode cc pc = .ok (.lstore_n f, 1)) (hi : (f : Nat) = i) (hn : i + 1 < nL) (hl : ((i, .long x) :: ls.filter (fun q => !(q.1 == i) && (!(q.1 == i + 1) && !(q.1 + 1 == i && q.2.category == 2)))) = ls')
    (kk : mw g own cc nL ret ini rm Q k n w (pc + 1) ls' st) : mw g own cc nL ret ini rm Q k n w pc ls (.long x :: st) := by
  intro p l e s m args below meth c H locs lsA a
  refine lv_lstore_n (lv' := ls'.map (fun q => (q.1, mm_v g q.2))) a.1.1 a.1.2.1 d hi a.2.2.2.2 hn (by rw [← hl]; exact mm_store2 (v := .long x)) (fun lsB hB => ?_)
  exact kk p l e s m args below meth c H locs lsB ⟨a.1, a.2.1, a.2.2.1, a.2.2.2.1, hB⟩
theorem mw_lstore {i : Nat} {x : Int64} {ls' : List (Nat × Value)} (d : decode cc pc = .ok (.lstore i, 2)) (hn : i + 1 < nL) (hl : ((i, .long x) :: ls.filter (fun q => !(q.1 == i) && (!(q.1 == i + 1) && !(q.1 + 1 == i && q.2.category == 2)))) = ls')
    (kk : mw g own cc nL ret ini rm Q k n w (pc + 2) ls' st) : mw g own cc nL ret ini rm Q k n w pc ls (.long x :: st) := by
  intro p l e s m args below meth c H locs lsA a
  refine lv_lstore (lv' := ls'.map (fun q => (q.1, mm_v g q.2))) a.1.1 a.1.2.1 d a.2.2.2.2 hn (by rw [← hl]; exact mm_store2 (v := .long x)) (fun lsB hB => ?_)
  exact kk p l e s m args below meth c H locs lsB ⟨a.1, a.2.1, a.2.2.1, a.2.2.2.1, hB⟩
theorem mw_aload_n {f : Fin 4} {i : Nat} {x : Nat} (d : decode cc pc = .ok (.aload_n f, 1)) (hi : (f : Nat) = i) (j : Nat) (h : ls[j]? = some (i, .ref x))
    (kk : mw g own cc nL ret ini rm Q k n w (pc + 1) ls (.ref x :: st)) : mw g own cc nL ret ini rm Q k n w pc ls st := by
  intro p l e s m args below meth c H locs lsA a
  exact lv_aload_n a.1.1 a.1.2.1 d hi (mm_loc a.2.2.2.2 h) (kk p l e s m args below meth c H locs lsA a)
theorem mw_aload {i : Nat} {x : Nat} (d : decode cc pc = .ok (.aload i, 2)) (j : Nat) (h : ls[j]? = some (i, .ref x))
    (kk : mw g own cc nL ret ini rm Q k n w (pc + 2) ls (.ref x :: st)) : mw g own cc nL ret ini rm Q k n w pc ls st := by
  intro p l e s m args below meth c H locs lsA a
  exact lv_aload a.1.1 a.1.2.1 d (mm_loc a.2.2.2.2 h) (kk p l e s m args below meth c H locs lsA a)
theorem mw_astore_n {f : Fin 4} {i : Nat} {x : Nat} {ls' : List (Nat × Value)} (d : decode cc pc = .ok (.astore_n f, 1)) (hi : (f : Nat) = i) (hn : i < nL) (hl : ((i, .ref x) :: ls.filter (fun q => !(q.1 == i) && !(q.1 + 1 == i && q.2.category == 2))) = ls')
    (kk : mw g own cc nL ret ini rm Q k n w (pc + 1) ls' st) : mw g own cc nL ret ini rm Q k n w pc ls (.ref x :: st) := by
  intro p l e s m args below meth c H locs lsA a
  refine lv_astore_n (lv' := ls'.map (fun q => (q.1, mm_v g q.2))) a.1.1 a.1.2.1 d hi a.2.2.2.2 hn (by rw [← hl]; exact mm_store (v := .ref x)) (fun lsB hB => ?_)
  exact kk p l e s m args below meth c H locs lsB ⟨a.1, a.2.1, a.2.2.1, a.2.2.2.1, hB⟩
theorem mw_astore {i : Nat} {x : Nat} {ls' : List (Nat × Value)} (d : decode cc pc = .ok (.astore i, 2)) (hn : i < nL) (hl : ((i, .ref x) :: ls.filter (fun q => !(q.1 == i) && !(q.1 + 1 == i && q.2.category == 2))) = ls')
    (kk : mw g own cc nL ret ini rm Q k n w (pc + 2) ls' st) : mw g own cc nL ret ini rm Q k n w pc ls (.ref x :: st) := by
  intro p l e s m args below meth c H locs lsA a
  refine lv_astore (lv' := ls'.map (fun q => (q.1, mm_v g q.2))) a.1.1 a.1.2.1 d a.2.2.2.2 hn (by rw [← hl]; exact mm_store (v := .ref x)) (fun lsB hB => ?_)
  exact kk p l e s m args below meth c H locs lsB ⟨a.1, a.2.1, a.2.2.1, a.2.2.2.1, hB⟩
theorem mw_iinc {i : Nat} {z : Int} {x : Int32} {ls' : Int32 → List (Nat × Value)} (d : decode cc pc = .ok (.iinc i z, 3)) (j : Nat) (h : ls[j]? = some (i, .int x)) (hn : i < nL) (hl : ∀ v : Int32, ((i, .int v) :: ls.filter (fun q => !(q.1 == i) && !(q.1 + 1 == i && q.2.category == 2))) = ls' v)
    (kk : ∀ v : Int32, v = x + Int32.ofInt z → mw g own cc nL ret ini rm Q k n w (pc + 3) (ls' v) st) : mw g own cc nL ret ini rm Q k n w pc ls st := by
  intro p l e s m args below meth c H locs lsA a
  refine lv_iinc (v := x + Int32.ofInt z) (lv' := (ls' (x + Int32.ofInt z)).map (fun q => (q.1, mm_v g q.2))) a.1.1 a.1.2.1 d a.2.2.2.2 (k := j) (by rw [List.getElem?_map, h]; rfl) rfl hn (by rw [← hl]; exact mm_store (v := .int (x + Int32.ofInt z))) (fun lsB hB => ?_)
  exact kk _ rfl p l e s m args below meth c H locs lsB ⟨a.1, a.2.1, a.2.2.1, a.2.2.2.1, hB⟩
theorem mw_iadd {x y : Int32} (d : decode cc pc = .ok (.iadd, 1))
    (kk : ∀ z : Int32, z = x + y → mw g own cc nL ret ini rm Q k n w (pc + 1) ls (.int z :: st)) : mw g own cc nL ret ini rm Q k n w pc ls (.int y :: .int x :: st) := by
  intro p l e s m args below meth c H locs lsA a
  exact lv_iadd a.1.1 a.1.2.1 d (kk _ rfl p l e s m args below meth c H locs lsA a)
theorem mw_isub {x y : Int32} (d : decode cc pc = .ok (.isub, 1))
    (kk : ∀ z : Int32, z = x - y → mw g own cc nL ret ini rm Q k n w (pc + 1) ls (.int z :: st)) : mw g own cc nL ret ini rm Q k n w pc ls (.int y :: .int x :: st) := by
  intro p l e s m args below meth c H locs lsA a
  exact lv_isub a.1.1 a.1.2.1 d (kk _ rfl p l e s m args below meth c H locs lsA a)
theorem mw_imul {x y : Int32} (d : decode cc pc = .ok (.imul, 1))
    (kk : ∀ z : Int32, z = x * y → mw g own cc nL ret ini rm Q k n w (pc + 1) ls (.int z :: st)) : mw g own cc nL ret ini rm Q k n w pc ls (.int y :: .int x :: st) := by
  intro p l e s m args below meth c H locs lsA a
  exact lv_imul a.1.1 a.1.2.1 d (kk _ rfl p l e s m args below meth c H locs lsA a)
theorem mw_iand {x y : Int32} (d : decode cc pc = .ok (.iand, 1))
    (kk : ∀ z : Int32, z = x &&& y → mw g own cc nL ret ini rm Q k n w (pc + 1) ls (.int z :: st)) : mw g own cc nL ret ini rm Q k n w pc ls (.int y :: .int x :: st) := by
  intro p l e s m args below meth c H locs lsA a
  exact lv_iand a.1.1 a.1.2.1 d (kk _ rfl p l e s m args below meth c H locs lsA a)
theorem mw_ior {x y : Int32} (d : decode cc pc = .ok (.ior, 1))
    (kk : ∀ z : Int32, z = x ||| y → mw g own cc nL ret ini rm Q k n w (pc + 1) ls (.int z :: st)) : mw g own cc nL ret ini rm Q k n w pc ls (.int y :: .int x :: st) := by
  intro p l e s m args below meth c H locs lsA a
  exact lv_ior a.1.1 a.1.2.1 d (kk _ rfl p l e s m args below meth c H locs lsA a)
theorem mw_ixor {x y : Int32} (d : decode cc pc = .ok (.ixor, 1))
    (kk : ∀ z : Int32, z = x ^^^ y → mw g own cc nL ret ini rm Q k n w (pc + 1) ls (.int z :: st)) : mw g own cc nL ret ini rm Q k n w pc ls (.int y :: .int x :: st) := by
  intro p l e s m args below meth c H locs lsA a
  exact lv_ixor a.1.1 a.1.2.1 d (kk _ rfl p l e s m args below meth c H locs lsA a)
theorem mw_ishl {x y : Int32} (d : decode cc pc = .ok (.ishl, 1))
    (kk : ∀ z : Int32, z = x <<< (y &&& 31) → mw g own cc nL ret ini rm Q k n w (pc + 1) ls (.int z :: st)) : mw g own cc nL ret ini rm Q k n w pc ls (.int y :: .int x :: st) := by
  intro p l e s m args below meth c H locs lsA a
  exact lv_ishl a.1.1 a.1.2.1 d (kk _ rfl p l e s m args below meth c H locs lsA a)
theorem mw_ishr {x y : Int32} (d : decode cc pc = .ok (.ishr, 1))
    (kk : ∀ z : Int32, z = x >>> (y &&& 31) → mw g own cc nL ret ini rm Q k n w (pc + 1) ls (.int z :: st)) : mw g own cc nL ret ini rm Q k n w pc ls (.int y :: .int x :: st) := by
  intro p l e s m args below meth c H locs lsA a
  exact lv_ishr a.1.1 a.1.2.1 d (kk _ rfl p l e s m args below meth c H locs lsA a)
theorem mw_iushr {x y : Int32} (d : decode cc pc = .ok (.iushr, 1))
    (kk : ∀ z : Int32, z = (x.toUInt32 >>> (y.toUInt32 &&& Int32.toUInt32 31)).toInt32 → mw g own cc nL ret ini rm Q k n w (pc + 1) ls (.int z :: st)) : mw g own cc nL ret ini rm Q k n w pc ls (.int y :: .int x :: st) := by
  intro p l e s m args below meth c H locs lsA a
  exact lv_iushr a.1.1 a.1.2.1 d rfl (kk _ rfl p l e s m args below meth c H locs lsA a)
theorem mw_idiv {x y : Int32} (d : decode cc pc = .ok (.idiv, 1)) (hy : ¬ y = 0)
    (kk : ∀ z : Int32, z = x / y → mw g own cc nL ret ini rm Q k n w (pc + 1) ls (.int z :: st)) : mw g own cc nL ret ini rm Q k n w pc ls (.int y :: .int x :: st) := by
  intro p l e s m args below meth c H locs lsA a
  exact lv_idiv a.1.1 a.1.2.1 d hy (kk _ rfl p l e s m args below meth c H locs lsA a)
theorem mw_irem {x y : Int32} (d : decode cc pc = .ok (.irem, 1)) (hy : ¬ y = 0)
    (kk : ∀ z : Int32, z = x - x / y * y → mw g own cc nL ret ini rm Q k n w (pc + 1) ls (.int z :: st)) : mw g own cc nL ret ini rm Q k n w pc ls (.int y :: .int x :: st) := by
  intro p l e s m args below meth c H locs lsA a
  exact lv_irem a.1.1 a.1.2.1 d hy (kk _ rfl p l e s m args below meth c H locs lsA a)
theorem mw_ineg {x : Int32} (d : decode cc pc = .ok (.ineg, 1))
    (kk : ∀ z : Int32, z = -x → mw g own cc nL ret ini rm Q k n w (pc + 1) ls (.int z :: st)) : mw g own cc nL ret ini rm Q k n w pc ls (.int x :: st) := by
  intro p l e s m args below meth c H locs lsA a
  exact lv_ineg a.1.1 a.1.2.1 d (kk _ rfl p l e s m args below meth c H locs lsA a)
theorem mw_ladd {x y : Int64} (d : decode cc pc = .ok (.ladd, 1))
    (kk : ∀ z : Int64, z = x + y → mw g own cc nL ret ini rm Q k n w (pc + 1) ls (.long z :: st)) : mw g own cc nL ret ini rm Q k n w pc ls (.long y :: .long x :: st) := by
  intro p l e s m args below meth c H locs lsA a
  exact lv_ladd a.1.1 a.1.2.1 d (kk _ rfl p l e s m args below meth c H locs lsA a)
theorem mw_lmul {x y : Int64} (d : decode cc pc = .ok (.lmul, 1))
    (kk : ∀ z : Int64, z = x * y → mw g own cc nL ret ini rm Q k n w (pc + 1) ls (.long z :: st)) : mw g own cc nL ret ini rm Q k n w pc ls (.long y :: .long x :: st) := by
  intro p l e s m args below meth c H locs lsA a
  exact lv_lmul a.1.1 a.1.2.1 d (kk _ rfl p l e s m args below meth c H locs lsA a)
theorem mw_ldiv {x y : Int64} (d : decode cc pc = .ok (.ldiv, 1)) (hy : ¬ y = 0)
    (kk : ∀ z : Int64, z = x / y → mw g own cc nL ret ini rm Q k n w (pc + 1) ls (.long z :: st)) : mw g own cc nL ret ini rm Q k n w pc ls (.long y :: .long x :: st) := by
  intro p l e s m args below meth c H locs lsA a
  exact lv_ldiv a.1.1 a.1.2.1 d hy (kk _ rfl p l e s m args below meth c H locs lsA a)
theorem mw_lrem {x y : Int64} (d : decode cc pc = .ok (.lrem, 1)) (hy : ¬ y = 0)
    (kk : ∀ z : Int64, z = x - x / y * y → mw g own cc nL ret ini rm Q k n w (pc + 1) ls (.long z :: st)) : mw g own cc nL ret ini rm Q k n w pc ls (.long y :: .long x :: st) := by
  intro p l e s m args below meth c H locs lsA a
  exact lv_lrem a.1.1 a.1.2.1 d hy (kk _ rfl p l e s m args below meth c H locs lsA a)
theorem mw_lcmp {x y : Int64} (d : decode cc pc = .ok (.lcmp, 1))
    (kk : ∀ z : Int32, z = lg_cmp x y → mw g own cc nL ret ini rm Q k n w (pc + 1) ls (.int z :: st)) : mw g own cc nL ret ini rm Q k n w pc ls (.long y :: .long x :: st) := by
  intro p l e s m args below meth c H locs lsA a
  exact W.lcmp a.1.1 a.1.2.1 d (kk _ rfl p l e s m args below meth c H locs lsA a)
theorem mw_i2l {x : Int32} (d : decode cc pc = .ok (.i2l, 1))
    (kk : ∀ z : Int64, z = x.toInt64 → mw g own cc nL ret ini rm Q k n w (pc + 1) ls (.long z :: st)) : mw g own cc nL ret ini rm Q k n w pc ls (.int x :: st) := by
  intro p l e s m args below meth c H locs lsA a
  exact lv_i2l a.1.1 a.1.2.1 d rfl (kk _ rfl p l e s m args below meth c H locs lsA a)
theorem mw_l2i {x : Int64} (d : decode cc pc = .ok (.l2i, 1))
    (kk : ∀ z : Int32, z = x.toInt32 → mw g own cc nL ret ini rm Q k n w (pc + 1) ls (.int z :: st)) : mw g own cc nL ret ini rm Q k n w pc ls (.long x :: st) := by
  intro p l e s m args below meth c H locs lsA a
  exact lv_l2i a.1.1 a.1.2.1 d rfl (kk _ rfl p l e s m args below meth c H locs lsA a)
theorem mw_dup {v : Value} (d : decode cc pc = .ok (.dup, 1)) (hc : v.category = 1)
    (kk : mw g own cc nL ret ini rm Q k n w (pc + 1) ls (v :: v :: st)) : mw g own cc nL ret ini rm Q k n w pc ls (v :: st) := by
  intro p l e s m args below meth c H locs lsA a
  exact lv_dup a.1.1 a.1.2.1 d ((mm_v_cat g v).trans hc) (kk p l e s m args below meth c H locs lsA a)
theorem mw_pop {v : Value} (d : decode cc pc = .ok (.pop, 1)) (hc : v.category = 1)
    (kk : mw g own cc nL ret ini rm Q k n w (pc + 1) ls st) : mw g own cc nL ret ini rm Q k n w pc ls (v :: st) := by
  intro p l e s m args below meth c H locs lsA a
  exact lv_pop a.1.1 a.1.2.1 d ((mm_v_cat g v).trans hc) (kk p l e s m args below meth c H locs lsA a)
theorem mw_dup2 {v u : Value} (d : decode cc pc = .ok (.dup2, 1)) (hc : v.category = 1) (hu : u.category = 1)
    (kk : mw g own cc nL ret ini rm Q k n w (pc + 1) ls (v :: u :: v :: u :: st)) : mw g own cc nL ret ini rm Q k n w pc ls (v :: u :: st) := by
  intro p l e s m args below meth c H locs lsA a
  exact lv_dup2_11 a.1.1 a.1.2.1 d ((mm_v_cat g v).trans hc) ((mm_v_cat g u).trans hu) (kk p l e s m args below meth c H locs lsA a)
theorem mw_if_eq {x : Int32} {off : Int} {tgt : Nat} (d : decode cc pc = .ok (.ifCond .eq off, 3)) (ht : (pc : Int) + off = (tgt : Int)) (kt : x = 0 → mw g own cc nL ret ini rm Q k n w tgt ls st)
    (kf : ¬ x = 0 → mw g own cc nL ret ini rm Q k n w (pc + 3) ls st) : mw g own cc nL ret ini rm Q k n w pc ls (.int x :: st) := by
  intro p l e s m args below meth c H locs lsA a
  exact lv_if_eq a.1.1 a.1.2.1 d ht (fun q => kt q p l e s m args below meth c H locs lsA a) (fun q => kf q p l e s m args below meth c H locs lsA a)
theorem mw_icmp_eq {x y : Int32} {off : Int} {tgt : Nat} (d : decode cc pc = .ok (.if_icmp .eq off, 3)) (ht : (pc : Int) + off = (tgt : Int)) (kt : x = y → mw g own cc nL ret ini rm Q k n w tgt ls st)
    (kf : ¬ x = y → mw g own cc nL ret ini rm Q k n w (pc + 3) ls st) : mw g own cc nL ret ini rm Q k n w pc ls (.int y :: .int x :: st) := by
  intro p l e s m args below meth c H locs lsA a
  exact lv_icmp_eq a.1.1 a.1.2.1 d ht (fun q => kt q p l e s m args below meth c H locs lsA a) (fun q => kf q p l e s m args below meth c H locs lsA a)
theorem mw_if_lt {x : Int32} {off : Int} {tgt : Nat} (d : decode cc pc = .ok (.ifCond .lt off, 3)) (ht : (pc : Int) + off = (tgt : Int)) (kt : x < 0 → mw g own cc nL ret ini rm Q k n w tgt ls st)
    (kf : ¬ x < 0 → mw g own cc nL ret ini rm Q k n w (pc + 3) ls st) : mw g own cc nL ret ini rm Q k n w pc ls (.int x :: st) := by
  intro p l e s m args below meth c H locs lsA a
  exact lv_if_lt a.1.1 a.1.2.1 d ht (fun q => kt q p l e s m args below meth c H locs lsA a) (fun q => kf q p l e s m args below meth c H locs lsA a)
theorem mw_icmp_lt {x y : Int32} {off : Int} {tgt : Nat} (d : decode cc pc = .ok (.if_icmp .lt off, 3)) (ht : (pc : Int) + off = (tgt : Int)) (kt : x < y → mw g own cc nL ret ini rm Q k n w tgt ls st)
    (kf : ¬ x < y → mw g own cc nL ret ini rm Q k n w (pc + 3) ls st) : mw g own cc nL ret ini rm Q k n w pc ls (.int y :: .int x :: st) := by
  intro p l e s m args below meth c H locs lsA a
  exact lv_icmp_lt a.1.1 a.1.2.1 d ht (fun q => kt q p l e s m args below meth c H locs lsA a) (fun q => kf q p l e s m args below meth c H locs lsA a)
theorem mw_if_ge {x : Int32} {off : Int} {tgt : Nat} (d : decode cc pc = .ok (.ifCond .ge off, 3)) (ht : (pc : Int) + off = (tgt : Int)) (kt : 0 ≤ x → mw g own cc nL ret ini rm Q k n w tgt ls st)
    (kf : ¬ 0 ≤ x → mw g own cc nL ret ini rm Q k n w (pc + 3) ls st) : mw g own cc nL ret ini rm Q k n w pc ls (.int x :: st) := by
  intro p l e s m args below meth c H locs lsA a
  exact lv_if_ge a.1.1 a.1.2.1 d ht (fun q => kt q p l e s m args below meth c H locs lsA a) (fun q => kf q p l e s m args below meth c H locs lsA a)
theorem mw_icmp_ge {x y : Int32} {off : Int} {tgt : Nat} (d : decode cc pc = .ok (.if_icmp .ge off, 3)) (ht : (pc : Int) + off = (tgt : Int)) (kt : y ≤ x → mw g own cc nL ret ini rm Q k n w tgt ls st)
    (kf : ¬ y ≤ x → mw g own cc nL ret ini rm Q k n w (pc + 3) ls st) : mw g own cc nL ret ini rm Q k n w pc ls (.int y :: .int x :: st) := by
  intro p l e s m args below meth c H locs lsA a
  exact lv_icmp_ge a.1.1 a.1.2.1 d ht (fun q => kt q p l e s m args below meth c H locs lsA a) (fun q => kf q p l e s m args below meth c H locs lsA a)
theorem mw_if_gt {x : Int32} {off : Int} {tgt : Nat} (d : decode cc pc = .ok (.ifCond .gt off, 3)) (ht : (pc : Int) + off = (tgt : Int)) (kt : 0 < x → mw g own cc nL ret ini rm Q k n w tgt ls st)
    (kf : ¬ 0 < x → mw g own cc nL ret ini rm Q k n w (pc + 3) ls st) : mw g own cc nL ret ini rm Q k n w pc ls (.int x :: st) := by
  intro p l e s m args below meth c H locs lsA a
  exact lv_if_gt a.1.1 a.1.2.1 d ht (fun q => kt q p l e s m args below meth c H locs lsA a) (fun q => kf q p l e s m args below meth c H locs lsA a)
theorem mw_icmp_gt {x y : Int32} {off : Int} {tgt : Nat} (d : decode cc pc = .ok (.if_icmp .gt off, 3)) (ht : (pc : Int) + off = (tgt : Int)) (kt : y < x → mw g own cc nL ret ini rm Q k n w tgt ls st)
    (kf : ¬ y < x → mw g own cc nL ret ini rm Q k n w (pc + 3) ls st) : mw g own cc nL ret ini rm Q k n w pc ls (.int y :: .int x :: st) := by
  intro p l e s m args below meth c H locs lsA a
  exact lv_icmp_gt a.1.1 a.1.2.1 d ht (fun q => kt q p l e s m args below meth c H locs lsA a) (fun q => kf q p l e s m args below meth c H locs lsA a)
theorem mw_if_le {x : Int32} {off : Int} {tgt : Nat} (d : decode cc pc = .ok (.ifCond .le off, 3)) (ht : (pc : Int) + off = (tgt : Int)) (kt : x ≤ 0 → mw g own cc nL ret ini rm Q k n w tgt ls st)
    (kf : ¬ x ≤ 0 → mw g own cc nL ret ini rm Q k n w (pc + 3) ls st) : mw g own cc nL ret ini rm Q k n w pc ls (.int x :: st) := by
  intro p l e s m args below meth c H locs lsA a
  exact lv_if_le a.1.1 a.1.2.1 d ht (fun q => kt q p l e s m args below meth c H locs lsA a) (fun q => kf q p l e s m args below meth c H locs lsA a)
theorem mw_icmp_le {x y : Int32} {off : Int} {tgt : Nat} (d : decode cc pc = .ok (.if_icmp .le off, 3)) (ht : (pc : Int) + off = (tgt : Int)) (kt : x ≤ y → mw g own cc nL ret ini rm Q k n w tgt ls st)
    (kf : ¬ x ≤ y → mw g own cc nL ret ini rm Q k n w (pc + 3) ls st) : mw g own cc nL ret ini rm Q k n w pc ls (.int y :: .int x :: st) := by
  intro p l e s m args below meth c H locs lsA a
  exact lv_icmp_le a.1.1 a.1.2.1 d ht (fun q => kt q p l e s m args below meth c H locs lsA a) (fun q => kf q p l e s m args below meth c H locs lsA a)
theorem mw_if_ne {x : Int32} {off : Int} {tgt : Nat} (d : decode cc pc = .ok (.ifCond .ne off, 3)) (ht : (pc : Int) + off = (tgt : Int)) (kt : ¬ x = 0 → mw g own cc nL ret ini rm Q k n w tgt ls st)
    (kf : x = 0 → mw g own cc nL ret ini rm Q k n w (pc + 3) ls st) : mw g own cc nL ret ini rm Q k n w pc ls (.int x :: st) := by
  intro p l e s m args below meth c H locs lsA a
  exact lv_if_ne a.1.1 a.1.2.1 d ht (fun q => kt q p l e s m args below meth c H locs lsA a) (fun q => kf q p l e s m args below meth c H locs lsA a)
theorem mw_icmp_ne {x y : Int32} {off : Int} {tgt : Nat} (d : decode cc pc = .ok (.if_icmp .ne off, 3)) (ht : (pc : Int) + off = (tgt : Int)) (kt : ¬ x = y → mw g own cc nL ret ini rm Q k n w tgt ls st)
    (kf : x = y → mw g own cc nL ret ini rm Q k n w (pc + 3) ls st) : mw g own cc nL ret ini rm Q k n w pc ls (.int y :: .int x :: st) := by
  intro p l e s m args below meth c H locs lsA a
  exact lv_icmp_ne a.1.1 a.1.2.1 d ht (fun q => kt q p l e s m args below meth c H locs lsA a) (fun q => kf q p l e s m args below meth c H locs lsA a)
theorem mw_goto {off : Int} {tgt : Nat} (d : decode cc pc = .ok (.goto off, 3)) (ht : (pc : Int) + off = (tgt : Int))
    (kk : mw g own cc nL ret ini rm Q k n w tgt ls st) : mw g own cc nL ret ini rm Q k n w pc ls st := by
  intro p l e s m args below meth c H locs lsA a
  exact lv_goto a.1.1 a.1.2.1 d ht (kk p l e s m args below meth c H locs lsA a)
theorem mw_nonnull {x : Nat} {off : Int} {tgt : Nat} (d : decode cc pc = .ok (.ifnonnull off, 3)) (ht : (pc : Int) + off = (tgt : Int))
    (kk : mw g own cc nL ret ini rm Q k n w tgt ls st) : mw g own cc nL ret ini rm Q k n w pc ls (.ref x :: st) := by
  intro p l e s m args below meth c H locs lsA a
  exact lv_ifnonnull a.1.1 a.1.2.1 d ht (kk p l e s m args below meth c H locs lsA a)
theorem mw_nonnullN {off : Int} (d : decode cc pc = .ok (.ifnonnull off, 3))
    (kk : mw g own cc nL ret ini rm Q k n w (pc + 3) ls st) : mw g own cc nL ret ini rm Q k n w pc ls (.null :: st) := by
  intro p l e s m args below meth c H locs lsA a
  exact lv_ifnonnullN a.1.1 a.1.2.1 d (kk p l e s m args below meth c H locs lsA a)
theorem mw_lookup {dflt : Int} {ps : Array (Int × Int)} {len : Nat} {x : Int32} {off : Int} {tgt : Nat} (d : decode cc pc = .ok (.lookupswitch dflt ps, len)) (hp : (ps.toList.zip (ps.toList.drop 1)).all (fun (a, next) => a.1 < next.1) = true) (ho : Op.lookupswitch.offset ps.toList dflt x.toInt = off) (ht : (pc : Int) + off = (tgt : Int))
    (kk : mw g own cc nL ret ini rm Q k n w tgt ls st) : mw g own cc nL ret ini rm Q k n w pc ls (.int x :: st) := by
  intro p l e s m args below meth c H locs lsA a
  exact lv_lookup a.1.1 a.1.2.1 d hp ho ht (kk p l e s m args below meth c H locs lsA a)
theorem mw_tableOut {dflt lo hi : Int} {offs : Array Int} {len : Nat} {x : Int32} {tgt : Nat} (d : decode cc pc = .ok (.tableswitch dflt lo hi offs, len)) (h : x.toInt < lo ∨ hi < x.toInt) (ht : (pc : Int) + dflt = (tgt : Int))
    (kk : mw g own cc nL ret ini rm Q k n w tgt ls st) : mw g own cc nL ret ini rm Q k n w pc ls (.int x :: st) := by
  intro p l e s m args below meth c H locs lsA a
  exact lv_tableOut a.1.1 a.1.2.1 d h ht (kk p l e s m args below meth c H locs lsA a)
theorem mw_tableIn {dflt lo hi : Int} {offs : Array Int} {len : Nat} {x : Int32} {off : Int} {tgt : Nat} (d : decode cc pc = .ok (.tableswitch dflt lo hi offs, len)) (h1 : ¬ x.toInt < lo) (h2 : ¬ hi < x.toInt) (ho : offs[(x.toInt - lo).toNat]? = some off) (ht : (pc : Int) + off = (tgt : Int))
    (kk : mw g own cc nL ret ini rm Q k n w tgt ls st) : mw g own cc nL ret ini rm Q k n w pc ls (.int x :: st) := by
  intro p l e s m args below meth c H locs lsA a
  exact lv_tableIn a.1.1 a.1.2.1 d h1 h2 ho ht (kk p l e s m args below meth c H locs lsA a)
theorem mw_iret {v : Int32} (hr : ret = some .int) (d : decode cc pc = .ok (.ireturn, 1)) (hc : k = rm.cells) (hs : n = rm.slots)
    (hq : Q (some (.int v)) w) : mw g own cc nL ret ini rm Q k n w pc ls [.int v] := by
  intro p l e s m args below meth c H locs lsA a
  subst hc
  subst hs
  exact W.iret a.1.1 a.1.2.1 (by rw [a.1.2.2.2.2.2.1]; exact hr) (fun t ht hW => ⟨⟨_, w, rfl, hq, by rw [ht]; exact a.2.2.1⟩, a.2.2.2.1.F ht⟩) a.2.2.2.1.2.2 d (hlocks := a.1.2.2.2.2.2.2.1)
theorem mw_zret {v : Int32} (hr : ret = some .boolean) (hv : narrow .boolean (.int v) = .int v) (d : decode cc pc = .ok (.ireturn, 1)) (hc : k = rm.cells) (hs : n = rm.slots)
    (hq : Q (some (.int v)) w) : mw g own cc nL ret ini rm Q k n w pc ls [.int v] := by
  intro p l e s m args below meth c H locs lsA a
  subst hc
  subst hs
  exact W.zret a.1.1 a.1.2.1 (by rw [a.1.2.2.2.2.2.1]; exact hr) hv (fun t ht hW => ⟨⟨_, w, rfl, hq, by rw [ht]; exact a.2.2.1⟩, a.2.2.2.1.F ht⟩) a.2.2.2.1.2.2 d (hlocks := a.1.2.2.2.2.2.2.1)
theorem mw_vret (hr : ret = none) (d : decode cc pc = .ok (.return_, 1)) (hc : k = rm.cells) (hs : n = rm.slots)
    (hq : Q none w) : mw g own cc nL ret ini rm Q k n w pc ls [] := by
  intro p l e s m args below meth c H locs lsA a
  subst hc
  subst hs
  exact W.vret a.1.1 a.1.2.1 (by rw [a.1.2.2.2.2.2.1]; exact hr) (fun t ht hW => ⟨⟨none, w, rfl, hq, by rw [ht]; exact a.2.2.1⟩, a.2.2.2.1.F ht⟩) a.2.2.2.1.2.2 d (hlocks := a.1.2.2.2.2.2.2.1)
theorem mw_aret {v : Value} {C : String} (hr : ret = some (.object C)) (hv : v = .null ∨ ∃ a, v = .ref a) (d : decode cc pc = .ok (.areturn, 1)) (hc : k = rm.cells) (hs : n = rm.slots)
    (hq : Q (some v) w) : mw g own cc nL ret ini rm Q k n w pc ls [v] := by
  intro p l e s m args below meth c H locs lsA a
  subst hc
  subst hs
  exact W.aret a.1.1 a.1.2.1 (by rw [a.1.2.2.2.2.2.1]; exact hr) (Or.inl ⟨_, rfl⟩) (by rcases hv with rfl | ⟨b, rfl⟩; exact Or.inl rfl; exact Or.inr ⟨_, rfl⟩) (fun t ht hW => ⟨⟨_, w, rfl, hq, by rw [ht]; exact a.2.2.1⟩, a.2.2.2.1.F ht⟩) a.2.2.2.1.2.2 d (hlocks := a.1.2.2.2.2.2.2.1)
end MW
