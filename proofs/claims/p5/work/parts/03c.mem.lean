/-! ===== rows of the small machine: cells, calls ===== -/
theorem mm_inX : ∀ q ∈ vwCl, ∀ w ∈ u_ws q.1 q.2.1 q.2.2, w ∈ mm_ok := by decide +kernel
theorem mm_nmX : ∀ q ∈ vwCl, ∀ a, a < q.2.2 → ∀ b, b < q.2.2 → a ≠ b → (q.2.1 a).2.1 ≠ (q.2.1 b).2.1 := by decide +kernel
theorem mm_tyX {ci : Nat} {q : vw_C} (h : vwCl[ci]? = some q) : ∃ ty : Nat → FieldType, ∀ k, k < q.2.2 → parseFieldDescriptor (q.2.1 k).2.2.1 = some (ty k) := by
  match ci, h with
  | 0, h => cases h; exact ⟨_, tyX0_ok⟩
  | 1, h => cases h; exact ⟨_, tyX1_ok⟩
  | 2, h => cases h; exact ⟨_, tyX2_ok⟩
  | 3, h => cases h; exact ⟨_, tyX3_ok⟩
  | 4, h => cases h; exact ⟨_, tyX4_ok⟩
  | 5, h => cases h; exact ⟨_, tyX5_ok⟩
  | 6, h => cases h; exact ⟨_, tyX6_ok⟩
  | 7, h => cases h; exact ⟨_, tyX7_ok⟩
  | 8, h => cases h; exact ⟨_, tyX8_ok⟩
  | 9, h => cases h; exact ⟨_, tyX9_ok⟩
  | 10, h => cases h; exact ⟨_, tyX10_ok⟩
  | k + 11, h => simp [vwCl] at h
theorem mm_e_obj {g : mm_G} {ci : Nat} {fs : List Value} : mm_e g (.inl (ci, fs)) = .inr (ci, fs.map (mm_v g)) := rfl
theorem mm_e_int {g : mm_G} {t n : Nat} {f : Nat → Int32} : mm_e g (.inr (t, n, .inl f)) = .inl (g.2.2.2.1 t, n, .inl f) := rfl
theorem mm_narrow {ty : FieldType} {v : Value} (g : mm_G) (h : narrow ty v = v) : narrow ty (mm_v g v) = mm_v g v := by
  cases v <;> first | exact h | (cases ty <;> rfl)
theorem mm_fits {ty : FieldType} {v : Value} (g : mm_G) (h : fits ty v = true) : fits ty (mm_v g v) = true := by
  cases v <;> first | exact h | (cases ty <;> first | exact h | rfl)
theorem mm_K.calling {g : mm_G} {U : State} {f : JFrame} {mk : MethodId} {a : Array Value} (h : mm_K g U) : mm_K g (U.calling f mk a) := by
  obtain ⟨h1, h2, h3, h4⟩ := h
  refine ⟨va_K.moved (u := U) (U := U.calling f mk a) (Vm.Alike.refl U.vm) h1, fun w hw => ?_, va_Z.moved (u := U) (U := U.calling f mk a) (Vm.Alike.refl U.vm) h3, va_T.moved (u := U) (U := U.calling f mk a) (Vm.Alike.refl U.vm) h4⟩
  have h9 := (List.mem_filter.mp hw).2
  have h8 := h2 w hw
  cases w with
  | methodLinkNest a i x h => exact va_Nw.same rfl rfl h8
  | fieldLinkNest a i b n d h => exact va_Nw.same rfl rfl h8
  | _ => exact absurd h9 (by simp [mm_nw])
section MW
variable {g : mm_G} {own : String} {cc : ByteArray} {nL : Nat} {ret : Option FieldType} {ini : Bool} {rm : Room} {Q : Option Value → List mm_E → Prop} {k n : Nat} {w : List mm_E} {pc : Nat} {ls : List (Nat × Value)} {st : List Value}
theorem mw_get {a ci j idx : Nat} {fs : List Value} {C : String} {T : u_T} {N : Nat} {v : Value} (d : decode cc pc = .ok (.getfield idx, 3)) (hw : w[a]? = some (.inl (ci, fs))) (hc : vwCl[ci]? = some (C, T, N)) (hj : j < N) (hl : Cond.fieldLink own idx (T j).1 (T j).2.1 (T j).2.2.1 ∈ mm_ok) (hv : fs[j]? = some v)
    (kk : mw g own cc nL ret ini rm Q k n w (pc + 3) ls (v :: st)) : mw g own cc nL ret ini rm Q k n w pc ls (.ref a :: st) := by
  intro p l e s m args below meth c H locs lsA A
  have ha := Nat.lt_of_lt_of_le (mm_lt hw) A.2.2.1.2.2
  show W _ _ _ _ _ _ _ _ _ _ _ _ _ _ _ (F0 m pc lsA (mm_v g (.ref a) :: st.map (mm_v g)))
  rw [mm_v_ref ha]
  exact va_get A.1.1 A.1.2.1 A.1.2.2.2.2.1 (mm_inX _ (List.mem_of_getElem? hc)) A.1.2.2.2.1 A.2.1.1 A.2.2.1.1 a (mm_w_get hw) hc j hj (A.1.2.2.2.2.1 _ hl) (fun _ h => h) (by rw [List.getElem?_map, hv]; rfl) d (kk p l e s m args below meth c H locs lsA A)
theorem mw_put {a ci j idx : Nat} {fs : List Value} {C : String} {T : u_T} {N : Nat} {ty : FieldType} {v : Value} (d : decode cc pc = .ok (.putfield idx, 3)) (hw : w[a]? = some (.inl (ci, fs))) (hc : vwCl[ci]? = some (C, T, N)) (hj : j < N) (hl : Cond.fieldLink own idx (T j).1 (T j).2.1 (T j).2.2.1 ∈ mm_ok) (hf : (T j).2.2.2 = false) (hd : parseFieldDescriptor (T j).2.2.1 = some ty) (hn : narrow ty v = v) (hfit : fits ty v = true) (hlen : j < fs.length)
    (kk : mw g own cc nL ret ini rm Q k n (w.set a (.inl (ci, fs.set j v))) (pc + 3) ls st) : mw g own cc nL ret ini rm Q k n w pc ls (v :: .ref a :: st) := by
  intro p l e s m args below meth c H locs lsA A
  have ha := Nat.lt_of_lt_of_le (mm_lt hw) A.2.2.1.2.2
  show W _ _ _ _ _ _ _ _ _ _ _ _ _ _ _ (F0 m pc lsA (mm_v g v :: mm_v g (.ref a) :: st.map (mm_v g)))
  rw [mm_v_ref ha]
  obtain ⟨ty0, hty⟩ := mm_tyX hc
  refine va_put A.1.1 A.1.2.1 A.1.2.2.2.2.1 (mm_inX _ (List.mem_of_getElem? hc)) ty0 hty (mm_nmX _ (List.mem_of_getElem? hc)) A.1.2.2.2.1 A.2.1.1 A.2.2.1.1 A.2.2.1.2.1 A.2.2.2.1 a (mm_w_get hw) hc j hj (A.1.2.2.2.2.1 _ hl) (fun _ h => h) hf hd (mm_narrow g hn) (mm_fits g hfit) (by rw [List.length_map]; exact hlen) d (fun H1 locs1 hP hD hS => ?_)
  rw [← List.map_set, ← mm_e_obj, mm_w_set] at hP hD
  exact kk p l e s m args below meth c H1 locs1 lsA ⟨A.1, A.2.1, ⟨hP, hD, by rw [List.length_set]; exact A.2.2.1.2.2⟩, hS, A.2.2.2.2⟩
theorem mw_putF {a ci j idx : Nat} {fs : List Value} {C : String} {T : u_T} {N : Nat} {ty : FieldType} {v : Value} (hi : ini = true) (d : decode cc pc = .ok (.putfield idx, 3)) (hw : w[a]? = some (.inl (ci, fs))) (hc : vwCl[ci]? = some (C, T, N)) (hj : j < N) (hl : Cond.fieldLink own idx (T j).1 (T j).2.1 (T j).2.2.1 ∈ mm_ok) (hf : (T j).2.2.2 = true) (ho : (T j).1 = own) (hd : parseFieldDescriptor (T j).2.2.1 = some ty) (hn : narrow ty v = v) (hfit : fits ty v = true) (hlen : j < fs.length)
    (kk : mw g own cc nL ret ini rm Q k n (w.set a (.inl (ci, fs.set j v))) (pc + 3) ls st) : mw g own cc nL ret ini rm Q k n w pc ls (v :: .ref a :: st) := by
  intro p l e s m args below meth c H locs lsA A
  have ha := Nat.lt_of_lt_of_le (mm_lt hw) A.2.2.1.2.2
  show W _ _ _ _ _ _ _ _ _ _ _ _ _ _ _ (F0 m pc lsA (mm_v g v :: mm_v g (.ref a) :: st.map (mm_v g)))
  rw [mm_v_ref ha]
  obtain ⟨ty0, hty⟩ := mm_tyX hc
  refine va_putF A.1.1 A.1.2.1 A.1.2.2.2.2.1 (mm_inX _ (List.mem_of_getElem? hc)) ty0 hty (mm_nmX _ (List.mem_of_getElem? hc)) A.1.2.2.2.1 A.2.1.1 A.2.2.1.1 A.2.2.1.2.1 A.2.2.2.1 a (mm_w_get hw) hc j hj (A.1.2.2.2.2.1 _ hl) (fun _ h => h) hf (A.1.2.2.2.2.2.2.2 hi) ho hd (mm_narrow g hn) (mm_fits g hfit) (by rw [List.length_map]; exact hlen) d (fun H1 locs1 hP hD hS => ?_)
  rw [← List.map_set, ← mm_e_obj, mm_w_set] at hP hD
  exact kk p l e s m args below meth c H1 locs1 lsA ⟨A.1, A.2.1, ⟨hP, hD, by rw [List.length_set]; exact A.2.2.1.2.2⟩, hS, A.2.2.2.2⟩
theorem mw_iald {a N : Nat} {f : Nat → Int32} {i : Int32} (d : decode cc pc = .ok (.iaload, 1)) (hw : w[a]? = some (.inr (0, N, .inl f))) (hin : vp_in i N)
    (kk : mw g own cc nL ret ini rm Q k n w (pc + 1) ls (.int (f i.toNatClampNeg) :: st)) : mw g own cc nL ret ini rm Q k n w pc ls (.int i :: .ref a :: st) := by
  intro p l e s m args below meth c H locs lsA A
  have ha := Nat.lt_of_lt_of_le (mm_lt hw) A.2.2.1.2.2
  show W _ _ _ _ _ _ _ _ _ _ _ _ _ _ _ (F0 m pc lsA (.int i :: mm_v g (.ref a) :: st.map (mm_v g)))
  rw [mm_v_ref ha]
  exact va_iald A.1.1 A.1.2.1 A.2.1.1 A.2.2.1.1 a 0 (mm_w_get hw) rfl hin d (kk p l e s m args below meth c H locs lsA A)
theorem mw_zald {a N : Nat} {f : Nat → Int32} {i : Int32} (d : decode cc pc = .ok (.baload, 1)) (hw : w[a]? = some (.inr (1, N, .inl f))) (hin : vp_in i N)
    (kk : mw g own cc nL ret ini rm Q k n w (pc + 1) ls (.int (f i.toNatClampNeg) :: st)) : mw g own cc nL ret ini rm Q k n w pc ls (.int i :: .ref a :: st) := by
  intro p l e s m args below meth c H locs lsA A
  have ha := Nat.lt_of_lt_of_le (mm_lt hw) A.2.2.1.2.2
  show W _ _ _ _ _ _ _ _ _ _ _ _ _ _ _ (F0 m pc lsA (.int i :: mm_v g (.ref a) :: st.map (mm_v g)))
  rw [mm_v_ref ha]
  exact va_zald A.1.1 A.1.2.1 A.2.1.1 A.2.2.1.1 a 1 (mm_w_get hw) rfl hin d (kk p l e s m args below meth c H locs lsA A)
theorem mw_iast {a N : Nat} {f : Nat → Int32} {i x : Int32} (d : decode cc pc = .ok (.iastore, 1)) (hw : w[a]? = some (.inr (0, N, .inl f))) (hin : vp_in i N)
    (kk : mw g own cc nL ret ini rm Q k n (w.set a (.inr (0, N, .inl (upd f i.toNatClampNeg x)))) (pc + 1) ls st) : mw g own cc nL ret ini rm Q k n w pc ls (.int x :: .int i :: .ref a :: st) := by
  intro p l e s m args below meth c H locs lsA A
  have ha := Nat.lt_of_lt_of_le (mm_lt hw) A.2.2.1.2.2
  show W _ _ _ _ _ _ _ _ _ _ _ _ _ _ _ (F0 m pc lsA (.int x :: .int i :: mm_v g (.ref a) :: st.map (mm_v g)))
  rw [mm_v_ref ha]
  refine va_iast A.1.1 A.1.2.1 A.2.1.1 A.2.2.1.1 A.2.2.1.2.1 A.2.2.2.1 a 0 (mm_w_get hw) rfl hin d (fun H1 locs1 hP hD hS => ?_)
  rw [← mm_e_int, mm_w_set] at hP hD
  exact kk p l e s m args below meth c H1 locs1 lsA ⟨A.1, A.2.1, ⟨hP, hD, by rw [List.length_set]; exact A.2.2.1.2.2⟩, hS, A.2.2.2.2⟩
theorem mw_zast {a N : Nat} {f : Nat → Int32} {i x : Int32} (d : decode cc pc = .ok (.bastore, 1)) (hw : w[a]? = some (.inr (1, N, .inl f))) (hin : vp_in i N)
    (kk : mw g own cc nL ret ini rm Q k n (w.set a (.inr (1, N, .inl (upd f i.toNatClampNeg (vp_nar .boolean x))))) (pc + 1) ls st) : mw g own cc nL ret ini rm Q k n w pc ls (.int x :: .int i :: .ref a :: st) := by
  intro p l e s m args below meth c H locs lsA A
  have ha := Nat.lt_of_lt_of_le (mm_lt hw) A.2.2.1.2.2
  show W _ _ _ _ _ _ _ _ _ _ _ _ _ _ _ (F0 m pc lsA (.int x :: .int i :: mm_v g (.ref a) :: st.map (mm_v g)))
  rw [mm_v_ref ha]
  refine va_zast A.1.1 A.1.2.1 A.2.1.1 A.2.2.1.1 A.2.2.1.2.1 A.2.2.2.1 a 1 (mm_w_get hw) rfl hin d (fun H1 locs1 hP hD hS => ?_)
  rw [← mm_e_int, mm_w_set] at hP hD
  exact kk p l e s m args below meth c H1 locs1 lsA ⟨A.1, A.2.1, ⟨hP, hD, by rw [List.length_set]; exact A.2.2.1.2.2⟩, hS, A.2.2.2.2⟩
theorem mw_aald {a t N b : Nat} {f : Nat → Option Nat} {i : Int32} {ty : FieldType} (d : decode cc pc = .ok (.aaload, 1)) (hw : w[a]? = some (.inr (t, N, .inr f))) (ht : (mm_tys g)[t]? = some (g.2.2.2.1 t, ty)) (hty : ty.isReference = true) (hin : vp_in i N) (hb : f i.toNatClampNeg = some b) (hb9 : b < 999)
    (kk : mw g own cc nL ret ini rm Q k n w (pc + 1) ls (.ref b :: st)) : mw g own cc nL ret ini rm Q k n w pc ls (.int i :: .ref a :: st) := by
  intro p l e s m args below meth c H locs lsA A
  have ha := Nat.lt_of_lt_of_le (mm_lt hw) A.2.2.1.2.2
  show W _ _ _ _ _ _ _ _ _ _ _ _ _ _ _ (F0 m pc lsA (.int i :: mm_v g (.ref a) :: st.map (mm_v g)))
  rw [mm_v_ref ha]
  have hlt : i.toNatClampNeg < N := Nat.not_le.mp fun q => hin (Or.inr q)
  have k2 := kk p l e s m args below meth c H locs lsA A
  rw [show List.map (mm_v g) (.ref b :: st) = .ref (g.2.2.1 + b) :: st.map (mm_v g) by rw [List.map_cons, mm_v_ref hb9]] at k2
  exact W.aald (v := .ref (g.2.2.1 + b)) (ty := ty) A.1.1 A.1.2.1 (A.2.2.1.1 a _ (mm_w_get hw)) ((A.2.1.1.2 t _ ht).1 N (fun j => va_rf ((f j).map (fun a => g.2.2.1 + a)))) hty (fun q => by cases q) (by show ¬ (i < 0 ∨ (arrV _ _ _).slots.size ≤ _); rw [arrV_size]; exact hin) (by show (arrV _ _ _).slots[_]? = _; rw [arrV_read _ _ hlt]; dsimp only; rw [hb]; rfl) rfl rfl d k2
theorem mw_alen {a t N : Nat} {f : (Nat → Int32) ⊕ (Nat → Option Nat)} {ty : FieldType} {v : Int32} (d : decode cc pc = .ok (.arraylength, 1)) (hw : w[a]? = some (.inr (t, N, f))) (ht : (mm_tys g)[t]? = some (g.2.2.2.1 t, ty)) (hv : Int32.ofNat N = v)
    (kk : mw g own cc nL ret ini rm Q k n w (pc + 1) ls (.int v :: st)) : mw g own cc nL ret ini rm Q k n w pc ls (.ref a :: st) := by
  intro p l e s m args below meth c H locs lsA A
  have ha := Nat.lt_of_lt_of_le (mm_lt hw) A.2.2.1.2.2
  show W _ _ _ _ _ _ _ _ _ _ _ _ _ _ _ (F0 m pc lsA (mm_v g (.ref a) :: st.map (mm_v g)))
  rw [mm_v_ref ha]
  have hg := mm_w_get (g := g) hw
  rcases f with f | f
  · exact va_alen A.1.1 A.1.2.1 A.2.1.1 A.2.2.1.1 a t hg ht hv d (kk p l e s m args below meth c H locs lsA A)
  · exact va_alen A.1.1 A.1.2.1 A.2.1.1 A.2.2.1.1 a t hg ht hv d (kk p l e s m args below meth c H locs lsA A)
/-! the static array -/
theorem mw_gets {idx : Nat} (d : decode cc pc = .ok (.getstatic idx, 3)) (hl : Cond.fieldLink own idx "VoiceWills" "ORDERS_OF" "[I" ∈ mm_ok)
    (kk : mw g own cc nL ret ini rm Q k n w (pc + 3) ls (.ref 999 :: st)) : mw g own cc nL ret ini rm Q k n w pc ls st := by
  intro p l e s m args below meth c H locs lsA A
  exact va_gets A.1.1 A.1.2.1 A.2.1.2.2.1 A.2.2.2.1 A.1.2.2.2.1 (A.1.2.2.2.2.1 _ hl) (fun _ h => h) d (kk p l e s m args below meth c H locs lsA A)
theorem mw_getsN {idx : Nat} {host : String} (d : decode cc pc = .ok (.getstatic idx, 3)) (hl : Cond.fieldLinkNest own idx "VoiceWills" "ORDERS_OF" "[I" host ∈ mm_nest)
    (kk : mw g own cc nL ret ini rm Q k n w (pc + 3) ls (.ref 999 :: st)) : mw g own cc nL ret ini rm Q k n w pc ls st := by
  intro p l e s m args below meth c H locs lsA A
  exact va_getsN A.1.1 A.1.2.1 A.2.1.2.2.1 A.2.2.2.1 A.1.2.2.2.1 (va_Nw.use rfl (A.2.1.2.1 _ hl)) (fun _ h => h) d (kk p l e s m args below meth c H locs lsA A)
theorem mw_iald9 {i : Int32} (d : decode cc pc = .ok (.iaload, 1)) (hin : vp_in i 5)
    (kk : mw g own cc nL ret ini rm Q k n w (pc + 1) ls (.int (mm_ordn i.toNatClampNeg) :: st)) : mw g own cc nL ret ini rm Q k n w pc ls (.int i :: .ref 999 :: st) := by
  intro p l e s m args below meth c H locs lsA A
  obtain ⟨cell, h1, h2, h3, h4, h5, h6, h7⟩ := A.2.1.2.2.2
  have hlt : i.toNatClampNeg < 5 := Nat.not_le.mp fun q => hin (Or.inr q)
  exact W.iald (v := .int (mm_ordn i.toNatClampNeg)) A.1.1 A.1.2.1 (by show H[g.2.1]? = _; rw [A.2.2.2.1.2.1 _ (Array.getElem?_eq_some_iff.mp h1).1 h7]; exact h1) h2 h3 (fun q => q.elim (fun q => hin (Or.inl q)) (fun q => by omega)) (h6 _ hlt) rfl rfl d (kk p l e s m args below meth c H locs lsA A)
theorem mw_alen9 (d : decode cc pc = .ok (.arraylength, 1))
    (kk : mw g own cc nL ret ini rm Q k n w (pc + 1) ls (.int 5 :: st)) : mw g own cc nL ret ini rm Q k n w pc ls (.ref 999 :: st) := by
  intro p l e s m args below meth c H locs lsA A
  obtain ⟨cell, h1, h2, h3, h4, h5, h6, h7⟩ := A.2.1.2.2.2
  exact W.alen (n := 5) A.1.1 A.1.2.1 (by show H[g.2.1]? = _; rw [A.2.2.2.1.2.1 _ (Array.getElem?_eq_some_iff.mp h1).1 h7]; exact h1) h2 h5 rfl rfl d (kk p l e s m args below meth c H locs lsA A)
end MW
