/-! ===== the reader: writes and tokens, plainly ===== -/
theorem up_at {S : mm_S} {a j : Nat} {x : Int32} : (mm_up S a j x).1 a j = x := if_pos ⟨rfl, rfl⟩
theorem up_ne {S : mm_S} {a j b i : Nat} {x : Int32} (h : ¬ (b = a ∧ i = j)) : (mm_up S a j x).1 b i = S.1 b i := if_neg h
theorem up_row {S : mm_S} {a j b : Nat} {x : Int32} (h : b ≠ a) : (mm_up S a j x).1 b = S.1 b := funext fun _ => if_neg (fun q => h q.1)
/-! the class's reader: four fields over a base -/
def rd (S : mm_S) (k f a m : Int32) : mm_S := (fun b j => if b = 1 then (if j = 1 then k else if j = 2 then f else if j = 3 then a else if j = 4 then m else S.1 1 j) else S.1 b j, S.2)
section RD
variable {S : mm_S} {k f a m x : Int32}
theorem rd_1 : (rd S k f a m).1 1 1 = k := rfl
theorem rd_2 : (rd S k f a m).1 1 2 = f := rfl
theorem rd_3 : (rd S k f a m).1 1 3 = a := rfl
theorem rd_4 : (rd S k f a m).1 1 4 = m := rfl
theorem rd_0 : (rd S k f a m).1 1 0 = S.1 1 0 := rfl
theorem rd_row {b : Nat} (h : b ≠ 1) : (rd S k f a m).1 b = S.1 b := funext fun _ => if_neg h
theorem rd_up1 : mm_up (rd S k f a m) 1 1 x = rd S x f a m := by
  refine Prod.ext (funext fun b => funext fun j => ?_) rfl
  show (if b = 1 ∧ j = 1 then x else (rd S k f a m).1 b j) = (rd S x f a m).1 b j
  unfold rd
  dsimp only
  by_cases hb : b = 1
  · by_cases hj : j = 1
    · rw [if_pos ⟨hb, hj⟩, if_pos hb, if_pos hj]
    · rw [if_neg (fun q => hj q.2), if_pos hb, if_pos hb, if_neg hj, if_neg hj]
  · rw [if_neg (fun q => hb q.1), if_neg hb, if_neg hb]
theorem rd_up2 : mm_up (rd S k f a m) 1 2 x = rd S k x a m := by
  refine Prod.ext (funext fun b => funext fun j => ?_) rfl
  show (if b = 1 ∧ j = 2 then x else (rd S k f a m).1 b j) = (rd S k x a m).1 b j
  unfold rd
  dsimp only
  by_cases hb : b = 1
  · by_cases hj : j = 2
    · subst hb; subst hj; rfl
    · rw [if_neg (fun q => hj q.2), if_pos hb, if_pos hb, if_neg hj, if_neg hj]
  · rw [if_neg (fun q => hb q.1), if_neg hb, if_neg hb]
theorem rd_up3 : mm_up (rd S k f a m) 1 3 x = rd S k f x m := by
  refine Prod.ext (funext fun b => funext fun j => ?_) rfl
  show (if b = 1 ∧ j = 3 then x else (rd S k f a m).1 b j) = (rd S k f x m).1 b j
  unfold rd
  dsimp only
  by_cases hb : b = 1
  · by_cases hj : j = 3
    · subst hb; subst hj; rfl
    · rw [if_neg (fun q => hj q.2), if_pos hb, if_pos hb, if_neg hj, if_neg hj]
  · rw [if_neg (fun q => hb q.1), if_neg hb, if_neg hb]
theorem rd_up4 : mm_up (rd S k f a m) 1 4 x = rd S k f a x := by
  refine Prod.ext (funext fun b => funext fun j => ?_) rfl
  show (if b = 1 ∧ j = 4 then x else (rd S k f a m).1 b j) = (rd S k f a x).1 b j
  unfold rd
  dsimp only
  by_cases hb : b = 1
  · by_cases hj : j = 4
    · subst hb; subst hj; rfl
    · rw [if_neg (fun q => hj q.2), if_pos hb, if_pos hb, if_neg hj, if_neg hj]
  · rw [if_neg (fun q => hb q.1), if_neg hb, if_neg hb]
theorem rd_upo {b j : Nat} (h : b ≠ 1) : mm_up (rd S k f a m) b j x = rd (mm_up S b j x) k f a m := by
  refine Prod.ext (funext fun c => funext fun i => ?_) rfl
  show (if c = b ∧ i = j then x else (rd S k f a m).1 c i) = (rd (mm_up S b j x) k f a m).1 c i
  unfold rd
  dsimp only
  by_cases hc : c = 1
  · rw [if_neg (fun q => h (q.1.symm.trans hc)), if_pos hc, if_pos hc, up_row (fun q => h q.symm)]
  · rw [if_neg hc, if_neg hc]
    rfl
theorem rd_up0 : mm_up (rd S k f a m) 1 0 x = rd (mm_up S 1 0 x) k f a m := by
  refine Prod.ext (funext fun b => funext fun j => ?_) rfl
  show (if b = 1 ∧ j = 0 then x else (rd S k f a m).1 b j) = (rd (mm_up S 1 0 x) k f a m).1 b j
  unfold rd
  dsimp only
  by_cases hb : b = 1
  · by_cases hj : j = 0
    · subst hb; subst hj; rfl
    · rw [if_neg (fun q => hj q.2), if_pos hb, if_pos hb, up_ne (fun q => hj q.2)]
  · rw [if_neg (fun q => hb q.1), if_neg hb, if_neg hb, up_row hb]
theorem rd_eta : rd S (S.1 1 1) (S.1 1 2) (S.1 1 3) (S.1 1 4) = S := by
  refine Prod.ext (funext fun b => funext fun j => ?_) rfl
  unfold rd
  dsimp only
  by_cases hb : b = 1
  · rw [if_pos hb, hb]
    split
    · rename_i h; rw [h]
    · split
      · rename_i h; rw [h]
      · split
        · rename_i h; rw [h]
        · split
          · rename_i h; rw [h]
          · rfl
  · rw [if_neg hb]
end RD
/-! the reference's reader: six fields over a base -/
def td (S : mm_S) (p b s f v w : Int32) : mm_S := (fun x j => if x = 0 then (if j = 18 then p else if j = 19 then b else if j = 20 then s else if j = 21 then f else if j = 22 then v else if j = 23 then w else S.1 0 j) else S.1 x j, S.2)
section TDs
variable {S : mm_S} {p b s f v w x : Int32}
theorem td_18 : (td S p b s f v w).1 0 18 = p := rfl
theorem td_19 : (td S p b s f v w).1 0 19 = b := rfl
theorem td_20 : (td S p b s f v w).1 0 20 = s := rfl
theorem td_21 : (td S p b s f v w).1 0 21 = f := rfl
theorem td_22 : (td S p b s f v w).1 0 22 = v := rfl
theorem td_23 : (td S p b s f v w).1 0 23 = w := rfl
theorem td_2 : (td S p b s f v w).1 2 = S.1 2 := rfl
theorem td_row {c : Nat} (h : c ≠ 0) : (td S p b s f v w).1 c = S.1 c := funext fun _ => if_neg h
theorem td_upo {c j : Nat} (h : c ≠ 0) : mm_up (td S p b s f v w) c j x = td (mm_up S c j x) p b s f v w := by
  refine Prod.ext (funext fun d => funext fun i => ?_) rfl
  show (if d = c ∧ i = j then x else (td S p b s f v w).1 d i) = (td (mm_up S c j x) p b s f v w).1 d i
  unfold td
  dsimp only
  by_cases hd : d = 0
  · rw [if_neg (fun q => h (q.1.symm.trans hd)), if_pos hd, if_pos hd, up_row (fun q => h q.symm)]
  · rw [if_neg hd, if_neg hd]
    rfl
theorem td_eta : td S (S.1 0 18) (S.1 0 19) (S.1 0 20) (S.1 0 21) (S.1 0 22) (S.1 0 23) = S := by
  refine Prod.ext (funext fun c => funext fun j => ?_) rfl
  unfold td
  dsimp only
  by_cases hc : c = 0
  · rw [if_pos hc, hc]
    split
    · rename_i h; rw [h]
    · split
      · rename_i h; rw [h]
      · split
        · rename_i h; rw [h]
        · split
          · rename_i h; rw [h]
          · split
            · rename_i h; rw [h]
            · split
              · rename_i h; rw [h]
              · rfl
  · rw [if_neg hc]
theorem td_up18 : mm_up (td S p b s f v w) 0 18 x = td S x b s f v w := by
  refine Prod.ext (funext fun c => funext fun j => ?_) rfl
  show (if c = 0 ∧ j = 18 then x else (td S p b s f v w).1 c j) = (td S x b s f v w).1 c j
  unfold td
  dsimp only
  by_cases hc : c = 0
  · by_cases hj : j = 18
    · subst hc; subst hj; rfl
    · rw [if_neg (fun q => hj q.2), if_pos hc, if_pos hc, if_neg hj, if_neg hj]
  · rw [if_neg (fun q => hc q.1), if_neg hc, if_neg hc]
theorem td_up19 : mm_up (td S p b s f v w) 0 19 x = td S p x s f v w := by
  refine Prod.ext (funext fun c => funext fun j => ?_) rfl
  show (if c = 0 ∧ j = 19 then x else (td S p b s f v w).1 c j) = (td S p x s f v w).1 c j
  unfold td
  dsimp only
  by_cases hc : c = 0
  · by_cases hj : j = 19
    · subst hc; subst hj; rfl
    · rw [if_neg (fun q => hj q.2), if_pos hc, if_pos hc, if_neg hj, if_neg hj]
  · rw [if_neg (fun q => hc q.1), if_neg hc, if_neg hc]
theorem td_up20 : mm_up (td S p b s f v w) 0 20 x = td S p b x f v w := by
  refine Prod.ext (funext fun c => funext fun j => ?_) rfl
  show (if c = 0 ∧ j = 20 then x else (td S p b s f v w).1 c j) = (td S p b x f v w).1 c j
  unfold td
  dsimp only
  by_cases hc : c = 0
  · by_cases hj : j = 20
    · subst hc; subst hj; rfl
    · rw [if_neg (fun q => hj q.2), if_pos hc, if_pos hc, if_neg hj, if_neg hj]
  · rw [if_neg (fun q => hc q.1), if_neg hc, if_neg hc]
theorem td_up21 : mm_up (td S p b s f v w) 0 21 x = td S p b s x v w := by
  refine Prod.ext (funext fun c => funext fun j => ?_) rfl
  show (if c = 0 ∧ j = 21 then x else (td S p b s f v w).1 c j) = (td S p b s x v w).1 c j
  unfold td
  dsimp only
  by_cases hc : c = 0
  · by_cases hj : j = 21
    · subst hc; subst hj; rfl
    · rw [if_neg (fun q => hj q.2), if_pos hc, if_pos hc, if_neg hj, if_neg hj]
  · rw [if_neg (fun q => hc q.1), if_neg hc, if_neg hc]
theorem td_up22 : mm_up (td S p b s f v w) 0 22 x = td S p b s f x w := by
  refine Prod.ext (funext fun c => funext fun j => ?_) rfl
  show (if c = 0 ∧ j = 22 then x else (td S p b s f v w).1 c j) = (td S p b s f x w).1 c j
  unfold td
  dsimp only
  by_cases hc : c = 0
  · by_cases hj : j = 22
    · subst hc; subst hj; rfl
    · rw [if_neg (fun q => hj q.2), if_pos hc, if_pos hc, if_neg hj, if_neg hj]
  · rw [if_neg (fun q => hc q.1), if_neg hc, if_neg hc]
theorem td_up23 : mm_up (td S p b s f v w) 0 23 x = td S p b s f v x := by
  refine Prod.ext (funext fun c => funext fun j => ?_) rfl
  show (if c = 0 ∧ j = 23 then x else (td S p b s f v w).1 c j) = (td S p b s f v x).1 c j
  unfold td
  dsimp only
  by_cases hc : c = 0
  · by_cases hj : j = 23
    · subst hc; subst hj; rfl
    · rw [if_neg (fun q => hj q.2), if_pos hc, if_pos hc, if_neg hj, if_neg hj]
  · rw [if_neg (fun q => hc q.1), if_neg hc, if_neg hc]
end TDs
