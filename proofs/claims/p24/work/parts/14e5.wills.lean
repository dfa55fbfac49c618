section CL34
variable {a : Nat} {t : Nat → Int32} {n : Int32} {S1 S2 B1 B2 : mm_S} {f c m b s g v w x : Int32}
theorem and1 (x : Int32) : x &&& 1 = 0 ∨ x &&& 1 = 1 := by
  have hb : mm_b 0 1 (x &&& 1) := bd_andR (lo := 0) (hi := 1) (a := 1) (b := 1) rfl (by decide) (by decide)
  rcases (by omega : (x &&& 1).toInt = 0 ∨ (x &&& 1).toInt = 1) with q | q
  · exact Or.inl (Int32.toInt_inj.mp q)
  · exact Or.inr (Int32.toInt_inj.mp q)
theorem hw {S T : mm_S} {W p : Int32} (hp : 0 ≤ p.toInt ∧ p.toInt < 7) : F_X9_isIn S W p = F_X10_isIn T W p := by
  rw [F_X9_isIn, F_X10_isIn, if_neg (fun q => by have : p.toInt < 0 := Int32.lt_iff_toInt_lt.mp q; omega), if_neg (fun q => by have : (7 : Int) ≤ p.toInt := Int32.le_iff_toInt_le.mp q; omega)]
  rcases and1 (W >>> (p &&& 31)) with q | q
  · rw [q, if_pos rfl, if_neg (by decide)]
  · rw [q, if_neg (by decide), if_pos rfl]
end CL34
