/-! ===== the class: its shape, its bounds ===== -/
def shC : List mm_F := [.inl (9, [.inr 1, .inl 2, .inl 2, .inr 15, .inr 20, .inr 25, .inr 127, .inr 128, .inr 129, .inr 132, .inr 135, .inr 138, .inr 140]), .inl (8, [.inl 0, .inl 0, .inl 0, .inl 0, .inl 0, .inr 2]), .inr (0, 240, none), .inl (6, [.inl 0, .inl 0, .inl 0, .inl 0, .inr 4, .inr 5, .inr 6, .inr 7, .inr 8]), .inr (0, 7, none), .inr (0, 7, none), .inr (0, 7, none), .inr (0, 6, none), .inr (0, 6, none), .inl (6, [.inl 0, .inl 0, .inl 0, .inl 0, .inr 10, .inr 11, .inr 12, .inr 13, .inr 14]), .inr (0, 7, none), .inr (0, 7, none), .inr (0, 7, none), .inr (0, 6, none), .inr (0, 6, none), .inl (3, [.inl 0, .inl 0, .inl 0, .inr 16, .inr 17, .inr 18, .inr 19]), .inr (0, 7, none), .inr (0, 7, none), .inr (0, 7, none), .inr (0, 7, none), .inl (3, [.inl 0, .inl 0, .inl 0, .inr 21, .inr 22, .inr 23, .inr 24]), .inr (0, 7, none), .inr (0, 7, none), .inr (0, 7, none), .inr (0, 7, none), .inl (7, [.inl 0, .inl 0, .inr 26]), .inr (2, 20, some [27, 32, 37, 42, 47, 52, 57, 62, 67, 72, 77, 82, 87, 92, 97, 102, 107, 112, 117, 122]), .inl (3, [.inl 0, .inl 0, .inl 0, .inr 28, .inr 29, .inr 30, .inr 31]), .inr (0, 7, none), .inr (0, 7, none), .inr (0, 7, none), .inr (0, 7, none), .inl (3, [.inl 0, .inl 0, .inl 0, .inr 33, .inr 34, .inr 35, .inr 36]), .inr (0, 7, none), .inr (0, 7, none), .inr (0, 7, none), .inr (0, 7, none), .inl (3, [.inl 0, .inl 0, .inl 0, .inr 38, .inr 39, .inr 40, .inr 41]), .inr (0, 7, none), .inr (0, 7, none), .inr (0, 7, none), .inr (0, 7, none), .inl (3, [.inl 0, .inl 0, .inl 0, .inr 43, .inr 44, .inr 45, .inr 46]), .inr (0, 7, none), .inr (0, 7, none), .inr (0, 7, none), .inr (0, 7, none), .inl (3, [.inl 0, .inl 0, .inl 0, .inr 48, .inr 49, .inr 50, .inr 51]), .inr (0, 7, none), .inr (0, 7, none), .inr (0, 7, none), .inr (0, 7, none), .inl (3, [.inl 0, .inl 0, .inl 0, .inr 53, .inr 54, .inr 55, .inr 56]), .inr (0, 7, none), .inr (0, 7, none), .inr (0, 7, none), .inr (0, 7, none), .inl (3, [.inl 0, .inl 0, .inl 0, .inr 58, .inr 59, .inr 60, .inr 61]), .inr (0, 7, none), .inr (0, 7, none), .inr (0, 7, none), .inr (0, 7, none), .inl (3, [.inl 0, .inl 0, .inl 0, .inr 63, .inr 64, .inr 65, .inr 66]), .inr (0, 7, none), .inr (0, 7, none), .inr (0, 7, none), .inr (0, 7, none), .inl (3, [.inl 0, .inl 0, .inl 0, .inr 68, .inr 69, .inr 70, .inr 71]), .inr (0, 7, none), .inr (0, 7, none), .inr (0, 7, none), .inr (0, 7, none), .inl (3, [.inl 0, .inl 0, .inl 0, .inr 73, .inr 74, .inr 75, .inr 76]), .inr (0, 7, none), .inr (0, 7, none), .inr (0, 7, none), .inr (0, 7, none), .inl (3, [.inl 0, .inl 0, .inl 0, .inr 78, .inr 79, .inr 80, .inr 81]), .inr (0, 7, none), .inr (0, 7, none), .inr (0, 7, none), .inr (0, 7, none), .inl (3, [.inl 0, .inl 0, .inl 0, .inr 83, .inr 84, .inr 85, .inr 86]), .inr (0, 7, none), .inr (0, 7, none), .inr (0, 7, none), .inr (0, 7, none), .inl (3, [.inl 0, .inl 0, .inl 0, .inr 88, .inr 89, .inr 90, .inr 91]), .inr (0, 7, none), .inr (0, 7, none), .inr (0, 7, none), .inr (0, 7, none), .inl (3, [.inl 0, .inl 0, .inl 0, .inr 93, .inr 94, .inr 95, .inr 96]), .inr (0, 7, none), .inr (0, 7, none), .inr (0, 7, none), .inr (0, 7, none), .inl (3, [.inl 0, .inl 0, .inl 0, .inr 98, .inr 99, .inr 100, .inr 101]), .inr (0, 7, none), .inr (0, 7, none), .inr (0, 7, none), .inr (0, 7, none), .inl (3, [.inl 0, .inl 0, .inl 0, .inr 103, .inr 104, .inr 105, .inr 106]), .inr (0, 7, none), .inr (0, 7, none), .inr (0, 7, none), .inr (0, 7, none), .inl (3, [.inl 0, .inl 0, .inl 0, .inr 108, .inr 109, .inr 110, .inr 111]), .inr (0, 7, none), .inr (0, 7, none), .inr (0, 7, none), .inr (0, 7, none), .inl (3, [.inl 0, .inl 0, .inl 0, .inr 113, .inr 114, .inr 115, .inr 116]), .inr (0, 7, none), .inr (0, 7, none), .inr (0, 7, none), .inr (0, 7, none), .inl (3, [.inl 0, .inl 0, .inl 0, .inr 118, .inr 119, .inr 120, .inr 121]), .inr (0, 7, none), .inr (0, 7, none), .inr (0, 7, none), .inr (0, 7, none), .inl (3, [.inl 0, .inl 0, .inl 0, .inr 123, .inr 124, .inr 125, .inr 126]), .inr (0, 7, none), .inr (0, 7, none), .inr (0, 7, none), .inr (0, 7, none), .inr (3, 2, some [151, 157]), .inl (1, [.inl 0]), .inl (2, [.inl 0, .inr 130, .inr 131]), .inr (0, 6, none), .inr (0, 6, none), .inl (2, [.inl 0, .inr 133, .inr 134]), .inr (0, 6, none), .inr (0, 6, none), .inl (2, [.inl 0, .inr 136, .inr 137]), .inr (0, 15, none), .inr (0, 15, none), .inl (5, [.inl 0, .inl 0, .inr 139]), .inr (0, 7, none), .inl (0, [.inr 141, .inr 142, .inr 143]), .inr (0, 6, none), .inr (0, 6, none), .inr (4, 7, some [144, 145, 146, 147, 148, 149, 150]), .inr (0, 128, none), .inr (0, 128, none), .inr (0, 128, none), .inr (0, 128, none), .inr (0, 128, none), .inr (0, 128, none), .inr (0, 128, none), .inl (4, [.inl 0, .inl 0, .inr 152]), .inl (3, [.inl 0, .inl 0, .inl 0, .inr 153, .inr 154, .inr 155, .inr 156]), .inr (0, 7, none), .inr (0, 7, none), .inr (0, 7, none), .inr (0, 7, none), .inl (4, [.inl 0, .inl 0, .inr 158]), .inl (3, [.inl 0, .inl 0, .inl 0, .inr 159, .inr 160, .inr 161, .inr 162]), .inr (0, 7, none), .inr (0, 7, none), .inr (0, 7, none), .inr (0, 7, none)]
def tbC : mm_T := [(1, 0, 0, 0, 240), (1, 3, 3, 0, 240), (2, 0, 239, 0, 255), (3, 0, 0, 0, 7), (3, 1, 1, 0, 6), (3, 2, 2, 0, 6), (9, 0, 0, 0, 7), (9, 1, 1, 0, 6), (9, 2, 2, 0, 6), (15, 2, 2, 0, 7), (20, 2, 2, 0, 7), (27, 2, 2, 0, 7), (32, 2, 2, 0, 7), (37, 2, 2, 0, 7), (42, 2, 2, 0, 7), (47, 2, 2, 0, 7), (52, 2, 2, 0, 7), (57, 2, 2, 0, 7), (62, 2, 2, 0, 7), (67, 2, 2, 0, 7), (72, 2, 2, 0, 7), (77, 2, 2, 0, 7), (82, 2, 2, 0, 7), (87, 2, 2, 0, 7), (92, 2, 2, 0, 7), (97, 2, 2, 0, 7), (102, 2, 2, 0, 7), (107, 2, 2, 0, 7), (112, 2, 2, 0, 7), (117, 2, 2, 0, 7), (122, 2, 2, 0, 7), (152, 2, 2, 0, 7), (158, 2, 2, 0, 7), (25, 0, 0, 0, 20), (129, 0, 0, 0, 6), (132, 0, 0, 0, 6), (135, 0, 0, 0, 15), (138, 0, 0, 0, 7), (151, 0, 0, 0, 1), (157, 0, 0, 0, 1)]
abbrev LC_parish : List Nat := [3, 9]
theorem LC_parish_lt {a : Nat} (h : a ∈ LC_parish) : a < 999 := (by decide : ∀ a ∈ LC_parish, a < 999) a h
abbrev LC_folk : List Nat := [15, 20, 27, 32, 37, 42, 47, 52, 57, 62, 67, 72, 77, 82, 87, 92, 97, 102, 107, 112, 117, 122, 152, 158]
theorem LC_folk_lt {a : Nat} (h : a ∈ LC_folk) : a < 999 := (by decide : ∀ a ∈ LC_folk, a < 999) a h
abbrev LC_image : List Nat := [151, 157]
theorem LC_image_lt {a : Nat} (h : a ∈ LC_image) : a < 999 := (by decide : ∀ a ∈ LC_image, a < 999) a h
abbrev LC_row : List Nat := [144, 145, 146, 147, 148, 149, 150]
theorem LC_row_lt {a : Nat} (h : a ∈ LC_row) : a < 999 := (by decide : ∀ a ∈ LC_row, a < 999) a h
def XC (S : mm_S) : Prop := S.2.2 0 1 ∈ LC_parish ∧ S.2.2 0 2 ∈ LC_parish
def JC (S : mm_S) : Prop := mm_I tbC S ∧ XC S
theorem JRC_1 {S : mm_S} (h : JC S) : S.2.2 0 1 ∈ LC_parish := h.2.1
theorem JRC_2 {S : mm_S} (h : JC S) : S.2.2 0 2 ∈ LC_parish := h.2.2
theorem JRC_put1 {S : mm_S} (h : JC S) {v : Nat} (hv : v ∈ LC_parish) : JC (mm_upR S 0 1 v) := by
  refine ⟨h.1.putR, ?_, ?_⟩
  · show (if (0 : Nat) = 0 ∧ (1 : Nat) = 1 then v else S.2.2 0 1) ∈ _
    rw [if_pos ⟨rfl, rfl⟩]
    exact hv
  · show (if (0 : Nat) = 0 ∧ (2 : Nat) = 1 then v else S.2.2 0 2) ∈ _
    rw [if_neg (by decide)]
    exact h.2.2
theorem JRC_put2 {S : mm_S} (h : JC S) {v : Nat} (hv : v ∈ LC_parish) : JC (mm_upR S 0 2 v) := by
  refine ⟨h.1.putR, ?_, ?_⟩
  · show (if (0 : Nat) = 0 ∧ (1 : Nat) = 2 then v else S.2.2 0 1) ∈ _
    rw [if_neg (by decide)]
    exact h.2.1
  · show (if (0 : Nat) = 0 ∧ (2 : Nat) = 2 then v else S.2.2 0 2) ∈ _
    rw [if_pos ⟨rfl, rfl⟩]
    exact hv
theorem JIC_fld {S : mm_S} (h : JC S) {a j l u : Nat} {lo hi : Int} {v : Int32} (e : v = S.1 a j) (hq : (a, l, u, lo, hi) ∈ tbC) (hj : l ≤ j ∧ j ≤ u) : mm_b lo hi v := h.1.fld e hq hj
theorem JIC_elt {S : mm_S} (h : JC S) {a l u : Nat} {lo hi c d : Int} {v i : Int32} (e : v = S.1 a i.toNatClampNeg) (hi1 : mm_b c d i) (hq : (a, l, u, lo, hi) ∈ tbC) (hj : (l : Int) ≤ c ∧ d ≤ u) : mm_b lo hi v := h.1.elt e hi1 hq hj
theorem JIC_put {S : mm_S} (h : JC S) {a j : Nat} {lo hi : Int} {v : Int32} (hv : mm_b lo hi v) (hc : mm_ck tbC a j j lo hi = true) : JC (mm_up S a j v) := ⟨h.1.put hv ⟨Int.le_refl _, Int.le_refl _⟩ hc, h.2⟩
theorem JIC_puta {S : mm_S} (h : JC S) {a : Nat} {il ih lo hi : Int} {v i : Int32} (hv : mm_b lo hi v) (hi1 : mm_b il ih i) (h0 : 0 ≤ il) (hc : mm_ck tbC a il ih lo hi = true) : JC (mm_up S a i.toNatClampNeg v) := ⟨h.1.puta hv hi1 h0 hc, h.2⟩
theorem aa_of {l L : List Nat} (h : ∀ k, k < l.length → ∃ a, l[k]? = some a ∧ a ∈ L) {lo hi : Int} {i : Int32} (bi : mm_b lo hi i) (h2 : 0 ≤ lo ∧ hi < l.length) : ∃ a, l[i.toNatClampNeg]? = some a ∧ a ∈ L := by
  have := bd_cl bi h2.1
  exact h _ (by omega)
theorem aa_in {l L : List Nat} (h : ∀ a ∈ l, a ∈ L) : ∀ k, k < l.length → ∃ a, l[k]? = some a ∧ a ∈ L := fun k hk => ⟨l[k], List.getElem?_eq_getElem hk, h _ (List.getElem_mem hk)⟩
theorem AAC_26 {lo hi : Int} {i : Int32} (bi : mm_b lo hi i) (h2 : 0 ≤ lo ∧ hi < 20) : ∃ a, ([27, 32, 37, 42, 47, 52, 57, 62, 67, 72, 77, 82, 87, 92, 97, 102, 107, 112, 117, 122] : List Nat)[i.toNatClampNeg]? = some a ∧ a ∈ LC_folk := aa_of (aa_in (by decide)) bi h2
theorem AAC_127 {lo hi : Int} {i : Int32} (bi : mm_b lo hi i) (h2 : 0 ≤ lo ∧ hi < 2) : ∃ a, ([151, 157] : List Nat)[i.toNatClampNeg]? = some a ∧ a ∈ LC_image := aa_of (aa_in (by decide)) bi h2
theorem AAC_143 {lo hi : Int} {i : Int32} (bi : mm_b lo hi i) (h2 : 0 ≤ lo ∧ hi < 7) : ∃ a, ([144, 145, 146, 147, 148, 149, 150] : List Nat)[i.toNatClampNeg]? = some a ∧ a ∈ LC_row := aa_of (aa_in (by decide)) bi h2
theorem shC_0 : shC[0]? = some (.inl (9, [.inr 1, .inl 2, .inl 2, .inr 15, .inr 20, .inr 25, .inr 127, .inr 128, .inr 129, .inr 132, .inr 135, .inr 138, .inr 140])) := rfl
theorem shC_1 : shC[1]? = some (.inl (8, [.inl 0, .inl 0, .inl 0, .inl 0, .inl 0, .inr 2])) := rfl
theorem shC_2 : shC[2]? = some (.inr (0, 240, none)) := rfl
theorem shC_3 : shC[3]? = some (.inl (6, [.inl 0, .inl 0, .inl 0, .inl 0, .inr 4, .inr 5, .inr 6, .inr 7, .inr 8])) := rfl
theorem shC_4 : shC[4]? = some (.inr (0, 7, none)) := rfl
theorem shC_5 : shC[5]? = some (.inr (0, 7, none)) := rfl
theorem shC_6 : shC[6]? = some (.inr (0, 7, none)) := rfl
theorem shC_7 : shC[7]? = some (.inr (0, 6, none)) := rfl
theorem shC_8 : shC[8]? = some (.inr (0, 6, none)) := rfl
theorem shC_9 : shC[9]? = some (.inl (6, [.inl 0, .inl 0, .inl 0, .inl 0, .inr 10, .inr 11, .inr 12, .inr 13, .inr 14])) := rfl
theorem shC_10 : shC[10]? = some (.inr (0, 7, none)) := rfl
theorem shC_11 : shC[11]? = some (.inr (0, 7, none)) := rfl
theorem shC_12 : shC[12]? = some (.inr (0, 7, none)) := rfl
theorem shC_13 : shC[13]? = some (.inr (0, 6, none)) := rfl
theorem shC_14 : shC[14]? = some (.inr (0, 6, none)) := rfl
theorem shC_15 : shC[15]? = some (.inl (3, [.inl 0, .inl 0, .inl 0, .inr 16, .inr 17, .inr 18, .inr 19])) := rfl
theorem shC_16 : shC[16]? = some (.inr (0, 7, none)) := rfl
theorem shC_17 : shC[17]? = some (.inr (0, 7, none)) := rfl
theorem shC_18 : shC[18]? = some (.inr (0, 7, none)) := rfl
theorem shC_19 : shC[19]? = some (.inr (0, 7, none)) := rfl
theorem shC_20 : shC[20]? = some (.inl (3, [.inl 0, .inl 0, .inl 0, .inr 21, .inr 22, .inr 23, .inr 24])) := rfl
theorem shC_21 : shC[21]? = some (.inr (0, 7, none)) := rfl
theorem shC_22 : shC[22]? = some (.inr (0, 7, none)) := rfl
theorem shC_23 : shC[23]? = some (.inr (0, 7, none)) := rfl
theorem shC_24 : shC[24]? = some (.inr (0, 7, none)) := rfl
theorem shC_25 : shC[25]? = some (.inl (7, [.inl 0, .inl 0, .inr 26])) := rfl
theorem shC_26 : shC[26]? = some (.inr (2, 20, some [27, 32, 37, 42, 47, 52, 57, 62, 67, 72, 77, 82, 87, 92, 97, 102, 107, 112, 117, 122])) := rfl
theorem shC_27 : shC[27]? = some (.inl (3, [.inl 0, .inl 0, .inl 0, .inr 28, .inr 29, .inr 30, .inr 31])) := rfl
theorem shC_28 : shC[28]? = some (.inr (0, 7, none)) := rfl
theorem shC_29 : shC[29]? = some (.inr (0, 7, none)) := rfl
theorem shC_30 : shC[30]? = some (.inr (0, 7, none)) := rfl
theorem shC_31 : shC[31]? = some (.inr (0, 7, none)) := rfl
theorem shC_32 : shC[32]? = some (.inl (3, [.inl 0, .inl 0, .inl 0, .inr 33, .inr 34, .inr 35, .inr 36])) := rfl
theorem shC_33 : shC[33]? = some (.inr (0, 7, none)) := rfl
theorem shC_34 : shC[34]? = some (.inr (0, 7, none)) := rfl
theorem shC_35 : shC[35]? = some (.inr (0, 7, none)) := rfl
theorem shC_36 : shC[36]? = some (.inr (0, 7, none)) := rfl
theorem shC_37 : shC[37]? = some (.inl (3, [.inl 0, .inl 0, .inl 0, .inr 38, .inr 39, .inr 40, .inr 41])) := rfl
theorem shC_38 : shC[38]? = some (.inr (0, 7, none)) := rfl
theorem shC_39 : shC[39]? = some (.inr (0, 7, none)) := rfl
theorem shC_40 : shC[40]? = some (.inr (0, 7, none)) := rfl
theorem shC_41 : shC[41]? = some (.inr (0, 7, none)) := rfl
theorem shC_42 : shC[42]? = some (.inl (3, [.inl 0, .inl 0, .inl 0, .inr 43, .inr 44, .inr 45, .inr 46])) := rfl
theorem shC_43 : shC[43]? = some (.inr (0, 7, none)) := rfl
theorem shC_44 : shC[44]? = some (.inr (0, 7, none)) := rfl
theorem shC_45 : shC[45]? = some (.inr (0, 7, none)) := rfl
theorem shC_46 : shC[46]? = some (.inr (0, 7, none)) := rfl
theorem shC_47 : shC[47]? = some (.inl (3, [.inl 0, .inl 0, .inl 0, .inr 48, .inr 49, .inr 50, .inr 51])) := rfl
theorem shC_48 : shC[48]? = some (.inr (0, 7, none)) := rfl
theorem shC_49 : shC[49]? = some (.inr (0, 7, none)) := rfl
theorem shC_50 : shC[50]? = some (.inr (0, 7, none)) := rfl
theorem shC_51 : shC[51]? = some (.inr (0, 7, none)) := rfl
theorem shC_52 : shC[52]? = some (.inl (3, [.inl 0, .inl 0, .inl 0, .inr 53, .inr 54, .inr 55, .inr 56])) := rfl
theorem shC_53 : shC[53]? = some (.inr (0, 7, none)) := rfl
theorem shC_54 : shC[54]? = some (.inr (0, 7, none)) := rfl
theorem shC_55 : shC[55]? = some (.inr (0, 7, none)) := rfl
theorem shC_56 : shC[56]? = some (.inr (0, 7, none)) := rfl
theorem shC_57 : shC[57]? = some (.inl (3, [.inl 0, .inl 0, .inl 0, .inr 58, .inr 59, .inr 60, .inr 61])) := rfl
theorem shC_58 : shC[58]? = some (.inr (0, 7, none)) := rfl
theorem shC_59 : shC[59]? = some (.inr (0, 7, none)) := rfl
theorem shC_60 : shC[60]? = some (.inr (0, 7, none)) := rfl
theorem shC_61 : shC[61]? = some (.inr (0, 7, none)) := rfl
theorem shC_62 : shC[62]? = some (.inl (3, [.inl 0, .inl 0, .inl 0, .inr 63, .inr 64, .inr 65, .inr 66])) := rfl
theorem shC_63 : shC[63]? = some (.inr (0, 7, none)) := rfl
theorem shC_64 : shC[64]? = some (.inr (0, 7, none)) := rfl
theorem shC_65 : shC[65]? = some (.inr (0, 7, none)) := rfl
theorem shC_66 : shC[66]? = some (.inr (0, 7, none)) := rfl
theorem shC_67 : shC[67]? = some (.inl (3, [.inl 0, .inl 0, .inl 0, .inr 68, .inr 69, .inr 70, .inr 71])) := rfl
theorem shC_68 : shC[68]? = some (.inr (0, 7, none)) := rfl
theorem shC_69 : shC[69]? = some (.inr (0, 7, none)) := rfl
theorem shC_70 : shC[70]? = some (.inr (0, 7, none)) := rfl
theorem shC_71 : shC[71]? = some (.inr (0, 7, none)) := rfl
theorem shC_72 : shC[72]? = some (.inl (3, [.inl 0, .inl 0, .inl 0, .inr 73, .inr 74, .inr 75, .inr 76])) := rfl
theorem shC_73 : shC[73]? = some (.inr (0, 7, none)) := rfl
theorem shC_74 : shC[74]? = some (.inr (0, 7, none)) := rfl
theorem shC_75 : shC[75]? = some (.inr (0, 7, none)) := rfl
theorem shC_76 : shC[76]? = some (.inr (0, 7, none)) := rfl
theorem shC_77 : shC[77]? = some (.inl (3, [.inl 0, .inl 0, .inl 0, .inr 78, .inr 79, .inr 80, .inr 81])) := rfl
theorem shC_78 : shC[78]? = some (.inr (0, 7, none)) := rfl
theorem shC_79 : shC[79]? = some (.inr (0, 7, none)) := rfl
theorem shC_80 : shC[80]? = some (.inr (0, 7, none)) := rfl
theorem shC_81 : shC[81]? = some (.inr (0, 7, none)) := rfl
theorem shC_82 : shC[82]? = some (.inl (3, [.inl 0, .inl 0, .inl 0, .inr 83, .inr 84, .inr 85, .inr 86])) := rfl
theorem shC_83 : shC[83]? = some (.inr (0, 7, none)) := rfl
theorem shC_84 : shC[84]? = some (.inr (0, 7, none)) := rfl
theorem shC_85 : shC[85]? = some (.inr (0, 7, none)) := rfl
theorem shC_86 : shC[86]? = some (.inr (0, 7, none)) := rfl
theorem shC_87 : shC[87]? = some (.inl (3, [.inl 0, .inl 0, .inl 0, .inr 88, .inr 89, .inr 90, .inr 91])) := rfl
theorem shC_88 : shC[88]? = some (.inr (0, 7, none)) := rfl
theorem shC_89 : shC[89]? = some (.inr (0, 7, none)) := rfl
theorem shC_90 : shC[90]? = some (.inr (0, 7, none)) := rfl
theorem shC_91 : shC[91]? = some (.inr (0, 7, none)) := rfl
theorem shC_92 : shC[92]? = some (.inl (3, [.inl 0, .inl 0, .inl 0, .inr 93, .inr 94, .inr 95, .inr 96])) := rfl
theorem shC_93 : shC[93]? = some (.inr (0, 7, none)) := rfl
theorem shC_94 : shC[94]? = some (.inr (0, 7, none)) := rfl
theorem shC_95 : shC[95]? = some (.inr (0, 7, none)) := rfl
theorem shC_96 : shC[96]? = some (.inr (0, 7, none)) := rfl
theorem shC_97 : shC[97]? = some (.inl (3, [.inl 0, .inl 0, .inl 0, .inr 98, .inr 99, .inr 100, .inr 101])) := rfl
theorem shC_98 : shC[98]? = some (.inr (0, 7, none)) := rfl
theorem shC_99 : shC[99]? = some (.inr (0, 7, none)) := rfl
theorem shC_100 : shC[100]? = some (.inr (0, 7, none)) := rfl
theorem shC_101 : shC[101]? = some (.inr (0, 7, none)) := rfl
theorem shC_102 : shC[102]? = some (.inl (3, [.inl 0, .inl 0, .inl 0, .inr 103, .inr 104, .inr 105, .inr 106])) := rfl
theorem shC_103 : shC[103]? = some (.inr (0, 7, none)) := rfl
theorem shC_104 : shC[104]? = some (.inr (0, 7, none)) := rfl
theorem shC_105 : shC[105]? = some (.inr (0, 7, none)) := rfl
theorem shC_106 : shC[106]? = some (.inr (0, 7, none)) := rfl
theorem shC_107 : shC[107]? = some (.inl (3, [.inl 0, .inl 0, .inl 0, .inr 108, .inr 109, .inr 110, .inr 111])) := rfl
theorem shC_108 : shC[108]? = some (.inr (0, 7, none)) := rfl
theorem shC_109 : shC[109]? = some (.inr (0, 7, none)) := rfl
theorem shC_110 : shC[110]? = some (.inr (0, 7, none)) := rfl
theorem shC_111 : shC[111]? = some (.inr (0, 7, none)) := rfl
theorem shC_112 : shC[112]? = some (.inl (3, [.inl 0, .inl 0, .inl 0, .inr 113, .inr 114, .inr 115, .inr 116])) := rfl
theorem shC_113 : shC[113]? = some (.inr (0, 7, none)) := rfl
theorem shC_114 : shC[114]? = some (.inr (0, 7, none)) := rfl
theorem shC_115 : shC[115]? = some (.inr (0, 7, none)) := rfl
theorem shC_116 : shC[116]? = some (.inr (0, 7, none)) := rfl
theorem shC_117 : shC[117]? = some (.inl (3, [.inl 0, .inl 0, .inl 0, .inr 118, .inr 119, .inr 120, .inr 121])) := rfl
theorem shC_118 : shC[118]? = some (.inr (0, 7, none)) := rfl
theorem shC_119 : shC[119]? = some (.inr (0, 7, none)) := rfl
theorem shC_120 : shC[120]? = some (.inr (0, 7, none)) := rfl
theorem shC_121 : shC[121]? = some (.inr (0, 7, none)) := rfl
theorem shC_122 : shC[122]? = some (.inl (3, [.inl 0, .inl 0, .inl 0, .inr 123, .inr 124, .inr 125, .inr 126])) := rfl
theorem shC_123 : shC[123]? = some (.inr (0, 7, none)) := rfl
theorem shC_124 : shC[124]? = some (.inr (0, 7, none)) := rfl
theorem shC_125 : shC[125]? = some (.inr (0, 7, none)) := rfl
theorem shC_126 : shC[126]? = some (.inr (0, 7, none)) := rfl
theorem shC_127 : shC[127]? = some (.inr (3, 2, some [151, 157])) := rfl
theorem shC_128 : shC[128]? = some (.inl (1, [.inl 0])) := rfl
theorem shC_129 : shC[129]? = some (.inl (2, [.inl 0, .inr 130, .inr 131])) := rfl
theorem shC_130 : shC[130]? = some (.inr (0, 6, none)) := rfl
theorem shC_131 : shC[131]? = some (.inr (0, 6, none)) := rfl
theorem shC_132 : shC[132]? = some (.inl (2, [.inl 0, .inr 133, .inr 134])) := rfl
theorem shC_133 : shC[133]? = some (.inr (0, 6, none)) := rfl
theorem shC_134 : shC[134]? = some (.inr (0, 6, none)) := rfl
theorem shC_135 : shC[135]? = some (.inl (2, [.inl 0, .inr 136, .inr 137])) := rfl
theorem shC_136 : shC[136]? = some (.inr (0, 15, none)) := rfl
theorem shC_137 : shC[137]? = some (.inr (0, 15, none)) := rfl
theorem shC_138 : shC[138]? = some (.inl (5, [.inl 0, .inl 0, .inr 139])) := rfl
theorem shC_139 : shC[139]? = some (.inr (0, 7, none)) := rfl
theorem shC_140 : shC[140]? = some (.inl (0, [.inr 141, .inr 142, .inr 143])) := rfl
theorem shC_141 : shC[141]? = some (.inr (0, 6, none)) := rfl
theorem shC_142 : shC[142]? = some (.inr (0, 6, none)) := rfl
theorem shC_143 : shC[143]? = some (.inr (4, 7, some [144, 145, 146, 147, 148, 149, 150])) := rfl
theorem shC_144 : shC[144]? = some (.inr (0, 128, none)) := rfl
theorem shC_145 : shC[145]? = some (.inr (0, 128, none)) := rfl
theorem shC_146 : shC[146]? = some (.inr (0, 128, none)) := rfl
theorem shC_147 : shC[147]? = some (.inr (0, 128, none)) := rfl
theorem shC_148 : shC[148]? = some (.inr (0, 128, none)) := rfl
theorem shC_149 : shC[149]? = some (.inr (0, 128, none)) := rfl
theorem shC_150 : shC[150]? = some (.inr (0, 128, none)) := rfl
theorem shC_151 : shC[151]? = some (.inl (4, [.inl 0, .inl 0, .inr 152])) := rfl
theorem shC_152 : shC[152]? = some (.inl (3, [.inl 0, .inl 0, .inl 0, .inr 153, .inr 154, .inr 155, .inr 156])) := rfl
theorem shC_153 : shC[153]? = some (.inr (0, 7, none)) := rfl
theorem shC_154 : shC[154]? = some (.inr (0, 7, none)) := rfl
theorem shC_155 : shC[155]? = some (.inr (0, 7, none)) := rfl
theorem shC_156 : shC[156]? = some (.inr (0, 7, none)) := rfl
theorem shC_157 : shC[157]? = some (.inl (4, [.inl 0, .inl 0, .inr 158])) := rfl
theorem shC_158 : shC[158]? = some (.inl (3, [.inl 0, .inl 0, .inl 0, .inr 159, .inr 160, .inr 161, .inr 162])) := rfl
theorem shC_159 : shC[159]? = some (.inr (0, 7, none)) := rfl
theorem shC_160 : shC[160]? = some (.inr (0, 7, none)) := rfl
theorem shC_161 : shC[161]? = some (.inr (0, 7, none)) := rfl
theorem shC_162 : shC[162]? = some (.inr (0, 7, none)) := rfl
theorem shC_parish_0 : ∀ a ∈ LC_parish, shC[a]? = some (.inl (6, [.inl 0, .inl 0, .inl 0, .inl 0, .inr (a + 1), .inr (a + 2), .inr (a + 3), .inr (a + 4), .inr (a + 5)])) := (List.forall_mem_cons.mpr ⟨rfl, (List.forall_mem_cons.mpr ⟨rfl, (fun _ h => absurd h List.not_mem_nil)⟩)⟩)
theorem shC_parish_1 : ∀ a ∈ LC_parish, shC[a + 1]? = some (.inr (0, 7, none)) := (List.forall_mem_cons.mpr ⟨rfl, (List.forall_mem_cons.mpr ⟨rfl, (fun _ h => absurd h List.not_mem_nil)⟩)⟩)
theorem shC_parish_2 : ∀ a ∈ LC_parish, shC[a + 2]? = some (.inr (0, 7, none)) := (List.forall_mem_cons.mpr ⟨rfl, (List.forall_mem_cons.mpr ⟨rfl, (fun _ h => absurd h List.not_mem_nil)⟩)⟩)
theorem shC_parish_3 : ∀ a ∈ LC_parish, shC[a + 3]? = some (.inr (0, 7, none)) := (List.forall_mem_cons.mpr ⟨rfl, (List.forall_mem_cons.mpr ⟨rfl, (fun _ h => absurd h List.not_mem_nil)⟩)⟩)
theorem shC_parish_4 : ∀ a ∈ LC_parish, shC[a + 4]? = some (.inr (0, 6, none)) := (List.forall_mem_cons.mpr ⟨rfl, (List.forall_mem_cons.mpr ⟨rfl, (fun _ h => absurd h List.not_mem_nil)⟩)⟩)
theorem shC_parish_5 : ∀ a ∈ LC_parish, shC[a + 5]? = some (.inr (0, 6, none)) := (List.forall_mem_cons.mpr ⟨rfl, (List.forall_mem_cons.mpr ⟨rfl, (fun _ h => absurd h List.not_mem_nil)⟩)⟩)
theorem shC_folk_0 : ∀ a ∈ LC_folk, shC[a]? = some (.inl (3, [.inl 0, .inl 0, .inl 0, .inr (a + 1), .inr (a + 2), .inr (a + 3), .inr (a + 4)])) := (List.forall_mem_cons.mpr ⟨rfl, (List.forall_mem_cons.mpr ⟨rfl, (List.forall_mem_cons.mpr ⟨rfl, (List.forall_mem_cons.mpr ⟨rfl, (List.forall_mem_cons.mpr ⟨rfl, (List.forall_mem_cons.mpr ⟨rfl, (List.forall_mem_cons.mpr ⟨rfl, (List.forall_mem_cons.mpr ⟨rfl, (List.forall_mem_cons.mpr ⟨rfl, (List.forall_mem_cons.mpr ⟨rfl, (List.forall_mem_cons.mpr ⟨rfl, (List.forall_mem_cons.mpr ⟨rfl, (List.forall_mem_cons.mpr ⟨rfl, (List.forall_mem_cons.mpr ⟨rfl, (List.forall_mem_cons.mpr ⟨rfl, (List.forall_mem_cons.mpr ⟨rfl, (List.forall_mem_cons.mpr ⟨rfl, (List.forall_mem_cons.mpr ⟨rfl, (List.forall_mem_cons.mpr ⟨rfl, (List.forall_mem_cons.mpr ⟨rfl, (List.forall_mem_cons.mpr ⟨rfl, (List.forall_mem_cons.mpr ⟨rfl, (List.forall_mem_cons.mpr ⟨rfl, (List.forall_mem_cons.mpr ⟨rfl, (fun _ h => absurd h List.not_mem_nil)⟩)⟩)⟩)⟩)⟩)⟩)⟩)⟩)⟩)⟩)⟩)⟩)⟩)⟩)⟩)⟩)⟩)⟩)⟩)⟩)⟩)⟩)⟩)⟩)
theorem shC_folk_1 : ∀ a ∈ LC_folk, shC[a + 1]? = some (.inr (0, 7, none)) := (List.forall_mem_cons.mpr ⟨rfl, (List.forall_mem_cons.mpr ⟨rfl, (List.forall_mem_cons.mpr ⟨rfl, (List.forall_mem_cons.mpr ⟨rfl, (List.forall_mem_cons.mpr ⟨rfl, (List.forall_mem_cons.mpr ⟨rfl, (List.forall_mem_cons.mpr ⟨rfl, (List.forall_mem_cons.mpr ⟨rfl, (List.forall_mem_cons.mpr ⟨rfl, (List.forall_mem_cons.mpr ⟨rfl, (List.forall_mem_cons.mpr ⟨rfl, (List.forall_mem_cons.mpr ⟨rfl, (List.forall_mem_cons.mpr ⟨rfl, (List.forall_mem_cons.mpr ⟨rfl, (List.forall_mem_cons.mpr ⟨rfl, (List.forall_mem_cons.mpr ⟨rfl, (List.forall_mem_cons.mpr ⟨rfl, (List.forall_mem_cons.mpr ⟨rfl, (List.forall_mem_cons.mpr ⟨rfl, (List.forall_mem_cons.mpr ⟨rfl, (List.forall_mem_cons.mpr ⟨rfl, (List.forall_mem_cons.mpr ⟨rfl, (List.forall_mem_cons.mpr ⟨rfl, (List.forall_mem_cons.mpr ⟨rfl, (fun _ h => absurd h List.not_mem_nil)⟩)⟩)⟩)⟩)⟩)⟩)⟩)⟩)⟩)⟩)⟩)⟩)⟩)⟩)⟩)⟩)⟩)⟩)⟩)⟩)⟩)⟩)⟩)⟩)
theorem shC_folk_2 : ∀ a ∈ LC_folk, shC[a + 2]? = some (.inr (0, 7, none)) := (List.forall_mem_cons.mpr ⟨rfl, (List.forall_mem_cons.mpr ⟨rfl, (List.forall_mem_cons.mpr ⟨rfl, (List.forall_mem_cons.mpr ⟨rfl, (List.forall_mem_cons.mpr ⟨rfl, (List.forall_mem_cons.mpr ⟨rfl, (List.forall_mem_cons.mpr ⟨rfl, (List.forall_mem_cons.mpr ⟨rfl, (List.forall_mem_cons.mpr ⟨rfl, (List.forall_mem_cons.mpr ⟨rfl, (List.forall_mem_cons.mpr ⟨rfl, (List.forall_mem_cons.mpr ⟨rfl, (List.forall_mem_cons.mpr ⟨rfl, (List.forall_mem_cons.mpr ⟨rfl, (List.forall_mem_cons.mpr ⟨rfl, (List.forall_mem_cons.mpr ⟨rfl, (List.forall_mem_cons.mpr ⟨rfl, (List.forall_mem_cons.mpr ⟨rfl, (List.forall_mem_cons.mpr ⟨rfl, (List.forall_mem_cons.mpr ⟨rfl, (List.forall_mem_cons.mpr ⟨rfl, (List.forall_mem_cons.mpr ⟨rfl, (List.forall_mem_cons.mpr ⟨rfl, (List.forall_mem_cons.mpr ⟨rfl, (fun _ h => absurd h List.not_mem_nil)⟩)⟩)⟩)⟩)⟩)⟩)⟩)⟩)⟩)⟩)⟩)⟩)⟩)⟩)⟩)⟩)⟩)⟩)⟩)⟩)⟩)⟩)⟩)⟩)
theorem shC_folk_3 : ∀ a ∈ LC_folk, shC[a + 3]? = some (.inr (0, 7, none)) := (List.forall_mem_cons.mpr ⟨rfl, (List.forall_mem_cons.mpr ⟨rfl, (List.forall_mem_cons.mpr ⟨rfl, (List.forall_mem_cons.mpr ⟨rfl, (List.forall_mem_cons.mpr ⟨rfl, (List.forall_mem_cons.mpr ⟨rfl, (List.forall_mem_cons.mpr ⟨rfl, (List.forall_mem_cons.mpr ⟨rfl, (List.forall_mem_cons.mpr ⟨rfl, (List.forall_mem_cons.mpr ⟨rfl, (List.forall_mem_cons.mpr ⟨rfl, (List.forall_mem_cons.mpr ⟨rfl, (List.forall_mem_cons.mpr ⟨rfl, (List.forall_mem_cons.mpr ⟨rfl, (List.forall_mem_cons.mpr ⟨rfl, (List.forall_mem_cons.mpr ⟨rfl, (List.forall_mem_cons.mpr ⟨rfl, (List.forall_mem_cons.mpr ⟨rfl, (List.forall_mem_cons.mpr ⟨rfl, (List.forall_mem_cons.mpr ⟨rfl, (List.forall_mem_cons.mpr ⟨rfl, (List.forall_mem_cons.mpr ⟨rfl, (List.forall_mem_cons.mpr ⟨rfl, (List.forall_mem_cons.mpr ⟨rfl, (fun _ h => absurd h List.not_mem_nil)⟩)⟩)⟩)⟩)⟩)⟩)⟩)⟩)⟩)⟩)⟩)⟩)⟩)⟩)⟩)⟩)⟩)⟩)⟩)⟩)⟩)⟩)⟩)⟩)
theorem shC_folk_4 : ∀ a ∈ LC_folk, shC[a + 4]? = some (.inr (0, 7, none)) := (List.forall_mem_cons.mpr ⟨rfl, (List.forall_mem_cons.mpr ⟨rfl, (List.forall_mem_cons.mpr ⟨rfl, (List.forall_mem_cons.mpr ⟨rfl, (List.forall_mem_cons.mpr ⟨rfl, (List.forall_mem_cons.mpr ⟨rfl, (List.forall_mem_cons.mpr ⟨rfl, (List.forall_mem_cons.mpr ⟨rfl, (List.forall_mem_cons.mpr ⟨rfl, (List.forall_mem_cons.mpr ⟨rfl, (List.forall_mem_cons.mpr ⟨rfl, (List.forall_mem_cons.mpr ⟨rfl, (List.forall_mem_cons.mpr ⟨rfl, (List.forall_mem_cons.mpr ⟨rfl, (List.forall_mem_cons.mpr ⟨rfl, (List.forall_mem_cons.mpr ⟨rfl, (List.forall_mem_cons.mpr ⟨rfl, (List.forall_mem_cons.mpr ⟨rfl, (List.forall_mem_cons.mpr ⟨rfl, (List.forall_mem_cons.mpr ⟨rfl, (List.forall_mem_cons.mpr ⟨rfl, (List.forall_mem_cons.mpr ⟨rfl, (List.forall_mem_cons.mpr ⟨rfl, (List.forall_mem_cons.mpr ⟨rfl, (fun _ h => absurd h List.not_mem_nil)⟩)⟩)⟩)⟩)⟩)⟩)⟩)⟩)⟩)⟩)⟩)⟩)⟩)⟩)⟩)⟩)⟩)⟩)⟩)⟩)⟩)⟩)⟩)⟩)
theorem shC_image_0 : ∀ a ∈ LC_image, shC[a]? = some (.inl (4, [.inl 0, .inl 0, .inr (a + 1)])) := (List.forall_mem_cons.mpr ⟨rfl, (List.forall_mem_cons.mpr ⟨rfl, (fun _ h => absurd h List.not_mem_nil)⟩)⟩)
theorem shC_image_1 : ∀ a ∈ LC_image, shC[a + 1]? = some (.inl (3, [.inl 0, .inl 0, .inl 0, .inr (a + 2), .inr (a + 3), .inr (a + 4), .inr (a + 5)])) := (List.forall_mem_cons.mpr ⟨rfl, (List.forall_mem_cons.mpr ⟨rfl, (fun _ h => absurd h List.not_mem_nil)⟩)⟩)
theorem shC_image_2 : ∀ a ∈ LC_image, shC[a + 2]? = some (.inr (0, 7, none)) := (List.forall_mem_cons.mpr ⟨rfl, (List.forall_mem_cons.mpr ⟨rfl, (fun _ h => absurd h List.not_mem_nil)⟩)⟩)
theorem shC_image_3 : ∀ a ∈ LC_image, shC[a + 3]? = some (.inr (0, 7, none)) := (List.forall_mem_cons.mpr ⟨rfl, (List.forall_mem_cons.mpr ⟨rfl, (fun _ h => absurd h List.not_mem_nil)⟩)⟩)
theorem shC_image_4 : ∀ a ∈ LC_image, shC[a + 4]? = some (.inr (0, 7, none)) := (List.forall_mem_cons.mpr ⟨rfl, (List.forall_mem_cons.mpr ⟨rfl, (fun _ h => absurd h List.not_mem_nil)⟩)⟩)
theorem shC_image_5 : ∀ a ∈ LC_image, shC[a + 5]? = some (.inr (0, 7, none)) := (List.forall_mem_cons.mpr ⟨rfl, (List.forall_mem_cons.mpr ⟨rfl, (fun _ h => absurd h List.not_mem_nil)⟩)⟩)
theorem shC_row_0 : ∀ a ∈ LC_row, shC[a]? = some (.inr (0, 128, none)) := (List.forall_mem_cons.mpr ⟨rfl, (List.forall_mem_cons.mpr ⟨rfl, (List.forall_mem_cons.mpr ⟨rfl, (List.forall_mem_cons.mpr ⟨rfl, (List.forall_mem_cons.mpr ⟨rfl, (List.forall_mem_cons.mpr ⟨rfl, (List.forall_mem_cons.mpr ⟨rfl, (fun _ h => absurd h List.not_mem_nil)⟩)⟩)⟩)⟩)⟩)⟩)⟩)
theorem tbC_0 : (1, 0, 0, (0 : Int), (240 : Int)) ∈ tbC := List.mem_of_getElem? (i := 0) rfl
theorem tbC_1 : (1, 3, 3, (0 : Int), (240 : Int)) ∈ tbC := List.mem_of_getElem? (i := 1) rfl
theorem tbC_2 : (2, 0, 239, (0 : Int), (255 : Int)) ∈ tbC := List.mem_of_getElem? (i := 2) rfl
theorem tbC_3 : (3, 0, 0, (0 : Int), (7 : Int)) ∈ tbC := List.mem_of_getElem? (i := 3) rfl
theorem tbC_4 : (3, 1, 1, (0 : Int), (6 : Int)) ∈ tbC := List.mem_of_getElem? (i := 4) rfl
theorem tbC_5 : (3, 2, 2, (0 : Int), (6 : Int)) ∈ tbC := List.mem_of_getElem? (i := 5) rfl
theorem tbC_6 : (9, 0, 0, (0 : Int), (7 : Int)) ∈ tbC := List.mem_of_getElem? (i := 6) rfl
theorem tbC_7 : (9, 1, 1, (0 : Int), (6 : Int)) ∈ tbC := List.mem_of_getElem? (i := 7) rfl
theorem tbC_8 : (9, 2, 2, (0 : Int), (6 : Int)) ∈ tbC := List.mem_of_getElem? (i := 8) rfl
theorem tbC_9 : (15, 2, 2, (0 : Int), (7 : Int)) ∈ tbC := List.mem_of_getElem? (i := 9) rfl
theorem tbC_10 : (20, 2, 2, (0 : Int), (7 : Int)) ∈ tbC := List.mem_of_getElem? (i := 10) rfl
theorem tbC_11 : (27, 2, 2, (0 : Int), (7 : Int)) ∈ tbC := List.mem_of_getElem? (i := 11) rfl
theorem tbC_12 : (32, 2, 2, (0 : Int), (7 : Int)) ∈ tbC := List.mem_of_getElem? (i := 12) rfl
theorem tbC_13 : (37, 2, 2, (0 : Int), (7 : Int)) ∈ tbC := List.mem_of_getElem? (i := 13) rfl
theorem tbC_14 : (42, 2, 2, (0 : Int), (7 : Int)) ∈ tbC := List.mem_of_getElem? (i := 14) rfl
theorem tbC_15 : (47, 2, 2, (0 : Int), (7 : Int)) ∈ tbC := List.mem_of_getElem? (i := 15) rfl
theorem tbC_16 : (52, 2, 2, (0 : Int), (7 : Int)) ∈ tbC := List.mem_of_getElem? (i := 16) rfl
theorem tbC_17 : (57, 2, 2, (0 : Int), (7 : Int)) ∈ tbC := List.mem_of_getElem? (i := 17) rfl
theorem tbC_18 : (62, 2, 2, (0 : Int), (7 : Int)) ∈ tbC := List.mem_of_getElem? (i := 18) rfl
theorem tbC_19 : (67, 2, 2, (0 : Int), (7 : Int)) ∈ tbC := List.mem_of_getElem? (i := 19) rfl
theorem tbC_20 : (72, 2, 2, (0 : Int), (7 : Int)) ∈ tbC := List.mem_of_getElem? (i := 20) rfl
theorem tbC_21 : (77, 2, 2, (0 : Int), (7 : Int)) ∈ tbC := List.mem_of_getElem? (i := 21) rfl
theorem tbC_22 : (82, 2, 2, (0 : Int), (7 : Int)) ∈ tbC := List.mem_of_getElem? (i := 22) rfl
theorem tbC_23 : (87, 2, 2, (0 : Int), (7 : Int)) ∈ tbC := List.mem_of_getElem? (i := 23) rfl
theorem tbC_24 : (92, 2, 2, (0 : Int), (7 : Int)) ∈ tbC := List.mem_of_getElem? (i := 24) rfl
theorem tbC_25 : (97, 2, 2, (0 : Int), (7 : Int)) ∈ tbC := List.mem_of_getElem? (i := 25) rfl
theorem tbC_26 : (102, 2, 2, (0 : Int), (7 : Int)) ∈ tbC := List.mem_of_getElem? (i := 26) rfl
theorem tbC_27 : (107, 2, 2, (0 : Int), (7 : Int)) ∈ tbC := List.mem_of_getElem? (i := 27) rfl
theorem tbC_28 : (112, 2, 2, (0 : Int), (7 : Int)) ∈ tbC := List.mem_of_getElem? (i := 28) rfl
theorem tbC_29 : (117, 2, 2, (0 : Int), (7 : Int)) ∈ tbC := List.mem_of_getElem? (i := 29) rfl
theorem tbC_30 : (122, 2, 2, (0 : Int), (7 : Int)) ∈ tbC := List.mem_of_getElem? (i := 30) rfl
theorem tbC_31 : (152, 2, 2, (0 : Int), (7 : Int)) ∈ tbC := List.mem_of_getElem? (i := 31) rfl
theorem tbC_32 : (158, 2, 2, (0 : Int), (7 : Int)) ∈ tbC := List.mem_of_getElem? (i := 32) rfl
theorem tbC_33 : (25, 0, 0, (0 : Int), (20 : Int)) ∈ tbC := List.mem_of_getElem? (i := 33) rfl
theorem tbC_34 : (129, 0, 0, (0 : Int), (6 : Int)) ∈ tbC := List.mem_of_getElem? (i := 34) rfl
theorem tbC_35 : (132, 0, 0, (0 : Int), (6 : Int)) ∈ tbC := List.mem_of_getElem? (i := 35) rfl
theorem tbC_36 : (135, 0, 0, (0 : Int), (15 : Int)) ∈ tbC := List.mem_of_getElem? (i := 36) rfl
theorem tbC_37 : (138, 0, 0, (0 : Int), (7 : Int)) ∈ tbC := List.mem_of_getElem? (i := 37) rfl
theorem tbC_38 : (151, 0, 0, (0 : Int), (1 : Int)) ∈ tbC := List.mem_of_getElem? (i := 38) rfl
theorem tbC_39 : (157, 0, 0, (0 : Int), (1 : Int)) ∈ tbC := List.mem_of_getElem? (i := 39) rfl
theorem tbC_parish_0_0 : ∀ a ∈ LC_parish, (a, 0, 0, (0 : Int), (7 : Int)) ∈ tbC := by decide +kernel
theorem tbC_parish_0_1 : ∀ a ∈ LC_parish, (a, 1, 1, (0 : Int), (6 : Int)) ∈ tbC := by decide +kernel
theorem tbC_parish_0_2 : ∀ a ∈ LC_parish, (a, 2, 2, (0 : Int), (6 : Int)) ∈ tbC := by decide +kernel
theorem tbC_folk_0_2 : ∀ a ∈ LC_folk, (a, 2, 2, (0 : Int), (7 : Int)) ∈ tbC := by decide +kernel
theorem tbC_image_0_0 : ∀ a ∈ LC_image, (a, 0, 0, (0 : Int), (1 : Int)) ∈ tbC := by decide +kernel
