/-! ===== the class: its shape, its bounds ===== -/
def shC : List mm_F := [.inl (9, [.inr 1, .inl 2, .inl 2, .inr 15, .inr 20, .inr 25, .inr 127, .inr 128, .inr 129, .inr 132, .inr 135, .inr 138, .inr 140]), .inl (8, [.inl 0, .inl 0, .inl 0, .inl 0, .inl 0, .inr 2]), .inr (0, 240, none), .inl (6, [.inl 0, .inl 0, .inl 0, .inl 0, .inr 4, .inr 5, .inr 6, .inr 7, .inr 8]), .inr (0, 7, none), .inr (0, 7, none), .inr (0, 7, none), .inr (0, 6, none), .inr (0, 6, none), .inl (6, [.inl 0, .inl 0, .inl 0, .inl 0, .inr 10, .inr 11, .inr 12, .inr 13, .inr 14]), .inr (0, 7, none), .inr (0, 7, none), .inr (0, 7, none), .inr (0, 6, none), .inr (0, 6, none), .inl (3, [.inl 0, .inl 0, .inl 0, .inr 16, .inr 17, .inr 18, .inr 19]), .inr (0, 7, none), .inr (0, 7, none), .inr (0, 7, none), .inr (0, 7, none), .inl (3, [.inl 0, .inl 0, .inl 0, .inr 21, .inr 22, .inr 23, .inr 24]), .inr (0, 7, none), .inr (0, 7, none), .inr (0, 7, none), .inr (0, 7, none), .inl (7, [.inl 0, .inl 0, .inr 26]), .inr (2, 20, some [27, 32, 37, 42, 47, 52, 57, 62, 67, 72, 77, 82, 87, 92, 97, 102, 107, 112, 117, 122]), .inl (3, [.inl 0, .inl 0, .inl 0, .inr 28, .inr 29, .inr 30, .inr 31]), .inr (0, 7, none), .inr (0, 7, none), .inr (0, 7, none), .inr (0, 7, none), .inl (3, [.inl 0, .inl 0, .inl 0, .inr 33, .inr 34, .inr 35, .inr 36]), .inr (0, 7, none), .inr (0, 7, none), .inr (0, 7, none), .inr (0, 7, none), .inl (3, [.inl 0, .inl 0, .inl 0, .inr 38, .inr 39, .inr 40, .inr 41]), .inr (0, 7, none), .inr (0, 7, none), .inr (0, 7, none), .inr (0, 7, none), .inl (3, [.inl 0, .inl 0, .inl 0, .inr 43, .inr 44, .inr 45, .inr 46]), .inr (0, 7, none), .inr (0, 7, none), .inr (0, 7, none), .inr (0, 7, none), .inl (3, [.inl 0, .inl 0, .inl 0, .inr 48, .inr 49, .inr 50, .inr 51]), .inr (0, 7, none), .inr (0, 7, none), .inr (0, 7, none), .inr (0, 7, none), .inl (3, [.inl 0, .inl 0, .inl 0, .inr 53, .inr 54, .inr 55, .inr 56]), .inr (0, 7, none), .inr (0, 7, none), .inr (0, 7, none), .inr (0, 7, none), .inl (3, [.inl 0, .inl 0, .inl 0, .inr 58, .inr 59, .inr 60, .inr 61]), .inr (0, 7, none), .inr (0, 7, none), .inr (0, 7, none), .inr (0, 7, none), .inl (3, [.inl 0, .inl 0, .inl 0, .inr 63, .inr 64, .inr 65, .inr 66]), .inr (0, 7, none), .inr (0, 7, none), .inr (0, 7, none), .inr (0, 7, none), .inl (3, [.inl 0, .inl 0, .inl 0, .inr 68, .inr 69, .inr 70, .inr 71]), .inr (0, 7, none), .inr (0, 7, none), .inr (0, 7, none), .inr (0, 7, none), .inl (3, [.inl 0, .inl 0, .inl 0, .inr 73, .inr 74, .inr 75, .inr 76]), .inr (0, 7, none), .inr (0, 7, none), .inr (0, 7, none), .inr (0, 7, none), .inl (3, [.inl 0, .inl 0, .inl 0, .inr 78, .inr 79, .inr 80, .inr 81]), .inr (0, 7, none), .inr (0, 7, none), .inr (0, 7, none), .inr (0, 7, none), .inl (3, [.inl 0, .inl 0, .inl 0, .inr 83, .inr 84, .inr 85, .inr 86]), .inr (0, 7, none), .inr (0, 7, none), .inr (0, 7, none), .inr (0, 7, none), .inl (3, [.inl 0, .inl 0, .inl 0, .inr 88, .inr 89, .inr 90, .inr 91]), .inr (0, 7, none), .inr (0, 7, none), .inr (0, 7, none), .inr (0, 7, none), .inl (3, [.inl 0, .inl 0, .inl 0, .inr 93, .inr 94, .inr 95, .inr 96]), .inr (0, 7, none), .inr (0, 7, none), .inr (0, 7, none), .inr (0, 7, none), .inl (3, [.inl 0, .inl 0, .inl 0, .inr 98, .inr 99, .inr 100, .inr 101]), .inr (0, 7, none), .inr (0, 7, none), .inr (0, 7, none), .inr (0, 7, none), .inl (3, [.inl 0, .inl 0, .inl 0, .inr 103, .inr 104, .inr 105, .inr 106]), .inr (0, 7, none), .inr (0, 7, none), .inr (0, 7, none), .inr (0, 7, none), .inl (3, [.inl 0, .inl 0, .inl 0, .inr 108, .inr 109, .inr 110, .inr 111]), .inr (0, 7, none), .inr (0, 7, none), .inr (0, 7, none), .inr (0, 7, none), .inl (3, [.inl 0, .inl 0, .inl 0, .inr 113, .inr 114, .inr 115, .inr 116]), .inr (0, 7, none), .inr (0, 7, none), .inr (0, 7, none), .inr (0, 7, none), .inl (3, [.inl 0, .inl 0, .inl 0, .inr 118, .inr 119, .inr 120, .inr 121]), .inr (0, 7, none), .inr (0, 7, none), .inr (0, 7, none), .inr (0, 7, none), .inl (3, [.inl 0, .inl 0, .inl 0, .inr 123, .inr 124, .inr 125, .inr 126]), .inr (0, 7, none), .inr (0, 7, none), .inr (0, 7, none), .inr (0, 7, none), .inr (3, 2, some [151, 157]), .inl (1, [.inl 0]), .inl (2, [.inl 0, .inr 130, .inr 131]), .inr (0, 6, none), .inr (0, 6, none), .inl (2, [.inl 0, .inr 133, .inr 134]), .inr (0, 6, none), .inr (0, 6, none), .inl (2, [.inl 0, .inr 136, .inr 137]), .inr (0, 15, none), .inr (0, 15, none), .inl (5, [.inl 0, .inl 0, .inr 139]), .inr (0, 7, none), .inl (0, [.inr 141, .inr 142, .inr 143]), .inr (0, 6, none), .inr (0, 6, none), .inr (4, 7, some [144, 145, 146, 147, 148, 149, 150]), .inr (0, 128, none), .inr (0, 128, none), .inr (0, 128, none), .inr (0, 128, none), .inr (0, 128, none), .inr (0, 128, none), .inr (0, 128, none), .inl (4, [.inl 0, .inl 0, .inr 152]), .inl (3, [.inl 0, .inl 0, .inl 0, .inr 153, .inr 154, .inr 155, .inr 156]), .inr (0, 7, none), .inr (0, 7, none), .inr (0, 7, none), .inr (0, 7, none), .inl (4, [.inl 0, .inl 0, .inr 158]), .inl (3, [.inl 0, .inl 0, .inl 0, .inr 159, .inr 160, .inr 161, .inr 162]), .inr (0, 7, none), .inr (0, 7, none), .inr (0, 7, none), .inr (0, 7, none)]
def tbC : mm_T := [(1, 0, 0, 0, 240), (1, 3, 3, 0, 240), (2, 0, 239, 0, 255), (3, 0, 0, 0, 7), (3, 1, 1, 0, 6), (3, 2, 2, 0, 6), (9, 0, 0, 0, 7), (9, 1, 1, 0, 6), (9, 2, 2, 0, 6), (15, 2, 2, 0, 7), (20, 2, 2, 0, 7), (27, 2, 2, 0, 7), (32, 2, 2, 0, 7), (37, 2, 2, 0, 7), (42, 2, 2, 0, 7), (47, 2, 2, 0, 7), (52, 2, 2, 0, 7), (57, 2, 2, 0, 7), (62, 2, 2, 0, 7), (67, 2, 2, 0, 7), (72, 2, 2, 0, 7), (77, 2, 2, 0, 7), (82, 2, 2, 0, 7), (87, 2, 2, 0, 7), (92, 2, 2, 0, 7), (97, 2, 2, 0, 7), (102, 2, 2, 0, 7), (107, 2, 2, 0, 7), (112, 2, 2, 0, 7), (117, 2, 2, 0, 7), (122, 2, 2, 0, 7), (152, 2, 2, 0, 7), (158, 2, 2, 0, 7), (25, 0, 0, 0, 20), (129, 0, 0, 0, 6), (132, 0, 0, 0, 6), (135, 0, 0, 0, 15), (138, 0, 0, 0, 7), (151, 0, 0, 0, 1), (157, 0, 0, 0, 1)]
abbrev LC_parish : List Nat := [3, 9]
abbrev LC_folk : List Nat := [15, 20, 27, 32, 37, 42, 47, 52, 57, 62, 67, 72, 77, 82, 87, 92, 97, 102, 107, 112, 117, 122, 152, 158]
theorem LC_folk_lt {a : Nat} (h : a ∈ LC_folk) : a < 999 := (by decide : ∀ a ∈ LC_folk, a < 999) a h
abbrev LC_image : List Nat := [151, 157]
theorem LC_image_lt {a : Nat} (h : a ∈ LC_image) : a < 999 := (by decide : ∀ a ∈ LC_image, a < 999) a h
abbrev LC_row : List Nat := [144, 145, 146, 147, 148, 149, 150]
theorem LC_row_lt {a : Nat} (h : a ∈ LC_row) : a < 999 := (by decide : ∀ a ∈ LC_row, a < 999) a h
def XC (S : mm_S) : Prop := S.2.2 0 1 ∈ LC_parish ∧ S.2.2 0 2 ∈ LC_parish
def JC (S : mm_S) : Prop := mm_I tbC S ∧ XC S
theorem JRC_1 {S : mm_S} (h : JC S) : S.2.2 0 1 ∈ LC_parish := h.2.1
theorem JRC_2 {S : mm_S} (h : JC S) : S.2.2 0 2 ∈ LC_parish := h.2.2
theorem JRC_put1 {S : mm_S} (h : JC S) {v : Nat} (hv : v ∈ LC_parish) : JC (mm_upR S 0 1 v) := by
  refine ⟨h.1.putR, ?_, ?_⟩
  · show (if (0 : Nat) = 0 ∧ (1 : Nat) = 1 then v else S.2.2 0 1) ∈ _
    rw [if_pos ⟨rfl, rfl⟩]
    exact hv
  · show (if (0 : Nat) = 0 ∧ (2 : Nat) = 1 then v else S.2.2 0 2) ∈ _
    rw [if_neg (by decide)]
    exact h.2.2
theorem JRC_put2 {S : mm_S} (h : JC S) {v : Nat} (hv : v ∈ LC_parish) : JC (mm_upR S 0 2 v) := by
  refine ⟨h.1.putR, ?_, ?_⟩
  · show (if (0 : Nat) = 0 ∧ (1 : Nat) = 2 then v else S.2.2 0 1) ∈ _
    rw [if_neg (by decide)]
    exact h.2.1
  · show (if (0 : Nat) = 0 ∧ (2 : Nat) = 2 then v else S.2.2 0 2) ∈ _
    rw [if_pos ⟨rfl, rfl⟩]
    exact hv
theorem JIC_fld {S : mm_S} (h : JC S) {a j l u : Nat} {lo hi : Int} {v : Int32} (e : v = S.1 a j) (hq : (a, l, u, lo, hi) ∈ tbC) (hj : l ≤ j ∧ j ≤ u) : mm_b lo hi v := h.1.fld e hq hj
theorem JIC_elt {S : mm_S} (h : JC S) {a l u : Nat} {lo hi c d : Int} {v i : Int32} (e : v = S.1 a i.toNatClampNeg) (hi1 : mm_b c d i) (hq : (a, l, u, lo, hi) ∈ tbC) (hj : (l : Int) ≤ c ∧ d ≤ u) : mm_b lo hi v := h.1.elt e hi1 hq hj
theorem JIC_put {S : mm_S} (h : JC S) {a j : Nat} {lo hi : Int} {v : Int32} (hv : mm_b lo hi v) (hc : mm_ck tbC a j j lo hi = true) : JC (mm_up S a j v) := ⟨h.1.put hv ⟨Int.le_refl _, Int.le_refl _⟩ hc, h.2⟩
theorem JIC_puta {S : mm_S} (h : JC S) {a : Nat} {il ih lo hi : Int} {v i : Int32} (hv : mm_b lo hi v) (hi1 : mm_b il ih i) (h0 : 0 ≤ il) (hc : mm_ck tbC a il ih lo hi = true) : JC (mm_up S a i.toNatClampNeg v) := ⟨h.1.puta hv hi1 h0 hc, h.2⟩
theorem aa_of {l L : List Nat} (h : ∀ k, k < l.length → ∃ a, l[k]? = some a ∧ a ∈ L) {lo hi : Int} {i : Int32} (bi : mm_b lo hi i) (h2 : 0 ≤ lo ∧ hi < l.length) : ∃ a, l[i.toNatClampNeg]? = some a ∧ a ∈ L := by
  have := bd_cl bi h2.1
  exact h _ (by omega)
theorem aa_in {l L : List Nat} (h : ∀ a ∈ l, a ∈ L) : ∀ k, k < l.length → ∃ a, l[k]? = some a ∧ a ∈ L := fun k hk => ⟨l[k], List.getElem?_eq_getElem hk, h _ (List.getElem_mem hk)⟩
theorem AAC_26 {lo hi : Int} {i : Int32} (bi : mm_b lo hi i) (h2 : 0 ≤ lo ∧ hi < 20) : ∃ a, ([27, 32, 37, 42, 47, 52, 57, 62, 67, 72, 77, 82, 87, 92, 97, 102, 107, 112, 117, 122] : List Nat)[i.toNatClampNeg]? = some a ∧ a ∈ LC_folk := aa_of (aa_in (by decide)) bi h2
theorem AAC_127 {lo hi : Int} {i : Int32} (bi : mm_b lo hi i) (h2 : 0 ≤ lo ∧ hi < 2) : ∃ a, ([151, 157] : List Nat)[i.toNatClampNeg]? = some a ∧ a ∈ LC_image := aa_of (aa_in (by decide)) bi h2
theorem AAC_143 {lo hi : Int} {i : Int32} (bi : mm_b lo hi i) (h2 : 0 ≤ lo ∧ hi < 7) : ∃ a, ([144, 145, 146, 147, 148, 149, 150] : List Nat)[i.toNatClampNeg]? = some a ∧ a ∈ LC_row := aa_of (aa_in (by decide)) bi h2
theorem shC_0 : shC[0]? = some (.inl (9, [.inr 1, .inl 2, .inl 2, .inr 15, .inr 20, .inr 25, .inr 127, .inr 128, .inr 129, .inr 132, .inr 135, .inr 138, .inr 140])) := rfl
theorem shC_1 : shC[1]? = some (.inl (8, [.inl 0, .inl 0, .inl 0, .inl 0, .inl 0, .inr 2])) := rfl
theorem shC_2 : shC[2]? = some (.inr (0, 240, none)) := rfl
theorem shC_15 : shC[15]? = some (.inl (3, [.inl 0, .inl 0, .inl 0, .inr 16, .inr 17, .inr 18, .inr 19])) := rfl
theorem shC_16 : shC[16]? = some (.inr (0, 7, none)) := rfl
theorem shC_17 : shC[17]? = some (.inr (0, 7, none)) := rfl
theorem shC_18 : shC[18]? = some (.inr (0, 7, none)) := rfl
theorem shC_19 : shC[19]? = some (.inr (0, 7, none)) := rfl
theorem shC_20 : shC[20]? = some (.inl (3, [.inl 0, .inl 0, .inl 0, .inr 21, .inr 22, .inr 23, .inr 24])) := rfl
theorem shC_21 : shC[21]? = some (.inr (0, 7, none)) := rfl
theorem shC_22 : shC[22]? = some (.inr (0, 7, none)) := rfl
theorem shC_23 : shC[23]? = some (.inr (0, 7, none)) := rfl
theorem shC_24 : shC[24]? = some (.inr (0, 7, none)) := rfl
theorem shC_25 : shC[25]? = some (.inl (7, [.inl 0, .inl 0, .inr 26])) := rfl
theorem shC_26 : shC[26]? = some (.inr (2, 20, some [27, 32, 37, 42, 47, 52, 57, 62, 67, 72, 77, 82, 87, 92, 97, 102, 107, 112, 117, 122])) := rfl
theorem shC_127 : shC[127]? = some (.inr (3, 2, some [151, 157])) := rfl
theorem shC_128 : shC[128]? = some (.inl (1, [.inl 0])) := rfl
theorem shC_129 : shC[129]? = some (.inl (2, [.inl 0, .inr 130, .inr 131])) := rfl
theorem shC_130 : shC[130]? = some (.inr (0, 6, none)) := rfl
theorem shC_131 : shC[131]? = some (.inr (0, 6, none)) := rfl
theorem shC_132 : shC[132]? = some (.inl (2, [.inl 0, .inr 133, .inr 134])) := rfl
theorem shC_133 : shC[133]? = some (.inr (0, 6, none)) := rfl
theorem shC_134 : shC[134]? = some (.inr (0, 6, none)) := rfl
theorem shC_135 : shC[135]? = some (.inl (2, [.inl 0, .inr 136, .inr 137])) := rfl
theorem shC_136 : shC[136]? = some (.inr (0, 15, none)) := rfl
theorem shC_137 : shC[137]? = some (.inr (0, 15, none)) := rfl
theorem shC_138 : shC[138]? = some (.inl (5, [.inl 0, .inl 0, .inr 139])) := rfl
theorem shC_139 : shC[139]? = some (.inr (0, 7, none)) := rfl
theorem shC_140 : shC[140]? = some (.inl (0, [.inr 141, .inr 142, .inr 143])) := rfl
theorem shC_141 : shC[141]? = some (.inr (0, 6, none)) := rfl
theorem shC_142 : shC[142]? = some (.inr (0, 6, none)) := rfl
theorem shC_143 : shC[143]? = some (.inr (4, 7, some [144, 145, 146, 147, 148, 149, 150])) := rfl
theorem shC_parish_0 : ∀ a ∈ LC_parish, shC[a]? = some (.inl (6, [.inl 0, .inl 0, .inl 0, .inl 0, .inr (a + 1), .inr (a + 2), .inr (a + 3), .inr (a + 4), .inr (a + 5)])) := (List.forall_mem_cons.mpr ⟨rfl, (List.forall_mem_cons.mpr ⟨rfl, (fun _ h => absurd h List.not_mem_nil)⟩)⟩)
theorem shC_parish_1 : ∀ a ∈ LC_parish, shC[a + 1]? = some (.inr (0, 7, none)) := (List.forall_mem_cons.mpr ⟨rfl, (List.forall_mem_cons.mpr ⟨rfl, (fun _ h => absurd h List.not_mem_nil)⟩)⟩)
theorem shC_parish_2 : ∀ a ∈ LC_parish, shC[a + 2]? = some (.inr (0, 7, none)) := (List.forall_mem_cons.mpr ⟨rfl, (List.forall_mem_cons.mpr ⟨rfl, (fun _ h => absurd h List.not_mem_nil)⟩)⟩)
theorem shC_parish_3 : ∀ a ∈ LC_parish, shC[a + 3]? = some (.inr (0, 7, none)) := (List.forall_mem_cons.mpr ⟨rfl, (List.forall_mem_cons.mpr ⟨rfl, (fun _ h => absurd h List.not_mem_nil)⟩)⟩)
theorem shC_parish_4 : ∀ a ∈ LC_parish, shC[a + 4]? = some (.inr (0, 6, none)) := (List.forall_mem_cons.mpr ⟨rfl, (List.forall_mem_cons.mpr ⟨rfl, (fun _ h => absurd h List.not_mem_nil)⟩)⟩)
theorem shC_parish_5 : ∀ a ∈ LC_parish, shC[a + 5]? = some (.inr (0, 6, none)) := (List.forall_mem_cons.mpr ⟨rfl, (List.forall_mem_cons.mpr ⟨rfl, (fun _ h => absurd h List.not_mem_nil)⟩)⟩)
theorem shC_folk_0 : ∀ a ∈ LC_folk, shC[a]? = some (.inl (3, [.inl 0, .inl 0, .inl 0, .inr (a + 1), .inr (a + 2), .inr (a + 3), .inr (a + 4)])) := (List.forall_mem_cons.mpr ⟨rfl, (List.forall_mem_cons.mpr ⟨rfl, (List.forall_mem_cons.mpr ⟨rfl, (List.forall_mem_cons.mpr ⟨rfl, (List.forall_mem_cons.mpr ⟨rfl, (List.forall_mem_cons.mpr ⟨rfl, (List.forall_mem_cons.mpr ⟨rfl, (List.forall_mem_cons.mpr ⟨rfl, (List.forall_mem_cons.mpr ⟨rfl, (List.forall_mem_cons.mpr ⟨rfl, (List.forall_mem_cons.mpr ⟨rfl, (List.forall_mem_cons.mpr ⟨rfl, (List.forall_mem_cons.mpr ⟨rfl, (List.forall_mem_cons.mpr ⟨rfl, (List.forall_mem_cons.mpr ⟨rfl, (List.forall_mem_cons.mpr ⟨rfl, (List.forall_mem_cons.mpr ⟨rfl, (List.forall_mem_cons.mpr ⟨rfl, (List.forall_mem_cons.mpr ⟨rfl, (List.forall_mem_cons.mpr ⟨rfl, (List.forall_mem_cons.mpr ⟨rfl, (List.forall_mem_cons.mpr ⟨rfl, (List.forall_mem_cons.mpr ⟨rfl, (List.forall_mem_cons.mpr ⟨rfl, (fun _ h => absurd h List.not_mem_nil)⟩)⟩)⟩)⟩)⟩)⟩)⟩)⟩)⟩)⟩)⟩)⟩)⟩)⟩)⟩)⟩)⟩)⟩)⟩)⟩)⟩)⟩)⟩)⟩)
theorem shC_folk_1 : ∀ a ∈ LC_folk, shC[a + 1]? = some (.inr (0, 7, none)) := (List.forall_mem_cons.mpr ⟨rfl, (List.forall_mem_cons.mpr ⟨rfl, (List.forall_mem_cons.mpr ⟨rfl, (List.forall_mem_cons.mpr ⟨rfl, (List.forall_mem_cons.mpr ⟨rfl, (List.forall_mem_cons.mpr ⟨rfl, (List.forall_mem_cons.mpr ⟨rfl, (List.forall_mem_cons.mpr ⟨rfl, (List.forall_mem_cons.mpr ⟨rfl, (List.forall_mem_cons.mpr ⟨rfl, (List.forall_mem_cons.mpr ⟨rfl, (List.forall_mem_cons.mpr ⟨rfl, (List.forall_mem_cons.mpr ⟨rfl, (List.forall_mem_cons.mpr ⟨rfl, (List.forall_mem_cons.mpr ⟨rfl, (List.forall_mem_cons.mpr ⟨rfl, (List.forall_mem_cons.mpr ⟨rfl, (List.forall_mem_cons.mpr ⟨rfl, (List.forall_mem_cons.mpr ⟨rfl, (List.forall_mem_cons.mpr ⟨rfl, (List.forall_mem_cons.mpr ⟨rfl, (List.forall_mem_cons.mpr ⟨rfl, (List.forall_mem_cons.mpr ⟨rfl, (List.forall_mem_cons.mpr ⟨rfl, (fun _ h => absurd h List.not_mem_nil)⟩)⟩)⟩)⟩)⟩)⟩)⟩)⟩)⟩)⟩)⟩)⟩)⟩)⟩)⟩)⟩)⟩)⟩)⟩)⟩)⟩)⟩)⟩)⟩)
theorem shC_folk_2 : ∀ a ∈ LC_folk, shC[a + 2]? = some (.inr (0, 7, none)) := (List.forall_mem_cons.mpr ⟨rfl, (List.forall_mem_cons.mpr ⟨rfl, (List.forall_mem_cons.mpr ⟨rfl, (List.forall_mem_cons.mpr ⟨rfl, (List.forall_mem_cons.mpr ⟨rfl, (List.forall_mem_cons.mpr ⟨rfl, (List.forall_mem_cons.mpr ⟨rfl, (List.forall_mem_cons.mpr ⟨rfl, (List.forall_mem_cons.mpr ⟨rfl, (List.forall_mem_cons.mpr ⟨rfl, (List.forall_mem_cons.mpr ⟨rfl, (List.forall_mem_cons.mpr ⟨rfl, (List.forall_mem_cons.mpr ⟨rfl, (List.forall_mem_cons.mpr ⟨rfl, (List.forall_mem_cons.mpr ⟨rfl, (List.forall_mem_cons.mpr ⟨rfl, (List.forall_mem_cons.mpr ⟨rfl, (List.forall_mem_cons.mpr ⟨rfl, (List.forall_mem_cons.mpr ⟨rfl, (List.forall_mem_cons.mpr ⟨rfl, (List.forall_mem_cons.mpr ⟨rfl, (List.forall_mem_cons.mpr ⟨rfl, (List.forall_mem_cons.mpr ⟨rfl, (List.forall_mem_cons.mpr ⟨rfl, (fun _ h => absurd h List.not_mem_nil)⟩)⟩)⟩)⟩)⟩)⟩)⟩)⟩)⟩)⟩)⟩)⟩)⟩)⟩)⟩)⟩)⟩)⟩)⟩)⟩)⟩)⟩)⟩)⟩)
theorem shC_folk_3 : ∀ a ∈ LC_folk, shC[a + 3]? = some (.inr (0, 7, none)) := (List.forall_mem_cons.mpr ⟨rfl, (List.forall_mem_cons.mpr ⟨rfl, (List.forall_mem_cons.mpr ⟨rfl, (List.forall_mem_cons.mpr ⟨rfl, (List.forall_mem_cons.mpr ⟨rfl, (List.forall_mem_cons.mpr ⟨rfl, (List.forall_mem_cons.mpr ⟨rfl, (List.forall_mem_cons.mpr ⟨rfl, (List.forall_mem_cons.mpr ⟨rfl, (List.forall_mem_cons.mpr ⟨rfl, (List.forall_mem_cons.mpr ⟨rfl, (List.forall_mem_cons.mpr ⟨rfl, (List.forall_mem_cons.mpr ⟨rfl, (List.forall_mem_cons.mpr ⟨rfl, (List.forall_mem_cons.mpr ⟨rfl, (List.forall_mem_cons.mpr ⟨rfl, (List.forall_mem_cons.mpr ⟨rfl, (List.forall_mem_cons.mpr ⟨rfl, (List.forall_mem_cons.mpr ⟨rfl, (List.forall_mem_cons.mpr ⟨rfl, (List.forall_mem_cons.mpr ⟨rfl, (List.forall_mem_cons.mpr ⟨rfl, (List.forall_mem_cons.mpr ⟨rfl, (List.forall_mem_cons.mpr ⟨rfl, (fun _ h => absurd h List.not_mem_nil)⟩)⟩)⟩)⟩)⟩)⟩)⟩)⟩)⟩)⟩)⟩)⟩)⟩)⟩)⟩)⟩)⟩)⟩)⟩)⟩)⟩)⟩)⟩)⟩)
theorem shC_folk_4 : ∀ a ∈ LC_folk, shC[a + 4]? = some (.inr (0, 7, none)) := (List.forall_mem_cons.mpr ⟨rfl, (List.forall_mem_cons.mpr ⟨rfl, (List.forall_mem_cons.mpr ⟨rfl, (List.forall_mem_cons.mpr ⟨rfl, (List.forall_mem_cons.mpr ⟨rfl, (List.forall_mem_cons.mpr ⟨rfl, (List.forall_mem_cons.mpr ⟨rfl, (List.forall_mem_cons.mpr ⟨rfl, (List.forall_mem_cons.mpr ⟨rfl, (List.forall_mem_cons.mpr ⟨rfl, (List.forall_mem_cons.mpr ⟨rfl, (List.forall_mem_cons.mpr ⟨rfl, (List.forall_mem_cons.mpr ⟨rfl, (List.forall_mem_cons.mpr ⟨rfl, (List.forall_mem_cons.mpr ⟨rfl, (List.forall_mem_cons.mpr ⟨rfl, (List.forall_mem_cons.mpr ⟨rfl, (List.forall_mem_cons.mpr ⟨rfl, (List.forall_mem_cons.mpr ⟨rfl, (List.forall_mem_cons.mpr ⟨rfl, (List.forall_mem_cons.mpr ⟨rfl, (List.forall_mem_cons.mpr ⟨rfl, (List.forall_mem_cons.mpr ⟨rfl, (List.forall_mem_cons.mpr ⟨rfl, (fun _ h => absurd h List.not_mem_nil)⟩)⟩)⟩)⟩)⟩)⟩)⟩)⟩)⟩)⟩)⟩)⟩)⟩)⟩)⟩)⟩)⟩)⟩)⟩)⟩)⟩)⟩)⟩)⟩)
theorem shC_image_0 : ∀ a ∈ LC_image, shC[a]? = some (.inl (4, [.inl 0, .inl 0, .inr (a + 1)])) := (List.forall_mem_cons.mpr ⟨rfl, (List.forall_mem_cons.mpr ⟨rfl, (fun _ h => absurd h List.not_mem_nil)⟩)⟩)
theorem shC_image_1 : ∀ a ∈ LC_image, shC[a + 1]? = some (.inl (3, [.inl 0, .inl 0, .inl 0, .inr (a + 2), .inr (a + 3), .inr (a + 4), .inr (a + 5)])) := (List.forall_mem_cons.mpr ⟨rfl, (List.forall_mem_cons.mpr ⟨rfl, (fun _ h => absurd h List.not_mem_nil)⟩)⟩)
theorem shC_row_0 : ∀ a ∈ LC_row, shC[a]? = some (.inr (0, 128, none)) := (List.forall_mem_cons.mpr ⟨rfl, (List.forall_mem_cons.mpr ⟨rfl, (List.forall_mem_cons.mpr ⟨rfl, (List.forall_mem_cons.mpr ⟨rfl, (List.forall_mem_cons.mpr ⟨rfl, (List.forall_mem_cons.mpr ⟨rfl, (List.forall_mem_cons.mpr ⟨rfl, (fun _ h => absurd h List.not_mem_nil)⟩)⟩)⟩)⟩)⟩)⟩)⟩)
theorem tbC_0 : (1, 0, 0, (0 : Int), (240 : Int)) ∈ tbC := List.mem_of_getElem? (i := 0) rfl
theorem tbC_1 : (1, 3, 3, (0 : Int), (240 : Int)) ∈ tbC := List.mem_of_getElem? (i := 1) rfl
theorem tbC_2 : (2, 0, 239, (0 : Int), (255 : Int)) ∈ tbC := List.mem_of_getElem? (i := 2) rfl
theorem tbC_9 : (15, 2, 2, (0 : Int), (7 : Int)) ∈ tbC := List.mem_of_getElem? (i := 9) rfl
theorem tbC_10 : (20, 2, 2, (0 : Int), (7 : Int)) ∈ tbC := List.mem_of_getElem? (i := 10) rfl
theorem tbC_33 : (25, 0, 0, (0 : Int), (20 : Int)) ∈ tbC := List.mem_of_getElem? (i := 33) rfl
theorem tbC_34 : (129, 0, 0, (0 : Int), (6 : Int)) ∈ tbC := List.mem_of_getElem? (i := 34) rfl
theorem tbC_35 : (132, 0, 0, (0 : Int), (6 : Int)) ∈ tbC := List.mem_of_getElem? (i := 35) rfl
theorem tbC_36 : (135, 0, 0, (0 : Int), (15 : Int)) ∈ tbC := List.mem_of_getElem? (i := 36) rfl
theorem tbC_37 : (138, 0, 0, (0 : Int), (7 : Int)) ∈ tbC := List.mem_of_getElem? (i := 37) rfl
theorem tbC_parish_0_0 : ∀ a ∈ LC_parish, (a, 0, 0, (0 : Int), (7 : Int)) ∈ tbC := by decide +kernel
theorem tbC_parish_0_1 : ∀ a ∈ LC_parish, (a, 1, 1, (0 : Int), (6 : Int)) ∈ tbC := by decide +kernel
theorem tbC_parish_0_2 : ∀ a ∈ LC_parish, (a, 2, 2, (0 : Int), (6 : Int)) ∈ tbC := by decide +kernel
theorem tbC_folk_0_2 : ∀ a ∈ LC_folk, (a, 2, 2, (0 : Int), (7 : Int)) ∈ tbC := by decide +kernel
theorem tbC_image_0_0 : ∀ a ∈ LC_image, (a, 0, 0, (0 : Int), (1 : Int)) ∈ tbC := by decide +kernel
