def F_X10_orders_a (S : mm_S) (x1 : Int32) (x2 : Int32) : Int32 × mm_S := ((-1000000001 : Int32), S)
set_option maxRecDepth 100000 in
set_option maxHeartbeats 4000000 in
theorem cx_X10_orders_a {g : mm_G} (S : mm_S) (hI : JM S) (x1 : Int32) (h1 : mm_b (-2147483648) (-1) x1) (x2 : Int32) : mc g yX10_orders cX10_orders 8 (some .int) (mm_rm 5) [.ref 0, .int x1, .int x2] (mm_enc shM S) (qi shM (fun S1 v => JM S1 ∧ fr [] [] true true S S1 ∧ mm_b (-1000000001) (-1000000001) v ∧ (True) ∧ F_X10_orders_a S x1 x2 = (v, S1))) := by
  refine mc_of2 (own := RX10) (ini := false) (ls := [(0, .ref 0), (1, .int x1), (2, .int x2)]) (by decide) (Nat.le_of_ble_eq_true rfl) rfl (by decide) rfl ?_
  have hF : fr [] [] true true S S := fr_rf
  refine mw_aload_n dX10_orders_0 rfl 0 rfl ?_
  refine mw_iload_n dX10_orders_1 rfl 1 rfl ?_
  refine tc_Vi (as := [.int x1]) (st := []) dX10_orders_2 rfl shM_0 rfl rfl mX10_264 t_X10_isSet rfl (Nat.le_of_ble_eq_true rfl) (by decide) (by decide) (cx_X10_isSet (g := g) S hI x1) (fun S101 v103 h102 => ?_)
  obtain ⟨rfl, b104, x105, hx106⟩ := h102
  refine mw_if_ne (tgt := 11) dX10_orders_5 (by decide) (fun q107 => ?_) (fun q107 => ?_)
  · skip
    have b108 : mm_b (1) (1) v103 := bd_ne_l q107 b104 n_0 (by decide)
    have b109 := Or.resolve_left x105 q107
    exfalso
    have hz1 := h1
    have hz2 := b109
    omega
  · skip
    have b110 : mm_b (0) (0) v103 := bd_eq_l q107 b104 n_0 (by decide)
    refine mw_ldc dX10_orders_8 kX10_182 ?_
    exact mw_iret rfl dX10_orders_10 rfl rfl ⟨S, _, rfl, rfl, hI, hF, n_m1000000001, trivial, (by (try subst hx106); rw [F_X10_orders_a])⟩
def F_X10_orders_b_L86fc99 (v166 : Int32) (k86 : mm_S → Int32 → Int32 → Int32 → Int32 → Int32 → Int32 × mm_S) (S164 : mm_S) (y137 : Int32) (y139 : Int32) (y141 : Int32) (y143 : Int32) (y145 : Int32) (x2 : Int32) : Int32 × mm_S := (if v166 = (0 : Int32) then (k86 S164 y137 y139 y141 y143 (y145 + Int32.ofInt 1)) else (if y139 = x2 then (k86 S164 y137 (y139 + Int32.ofInt 1) (y141 ||| (0 : Int32)) y145 (y145 + Int32.ofInt 1)) else (k86 S164 y137 (y139 + Int32.ofInt 1) (y141 ||| (0 : Int32)) y143 (y145 + Int32.ofInt 1))))
def F_X10_orders_b_L86 (x2 : Int32) (x1 : Int32) : Nat → mm_S → Int32 → Int32 → Int32 → Int32 → Int32 → Int32 × mm_S
  | 0, S134, _, _, _, _, _ => (0, S134)
  | N + 1, S134, y137, y139, y141, y143, y145 => (if y137 ≤ y145 then (if x2 = (-2 : Int32) then ((-1 : Int32), S134) else (if x2 = (-1 : Int32) then (y139, S134) else (y143, S134))) else (F_X10_orders_b_L86fc99 (F_X10_isSo S134 y145 x1).1 (F_X10_orders_b_L86 x2 x1 N) (F_X10_isSo S134 y145 x1).2 y137 y139 y141 y143 y145 x2))
def F_X10_orders_b (S : mm_S) (x1 : Int32) (x2 : Int32) : Int32 × mm_S := (if (F_X10_isSet S x1) = (0 : Int32) then ((-1000000001 : Int32), S) else (F_X10_orders_b_L86 x2 x1 3 S (1 : Int32) (0 : Int32) (0 : Int32) (-1 : Int32) (0 : Int32)))
set_option maxRecDepth 100000 in
set_option maxHeartbeats 4000000 in
theorem cx_X10_orders_b {g : mm_G} (S : mm_S) (hI : JM S) (x1 : Int32) (h1 : mm_b (0) (0) x1) (x2 : Int32) : mc g yX10_orders cX10_orders 8 (some .int) (mm_rm 5) [.ref 0, .int x1, .int x2] (mm_enc shM S) (qi shM (fun S1 v => JM S1 ∧ fr [4] [] true true S S1 ∧ mm_b (-2147483648) (2147483647) v ∧ (True) ∧ F_X10_orders_b S x1 x2 = (v, S1))) := by
  refine mc_of2 (own := RX10) (ini := false) (ls := [(0, .ref 0), (1, .int x1), (2, .int x2)]) (by decide) (Nat.le_of_ble_eq_true rfl) rfl (by decide) rfl ?_
  have hF : fr [4] [] true true S S := fr_rf
  refine mw_aload_n dX10_orders_0 rfl 0 rfl ?_
  refine mw_iload_n dX10_orders_1 rfl 1 rfl ?_
  refine tc_Vi (as := [.int x1]) (st := []) dX10_orders_2 rfl shM_0 rfl rfl mX10_264 t_X10_isSet rfl (Nat.le_of_ble_eq_true rfl) (by decide) (by decide) (cx_X10_isSet (g := g) S hI x1) (fun S101 v103 h102 => ?_)
  obtain ⟨rfl, b104, x105, hx106⟩ := h102
  refine mw_if_ne (tgt := 11) dX10_orders_5 (by decide) (fun q107 => ?_) (fun q107 => ?_)
  · skip
    have b108 : mm_b (1) (1) v103 := bd_ne_l q107 b104 n_0 (by decide)
    have b109 := Or.resolve_left x105 q107
    have b110 : mm_b (0) (0) x1 := bd_both h1 b109 (by decide)
    refine mw_iload_n dX10_orders_11 rfl 1 rfl ?_
    refine tc_Si (as := [.int x1]) (st := []) dX10_orders_12 rfl mX10_241 t_X10_bits rfl (Nat.le_of_ble_eq_true rfl) (by decide) (by decide) (cx_X10_bits (g := g) S hI x1) (fun S111 v113 h112 => ?_)
    obtain ⟨rfl, b114, x115, hx116⟩ := h112
    have b117 : mm_b 0 0 v113 := bits_0 x115 b110
    refine mw_iconst dX10_orders_15 ki_4 ?_
    refine mw_icmp_le (tgt := 22) dX10_orders_16 (by decide) (fun q118 => ?_) (fun q118 => ?_)
    · skip
      refine mw_iload_n dX10_orders_22 rfl 1 rfl ?_
      refine mw_aload_n dX10_orders_23 rfl 0 rfl ?_
      refine tw_getr (j := 2) dX10_orders_24 shM_0 rfl rfl (by decide) fX10_16 ?_
      refine mw_bipush dX10_orders_27 kb_28 ?_
      refine tw_iald dX10_orders_29 shM_3 (bd_in n_28 (by decide)) (fun v119 ev119 => ?_)
      rw [cl_28] at ev119
      have b120 : mm_b (0) (127) v119 := JIM_fld hI ev119 tbM_32 (by decide)
      refine mw_iconst dX10_orders_30 ki_m1 ?_
      refine mw_ixor dX10_orders_31 (fun v121 ev121 => ?_)
      refine mw_iand dX10_orders_32 (fun v122 ev122 => ?_)
      have b123 : mm_b (0) (0) v122 := bd_and ev122 b110 (by decide)
      refine mw_if_eq (tgt := 39) dX10_orders_33 (by decide) (fun q124 => ?_) (fun q124 => ?_)
      · skip
        refine mw_iconst dX10_orders_39 ki_1 ?_
        refine mw_istore_n (ls' := [(3, .int 1), (0, .ref 0), (1, .int x1), (2, .int x2)]) dX10_orders_40 rfl (by decide) rfl ?_
        refine mw_iload_n dX10_orders_41 rfl 2 rfl ?_
        refine tc_Si (as := [.int x1]) (st := []) dX10_orders_42 rfl mX10_241 t_X10_bits rfl (Nat.le_of_ble_eq_true rfl) (by decide) (by decide) (cx_X10_bits (g := g) S hI x1) (fun S125 v127 h126 => ?_)
        obtain ⟨rfl, b128, x129, hx130⟩ := h126
        have cv127 : v113 = v127 := bits_eq x115 x129
        subst cv127
        have b131 : mm_b 0 0 v113 := bits_0 x115 b110
        refine mw_istore (ls' := [(4, .int v113), (3, .int 1), (0, .ref 0), (1, .int x1), (2, .int x2)]) dX10_orders_45 (by decide) rfl ?_
        refine mw_iload dX10_orders_47 0 rfl ?_
        refine mw_if_le (tgt := 63) dX10_orders_49 (by decide) (fun q132 => ?_) (fun q132 => ?_)
        · skip
          refine mw_iconst dX10_orders_63 ki_0 ?_
          refine mw_istore (ls' := [(4, .int 0), (3, .int 1), (0, .ref 0), (1, .int x1), (2, .int x2)]) dX10_orders_64 (by decide) rfl ?_
          refine mw_iconst dX10_orders_66 ki_0 ?_
          refine mw_istore (ls' := [(5, .int 0), (4, .int 0), (3, .int 1), (0, .ref 0), (1, .int x1), (2, .int x2)]) dX10_orders_67 (by decide) rfl ?_
          refine mw_iconst dX10_orders_69 ki_m1 ?_
          refine mw_istore (ls' := [(6, .int (-1)), (5, .int 0), (4, .int 0), (3, .int 1), (0, .ref 0), (1, .int x1), (2, .int x2)]) dX10_orders_70 (by decide) rfl ?_
          refine mw_iload_n dX10_orders_72 rfl 5 rfl ?_
          refine mw_if_ne (tgt := 80) dX10_orders_73 (by decide) (fun q133 => ?_) (fun q133 => ?_)
          · skip
            exact bd_fne q133 b110 n_0
          · skip
            refine mw_iconst dX10_orders_76 ki_0 ?_
            refine mw_goto (tgt := 84) dX10_orders_77 (by decide) ?_
            refine mw_istore (ls' := [(7, .int 0), (6, .int (-1)), (5, .int 0), (4, .int 0), (3, .int 1), (0, .ref 0), (1, .int x1), (2, .int x2)]) dX10_orders_84 (by decide) rfl ?_
            have cut86 : ∀ (N86 : Nat) (S134 : mm_S) (y137 y139 y141 y143 y145 : Int32), ((2 : Int) - y145.toInt).toNat < N86 → JM S134 → fr [4] [] true true S S134 → mm_b (1) (1) y137 → mm_b (-2147483648) (2147483647) y139 → mm_b (0) (0) y141 → mm_b (-1) (0) y143 → mm_b (0) (1) y145 → F_X10_orders_b S x1 x2 = F_X10_orders_b_L86 x2 x1 N86 S134 y137 y139 y141 y143 y145 → mw g RX10 cX10_orders 8 (some .int) false (mm_rm 5) (qi shM (fun S1 v => JM S1 ∧ fr [4] [] true true S S1 ∧ mm_b (-2147483648) (2147483647) v ∧ (True) ∧ F_X10_orders_b S x1 x2 = (v, S1))) 0 0 (mm_enc shM S134) 86 [(0, .ref 0), (1, .int x1), (2, .int x2), (3, .int y137), (4, .int y139), (5, .int y141), (6, .int y143), (7, .int y145)] [] := by
              intro N86
              induction N86 with
              | zero =>
                intro S134 y137 y139 y141 y143 y145 hm147 hI135 hF136 b138 b140 b142 b144 b146 hE148
                exact absurd hm147 (Nat.not_lt_zero _)
              | succ N86 ih86 =>
                intro S134 y137 y139 y141 y143 y145 hm147 hI135 hF136 b138 b140 b142 b144 b146 hE148
                refine mw_iload dX10_orders_86 7 rfl ?_
                refine mw_iload_n dX10_orders_88 rfl 3 rfl ?_
                refine mw_icmp_ge (tgt := 150) dX10_orders_89 (by decide) (fun q149 => ?_) (fun q149 => ?_)
                · skip
                  have b150 : mm_b (1) (1) y145 := bd_le_r q149 b138 b146 (by decide)
                  refine mw_iload_n dX10_orders_150 rfl 2 rfl ?_
                  refine mw_bipush dX10_orders_151 kb_m2 ?_
                  refine mw_icmp_ne (tgt := 175) dX10_orders_153 (by decide) (fun q151 => ?_) (fun q151 => ?_)
                  · skip
                    refine mw_iload_n dX10_orders_175 rfl 2 rfl ?_
                    refine mw_iconst dX10_orders_176 ki_m1 ?_
                    refine mw_icmp_ne (tgt := 185) dX10_orders_177 (by decide) (fun q152 => ?_) (fun q152 => ?_)
                    · skip
                      refine mw_iload dX10_orders_185 6 rfl ?_
                      exact mw_iret rfl dX10_orders_187 rfl rfl ⟨S134, _, rfl, rfl, hI135, hF136, bd_w b144 (by decide), trivial, (by exact hE148.trans (by rw [F_X10_orders_b_L86, if_pos q149, if_neg q151, if_neg q152]))⟩
                    · skip
                      have b153 : mm_b (-1) (-1) x2 := bd_eq_l q152 (bd_all x2) n_m1 (by decide)
                      refine mw_iload dX10_orders_180 4 rfl ?_
                      refine mw_goto (tgt := 187) dX10_orders_182 (by decide) ?_
                      exact mw_iret rfl dX10_orders_187 rfl rfl ⟨S134, _, rfl, rfl, hI135, hF136, b140, trivial, (by exact hE148.trans (by rw [F_X10_orders_b_L86, if_pos q149, if_neg q151, if_pos q152]))⟩
                  · skip
                    have b154 : mm_b (-2) (-2) x2 := bd_eq_l q151 (bd_all x2) n_m2 (by decide)
                    refine mw_iload dX10_orders_156 5 rfl ?_
                    refine tc_Si (as := [.int y141]) (st := []) dX10_orders_158 rfl mX10_241 t_X10_bits rfl (Nat.le_of_ble_eq_true rfl) (by decide) (by decide) (cx_X10_bits (g := g) S134 hI135 y141) (fun S155 v157 h156 => ?_)
                    obtain ⟨rfl, b158, x159, hx160⟩ := h156
                    have b161 : mm_b 0 0 v157 := bits_0 x159 b142
                    refine mw_iconst dX10_orders_161 ki_1 ?_
                    refine mw_icmp_ne (tgt := 173) dX10_orders_162 (by decide) (fun q162 => ?_) (fun q162 => ?_)
                    · skip
                      refine mw_iconst dX10_orders_173 ki_m1 ?_
                      exact mw_iret rfl dX10_orders_174 rfl rfl ⟨S134, _, rfl, rfl, hI135, hF136, bd_w n_m1 (by decide), trivial, (by (try subst hx160); exact hE148.trans (by rw [F_X10_orders_b_L86, if_pos q149, if_pos q151]))⟩
                    · skip
                      exact bd_feq q162 b161 n_1 (by decide)
                · skip
                  have b163 : mm_b (0) (0) y145 := bd_lt_l (bd_nle q149) b146 b138 (by decide)
                  refine mw_aload_n dX10_orders_92 rfl 0 rfl ?_
                  refine mw_iload dX10_orders_93 7 rfl ?_
                  refine mw_iload_n dX10_orders_95 rfl 1 rfl ?_
                  refine tc_Vi (as := [.int y145, .int x1]) (st := []) dX10_orders_96 rfl shM_0 rfl rfl mX10_277 t_X10_isSo rfl (Nat.le_of_ble_eq_true rfl) (by decide) (by decide) (cx_X10_isSo (g := g) S134 hI135 y145 (bd_w b163 (by decide)) x1 (bd_w b110 (by decide))) (fun S164 v166 h165 => ?_)
                  obtain ⟨hI171, hf172, b167, x168, hx169⟩ := h165
                  have hF173 := fr_tr hF136 hf172 (by decide) (by decide) (by decide) (by decide)
                  have hE174 : F_X10_orders_b S x1 x2 = F_X10_orders_b_L86fc99 v166 (F_X10_orders_b_L86 x2 x1 N86) S164 y137 y139 y141 y143 y145 x2 := (by exact hE148.trans (by rw [F_X10_orders_b_L86, if_neg q149, hx169]))
                  refine mw_if_eq (tgt := 144) dX10_orders_99 (by decide) (fun q175 => ?_) (fun q175 => ?_)
                  · skip
                    have b176 : mm_b (0) (0) v166 := bd_eq_l q175 b167 n_0 (by decide)
                    refine mw_iinc (ls' := fun v => [(7, .int v), (0, .ref 0), (1, .int x1), (2, .int x2), (3, .int y137), (4, .int y139), (5, .int y141), (6, .int y143)]) dX10_orders_144 7 rfl (by decide) (fun _ => rfl) (fun v177 ev177 => ?_)
                    have b178 : mm_b (1) (1) v177 := bd_inc ev177 b163 (by decide)
                    refine mw_goto (tgt := 86) dX10_orders_147 (by decide) ?_
                    refine mw_ls [1, 2, 3, 4, 5, 6, 7, 0] rfl ?_
                    exact ih86 S164 y137 y139 y141 y143 v177 (ms_inc ev177 b163 (by decide) hm147) hI171 hF173 b138 b140 b142 b144 (bd_w b178 (by decide)) (by (try subst ev177); exact hE174.trans (by rw [F_X10_orders_b_L86fc99, if_pos q175]))
                  · skip
                    have b179 : mm_b (1) (1) v166 := bd_ne_l q175 b167 n_0 (by decide)
                    refine mw_iload dX10_orders_102 4 rfl ?_
                    refine mw_iload_n dX10_orders_104 rfl 2 rfl ?_
                    refine mw_icmp_ne (tgt := 113) dX10_orders_105 (by decide) (fun q180 => ?_) (fun q180 => ?_)
                    · skip
                      refine mw_iload dX10_orders_113 6 rfl ?_
                      refine mw_istore (ls' := [(6, .int y143), (0, .ref 0), (1, .int x1), (2, .int x2), (3, .int y137), (4, .int y139), (5, .int y141), (7, .int y145)]) dX10_orders_115 (by decide) rfl ?_
                      refine mw_iload dX10_orders_117 6 rfl ?_
                      refine mw_iload_n dX10_orders_119 rfl 2 rfl ?_
                      refine mw_if_ne (tgt := 127) dX10_orders_120 (by decide) (fun q181 => ?_) (fun q181 => ?_)
                      · skip
                        exact bd_fne q181 b110 n_0
                      · skip
                        refine mw_iconst dX10_orders_123 ki_0 ?_
                        refine mw_goto (tgt := 138) dX10_orders_124 (by decide) ?_
                        refine mw_ior dX10_orders_138 (fun v182 ev182 => ?_)
                        have b183 : mm_b (0) (0) v182 := bd_or 0 ev182 b142 n_0 (by decide)
                        refine mw_istore (ls' := [(5, .int v182), (6, .int y143), (0, .ref 0), (1, .int x1), (2, .int x2), (3, .int y137), (4, .int y139), (7, .int y145)]) dX10_orders_139 (by decide) rfl ?_
                        refine mw_iinc (ls' := fun v => [(4, .int v), (5, .int v182), (6, .int y143), (0, .ref 0), (1, .int x1), (2, .int x2), (3, .int y137), (7, .int y145)]) dX10_orders_141 6 rfl (by decide) (fun _ => rfl) (fun v184 ev184 => ?_)
                        refine mw_iinc (ls' := fun v => [(7, .int v), (4, .int v184), (5, .int v182), (6, .int y143), (0, .ref 0), (1, .int x1), (2, .int x2), (3, .int y137)]) dX10_orders_144 7 rfl (by decide) (fun _ => rfl) (fun v185 ev185 => ?_)
                        have b186 : mm_b (1) (1) v185 := bd_inc ev185 b163 (by decide)
                        refine mw_goto (tgt := 86) dX10_orders_147 (by decide) ?_
                        refine mw_ls [4, 5, 6, 7, 1, 2, 3, 0] rfl ?_
                        exact ih86 S164 y137 v184 v182 y143 v185 (ms_inc ev185 b163 (by decide) hm147) hI171 hF173 b138 (bd_all v184) b183 b144 (bd_w b186 (by decide)) (by (try subst ev185); (try subst ev184); (try subst ev182); exact hE174.trans (by rw [F_X10_orders_b_L86fc99, if_neg q175, if_neg q180]))
                    · skip
                      refine mw_iload dX10_orders_108 7 rfl ?_
                      refine mw_goto (tgt := 115) dX10_orders_110 (by decide) ?_
                      refine mw_istore (ls' := [(6, .int y145), (0, .ref 0), (1, .int x1), (2, .int x2), (3, .int y137), (4, .int y139), (5, .int y141), (7, .int y145)]) dX10_orders_115 (by decide) rfl ?_
                      refine mw_iload dX10_orders_117 6 rfl ?_
                      refine mw_iload_n dX10_orders_119 rfl 2 rfl ?_
                      refine mw_if_ne (tgt := 127) dX10_orders_120 (by decide) (fun q187 => ?_) (fun q187 => ?_)
                      · skip
                        exact bd_fne q187 b110 n_0
                      · skip
                        refine mw_iconst dX10_orders_123 ki_0 ?_
                        refine mw_goto (tgt := 138) dX10_orders_124 (by decide) ?_
                        refine mw_ior dX10_orders_138 (fun v188 ev188 => ?_)
                        have b189 : mm_b (0) (0) v188 := bd_or 0 ev188 b142 n_0 (by decide)
                        refine mw_istore (ls' := [(5, .int v188), (6, .int y145), (0, .ref 0), (1, .int x1), (2, .int x2), (3, .int y137), (4, .int y139), (7, .int y145)]) dX10_orders_139 (by decide) rfl ?_
                        refine mw_iinc (ls' := fun v => [(4, .int v), (5, .int v188), (6, .int y145), (0, .ref 0), (1, .int x1), (2, .int x2), (3, .int y137), (7, .int y145)]) dX10_orders_141 6 rfl (by decide) (fun _ => rfl) (fun v190 ev190 => ?_)
                        refine mw_iinc (ls' := fun v => [(7, .int v), (4, .int v190), (5, .int v188), (6, .int y145), (0, .ref 0), (1, .int x1), (2, .int x2), (3, .int y137)]) dX10_orders_144 7 rfl (by decide) (fun _ => rfl) (fun v191 ev191 => ?_)
                        have b192 : mm_b (1) (1) v191 := bd_inc ev191 b163 (by decide)
                        refine mw_goto (tgt := 86) dX10_orders_147 (by decide) ?_
                        refine mw_ls [4, 5, 6, 7, 1, 2, 3, 0] rfl ?_
                        exact ih86 S164 y137 v190 v188 y145 v191 (ms_inc ev191 b163 (by decide) hm147) hI171 hF173 b138 (bd_all v190) b189 (bd_w b163 (by decide)) (bd_w b192 (by decide)) (by (try subst ev191); (try subst ev190); (try subst ev188); exact hE174.trans (by rw [F_X10_orders_b_L86fc99, if_neg q175, if_pos q180]))
            refine mw_ls [5, 6, 7, 4, 3, 2, 1, 0] rfl ?_
            exact cut86 3 S (1 : Int32) (0 : Int32) (0 : Int32) (-1 : Int32) (0 : Int32) (by have hz := n_0; omega) hI hF n_1 (bd_w n_0 (by decide)) n_0 (bd_w n_m1 (by decide)) (bd_w n_0 (by decide)) (by (try subst hx130); (try subst ev122); (try subst ev121); (try subst ev119); (try subst hx116); (try subst hx106); rw [F_X10_orders_b, if_neg q107])
        · skip
          exact bd_flt (bd_nle q132) n_0 b131 (by decide)
      · skip
        exact bd_fne q124 b123 n_0
    · skip
      exact bd_flt (bd_nle q118) n_4 b117 (by decide)
  · skip
    have b193 : mm_b (0) (0) v103 := bd_eq_l q107 b104 n_0 (by decide)
    refine mw_ldc dX10_orders_8 kX10_182 ?_
    exact mw_iret rfl dX10_orders_10 rfl rfl ⟨S, _, rfl, rfl, hI, hF, bd_w n_m1000000001 (by decide), trivial, (by (try subst hx106); rw [F_X10_orders_b, if_pos q107])⟩
def F_X10_orders_c_L86fc99 (v181 : Int32) (k86 : mm_S → Int32 → Int32 → Int32 → Int32 → Int32 → Int32 × mm_S) (S179 : mm_S) (y146 : Int32) (y148 : Int32) (y150 : Int32) (y152 : Int32) (y154 : Int32) (x2 : Int32) : Int32 × mm_S := (if v181 = (0 : Int32) then (k86 S179 y146 y148 y150 y152 (y154 + Int32.ofInt 1)) else (if y148 = x2 then (k86 S179 y146 (y148 + Int32.ofInt 1) (y150 ||| ((1 : Int32) <<< (((y154 / (y146 / (10 : Int32))) - (1 : Int32)) &&& 31))) y154 (y154 + Int32.ofInt 1)) else (k86 S179 y146 (y148 + Int32.ofInt 1) (y150 ||| ((1 : Int32) <<< (((y154 / (y146 / (10 : Int32))) - (1 : Int32)) &&& 31))) y152 (y154 + Int32.ofInt 1))))
def F_X10_orders_c_L86 (x2 : Int32) (x1 : Int32) : Nat → mm_S → Int32 → Int32 → Int32 → Int32 → Int32 → Int32 × mm_S
  | 0, S143, _, _, _, _, _ => (0, S143)
  | N + 1, S143, y146, y148, y150, y152, y154 => (if y146 ≤ y154 then (if x2 = (-2 : Int32) then (if (F_X10_bits S143 y150) = (1 : Int32) then ((F_X10_leastOf S143 y150), S143) else ((-1 : Int32), S143)) else (if x2 = (-1 : Int32) then (y148, S143) else (y152, S143))) else (F_X10_orders_c_L86fc99 (F_X10_isSo S143 y154 x1).1 (F_X10_orders_c_L86 x2 x1 N) (F_X10_isSo S143 y154 x1).2 y146 y148 y150 y152 y154 x2))
def F_X10_orders_c (S : mm_S) (x1 : Int32) (x2 : Int32) : Int32 × mm_S := (if (F_X10_isSet S x1) = (0 : Int32) then ((-1000000001 : Int32), S) else (if (F_X10_bits S x1) ≤ (4 : Int32) then (if (x1 &&& ((S.1 3 28) ^^^ (-1 : Int32))) = (0 : Int32) then (if ((F_X10_bits S x1) + Int32.ofInt (-1)) ≤ (0 : Int32) then (F_X10_orders_c_L86 x2 x1 10001 S ((1 : Int32) * (10 : Int32)) (0 : Int32) (0 : Int32) (-1 : Int32) (((1 : Int32) * (10 : Int32)) / (10 : Int32))) else (if (((F_X10_bits S x1) + Int32.ofInt (-1)) + Int32.ofInt (-1)) ≤ (0 : Int32) then (F_X10_orders_c_L86 x2 x1 10001 S (((1 : Int32) * (10 : Int32)) * (10 : Int32)) (0 : Int32) (0 : Int32) (-1 : Int32) ((((1 : Int32) * (10 : Int32)) * (10 : Int32)) / (10 : Int32))) else (if ((((F_X10_bits S x1) + Int32.ofInt (-1)) + Int32.ofInt (-1)) + Int32.ofInt (-1)) ≤ (0 : Int32) then (F_X10_orders_c_L86 x2 x1 10001 S ((((1 : Int32) * (10 : Int32)) * (10 : Int32)) * (10 : Int32)) (0 : Int32) (0 : Int32) (-1 : Int32) (((((1 : Int32) * (10 : Int32)) * (10 : Int32)) * (10 : Int32)) / (10 : Int32))) else (F_X10_orders_c_L86 x2 x1 10001 S (((((1 : Int32) * (10 : Int32)) * (10 : Int32)) * (10 : Int32)) * (10 : Int32)) (0 : Int32) (0 : Int32) (-1 : Int32) ((((((1 : Int32) * (10 : Int32)) * (10 : Int32)) * (10 : Int32)) * (10 : Int32)) / (10 : Int32)))))) else ((-1000000003 : Int32), S)) else ((-1000000002 : Int32), S)))
set_option maxRecDepth 100000 in
set_option maxHeartbeats 4000000 in
theorem cx_X10_orders_c {g : mm_G} (S : mm_S) (hI : JM S) (x1 : Int32) (h1 : mm_b (1) (127) x1) (x2 : Int32) : mc g yX10_orders cX10_orders 8 (some .int) (mm_rm 5) [.ref 0, .int x1, .int x2] (mm_enc shM S) (qi shM (fun S1 v => JM S1 ∧ fr [4] [] true true S S1 ∧ mm_b (-2147483648) (2147483647) v ∧ (True) ∧ F_X10_orders_c S x1 x2 = (v, S1))) := by
  refine mc_of2 (own := RX10) (ini := false) (ls := [(0, .ref 0), (1, .int x1), (2, .int x2)]) (by decide) (Nat.le_of_ble_eq_true rfl) rfl (by decide) rfl ?_
  have hF : fr [4] [] true true S S := fr_rf
  refine mw_aload_n dX10_orders_0 rfl 0 rfl ?_
  refine mw_iload_n dX10_orders_1 rfl 1 rfl ?_
  refine tc_Vi (as := [.int x1]) (st := []) dX10_orders_2 rfl shM_0 rfl rfl mX10_264 t_X10_isSet rfl (Nat.le_of_ble_eq_true rfl) (by decide) (by decide) (cx_X10_isSet (g := g) S hI x1) (fun S101 v103 h102 => ?_)
  obtain ⟨rfl, b104, x105, hx106⟩ := h102
  refine mw_if_ne (tgt := 11) dX10_orders_5 (by decide) (fun q107 => ?_) (fun q107 => ?_)
  · skip
    have b108 : mm_b (1) (1) v103 := bd_ne_l q107 b104 n_0 (by decide)
    have b109 := Or.resolve_left x105 q107
    have b110 : mm_b (1) (127) x1 := bd_both h1 b109 (by decide)
    refine mw_iload_n dX10_orders_11 rfl 1 rfl ?_
    refine tc_Si (as := [.int x1]) (st := []) dX10_orders_12 rfl mX10_241 t_X10_bits rfl (Nat.le_of_ble_eq_true rfl) (by decide) (by decide) (cx_X10_bits (g := g) S hI x1) (fun S111 v113 h112 => ?_)
    obtain ⟨rfl, b114, x115, hx116⟩ := h112
    have b117 : mm_b 1 7 v113 := bits_1 x115 b110 (by decide)
    refine mw_iconst dX10_orders_15 ki_4 ?_
    refine mw_icmp_le (tgt := 22) dX10_orders_16 (by decide) (fun q118 => ?_) (fun q118 => ?_)
    · skip
      have b119 : mm_b (1) (4) v113 := bd_le_l q118 b117 n_4 (by decide)
      refine mw_iload_n dX10_orders_22 rfl 1 rfl ?_
      refine mw_aload_n dX10_orders_23 rfl 0 rfl ?_
      refine tw_getr (j := 2) dX10_orders_24 shM_0 rfl rfl (by decide) fX10_16 ?_
      refine mw_bipush dX10_orders_27 kb_28 ?_
      refine tw_iald dX10_orders_29 shM_3 (bd_in n_28 (by decide)) (fun v120 ev120 => ?_)
      rw [cl_28] at ev120
      have b121 : mm_b (0) (127) v120 := JIM_fld hI ev120 tbM_32 (by decide)
      refine mw_iconst dX10_orders_30 ki_m1 ?_
      refine mw_ixor dX10_orders_31 (fun v122 ev122 => ?_)
      refine mw_iand dX10_orders_32 (fun v123 ev123 => ?_)
      have b124 : mm_b (0) (127) v123 := bd_and ev123 b110 (by decide)
      refine mw_if_eq (tgt := 39) dX10_orders_33 (by decide) (fun q125 => ?_) (fun q125 => ?_)
      · skip
        have b126 : mm_b (0) (0) v123 := bd_eq_l q125 b124 n_0 (by decide)
        refine mw_iconst dX10_orders_39 ki_1 ?_
        refine mw_istore_n (ls' := [(3, .int 1), (0, .ref 0), (1, .int x1), (2, .int x2)]) dX10_orders_40 rfl (by decide) rfl ?_
        refine mw_iload_n dX10_orders_41 rfl 2 rfl ?_
        refine tc_Si (as := [.int x1]) (st := []) dX10_orders_42 rfl mX10_241 t_X10_bits rfl (Nat.le_of_ble_eq_true rfl) (by decide) (by decide) (cx_X10_bits (g := g) S hI x1) (fun S127 v129 h128 => ?_)
        obtain ⟨rfl, b130, x131, hx132⟩ := h128
        have cv129 : v113 = v129 := bits_eq x115 x131
        subst cv129
        refine mw_istore (ls' := [(4, .int v113), (3, .int 1), (0, .ref 0), (1, .int x1), (2, .int x2)]) dX10_orders_45 (by decide) rfl ?_
        refine mw_iload dX10_orders_47 0 rfl ?_
        refine mw_if_le (tgt := 63) dX10_orders_49 (by decide) (fun q133 => ?_) (fun q133 => ?_)
        · skip
          exact bd_fle q133 b119 n_0 (by decide)
        · skip
          refine mw_iload_n dX10_orders_52 rfl 1 rfl ?_
          refine mw_bipush dX10_orders_53 kb_10 ?_
          refine mw_imul dX10_orders_55 (fun v134 ev134 => ?_)
          have b135 : mm_b (10) (10) v134 := bd_mul ev134 n_1 n_10 (by decide)
          refine mw_istore_n (ls' := [(3, .int v134), (4, .int v113), (0, .ref 0), (1, .int x1), (2, .int x2)]) dX10_orders_56 rfl (by decide) rfl ?_
          refine mw_iinc (ls' := fun v => [(4, .int v), (3, .int v134), (0, .ref 0), (1, .int x1), (2, .int x2)]) dX10_orders_57 1 rfl (by decide) (fun _ => rfl) (fun v136 ev136 => ?_)
          have b137 : mm_b (0) (3) v136 := bd_inc ev136 b119 (by decide)
          refine mw_goto (tgt := 47) dX10_orders_60 (by decide) ?_
          refine mw_iload dX10_orders_47 0 rfl ?_
          refine mw_if_le (tgt := 63) dX10_orders_49 (by decide) (fun q138 => ?_) (fun q138 => ?_)
          · skip
            have b139 : mm_b (0) (0) v136 := bd_le_l q138 b137 n_0 (by decide)
            refine mw_iconst dX10_orders_63 ki_0 ?_
            refine mw_istore (ls' := [(4, .int 0), (3, .int v134), (0, .ref 0), (1, .int x1), (2, .int x2)]) dX10_orders_64 (by decide) rfl ?_
            refine mw_iconst dX10_orders_66 ki_0 ?_
            refine mw_istore (ls' := [(5, .int 0), (4, .int 0), (3, .int v134), (0, .ref 0), (1, .int x1), (2, .int x2)]) dX10_orders_67 (by decide) rfl ?_
            refine mw_iconst dX10_orders_69 ki_m1 ?_
            refine mw_istore (ls' := [(6, .int (-1)), (5, .int 0), (4, .int 0), (3, .int v134), (0, .ref 0), (1, .int x1), (2, .int x2)]) dX10_orders_70 (by decide) rfl ?_
            refine mw_iload_n dX10_orders_72 rfl 5 rfl ?_
            refine mw_if_ne (tgt := 80) dX10_orders_73 (by decide) (fun q140 => ?_) (fun q140 => ?_)
            · skip
              refine mw_iload_n dX10_orders_80 rfl 3 rfl ?_
              refine mw_bipush dX10_orders_81 kb_10 ?_
              refine mw_idiv dX10_orders_83 (bd_ne0 n_10 (by decide)) (fun v141 ev141 => ?_)
              have b142 : mm_b (1) (1) v141 := bd_div ev141 b135 n_10 (by decide)
              refine mw_istore (ls' := [(7, .int v141), (6, .int (-1)), (5, .int 0), (4, .int 0), (3, .int v134), (0, .ref 0), (1, .int x1), (2, .int x2)]) dX10_orders_84 (by decide) rfl ?_
              have cut86 : ∀ (N86 : Nat) (S143 : mm_S) (y146 y148 y150 y152 y154 : Int32), ((10001 : Int) - y154.toInt).toNat < N86 → JM S143 → fr [4] [] true true S S143 → mm_b (10) (10000) y146 → mm_b (-2147483648) (2147483647) y148 → mm_b (-2147483648) (2147483647) y150 → mm_b (-1) (9999) y152 → mm_b (1) (10000) y154 → F_X10_orders_c S x1 x2 = F_X10_orders_c_L86 x2 x1 N86 S143 y146 y148 y150 y152 y154 → mw g RX10 cX10_orders 8 (some .int) false (mm_rm 5) (qi shM (fun S1 v => JM S1 ∧ fr [4] [] true true S S1 ∧ mm_b (-2147483648) (2147483647) v ∧ (True) ∧ F_X10_orders_c S x1 x2 = (v, S1))) 0 0 (mm_enc shM S143) 86 [(0, .ref 0), (1, .int x1), (2, .int x2), (3, .int y146), (4, .int y148), (5, .int y150), (6, .int y152), (7, .int y154)] [] := by
                intro N86
                induction N86 with
                | zero =>
                  intro S143 y146 y148 y150 y152 y154 hm156 hI144 hF145 b147 b149 b151 b153 b155 hE157
                  exact absurd hm156 (Nat.not_lt_zero _)
                | succ N86 ih86 =>
                  intro S143 y146 y148 y150 y152 y154 hm156 hI144 hF145 b147 b149 b151 b153 b155 hE157
                  refine mw_iload dX10_orders_86 7 rfl ?_
                  refine mw_iload_n dX10_orders_88 rfl 3 rfl ?_
                  refine mw_icmp_ge (tgt := 150) dX10_orders_89 (by decide) (fun q158 => ?_) (fun q158 => ?_)
                  · skip
                    have b159 : mm_b (10) (10000) y154 := bd_le_r q158 b147 b155 (by decide)
                    refine mw_iload_n dX10_orders_150 rfl 2 rfl ?_
                    refine mw_bipush dX10_orders_151 kb_m2 ?_
                    refine mw_icmp_ne (tgt := 175) dX10_orders_153 (by decide) (fun q160 => ?_) (fun q160 => ?_)
                    · skip
                      refine mw_iload_n dX10_orders_175 rfl 2 rfl ?_
                      refine mw_iconst dX10_orders_176 ki_m1 ?_
                      refine mw_icmp_ne (tgt := 185) dX10_orders_177 (by decide) (fun q161 => ?_) (fun q161 => ?_)
                      · skip
                        refine mw_iload dX10_orders_185 6 rfl ?_
                        exact mw_iret rfl dX10_orders_187 rfl rfl ⟨S143, _, rfl, rfl, hI144, hF145, bd_w b153 (by decide), trivial, (by exact hE157.trans (by rw [F_X10_orders_c_L86, if_pos q158, if_neg q160, if_neg q161]))⟩
                      · skip
                        have b162 : mm_b (-1) (-1) x2 := bd_eq_l q161 (bd_all x2) n_m1 (by decide)
                        refine mw_iload dX10_orders_180 4 rfl ?_
                        refine mw_goto (tgt := 187) dX10_orders_182 (by decide) ?_
                        exact mw_iret rfl dX10_orders_187 rfl rfl ⟨S143, _, rfl, rfl, hI144, hF145, b149, trivial, (by exact hE157.trans (by rw [F_X10_orders_c_L86, if_pos q158, if_neg q160, if_pos q161]))⟩
                    · skip
                      have b163 : mm_b (-2) (-2) x2 := bd_eq_l q160 (bd_all x2) n_m2 (by decide)
                      refine mw_iload dX10_orders_156 5 rfl ?_
                      refine tc_Si (as := [.int y150]) (st := []) dX10_orders_158 rfl mX10_241 t_X10_bits rfl (Nat.le_of_ble_eq_true rfl) (by decide) (by decide) (cx_X10_bits (g := g) S143 hI144 y150) (fun S164 v166 h165 => ?_)
                      obtain ⟨rfl, b167, x168, hx169⟩ := h165
                      refine mw_iconst dX10_orders_161 ki_1 ?_
                      refine mw_icmp_ne (tgt := 173) dX10_orders_162 (by decide) (fun q170 => ?_) (fun q170 => ?_)
                      · skip
                        refine mw_iconst dX10_orders_173 ki_m1 ?_
                        exact mw_iret rfl dX10_orders_174 rfl rfl ⟨S143, _, rfl, rfl, hI144, hF145, bd_w n_m1 (by decide), trivial, (by (try subst hx169); exact hE157.trans (by rw [F_X10_orders_c_L86, if_pos q158, if_pos q160, if_neg q170]))⟩
                      · skip
                        have b171 : mm_b (1) (1) v166 := bd_eq_l q170 b167 n_1 (by decide)
                        refine mw_iload dX10_orders_165 5 rfl ?_
                        refine tc_Si (as := [.int y150]) (st := []) dX10_orders_167 rfl mX10_195 t_X10_leastOf rfl (Nat.le_of_ble_eq_true rfl) (by decide) (by decide) (cx_X10_leastOf (g := g) S143 hI144 y150) (fun S172 v174 h173 => ?_)
                        obtain ⟨rfl, b175, x176, hx177⟩ := h173
                        refine mw_goto (tgt := 174) dX10_orders_170 (by decide) ?_
                        exact mw_iret rfl dX10_orders_174 rfl rfl ⟨S143, _, rfl, rfl, hI144, hF145, bd_w b175 (by decide), trivial, (by (try subst hx177); (try subst hx169); exact hE157.trans (by rw [F_X10_orders_c_L86, if_pos q158, if_pos q160, if_pos q170]))⟩
                  · skip
                    have b178 : mm_b (1) (9999) y154 := bd_lt_l (bd_nle q158) b155 b147 (by decide)
                    refine mw_aload_n dX10_orders_92 rfl 0 rfl ?_
                    refine mw_iload dX10_orders_93 7 rfl ?_
                    refine mw_iload_n dX10_orders_95 rfl 1 rfl ?_
                    refine tc_Vi (as := [.int y154, .int x1]) (st := []) dX10_orders_96 rfl shM_0 rfl rfl mX10_277 t_X10_isSo rfl (Nat.le_of_ble_eq_true rfl) (by decide) (by decide) (cx_X10_isSo (g := g) S143 hI144 y154 (bd_w b178 (by decide)) x1 (bd_w b110 (by decide))) (fun S179 v181 h180 => ?_)
                    obtain ⟨hI186, hf187, b182, x183, hx184⟩ := h180
                    have hF188 := fr_tr hF145 hf187 (by decide) (by decide) (by decide) (by decide)
                    have hE189 : F_X10_orders_c S x1 x2 = F_X10_orders_c_L86fc99 v181 (F_X10_orders_c_L86 x2 x1 N86) S179 y146 y148 y150 y152 y154 x2 := (by exact hE157.trans (by rw [F_X10_orders_c_L86, if_neg q158, hx184]))
                    refine mw_if_eq (tgt := 144) dX10_orders_99 (by decide) (fun q190 => ?_) (fun q190 => ?_)
                    · skip
                      have b191 : mm_b (0) (0) v181 := bd_eq_l q190 b182 n_0 (by decide)
                      refine mw_iinc (ls' := fun v => [(7, .int v), (0, .ref 0), (1, .int x1), (2, .int x2), (3, .int y146), (4, .int y148), (5, .int y150), (6, .int y152)]) dX10_orders_144 7 rfl (by decide) (fun _ => rfl) (fun v192 ev192 => ?_)
                      have b193 : mm_b (2) (10000) v192 := bd_inc ev192 b178 (by decide)
                      refine mw_goto (tgt := 86) dX10_orders_147 (by decide) ?_
                      refine mw_ls [1, 2, 3, 4, 5, 6, 7, 0] rfl ?_
                      exact ih86 S179 y146 y148 y150 y152 v192 (ms_inc ev192 b178 (by decide) hm156) hI186 hF188 b147 b149 b151 b153 (bd_w b193 (by decide)) (by (try subst ev192); exact hE189.trans (by rw [F_X10_orders_c_L86fc99, if_pos q190]))
                    · skip
                      have b194 : mm_b (1) (1) v181 := bd_ne_l q190 b182 n_0 (by decide)
                      refine mw_iload dX10_orders_102 4 rfl ?_
                      refine mw_iload_n dX10_orders_104 rfl 2 rfl ?_
                      refine mw_icmp_ne (tgt := 113) dX10_orders_105 (by decide) (fun q195 => ?_) (fun q195 => ?_)
                      · skip
                        refine mw_iload dX10_orders_113 6 rfl ?_
                        refine mw_istore (ls' := [(6, .int y152), (0, .ref 0), (1, .int x1), (2, .int x2), (3, .int y146), (4, .int y148), (5, .int y150), (7, .int y154)]) dX10_orders_115 (by decide) rfl ?_
                        refine mw_iload dX10_orders_117 6 rfl ?_
                        refine mw_iload_n dX10_orders_119 rfl 2 rfl ?_
                        refine mw_if_ne (tgt := 127) dX10_orders_120 (by decide) (fun q196 => ?_) (fun q196 => ?_)
                        · skip
                          refine mw_iconst dX10_orders_127 ki_1 ?_
                          refine mw_iload dX10_orders_128 7 rfl ?_
                          refine mw_iload_n dX10_orders_130 rfl 4 rfl ?_
                          refine mw_bipush dX10_orders_131 kb_10 ?_
                          refine mw_idiv dX10_orders_133 (bd_ne0 n_10 (by decide)) (fun v197 ev197 => ?_)
                          have b198 : mm_b (1) (1000) v197 := bd_div ev197 b147 n_10 (by decide)
                          refine mw_idiv dX10_orders_134 (bd_ne0 b198 (by decide)) (fun v199 ev199 => ?_)
                          have b200 : mm_b (0) (9999) v199 := bd_div ev199 b178 b198 (by decide)
                          refine mw_iconst dX10_orders_135 ki_1 ?_
                          refine mw_isub dX10_orders_136 (fun v201 ev201 => ?_)
                          have b202 : mm_b (-1) (9998) v201 := bd_sub ev201 b200 n_1 (by decide)
                          refine mw_ishl dX10_orders_137 (fun v203 ev203 => ?_)
                          refine mw_ior dX10_orders_138 (fun v204 ev204 => ?_)
                          refine mw_istore (ls' := [(5, .int v204), (6, .int y152), (0, .ref 0), (1, .int x1), (2, .int x2), (3, .int y146), (4, .int y148), (7, .int y154)]) dX10_orders_139 (by decide) rfl ?_
                          refine mw_iinc (ls' := fun v => [(4, .int v), (5, .int v204), (6, .int y152), (0, .ref 0), (1, .int x1), (2, .int x2), (3, .int y146), (7, .int y154)]) dX10_orders_141 6 rfl (by decide) (fun _ => rfl) (fun v205 ev205 => ?_)
                          refine mw_iinc (ls' := fun v => [(7, .int v), (4, .int v205), (5, .int v204), (6, .int y152), (0, .ref 0), (1, .int x1), (2, .int x2), (3, .int y146)]) dX10_orders_144 7 rfl (by decide) (fun _ => rfl) (fun v206 ev206 => ?_)
                          have b207 : mm_b (2) (10000) v206 := bd_inc ev206 b178 (by decide)
                          refine mw_goto (tgt := 86) dX10_orders_147 (by decide) ?_
                          refine mw_ls [4, 5, 6, 7, 1, 2, 3, 0] rfl ?_
                          exact ih86 S179 y146 v205 v204 y152 v206 (ms_inc ev206 b178 (by decide) hm156) hI186 hF188 b147 (bd_all v205) (bd_all v204) b153 (bd_w b207 (by decide)) (by (try subst ev206); (try subst ev205); (try subst ev204); (try subst ev203); (try subst ev201); (try subst ev199); (try subst ev197); exact hE189.trans (by rw [F_X10_orders_c_L86fc99, if_neg q190, if_neg q195]))
                        · skip
                          exact bd_feq q196 b110 n_0 (by decide)
                      · skip
                        refine mw_iload dX10_orders_108 7 rfl ?_
                        refine mw_goto (tgt := 115) dX10_orders_110 (by decide) ?_
                        refine mw_istore (ls' := [(6, .int y154), (0, .ref 0), (1, .int x1), (2, .int x2), (3, .int y146), (4, .int y148), (5, .int y150), (7, .int y154)]) dX10_orders_115 (by decide) rfl ?_
                        refine mw_iload dX10_orders_117 6 rfl ?_
                        refine mw_iload_n dX10_orders_119 rfl 2 rfl ?_
                        refine mw_if_ne (tgt := 127) dX10_orders_120 (by decide) (fun q208 => ?_) (fun q208 => ?_)
                        · skip
                          refine mw_iconst dX10_orders_127 ki_1 ?_
                          refine mw_iload dX10_orders_128 7 rfl ?_
                          refine mw_iload_n dX10_orders_130 rfl 4 rfl ?_
                          refine mw_bipush dX10_orders_131 kb_10 ?_
                          refine mw_idiv dX10_orders_133 (bd_ne0 n_10 (by decide)) (fun v209 ev209 => ?_)
                          have b210 : mm_b (1) (1000) v209 := bd_div ev209 b147 n_10 (by decide)
                          refine mw_idiv dX10_orders_134 (bd_ne0 b210 (by decide)) (fun v211 ev211 => ?_)
                          have b212 : mm_b (0) (9999) v211 := bd_div ev211 b178 b210 (by decide)
                          refine mw_iconst dX10_orders_135 ki_1 ?_
                          refine mw_isub dX10_orders_136 (fun v213 ev213 => ?_)
                          have b214 : mm_b (-1) (9998) v213 := bd_sub ev213 b212 n_1 (by decide)
                          refine mw_ishl dX10_orders_137 (fun v215 ev215 => ?_)
                          refine mw_ior dX10_orders_138 (fun v216 ev216 => ?_)
                          refine mw_istore (ls' := [(5, .int v216), (6, .int y154), (0, .ref 0), (1, .int x1), (2, .int x2), (3, .int y146), (4, .int y148), (7, .int y154)]) dX10_orders_139 (by decide) rfl ?_
                          refine mw_iinc (ls' := fun v => [(4, .int v), (5, .int v216), (6, .int y154), (0, .ref 0), (1, .int x1), (2, .int x2), (3, .int y146), (7, .int y154)]) dX10_orders_141 6 rfl (by decide) (fun _ => rfl) (fun v217 ev217 => ?_)
                          refine mw_iinc (ls' := fun v => [(7, .int v), (4, .int v217), (5, .int v216), (6, .int y154), (0, .ref 0), (1, .int x1), (2, .int x2), (3, .int y146)]) dX10_orders_144 7 rfl (by decide) (fun _ => rfl) (fun v218 ev218 => ?_)
                          have b219 : mm_b (2) (10000) v218 := bd_inc ev218 b178 (by decide)
                          refine mw_goto (tgt := 86) dX10_orders_147 (by decide) ?_
                          refine mw_ls [4, 5, 6, 7, 1, 2, 3, 0] rfl ?_
                          exact ih86 S179 y146 v217 v216 y154 v218 (ms_inc ev218 b178 (by decide) hm156) hI186 hF188 b147 (bd_all v217) (bd_all v216) (bd_w b178 (by decide)) (bd_w b219 (by decide)) (by (try subst ev218); (try subst ev217); (try subst ev216); (try subst ev215); (try subst ev213); (try subst ev211); (try subst ev209); exact hE189.trans (by rw [F_X10_orders_c_L86fc99, if_neg q190, if_pos q195]))
                        · skip
                          exact bd_feq q208 b110 n_0 (by decide)
              refine mw_ls [5, 6, 7, 4, 3, 2, 1, 0] rfl ?_
              exact cut86 10001 S v134 (0 : Int32) (0 : Int32) (-1 : Int32) v141 (by have hz := b142; omega) hI hF (bd_w b135 (by decide)) (bd_w n_0 (by decide)) (bd_w n_0 (by decide)) (bd_w n_m1 (by decide)) (bd_w b142 (by decide)) (by (try subst ev141); (try subst ev136); (try subst ev134); (try subst hx132); (try subst ev123); (try subst ev122); (try subst ev120); (try subst hx116); (try subst hx106); rw [F_X10_orders_c, if_neg q107, if_pos q118, if_pos q125, if_pos q138])
            · skip
              exact bd_feq q140 b110 n_0 (by decide)
          · skip
            have b220 : mm_b (1) (3) v136 := bd_lt_r (bd_nle q138) n_0 b137 (by decide)
            refine mw_iload_n dX10_orders_52 rfl 1 rfl ?_
            refine mw_bipush dX10_orders_53 kb_10 ?_
            refine mw_imul dX10_orders_55 (fun v221 ev221 => ?_)
            have b222 : mm_b (100) (100) v221 := bd_mul ev221 b135 n_10 (by decide)
            refine mw_istore_n (ls' := [(3, .int v221), (4, .int v136), (0, .ref 0), (1, .int x1), (2, .int x2)]) dX10_orders_56 rfl (by decide) rfl ?_
            refine mw_iinc (ls' := fun v => [(4, .int v), (3, .int v221), (0, .ref 0), (1, .int x1), (2, .int x2)]) dX10_orders_57 1 rfl (by decide) (fun _ => rfl) (fun v223 ev223 => ?_)
            have b224 : mm_b (0) (2) v223 := bd_inc ev223 b220 (by decide)
            refine mw_goto (tgt := 47) dX10_orders_60 (by decide) ?_
            refine mw_iload dX10_orders_47 0 rfl ?_
            refine mw_if_le (tgt := 63) dX10_orders_49 (by decide) (fun q225 => ?_) (fun q225 => ?_)
            · skip
              have b226 : mm_b (0) (0) v223 := bd_le_l q225 b224 n_0 (by decide)
              refine mw_iconst dX10_orders_63 ki_0 ?_
              refine mw_istore (ls' := [(4, .int 0), (3, .int v221), (0, .ref 0), (1, .int x1), (2, .int x2)]) dX10_orders_64 (by decide) rfl ?_
              refine mw_iconst dX10_orders_66 ki_0 ?_
              refine mw_istore (ls' := [(5, .int 0), (4, .int 0), (3, .int v221), (0, .ref 0), (1, .int x1), (2, .int x2)]) dX10_orders_67 (by decide) rfl ?_
              refine mw_iconst dX10_orders_69 ki_m1 ?_
              refine mw_istore (ls' := [(6, .int (-1)), (5, .int 0), (4, .int 0), (3, .int v221), (0, .ref 0), (1, .int x1), (2, .int x2)]) dX10_orders_70 (by decide) rfl ?_
              refine mw_iload_n dX10_orders_72 rfl 5 rfl ?_
              refine mw_if_ne (tgt := 80) dX10_orders_73 (by decide) (fun q227 => ?_) (fun q227 => ?_)
              · skip
                refine mw_iload_n dX10_orders_80 rfl 3 rfl ?_
                refine mw_bipush dX10_orders_81 kb_10 ?_
                refine mw_idiv dX10_orders_83 (bd_ne0 n_10 (by decide)) (fun v228 ev228 => ?_)
                have b229 : mm_b (10) (10) v228 := bd_div ev228 b222 n_10 (by decide)
                refine mw_istore (ls' := [(7, .int v228), (6, .int (-1)), (5, .int 0), (4, .int 0), (3, .int v221), (0, .ref 0), (1, .int x1), (2, .int x2)]) dX10_orders_84 (by decide) rfl ?_
                have cut86 : ∀ (N86 : Nat) (S230 : mm_S) (y233 y235 y237 y239 y241 : Int32), ((10001 : Int) - y241.toInt).toNat < N86 → JM S230 → fr [4] [] true true S S230 → mm_b (10) (10000) y233 → mm_b (-2147483648) (2147483647) y235 → mm_b (-2147483648) (2147483647) y237 → mm_b (-1) (9999) y239 → mm_b (1) (10000) y241 → F_X10_orders_c S x1 x2 = F_X10_orders_c_L86 x2 x1 N86 S230 y233 y235 y237 y239 y241 → mw g RX10 cX10_orders 8 (some .int) false (mm_rm 5) (qi shM (fun S1 v => JM S1 ∧ fr [4] [] true true S S1 ∧ mm_b (-2147483648) (2147483647) v ∧ (True) ∧ F_X10_orders_c S x1 x2 = (v, S1))) 0 0 (mm_enc shM S230) 86 [(0, .ref 0), (1, .int x1), (2, .int x2), (3, .int y233), (4, .int y235), (5, .int y237), (6, .int y239), (7, .int y241)] [] := by
                  intro N86
                  induction N86 with
                  | zero =>
                    intro S230 y233 y235 y237 y239 y241 hm243 hI231 hF232 b234 b236 b238 b240 b242 hE244
                    exact absurd hm243 (Nat.not_lt_zero _)
                  | succ N86 ih86 =>
                    intro S230 y233 y235 y237 y239 y241 hm243 hI231 hF232 b234 b236 b238 b240 b242 hE244
                    refine mw_iload dX10_orders_86 7 rfl ?_
                    refine mw_iload_n dX10_orders_88 rfl 3 rfl ?_
                    refine mw_icmp_ge (tgt := 150) dX10_orders_89 (by decide) (fun q245 => ?_) (fun q245 => ?_)
                    · skip
                      have b246 : mm_b (10) (10000) y241 := bd_le_r q245 b234 b242 (by decide)
                      refine mw_iload_n dX10_orders_150 rfl 2 rfl ?_
                      refine mw_bipush dX10_orders_151 kb_m2 ?_
                      refine mw_icmp_ne (tgt := 175) dX10_orders_153 (by decide) (fun q247 => ?_) (fun q247 => ?_)
                      · skip
                        refine mw_iload_n dX10_orders_175 rfl 2 rfl ?_
                        refine mw_iconst dX10_orders_176 ki_m1 ?_
                        refine mw_icmp_ne (tgt := 185) dX10_orders_177 (by decide) (fun q248 => ?_) (fun q248 => ?_)
                        · skip
                          refine mw_iload dX10_orders_185 6 rfl ?_
                          exact mw_iret rfl dX10_orders_187 rfl rfl ⟨S230, _, rfl, rfl, hI231, hF232, bd_w b240 (by decide), trivial, (by exact hE244.trans (by rw [F_X10_orders_c_L86, if_pos q245, if_neg q247, if_neg q248]))⟩
                        · skip
                          have b249 : mm_b (-1) (-1) x2 := bd_eq_l q248 (bd_all x2) n_m1 (by decide)
                          refine mw_iload dX10_orders_180 4 rfl ?_
                          refine mw_goto (tgt := 187) dX10_orders_182 (by decide) ?_
                          exact mw_iret rfl dX10_orders_187 rfl rfl ⟨S230, _, rfl, rfl, hI231, hF232, b236, trivial, (by exact hE244.trans (by rw [F_X10_orders_c_L86, if_pos q245, if_neg q247, if_pos q248]))⟩
                      · skip
                        have b250 : mm_b (-2) (-2) x2 := bd_eq_l q247 (bd_all x2) n_m2 (by decide)
                        refine mw_iload dX10_orders_156 5 rfl ?_
                        refine tc_Si (as := [.int y237]) (st := []) dX10_orders_158 rfl mX10_241 t_X10_bits rfl (Nat.le_of_ble_eq_true rfl) (by decide) (by decide) (cx_X10_bits (g := g) S230 hI231 y237) (fun S251 v253 h252 => ?_)
                        obtain ⟨rfl, b254, x255, hx256⟩ := h252
                        refine mw_iconst dX10_orders_161 ki_1 ?_
                        refine mw_icmp_ne (tgt := 173) dX10_orders_162 (by decide) (fun q257 => ?_) (fun q257 => ?_)
                        · skip
                          refine mw_iconst dX10_orders_173 ki_m1 ?_
                          exact mw_iret rfl dX10_orders_174 rfl rfl ⟨S230, _, rfl, rfl, hI231, hF232, bd_w n_m1 (by decide), trivial, (by (try subst hx256); exact hE244.trans (by rw [F_X10_orders_c_L86, if_pos q245, if_pos q247, if_neg q257]))⟩
                        · skip
                          have b258 : mm_b (1) (1) v253 := bd_eq_l q257 b254 n_1 (by decide)
                          refine mw_iload dX10_orders_165 5 rfl ?_
                          refine tc_Si (as := [.int y237]) (st := []) dX10_orders_167 rfl mX10_195 t_X10_leastOf rfl (Nat.le_of_ble_eq_true rfl) (by decide) (by decide) (cx_X10_leastOf (g := g) S230 hI231 y237) (fun S259 v261 h260 => ?_)
                          obtain ⟨rfl, b262, x263, hx264⟩ := h260
                          refine mw_goto (tgt := 174) dX10_orders_170 (by decide) ?_
                          exact mw_iret rfl dX10_orders_174 rfl rfl ⟨S230, _, rfl, rfl, hI231, hF232, bd_w b262 (by decide), trivial, (by (try subst hx264); (try subst hx256); exact hE244.trans (by rw [F_X10_orders_c_L86, if_pos q245, if_pos q247, if_pos q257]))⟩
                    · skip
                      have b265 : mm_b (1) (9999) y241 := bd_lt_l (bd_nle q245) b242 b234 (by decide)
                      refine mw_aload_n dX10_orders_92 rfl 0 rfl ?_
                      refine mw_iload dX10_orders_93 7 rfl ?_
                      refine mw_iload_n dX10_orders_95 rfl 1 rfl ?_
                      refine tc_Vi (as := [.int y241, .int x1]) (st := []) dX10_orders_96 rfl shM_0 rfl rfl mX10_277 t_X10_isSo rfl (Nat.le_of_ble_eq_true rfl) (by decide) (by decide) (cx_X10_isSo (g := g) S230 hI231 y241 (bd_w b265 (by decide)) x1 (bd_w b110 (by decide))) (fun S266 v268 h267 => ?_)
                      obtain ⟨hI273, hf274, b269, x270, hx271⟩ := h267
                      have hF275 := fr_tr hF232 hf274 (by decide) (by decide) (by decide) (by decide)
                      have hE276 : F_X10_orders_c S x1 x2 = F_X10_orders_c_L86fc99 v268 (F_X10_orders_c_L86 x2 x1 N86) S266 y233 y235 y237 y239 y241 x2 := (by exact hE244.trans (by rw [F_X10_orders_c_L86, if_neg q245, hx271]))
                      refine mw_if_eq (tgt := 144) dX10_orders_99 (by decide) (fun q277 => ?_) (fun q277 => ?_)
                      · skip
                        have b278 : mm_b (0) (0) v268 := bd_eq_l q277 b269 n_0 (by decide)
                        refine mw_iinc (ls' := fun v => [(7, .int v), (0, .ref 0), (1, .int x1), (2, .int x2), (3, .int y233), (4, .int y235), (5, .int y237), (6, .int y239)]) dX10_orders_144 7 rfl (by decide) (fun _ => rfl) (fun v279 ev279 => ?_)
                        have b280 : mm_b (2) (10000) v279 := bd_inc ev279 b265 (by decide)
                        refine mw_goto (tgt := 86) dX10_orders_147 (by decide) ?_
                        refine mw_ls [1, 2, 3, 4, 5, 6, 7, 0] rfl ?_
                        exact ih86 S266 y233 y235 y237 y239 v279 (ms_inc ev279 b265 (by decide) hm243) hI273 hF275 b234 b236 b238 b240 (bd_w b280 (by decide)) (by (try subst ev279); exact hE276.trans (by rw [F_X10_orders_c_L86fc99, if_pos q277]))
                      · skip
                        have b281 : mm_b (1) (1) v268 := bd_ne_l q277 b269 n_0 (by decide)
                        refine mw_iload dX10_orders_102 4 rfl ?_
                        refine mw_iload_n dX10_orders_104 rfl 2 rfl ?_
                        refine mw_icmp_ne (tgt := 113) dX10_orders_105 (by decide) (fun q282 => ?_) (fun q282 => ?_)
                        · skip
                          refine mw_iload dX10_orders_113 6 rfl ?_
                          refine mw_istore (ls' := [(6, .int y239), (0, .ref 0), (1, .int x1), (2, .int x2), (3, .int y233), (4, .int y235), (5, .int y237), (7, .int y241)]) dX10_orders_115 (by decide) rfl ?_
                          refine mw_iload dX10_orders_117 6 rfl ?_
                          refine mw_iload_n dX10_orders_119 rfl 2 rfl ?_
                          refine mw_if_ne (tgt := 127) dX10_orders_120 (by decide) (fun q283 => ?_) (fun q283 => ?_)
                          · skip
                            refine mw_iconst dX10_orders_127 ki_1 ?_
                            refine mw_iload dX10_orders_128 7 rfl ?_
                            refine mw_iload_n dX10_orders_130 rfl 4 rfl ?_
                            refine mw_bipush dX10_orders_131 kb_10 ?_
                            refine mw_idiv dX10_orders_133 (bd_ne0 n_10 (by decide)) (fun v284 ev284 => ?_)
                            have b285 : mm_b (1) (1000) v284 := bd_div ev284 b234 n_10 (by decide)
                            refine mw_idiv dX10_orders_134 (bd_ne0 b285 (by decide)) (fun v286 ev286 => ?_)
                            have b287 : mm_b (0) (9999) v286 := bd_div ev286 b265 b285 (by decide)
                            refine mw_iconst dX10_orders_135 ki_1 ?_
                            refine mw_isub dX10_orders_136 (fun v288 ev288 => ?_)
                            have b289 : mm_b (-1) (9998) v288 := bd_sub ev288 b287 n_1 (by decide)
                            refine mw_ishl dX10_orders_137 (fun v290 ev290 => ?_)
                            refine mw_ior dX10_orders_138 (fun v291 ev291 => ?_)
                            refine mw_istore (ls' := [(5, .int v291), (6, .int y239), (0, .ref 0), (1, .int x1), (2, .int x2), (3, .int y233), (4, .int y235), (7, .int y241)]) dX10_orders_139 (by decide) rfl ?_
                            refine mw_iinc (ls' := fun v => [(4, .int v), (5, .int v291), (6, .int y239), (0, .ref 0), (1, .int x1), (2, .int x2), (3, .int y233), (7, .int y241)]) dX10_orders_141 6 rfl (by decide) (fun _ => rfl) (fun v292 ev292 => ?_)
                            refine mw_iinc (ls' := fun v => [(7, .int v), (4, .int v292), (5, .int v291), (6, .int y239), (0, .ref 0), (1, .int x1), (2, .int x2), (3, .int y233)]) dX10_orders_144 7 rfl (by decide) (fun _ => rfl) (fun v293 ev293 => ?_)
                            have b294 : mm_b (2) (10000) v293 := bd_inc ev293 b265 (by decide)
                            refine mw_goto (tgt := 86) dX10_orders_147 (by decide) ?_
                            refine mw_ls [4, 5, 6, 7, 1, 2, 3, 0] rfl ?_
                            exact ih86 S266 y233 v292 v291 y239 v293 (ms_inc ev293 b265 (by decide) hm243) hI273 hF275 b234 (bd_all v292) (bd_all v291) b240 (bd_w b294 (by decide)) (by (try subst ev293); (try subst ev292); (try subst ev291); (try subst ev290); (try subst ev288); (try subst ev286); (try subst ev284); exact hE276.trans (by rw [F_X10_orders_c_L86fc99, if_neg q277, if_neg q282]))
                          · skip
                            exact bd_feq q283 b110 n_0 (by decide)
                        · skip
                          refine mw_iload dX10_orders_108 7 rfl ?_
                          refine mw_goto (tgt := 115) dX10_orders_110 (by decide) ?_
                          refine mw_istore (ls' := [(6, .int y241), (0, .ref 0), (1, .int x1), (2, .int x2), (3, .int y233), (4, .int y235), (5, .int y237), (7, .int y241)]) dX10_orders_115 (by decide) rfl ?_
                          refine mw_iload dX10_orders_117 6 rfl ?_
                          refine mw_iload_n dX10_orders_119 rfl 2 rfl ?_
                          refine mw_if_ne (tgt := 127) dX10_orders_120 (by decide) (fun q295 => ?_) (fun q295 => ?_)
                          · skip
                            refine mw_iconst dX10_orders_127 ki_1 ?_
                            refine mw_iload dX10_orders_128 7 rfl ?_
                            refine mw_iload_n dX10_orders_130 rfl 4 rfl ?_
                            refine mw_bipush dX10_orders_131 kb_10 ?_
                            refine mw_idiv dX10_orders_133 (bd_ne0 n_10 (by decide)) (fun v296 ev296 => ?_)
                            have b297 : mm_b (1) (1000) v296 := bd_div ev296 b234 n_10 (by decide)
                            refine mw_idiv dX10_orders_134 (bd_ne0 b297 (by decide)) (fun v298 ev298 => ?_)
                            have b299 : mm_b (0) (9999) v298 := bd_div ev298 b265 b297 (by decide)
                            refine mw_iconst dX10_orders_135 ki_1 ?_
                            refine mw_isub dX10_orders_136 (fun v300 ev300 => ?_)
                            have b301 : mm_b (-1) (9998) v300 := bd_sub ev300 b299 n_1 (by decide)
                            refine mw_ishl dX10_orders_137 (fun v302 ev302 => ?_)
                            refine mw_ior dX10_orders_138 (fun v303 ev303 => ?_)
                            refine mw_istore (ls' := [(5, .int v303), (6, .int y241), (0, .ref 0), (1, .int x1), (2, .int x2), (3, .int y233), (4, .int y235), (7, .int y241)]) dX10_orders_139 (by decide) rfl ?_
                            refine mw_iinc (ls' := fun v => [(4, .int v), (5, .int v303), (6, .int y241), (0, .ref 0), (1, .int x1), (2, .int x2), (3, .int y233), (7, .int y241)]) dX10_orders_141 6 rfl (by decide) (fun _ => rfl) (fun v304 ev304 => ?_)
                            refine mw_iinc (ls' := fun v => [(7, .int v), (4, .int v304), (5, .int v303), (6, .int y241), (0, .ref 0), (1, .int x1), (2, .int x2), (3, .int y233)]) dX10_orders_144 7 rfl (by decide) (fun _ => rfl) (fun v305 ev305 => ?_)
                            have b306 : mm_b (2) (10000) v305 := bd_inc ev305 b265 (by decide)
                            refine mw_goto (tgt := 86) dX10_orders_147 (by decide) ?_
                            refine mw_ls [4, 5, 6, 7, 1, 2, 3, 0] rfl ?_
                            exact ih86 S266 y233 v304 v303 y241 v305 (ms_inc ev305 b265 (by decide) hm243) hI273 hF275 b234 (bd_all v304) (bd_all v303) (bd_w b265 (by decide)) (bd_w b306 (by decide)) (by (try subst ev305); (try subst ev304); (try subst ev303); (try subst ev302); (try subst ev300); (try subst ev298); (try subst ev296); exact hE276.trans (by rw [F_X10_orders_c_L86fc99, if_neg q277, if_pos q282]))
                          · skip
                            exact bd_feq q295 b110 n_0 (by decide)
                refine mw_ls [5, 6, 7, 4, 3, 2, 1, 0] rfl ?_
                exact cut86 10001 S v221 (0 : Int32) (0 : Int32) (-1 : Int32) v228 (by have hz := b229; omega) hI hF (bd_w b222 (by decide)) (bd_w n_0 (by decide)) (bd_w n_0 (by decide)) (bd_w n_m1 (by decide)) (bd_w b229 (by decide)) (by (try subst ev228); (try subst ev223); (try subst ev221); (try subst ev136); (try subst ev134); (try subst hx132); (try subst ev123); (try subst ev122); (try subst ev120); (try subst hx116); (try subst hx106); rw [F_X10_orders_c, if_neg q107, if_pos q118, if_pos q125, if_neg q138, if_pos q225])
              · skip
                exact bd_feq q227 b110 n_0 (by decide)
            · skip
              have b307 : mm_b (1) (2) v223 := bd_lt_r (bd_nle q225) n_0 b224 (by decide)
              refine mw_iload_n dX10_orders_52 rfl 1 rfl ?_
              refine mw_bipush dX10_orders_53 kb_10 ?_
              refine mw_imul dX10_orders_55 (fun v308 ev308 => ?_)
              have b309 : mm_b (1000) (1000) v308 := bd_mul ev308 b222 n_10 (by decide)
              refine mw_istore_n (ls' := [(3, .int v308), (4, .int v223), (0, .ref 0), (1, .int x1), (2, .int x2)]) dX10_orders_56 rfl (by decide) rfl ?_
              refine mw_iinc (ls' := fun v => [(4, .int v), (3, .int v308), (0, .ref 0), (1, .int x1), (2, .int x2)]) dX10_orders_57 1 rfl (by decide) (fun _ => rfl) (fun v310 ev310 => ?_)
              have b311 : mm_b (0) (1) v310 := bd_inc ev310 b307 (by decide)
              refine mw_goto (tgt := 47) dX10_orders_60 (by decide) ?_
              refine mw_iload dX10_orders_47 0 rfl ?_
              refine mw_if_le (tgt := 63) dX10_orders_49 (by decide) (fun q312 => ?_) (fun q312 => ?_)
              · skip
                have b313 : mm_b (0) (0) v310 := bd_le_l q312 b311 n_0 (by decide)
                refine mw_iconst dX10_orders_63 ki_0 ?_
                refine mw_istore (ls' := [(4, .int 0), (3, .int v308), (0, .ref 0), (1, .int x1), (2, .int x2)]) dX10_orders_64 (by decide) rfl ?_
                refine mw_iconst dX10_orders_66 ki_0 ?_
                refine mw_istore (ls' := [(5, .int 0), (4, .int 0), (3, .int v308), (0, .ref 0), (1, .int x1), (2, .int x2)]) dX10_orders_67 (by decide) rfl ?_
                refine mw_iconst dX10_orders_69 ki_m1 ?_
                refine mw_istore (ls' := [(6, .int (-1)), (5, .int 0), (4, .int 0), (3, .int v308), (0, .ref 0), (1, .int x1), (2, .int x2)]) dX10_orders_70 (by decide) rfl ?_
                refine mw_iload_n dX10_orders_72 rfl 5 rfl ?_
                refine mw_if_ne (tgt := 80) dX10_orders_73 (by decide) (fun q314 => ?_) (fun q314 => ?_)
                · skip
                  refine mw_iload_n dX10_orders_80 rfl 3 rfl ?_
                  refine mw_bipush dX10_orders_81 kb_10 ?_
                  refine mw_idiv dX10_orders_83 (bd_ne0 n_10 (by decide)) (fun v315 ev315 => ?_)
                  have b316 : mm_b (100) (100) v315 := bd_div ev315 b309 n_10 (by decide)
                  refine mw_istore (ls' := [(7, .int v315), (6, .int (-1)), (5, .int 0), (4, .int 0), (3, .int v308), (0, .ref 0), (1, .int x1), (2, .int x2)]) dX10_orders_84 (by decide) rfl ?_
                  have cut86 : ∀ (N86 : Nat) (S317 : mm_S) (y320 y322 y324 y326 y328 : Int32), ((10001 : Int) - y328.toInt).toNat < N86 → JM S317 → fr [4] [] true true S S317 → mm_b (10) (10000) y320 → mm_b (-2147483648) (2147483647) y322 → mm_b (-2147483648) (2147483647) y324 → mm_b (-1) (9999) y326 → mm_b (1) (10000) y328 → F_X10_orders_c S x1 x2 = F_X10_orders_c_L86 x2 x1 N86 S317 y320 y322 y324 y326 y328 → mw g RX10 cX10_orders 8 (some .int) false (mm_rm 5) (qi shM (fun S1 v => JM S1 ∧ fr [4] [] true true S S1 ∧ mm_b (-2147483648) (2147483647) v ∧ (True) ∧ F_X10_orders_c S x1 x2 = (v, S1))) 0 0 (mm_enc shM S317) 86 [(0, .ref 0), (1, .int x1), (2, .int x2), (3, .int y320), (4, .int y322), (5, .int y324), (6, .int y326), (7, .int y328)] [] := by
                    intro N86
                    induction N86 with
                    | zero =>
                      intro S317 y320 y322 y324 y326 y328 hm330 hI318 hF319 b321 b323 b325 b327 b329 hE331
                      exact absurd hm330 (Nat.not_lt_zero _)
                    | succ N86 ih86 =>
                      intro S317 y320 y322 y324 y326 y328 hm330 hI318 hF319 b321 b323 b325 b327 b329 hE331
                      refine mw_iload dX10_orders_86 7 rfl ?_
                      refine mw_iload_n dX10_orders_88 rfl 3 rfl ?_
                      refine mw_icmp_ge (tgt := 150) dX10_orders_89 (by decide) (fun q332 => ?_) (fun q332 => ?_)
                      · skip
                        have b333 : mm_b (10) (10000) y328 := bd_le_r q332 b321 b329 (by decide)
                        refine mw_iload_n dX10_orders_150 rfl 2 rfl ?_
                        refine mw_bipush dX10_orders_151 kb_m2 ?_
                        refine mw_icmp_ne (tgt := 175) dX10_orders_153 (by decide) (fun q334 => ?_) (fun q334 => ?_)
                        · skip
                          refine mw_iload_n dX10_orders_175 rfl 2 rfl ?_
                          refine mw_iconst dX10_orders_176 ki_m1 ?_
                          refine mw_icmp_ne (tgt := 185) dX10_orders_177 (by decide) (fun q335 => ?_) (fun q335 => ?_)
                          · skip
                            refine mw_iload dX10_orders_185 6 rfl ?_
                            exact mw_iret rfl dX10_orders_187 rfl rfl ⟨S317, _, rfl, rfl, hI318, hF319, bd_w b327 (by decide), trivial, (by exact hE331.trans (by rw [F_X10_orders_c_L86, if_pos q332, if_neg q334, if_neg q335]))⟩
                          · skip
                            have b336 : mm_b (-1) (-1) x2 := bd_eq_l q335 (bd_all x2) n_m1 (by decide)
                            refine mw_iload dX10_orders_180 4 rfl ?_
                            refine mw_goto (tgt := 187) dX10_orders_182 (by decide) ?_
                            exact mw_iret rfl dX10_orders_187 rfl rfl ⟨S317, _, rfl, rfl, hI318, hF319, b323, trivial, (by exact hE331.trans (by rw [F_X10_orders_c_L86, if_pos q332, if_neg q334, if_pos q335]))⟩
                        · skip
                          have b337 : mm_b (-2) (-2) x2 := bd_eq_l q334 (bd_all x2) n_m2 (by decide)
                          refine mw_iload dX10_orders_156 5 rfl ?_
                          refine tc_Si (as := [.int y324]) (st := []) dX10_orders_158 rfl mX10_241 t_X10_bits rfl (Nat.le_of_ble_eq_true rfl) (by decide) (by decide) (cx_X10_bits (g := g) S317 hI318 y324) (fun S338 v340 h339 => ?_)
                          obtain ⟨rfl, b341, x342, hx343⟩ := h339
                          refine mw_iconst dX10_orders_161 ki_1 ?_
                          refine mw_icmp_ne (tgt := 173) dX10_orders_162 (by decide) (fun q344 => ?_) (fun q344 => ?_)
                          · skip
                            refine mw_iconst dX10_orders_173 ki_m1 ?_
                            exact mw_iret rfl dX10_orders_174 rfl rfl ⟨S317, _, rfl, rfl, hI318, hF319, bd_w n_m1 (by decide), trivial, (by (try subst hx343); exact hE331.trans (by rw [F_X10_orders_c_L86, if_pos q332, if_pos q334, if_neg q344]))⟩
                          · skip
                            have b345 : mm_b (1) (1) v340 := bd_eq_l q344 b341 n_1 (by decide)
                            refine mw_iload dX10_orders_165 5 rfl ?_
                            refine tc_Si (as := [.int y324]) (st := []) dX10_orders_167 rfl mX10_195 t_X10_leastOf rfl (Nat.le_of_ble_eq_true rfl) (by decide) (by decide) (cx_X10_leastOf (g := g) S317 hI318 y324) (fun S346 v348 h347 => ?_)
                            obtain ⟨rfl, b349, x350, hx351⟩ := h347
                            refine mw_goto (tgt := 174) dX10_orders_170 (by decide) ?_
                            exact mw_iret rfl dX10_orders_174 rfl rfl ⟨S317, _, rfl, rfl, hI318, hF319, bd_w b349 (by decide), trivial, (by (try subst hx351); (try subst hx343); exact hE331.trans (by rw [F_X10_orders_c_L86, if_pos q332, if_pos q334, if_pos q344]))⟩
                      · skip
                        have b352 : mm_b (1) (9999) y328 := bd_lt_l (bd_nle q332) b329 b321 (by decide)
                        refine mw_aload_n dX10_orders_92 rfl 0 rfl ?_
                        refine mw_iload dX10_orders_93 7 rfl ?_
                        refine mw_iload_n dX10_orders_95 rfl 1 rfl ?_
                        refine tc_Vi (as := [.int y328, .int x1]) (st := []) dX10_orders_96 rfl shM_0 rfl rfl mX10_277 t_X10_isSo rfl (Nat.le_of_ble_eq_true rfl) (by decide) (by decide) (cx_X10_isSo (g := g) S317 hI318 y328 (bd_w b352 (by decide)) x1 (bd_w b110 (by decide))) (fun S353 v355 h354 => ?_)
                        obtain ⟨hI360, hf361, b356, x357, hx358⟩ := h354
                        have hF362 := fr_tr hF319 hf361 (by decide) (by decide) (by decide) (by decide)
                        have hE363 : F_X10_orders_c S x1 x2 = F_X10_orders_c_L86fc99 v355 (F_X10_orders_c_L86 x2 x1 N86) S353 y320 y322 y324 y326 y328 x2 := (by exact hE331.trans (by rw [F_X10_orders_c_L86, if_neg q332, hx358]))
                        refine mw_if_eq (tgt := 144) dX10_orders_99 (by decide) (fun q364 => ?_) (fun q364 => ?_)
                        · skip
                          have b365 : mm_b (0) (0) v355 := bd_eq_l q364 b356 n_0 (by decide)
                          refine mw_iinc (ls' := fun v => [(7, .int v), (0, .ref 0), (1, .int x1), (2, .int x2), (3, .int y320), (4, .int y322), (5, .int y324), (6, .int y326)]) dX10_orders_144 7 rfl (by decide) (fun _ => rfl) (fun v366 ev366 => ?_)
                          have b367 : mm_b (2) (10000) v366 := bd_inc ev366 b352 (by decide)
                          refine mw_goto (tgt := 86) dX10_orders_147 (by decide) ?_
                          refine mw_ls [1, 2, 3, 4, 5, 6, 7, 0] rfl ?_
                          exact ih86 S353 y320 y322 y324 y326 v366 (ms_inc ev366 b352 (by decide) hm330) hI360 hF362 b321 b323 b325 b327 (bd_w b367 (by decide)) (by (try subst ev366); exact hE363.trans (by rw [F_X10_orders_c_L86fc99, if_pos q364]))
                        · skip
                          have b368 : mm_b (1) (1) v355 := bd_ne_l q364 b356 n_0 (by decide)
                          refine mw_iload dX10_orders_102 4 rfl ?_
                          refine mw_iload_n dX10_orders_104 rfl 2 rfl ?_
                          refine mw_icmp_ne (tgt := 113) dX10_orders_105 (by decide) (fun q369 => ?_) (fun q369 => ?_)
                          · skip
                            refine mw_iload dX10_orders_113 6 rfl ?_
                            refine mw_istore (ls' := [(6, .int y326), (0, .ref 0), (1, .int x1), (2, .int x2), (3, .int y320), (4, .int y322), (5, .int y324), (7, .int y328)]) dX10_orders_115 (by decide) rfl ?_
                            refine mw_iload dX10_orders_117 6 rfl ?_
                            refine mw_iload_n dX10_orders_119 rfl 2 rfl ?_
                            refine mw_if_ne (tgt := 127) dX10_orders_120 (by decide) (fun q370 => ?_) (fun q370 => ?_)
                            · skip
                              refine mw_iconst dX10_orders_127 ki_1 ?_
                              refine mw_iload dX10_orders_128 7 rfl ?_
                              refine mw_iload_n dX10_orders_130 rfl 4 rfl ?_
                              refine mw_bipush dX10_orders_131 kb_10 ?_
                              refine mw_idiv dX10_orders_133 (bd_ne0 n_10 (by decide)) (fun v371 ev371 => ?_)
                              have b372 : mm_b (1) (1000) v371 := bd_div ev371 b321 n_10 (by decide)
                              refine mw_idiv dX10_orders_134 (bd_ne0 b372 (by decide)) (fun v373 ev373 => ?_)
                              have b374 : mm_b (0) (9999) v373 := bd_div ev373 b352 b372 (by decide)
                              refine mw_iconst dX10_orders_135 ki_1 ?_
                              refine mw_isub dX10_orders_136 (fun v375 ev375 => ?_)
                              have b376 : mm_b (-1) (9998) v375 := bd_sub ev375 b374 n_1 (by decide)
                              refine mw_ishl dX10_orders_137 (fun v377 ev377 => ?_)
                              refine mw_ior dX10_orders_138 (fun v378 ev378 => ?_)
                              refine mw_istore (ls' := [(5, .int v378), (6, .int y326), (0, .ref 0), (1, .int x1), (2, .int x2), (3, .int y320), (4, .int y322), (7, .int y328)]) dX10_orders_139 (by decide) rfl ?_
                              refine mw_iinc (ls' := fun v => [(4, .int v), (5, .int v378), (6, .int y326), (0, .ref 0), (1, .int x1), (2, .int x2), (3, .int y320), (7, .int y328)]) dX10_orders_141 6 rfl (by decide) (fun _ => rfl) (fun v379 ev379 => ?_)
                              refine mw_iinc (ls' := fun v => [(7, .int v), (4, .int v379), (5, .int v378), (6, .int y326), (0, .ref 0), (1, .int x1), (2, .int x2), (3, .int y320)]) dX10_orders_144 7 rfl (by decide) (fun _ => rfl) (fun v380 ev380 => ?_)
                              have b381 : mm_b (2) (10000) v380 := bd_inc ev380 b352 (by decide)
                              refine mw_goto (tgt := 86) dX10_orders_147 (by decide) ?_
                              refine mw_ls [4, 5, 6, 7, 1, 2, 3, 0] rfl ?_
                              exact ih86 S353 y320 v379 v378 y326 v380 (ms_inc ev380 b352 (by decide) hm330) hI360 hF362 b321 (bd_all v379) (bd_all v378) b327 (bd_w b381 (by decide)) (by (try subst ev380); (try subst ev379); (try subst ev378); (try subst ev377); (try subst ev375); (try subst ev373); (try subst ev371); exact hE363.trans (by rw [F_X10_orders_c_L86fc99, if_neg q364, if_neg q369]))
                            · skip
                              exact bd_feq q370 b110 n_0 (by decide)
                          · skip
                            refine mw_iload dX10_orders_108 7 rfl ?_
                            refine mw_goto (tgt := 115) dX10_orders_110 (by decide) ?_
                            refine mw_istore (ls' := [(6, .int y328), (0, .ref 0), (1, .int x1), (2, .int x2), (3, .int y320), (4, .int y322), (5, .int y324), (7, .int y328)]) dX10_orders_115 (by decide) rfl ?_
                            refine mw_iload dX10_orders_117 6 rfl ?_
                            refine mw_iload_n dX10_orders_119 rfl 2 rfl ?_
                            refine mw_if_ne (tgt := 127) dX10_orders_120 (by decide) (fun q382 => ?_) (fun q382 => ?_)
                            · skip
                              refine mw_iconst dX10_orders_127 ki_1 ?_
                              refine mw_iload dX10_orders_128 7 rfl ?_
                              refine mw_iload_n dX10_orders_130 rfl 4 rfl ?_
                              refine mw_bipush dX10_orders_131 kb_10 ?_
                              refine mw_idiv dX10_orders_133 (bd_ne0 n_10 (by decide)) (fun v383 ev383 => ?_)
                              have b384 : mm_b (1) (1000) v383 := bd_div ev383 b321 n_10 (by decide)
                              refine mw_idiv dX10_orders_134 (bd_ne0 b384 (by decide)) (fun v385 ev385 => ?_)
                              have b386 : mm_b (0) (9999) v385 := bd_div ev385 b352 b384 (by decide)
                              refine mw_iconst dX10_orders_135 ki_1 ?_
                              refine mw_isub dX10_orders_136 (fun v387 ev387 => ?_)
                              have b388 : mm_b (-1) (9998) v387 := bd_sub ev387 b386 n_1 (by decide)
                              refine mw_ishl dX10_orders_137 (fun v389 ev389 => ?_)
                              refine mw_ior dX10_orders_138 (fun v390 ev390 => ?_)
                              refine mw_istore (ls' := [(5, .int v390), (6, .int y328), (0, .ref 0), (1, .int x1), (2, .int x2), (3, .int y320), (4, .int y322), (7, .int y328)]) dX10_orders_139 (by decide) rfl ?_
                              refine mw_iinc (ls' := fun v => [(4, .int v), (5, .int v390), (6, .int y328), (0, .ref 0), (1, .int x1), (2, .int x2), (3, .int y320), (7, .int y328)]) dX10_orders_141 6 rfl (by decide) (fun _ => rfl) (fun v391 ev391 => ?_)
                              refine mw_iinc (ls' := fun v => [(7, .int v), (4, .int v391), (5, .int v390), (6, .int y328), (0, .ref 0), (1, .int x1), (2, .int x2), (3, .int y320)]) dX10_orders_144 7 rfl (by decide) (fun _ => rfl) (fun v392 ev392 => ?_)
                              have b393 : mm_b (2) (10000) v392 := bd_inc ev392 b352 (by decide)
                              refine mw_goto (tgt := 86) dX10_orders_147 (by decide) ?_
                              refine mw_ls [4, 5, 6, 7, 1, 2, 3, 0] rfl ?_
                              exact ih86 S353 y320 v391 v390 y328 v392 (ms_inc ev392 b352 (by decide) hm330) hI360 hF362 b321 (bd_all v391) (bd_all v390) (bd_w b352 (by decide)) (bd_w b393 (by decide)) (by (try subst ev392); (try subst ev391); (try subst ev390); (try subst ev389); (try subst ev387); (try subst ev385); (try subst ev383); exact hE363.trans (by rw [F_X10_orders_c_L86fc99, if_neg q364, if_pos q369]))
                            · skip
                              exact bd_feq q382 b110 n_0 (by decide)
                  refine mw_ls [5, 6, 7, 4, 3, 2, 1, 0] rfl ?_
                  exact cut86 10001 S v308 (0 : Int32) (0 : Int32) (-1 : Int32) v315 (by have hz := b316; omega) hI hF (bd_w b309 (by decide)) (bd_w n_0 (by decide)) (bd_w n_0 (by decide)) (bd_w n_m1 (by decide)) (bd_w b316 (by decide)) (by (try subst ev315); (try subst ev310); (try subst ev308); (try subst ev223); (try subst ev221); (try subst ev136); (try subst ev134); (try subst hx132); (try subst ev123); (try subst ev122); (try subst ev120); (try subst hx116); (try subst hx106); rw [F_X10_orders_c, if_neg q107, if_pos q118, if_pos q125, if_neg q138, if_neg q225, if_pos q312])
                · skip
                  exact bd_feq q314 b110 n_0 (by decide)
              · skip
                have b394 : mm_b (1) (1) v310 := bd_lt_r (bd_nle q312) n_0 b311 (by decide)
                refine mw_iload_n dX10_orders_52 rfl 1 rfl ?_
                refine mw_bipush dX10_orders_53 kb_10 ?_
                refine mw_imul dX10_orders_55 (fun v395 ev395 => ?_)
                have b396 : mm_b (10000) (10000) v395 := bd_mul ev395 b309 n_10 (by decide)
                refine mw_istore_n (ls' := [(3, .int v395), (4, .int v310), (0, .ref 0), (1, .int x1), (2, .int x2)]) dX10_orders_56 rfl (by decide) rfl ?_
                refine mw_iinc (ls' := fun v => [(4, .int v), (3, .int v395), (0, .ref 0), (1, .int x1), (2, .int x2)]) dX10_orders_57 1 rfl (by decide) (fun _ => rfl) (fun v397 ev397 => ?_)
                have b398 : mm_b (0) (0) v397 := bd_inc ev397 b394 (by decide)
                refine mw_goto (tgt := 47) dX10_orders_60 (by decide) ?_
                refine mw_iload dX10_orders_47 0 rfl ?_
                refine mw_if_le (tgt := 63) dX10_orders_49 (by decide) (fun q399 => ?_) (fun q399 => ?_)
                · skip
                  refine mw_iconst dX10_orders_63 ki_0 ?_
                  refine mw_istore (ls' := [(4, .int 0), (3, .int v395), (0, .ref 0), (1, .int x1), (2, .int x2)]) dX10_orders_64 (by decide) rfl ?_
                  refine mw_iconst dX10_orders_66 ki_0 ?_
                  refine mw_istore (ls' := [(5, .int 0), (4, .int 0), (3, .int v395), (0, .ref 0), (1, .int x1), (2, .int x2)]) dX10_orders_67 (by decide) rfl ?_
                  refine mw_iconst dX10_orders_69 ki_m1 ?_
                  refine mw_istore (ls' := [(6, .int (-1)), (5, .int 0), (4, .int 0), (3, .int v395), (0, .ref 0), (1, .int x1), (2, .int x2)]) dX10_orders_70 (by decide) rfl ?_
                  refine mw_iload_n dX10_orders_72 rfl 5 rfl ?_
                  refine mw_if_ne (tgt := 80) dX10_orders_73 (by decide) (fun q400 => ?_) (fun q400 => ?_)
                  · skip
                    refine mw_iload_n dX10_orders_80 rfl 3 rfl ?_
                    refine mw_bipush dX10_orders_81 kb_10 ?_
                    refine mw_idiv dX10_orders_83 (bd_ne0 n_10 (by decide)) (fun v401 ev401 => ?_)
                    have b402 : mm_b (1000) (1000) v401 := bd_div ev401 b396 n_10 (by decide)
                    refine mw_istore (ls' := [(7, .int v401), (6, .int (-1)), (5, .int 0), (4, .int 0), (3, .int v395), (0, .ref 0), (1, .int x1), (2, .int x2)]) dX10_orders_84 (by decide) rfl ?_
                    have cut86 : ∀ (N86 : Nat) (S403 : mm_S) (y406 y408 y410 y412 y414 : Int32), ((10001 : Int) - y414.toInt).toNat < N86 → JM S403 → fr [4] [] true true S S403 → mm_b (10) (10000) y406 → mm_b (-2147483648) (2147483647) y408 → mm_b (-2147483648) (2147483647) y410 → mm_b (-1) (9999) y412 → mm_b (1) (10000) y414 → F_X10_orders_c S x1 x2 = F_X10_orders_c_L86 x2 x1 N86 S403 y406 y408 y410 y412 y414 → mw g RX10 cX10_orders 8 (some .int) false (mm_rm 5) (qi shM (fun S1 v => JM S1 ∧ fr [4] [] true true S S1 ∧ mm_b (-2147483648) (2147483647) v ∧ (True) ∧ F_X10_orders_c S x1 x2 = (v, S1))) 0 0 (mm_enc shM S403) 86 [(0, .ref 0), (1, .int x1), (2, .int x2), (3, .int y406), (4, .int y408), (5, .int y410), (6, .int y412), (7, .int y414)] [] := by
                      intro N86
                      induction N86 with
                      | zero =>
                        intro S403 y406 y408 y410 y412 y414 hm416 hI404 hF405 b407 b409 b411 b413 b415 hE417
                        exact absurd hm416 (Nat.not_lt_zero _)
                      | succ N86 ih86 =>
                        intro S403 y406 y408 y410 y412 y414 hm416 hI404 hF405 b407 b409 b411 b413 b415 hE417
                        refine mw_iload dX10_orders_86 7 rfl ?_
                        refine mw_iload_n dX10_orders_88 rfl 3 rfl ?_
                        refine mw_icmp_ge (tgt := 150) dX10_orders_89 (by decide) (fun q418 => ?_) (fun q418 => ?_)
                        · skip
                          have b419 : mm_b (10) (10000) y414 := bd_le_r q418 b407 b415 (by decide)
                          refine mw_iload_n dX10_orders_150 rfl 2 rfl ?_
                          refine mw_bipush dX10_orders_151 kb_m2 ?_
                          refine mw_icmp_ne (tgt := 175) dX10_orders_153 (by decide) (fun q420 => ?_) (fun q420 => ?_)
                          · skip
                            refine mw_iload_n dX10_orders_175 rfl 2 rfl ?_
                            refine mw_iconst dX10_orders_176 ki_m1 ?_
                            refine mw_icmp_ne (tgt := 185) dX10_orders_177 (by decide) (fun q421 => ?_) (fun q421 => ?_)
                            · skip
                              refine mw_iload dX10_orders_185 6 rfl ?_
                              exact mw_iret rfl dX10_orders_187 rfl rfl ⟨S403, _, rfl, rfl, hI404, hF405, bd_w b413 (by decide), trivial, (by exact hE417.trans (by rw [F_X10_orders_c_L86, if_pos q418, if_neg q420, if_neg q421]))⟩
                            · skip
                              have b422 : mm_b (-1) (-1) x2 := bd_eq_l q421 (bd_all x2) n_m1 (by decide)
                              refine mw_iload dX10_orders_180 4 rfl ?_
                              refine mw_goto (tgt := 187) dX10_orders_182 (by decide) ?_
                              exact mw_iret rfl dX10_orders_187 rfl rfl ⟨S403, _, rfl, rfl, hI404, hF405, b409, trivial, (by exact hE417.trans (by rw [F_X10_orders_c_L86, if_pos q418, if_neg q420, if_pos q421]))⟩
                          · skip
                            have b423 : mm_b (-2) (-2) x2 := bd_eq_l q420 (bd_all x2) n_m2 (by decide)
                            refine mw_iload dX10_orders_156 5 rfl ?_
                            refine tc_Si (as := [.int y410]) (st := []) dX10_orders_158 rfl mX10_241 t_X10_bits rfl (Nat.le_of_ble_eq_true rfl) (by decide) (by decide) (cx_X10_bits (g := g) S403 hI404 y410) (fun S424 v426 h425 => ?_)
                            obtain ⟨rfl, b427, x428, hx429⟩ := h425
                            refine mw_iconst dX10_orders_161 ki_1 ?_
                            refine mw_icmp_ne (tgt := 173) dX10_orders_162 (by decide) (fun q430 => ?_) (fun q430 => ?_)
                            · skip
                              refine mw_iconst dX10_orders_173 ki_m1 ?_
                              exact mw_iret rfl dX10_orders_174 rfl rfl ⟨S403, _, rfl, rfl, hI404, hF405, bd_w n_m1 (by decide), trivial, (by (try subst hx429); exact hE417.trans (by rw [F_X10_orders_c_L86, if_pos q418, if_pos q420, if_neg q430]))⟩
                            · skip
                              have b431 : mm_b (1) (1) v426 := bd_eq_l q430 b427 n_1 (by decide)
                              refine mw_iload dX10_orders_165 5 rfl ?_
                              refine tc_Si (as := [.int y410]) (st := []) dX10_orders_167 rfl mX10_195 t_X10_leastOf rfl (Nat.le_of_ble_eq_true rfl) (by decide) (by decide) (cx_X10_leastOf (g := g) S403 hI404 y410) (fun S432 v434 h433 => ?_)
                              obtain ⟨rfl, b435, x436, hx437⟩ := h433
                              refine mw_goto (tgt := 174) dX10_orders_170 (by decide) ?_
                              exact mw_iret rfl dX10_orders_174 rfl rfl ⟨S403, _, rfl, rfl, hI404, hF405, bd_w b435 (by decide), trivial, (by (try subst hx437); (try subst hx429); exact hE417.trans (by rw [F_X10_orders_c_L86, if_pos q418, if_pos q420, if_pos q430]))⟩
                        · skip
                          have b438 : mm_b (1) (9999) y414 := bd_lt_l (bd_nle q418) b415 b407 (by decide)
                          refine mw_aload_n dX10_orders_92 rfl 0 rfl ?_
                          refine mw_iload dX10_orders_93 7 rfl ?_
                          refine mw_iload_n dX10_orders_95 rfl 1 rfl ?_
                          refine tc_Vi (as := [.int y414, .int x1]) (st := []) dX10_orders_96 rfl shM_0 rfl rfl mX10_277 t_X10_isSo rfl (Nat.le_of_ble_eq_true rfl) (by decide) (by decide) (cx_X10_isSo (g := g) S403 hI404 y414 (bd_w b438 (by decide)) x1 (bd_w b110 (by decide))) (fun S439 v441 h440 => ?_)
                          obtain ⟨hI446, hf447, b442, x443, hx444⟩ := h440
                          have hF448 := fr_tr hF405 hf447 (by decide) (by decide) (by decide) (by decide)
                          have hE449 : F_X10_orders_c S x1 x2 = F_X10_orders_c_L86fc99 v441 (F_X10_orders_c_L86 x2 x1 N86) S439 y406 y408 y410 y412 y414 x2 := (by exact hE417.trans (by rw [F_X10_orders_c_L86, if_neg q418, hx444]))
                          refine mw_if_eq (tgt := 144) dX10_orders_99 (by decide) (fun q450 => ?_) (fun q450 => ?_)
                          · skip
                            have b451 : mm_b (0) (0) v441 := bd_eq_l q450 b442 n_0 (by decide)
                            refine mw_iinc (ls' := fun v => [(7, .int v), (0, .ref 0), (1, .int x1), (2, .int x2), (3, .int y406), (4, .int y408), (5, .int y410), (6, .int y412)]) dX10_orders_144 7 rfl (by decide) (fun _ => rfl) (fun v452 ev452 => ?_)
                            have b453 : mm_b (2) (10000) v452 := bd_inc ev452 b438 (by decide)
                            refine mw_goto (tgt := 86) dX10_orders_147 (by decide) ?_
                            refine mw_ls [1, 2, 3, 4, 5, 6, 7, 0] rfl ?_
                            exact ih86 S439 y406 y408 y410 y412 v452 (ms_inc ev452 b438 (by decide) hm416) hI446 hF448 b407 b409 b411 b413 (bd_w b453 (by decide)) (by (try subst ev452); exact hE449.trans (by rw [F_X10_orders_c_L86fc99, if_pos q450]))
                          · skip
                            have b454 : mm_b (1) (1) v441 := bd_ne_l q450 b442 n_0 (by decide)
                            refine mw_iload dX10_orders_102 4 rfl ?_
                            refine mw_iload_n dX10_orders_104 rfl 2 rfl ?_
                            refine mw_icmp_ne (tgt := 113) dX10_orders_105 (by decide) (fun q455 => ?_) (fun q455 => ?_)
                            · skip
                              refine mw_iload dX10_orders_113 6 rfl ?_
                              refine mw_istore (ls' := [(6, .int y412), (0, .ref 0), (1, .int x1), (2, .int x2), (3, .int y406), (4, .int y408), (5, .int y410), (7, .int y414)]) dX10_orders_115 (by decide) rfl ?_
                              refine mw_iload dX10_orders_117 6 rfl ?_
                              refine mw_iload_n dX10_orders_119 rfl 2 rfl ?_
                              refine mw_if_ne (tgt := 127) dX10_orders_120 (by decide) (fun q456 => ?_) (fun q456 => ?_)
                              · skip
                                refine mw_iconst dX10_orders_127 ki_1 ?_
                                refine mw_iload dX10_orders_128 7 rfl ?_
                                refine mw_iload_n dX10_orders_130 rfl 4 rfl ?_
                                refine mw_bipush dX10_orders_131 kb_10 ?_
                                refine mw_idiv dX10_orders_133 (bd_ne0 n_10 (by decide)) (fun v457 ev457 => ?_)
                                have b458 : mm_b (1) (1000) v457 := bd_div ev457 b407 n_10 (by decide)
                                refine mw_idiv dX10_orders_134 (bd_ne0 b458 (by decide)) (fun v459 ev459 => ?_)
                                have b460 : mm_b (0) (9999) v459 := bd_div ev459 b438 b458 (by decide)
                                refine mw_iconst dX10_orders_135 ki_1 ?_
                                refine mw_isub dX10_orders_136 (fun v461 ev461 => ?_)
                                have b462 : mm_b (-1) (9998) v461 := bd_sub ev461 b460 n_1 (by decide)
                                refine mw_ishl dX10_orders_137 (fun v463 ev463 => ?_)
                                refine mw_ior dX10_orders_138 (fun v464 ev464 => ?_)
                                refine mw_istore (ls' := [(5, .int v464), (6, .int y412), (0, .ref 0), (1, .int x1), (2, .int x2), (3, .int y406), (4, .int y408), (7, .int y414)]) dX10_orders_139 (by decide) rfl ?_
                                refine mw_iinc (ls' := fun v => [(4, .int v), (5, .int v464), (6, .int y412), (0, .ref 0), (1, .int x1), (2, .int x2), (3, .int y406), (7, .int y414)]) dX10_orders_141 6 rfl (by decide) (fun _ => rfl) (fun v465 ev465 => ?_)
                                refine mw_iinc (ls' := fun v => [(7, .int v), (4, .int v465), (5, .int v464), (6, .int y412), (0, .ref 0), (1, .int x1), (2, .int x2), (3, .int y406)]) dX10_orders_144 7 rfl (by decide) (fun _ => rfl) (fun v466 ev466 => ?_)
                                have b467 : mm_b (2) (10000) v466 := bd_inc ev466 b438 (by decide)
                                refine mw_goto (tgt := 86) dX10_orders_147 (by decide) ?_
                                refine mw_ls [4, 5, 6, 7, 1, 2, 3, 0] rfl ?_
                                exact ih86 S439 y406 v465 v464 y412 v466 (ms_inc ev466 b438 (by decide) hm416) hI446 hF448 b407 (bd_all v465) (bd_all v464) b413 (bd_w b467 (by decide)) (by (try subst ev466); (try subst ev465); (try subst ev464); (try subst ev463); (try subst ev461); (try subst ev459); (try subst ev457); exact hE449.trans (by rw [F_X10_orders_c_L86fc99, if_neg q450, if_neg q455]))
                              · skip
                                exact bd_feq q456 b110 n_0 (by decide)
                            · skip
                              refine mw_iload dX10_orders_108 7 rfl ?_
                              refine mw_goto (tgt := 115) dX10_orders_110 (by decide) ?_
                              refine mw_istore (ls' := [(6, .int y414), (0, .ref 0), (1, .int x1), (2, .int x2), (3, .int y406), (4, .int y408), (5, .int y410), (7, .int y414)]) dX10_orders_115 (by decide) rfl ?_
                              refine mw_iload dX10_orders_117 6 rfl ?_
                              refine mw_iload_n dX10_orders_119 rfl 2 rfl ?_
                              refine mw_if_ne (tgt := 127) dX10_orders_120 (by decide) (fun q468 => ?_) (fun q468 => ?_)
                              · skip
                                refine mw_iconst dX10_orders_127 ki_1 ?_
                                refine mw_iload dX10_orders_128 7 rfl ?_
                                refine mw_iload_n dX10_orders_130 rfl 4 rfl ?_
                                refine mw_bipush dX10_orders_131 kb_10 ?_
                                refine mw_idiv dX10_orders_133 (bd_ne0 n_10 (by decide)) (fun v469 ev469 => ?_)
                                have b470 : mm_b (1) (1000) v469 := bd_div ev469 b407 n_10 (by decide)
                                refine mw_idiv dX10_orders_134 (bd_ne0 b470 (by decide)) (fun v471 ev471 => ?_)
                                have b472 : mm_b (0) (9999) v471 := bd_div ev471 b438 b470 (by decide)
                                refine mw_iconst dX10_orders_135 ki_1 ?_
                                refine mw_isub dX10_orders_136 (fun v473 ev473 => ?_)
                                have b474 : mm_b (-1) (9998) v473 := bd_sub ev473 b472 n_1 (by decide)
                                refine mw_ishl dX10_orders_137 (fun v475 ev475 => ?_)
                                refine mw_ior dX10_orders_138 (fun v476 ev476 => ?_)
                                refine mw_istore (ls' := [(5, .int v476), (6, .int y414), (0, .ref 0), (1, .int x1), (2, .int x2), (3, .int y406), (4, .int y408), (7, .int y414)]) dX10_orders_139 (by decide) rfl ?_
                                refine mw_iinc (ls' := fun v => [(4, .int v), (5, .int v476), (6, .int y414), (0, .ref 0), (1, .int x1), (2, .int x2), (3, .int y406), (7, .int y414)]) dX10_orders_141 6 rfl (by decide) (fun _ => rfl) (fun v477 ev477 => ?_)
                                refine mw_iinc (ls' := fun v => [(7, .int v), (4, .int v477), (5, .int v476), (6, .int y414), (0, .ref 0), (1, .int x1), (2, .int x2), (3, .int y406)]) dX10_orders_144 7 rfl (by decide) (fun _ => rfl) (fun v478 ev478 => ?_)
                                have b479 : mm_b (2) (10000) v478 := bd_inc ev478 b438 (by decide)
                                refine mw_goto (tgt := 86) dX10_orders_147 (by decide) ?_
                                refine mw_ls [4, 5, 6, 7, 1, 2, 3, 0] rfl ?_
                                exact ih86 S439 y406 v477 v476 y414 v478 (ms_inc ev478 b438 (by decide) hm416) hI446 hF448 b407 (bd_all v477) (bd_all v476) (bd_w b438 (by decide)) (bd_w b479 (by decide)) (by (try subst ev478); (try subst ev477); (try subst ev476); (try subst ev475); (try subst ev473); (try subst ev471); (try subst ev469); exact hE449.trans (by rw [F_X10_orders_c_L86fc99, if_neg q450, if_pos q455]))
                              · skip
                                exact bd_feq q468 b110 n_0 (by decide)
                    refine mw_ls [5, 6, 7, 4, 3, 2, 1, 0] rfl ?_
                    exact cut86 10001 S v395 (0 : Int32) (0 : Int32) (-1 : Int32) v401 (by have hz := b402; omega) hI hF (bd_w b396 (by decide)) (bd_w n_0 (by decide)) (bd_w n_0 (by decide)) (bd_w n_m1 (by decide)) (bd_w b402 (by decide)) (by (try subst ev401); (try subst ev397); (try subst ev395); (try subst ev310); (try subst ev308); (try subst ev223); (try subst ev221); (try subst ev136); (try subst ev134); (try subst hx132); (try subst ev123); (try subst ev122); (try subst ev120); (try subst hx116); (try subst hx106); rw [F_X10_orders_c, if_neg q107, if_pos q118, if_pos q125, if_neg q138, if_neg q225, if_neg q312])
                  · skip
                    exact bd_feq q400 b110 n_0 (by decide)
                · skip
                  exact bd_flt (bd_nle q399) n_0 b398 (by decide)
      · skip
        have b480 : mm_b (1) (127) v123 := bd_ne_l q125 b124 n_0 (by decide)
        refine mw_ldc dX10_orders_36 kX10_187 ?_
        exact mw_iret rfl dX10_orders_38 rfl rfl ⟨S, _, rfl, rfl, hI, hF, bd_w n_m1000000003 (by decide), trivial, (by (try subst ev123); (try subst ev122); (try subst ev120); (try subst hx116); (try subst hx106); rw [F_X10_orders_c, if_neg q107, if_pos q118, if_neg q125])⟩
    · skip
      have b481 : mm_b (5) (7) v113 := bd_lt_r (bd_nle q118) n_4 b117 (by decide)
      refine mw_ldc dX10_orders_19 kX10_84 ?_
      exact mw_iret rfl dX10_orders_21 rfl rfl ⟨S, _, rfl, rfl, hI, hF, bd_w n_m1000000002 (by decide), trivial, (by (try subst hx116); (try subst hx106); rw [F_X10_orders_c, if_neg q107, if_neg q118])⟩
  · skip
    have b482 : mm_b (0) (0) v103 := bd_eq_l q107 b104 n_0 (by decide)
    refine mw_ldc dX10_orders_8 kX10_182 ?_
    exact mw_iret rfl dX10_orders_10 rfl rfl ⟨S, _, rfl, rfl, hI, hF, bd_w n_m1000000001 (by decide), trivial, (by (try subst hx106); rw [F_X10_orders_c, if_pos q107])⟩
def F_X10_orders_d (S : mm_S) (x1 : Int32) (x2 : Int32) : Int32 × mm_S := ((-1000000001 : Int32), S)
set_option maxRecDepth 100000 in
set_option maxHeartbeats 4000000 in
theorem cx_X10_orders_d {g : mm_G} (S : mm_S) (hI : JM S) (x1 : Int32) (h1 : mm_b (128) (2147483647) x1) (x2 : Int32) : mc g yX10_orders cX10_orders 8 (some .int) (mm_rm 5) [.ref 0, .int x1, .int x2] (mm_enc shM S) (qi shM (fun S1 v => JM S1 ∧ fr [] [] true true S S1 ∧ mm_b (-1000000001) (-1000000001) v ∧ (True) ∧ F_X10_orders_d S x1 x2 = (v, S1))) := by
  refine mc_of2 (own := RX10) (ini := false) (ls := [(0, .ref 0), (1, .int x1), (2, .int x2)]) (by decide) (Nat.le_of_ble_eq_true rfl) rfl (by decide) rfl ?_
  have hF : fr [] [] true true S S := fr_rf
  refine mw_aload_n dX10_orders_0 rfl 0 rfl ?_
  refine mw_iload_n dX10_orders_1 rfl 1 rfl ?_
  refine tc_Vi (as := [.int x1]) (st := []) dX10_orders_2 rfl shM_0 rfl rfl mX10_264 t_X10_isSet rfl (Nat.le_of_ble_eq_true rfl) (by decide) (by decide) (cx_X10_isSet (g := g) S hI x1) (fun S101 v103 h102 => ?_)
  obtain ⟨rfl, b104, x105, hx106⟩ := h102
  refine mw_if_ne (tgt := 11) dX10_orders_5 (by decide) (fun q107 => ?_) (fun q107 => ?_)
  · skip
    have b108 : mm_b (1) (1) v103 := bd_ne_l q107 b104 n_0 (by decide)
    have b109 := Or.resolve_left x105 q107
    exfalso
    have hz1 := h1
    have hz2 := b109
    omega
  · skip
    have b110 : mm_b (0) (0) v103 := bd_eq_l q107 b104 n_0 (by decide)
    refine mw_ldc dX10_orders_8 kX10_182 ?_
    exact mw_iret rfl dX10_orders_10 rfl rfl ⟨S, _, rfl, rfl, hI, hF, n_m1000000001, trivial, (by (try subst hx106); rw [F_X10_orders_d])⟩
def F_X10_orders (S : mm_S) (x1 : Int32) (x2 : Int32) : Int32 × mm_S := if x1.toInt ≤ -1 then F_X10_orders_a S x1 x2 else if x1.toInt ≤ 0 then F_X10_orders_b S x1 x2 else if x1.toInt ≤ 127 then F_X10_orders_c S x1 x2 else F_X10_orders_d S x1 x2
theorem cx_X10_orders {g : mm_G} (S : mm_S) (hI : JM S) (x1 x2 : Int32) : mc g yX10_orders cX10_orders 8 (some .int) (mm_rm 5) [.ref 0, .int x1, .int x2] (mm_enc shM S) (qi shM (fun S1 v => JM S1 ∧ fr [4] [] true true S S1 ∧ mm_b (-2147483648) (2147483647) v ∧ (True) ∧ F_X10_orders S x1 x2 = (v, S1))) := by
  have h := bd_all x1
  by_cases a : x1.toInt ≤ -1
  · exact mc_wk (cx_X10_orders_a S hI x1 ⟨h.1, a⟩ x2) (fun _ _ ⟨S1, v, q1, q2, q3⟩ => ⟨S1, v, q1, q2, q3.1, fr_up q3.2.1 (by decide) (by decide) (by decide) (by decide), bd_all v, trivial, by rw [F_X10_orders, if_pos a]; exact q3.2.2.2.2⟩)
  by_cases a1 : x1.toInt ≤ 0
  · exact mc_wk (cx_X10_orders_b S hI x1 ⟨by omega, a1⟩ x2) (fun _ _ ⟨S1, v, q1, q2, q3⟩ => ⟨S1, v, q1, q2, q3.1, q3.2.1, bd_all v, trivial, by rw [F_X10_orders, if_neg a, if_pos a1]; exact q3.2.2.2.2⟩)
  by_cases a2 : x1.toInt ≤ 127
  · exact mc_wk (cx_X10_orders_c S hI x1 ⟨by omega, a2⟩ x2) (fun _ _ ⟨S1, v, q1, q2, q3⟩ => ⟨S1, v, q1, q2, q3.1, q3.2.1, bd_all v, trivial, by rw [F_X10_orders, if_neg a, if_neg a1, if_pos a2]; exact q3.2.2.2.2⟩)
  · exact mc_wk (cx_X10_orders_d S hI x1 ⟨by omega, h.2⟩ x2) (fun _ _ ⟨S1, v, q1, q2, q3⟩ => ⟨S1, v, q1, q2, q3.1, fr_up q3.2.1 (by decide) (by decide) (by decide) (by decide), bd_all v, trivial, by rw [F_X10_orders, if_neg a, if_neg a1, if_neg a2]; exact q3.2.2.2.2⟩)
