def F_X10_isOrder_L15  : Nat → mm_S → Int32 → Int32 → Int32 → Int32
  | 0, S, _, _, _ => 0
  | N + 1, S, y103, y105, y107 => (if y107 ≤ (0 : Int32) then y105 else (if y105 = (0 : Int32) then y105 else (if (F_X10_isPerson S ((y107 - y107 / (10 : Int32) * (10 : Int32)) - (1 : Int32))) = (0 : Int32) then ((F_X10_isOrder_L15  N) S (y103 ||| (0 : Int32)) (0 : Int32) (y107 / (10 : Int32))) else (if (F_X10_isAlive S ((y107 - y107 / (10 : Int32) * (10 : Int32)) - (1 : Int32))) = (0 : Int32) then ((F_X10_isOrder_L15  N) S (y103 ||| (0 : Int32)) (0 : Int32) (y107 / (10 : Int32))) else (if (F_X10_isIn S y103 ((y107 - y107 / (10 : Int32) * (10 : Int32)) - (1 : Int32))) = (0 : Int32) then ((F_X10_isOrder_L15  N) S (y103 ||| ((1 : Int32) <<< (((y107 - y107 / (10 : Int32) * (10 : Int32)) - (1 : Int32)) &&& 31))) (1 : Int32) (y107 / (10 : Int32))) else ((F_X10_isOrder_L15  N) S (y103 ||| (0 : Int32)) (0 : Int32) (y107 / (10 : Int32))))))))
def F_X10_isOrder (S : mm_S) (x1 : Int32) : Int32 := (if x1 ≤ (0 : Int32) then (F_X10_isOrder_L15  2147483648 S (0 : Int32) (0 : Int32) x1) else (F_X10_isOrder_L15  2147483648 S (0 : Int32) (1 : Int32) x1))
set_option maxRecDepth 100000 in
set_option maxHeartbeats 4000000 in
theorem cx_X10_isOrder {g : mm_G} (S : mm_S) (hI : JM S) (x1 : Int32) : mc g yX10_isOrder cX10_isOrder 6 (some .boolean) (mm_rm 2) [.ref 0, .int x1] (mm_enc shM S) (qi shM (fun S1 v => S = S1 ∧ mm_b (0) (1) v ∧ (v = 0 ∨ dgZ x1) ∧ F_X10_isOrder S x1 = v)) := by
  refine mc_of2 (own := RX10) (ini := false) (ls := [(0, .ref 0), (1, .int x1)]) (by decide) (Nat.le_of_ble_eq_true rfl) rfl (by decide) rfl ?_
  refine mw_iconst dX10_isOrder_0 ki_0 ?_
  refine mw_istore_n (ls' := [(2, .int 0), (0, .ref 0), (1, .int x1)]) dX10_isOrder_1 rfl (by decide) rfl ?_
  refine mw_iload_n dX10_isOrder_2 rfl 2 rfl ?_
  refine mw_if_le (tgt := 10) dX10_isOrder_3 (by decide) (fun q101 => ?_) (fun q101 => ?_)
  · skip
    have b102 : mm_b (-2147483648) (0) x1 := bd_le_l q101 (bd_all x1) n_0 (by decide)
    refine mw_iconst dX10_isOrder_10 ki_0 ?_
    refine mw_istore_n (ls' := [(3, .int 0), (2, .int 0), (0, .ref 0), (1, .int x1)]) dX10_isOrder_11 rfl (by decide) rfl ?_
    refine mw_iload_n dX10_isOrder_12 rfl 3 rfl ?_
    refine mw_istore (ls' := [(4, .int x1), (3, .int 0), (2, .int 0), (0, .ref 0), (1, .int x1)]) dX10_isOrder_13 (by decide) rfl ?_
    have cut15 : ∀ (N15 : Nat) (y103 y105 y107 : Int32), y107.toInt.toNat < N15 → mm_b (0) (127) y103 → mm_b (0) (1) y105 → mm_b (-2147483648) (2147483647) y107 → y105 = 0 ∨ dgA x1 y107 → F_X10_isOrder S x1 = F_X10_isOrder_L15  N15 S y103 y105 y107 → mw g RX10 cX10_isOrder 6 (some .boolean) false (mm_rm 2) (qi shM (fun S1 v => S = S1 ∧ mm_b (0) (1) v ∧ (v = 0 ∨ dgZ x1) ∧ F_X10_isOrder S x1 = v)) 0 0 (mm_enc shM S) 15 [(0, .ref 0), (2, .int y103), (3, .int y105), (4, .int y107)] [] := by
      intro N15
      induction N15 with
      | zero =>
        intro y103 y105 y107 hm110 b104 b106 b108 hx109 hE111
        exact absurd hm110 (Nat.not_lt_zero _)
      | succ N15 ih15 =>
        intro y103 y105 y107 hm110 b104 b106 b108 hx109 hE111
        refine mw_iload dX10_isOrder_15 3 rfl ?_
        refine mw_if_le (tgt := 91) dX10_isOrder_17 (by decide) (fun q112 => ?_) (fun q112 => ?_)
        · skip
          have b113 : mm_b (-2147483648) (0) y107 := bd_le_l q112 b108 n_0 (by decide)
          refine mw_iload_n dX10_isOrder_91 rfl 2 rfl ?_
          exact mw_zret rfl (bd_nar b106 (by decide)) dX10_isOrder_92 rfl rfl ⟨S, _, rfl, rfl, rfl, b106, Or.imp_right (fun h => dgA_e h b113 (by decide)) hx109, (by exact hE111.trans (by rw [F_X10_isOrder_L15, if_pos q112]))⟩
        · skip
          have b114 : mm_b (1) (2147483647) y107 := bd_lt_r (bd_nle q112) n_0 b108 (by decide)
          refine mw_iload_n dX10_isOrder_20 rfl 2 rfl ?_
          refine mw_if_eq (tgt := 91) dX10_isOrder_21 (by decide) (fun q115 => ?_) (fun q115 => ?_)
          · skip
            have b116 : mm_b (0) (0) y105 := bd_eq_l q115 b106 n_0 (by decide)
            refine mw_iload_n dX10_isOrder_91 rfl 2 rfl ?_
            exact mw_zret rfl (bd_nar b116 (by decide)) dX10_isOrder_92 rfl rfl ⟨S, _, rfl, rfl, rfl, bd_w b116 (by decide), Or.inl (bd_zero b116), (by exact hE111.trans (by rw [F_X10_isOrder_L15, if_neg q112, if_pos q115]))⟩
          · skip
            have b117 : mm_b (1) (1) y105 := bd_ne_l q115 b106 n_0 (by decide)
            refine mw_iload dX10_isOrder_24 3 rfl ?_
            refine mw_bipush dX10_isOrder_26 kb_10 ?_
            refine mw_irem dX10_isOrder_28 (bd_ne0 n_10 (by decide)) (fun v118 ev118 => ?_)
            have b119 : mm_b (0) (9) v118 := bd_rem ev118 b114 n_10 (by decide)
            refine mw_iconst dX10_isOrder_29 ki_1 ?_
            refine mw_isub dX10_isOrder_30 (fun v120 ev120 => ?_)
            have b121 : mm_b (-1) (8) v120 := bd_sub ev120 b119 n_1 (by decide)
            refine mw_istore (ls' := [(5, .int v120), (0, .ref 0), (2, .int y103), (3, .int y105), (4, .int y107)]) dX10_isOrder_31 (by decide) rfl ?_
            refine mw_aload_n dX10_isOrder_33 rfl 1 rfl ?_
            refine mw_iload dX10_isOrder_34 0 rfl ?_
            refine tc_Vi (as := [.int v120]) (st := []) dX10_isOrder_36 rfl shM_0 rfl rfl mX10_179 t_X10_isPerson rfl (Nat.le_of_ble_eq_true rfl) (by decide) (by decide) (cx_X10_isPerson (g := g) S hI v120) (fun S122 v124 h123 => ?_)
            obtain ⟨rfl, b125, x126, hx127⟩ := h123
            refine mw_if_eq (tgt := 64) dX10_isOrder_39 (by decide) (fun q128 => ?_) (fun q128 => ?_)
            · skip
              have b129 : mm_b (0) (0) v124 := bd_eq_l q128 b125 n_0 (by decide)
              refine mw_iconst dX10_isOrder_64 ki_0 ?_
              refine mw_istore_n (ls' := [(3, .int 0), (5, .int v120), (0, .ref 0), (2, .int y103), (4, .int y107)]) dX10_isOrder_65 rfl (by decide) rfl ?_
              refine mw_iload_n dX10_isOrder_66 rfl 3 rfl ?_
              refine mw_iload_n dX10_isOrder_67 rfl 0 rfl ?_
              refine mw_if_eq (tgt := 78) dX10_isOrder_68 (by decide) (fun q130 => ?_) (fun q130 => ?_)
              · skip
                refine mw_iconst dX10_isOrder_78 ki_0 ?_
                refine mw_ior dX10_isOrder_79 (fun v131 ev131 => ?_)
                have b132 : mm_b (0) (127) v131 := bd_or 7 ev131 b104 n_0 (by decide)
                refine mw_istore_n (ls' := [(2, .int v131), (3, .int 0), (5, .int v120), (0, .ref 0), (4, .int y107)]) dX10_isOrder_80 rfl (by decide) rfl ?_
                refine mw_iload dX10_isOrder_81 4 rfl ?_
                refine mw_bipush dX10_isOrder_83 kb_10 ?_
                refine mw_idiv dX10_isOrder_85 (bd_ne0 n_10 (by decide)) (fun v133 ev133 => ?_)
                have b134 : mm_b (0) (214748364) v133 := bd_div ev133 b114 n_10 (by decide)
                refine mw_istore (ls' := [(4, .int v133), (2, .int v131), (3, .int 0), (5, .int v120), (0, .ref 0)]) dX10_isOrder_86 (by decide) rfl ?_
                refine mw_goto (tgt := 15) dX10_isOrder_88 (by decide) ?_
                refine mw_ls [4, 1, 2, 0] rfl ?_
                exact ih15 v131 (0 : Int32) v133 (ms_div ev133 b114 n_10 (by decide) hm110) b132 (bd_w n_0 (by decide)) (bd_w b134 (by decide)) (Or.inl rfl) (by subst ev133; subst ev131; subst hx127; subst ev120; subst ev118; exact hE111.trans (by rw [F_X10_isOrder_L15, if_neg q112, if_neg q115, if_pos q128]))
              · skip
                exact bd_fne q130 n_0 n_0
            · skip
              have b135 : mm_b (1) (1) v124 := bd_ne_l q128 b125 n_0 (by decide)
              have b136 := Or.resolve_left x126 q128
              refine mw_aload_n dX10_isOrder_42 rfl 1 rfl ?_
              refine mw_iload dX10_isOrder_43 0 rfl ?_
              refine tc_Vi (as := [.int v120]) (st := []) dX10_isOrder_45 rfl shM_0 rfl rfl mX10_167 t_X10_isAlive rfl (Nat.le_of_ble_eq_true rfl) (by decide) (by decide) (cx_X10_isAlive (g := g) S hI v120) (fun S137 v139 h138 => ?_)
              obtain ⟨rfl, b140, x141, hx142⟩ := h138
              refine mw_if_eq (tgt := 64) dX10_isOrder_48 (by decide) (fun q143 => ?_) (fun q143 => ?_)
              · skip
                have b144 : mm_b (0) (0) v139 := bd_eq_l q143 b140 n_0 (by decide)
                refine mw_iconst dX10_isOrder_64 ki_0 ?_
                refine mw_istore_n (ls' := [(3, .int 0), (5, .int v120), (0, .ref 0), (2, .int y103), (4, .int y107)]) dX10_isOrder_65 rfl (by decide) rfl ?_
                refine mw_iload_n dX10_isOrder_66 rfl 3 rfl ?_
                refine mw_iload_n dX10_isOrder_67 rfl 0 rfl ?_
                refine mw_if_eq (tgt := 78) dX10_isOrder_68 (by decide) (fun q145 => ?_) (fun q145 => ?_)
                · skip
                  refine mw_iconst dX10_isOrder_78 ki_0 ?_
                  refine mw_ior dX10_isOrder_79 (fun v146 ev146 => ?_)
                  have b147 : mm_b (0) (127) v146 := bd_or 7 ev146 b104 n_0 (by decide)
                  refine mw_istore_n (ls' := [(2, .int v146), (3, .int 0), (5, .int v120), (0, .ref 0), (4, .int y107)]) dX10_isOrder_80 rfl (by decide) rfl ?_
                  refine mw_iload dX10_isOrder_81 4 rfl ?_
                  refine mw_bipush dX10_isOrder_83 kb_10 ?_
                  refine mw_idiv dX10_isOrder_85 (bd_ne0 n_10 (by decide)) (fun v148 ev148 => ?_)
                  have b149 : mm_b (0) (214748364) v148 := bd_div ev148 b114 n_10 (by decide)
                  refine mw_istore (ls' := [(4, .int v148), (2, .int v146), (3, .int 0), (5, .int v120), (0, .ref 0)]) dX10_isOrder_86 (by decide) rfl ?_
                  refine mw_goto (tgt := 15) dX10_isOrder_88 (by decide) ?_
                  refine mw_ls [4, 1, 2, 0] rfl ?_
                  exact ih15 v146 (0 : Int32) v148 (ms_div ev148 b114 n_10 (by decide) hm110) b147 (bd_w n_0 (by decide)) (bd_w b149 (by decide)) (Or.inl rfl) (by subst ev148; subst ev146; subst hx142; subst hx127; subst ev120; subst ev118; exact hE111.trans (by rw [F_X10_isOrder_L15, if_neg q112, if_neg q115, if_neg q128, if_pos q143]))
                · skip
                  exact bd_fne q145 n_0 n_0
              · skip
                have b150 : mm_b (1) (1) v139 := bd_ne_l q143 b140 n_0 (by decide)
                refine mw_iload_n dX10_isOrder_51 rfl 2 rfl ?_
                refine mw_iload dX10_isOrder_52 0 rfl ?_
                refine tc_Si (as := [.int y103, .int v120]) (st := []) dX10_isOrder_54 rfl mX10_134 t_X10_isIn rfl (Nat.le_of_ble_eq_true rfl) (by decide) (by decide) (cx_X10_isIn (g := g) S hI y103 v120) (fun S151 v153 h152 => ?_)
                obtain ⟨rfl, b154, x155, hx156⟩ := h152
                refine mw_if_ne (tgt := 64) dX10_isOrder_57 (by decide) (fun q157 => ?_) (fun q157 => ?_)
                · skip
                  have b158 : mm_b (1) (1) v153 := bd_ne_l q157 b154 n_0 (by decide)
                  refine mw_iconst dX10_isOrder_64 ki_0 ?_
                  refine mw_istore_n (ls' := [(3, .int 0), (5, .int v120), (0, .ref 0), (2, .int y103), (4, .int y107)]) dX10_isOrder_65 rfl (by decide) rfl ?_
                  refine mw_iload_n dX10_isOrder_66 rfl 3 rfl ?_
                  refine mw_iload_n dX10_isOrder_67 rfl 0 rfl ?_
                  refine mw_if_eq (tgt := 78) dX10_isOrder_68 (by decide) (fun q159 => ?_) (fun q159 => ?_)
                  · skip
                    refine mw_iconst dX10_isOrder_78 ki_0 ?_
                    refine mw_ior dX10_isOrder_79 (fun v160 ev160 => ?_)
                    have b161 : mm_b (0) (127) v160 := bd_or 7 ev160 b104 n_0 (by decide)
                    refine mw_istore_n (ls' := [(2, .int v160), (3, .int 0), (5, .int v120), (0, .ref 0), (4, .int y107)]) dX10_isOrder_80 rfl (by decide) rfl ?_
                    refine mw_iload dX10_isOrder_81 4 rfl ?_
                    refine mw_bipush dX10_isOrder_83 kb_10 ?_
                    refine mw_idiv dX10_isOrder_85 (bd_ne0 n_10 (by decide)) (fun v162 ev162 => ?_)
                    have b163 : mm_b (0) (214748364) v162 := bd_div ev162 b114 n_10 (by decide)
                    refine mw_istore (ls' := [(4, .int v162), (2, .int v160), (3, .int 0), (5, .int v120), (0, .ref 0)]) dX10_isOrder_86 (by decide) rfl ?_
                    refine mw_goto (tgt := 15) dX10_isOrder_88 (by decide) ?_
                    refine mw_ls [4, 1, 2, 0] rfl ?_
                    exact ih15 v160 (0 : Int32) v162 (ms_div ev162 b114 n_10 (by decide) hm110) b161 (bd_w n_0 (by decide)) (bd_w b163 (by decide)) (Or.inl rfl) (by subst ev162; subst ev160; subst hx156; subst hx142; subst hx127; subst ev120; subst ev118; exact hE111.trans (by rw [F_X10_isOrder_L15, if_neg q112, if_neg q115, if_neg q128, if_neg q143, if_neg q157]))
                  · skip
                    exact bd_fne q159 n_0 n_0
                · skip
                  have b164 : mm_b (0) (0) v153 := bd_eq_l q157 b154 n_0 (by decide)
                  refine mw_iconst dX10_isOrder_60 ki_1 ?_
                  refine mw_goto (tgt := 65) dX10_isOrder_61 (by decide) ?_
                  refine mw_istore_n (ls' := [(3, .int 1), (5, .int v120), (0, .ref 0), (2, .int y103), (4, .int y107)]) dX10_isOrder_65 rfl (by decide) rfl ?_
                  refine mw_iload_n dX10_isOrder_66 rfl 3 rfl ?_
                  refine mw_iload_n dX10_isOrder_67 rfl 0 rfl ?_
                  refine mw_if_eq (tgt := 78) dX10_isOrder_68 (by decide) (fun q165 => ?_) (fun q165 => ?_)
                  · skip
                    exact bd_feq q165 n_1 n_0 (by decide)
                  · skip
                    refine mw_iconst dX10_isOrder_71 ki_1 ?_
                    refine mw_iload dX10_isOrder_72 1 rfl ?_
                    refine mw_ishl dX10_isOrder_74 (fun v166 ev166 => ?_)
                    have b167 : mm_b (1) (64) v166 := bd_shl 6 ev166 b136 (by decide)
                    refine mw_goto (tgt := 79) dX10_isOrder_75 (by decide) ?_
                    refine mw_ior dX10_isOrder_79 (fun v168 ev168 => ?_)
                    have b169 : mm_b (0) (127) v168 := bd_or 7 ev168 b104 b167 (by decide)
                    refine mw_istore_n (ls' := [(2, .int v168), (3, .int 1), (5, .int v120), (0, .ref 0), (4, .int y107)]) dX10_isOrder_80 rfl (by decide) rfl ?_
                    refine mw_iload dX10_isOrder_81 4 rfl ?_
                    refine mw_bipush dX10_isOrder_83 kb_10 ?_
                    refine mw_idiv dX10_isOrder_85 (bd_ne0 n_10 (by decide)) (fun v170 ev170 => ?_)
                    have b171 : mm_b (0) (214748364) v170 := bd_div ev170 b114 n_10 (by decide)
                    refine mw_istore (ls' := [(4, .int v170), (2, .int v168), (3, .int 1), (5, .int v120), (0, .ref 0)]) dX10_isOrder_86 (by decide) rfl ?_
                    refine mw_goto (tgt := 15) dX10_isOrder_88 (by decide) ?_
                    refine mw_ls [4, 1, 2, 0] rfl ?_
                    exact ih15 v168 (1 : Int32) v170 (ms_div ev170 b114 n_10 (by decide) hm110) b169 (bd_w n_1 (by decide)) (bd_w b171 (by decide)) (Or.inr (dgA_s (Or.resolve_left hx109 (bd_nec b117 (by decide))) b114 (by decide) ev118 n_10 ev120 n_1 (bd_w b136 (by decide)) ev170)) (by subst ev170; subst ev168; subst ev166; subst hx156; subst hx142; subst hx127; subst ev120; subst ev118; exact hE111.trans (by rw [F_X10_isOrder_L15, if_neg q112, if_neg q115, if_neg q128, if_neg q143, if_pos q157]))
    refine mw_ls [3, 2, 1, 0] rfl ?_
    exact cut15 2147483648 (0 : Int32) (0 : Int32) x1 (by have hz := b102; omega) (bd_w n_0 (by decide)) (bd_w n_0 (by decide)) (bd_w b102 (by decide)) (Or.inl rfl) (by rw [F_X10_isOrder, if_pos q101])
  · skip
    have b172 : mm_b (1) (2147483647) x1 := bd_lt_r (bd_nle q101) n_0 (bd_all x1) (by decide)
    refine mw_iconst dX10_isOrder_6 ki_1 ?_
    refine mw_goto (tgt := 11) dX10_isOrder_7 (by decide) ?_
    refine mw_istore_n (ls' := [(3, .int 1), (2, .int 0), (0, .ref 0), (1, .int x1)]) dX10_isOrder_11 rfl (by decide) rfl ?_
    refine mw_iload_n dX10_isOrder_12 rfl 3 rfl ?_
    refine mw_istore (ls' := [(4, .int x1), (3, .int 1), (2, .int 0), (0, .ref 0), (1, .int x1)]) dX10_isOrder_13 (by decide) rfl ?_
    have cut15 : ∀ (N15 : Nat) (y173 y175 y177 : Int32), y177.toInt.toNat < N15 → mm_b (0) (127) y173 → mm_b (0) (1) y175 → mm_b (-2147483648) (2147483647) y177 → y175 = 0 ∨ dgA x1 y177 → F_X10_isOrder S x1 = F_X10_isOrder_L15  N15 S y173 y175 y177 → mw g RX10 cX10_isOrder 6 (some .boolean) false (mm_rm 2) (qi shM (fun S1 v => S = S1 ∧ mm_b (0) (1) v ∧ (v = 0 ∨ dgZ x1) ∧ F_X10_isOrder S x1 = v)) 0 0 (mm_enc shM S) 15 [(0, .ref 0), (2, .int y173), (3, .int y175), (4, .int y177)] [] := by
      intro N15
      induction N15 with
      | zero =>
        intro y173 y175 y177 hm180 b174 b176 b178 hx179 hE181
        exact absurd hm180 (Nat.not_lt_zero _)
      | succ N15 ih15 =>
        intro y173 y175 y177 hm180 b174 b176 b178 hx179 hE181
        refine mw_iload dX10_isOrder_15 3 rfl ?_
        refine mw_if_le (tgt := 91) dX10_isOrder_17 (by decide) (fun q182 => ?_) (fun q182 => ?_)
        · skip
          have b183 : mm_b (-2147483648) (0) y177 := bd_le_l q182 b178 n_0 (by decide)
          refine mw_iload_n dX10_isOrder_91 rfl 2 rfl ?_
          exact mw_zret rfl (bd_nar b176 (by decide)) dX10_isOrder_92 rfl rfl ⟨S, _, rfl, rfl, rfl, b176, Or.imp_right (fun h => dgA_e h b183 (by decide)) hx179, (by exact hE181.trans (by rw [F_X10_isOrder_L15, if_pos q182]))⟩
        · skip
          have b184 : mm_b (1) (2147483647) y177 := bd_lt_r (bd_nle q182) n_0 b178 (by decide)
          refine mw_iload_n dX10_isOrder_20 rfl 2 rfl ?_
          refine mw_if_eq (tgt := 91) dX10_isOrder_21 (by decide) (fun q185 => ?_) (fun q185 => ?_)
          · skip
            have b186 : mm_b (0) (0) y175 := bd_eq_l q185 b176 n_0 (by decide)
            refine mw_iload_n dX10_isOrder_91 rfl 2 rfl ?_
            exact mw_zret rfl (bd_nar b186 (by decide)) dX10_isOrder_92 rfl rfl ⟨S, _, rfl, rfl, rfl, bd_w b186 (by decide), Or.inl (bd_zero b186), (by exact hE181.trans (by rw [F_X10_isOrder_L15, if_neg q182, if_pos q185]))⟩
          · skip
            have b187 : mm_b (1) (1) y175 := bd_ne_l q185 b176 n_0 (by decide)
            refine mw_iload dX10_isOrder_24 3 rfl ?_
            refine mw_bipush dX10_isOrder_26 kb_10 ?_
            refine mw_irem dX10_isOrder_28 (bd_ne0 n_10 (by decide)) (fun v188 ev188 => ?_)
            have b189 : mm_b (0) (9) v188 := bd_rem ev188 b184 n_10 (by decide)
            refine mw_iconst dX10_isOrder_29 ki_1 ?_
            refine mw_isub dX10_isOrder_30 (fun v190 ev190 => ?_)
            have b191 : mm_b (-1) (8) v190 := bd_sub ev190 b189 n_1 (by decide)
            refine mw_istore (ls' := [(5, .int v190), (0, .ref 0), (2, .int y173), (3, .int y175), (4, .int y177)]) dX10_isOrder_31 (by decide) rfl ?_
            refine mw_aload_n dX10_isOrder_33 rfl 1 rfl ?_
            refine mw_iload dX10_isOrder_34 0 rfl ?_
            refine tc_Vi (as := [.int v190]) (st := []) dX10_isOrder_36 rfl shM_0 rfl rfl mX10_179 t_X10_isPerson rfl (Nat.le_of_ble_eq_true rfl) (by decide) (by decide) (cx_X10_isPerson (g := g) S hI v190) (fun S192 v194 h193 => ?_)
            obtain ⟨rfl, b195, x196, hx197⟩ := h193
            refine mw_if_eq (tgt := 64) dX10_isOrder_39 (by decide) (fun q198 => ?_) (fun q198 => ?_)
            · skip
              have b199 : mm_b (0) (0) v194 := bd_eq_l q198 b195 n_0 (by decide)
              refine mw_iconst dX10_isOrder_64 ki_0 ?_
              refine mw_istore_n (ls' := [(3, .int 0), (5, .int v190), (0, .ref 0), (2, .int y173), (4, .int y177)]) dX10_isOrder_65 rfl (by decide) rfl ?_
              refine mw_iload_n dX10_isOrder_66 rfl 3 rfl ?_
              refine mw_iload_n dX10_isOrder_67 rfl 0 rfl ?_
              refine mw_if_eq (tgt := 78) dX10_isOrder_68 (by decide) (fun q200 => ?_) (fun q200 => ?_)
              · skip
                refine mw_iconst dX10_isOrder_78 ki_0 ?_
                refine mw_ior dX10_isOrder_79 (fun v201 ev201 => ?_)
                have b202 : mm_b (0) (127) v201 := bd_or 7 ev201 b174 n_0 (by decide)
                refine mw_istore_n (ls' := [(2, .int v201), (3, .int 0), (5, .int v190), (0, .ref 0), (4, .int y177)]) dX10_isOrder_80 rfl (by decide) rfl ?_
                refine mw_iload dX10_isOrder_81 4 rfl ?_
                refine mw_bipush dX10_isOrder_83 kb_10 ?_
                refine mw_idiv dX10_isOrder_85 (bd_ne0 n_10 (by decide)) (fun v203 ev203 => ?_)
                have b204 : mm_b (0) (214748364) v203 := bd_div ev203 b184 n_10 (by decide)
                refine mw_istore (ls' := [(4, .int v203), (2, .int v201), (3, .int 0), (5, .int v190), (0, .ref 0)]) dX10_isOrder_86 (by decide) rfl ?_
                refine mw_goto (tgt := 15) dX10_isOrder_88 (by decide) ?_
                refine mw_ls [4, 1, 2, 0] rfl ?_
                exact ih15 v201 (0 : Int32) v203 (ms_div ev203 b184 n_10 (by decide) hm180) b202 (bd_w n_0 (by decide)) (bd_w b204 (by decide)) (Or.inl rfl) (by subst ev203; subst ev201; subst hx197; subst ev190; subst ev188; exact hE181.trans (by rw [F_X10_isOrder_L15, if_neg q182, if_neg q185, if_pos q198]))
              · skip
                exact bd_fne q200 n_0 n_0
            · skip
              have b205 : mm_b (1) (1) v194 := bd_ne_l q198 b195 n_0 (by decide)
              have b206 := Or.resolve_left x196 q198
              refine mw_aload_n dX10_isOrder_42 rfl 1 rfl ?_
              refine mw_iload dX10_isOrder_43 0 rfl ?_
              refine tc_Vi (as := [.int v190]) (st := []) dX10_isOrder_45 rfl shM_0 rfl rfl mX10_167 t_X10_isAlive rfl (Nat.le_of_ble_eq_true rfl) (by decide) (by decide) (cx_X10_isAlive (g := g) S hI v190) (fun S207 v209 h208 => ?_)
              obtain ⟨rfl, b210, x211, hx212⟩ := h208
              refine mw_if_eq (tgt := 64) dX10_isOrder_48 (by decide) (fun q213 => ?_) (fun q213 => ?_)
              · skip
                have b214 : mm_b (0) (0) v209 := bd_eq_l q213 b210 n_0 (by decide)
                refine mw_iconst dX10_isOrder_64 ki_0 ?_
                refine mw_istore_n (ls' := [(3, .int 0), (5, .int v190), (0, .ref 0), (2, .int y173), (4, .int y177)]) dX10_isOrder_65 rfl (by decide) rfl ?_
                refine mw_iload_n dX10_isOrder_66 rfl 3 rfl ?_
                refine mw_iload_n dX10_isOrder_67 rfl 0 rfl ?_
                refine mw_if_eq (tgt := 78) dX10_isOrder_68 (by decide) (fun q215 => ?_) (fun q215 => ?_)
                · skip
                  refine mw_iconst dX10_isOrder_78 ki_0 ?_
                  refine mw_ior dX10_isOrder_79 (fun v216 ev216 => ?_)
                  have b217 : mm_b (0) (127) v216 := bd_or 7 ev216 b174 n_0 (by decide)
                  refine mw_istore_n (ls' := [(2, .int v216), (3, .int 0), (5, .int v190), (0, .ref 0), (4, .int y177)]) dX10_isOrder_80 rfl (by decide) rfl ?_
                  refine mw_iload dX10_isOrder_81 4 rfl ?_
                  refine mw_bipush dX10_isOrder_83 kb_10 ?_
                  refine mw_idiv dX10_isOrder_85 (bd_ne0 n_10 (by decide)) (fun v218 ev218 => ?_)
                  have b219 : mm_b (0) (214748364) v218 := bd_div ev218 b184 n_10 (by decide)
                  refine mw_istore (ls' := [(4, .int v218), (2, .int v216), (3, .int 0), (5, .int v190), (0, .ref 0)]) dX10_isOrder_86 (by decide) rfl ?_
                  refine mw_goto (tgt := 15) dX10_isOrder_88 (by decide) ?_
                  refine mw_ls [4, 1, 2, 0] rfl ?_
                  exact ih15 v216 (0 : Int32) v218 (ms_div ev218 b184 n_10 (by decide) hm180) b217 (bd_w n_0 (by decide)) (bd_w b219 (by decide)) (Or.inl rfl) (by subst ev218; subst ev216; subst hx212; subst hx197; subst ev190; subst ev188; exact hE181.trans (by rw [F_X10_isOrder_L15, if_neg q182, if_neg q185, if_neg q198, if_pos q213]))
                · skip
                  exact bd_fne q215 n_0 n_0
              · skip
                have b220 : mm_b (1) (1) v209 := bd_ne_l q213 b210 n_0 (by decide)
                refine mw_iload_n dX10_isOrder_51 rfl 2 rfl ?_
                refine mw_iload dX10_isOrder_52 0 rfl ?_
                refine tc_Si (as := [.int y173, .int v190]) (st := []) dX10_isOrder_54 rfl mX10_134 t_X10_isIn rfl (Nat.le_of_ble_eq_true rfl) (by decide) (by decide) (cx_X10_isIn (g := g) S hI y173 v190) (fun S221 v223 h222 => ?_)
                obtain ⟨rfl, b224, x225, hx226⟩ := h222
                refine mw_if_ne (tgt := 64) dX10_isOrder_57 (by decide) (fun q227 => ?_) (fun q227 => ?_)
                · skip
                  have b228 : mm_b (1) (1) v223 := bd_ne_l q227 b224 n_0 (by decide)
                  refine mw_iconst dX10_isOrder_64 ki_0 ?_
                  refine mw_istore_n (ls' := [(3, .int 0), (5, .int v190), (0, .ref 0), (2, .int y173), (4, .int y177)]) dX10_isOrder_65 rfl (by decide) rfl ?_
                  refine mw_iload_n dX10_isOrder_66 rfl 3 rfl ?_
                  refine mw_iload_n dX10_isOrder_67 rfl 0 rfl ?_
                  refine mw_if_eq (tgt := 78) dX10_isOrder_68 (by decide) (fun q229 => ?_) (fun q229 => ?_)
                  · skip
                    refine mw_iconst dX10_isOrder_78 ki_0 ?_
                    refine mw_ior dX10_isOrder_79 (fun v230 ev230 => ?_)
                    have b231 : mm_b (0) (127) v230 := bd_or 7 ev230 b174 n_0 (by decide)
                    refine mw_istore_n (ls' := [(2, .int v230), (3, .int 0), (5, .int v190), (0, .ref 0), (4, .int y177)]) dX10_isOrder_80 rfl (by decide) rfl ?_
                    refine mw_iload dX10_isOrder_81 4 rfl ?_
                    refine mw_bipush dX10_isOrder_83 kb_10 ?_
                    refine mw_idiv dX10_isOrder_85 (bd_ne0 n_10 (by decide)) (fun v232 ev232 => ?_)
                    have b233 : mm_b (0) (214748364) v232 := bd_div ev232 b184 n_10 (by decide)
                    refine mw_istore (ls' := [(4, .int v232), (2, .int v230), (3, .int 0), (5, .int v190), (0, .ref 0)]) dX10_isOrder_86 (by decide) rfl ?_
                    refine mw_goto (tgt := 15) dX10_isOrder_88 (by decide) ?_
                    refine mw_ls [4, 1, 2, 0] rfl ?_
                    exact ih15 v230 (0 : Int32) v232 (ms_div ev232 b184 n_10 (by decide) hm180) b231 (bd_w n_0 (by decide)) (bd_w b233 (by decide)) (Or.inl rfl) (by subst ev232; subst ev230; subst hx226; subst hx212; subst hx197; subst ev190; subst ev188; exact hE181.trans (by rw [F_X10_isOrder_L15, if_neg q182, if_neg q185, if_neg q198, if_neg q213, if_neg q227]))
                  · skip
                    exact bd_fne q229 n_0 n_0
                · skip
                  have b234 : mm_b (0) (0) v223 := bd_eq_l q227 b224 n_0 (by decide)
                  refine mw_iconst dX10_isOrder_60 ki_1 ?_
                  refine mw_goto (tgt := 65) dX10_isOrder_61 (by decide) ?_
                  refine mw_istore_n (ls' := [(3, .int 1), (5, .int v190), (0, .ref 0), (2, .int y173), (4, .int y177)]) dX10_isOrder_65 rfl (by decide) rfl ?_
                  refine mw_iload_n dX10_isOrder_66 rfl 3 rfl ?_
                  refine mw_iload_n dX10_isOrder_67 rfl 0 rfl ?_
                  refine mw_if_eq (tgt := 78) dX10_isOrder_68 (by decide) (fun q235 => ?_) (fun q235 => ?_)
                  · skip
                    exact bd_feq q235 n_1 n_0 (by decide)
                  · skip
                    refine mw_iconst dX10_isOrder_71 ki_1 ?_
                    refine mw_iload dX10_isOrder_72 1 rfl ?_
                    refine mw_ishl dX10_isOrder_74 (fun v236 ev236 => ?_)
                    have b237 : mm_b (1) (64) v236 := bd_shl 6 ev236 b206 (by decide)
                    refine mw_goto (tgt := 79) dX10_isOrder_75 (by decide) ?_
                    refine mw_ior dX10_isOrder_79 (fun v238 ev238 => ?_)
                    have b239 : mm_b (0) (127) v238 := bd_or 7 ev238 b174 b237 (by decide)
                    refine mw_istore_n (ls' := [(2, .int v238), (3, .int 1), (5, .int v190), (0, .ref 0), (4, .int y177)]) dX10_isOrder_80 rfl (by decide) rfl ?_
                    refine mw_iload dX10_isOrder_81 4 rfl ?_
                    refine mw_bipush dX10_isOrder_83 kb_10 ?_
                    refine mw_idiv dX10_isOrder_85 (bd_ne0 n_10 (by decide)) (fun v240 ev240 => ?_)
                    have b241 : mm_b (0) (214748364) v240 := bd_div ev240 b184 n_10 (by decide)
                    refine mw_istore (ls' := [(4, .int v240), (2, .int v238), (3, .int 1), (5, .int v190), (0, .ref 0)]) dX10_isOrder_86 (by decide) rfl ?_
                    refine mw_goto (tgt := 15) dX10_isOrder_88 (by decide) ?_
                    refine mw_ls [4, 1, 2, 0] rfl ?_
                    exact ih15 v238 (1 : Int32) v240 (ms_div ev240 b184 n_10 (by decide) hm180) b239 (bd_w n_1 (by decide)) (bd_w b241 (by decide)) (Or.inr (dgA_s (Or.resolve_left hx179 (bd_nec b187 (by decide))) b184 (by decide) ev188 n_10 ev190 n_1 (bd_w b206 (by decide)) ev240)) (by subst ev240; subst ev238; subst ev236; subst hx226; subst hx212; subst hx197; subst ev190; subst ev188; exact hE181.trans (by rw [F_X10_isOrder_L15, if_neg q182, if_neg q185, if_neg q198, if_neg q213, if_pos q227]))
    refine mw_ls [3, 2, 1, 0] rfl ?_
    exact cut15 2147483648 (0 : Int32) (1 : Int32) x1 (by have hz := b172; omega) (bd_w n_0 (by decide)) (bd_w n_1 (by decide)) (bd_w b172 (by decide)) (Or.inr (dgA_0 b172 (by decide))) (by rw [F_X10_isOrder, if_neg q101])
def F_X10_whose_L32 (x2 : Int32) : Nat → mm_S → Int32 → Int32 × mm_S
  | 0, S135, _ => (0, S135)
  | N + 1, S135, y138 => (if (S135.1 1 0) ≤ y138 then ((-1 : Int32), S135) else (if (S135.1 4 (((0 : Int32) + y138)).toNatClampNeg) = x2 then (y138, S135) else ((F_X10_whose_L32 x2 N) S135 (y138 + Int32.ofInt 1))))
def F_X10_whose_ttc25c30 (x2 : Int32) (S127 : mm_S) : Int32 × mm_S := (F_X10_whose_L32 x2 9 S127 (0 : Int32))
def F_X10_whose_ttc25 (x2 : Int32) (S119 : mm_S) (x1 : Int32) : Int32 × mm_S := (F_X10_whose_ttc25c30 x2 (F_X10_allDie S119 x1))
def F_X10_whose (S : mm_S) (x1 : Int32) (x2 : Int32) : Int32 × mm_S := (if (F_X10_isVoice S x2) = (0 : Int32) then ((-1000000001 : Int32), S) else (if (F_X10_isOrder S x1) = (0 : Int32) then ((-1000000002 : Int32), S) else (F_X10_whose_ttc25 x2 (F_X10_layAside S) x1)))
set_option maxRecDepth 100000 in
set_option maxHeartbeats 4000000 in
theorem cx_X10_whose {g : mm_G} (S : mm_S) (hI : JM S) (x1 : Int32) (x2 : Int32) : mc g yX10_whose cX10_whose 4 (some .int) (mm_rm 4) [.ref 0, .int x1, .int x2] (mm_enc shM S) (qi shM (fun S1 v => JM S1 ∧ fr [4] [] true true S S1 ∧ mm_b (-1000000002) (6) v ∧ (True) ∧ F_X10_whose S x1 x2 = (v, S1))) := by
  refine mc_of2 (own := RX10) (ini := false) (ls := [(0, .ref 0), (1, .int x1), (2, .int x2)]) (by decide) (Nat.le_of_ble_eq_true rfl) rfl (by decide) rfl ?_
  have hF : fr [4] [] true true S S := fr_rf
  refine mw_iload_n dX10_whose_0 rfl 2 rfl ?_
  refine tc_Si (as := [.int x2]) (st := []) dX10_whose_1 rfl mX10_205 t_X10_isVoice rfl (Nat.le_of_ble_eq_true rfl) (by decide) (by decide) (cx_X10_isVoice (g := g) S hI x2) (fun S101 v103 h102 => ?_)
  obtain ⟨rfl, b104, x105, hx106⟩ := h102
  refine mw_if_ne (tgt := 10) dX10_whose_4 (by decide) (fun q107 => ?_) (fun q107 => ?_)
  · skip
    have b108 : mm_b (1) (1) v103 := bd_ne_l q107 b104 n_0 (by decide)
    have b109 := Or.resolve_left x105 q107
    refine mw_aload_n dX10_whose_10 rfl 0 rfl ?_
    refine mw_iload_n dX10_whose_11 rfl 1 rfl ?_
    refine tc_Vi (as := [.int x1]) (st := []) dX10_whose_12 rfl shM_0 rfl rfl mX10_228 t_X10_isOrder rfl (Nat.le_of_ble_eq_true rfl) (by decide) (by decide) (cx_X10_isOrder (g := g) S hI x1) (fun S110 v112 h111 => ?_)
    obtain ⟨rfl, b113, x114, hx115⟩ := h111
    refine mw_if_ne (tgt := 21) dX10_whose_15 (by decide) (fun q116 => ?_) (fun q116 => ?_)
    · skip
      have b117 : mm_b (1) (1) v112 := bd_ne_l q116 b113 n_0 (by decide)
      have dg118 := Or.resolve_left x114 q116
      refine mw_aload_n dX10_whose_21 rfl 0 rfl ?_
      refine tc_Vv (as := []) (st := []) dX10_whose_22 rfl shM_0 rfl rfl mX10_231 t_X10_layAside rfl (Nat.le_of_ble_eq_true rfl) (by decide) (by decide) (cx_X10_layAside (g := g) S hI) (fun S119 h120 => ?_)
      obtain ⟨hI123, hf124, x121, hx122⟩ := h120
      have hF125 := fr_tr hF hf124 (by decide) (by decide) (by decide) (by decide)
      have hE126 : F_X10_whose S x1 x2 = F_X10_whose_ttc25 x2 S119 x1 := (by subst hx115; subst hx106; rw [F_X10_whose, if_neg q107, if_neg q116, hx122])
      refine mw_aload_n dX10_whose_25 rfl 0 rfl ?_
      refine mw_iload_n dX10_whose_26 rfl 1 rfl ?_
      refine tc_Vv (as := [.int x1]) (st := []) dX10_whose_27 rfl shM_0 rfl rfl mX10_234 t_X10_allDie rfl (Nat.le_of_ble_eq_true rfl) (by decide) (by decide) (cx_X10_allDie (g := g) S119 hI123 x1 dg118) (fun S127 h128 => ?_)
      obtain ⟨hI131, hf132, x129, hx130⟩ := h128
      have hF133 := fr_tr hF125 hf132 (by decide) (by decide) (by decide) (by decide)
      have hE134 : F_X10_whose S x1 x2 = F_X10_whose_ttc25c30 x2 S127 := (by exact hE126.trans (by rw [F_X10_whose_ttc25, hx130]))
      refine mw_iconst dX10_whose_30 ki_0 ?_
      refine mw_istore_n (ls' := [(3, .int 0), (0, .ref 0), (1, .int x1), (2, .int x2)]) dX10_whose_31 rfl (by decide) rfl ?_
      have cut32 : ∀ (N32 : Nat) (S135 : mm_S) (y138 : Int32), ((8 : Int) - y138.toInt).toNat < N32 → JM S135 → fr [4] [] true true S S135 → mm_b (0) (7) y138 → F_X10_whose S x1 x2 = F_X10_whose_L32 x2 N32 S135 y138 → mw g RX10 cX10_whose 4 (some .int) false (mm_rm 4) (qi shM (fun S1 v => JM S1 ∧ fr [4] [] true true S S1 ∧ mm_b (-1000000002) (6) v ∧ (True) ∧ F_X10_whose S x1 x2 = (v, S1))) 0 0 (mm_enc shM S135) 32 [(0, .ref 0), (2, .int x2), (3, .int y138)] [] := by
        intro N32
        induction N32 with
        | zero =>
          intro S135 y138 hm140 hI136 hF137 b139 hE141
          exact absurd hm140 (Nat.not_lt_zero _)
        | succ N32 ih32 =>
          intro S135 y138 hm140 hI136 hF137 b139 hE141
          refine mw_iload_n dX10_whose_32 rfl 2 rfl ?_
          refine mw_aload_n dX10_whose_33 rfl 0 rfl ?_
          refine tw_getr (j := 0) dX10_whose_34 shM_0 rfl rfl (by decide) fX10_7 ?_
          refine mw_iconst dX10_whose_37 ki_0 ?_
          refine tw_iald dX10_whose_38 shM_1 (bd_in n_0 (by decide)) (fun v142 ev142 => ?_)
          rw [cl_0] at ev142
          have b143 : mm_b (0) (7) v142 := JIM_fld hI136 ev142 tbM_16 (by decide)
          refine mw_icmp_ge (tgt := 62) dX10_whose_39 (by decide) (fun q144 => ?_) (fun q144 => ?_)
          · skip
            refine mw_iconst dX10_whose_62 ki_m1 ?_
            exact mw_iret rfl dX10_whose_63 rfl rfl ⟨S135, _, rfl, rfl, hI136, hF137, bd_w n_m1 (by decide), trivial, (by subst ev142; exact hE141.trans (by rw [F_X10_whose_L32, if_pos q144]))⟩
          · skip
            have b145 : mm_b (0) (6) y138 := bd_lt_l (bd_nle q144) b139 b143 (by decide)
            have b146 : mm_b (1) (7) v142 := bd_lt_r (bd_nle q144) b139 b143 (by decide)
            refine mw_aload_n dX10_whose_42 rfl 0 rfl ?_
            refine tw_getr (j := 3) dX10_whose_43 shM_0 rfl rfl (by decide) fX10_19 ?_
            refine mw_iconst dX10_whose_46 ki_0 ?_
            refine mw_iload_n dX10_whose_47 rfl 2 rfl ?_
            refine mw_iadd dX10_whose_48 (fun v147 ev147 => ?_)
            have b148 : mm_b (0) (6) v147 := bd_add ev147 n_0 b145 (by decide)
            refine tw_iald dX10_whose_49 shM_4 (bd_in b148 (by decide)) (fun v149 ev149 => ?_)
            have b150 : mm_b (0) (9) v149 := JIM_elt hI136 ev149 b148 tbM_33 (by decide)
            refine mw_iload_n dX10_whose_50 rfl 1 rfl ?_
            refine mw_icmp_ne (tgt := 56) dX10_whose_51 (by decide) (fun q151 => ?_) (fun q151 => ?_)
            · skip
              refine mw_iinc (ls' := fun v => [(3, .int v), (0, .ref 0), (2, .int x2)]) dX10_whose_56 2 rfl (by decide) (fun _ => rfl) (fun v152 ev152 => ?_)
              have b153 : mm_b (1) (7) v152 := bd_inc ev152 b145 (by decide)
              refine mw_goto (tgt := 32) dX10_whose_59 (by decide) ?_
              refine mw_ls [1, 2, 0] rfl ?_
              exact ih32 S135 v152 (ms_inc ev152 b145 (by decide) hm140) hI136 hF137 (bd_w b153 (by decide)) (by subst ev152; subst ev149; subst ev147; subst ev142; exact hE141.trans (by rw [F_X10_whose_L32, if_neg q144, if_neg q151]))
            · skip
              have b154 : mm_b (0) (6) v149 := bd_eq_l q151 b150 b109 (by decide)
              refine mw_iload_n dX10_whose_54 rfl 2 rfl ?_
              exact mw_iret rfl dX10_whose_55 rfl rfl ⟨S135, _, rfl, rfl, hI136, hF137, bd_w b145 (by decide), trivial, (by subst ev149; subst ev147; subst ev142; exact hE141.trans (by rw [F_X10_whose_L32, if_neg q144, if_pos q151]))⟩
      refine mw_ls [1, 3, 0] rfl ?_
      exact cut32 9 S127 (0 : Int32) (by have hz := n_0; omega) hI131 hF133 (bd_w n_0 (by decide)) (by exact hE134.trans (by rw [F_X10_whose_ttc25c30]))
    · skip
      have b155 : mm_b (0) (0) v112 := bd_eq_l q116 b113 n_0 (by decide)
      refine mw_ldc dX10_whose_18 kX10_84 ?_
      exact mw_iret rfl dX10_whose_20 rfl rfl ⟨S, _, rfl, rfl, hI, hF, bd_w n_m1000000002 (by decide), trivial, (by subst hx115; subst hx106; rw [F_X10_whose, if_neg q107, if_pos q116])⟩
  · skip
    have b156 : mm_b (0) (0) v103 := bd_eq_l q107 b104 n_0 (by decide)
    refine mw_ldc dX10_whose_7 kX10_182 ?_
    exact mw_iret rfl dX10_whose_9 rfl rfl ⟨S, _, rfl, rfl, hI, hF, bd_w n_m1000000001 (by decide), trivial, (by subst hx106; rw [F_X10_whose, if_pos q107])⟩
