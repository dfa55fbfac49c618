def F_X9_feed_ftc22 (v108 : Int32) (S106 : mm_S) : Int32 × mm_S := (if v108 = (0 : Int32) then ((-1000000004 : Int32), S106) else ((S106.1 1 0), S106))
def F_X9_feed (S : mm_S) (x1 : Int32) : Int32 × mm_S := (if x1 < (0 : Int32) then ((-1000000002 : Int32), S) else (if x1 ≤ (255 : Int32) then (F_X9_feed_ftc22 (F_X8_add S x1).1 (F_X8_add S x1).2) else ((-1000000002 : Int32), S)))
set_option maxRecDepth 100000 in
set_option maxHeartbeats 4000000 in
theorem cx_X9_feed {g : mm_G} (S : mm_S) (hI : JC S) (x1 : Int32) : mc g yX9_feed cX9_feed 2 (some .int) (mm_rm 1) [.ref 0, .int x1] (mm_enc shC S) (qi shC (fun S1 v => JC S1 ∧ fr [1, 2] [] true true S S1 ∧ mm_b (-1000000004) (240) v ∧ (True) ∧ F_X9_feed S x1 = (v, S1))) := by
  refine mc_of2 (own := RX9) (ini := false) (ls := [(0, .ref 0), (1, .int x1)]) (by decide) (Nat.le_of_ble_eq_true rfl) rfl (by decide) rfl ?_
  have hF : fr [1, 2] [] true true S S := fr_rf
  refine mw_iload_n dX9_feed_0 rfl 1 rfl ?_
  refine mw_if_lt (tgt := 11) dX9_feed_1 (by decide) (fun q101 => ?_) (fun q101 => ?_)
  · skip
    have b102 : mm_b (-2147483648) (-1) x1 := bd_lt_l q101 (bd_all x1) n_0 (by decide)
    refine mw_ldc dX9_feed_11 kX9_86 ?_
    exact mw_iret rfl dX9_feed_13 rfl rfl ⟨S, _, rfl, rfl, hI, hF, bd_w n_m1000000002 (by decide), trivial, (by rw [F_X9_feed, if_pos q101])⟩
  · skip
    have b103 : mm_b (0) (2147483647) x1 := bd_le_r (bd_nlt q101) n_0 (bd_all x1) (by decide)
    refine mw_iload_n dX9_feed_4 rfl 1 rfl ?_
    refine mw_sipush dX9_feed_5 ks_255 ?_
    refine mw_icmp_le (tgt := 14) dX9_feed_8 (by decide) (fun q104 => ?_) (fun q104 => ?_)
    · skip
      have b105 : mm_b (0) (255) x1 := bd_le_l q104 b103 n_255 (by decide)
      refine mw_aload_n dX9_feed_14 rfl 0 rfl ?_
      refine tw_getr (j := 0) dX9_feed_15 shC_0 rfl rfl (by decide) fX9_10 ?_
      refine mw_iload_n dX9_feed_18 rfl 1 rfl ?_
      refine tc_Vi (as := [.int x1]) (st := []) dX9_feed_19 rfl shC_1 rfl rfl mX9_87 t_X8_add rfl (Nat.le_of_ble_eq_true rfl) (by decide) (by decide) (cx_X8_add (g := g) S hI x1 b105) (fun S106 v108 h107 => ?_)
      obtain ⟨hI113, hf114, b109, x110, hx111⟩ := h107
      have hF115 := fr_tr hF hf114 (by decide) (by decide) (by decide) (by decide)
      have hE116 : F_X9_feed S x1 = F_X9_feed_ftc22 v108 S106 := (by rw [F_X9_feed, if_neg q101, if_pos q104, hx111])
      refine mw_if_eq (tgt := 35) dX9_feed_22 (by decide) (fun q117 => ?_) (fun q117 => ?_)
      · skip
        have b118 : mm_b (0) (0) v108 := bd_eq_l q117 b109 n_0 (by decide)
        refine mw_ldc dX9_feed_35 kX9_95 ?_
        exact mw_iret rfl dX9_feed_37 rfl rfl ⟨S106, _, rfl, rfl, hI113, hF115, bd_w n_m1000000004 (by decide), trivial, (by exact hE116.trans (by rw [F_X9_feed_ftc22, if_pos q117]))⟩
      · skip
        have b119 : mm_b (1) (1) v108 := bd_ne_l q117 b109 n_0 (by decide)
        refine mw_aload_n dX9_feed_25 rfl 0 rfl ?_
        refine tw_getr (j := 0) dX9_feed_26 shC_0 rfl rfl (by decide) fX9_10 ?_
        refine tw_geti (j := 0) dX9_feed_29 shC_1 rfl rfl (by decide) fX9_91 (fun v120 ev120 => ?_)
        have b121 : mm_b (0) (240) v120 := JIC_fld hI113 ev120 tbC_0 (by decide)
        refine mw_goto (tgt := 37) dX9_feed_32 (by decide) ?_
        exact mw_iret rfl dX9_feed_37 rfl rfl ⟨S106, _, rfl, rfl, hI113, hF115, bd_w b121 (by decide), trivial, (by subst ev120; exact hE116.trans (by rw [F_X9_feed_ftc22, if_neg q117]))⟩
    · skip
      have b122 : mm_b (256) (2147483647) x1 := bd_lt_r (bd_nle q104) n_255 b103 (by decide)
      refine mw_ldc dX9_feed_11 kX9_86 ?_
      exact mw_iret rfl dX9_feed_13 rfl rfl ⟨S, _, rfl, rfl, hI, hF, bd_w n_m1000000002 (by decide), trivial, (by rw [F_X9_feed, if_neg q101, if_neg q104])⟩
def F_X9_parish_L84  : Nat → mm_S → Int32 → Int32 × mm_S
  | 0, S169, _ => (0, S169)
  | N + 1, S169, y172 => (if (2 : Int32) ≤ y172 then ((S169.1 (S169.2.2 0 1) 0), S169) else ((F_X9_parish_L84  N) (mm_up S169 (aaC_127 y172) 0 (0 : Int32)) (y172 + Int32.ofInt 1)))
def F_X9_parish_c11tu51c54c61c68c75c82 (S161 : mm_S) : Int32 × mm_S := (F_X9_parish_L84  4 S161 (0 : Int32))
def F_X9_parish_c11tu51c54c61c68c75 (S153 : mm_S) : Int32 × mm_S := (F_X9_parish_c11tu51c54c61c68c75c82 (F_X7_forget S153))
def F_X9_parish_c11tu51c54c61c68 (S145 : mm_S) : Int32 × mm_S := (F_X9_parish_c11tu51c54c61c68c75 (F_X2_clear_135 S145))
def F_X9_parish_c11tu51c54c61 (S137 : mm_S) : Int32 × mm_S := (F_X9_parish_c11tu51c54c61c68 (F_X2_clear_132 S137))
def F_X9_parish_c11tu51c54 (S129 : mm_S) : Int32 × mm_S := (F_X9_parish_c11tu51c54c61 (F_X2_clear_129 S129))
def F_X9_parish_c11tu51 (S124 : mm_S) (a126 : Nat) : Int32 × mm_S := (F_X9_parish_c11tu51c54 (F_X3_begin S124 a126))
def F_X9_parish_c11 (v105 : Int32) (S103 : mm_S) : Int32 × mm_S := (if v105 = (0 : Int32) then (((-10 : Int32) - (S103.1 1 1)), S103) else (F_X9_parish_c11tu51 (mm_upR (mm_upR S103 0 1 (S103.2.2 0 2)) 0 2 (S103.2.2 0 1)) ((mm_upR (mm_upR S103 0 1 (S103.2.2 0 2)) 0 2 (S103.2.2 0 1)).2.2 0 1)))
def F_X9_parish (S : mm_S)  : Int32 × mm_S := (F_X9_parish_c11 (F_X8_readInto S (S.2.2 0 2)).1 (F_X8_readInto S (S.2.2 0 2)).2)
set_option maxRecDepth 100000 in
set_option maxHeartbeats 4000000 in
theorem cx_X9_parish {g : mm_G} (S : mm_S) (hI : JC S)  : mc g yX9_parish cX9_parish 3 (some .int) (mm_rm 6) [.ref 0] (mm_enc shC S) (qi shC (fun S1 v => JC S1 ∧ fr [1, 3, 4, 5, 6, 7, 8, 9, 10, 11, 12, 13, 14, 15, 16, 17, 18, 19, 25, 129, 132, 135, 151, 157] [] false true S S1 ∧ mm_b (-2147483648) (2147483647) v ∧ (True) ∧ F_X9_parish S = (v, S1))) := by
  refine mc_of2 (own := RX9) (ini := false) (ls := [(0, .ref 0)]) (by decide) (Nat.le_of_ble_eq_true rfl) rfl (by decide) rfl ?_
  have hF : fr [1, 3, 4, 5, 6, 7, 8, 9, 10, 11, 12, 13, 14, 15, 16, 17, 18, 19, 25, 129, 132, 135, 151, 157] [] false true S S := fr_rf
  refine mw_aload_n dX9_parish_0 rfl 0 rfl ?_
  refine tw_getr (j := 0) dX9_parish_1 shC_0 rfl rfl (by decide) fX9_10 ?_
  refine mw_aload_n dX9_parish_4 rfl 0 rfl ?_
  refine tw_getm (j := 2) dX9_parish_5 shC_0 rfl rfl (by decide) fX9_23 (fun a101 ea101 => ?_)
  have ha102 : a101 ∈ LC_parish := by rw [ea101]; exact JRC_2 hI
  refine tc_Vi (as := [.ref a101]) (st := []) dX9_parish_8 rfl shC_1 rfl rfl mX9_96 t_X8_readInto rfl (Nat.le_of_ble_eq_true rfl) (by decide) (by decide) (cx_X8_readInto (g := g) S hI a101 ha102) (fun S103 v105 h104 => ?_)
  obtain ⟨hI110, hf111, b106, x107, hx108⟩ := h104
  have hF112 := fr_tr hF hf111 (by decide) (by decide) (by decide) (by decide)
  have hE113 : F_X9_parish S = F_X9_parish_c11 v105 S103 := (by subst ea101; rw [F_X9_parish, hx108])
  refine mw_if_ne (tgt := 25) dX9_parish_11 (by decide) (fun q114 => ?_) (fun q114 => ?_)
  · skip
    have b115 : mm_b (1) (1) v105 := bd_ne_l q114 b106 n_0 (by decide)
    refine mw_aload_n dX9_parish_25 rfl 0 rfl ?_
    refine tw_getm (j := 1) dX9_parish_26 shC_0 rfl rfl (by decide) fX9_19 (fun a116 ea116 => ?_)
    have ha117 : a116 ∈ LC_parish := by rw [ea116]; exact JRC_1 hI110
    refine mw_astore_n (ls' := [(1, .ref a116), (0, .ref 0)]) dX9_parish_29 rfl (by decide) rfl ?_
    refine mw_aload_n dX9_parish_30 rfl 1 rfl ?_
    refine mw_aload_n dX9_parish_31 rfl 1 rfl ?_
    refine tw_getm (j := 2) dX9_parish_32 shC_0 rfl rfl (by decide) fX9_23 (fun a118 ea118 => ?_)
    have ha119 : a118 ∈ LC_parish := by rw [ea118]; exact JRC_2 hI110
    refine tw_putm (D := "VoiceWills$Parish") (j := 1) dX9_parish_35 shC_0 rfl rfl (by decide) fX9_19 rfl (by decide +kernel) ?_
    have hI120 : JC (mm_upR S103 0 1 a118) := JRC_put1 hI110 ha119
    generalize hS121 : mm_upR S103 0 1 a118 = S121 at hI120 ⊢
    have hF122 := fr_upR hF112 hS121
    refine mw_aload_n dX9_parish_38 rfl 1 rfl ?_
    refine mw_aload_n dX9_parish_39 rfl 0 rfl ?_
    refine tw_putm (D := "VoiceWills$Parish") (j := 2) dX9_parish_40 shC_0 rfl rfl (by decide) fX9_23 rfl (by decide +kernel) ?_
    have hI123 : JC (mm_upR S121 0 2 a116) := JRC_put2 hI120 ha117
    generalize hS124 : mm_upR S121 0 2 a116 = S124 at hI123 ⊢
    have hF125 := fr_upR hF122 hS124
    refine mw_aload_n dX9_parish_43 rfl 1 rfl ?_
    refine tw_getr (j := 3) dX9_parish_44 shC_0 rfl rfl (by decide) fX9_29 ?_
    refine mw_aload_n dX9_parish_47 rfl 1 rfl ?_
    refine tw_getm (j := 1) dX9_parish_48 shC_0 rfl rfl (by decide) fX9_19 (fun a126 ea126 => ?_)
    have ha127 : a126 ∈ LC_parish := by rw [ea126]; exact JRC_1 hI123
    have hE128 : F_X9_parish S = F_X9_parish_c11tu51 S124 a126 := (by subst ea126; subst hS124; subst hS121; subst ea118; subst ea116; exact hE113.trans (by rw [F_X9_parish_c11, if_neg q114]))
    refine tc_Vv (as := [.ref a126]) (st := []) dX9_parish_51 rfl shC_15 rfl rfl mX9_103 t_X3_begin rfl (Nat.le_of_ble_eq_true rfl) (by decide) (by decide) (cx_X3_begin (g := g) S124 hI123 a126 ha127) (fun S129 h130 => ?_)
    obtain ⟨hI133, hf134, x131, hx132⟩ := h130
    have hF135 := fr_tr hF125 hf134 (by decide) (by decide) (by decide) (by decide)
    have hE136 : F_X9_parish S = F_X9_parish_c11tu51c54 S129 := (by exact hE128.trans (by rw [F_X9_parish_c11tu51, hx132]))
    refine mw_aload_n dX9_parish_54 rfl 1 rfl ?_
    refine tw_getr (j := 8) dX9_parish_55 shC_0 rfl rfl (by decide) fX9_61 ?_
    refine tc_Vv (as := []) (st := []) dX9_parish_58 rfl shC_129 rfl rfl mX9_107 t_X2_clear rfl (Nat.le_of_ble_eq_true rfl) (by decide) (by decide) (cx_X2_clear_129 (g := g) S129 hI133) (fun S137 h138 => ?_)
    obtain ⟨hI141, hf142, x139, hx140⟩ := h138
    have hF143 := fr_tr hF135 hf142 (by decide) (by decide) (by decide) (by decide)
    have hE144 : F_X9_parish S = F_X9_parish_c11tu51c54c61 S137 := (by exact hE136.trans (by rw [F_X9_parish_c11tu51c54, hx140]))
    refine mw_aload_n dX9_parish_61 rfl 1 rfl ?_
    refine tw_getr (j := 9) dX9_parish_62 shC_0 rfl rfl (by decide) fX9_65 ?_
    refine tc_Vv (as := []) (st := []) dX9_parish_65 rfl shC_132 rfl rfl mX9_107 t_X2_clear rfl (Nat.le_of_ble_eq_true rfl) (by decide) (by decide) (cx_X2_clear_132 (g := g) S137 hI141) (fun S145 h146 => ?_)
    obtain ⟨hI149, hf150, x147, hx148⟩ := h146
    have hF151 := fr_tr hF143 hf150 (by decide) (by decide) (by decide) (by decide)
    have hE152 : F_X9_parish S = F_X9_parish_c11tu51c54c61c68 S145 := (by exact hE144.trans (by rw [F_X9_parish_c11tu51c54c61, hx148]))
    refine mw_aload_n dX9_parish_68 rfl 1 rfl ?_
    refine tw_getr (j := 10) dX9_parish_69 shC_0 rfl rfl (by decide) fX9_68 ?_
    refine tc_Vv (as := []) (st := []) dX9_parish_72 rfl shC_135 rfl rfl mX9_107 t_X2_clear rfl (Nat.le_of_ble_eq_true rfl) (by decide) (by decide) (cx_X2_clear_135 (g := g) S145 hI149) (fun S153 h154 => ?_)
    obtain ⟨hI157, hf158, x155, hx156⟩ := h154
    have hF159 := fr_tr hF151 hf158 (by decide) (by decide) (by decide) (by decide)
    have hE160 : F_X9_parish S = F_X9_parish_c11tu51c54c61c68c75 S153 := (by exact hE152.trans (by rw [F_X9_parish_c11tu51c54c61c68, hx156]))
    refine mw_aload_n dX9_parish_75 rfl 1 rfl ?_
    refine tw_getr (j := 5) dX9_parish_76 shC_0 rfl rfl (by decide) fX9_39 ?_
    refine tc_Vv (as := []) (st := []) dX9_parish_79 rfl shC_25 rfl rfl mX9_110 t_X7_forget rfl (Nat.le_of_ble_eq_true rfl) (by decide) (by decide) (cx_X7_forget (g := g) S153 hI157) (fun S161 h162 => ?_)
    obtain ⟨hI165, hf166, x163, hx164⟩ := h162
    have hF167 := fr_tr hF159 hf166 (by decide) (by decide) (by decide) (by decide)
    have hE168 : F_X9_parish S = F_X9_parish_c11tu51c54c61c68c75c82 S161 := (by exact hE160.trans (by rw [F_X9_parish_c11tu51c54c61c68c75, hx164]))
    refine mw_iconst dX9_parish_82 ki_0 ?_
    refine mw_istore_n (ls' := [(2, .int 0), (1, .ref a116), (0, .ref 0)]) dX9_parish_83 rfl (by decide) rfl ?_
    have cut84 : ∀ (N84 : Nat) (S169 : mm_S) (y172 : Int32), ((3 : Int) - y172.toInt).toNat < N84 → JC S169 → fr [1, 3, 4, 5, 6, 7, 8, 9, 10, 11, 12, 13, 14, 15, 16, 17, 18, 19, 25, 129, 132, 135, 151, 157] [] false true S S169 → mm_b (0) (2) y172 → F_X9_parish S = F_X9_parish_L84  N84 S169 y172 → mw g RX9 cX9_parish 3 (some .int) false (mm_rm 6) (qi shC (fun S1 v => JC S1 ∧ fr [1, 3, 4, 5, 6, 7, 8, 9, 10, 11, 12, 13, 14, 15, 16, 17, 18, 19, 25, 129, 132, 135, 151, 157] [] false true S S1 ∧ mm_b (-2147483648) (2147483647) v ∧ (True) ∧ F_X9_parish S = (v, S1))) 0 0 (mm_enc shC S169) 84 [(0, .ref 0), (2, .int y172)] [] := by
      intro N84
      induction N84 with
      | zero =>
        intro S169 y172 hm174 hI170 hF171 b173 hE175
        exact absurd hm174 (Nat.not_lt_zero _)
      | succ N84 ih84 =>
        intro S169 y172 hm174 hI170 hF171 b173 hE175
        refine mw_iload_n dX9_parish_84 rfl 1 rfl ?_
        refine mw_aload_n dX9_parish_85 rfl 0 rfl ?_
        refine tw_getr (j := 6) dX9_parish_86 shC_0 rfl rfl (by decide) fX9_45 ?_
        refine tw_alenr (v := 2) dX9_parish_89 shC_127 rfl (by decide) ?_
        refine mw_icmp_ge (tgt := 109) dX9_parish_90 (by decide) (fun q176 => ?_) (fun q176 => ?_)
        · skip
          have b177 : mm_b (2) (2) y172 := bd_le_r q176 n_2 b173 (by decide)
          refine mw_aload_n dX9_parish_109 rfl 0 rfl ?_
          refine tw_getm (j := 1) dX9_parish_110 shC_0 rfl rfl (by decide) fX9_19 (fun a178 ea178 => ?_)
          have ha179 : a178 ∈ LC_parish := by rw [ea178]; exact JRC_1 hI170
          refine tw_geti (j := 0) dX9_parish_113 (shC_parish_0 a178 ha179) rfl rfl (by decide) fX9_117 (fun v180 ev180 => ?_)
          have b181 : mm_b (0) (7) v180 := JIC_fld hI170 ev180 (tbC_parish_0_0 a178 ha179) (by decide)
          exact mw_iret rfl dX9_parish_116 rfl rfl ⟨S169, _, rfl, rfl, hI170, hF171, bd_w b181 (by decide), trivial, (by subst ev180; subst ea178; exact hE175.trans (by rw [F_X9_parish_L84, if_pos q176]))⟩
        · skip
          have b182 : mm_b (0) (1) y172 := bd_lt_l (bd_nle q176) b173 n_2 (by decide)
          refine mw_aload_n dX9_parish_93 rfl 0 rfl ?_
          refine tw_getr (j := 6) dX9_parish_94 shC_0 rfl rfl (by decide) fX9_45 ?_
          refine mw_iload_n dX9_parish_97 rfl 1 rfl ?_
          obtain ⟨a183, ea183, ha184⟩ := AAC_127 b182 (by decide)
          refine tw_aald dX9_parish_98 shC_127 rfl rfl (bd_in b182 (by decide)) ea183 (LC_image_lt ha184) ?_
          have e2a183 := aaC_127_get ea183
          refine mw_iconst dX9_parish_99 ki_0 ?_
          refine tw_putz (j := 0) dX9_parish_100 (shC_image_0 a183 ha184) rfl rfl (by decide) fX9_113 rfl (by decide +kernel) (bd_bool n_0 (by decide)) ?_
          have hI185 : JC (mm_up S169 a183 0 0) := JIC_put hI170 n_0 (ckZ ha184 (by decide +kernel))
          generalize hS186 : (mm_up S169 a183 0 0) = S186 at hI185 ⊢
          have hF187 := fr_upA hF171 hS186 (memZ ha184 (by decide))
          refine mw_iinc (ls' := fun v => [(2, .int v), (0, .ref 0)]) dX9_parish_103 1 rfl (by decide) (fun _ => rfl) (fun v188 ev188 => ?_)
          have b189 : mm_b (1) (2) v188 := bd_inc ev188 b182 (by decide)
          refine mw_goto (tgt := 84) dX9_parish_106 (by decide) ?_
          refine mw_ls [1, 0] rfl ?_
          exact ih84 S186 v188 (ms_inc ev188 b182 (by decide) hm174) hI185 hF187 (bd_w b189 (by decide)) (by subst ev188; subst hS186; subst e2a183; exact hE175.trans (by rw [F_X9_parish_L84, if_neg q176]))
    refine mw_ls [2, 0] rfl ?_
    exact cut84 4 S161 (0 : Int32) (by have hz := n_0; omega) hI165 hF167 (bd_w n_0 (by decide)) (by exact hE168.trans (by rw [F_X9_parish_c11tu51c54c61c68c75c82]))
  · skip
    have b190 : mm_b (0) (0) v105 := bd_eq_l q114 b106 n_0 (by decide)
    refine mw_bipush dX9_parish_14 kb_m10 ?_
    refine mw_aload_n dX9_parish_16 rfl 0 rfl ?_
    refine tw_getr (j := 0) dX9_parish_17 shC_0 rfl rfl (by decide) fX9_10 ?_
    refine tw_geti (j := 1) dX9_parish_20 shC_1 rfl rfl (by decide) fX9_100 (fun v191 ev191 => ?_)
    refine mw_isub dX9_parish_23 (fun v192 ev192 => ?_)
    exact mw_iret rfl dX9_parish_24 rfl rfl ⟨S103, _, rfl, rfl, hI110, hF112, (bd_all v192), trivial, (by subst ev192; subst ev191; exact hE113.trans (by rw [F_X9_parish_c11, if_pos q114]))⟩
def F_X9_see_ttc31 (v116 : Int32) (S114 : mm_S) : Int32 × mm_S := (if v116 = (0 : Int32) then ((-1000000004 : Int32), S114) else ((S114.1 129 0), S114))
def F_X9_see (S : mm_S) (x1 : Int32) (x2 : Int32) : Int32 × mm_S := (if (F_X6_hasDoor S (S.2.2 0 1) x1) = (0 : Int32) then ((-1000000001 : Int32), S) else (if x2 = (0 : Int32) then (F_X9_see_ttc31 (F_X2_add_129 S x1 (0 : Int32)).1 (F_X2_add_129 S x1 (0 : Int32)).2) else (F_X9_see_ttc31 (F_X2_add_129 S x1 (1 : Int32)).1 (F_X2_add_129 S x1 (1 : Int32)).2)))
set_option maxRecDepth 100000 in
set_option maxHeartbeats 4000000 in
theorem cx_X9_see {g : mm_G} (S : mm_S) (hI : JC S) (x1 : Int32) (x2 : Int32) (h2 : mm_b (0) (1) x2) : mc g yX9_see cX9_see 3 (some .int) (mm_rm 1) [.ref 0, .int x1, .int x2] (mm_enc shC S) (qi shC (fun S1 v => JC S1 ∧ fr [129, 130, 131] [] true true S S1 ∧ mm_b (-1000000004) (6) v ∧ (True) ∧ F_X9_see S x1 x2 = (v, S1))) := by
  refine mc_of2 (own := RX9) (ini := false) (ls := [(0, .ref 0), (1, .int x1), (2, .int x2)]) (by decide) (Nat.le_of_ble_eq_true rfl) rfl (by decide) rfl ?_
  have hF : fr [129, 130, 131] [] true true S S := fr_rf
  refine mw_aload_n dX9_see_0 rfl 0 rfl ?_
  refine tw_getm (j := 1) dX9_see_1 shC_0 rfl rfl (by decide) fX9_19 (fun a101 ea101 => ?_)
  have ha102 : a101 ∈ LC_parish := by rw [ea101]; exact JRC_1 hI
  refine mw_iload_n dX9_see_4 rfl 1 rfl ?_
  refine tc_Vi (as := [.int x1]) (st := []) dX9_see_5 rfl (shC_parish_0 a101 ha102) rfl rfl mX9_173 t_X6_hasDoor rfl (Nat.le_of_ble_eq_true rfl) (by decide) (by decide) (cx_X6_hasDoor (g := g) S hI a101 ha102 x1) (fun S103 v105 h104 => ?_)
  obtain ⟨rfl, b106, x107, hx108⟩ := h104
  refine mw_if_ne (tgt := 14) dX9_see_8 (by decide) (fun q109 => ?_) (fun q109 => ?_)
  · skip
    have b110 : mm_b (1) (1) v105 := bd_ne_l q109 b106 n_0 (by decide)
    have b111 := Or.resolve_left x107 q109
    refine mw_aload_n dX9_see_14 rfl 0 rfl ?_
    refine tw_getr (j := 8) dX9_see_15 shC_0 rfl rfl (by decide) fX9_61 ?_
    refine mw_iload_n dX9_see_18 rfl 1 rfl ?_
    refine mw_iload_n dX9_see_19 rfl 2 rfl ?_
    refine mw_if_eq (tgt := 27) dX9_see_20 (by decide) (fun q112 => ?_) (fun q112 => ?_)
    · skip
      have b113 : mm_b (0) (0) x2 := bd_eq_l q112 h2 n_0 (by decide)
      refine mw_iconst dX9_see_27 ki_0 ?_
      refine tc_Vi (as := [.int x1, .int 0]) (st := []) dX9_see_28 rfl shC_129 rfl rfl mX9_263 t_X2_add rfl (Nat.le_of_ble_eq_true rfl) (by decide) (by decide) (cx_X2_add_129 (g := g) S hI x1 (0 : Int32)) (fun S114 v116 h115 => ?_)
      obtain ⟨hI121, hf122, b117, x118, hx119⟩ := h115
      have hF123 := fr_tr hF hf122 (by decide) (by decide) (by decide) (by decide)
      have hE124 : F_X9_see S x1 x2 = F_X9_see_ttc31 v116 S114 := (by subst hx108; subst ea101; rw [F_X9_see, if_neg q109, if_pos q112, hx119])
      refine mw_if_eq (tgt := 44) dX9_see_31 (by decide) (fun q125 => ?_) (fun q125 => ?_)
      · skip
        have b126 : mm_b (0) (0) v116 := bd_eq_l q125 b117 n_0 (by decide)
        refine mw_ldc dX9_see_44 kX9_95 ?_
        exact mw_iret rfl dX9_see_46 rfl rfl ⟨S114, _, rfl, rfl, hI121, hF123, bd_w n_m1000000004 (by decide), trivial, (by exact hE124.trans (by rw [F_X9_see_ttc31, if_pos q125]))⟩
      · skip
        have b127 : mm_b (1) (1) v116 := bd_ne_l q125 b117 n_0 (by decide)
        refine mw_aload_n dX9_see_34 rfl 0 rfl ?_
        refine tw_getr (j := 8) dX9_see_35 shC_0 rfl rfl (by decide) fX9_61 ?_
        refine tw_geti (j := 0) dX9_see_38 shC_129 rfl rfl (by decide) fX9_145 (fun v128 ev128 => ?_)
        have b129 : mm_b (0) (6) v128 := JIC_fld hI121 ev128 tbC_34 (by decide)
        refine mw_goto (tgt := 46) dX9_see_41 (by decide) ?_
        exact mw_iret rfl dX9_see_46 rfl rfl ⟨S114, _, rfl, rfl, hI121, hF123, bd_w b129 (by decide), trivial, (by subst ev128; exact hE124.trans (by rw [F_X9_see_ttc31, if_neg q125]))⟩
    · skip
      have b130 : mm_b (1) (1) x2 := bd_ne_l q112 h2 n_0 (by decide)
      refine mw_iconst dX9_see_23 ki_1 ?_
      refine mw_goto (tgt := 28) dX9_see_24 (by decide) ?_
      refine tc_Vi (as := [.int x1, .int 1]) (st := []) dX9_see_28 rfl shC_129 rfl rfl mX9_263 t_X2_add rfl (Nat.le_of_ble_eq_true rfl) (by decide) (by decide) (cx_X2_add_129 (g := g) S hI x1 (1 : Int32)) (fun S131 v133 h132 => ?_)
      obtain ⟨hI138, hf139, b134, x135, hx136⟩ := h132
      have hF140 := fr_tr hF hf139 (by decide) (by decide) (by decide) (by decide)
      have hE141 : F_X9_see S x1 x2 = F_X9_see_ttc31 v133 S131 := (by subst hx108; subst ea101; rw [F_X9_see, if_neg q109, if_neg q112, hx136])
      refine mw_if_eq (tgt := 44) dX9_see_31 (by decide) (fun q142 => ?_) (fun q142 => ?_)
      · skip
        have b143 : mm_b (0) (0) v133 := bd_eq_l q142 b134 n_0 (by decide)
        refine mw_ldc dX9_see_44 kX9_95 ?_
        exact mw_iret rfl dX9_see_46 rfl rfl ⟨S131, _, rfl, rfl, hI138, hF140, bd_w n_m1000000004 (by decide), trivial, (by exact hE141.trans (by rw [F_X9_see_ttc31, if_pos q142]))⟩
      · skip
        have b144 : mm_b (1) (1) v133 := bd_ne_l q142 b134 n_0 (by decide)
        refine mw_aload_n dX9_see_34 rfl 0 rfl ?_
        refine tw_getr (j := 8) dX9_see_35 shC_0 rfl rfl (by decide) fX9_61 ?_
        refine tw_geti (j := 0) dX9_see_38 shC_129 rfl rfl (by decide) fX9_145 (fun v145 ev145 => ?_)
        have b146 : mm_b (0) (6) v145 := JIC_fld hI138 ev145 tbC_34 (by decide)
        refine mw_goto (tgt := 46) dX9_see_41 (by decide) ?_
        exact mw_iret rfl dX9_see_46 rfl rfl ⟨S131, _, rfl, rfl, hI138, hF140, bd_w b146 (by decide), trivial, (by subst ev145; exact hE141.trans (by rw [F_X9_see_ttc31, if_neg q142]))⟩
  · skip
    have b147 : mm_b (0) (0) v105 := bd_eq_l q109 b106 n_0 (by decide)
    refine mw_ldc dX9_see_11 kX9_150 ?_
    exact mw_iret rfl dX9_see_13 rfl rfl ⟨S, _, rfl, rfl, hI, hF, bd_w n_m1000000001 (by decide), trivial, (by subst hx108; subst ea101; rw [F_X9_see, if_pos q109])⟩
def F_X9_has_ftc30 (v124 : Int32) (S122 : mm_S) : Int32 × mm_S := (if v124 = (0 : Int32) then ((-1000000004 : Int32), S122) else ((S122.1 132 0), S122))
def F_X9_has (S : mm_S) (x1 : Int32) (x2 : Int32) : Int32 × mm_S := (if (F_X6_hasPerson S (S.2.2 0 1) x1) = (0 : Int32) then ((-1000000001 : Int32), S) else (if (F_X9_isVoiceOrNone S x2) = (0 : Int32) then ((-1000000001 : Int32), S) else (F_X9_has_ftc30 (F_X2_add_132 S x1 x2).1 (F_X2_add_132 S x1 x2).2)))
set_option maxRecDepth 100000 in
set_option maxHeartbeats 4000000 in
theorem cx_X9_has {g : mm_G} (S : mm_S) (hI : JC S) (x1 : Int32) (x2 : Int32) : mc g yX9_has cX9_has 3 (some .int) (mm_rm 2) [.ref 0, .int x1, .int x2] (mm_enc shC S) (qi shC (fun S1 v => JC S1 ∧ fr [132, 133, 134] [] true true S S1 ∧ mm_b (-1000000004) (6) v ∧ (True) ∧ F_X9_has S x1 x2 = (v, S1))) := by
  refine mc_of2 (own := RX9) (ini := false) (ls := [(0, .ref 0), (1, .int x1), (2, .int x2)]) (by decide) (Nat.le_of_ble_eq_true rfl) rfl (by decide) rfl ?_
  have hF : fr [132, 133, 134] [] true true S S := fr_rf
  refine mw_aload_n dX9_has_0 rfl 0 rfl ?_
  refine tw_getm (j := 1) dX9_has_1 shC_0 rfl rfl (by decide) fX9_19 (fun a101 ea101 => ?_)
  have ha102 : a101 ∈ LC_parish := by rw [ea101]; exact JRC_1 hI
  refine mw_iload_n dX9_has_4 rfl 1 rfl ?_
  refine tc_Vi (as := [.int x1]) (st := []) dX9_has_5 rfl (shC_parish_0 a101 ha102) rfl rfl mX9_147 t_X6_hasPerson rfl (Nat.le_of_ble_eq_true rfl) (by decide) (by decide) (cx_X6_hasPerson (g := g) S hI a101 ha102 x1) (fun S103 v105 h104 => ?_)
  obtain ⟨rfl, b106, x107, hx108⟩ := h104
  refine mw_if_eq (tgt := 18) dX9_has_8 (by decide) (fun q109 => ?_) (fun q109 => ?_)
  · skip
    have b110 : mm_b (0) (0) v105 := bd_eq_l q109 b106 n_0 (by decide)
    refine mw_ldc dX9_has_18 kX9_150 ?_
    exact mw_iret rfl dX9_has_20 rfl rfl ⟨S, _, rfl, rfl, hI, hF, bd_w n_m1000000001 (by decide), trivial, (by subst hx108; subst ea101; rw [F_X9_has, if_pos q109])⟩
  · skip
    have b111 : mm_b (1) (1) v105 := bd_ne_l q109 b106 n_0 (by decide)
    have b112 := Or.resolve_left x107 q109
    refine mw_iload_n dX9_has_11 rfl 2 rfl ?_
    refine tc_Si (as := [.int x2]) (st := []) dX9_has_12 rfl mX9_276 t_X9_isVoiceOrNone rfl (Nat.le_of_ble_eq_true rfl) (by decide) (by decide) (cx_X9_isVoiceOrNone (g := g) S hI x2) (fun S113 v115 h114 => ?_)
    obtain ⟨rfl, b116, x117, hx118⟩ := h114
    refine mw_if_ne (tgt := 21) dX9_has_15 (by decide) (fun q119 => ?_) (fun q119 => ?_)
    · skip
      have b120 : mm_b (1) (1) v115 := bd_ne_l q119 b116 n_0 (by decide)
      have b121 := Or.resolve_left x117 q119
      refine mw_aload_n dX9_has_21 rfl 0 rfl ?_
      refine tw_getr (j := 9) dX9_has_22 shC_0 rfl rfl (by decide) fX9_65 ?_
      refine mw_iload_n dX9_has_25 rfl 1 rfl ?_
      refine mw_iload_n dX9_has_26 rfl 2 rfl ?_
      refine tc_Vi (as := [.int x1, .int x2]) (st := []) dX9_has_27 rfl shC_132 rfl rfl mX9_263 t_X2_add rfl (Nat.le_of_ble_eq_true rfl) (by decide) (by decide) (cx_X2_add_132 (g := g) S hI x1 x2) (fun S122 v124 h123 => ?_)
      obtain ⟨hI129, hf130, b125, x126, hx127⟩ := h123
      have hF131 := fr_tr hF hf130 (by decide) (by decide) (by decide) (by decide)
      have hE132 : F_X9_has S x1 x2 = F_X9_has_ftc30 v124 S122 := (by subst hx118; subst hx108; subst ea101; rw [F_X9_has, if_neg q109, if_neg q119, hx127])
      refine mw_if_eq (tgt := 43) dX9_has_30 (by decide) (fun q133 => ?_) (fun q133 => ?_)
      · skip
        have b134 : mm_b (0) (0) v124 := bd_eq_l q133 b125 n_0 (by decide)
        refine mw_ldc dX9_has_43 kX9_95 ?_
        exact mw_iret rfl dX9_has_45 rfl rfl ⟨S122, _, rfl, rfl, hI129, hF131, bd_w n_m1000000004 (by decide), trivial, (by exact hE132.trans (by rw [F_X9_has_ftc30, if_pos q133]))⟩
      · skip
        have b135 : mm_b (1) (1) v124 := bd_ne_l q133 b125 n_0 (by decide)
        refine mw_aload_n dX9_has_33 rfl 0 rfl ?_
        refine tw_getr (j := 9) dX9_has_34 shC_0 rfl rfl (by decide) fX9_65 ?_
        refine tw_geti (j := 0) dX9_has_37 shC_132 rfl rfl (by decide) fX9_145 (fun v136 ev136 => ?_)
        have b137 : mm_b (0) (6) v136 := JIC_fld hI129 ev136 tbC_35 (by decide)
        refine mw_goto (tgt := 45) dX9_has_40 (by decide) ?_
        exact mw_iret rfl dX9_has_45 rfl rfl ⟨S122, _, rfl, rfl, hI129, hF131, bd_w b137 (by decide), trivial, (by subst ev136; exact hE132.trans (by rw [F_X9_has_ftc30, if_neg q133]))⟩
    · skip
      have b138 : mm_b (0) (0) v115 := bd_eq_l q119 b116 n_0 (by decide)
      refine mw_ldc dX9_has_18 kX9_150 ?_
      exact mw_iret rfl dX9_has_20 rfl rfl ⟨S, _, rfl, rfl, hI, hF, bd_w n_m1000000001 (by decide), trivial, (by subst hx118; subst hx108; subst ea101; rw [F_X9_has, if_neg q109, if_pos q119])⟩
def F_X9_write_ftc30 (v124 : Int32) (S122 : mm_S) : Int32 × mm_S := (if v124 = (0 : Int32) then ((-1000000004 : Int32), S122) else ((S122.1 135 0), S122))
def F_X9_write (S : mm_S) (x1 : Int32) (x2 : Int32) : Int32 × mm_S := (if (F_X6_hasPerson S (S.2.2 0 1) x1) = (0 : Int32) then ((-1000000001 : Int32), S) else (if (F_X9_isVoiceOrNone S x2) = (0 : Int32) then ((-1000000001 : Int32), S) else (F_X9_write_ftc30 (F_X2_add_135 S x1 x2).1 (F_X2_add_135 S x1 x2).2)))
set_option maxRecDepth 100000 in
set_option maxHeartbeats 4000000 in
theorem cx_X9_write {g : mm_G} (S : mm_S) (hI : JC S) (x1 : Int32) (x2 : Int32) : mc g yX9_write cX9_write 3 (some .int) (mm_rm 2) [.ref 0, .int x1, .int x2] (mm_enc shC S) (qi shC (fun S1 v => JC S1 ∧ fr [135, 136, 137] [] true true S S1 ∧ mm_b (-1000000004) (15) v ∧ (True) ∧ F_X9_write S x1 x2 = (v, S1))) := by
  refine mc_of2 (own := RX9) (ini := false) (ls := [(0, .ref 0), (1, .int x1), (2, .int x2)]) (by decide) (Nat.le_of_ble_eq_true rfl) rfl (by decide) rfl ?_
  have hF : fr [135, 136, 137] [] true true S S := fr_rf
  refine mw_aload_n dX9_write_0 rfl 0 rfl ?_
  refine tw_getm (j := 1) dX9_write_1 shC_0 rfl rfl (by decide) fX9_19 (fun a101 ea101 => ?_)
  have ha102 : a101 ∈ LC_parish := by rw [ea101]; exact JRC_1 hI
  refine mw_iload_n dX9_write_4 rfl 1 rfl ?_
  refine tc_Vi (as := [.int x1]) (st := []) dX9_write_5 rfl (shC_parish_0 a101 ha102) rfl rfl mX9_147 t_X6_hasPerson rfl (Nat.le_of_ble_eq_true rfl) (by decide) (by decide) (cx_X6_hasPerson (g := g) S hI a101 ha102 x1) (fun S103 v105 h104 => ?_)
  obtain ⟨rfl, b106, x107, hx108⟩ := h104
  refine mw_if_eq (tgt := 18) dX9_write_8 (by decide) (fun q109 => ?_) (fun q109 => ?_)
  · skip
    have b110 : mm_b (0) (0) v105 := bd_eq_l q109 b106 n_0 (by decide)
    refine mw_ldc dX9_write_18 kX9_150 ?_
    exact mw_iret rfl dX9_write_20 rfl rfl ⟨S, _, rfl, rfl, hI, hF, bd_w n_m1000000001 (by decide), trivial, (by subst hx108; subst ea101; rw [F_X9_write, if_pos q109])⟩
  · skip
    have b111 : mm_b (1) (1) v105 := bd_ne_l q109 b106 n_0 (by decide)
    have b112 := Or.resolve_left x107 q109
    refine mw_iload_n dX9_write_11 rfl 2 rfl ?_
    refine tc_Si (as := [.int x2]) (st := []) dX9_write_12 rfl mX9_276 t_X9_isVoiceOrNone rfl (Nat.le_of_ble_eq_true rfl) (by decide) (by decide) (cx_X9_isVoiceOrNone (g := g) S hI x2) (fun S113 v115 h114 => ?_)
    obtain ⟨rfl, b116, x117, hx118⟩ := h114
    refine mw_if_ne (tgt := 21) dX9_write_15 (by decide) (fun q119 => ?_) (fun q119 => ?_)
    · skip
      have b120 : mm_b (1) (1) v115 := bd_ne_l q119 b116 n_0 (by decide)
      have b121 := Or.resolve_left x117 q119
      refine mw_aload_n dX9_write_21 rfl 0 rfl ?_
      refine tw_getr (j := 10) dX9_write_22 shC_0 rfl rfl (by decide) fX9_68 ?_
      refine mw_iload_n dX9_write_25 rfl 1 rfl ?_
      refine mw_iload_n dX9_write_26 rfl 2 rfl ?_
      refine tc_Vi (as := [.int x1, .int x2]) (st := []) dX9_write_27 rfl shC_135 rfl rfl mX9_263 t_X2_add rfl (Nat.le_of_ble_eq_true rfl) (by decide) (by decide) (cx_X2_add_135 (g := g) S hI x1 x2) (fun S122 v124 h123 => ?_)
      obtain ⟨hI129, hf130, b125, x126, hx127⟩ := h123
      have hF131 := fr_tr hF hf130 (by decide) (by decide) (by decide) (by decide)
      have hE132 : F_X9_write S x1 x2 = F_X9_write_ftc30 v124 S122 := (by subst hx118; subst hx108; subst ea101; rw [F_X9_write, if_neg q109, if_neg q119, hx127])
      refine mw_if_eq (tgt := 43) dX9_write_30 (by decide) (fun q133 => ?_) (fun q133 => ?_)
      · skip
        have b134 : mm_b (0) (0) v124 := bd_eq_l q133 b125 n_0 (by decide)
        refine mw_ldc dX9_write_43 kX9_95 ?_
        exact mw_iret rfl dX9_write_45 rfl rfl ⟨S122, _, rfl, rfl, hI129, hF131, bd_w n_m1000000004 (by decide), trivial, (by exact hE132.trans (by rw [F_X9_write_ftc30, if_pos q133]))⟩
      · skip
        have b135 : mm_b (1) (1) v124 := bd_ne_l q133 b125 n_0 (by decide)
        refine mw_aload_n dX9_write_33 rfl 0 rfl ?_
        refine tw_getr (j := 10) dX9_write_34 shC_0 rfl rfl (by decide) fX9_68 ?_
        refine tw_geti (j := 0) dX9_write_37 shC_135 rfl rfl (by decide) fX9_145 (fun v136 ev136 => ?_)
        have b137 : mm_b (0) (15) v136 := JIC_fld hI129 ev136 tbC_36 (by decide)
        refine mw_goto (tgt := 45) dX9_write_40 (by decide) ?_
        exact mw_iret rfl dX9_write_45 rfl rfl ⟨S122, _, rfl, rfl, hI129, hF131, bd_w b137 (by decide), trivial, (by subst ev136; exact hE132.trans (by rw [F_X9_write_ftc30, if_neg q133]))⟩
    · skip
      have b138 : mm_b (0) (0) v115 := bd_eq_l q119 b116 n_0 (by decide)
      refine mw_ldc dX9_write_18 kX9_150 ?_
      exact mw_iret rfl dX9_write_20 rfl rfl ⟨S, _, rfl, rfl, hI, hF, bd_w n_m1000000001 (by decide), trivial, (by subst hx118; subst hx108; subst ea101; rw [F_X9_write, if_neg q109, if_pos q119])⟩
def F_X9_tear_c31c38c45 (v109 : Int32) (S127 : mm_S) : Int32 × mm_S := (v109, S127)
def F_X9_tear_c31c38 (v109 : Int32) (S119 : mm_S) : Int32 × mm_S := (F_X9_tear_c31c38c45 v109 (F_X2_clear_135 S119))
def F_X9_tear_c31 (v109 : Int32) (S111 : mm_S) : Int32 × mm_S := (F_X9_tear_c31c38 v109 (F_X2_clear_132 S111))
def F_X9_tear (S : mm_S)  : Int32 × mm_S := (F_X9_tear_c31 (((S.1 129 0) + (S.1 132 0)) + (S.1 135 0)) (F_X2_clear_129 S))
set_option maxRecDepth 100000 in
set_option maxHeartbeats 4000000 in
theorem cx_X9_tear {g : mm_G} (S : mm_S) (hI : JC S)  : mc g yX9_tear cX9_tear 2 (some .int) (mm_rm 1) [.ref 0] (mm_enc shC S) (qi shC (fun S1 v => JC S1 ∧ fr [129, 132, 135] [] true true S S1 ∧ mm_b (0) (27) v ∧ (True) ∧ F_X9_tear S = (v, S1))) := by
  refine mc_of2 (own := RX9) (ini := false) (ls := [(0, .ref 0)]) (by decide) (Nat.le_of_ble_eq_true rfl) rfl (by decide) rfl ?_
  have hF : fr [129, 132, 135] [] true true S S := fr_rf
  refine mw_aload_n dX9_tear_0 rfl 0 rfl ?_
  refine tw_getr (j := 8) dX9_tear_1 shC_0 rfl rfl (by decide) fX9_61 ?_
  refine tw_geti (j := 0) dX9_tear_4 shC_129 rfl rfl (by decide) fX9_145 (fun v101 ev101 => ?_)
  have b102 : mm_b (0) (6) v101 := JIC_fld hI ev101 tbC_34 (by decide)
  refine mw_aload_n dX9_tear_7 rfl 0 rfl ?_
  refine tw_getr (j := 9) dX9_tear_8 shC_0 rfl rfl (by decide) fX9_65 ?_
  refine tw_geti (j := 0) dX9_tear_11 shC_132 rfl rfl (by decide) fX9_145 (fun v103 ev103 => ?_)
  have b104 : mm_b (0) (6) v103 := JIC_fld hI ev103 tbC_35 (by decide)
  refine mw_iadd dX9_tear_14 (fun v105 ev105 => ?_)
  have b106 : mm_b (0) (12) v105 := bd_add ev105 b102 b104 (by decide)
  refine mw_aload_n dX9_tear_15 rfl 0 rfl ?_
  refine tw_getr (j := 10) dX9_tear_16 shC_0 rfl rfl (by decide) fX9_68 ?_
  refine tw_geti (j := 0) dX9_tear_19 shC_135 rfl rfl (by decide) fX9_145 (fun v107 ev107 => ?_)
  have b108 : mm_b (0) (15) v107 := JIC_fld hI ev107 tbC_36 (by decide)
  refine mw_iadd dX9_tear_22 (fun v109 ev109 => ?_)
  have b110 : mm_b (0) (27) v109 := bd_add ev109 b106 b108 (by decide)
  refine mw_istore_n (ls' := [(1, .int v109), (0, .ref 0)]) dX9_tear_23 rfl (by decide) rfl ?_
  refine mw_aload_n dX9_tear_24 rfl 1 rfl ?_
  refine tw_getr (j := 8) dX9_tear_25 shC_0 rfl rfl (by decide) fX9_61 ?_
  refine tc_Vv (as := []) (st := []) dX9_tear_28 rfl shC_129 rfl rfl mX9_107 t_X2_clear rfl (Nat.le_of_ble_eq_true rfl) (by decide) (by decide) (cx_X2_clear_129 (g := g) S hI) (fun S111 h112 => ?_)
  obtain ⟨hI115, hf116, x113, hx114⟩ := h112
  have hF117 := fr_tr hF hf116 (by decide) (by decide) (by decide) (by decide)
  have hE118 : F_X9_tear S = F_X9_tear_c31 v109 S111 := (by subst ev109; subst ev107; subst ev105; subst ev103; subst ev101; rw [F_X9_tear, hx114])
  refine mw_aload_n dX9_tear_31 rfl 1 rfl ?_
  refine tw_getr (j := 9) dX9_tear_32 shC_0 rfl rfl (by decide) fX9_65 ?_
  refine tc_Vv (as := []) (st := []) dX9_tear_35 rfl shC_132 rfl rfl mX9_107 t_X2_clear rfl (Nat.le_of_ble_eq_true rfl) (by decide) (by decide) (cx_X2_clear_132 (g := g) S111 hI115) (fun S119 h120 => ?_)
  obtain ⟨hI123, hf124, x121, hx122⟩ := h120
  have hF125 := fr_tr hF117 hf124 (by decide) (by decide) (by decide) (by decide)
  have hE126 : F_X9_tear S = F_X9_tear_c31c38 v109 S119 := (by exact hE118.trans (by rw [F_X9_tear_c31, hx122]))
  refine mw_aload_n dX9_tear_38 rfl 1 rfl ?_
  refine tw_getr (j := 10) dX9_tear_39 shC_0 rfl rfl (by decide) fX9_68 ?_
  refine tc_Vv (as := []) (st := []) dX9_tear_42 rfl shC_135 rfl rfl mX9_107 t_X2_clear rfl (Nat.le_of_ble_eq_true rfl) (by decide) (by decide) (cx_X2_clear_135 (g := g) S119 hI123) (fun S127 h128 => ?_)
  obtain ⟨hI131, hf132, x129, hx130⟩ := h128
  have hF133 := fr_tr hF125 hf132 (by decide) (by decide) (by decide) (by decide)
  have hE134 : F_X9_tear S = F_X9_tear_c31c38c45 v109 S127 := (by exact hE126.trans (by rw [F_X9_tear_c31c38, hx130]))
  refine mw_iload_n dX9_tear_45 rfl 0 rfl ?_
  exact mw_iret rfl dX9_tear_46 rfl rfl ⟨S127, _, rfl, rfl, hI131, hF133, b110, trivial, (by exact hE134.trans (by rw [F_X9_tear_c31c38c45]))⟩
def F_X9_keep_ic24u44c47 (S125 : mm_S) : Int32 × mm_S := ((1 : Int32), S125)
def F_X9_keep_ic24u44 (S122 : mm_S) : Int32 × mm_S := (F_X9_keep_ic24u44c47 (F_X7_forget S122))
def F_X9_keep_ic24 (S109 : mm_S) (a104 : Nat) : Int32 × mm_S := (F_X9_keep_ic24u44 (mm_up (mm_up S109 a104 1 (S109.1 128 0)) a104 0 (1 : Int32)))
def F_X9_keep (S : mm_S) (x1 : Int32) : Int32 × mm_S := (if mm_b 0 1 x1 then (F_X9_keep_ic24 (F_X3_copy S ((imgF x1) + 1) 15) (imgF x1)) else ((-1000000001 : Int32), S))
set_option maxRecDepth 100000 in
set_option maxHeartbeats 4000000 in
theorem cx_X9_keep {g : mm_G} (S : mm_S) (hI : JC S) (x1 : Int32) : mc g yX9_keep cX9_keep 3 (some .int) (mm_rm 1) [.ref 0, .int x1] (mm_enc shC S) (qi shC (fun S1 v => JC S1 ∧ fr [15, 16, 17, 18, 19, 20, 21, 22, 23, 24, 25, 27, 28, 29, 30, 31, 32, 33, 34, 35, 36, 37, 38, 39, 40, 41, 42, 43, 44, 45, 46, 47, 48, 49, 50, 51, 52, 53, 54, 55, 56, 57, 58, 59, 60, 61, 62, 63, 64, 65, 66, 67, 68, 69, 70, 71, 72, 73, 74, 75, 76, 77, 78, 79, 80, 81, 82, 83, 84, 85, 86, 87, 88, 89, 90, 91, 92, 93, 94, 95, 96, 97, 98, 99, 100, 101, 102, 103, 104, 105, 106, 107, 108, 109, 110, 111, 112, 113, 114, 115, 116, 117, 118, 119, 120, 121, 122, 123, 124, 125, 126, 151, 152, 153, 154, 155, 156, 157, 158, 159, 160, 161, 162] [] true true S S1 ∧ mm_b (-1000000001) (1) v ∧ (True) ∧ F_X9_keep S x1 = (v, S1))) := by
  refine mc_of2 (own := RX9) (ini := false) (ls := [(0, .ref 0), (1, .int x1)]) (by decide) (Nat.le_of_ble_eq_true rfl) rfl (by decide) rfl ?_
  have hF : fr [15, 16, 17, 18, 19, 20, 21, 22, 23, 24, 25, 27, 28, 29, 30, 31, 32, 33, 34, 35, 36, 37, 38, 39, 40, 41, 42, 43, 44, 45, 46, 47, 48, 49, 50, 51, 52, 53, 54, 55, 56, 57, 58, 59, 60, 61, 62, 63, 64, 65, 66, 67, 68, 69, 70, 71, 72, 73, 74, 75, 76, 77, 78, 79, 80, 81, 82, 83, 84, 85, 86, 87, 88, 89, 90, 91, 92, 93, 94, 95, 96, 97, 98, 99, 100, 101, 102, 103, 104, 105, 106, 107, 108, 109, 110, 111, 112, 113, 114, 115, 116, 117, 118, 119, 120, 121, 122, 123, 124, 125, 126, 151, 152, 153, 154, 155, 156, 157, 158, 159, 160, 161, 162] [] true true S S := fr_rf
  refine mw_aload_n dX9_keep_0 rfl 0 rfl ?_
  refine mw_iload_n dX9_keep_1 rfl 1 rfl ?_
  refine tc_Vr (as := [.int x1]) (st := []) dX9_keep_2 rfl shC_0 rfl rfl mX9_295 t_X9_imageOf rfl (Nat.le_of_ble_eq_true rfl) (by decide) (by decide) (cx_X9_imageOf (g := g) S hI x1) (fun S101 v103 h102 => ?_)
  obtain ⟨rfl, ⟨rfl, hn106⟩ | ⟨a104, ha105, rfl, b107, hx108⟩⟩ := h102
  · skip
    refine mw_astore_nN (ls' := [(2, .null), (0, .ref 0), (1, .int x1)]) dX9_keep_5 rfl (by decide) rfl ?_
    refine mw_aload_nN dX9_keep_6 rfl 0 rfl ?_
    refine mw_nonnullN dX9_keep_7 ?_
    refine mw_ldc dX9_keep_10 kX9_150 ?_
    exact mw_iret rfl dX9_keep_12 rfl rfl ⟨S, _, rfl, rfl, hI, hF, bd_w n_m1000000001 (by decide), trivial, (by rw [F_X9_keep, if_neg hn106])⟩
  · skip
    refine mw_astore_n (ls' := [(2, .ref a104), (0, .ref 0), (1, .int x1)]) dX9_keep_5 rfl (by decide) rfl ?_
    refine mw_aload_n dX9_keep_6 rfl 0 rfl ?_
    refine mw_nonnull (tgt := 13) dX9_keep_7 (by decide) ?_
    refine mw_aload_n dX9_keep_13 rfl 0 rfl ?_
    refine tw_getr (j := 2) dX9_keep_14 (shC_image_0 a104 ha105) rfl rfl (by decide) fX9_299 ?_
    refine mw_aload_n dX9_keep_17 rfl 1 rfl ?_
    refine tw_getr (j := 3) dX9_keep_18 shC_0 rfl rfl (by decide) fX9_29 ?_
    refine tc_Vv (as := [.ref 15]) (st := []) dX9_keep_21 rfl (shC_image_1 a104 ha105) rfl rfl mX9_302 t_X3_copy rfl (Nat.le_of_ble_eq_true rfl) (by decide) (by decide) (cx_X3_copy (g := g) S hI (a104 + 1) (knS ha105 (by decide)) 15 (by decide)) (fun S109 h110 => ?_)
    obtain ⟨hI113, hf114, x111, hx112⟩ := h110
    have hF115 := fr_tr hF hf114 (by decide) (by decide) (by decide) (by decide)
    have hE116 : F_X9_keep S x1 = F_X9_keep_ic24 S109 a104 := (by subst hx108; rw [F_X9_keep, if_pos b107, hx112])
    refine mw_aload_n dX9_keep_24 rfl 0 rfl ?_
    refine mw_aload_n dX9_keep_25 rfl 1 rfl ?_
    refine tw_getr (j := 7) dX9_keep_26 shC_0 rfl rfl (by decide) fX9_52 ?_
    refine tw_geti (j := 0) dX9_keep_29 shC_128 rfl rfl (by decide) fX9_292 (fun v117 ev117 => ?_)
    refine tw_puti (j := 1) dX9_keep_32 (shC_image_0 a104 ha105) rfl rfl (by decide) fX9_305 rfl (by decide +kernel) ?_
    have hI118 : JC (mm_up S109 a104 1 v117) := JIC_put hI113 (bd_all v117) (ckZ ha105 (by decide +kernel))
    generalize hS119 : (mm_up S109 a104 1 v117) = S119 at hI118 ⊢
    have hF120 := fr_upA hF115 hS119 (memZ ha105 (by decide))
    refine mw_aload_n dX9_keep_35 rfl 0 rfl ?_
    refine mw_iconst dX9_keep_36 ki_1 ?_
    refine tw_putz (j := 0) dX9_keep_37 (shC_image_0 a104 ha105) rfl rfl (by decide) fX9_113 rfl (by decide +kernel) (bd_bool n_1 (by decide)) ?_
    have hI121 : JC (mm_up S119 a104 0 1) := JIC_put hI118 n_1 (ckZ ha105 (by decide +kernel))
    generalize hS122 : (mm_up S119 a104 0 1) = S122 at hI121 ⊢
    have hF123 := fr_upA hF120 hS122 (memZ ha105 (by decide))
    refine mw_aload_n dX9_keep_40 rfl 1 rfl ?_
    refine tw_getr (j := 5) dX9_keep_41 shC_0 rfl rfl (by decide) fX9_39 ?_
    have hE124 : F_X9_keep S x1 = F_X9_keep_ic24u44 S122 := (by subst hS122; subst hS119; subst ev117; exact hE116.trans (by rw [F_X9_keep_ic24]))
    refine tc_Vv (as := []) (st := []) dX9_keep_44 rfl shC_25 rfl rfl mX9_110 t_X7_forget rfl (Nat.le_of_ble_eq_true rfl) (by decide) (by decide) (cx_X7_forget (g := g) S122 hI121) (fun S125 h126 => ?_)
    obtain ⟨hI129, hf130, x127, hx128⟩ := h126
    have hF131 := fr_tr hF123 hf130 (by decide) (by decide) (by decide) (by decide)
    have hE132 : F_X9_keep S x1 = F_X9_keep_ic24u44c47 S125 := (by exact hE124.trans (by rw [F_X9_keep_ic24u44, hx128]))
    refine mw_iconst dX9_keep_47 ki_1 ?_
    exact mw_iret rfl dX9_keep_48 rfl rfl ⟨S125, _, rfl, rfl, hI129, hF131, bd_w n_1 (by decide), trivial, (by exact hE132.trans (by rw [F_X9_keep_ic24u44c47]))⟩
def F_X9_goBack_itc34u49c52 (S126 : mm_S) : Int32 × mm_S := ((1 : Int32), S126)
def F_X9_goBack_itc34u49 (S123 : mm_S) : Int32 × mm_S := (F_X9_goBack_itc34u49c52 (F_X7_forget S123))
def F_X9_goBack_itc34 (S113 : mm_S) (a104 : Nat) : Int32 × mm_S := (F_X9_goBack_itc34u49 (mm_up S113 128 0 (S113.1 a104 1)))
def F_X9_goBack (S : mm_S) (x1 : Int32) : Int32 × mm_S := (if mm_b 0 1 x1 then (if (S.1 (imgF x1) 0) = (0 : Int32) then ((-1000000003 : Int32), S) else (F_X9_goBack_itc34 (F_X3_copy S 15 ((imgF x1) + 1)) (imgF x1))) else ((-1000000001 : Int32), S))
set_option maxRecDepth 100000 in
set_option maxHeartbeats 4000000 in
theorem cx_X9_goBack {g : mm_G} (S : mm_S) (hI : JC S) (x1 : Int32) : mc g yX9_goBack cX9_goBack 3 (some .int) (mm_rm 1) [.ref 0, .int x1] (mm_enc shC S) (qi shC (fun S1 v => JC S1 ∧ fr [15, 16, 17, 18, 19, 20, 21, 22, 23, 24, 25, 27, 28, 29, 30, 31, 32, 33, 34, 35, 36, 37, 38, 39, 40, 41, 42, 43, 44, 45, 46, 47, 48, 49, 50, 51, 52, 53, 54, 55, 56, 57, 58, 59, 60, 61, 62, 63, 64, 65, 66, 67, 68, 69, 70, 71, 72, 73, 74, 75, 76, 77, 78, 79, 80, 81, 82, 83, 84, 85, 86, 87, 88, 89, 90, 91, 92, 93, 94, 95, 96, 97, 98, 99, 100, 101, 102, 103, 104, 105, 106, 107, 108, 109, 110, 111, 112, 113, 114, 115, 116, 117, 118, 119, 120, 121, 122, 123, 124, 125, 126, 128, 152, 153, 154, 155, 156, 158, 159, 160, 161, 162] [] true true S S1 ∧ mm_b (-1000000003) (1) v ∧ (True) ∧ F_X9_goBack S x1 = (v, S1))) := by
  refine mc_of2 (own := RX9) (ini := false) (ls := [(0, .ref 0), (1, .int x1)]) (by decide) (Nat.le_of_ble_eq_true rfl) rfl (by decide) rfl ?_
  have hF : fr [15, 16, 17, 18, 19, 20, 21, 22, 23, 24, 25, 27, 28, 29, 30, 31, 32, 33, 34, 35, 36, 37, 38, 39, 40, 41, 42, 43, 44, 45, 46, 47, 48, 49, 50, 51, 52, 53, 54, 55, 56, 57, 58, 59, 60, 61, 62, 63, 64, 65, 66, 67, 68, 69, 70, 71, 72, 73, 74, 75, 76, 77, 78, 79, 80, 81, 82, 83, 84, 85, 86, 87, 88, 89, 90, 91, 92, 93, 94, 95, 96, 97, 98, 99, 100, 101, 102, 103, 104, 105, 106, 107, 108, 109, 110, 111, 112, 113, 114, 115, 116, 117, 118, 119, 120, 121, 122, 123, 124, 125, 126, 128, 152, 153, 154, 155, 156, 158, 159, 160, 161, 162] [] true true S S := fr_rf
  refine mw_aload_n dX9_goBack_0 rfl 0 rfl ?_
  refine mw_iload_n dX9_goBack_1 rfl 1 rfl ?_
  refine tc_Vr (as := [.int x1]) (st := []) dX9_goBack_2 rfl shC_0 rfl rfl mX9_295 t_X9_imageOf rfl (Nat.le_of_ble_eq_true rfl) (by decide) (by decide) (cx_X9_imageOf (g := g) S hI x1) (fun S101 v103 h102 => ?_)
  obtain ⟨rfl, ⟨rfl, hn106⟩ | ⟨a104, ha105, rfl, b107, hx108⟩⟩ := h102
  · skip
    refine mw_astore_nN (ls' := [(2, .null), (0, .ref 0), (1, .int x1)]) dX9_goBack_5 rfl (by decide) rfl ?_
    refine mw_aload_nN dX9_goBack_6 rfl 0 rfl ?_
    refine mw_nonnullN dX9_goBack_7 ?_
    refine mw_ldc dX9_goBack_10 kX9_150 ?_
    exact mw_iret rfl dX9_goBack_12 rfl rfl ⟨S, _, rfl, rfl, hI, hF, bd_w n_m1000000001 (by decide), trivial, (by rw [F_X9_goBack, if_neg hn106])⟩
  · skip
    refine mw_astore_n (ls' := [(2, .ref a104), (0, .ref 0), (1, .int x1)]) dX9_goBack_5 rfl (by decide) rfl ?_
    refine mw_aload_n dX9_goBack_6 rfl 0 rfl ?_
    refine mw_nonnull (tgt := 13) dX9_goBack_7 (by decide) ?_
    refine mw_aload_n dX9_goBack_13 rfl 0 rfl ?_
    refine tw_geti (j := 0) dX9_goBack_14 (shC_image_0 a104 ha105) rfl rfl (by decide) fX9_113 (fun v109 ev109 => ?_)
    have b110 : mm_b (0) (1) v109 := JIC_fld hI ev109 (tbC_image_0_0 a104 ha105) (by decide)
    refine mw_if_ne (tgt := 23) dX9_goBack_17 (by decide) (fun q111 => ?_) (fun q111 => ?_)
    · skip
      have b112 : mm_b (1) (1) v109 := bd_ne_l q111 b110 n_0 (by decide)
      refine mw_aload_n dX9_goBack_23 rfl 1 rfl ?_
      refine tw_getr (j := 3) dX9_goBack_24 shC_0 rfl rfl (by decide) fX9_29 ?_
      refine mw_aload_n dX9_goBack_27 rfl 0 rfl ?_
      refine tw_getr (j := 2) dX9_goBack_28 (shC_image_0 a104 ha105) rfl rfl (by decide) fX9_299 ?_
      refine tc_Vv (as := [.ref (a104 + 1)]) (st := []) dX9_goBack_31 rfl shC_15 rfl rfl mX9_302 t_X3_copy rfl (Nat.le_of_ble_eq_true rfl) (by decide) (by decide) (cx_X3_copy (g := g) S hI 15 (by decide) (a104 + 1) (knS ha105 (by decide))) (fun S113 h114 => ?_)
      obtain ⟨hI117, hf118, x115, hx116⟩ := h114
      have hF119 := fr_tr hF hf118 (by decide) (by decide) (by decide) (by decide)
      have hE120 : F_X9_goBack S x1 = F_X9_goBack_itc34 S113 a104 := (by subst ev109; subst hx108; rw [F_X9_goBack, if_pos b107, if_neg q111, hx116])
      refine mw_aload_n dX9_goBack_34 rfl 1 rfl ?_
      refine tw_getr (j := 7) dX9_goBack_35 shC_0 rfl rfl (by decide) fX9_52 ?_
      refine mw_aload_n dX9_goBack_38 rfl 0 rfl ?_
      refine tw_geti (j := 1) dX9_goBack_39 (shC_image_0 a104 ha105) rfl rfl (by decide) fX9_305 (fun v121 ev121 => ?_)
      refine tw_puti (j := 0) dX9_goBack_42 shC_128 rfl rfl (by decide) fX9_292 rfl (by decide +kernel) ?_
      have hI122 : JC (mm_up S113 128 0 v121) := JIC_put hI117 (bd_all v121) (by decide +kernel)
      generalize hS123 : (mm_up S113 128 0 v121) = S123 at hI122 ⊢
      have hF124 := fr_upA hF119 hS123 (by decide)
      refine mw_aload_n dX9_goBack_45 rfl 1 rfl ?_
      refine tw_getr (j := 5) dX9_goBack_46 shC_0 rfl rfl (by decide) fX9_39 ?_
      have hE125 : F_X9_goBack S x1 = F_X9_goBack_itc34u49 S123 := (by subst hS123; subst ev121; exact hE120.trans (by rw [F_X9_goBack_itc34]))
      refine tc_Vv (as := []) (st := []) dX9_goBack_49 rfl shC_25 rfl rfl mX9_110 t_X7_forget rfl (Nat.le_of_ble_eq_true rfl) (by decide) (by decide) (cx_X7_forget (g := g) S123 hI122) (fun S126 h127 => ?_)
      obtain ⟨hI130, hf131, x128, hx129⟩ := h127
      have hF132 := fr_tr hF124 hf131 (by decide) (by decide) (by decide) (by decide)
      have hE133 : F_X9_goBack S x1 = F_X9_goBack_itc34u49c52 S126 := (by exact hE125.trans (by rw [F_X9_goBack_itc34u49, hx129]))
      refine mw_iconst dX9_goBack_52 ki_1 ?_
      exact mw_iret rfl dX9_goBack_53 rfl rfl ⟨S126, _, rfl, rfl, hI130, hF132, bd_w n_1 (by decide), trivial, (by exact hE133.trans (by rw [F_X9_goBack_itc34u49c52]))⟩
    · skip
      have b134 : mm_b (0) (0) v109 := bd_eq_l q111 b110 n_0 (by decide)
      refine mw_ldc dX9_goBack_20 kX9_179 ?_
      exact mw_iret rfl dX9_goBack_22 rfl rfl ⟨S, _, rfl, rfl, hI, hF, bd_w n_m1000000003 (by decide), trivial, (by subst ev109; subst hx108; rw [F_X9_goBack, if_pos b107, if_pos q111])⟩
