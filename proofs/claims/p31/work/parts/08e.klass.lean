set_option maxRecDepth 100000 in
set_option maxHeartbeats 4000000 in
theorem c_X9_fault {g : mm_G} (S : mm_S) (hI : JC S)  : mc g yX9_fault cX9_fault 1 (some .int) (mm_rm 0) [.ref 0] (mm_enc shC S) (qi shC (fun S1 v => S = S1 ∧ mm_b (-2147483648) (2147483647) v ∧ (True))) := by
  refine mc_of2 (own := RX9) (ini := false) (ls := [(0, .ref 0)]) (by decide) (Nat.le_of_ble_eq_true rfl) rfl (by decide) rfl ?_
  refine mw_aload_n dX9_fault_0 rfl 0 rfl ?_
  refine tw_getr (j := 0) dX9_fault_1 shC_0 rfl rfl (by decide) fX9_10 ?_
  refine tw_geti (j := 2) dX9_fault_4 shC_1 rfl rfl (by decide) fX9_120 (fun v101 ev101 => ?_)
  exact mw_iret rfl dX9_fault_7 rfl rfl ⟨S, _, rfl, rfl, rfl, (bd_all v101), trivial⟩
set_option maxRecDepth 100000 in
set_option maxHeartbeats 4000000 in
theorem c_X9_told {g : mm_G} (S : mm_S) (hI : JC S) (x1 : Int32) : mc g yX9_told cX9_told 2 (some .int) (mm_rm 4) [.ref 0, .int x1] (mm_enc shC S) (qi shC (fun S1 v => S = S1 ∧ mm_b (-2147483648) (2147483647) v ∧ (True))) := by
  refine mc_of2 (own := RX9) (ini := false) (ls := [(0, .ref 0), (1, .int x1)]) (by decide) (Nat.le_of_ble_eq_true rfl) rfl (by decide) rfl ?_
  refine mw_iload_n dX9_told_0 rfl 1 rfl ?_
  rcases (by omega : (x1.toInt < 0 ∨ 11 < x1.toInt) ∨ x1.toInt = 0 ∨ x1.toInt = 1 ∨ x1.toInt = 2 ∨ x1.toInt = 3 ∨ x1.toInt = 4 ∨ x1.toInt = 5 ∨ x1.toInt = 6 ∨ x1.toInt = 7 ∨ x1.toInt = 8 ∨ x1.toInt = 9 ∨ x1.toInt = 10 ∨ x1.toInt = 11) with q101 | q101 | q101 | q101 | q101 | q101 | q101 | q101 | q101 | q101 | q101 | q101 | q101
  · refine mw_tableOut (tgt := 170) dX9_told_1 q101 (by decide) ?_
    refine mw_ldc dX9_told_170 kX9_86 ?_
    exact mw_iret rfl dX9_told_172 rfl rfl ⟨S, _, rfl, rfl, rfl, bd_w n_m1000000002 (by decide), trivial⟩
  · refine mw_tableIn (off := 63) (tgt := 64) dX9_told_1 (by omega) (by omega) (by rw [q101]; rfl) (by decide) ?_
    have b102 : mm_b (0) (0) x1 := ⟨by omega, by omega⟩
    refine mw_aload_n dX9_told_64 rfl 0 rfl ?_
    refine tw_getm (j := 1) dX9_told_65 shC_0 rfl rfl (by decide) fX9_19 (fun a103 ea103 => ?_)
    have ha104 : a103 ∈ LC_parish := by rw [ea103]; exact JRC_1 hI
    refine tw_geti (j := 0) dX9_told_68 (shC_parish_0 a103 ha104) rfl rfl (by decide) fX9_117 (fun v105 ev105 => ?_)
    have b106 : mm_b (0) (7) v105 := JIC_fld hI ev105 (tbC_parish_0_0 a103 ha104) (by decide)
    exact mw_iret rfl dX9_told_71 rfl rfl ⟨S, _, rfl, rfl, rfl, bd_w b106 (by decide), trivial⟩
  · refine mw_tableIn (off := 71) (tgt := 72) dX9_told_1 (by omega) (by omega) (by rw [q101]; rfl) (by decide) ?_
    have b107 : mm_b (1) (1) x1 := ⟨by omega, by omega⟩
    refine mw_aload_n dX9_told_72 rfl 0 rfl ?_
    refine tw_getm (j := 1) dX9_told_73 shC_0 rfl rfl (by decide) fX9_19 (fun a108 ea108 => ?_)
    have ha109 : a108 ∈ LC_parish := by rw [ea108]; exact JRC_1 hI
    refine tw_geti (j := 1) dX9_told_76 (shC_parish_0 a108 ha109) rfl rfl (by decide) fX9_123 (fun v110 ev110 => ?_)
    have b111 : mm_b (0) (6) v110 := JIC_fld hI ev110 (tbC_parish_0_1 a108 ha109) (by decide)
    exact mw_iret rfl dX9_told_79 rfl rfl ⟨S, _, rfl, rfl, rfl, bd_w b111 (by decide), trivial⟩
  · refine mw_tableIn (off := 79) (tgt := 80) dX9_told_1 (by omega) (by omega) (by rw [q101]; rfl) (by decide) ?_
    have b112 : mm_b (2) (2) x1 := ⟨by omega, by omega⟩
    refine mw_aload_n dX9_told_80 rfl 0 rfl ?_
    refine tw_getm (j := 1) dX9_told_81 shC_0 rfl rfl (by decide) fX9_19 (fun a113 ea113 => ?_)
    have ha114 : a113 ∈ LC_parish := by rw [ea113]; exact JRC_1 hI
    refine tw_geti (j := 2) dX9_told_84 (shC_parish_0 a113 ha114) rfl rfl (by decide) fX9_126 (fun v115 ev115 => ?_)
    have b116 : mm_b (0) (6) v115 := JIC_fld hI ev115 (tbC_parish_0_2 a113 ha114) (by decide)
    exact mw_iret rfl dX9_told_87 rfl rfl ⟨S, _, rfl, rfl, rfl, bd_w b116 (by decide), trivial⟩
  · refine mw_tableIn (off := 87) (tgt := 88) dX9_told_1 (by omega) (by omega) (by rw [q101]; rfl) (by decide) ?_
    have b117 : mm_b (3) (3) x1 := ⟨by omega, by omega⟩
    refine mw_aload_n dX9_told_88 rfl 0 rfl ?_
    refine tw_getr (j := 0) dX9_told_89 shC_0 rfl rfl (by decide) fX9_10 ?_
    refine tw_geti (j := 0) dX9_told_92 shC_1 rfl rfl (by decide) fX9_91 (fun v118 ev118 => ?_)
    have b119 : mm_b (0) (240) v118 := JIC_fld hI ev118 tbC_0 (by decide)
    exact mw_iret rfl dX9_told_95 rfl rfl ⟨S, _, rfl, rfl, rfl, bd_w b119 (by decide), trivial⟩
  · refine mw_tableIn (off := 95) (tgt := 96) dX9_told_1 (by omega) (by omega) (by rw [q101]; rfl) (by decide) ?_
    have b120 : mm_b (4) (4) x1 := ⟨by omega, by omega⟩
    refine mw_aload_n dX9_told_96 rfl 0 rfl ?_
    refine tw_getr (j := 3) dX9_told_97 shC_0 rfl rfl (by decide) fX9_29 ?_
    refine tw_geti (j := 1) dX9_told_100 shC_15 rfl rfl (by decide) fX9_129 (fun v121 ev121 => ?_)
    exact mw_iret rfl dX9_told_103 rfl rfl ⟨S, _, rfl, rfl, rfl, (bd_all v121), trivial⟩
  · refine mw_tableIn (off := 103) (tgt := 104) dX9_told_1 (by omega) (by omega) (by rw [q101]; rfl) (by decide) ?_
    have b122 : mm_b (5) (5) x1 := ⟨by omega, by omega⟩
    refine mw_aload_n dX9_told_104 rfl 0 rfl ?_
    refine tw_getr (j := 3) dX9_told_105 shC_0 rfl rfl (by decide) fX9_29 ?_
    refine tw_geti (j := 0) dX9_told_108 shC_15 rfl rfl (by decide) fX9_132 (fun v123 ev123 => ?_)
    exact mw_iret rfl dX9_told_111 rfl rfl ⟨S, _, rfl, rfl, rfl, (bd_all v123), trivial⟩
  · refine mw_tableIn (off := 111) (tgt := 112) dX9_told_1 (by omega) (by omega) (by rw [q101]; rfl) (by decide) ?_
    have b124 : mm_b (6) (6) x1 := ⟨by omega, by omega⟩
    refine mw_aload_n dX9_told_112 rfl 0 rfl ?_
    refine tw_getr (j := 3) dX9_told_113 shC_0 rfl rfl (by decide) fX9_29 ?_
    refine tc_Vi (as := []) (st := []) dX9_told_116 rfl shC_15 rfl rfl mX9_135 t_X3_silent rfl (Nat.le_of_ble_eq_true rfl) (by decide) (by decide) (c_X3_silent_15 (g := g) S hI) (fun S125 v127 h126 => ?_)
    obtain ⟨rfl, b128, x129⟩ := h126
    exact mw_iret rfl dX9_told_119 rfl rfl ⟨S, _, rfl, rfl, rfl, bd_w b128 (by decide), trivial⟩
  · refine mw_tableIn (off := 119) (tgt := 120) dX9_told_1 (by omega) (by omega) (by rw [q101]; rfl) (by decide) ?_
    have b130 : mm_b (7) (7) x1 := ⟨by omega, by omega⟩
    refine mw_aload_n dX9_told_120 rfl 0 rfl ?_
    refine tw_getm (j := 1) dX9_told_121 shC_0 rfl rfl (by decide) fX9_19 (fun a131 ea131 => ?_)
    have ha132 : a131 ∈ LC_parish := by rw [ea131]; exact JRC_1 hI
    refine tc_Vi (as := []) (st := []) dX9_told_124 rfl (shC_parish_0 a131 ha132) rfl rfl mX9_139 t_X6_voices rfl (Nat.le_of_ble_eq_true rfl) (by decide) (by decide) (c_X6_voices (g := g) S hI a131 ha132) (fun S133 v135 h134 => ?_)
    obtain ⟨rfl, b136, x137⟩ := h134
    refine mw_aload_n dX9_told_127 rfl 0 rfl ?_
    refine tw_getr (j := 3) dX9_told_128 shC_0 rfl rfl (by decide) fX9_29 ?_
    refine tc_Vi (as := []) (st := [.int v135]) dX9_told_131 rfl shC_15 rfl rfl mX9_142 t_X3_held rfl (Nat.le_of_ble_eq_true rfl) (by decide) (by decide) (c_X3_held_15 (g := g) S hI) (fun S138 v140 h139 => ?_)
    obtain ⟨rfl, b141, x142⟩ := h139
    refine mw_iconst dX9_told_134 ki_m1 ?_
    refine mw_ixor dX9_told_135 (fun v143 ev143 => ?_)
    refine mw_iand dX9_told_136 (fun v144 ev144 => ?_)
    have b145 : mm_b (0) (127) v144 := bd_and ev144 b136 (by decide)
    exact mw_iret rfl dX9_told_137 rfl rfl ⟨S, _, rfl, rfl, rfl, bd_w b145 (by decide), trivial⟩
  · refine mw_tableIn (off := 137) (tgt := 138) dX9_told_1 (by omega) (by omega) (by rw [q101]; rfl) (by decide) ?_
    have b146 : mm_b (8) (8) x1 := ⟨by omega, by omega⟩
    refine mw_aload_n dX9_told_138 rfl 0 rfl ?_
    refine tw_getr (j := 8) dX9_told_139 shC_0 rfl rfl (by decide) fX9_61 ?_
    refine tw_geti (j := 0) dX9_told_142 shC_129 rfl rfl (by decide) fX9_145 (fun v147 ev147 => ?_)
    have b148 : mm_b (0) (6) v147 := JIC_fld hI ev147 tbC_34 (by decide)
    exact mw_iret rfl dX9_told_145 rfl rfl ⟨S, _, rfl, rfl, rfl, bd_w b148 (by decide), trivial⟩
  · refine mw_tableIn (off := 145) (tgt := 146) dX9_told_1 (by omega) (by omega) (by rw [q101]; rfl) (by decide) ?_
    have b149 : mm_b (9) (9) x1 := ⟨by omega, by omega⟩
    refine mw_aload_n dX9_told_146 rfl 0 rfl ?_
    refine tw_getr (j := 9) dX9_told_147 shC_0 rfl rfl (by decide) fX9_65 ?_
    refine tw_geti (j := 0) dX9_told_150 shC_132 rfl rfl (by decide) fX9_145 (fun v150 ev150 => ?_)
    have b151 : mm_b (0) (6) v150 := JIC_fld hI ev150 tbC_35 (by decide)
    exact mw_iret rfl dX9_told_153 rfl rfl ⟨S, _, rfl, rfl, rfl, bd_w b151 (by decide), trivial⟩
  · refine mw_tableIn (off := 153) (tgt := 154) dX9_told_1 (by omega) (by omega) (by rw [q101]; rfl) (by decide) ?_
    have b152 : mm_b (10) (10) x1 := ⟨by omega, by omega⟩
    refine mw_aload_n dX9_told_154 rfl 0 rfl ?_
    refine tw_getr (j := 10) dX9_told_155 shC_0 rfl rfl (by decide) fX9_68 ?_
    refine tw_geti (j := 0) dX9_told_158 shC_135 rfl rfl (by decide) fX9_145 (fun v153 ev153 => ?_)
    have b154 : mm_b (0) (15) v153 := JIC_fld hI ev153 tbC_36 (by decide)
    exact mw_iret rfl dX9_told_161 rfl rfl ⟨S, _, rfl, rfl, rfl, bd_w b154 (by decide), trivial⟩
  · refine mw_tableIn (off := 161) (tgt := 162) dX9_told_1 (by omega) (by omega) (by rw [q101]; rfl) (by decide) ?_
    have b155 : mm_b (11) (11) x1 := ⟨by omega, by omega⟩
    refine mw_aload_n dX9_told_162 rfl 0 rfl ?_
    refine tw_getr (j := 5) dX9_told_163 shC_0 rfl rfl (by decide) fX9_39 ?_
    refine tw_geti (j := 0) dX9_told_166 shC_25 rfl rfl (by decide) fX9_146 (fun v156 ev156 => ?_)
    have b157 : mm_b (0) (20) v156 := JIC_fld hI ev156 tbC_33 (by decide)
    exact mw_iret rfl dX9_told_169 rfl rfl ⟨S, _, rfl, rfl, rfl, bd_w b157 (by decide), trivial⟩
set_option maxRecDepth 100000 in
set_option maxHeartbeats 4000000 in
theorem c_X9_person {g : mm_G} (S : mm_S) (hI : JC S) (x1 : Int32) (x2 : Int32) : mc g yX9_person cX9_person 3 (some .int) (mm_rm 2) [.ref 0, .int x1, .int x2] (mm_enc shC S) (qi shC (fun S1 v => S = S1 ∧ mm_b (-2147483648) (2147483647) v ∧ (True))) := by
  refine mc_of2 (own := RX9) (ini := false) (ls := [(0, .ref 0), (1, .int x1), (2, .int x2)]) (by decide) (Nat.le_of_ble_eq_true rfl) rfl (by decide) rfl ?_
  refine mw_aload_n dX9_person_0 rfl 0 rfl ?_
  refine tw_getm (j := 1) dX9_person_1 shC_0 rfl rfl (by decide) fX9_19 (fun a101 ea101 => ?_)
  have ha102 : a101 ∈ LC_parish := by rw [ea101]; exact JRC_1 hI
  refine mw_iload_n dX9_person_4 rfl 1 rfl ?_
  refine tc_Vi (as := [.int x1]) (st := []) dX9_person_5 rfl (shC_parish_0 a101 ha102) rfl rfl mX9_147 t_X6_hasPerson rfl (Nat.le_of_ble_eq_true rfl) (by decide) (by decide) (c_X6_hasPerson (g := g) S hI a101 ha102 x1) (fun S103 v105 h104 => ?_)
  obtain ⟨rfl, b106, x107⟩ := h104
  refine mw_if_ne (tgt := 14) dX9_person_8 (by decide) (fun q108 => ?_) (fun q108 => ?_)
  · skip
    have b109 : mm_b (1) (1) v105 := bd_ne_l q108 b106 n_0 (by decide)
    have b110 := Or.resolve_left x107 q108
    refine mw_iload_n dX9_person_14 rfl 2 rfl ?_
    rcases (by omega : (x2.toInt < 0 ∨ 5 < x2.toInt) ∨ x2.toInt = 0 ∨ x2.toInt = 1 ∨ x2.toInt = 2 ∨ x2.toInt = 3 ∨ x2.toInt = 4 ∨ x2.toInt = 5) with q111 | q111 | q111 | q111 | q111 | q111 | q111
    · refine mw_tableOut (tgt := 121) dX9_person_15 q111 (by decide) ?_
      refine mw_ldc dX9_person_121 kX9_86 ?_
      exact mw_iret rfl dX9_person_123 rfl rfl ⟨S, _, rfl, rfl, rfl, bd_w n_m1000000002 (by decide), trivial⟩
    · refine mw_tableIn (off := 37) (tgt := 52) dX9_person_15 (by omega) (by omega) (by rw [q111]; rfl) (by decide) ?_
      have b112 : mm_b (0) (0) x2 := ⟨by omega, by omega⟩
      refine mw_aload_n dX9_person_52 rfl 0 rfl ?_
      refine tw_getr (j := 3) dX9_person_53 shC_0 rfl rfl (by decide) fX9_29 ?_
      refine mw_iload_n dX9_person_56 rfl 1 rfl ?_
      refine tc_Vi (as := [.int x1]) (st := []) dX9_person_57 rfl shC_15 rfl rfl mX9_151 t_X3_voiceOf rfl (Nat.le_of_ble_eq_true rfl) (by decide) (by decide) (c_X3_voiceOf_15 (g := g) S hI x1) (fun S113 v115 h114 => ?_)
      obtain ⟨rfl, b116, x117⟩ := h114
      exact mw_iret rfl dX9_person_60 rfl rfl ⟨S, _, rfl, rfl, rfl, b116, trivial⟩
    · refine mw_tableIn (off := 46) (tgt := 61) dX9_person_15 (by omega) (by omega) (by rw [q111]; rfl) (by decide) ?_
      have b118 : mm_b (1) (1) x2 := ⟨by omega, by omega⟩
      refine mw_aload_n dX9_person_61 rfl 0 rfl ?_
      refine tw_getr (j := 3) dX9_person_62 shC_0 rfl rfl (by decide) fX9_29 ?_
      refine mw_iload_n dX9_person_65 rfl 1 rfl ?_
      refine tc_Vi (as := [.int x1]) (st := []) dX9_person_66 rfl shC_15 rfl rfl mX9_155 t_X3_jarOf rfl (Nat.le_of_ble_eq_true rfl) (by decide) (by decide) (c_X3_jarOf_15 (g := g) S hI x1) (fun S119 v121 h120 => ?_)
      obtain ⟨rfl, b122, x123⟩ := h120
      exact mw_iret rfl dX9_person_69 rfl rfl ⟨S, _, rfl, rfl, rfl, b122, trivial⟩
    · refine mw_tableIn (off := 55) (tgt := 70) dX9_person_15 (by omega) (by omega) (by rw [q111]; rfl) (by decide) ?_
      have b124 : mm_b (2) (2) x2 := ⟨by omega, by omega⟩
      refine mw_aload_n dX9_person_70 rfl 0 rfl ?_
      refine tw_getr (j := 3) dX9_person_71 shC_0 rfl rfl (by decide) fX9_29 ?_
      refine mw_iload_n dX9_person_74 rfl 1 rfl ?_
      refine tc_Vi (as := [.int x1]) (st := []) dX9_person_75 rfl shC_15 rfl rfl mX9_158 t_X3_firstHeir rfl (Nat.le_of_ble_eq_true rfl) (by decide) (by decide) (c_X3_firstHeir_15 (g := g) S hI x1) (fun S125 v127 h126 => ?_)
      obtain ⟨rfl, b128, x129⟩ := h126
      exact mw_iret rfl dX9_person_78 rfl rfl ⟨S, _, rfl, rfl, rfl, b128, trivial⟩
    · refine mw_tableIn (off := 64) (tgt := 79) dX9_person_15 (by omega) (by omega) (by rw [q111]; rfl) (by decide) ?_
      have b130 : mm_b (3) (3) x2 := ⟨by omega, by omega⟩
      refine mw_aload_n dX9_person_79 rfl 0 rfl ?_
      refine tw_getr (j := 3) dX9_person_80 shC_0 rfl rfl (by decide) fX9_29 ?_
      refine mw_iload_n dX9_person_83 rfl 1 rfl ?_
      refine tc_Vi (as := [.int x1]) (st := []) dX9_person_84 rfl shC_15 rfl rfl mX9_161 t_X3_secondHeir rfl (Nat.le_of_ble_eq_true rfl) (by decide) (by decide) (c_X3_secondHeir_15 (g := g) S hI x1) (fun S131 v133 h132 => ?_)
      obtain ⟨rfl, b134, x135⟩ := h132
      exact mw_iret rfl dX9_person_87 rfl rfl ⟨S, _, rfl, rfl, rfl, b134, trivial⟩
    · refine mw_tableIn (off := 73) (tgt := 88) dX9_person_15 (by omega) (by omega) (by rw [q111]; rfl) (by decide) ?_
      have b136 : mm_b (4) (4) x2 := ⟨by omega, by omega⟩
      refine mw_aload_n dX9_person_88 rfl 0 rfl ?_
      refine tw_getm (j := 1) dX9_person_89 shC_0 rfl rfl (by decide) fX9_19 (fun a137 ea137 => ?_)
      have ha138 : a137 ∈ LC_parish := by rw [ea137]; exact JRC_1 hI
      refine mw_aload_n dX9_person_92 rfl 0 rfl ?_
      refine tw_getr (j := 3) dX9_person_93 shC_0 rfl rfl (by decide) fX9_29 ?_
      refine mw_iload_n dX9_person_96 rfl 1 rfl ?_
      refine tc_Vi (as := [.int x1]) (st := [.ref a137]) dX9_person_97 rfl shC_15 rfl rfl mX9_151 t_X3_voiceOf rfl (Nat.le_of_ble_eq_true rfl) (by decide) (by decide) (c_X3_voiceOf_15 (g := g) S hI x1) (fun S139 v141 h140 => ?_)
      obtain ⟨rfl, b142, x143⟩ := h140
      refine tc_Vi (as := [.int v141]) (st := []) dX9_person_100 rfl (shC_parish_0 a137 ha138) rfl rfl mX9_164 t_X6_openTo rfl (Nat.le_of_ble_eq_true rfl) (by decide) (by decide) (c_X6_openTo (g := g) S hI a137 ha138 v141) (fun S144 v146 h145 => ?_)
      obtain ⟨rfl, b147, x148⟩ := h145
      exact mw_iret rfl dX9_person_103 rfl rfl ⟨S, _, rfl, rfl, rfl, bd_w b147 (by decide), trivial⟩
    · refine mw_tableIn (off := 89) (tgt := 104) dX9_person_15 (by omega) (by omega) (by rw [q111]; rfl) (by decide) ?_
      have b149 : mm_b (5) (5) x2 := ⟨by omega, by omega⟩
      refine mw_aload_n dX9_person_104 rfl 0 rfl ?_
      refine tw_getr (j := 3) dX9_person_105 shC_0 rfl rfl (by decide) fX9_29 ?_
      refine mw_iload_n dX9_person_108 rfl 1 rfl ?_
      refine tc_Vi (as := [.int x1]) (st := []) dX9_person_109 rfl shC_15 rfl rfl mX9_167 t_X3_lives rfl (Nat.le_of_ble_eq_true rfl) (by decide) (by decide) (c_X3_lives_15 (g := g) S hI x1) (fun S150 v152 h151 => ?_)
      obtain ⟨rfl, b153, x154⟩ := h151
      refine mw_if_eq (tgt := 119) dX9_person_112 (by decide) (fun q155 => ?_) (fun q155 => ?_)
      · skip
        have b156 : mm_b (0) (0) v152 := bd_eq_l q155 b153 n_0 (by decide)
        refine mw_iconst dX9_person_119 ki_0 ?_
        exact mw_iret rfl dX9_person_120 rfl rfl ⟨S, _, rfl, rfl, rfl, bd_w n_0 (by decide), trivial⟩
      · skip
        have b157 : mm_b (1) (1) v152 := bd_ne_l q155 b153 n_0 (by decide)
        have b158 := Or.resolve_left x154 q155
        refine mw_iconst dX9_person_115 ki_1 ?_
        refine mw_goto (tgt := 120) dX9_person_116 (by decide) ?_
        exact mw_iret rfl dX9_person_120 rfl rfl ⟨S, _, rfl, rfl, rfl, bd_w n_1 (by decide), trivial⟩
  · skip
    have b159 : mm_b (0) (0) v105 := bd_eq_l q108 b106 n_0 (by decide)
    refine mw_ldc dX9_person_11 kX9_150 ?_
    exact mw_iret rfl dX9_person_13 rfl rfl ⟨S, _, rfl, rfl, rfl, bd_w n_m1000000001 (by decide), trivial⟩
set_option maxRecDepth 100000 in
set_option maxHeartbeats 4000000 in
theorem c_X9_range {g : mm_G} (S : mm_S) (hI : JC S) (x1 : Int32) : mc g yX9_range cX9_range 2 (some .int) (mm_rm 2) [.ref 0, .int x1] (mm_enc shC S) (qi shC (fun S1 v => S = S1 ∧ mm_b (-2147483648) (2147483647) v ∧ (True))) := by
  refine mc_of2 (own := RX9) (ini := false) (ls := [(0, .ref 0), (1, .int x1)]) (by decide) (Nat.le_of_ble_eq_true rfl) rfl (by decide) rfl ?_
  refine mw_aload_n dX9_range_0 rfl 0 rfl ?_
  refine tw_getm (j := 1) dX9_range_1 shC_0 rfl rfl (by decide) fX9_19 (fun a101 ea101 => ?_)
  have ha102 : a101 ∈ LC_parish := by rw [ea101]; exact JRC_1 hI
  refine mw_iload_n dX9_range_4 rfl 1 rfl ?_
  refine tc_Vi (as := [.int x1]) (st := []) dX9_range_5 rfl (shC_parish_0 a101 ha102) rfl rfl mX9_147 t_X6_hasPerson rfl (Nat.le_of_ble_eq_true rfl) (by decide) (by decide) (c_X6_hasPerson (g := g) S hI a101 ha102 x1) (fun S103 v105 h104 => ?_)
  obtain ⟨rfl, b106, x107⟩ := h104
  refine mw_if_eq (tgt := 22) dX9_range_8 (by decide) (fun q108 => ?_) (fun q108 => ?_)
  · skip
    have b109 : mm_b (0) (0) v105 := bd_eq_l q108 b106 n_0 (by decide)
    refine mw_ldc dX9_range_22 kX9_150 ?_
    exact mw_iret rfl dX9_range_24 rfl rfl ⟨S, _, rfl, rfl, rfl, bd_w n_m1000000001 (by decide), trivial⟩
  · skip
    have b110 : mm_b (1) (1) v105 := bd_ne_l q108 b106 n_0 (by decide)
    have b111 := Or.resolve_left x107 q108
    refine mw_aload_n dX9_range_11 rfl 0 rfl ?_
    refine tw_getm (j := 1) dX9_range_12 shC_0 rfl rfl (by decide) fX9_19 (fun a112 ea112 => ?_)
    have ha113 : a112 ∈ LC_parish := by rw [ea112]; exact JRC_1 hI
    refine mw_iload_n dX9_range_15 rfl 1 rfl ?_
    refine tc_Vi (as := [.int x1]) (st := []) dX9_range_16 rfl (shC_parish_0 a112 ha113) rfl rfl mX9_170 t_X6_rangeOf rfl (Nat.le_of_ble_eq_true rfl) (by decide) (by decide) (c_X6_rangeOf (g := g) S hI a112 ha113 x1) (fun S114 v116 h115 => ?_)
    obtain ⟨rfl, b117, x118⟩ := h115
    refine mw_goto (tgt := 24) dX9_range_19 (by decide) ?_
    exact mw_iret rfl dX9_range_24 rfl rfl ⟨S, _, rfl, rfl, rfl, b117, trivial⟩
set_option maxRecDepth 100000 in
set_option maxHeartbeats 4000000 in
theorem c_X9_door {g : mm_G} (S : mm_S) (hI : JC S) (x1 : Int32) : mc g yX9_door cX9_door 2 (some .int) (mm_rm 2) [.ref 0, .int x1] (mm_enc shC S) (qi shC (fun S1 v => S = S1 ∧ mm_b (-2147483648) (2147483647) v ∧ (True))) := by
  refine mc_of2 (own := RX9) (ini := false) (ls := [(0, .ref 0), (1, .int x1)]) (by decide) (Nat.le_of_ble_eq_true rfl) rfl (by decide) rfl ?_
  refine mw_aload_n dX9_door_0 rfl 0 rfl ?_
  refine tw_getm (j := 1) dX9_door_1 shC_0 rfl rfl (by decide) fX9_19 (fun a101 ea101 => ?_)
  have ha102 : a101 ∈ LC_parish := by rw [ea101]; exact JRC_1 hI
  refine mw_iload_n dX9_door_4 rfl 1 rfl ?_
  refine tc_Vi (as := [.int x1]) (st := []) dX9_door_5 rfl (shC_parish_0 a101 ha102) rfl rfl mX9_173 t_X6_hasDoor rfl (Nat.le_of_ble_eq_true rfl) (by decide) (by decide) (c_X6_hasDoor (g := g) S hI a101 ha102 x1) (fun S103 v105 h104 => ?_)
  obtain ⟨rfl, b106, x107⟩ := h104
  refine mw_if_eq (tgt := 22) dX9_door_8 (by decide) (fun q108 => ?_) (fun q108 => ?_)
  · skip
    have b109 : mm_b (0) (0) v105 := bd_eq_l q108 b106 n_0 (by decide)
    refine mw_ldc dX9_door_22 kX9_150 ?_
    exact mw_iret rfl dX9_door_24 rfl rfl ⟨S, _, rfl, rfl, rfl, bd_w n_m1000000001 (by decide), trivial⟩
  · skip
    have b110 : mm_b (1) (1) v105 := bd_ne_l q108 b106 n_0 (by decide)
    have b111 := Or.resolve_left x107 q108
    refine mw_aload_n dX9_door_11 rfl 0 rfl ?_
    refine tw_getm (j := 1) dX9_door_12 shC_0 rfl rfl (by decide) fX9_19 (fun a112 ea112 => ?_)
    have ha113 : a112 ∈ LC_parish := by rw [ea112]; exact JRC_1 hI
    refine mw_iload_n dX9_door_15 rfl 1 rfl ?_
    refine tc_Vi (as := [.int x1]) (st := []) dX9_door_16 rfl (shC_parish_0 a112 ha113) rfl rfl mX9_176 t_X6_knownBy rfl (Nat.le_of_ble_eq_true rfl) (by decide) (by decide) (c_X6_knownBy (g := g) S hI a112 ha113 x1) (fun S114 v116 h115 => ?_)
    obtain ⟨rfl, b117, x118⟩ := h115
    refine mw_goto (tgt := 24) dX9_door_19 (by decide) ?_
    exact mw_iret rfl dX9_door_24 rfl rfl ⟨S, _, rfl, rfl, rfl, b117, trivial⟩
set_option maxRecDepth 100000 in
set_option maxHeartbeats 4000000 in
theorem c_X9_die {g : mm_G} (S : mm_S) (hI : JC S) (x1 : Int32) : mc g yX9_die cX9_die 2 (some .int) (mm_rm 4) [.ref 0, .int x1] (mm_enc shC S) (qi shC (fun S1 v => JC S1 ∧ fr [15, 16, 17, 18, 19, 20, 21, 22, 23, 24, 25, 27, 28, 29, 30, 31, 32, 33, 34, 35, 36, 37, 38, 39, 40, 41, 42, 43, 44, 45, 46, 47, 48, 49, 50, 51, 52, 53, 54, 55, 56, 57, 58, 59, 60, 61, 62, 63, 64, 65, 66, 67, 68, 69, 70, 71, 72, 73, 74, 75, 76, 77, 78, 79, 80, 81, 82, 83, 84, 85, 86, 87, 88, 89, 90, 91, 92, 93, 94, 95, 96, 97, 98, 99, 100, 101, 102, 103, 104, 105, 106, 107, 108, 109, 110, 111, 112, 113, 114, 115, 116, 117, 118, 119, 120, 121, 122, 123, 124, 125, 126, 152, 153, 154, 155, 156, 158, 159, 160, 161, 162] [] true true S S1 ∧ mm_b (-2147483648) (2147483647) v ∧ (True))) := by
  refine mc_of2 (own := RX9) (ini := false) (ls := [(0, .ref 0), (1, .int x1)]) (by decide) (Nat.le_of_ble_eq_true rfl) rfl (by decide) rfl ?_
  have hF : fr [15, 16, 17, 18, 19, 20, 21, 22, 23, 24, 25, 27, 28, 29, 30, 31, 32, 33, 34, 35, 36, 37, 38, 39, 40, 41, 42, 43, 44, 45, 46, 47, 48, 49, 50, 51, 52, 53, 54, 55, 56, 57, 58, 59, 60, 61, 62, 63, 64, 65, 66, 67, 68, 69, 70, 71, 72, 73, 74, 75, 76, 77, 78, 79, 80, 81, 82, 83, 84, 85, 86, 87, 88, 89, 90, 91, 92, 93, 94, 95, 96, 97, 98, 99, 100, 101, 102, 103, 104, 105, 106, 107, 108, 109, 110, 111, 112, 113, 114, 115, 116, 117, 118, 119, 120, 121, 122, 123, 124, 125, 126, 152, 153, 154, 155, 156, 158, 159, 160, 161, 162] [] true true S S := fr_rf
  refine mw_aload_n dX9_die_0 rfl 0 rfl ?_
  refine tw_getm (j := 1) dX9_die_1 shC_0 rfl rfl (by decide) fX9_19 (fun a101 ea101 => ?_)
  have ha102 : a101 ∈ LC_parish := by rw [ea101]; exact JRC_1 hI
  refine mw_iload_n dX9_die_4 rfl 1 rfl ?_
  refine tc_Vi (as := [.int x1]) (st := []) dX9_die_5 rfl (shC_parish_0 a101 ha102) rfl rfl mX9_147 t_X6_hasPerson rfl (Nat.le_of_ble_eq_true rfl) (by decide) (by decide) (c_X6_hasPerson (g := g) S hI a101 ha102 x1) (fun S103 v105 h104 => ?_)
  obtain ⟨rfl, b106, x107⟩ := h104
  refine mw_if_ne (tgt := 14) dX9_die_8 (by decide) (fun q108 => ?_) (fun q108 => ?_)
  · skip
    have b109 : mm_b (1) (1) v105 := bd_ne_l q108 b106 n_0 (by decide)
    have b110 := Or.resolve_left x107 q108
    refine mw_aload_n dX9_die_14 rfl 0 rfl ?_
    refine tw_getr (j := 3) dX9_die_15 shC_0 rfl rfl (by decide) fX9_29 ?_
    refine mw_iload_n dX9_die_18 rfl 1 rfl ?_
    refine tc_Vi (as := [.int x1]) (st := []) dX9_die_19 rfl shC_15 rfl rfl mX9_167 t_X3_lives rfl (Nat.le_of_ble_eq_true rfl) (by decide) (by decide) (c_X3_lives_15 (g := g) S hI x1) (fun S111 v113 h112 => ?_)
    obtain ⟨rfl, b114, x115⟩ := h112
    refine mw_if_ne (tgt := 28) dX9_die_22 (by decide) (fun q116 => ?_) (fun q116 => ?_)
    · skip
      have b117 : mm_b (1) (1) v113 := bd_ne_l q116 b114 n_0 (by decide)
      have b118 := Or.resolve_left x115 q116
      refine mw_aload_n dX9_die_28 rfl 0 rfl ?_
      refine tw_getr (j := 5) dX9_die_29 shC_0 rfl rfl (by decide) fX9_39 ?_
      refine mw_aload_n dX9_die_32 rfl 0 rfl ?_
      refine tw_getr (j := 3) dX9_die_33 shC_0 rfl rfl (by decide) fX9_29 ?_
      refine tc_Vv (as := [.ref 15]) (st := []) dX9_die_36 rfl shC_25 rfl rfl mX9_180 t_X7_remember rfl (Nat.le_of_ble_eq_true rfl) (by decide) (by decide) (c_X7_remember (g := g) S hI) (fun S119 h120 => ?_)
      obtain ⟨hI122, hf123, x121⟩ := h120
      have hF124 := fr_tr hF hf123 (by decide) (by decide) (by decide) (by decide)
      refine mw_aload_n dX9_die_39 rfl 0 rfl ?_
      refine tw_getr (j := 3) dX9_die_40 shC_0 rfl rfl (by decide) fX9_29 ?_
      refine mw_iload_n dX9_die_43 rfl 1 rfl ?_
      refine tc_Vi (as := [.int x1]) (st := []) dX9_die_44 rfl shC_15 rfl rfl mX9_184 t_X3_bury rfl (Nat.le_of_ble_eq_true rfl) (by decide) (by decide) (c_X3_bury_15 (g := g) S119 hI122 x1) (fun S125 v127 h126 => ?_)
      obtain ⟨hI131, hf132, b128, x129⟩ := h126
      have hF133 := fr_tr hF124 hf132 (by decide) (by decide) (by decide) (by decide)
      exact mw_iret rfl dX9_die_47 rfl rfl ⟨S125, _, rfl, rfl, hI131, hF133, b128, trivial⟩
    · skip
      have b134 : mm_b (0) (0) v113 := bd_eq_l q116 b114 n_0 (by decide)
      refine mw_ldc dX9_die_25 kX9_179 ?_
      exact mw_iret rfl dX9_die_27 rfl rfl ⟨S, _, rfl, rfl, hI, hF, bd_w n_m1000000003 (by decide), trivial⟩
  · skip
    have b135 : mm_b (0) (0) v105 := bd_eq_l q108 b106 n_0 (by decide)
    refine mw_ldc dX9_die_11 kX9_150 ?_
    exact mw_iret rfl dX9_die_13 rfl rfl ⟨S, _, rfl, rfl, hI, hF, bd_w n_m1000000001 (by decide), trivial⟩
set_option maxRecDepth 100000 in
set_option maxHeartbeats 4000000 in
theorem c_X9_sell {g : mm_G} (S : mm_S) (hI : JC S) (x1 : Int32) (x2 : Int32) : mc g yX9_sell cX9_sell 3 (some .int) (mm_rm 3) [.ref 0, .int x1, .int x2] (mm_enc shC S) (qi shC (fun S1 v => JC S1 ∧ fr [15, 16, 17, 18, 19, 20, 21, 22, 23, 24, 25, 27, 28, 29, 30, 31, 32, 33, 34, 35, 36, 37, 38, 39, 40, 41, 42, 43, 44, 45, 46, 47, 48, 49, 50, 51, 52, 53, 54, 55, 56, 57, 58, 59, 60, 61, 62, 63, 64, 65, 66, 67, 68, 69, 70, 71, 72, 73, 74, 75, 76, 77, 78, 79, 80, 81, 82, 83, 84, 85, 86, 87, 88, 89, 90, 91, 92, 93, 94, 95, 96, 97, 98, 99, 100, 101, 102, 103, 104, 105, 106, 107, 108, 109, 110, 111, 112, 113, 114, 115, 116, 117, 118, 119, 120, 121, 122, 123, 124, 125, 126, 152, 153, 154, 155, 156, 158, 159, 160, 161, 162] [] true true S S1 ∧ mm_b (-2147483648) (2147483647) v ∧ (True))) := by
  refine mc_of2 (own := RX9) (ini := false) (ls := [(0, .ref 0), (1, .int x1), (2, .int x2)]) (by decide) (Nat.le_of_ble_eq_true rfl) rfl (by decide) rfl ?_
  have hF : fr [15, 16, 17, 18, 19, 20, 21, 22, 23, 24, 25, 27, 28, 29, 30, 31, 32, 33, 34, 35, 36, 37, 38, 39, 40, 41, 42, 43, 44, 45, 46, 47, 48, 49, 50, 51, 52, 53, 54, 55, 56, 57, 58, 59, 60, 61, 62, 63, 64, 65, 66, 67, 68, 69, 70, 71, 72, 73, 74, 75, 76, 77, 78, 79, 80, 81, 82, 83, 84, 85, 86, 87, 88, 89, 90, 91, 92, 93, 94, 95, 96, 97, 98, 99, 100, 101, 102, 103, 104, 105, 106, 107, 108, 109, 110, 111, 112, 113, 114, 115, 116, 117, 118, 119, 120, 121, 122, 123, 124, 125, 126, 152, 153, 154, 155, 156, 158, 159, 160, 161, 162] [] true true S S := fr_rf
  refine mw_aload_n dX9_sell_0 rfl 0 rfl ?_
  refine tw_getm (j := 1) dX9_sell_1 shC_0 rfl rfl (by decide) fX9_19 (fun a101 ea101 => ?_)
  have ha102 : a101 ∈ LC_parish := by rw [ea101]; exact JRC_1 hI
  refine mw_iload_n dX9_sell_4 rfl 1 rfl ?_
  refine tc_Vi (as := [.int x1]) (st := []) dX9_sell_5 rfl (shC_parish_0 a101 ha102) rfl rfl mX9_147 t_X6_hasPerson rfl (Nat.le_of_ble_eq_true rfl) (by decide) (by decide) (c_X6_hasPerson (g := g) S hI a101 ha102 x1) (fun S103 v105 h104 => ?_)
  obtain ⟨rfl, b106, x107⟩ := h104
  refine mw_if_eq (tgt := 27) dX9_sell_8 (by decide) (fun q108 => ?_) (fun q108 => ?_)
  · skip
    have b109 : mm_b (0) (0) v105 := bd_eq_l q108 b106 n_0 (by decide)
    refine mw_ldc dX9_sell_27 kX9_150 ?_
    exact mw_iret rfl dX9_sell_29 rfl rfl ⟨S, _, rfl, rfl, hI, hF, bd_w n_m1000000001 (by decide), trivial⟩
  · skip
    have b110 : mm_b (1) (1) v105 := bd_ne_l q108 b106 n_0 (by decide)
    have b111 := Or.resolve_left x107 q108
    refine mw_aload_n dX9_sell_11 rfl 0 rfl ?_
    refine tw_getm (j := 1) dX9_sell_12 shC_0 rfl rfl (by decide) fX9_19 (fun a112 ea112 => ?_)
    have ha113 : a112 ∈ LC_parish := by rw [ea112]; exact JRC_1 hI
    refine mw_iload_n dX9_sell_15 rfl 2 rfl ?_
    refine tc_Vi (as := [.int x2]) (st := []) dX9_sell_16 rfl (shC_parish_0 a112 ha113) rfl rfl mX9_147 t_X6_hasPerson rfl (Nat.le_of_ble_eq_true rfl) (by decide) (by decide) (c_X6_hasPerson (g := g) S hI a112 ha113 x2) (fun S114 v116 h115 => ?_)
    obtain ⟨rfl, b117, x118⟩ := h115
    refine mw_if_eq (tgt := 27) dX9_sell_19 (by decide) (fun q119 => ?_) (fun q119 => ?_)
    · skip
      have b120 : mm_b (0) (0) v116 := bd_eq_l q119 b117 n_0 (by decide)
      refine mw_ldc dX9_sell_27 kX9_150 ?_
      exact mw_iret rfl dX9_sell_29 rfl rfl ⟨S, _, rfl, rfl, hI, hF, bd_w n_m1000000001 (by decide), trivial⟩
    · skip
      have b121 : mm_b (1) (1) v116 := bd_ne_l q119 b117 n_0 (by decide)
      have b122 := Or.resolve_left x118 q119
      refine mw_iload_n dX9_sell_22 rfl 1 rfl ?_
      refine mw_iload_n dX9_sell_23 rfl 2 rfl ?_
      refine mw_icmp_ne (tgt := 30) dX9_sell_24 (by decide) (fun q123 => ?_) (fun q123 => ?_)
      · skip
        refine mw_aload_n dX9_sell_30 rfl 0 rfl ?_
        refine tw_getr (j := 3) dX9_sell_31 shC_0 rfl rfl (by decide) fX9_29 ?_
        refine mw_iload_n dX9_sell_34 rfl 1 rfl ?_
        refine mw_iload_n dX9_sell_35 rfl 2 rfl ?_
        refine tc_Vi (as := [.int x1, .int x2]) (st := []) dX9_sell_36 rfl shC_15 rfl rfl mX9_187 t_X3_canHandOver rfl (Nat.le_of_ble_eq_true rfl) (by decide) (by decide) (c_X3_canHandOver_15 (g := g) S hI x1 x2) (fun S124 v126 h125 => ?_)
        obtain ⟨rfl, b127, x128⟩ := h125
        refine mw_if_ne (tgt := 45) dX9_sell_39 (by decide) (fun q129 => ?_) (fun q129 => ?_)
        · skip
          have b130 : mm_b (1) (1) v126 := bd_ne_l q129 b127 n_0 (by decide)
          obtain ⟨b131, b132⟩ := Or.resolve_left x128 q129
          refine mw_aload_n dX9_sell_45 rfl 0 rfl ?_
          refine tw_getr (j := 5) dX9_sell_46 shC_0 rfl rfl (by decide) fX9_39 ?_
          refine mw_aload_n dX9_sell_49 rfl 0 rfl ?_
          refine tw_getr (j := 3) dX9_sell_50 shC_0 rfl rfl (by decide) fX9_29 ?_
          refine tc_Vv (as := [.ref 15]) (st := []) dX9_sell_53 rfl shC_25 rfl rfl mX9_180 t_X7_remember rfl (Nat.le_of_ble_eq_true rfl) (by decide) (by decide) (c_X7_remember (g := g) S hI) (fun S133 h134 => ?_)
          obtain ⟨hI136, hf137, x135⟩ := h134
          have hF138 := fr_tr hF hf137 (by decide) (by decide) (by decide) (by decide)
          refine mw_aload_n dX9_sell_56 rfl 0 rfl ?_
          refine tw_getr (j := 3) dX9_sell_57 shC_0 rfl rfl (by decide) fX9_29 ?_
          refine mw_iload_n dX9_sell_60 rfl 1 rfl ?_
          refine mw_iload_n dX9_sell_61 rfl 2 rfl ?_
          refine tc_Vv (as := [.int x1, .int x2]) (st := []) dX9_sell_62 rfl shC_15 rfl rfl mX9_191 t_X3_handOver rfl (Nat.le_of_ble_eq_true rfl) (by decide) (by decide) (c_X3_handOver_15 (g := g) S133 hI136 x1 x2) (fun S139 h140 => ?_)
          obtain ⟨hI142, hf143, x141⟩ := h140
          have hF144 := fr_tr hF138 hf143 (by decide) (by decide) (by decide) (by decide)
          refine mw_aload_n dX9_sell_65 rfl 0 rfl ?_
          refine tw_getr (j := 3) dX9_sell_66 shC_0 rfl rfl (by decide) fX9_29 ?_
          refine mw_iload_n dX9_sell_69 rfl 1 rfl ?_
          refine tc_Vi (as := [.int x1]) (st := []) dX9_sell_70 rfl shC_15 rfl rfl mX9_151 t_X3_voiceOf rfl (Nat.le_of_ble_eq_true rfl) (by decide) (by decide) (c_X3_voiceOf_15 (g := g) S139 hI142 x1) (fun S145 v147 h146 => ?_)
          obtain ⟨rfl, b148, x149⟩ := h146
          exact mw_iret rfl dX9_sell_73 rfl rfl ⟨S139, _, rfl, rfl, hI142, hF144, b148, trivial⟩
        · skip
          have b150 : mm_b (0) (0) v126 := bd_eq_l q129 b127 n_0 (by decide)
          refine mw_ldc dX9_sell_42 kX9_179 ?_
          exact mw_iret rfl dX9_sell_44 rfl rfl ⟨S, _, rfl, rfl, hI, hF, bd_w n_m1000000003 (by decide), trivial⟩
      · skip
        refine mw_ldc dX9_sell_27 kX9_150 ?_
        exact mw_iret rfl dX9_sell_29 rfl rfl ⟨S, _, rfl, rfl, hI, hF, bd_w n_m1000000001 (by decide), trivial⟩
set_option maxRecDepth 100000 in
set_option maxHeartbeats 4000000 in
theorem c_X9_putBy {g : mm_G} (S : mm_S) (hI : JC S) (x1 : Int32) (x2 : Int32) : mc g yX9_putBy cX9_putBy 3 (some .int) (mm_rm 3) [.ref 0, .int x1, .int x2] (mm_enc shC S) (qi shC (fun S1 v => JC S1 ∧ fr [15, 16, 17, 18, 19, 20, 21, 22, 23, 24, 25, 27, 28, 29, 30, 31, 32, 33, 34, 35, 36, 37, 38, 39, 40, 41, 42, 43, 44, 45, 46, 47, 48, 49, 50, 51, 52, 53, 54, 55, 56, 57, 58, 59, 60, 61, 62, 63, 64, 65, 66, 67, 68, 69, 70, 71, 72, 73, 74, 75, 76, 77, 78, 79, 80, 81, 82, 83, 84, 85, 86, 87, 88, 89, 90, 91, 92, 93, 94, 95, 96, 97, 98, 99, 100, 101, 102, 103, 104, 105, 106, 107, 108, 109, 110, 111, 112, 113, 114, 115, 116, 117, 118, 119, 120, 121, 122, 123, 124, 125, 126, 152, 153, 154, 155, 156, 158, 159, 160, 161, 162] [] true true S S1 ∧ mm_b (-2147483648) (2147483647) v ∧ (True))) := by
  refine mc_of2 (own := RX9) (ini := false) (ls := [(0, .ref 0), (1, .int x1), (2, .int x2)]) (by decide) (Nat.le_of_ble_eq_true rfl) rfl (by decide) rfl ?_
  have hF : fr [15, 16, 17, 18, 19, 20, 21, 22, 23, 24, 25, 27, 28, 29, 30, 31, 32, 33, 34, 35, 36, 37, 38, 39, 40, 41, 42, 43, 44, 45, 46, 47, 48, 49, 50, 51, 52, 53, 54, 55, 56, 57, 58, 59, 60, 61, 62, 63, 64, 65, 66, 67, 68, 69, 70, 71, 72, 73, 74, 75, 76, 77, 78, 79, 80, 81, 82, 83, 84, 85, 86, 87, 88, 89, 90, 91, 92, 93, 94, 95, 96, 97, 98, 99, 100, 101, 102, 103, 104, 105, 106, 107, 108, 109, 110, 111, 112, 113, 114, 115, 116, 117, 118, 119, 120, 121, 122, 123, 124, 125, 126, 152, 153, 154, 155, 156, 158, 159, 160, 161, 162] [] true true S S := fr_rf
  refine mw_aload_n dX9_putBy_0 rfl 0 rfl ?_
  refine tw_getm (j := 1) dX9_putBy_1 shC_0 rfl rfl (by decide) fX9_19 (fun a101 ea101 => ?_)
  have ha102 : a101 ∈ LC_parish := by rw [ea101]; exact JRC_1 hI
  refine mw_iload_n dX9_putBy_4 rfl 1 rfl ?_
  refine tc_Vi (as := [.int x1]) (st := []) dX9_putBy_5 rfl (shC_parish_0 a101 ha102) rfl rfl mX9_147 t_X6_hasPerson rfl (Nat.le_of_ble_eq_true rfl) (by decide) (by decide) (c_X6_hasPerson (g := g) S hI a101 ha102 x1) (fun S103 v105 h104 => ?_)
  obtain ⟨rfl, b106, x107⟩ := h104
  refine mw_if_eq (tgt := 18) dX9_putBy_8 (by decide) (fun q108 => ?_) (fun q108 => ?_)
  · skip
    have b109 : mm_b (0) (0) v105 := bd_eq_l q108 b106 n_0 (by decide)
    refine mw_ldc dX9_putBy_18 kX9_150 ?_
    exact mw_iret rfl dX9_putBy_20 rfl rfl ⟨S, _, rfl, rfl, hI, hF, bd_w n_m1000000001 (by decide), trivial⟩
  · skip
    have b110 : mm_b (1) (1) v105 := bd_ne_l q108 b106 n_0 (by decide)
    have b111 := Or.resolve_left x107 q108
    refine mw_iload_n dX9_putBy_11 rfl 2 rfl ?_
    refine tc_Si (as := [.int x2]) (st := []) dX9_putBy_12 rfl mX9_195 t_X9_isVoiceNumber rfl (Nat.le_of_ble_eq_true rfl) (by decide) (by decide) (c_X9_isVoiceNumber (g := g) S hI x2) (fun S112 v114 h113 => ?_)
    obtain ⟨rfl, b115, x116⟩ := h113
    refine mw_if_ne (tgt := 21) dX9_putBy_15 (by decide) (fun q117 => ?_) (fun q117 => ?_)
    · skip
      have b118 : mm_b (1) (1) v114 := bd_ne_l q117 b115 n_0 (by decide)
      have b119 := Or.resolve_left x116 q117
      refine mw_aload_n dX9_putBy_21 rfl 0 rfl ?_
      refine tw_getr (j := 3) dX9_putBy_22 shC_0 rfl rfl (by decide) fX9_29 ?_
      refine mw_iload_n dX9_putBy_25 rfl 1 rfl ?_
      refine tc_Vi (as := [.int x1]) (st := []) dX9_putBy_26 rfl shC_15 rfl rfl mX9_167 t_X3_lives rfl (Nat.le_of_ble_eq_true rfl) (by decide) (by decide) (c_X3_lives_15 (g := g) S hI x1) (fun S120 v122 h121 => ?_)
      obtain ⟨rfl, b123, x124⟩ := h121
      refine mw_if_eq (tgt := 47) dX9_putBy_29 (by decide) (fun q125 => ?_) (fun q125 => ?_)
      · skip
        have b126 : mm_b (0) (0) v122 := bd_eq_l q125 b123 n_0 (by decide)
        refine mw_ldc dX9_putBy_47 kX9_179 ?_
        exact mw_iret rfl dX9_putBy_49 rfl rfl ⟨S, _, rfl, rfl, hI, hF, bd_w n_m1000000003 (by decide), trivial⟩
      · skip
        have b127 : mm_b (1) (1) v122 := bd_ne_l q125 b123 n_0 (by decide)
        have b128 := Or.resolve_left x124 q125
        refine mw_aload_n dX9_putBy_32 rfl 0 rfl ?_
        refine tw_getr (j := 3) dX9_putBy_33 shC_0 rfl rfl (by decide) fX9_29 ?_
        refine mw_iload_n dX9_putBy_36 rfl 1 rfl ?_
        refine tc_Vi (as := [.int x1]) (st := []) dX9_putBy_37 rfl shC_15 rfl rfl mX9_155 t_X3_jarOf rfl (Nat.le_of_ble_eq_true rfl) (by decide) (by decide) (c_X3_jarOf_15 (g := g) S hI x1) (fun S129 v131 h130 => ?_)
        obtain ⟨rfl, b132, x133⟩ := h130
        refine mw_iload_n dX9_putBy_40 rfl 2 rfl ?_
        refine tc_Si (as := [.int v131, .int x2]) (st := []) dX9_putBy_41 rfl mX9_198 t_X9_isIn rfl (Nat.le_of_ble_eq_true rfl) (by decide) (by decide) (c_X9_isIn (g := g) S hI v131 x2) (fun S134 v136 h135 => ?_)
        obtain ⟨rfl, b137, x138⟩ := h135
        refine mw_if_ne (tgt := 50) dX9_putBy_44 (by decide) (fun q139 => ?_) (fun q139 => ?_)
        · skip
          have b140 : mm_b (1) (1) v136 := bd_ne_l q139 b137 n_0 (by decide)
          have b141 := Or.resolve_left x138 q139
          refine mw_aload_n dX9_putBy_50 rfl 0 rfl ?_
          refine tw_getr (j := 5) dX9_putBy_51 shC_0 rfl rfl (by decide) fX9_39 ?_
          refine mw_aload_n dX9_putBy_54 rfl 0 rfl ?_
          refine tw_getr (j := 3) dX9_putBy_55 shC_0 rfl rfl (by decide) fX9_29 ?_
          refine tc_Vv (as := [.ref 15]) (st := []) dX9_putBy_58 rfl shC_25 rfl rfl mX9_180 t_X7_remember rfl (Nat.le_of_ble_eq_true rfl) (by decide) (by decide) (c_X7_remember (g := g) S hI) (fun S142 h143 => ?_)
          obtain ⟨hI145, hf146, x144⟩ := h143
          have hF147 := fr_tr hF hf146 (by decide) (by decide) (by decide) (by decide)
          refine mw_aload_n dX9_putBy_61 rfl 0 rfl ?_
          refine tw_getr (j := 3) dX9_putBy_62 shC_0 rfl rfl (by decide) fX9_29 ?_
          refine mw_iload_n dX9_putBy_65 rfl 1 rfl ?_
          refine mw_iload_n dX9_putBy_66 rfl 2 rfl ?_
          refine tc_Vi (as := [.int x1, .int x2]) (st := []) dX9_putBy_67 rfl shC_15 rfl rfl mX9_201 t_X3_takeOut rfl (Nat.le_of_ble_eq_true rfl) (by decide) (by decide) (c_X3_takeOut_15 (g := g) S142 hI145 x1 x2) (fun S148 v150 h149 => ?_)
          obtain ⟨hI154, hf155, b151, x152⟩ := h149
          have hF156 := fr_tr hF147 hf155 (by decide) (by decide) (by decide) (by decide)
          exact mw_iret rfl dX9_putBy_70 rfl rfl ⟨S148, _, rfl, rfl, hI154, hF156, b151, trivial⟩
        · skip
          have b157 : mm_b (0) (0) v136 := bd_eq_l q139 b137 n_0 (by decide)
          refine mw_ldc dX9_putBy_47 kX9_179 ?_
          exact mw_iret rfl dX9_putBy_49 rfl rfl ⟨S, _, rfl, rfl, hI, hF, bd_w n_m1000000003 (by decide), trivial⟩
    · skip
      have b158 : mm_b (0) (0) v114 := bd_eq_l q117 b115 n_0 (by decide)
      refine mw_ldc dX9_putBy_18 kX9_150 ?_
      exact mw_iret rfl dX9_putBy_20 rfl rfl ⟨S, _, rfl, rfl, hI, hF, bd_w n_m1000000001 (by decide), trivial⟩
set_option maxRecDepth 100000 in
set_option maxHeartbeats 4000000 in
theorem c_X9_canInherit {g : mm_G} (S : mm_S) (hI : JC S) (x1 : Int32) (x2 : Int32) : mc g yX9_canInherit cX9_canInherit 3 (some .boolean) (mm_rm 1) [.ref 0, .int x1, .int x2] (mm_enc shC S) (qi shC (fun S1 v => S = S1 ∧ mm_b (0) (1) v ∧ (v = 0 ∨ (mm_b (0) (9) x2)))) := by
  refine mc_of2 (own := RX9) (ini := false) (ls := [(0, .ref 0), (1, .int x1), (2, .int x2)]) (by decide) (Nat.le_of_ble_eq_true rfl) rfl (by decide) rfl ?_
  refine mw_iload_n dX9_canInherit_0 rfl 2 rfl ?_
  refine mw_bipush dX9_canInherit_1 kb_9 ?_
  refine mw_icmp_eq (tgt := 22) dX9_canInherit_3 (by decide) (fun q101 => ?_) (fun q101 => ?_)
  · skip
    have b102 : mm_b (9) (9) x2 := bd_eq_l q101 (bd_all x2) n_9 (by decide)
    refine mw_iconst dX9_canInherit_22 ki_1 ?_
    refine mw_goto (tgt := 27) dX9_canInherit_23 (by decide) ?_
    exact mw_zret rfl (bd_nar n_1 (by decide)) dX9_canInherit_27 rfl rfl ⟨S, _, rfl, rfl, rfl, bd_w n_1 (by decide), Or.inr (bd_w b102 (by decide))⟩
  · skip
    refine mw_aload_n dX9_canInherit_6 rfl 0 rfl ?_
    refine tw_getm (j := 1) dX9_canInherit_7 shC_0 rfl rfl (by decide) fX9_19 (fun a103 ea103 => ?_)
    have ha104 : a103 ∈ LC_parish := by rw [ea103]; exact JRC_1 hI
    refine mw_iload_n dX9_canInherit_10 rfl 2 rfl ?_
    refine tc_Vi (as := [.int x2]) (st := []) dX9_canInherit_11 rfl (shC_parish_0 a103 ha104) rfl rfl mX9_147 t_X6_hasPerson rfl (Nat.le_of_ble_eq_true rfl) (by decide) (by decide) (c_X6_hasPerson (g := g) S hI a103 ha104 x2) (fun S105 v107 h106 => ?_)
    obtain ⟨rfl, b108, x109⟩ := h106
    refine mw_if_eq (tgt := 26) dX9_canInherit_14 (by decide) (fun q110 => ?_) (fun q110 => ?_)
    · skip
      have b111 : mm_b (0) (0) v107 := bd_eq_l q110 b108 n_0 (by decide)
      refine mw_iconst dX9_canInherit_26 ki_0 ?_
      exact mw_zret rfl (bd_nar n_0 (by decide)) dX9_canInherit_27 rfl rfl ⟨S, _, rfl, rfl, rfl, bd_w n_0 (by decide), Or.inl rfl⟩
    · skip
      have b112 : mm_b (1) (1) v107 := bd_ne_l q110 b108 n_0 (by decide)
      have b113 := Or.resolve_left x109 q110
      refine mw_iload_n dX9_canInherit_17 rfl 2 rfl ?_
      refine mw_iload_n dX9_canInherit_18 rfl 1 rfl ?_
      refine mw_icmp_eq (tgt := 26) dX9_canInherit_19 (by decide) (fun q114 => ?_) (fun q114 => ?_)
      · skip
        have b115 : mm_b (0) (6) x1 := bd_eq_l (Eq.symm q114) (bd_all x1) b113 (by decide)
        refine mw_iconst dX9_canInherit_26 ki_0 ?_
        exact mw_zret rfl (bd_nar n_0 (by decide)) dX9_canInherit_27 rfl rfl ⟨S, _, rfl, rfl, rfl, bd_w n_0 (by decide), Or.inl rfl⟩
      · skip
        refine mw_iconst dX9_canInherit_22 ki_1 ?_
        refine mw_goto (tgt := 27) dX9_canInherit_23 (by decide) ?_
        exact mw_zret rfl (bd_nar n_1 (by decide)) dX9_canInherit_27 rfl rfl ⟨S, _, rfl, rfl, rfl, bd_w n_1 (by decide), Or.inr (bd_w b113 (by decide))⟩
set_option maxRecDepth 100000 in
set_option maxHeartbeats 4000000 in
theorem c_X9_will {g : mm_G} (S : mm_S) (hI : JC S) (x1 : Int32) (x2 : Int32) (x3 : Int32) : mc g yX9_will cX9_will 5 (some .int) (mm_rm 2) [.ref 0, .int x1, .int x2, .int x3] (mm_enc shC S) (qi shC (fun S1 v => JC S1 ∧ fr [15, 16, 17, 18, 19, 20, 21, 22, 23, 24, 25, 27, 28, 29, 30, 31, 32, 33, 34, 35, 36, 37, 38, 39, 40, 41, 42, 43, 44, 45, 46, 47, 48, 49, 50, 51, 52, 53, 54, 55, 56, 57, 58, 59, 60, 61, 62, 63, 64, 65, 66, 67, 68, 69, 70, 71, 72, 73, 74, 75, 76, 77, 78, 79, 80, 81, 82, 83, 84, 85, 86, 87, 88, 89, 90, 91, 92, 93, 94, 95, 96, 97, 98, 99, 100, 101, 102, 103, 104, 105, 106, 107, 108, 109, 110, 111, 112, 113, 114, 115, 116, 117, 118, 119, 120, 121, 122, 123, 124, 125, 126, 152, 153, 154, 155, 156, 158, 159, 160, 161, 162] [] true true S S1 ∧ mm_b (-2147483648) (2147483647) v ∧ (True))) := by
  refine mc_of2 (own := RX9) (ini := false) (ls := [(0, .ref 0), (1, .int x1), (2, .int x2), (3, .int x3)]) (by decide) (Nat.le_of_ble_eq_true rfl) rfl (by decide) rfl ?_
  have hF : fr [15, 16, 17, 18, 19, 20, 21, 22, 23, 24, 25, 27, 28, 29, 30, 31, 32, 33, 34, 35, 36, 37, 38, 39, 40, 41, 42, 43, 44, 45, 46, 47, 48, 49, 50, 51, 52, 53, 54, 55, 56, 57, 58, 59, 60, 61, 62, 63, 64, 65, 66, 67, 68, 69, 70, 71, 72, 73, 74, 75, 76, 77, 78, 79, 80, 81, 82, 83, 84, 85, 86, 87, 88, 89, 90, 91, 92, 93, 94, 95, 96, 97, 98, 99, 100, 101, 102, 103, 104, 105, 106, 107, 108, 109, 110, 111, 112, 113, 114, 115, 116, 117, 118, 119, 120, 121, 122, 123, 124, 125, 126, 152, 153, 154, 155, 156, 158, 159, 160, 161, 162] [] true true S S := fr_rf
  refine mw_aload_n dX9_will_0 rfl 0 rfl ?_
  refine tw_getm (j := 1) dX9_will_1 shC_0 rfl rfl (by decide) fX9_19 (fun a101 ea101 => ?_)
  have ha102 : a101 ∈ LC_parish := by rw [ea101]; exact JRC_1 hI
  refine mw_iload_n dX9_will_4 rfl 1 rfl ?_
  refine tc_Vi (as := [.int x1]) (st := []) dX9_will_5 rfl (shC_parish_0 a101 ha102) rfl rfl mX9_147 t_X6_hasPerson rfl (Nat.le_of_ble_eq_true rfl) (by decide) (by decide) (c_X6_hasPerson (g := g) S hI a101 ha102 x1) (fun S103 v105 h104 => ?_)
  obtain ⟨rfl, b106, x107⟩ := h104
  refine mw_if_eq (tgt := 29) dX9_will_8 (by decide) (fun q108 => ?_) (fun q108 => ?_)
  · skip
    have b109 : mm_b (0) (0) v105 := bd_eq_l q108 b106 n_0 (by decide)
    refine mw_ldc dX9_will_29 kX9_150 ?_
    exact mw_iret rfl dX9_will_31 rfl rfl ⟨S, _, rfl, rfl, hI, hF, bd_w n_m1000000001 (by decide), trivial⟩
  · skip
    have b110 : mm_b (1) (1) v105 := bd_ne_l q108 b106 n_0 (by decide)
    have b111 := Or.resolve_left x107 q108
    refine mw_aload_n dX9_will_11 rfl 0 rfl ?_
    refine mw_iload_n dX9_will_12 rfl 1 rfl ?_
    refine mw_iload_n dX9_will_13 rfl 2 rfl ?_
    refine tc_Vi (as := [.int x1, .int x2]) (st := []) dX9_will_14 rfl shC_0 rfl rfl mX9_205 t_X9_canInherit rfl (Nat.le_of_ble_eq_true rfl) (by decide) (by decide) (c_X9_canInherit (g := g) S hI x1 x2) (fun S112 v114 h113 => ?_)
    obtain ⟨rfl, b115, x116⟩ := h113
    refine mw_if_eq (tgt := 29) dX9_will_17 (by decide) (fun q117 => ?_) (fun q117 => ?_)
    · skip
      have b118 : mm_b (0) (0) v114 := bd_eq_l q117 b115 n_0 (by decide)
      refine mw_ldc dX9_will_29 kX9_150 ?_
      exact mw_iret rfl dX9_will_31 rfl rfl ⟨S, _, rfl, rfl, hI, hF, bd_w n_m1000000001 (by decide), trivial⟩
    · skip
      have b119 : mm_b (1) (1) v114 := bd_ne_l q117 b115 n_0 (by decide)
      have b120 := Or.resolve_left x116 q117
      refine mw_aload_n dX9_will_20 rfl 0 rfl ?_
      refine mw_iload_n dX9_will_21 rfl 1 rfl ?_
      refine mw_iload_n dX9_will_22 rfl 3 rfl ?_
      refine tc_Vi (as := [.int x1, .int x3]) (st := []) dX9_will_23 rfl shC_0 rfl rfl mX9_205 t_X9_canInherit rfl (Nat.le_of_ble_eq_true rfl) (by decide) (by decide) (c_X9_canInherit (g := g) S hI x1 x3) (fun S121 v123 h122 => ?_)
      obtain ⟨rfl, b124, x125⟩ := h122
      refine mw_if_ne (tgt := 32) dX9_will_26 (by decide) (fun q126 => ?_) (fun q126 => ?_)
      · skip
        have b127 : mm_b (1) (1) v123 := bd_ne_l q126 b124 n_0 (by decide)
        have b128 := Or.resolve_left x125 q126
        refine mw_aload_n dX9_will_32 rfl 0 rfl ?_
        refine tw_getr (j := 3) dX9_will_33 shC_0 rfl rfl (by decide) fX9_29 ?_
        refine mw_iload_n dX9_will_36 rfl 1 rfl ?_
        refine tc_Vi (as := [.int x1]) (st := []) dX9_will_37 rfl shC_15 rfl rfl mX9_167 t_X3_lives rfl (Nat.le_of_ble_eq_true rfl) (by decide) (by decide) (c_X3_lives_15 (g := g) S hI x1) (fun S129 v131 h130 => ?_)
        obtain ⟨rfl, b132, x133⟩ := h130
        refine mw_if_ne (tgt := 46) dX9_will_40 (by decide) (fun q134 => ?_) (fun q134 => ?_)
        · skip
          have b135 : mm_b (1) (1) v131 := bd_ne_l q134 b132 n_0 (by decide)
          have b136 := Or.resolve_left x133 q134
          refine mw_aload_n dX9_will_46 rfl 0 rfl ?_
          refine tw_getr (j := 5) dX9_will_47 shC_0 rfl rfl (by decide) fX9_39 ?_
          refine mw_aload_n dX9_will_50 rfl 0 rfl ?_
          refine tw_getr (j := 3) dX9_will_51 shC_0 rfl rfl (by decide) fX9_29 ?_
          refine tc_Vv (as := [.ref 15]) (st := []) dX9_will_54 rfl shC_25 rfl rfl mX9_180 t_X7_remember rfl (Nat.le_of_ble_eq_true rfl) (by decide) (by decide) (c_X7_remember (g := g) S hI) (fun S137 h138 => ?_)
          obtain ⟨hI140, hf141, x139⟩ := h138
          have hF142 := fr_tr hF hf141 (by decide) (by decide) (by decide) (by decide)
          refine mw_bipush dX9_will_57 kb_10 ?_
          refine mw_aload_n dX9_will_59 rfl 0 rfl ?_
          refine tw_getr (j := 3) dX9_will_60 shC_0 rfl rfl (by decide) fX9_29 ?_
          refine mw_iload_n dX9_will_63 rfl 1 rfl ?_
          refine tc_Vi (as := [.int x1]) (st := [.int 10]) dX9_will_64 rfl shC_15 rfl rfl mX9_158 t_X3_firstHeir rfl (Nat.le_of_ble_eq_true rfl) (by decide) (by decide) (c_X3_firstHeir_15 (g := g) S137 hI140 x1) (fun S143 v145 h144 => ?_)
          obtain ⟨rfl, b146, x147⟩ := h144
          refine mw_imul dX9_will_67 (fun v148 ev148 => ?_)
          refine mw_aload_n dX9_will_68 rfl 0 rfl ?_
          refine tw_getr (j := 3) dX9_will_69 shC_0 rfl rfl (by decide) fX9_29 ?_
          refine mw_iload_n dX9_will_72 rfl 1 rfl ?_
          refine tc_Vi (as := [.int x1]) (st := [.int v148]) dX9_will_73 rfl shC_15 rfl rfl mX9_161 t_X3_secondHeir rfl (Nat.le_of_ble_eq_true rfl) (by decide) (by decide) (c_X3_secondHeir_15 (g := g) S137 hI140 x1) (fun S149 v151 h150 => ?_)
          obtain ⟨rfl, b152, x153⟩ := h150
          refine mw_iadd dX9_will_76 (fun v154 ev154 => ?_)
          refine mw_istore (ls' := [(4, .int v154), (0, .ref 0), (1, .int x1), (2, .int x2), (3, .int x3)]) dX9_will_77 (by decide) rfl ?_
          refine mw_aload_n dX9_will_79 rfl 1 rfl ?_
          refine tw_getr (j := 3) dX9_will_80 shC_0 rfl rfl (by decide) fX9_29 ?_
          refine mw_iload_n dX9_will_83 rfl 2 rfl ?_
          refine mw_iload_n dX9_will_84 rfl 3 rfl ?_
          refine mw_iload_n dX9_will_85 rfl 4 rfl ?_
          refine tc_Vv (as := [.int x1, .int x2, .int x3]) (st := []) dX9_will_86 rfl shC_15 rfl rfl mX9_208 t_X3_changeWill rfl (Nat.le_of_ble_eq_true rfl) (by decide) (by decide) (c_X3_changeWill_15 (g := g) S137 hI140 x1 x2 x3) (fun S155 h156 => ?_)
          obtain ⟨hI158, hf159, x157⟩ := h156
          have hF160 := fr_tr hF142 hf159 (by decide) (by decide) (by decide) (by decide)
          refine mw_iload dX9_will_89 0 rfl ?_
          exact mw_iret rfl dX9_will_91 rfl rfl ⟨S155, _, rfl, rfl, hI158, hF160, (bd_all v154), trivial⟩
        · skip
          have b161 : mm_b (0) (0) v131 := bd_eq_l q134 b132 n_0 (by decide)
          refine mw_ldc dX9_will_43 kX9_179 ?_
          exact mw_iret rfl dX9_will_45 rfl rfl ⟨S, _, rfl, rfl, hI, hF, bd_w n_m1000000003 (by decide), trivial⟩
      · skip
        have b162 : mm_b (0) (0) v123 := bd_eq_l q126 b124 n_0 (by decide)
        refine mw_ldc dX9_will_29 kX9_150 ?_
        exact mw_iret rfl dX9_will_31 rfl rfl ⟨S, _, rfl, rfl, hI, hF, bd_w n_m1000000001 (by decide), trivial⟩
set_option maxRecDepth 100000 in
set_option maxHeartbeats 4000000 in
theorem c_X9_passYear {g : mm_G} (S : mm_S) (hI : JC S)  : mc g yX9_passYear cX9_passYear 3 none (mm_rm 4) [.ref 0] (mm_enc shC S) (qv shC (fun S1 => JC S1 ∧ fr [15, 16, 17, 128] [] true true S S1 ∧ True)) := by
  refine mc_of2 (own := RX9) (ini := false) (ls := [(0, .ref 0)]) (by decide) (Nat.le_of_ble_eq_true rfl) rfl (by decide) rfl ?_
  have hF : fr [15, 16, 17, 128] [] true true S S := fr_rf
  refine mw_aload_n dX9_passYear_0 rfl 0 rfl ?_
  refine tw_getr (j := 7) dX9_passYear_1 shC_0 rfl rfl (by decide) fX9_52 ?_
  refine mw_aload_n dX9_passYear_4 rfl 0 rfl ?_
  refine tw_getm (j := 1) dX9_passYear_5 shC_0 rfl rfl (by decide) fX9_19 (fun a101 ea101 => ?_)
  have ha102 : a101 ∈ LC_parish := by rw [ea101]; exact JRC_1 hI
  refine tw_geti (j := 0) dX9_passYear_8 (shC_parish_0 a101 ha102) rfl rfl (by decide) fX9_117 (fun v103 ev103 => ?_)
  have b104 : mm_b (0) (7) v103 := JIC_fld hI ev103 (tbC_parish_0_0 a101 ha102) (by decide)
  refine tc_Vi (as := [.int v103]) (st := []) dX9_passYear_11 rfl shC_128 rfl rfl mX9_308 t_X1_next rfl (Nat.le_of_ble_eq_true rfl) (by decide) (by decide) (c_X1_next (g := g) S hI v103) (fun S105 v107 h106 => ?_)
  obtain ⟨hI111, hf112, b108, x109⟩ := h106
  have hF113 := fr_tr hF hf112 (by decide) (by decide) (by decide) (by decide)
  refine mw_istore_n (ls' := [(1, .int v107), (0, .ref 0)]) dX9_passYear_14 rfl (by decide) rfl ?_
  refine mw_aload_n dX9_passYear_15 rfl 1 rfl ?_
  refine tw_getr (j := 7) dX9_passYear_16 shC_0 rfl rfl (by decide) fX9_52 ?_
  refine mw_iconst dX9_passYear_19 ki_3 ?_
  refine tc_Vi (as := [.int 3]) (st := []) dX9_passYear_20 rfl shC_128 rfl rfl mX9_308 t_X1_next rfl (Nat.le_of_ble_eq_true rfl) (by decide) (by decide) (c_X1_next (g := g) S105 hI111 (3 : Int32)) (fun S114 v116 h115 => ?_)
  obtain ⟨hI120, hf121, b117, x118⟩ := h115
  have hF122 := fr_tr hF113 hf121 (by decide) (by decide) (by decide) (by decide)
  refine mw_istore_n (ls' := [(2, .int v116), (1, .int v107), (0, .ref 0)]) dX9_passYear_23 rfl (by decide) rfl ?_
  refine mw_iload_n dX9_passYear_24 rfl 0 rfl ?_
  refine mw_if_ne (tgt := 40) dX9_passYear_25 (by decide) (fun q123 => ?_) (fun q123 => ?_)
  · skip
    refine mw_iload_n dX9_passYear_40 rfl 0 rfl ?_
    refine mw_iconst dX9_passYear_41 ki_1 ?_
    refine mw_icmp_ne (tgt := 73) dX9_passYear_42 (by decide) (fun q124 => ?_) (fun q124 => ?_)
    · skip
      exact mw_vret rfl dX9_passYear_73 rfl rfl ⟨S114, rfl, rfl, ⟨hI120, hF122, trivial⟩⟩
    · skip
      have b125 : mm_b (1) (1) v116 := bd_eq_l q124 b117 n_1 (by decide)
      refine mw_aload_n dX9_passYear_45 rfl 2 rfl ?_
      refine tw_getr (j := 3) dX9_passYear_46 shC_0 rfl rfl (by decide) fX9_29 ?_
      refine mw_iload_n dX9_passYear_49 rfl 1 rfl ?_
      refine mw_iload_n dX9_passYear_50 rfl 1 rfl ?_
      refine mw_iconst dX9_passYear_51 ki_1 ?_
      refine mw_iadd dX9_passYear_52 (fun v126 ev126 => ?_)
      refine mw_aload_n dX9_passYear_53 rfl 2 rfl ?_
      refine tw_getm (j := 1) dX9_passYear_54 shC_0 rfl rfl (by decide) fX9_19 (fun a127 ea127 => ?_)
      have ha128 : a127 ∈ LC_parish := by rw [ea127]; exact JRC_1 hI120
      refine tw_geti (j := 0) dX9_passYear_57 (shC_parish_0 a127 ha128) rfl rfl (by decide) fX9_117 (fun v129 ev129 => ?_)
      have b130 : mm_b (0) (7) v129 := JIC_fld hI120 ev129 (tbC_parish_0_0 a127 ha128) (by decide)
      refine mw_icmp_ge (tgt := 69) dX9_passYear_60 (by decide) (fun q131 => ?_) (fun q131 => ?_)
      · skip
        have b132 : mm_b (0) (2147483647) v126 := bd_le_r q131 b130 (bd_all v126) (by decide)
        refine mw_iconst dX9_passYear_69 ki_0 ?_
        refine tc_Vv (as := [.int v107, .int 0]) (st := []) dX9_passYear_70 rfl shC_15 rfl rfl mX9_191 t_X3_handOver rfl (Nat.le_of_ble_eq_true rfl) (by decide) (by decide) (c_X3_handOver_15 (g := g) S114 hI120 v107 (0 : Int32)) (fun S133 h134 => ?_)
        obtain ⟨hI136, hf137, x135⟩ := h134
        have hF138 := fr_tr hF122 hf137 (by decide) (by decide) (by decide) (by decide)
        exact mw_vret rfl dX9_passYear_73 rfl rfl ⟨S133, rfl, rfl, ⟨hI136, hF138, trivial⟩⟩
      · skip
        have b139 : mm_b (-2147483648) (6) v126 := bd_lt_l (bd_nle q131) (bd_all v126) b130 (by decide)
        refine mw_iload_n dX9_passYear_63 rfl 1 rfl ?_
        refine mw_iconst dX9_passYear_64 ki_1 ?_
        refine mw_iadd dX9_passYear_65 (fun v140 ev140 => ?_)
        have cv140 : v126 = v140 := ev126.trans ev140.symm
        subst cv140
        refine mw_goto (tgt := 70) dX9_passYear_66 (by decide) ?_
        refine tc_Vv (as := [.int v107, .int v126]) (st := []) dX9_passYear_70 rfl shC_15 rfl rfl mX9_191 t_X3_handOver rfl (Nat.le_of_ble_eq_true rfl) (by decide) (by decide) (c_X3_handOver_15 (g := g) S114 hI120 v107 v126) (fun S141 h142 => ?_)
        obtain ⟨hI144, hf145, x143⟩ := h142
        have hF146 := fr_tr hF122 hf145 (by decide) (by decide) (by decide) (by decide)
        exact mw_vret rfl dX9_passYear_73 rfl rfl ⟨S141, rfl, rfl, ⟨hI144, hF146, trivial⟩⟩
  · skip
    have b147 : mm_b (0) (0) v116 := bd_eq_l q123 b117 n_0 (by decide)
    refine mw_aload_n dX9_passYear_28 rfl 2 rfl ?_
    refine tw_getr (j := 3) dX9_passYear_29 shC_0 rfl rfl (by decide) fX9_29 ?_
    refine mw_iload_n dX9_passYear_32 rfl 1 rfl ?_
    refine tc_Vi (as := [.int v107]) (st := []) dX9_passYear_33 rfl shC_15 rfl rfl mX9_184 t_X3_bury rfl (Nat.le_of_ble_eq_true rfl) (by decide) (by decide) (c_X3_bury_15 (g := g) S114 hI120 v107) (fun S148 v150 h149 => ?_)
    obtain ⟨hI154, hf155, b151, x152⟩ := h149
    have hF156 := fr_tr hF122 hf155 (by decide) (by decide) (by decide) (by decide)
    refine mw_pop dX9_passYear_36 rfl ?_
    refine mw_goto (tgt := 73) dX9_passYear_37 (by decide) ?_
    exact mw_vret rfl dX9_passYear_73 rfl rfl ⟨S148, rfl, rfl, ⟨hI154, hF156, trivial⟩⟩
set_option maxRecDepth 100000 in
set_option maxHeartbeats 4000000 in
theorem c_X9_drift {g : mm_G} (S : mm_S) (hI : JC S) (x1 : Int32) : mc g yX9_drift cX9_drift 3 (some .int) (mm_rm 5) [.ref 0, .int x1] (mm_enc shC S) (qi shC (fun S1 v => JC S1 ∧ fr [15, 16, 17, 18, 19, 20, 21, 22, 23, 24, 25, 27, 28, 29, 30, 31, 32, 33, 34, 35, 36, 37, 38, 39, 40, 41, 42, 43, 44, 45, 46, 47, 48, 49, 50, 51, 52, 53, 54, 55, 56, 57, 58, 59, 60, 61, 62, 63, 64, 65, 66, 67, 68, 69, 70, 71, 72, 73, 74, 75, 76, 77, 78, 79, 80, 81, 82, 83, 84, 85, 86, 87, 88, 89, 90, 91, 92, 93, 94, 95, 96, 97, 98, 99, 100, 101, 102, 103, 104, 105, 106, 107, 108, 109, 110, 111, 112, 113, 114, 115, 116, 117, 118, 119, 120, 121, 122, 123, 124, 125, 126, 128, 152, 153, 154, 155, 156, 158, 159, 160, 161, 162] [] true true S S1 ∧ mm_b (-2147483648) (2147483647) v ∧ (True))) := by
  refine mc_of2 (own := RX9) (ini := false) (ls := [(0, .ref 0), (1, .int x1)]) (by decide) (Nat.le_of_ble_eq_true rfl) rfl (by decide) rfl ?_
  have hF : fr [15, 16, 17, 18, 19, 20, 21, 22, 23, 24, 25, 27, 28, 29, 30, 31, 32, 33, 34, 35, 36, 37, 38, 39, 40, 41, 42, 43, 44, 45, 46, 47, 48, 49, 50, 51, 52, 53, 54, 55, 56, 57, 58, 59, 60, 61, 62, 63, 64, 65, 66, 67, 68, 69, 70, 71, 72, 73, 74, 75, 76, 77, 78, 79, 80, 81, 82, 83, 84, 85, 86, 87, 88, 89, 90, 91, 92, 93, 94, 95, 96, 97, 98, 99, 100, 101, 102, 103, 104, 105, 106, 107, 108, 109, 110, 111, 112, 113, 114, 115, 116, 117, 118, 119, 120, 121, 122, 123, 124, 125, 126, 128, 152, 153, 154, 155, 156, 158, 159, 160, 161, 162] [] true true S S := fr_rf
  refine mw_iload_n dX9_drift_0 rfl 1 rfl ?_
  refine mw_iconst dX9_drift_1 ki_1 ?_
  refine mw_icmp_lt (tgt := 11) dX9_drift_2 (by decide) (fun q101 => ?_) (fun q101 => ?_)
  · skip
    have b102 : mm_b (-2147483648) (0) x1 := bd_lt_l q101 (bd_all x1) n_1 (by decide)
    refine mw_ldc dX9_drift_11 kX9_86 ?_
    exact mw_iret rfl dX9_drift_13 rfl rfl ⟨S, _, rfl, rfl, hI, hF, bd_w n_m1000000002 (by decide), trivial⟩
  · skip
    have b103 : mm_b (1) (2147483647) x1 := bd_le_r (bd_nlt q101) n_1 (bd_all x1) (by decide)
    refine mw_iload_n dX9_drift_5 rfl 1 rfl ?_
    refine mw_bipush dX9_drift_6 kb_60 ?_
    refine mw_icmp_le (tgt := 14) dX9_drift_8 (by decide) (fun q104 => ?_) (fun q104 => ?_)
    · skip
      have b105 : mm_b (1) (60) x1 := bd_le_l q104 b103 n_60 (by decide)
      refine mw_aload_n dX9_drift_14 rfl 0 rfl ?_
      refine tw_getm (j := 1) dX9_drift_15 shC_0 rfl rfl (by decide) fX9_19 (fun a106 ea106 => ?_)
      have ha107 : a106 ∈ LC_parish := by rw [ea106]; exact JRC_1 hI
      refine tw_geti (j := 0) dX9_drift_18 (shC_parish_0 a106 ha107) rfl rfl (by decide) fX9_117 (fun v108 ev108 => ?_)
      have b109 : mm_b (0) (7) v108 := JIC_fld hI ev108 (tbC_parish_0_0 a106 ha107) (by decide)
      refine mw_if_ne (tgt := 27) dX9_drift_21 (by decide) (fun q110 => ?_) (fun q110 => ?_)
      · skip
        have b111 : mm_b (1) (7) v108 := bd_ne_l q110 b109 n_0 (by decide)
        refine mw_aload_n dX9_drift_27 rfl 0 rfl ?_
        refine tw_getr (j := 5) dX9_drift_28 shC_0 rfl rfl (by decide) fX9_39 ?_
        refine mw_aload_n dX9_drift_31 rfl 0 rfl ?_
        refine tw_getr (j := 3) dX9_drift_32 shC_0 rfl rfl (by decide) fX9_29 ?_
        refine tc_Vv (as := [.ref 15]) (st := []) dX9_drift_35 rfl shC_25 rfl rfl mX9_180 t_X7_remember rfl (Nat.le_of_ble_eq_true rfl) (by decide) (by decide) (c_X7_remember (g := g) S hI) (fun S112 h113 => ?_)
        obtain ⟨hI115, hf116, x114⟩ := h113
        have hF117 := fr_tr hF hf116 (by decide) (by decide) (by decide) (by decide)
        refine mw_iconst dX9_drift_38 ki_0 ?_
        refine mw_istore_n (ls' := [(2, .int 0), (0, .ref 0), (1, .int x1)]) dX9_drift_39 rfl (by decide) rfl ?_
        have cut40 : ∀ (N40 : Nat) (S118 : mm_S) (y121 : Int32), ((61 : Int) - y121.toInt).toNat < N40 → JC S118 → fr [15, 16, 17, 18, 19, 20, 21, 22, 23, 24, 25, 27, 28, 29, 30, 31, 32, 33, 34, 35, 36, 37, 38, 39, 40, 41, 42, 43, 44, 45, 46, 47, 48, 49, 50, 51, 52, 53, 54, 55, 56, 57, 58, 59, 60, 61, 62, 63, 64, 65, 66, 67, 68, 69, 70, 71, 72, 73, 74, 75, 76, 77, 78, 79, 80, 81, 82, 83, 84, 85, 86, 87, 88, 89, 90, 91, 92, 93, 94, 95, 96, 97, 98, 99, 100, 101, 102, 103, 104, 105, 106, 107, 108, 109, 110, 111, 112, 113, 114, 115, 116, 117, 118, 119, 120, 121, 122, 123, 124, 125, 126, 128, 152, 153, 154, 155, 156, 158, 159, 160, 161, 162] [] true true S S118 → mm_b (0) (60) y121 → mw g RX9 cX9_drift 3 (some .int) false (mm_rm 5) (qi shC (fun S1 v => JC S1 ∧ fr [15, 16, 17, 18, 19, 20, 21, 22, 23, 24, 25, 27, 28, 29, 30, 31, 32, 33, 34, 35, 36, 37, 38, 39, 40, 41, 42, 43, 44, 45, 46, 47, 48, 49, 50, 51, 52, 53, 54, 55, 56, 57, 58, 59, 60, 61, 62, 63, 64, 65, 66, 67, 68, 69, 70, 71, 72, 73, 74, 75, 76, 77, 78, 79, 80, 81, 82, 83, 84, 85, 86, 87, 88, 89, 90, 91, 92, 93, 94, 95, 96, 97, 98, 99, 100, 101, 102, 103, 104, 105, 106, 107, 108, 109, 110, 111, 112, 113, 114, 115, 116, 117, 118, 119, 120, 121, 122, 123, 124, 125, 126, 128, 152, 153, 154, 155, 156, 158, 159, 160, 161, 162] [] true true S S1 ∧ mm_b (-2147483648) (2147483647) v ∧ (True))) 0 0 (mm_enc shC S118) 40 [(0, .ref 0), (1, .int x1), (2, .int y121)] [] := by
          intro N40
          induction N40 with
          | zero =>
            intro S118 y121 hm123 hI119 hF120 b122
            exact absurd hm123 (Nat.not_lt_zero _)
          | succ N40 ih40 =>
            intro S118 y121 hm123 hI119 hF120 b122
            refine mw_iload_n dX9_drift_40 rfl 2 rfl ?_
            refine mw_iload_n dX9_drift_41 rfl 1 rfl ?_
            refine mw_icmp_ge (tgt := 55) dX9_drift_42 (by decide) (fun q124 => ?_) (fun q124 => ?_)
            · skip
              have b125 : mm_b (1) (60) y121 := bd_le_r q124 b105 b122 (by decide)
              refine mw_aload_n dX9_drift_55 rfl 0 rfl ?_
              refine tw_getr (j := 3) dX9_drift_56 shC_0 rfl rfl (by decide) fX9_29 ?_
              refine tw_geti (j := 0) dX9_drift_59 shC_15 rfl rfl (by decide) fX9_132 (fun v126 ev126 => ?_)
              exact mw_iret rfl dX9_drift_62 rfl rfl ⟨S118, _, rfl, rfl, hI119, hF120, (bd_all v126), trivial⟩
            · skip
              have b127 : mm_b (0) (59) y121 := bd_lt_l (bd_nle q124) b122 b105 (by decide)
              refine mw_aload_n dX9_drift_45 rfl 0 rfl ?_
              refine tc_Vv (as := []) (st := []) dX9_drift_46 rfl shC_0 rfl rfl mX9_212 t_X9_passYear rfl (Nat.le_of_ble_eq_true rfl) (by decide) (by decide) (c_X9_passYear (g := g) S118 hI119) (fun S128 h129 => ?_)
              obtain ⟨hI131, hf132, x130⟩ := h129
              have hF133 := fr_tr hF120 hf132 (by decide) (by decide) (by decide) (by decide)
              refine mw_iinc (ls' := fun v => [(2, .int v), (0, .ref 0), (1, .int x1)]) dX9_drift_49 2 rfl (by decide) (fun _ => rfl) (fun v134 ev134 => ?_)
              have b135 : mm_b (1) (60) v134 := bd_inc ev134 b127 (by decide)
              refine mw_goto (tgt := 40) dX9_drift_52 (by decide) ?_
              refine mw_ls [1, 2, 0] rfl ?_
              exact ih40 S128 v134 (ms_inc ev134 b127 (by decide) hm123) hI131 hF133 (bd_w b135 (by decide))
        refine mw_ls [1, 2, 0] rfl ?_
        exact cut40 _ S112 (0 : Int32) (Nat.lt_succ_self _) hI115 hF117 (bd_w n_0 (by decide))
      · skip
        have b136 : mm_b (0) (0) v108 := bd_eq_l q110 b109 n_0 (by decide)
        refine mw_ldc dX9_drift_24 kX9_179 ?_
        exact mw_iret rfl dX9_drift_26 rfl rfl ⟨S, _, rfl, rfl, hI, hF, bd_w n_m1000000003 (by decide), trivial⟩
    · skip
      have b137 : mm_b (61) (2147483647) x1 := bd_lt_r (bd_nle q104) n_60 b103 (by decide)
      refine mw_ldc dX9_drift_11 kX9_86 ?_
      exact mw_iret rfl dX9_drift_13 rfl rfl ⟨S, _, rfl, rfl, hI, hF, bd_w n_m1000000002 (by decide), trivial⟩
set_option maxRecDepth 100000 in
set_option maxHeartbeats 4000000 in
theorem c_X9_undo {g : mm_G} (S : mm_S) (hI : JC S)  : mc g yX9_undo cX9_undo 1 (some .int) (mm_rm 2) [.ref 0] (mm_enc shC S) (qi shC (fun S1 v => JC S1 ∧ fr [15, 16, 17, 18, 19, 20, 21, 22, 23, 24, 25, 27, 28, 29, 30, 31, 32, 33, 34, 35, 36, 37, 38, 39, 40, 41, 42, 43, 44, 45, 46, 47, 48, 49, 50, 51, 52, 53, 54, 55, 56, 57, 58, 59, 60, 61, 62, 63, 64, 65, 66, 67, 68, 69, 70, 71, 72, 73, 74, 75, 76, 77, 78, 79, 80, 81, 82, 83, 84, 85, 86, 87, 88, 89, 90, 91, 92, 93, 94, 95, 96, 97, 98, 99, 100, 101, 102, 103, 104, 105, 106, 107, 108, 109, 110, 111, 112, 113, 114, 115, 116, 117, 118, 119, 120, 121, 122, 123, 124, 125, 126, 152, 153, 154, 155, 156, 158, 159, 160, 161, 162] [] true true S S1 ∧ mm_b (-1000000003) (20) v ∧ (True))) := by
  refine mc_of2 (own := RX9) (ini := false) (ls := [(0, .ref 0)]) (by decide) (Nat.le_of_ble_eq_true rfl) rfl (by decide) rfl ?_
  have hF : fr [15, 16, 17, 18, 19, 20, 21, 22, 23, 24, 25, 27, 28, 29, 30, 31, 32, 33, 34, 35, 36, 37, 38, 39, 40, 41, 42, 43, 44, 45, 46, 47, 48, 49, 50, 51, 52, 53, 54, 55, 56, 57, 58, 59, 60, 61, 62, 63, 64, 65, 66, 67, 68, 69, 70, 71, 72, 73, 74, 75, 76, 77, 78, 79, 80, 81, 82, 83, 84, 85, 86, 87, 88, 89, 90, 91, 92, 93, 94, 95, 96, 97, 98, 99, 100, 101, 102, 103, 104, 105, 106, 107, 108, 109, 110, 111, 112, 113, 114, 115, 116, 117, 118, 119, 120, 121, 122, 123, 124, 125, 126, 152, 153, 154, 155, 156, 158, 159, 160, 161, 162] [] true true S S := fr_rf
  refine mw_aload_n dX9_undo_0 rfl 0 rfl ?_
  refine tw_getr (j := 5) dX9_undo_1 shC_0 rfl rfl (by decide) fX9_39 ?_
  refine mw_aload_n dX9_undo_4 rfl 0 rfl ?_
  refine tw_getr (j := 3) dX9_undo_5 shC_0 rfl rfl (by decide) fX9_29 ?_
  refine tc_Vi (as := [.ref 15]) (st := []) dX9_undo_8 rfl shC_25 rfl rfl mX9_215 t_X7_bringBack rfl (Nat.le_of_ble_eq_true rfl) (by decide) (by decide) (c_X7_bringBack (g := g) S hI) (fun S101 v103 h102 => ?_)
  obtain ⟨hI107, hf108, b104, x105⟩ := h102
  have hF109 := fr_tr hF hf108 (by decide) (by decide) (by decide) (by decide)
  refine mw_if_eq (tgt := 24) dX9_undo_11 (by decide) (fun q110 => ?_) (fun q110 => ?_)
  · skip
    have b111 : mm_b (0) (0) v103 := bd_eq_l q110 b104 n_0 (by decide)
    refine mw_ldc dX9_undo_24 kX9_179 ?_
    exact mw_iret rfl dX9_undo_26 rfl rfl ⟨S101, _, rfl, rfl, hI107, hF109, bd_w n_m1000000003 (by decide), trivial⟩
  · skip
    have b112 : mm_b (1) (1) v103 := bd_ne_l q110 b104 n_0 (by decide)
    refine mw_aload_n dX9_undo_14 rfl 0 rfl ?_
    refine tw_getr (j := 5) dX9_undo_15 shC_0 rfl rfl (by decide) fX9_39 ?_
    refine tw_geti (j := 0) dX9_undo_18 shC_25 rfl rfl (by decide) fX9_146 (fun v113 ev113 => ?_)
    have b114 : mm_b (0) (20) v113 := JIC_fld hI107 ev113 tbC_33 (by decide)
    refine mw_goto (tgt := 26) dX9_undo_21 (by decide) ?_
    exact mw_iret rfl dX9_undo_26 rfl rfl ⟨S101, _, rfl, rfl, hI107, hF109, bd_w b114 (by decide), trivial⟩
set_option maxRecDepth 100000 in
set_option maxHeartbeats 4000000 in
theorem c_X9_tryLine {g : mm_G} (S : mm_S) (hI : JC S)  : mc g yX9_tryLine cX9_tryLine 1 none (mm_rm 5) [.ref 0] (mm_enc shC S) (qv shC (fun S1 => JC S1 ∧ fr [20, 21, 22, 23, 24] [] true true S S1 ∧ True)) := by
  refine mc_of2 (own := RX9) (ini := false) (ls := [(0, .ref 0)]) (by decide) (Nat.le_of_ble_eq_true rfl) rfl (by decide) rfl ?_
  have hF : fr [20, 21, 22, 23, 24] [] true true S S := fr_rf
  refine mw_aload_n dX9_tryLine_0 rfl 0 rfl ?_
  refine tw_getr (j := 4) dX9_tryLine_1 shC_0 rfl rfl (by decide) fX9_33 ?_
  refine mw_aload_n dX9_tryLine_4 rfl 0 rfl ?_
  refine tw_getr (j := 3) dX9_tryLine_5 shC_0 rfl rfl (by decide) fX9_29 ?_
  refine tc_Vv (as := [.ref 15]) (st := []) dX9_tryLine_8 rfl shC_20 rfl rfl mX9_302 t_X3_copy rfl (Nat.le_of_ble_eq_true rfl) (by decide) (by decide) (c_X3_copy_20_15 (g := g) S hI) (fun S101 h102 => ?_)
  obtain ⟨hI104, hf105, x103⟩ := h102
  have hF106 := fr_tr hF hf105 (by decide) (by decide) (by decide) (by decide)
  refine mw_aload_n dX9_tryLine_11 rfl 0 rfl ?_
  refine tw_getr (j := 11) dX9_tryLine_12 shC_0 rfl rfl (by decide) fX9_74 ?_
  refine mw_aload_n dX9_tryLine_15 rfl 0 rfl ?_
  refine tw_getr (j := 4) dX9_tryLine_16 shC_0 rfl rfl (by decide) fX9_33 ?_
  refine tc_Vv (as := [.ref 20]) (st := []) dX9_tryLine_19 rfl shC_138 rfl rfl mX9_311 t_X5_buryIn rfl (Nat.le_of_ble_eq_true rfl) (by decide) (by decide) (c_X5_buryIn (g := g) S101 hI104) (fun S107 h108 => ?_)
  obtain ⟨hI110, hf111, x109⟩ := h108
  have hF112 := fr_tr hF106 hf111 (by decide) (by decide) (by decide) (by decide)
  exact mw_vret rfl dX9_tryLine_22 rfl rfl ⟨S107, rfl, rfl, ⟨hI110, hF112, trivial⟩⟩
set_option maxRecDepth 100000 in
set_option maxHeartbeats 4000000 in
theorem c_X9_after {g : mm_G} (S : mm_S) (hI : JC S) (x1 : Int32) (x2 : Int32) : mc g yX9_after cX9_after 3 (some .int) (mm_rm 6) [.ref 0, .int x1, .int x2] (mm_enc shC S) (qi shC (fun S1 v => JC S1 ∧ fr [20, 21, 22, 23, 24, 138, 139] [] true true S S1 ∧ mm_b (-2147483648) (2147483647) v ∧ (True))) := by
  refine mc_of2 (own := RX9) (ini := false) (ls := [(0, .ref 0), (1, .int x1), (2, .int x2)]) (by decide) (Nat.le_of_ble_eq_true rfl) rfl (by decide) rfl ?_
  have hF : fr [20, 21, 22, 23, 24, 138, 139] [] true true S S := fr_rf
  refine mw_aload_n dX9_after_0 rfl 0 rfl ?_
  refine tw_getm (j := 1) dX9_after_1 shC_0 rfl rfl (by decide) fX9_19 (fun a101 ea101 => ?_)
  have ha102 : a101 ∈ LC_parish := by rw [ea101]; exact JRC_1 hI
  refine mw_iload_n dX9_after_4 rfl 2 rfl ?_
  refine tc_Vi (as := [.int x2]) (st := []) dX9_after_5 rfl (shC_parish_0 a101 ha102) rfl rfl mX9_147 t_X6_hasPerson rfl (Nat.le_of_ble_eq_true rfl) (by decide) (by decide) (c_X6_hasPerson (g := g) S hI a101 ha102 x2) (fun S103 v105 h104 => ?_)
  obtain ⟨rfl, b106, x107⟩ := h104
  refine mw_if_ne (tgt := 14) dX9_after_8 (by decide) (fun q108 => ?_) (fun q108 => ?_)
  · skip
    have b109 : mm_b (1) (1) v105 := bd_ne_l q108 b106 n_0 (by decide)
    have b110 := Or.resolve_left x107 q108
    refine mw_aload_n dX9_after_14 rfl 0 rfl ?_
    refine tw_getr (j := 11) dX9_after_15 shC_0 rfl rfl (by decide) fX9_74 ?_
    refine mw_iload_n dX9_after_18 rfl 1 rfl ?_
    refine mw_aload_n dX9_after_19 rfl 0 rfl ?_
    refine tw_getr (j := 3) dX9_after_20 shC_0 rfl rfl (by decide) fX9_29 ?_
    refine tc_Vi (as := [.int x1, .ref 15]) (st := []) dX9_after_23 rfl shC_138 rfl rfl mX9_219 t_X5_readOrder rfl (Nat.le_of_ble_eq_true rfl) (by decide) (by decide) (c_X5_readOrder (g := g) S hI x1) (fun S111 v113 h112 => ?_)
    obtain ⟨hI117, hf118, b114, x115⟩ := h112
    have hF119 := fr_tr hF hf118 (by decide) (by decide) (by decide) (by decide)
    refine mw_if_ne (tgt := 32) dX9_after_26 (by decide) (fun q120 => ?_) (fun q120 => ?_)
    · skip
      have b121 : mm_b (1) (1) v113 := bd_ne_l q120 b114 n_0 (by decide)
      have b122 := Or.resolve_left x115 q120
      refine mw_aload_n dX9_after_32 rfl 0 rfl ?_
      refine tc_Vv (as := []) (st := []) dX9_after_33 rfl shC_0 rfl rfl mX9_223 t_X9_tryLine rfl (Nat.le_of_ble_eq_true rfl) (by decide) (by decide) (c_X9_tryLine (g := g) S111 hI117) (fun S123 h124 => ?_)
      obtain ⟨hI126, hf127, x125⟩ := h124
      have hF128 := fr_tr hF119 hf127 (by decide) (by decide) (by decide) (by decide)
      refine mw_aload_n dX9_after_36 rfl 0 rfl ?_
      refine tw_getr (j := 4) dX9_after_37 shC_0 rfl rfl (by decide) fX9_33 ?_
      refine mw_iload_n dX9_after_40 rfl 2 rfl ?_
      refine tc_Vi (as := [.int x2]) (st := []) dX9_after_41 rfl shC_20 rfl rfl mX9_151 t_X3_voiceOf rfl (Nat.le_of_ble_eq_true rfl) (by decide) (by decide) (c_X3_voiceOf_20 (g := g) S123 hI126 x2) (fun S129 v131 h130 => ?_)
      obtain ⟨rfl, b132, x133⟩ := h130
      exact mw_iret rfl dX9_after_44 rfl rfl ⟨S123, _, rfl, rfl, hI126, hF128, b132, trivial⟩
    · skip
      have b134 : mm_b (0) (0) v113 := bd_eq_l q120 b114 n_0 (by decide)
      refine mw_ldc dX9_after_29 kX9_86 ?_
      exact mw_iret rfl dX9_after_31 rfl rfl ⟨S111, _, rfl, rfl, hI117, hF119, bd_w n_m1000000002 (by decide), trivial⟩
  · skip
    have b135 : mm_b (0) (0) v105 := bd_eq_l q108 b106 n_0 (by decide)
    refine mw_ldc dX9_after_11 kX9_150 ?_
    exact mw_iret rfl dX9_after_13 rfl rfl ⟨S, _, rfl, rfl, hI, hF, bd_w n_m1000000001 (by decide), trivial⟩
set_option maxRecDepth 100000 in
set_option maxHeartbeats 4000000 in
theorem c_X9_whose {g : mm_G} (S : mm_S) (hI : JC S) (x1 : Int32) (x2 : Int32) : mc g yX9_whose cX9_whose 3 (some .int) (mm_rm 6) [.ref 0, .int x1, .int x2] (mm_enc shC S) (qi shC (fun S1 v => JC S1 ∧ fr [20, 21, 22, 23, 24, 138, 139] [] true true S S1 ∧ mm_b (-1000000002) (6) v ∧ (True))) := by
  refine mc_of2 (own := RX9) (ini := false) (ls := [(0, .ref 0), (1, .int x1), (2, .int x2)]) (by decide) (Nat.le_of_ble_eq_true rfl) rfl (by decide) rfl ?_
  have hF : fr [20, 21, 22, 23, 24, 138, 139] [] true true S S := fr_rf
  refine mw_iload_n dX9_whose_0 rfl 2 rfl ?_
  refine tc_Si (as := [.int x2]) (st := []) dX9_whose_1 rfl mX9_195 t_X9_isVoiceNumber rfl (Nat.le_of_ble_eq_true rfl) (by decide) (by decide) (c_X9_isVoiceNumber (g := g) S hI x2) (fun S101 v103 h102 => ?_)
  obtain ⟨rfl, b104, x105⟩ := h102
  refine mw_if_ne (tgt := 10) dX9_whose_4 (by decide) (fun q106 => ?_) (fun q106 => ?_)
  · skip
    have b107 : mm_b (1) (1) v103 := bd_ne_l q106 b104 n_0 (by decide)
    have b108 := Or.resolve_left x105 q106
    refine mw_aload_n dX9_whose_10 rfl 0 rfl ?_
    refine tw_getr (j := 11) dX9_whose_11 shC_0 rfl rfl (by decide) fX9_74 ?_
    refine mw_iload_n dX9_whose_14 rfl 1 rfl ?_
    refine mw_aload_n dX9_whose_15 rfl 0 rfl ?_
    refine tw_getr (j := 3) dX9_whose_16 shC_0 rfl rfl (by decide) fX9_29 ?_
    refine tc_Vi (as := [.int x1, .ref 15]) (st := []) dX9_whose_19 rfl shC_138 rfl rfl mX9_219 t_X5_readOrder rfl (Nat.le_of_ble_eq_true rfl) (by decide) (by decide) (c_X5_readOrder (g := g) S hI x1) (fun S109 v111 h110 => ?_)
    obtain ⟨hI115, hf116, b112, x113⟩ := h110
    have hF117 := fr_tr hF hf116 (by decide) (by decide) (by decide) (by decide)
    refine mw_if_ne (tgt := 28) dX9_whose_22 (by decide) (fun q118 => ?_) (fun q118 => ?_)
    · skip
      have b119 : mm_b (1) (1) v111 := bd_ne_l q118 b112 n_0 (by decide)
      have b120 := Or.resolve_left x113 q118
      refine mw_aload_n dX9_whose_28 rfl 0 rfl ?_
      refine tc_Vv (as := []) (st := []) dX9_whose_29 rfl shC_0 rfl rfl mX9_223 t_X9_tryLine rfl (Nat.le_of_ble_eq_true rfl) (by decide) (by decide) (c_X9_tryLine (g := g) S109 hI115) (fun S121 h122 => ?_)
      obtain ⟨hI124, hf125, x123⟩ := h122
      have hF126 := fr_tr hF117 hf125 (by decide) (by decide) (by decide) (by decide)
      refine mw_aload_n dX9_whose_32 rfl 0 rfl ?_
      refine tw_getr (j := 4) dX9_whose_33 shC_0 rfl rfl (by decide) fX9_33 ?_
      refine mw_iload_n dX9_whose_36 rfl 2 rfl ?_
      refine tc_Vi (as := [.int x2]) (st := []) dX9_whose_37 rfl shC_20 rfl rfl mX9_226 t_X3_userOf rfl (Nat.le_of_ble_eq_true rfl) (by decide) (by decide) (c_X3_userOf_20 (g := g) S121 hI124 x2) (fun S127 v129 h128 => ?_)
      obtain ⟨rfl, b130, x131⟩ := h128
      exact mw_iret rfl dX9_whose_40 rfl rfl ⟨S121, _, rfl, rfl, hI124, hF126, bd_w b130 (by decide), trivial⟩
    · skip
      have b132 : mm_b (0) (0) v111 := bd_eq_l q118 b112 n_0 (by decide)
      refine mw_ldc dX9_whose_25 kX9_86 ?_
      exact mw_iret rfl dX9_whose_27 rfl rfl ⟨S109, _, rfl, rfl, hI115, hF117, bd_w n_m1000000002 (by decide), trivial⟩
  · skip
    have b133 : mm_b (0) (0) v103 := bd_eq_l q106 b104 n_0 (by decide)
    refine mw_ldc dX9_whose_7 kX9_150 ?_
    exact mw_iret rfl dX9_whose_9 rfl rfl ⟨S, _, rfl, rfl, hI, hF, bd_w n_m1000000001 (by decide), trivial⟩
set_option maxRecDepth 100000 in
set_option maxHeartbeats 4000000 in
theorem c_X9_helpsAlone {g : mm_G} (S : mm_S) (hI : JC S) (x1 : Int32) (x2 : Int32) (x3 : Int32) : mc g yX9_helpsAlone cX9_helpsAlone 5 (some .boolean) (mm_rm 5) [.ref 0, .int x1, .int x2, .int x3] (mm_enc shC S) (qi shC (fun S1 v => JC S1 ∧ fr [20, 21, 22, 23, 24] [] true true S S1 ∧ mm_b (0) (1) v ∧ (True))) := by
  refine mc_of2 (own := RX9) (ini := false) (ls := [(0, .ref 0), (1, .int x1), (2, .int x2), (3, .int x3)]) (by decide) (Nat.le_of_ble_eq_true rfl) rfl (by decide) rfl ?_
  have hF : fr [20, 21, 22, 23, 24] [] true true S S := fr_rf
  refine mw_iconst dX9_helpsAlone_0 ki_0 ?_
  refine mw_istore (ls' := [(4, .int 0), (0, .ref 0), (1, .int x1), (2, .int x2), (3, .int x3)]) dX9_helpsAlone_1 (by decide) rfl ?_
  have cut3 : ∀ (N3 : Nat) (S101 : mm_S) (y104 : Int32), ((11 : Int) - y104.toInt).toNat < N3 → JC S101 → fr [20, 21, 22, 23, 24] [] true true S S101 → mm_b (0) (10) y104 → mw g RX9 cX9_helpsAlone 5 (some .boolean) false (mm_rm 5) (qi shC (fun S1 v => JC S1 ∧ fr [20, 21, 22, 23, 24] [] true true S S1 ∧ mm_b (0) (1) v ∧ (True))) 0 0 (mm_enc shC S101) 3 [(0, .ref 0), (1, .int x1), (2, .int x2), (3, .int x3), (4, .int y104)] [] := by
    intro N3
    induction N3 with
    | zero =>
      intro S101 y104 hm106 hI102 hF103 b105
      exact absurd hm106 (Nat.not_lt_zero _)
    | succ N3 ih3 =>
      intro S101 y104 hm106 hI102 hF103 b105
      refine mw_iload dX9_helpsAlone_3 4 rfl ?_
      refine mw_bipush dX9_helpsAlone_5 kb_9 ?_
      refine mw_icmp_gt (tgt := 74) dX9_helpsAlone_7 (by decide) (fun q107 => ?_) (fun q107 => ?_)
      · skip
        have b108 : mm_b (10) (10) y104 := bd_lt_r q107 n_9 b105 (by decide)
        refine mw_iconst dX9_helpsAlone_74 ki_0 ?_
        exact mw_zret rfl (bd_nar n_0 (by decide)) dX9_helpsAlone_75 rfl rfl ⟨S101, _, rfl, rfl, hI102, hF103, bd_w n_0 (by decide), trivial⟩
      · skip
        have b109 : mm_b (0) (9) y104 := bd_le_l (bd_nlt q107) b105 n_9 (by decide)
        refine mw_aload_n dX9_helpsAlone_10 rfl 0 rfl ?_
        refine mw_iload_n dX9_helpsAlone_11 rfl 1 rfl ?_
        refine mw_iload dX9_helpsAlone_12 4 rfl ?_
        refine tc_Vi (as := [.int x1, .int y104]) (st := []) dX9_helpsAlone_14 rfl shC_0 rfl rfl mX9_205 t_X9_canInherit rfl (Nat.le_of_ble_eq_true rfl) (by decide) (by decide) (c_X9_canInherit (g := g) S101 hI102 x1 y104) (fun S110 v112 h111 => ?_)
        obtain ⟨rfl, b113, x114⟩ := h111
        refine mw_if_eq (tgt := 68) dX9_helpsAlone_17 (by decide) (fun q115 => ?_) (fun q115 => ?_)
        · skip
          have b116 : mm_b (0) (0) v112 := bd_eq_l q115 b113 n_0 (by decide)
          refine mw_iinc (ls' := fun v => [(4, .int v), (0, .ref 0), (1, .int x1), (2, .int x2), (3, .int x3)]) dX9_helpsAlone_68 4 rfl (by decide) (fun _ => rfl) (fun v117 ev117 => ?_)
          have b118 : mm_b (1) (10) v117 := bd_inc ev117 b109 (by decide)
          refine mw_goto (tgt := 3) dX9_helpsAlone_71 (by decide) ?_
          refine mw_ls [1, 2, 3, 4, 0] rfl ?_
          exact ih3 S101 v117 (ms_inc ev117 b109 (by decide) hm106) hI102 hF103 (bd_w b118 (by decide))
        · skip
          have b119 : mm_b (1) (1) v112 := bd_ne_l q115 b113 n_0 (by decide)
          have b120 := Or.resolve_left x114 q115
          refine mw_aload_n dX9_helpsAlone_20 rfl 0 rfl ?_
          refine tw_getr (j := 4) dX9_helpsAlone_21 shC_0 rfl rfl (by decide) fX9_33 ?_
          refine mw_aload_n dX9_helpsAlone_24 rfl 0 rfl ?_
          refine tw_getr (j := 3) dX9_helpsAlone_25 shC_0 rfl rfl (by decide) fX9_29 ?_
          refine tc_Vv (as := [.ref 15]) (st := []) dX9_helpsAlone_28 rfl shC_20 rfl rfl mX9_302 t_X3_copy rfl (Nat.le_of_ble_eq_true rfl) (by decide) (by decide) (c_X3_copy_20_15 (g := g) S101 hI102) (fun S121 h122 => ?_)
          obtain ⟨hI124, hf125, x123⟩ := h122
          have hF126 := fr_tr hF103 hf125 (by decide) (by decide) (by decide) (by decide)
          refine mw_aload_n dX9_helpsAlone_31 rfl 0 rfl ?_
          refine tw_getr (j := 4) dX9_helpsAlone_32 shC_0 rfl rfl (by decide) fX9_33 ?_
          refine mw_iload_n dX9_helpsAlone_35 rfl 1 rfl ?_
          refine mw_iload dX9_helpsAlone_36 4 rfl ?_
          refine mw_bipush dX9_helpsAlone_38 kb_9 ?_
          refine tc_Vv (as := [.int x1, .int y104, .int 9]) (st := []) dX9_helpsAlone_40 rfl shC_20 rfl rfl mX9_208 t_X3_changeWill rfl (Nat.le_of_ble_eq_true rfl) (by decide) (by decide) (c_X3_changeWill_20 (g := g) S121 hI124 x1 y104 (9 : Int32)) (fun S127 h128 => ?_)
          obtain ⟨hI130, hf131, x129⟩ := h128
          have hF132 := fr_tr hF126 hf131 (by decide) (by decide) (by decide) (by decide)
          refine mw_aload_n dX9_helpsAlone_43 rfl 0 rfl ?_
          refine tw_getr (j := 11) dX9_helpsAlone_44 shC_0 rfl rfl (by decide) fX9_74 ?_
          refine mw_aload_n dX9_helpsAlone_47 rfl 0 rfl ?_
          refine tw_getr (j := 4) dX9_helpsAlone_48 shC_0 rfl rfl (by decide) fX9_33 ?_
          refine tc_Vv (as := [.ref 20]) (st := []) dX9_helpsAlone_51 rfl shC_138 rfl rfl mX9_311 t_X5_buryIn rfl (Nat.le_of_ble_eq_true rfl) (by decide) (by decide) (c_X5_buryIn (g := g) S127 hI130) (fun S133 h134 => ?_)
          obtain ⟨hI136, hf137, x135⟩ := h134
          have hF138 := fr_tr hF132 hf137 (by decide) (by decide) (by decide) (by decide)
          refine mw_aload_n dX9_helpsAlone_54 rfl 0 rfl ?_
          refine tw_getr (j := 4) dX9_helpsAlone_55 shC_0 rfl rfl (by decide) fX9_33 ?_
          refine mw_iload_n dX9_helpsAlone_58 rfl 2 rfl ?_
          refine tc_Vi (as := [.int x2]) (st := []) dX9_helpsAlone_59 rfl shC_20 rfl rfl mX9_151 t_X3_voiceOf rfl (Nat.le_of_ble_eq_true rfl) (by decide) (by decide) (c_X3_voiceOf_20 (g := g) S133 hI136 x2) (fun S139 v141 h140 => ?_)
          obtain ⟨rfl, b142, x143⟩ := h140
          refine mw_iload_n dX9_helpsAlone_62 rfl 3 rfl ?_
          refine mw_icmp_ne (tgt := 68) dX9_helpsAlone_63 (by decide) (fun q144 => ?_) (fun q144 => ?_)
          · skip
            refine mw_iinc (ls' := fun v => [(4, .int v), (0, .ref 0), (1, .int x1), (2, .int x2), (3, .int x3)]) dX9_helpsAlone_68 4 rfl (by decide) (fun _ => rfl) (fun v145 ev145 => ?_)
            have b146 : mm_b (1) (10) v145 := bd_inc ev145 b120 (by decide)
            refine mw_goto (tgt := 3) dX9_helpsAlone_71 (by decide) ?_
            refine mw_ls [1, 2, 3, 4, 0] rfl ?_
            exact ih3 S133 v145 (ms_inc ev145 b120 (by decide) hm106) hI136 hF138 (bd_w b146 (by decide))
          · skip
            refine mw_iconst dX9_helpsAlone_66 ki_1 ?_
            exact mw_zret rfl (bd_nar n_1 (by decide)) dX9_helpsAlone_67 rfl rfl ⟨S133, _, rfl, rfl, hI136, hF138, bd_w n_1 (by decide), trivial⟩
  refine mw_ls [1, 2, 3, 4, 0] rfl ?_
  exact cut3 _ S (0 : Int32) (Nat.lt_succ_self _) hI hF (bd_w n_0 (by decide))
set_option maxRecDepth 100000 in
set_option maxHeartbeats 4000000 in
theorem c_X9_helpTogether {g : mm_G} (S : mm_S) (hI : JC S) (x1 : Int32) (x2 : Int32) (x3 : Int32) (x4 : Int32) : mc g yX9_helpTogether cX9_helpTogether 7 (some .boolean) (mm_rm 5) [.ref 0, .int x1, .int x2, .int x3, .int x4] (mm_enc shC S) (qi shC (fun S1 v => JC S1 ∧ fr [20, 21, 22, 23, 24] [] true true S S1 ∧ mm_b (0) (1) v ∧ (True))) := by
  refine mc_of2 (own := RX9) (ini := false) (ls := [(0, .ref 0), (1, .int x1), (2, .int x2), (3, .int x3), (4, .int x4)]) (by decide) (Nat.le_of_ble_eq_true rfl) rfl (by decide) rfl ?_
  have hF : fr [20, 21, 22, 23, 24] [] true true S S := fr_rf
  refine mw_iconst dX9_helpTogether_0 ki_0 ?_
  refine mw_istore (ls' := [(5, .int 0), (0, .ref 0), (1, .int x1), (2, .int x2), (3, .int x3), (4, .int x4)]) dX9_helpTogether_1 (by decide) rfl ?_
  have cut3 : ∀ (N3 : Nat) (S101 : mm_S) (y104 : Int32), ((11 : Int) - y104.toInt).toNat < N3 → JC S101 → fr [20, 21, 22, 23, 24] [] true true S S101 → mm_b (0) (10) y104 → mw g RX9 cX9_helpTogether 7 (some .boolean) false (mm_rm 5) (qi shC (fun S1 v => JC S1 ∧ fr [20, 21, 22, 23, 24] [] true true S S1 ∧ mm_b (0) (1) v ∧ (True))) 0 0 (mm_enc shC S101) 3 [(0, .ref 0), (1, .int x1), (2, .int x2), (3, .int x3), (4, .int x4), (5, .int y104)] [] := by
    intro N3
    induction N3 with
    | zero =>
      intro S101 y104 hm106 hI102 hF103 b105
      exact absurd hm106 (Nat.not_lt_zero _)
    | succ N3 ih3 =>
      intro S101 y104 hm106 hI102 hF103 b105
      refine mw_iload dX9_helpTogether_3 5 rfl ?_
      refine mw_bipush dX9_helpTogether_5 kb_9 ?_
      refine mw_icmp_gt (tgt := 113) dX9_helpTogether_7 (by decide) (fun q107 => ?_) (fun q107 => ?_)
      · skip
        have b108 : mm_b (10) (10) y104 := bd_lt_r q107 n_9 b105 (by decide)
        refine mw_iconst dX9_helpTogether_113 ki_0 ?_
        exact mw_zret rfl (bd_nar n_0 (by decide)) dX9_helpTogether_114 rfl rfl ⟨S101, _, rfl, rfl, hI102, hF103, bd_w n_0 (by decide), trivial⟩
      · skip
        have b109 : mm_b (0) (9) y104 := bd_le_l (bd_nlt q107) b105 n_9 (by decide)
        refine mw_iconst dX9_helpTogether_10 ki_0 ?_
        refine mw_istore (ls' := [(6, .int 0), (0, .ref 0), (1, .int x1), (2, .int x2), (3, .int x3), (4, .int x4), (5, .int y104)]) dX9_helpTogether_11 (by decide) rfl ?_
        have cut13 : ∀ (N13 : Nat) (S110 : mm_S) (y113 y115 : Int32), ((11 : Int) - y115.toInt).toNat < N13 → ((11 : Int) - y113.toInt).toNat < N3 + 1 → JC S110 → fr [20, 21, 22, 23, 24] [] true true S S110 → mm_b (0) (9) y113 → mm_b (0) (10) y115 → mw g RX9 cX9_helpTogether 7 (some .boolean) false (mm_rm 5) (qi shC (fun S1 v => JC S1 ∧ fr [20, 21, 22, 23, 24] [] true true S S1 ∧ mm_b (0) (1) v ∧ (True))) 0 0 (mm_enc shC S110) 13 [(0, .ref 0), (1, .int x1), (2, .int x2), (3, .int x3), (4, .int x4), (5, .int y113), (6, .int y115)] [] := by
          intro N13
          induction N13 with
          | zero =>
            intro S110 y113 y115 hm117 hm118 hI111 hF112 b114 b116
            exact absurd hm117 (Nat.not_lt_zero _)
          | succ N13 ih13 =>
            intro S110 y113 y115 hm117 hm118 hI111 hF112 b114 b116
            refine mw_iload dX9_helpTogether_13 6 rfl ?_
            refine mw_bipush dX9_helpTogether_15 kb_9 ?_
            refine mw_icmp_gt (tgt := 107) dX9_helpTogether_17 (by decide) (fun q119 => ?_) (fun q119 => ?_)
            · skip
              have b120 : mm_b (10) (10) y115 := bd_lt_r q119 n_9 b116 (by decide)
              refine mw_iinc (ls' := fun v => [(5, .int v), (0, .ref 0), (1, .int x1), (2, .int x2), (3, .int x3), (4, .int x4), (6, .int y115)]) dX9_helpTogether_107 5 rfl (by decide) (fun _ => rfl) (fun v121 ev121 => ?_)
              have b122 : mm_b (1) (10) v121 := bd_inc ev121 b114 (by decide)
              refine mw_goto (tgt := 3) dX9_helpTogether_110 (by decide) ?_
              refine mw_ls [1, 2, 3, 4, 5, 0] rfl ?_
              exact ih3 S110 v121 (ms_inc ev121 b114 (by decide) hm118) hI111 hF112 (bd_w b122 (by decide))
            · skip
              have b123 : mm_b (0) (9) y115 := bd_le_l (bd_nlt q119) b116 n_9 (by decide)
              refine mw_aload_n dX9_helpTogether_20 rfl 0 rfl ?_
              refine mw_iload_n dX9_helpTogether_21 rfl 1 rfl ?_
              refine mw_iload dX9_helpTogether_22 5 rfl ?_
              refine tc_Vi (as := [.int x1, .int y113]) (st := []) dX9_helpTogether_24 rfl shC_0 rfl rfl mX9_205 t_X9_canInherit rfl (Nat.le_of_ble_eq_true rfl) (by decide) (by decide) (c_X9_canInherit (g := g) S110 hI111 x1 y113) (fun S124 v126 h125 => ?_)
              obtain ⟨rfl, b127, x128⟩ := h125
              refine mw_if_eq (tgt := 107) dX9_helpTogether_27 (by decide) (fun q129 => ?_) (fun q129 => ?_)
              · skip
                have b130 : mm_b (0) (0) v126 := bd_eq_l q129 b127 n_0 (by decide)
                refine mw_iinc (ls' := fun v => [(5, .int v), (0, .ref 0), (1, .int x1), (2, .int x2), (3, .int x3), (4, .int x4), (6, .int y115)]) dX9_helpTogether_107 5 rfl (by decide) (fun _ => rfl) (fun v131 ev131 => ?_)
                have b132 : mm_b (1) (10) v131 := bd_inc ev131 b114 (by decide)
                refine mw_goto (tgt := 3) dX9_helpTogether_110 (by decide) ?_
                refine mw_ls [1, 2, 3, 4, 5, 0] rfl ?_
                exact ih3 S110 v131 (ms_inc ev131 b114 (by decide) hm118) hI111 hF112 (bd_w b132 (by decide))
              · skip
                have b133 : mm_b (1) (1) v126 := bd_ne_l q129 b127 n_0 (by decide)
                have b134 := Or.resolve_left x128 q129
                refine mw_aload_n dX9_helpTogether_30 rfl 0 rfl ?_
                refine mw_iload_n dX9_helpTogether_31 rfl 2 rfl ?_
                refine mw_iload dX9_helpTogether_32 6 rfl ?_
                refine tc_Vi (as := [.int x2, .int y115]) (st := []) dX9_helpTogether_34 rfl shC_0 rfl rfl mX9_205 t_X9_canInherit rfl (Nat.le_of_ble_eq_true rfl) (by decide) (by decide) (c_X9_canInherit (g := g) S110 hI111 x2 y115) (fun S135 v137 h136 => ?_)
                obtain ⟨rfl, b138, x139⟩ := h136
                refine mw_if_eq (tgt := 101) dX9_helpTogether_37 (by decide) (fun q140 => ?_) (fun q140 => ?_)
                · skip
                  have b141 : mm_b (0) (0) v137 := bd_eq_l q140 b138 n_0 (by decide)
                  refine mw_iinc (ls' := fun v => [(6, .int v), (0, .ref 0), (1, .int x1), (2, .int x2), (3, .int x3), (4, .int x4), (5, .int y113)]) dX9_helpTogether_101 6 rfl (by decide) (fun _ => rfl) (fun v142 ev142 => ?_)
                  have b143 : mm_b (1) (10) v142 := bd_inc ev142 b123 (by decide)
                  refine mw_goto (tgt := 13) dX9_helpTogether_104 (by decide) ?_
                  refine mw_ls [1, 2, 3, 4, 5, 6, 0] rfl ?_
                  exact ih13 S110 y113 v142 (ms_inc ev142 b123 (by decide) hm117) hm118 hI111 hF112 b134 (bd_w b143 (by decide))
                · skip
                  have b144 : mm_b (1) (1) v137 := bd_ne_l q140 b138 n_0 (by decide)
                  have b145 := Or.resolve_left x139 q140
                  refine mw_aload_n dX9_helpTogether_40 rfl 0 rfl ?_
                  refine tw_getr (j := 4) dX9_helpTogether_41 shC_0 rfl rfl (by decide) fX9_33 ?_
                  refine mw_aload_n dX9_helpTogether_44 rfl 0 rfl ?_
                  refine tw_getr (j := 3) dX9_helpTogether_45 shC_0 rfl rfl (by decide) fX9_29 ?_
                  refine tc_Vv (as := [.ref 15]) (st := []) dX9_helpTogether_48 rfl shC_20 rfl rfl mX9_302 t_X3_copy rfl (Nat.le_of_ble_eq_true rfl) (by decide) (by decide) (c_X3_copy_20_15 (g := g) S110 hI111) (fun S146 h147 => ?_)
                  obtain ⟨hI149, hf150, x148⟩ := h147
                  have hF151 := fr_tr hF112 hf150 (by decide) (by decide) (by decide) (by decide)
                  refine mw_aload_n dX9_helpTogether_51 rfl 0 rfl ?_
                  refine tw_getr (j := 4) dX9_helpTogether_52 shC_0 rfl rfl (by decide) fX9_33 ?_
                  refine mw_iload_n dX9_helpTogether_55 rfl 1 rfl ?_
                  refine mw_iload dX9_helpTogether_56 5 rfl ?_
                  refine mw_bipush dX9_helpTogether_58 kb_9 ?_
                  refine tc_Vv (as := [.int x1, .int y113, .int 9]) (st := []) dX9_helpTogether_60 rfl shC_20 rfl rfl mX9_208 t_X3_changeWill rfl (Nat.le_of_ble_eq_true rfl) (by decide) (by decide) (c_X3_changeWill_20 (g := g) S146 hI149 x1 y113 (9 : Int32)) (fun S152 h153 => ?_)
                  obtain ⟨hI155, hf156, x154⟩ := h153
                  have hF157 := fr_tr hF151 hf156 (by decide) (by decide) (by decide) (by decide)
                  refine mw_aload_n dX9_helpTogether_63 rfl 0 rfl ?_
                  refine tw_getr (j := 4) dX9_helpTogether_64 shC_0 rfl rfl (by decide) fX9_33 ?_
                  refine mw_iload_n dX9_helpTogether_67 rfl 2 rfl ?_
                  refine mw_iload dX9_helpTogether_68 6 rfl ?_
                  refine mw_bipush dX9_helpTogether_70 kb_9 ?_
                  refine tc_Vv (as := [.int x2, .int y115, .int 9]) (st := []) dX9_helpTogether_72 rfl shC_20 rfl rfl mX9_208 t_X3_changeWill rfl (Nat.le_of_ble_eq_true rfl) (by decide) (by decide) (c_X3_changeWill_20 (g := g) S152 hI155 x2 y115 (9 : Int32)) (fun S158 h159 => ?_)
                  obtain ⟨hI161, hf162, x160⟩ := h159
                  have hF163 := fr_tr hF157 hf162 (by decide) (by decide) (by decide) (by decide)
                  refine mw_aload_n dX9_helpTogether_75 rfl 0 rfl ?_
                  refine tw_getr (j := 11) dX9_helpTogether_76 shC_0 rfl rfl (by decide) fX9_74 ?_
                  refine mw_aload_n dX9_helpTogether_79 rfl 0 rfl ?_
                  refine tw_getr (j := 4) dX9_helpTogether_80 shC_0 rfl rfl (by decide) fX9_33 ?_
                  refine tc_Vv (as := [.ref 20]) (st := []) dX9_helpTogether_83 rfl shC_138 rfl rfl mX9_311 t_X5_buryIn rfl (Nat.le_of_ble_eq_true rfl) (by decide) (by decide) (c_X5_buryIn (g := g) S158 hI161) (fun S164 h165 => ?_)
                  obtain ⟨hI167, hf168, x166⟩ := h165
                  have hF169 := fr_tr hF163 hf168 (by decide) (by decide) (by decide) (by decide)
                  refine mw_aload_n dX9_helpTogether_86 rfl 0 rfl ?_
                  refine tw_getr (j := 4) dX9_helpTogether_87 shC_0 rfl rfl (by decide) fX9_33 ?_
                  refine mw_iload_n dX9_helpTogether_90 rfl 3 rfl ?_
                  refine tc_Vi (as := [.int x3]) (st := []) dX9_helpTogether_91 rfl shC_20 rfl rfl mX9_151 t_X3_voiceOf rfl (Nat.le_of_ble_eq_true rfl) (by decide) (by decide) (c_X3_voiceOf_20 (g := g) S164 hI167 x3) (fun S170 v172 h171 => ?_)
                  obtain ⟨rfl, b173, x174⟩ := h171
                  refine mw_iload dX9_helpTogether_94 4 rfl ?_
                  refine mw_icmp_ne (tgt := 101) dX9_helpTogether_96 (by decide) (fun q175 => ?_) (fun q175 => ?_)
                  · skip
                    refine mw_iinc (ls' := fun v => [(6, .int v), (0, .ref 0), (1, .int x1), (2, .int x2), (3, .int x3), (4, .int x4), (5, .int y113)]) dX9_helpTogether_101 6 rfl (by decide) (fun _ => rfl) (fun v176 ev176 => ?_)
                    have b177 : mm_b (1) (10) v176 := bd_inc ev176 b145 (by decide)
                    refine mw_goto (tgt := 13) dX9_helpTogether_104 (by decide) ?_
                    refine mw_ls [1, 2, 3, 4, 5, 6, 0] rfl ?_
                    exact ih13 S164 y113 v176 (ms_inc ev176 b145 (by decide) hm117) hm118 hI167 hF169 b134 (bd_w b177 (by decide))
                  · skip
                    refine mw_iconst dX9_helpTogether_99 ki_1 ?_
                    exact mw_zret rfl (bd_nar n_1 (by decide)) dX9_helpTogether_100 rfl rfl ⟨S164, _, rfl, rfl, hI167, hF169, bd_w n_1 (by decide), trivial⟩
        refine mw_ls [1, 2, 3, 4, 5, 6, 0] rfl ?_
        exact cut13 _ S101 y104 (0 : Int32) (Nat.lt_succ_self _) hm106 hI102 hF103 b109 (bd_w n_0 (by decide))
  refine mw_ls [1, 2, 3, 4, 5, 0] rfl ?_
  exact cut3 _ S (0 : Int32) (Nat.lt_succ_self _) hI hF (bd_w n_0 (by decide))
set_option maxRecDepth 100000 in
set_option maxHeartbeats 4000000 in
theorem c_X9_fewestWills {g : mm_G} (S : mm_S) (hI : JC S) (x1 : Int32) (x2 : Int32) : mc g yX9_fewestWills cX9_fewestWills 5 (some .int) (mm_rm 6) [.ref 0, .int x1, .int x2] (mm_enc shC S) (qi shC (fun S1 v => JC S1 ∧ fr [20, 21, 22, 23, 24] [] true true S S1 ∧ mm_b (-1) (127) v ∧ (True))) := by
  refine mc_of2 (own := RX9) (ini := false) (ls := [(0, .ref 0), (1, .int x1), (2, .int x2)]) (by decide) (Nat.le_of_ble_eq_true rfl) rfl (by decide) rfl ?_
  have hF : fr [20, 21, 22, 23, 24] [] true true S S := fr_rf
  refine mw_aload_n dX9_fewestWills_0 rfl 0 rfl ?_
  refine tc_Vv (as := []) (st := []) dX9_fewestWills_1 rfl shC_0 rfl rfl mX9_223 t_X9_tryLine rfl (Nat.le_of_ble_eq_true rfl) (by decide) (by decide) (c_X9_tryLine (g := g) S hI) (fun S101 h102 => ?_)
  obtain ⟨hI104, hf105, x103⟩ := h102
  have hF106 := fr_tr hF hf105 (by decide) (by decide) (by decide) (by decide)
  refine mw_aload_n dX9_fewestWills_4 rfl 0 rfl ?_
  refine tw_getr (j := 4) dX9_fewestWills_5 shC_0 rfl rfl (by decide) fX9_33 ?_
  refine mw_iload_n dX9_fewestWills_8 rfl 1 rfl ?_
  refine tc_Vi (as := [.int x1]) (st := []) dX9_fewestWills_9 rfl shC_20 rfl rfl mX9_151 t_X3_voiceOf rfl (Nat.le_of_ble_eq_true rfl) (by decide) (by decide) (c_X3_voiceOf_20 (g := g) S101 hI104 x1) (fun S107 v109 h108 => ?_)
  obtain ⟨rfl, b110, x111⟩ := h108
  refine mw_iload_n dX9_fewestWills_12 rfl 2 rfl ?_
  refine mw_icmp_ne (tgt := 18) dX9_fewestWills_13 (by decide) (fun q112 => ?_) (fun q112 => ?_)
  · skip
    refine mw_iconst dX9_fewestWills_18 ki_0 ?_
    refine mw_istore_n (ls' := [(3, .int 0), (0, .ref 0), (1, .int x1), (2, .int x2)]) dX9_fewestWills_19 rfl (by decide) rfl ?_
    have cut20 : ∀ (N20 : Nat) (S113 : mm_S) (y116 : Int32), ((8 : Int) - y116.toInt).toNat < N20 → JC S113 → fr [20, 21, 22, 23, 24] [] true true S S113 → mm_b (0) (7) y116 → mw g RX9 cX9_fewestWills 5 (some .int) false (mm_rm 6) (qi shC (fun S1 v => JC S1 ∧ fr [20, 21, 22, 23, 24] [] true true S S1 ∧ mm_b (-1) (127) v ∧ (True))) 0 0 (mm_enc shC S113) 20 [(0, .ref 0), (1, .int x1), (2, .int x2), (3, .int y116)] [] := by
      intro N20
      induction N20 with
      | zero =>
        intro S113 y116 hm118 hI114 hF115 b117
        exact absurd hm118 (Nat.not_lt_zero _)
      | succ N20 ih20 =>
        intro S113 y116 hm118 hI114 hF115 b117
        refine mw_iload_n dX9_fewestWills_20 rfl 3 rfl ?_
        refine mw_aload_n dX9_fewestWills_21 rfl 0 rfl ?_
        refine tw_getm (j := 1) dX9_fewestWills_22 shC_0 rfl rfl (by decide) fX9_19 (fun a119 ea119 => ?_)
        have ha120 : a119 ∈ LC_parish := by rw [ea119]; exact JRC_1 hI114
        refine tw_geti (j := 0) dX9_fewestWills_25 (shC_parish_0 a119 ha120) rfl rfl (by decide) fX9_117 (fun v121 ev121 => ?_)
        have b122 : mm_b (0) (7) v121 := JIC_fld hI114 ev121 (tbC_parish_0_0 a119 ha120) (by decide)
        refine mw_icmp_ge (tgt := 62) dX9_fewestWills_28 (by decide) (fun q123 => ?_) (fun q123 => ?_)
        · skip
          refine mw_iconst dX9_fewestWills_62 ki_1 ?_
          refine mw_istore_n (ls' := [(3, .int 1), (0, .ref 0), (1, .int x1), (2, .int x2)]) dX9_fewestWills_63 rfl (by decide) rfl ?_
          have cut64 : ∀ (N64 : Nat) (S124 : mm_S) (y127 : Int32), ((8 : Int) - y127.toInt).toNat < N64 → JC S124 → fr [20, 21, 22, 23, 24] [] true true S S124 → mm_b (1) (7) y127 → mw g RX9 cX9_fewestWills 5 (some .int) false (mm_rm 6) (qi shC (fun S1 v => JC S1 ∧ fr [20, 21, 22, 23, 24] [] true true S S1 ∧ mm_b (-1) (127) v ∧ (True))) 0 0 (mm_enc shC S124) 64 [(0, .ref 0), (1, .int x1), (2, .int x2), (3, .int y127)] [] := by
            intro N64
            induction N64 with
            | zero =>
              intro S124 y127 hm129 hI125 hF126 b128
              exact absurd hm129 (Nat.not_lt_zero _)
            | succ N64 ih64 =>
              intro S124 y127 hm129 hI125 hF126 b128
              refine mw_iload_n dX9_fewestWills_64 rfl 3 rfl ?_
              refine mw_aload_n dX9_fewestWills_65 rfl 0 rfl ?_
              refine tw_getm (j := 1) dX9_fewestWills_66 shC_0 rfl rfl (by decide) fX9_19 (fun a130 ea130 => ?_)
              have ha131 : a130 ∈ LC_parish := by rw [ea130]; exact JRC_1 hI125
              refine tw_geti (j := 0) dX9_fewestWills_69 (shC_parish_0 a130 ha131) rfl rfl (by decide) fX9_117 (fun v132 ev132 => ?_)
              have b133 : mm_b (0) (7) v132 := JIC_fld hI125 ev132 (tbC_parish_0_0 a130 ha131) (by decide)
              refine mw_icmp_ge (tgt := 140) dX9_fewestWills_72 (by decide) (fun q134 => ?_) (fun q134 => ?_)
              · skip
                refine mw_iconst dX9_fewestWills_140 ki_m1 ?_
                exact mw_iret rfl dX9_fewestWills_141 rfl rfl ⟨S124, _, rfl, rfl, hI125, hF126, bd_w n_m1 (by decide), trivial⟩
              · skip
                have b135 : mm_b (1) (6) y127 := bd_lt_l (bd_nle q134) b128 b133 (by decide)
                have b136 : mm_b (2) (7) v132 := bd_lt_r (bd_nle q134) b128 b133 (by decide)
                refine mw_iconst dX9_fewestWills_75 ki_0 ?_
                refine mw_istore (ls' := [(4, .int 0), (0, .ref 0), (1, .int x1), (2, .int x2), (3, .int y127)]) dX9_fewestWills_76 (by decide) rfl ?_
                have cut78 : ∀ (N78 : Nat) (S137 : mm_S) (y140 y142 : Int32), ((7 : Int) - y142.toInt).toNat < N78 → ((8 : Int) - y140.toInt).toNat < N64 + 1 → JC S137 → fr [20, 21, 22, 23, 24] [] true true S S137 → mm_b (1) (6) y140 → mm_b (0) (6) y142 → mw g RX9 cX9_fewestWills 5 (some .int) false (mm_rm 6) (qi shC (fun S1 v => JC S1 ∧ fr [20, 21, 22, 23, 24] [] true true S S1 ∧ mm_b (-1) (127) v ∧ (True))) 0 0 (mm_enc shC S137) 78 [(0, .ref 0), (1, .int x1), (2, .int x2), (3, .int y140), (4, .int y142)] [] := by
                  intro N78
                  induction N78 with
                  | zero =>
                    intro S137 y140 y142 hm144 hm145 hI138 hF139 b141 b143
                    exact absurd hm144 (Nat.not_lt_zero _)
                  | succ N78 ih78 =>
                    intro S137 y140 y142 hm144 hm145 hI138 hF139 b141 b143
                    refine mw_iload dX9_fewestWills_78 4 rfl ?_
                    refine mw_iload_n dX9_fewestWills_80 rfl 3 rfl ?_
                    refine mw_icmp_ge (tgt := 134) dX9_fewestWills_81 (by decide) (fun q146 => ?_) (fun q146 => ?_)
                    · skip
                      have b147 : mm_b (1) (6) y142 := bd_le_r q146 b141 b143 (by decide)
                      refine mw_iinc (ls' := fun v => [(3, .int v), (0, .ref 0), (1, .int x1), (2, .int x2), (4, .int y142)]) dX9_fewestWills_134 3 rfl (by decide) (fun _ => rfl) (fun v148 ev148 => ?_)
                      have b149 : mm_b (2) (7) v148 := bd_inc ev148 b141 (by decide)
                      refine mw_goto (tgt := 64) dX9_fewestWills_137 (by decide) ?_
                      refine mw_ls [1, 2, 3, 0] rfl ?_
                      exact ih64 S137 v148 (ms_inc ev148 b141 (by decide) hm145) hI138 hF139 (bd_w b149 (by decide))
                    · skip
                      have b150 : mm_b (0) (5) y142 := bd_lt_l (bd_nle q146) b143 b141 (by decide)
                      refine mw_aload_n dX9_fewestWills_84 rfl 0 rfl ?_
                      refine tw_getr (j := 11) dX9_fewestWills_85 shC_0 rfl rfl (by decide) fX9_74 ?_
                      refine mw_iload dX9_fewestWills_88 4 rfl ?_
                      refine tc_Vi (as := [.int y142]) (st := []) dX9_fewestWills_90 rfl shC_138 rfl rfl mX9_314 t_X5_holds rfl (Nat.le_of_ble_eq_true rfl) (by decide) (by decide) (c_X5_holds (g := g) S137 hI138 y142) (fun S151 v153 h152 => ?_)
                      obtain ⟨rfl, b154, x155⟩ := h152
                      refine mw_if_eq (tgt := 128) dX9_fewestWills_93 (by decide) (fun q156 => ?_) (fun q156 => ?_)
                      · skip
                        have b157 : mm_b (0) (0) v153 := bd_eq_l q156 b154 n_0 (by decide)
                        refine mw_iinc (ls' := fun v => [(4, .int v), (0, .ref 0), (1, .int x1), (2, .int x2), (3, .int y140)]) dX9_fewestWills_128 4 rfl (by decide) (fun _ => rfl) (fun v158 ev158 => ?_)
                        have b159 : mm_b (1) (6) v158 := bd_inc ev158 b150 (by decide)
                        refine mw_goto (tgt := 78) dX9_fewestWills_131 (by decide) ?_
                        refine mw_ls [1, 2, 3, 4, 0] rfl ?_
                        exact ih78 S137 y140 v158 (ms_inc ev158 b150 (by decide) hm144) hm145 hI138 hF139 b141 (bd_w b159 (by decide))
                      · skip
                        have b160 : mm_b (1) (1) v153 := bd_ne_l q156 b154 n_0 (by decide)
                        have b161 := Or.resolve_left x155 q156
                        have b162 : mm_b (0) (5) y142 := bd_both b150 b161 (by decide)
                        refine mw_aload_n dX9_fewestWills_96 rfl 0 rfl ?_
                        refine tw_getr (j := 11) dX9_fewestWills_97 shC_0 rfl rfl (by decide) fX9_74 ?_
                        refine mw_iload_n dX9_fewestWills_100 rfl 3 rfl ?_
                        refine tc_Vi (as := [.int y140]) (st := []) dX9_fewestWills_101 rfl shC_138 rfl rfl mX9_314 t_X5_holds rfl (Nat.le_of_ble_eq_true rfl) (by decide) (by decide) (c_X5_holds (g := g) S137 hI138 y140) (fun S163 v165 h164 => ?_)
                        obtain ⟨rfl, b166, x167⟩ := h164
                        refine mw_if_eq (tgt := 128) dX9_fewestWills_104 (by decide) (fun q168 => ?_) (fun q168 => ?_)
                        · skip
                          have b169 : mm_b (0) (0) v165 := bd_eq_l q168 b166 n_0 (by decide)
                          refine mw_iinc (ls' := fun v => [(4, .int v), (0, .ref 0), (1, .int x1), (2, .int x2), (3, .int y140)]) dX9_fewestWills_128 4 rfl (by decide) (fun _ => rfl) (fun v170 ev170 => ?_)
                          have b171 : mm_b (1) (6) v170 := bd_inc ev170 b162 (by decide)
                          refine mw_goto (tgt := 78) dX9_fewestWills_131 (by decide) ?_
                          refine mw_ls [1, 2, 3, 4, 0] rfl ?_
                          exact ih78 S137 y140 v170 (ms_inc ev170 b162 (by decide) hm144) hm145 hI138 hF139 b141 (bd_w b171 (by decide))
                        · skip
                          have b172 : mm_b (1) (1) v165 := bd_ne_l q168 b166 n_0 (by decide)
                          have b173 := Or.resolve_left x167 q168
                          have b174 : mm_b (1) (6) y140 := bd_both b141 b173 (by decide)
                          refine mw_aload_n dX9_fewestWills_107 rfl 0 rfl ?_
                          refine mw_iload dX9_fewestWills_108 4 rfl ?_
                          refine mw_iload_n dX9_fewestWills_110 rfl 3 rfl ?_
                          refine mw_iload_n dX9_fewestWills_111 rfl 1 rfl ?_
                          refine mw_iload_n dX9_fewestWills_112 rfl 2 rfl ?_
                          refine tc_Vi (as := [.int y142, .int y140, .int x1, .int x2]) (st := []) dX9_fewestWills_113 rfl shC_0 rfl rfl mX9_321 t_X9_helpTogether rfl (Nat.le_of_ble_eq_true rfl) (by decide) (by decide) (c_X9_helpTogether (g := g) S137 hI138 y142 y140 x1 x2) (fun S175 v177 h176 => ?_)
                          obtain ⟨hI181, hf182, b178, x179⟩ := h176
                          have hF183 := fr_tr hF139 hf182 (by decide) (by decide) (by decide) (by decide)
                          refine mw_if_eq (tgt := 128) dX9_fewestWills_116 (by decide) (fun q184 => ?_) (fun q184 => ?_)
                          · skip
                            have b185 : mm_b (0) (0) v177 := bd_eq_l q184 b178 n_0 (by decide)
                            refine mw_iinc (ls' := fun v => [(4, .int v), (0, .ref 0), (1, .int x1), (2, .int x2), (3, .int y140)]) dX9_fewestWills_128 4 rfl (by decide) (fun _ => rfl) (fun v186 ev186 => ?_)
                            have b187 : mm_b (1) (6) v186 := bd_inc ev186 b162 (by decide)
                            refine mw_goto (tgt := 78) dX9_fewestWills_131 (by decide) ?_
                            refine mw_ls [1, 2, 3, 4, 0] rfl ?_
                            exact ih78 S175 y140 v186 (ms_inc ev186 b162 (by decide) hm144) hm145 hI181 hF183 b174 (bd_w b187 (by decide))
                          · skip
                            have b188 : mm_b (1) (1) v177 := bd_ne_l q184 b178 n_0 (by decide)
                            refine mw_iconst dX9_fewestWills_119 ki_1 ?_
                            refine mw_iload dX9_fewestWills_120 4 rfl ?_
                            refine mw_ishl dX9_fewestWills_122 (fun v189 ev189 => ?_)
                            have b190 : mm_b (1) (32) v189 := bd_shl 5 ev189 b162 (by decide)
                            refine mw_iconst dX9_fewestWills_123 ki_1 ?_
                            refine mw_iload_n dX9_fewestWills_124 rfl 3 rfl ?_
                            refine mw_ishl dX9_fewestWills_125 (fun v191 ev191 => ?_)
                            have b192 : mm_b (1) (64) v191 := bd_shl 6 ev191 b174 (by decide)
                            refine mw_ior dX9_fewestWills_126 (fun v193 ev193 => ?_)
                            have b194 : mm_b (0) (127) v193 := bd_or 7 ev193 b190 b192 (by decide)
                            exact mw_iret rfl dX9_fewestWills_127 rfl rfl ⟨S175, _, rfl, rfl, hI181, hF183, bd_w b194 (by decide), trivial⟩
                refine mw_ls [1, 2, 3, 4, 0] rfl ?_
                exact cut78 _ S124 y127 (0 : Int32) (Nat.lt_succ_self _) hm129 hI125 hF126 b135 (bd_w n_0 (by decide))
          refine mw_ls [1, 2, 3, 0] rfl ?_
          exact cut64 _ S113 (1 : Int32) (Nat.lt_succ_self _) hI114 hF115 (bd_w n_1 (by decide))
        · skip
          have b195 : mm_b (0) (6) y116 := bd_lt_l (bd_nle q123) b117 b122 (by decide)
          have b196 : mm_b (1) (7) v121 := bd_lt_r (bd_nle q123) b117 b122 (by decide)
          refine mw_aload_n dX9_fewestWills_31 rfl 0 rfl ?_
          refine tw_getr (j := 11) dX9_fewestWills_32 shC_0 rfl rfl (by decide) fX9_74 ?_
          refine mw_iload_n dX9_fewestWills_35 rfl 3 rfl ?_
          refine tc_Vi (as := [.int y116]) (st := []) dX9_fewestWills_36 rfl shC_138 rfl rfl mX9_314 t_X5_holds rfl (Nat.le_of_ble_eq_true rfl) (by decide) (by decide) (c_X5_holds (g := g) S113 hI114 y116) (fun S197 v199 h198 => ?_)
          obtain ⟨rfl, b200, x201⟩ := h198
          refine mw_if_eq (tgt := 56) dX9_fewestWills_39 (by decide) (fun q202 => ?_) (fun q202 => ?_)
          · skip
            have b203 : mm_b (0) (0) v199 := bd_eq_l q202 b200 n_0 (by decide)
            refine mw_iinc (ls' := fun v => [(3, .int v), (0, .ref 0), (1, .int x1), (2, .int x2)]) dX9_fewestWills_56 3 rfl (by decide) (fun _ => rfl) (fun v204 ev204 => ?_)
            have b205 : mm_b (1) (7) v204 := bd_inc ev204 b195 (by decide)
            refine mw_goto (tgt := 20) dX9_fewestWills_59 (by decide) ?_
            refine mw_ls [1, 2, 3, 0] rfl ?_
            exact ih20 S113 v204 (ms_inc ev204 b195 (by decide) hm118) hI114 hF115 (bd_w b205 (by decide))
          · skip
            have b206 : mm_b (1) (1) v199 := bd_ne_l q202 b200 n_0 (by decide)
            have b207 := Or.resolve_left x201 q202
            refine mw_aload_n dX9_fewestWills_42 rfl 0 rfl ?_
            refine mw_iload_n dX9_fewestWills_43 rfl 3 rfl ?_
            refine mw_iload_n dX9_fewestWills_44 rfl 1 rfl ?_
            refine mw_iload_n dX9_fewestWills_45 rfl 2 rfl ?_
            refine tc_Vi (as := [.int y116, .int x1, .int x2]) (st := []) dX9_fewestWills_46 rfl shC_0 rfl rfl mX9_317 t_X9_helpsAlone rfl (Nat.le_of_ble_eq_true rfl) (by decide) (by decide) (c_X9_helpsAlone (g := g) S113 hI114 y116 x1 x2) (fun S208 v210 h209 => ?_)
            obtain ⟨hI214, hf215, b211, x212⟩ := h209
            have hF216 := fr_tr hF115 hf215 (by decide) (by decide) (by decide) (by decide)
            refine mw_if_eq (tgt := 56) dX9_fewestWills_49 (by decide) (fun q217 => ?_) (fun q217 => ?_)
            · skip
              have b218 : mm_b (0) (0) v210 := bd_eq_l q217 b211 n_0 (by decide)
              refine mw_iinc (ls' := fun v => [(3, .int v), (0, .ref 0), (1, .int x1), (2, .int x2)]) dX9_fewestWills_56 3 rfl (by decide) (fun _ => rfl) (fun v219 ev219 => ?_)
              have b220 : mm_b (1) (7) v219 := bd_inc ev219 b207 (by decide)
              refine mw_goto (tgt := 20) dX9_fewestWills_59 (by decide) ?_
              refine mw_ls [1, 2, 3, 0] rfl ?_
              exact ih20 S208 v219 (ms_inc ev219 b207 (by decide) hm118) hI214 hF216 (bd_w b220 (by decide))
            · skip
              have b221 : mm_b (1) (1) v210 := bd_ne_l q217 b211 n_0 (by decide)
              refine mw_iconst dX9_fewestWills_52 ki_1 ?_
              refine mw_iload_n dX9_fewestWills_53 rfl 3 rfl ?_
              refine mw_ishl dX9_fewestWills_54 (fun v222 ev222 => ?_)
              have b223 : mm_b (1) (64) v222 := bd_shl 6 ev222 b207 (by decide)
              exact mw_iret rfl dX9_fewestWills_55 rfl rfl ⟨S208, _, rfl, rfl, hI214, hF216, bd_w b223 (by decide), trivial⟩
    refine mw_ls [1, 2, 3, 0] rfl ?_
    exact cut20 _ S101 (0 : Int32) (Nat.lt_succ_self _) hI104 hF106 (bd_w n_0 (by decide))
  · skip
    refine mw_iconst dX9_fewestWills_16 ki_0 ?_
    exact mw_iret rfl dX9_fewestWills_17 rfl rfl ⟨S101, _, rfl, rfl, hI104, hF106, bd_w n_0 (by decide), trivial⟩
set_option maxRecDepth 100000 in
set_option maxHeartbeats 4000000 in
theorem c_X9_wills {g : mm_G} (S : mm_S) (hI : JC S) (x1 : Int32) (x2 : Int32) (x3 : Int32) (x4 : Int32) : mc g yX9_wills cX9_wills 6 (some .int) (mm_rm 7) [.ref 0, .int x1, .int x2, .int x3, .int x4] (mm_enc shC S) (qi shC (fun S1 v => JC S1 ∧ fr [20, 21, 22, 23, 24, 138, 139] [] true true S S1 ∧ mm_b (-1000000002) (127) v ∧ (True))) := by
  refine mc_of2 (own := RX9) (ini := false) (ls := [(0, .ref 0), (1, .int x1), (2, .int x2), (3, .int x3), (4, .int x4)]) (by decide) (Nat.le_of_ble_eq_true rfl) rfl (by decide) rfl ?_
  have hF : fr [20, 21, 22, 23, 24, 138, 139] [] true true S S := fr_rf
  refine mw_aload_n dX9_wills_0 rfl 0 rfl ?_
  refine tw_getm (j := 1) dX9_wills_1 shC_0 rfl rfl (by decide) fX9_19 (fun a101 ea101 => ?_)
  have ha102 : a101 ∈ LC_parish := by rw [ea101]; exact JRC_1 hI
  refine mw_iload_n dX9_wills_4 rfl 2 rfl ?_
  refine tc_Vi (as := [.int x2]) (st := []) dX9_wills_5 rfl (shC_parish_0 a101 ha102) rfl rfl mX9_147 t_X6_hasPerson rfl (Nat.le_of_ble_eq_true rfl) (by decide) (by decide) (c_X6_hasPerson (g := g) S hI a101 ha102 x2) (fun S103 v105 h104 => ?_)
  obtain ⟨rfl, b106, x107⟩ := h104
  refine mw_if_eq (tgt := 22) dX9_wills_8 (by decide) (fun q108 => ?_) (fun q108 => ?_)
  · skip
    have b109 : mm_b (0) (0) v105 := bd_eq_l q108 b106 n_0 (by decide)
    refine mw_ldc dX9_wills_22 kX9_150 ?_
    exact mw_iret rfl dX9_wills_24 rfl rfl ⟨S, _, rfl, rfl, hI, hF, bd_w n_m1000000001 (by decide), trivial⟩
  · skip
    have b110 : mm_b (1) (1) v105 := bd_ne_l q108 b106 n_0 (by decide)
    have b111 := Or.resolve_left x107 q108
    refine mw_aload_n dX9_wills_11 rfl 0 rfl ?_
    refine tw_getm (j := 1) dX9_wills_12 shC_0 rfl rfl (by decide) fX9_19 (fun a112 ea112 => ?_)
    have ha113 : a112 ∈ LC_parish := by rw [ea112]; exact JRC_1 hI
    refine mw_iload_n dX9_wills_15 rfl 3 rfl ?_
    refine tc_Vi (as := [.int x3]) (st := []) dX9_wills_16 rfl (shC_parish_0 a112 ha113) rfl rfl mX9_229 t_X6_hasVoice rfl (Nat.le_of_ble_eq_true rfl) (by decide) (by decide) (c_X6_hasVoice (g := g) S hI a112 ha113 x3) (fun S114 v116 h115 => ?_)
    obtain ⟨rfl, b117, x118⟩ := h115
    refine mw_if_ne (tgt := 25) dX9_wills_19 (by decide) (fun q119 => ?_) (fun q119 => ?_)
    · skip
      have b120 : mm_b (1) (1) v116 := bd_ne_l q119 b117 n_0 (by decide)
      refine mw_iload dX9_wills_25 4 rfl ?_
      refine mw_if_lt (tgt := 51) dX9_wills_27 (by decide) (fun q121 => ?_) (fun q121 => ?_)
      · skip
        have b122 : mm_b (-2147483648) (-1) x4 := bd_lt_l q121 (bd_all x4) n_0 (by decide)
        refine mw_ldc dX9_wills_51 kX9_86 ?_
        exact mw_iret rfl dX9_wills_53 rfl rfl ⟨S, _, rfl, rfl, hI, hF, bd_w n_m1000000002 (by decide), trivial⟩
      · skip
        have b123 : mm_b (0) (2147483647) x4 := bd_le_r (bd_nlt q121) n_0 (bd_all x4) (by decide)
        refine mw_iload dX9_wills_30 4 rfl ?_
        refine mw_iconst dX9_wills_32 ki_1 ?_
        refine mw_icmp_gt (tgt := 51) dX9_wills_33 (by decide) (fun q124 => ?_) (fun q124 => ?_)
        · skip
          have b125 : mm_b (2) (2147483647) x4 := bd_lt_r q124 n_1 b123 (by decide)
          refine mw_ldc dX9_wills_51 kX9_86 ?_
          exact mw_iret rfl dX9_wills_53 rfl rfl ⟨S, _, rfl, rfl, hI, hF, bd_w n_m1000000002 (by decide), trivial⟩
        · skip
          have b126 : mm_b (0) (1) x4 := bd_le_l (bd_nlt q124) b123 n_1 (by decide)
          refine mw_aload_n dX9_wills_36 rfl 0 rfl ?_
          refine tw_getr (j := 11) dX9_wills_37 shC_0 rfl rfl (by decide) fX9_74 ?_
          refine mw_iload_n dX9_wills_40 rfl 1 rfl ?_
          refine mw_aload_n dX9_wills_41 rfl 0 rfl ?_
          refine tw_getr (j := 3) dX9_wills_42 shC_0 rfl rfl (by decide) fX9_29 ?_
          refine tc_Vi (as := [.int x1, .ref 15]) (st := []) dX9_wills_45 rfl shC_138 rfl rfl mX9_219 t_X5_readOrder rfl (Nat.le_of_ble_eq_true rfl) (by decide) (by decide) (c_X5_readOrder (g := g) S hI x1) (fun S127 v129 h128 => ?_)
          obtain ⟨hI133, hf134, b130, x131⟩ := h128
          have hF135 := fr_tr hF hf134 (by decide) (by decide) (by decide) (by decide)
          refine mw_if_ne (tgt := 54) dX9_wills_48 (by decide) (fun q136 => ?_) (fun q136 => ?_)
          · skip
            have b137 : mm_b (1) (1) v129 := bd_ne_l q136 b130 n_0 (by decide)
            have b138 := Or.resolve_left x131 q136
            refine mw_aload_n dX9_wills_54 rfl 0 rfl ?_
            refine mw_iload_n dX9_wills_55 rfl 2 rfl ?_
            refine mw_iload_n dX9_wills_56 rfl 3 rfl ?_
            refine tc_Vi (as := [.int x2, .int x3]) (st := []) dX9_wills_57 rfl shC_0 rfl rfl mX9_232 t_X9_fewestWills rfl (Nat.le_of_ble_eq_true rfl) (by decide) (by decide) (c_X9_fewestWills (g := g) S127 hI133 x2 x3) (fun S139 v141 h140 => ?_)
            obtain ⟨hI145, hf146, b142, x143⟩ := h140
            have hF147 := fr_tr hF135 hf146 (by decide) (by decide) (by decide) (by decide)
            refine mw_istore (ls' := [(5, .int v141), (0, .ref 0), (1, .int x1), (2, .int x2), (3, .int x3), (4, .int x4)]) dX9_wills_60 (by decide) rfl ?_
            refine mw_iload dX9_wills_62 0 rfl ?_
            refine mw_iconst dX9_wills_64 ki_m1 ?_
            refine mw_icmp_ne (tgt := 70) dX9_wills_65 (by decide) (fun q148 => ?_) (fun q148 => ?_)
            · skip
              have b149 : mm_b (0) (127) v141 := bd_ne_l q148 b142 n_m1 (by decide)
              refine mw_iload dX9_wills_70 5 rfl ?_
              refine mw_if_ne (tgt := 83) dX9_wills_72 (by decide) (fun q150 => ?_) (fun q150 => ?_)
              · skip
                have b151 : mm_b (1) (1) x4 := bd_ne_l q150 b126 n_0 (by decide)
                refine mw_iload dX9_wills_83 0 rfl ?_
                exact mw_iret rfl dX9_wills_85 rfl rfl ⟨S139, _, rfl, rfl, hI145, hF147, bd_w b149 (by decide), trivial⟩
              · skip
                have b152 : mm_b (0) (0) x4 := bd_eq_l q150 b126 n_0 (by decide)
                refine mw_iload dX9_wills_75 0 rfl ?_
                refine tc_Si (as := [.int v141]) (st := []) dX9_wills_77 rfl mX9_235 t_J6_bitCount_0f7a4 rfl (Nat.le_of_ble_eq_true rfl) (by decide) (by decide) (c_JbitCount (g := g) S139 hI145 v141) (fun S153 v155 h154 => ?_)
                obtain ⟨rfl, b156, x157⟩ := h154
                refine mw_goto (tgt := 85) dX9_wills_80 (by decide) ?_
                exact mw_iret rfl dX9_wills_85 rfl rfl ⟨S139, _, rfl, rfl, hI145, hF147, bd_w b156 (by decide), trivial⟩
            · skip
              have b158 : mm_b (-1) (-1) v141 := bd_eq_l q148 b142 n_m1 (by decide)
              refine mw_iconst dX9_wills_68 ki_m1 ?_
              exact mw_iret rfl dX9_wills_69 rfl rfl ⟨S139, _, rfl, rfl, hI145, hF147, bd_w n_m1 (by decide), trivial⟩
          · skip
            have b159 : mm_b (0) (0) v129 := bd_eq_l q136 b130 n_0 (by decide)
            refine mw_ldc dX9_wills_51 kX9_86 ?_
            exact mw_iret rfl dX9_wills_53 rfl rfl ⟨S127, _, rfl, rfl, hI133, hF135, bd_w n_m1000000002 (by decide), trivial⟩
    · skip
      have b160 : mm_b (0) (0) v116 := bd_eq_l q119 b117 n_0 (by decide)
      refine mw_ldc dX9_wills_22 kX9_150 ?_
      exact mw_iret rfl dX9_wills_24 rfl rfl ⟨S, _, rfl, rfl, hI, hF, bd_w n_m1000000001 (by decide), trivial⟩
set_option maxRecDepth 100000 in
set_option maxHeartbeats 4000000 in
theorem c_X9_sing {g : mm_G} (S : mm_S) (hI : JC S) (x1 : Int32) : mc g yX9_sing cX9_sing 2 (some .int) (mm_rm 6) [.ref 0, .int x1] (mm_enc shC S) (qi shC (fun S1 v => JC S1 ∧ fr [141, 142, 144, 145, 146, 147, 148, 149, 150] [] true true S S1 ∧ mm_b (-2147483648) (2147483647) v ∧ (True))) := by
  refine mc_of2 (own := RX9) (ini := false) (ls := [(0, .ref 0), (1, .int x1)]) (by decide) (Nat.le_of_ble_eq_true rfl) rfl (by decide) rfl ?_
  have hF : fr [141, 142, 144, 145, 146, 147, 148, 149, 150] [] true true S S := fr_rf
  refine mw_iload_n dX9_sing_0 rfl 1 rfl ?_
  refine mw_iconst dX9_sing_1 ki_m1 ?_
  have cut19 : ∀ (S101 : mm_S), JC S101 → fr [141, 142, 144, 145, 146, 147, 148, 149, 150] [] true true S S101 → mw g RX9 cX9_sing 2 (some .int) false (mm_rm 6) (qi shC (fun S1 v => JC S1 ∧ fr [141, 142, 144, 145, 146, 147, 148, 149, 150] [] true true S S1 ∧ mm_b (-2147483648) (2147483647) v ∧ (True))) 0 0 (mm_enc shC S101) 19 [(0, .ref 0), (1, .int x1)] [] := by
    intro S101 hI102 hF103
    refine mw_aload_n dX9_sing_19 rfl 0 rfl ?_
    refine tw_getr (j := 12) dX9_sing_20 shC_0 rfl rfl (by decide) fX9_81 ?_
    refine mw_aload_n dX9_sing_23 rfl 0 rfl ?_
    refine tw_getm (j := 1) dX9_sing_24 shC_0 rfl rfl (by decide) fX9_19 (fun a104 ea104 => ?_)
    have ha105 : a104 ∈ LC_parish := by rw [ea104]; exact JRC_1 hI102
    refine mw_aload_n dX9_sing_27 rfl 0 rfl ?_
    refine tw_getr (j := 3) dX9_sing_28 shC_0 rfl rfl (by decide) fX9_29 ?_
    refine tc_Vv (as := [.ref a104, .ref 15]) (st := []) dX9_sing_31 rfl shC_140 rfl rfl mX9_243 t_X0_give rfl (Nat.le_of_ble_eq_true rfl) (by decide) (by decide) (c_X0_give (g := g) S101 hI102 a104 ha105) (fun S106 h107 => ?_)
    obtain ⟨hI109, hf110, x108⟩ := h107
    have hF111 := fr_tr hF103 hf110 (by decide) (by decide) (by decide) (by decide)
    refine mw_iload_n dX9_sing_34 rfl 1 rfl ?_
    refine mw_iconst dX9_sing_35 ki_m1 ?_
    refine mw_icmp_ne (tgt := 49) dX9_sing_36 (by decide) (fun q112 => ?_) (fun q112 => ?_)
    · skip
      refine mw_aload_n dX9_sing_49 rfl 0 rfl ?_
      refine tw_getr (j := 12) dX9_sing_50 shC_0 rfl rfl (by decide) fX9_81 ?_
      refine mw_iload_n dX9_sing_53 rfl 1 rfl ?_
      refine tc_Vi (as := [.int x1]) (st := []) dX9_sing_54 rfl shC_140 rfl rfl mX9_250 t_X0_singerOf rfl (Nat.le_of_ble_eq_true rfl) (by decide) (by decide) (c_X0_singerOf (g := g) S106 hI109 x1) (fun S113 v115 h114 => ?_)
      obtain ⟨rfl, b116, x117⟩ := h114
      exact mw_iret rfl dX9_sing_57 rfl rfl ⟨S106, _, rfl, rfl, hI109, hF111, b116, trivial⟩
    · skip
      have b118 : mm_b (-1) (-1) x1 := bd_eq_l q112 (bd_all x1) n_m1 (by decide)
      refine mw_aload_n dX9_sing_39 rfl 0 rfl ?_
      refine tw_getr (j := 12) dX9_sing_40 shC_0 rfl rfl (by decide) fX9_81 ?_
      refine tc_Vi (as := []) (st := []) dX9_sing_43 rfl shC_140 rfl rfl mX9_247 t_X0_sung rfl (Nat.le_of_ble_eq_true rfl) (by decide) (by decide) (c_X0_sung (g := g) S106 hI109) (fun S119 v121 h120 => ?_)
      obtain ⟨rfl, b122, x123⟩ := h120
      refine mw_goto (tgt := 57) dX9_sing_46 (by decide) ?_
      exact mw_iret rfl dX9_sing_57 rfl rfl ⟨S106, _, rfl, rfl, hI109, hF111, b122, trivial⟩
  refine mw_icmp_eq (tgt := 19) dX9_sing_2 (by decide) (fun q124 => ?_) (fun q124 => ?_)
  · skip
    have b125 : mm_b (-1) (-1) x1 := bd_eq_l q124 (bd_all x1) n_m1 (by decide)
    exact cut19 S hI hF
  · skip
    refine mw_aload_n dX9_sing_5 rfl 0 rfl ?_
    refine tw_getm (j := 1) dX9_sing_6 shC_0 rfl rfl (by decide) fX9_19 (fun a126 ea126 => ?_)
    have ha127 : a126 ∈ LC_parish := by rw [ea126]; exact JRC_1 hI
    refine mw_iload_n dX9_sing_9 rfl 1 rfl ?_
    refine tc_Vi (as := [.int x1]) (st := []) dX9_sing_10 rfl (shC_parish_0 a126 ha127) rfl rfl mX9_240 t_X6_hasPart rfl (Nat.le_of_ble_eq_true rfl) (by decide) (by decide) (c_X6_hasPart (g := g) S hI a126 ha127 x1) (fun S128 v130 h129 => ?_)
    obtain ⟨rfl, b131, x132⟩ := h129
    refine mw_if_ne (tgt := 19) dX9_sing_13 (by decide) (fun q133 => ?_) (fun q133 => ?_)
    · skip
      have b134 : mm_b (1) (1) v130 := bd_ne_l q133 b131 n_0 (by decide)
      have b135 := Or.resolve_left x132 q133
      exact cut19 S hI hF
    · skip
      have b136 : mm_b (0) (0) v130 := bd_eq_l q133 b131 n_0 (by decide)
      refine mw_ldc dX9_sing_16 kX9_150 ?_
      exact mw_iret rfl dX9_sing_18 rfl rfl ⟨S, _, rfl, rfl, hI, hF, bd_w n_m1000000001 (by decide), trivial⟩
set_option maxRecDepth 100000 in
set_option maxHeartbeats 4000000 in
theorem c_X9_bid {g : mm_G} (S : mm_S) (hI : JC S) (x1 : Int32) (x2 : Int32) : mc g yX9_bid cX9_bid 4 (some .int) (mm_rm 2) [.ref 0, .int x1, .int x2] (mm_enc shC S) (qi shC (fun S1 v => S = S1 ∧ mm_b (-2147483648) (2147483647) v ∧ (True))) := by
  refine mc_of2 (own := RX9) (ini := false) (ls := [(0, .ref 0), (1, .int x1), (2, .int x2)]) (by decide) (Nat.le_of_ble_eq_true rfl) rfl (by decide) rfl ?_
  refine mw_aload_n dX9_bid_0 rfl 0 rfl ?_
  refine tw_getm (j := 1) dX9_bid_1 shC_0 rfl rfl (by decide) fX9_19 (fun a101 ea101 => ?_)
  have ha102 : a101 ∈ LC_parish := by rw [ea101]; exact JRC_1 hI
  refine mw_iload_n dX9_bid_4 rfl 1 rfl ?_
  refine tc_Vi (as := [.int x1]) (st := []) dX9_bid_5 rfl (shC_parish_0 a101 ha102) rfl rfl mX9_147 t_X6_hasPerson rfl (Nat.le_of_ble_eq_true rfl) (by decide) (by decide) (c_X6_hasPerson (g := g) S hI a101 ha102 x1) (fun S103 v105 h104 => ?_)
  obtain ⟨rfl, b106, x107⟩ := h104
  refine mw_if_ne (tgt := 14) dX9_bid_8 (by decide) (fun q108 => ?_) (fun q108 => ?_)
  · skip
    have b109 : mm_b (1) (1) v105 := bd_ne_l q108 b106 n_0 (by decide)
    have b110 := Or.resolve_left x107 q108
    refine mw_iload_n dX9_bid_14 rfl 2 rfl ?_
    refine mw_if_lt (tgt := 24) dX9_bid_15 (by decide) (fun q111 => ?_) (fun q111 => ?_)
    · skip
      have b112 : mm_b (-2147483648) (-1) x2 := bd_lt_l q111 (bd_all x2) n_0 (by decide)
      refine mw_ldc dX9_bid_24 kX9_86 ?_
      exact mw_iret rfl dX9_bid_26 rfl rfl ⟨S, _, rfl, rfl, rfl, bd_w n_m1000000002 (by decide), trivial⟩
    · skip
      have b113 : mm_b (0) (2147483647) x2 := bd_le_r (bd_nlt q111) n_0 (bd_all x2) (by decide)
      refine mw_iload_n dX9_bid_18 rfl 2 rfl ?_
      refine mw_bipush dX9_bid_19 kb_99 ?_
      refine mw_icmp_le (tgt := 27) dX9_bid_21 (by decide) (fun q114 => ?_) (fun q114 => ?_)
      · skip
        have b115 : mm_b (0) (99) x2 := bd_le_l q114 b113 n_99 (by decide)
        refine mw_aload_n dX9_bid_27 rfl 0 rfl ?_
        refine tw_getr (j := 3) dX9_bid_28 shC_0 rfl rfl (by decide) fX9_29 ?_
        refine mw_iload_n dX9_bid_31 rfl 1 rfl ?_
        refine tc_Vi (as := [.int x1]) (st := []) dX9_bid_32 rfl shC_15 rfl rfl mX9_167 t_X3_lives rfl (Nat.le_of_ble_eq_true rfl) (by decide) (by decide) (c_X3_lives_15 (g := g) S hI x1) (fun S116 v118 h117 => ?_)
        obtain ⟨rfl, b119, x120⟩ := h117
        refine mw_if_ne (tgt := 41) dX9_bid_35 (by decide) (fun q121 => ?_) (fun q121 => ?_)
        · skip
          have b122 : mm_b (1) (1) v118 := bd_ne_l q121 b119 n_0 (by decide)
          have b123 := Or.resolve_left x120 q121
          refine mw_aload_n dX9_bid_41 rfl 0 rfl ?_
          refine tw_getr (j := 3) dX9_bid_42 shC_0 rfl rfl (by decide) fX9_29 ?_
          refine mw_iload_n dX9_bid_45 rfl 1 rfl ?_
          refine tc_Vi (as := [.int x1]) (st := []) dX9_bid_46 rfl shC_15 rfl rfl mX9_151 t_X3_voiceOf rfl (Nat.le_of_ble_eq_true rfl) (by decide) (by decide) (c_X3_voiceOf_15 (g := g) S hI x1) (fun S124 v126 h125 => ?_)
          obtain ⟨rfl, b127, x128⟩ := h125
          refine mw_istore_n (ls' := [(3, .int v126), (0, .ref 0), (1, .int x1), (2, .int x2)]) dX9_bid_49 rfl (by decide) rfl ?_
          refine mw_iload_n dX9_bid_50 rfl 0 rfl ?_
          refine mw_bipush dX9_bid_51 kb_9 ?_
          refine mw_icmp_ne (tgt := 58) dX9_bid_53 (by decide) (fun q129 => ?_) (fun q129 => ?_)
          · skip
            refine mw_aload_n dX9_bid_58 rfl 1 rfl ?_
            refine tw_getm (j := 1) dX9_bid_59 shC_0 rfl rfl (by decide) fX9_19 (fun a130 ea130 => ?_)
            have ha131 : a130 ∈ LC_parish := by rw [ea130]; exact JRC_1 hI
            refine mw_iload_n dX9_bid_62 rfl 0 rfl ?_
            refine tc_Vi (as := [.int v126]) (st := []) dX9_bid_63 rfl (shC_parish_0 a130 ha131) rfl rfl mX9_170 t_X6_rangeOf rfl (Nat.le_of_ble_eq_true rfl) (by decide) (by decide) (c_X6_rangeOf (g := g) S hI a130 ha131 v126) (fun S132 v134 h133 => ?_)
            obtain ⟨rfl, b135, x136⟩ := h133
            refine mw_iconst dX9_bid_66 ki_1 ?_
            refine mw_iadd dX9_bid_67 (fun v137 ev137 => ?_)
            refine mw_aload_n dX9_bid_68 rfl 1 rfl ?_
            refine tw_getm (j := 1) dX9_bid_69 shC_0 rfl rfl (by decide) fX9_19 (fun a138 ea138 => ?_)
            have ha139 : a138 ∈ LC_parish := by rw [ea138]; exact JRC_1 hI
            refine mw_iload_n dX9_bid_72 rfl 0 rfl ?_
            refine tc_Vi (as := [.int v126]) (st := [.int v137]) dX9_bid_73 rfl (shC_parish_0 a138 ha139) rfl rfl mX9_164 t_X6_openTo rfl (Nat.le_of_ble_eq_true rfl) (by decide) (by decide) (c_X6_openTo (g := g) S hI a138 ha139 v126) (fun S140 v142 h141 => ?_)
            obtain ⟨rfl, b143, x144⟩ := h141
            refine tc_Si (as := [.int v142]) (st := [.int v137]) dX9_bid_76 rfl mX9_235 t_J6_bitCount_0f7a4 rfl (Nat.le_of_ble_eq_true rfl) (by decide) (by decide) (c_JbitCount (g := g) S hI v142) (fun S145 v147 h146 => ?_)
            obtain ⟨rfl, b148, x149⟩ := h146
            refine mw_imul dX9_bid_79 (fun v150 ev150 => ?_)
            refine mw_iload_n dX9_bid_80 rfl 3 rfl ?_
            refine mw_imul dX9_bid_81 (fun v151 ev151 => ?_)
            exact mw_iret rfl dX9_bid_82 rfl rfl ⟨S, _, rfl, rfl, rfl, (bd_all v151), trivial⟩
          · skip
            have b152 : mm_b (9) (9) v126 := bd_eq_l q129 b127 n_9 (by decide)
            refine mw_iconst dX9_bid_56 ki_0 ?_
            exact mw_iret rfl dX9_bid_57 rfl rfl ⟨S, _, rfl, rfl, rfl, bd_w n_0 (by decide), trivial⟩
        · skip
          have b153 : mm_b (0) (0) v118 := bd_eq_l q121 b119 n_0 (by decide)
          refine mw_ldc dX9_bid_38 kX9_179 ?_
          exact mw_iret rfl dX9_bid_40 rfl rfl ⟨S, _, rfl, rfl, rfl, bd_w n_m1000000003 (by decide), trivial⟩
      · skip
        have b154 : mm_b (100) (2147483647) x2 := bd_lt_r (bd_nle q114) n_99 b113 (by decide)
        refine mw_ldc dX9_bid_24 kX9_86 ?_
        exact mw_iret rfl dX9_bid_26 rfl rfl ⟨S, _, rfl, rfl, rfl, bd_w n_m1000000002 (by decide), trivial⟩
  · skip
    have b155 : mm_b (0) (0) v105 := bd_eq_l q108 b106 n_0 (by decide)
    refine mw_ldc dX9_bid_11 kX9_150 ?_
    exact mw_iret rfl dX9_bid_13 rfl rfl ⟨S, _, rfl, rfl, rfl, bd_w n_m1000000001 (by decide), trivial⟩
set_option maxRecDepth 100000 in
set_option maxHeartbeats 4000000 in
theorem c_X9_live {g : mm_G} (S : mm_S) (hI : JC S) (x1 : Int32) (x2 : Int32) (x3 : Int32) : mc g yX9_live cX9_live 8 (some .int) (mm_rm 1) [.ref 0, .int x1, .int x2, .int x3] (mm_enc shC S) (qi shC (fun S1 v => S = S1 ∧ mm_b (-2147483648) (2147483647) v ∧ (True))) := by
  refine mc_of2 (own := RX9) (ini := false) (ls := [(0, .ref 0), (1, .int x1), (2, .int x2), (3, .int x3)]) (by decide) (Nat.le_of_ble_eq_true rfl) rfl (by decide) rfl ?_
  refine mw_aload_n dX9_live_0 rfl 0 rfl ?_
  refine tw_getm (j := 1) dX9_live_1 shC_0 rfl rfl (by decide) fX9_19 (fun a101 ea101 => ?_)
  have ha102 : a101 ∈ LC_parish := by rw [ea101]; exact JRC_1 hI
  refine mw_iload_n dX9_live_4 rfl 1 rfl ?_
  refine tc_Vi (as := [.int x1]) (st := []) dX9_live_5 rfl (shC_parish_0 a101 ha102) rfl rfl mX9_253 t_X6_hasPersons rfl (Nat.le_of_ble_eq_true rfl) (by decide) (by decide) (c_X6_hasPersons (g := g) S hI a101 ha102 x1) (fun S103 v105 h104 => ?_)
  obtain ⟨rfl, b106, x107⟩ := h104
  refine mw_if_ne (tgt := 14) dX9_live_8 (by decide) (fun q108 => ?_) (fun q108 => ?_)
  · skip
    have b109 : mm_b (1) (1) v105 := bd_ne_l q108 b106 n_0 (by decide)
    have b110 := Or.resolve_left x107 q108
    refine mw_iload_n dX9_live_14 rfl 2 rfl ?_
    refine mw_if_lt (tgt := 34) dX9_live_15 (by decide) (fun q111 => ?_) (fun q111 => ?_)
    · skip
      have b112 : mm_b (-2147483648) (-1) x2 := bd_lt_l q111 (bd_all x2) n_0 (by decide)
      refine mw_ldc dX9_live_34 kX9_86 ?_
      exact mw_iret rfl dX9_live_36 rfl rfl ⟨S, _, rfl, rfl, rfl, bd_w n_m1000000002 (by decide), trivial⟩
    · skip
      have b113 : mm_b (0) (2147483647) x2 := bd_le_r (bd_nlt q111) n_0 (bd_all x2) (by decide)
      refine mw_iload_n dX9_live_18 rfl 2 rfl ?_
      refine mw_bipush dX9_live_19 kb_60 ?_
      refine mw_icmp_gt (tgt := 34) dX9_live_21 (by decide) (fun q114 => ?_) (fun q114 => ?_)
      · skip
        have b115 : mm_b (61) (2147483647) x2 := bd_lt_r q114 n_60 b113 (by decide)
        refine mw_ldc dX9_live_34 kX9_86 ?_
        exact mw_iret rfl dX9_live_36 rfl rfl ⟨S, _, rfl, rfl, rfl, bd_w n_m1000000002 (by decide), trivial⟩
      · skip
        have b116 : mm_b (0) (60) x2 := bd_le_l (bd_nlt q114) b113 n_60 (by decide)
        refine mw_iload_n dX9_live_24 rfl 3 rfl ?_
        refine mw_if_lt (tgt := 34) dX9_live_25 (by decide) (fun q117 => ?_) (fun q117 => ?_)
        · skip
          have b118 : mm_b (-2147483648) (-1) x3 := bd_lt_l q117 (bd_all x3) n_0 (by decide)
          refine mw_ldc dX9_live_34 kX9_86 ?_
          exact mw_iret rfl dX9_live_36 rfl rfl ⟨S, _, rfl, rfl, rfl, bd_w n_m1000000002 (by decide), trivial⟩
        · skip
          have b119 : mm_b (0) (2147483647) x3 := bd_le_r (bd_nlt q117) n_0 (bd_all x3) (by decide)
          refine mw_iload_n dX9_live_28 rfl 3 rfl ?_
          refine mw_bipush dX9_live_29 kb_100 ?_
          refine mw_icmp_le (tgt := 37) dX9_live_31 (by decide) (fun q120 => ?_) (fun q120 => ?_)
          · skip
            have b121 : mm_b (0) (100) x3 := bd_le_l q120 b119 n_100 (by decide)
            refine mw_aload_n dX9_live_37 rfl 0 rfl ?_
            refine tw_getr (j := 3) dX9_live_38 shC_0 rfl rfl (by decide) fX9_29 ?_
            refine mw_iload_n dX9_live_41 rfl 1 rfl ?_
            refine tc_Vi (as := [.int x1]) (st := []) dX9_live_42 rfl shC_15 rfl rfl mX9_256 t_X3_allLive rfl (Nat.le_of_ble_eq_true rfl) (by decide) (by decide) (c_X3_allLive_15 (g := g) S hI x1) (fun S122 v124 h123 => ?_)
            obtain ⟨rfl, b125, x126⟩ := h123
            refine mw_if_ne (tgt := 51) dX9_live_45 (by decide) (fun q127 => ?_) (fun q127 => ?_)
            · skip
              have b128 : mm_b (1) (1) v124 := bd_ne_l q127 b125 n_0 (by decide)
              refine mw_iload_n dX9_live_51 rfl 1 rfl ?_
              refine tc_Si (as := [.int x1]) (st := []) dX9_live_52 rfl mX9_235 t_J6_bitCount_0f7a4 rfl (Nat.le_of_ble_eq_true rfl) (by decide) (by decide) (c_JbitCount (g := g) S hI x1) (fun S129 v131 h130 => ?_)
              obtain ⟨rfl, b132, x133⟩ := h130
              refine mw_iload_n dX9_live_55 rfl 2 rfl ?_
              refine mw_imul dX9_live_56 (fun v134 ev134 => ?_)
              have b135 : mm_b (0) (3780) v134 := bd_mul ev134 b132 b116 (by decide)
              refine mw_istore (ls' := [(4, .int v134), (0, .ref 0), (1, .int x1), (2, .int x2), (3, .int x3)]) dX9_live_57 (by decide) rfl ?_
              refine mw_ldc2 dX9_live_59 kX9_259 ?_
              refine mw_lstore (ls' := [(5, .long 1000000000), (4, .int v134), (0, .ref 0), (1, .int x1), (2, .int x2), (3, .int x3)]) dX9_live_62 (by decide) rfl ?_
              refine mw_iconst dX9_live_64 ki_0 ?_
              refine mw_istore (ls' := [(7, .int 0), (5, .long 1000000000), (4, .int v134), (0, .ref 0), (1, .int x1), (2, .int x2), (3, .int x3)]) dX9_live_65 (by decide) rfl ?_
              have cut67 : ∀ (N67 : Nat) (y136 y139 : Int32) (z138 : Int64), ((10000 : Int) - y139.toInt).toNat < N67 → mm_b (0) (3780) y136 → mm_b (0) (9999) y139 → mw g RX9 cX9_live 8 (some .int) false (mm_rm 1) (qi shC (fun S1 v => S = S1 ∧ mm_b (-2147483648) (2147483647) v ∧ (True))) 0 0 (mm_enc shC S) 67 [(3, .int x3), (4, .int y136), (5, .long z138), (7, .int y139)] [] := by
                intro N67
                induction N67 with
                | zero =>
                  intro y136 y139 z138 hm141 b137 b140
                  exact absurd hm141 (Nat.not_lt_zero _)
                | succ N67 ih67 =>
                  intro y136 y139 z138 hm141 b137 b140
                  refine mw_iload dX9_live_67 3 rfl ?_
                  refine mw_iload dX9_live_69 1 rfl ?_
                  refine mw_icmp_ge (tgt := 94) dX9_live_71 (by decide) (fun q142 => ?_) (fun q142 => ?_)
                  · skip
                    refine mw_lload dX9_live_94 2 rfl ?_
                    refine mw_l2i dX9_live_96 (fun v143 ev143 => ?_)
                    exact mw_iret rfl dX9_live_97 rfl rfl ⟨S, _, rfl, rfl, rfl, (bd_all v143), trivial⟩
                  · skip
                    have b144 : mm_b (0) (3779) y139 := bd_lt_l (bd_nle q142) b140 b137 (by decide)
                    have b145 : mm_b (1) (3780) y136 := bd_lt_r (bd_nle q142) b140 b137 (by decide)
                    refine mw_lload dX9_live_74 2 rfl ?_
                    refine mw_bipush dX9_live_76 kb_100 ?_
                    refine mw_iload_n dX9_live_78 rfl 0 rfl ?_
                    refine mw_isub dX9_live_79 (fun v146 ev146 => ?_)
                    have b147 : mm_b (0) (100) v146 := bd_sub ev146 n_100 b121 (by decide)
                    refine mw_i2l dX9_live_80 (fun w148 ew148 => ?_)
                    have b149 : mm_bl (0) (100) w148 := bl_i2l ew148 b147
                    refine mw_lmul dX9_live_81 (fun w150 ew150 => ?_)
                    refine mw_ldc2 dX9_live_82 kX9_261 ?_
                    refine mw_ldiv dX9_live_85 (bl_ne0 L_100 (by decide)) (fun w151 ew151 => ?_)
                    refine mw_lstore (ls' := [(5, .long w151), (3, .int x3), (4, .int y136), (7, .int y139)]) dX9_live_86 (by decide) rfl ?_
                    refine mw_iinc (ls' := fun v => [(7, .int v), (5, .long w151), (3, .int x3), (4, .int y136)]) dX9_live_88 3 rfl (by decide) (fun _ => rfl) (fun v152 ev152 => ?_)
                    have b153 : mm_b (1) (3780) v152 := bd_inc ev152 b144 (by decide)
                    refine mw_goto (tgt := 67) dX9_live_91 (by decide) ?_
                    refine mw_ls [2, 3, 1, 0] rfl ?_
                    exact ih67 y136 v152 w151 (ms_inc ev152 b144 (by decide) hm141) (bd_w b145 (by decide)) (bd_w b153 (by decide))
              refine mw_ls [6, 2, 1, 0] rfl ?_
              exact cut67 _ v134 (0 : Int32) (1000000000 : Int64) (Nat.lt_succ_self _) b135 (bd_w n_0 (by decide))
            · skip
              have b154 : mm_b (0) (0) v124 := bd_eq_l q127 b125 n_0 (by decide)
              refine mw_ldc dX9_live_48 kX9_179 ?_
              exact mw_iret rfl dX9_live_50 rfl rfl ⟨S, _, rfl, rfl, rfl, bd_w n_m1000000003 (by decide), trivial⟩
          · skip
            have b155 : mm_b (101) (2147483647) x3 := bd_lt_r (bd_nle q120) n_100 b119 (by decide)
            refine mw_ldc dX9_live_34 kX9_86 ?_
            exact mw_iret rfl dX9_live_36 rfl rfl ⟨S, _, rfl, rfl, rfl, bd_w n_m1000000002 (by decide), trivial⟩
  · skip
    have b156 : mm_b (0) (0) v105 := bd_eq_l q108 b106 n_0 (by decide)
    refine mw_ldc dX9_live_11 kX9_150 ?_
    exact mw_iret rfl dX9_live_13 rfl rfl ⟨S, _, rfl, rfl, rfl, bd_w n_m1000000001 (by decide), trivial⟩
set_option maxRecDepth 100000 in
set_option maxHeartbeats 4000000 in
theorem c_X9_voicesThatSpoke {g : mm_G} (S : mm_S) (hI : JC S)  : mc g yX9_voicesThatSpoke cX9_voicesThatSpoke 4 (some .int) (mm_rm 4) [.ref 0] (mm_enc shC S) (qi shC (fun S1 v => S = S1 ∧ mm_b (0) (127) v ∧ (True))) := by
  refine mc_of2 (own := RX9) (ini := false) (ls := [(0, .ref 0)]) (by decide) (Nat.le_of_ble_eq_true rfl) rfl (by decide) rfl ?_
  refine mw_aload_n dX9_voicesThatSpoke_0 rfl 0 rfl ?_
  refine tw_getm (j := 1) dX9_voicesThatSpoke_1 shC_0 rfl rfl (by decide) fX9_19 (fun a101 ea101 => ?_)
  have ha102 : a101 ∈ LC_parish := by rw [ea101]; exact JRC_1 hI
  refine tc_Vi (as := []) (st := []) dX9_voicesThatSpoke_4 rfl (shC_parish_0 a101 ha102) rfl rfl mX9_139 t_X6_voices rfl (Nat.le_of_ble_eq_true rfl) (by decide) (by decide) (c_X6_voices (g := g) S hI a101 ha102) (fun S103 v105 h104 => ?_)
  obtain ⟨rfl, b106, x107⟩ := h104
  refine mw_istore_n (ls' := [(1, .int v105), (0, .ref 0)]) dX9_voicesThatSpoke_7 rfl (by decide) rfl ?_
  refine mw_iconst dX9_voicesThatSpoke_8 ki_0 ?_
  refine mw_istore_n (ls' := [(2, .int 0), (1, .int v105), (0, .ref 0)]) dX9_voicesThatSpoke_9 rfl (by decide) rfl ?_
  have cut10 : ∀ (N10 : Nat) (y108 y110 : Int32), ((7 : Int) - y110.toInt).toNat < N10 → mm_b (0) (127) y108 → mm_b (0) (6) y110 → mw g RX9 cX9_voicesThatSpoke 4 (some .int) false (mm_rm 4) (qi shC (fun S1 v => S = S1 ∧ mm_b (0) (127) v ∧ (True))) 0 0 (mm_enc shC S) 10 [(0, .ref 0), (1, .int y108), (2, .int y110)] [] := by
    intro N10
    induction N10 with
    | zero =>
      intro y108 y110 hm112 b109 b111
      exact absurd hm112 (Nat.not_lt_zero _)
    | succ N10 ih10 =>
      intro y108 y110 hm112 b109 b111
      refine mw_iload_n dX9_voicesThatSpoke_10 rfl 2 rfl ?_
      refine mw_aload_n dX9_voicesThatSpoke_11 rfl 0 rfl ?_
      refine tw_getr (j := 8) dX9_voicesThatSpoke_12 shC_0 rfl rfl (by decide) fX9_61 ?_
      refine tw_geti (j := 0) dX9_voicesThatSpoke_15 shC_129 rfl rfl (by decide) fX9_145 (fun v113 ev113 => ?_)
      have b114 : mm_b (0) (6) v113 := JIC_fld hI ev113 tbC_34 (by decide)
      refine mw_icmp_ge (tgt := 65) dX9_voicesThatSpoke_18 (by decide) (fun q115 => ?_) (fun q115 => ?_)
      · skip
        refine mw_iload_n dX9_voicesThatSpoke_65 rfl 1 rfl ?_
        exact mw_iret rfl dX9_voicesThatSpoke_66 rfl rfl ⟨S, _, rfl, rfl, rfl, b109, trivial⟩
      · skip
        have b116 : mm_b (0) (5) y110 := bd_lt_l (bd_nle q115) b111 b114 (by decide)
        have b117 : mm_b (1) (6) v113 := bd_lt_r (bd_nle q115) b111 b114 (by decide)
        refine mw_aload_n dX9_voicesThatSpoke_21 rfl 0 rfl ?_
        refine tw_getm (j := 1) dX9_voicesThatSpoke_22 shC_0 rfl rfl (by decide) fX9_19 (fun a118 ea118 => ?_)
        have ha119 : a118 ∈ LC_parish := by rw [ea118]; exact JRC_1 hI
        refine mw_aload_n dX9_voicesThatSpoke_25 rfl 0 rfl ?_
        refine tw_getr (j := 8) dX9_voicesThatSpoke_26 shC_0 rfl rfl (by decide) fX9_61 ?_
        refine mw_iload_n dX9_voicesThatSpoke_29 rfl 2 rfl ?_
        refine tc_Vi (as := [.int y110]) (st := [.ref a118]) dX9_voicesThatSpoke_30 rfl shC_129 rfl rfl mX9_325 t_X2_subjectAt rfl (Nat.le_of_ble_eq_true rfl) (by decide) (by decide) (c_X2_subjectAt_129 (g := g) S hI y110) (fun S120 v122 h121 => ?_)
        obtain ⟨rfl, b123, x124⟩ := h121
        refine tc_Vi (as := [.int v122]) (st := []) dX9_voicesThatSpoke_33 rfl (shC_parish_0 a118 ha119) rfl rfl mX9_176 t_X6_knownBy rfl (Nat.le_of_ble_eq_true rfl) (by decide) (by decide) (c_X6_knownBy (g := g) S hI a118 ha119 v122) (fun S125 v127 h126 => ?_)
        obtain ⟨rfl, b128, x129⟩ := h126
        refine mw_istore_n (ls' := [(3, .int v127), (0, .ref 0), (1, .int y108), (2, .int y110)]) dX9_voicesThatSpoke_36 rfl (by decide) rfl ?_
        refine mw_iload_n dX9_voicesThatSpoke_37 rfl 2 rfl ?_
        refine mw_aload_n dX9_voicesThatSpoke_38 rfl 1 rfl ?_
        refine tw_getr (j := 8) dX9_voicesThatSpoke_39 shC_0 rfl rfl (by decide) fX9_61 ?_
        refine mw_iload_n dX9_voicesThatSpoke_42 rfl 3 rfl ?_
        refine tc_Vi (as := [.int y110]) (st := [.int y108]) dX9_voicesThatSpoke_43 rfl shC_129 rfl rfl mX9_328 t_X2_valueAt rfl (Nat.le_of_ble_eq_true rfl) (by decide) (by decide) (c_X2_valueAt_129 (g := g) S hI y110) (fun S130 v132 h131 => ?_)
        obtain ⟨rfl, b133, x134⟩ := h131
        refine mw_iconst dX9_voicesThatSpoke_46 ki_1 ?_
        refine mw_icmp_ne (tgt := 54) dX9_voicesThatSpoke_47 (by decide) (fun q135 => ?_) (fun q135 => ?_)
        · skip
          refine mw_iload_n dX9_voicesThatSpoke_54 rfl 0 rfl ?_
          refine mw_iconst dX9_voicesThatSpoke_55 ki_m1 ?_
          refine mw_ixor dX9_voicesThatSpoke_56 (fun v136 ev136 => ?_)
          refine mw_iand dX9_voicesThatSpoke_57 (fun v137 ev137 => ?_)
          have b138 : mm_b (0) (127) v137 := bd_and ev137 b109 (by decide)
          refine mw_istore_n (ls' := [(1, .int v137), (3, .int v127), (0, .ref 0), (2, .int y110)]) dX9_voicesThatSpoke_58 rfl (by decide) rfl ?_
          refine mw_iinc (ls' := fun v => [(2, .int v), (1, .int v137), (3, .int v127), (0, .ref 0)]) dX9_voicesThatSpoke_59 3 rfl (by decide) (fun _ => rfl) (fun v139 ev139 => ?_)
          have b140 : mm_b (1) (6) v139 := bd_inc ev139 b116 (by decide)
          refine mw_goto (tgt := 10) dX9_voicesThatSpoke_62 (by decide) ?_
          refine mw_ls [3, 1, 0] rfl ?_
          exact ih10 v137 v139 (ms_inc ev139 b116 (by decide) hm112) b138 (bd_w b140 (by decide))
        · skip
          have b141 : mm_b (1) (1) v132 := bd_eq_l q135 b133 n_1 (by decide)
          refine mw_iload_n dX9_voicesThatSpoke_50 rfl 0 rfl ?_
          refine mw_goto (tgt := 57) dX9_voicesThatSpoke_51 (by decide) ?_
          refine mw_iand dX9_voicesThatSpoke_57 (fun v142 ev142 => ?_)
          have b143 : mm_b (0) (127) v142 := bd_and ev142 b109 (by decide)
          refine mw_istore_n (ls' := [(1, .int v142), (3, .int v127), (0, .ref 0), (2, .int y110)]) dX9_voicesThatSpoke_58 rfl (by decide) rfl ?_
          refine mw_iinc (ls' := fun v => [(2, .int v), (1, .int v142), (3, .int v127), (0, .ref 0)]) dX9_voicesThatSpoke_59 3 rfl (by decide) (fun _ => rfl) (fun v144 ev144 => ?_)
          have b145 : mm_b (1) (6) v144 := bd_inc ev144 b116 (by decide)
          refine mw_goto (tgt := 10) dX9_voicesThatSpoke_62 (by decide) ?_
          refine mw_ls [3, 1, 0] rfl ?_
          exact ih10 v142 v144 (ms_inc ev144 b116 (by decide) hm112) b143 (bd_w b145 (by decide))
  refine mw_ls [2, 1, 0] rfl ?_
  exact cut10 _ v105 (0 : Int32) (Nat.lt_succ_self _) b106 (bd_w n_0 (by decide))
set_option maxRecDepth 100000 in
set_option maxHeartbeats 4000000 in
theorem c_X9_spoke {g : mm_G} (S : mm_S) (hI : JC S) (x1 : Int32) : mc g yX9_spoke cX9_spoke 2 (some .int) (mm_rm 5) [.ref 0, .int x1] (mm_enc shC S) (qi shC (fun S1 v => S = S1 ∧ mm_b (-1000000002) (127) v ∧ (True))) := by
  refine mc_of2 (own := RX9) (ini := false) (ls := [(0, .ref 0), (1, .int x1)]) (by decide) (Nat.le_of_ble_eq_true rfl) rfl (by decide) rfl ?_
  refine mw_iload_n dX9_spoke_0 rfl 1 rfl ?_
  rcases (by omega : (x1.toInt ≠ 0 ∧ x1.toInt ≠ 1) ∨ x1.toInt = 0 ∨ x1.toInt = 1) with q101 | q101 | q101
  · refine mw_lookup (off := 44) (tgt := 45) dX9_spoke_1 (by decide) (by simp [Op.lookupswitch.offset_cons, Op.lookupswitch.offset, q101, Ne.symm, eq_comm] <;> omega) (by decide) ?_
    refine mw_ldc dX9_spoke_45 kX9_86 ?_
    exact mw_iret rfl dX9_spoke_47 rfl rfl ⟨S, _, rfl, rfl, rfl, bd_w n_m1000000002 (by decide), trivial⟩
  · refine mw_lookup (off := 27) (tgt := 28) dX9_spoke_1 (by decide) (by rw [q101]; rfl) (by decide) ?_
    have b102 : mm_b (0) (0) x1 := ⟨by omega, by omega⟩
    refine mw_aload_n dX9_spoke_28 rfl 0 rfl ?_
    refine tc_Vi (as := []) (st := []) dX9_spoke_29 rfl shC_0 rfl rfl mX9_265 t_X9_voicesThatSpoke rfl (Nat.le_of_ble_eq_true rfl) (by decide) (by decide) (c_X9_voicesThatSpoke (g := g) S hI) (fun S103 v105 h104 => ?_)
    obtain ⟨rfl, b106, x107⟩ := h104
    exact mw_iret rfl dX9_spoke_32 rfl rfl ⟨S, _, rfl, rfl, rfl, bd_w b106 (by decide), trivial⟩
  · refine mw_lookup (off := 32) (tgt := 33) dX9_spoke_1 (by decide) (by rw [q101]; rfl) (by decide) ?_
    have b108 : mm_b (1) (1) x1 := ⟨by omega, by omega⟩
    refine mw_aload_n dX9_spoke_33 rfl 0 rfl ?_
    refine tw_getr (j := 3) dX9_spoke_34 shC_0 rfl rfl (by decide) fX9_29 ?_
    refine mw_aload_n dX9_spoke_37 rfl 0 rfl ?_
    refine tc_Vi (as := []) (st := [.ref 15]) dX9_spoke_38 rfl shC_0 rfl rfl mX9_265 t_X9_voicesThatSpoke rfl (Nat.le_of_ble_eq_true rfl) (by decide) (by decide) (c_X9_voicesThatSpoke (g := g) S hI) (fun S109 v111 h110 => ?_)
    obtain ⟨rfl, b112, x113⟩ := h110
    refine tc_Vi (as := [.int v111]) (st := []) dX9_spoke_41 rfl shC_15 rfl rfl mX9_268 t_X3_usersOf rfl (Nat.le_of_ble_eq_true rfl) (by decide) (by decide) (c_X3_usersOf_15 (g := g) S hI v111) (fun S114 v116 h115 => ?_)
    obtain ⟨rfl, b117, x118⟩ := h115
    exact mw_iret rfl dX9_spoke_44 rfl rfl ⟨S, _, rfl, rfl, rfl, bd_w b117 (by decide), trivial⟩
set_option maxRecDepth 100000 in
set_option maxHeartbeats 4000000 in
theorem c_X9_knock {g : mm_G} (S : mm_S) (hI : JC S)  : mc g yX9_knock cX9_knock 7 (some .int) (mm_rm 5) [.ref 0] (mm_enc shC S) (qi shC (fun S1 v => S = S1 ∧ mm_b (-1) (5) v ∧ (True))) := by
  refine mc_of2 (own := RX9) (ini := false) (ls := [(0, .ref 0)]) (by decide) (Nat.le_of_ble_eq_true rfl) rfl (by decide) rfl ?_
  refine mw_aload_n dX9_knock_0 rfl 0 rfl ?_
  refine tc_Vi (as := []) (st := []) dX9_knock_1 rfl shC_0 rfl rfl mX9_265 t_X9_voicesThatSpoke rfl (Nat.le_of_ble_eq_true rfl) (by decide) (by decide) (c_X9_voicesThatSpoke (g := g) S hI) (fun S101 v103 h102 => ?_)
  obtain ⟨rfl, b104, x105⟩ := h102
  refine mw_istore_n (ls' := [(1, .int v103), (0, .ref 0)]) dX9_knock_4 rfl (by decide) rfl ?_
  refine mw_iconst dX9_knock_5 ki_m1 ?_
  refine mw_istore_n (ls' := [(2, .int (-1)), (1, .int v103), (0, .ref 0)]) dX9_knock_6 rfl (by decide) rfl ?_
  refine mw_iload_n dX9_knock_7 rfl 1 rfl ?_
  refine tc_Si (as := [.int v103]) (st := []) dX9_knock_8 rfl mX9_235 t_J6_bitCount_0f7a4 rfl (Nat.le_of_ble_eq_true rfl) (by decide) (by decide) (c_JbitCount (g := g) S hI v103) (fun S106 v108 h107 => ?_)
  obtain ⟨rfl, b109, x110⟩ := h107
  refine mw_istore_n (ls' := [(3, .int v108), (2, .int (-1)), (1, .int v103), (0, .ref 0)]) dX9_knock_11 rfl (by decide) rfl ?_
  refine mw_iconst dX9_knock_12 ki_0 ?_
  refine mw_istore (ls' := [(4, .int 0), (3, .int v108), (2, .int (-1)), (1, .int v103), (0, .ref 0)]) dX9_knock_13 (by decide) rfl ?_
  have cut15 : ∀ (N15 : Nat) (y111 y113 y115 y117 : Int32), ((7 : Int) - y117.toInt).toNat < N15 → mm_b (0) (127) y111 → mm_b (-1) (5) y113 → mm_b (0) (63) y115 → mm_b (0) (6) y117 → mw g RX9 cX9_knock 7 (some .int) false (mm_rm 5) (qi shC (fun S1 v => S = S1 ∧ mm_b (-1) (5) v ∧ (True))) 0 0 (mm_enc shC S) 15 [(0, .ref 0), (1, .int y111), (2, .int y113), (3, .int y115), (4, .int y117)] [] := by
    intro N15
    induction N15 with
    | zero =>
      intro y111 y113 y115 y117 hm119 b112 b114 b116 b118
      exact absurd hm119 (Nat.not_lt_zero _)
    | succ N15 ih15 =>
      intro y111 y113 y115 y117 hm119 b112 b114 b116 b118
      refine mw_iload dX9_knock_15 4 rfl ?_
      refine mw_aload_n dX9_knock_17 rfl 0 rfl ?_
      refine tw_getm (j := 1) dX9_knock_18 shC_0 rfl rfl (by decide) fX9_19 (fun a120 ea120 => ?_)
      have ha121 : a120 ∈ LC_parish := by rw [ea120]; exact JRC_1 hI
      refine tw_geti (j := 1) dX9_knock_21 (shC_parish_0 a120 ha121) rfl rfl (by decide) fX9_123 (fun v122 ev122 => ?_)
      have b123 : mm_b (0) (6) v122 := JIC_fld hI ev122 (tbC_parish_0_1 a120 ha121) (by decide)
      refine mw_icmp_ge (tgt := 75) dX9_knock_24 (by decide) (fun q124 => ?_) (fun q124 => ?_)
      · skip
        refine mw_iload_n dX9_knock_75 rfl 2 rfl ?_
        exact mw_iret rfl dX9_knock_76 rfl rfl ⟨S, _, rfl, rfl, rfl, b114, trivial⟩
      · skip
        have b125 : mm_b (0) (5) y117 := bd_lt_l (bd_nle q124) b118 b123 (by decide)
        have b126 : mm_b (1) (6) v122 := bd_lt_r (bd_nle q124) b118 b123 (by decide)
        refine mw_iload_n dX9_knock_27 rfl 1 rfl ?_
        refine mw_aload_n dX9_knock_28 rfl 0 rfl ?_
        refine tw_getm (j := 1) dX9_knock_29 shC_0 rfl rfl (by decide) fX9_19 (fun a127 ea127 => ?_)
        have ha128 : a127 ∈ LC_parish := by rw [ea127]; exact JRC_1 hI
        refine mw_iload dX9_knock_32 4 rfl ?_
        refine tc_Vi (as := [.int y117]) (st := [.int y111]) dX9_knock_34 rfl (shC_parish_0 a127 ha128) rfl rfl mX9_176 t_X6_knownBy rfl (Nat.le_of_ble_eq_true rfl) (by decide) (by decide) (c_X6_knownBy (g := g) S hI a127 ha128 y117) (fun S129 v131 h130 => ?_)
        obtain ⟨rfl, b132, x133⟩ := h130
        refine mw_iand dX9_knock_37 (fun v134 ev134 => ?_)
        have b135 : mm_b (0) (127) v134 := bd_and ev134 b112 (by decide)
        refine tc_Si (as := [.int v134]) (st := []) dX9_knock_38 rfl mX9_235 t_J6_bitCount_0f7a4 rfl (Nat.le_of_ble_eq_true rfl) (by decide) (by decide) (c_JbitCount (g := g) S hI v134) (fun S136 v138 h137 => ?_)
        obtain ⟨rfl, b139, x140⟩ := h137
        refine mw_istore (ls' := [(5, .int v138), (0, .ref 0), (1, .int y111), (2, .int y113), (3, .int y115), (4, .int y117)]) dX9_knock_41 (by decide) rfl ?_
        refine mw_iload dX9_knock_43 0 rfl ?_
        refine mw_iload_n dX9_knock_45 rfl 2 rfl ?_
        refine tc_Si (as := [.int y111]) (st := [.int v138]) dX9_knock_46 rfl mX9_235 t_J6_bitCount_0f7a4 rfl (Nat.le_of_ble_eq_true rfl) (by decide) (by decide) (c_JbitCount (g := g) S hI y111) (fun S141 v143 h142 => ?_)
        obtain ⟨rfl, b144, x145⟩ := h142
        refine mw_iload dX9_knock_49 0 rfl ?_
        refine mw_isub dX9_knock_51 (fun v146 ev146 => ?_)
        have b147 : mm_b (-63) (63) v146 := bd_sub ev146 b144 b139 (by decide)
        refine mw_max (st := []) dX9_knock_52 mX9_271 (Nat.le_of_ble_eq_true rfl) (by decide) (fun v148 ev148 => ?_)
        have b149 : mm_b (0) (63) v148 := max_b ev148 b139 b147 (by decide)
        refine mw_istore (ls' := [(6, .int v148), (5, .int v138), (0, .ref 0), (1, .int y111), (2, .int y113), (3, .int y115), (4, .int y117)]) dX9_knock_55 (by decide) rfl ?_
        refine mw_iload dX9_knock_57 0 rfl ?_
        refine mw_iload_n dX9_knock_59 rfl 5 rfl ?_
        refine mw_icmp_ge (tgt := 69) dX9_knock_60 (by decide) (fun q150 => ?_) (fun q150 => ?_)
        · skip
          refine mw_iinc (ls' := fun v => [(4, .int v), (6, .int v148), (5, .int v138), (0, .ref 0), (1, .int y111), (2, .int y113), (3, .int y115)]) dX9_knock_69 6 rfl (by decide) (fun _ => rfl) (fun v151 ev151 => ?_)
          have b152 : mm_b (1) (6) v151 := bd_inc ev151 b125 (by decide)
          refine mw_goto (tgt := 15) dX9_knock_72 (by decide) ?_
          refine mw_ls [3, 4, 5, 6, 0] rfl ?_
          exact ih15 y111 y113 y115 v151 (ms_inc ev151 b125 (by decide) hm119) b112 b114 b116 (bd_w b152 (by decide))
        · skip
          have b153 : mm_b (0) (62) v148 := bd_lt_l (bd_nle q150) b149 b116 (by decide)
          have b154 : mm_b (1) (63) y115 := bd_lt_r (bd_nle q150) b149 b116 (by decide)
          refine mw_iload dX9_knock_63 6 rfl ?_
          refine mw_istore_n (ls' := [(2, .int y117), (6, .int v148), (5, .int v138), (0, .ref 0), (1, .int y111), (3, .int y115), (4, .int y117)]) dX9_knock_65 rfl (by decide) rfl ?_
          refine mw_iload dX9_knock_66 1 rfl ?_
          refine mw_istore_n (ls' := [(3, .int v148), (2, .int y117), (6, .int v148), (5, .int v138), (0, .ref 0), (1, .int y111), (4, .int y117)]) dX9_knock_68 rfl (by decide) rfl ?_
          refine mw_iinc (ls' := fun v => [(4, .int v), (3, .int v148), (2, .int y117), (6, .int v148), (5, .int v138), (0, .ref 0), (1, .int y111)]) dX9_knock_69 6 rfl (by decide) (fun _ => rfl) (fun v155 ev155 => ?_)
          have b156 : mm_b (1) (6) v155 := bd_inc ev155 b125 (by decide)
          refine mw_goto (tgt := 15) dX9_knock_72 (by decide) ?_
          refine mw_ls [5, 6, 2, 1, 0] rfl ?_
          exact ih15 y111 y117 v148 v155 (ms_inc ev155 b125 (by decide) hm119) b112 (bd_w b125 (by decide)) (bd_w b153 (by decide)) (bd_w b156 (by decide))
  refine mw_ls [4, 3, 2, 1, 0] rfl ?_
  exact cut15 _ v103 (-1 : Int32) v108 (0 : Int32) (Nat.lt_succ_self _) b104 (bd_w n_m1 (by decide)) b109 (bd_w n_0 (by decide))
set_option maxRecDepth 100000 in
set_option maxHeartbeats 4000000 in
theorem c_X9_fitsOrder {g : mm_G} (S : mm_S) (hI : JC S) (x1 : Int32) (x2 : Int32) : mc g yX9_fitsOrder cX9_fitsOrder 3 (some .boolean) (mm_rm 5) [.ref 0, .int x1, .int x2] (mm_enc shC S) (qi shC (fun S1 v => JC S1 ∧ fr [20, 21, 22, 23, 24, 138, 139] [] true true S S1 ∧ mm_b (0) (1) v ∧ (True))) := by
  refine mc_of2 (own := RX9) (ini := false) (ls := [(0, .ref 0), (1, .int x1), (2, .int x2)]) (by decide) (Nat.le_of_ble_eq_true rfl) rfl (by decide) rfl ?_
  have hF : fr [20, 21, 22, 23, 24, 138, 139] [] true true S S := fr_rf
  refine mw_aload_n dX9_fitsOrder_0 rfl 0 rfl ?_
  refine tw_getr (j := 11) dX9_fitsOrder_1 shC_0 rfl rfl (by decide) fX9_74 ?_
  refine mw_iload_n dX9_fitsOrder_4 rfl 1 rfl ?_
  refine mw_iload_n dX9_fitsOrder_5 rfl 2 rfl ?_
  refine tc_Vv (as := [.int x1, .int x2]) (st := []) dX9_fitsOrder_6 rfl shC_138 rfl rfl mX9_331 t_X5_setOrder rfl (Nat.le_of_ble_eq_true rfl) (by decide) (by decide) (c_X5_setOrder (g := g) S hI x1 x2) (fun S101 h102 => ?_)
  obtain ⟨hI104, hf105, x103⟩ := h102
  have hF106 := fr_tr hF hf105 (by decide) (by decide) (by decide) (by decide)
  refine mw_aload_n dX9_fitsOrder_9 rfl 0 rfl ?_
  refine tw_getr (j := 4) dX9_fitsOrder_10 shC_0 rfl rfl (by decide) fX9_33 ?_
  refine mw_aload_n dX9_fitsOrder_13 rfl 0 rfl ?_
  refine tw_getr (j := 3) dX9_fitsOrder_14 shC_0 rfl rfl (by decide) fX9_29 ?_
  refine tc_Vv (as := [.ref 15]) (st := []) dX9_fitsOrder_17 rfl shC_20 rfl rfl mX9_302 t_X3_copy rfl (Nat.le_of_ble_eq_true rfl) (by decide) (by decide) (c_X3_copy_20_15 (g := g) S101 hI104) (fun S107 h108 => ?_)
  obtain ⟨hI110, hf111, x109⟩ := h108
  have hF112 := fr_tr hF106 hf111 (by decide) (by decide) (by decide) (by decide)
  refine mw_aload_n dX9_fitsOrder_20 rfl 0 rfl ?_
  refine tw_getr (j := 11) dX9_fitsOrder_21 shC_0 rfl rfl (by decide) fX9_74 ?_
  refine mw_aload_n dX9_fitsOrder_24 rfl 0 rfl ?_
  refine tw_getr (j := 4) dX9_fitsOrder_25 shC_0 rfl rfl (by decide) fX9_33 ?_
  refine tc_Vv (as := [.ref 20]) (st := []) dX9_fitsOrder_28 rfl shC_138 rfl rfl mX9_311 t_X5_buryIn rfl (Nat.le_of_ble_eq_true rfl) (by decide) (by decide) (c_X5_buryIn (g := g) S107 hI110) (fun S113 h114 => ?_)
  obtain ⟨hI116, hf117, x115⟩ := h114
  have hF118 := fr_tr hF112 hf117 (by decide) (by decide) (by decide) (by decide)
  refine mw_aload_n dX9_fitsOrder_31 rfl 0 rfl ?_
  refine tw_getr (j := 9) dX9_fitsOrder_32 shC_0 rfl rfl (by decide) fX9_65 ?_
  refine mw_aload_n dX9_fitsOrder_35 rfl 0 rfl ?_
  refine tw_getr (j := 4) dX9_fitsOrder_36 shC_0 rfl rfl (by decide) fX9_33 ?_
  refine tc_Vi (as := [.ref 20]) (st := []) dX9_fitsOrder_39 rfl shC_132 rfl rfl mX9_288 t_X2_firstUnlike rfl (Nat.le_of_ble_eq_true rfl) (by decide) (by decide) (c_X2_firstUnlike_132_20 (g := g) S113 hI116) (fun S119 v121 h120 => ?_)
  obtain ⟨rfl, b122, x123⟩ := h120
  refine mw_iconst dX9_fitsOrder_42 ki_m1 ?_
  refine mw_icmp_ne (tgt := 50) dX9_fitsOrder_43 (by decide) (fun q124 => ?_) (fun q124 => ?_)
  · skip
    have b125 : mm_b (0) (5) v121 := bd_ne_l q124 b122 n_m1 (by decide)
    refine mw_iconst dX9_fitsOrder_50 ki_0 ?_
    exact mw_zret rfl (bd_nar n_0 (by decide)) dX9_fitsOrder_51 rfl rfl ⟨S113, _, rfl, rfl, hI116, hF118, bd_w n_0 (by decide), trivial⟩
  · skip
    have b126 : mm_b (-1) (-1) v121 := bd_eq_l q124 b122 n_m1 (by decide)
    refine mw_iconst dX9_fitsOrder_46 ki_1 ?_
    refine mw_goto (tgt := 51) dX9_fitsOrder_47 (by decide) ?_
    exact mw_zret rfl (bd_nar n_1 (by decide)) dX9_fitsOrder_51 rfl rfl ⟨S113, _, rfl, rfl, hI116, hF118, bd_w n_1 (by decide), trivial⟩
set_option maxRecDepth 100000 in
set_option maxHeartbeats 4000000 in
theorem c_X9_countOrders {g : mm_G} (S : mm_S) (hI : JC S) (x1 : Int32) : mc g yX9_countOrders cX9_countOrders 4 (some .int) (mm_rm 6) [.ref 0, .int x1] (mm_enc shC S) (qi shC (fun S1 v => JC S1 ∧ fr [20, 21, 22, 23, 24, 138, 139] [] true true S S1 ∧ mm_b (-2147483648) (2147483647) v ∧ (True))) := by
  refine mc_of2 (own := RX9) (ini := false) (ls := [(0, .ref 0), (1, .int x1)]) (by decide) (Nat.le_of_ble_eq_true rfl) rfl (by decide) rfl ?_
  have hF : fr [20, 21, 22, 23, 24, 138, 139] [] true true S S := fr_rf
  refine mw_iconst dX9_countOrders_0 ki_0 ?_
  refine mw_istore_n (ls' := [(2, .int 0), (0, .ref 0), (1, .int x1)]) dX9_countOrders_1 rfl (by decide) rfl ?_
  refine mw_iconst dX9_countOrders_2 ki_0 ?_
  refine mw_istore_n (ls' := [(3, .int 0), (2, .int 0), (0, .ref 0), (1, .int x1)]) dX9_countOrders_3 rfl (by decide) rfl ?_
  have cut4 : ∀ (N4 : Nat) (S101 : mm_S) (y104 y106 : Int32), ((31 : Int) - y106.toInt).toNat < N4 → JC S101 → fr [20, 21, 22, 23, 24, 138, 139] [] true true S S101 → mm_b (-2147483648) (2147483647) y104 → mm_b (0) (30) y106 → mw g RX9 cX9_countOrders 4 (some .int) false (mm_rm 6) (qi shC (fun S1 v => JC S1 ∧ fr [20, 21, 22, 23, 24, 138, 139] [] true true S S1 ∧ mm_b (-2147483648) (2147483647) v ∧ (True))) 0 0 (mm_enc shC S101) 4 [(0, .ref 0), (1, .int x1), (2, .int y104), (3, .int y106)] [] := by
    intro N4
    induction N4 with
    | zero =>
      intro S101 y104 y106 hm108 hI102 hF103 b105 b107
      exact absurd hm108 (Nat.not_lt_zero _)
    | succ N4 ih4 =>
      intro S101 y104 y106 hm108 hI102 hF103 b105 b107
      refine mw_iload_n dX9_countOrders_4 rfl 3 rfl ?_
      refine mw_iload_n dX9_countOrders_5 rfl 1 rfl ?_
      refine tc_Si (as := [.int x1]) (st := [.int y106]) dX9_countOrders_6 rfl mX9_334 t_X9_ordersOf rfl (Nat.le_of_ble_eq_true rfl) (by decide) (by decide) (c_X9_ordersOf (g := g) S101 hI102 x1) (fun S109 v111 h110 => ?_)
      obtain ⟨rfl, b112, x113⟩ := h110
      refine mw_icmp_ge (tgt := 30) dX9_countOrders_9 (by decide) (fun q114 => ?_) (fun q114 => ?_)
      · skip
        refine mw_iload_n dX9_countOrders_30 rfl 2 rfl ?_
        exact mw_iret rfl dX9_countOrders_31 rfl rfl ⟨S101, _, rfl, rfl, hI102, hF103, b105, trivial⟩
      · skip
        have b115 : mm_b (0) (23) y106 := bd_lt_l (bd_nle q114) b107 b112 (by decide)
        have b116 : mm_b (1) (24) v111 := bd_lt_r (bd_nle q114) b107 b112 (by decide)
        refine mw_aload_n dX9_countOrders_12 rfl 0 rfl ?_
        refine mw_iload_n dX9_countOrders_13 rfl 1 rfl ?_
        refine mw_iload_n dX9_countOrders_14 rfl 3 rfl ?_
        refine tc_Vi (as := [.int x1, .int y106]) (st := []) dX9_countOrders_15 rfl shC_0 rfl rfl mX9_337 t_X9_fitsOrder rfl (Nat.le_of_ble_eq_true rfl) (by decide) (by decide) (c_X9_fitsOrder (g := g) S101 hI102 x1 y106) (fun S117 v119 h118 => ?_)
        obtain ⟨hI123, hf124, b120, x121⟩ := h118
        have hF125 := fr_tr hF103 hf124 (by decide) (by decide) (by decide) (by decide)
        refine mw_if_eq (tgt := 24) dX9_countOrders_18 (by decide) (fun q126 => ?_) (fun q126 => ?_)
        · skip
          have b127 : mm_b (0) (0) v119 := bd_eq_l q126 b120 n_0 (by decide)
          refine mw_iinc (ls' := fun v => [(3, .int v), (0, .ref 0), (1, .int x1), (2, .int y104)]) dX9_countOrders_24 3 rfl (by decide) (fun _ => rfl) (fun v128 ev128 => ?_)
          have b129 : mm_b (1) (24) v128 := bd_inc ev128 b115 (by decide)
          refine mw_goto (tgt := 4) dX9_countOrders_27 (by decide) ?_
          refine mw_ls [1, 2, 3, 0] rfl ?_
          exact ih4 S117 y104 v128 (ms_inc ev128 b115 (by decide) hm108) hI123 hF125 b105 (bd_w b129 (by decide))
        · skip
          have b130 : mm_b (1) (1) v119 := bd_ne_l q126 b120 n_0 (by decide)
          refine mw_iinc (ls' := fun v => [(2, .int v), (0, .ref 0), (1, .int x1), (3, .int y106)]) dX9_countOrders_21 2 rfl (by decide) (fun _ => rfl) (fun v131 ev131 => ?_)
          refine mw_iinc (ls' := fun v => [(3, .int v), (2, .int v131), (0, .ref 0), (1, .int x1)]) dX9_countOrders_24 3 rfl (by decide) (fun _ => rfl) (fun v132 ev132 => ?_)
          have b133 : mm_b (1) (24) v132 := bd_inc ev132 b115 (by decide)
          refine mw_goto (tgt := 4) dX9_countOrders_27 (by decide) ?_
          refine mw_ls [2, 3, 1, 0] rfl ?_
          exact ih4 S117 v131 v132 (ms_inc ev132 b115 (by decide) hm108) hI123 hF125 (bd_all v131) (bd_w b133 (by decide))
  refine mw_ls [2, 3, 1, 0] rfl ?_
  exact cut4 _ S (0 : Int32) (0 : Int32) (Nat.lt_succ_self _) hI hF (bd_w n_0 (by decide)) (bd_w n_0 (by decide))
set_option maxRecDepth 100000 in
set_option maxHeartbeats 4000000 in
theorem c_X9_orderNumber {g : mm_G} (S : mm_S) (hI : JC S) (x1 : Int32) (x2 : Int32) : mc g yX9_orderNumber cX9_orderNumber 5 (some .int) (mm_rm 6) [.ref 0, .int x1, .int x2] (mm_enc shC S) (qi shC (fun S1 v => JC S1 ∧ fr [20, 21, 22, 23, 24, 138, 139] [] true true S S1 ∧ mm_b (-2147483648) (2147483647) v ∧ (True))) := by
  refine mc_of2 (own := RX9) (ini := false) (ls := [(0, .ref 0), (1, .int x1), (2, .int x2)]) (by decide) (Nat.le_of_ble_eq_true rfl) rfl (by decide) rfl ?_
  have hF : fr [20, 21, 22, 23, 24, 138, 139] [] true true S S := fr_rf
  refine mw_iconst dX9_orderNumber_0 ki_0 ?_
  refine mw_istore_n (ls' := [(3, .int 0), (0, .ref 0), (1, .int x1), (2, .int x2)]) dX9_orderNumber_1 rfl (by decide) rfl ?_
  refine mw_iconst dX9_orderNumber_2 ki_0 ?_
  refine mw_istore (ls' := [(4, .int 0), (3, .int 0), (0, .ref 0), (1, .int x1), (2, .int x2)]) dX9_orderNumber_3 (by decide) rfl ?_
  have cut5 : ∀ (N5 : Nat) (S101 : mm_S) (y104 y106 : Int32), ((31 : Int) - y106.toInt).toNat < N5 → JC S101 → fr [20, 21, 22, 23, 24, 138, 139] [] true true S S101 → mm_b (-2147483648) (2147483647) y104 → mm_b (0) (30) y106 → mw g RX9 cX9_orderNumber 5 (some .int) false (mm_rm 6) (qi shC (fun S1 v => JC S1 ∧ fr [20, 21, 22, 23, 24, 138, 139] [] true true S S1 ∧ mm_b (-2147483648) (2147483647) v ∧ (True))) 0 0 (mm_enc shC S101) 5 [(0, .ref 0), (1, .int x1), (2, .int x2), (3, .int y104), (4, .int y106)] [] := by
    intro N5
    induction N5 with
    | zero =>
      intro S101 y104 y106 hm108 hI102 hF103 b105 b107
      exact absurd hm108 (Nat.not_lt_zero _)
    | succ N5 ih5 =>
      intro S101 y104 y106 hm108 hI102 hF103 b105 b107
      refine mw_iload dX9_orderNumber_5 4 rfl ?_
      refine mw_iload_n dX9_orderNumber_7 rfl 1 rfl ?_
      refine tc_Si (as := [.int x1]) (st := [.int y106]) dX9_orderNumber_8 rfl mX9_334 t_X9_ordersOf rfl (Nat.le_of_ble_eq_true rfl) (by decide) (by decide) (c_X9_ordersOf (g := g) S101 hI102 x1) (fun S109 v111 h110 => ?_)
      obtain ⟨rfl, b112, x113⟩ := h110
      refine mw_icmp_ge (tgt := 46) dX9_orderNumber_11 (by decide) (fun q114 => ?_) (fun q114 => ?_)
      · skip
        refine mw_iconst dX9_orderNumber_46 ki_m1 ?_
        exact mw_iret rfl dX9_orderNumber_47 rfl rfl ⟨S101, _, rfl, rfl, hI102, hF103, bd_w n_m1 (by decide), trivial⟩
      · skip
        have b115 : mm_b (0) (23) y106 := bd_lt_l (bd_nle q114) b107 b112 (by decide)
        have b116 : mm_b (1) (24) v111 := bd_lt_r (bd_nle q114) b107 b112 (by decide)
        refine mw_aload_n dX9_orderNumber_14 rfl 0 rfl ?_
        refine mw_iload_n dX9_orderNumber_15 rfl 1 rfl ?_
        refine mw_iload dX9_orderNumber_16 4 rfl ?_
        refine tc_Vi (as := [.int x1, .int y106]) (st := []) dX9_orderNumber_18 rfl shC_0 rfl rfl mX9_337 t_X9_fitsOrder rfl (Nat.le_of_ble_eq_true rfl) (by decide) (by decide) (c_X9_fitsOrder (g := g) S101 hI102 x1 y106) (fun S117 v119 h118 => ?_)
        obtain ⟨hI123, hf124, b120, x121⟩ := h118
        have hF125 := fr_tr hF103 hf124 (by decide) (by decide) (by decide) (by decide)
        refine mw_if_eq (tgt := 40) dX9_orderNumber_21 (by decide) (fun q126 => ?_) (fun q126 => ?_)
        · skip
          have b127 : mm_b (0) (0) v119 := bd_eq_l q126 b120 n_0 (by decide)
          refine mw_iinc (ls' := fun v => [(4, .int v), (0, .ref 0), (1, .int x1), (2, .int x2), (3, .int y104)]) dX9_orderNumber_40 4 rfl (by decide) (fun _ => rfl) (fun v128 ev128 => ?_)
          have b129 : mm_b (1) (24) v128 := bd_inc ev128 b115 (by decide)
          refine mw_goto (tgt := 5) dX9_orderNumber_43 (by decide) ?_
          refine mw_ls [1, 2, 3, 4, 0] rfl ?_
          exact ih5 S117 y104 v128 (ms_inc ev128 b115 (by decide) hm108) hI123 hF125 b105 (bd_w b129 (by decide))
        · skip
          have b130 : mm_b (1) (1) v119 := bd_ne_l q126 b120 n_0 (by decide)
          refine mw_iload_n dX9_orderNumber_24 rfl 3 rfl ?_
          refine mw_iload_n dX9_orderNumber_25 rfl 2 rfl ?_
          refine mw_icmp_ne (tgt := 37) dX9_orderNumber_26 (by decide) (fun q131 => ?_) (fun q131 => ?_)
          · skip
            refine mw_iinc (ls' := fun v => [(3, .int v), (0, .ref 0), (1, .int x1), (2, .int x2), (4, .int y106)]) dX9_orderNumber_37 3 rfl (by decide) (fun _ => rfl) (fun v132 ev132 => ?_)
            refine mw_iinc (ls' := fun v => [(4, .int v), (3, .int v132), (0, .ref 0), (1, .int x1), (2, .int x2)]) dX9_orderNumber_40 4 rfl (by decide) (fun _ => rfl) (fun v133 ev133 => ?_)
            have b134 : mm_b (1) (24) v133 := bd_inc ev133 b115 (by decide)
            refine mw_goto (tgt := 5) dX9_orderNumber_43 (by decide) ?_
            refine mw_ls [2, 3, 4, 1, 0] rfl ?_
            exact ih5 S117 v132 v133 (ms_inc ev133 b115 (by decide) hm108) hI123 hF125 (bd_all v132) (bd_w b134 (by decide))
          · skip
            refine mw_aload_n dX9_orderNumber_29 rfl 0 rfl ?_
            refine tw_getr (j := 11) dX9_orderNumber_30 shC_0 rfl rfl (by decide) fX9_74 ?_
            refine tc_Vi (as := []) (st := []) dX9_orderNumber_33 rfl shC_138 rfl rfl mX9_340 t_X5_asNumber rfl (Nat.le_of_ble_eq_true rfl) (by decide) (by decide) (c_X5_asNumber (g := g) S117 hI123) (fun S135 v137 h136 => ?_)
            obtain ⟨rfl, b138, x139⟩ := h136
            exact mw_iret rfl dX9_orderNumber_36 rfl rfl ⟨S117, _, rfl, rfl, hI123, hF125, b138, trivial⟩
  refine mw_ls [2, 3, 4, 1, 0] rfl ?_
  exact cut5 _ S (0 : Int32) (0 : Int32) (Nat.lt_succ_self _) hI hF (bd_w n_0 (by decide)) (bd_w n_0 (by decide))
set_option maxRecDepth 100000 in
set_option maxHeartbeats 4000000 in
theorem c_X9_firstInAllOrders {g : mm_G} (S : mm_S) (hI : JC S) (x1 : Int32) : mc g yX9_firstInAllOrders cX9_firstInAllOrders 4 (some .int) (mm_rm 6) [.ref 0, .int x1] (mm_enc shC S) (qi shC (fun S1 v => JC S1 ∧ fr [20, 21, 22, 23, 24, 138, 139] [] true true S S1 ∧ mm_b (-2147483648) (2147483647) v ∧ (True))) := by
  refine mc_of2 (own := RX9) (ini := false) (ls := [(0, .ref 0), (1, .int x1)]) (by decide) (Nat.le_of_ble_eq_true rfl) rfl (by decide) rfl ?_
  have hF : fr [20, 21, 22, 23, 24, 138, 139] [] true true S S := fr_rf
  refine mw_iconst dX9_firstInAllOrders_0 ki_m1 ?_
  refine mw_istore_n (ls' := [(2, .int (-1)), (0, .ref 0), (1, .int x1)]) dX9_firstInAllOrders_1 rfl (by decide) rfl ?_
  refine mw_iconst dX9_firstInAllOrders_2 ki_0 ?_
  refine mw_istore_n (ls' := [(3, .int 0), (2, .int (-1)), (0, .ref 0), (1, .int x1)]) dX9_firstInAllOrders_3 rfl (by decide) rfl ?_
  have cut4 : ∀ (N4 : Nat) (S101 : mm_S) (y104 y106 : Int32), ((31 : Int) - y106.toInt).toNat < N4 → JC S101 → fr [20, 21, 22, 23, 24, 138, 139] [] true true S S101 → mm_b (-2147483648) (2147483647) y104 → mm_b (0) (30) y106 → mw g RX9 cX9_firstInAllOrders 4 (some .int) false (mm_rm 6) (qi shC (fun S1 v => JC S1 ∧ fr [20, 21, 22, 23, 24, 138, 139] [] true true S S1 ∧ mm_b (-2147483648) (2147483647) v ∧ (True))) 0 0 (mm_enc shC S101) 4 [(0, .ref 0), (1, .int x1), (2, .int y104), (3, .int y106)] [] := by
    intro N4
    induction N4 with
    | zero =>
      intro S101 y104 y106 hm108 hI102 hF103 b105 b107
      exact absurd hm108 (Nat.not_lt_zero _)
    | succ N4 ih4 =>
      intro S101 y104 y106 hm108 hI102 hF103 b105 b107
      refine mw_iload_n dX9_firstInAllOrders_4 rfl 3 rfl ?_
      refine mw_iload_n dX9_firstInAllOrders_5 rfl 1 rfl ?_
      refine tc_Si (as := [.int x1]) (st := [.int y106]) dX9_firstInAllOrders_6 rfl mX9_334 t_X9_ordersOf rfl (Nat.le_of_ble_eq_true rfl) (by decide) (by decide) (c_X9_ordersOf (g := g) S101 hI102 x1) (fun S109 v111 h110 => ?_)
      obtain ⟨rfl, b112, x113⟩ := h110
      refine mw_icmp_ge (tgt := 53) dX9_firstInAllOrders_9 (by decide) (fun q114 => ?_) (fun q114 => ?_)
      · skip
        refine mw_iload_n dX9_firstInAllOrders_53 rfl 2 rfl ?_
        exact mw_iret rfl dX9_firstInAllOrders_54 rfl rfl ⟨S101, _, rfl, rfl, hI102, hF103, b105, trivial⟩
      · skip
        have b115 : mm_b (0) (23) y106 := bd_lt_l (bd_nle q114) b107 b112 (by decide)
        have b116 : mm_b (1) (24) v111 := bd_lt_r (bd_nle q114) b107 b112 (by decide)
        refine mw_aload_n dX9_firstInAllOrders_12 rfl 0 rfl ?_
        refine mw_iload_n dX9_firstInAllOrders_13 rfl 1 rfl ?_
        refine mw_iload_n dX9_firstInAllOrders_14 rfl 3 rfl ?_
        refine tc_Vi (as := [.int x1, .int y106]) (st := []) dX9_firstInAllOrders_15 rfl shC_0 rfl rfl mX9_337 t_X9_fitsOrder rfl (Nat.le_of_ble_eq_true rfl) (by decide) (by decide) (c_X9_fitsOrder (g := g) S101 hI102 x1 y106) (fun S117 v119 h118 => ?_)
        obtain ⟨hI123, hf124, b120, x121⟩ := h118
        have hF125 := fr_tr hF103 hf124 (by decide) (by decide) (by decide) (by decide)
        refine mw_if_eq (tgt := 47) dX9_firstInAllOrders_18 (by decide) (fun q126 => ?_) (fun q126 => ?_)
        · skip
          have b127 : mm_b (0) (0) v119 := bd_eq_l q126 b120 n_0 (by decide)
          refine mw_iinc (ls' := fun v => [(3, .int v), (0, .ref 0), (1, .int x1), (2, .int y104)]) dX9_firstInAllOrders_47 3 rfl (by decide) (fun _ => rfl) (fun v128 ev128 => ?_)
          have b129 : mm_b (1) (24) v128 := bd_inc ev128 b115 (by decide)
          refine mw_goto (tgt := 4) dX9_firstInAllOrders_50 (by decide) ?_
          refine mw_ls [1, 2, 3, 0] rfl ?_
          exact ih4 S117 y104 v128 (ms_inc ev128 b115 (by decide) hm108) hI123 hF125 b105 (bd_w b129 (by decide))
        · skip
          have b130 : mm_b (1) (1) v119 := bd_ne_l q126 b120 n_0 (by decide)
          refine mw_iload_n dX9_firstInAllOrders_21 rfl 2 rfl ?_
          refine mw_iconst dX9_firstInAllOrders_22 ki_m1 ?_
          refine mw_icmp_eq (tgt := 39) dX9_firstInAllOrders_23 (by decide) (fun q131 => ?_) (fun q131 => ?_)
          · skip
            have b132 : mm_b (-1) (-1) y104 := bd_eq_l q131 b105 n_m1 (by decide)
            refine mw_aload_n dX9_firstInAllOrders_39 rfl 0 rfl ?_
            refine tw_getr (j := 11) dX9_firstInAllOrders_40 shC_0 rfl rfl (by decide) fX9_74 ?_
            refine tc_Vi (as := []) (st := []) dX9_firstInAllOrders_43 rfl shC_138 rfl rfl mX9_343 t_X5_firstOne rfl (Nat.le_of_ble_eq_true rfl) (by decide) (by decide) (c_X5_firstOne (g := g) S117 hI123) (fun S133 v135 h134 => ?_)
            obtain ⟨rfl, b136, x137⟩ := h134
            refine mw_istore_n (ls' := [(2, .int v135), (0, .ref 0), (1, .int x1), (3, .int y106)]) dX9_firstInAllOrders_46 rfl (by decide) rfl ?_
            refine mw_iinc (ls' := fun v => [(3, .int v), (2, .int v135), (0, .ref 0), (1, .int x1)]) dX9_firstInAllOrders_47 3 rfl (by decide) (fun _ => rfl) (fun v138 ev138 => ?_)
            have b139 : mm_b (1) (24) v138 := bd_inc ev138 b115 (by decide)
            refine mw_goto (tgt := 4) dX9_firstInAllOrders_50 (by decide) ?_
            refine mw_ls [2, 3, 1, 0] rfl ?_
            exact ih4 S117 v135 v138 (ms_inc ev138 b115 (by decide) hm108) hI123 hF125 b136 (bd_w b139 (by decide))
          · skip
            refine mw_iload_n dX9_firstInAllOrders_26 rfl 2 rfl ?_
            refine mw_aload_n dX9_firstInAllOrders_27 rfl 0 rfl ?_
            refine tw_getr (j := 11) dX9_firstInAllOrders_28 shC_0 rfl rfl (by decide) fX9_74 ?_
            refine tc_Vi (as := []) (st := [.int y104]) dX9_firstInAllOrders_31 rfl shC_138 rfl rfl mX9_343 t_X5_firstOne rfl (Nat.le_of_ble_eq_true rfl) (by decide) (by decide) (c_X5_firstOne (g := g) S117 hI123) (fun S140 v142 h141 => ?_)
            obtain ⟨rfl, b143, x144⟩ := h141
            refine mw_icmp_eq (tgt := 39) dX9_firstInAllOrders_34 (by decide) (fun q145 => ?_) (fun q145 => ?_)
            · skip
              refine mw_aload_n dX9_firstInAllOrders_39 rfl 0 rfl ?_
              refine tw_getr (j := 11) dX9_firstInAllOrders_40 shC_0 rfl rfl (by decide) fX9_74 ?_
              refine tc_Vi (as := []) (st := []) dX9_firstInAllOrders_43 rfl shC_138 rfl rfl mX9_343 t_X5_firstOne rfl (Nat.le_of_ble_eq_true rfl) (by decide) (by decide) (c_X5_firstOne (g := g) S117 hI123) (fun S146 v148 h147 => ?_)
              obtain ⟨rfl, b149, x150⟩ := h147
              refine mw_istore_n (ls' := [(2, .int v148), (0, .ref 0), (1, .int x1), (3, .int y106)]) dX9_firstInAllOrders_46 rfl (by decide) rfl ?_
              refine mw_iinc (ls' := fun v => [(3, .int v), (2, .int v148), (0, .ref 0), (1, .int x1)]) dX9_firstInAllOrders_47 3 rfl (by decide) (fun _ => rfl) (fun v151 ev151 => ?_)
              have b152 : mm_b (1) (24) v151 := bd_inc ev151 b115 (by decide)
              refine mw_goto (tgt := 4) dX9_firstInAllOrders_50 (by decide) ?_
              refine mw_ls [2, 3, 1, 0] rfl ?_
              exact ih4 S117 v148 v151 (ms_inc ev151 b115 (by decide) hm108) hI123 hF125 b149 (bd_w b152 (by decide))
            · skip
              refine mw_iconst dX9_firstInAllOrders_37 ki_m1 ?_
              exact mw_iret rfl dX9_firstInAllOrders_38 rfl rfl ⟨S117, _, rfl, rfl, hI123, hF125, bd_w n_m1 (by decide), trivial⟩
  refine mw_ls [2, 3, 1, 0] rfl ?_
  exact cut4 _ S (-1 : Int32) (0 : Int32) (Nat.lt_succ_self _) hI hF (bd_w n_m1 (by decide)) (bd_w n_0 (by decide))
set_option maxRecDepth 100000 in
set_option maxHeartbeats 4000000 in
theorem c_X9_orders {g : mm_G} (S : mm_S) (hI : JC S) (x1 : Int32) (x2 : Int32) : mc g yX9_orders cX9_orders 3 (some .int) (mm_rm 7) [.ref 0, .int x1, .int x2] (mm_enc shC S) (qi shC (fun S1 v => JC S1 ∧ fr [20, 21, 22, 23, 24, 138, 139] [] true true S S1 ∧ mm_b (-2147483648) (2147483647) v ∧ (True))) := by
  refine mc_of2 (own := RX9) (ini := false) (ls := [(0, .ref 0), (1, .int x1), (2, .int x2)]) (by decide) (Nat.le_of_ble_eq_true rfl) rfl (by decide) rfl ?_
  have hF : fr [20, 21, 22, 23, 24, 138, 139] [] true true S S := fr_rf
  refine mw_aload_n dX9_orders_0 rfl 0 rfl ?_
  refine tw_getm (j := 1) dX9_orders_1 shC_0 rfl rfl (by decide) fX9_19 (fun a101 ea101 => ?_)
  have ha102 : a101 ∈ LC_parish := by rw [ea101]; exact JRC_1 hI
  refine mw_iload_n dX9_orders_4 rfl 1 rfl ?_
  refine tc_Vi (as := [.int x1]) (st := []) dX9_orders_5 rfl (shC_parish_0 a101 ha102) rfl rfl mX9_253 t_X6_hasPersons rfl (Nat.le_of_ble_eq_true rfl) (by decide) (by decide) (c_X6_hasPersons (g := g) S hI a101 ha102 x1) (fun S103 v105 h104 => ?_)
  obtain ⟨rfl, b106, x107⟩ := h104
  refine mw_if_ne (tgt := 14) dX9_orders_8 (by decide) (fun q108 => ?_) (fun q108 => ?_)
  · skip
    have b109 : mm_b (1) (1) v105 := bd_ne_l q108 b106 n_0 (by decide)
    have b110 := Or.resolve_left x107 q108
    refine mw_iload_n dX9_orders_14 rfl 1 rfl ?_
    refine tc_Si (as := [.int x1]) (st := []) dX9_orders_15 rfl mX9_235 t_J6_bitCount_0f7a4 rfl (Nat.le_of_ble_eq_true rfl) (by decide) (by decide) (c_JbitCount (g := g) S hI x1) (fun S111 v113 h112 => ?_)
    obtain ⟨rfl, b114, x115⟩ := h112
    refine mw_iconst dX9_orders_18 ki_4 ?_
    refine mw_icmp_le (tgt := 25) dX9_orders_19 (by decide) (fun q116 => ?_) (fun q116 => ?_)
    · skip
      have b117 : mm_b (0) (4) v113 := bd_le_l q116 b114 n_4 (by decide)
      refine mw_aload_n dX9_orders_25 rfl 0 rfl ?_
      refine tw_getr (j := 3) dX9_orders_26 shC_0 rfl rfl (by decide) fX9_29 ?_
      refine mw_iload_n dX9_orders_29 rfl 1 rfl ?_
      refine tc_Vi (as := [.int x1]) (st := []) dX9_orders_30 rfl shC_15 rfl rfl mX9_256 t_X3_allLive rfl (Nat.le_of_ble_eq_true rfl) (by decide) (by decide) (c_X3_allLive_15 (g := g) S hI x1) (fun S118 v120 h119 => ?_)
      obtain ⟨rfl, b121, x122⟩ := h119
      refine mw_if_ne (tgt := 39) dX9_orders_33 (by decide) (fun q123 => ?_) (fun q123 => ?_)
      · skip
        have b124 : mm_b (1) (1) v120 := bd_ne_l q123 b121 n_0 (by decide)
        refine mw_iload_n dX9_orders_39 rfl 2 rfl ?_
        refine mw_bipush dX9_orders_40 kb_m2 ?_
        refine mw_icmp_ne (tgt := 51) dX9_orders_42 (by decide) (fun q125 => ?_) (fun q125 => ?_)
        · skip
          refine mw_iload_n dX9_orders_51 rfl 2 rfl ?_
          refine mw_iconst dX9_orders_52 ki_m1 ?_
          refine mw_icmp_ne (tgt := 64) dX9_orders_53 (by decide) (fun q126 => ?_) (fun q126 => ?_)
          · skip
            refine mw_aload_n dX9_orders_64 rfl 0 rfl ?_
            refine mw_iload_n dX9_orders_65 rfl 1 rfl ?_
            refine mw_iload_n dX9_orders_66 rfl 2 rfl ?_
            refine tc_Vi (as := [.int x1, .int x2]) (st := []) dX9_orders_67 rfl shC_0 rfl rfl mX9_285 t_X9_orderNumber rfl (Nat.le_of_ble_eq_true rfl) (by decide) (by decide) (c_X9_orderNumber (g := g) S hI x1 x2) (fun S127 v129 h128 => ?_)
            obtain ⟨hI133, hf134, b130, x131⟩ := h128
            have hF135 := fr_tr hF hf134 (by decide) (by decide) (by decide) (by decide)
            exact mw_iret rfl dX9_orders_70 rfl rfl ⟨S127, _, rfl, rfl, hI133, hF135, b130, trivial⟩
          · skip
            have b136 : mm_b (-1) (-1) x2 := bd_eq_l q126 (bd_all x2) n_m1 (by decide)
            refine mw_aload_n dX9_orders_56 rfl 0 rfl ?_
            refine mw_iload_n dX9_orders_57 rfl 1 rfl ?_
            refine tc_Vi (as := [.int x1]) (st := []) dX9_orders_58 rfl shC_0 rfl rfl mX9_282 t_X9_countOrders rfl (Nat.le_of_ble_eq_true rfl) (by decide) (by decide) (c_X9_countOrders (g := g) S hI x1) (fun S137 v139 h138 => ?_)
            obtain ⟨hI143, hf144, b140, x141⟩ := h138
            have hF145 := fr_tr hF hf144 (by decide) (by decide) (by decide) (by decide)
            refine mw_goto (tgt := 70) dX9_orders_61 (by decide) ?_
            exact mw_iret rfl dX9_orders_70 rfl rfl ⟨S137, _, rfl, rfl, hI143, hF145, b140, trivial⟩
        · skip
          have b146 : mm_b (-2) (-2) x2 := bd_eq_l q125 (bd_all x2) n_m2 (by decide)
          refine mw_aload_n dX9_orders_45 rfl 0 rfl ?_
          refine mw_iload_n dX9_orders_46 rfl 1 rfl ?_
          refine tc_Vi (as := [.int x1]) (st := []) dX9_orders_47 rfl shC_0 rfl rfl mX9_279 t_X9_firstInAllOrders rfl (Nat.le_of_ble_eq_true rfl) (by decide) (by decide) (c_X9_firstInAllOrders (g := g) S hI x1) (fun S147 v149 h148 => ?_)
          obtain ⟨hI153, hf154, b150, x151⟩ := h148
          have hF155 := fr_tr hF hf154 (by decide) (by decide) (by decide) (by decide)
          exact mw_iret rfl dX9_orders_50 rfl rfl ⟨S147, _, rfl, rfl, hI153, hF155, b150, trivial⟩
      · skip
        have b156 : mm_b (0) (0) v120 := bd_eq_l q123 b121 n_0 (by decide)
        refine mw_ldc dX9_orders_36 kX9_179 ?_
        exact mw_iret rfl dX9_orders_38 rfl rfl ⟨S, _, rfl, rfl, hI, hF, bd_w n_m1000000003 (by decide), trivial⟩
    · skip
      have b157 : mm_b (5) (63) v113 := bd_lt_r (bd_nle q116) n_4 b114 (by decide)
      refine mw_ldc dX9_orders_22 kX9_86 ?_
      exact mw_iret rfl dX9_orders_24 rfl rfl ⟨S, _, rfl, rfl, hI, hF, bd_w n_m1000000002 (by decide), trivial⟩
  · skip
    have b158 : mm_b (0) (0) v105 := bd_eq_l q108 b106 n_0 (by decide)
    refine mw_ldc dX9_orders_11 kX9_150 ?_
    exact mw_iret rfl dX9_orders_13 rfl rfl ⟨S, _, rfl, rfl, hI, hF, bd_w n_m1000000001 (by decide), trivial⟩
set_option maxRecDepth 100000 in
set_option maxHeartbeats 4000000 in
theorem c_X9_judge {g : mm_G} (S : mm_S) (hI : JC S)  : mc g yX9_judge cX9_judge 1 (some .int) (mm_rm 3) [.ref 0] (mm_enc shC S) (qi shC (fun S1 v => S = S1 ∧ mm_b (-1) (14) v ∧ (True))) := by
  refine mc_of2 (own := RX9) (ini := false) (ls := [(0, .ref 0)]) (by decide) (Nat.le_of_ble_eq_true rfl) rfl (by decide) rfl ?_
  refine mw_aload_n dX9_judge_0 rfl 0 rfl ?_
  refine tw_getr (j := 10) dX9_judge_1 shC_0 rfl rfl (by decide) fX9_68 ?_
  refine mw_aload_n dX9_judge_4 rfl 0 rfl ?_
  refine tw_getr (j := 3) dX9_judge_5 shC_0 rfl rfl (by decide) fX9_29 ?_
  refine tc_Vi (as := [.ref 15]) (st := []) dX9_judge_8 rfl shC_135 rfl rfl mX9_288 t_X2_firstUnlike rfl (Nat.le_of_ble_eq_true rfl) (by decide) (by decide) (c_X2_firstUnlike_135_15 (g := g) S hI) (fun S101 v103 h102 => ?_)
  obtain ⟨rfl, b104, x105⟩ := h102
  exact mw_iret rfl dX9_judge_11 rfl rfl ⟨S, _, rfl, rfl, rfl, b104, trivial⟩
set_option maxRecDepth 100000 in
set_option maxHeartbeats 4000000 in
theorem c_X9_seed {g : mm_G} (S : mm_S) (hI : JC S) (x1 : Int32) : mc g yX9_seed cX9_seed 3 (some .int) (mm_rm 0) [.ref 0, .int x1] (mm_enc shC S) (qi shC (fun S1 v => JC S1 ∧ fr [128] [] true true S S1 ∧ mm_b (-2147483648) (2147483647) v ∧ (True))) := by
  refine mc_of2 (own := RX9) (ini := false) (ls := [(0, .ref 0), (1, .int x1)]) (by decide) (Nat.le_of_ble_eq_true rfl) rfl (by decide) rfl ?_
  have hF : fr [128] [] true true S S := fr_rf
  refine mw_iload_n dX9_seed_0 rfl 1 rfl ?_
  refine mw_if_ge (tgt := 7) dX9_seed_1 (by decide) (fun q101 => ?_) (fun q101 => ?_)
  · skip
    have b102 : mm_b (0) (2147483647) x1 := bd_le_r q101 n_0 (bd_all x1) (by decide)
    refine mw_aload_n dX9_seed_7 rfl 0 rfl ?_
    refine tw_getr (j := 7) dX9_seed_8 shC_0 rfl rfl (by decide) fX9_52 ?_
    refine tw_geti (j := 0) dX9_seed_11 shC_128 rfl rfl (by decide) fX9_292 (fun v103 ev103 => ?_)
    refine mw_istore_n (ls' := [(2, .int v103), (0, .ref 0), (1, .int x1)]) dX9_seed_14 rfl (by decide) rfl ?_
    refine mw_aload_n dX9_seed_15 rfl 1 rfl ?_
    refine tw_getr (j := 7) dX9_seed_16 shC_0 rfl rfl (by decide) fX9_52 ?_
    refine mw_iload_n dX9_seed_19 rfl 2 rfl ?_
    refine tw_puti (j := 0) dX9_seed_20 shC_128 rfl rfl (by decide) fX9_292 rfl (by decide +kernel) ?_
    have hI104 : JC (mm_up S 128 0 x1) := JIC_put hI b102 (by decide +kernel)
    generalize hS105 : (mm_up S 128 0 x1) = S105 at hI104 ⊢
    have hF106 := fr_upA hF hS105 (by decide)
    refine mw_iload_n dX9_seed_23 rfl 0 rfl ?_
    exact mw_iret rfl dX9_seed_24 rfl rfl ⟨S105, _, rfl, rfl, hI104, hF106, (bd_all v103), trivial⟩
  · skip
    have b107 : mm_b (-2147483648) (-1) x1 := bd_lt_l (bd_nle q101) (bd_all x1) n_0 (by decide)
    refine mw_ldc dX9_seed_4 kX9_86 ?_
    exact mw_iret rfl dX9_seed_6 rfl rfl ⟨S, _, rfl, rfl, hI, hF, bd_w n_m1000000002 (by decide), trivial⟩
