/-! the reference is born -/
def mdS : Nat → qSh
  | 0 => qpush onS 9 0
  | k + 1 => match mdT[k]? with
    | some t => qal (mdS k) 114 t.1 t.2.2.1 t.2.2.2
    | none => mdS k
def mdIl : Nat → qI
  | 0 => qup onI 114 18 (-1)
  | k + 1 => qup (mdIl k) 145 k (-1)
def mdSh : qSh := mdS 33
def mdI : qI := mdIl 6
set_option maxRecDepth 20000 in
theorem mdS_N : ∀ k, k < 34 → qN (mdS k) = 115 + k := by decide +kernel
set_option maxRecDepth 20000 in
theorem mdS_ok : isMd mdSh := by
  unfold isMd qT qAr
  decide +kernel
theorem mdS_z (hz : qZ onS onI zJ) {k : Nat} (hk : k < 34) : qZ (mdS k) onI zJ := fun a ha => hz a (by have e1 := mdS_N k hk; have e2 := onS_ok.2; omega)
section MD5
variable {E : qE}
set_option maxRecDepth 20000 in
theorem c_Md_init (hz0 : qZ onS onI zJ) : qMet E y_Md_init b_Md_init 2 none 1 33 2300 [.ref (qb E + 114)] (mdS 0) onI zJ (fun v S' I' J' => v = none ∧ S' = mdSh ∧ I' = mdI ∧ zJ = J') := by
  refine qMet.of (L := [some (.ref (qb E + 114)), none]) (by decide +kernel) (Nat.le_of_ble_eq_true rfl) rfl ?_
  have t0 : qT (mdS 0) 114 9 := by unfold qT; decide +kernel
  refine lda_n_2_0 (pc := 0) d_Md_init_0 ?_
  refine r_objInit (pc := 1) ml_Md_3 im_objInit cw_objInit d_Md_init_1 (by omega) (Nat.le_of_ble_eq_true rfl) ?_
  refine lda_n_2_0 (pc := 4) d_Md_init_4 ?_
  refine r_bipush (pc := 5) (v := 6) d_Md_init_5 rfl ?_
  refine r_newaG (pc := 7) (k := 11) (n' := 6) (by decide) (by decide) rfl d_Md_init_7 ac_int (by decide) rfl (by decide) (by omega) (by omega) ?_
  rw [(mdS_z hz0 (k := 0) (by decide)).i, (mdS_z hz0 (k := 0) (by decide)).j]
  have p0 : qT (qpush (mdS 0) 11 6) 114 9 := by unfold qT; decide +kernel
  refine p_Md_9 (pc := 9) rfl rfl d_Md_init_9 (p0) ?_
  change qW _ _ _ _ _ _ _ _ _ _ _ _ _ (mdS 1) _ _
  clear p0
  refine lda_n_2_0 (pc := 12) d_Md_init_12 ?_
  refine r_bipush (pc := 13) (v := 6) d_Md_init_13 rfl ?_
  refine r_newaG (pc := 15) (k := 11) (n' := 6) (by decide) (by decide) rfl d_Md_init_15 ac_int (by decide) rfl (by decide) (by omega) (by omega) ?_
  rw [(mdS_z hz0 (k := 1) (by decide)).i, (mdS_z hz0 (k := 1) (by decide)).j]
  have p1 : qT (qpush (mdS 1) 11 6) 114 9 := by unfold qT; decide +kernel
  refine p_Md_15 (pc := 17) rfl rfl d_Md_init_17 (p1) ?_
  change qW _ _ _ _ _ _ _ _ _ _ _ _ _ (mdS 2) _ _
  clear p1
  refine lda_n_2_0 (pc := 20) d_Md_init_20 ?_
  refine r_bipush (pc := 21) (v := 6) d_Md_init_21 rfl ?_
  refine r_newaG (pc := 23) (k := 11) (n' := 6) (by decide) (by decide) rfl d_Md_init_23 ac_int (by decide) rfl (by decide) (by omega) (by omega) ?_
  rw [(mdS_z hz0 (k := 2) (by decide)).i, (mdS_z hz0 (k := 2) (by decide)).j]
  have p2 : qT (qpush (mdS 2) 11 6) 114 9 := by unfold qT; decide +kernel
  refine p_Md_18 (pc := 25) rfl rfl d_Md_init_25 (p2) ?_
  change qW _ _ _ _ _ _ _ _ _ _ _ _ _ (mdS 3) _ _
  clear p2
  refine lda_n_2_0 (pc := 28) d_Md_init_28 ?_
  refine r_bipush (pc := 29) (v := 6) d_Md_init_29 rfl ?_
  refine r_newaG (pc := 31) (k := 11) (n' := 6) (by decide) (by decide) rfl d_Md_init_31 ac_int (by decide) rfl (by decide) (by omega) (by omega) ?_
  rw [(mdS_z hz0 (k := 3) (by decide)).i, (mdS_z hz0 (k := 3) (by decide)).j]
  have p3 : qT (qpush (mdS 3) 11 6) 114 9 := by unfold qT; decide +kernel
  refine p_Md_21 (pc := 33) rfl rfl d_Md_init_33 (p3) ?_
  change qW _ _ _ _ _ _ _ _ _ _ _ _ _ (mdS 4) _ _
  clear p3
  refine lda_n_2_0 (pc := 36) d_Md_init_36 ?_
  refine r_bipush (pc := 37) (v := 6) d_Md_init_37 rfl ?_
  refine r_newaG (pc := 39) (k := 11) (n' := 6) (by decide) (by decide) rfl d_Md_init_39 ac_int (by decide) rfl (by decide) (by omega) (by omega) ?_
  rw [(mdS_z hz0 (k := 4) (by decide)).i, (mdS_z hz0 (k := 4) (by decide)).j]
  have p4 : qT (qpush (mdS 4) 11 6) 114 9 := by unfold qT; decide +kernel
  refine p_Md_24 (pc := 41) rfl rfl d_Md_init_41 (p4) ?_
  change qW _ _ _ _ _ _ _ _ _ _ _ _ _ (mdS 5) _ _
  clear p4
  refine lda_n_2_0 (pc := 44) d_Md_init_44 ?_
  refine r_bipush (pc := 45) (v := 6) d_Md_init_45 rfl ?_
  refine r_newaG (pc := 47) (k := 11) (n' := 6) (by decide) (by decide) rfl d_Md_init_47 ac_int (by decide) rfl (by decide) (by omega) (by omega) ?_
  rw [(mdS_z hz0 (k := 5) (by decide)).i, (mdS_z hz0 (k := 5) (by decide)).j]
  have p5 : qT (qpush (mdS 5) 11 6) 114 9 := by unfold qT; decide +kernel
  refine p_Md_27 (pc := 49) rfl rfl d_Md_init_49 (p5) ?_
  change qW _ _ _ _ _ _ _ _ _ _ _ _ _ (mdS 6) _ _
  clear p5
  refine lda_n_2_0 (pc := 52) d_Md_init_52 ?_
  refine r_bipush (pc := 53) (v := 24) d_Md_init_53 rfl ?_
  refine r_newaG (pc := 55) (k := 11) (n' := 24) (by decide) (by decide) rfl d_Md_init_55 ac_int (by decide) rfl (by decide) (by omega) (by omega) ?_
  rw [(mdS_z hz0 (k := 6) (by decide)).i, (mdS_z hz0 (k := 6) (by decide)).j]
  have p6 : qT (qpush (mdS 6) 11 24) 114 9 := by unfold qT; decide +kernel
  refine p_Md_30 (pc := 57) rfl rfl d_Md_init_57 (p6) ?_
  change qW _ _ _ _ _ _ _ _ _ _ _ _ _ (mdS 7) _ _
  clear p6
  refine lda_n_2_0 (pc := 60) d_Md_init_60 ?_
  refine r_bipush (pc := 61) (v := 6) d_Md_init_61 rfl ?_
  refine r_newaG (pc := 63) (k := 11) (n' := 6) (by decide) (by decide) rfl d_Md_init_63 ac_int (by decide) rfl (by decide) (by omega) (by omega) ?_
  rw [(mdS_z hz0 (k := 7) (by decide)).i, (mdS_z hz0 (k := 7) (by decide)).j]
  have p7 : qT (qpush (mdS 7) 11 6) 114 9 := by unfold qT; decide +kernel
  refine p_Md_33 (pc := 65) rfl rfl d_Md_init_65 (p7) ?_
  change qW _ _ _ _ _ _ _ _ _ _ _ _ _ (mdS 8) _ _
  clear p7
  refine lda_n_2_0 (pc := 68) d_Md_init_68 ?_
  refine r_bipush (pc := 69) (v := 100) d_Md_init_69 rfl ?_
  refine r_newaG (pc := 71) (k := 11) (n' := 100) (by decide) (by decide) rfl d_Md_init_71 ac_int (by decide) rfl (by decide) (by omega) (by omega) ?_
  rw [(mdS_z hz0 (k := 8) (by decide)).i, (mdS_z hz0 (k := 8) (by decide)).j]
  have p8 : qT (qpush (mdS 8) 11 100) 114 9 := by unfold qT; decide +kernel
  refine p_Md_36 (pc := 73) rfl rfl d_Md_init_73 (p8) ?_
  change qW _ _ _ _ _ _ _ _ _ _ _ _ _ (mdS 9) _ _
  clear p8
  refine lda_n_2_0 (pc := 76) d_Md_init_76 ?_
  refine r_bipush (pc := 77) (v := 6) d_Md_init_77 rfl ?_
  refine r_newaG (pc := 79) (k := 11) (n' := 6) (by decide) (by decide) rfl d_Md_init_79 ac_int (by decide) rfl (by decide) (by omega) (by omega) ?_
  rw [(mdS_z hz0 (k := 9) (by decide)).i, (mdS_z hz0 (k := 9) (by decide)).j]
  have p9 : qT (qpush (mdS 9) 11 6) 114 9 := by unfold qT; decide +kernel
  refine p_Md_39 (pc := 81) rfl rfl d_Md_init_81 (p9) ?_
  change qW _ _ _ _ _ _ _ _ _ _ _ _ _ (mdS 10) _ _
  clear p9
  refine lda_n_2_0 (pc := 84) d_Md_init_84 ?_
  refine r_bipush (pc := 85) (v := 61) d_Md_init_85 rfl ?_
  refine r_newaG (pc := 87) (k := 11) (n' := 61) (by decide) (by decide) rfl d_Md_init_87 ac_int (by decide) rfl (by decide) (by omega) (by omega) ?_
  rw [(mdS_z hz0 (k := 10) (by decide)).i, (mdS_z hz0 (k := 10) (by decide)).j]
  have p10 : qT (qpush (mdS 10) 11 61) 114 9 := by unfold qT; decide +kernel
  refine p_Md_42 (pc := 89) rfl rfl d_Md_init_89 (p10) ?_
  change qW _ _ _ _ _ _ _ _ _ _ _ _ _ (mdS 11) _ _
  clear p10
  refine lda_n_2_0 (pc := 92) d_Md_init_92 ?_
  refine r_bipush (pc := 93) (v := 61) d_Md_init_93 rfl ?_
  refine r_newaG (pc := 95) (k := 11) (n' := 61) (by decide) (by decide) rfl d_Md_init_95 ac_int (by decide) rfl (by decide) (by omega) (by omega) ?_
  rw [(mdS_z hz0 (k := 11) (by decide)).i, (mdS_z hz0 (k := 11) (by decide)).j]
  have p11 : qT (qpush (mdS 11) 11 61) 114 9 := by unfold qT; decide +kernel
  refine p_Md_45 (pc := 97) rfl rfl d_Md_init_97 (p11) ?_
  change qW _ _ _ _ _ _ _ _ _ _ _ _ _ (mdS 12) _ _
  clear p11
  refine lda_n_2_0 (pc := 100) d_Md_init_100 ?_
  refine r_bipush (pc := 101) (v := 61) d_Md_init_101 rfl ?_
  refine r_newaG (pc := 103) (k := 11) (n' := 61) (by decide) (by decide) rfl d_Md_init_103 ac_int (by decide) rfl (by decide) (by omega) (by omega) ?_
  rw [(mdS_z hz0 (k := 12) (by decide)).i, (mdS_z hz0 (k := 12) (by decide)).j]
  have p12 : qT (qpush (mdS 12) 11 61) 114 9 := by unfold qT; decide +kernel
  refine p_Md_48 (pc := 105) rfl rfl d_Md_init_105 (p12) ?_
  change qW _ _ _ _ _ _ _ _ _ _ _ _ _ (mdS 13) _ _
  clear p12
  refine lda_n_2_0 (pc := 108) d_Md_init_108 ?_
  refine r_bipush (pc := 109) (v := 61) d_Md_init_109 rfl ?_
  refine r_newaG (pc := 111) (k := 11) (n' := 61) (by decide) (by decide) rfl d_Md_init_111 ac_int (by decide) rfl (by decide) (by omega) (by omega) ?_
  rw [(mdS_z hz0 (k := 13) (by decide)).i, (mdS_z hz0 (k := 13) (by decide)).j]
  have p13 : qT (qpush (mdS 13) 11 61) 114 9 := by unfold qT; decide +kernel
  refine p_Md_51 (pc := 113) rfl rfl d_Md_init_113 (p13) ?_
  change qW _ _ _ _ _ _ _ _ _ _ _ _ _ (mdS 14) _ _
  clear p13
  refine lda_n_2_0 (pc := 116) d_Md_init_116 ?_
  refine r_sipush (pc := 117) (v := 800) d_Md_init_117 rfl ?_
  refine r_newaG (pc := 120) (k := 11) (n' := 800) (by decide) (by decide) rfl d_Md_init_120 ac_int (by decide) rfl (by decide) (by omega) (by omega) ?_
  rw [(mdS_z hz0 (k := 14) (by decide)).i, (mdS_z hz0 (k := 14) (by decide)).j]
  have p14 : qT (qpush (mdS 14) 11 800) 114 9 := by unfold qT; decide +kernel
  refine p_Md_54 (pc := 122) rfl rfl d_Md_init_122 (p14) ?_
  change qW _ _ _ _ _ _ _ _ _ _ _ _ _ (mdS 15) _ _
  clear p14
  refine lda_n_2_0 (pc := 125) d_Md_init_125 ?_
  refine r_bipush (pc := 126) (v := 110) d_Md_init_126 rfl ?_
  refine r_newaG (pc := 128) (k := 13) (n' := 110) (by decide) (by decide) rfl d_Md_init_128 ac_boolean (by decide) rfl (by decide) (by omega) (by omega) ?_
  rw [(mdS_z hz0 (k := 15) (by decide)).i, (mdS_z hz0 (k := 15) (by decide)).j]
  have p15 : qT (qpush (mdS 15) 13 110) 114 9 := by unfold qT; decide +kernel
  refine p_Md_57 (pc := 130) rfl rfl d_Md_init_130 (p15) ?_
  change qW _ _ _ _ _ _ _ _ _ _ _ _ _ (mdS 16) _ _
  clear p15
  refine lda_n_2_0 (pc := 133) d_Md_init_133 ?_
  refine r_iconst (pc := 134) (v := 5) d_Md_init_134 rfl ?_
  refine r_newaG (pc := 135) (k := 11) (n' := 5) (by decide) (by decide) rfl d_Md_init_135 ac_int (by decide) rfl (by decide) (by omega) (by omega) ?_
  rw [(mdS_z hz0 (k := 16) (by decide)).i, (mdS_z hz0 (k := 16) (by decide)).j]
  have p16 : qT (qpush (mdS 16) 11 5) 114 9 := by unfold qT; decide +kernel
  refine p_Md_61 (pc := 137) rfl rfl d_Md_init_137 (p16) ?_
  change qW _ _ _ _ _ _ _ _ _ _ _ _ _ (mdS 17) _ _
  clear p16
  refine lda_n_2_0 (pc := 140) d_Md_init_140 ?_
  refine r_iconst (pc := 141) (v := 5) d_Md_init_141 rfl ?_
  refine r_newaG (pc := 142) (k := 11) (n' := 5) (by decide) (by decide) rfl d_Md_init_142 ac_int (by decide) rfl (by decide) (by omega) (by omega) ?_
  rw [(mdS_z hz0 (k := 17) (by decide)).i, (mdS_z hz0 (k := 17) (by decide)).j]
  have p17 : qT (qpush (mdS 17) 11 5) 114 9 := by unfold qT; decide +kernel
  refine p_Md_64 (pc := 144) rfl rfl d_Md_init_144 (p17) ?_
  change qW _ _ _ _ _ _ _ _ _ _ _ _ _ (mdS 18) _ _
  clear p17
  refine lda_n_2_0 (pc := 147) d_Md_init_147 ?_
  refine r_iconst (pc := 148) (v := 5) d_Md_init_148 rfl ?_
  refine r_newaG (pc := 149) (k := 11) (n' := 5) (by decide) (by decide) rfl d_Md_init_149 ac_int (by decide) rfl (by decide) (by omega) (by omega) ?_
  rw [(mdS_z hz0 (k := 18) (by decide)).i, (mdS_z hz0 (k := 18) (by decide)).j]
  have p18 : qT (qpush (mdS 18) 11 5) 114 9 := by unfold qT; decide +kernel
  refine p_Md_67 (pc := 151) rfl rfl d_Md_init_151 (p18) ?_
  change qW _ _ _ _ _ _ _ _ _ _ _ _ _ (mdS 19) _ _
  clear p18
  refine lda_n_2_0 (pc := 154) d_Md_init_154 ?_
  refine r_bipush (pc := 155) (v := 10) d_Md_init_155 rfl ?_
  refine r_newaG (pc := 157) (k := 11) (n' := 10) (by decide) (by decide) rfl d_Md_init_157 ac_int (by decide) rfl (by decide) (by omega) (by omega) ?_
  rw [(mdS_z hz0 (k := 19) (by decide)).i, (mdS_z hz0 (k := 19) (by decide)).j]
  have p19 : qT (qpush (mdS 19) 11 10) 114 9 := by unfold qT; decide +kernel
  refine p_Md_70 (pc := 159) rfl rfl d_Md_init_159 (p19) ?_
  change qW _ _ _ _ _ _ _ _ _ _ _ _ _ (mdS 20) _ _
  clear p19
  refine lda_n_2_0 (pc := 162) d_Md_init_162 ?_
  refine r_bipush (pc := 163) (v := 10) d_Md_init_163 rfl ?_
  refine r_newaG (pc := 165) (k := 11) (n' := 10) (by decide) (by decide) rfl d_Md_init_165 ac_int (by decide) rfl (by decide) (by omega) (by omega) ?_
  rw [(mdS_z hz0 (k := 20) (by decide)).i, (mdS_z hz0 (k := 20) (by decide)).j]
  have p20 : qT (qpush (mdS 20) 11 10) 114 9 := by unfold qT; decide +kernel
  refine p_Md_73 (pc := 167) rfl rfl d_Md_init_167 (p20) ?_
  change qW _ _ _ _ _ _ _ _ _ _ _ _ _ (mdS 21) _ _
  clear p20
  refine lda_n_2_0 (pc := 170) d_Md_init_170 ?_
  refine r_bipush (pc := 171) (v := 8) d_Md_init_171 rfl ?_
  refine r_newaG (pc := 173) (k := 11) (n' := 8) (by decide) (by decide) rfl d_Md_init_173 ac_int (by decide) rfl (by decide) (by omega) (by omega) ?_
  rw [(mdS_z hz0 (k := 21) (by decide)).i, (mdS_z hz0 (k := 21) (by decide)).j]
  have p21 : qT (qpush (mdS 21) 11 8) 114 9 := by unfold qT; decide +kernel
  refine p_Md_76 (pc := 175) rfl rfl d_Md_init_175 (p21) ?_
  change qW _ _ _ _ _ _ _ _ _ _ _ _ _ (mdS 22) _ _
  clear p21
  refine lda_n_2_0 (pc := 178) d_Md_init_178 ?_
  refine r_bipush (pc := 179) (v := 8) d_Md_init_179 rfl ?_
  refine r_newaG (pc := 181) (k := 11) (n' := 8) (by decide) (by decide) rfl d_Md_init_181 ac_int (by decide) rfl (by decide) (by omega) (by omega) ?_
  rw [(mdS_z hz0 (k := 22) (by decide)).i, (mdS_z hz0 (k := 22) (by decide)).j]
  have p22 : qT (qpush (mdS 22) 11 8) 114 9 := by unfold qT; decide +kernel
  refine p_Md_79 (pc := 183) rfl rfl d_Md_init_183 (p22) ?_
  change qW _ _ _ _ _ _ _ _ _ _ _ _ _ (mdS 23) _ _
  clear p22
  refine lda_n_2_0 (pc := 186) d_Md_init_186 ?_
  refine r_bipush (pc := 187) (v := 20) d_Md_init_187 rfl ?_
  refine r_newaG (pc := 189) (k := 11) (n' := 20) (by decide) (by decide) rfl d_Md_init_189 ac_int (by decide) rfl (by decide) (by omega) (by omega) ?_
  rw [(mdS_z hz0 (k := 23) (by decide)).i, (mdS_z hz0 (k := 23) (by decide)).j]
  have p23 : qT (qpush (mdS 23) 11 20) 114 9 := by unfold qT; decide +kernel
  refine p_Md_82 (pc := 191) rfl rfl d_Md_init_191 (p23) ?_
  change qW _ _ _ _ _ _ _ _ _ _ _ _ _ (mdS 24) _ _
  clear p23
  refine lda_n_2_0 (pc := 194) d_Md_init_194 ?_
  refine r_bipush (pc := 195) (v := 125) d_Md_init_195 rfl ?_
  refine r_newaG (pc := 197) (k := 11) (n' := 125) (by decide) (by decide) rfl d_Md_init_197 ac_int (by decide) rfl (by decide) (by omega) (by omega) ?_
  rw [(mdS_z hz0 (k := 24) (by decide)).i, (mdS_z hz0 (k := 24) (by decide)).j]
  have p24 : qT (qpush (mdS 24) 11 125) 114 9 := by unfold qT; decide +kernel
  refine p_Md_85 (pc := 199) rfl rfl d_Md_init_199 (p24) ?_
  change qW _ _ _ _ _ _ _ _ _ _ _ _ _ (mdS 25) _ _
  clear p24
  refine lda_n_2_0 (pc := 202) d_Md_init_202 ?_
  refine r_bipush (pc := 203) (v := 125) d_Md_init_203 rfl ?_
  refine r_newaG (pc := 205) (k := 11) (n' := 125) (by decide) (by decide) rfl d_Md_init_205 ac_int (by decide) rfl (by decide) (by omega) (by omega) ?_
  rw [(mdS_z hz0 (k := 25) (by decide)).i, (mdS_z hz0 (k := 25) (by decide)).j]
  have p25 : qT (qpush (mdS 25) 11 125) 114 9 := by unfold qT; decide +kernel
  refine p_Md_88 (pc := 207) rfl rfl d_Md_init_207 (p25) ?_
  change qW _ _ _ _ _ _ _ _ _ _ _ _ _ (mdS 26) _ _
  clear p25
  refine lda_n_2_0 (pc := 210) d_Md_init_210 ?_
  refine r_bipush (pc := 211) (v := 36) d_Md_init_211 rfl ?_
  refine r_newaG (pc := 213) (k := 11) (n' := 36) (by decide) (by decide) rfl d_Md_init_213 ac_int (by decide) rfl (by decide) (by omega) (by omega) ?_
  rw [(mdS_z hz0 (k := 26) (by decide)).i, (mdS_z hz0 (k := 26) (by decide)).j]
  have p26 : qT (qpush (mdS 26) 11 36) 114 9 := by unfold qT; decide +kernel
  refine p_Md_91 (pc := 215) rfl rfl d_Md_init_215 (p26) ?_
  change qW _ _ _ _ _ _ _ _ _ _ _ _ _ (mdS 27) _ _
  clear p26
  refine lda_n_2_0 (pc := 218) d_Md_init_218 ?_
  refine r_bipush (pc := 219) (v := 6) d_Md_init_219 rfl ?_
  refine r_newaG (pc := 221) (k := 11) (n' := 6) (by decide) (by decide) rfl d_Md_init_221 ac_int (by decide) rfl (by decide) (by omega) (by omega) ?_
  rw [(mdS_z hz0 (k := 27) (by decide)).i, (mdS_z hz0 (k := 27) (by decide)).j]
  have p27 : qT (qpush (mdS 27) 11 6) 114 9 := by unfold qT; decide +kernel
  refine p_Md_94 (pc := 223) rfl rfl d_Md_init_223 (p27) ?_
  change qW _ _ _ _ _ _ _ _ _ _ _ _ _ (mdS 28) _ _
  clear p27
  refine lda_n_2_0 (pc := 226) d_Md_init_226 ?_
  refine r_bipush (pc := 227) (v := 6) d_Md_init_227 rfl ?_
  refine r_newaG (pc := 229) (k := 11) (n' := 6) (by decide) (by decide) rfl d_Md_init_229 ac_int (by decide) rfl (by decide) (by omega) (by omega) ?_
  rw [(mdS_z hz0 (k := 28) (by decide)).i, (mdS_z hz0 (k := 28) (by decide)).j]
  have p28 : qT (qpush (mdS 28) 11 6) 114 9 := by unfold qT; decide +kernel
  refine p_Md_97 (pc := 231) rfl rfl d_Md_init_231 (p28) ?_
  change qW _ _ _ _ _ _ _ _ _ _ _ _ _ (mdS 29) _ _
  clear p28
  refine lda_n_2_0 (pc := 234) d_Md_init_234 ?_
  refine r_bipush (pc := 235) (v := 6) d_Md_init_235 rfl ?_
  refine r_newaG (pc := 237) (k := 11) (n' := 6) (by decide) (by decide) rfl d_Md_init_237 ac_int (by decide) rfl (by decide) (by omega) (by omega) ?_
  rw [(mdS_z hz0 (k := 29) (by decide)).i, (mdS_z hz0 (k := 29) (by decide)).j]
  have p29 : qT (qpush (mdS 29) 11 6) 114 9 := by unfold qT; decide +kernel
  refine p_Md_100 (pc := 239) rfl rfl d_Md_init_239 (p29) ?_
  change qW _ _ _ _ _ _ _ _ _ _ _ _ _ (mdS 30) _ _
  clear p29
  refine lda_n_2_0 (pc := 242) d_Md_init_242 ?_
  refine r_bipush (pc := 243) (v := 6) d_Md_init_243 rfl ?_
  refine r_newaG (pc := 245) (k := 11) (n' := 6) (by decide) (by decide) rfl d_Md_init_245 ac_int (by decide) rfl (by decide) (by omega) (by omega) ?_
  rw [(mdS_z hz0 (k := 30) (by decide)).i, (mdS_z hz0 (k := 30) (by decide)).j]
  have p30 : qT (qpush (mdS 30) 11 6) 114 9 := by unfold qT; decide +kernel
  refine p_Md_103 (pc := 247) rfl rfl d_Md_init_247 (p30) ?_
  change qW _ _ _ _ _ _ _ _ _ _ _ _ _ (mdS 31) _ _
  clear p30
  refine lda_n_2_0 (pc := 250) d_Md_init_250 ?_
  refine r_bipush (pc := 251) (v := 6) d_Md_init_251 rfl ?_
  refine r_newaG (pc := 253) (k := 11) (n' := 6) (by decide) (by decide) rfl d_Md_init_253 ac_int (by decide) rfl (by decide) (by omega) (by omega) ?_
  rw [(mdS_z hz0 (k := 31) (by decide)).i, (mdS_z hz0 (k := 31) (by decide)).j]
  have p31 : qT (qpush (mdS 31) 11 6) 114 9 := by unfold qT; decide +kernel
  refine p_Md_106 (pc := 255) rfl rfl d_Md_init_255 (p31) ?_
  change qW _ _ _ _ _ _ _ _ _ _ _ _ _ (mdS 32) _ _
  clear p31
  refine lda_n_2_0 (pc := 258) d_Md_init_258 ?_
  refine r_sipush (pc := 259) (v := 360) d_Md_init_259 rfl ?_
  refine r_newaG (pc := 262) (k := 12) (n' := 360) (by decide) (by decide) rfl d_Md_init_262 ac_long (by decide) rfl (by decide) (by omega) (by omega) ?_
  rw [(mdS_z hz0 (k := 32) (by decide)).i, (mdS_z hz0 (k := 32) (by decide)).j]
  have p32 : qT (qpush (mdS 32) 12 360) 114 9 := by unfold qT; decide +kernel
  refine p_Md_109 (pc := 264) rfl rfl d_Md_init_264 (p32) ?_
  change qW _ _ _ _ _ _ _ _ _ _ _ _ _ (mdS 33) _ _
  clear p32
  have t33 : qT (mdS 33) 114 9 := mdS_ok.1
  refine lda_n_2_0 (pc := 267) d_Md_init_267 ?_
  refine r_iconst (pc := 268) (v := (-1)) d_Md_init_268 rfl ?_
  refine p_Md_113 (pc := 269) rfl d_Md_init_269 (by assumption) ?_
  change qW _ _ _ _ _ _ _ _ _ _ _ _ _ _ (mdIl 0) _
  have r33 := mdS_ok.r 30 rfl
  have a33 := mdS_ok.a 30 rfl
  change qR (mdS 33) 114 53 = some 145 at r33
  change qAr (mdS 33) 145 11 6 at a33
  refine r_iconst (pc := 272) (v := 0) d_Md_init_272 rfl ?_
  refine sti_n_2_1 (pc := 273) d_Md_init_273 rfl ?_
  rw [q0]
  have key : ∀ k, k ≤ 6 → qW E y_Md_init b_Md_init none 1 33 2300 (fun v S' I' J' => v = none ∧ S' = mdSh ∧ I' = mdI ∧ zJ = J') 33 2073 274 [some (.ref (qb E + 114)), some (.int (nI k))] [] (mdS 33) (mdIl k) zJ := by
    refine qfor 6 ?_ ?_
    · refine ldi_n_2_1 (pc := 274) d_Md_init_274 ?_
      refine r_bipush (pc := 275) (v := 6) d_Md_init_275 rfl ?_
      refine r_icmp_ge (pc := 277) (tgt := 293) d_Md_init_277 (by decide) (fun c => ?_) (fun c => ?_)
      · exact r_vret d_Md_init_293 rfl (by omega) (by omega) (⟨rfl, rfl, rfl, rfl⟩)
      · exact absurd (show nI 6 ≤ nI 6 from by decide) c
    · intro k hk ih
      refine ldi_n_2_1 (pc := 274) d_Md_init_274 ?_
      refine r_bipush (pc := 275) (v := 6) d_Md_init_275 rfl ?_
      refine r_icmp_ge (pc := 277) (tgt := 293) d_Md_init_277 (by decide) (fun c => ?_) (fun c => ?_)
      · exact absurd (show nI 6 ≤ nI k from c) (nI_ge hk (by omega))
      · refine lda_n_2_0 (pc := 280) d_Md_init_280 ?_
        refine g_Md_103 (pc := 281) rfl d_Md_init_281 (by assumption) (by assumption) ?_
        refine ldi_n_2_1 (pc := 284) d_Md_init_284 ?_
        refine r_iconst (pc := 285) (v := (-1)) d_Md_init_285 rfl ?_
        refine r_iast (pc := 286) d_Md_init_286 (by assumption) (by first | assumption | exact vp_in_nI (by omega) (by omega) | (unfold vp_in; decide)) ?_
        refine inc_2_1 (pc := 287) (w := 1) d_Md_init_287 rfl rfl ?_
        refine r_goto (pc := 290) (tgt := 274) d_Md_init_290 (by decide) ?_
        rw [qcl (by omega), q1]
        exact ih
  exact key 0 (by omega)
end MD5
