/-! the object is born: its shapes and its memory, told exactly -/
def zI : qI := fun _ _ => 0
def zJ : qJ := fun _ _ => 0
theorem qZ.zero {S : qSh} : qZ S zI zJ := fun _ _ => ⟨rfl, rfl⟩
def qIsS (S : qSh) (o : Nat) : qSh := qal (qal (qal (qal S o 0 11 100) o 2 11 10) o 3 11 10) o 6 11 6
def qRoS (S : qSh) (o : Nat) : qSh := qal (qal (qal (qal S o 0 11 36) o 1 11 6) o 3 11 6) o 4 11 6
def onE : qSh := (0, fun _ => 0, fun _ => 0, fun _ _ => none)
def onA0 : qSh := qpush onE 8 0
def onA1 : qSh := qsetR (qIsS (qpush onA0 1 0) 1) 0 0 (some 1)
def onA2 : qSh := qsetR (qMgS (qpush onA1 3 0) 6 1) 0 1 (some 6)
def onI2 : qI := qMgI (qpush onA1 3 0) 6 1 zI
def onA3 : qSh := qsetR (qMgS (qpush onA2 3 0) 33 1) 0 2 (some 33)
def onI3 : qI := qMgI (qpush onA2 3 0) 33 1 onI2
def onA4 : qSh := qsetR (qMgS (qpush onA3 3 0) 60 1) 0 3 (some 60)
def onI4 : qI := qMgI (qpush onA3 3 0) 60 1 onI3
def onA5 : qSh := qsetR (qal (qpush onA4 5 0) 87 0 10 100) 0 5 (some 87)
def onA6 : qSh := qsetR (qIsS (qpush onA5 1 0) 89) 0 6 (some 89)
def onA7 : qSh := qsetR (qRoS (qpush onA6 6 0) 94) 0 8 (some 94)
def onA8 : qSh := qsetR (qal (qpush onA7 0 0) 99 0 11 20) 0 9 (some 99)
def onA9 : qSh := qal onA8 0 10 15 6
def onL : Nat → qSh
  | 0 => onA9
  | t + 1 => qsetR (qal (qpush (onL t) 7 0) (102 + 2 * t) 2 12 60) 101 t (some (102 + 2 * t))
def onK : Nat → qI
  | 0 => onI4
  | t + 1 => qup (onK t) (102 + 2 * t) 0 (-1)
def onS : qSh := onL 6
def onI : qI := onK 6
set_option maxRecDepth 4000 in
theorem onS_ok : isOn onS 1 1 1 89 ∧ qN onS = 114 := by
  unfold isOn isMg isIs isRe isRo isAc isTa isNo isMo qT qAr
  repeat' apply And.intro
  all_goals decide +kernel
theorem onL_N : ∀ t, t < 7 → qN (onL t) = 102 + 2 * t := by decide +kernel
theorem onL_ok : ∀ t, t < 7 → qT (onL t) 0 8 ∧ qR (onL t) 0 10 = some 101 ∧ qAr (onL t) 101 15 6 := by unfold qT qAr; decide +kernel
theorem onL_ok2 : ∀ t, t < 6 → qAr (qal (qpush (onL t) 7 0) (102 + 2 * t) 2 12 60) 101 15 6 ∧ qT (qal (qpush (onL t) 7 0) (102 + 2 * t) 2 12 60) (102 + 2 * t) 7 := by unfold qT qAr; decide +kernel
section ON2
variable {E : qE}
set_option maxRecDepth 10000 in
theorem c_On_init : qMet E y_On_init b_On_init 2 none 3 113 1400 [.ref (qb E + 0)] onA0 zI zJ (fun v S' I' J' => v = none ∧ S' = onS ∧ I' = onI ∧ zJ = J' ∧ qZ S' I' zJ) := by
  refine qMet.of (L := [some (.ref (qb E + 0)), none]) (by decide +kernel) (Nat.le_of_ble_eq_true rfl) rfl ?_
  have t0 : qT onA0 0 8 := by unfold qT; decide +kernel
  have z0 : qZ onA0 zI zJ := qZ.zero
  refine lda_n_2_0 (pc := 0) d_On_init_0 ?_
  refine r_objInit (pc := 1) ml_On_3 im_objInit cw_objInit d_On_init_1 (by omega) (Nat.le_of_ble_eq_true rfl) ?_
  refine lda_n_2_0 (pc := 4) d_On_init_4 ?_
  refine r_newG (pc := 5) (k := 1) (N := 7) (C := "OneMourner$Island") (T := T_Is) rfl (by decide) la_Is ty_Is_ok rfl (by decide +kernel) ck_On_9 ia_Is ii_Is d_On_init_5 (by omega) (by omega) ?_
  refine r_dup (pc := 8) d_On_init_8 rfl ?_
  rw [z0.i, z0.j]
  change qW _ _ _ _ _ _ _ _ _ _ _ _ (.ref (qb E + 1) :: .ref (qb E + 1) :: _) _ _ _
  have t1 : qT (qpush onA0 1 0) 1 1 := by unfold qT; decide +kernel
  refine r_callIN (pc := 9) (As := []) k_On_11 im_Is_init rfl rfl (by decide) d_On_init_9 (c_Is_init t1 qZ.zero) rfl (Nat.le_of_ble_eq_true rfl) (by omega) (by omega) (by omega) (fun v S' I' J' hq => ?_)
  obtain ⟨rfl, rfl, rfl, rfl⟩ := hq
  have t2 : qT (qIsS (qpush onA0 1 0) 1) 0 8 := by unfold qT; decide +kernel
  change qW _ _ _ _ _ _ _ _ _ _ _ _ _ (qIsS (qpush onA0 1 0) 1) _ _
  refine p_On_12 (pc := 12) rfl rfl d_On_init_12 (by assumption) ?_
  change qW _ _ _ _ _ _ _ _ _ _ _ _ _ onA1 _ _
  have t3 : qT onA1 0 8 := by unfold qT; decide +kernel
  have z1 : qZ onA1 zI zJ := qZ.zero
  have t4 : qT (qpush onA1 3 0) 0 8 := by unfold qT; decide +kernel
  have t5 : qR (qpush onA1 3 0) 0 0 = some 1 := by decide +kernel
  refine lda_n_2_0 (pc := 15) d_On_init_15 ?_
  refine r_newG (pc := 16) (k := 3) (N := 9) (C := "OneMourner$Mourning") (T := T_Mg) rfl (by decide) la_Mg ty_Mg_ok rfl (by decide +kernel) ck_On_18 ia_Mg ii_Mg d_On_init_16 (by omega) (by omega) ?_
  refine r_dup (pc := 19) d_On_init_19 rfl ?_
  rw [z1.i, z1.j]
  change qW _ _ _ _ _ _ _ _ _ _ _ _ (.ref (qb E + 6) :: .ref (qb E + 6) :: _) _ _ _
  refine lda_n_2_0 (pc := 20) d_On_init_20 ?_
  refine g_On_12 (pc := 21) rfl d_On_init_21 (by assumption) (by assumption) ?_
  have t6 : qT (qpush onA1 3 0) 6 3 := by unfold qT; decide +kernel
  refine r_callIN (pc := 24) (As := [.ref (qb E + 1)]) k_On_20 im_Mg_init rfl rfl (by decide) d_On_init_24 (c_Mg_init t6 qZ.zero) rfl (Nat.le_of_ble_eq_true rfl) (by omega) (by omega) (by omega) (fun v S' I' J' hq => ?_)
  obtain ⟨rfl, rfl, rfl, rfl, z2⟩ := hq
  have t7 : qT (qMgS (qpush onA1 3 0) 6 1) 0 8 := by unfold qT; decide +kernel
  refine p_On_23 (pc := 27) rfl rfl d_On_init_27 (by assumption) ?_
  change qW _ _ _ _ _ _ _ _ _ _ _ _ _ onA2 onI2 _
  change qZ onA2 onI2 zJ at z2
  have t8 : qT onA2 0 8 := by unfold qT; decide +kernel
  have t9 : qT (qpush onA2 3 0) 0 8 := by unfold qT; decide +kernel
  have t10 : qR (qpush onA2 3 0) 0 0 = some 1 := by decide +kernel
  refine lda_n_2_0 (pc := 30) d_On_init_30 ?_
  refine r_newG (pc := 31) (k := 3) (N := 9) (C := "OneMourner$Mourning") (T := T_Mg) rfl (by decide) la_Mg ty_Mg_ok rfl (by decide +kernel) ck_On_18 ia_Mg ii_Mg d_On_init_31 (by omega) (by omega) ?_
  refine r_dup (pc := 34) d_On_init_34 rfl ?_
  rw [z2.i, z2.j]
  change qW _ _ _ _ _ _ _ _ _ _ _ _ (.ref (qb E + 33) :: .ref (qb E + 33) :: _) _ _ _
  refine lda_n_2_0 (pc := 35) d_On_init_35 ?_
  refine g_On_12 (pc := 36) rfl d_On_init_36 (by assumption) (by assumption) ?_
  have t11 : qT (qpush onA2 3 0) 33 3 := by unfold qT; decide +kernel
  refine r_callIN (pc := 39) (As := [.ref (qb E + 1)]) k_On_20 im_Mg_init rfl rfl (by decide) d_On_init_39 (c_Mg_init t11 z2.push) rfl (Nat.le_of_ble_eq_true rfl) (by omega) (by omega) (by omega) (fun v S' I' J' hq => ?_)
  obtain ⟨rfl, rfl, rfl, rfl, z3⟩ := hq
  have t12 : qT (qMgS (qpush onA2 3 0) 33 1) 0 8 := by unfold qT; decide +kernel
  refine p_On_27 (pc := 42) rfl rfl d_On_init_42 (by assumption) ?_
  change qW _ _ _ _ _ _ _ _ _ _ _ _ _ onA3 onI3 _
  change qZ onA3 onI3 zJ at z3
  have t13 : qT onA3 0 8 := by unfold qT; decide +kernel
  have t14 : qT (qpush onA3 3 0) 0 8 := by unfold qT; decide +kernel
  have t15 : qR (qpush onA3 3 0) 0 0 = some 1 := by decide +kernel
  refine lda_n_2_0 (pc := 45) d_On_init_45 ?_
  refine r_newG (pc := 46) (k := 3) (N := 9) (C := "OneMourner$Mourning") (T := T_Mg) rfl (by decide) la_Mg ty_Mg_ok rfl (by decide +kernel) ck_On_18 ia_Mg ii_Mg d_On_init_46 (by omega) (by omega) ?_
  refine r_dup (pc := 49) d_On_init_49 rfl ?_
  rw [z3.i, z3.j]
  change qW _ _ _ _ _ _ _ _ _ _ _ _ (.ref (qb E + 60) :: .ref (qb E + 60) :: _) _ _ _
  refine lda_n_2_0 (pc := 50) d_On_init_50 ?_
  refine g_On_12 (pc := 51) rfl d_On_init_51 (by assumption) (by assumption) ?_
  have t16 : qT (qpush onA3 3 0) 60 3 := by unfold qT; decide +kernel
  refine r_callIN (pc := 54) (As := [.ref (qb E + 1)]) k_On_20 im_Mg_init rfl rfl (by decide) d_On_init_54 (c_Mg_init t16 z3.push) rfl (Nat.le_of_ble_eq_true rfl) (by omega) (by omega) (by omega) (fun v S' I' J' hq => ?_)
  obtain ⟨rfl, rfl, rfl, rfl, z4⟩ := hq
  have t17 : qT (qMgS (qpush onA3 3 0) 60 1) 0 8 := by unfold qT; decide +kernel
  refine p_On_30 (pc := 57) rfl rfl d_On_init_57 (by assumption) ?_
  change qW _ _ _ _ _ _ _ _ _ _ _ _ _ onA4 onI4 _
  change qZ onA4 onI4 zJ at z4
  have t18 : qT onA4 0 8 := by unfold qT; decide +kernel
  refine lda_n_2_0 (pc := 60) d_On_init_60 ?_
  refine r_newG (pc := 61) (k := 5) (N := 4) (C := "OneMourner$Reader") (T := T_Re) rfl (by decide) la_Re ty_Re_ok rfl (by decide +kernel) ck_On_33 ia_Re ii_Re d_On_init_61 (by omega) (by omega) ?_
  refine r_dup (pc := 64) d_On_init_64 rfl ?_
  rw [z4.i, z4.j]
  change qW _ _ _ _ _ _ _ _ _ _ _ _ (.ref (qb E + 87) :: .ref (qb E + 87) :: _) _ _ _
  have t19 : qT (qpush onA4 5 0) 87 5 := by unfold qT; decide +kernel
  refine r_callIN (pc := 65) (As := []) k_On_35 im_Re_init rfl rfl (by decide) d_On_init_65 (c_Re_init t19 z4.push) rfl (Nat.le_of_ble_eq_true rfl) (by omega) (by omega) (by omega) (fun v S' I' J' hq => ?_)
  obtain ⟨rfl, rfl, rfl, rfl⟩ := hq
  have t20 : qT (qal (qpush onA4 5 0) 87 0 10 100) 0 8 := by unfold qT; decide +kernel
  refine p_On_36 (pc := 68) rfl rfl d_On_init_68 (by assumption) ?_
  change qW _ _ _ _ _ _ _ _ _ _ _ _ _ onA5 _ _
  have z5 : qZ onA5 onI4 zJ := z4.push (k := 5) (n := 0) |>.push (k := 10) (n := 100)
  have t21 : qT onA5 0 8 := by unfold qT; decide +kernel
  refine lda_n_2_0 (pc := 71) d_On_init_71 ?_
  refine r_newG (pc := 72) (k := 1) (N := 7) (C := "OneMourner$Island") (T := T_Is) rfl (by decide) la_Is ty_Is_ok rfl (by decide +kernel) ck_On_9 ia_Is ii_Is d_On_init_72 (by omega) (by omega) ?_
  refine r_dup (pc := 75) d_On_init_75 rfl ?_
  rw [z5.i, z5.j]
  change qW _ _ _ _ _ _ _ _ _ _ _ _ (.ref (qb E + 89) :: .ref (qb E + 89) :: _) _ _ _
  have t22 : qT (qpush onA5 1 0) 89 1 := by unfold qT; decide +kernel
  refine r_callIN (pc := 76) (As := []) k_On_11 im_Is_init rfl rfl (by decide) d_On_init_76 (c_Is_init t22 z5.push) rfl (Nat.le_of_ble_eq_true rfl) (by omega) (by omega) (by omega) (fun v S' I' J' hq => ?_)
  obtain ⟨rfl, rfl, rfl, rfl⟩ := hq
  have t23 : qT (qIsS (qpush onA5 1 0) 89) 0 8 := by unfold qT; decide +kernel
  change qW _ _ _ _ _ _ _ _ _ _ _ _ _ (qIsS (qpush onA5 1 0) 89) _ _
  refine p_On_40 (pc := 79) rfl d_On_init_79 (by assumption) ?_
  change qW _ _ _ _ _ _ _ _ _ _ _ _ _ onA6 _ _
  have z6 : qZ onA6 onI4 zJ := fun a ha => z5 a (by have e1 : qN onA6 = 94 := (by decide +kernel); have e2 : qN onA5 = 89 := (by decide +kernel); omega)
  have t24 : qT onA6 0 8 := by unfold qT; decide +kernel
  refine lda_n_2_0 (pc := 82) d_On_init_82 ?_
  refine r_newG (pc := 83) (k := 6) (N := 10) (C := "OneMourner$Rows") (T := T_Ro) rfl (by decide) la_Ro ty_Ro_ok rfl (by decide +kernel) ck_On_43 ia_Ro ii_Ro d_On_init_83 (by omega) (by omega) ?_
  refine r_dup (pc := 86) d_On_init_86 rfl ?_
  rw [z6.i, z6.j]
  change qW _ _ _ _ _ _ _ _ _ _ _ _ (.ref (qb E + 94) :: .ref (qb E + 94) :: _) _ _ _
  have t25 : qT (qpush onA6 6 0) 94 6 := by unfold qT; decide +kernel
  refine r_callIN (pc := 87) (As := []) k_On_45 im_Ro_init rfl rfl (by decide) d_On_init_87 (c_Ro_init t25 z6.push) rfl (Nat.le_of_ble_eq_true rfl) (by omega) (by omega) (by omega) (fun v S' I' J' hq => ?_)
  obtain ⟨rfl, rfl, rfl, rfl⟩ := hq
  have t26 : qT (qRoS (qpush onA6 6 0) 94) 0 8 := by unfold qT; decide +kernel
  change qW _ _ _ _ _ _ _ _ _ _ _ _ _ (qRoS (qpush onA6 6 0) 94) _ _
  refine p_On_46 (pc := 90) rfl rfl d_On_init_90 (by assumption) ?_
  change qW _ _ _ _ _ _ _ _ _ _ _ _ _ onA7 _ _
  have z7 : qZ onA7 onI4 zJ := fun a ha => z6 a (by have e1 : qN onA7 = 99 := (by decide +kernel); have e2 : qN onA6 = 94 := (by decide +kernel); omega)
  have t27 : qT onA7 0 8 := by unfold qT; decide +kernel
  refine lda_n_2_0 (pc := 93) d_On_init_93 ?_
  refine r_newG (pc := 94) (k := 0) (N := 2) (C := "OneMourner$Acts") (T := T_Ac) rfl (by decide) la_Ac ty_Ac_ok rfl (by decide +kernel) ck_On_50 ia_Ac ii_Ac d_On_init_94 (by omega) (by omega) ?_
  refine r_dup (pc := 97) d_On_init_97 rfl ?_
  rw [z7.i, z7.j]
  change qW _ _ _ _ _ _ _ _ _ _ _ _ (.ref (qb E + 99) :: .ref (qb E + 99) :: _) _ _ _
  have t28 : qT (qpush onA7 0 0) 99 0 := by unfold qT; decide +kernel
  refine r_callIN (pc := 98) (As := []) k_On_52 im_Ac_init rfl rfl (by decide) d_On_init_98 (c_Ac_init t28 z7.push) rfl (Nat.le_of_ble_eq_true rfl) (by omega) (by omega) (by omega) (fun v S' I' J' hq => ?_)
  obtain ⟨rfl, rfl, rfl, rfl⟩ := hq
  have t29 : qT (qal (qpush onA7 0 0) 99 0 11 20) 0 8 := by unfold qT; decide +kernel
  refine p_On_53 (pc := 101) rfl rfl d_On_init_101 (by assumption) ?_
  change qW _ _ _ _ _ _ _ _ _ _ _ _ _ onA8 _ _
  have z8 : qZ onA8 onI4 zJ := fun a ha => z7 a (by have e1 : qN onA8 = 101 := (by decide +kernel); have e2 : qN onA7 = 99 := (by decide +kernel); omega)
  have t30 : qT onA8 0 8 := by unfold qT; decide +kernel
  refine lda_n_2_0 (pc := 104) d_On_init_104 ?_
  refine r_bipush (pc := 105) (v := 6) d_On_init_105 rfl ?_
  refine r_anewG (pc := 107) (k := 15) (n' := 6) (Or.inr rfl) rfl (fun s K => K.2.2.2.2.2.2.2.1.2) d_On_init_107 ck_On_57 (by decide) rfl (by decide) (by omega) (by omega) ?_
  rw [z8.i, z8.j]
  change qW _ _ _ _ _ _ _ _ _ _ _ _ (.ref (qb E + 101) :: _) _ _ _
  have t31 : qT (qpush onA8 15 6) 0 8 := by unfold qT; decide +kernel
  refine p_On_59 (pc := 110) rfl rfl d_On_init_110 (by assumption) ?_
  change qW _ _ _ _ _ _ _ _ _ _ _ _ _ onA9 _ _
  have z9 : ∀ t, t < 7 → qZ (onL t) (onK t) zJ := by
    intro t
    induction t with
    | zero => exact fun _ a ha => z8 a (by have e1 : qN (onL 0) = 102 := (by decide +kernel); have e2 : qN onA8 = 101 := (by decide +kernel); omega)
    | succ t ih =>
      intro ht
      have h2 : qZ (onL (t + 1)) (onK t) zJ := (ih (by omega)).push (k := 7) (n := 0) |>.push (k := 12) (n := 60)
      exact h2.up (by rw [onL_N _ ht]; omega)
  refine r_iconst (pc := 113) (v := 0) d_On_init_113 rfl ?_
  refine sti_n_2_1 (pc := 114) d_On_init_114 rfl ?_
  rw [q0]
  have key : ∀ t, t ≤ 6 → qW E y_On_init b_On_init none 3 113 1400 (fun v S' I' J' => v = none ∧ S' = onS ∧ I' = onI ∧ zJ = J' ∧ qZ S' I' zJ) (101 + 2 * t) (984 + 63 * t) 115 [some (.ref (qb E + 0)), some (.int (nI t))] [] (onL t) (onK t) zJ := by
    refine qfor 6 ?_ ?_
    · refine ldi_n_2_1 (pc := 115) d_On_init_115 ?_
      refine r_bipush (pc := 116) (v := 6) d_On_init_116 rfl ?_
      refine r_icmp_ge (pc := 118) (tgt := 140) d_On_init_118 (by decide) (fun c => ?_) (fun c => ?_)
      · exact r_vret d_On_init_140 rfl (by omega) (by omega) (⟨rfl, rfl, rfl, rfl, z9 6 (by omega)⟩)
      · exact absurd (show nI 6 ≤ nI 6 from by decide) c
    · intro t ht ih
      obtain ⟨u1, u2, u3⟩ := onL_ok t (by omega)
      obtain ⟨u4, u5⟩ := onL_ok2 t ht
      have u6 := z9 t (by omega)
      have u7 : qT (qpush (onL t) 7 0) (102 + 2 * t) 7 := by have := qT.new (S := onL t) (k := 7) (n := 0); rwa [onL_N t (by omega)] at this
      refine ldi_n_2_1 (pc := 115) d_On_init_115 ?_
      refine r_bipush (pc := 116) (v := 6) d_On_init_116 rfl ?_
      refine r_icmp_ge (pc := 118) (tgt := 140) d_On_init_118 (by decide) (fun c => ?_) (fun c => ?_)
      · exact absurd (show nI 6 ≤ nI t from c) (nI_ge ht (by omega))
      · refine lda_n_2_0 (pc := 121) d_On_init_121 ?_
        refine g_On_59 (pc := 122) rfl d_On_init_122 (by assumption) (by assumption) ?_
        refine ldi_n_2_1 (pc := 125) d_On_init_125 ?_
        refine r_newG (pc := 126) (k := 7) (N := 3) (C := "OneMourner$Tape") (T := T_Ta) rfl (by decide) la_Ta ty_Ta_ok rfl (by decide +kernel) ck_On_57 ia_Ta ii_Ta d_On_init_126 (by omega) (by omega) ?_
        refine r_dup (pc := 129) d_On_init_129 rfl ?_
        rw [u6.i, u6.j, onL_N t (by omega)]
        refine r_callIN (pc := 130) (As := []) k_On_63 im_Ta_init rfl rfl (by decide) d_On_init_130 (c_Ta_init u7 u6.push) rfl (Nat.le_of_ble_eq_true rfl) (by omega) (by omega) (by omega) (fun v S' I' J' hq => ?_)
        obtain ⟨rfl, rfl, rfl, rfl⟩ := hq
        have hin : vp_in (nI t) 6 := vp_in_nI ht (by omega)
        refine r_aastG (pc := 133) (k := 15) (k2 := 7) (Or.inr rfl) rfl rfl (by decide) d_On_init_133 (by assumption) (by assumption) (by first | assumption | exact vp_in_nI (by omega) (by omega) | (unfold vp_in; decide)) ?_
        refine inc_2_1 (pc := 134) (w := 1) d_On_init_134 rfl rfl ?_
        refine r_goto (pc := 137) (tgt := 115) d_On_init_137 (by decide) ?_
        rw [qcl (by omega), q1]
        exact ih
  exact key 0 (by omega)
end ON2
