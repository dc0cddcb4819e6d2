/-! the fresh object and the fresh reference, as the law finds them -/
theorem qMgJ_row {S : qSh} {x a : Nat} {I : qI} : ∀ n, (∀ k, k < n → a ≠ qN S + 2 * k) → qMgJ S x I n a = I a := by
  intro n
  induction n with
  | zero => intro _; rfl
  | succ n ih =>
    intro h
    rw [qMgJ, qup_row (by rw [qN_mgL]; exact h n (Nat.lt_succ_self n)), ih (fun k hk => h k (Nat.lt_succ_of_lt hk))]
theorem onN2 : qN (qMg5 (qpush onA1 3 0) 6 1) = 21 := by decide +kernel
theorem onN3 : qN (qMg5 (qpush onA2 3 0) 33 1) = 48 := by decide +kernel
theorem onN4 : qN (qMg5 (qpush onA3 3 0) 60 1) = 75 := by decide +kernel
theorem onK_row {a : Nat} : ∀ t, (∀ k, k < t → a ≠ 102 + 2 * k) → onK t a = onI4 a := by
  intro t
  induction t with
  | zero => intro _; rfl
  | succ t ih =>
    intro h
    rw [onK, qup_row (h t (Nat.lt_succ_self t)), ih (fun k hk => h k (Nat.lt_succ_of_lt hk))]
theorem onI_zero {a : Nat} (h1 : ∀ k, k < 6 → a ≠ 102 + 2 * k) (h2 : ∀ k, k < 6 → a ≠ 21 + 2 * k) (h3 : ∀ k, k < 6 → a ≠ 48 + 2 * k) (h4 : ∀ k, k < 6 → a ≠ 75 + 2 * k) : onI a = fun _ => 0 := by
  unfold onI
  rw [onK_row 6 h1]
  unfold onI4 qMgI
  rw [qMgJ_row 6 (by rw [onN4]; exact h4)]
  unfold onI3 qMgI
  rw [qMgJ_row 6 (by rw [onN3]; exact h3)]
  unfold onI2 qMgI
  rw [qMgJ_row 6 (by rw [onN2]; exact h2)]
  rfl
theorem mdIl_row {a : Nat} (h1 : a ≠ 145) (h2 : a ≠ 114) : ∀ t, mdIl t a = onI a := by
  intro t
  induction t with
  | zero => exact qup_row h2
  | succ t ih => rw [mdIl, qup_row h1, ih]
theorem mdI_zero {a j : Nat} (h0 : a ≠ 145) (h9 : a ≠ 114) (h1 : ∀ k, k < 6 → a ≠ 102 + 2 * k) (h2 : ∀ k, k < 6 → a ≠ 21 + 2 * k) (h3 : ∀ k, k < 6 → a ≠ 48 + 2 * k) (h4 : ∀ k, k < 6 → a ≠ 75 + 2 * k) : mdI a j = 0 := by
  unfold mdI
  rw [mdIl_row h0 h9, onI_zero h1 h2 h3 h4]
theorem mdIl_114 {j : Nat} (h : j ≠ 18) : ∀ t, mdIl t 114 j = onI 114 j := by
  intro t
  induction t with
  | zero => exact qup_j h
  | succ t ih => rw [mdIl, qup_o (by decide), ih]
set_option maxRecDepth 20000 in
theorem mdOn_ok : isOn mdSh 1 1 1 89 := by
  unfold isOn isMg isIs isRe isRo isAc isTa isNo isMo qT qAr
  repeat' apply And.intro
  all_goals decide +kernel
set_option maxRecDepth 20000 in
theorem mdC_ok : qFc mdSh mdI := by
  refine ⟨mdOn_ok, fun a j h => mdI_zero (by omega) (by omega) (fun k hk => by omega) (fun k hk => by omega) (fun k hk => by omega) (fun k hk => by omega), fun a j h g => mdI_zero (by omega) (by omega) (fun k hk => by omega) (fun k hk => by omega) (fun k hk => by omega) (fun k hk => by omega), fun a j h g => mdI_zero (by omega) (by omega) (fun k hk => by omega) (fun k hk => by omega) (fun k hk => by omega) (fun k hk => by omega), fun a j h g => mdI_zero (by omega) (by omega) (fun k hk => by omega) (fun k hk => by omega) (fun k hk => by omega) (fun k hk => by omega), ?_, ?_, ?_⟩
  · decide +kernel
  · decide +kernel
  · decide +kernel
set_option maxRecDepth 20000 in
theorem mdD_ok : qFm mdSh mdI := by
  refine ⟨mdS_ok, fun j hj => ?_, ?_, ?_, ?_⟩
  · unfold mdI
    rw [mdIl_114 hj, onI_zero (fun k hk => by omega) (fun k hk => by omega) (fun k hk => by omega) (fun k hk => by omega)]
  · decide +kernel
  · decide +kernel
  · decide +kernel
theorem lt6 : ∀ L, L < 6 → Int32.ofNat L - 6 < 0 := by decide +kernel
section LW4
variable {E : qE}
abbrev Q1 : qPost := fun v _ _ _ => v = some (.int 1)
theorem lw_end (h6 : qsl E = 6) : qEnd E Q1 := by
  intro S I J
  refine inc_4_3 (pc := 1275) (w := 6) d_L_law_1275 rfl rfl ?_
  refine r_goto (pc := 1278) (tgt := 18) d_L_law_1278 (by decide) ?_
  rw [show ((0 : Int32) + 6) = 6 from by decide]
  refine ldi_n_4_3 (pc := 18) d_L_law_18 ?_
  refine lda_n_4_0 (pc := 19) d_L_law_19 ?_
  refine r_slen (pc := 20) d_L_law_20 ?_
  rw [h6]
  refine r_bipush (pc := 21) (v := 6) d_L_law_21 rfl ?_
  refine r_isub (pc := 23) d_L_law_23 ?_
  refine r_icmp_gt (pc := 24) (tgt := 1281) d_L_law_24 (by decide) (fun c => ?_) (fun c => ?_)
  · refine r_iconst (pc := 1281) (v := 1) d_L_law_1281 rfl ?_
    exact r_nret d_L_law_1282 rfl (qbool_n (by first | exact Or.inl rfl | exact Or.inr rfl | assumption | exact qwithin_b | exact qbit_b)) (by omega) (by omega) (rfl)
  · exact absurd (by decide) c
theorem law_walk (hsl : qsl E ≤ 6) : qW E y_L_law b_L_law (some .boolean) 1312 600000 7302250 Q1 0 0 0 [some (.ref (qsc E)), none, none, none] [] onE zI zJ := by
  refine r_newG (pc := 0) (k := 8) (N := 11) (C := "OneMourner") (T := T_On) rfl (by decide) la_On ty_On_ok rfl (by decide +kernel) ck_L_7 ia_On ii_On d_L_law_0 (by omega) (by omega) ?_
  rw [(qZ.zero (S := onE)).i, (qZ.zero (S := onE)).j]
  change qW _ _ _ _ _ _ _ _ _ _ _ _ (.ref (qb E + 0) :: _) onA0 _ _
  have t0 : qT onA0 0 8 := by unfold qT; decide +kernel
  refine r_dup (pc := 3) d_L_law_3 rfl ?_
  refine r_callI (pc := 4) (As := []) k_L_9 im_On_init rfl rfl (by decide) d_L_law_4 (c_On_init) rfl (Nat.le_of_ble_eq_true rfl) (by omega) (by omega) (by omega) (fun v S' I' J' hq => ?_)
  obtain ⟨rfl, rfl, rfl, rfl, hz⟩ := hq
  refine sta_n_4_1 (pc := 7) d_L_law_7 rfl ?_
  refine r_newG (pc := 8) (k := 9) (N := 56) (C := "OneMournerModel") (T := T_Md) rfl (by decide) la_Md ty_Md_ok rfl (by decide +kernel) ck_L_10 ia_Md ii_Md d_L_law_8 (by omega) (by omega) ?_
  rw [hz.i, hz.j, onS_ok.2]
  change qW _ _ _ _ _ _ _ _ _ _ _ _ _ (mdS 0) _ _
  have t1 : qT (mdS 0) 114 9 := by unfold qT; decide +kernel
  refine r_dup (pc := 11) d_L_law_11 rfl ?_
  refine r_callI (pc := 12) (As := []) k_L_12 im_Md_init rfl rfl (by decide) d_L_law_12 (c_Md_init hz) rfl (Nat.le_of_ble_eq_true rfl) (by omega) (by omega) (by omega) (fun v S' I' J' hq => ?_)
  obtain ⟨rfl, rfl, rfl, rfl⟩ := hq
  refine sta_n_4_2 (pc := 15) d_L_law_15 rfl ?_
  refine r_iconst (pc := 16) (v := 0) d_L_law_16 rfl ?_
  refine sti_n_4_3 (pc := 17) d_L_law_17 rfl ?_
  refine ldi_n_4_3 (pc := 18) d_L_law_18 ?_
  refine lda_n_4_0 (pc := 19) d_L_law_19 ?_
  refine r_slen (pc := 20) d_L_law_20 ?_
  refine r_bipush (pc := 21) (v := 6) d_L_law_21 rfl ?_
  refine r_isub (pc := 23) d_L_law_23 ?_
  by_cases h6 : qsl E = 6
  · rw [h6, show Int32.ofNat 6 - 6 = 0 from by decide]
    refine r_icmp_gt (pc := 24) (tgt := 1281) d_L_law_24 (by decide) (fun c => ?_) (fun c => ?_)
    · exact absurd c (by decide)
    · refine lda_n_4_0 (pc := 27) d_L_law_27 ?_
      refine ldi_n_4_3 (pc := 28) d_L_law_28 ?_
      refine r_sld (pc := 29) d_L_law_29 (by rw [h6]; unfold vp_in; decide) ?_
      refine r_bipush (pc := 30) (v := 63) d_L_law_30 rfl ?_
      refine r_iand (pc := 32) d_L_law_32 ?_
      have hk := lw_end h6
      generalize (qsx E (Int32.toNatClampNeg 0) &&& 63) = x
      by_cases e0 : x = 0
      · refine r_tableIn (pc := 33) (off := 151) (tgt := 184) d_L_law_33 (by rw [e0]; decide) (by rw [e0]; decide) (by rw [e0]; decide +kernel) (by decide) ?_
        exact lw_case0 mdC_ok mdD_ok h6 hk
      by_cases e1 : x = 1
      · refine r_tableIn (pc := 33) (off := 194) (tgt := 227) d_L_law_33 (by rw [e1]; decide) (by rw [e1]; decide) (by rw [e1]; decide +kernel) (by decide) ?_
        exact lw_case1 mdC_ok mdD_ok h6 hk
      by_cases e2 : x = 2
      · refine r_tableIn (pc := 33) (off := 227) (tgt := 260) d_L_law_33 (by rw [e2]; decide) (by rw [e2]; decide) (by rw [e2]; decide +kernel) (by decide) ?_
        exact lw_case2 mdC_ok mdD_ok h6 hk
      by_cases e3 : x = 3
      · refine r_tableIn (pc := 33) (off := 270) (tgt := 303) d_L_law_33 (by rw [e3]; decide) (by rw [e3]; decide) (by rw [e3]; decide +kernel) (by decide) ?_
        exact lw_case3 mdC_ok mdD_ok h6 hk
      by_cases e4 : x = 4
      · refine r_tableIn (pc := 33) (off := 319) (tgt := 352) d_L_law_33 (by rw [e4]; decide) (by rw [e4]; decide) (by rw [e4]; decide +kernel) (by decide) ?_
        exact lw_case4 mdC_ok mdD_ok h6 hk
      by_cases e5 : x = 5
      · refine r_tableIn (pc := 33) (off := 342) (tgt := 375) d_L_law_33 (by rw [e5]; decide) (by rw [e5]; decide) (by rw [e5]; decide +kernel) (by decide) ?_
        exact lw_case5 mdC_ok mdD_ok h6 hk
      by_cases e6 : x = 6
      · refine r_tableIn (pc := 33) (off := 375) (tgt := 408) d_L_law_33 (by rw [e6]; decide) (by rw [e6]; decide) (by rw [e6]; decide +kernel) (by decide) ?_
        exact lw_case6 mdC_ok mdD_ok h6 hk
      by_cases e7 : x = 7
      · refine r_tableIn (pc := 33) (off := 418) (tgt := 451) d_L_law_33 (by rw [e7]; decide) (by rw [e7]; decide) (by rw [e7]; decide +kernel) (by decide) ?_
        exact lw_case7 mdC_ok mdD_ok h6 hk
      by_cases e8 : x = 8
      · refine r_tableIn (pc := 33) (off := 441) (tgt := 474) d_L_law_33 (by rw [e8]; decide) (by rw [e8]; decide) (by rw [e8]; decide +kernel) (by decide) ?_
        exact lw_case8 mdC_ok mdD_ok h6 hk
      by_cases e9 : x = 9
      · refine r_tableIn (pc := 33) (off := 454) (tgt := 487) d_L_law_33 (by rw [e9]; decide) (by rw [e9]; decide) (by rw [e9]; decide +kernel) (by decide) ?_
        exact lw_case9 mdC_ok mdD_ok h6 hk
      by_cases e10 : x = 10
      · refine r_tableIn (pc := 33) (off := 477) (tgt := 510) d_L_law_33 (by rw [e10]; decide) (by rw [e10]; decide) (by rw [e10]; decide +kernel) (by decide) ?_
        exact lw_case10 mdC_ok mdD_ok h6 hk
      by_cases e11 : x = 11
      · refine r_tableIn (pc := 33) (off := 500) (tgt := 533) d_L_law_33 (by rw [e11]; decide) (by rw [e11]; decide) (by rw [e11]; decide +kernel) (by decide) ?_
        exact lw_case11 mdC_ok mdD_ok h6 hk
      by_cases e12 : x = 12
      · refine r_tableIn (pc := 33) (off := 533) (tgt := 566) d_L_law_33 (by rw [e12]; decide) (by rw [e12]; decide) (by rw [e12]; decide +kernel) (by decide) ?_
        exact lw_case12 mdC_ok mdD_ok h6 hk
      by_cases e13 : x = 13
      · refine r_tableIn (pc := 33) (off := 556) (tgt := 589) d_L_law_33 (by rw [e13]; decide) (by rw [e13]; decide) (by rw [e13]; decide +kernel) (by decide) ?_
        exact lw_case13 mdC_ok mdD_ok h6 hk
      by_cases e14 : x = 14
      · refine r_tableIn (pc := 33) (off := 569) (tgt := 602) d_L_law_33 (by rw [e14]; decide) (by rw [e14]; decide) (by rw [e14]; decide +kernel) (by decide) ?_
        exact lw_case14 mdC_ok mdD_ok h6 hk
      by_cases e15 : x = 15
      · refine r_tableIn (pc := 33) (off := 602) (tgt := 635) d_L_law_33 (by rw [e15]; decide) (by rw [e15]; decide) (by rw [e15]; decide +kernel) (by decide) ?_
        exact lw_case15 mdC_ok mdD_ok h6 hk
      by_cases e16 : x = 16
      · refine r_tableIn (pc := 33) (off := 645) (tgt := 678) d_L_law_33 (by rw [e16]; decide) (by rw [e16]; decide) (by rw [e16]; decide +kernel) (by decide) ?_
        exact lw_case16 mdC_ok mdD_ok h6 hk
      by_cases e17 : x = 17
      · refine r_tableIn (pc := 33) (off := 688) (tgt := 721) d_L_law_33 (by rw [e17]; decide) (by rw [e17]; decide) (by rw [e17]; decide +kernel) (by decide) ?_
        exact lw_case17 mdC_ok mdD_ok h6 hk
      by_cases e18 : x = 18
      · refine r_tableIn (pc := 33) (off := 722) (tgt := 755) d_L_law_33 (by rw [e18]; decide) (by rw [e18]; decide) (by rw [e18]; decide +kernel) (by decide) ?_
        exact lw_case18 mdC_ok mdD_ok h6 hk
      by_cases e19 : x = 19
      · refine r_tableIn (pc := 33) (off := 746) (tgt := 779) d_L_law_33 (by rw [e19]; decide) (by rw [e19]; decide) (by rw [e19]; decide +kernel) (by decide) ?_
        exact lw_case19 mdC_ok mdD_ok h6 hk
      by_cases e20 : x = 20
      · refine r_tableIn (pc := 33) (off := 779) (tgt := 812) d_L_law_33 (by rw [e20]; decide) (by rw [e20]; decide) (by rw [e20]; decide +kernel) (by decide) ?_
        exact lw_case20 mdC_ok mdD_ok h6 hk
      by_cases e21 : x = 21
      · refine r_tableIn (pc := 33) (off := 802) (tgt := 835) d_L_law_33 (by rw [e21]; decide) (by rw [e21]; decide) (by rw [e21]; decide +kernel) (by decide) ?_
        exact lw_case21 mdC_ok mdD_ok h6 hk
      by_cases e22 : x = 22
      · refine r_tableIn (pc := 33) (off := 835) (tgt := 868) d_L_law_33 (by rw [e22]; decide) (by rw [e22]; decide) (by rw [e22]; decide +kernel) (by decide) ?_
        exact lw_case22 mdC_ok mdD_ok h6 hk
      by_cases e23 : x = 23
      · refine r_tableIn (pc := 33) (off := 848) (tgt := 881) d_L_law_33 (by rw [e23]; decide) (by rw [e23]; decide) (by rw [e23]; decide +kernel) (by decide) ?_
        exact lw_case23 mdC_ok mdD_ok h6 hk
      by_cases e24 : x = 24
      · refine r_tableIn (pc := 33) (off := 881) (tgt := 914) d_L_law_33 (by rw [e24]; decide) (by rw [e24]; decide) (by rw [e24]; decide +kernel) (by decide) ?_
        exact lw_case24 mdC_ok mdD_ok h6 hk
      by_cases e25 : x = 25
      · refine r_tableIn (pc := 33) (off := 894) (tgt := 927) d_L_law_33 (by rw [e25]; decide) (by rw [e25]; decide) (by rw [e25]; decide +kernel) (by decide) ?_
        exact lw_case25 mdC_ok mdD_ok h6 hk
      by_cases e26 : x = 26
      · refine r_tableIn (pc := 33) (off := 907) (tgt := 940) d_L_law_33 (by rw [e26]; decide) (by rw [e26]; decide) (by rw [e26]; decide +kernel) (by decide) ?_
        exact lw_case26 mdC_ok mdD_ok h6 hk
      by_cases e27 : x = 27
      · refine r_tableIn (pc := 33) (off := 950) (tgt := 983) d_L_law_33 (by rw [e27]; decide) (by rw [e27]; decide) (by rw [e27]; decide +kernel) (by decide) ?_
        exact lw_case27 mdC_ok mdD_ok h6 hk
      by_cases e28 : x = 28
      · refine r_tableIn (pc := 33) (off := 973) (tgt := 1006) d_L_law_33 (by rw [e28]; decide) (by rw [e28]; decide) (by rw [e28]; decide +kernel) (by decide) ?_
        exact lw_case28 mdC_ok mdD_ok h6 hk
      by_cases e29 : x = 29
      · refine r_tableIn (pc := 33) (off := 1006) (tgt := 1039) d_L_law_33 (by rw [e29]; decide) (by rw [e29]; decide) (by rw [e29]; decide +kernel) (by decide) ?_
        exact lw_case29 mdC_ok mdD_ok h6 hk
      by_cases e30 : x = 30
      · refine r_tableIn (pc := 33) (off := 1029) (tgt := 1062) d_L_law_33 (by rw [e30]; decide) (by rw [e30]; decide) (by rw [e30]; decide +kernel) (by decide) ?_
        exact lw_case30 mdC_ok mdD_ok h6 hk
      by_cases e31 : x = 31
      · refine r_tableIn (pc := 33) (off := 1072) (tgt := 1105) d_L_law_33 (by rw [e31]; decide) (by rw [e31]; decide) (by rw [e31]; decide +kernel) (by decide) ?_
        exact lw_case31 mdC_ok mdD_ok h6 hk
      by_cases e32 : x = 32
      · refine r_tableIn (pc := 33) (off := 1145) (tgt := 1178) d_L_law_33 (by rw [e32]; decide) (by rw [e32]; decide) (by rw [e32]; decide +kernel) (by decide) ?_
        exact lw_case32 mdC_ok mdD_ok h6 hk
      by_cases e33 : x = 33
      · refine r_tableIn (pc := 33) (off := 1179) (tgt := 1212) d_L_law_33 (by rw [e33]; decide) (by rw [e33]; decide) (by rw [e33]; decide +kernel) (by decide) ?_
        exact lw_case33 mdC_ok mdD_ok h6 hk
      refine r_tableOut (pc := 33) (tgt := 1275) d_L_law_33 (by simp only [← Int32.toInt_inj, Int32.reduceToInt] at e0 e1 e2 e3 e4 e5 e6 e7 e8 e9 e10 e11 e12 e13 e14 e15 e16 e17 e18 e19 e20 e21 e22 e23 e24 e25 e26 e27 e28 e29 e30 e31 e32 e33; omega) (by decide) ?_
      exact hk _ _ _
  · refine r_icmp_gt (pc := 24) (tgt := 1281) d_L_law_24 (by decide) (fun c => ?_) (fun c => ?_)
    · refine r_iconst (pc := 1281) (v := 1) d_L_law_1281 rfl ?_
      exact r_nret d_L_law_1282 rfl (qbool_n (by first | exact Or.inl rfl | exact Or.inr rfl | assumption | exact qwithin_b | exact qbit_b)) (by omega) (by omega) (rfl)
    · exact absurd (lt6 _ (by omega)) c
end LW4

