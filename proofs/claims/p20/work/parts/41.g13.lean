section G13
variable {E : qE} {S : qSh} {J : qJ}
/-- waits at the top; kd the one's own kind -/
theorem c_Md_waits0 {I : qI} {t p kd : Nat} {x v : Int32} (hM : isMd S) (ht : I 114 37 = nI t) (hb : t + 80 < 2 ^ 31) (hkd : kd < 7) (hp : p < 6) (hv : I 116 p = v) (hk : I 115 p = nI kd) : qMet E y_Md_waits b_Md_waits 5 (some .int) 4 0 0 [.ref (qb E + 114), .int (nI p), .int (nI 0), .int x] S I J (qTr S I J (mK0 (nI p) v kd x)) := by
  have hT := hM.1
  have f1 := hM.r 0 rfl
  have g1 := hM.a 0 rfl
  have f2 := hM.r 1 rfl
  have g2 := hM.a 1 rfl
  have ep : (nI p).toNatClampNeg = p := qcl (by omega)
  have hin : vp_in (nI p) 6 := vp_in_nI hp (by omega)
  refine qMet.of (L := [some (.ref (qb E + 114)), some (.int (nI p)), some (.int (nI 0)), some (.int x), none]) (by decide +kernel) (Nat.le_of_ble_eq_true rfl) rfl ?_
  refine ldi_n_5_2 (pc := 0) d_Md_waits_0 ?_
  refine r_tableIn (pc := 1) (off := 102) (tgt := 103) d_Md_waits_1 (by decide) (by decide) (by decide +kernel) (by decide) ?_
  refine lda_n_5_0 (pc := 103) d_Md_waits_103 ?_
  refine r_bipush (pc := 104) (v := 11) d_Md_waits_104 rfl ?_
  refine r_callV (pc := 106) (As := [.int 11]) (k := 9) (N := 56) (T := T_Md) k_Md_345 im_Md_ran se_Md_ran rfl (by decide) rfl (by decide) d_Md_waits_106 hT (c_Md_ran hM ht (by omega)) rfl (Nat.le_of_ble_eq_true rfl) (by omega) (by omega) (by omega) (fun v S' I' J' hq => ?_)
  obtain ⟨rfl, rfl, rfl, rfl⟩ := hq
  refine lda_n_5_0 (pc := 109) d_Md_waits_109 ?_
  refine ldi_n_5_1 (pc := 110) d_Md_waits_110 ?_
  refine lda_n_5_0 (pc := 111) d_Md_waits_111 ?_
  refine g_Md_9 (pc := 112) rfl d_Md_waits_112 (by assumption) (by assumption) ?_
  refine ldi_n_5_1 (pc := 115) d_Md_waits_115 ?_
  refine r_iald (pc := 116) d_Md_waits_116 (by assumption) (by first | assumption | exact vp_in_nI (by omega) (by omega) | (unfold vp_in; decide)) ?_
  rw [ep, mbegin_row (by decide) (by decide), hk]
  refine ldi_n_5_3 (pc := 117) d_Md_waits_117 ?_
  refine r_callV (pc := 118) (As := [.int (nI p), .int (nI kd), .int x]) (k := 9) (N := 56) (T := T_Md) k_Md_349 im_Md_weeps se_Md_weeps rfl (by decide) rfl (by decide) d_Md_waits_118 hT (c_Md_weeps (v := v) hM (mbegin_n ht) (by omega) hkd hp (by rw [mbegin_row (by decide) (by decide)]; exact hv)) rfl (Nat.le_of_ble_eq_true rfl) (by omega) (by omega) (by omega) (fun v S' I' J' hq => ?_)
  obtain ⟨rfl, rfl, rfl, rfl⟩ := hq
  refine lda_n_5_0 (pc := 121) d_Md_waits_121 ?_
  refine g_Md_15 (pc := 122) rfl d_Md_waits_122 (by assumption) (by assumption) ?_
  refine ldi_n_5_1 (pc := 125) d_Md_waits_125 ?_
  refine r_iald (pc := 126) d_Md_waits_126 (by assumption) (by first | assumption | exact vp_in_nI (by omega) (by omega) | (unfold vp_in; decide)) ?_
  rw [ep, mtrace_row (by decide) (by decide), mbegin_row (by decide) (by decide), hv]
  refine r_isub (pc := 127) d_Md_waits_127 ?_
  exact r_iret d_Md_waits_128 rfl (by omega) (by omega) (⟨rfl, rfl, rfl, rfl⟩)
theorem c_Md_waitsU {I : qI} {t p kd k : Nat} {x v : Int32} (hM : isMd S) (ht : I 114 37 = nI t) (hb : t + 80 < 2 ^ 31) (hkd : kd < 7) (hp : p < 6) (hv : I 116 p = v) (hk : I 115 p = nI kd) (hk2 : k = 2 ∨ k = 3) : qMet E y_Md_waits b_Md_waits 5 (some .int) 5 0 0 [.ref (qb E + 114), .int (nI p), .int (nI k), .int x] S I J (qTr S I J (mK0 (nI p) v kd x)) := by
  have hT := hM.1
  refine qMet.of (L := [some (.ref (qb E + 114)), some (.int (nI p)), some (.int (nI k)), some (.int x), none]) (by decide +kernel) (Nat.le_of_ble_eq_true rfl) rfl ?_
  have rest : qW E y_Md_waits b_Md_waits (some .int) 5 0 0 (qTr S I J (mK0 (nI p) v kd x)) 0 0 129 [some (.ref (qb E + 114)), some (.int (nI p)), some (.int (nI k)), some (.int x), none] [] S I J := by
    refine lda_n_5_0 (pc := 129) d_Md_waits_129 ?_
    refine ldi_n_5_1 (pc := 130) d_Md_waits_130 ?_
    refine ldi_n_5_2 (pc := 131) d_Md_waits_131 ?_
    refine r_callS (pc := 132) (As := [.int (nI k)]) k_Md_352 sw_Md_above rfl (by decide) d_Md_waits_132 (c_Md_above (by omega)) rfl (Nat.le_of_ble_eq_true rfl) (by omega) (by omega) (by omega) (fun v S' I' J' hq => ?_)
    obtain ⟨rfl, rfl, rfl, rfl⟩ := hq
    rw [if_neg (by omega), if_neg (by omega), if_neg (by omega)]
    refine ldi_n_5_3 (pc := 135) d_Md_waits_135 ?_
    refine r_callV (pc := 136) (As := [.int (nI p), .int (nI 0), .int x]) (k := 9) (N := 56) (T := T_Md) k_Md_355 im_Md_waits se_Md_waits rfl (by decide) rfl (by decide) d_Md_waits_136 hT (c_Md_waits0 hM ht hb hkd hp hv hk) rfl (Nat.le_of_ble_eq_true rfl) (by omega) (by omega) (by omega) (fun v S' I' J' hq => ?_)
    obtain ⟨rfl, rfl, rfl, rfl⟩ := hq
    exact r_iret d_Md_waits_139 rfl (by omega) (by omega) (⟨rfl, rfl, rfl, rfl⟩)
  refine ldi_n_5_2 (pc := 0) d_Md_waits_0 ?_
  rcases hk2 with rfl | rfl
  · refine r_tableIn (pc := 1) (off := 128) (tgt := 129) d_Md_waits_1 (by decide) (by decide) (by decide +kernel) (by decide) ?_
    exact rest
  · refine r_tableIn (pc := 1) (off := 128) (tgt := 129) d_Md_waits_1 (by decide) (by decide) (by decide +kernel) (by decide) ?_
    exact rest
theorem c_Md_waits1 {I : qI} {t p kd : Nat} {x v : Int32} (hM : isMd S) (ht : I 114 37 = nI t) (hb : t + 90 < 2 ^ 31) (hkd : kd < 7) (hp : p < 6) (hv : I 116 p = v) (hk : I 115 p = nI kd) : qMet E y_Md_waits b_Md_waits 5 (some .int) 5 0 0 [.ref (qb E + 114), .int (nI p), .int (nI 1), .int x] S I J (qTr S I J ((mK0 (nI p) v kd x).1 ^^^ 6, 20 :: (mK0 (nI p) v kd x).2)) := by
  have hT := hM.1
  refine qMet.of (L := [some (.ref (qb E + 114)), some (.int (nI p)), some (.int (nI 1)), some (.int x), none]) (by decide +kernel) (Nat.le_of_ble_eq_true rfl) rfl ?_
  refine ldi_n_5_2 (pc := 0) d_Md_waits_0 ?_
  refine r_tableIn (pc := 1) (off := 43) (tgt := 44) d_Md_waits_1 (by decide) (by decide) (by decide +kernel) (by decide) ?_
  refine lda_n_5_0 (pc := 44) d_Md_waits_44 ?_
  refine r_bipush (pc := 45) (v := 20) d_Md_waits_45 rfl ?_
  refine r_callV (pc := 47) (As := [.int 20]) (k := 9) (N := 56) (T := T_Md) k_Md_345 im_Md_ran se_Md_ran rfl (by decide) rfl (by decide) d_Md_waits_47 hT (c_Md_ran hM ht (by omega)) rfl (Nat.le_of_ble_eq_true rfl) (by omega) (by omega) (by omega) (fun v S' I' J' hq => ?_)
  obtain ⟨rfl, rfl, rfl, rfl⟩ := hq
  refine lda_n_5_0 (pc := 50) d_Md_waits_50 ?_
  refine ldi_n_5_1 (pc := 51) d_Md_waits_51 ?_
  refine r_iconst (pc := 52) (v := 0) d_Md_waits_52 rfl ?_
  refine ldi_n_5_3 (pc := 53) d_Md_waits_53 ?_
  rw [q0]
  refine r_callV (pc := 54) (As := [.int (nI p), .int (nI 0), .int x]) (k := 9) (N := 56) (T := T_Md) k_Md_355 im_Md_waits se_Md_waits rfl (by decide) rfl (by decide) d_Md_waits_54 hT (c_Md_waits0 (v := v) (kd := kd) hM (mbegin_n ht) (by omega) hkd hp (by rw [mbegin_row (by decide) (by decide)]; exact hv) (by rw [mbegin_row (by decide) (by decide)]; exact hk)) rfl (Nat.le_of_ble_eq_true rfl) (by omega) (by omega) (by omega) (fun v S' I' J' hq => ?_)
  obtain ⟨rfl, rfl, rfl, rfl⟩ := hq
  refine r_bipush (pc := 57) (v := 6) d_Md_waits_57 rfl ?_
  refine r_ixor (pc := 59) d_Md_waits_59 ?_
  exact r_iret d_Md_waits_60 rfl (by omega) (by omega) (⟨rfl, rfl, rfl, rfl⟩)
theorem c_Md_waits {I : qI} {t p kd k : Nat} {x v : Int32} (hM : isMd S) (ht : I 114 37 = nI t) (hb : t + 100 < 2 ^ 31) (hkd : kd < 7) (hp : p < 6) (hv : I 116 p = v) (hk : I 115 p = nI kd) (hk7 : k < 7) : qMet E y_Md_waits b_Md_waits 5 (some .int) 6 0 0 [.ref (qb E + 114), .int (nI p), .int (nI k), .int x] S I J (qTr S I J (mK (nI p) v kd k x)) := by
  have hT := hM.1
  have hk8 : k = 0 ∨ k = 1 ∨ k = 2 ∨ k = 3 ∨ k = 4 ∨ k = 5 ∨ k = 6 := by omega
  rcases hk8 with rfl | rfl | rfl | rfl | rfl | rfl | rfl
  · exact (c_Md_waits0 hM ht (by omega) hkd hp hv hk).deep (by omega)
  · exact (c_Md_waits1 hM ht (by omega) hkd hp hv hk).deep (by omega)
  · exact (c_Md_waitsU hM ht (by omega) hkd hp hv hk (Or.inl rfl)).deep (by omega)
  · exact (c_Md_waitsU hM ht (by omega) hkd hp hv hk (Or.inr rfl)).deep (by omega)
  · refine qMet.of (L := [some (.ref (qb E + 114)), some (.int (nI p)), some (.int (nI 4)), some (.int x), none]) (by decide +kernel) (Nat.le_of_ble_eq_true rfl) rfl ?_
    refine ldi_n_5_2 (pc := 0) d_Md_waits_0 ?_
    refine r_tableIn (pc := 1) (off := 60) (tgt := 61) d_Md_waits_1 (by decide) (by decide) (by decide +kernel) (by decide) ?_
    refine lda_n_5_0 (pc := 61) d_Md_waits_61 ?_
    refine r_bipush (pc := 62) (v := 51) d_Md_waits_62 rfl ?_
    refine r_callV (pc := 64) (As := [.int 51]) (k := 9) (N := 56) (T := T_Md) k_Md_345 im_Md_ran se_Md_ran rfl (by decide) rfl (by decide) d_Md_waits_64 hT (c_Md_ran hM ht (by omega)) rfl (Nat.le_of_ble_eq_true rfl) (by omega) (by omega) (by omega) (fun v S' I' J' hq => ?_)
    obtain ⟨rfl, rfl, rfl, rfl⟩ := hq
    refine lda_n_5_0 (pc := 67) d_Md_waits_67 ?_
    refine ldi_n_5_1 (pc := 68) d_Md_waits_68 ?_
    refine r_iconst (pc := 69) (v := 1) d_Md_waits_69 rfl ?_
    refine ldi_n_5_3 (pc := 70) d_Md_waits_70 ?_
    refine r_iconst (pc := 71) (v := 1) d_Md_waits_71 rfl ?_
    refine r_iadd (pc := 72) d_Md_waits_72 ?_
    refine r_callV (pc := 73) (As := [.int (nI p), .int (nI 1), .int (x + 1)]) (k := 9) (N := 56) (T := T_Md) k_Md_355 im_Md_waits se_Md_waits rfl (by decide) rfl (by decide) d_Md_waits_73 hT (c_Md_waits1 (v := v) (kd := kd) hM (mbegin_n ht) (by omega) hkd hp (by rw [mbegin_row (by decide) (by decide)]; exact hv) (by rw [mbegin_row (by decide) (by decide)]; exact hk)) rfl (Nat.le_of_ble_eq_true rfl) (by omega) (by omega) (by omega) (fun v S' I' J' hq => ?_)
    obtain ⟨rfl, rfl, rfl, rfl⟩ := hq
    exact r_iret d_Md_waits_76 rfl (by omega) (by omega) (⟨rfl, rfl, rfl, rfl⟩)
  · refine qMet.of (L := [some (.ref (qb E + 114)), some (.int (nI p)), some (.int (nI 5)), some (.int x), none]) (by decide +kernel) (Nat.le_of_ble_eq_true rfl) rfl ?_
    refine ldi_n_5_2 (pc := 0) d_Md_waits_0 ?_
    refine r_tableIn (pc := 1) (off := 128) (tgt := 129) d_Md_waits_1 (by decide) (by decide) (by decide +kernel) (by decide) ?_
    refine lda_n_5_0 (pc := 129) d_Md_waits_129 ?_
    refine ldi_n_5_1 (pc := 130) d_Md_waits_130 ?_
    refine ldi_n_5_2 (pc := 131) d_Md_waits_131 ?_
    refine r_callS (pc := 132) (As := [.int (nI 5)]) k_Md_352 sw_Md_above rfl (by decide) d_Md_waits_132 (c_Md_above (by omega)) rfl (Nat.le_of_ble_eq_true rfl) (by omega) (by omega) (by omega) (fun v S' I' J' hq => ?_)
    obtain ⟨rfl, rfl, rfl, rfl⟩ := hq
    refine ldi_n_5_3 (pc := 135) d_Md_waits_135 ?_
    refine r_callV (pc := 136) (As := [.int (nI p), .int (nI 2), .int x]) (k := 9) (N := 56) (T := T_Md) k_Md_355 im_Md_waits se_Md_waits rfl (by decide) rfl (by decide) d_Md_waits_136 hT (c_Md_waitsU (v := v) (kd := kd) hM ht (by omega) hkd hp hv hk (Or.inl rfl)) rfl (Nat.le_of_ble_eq_true rfl) (by omega) (by omega) (by omega) (fun v S' I' J' hq => ?_)
    obtain ⟨rfl, rfl, rfl, rfl⟩ := hq
    exact r_iret d_Md_waits_139 rfl (by omega) (by omega) (⟨rfl, rfl, rfl, rfl⟩)
  · refine qMet.of (L := [some (.ref (qb E + 114)), some (.int (nI p)), some (.int (nI 6)), some (.int x), none]) (by decide +kernel) (Nat.le_of_ble_eq_true rfl) rfl ?_
    refine ldi_n_5_2 (pc := 0) d_Md_waits_0 ?_
    refine r_tableIn (pc := 1) (off := 76) (tgt := 77) d_Md_waits_1 (by decide) (by decide) (by decide +kernel) (by decide) ?_
    refine lda_n_5_0 (pc := 77) d_Md_waits_77 ?_
    refine r_bipush (pc := 78) (v := 70) d_Md_waits_78 rfl ?_
    refine r_callV (pc := 80) (As := [.int 70]) (k := 9) (N := 56) (T := T_Md) k_Md_345 im_Md_ran se_Md_ran rfl (by decide) rfl (by decide) d_Md_waits_80 hT (c_Md_ran hM ht (by omega)) rfl (Nat.le_of_ble_eq_true rfl) (by omega) (by omega) (by omega) (fun v S' I' J' hq => ?_)
    obtain ⟨rfl, rfl, rfl, rfl⟩ := hq
    refine lda_n_5_0 (pc := 83) d_Md_waits_83 ?_
    refine ldi_n_5_1 (pc := 84) d_Md_waits_84 ?_
    refine r_iconst (pc := 85) (v := 3) d_Md_waits_85 rfl ?_
    refine ldi_n_5_3 (pc := 86) d_Md_waits_86 ?_
    refine r_callV (pc := 87) (As := [.int (nI p), .int (nI 3), .int x]) (k := 9) (N := 56) (T := T_Md) k_Md_355 im_Md_waits se_Md_waits rfl (by decide) rfl (by decide) d_Md_waits_87 hT (c_Md_waitsU (v := v) (kd := kd) hM (mbegin_n ht) (by omega) hkd hp (by rw [mbegin_row (by decide) (by decide)]; exact hv) (by rw [mbegin_row (by decide) (by decide)]; exact hk) (Or.inr rfl)) rfl (Nat.le_of_ble_eq_true rfl) (by omega) (by omega) (by omega) (fun v S' I' J' hq => ?_)
    obtain ⟨rfl, rfl, rfl, rfl⟩ := hq
    have hl := mK0_len (i := nI p) (v := v) (x := x) (kd := kd)
    refine sti_5_4 (pc := 90) d_Md_waits_90 rfl ?_
    refine ldi_5_4 (pc := 92) d_Md_waits_92 ?_
    refine lda_n_5_0 (pc := 94) d_Md_waits_94 ?_
    refine ldi_n_5_1 (pc := 95) d_Md_waits_95 ?_
    refine r_iconst (pc := 96) (v := 3) d_Md_waits_96 rfl ?_
    refine r_iconst (pc := 97) (v := 2) d_Md_waits_97 rfl ?_
    refine r_callV (pc := 98) (As := [.int (nI p), .int (nI 3), .int 2]) (k := 9) (N := 56) (T := T_Md) k_Md_349 im_Md_weeps se_Md_weeps rfl (by decide) rfl (by decide) d_Md_waits_98 hT (c_Md_weeps13 (p := p) hM (mtrace_n _ _ _ (mbegin_n ht)) (by omega) (Or.inr rfl)) rfl (Nat.le_of_ble_eq_true rfl) (by omega) (by omega) (by omega) (fun v S' I' J' hq => ?_)
    obtain ⟨rfl, rfl, rfl, rfl⟩ := hq
    refine r_iadd (pc := 101) d_Md_waits_101 ?_
    exact r_iret d_Md_waits_102 rfl (by omega) (by omega) (⟨rfl, rfl, by show _ = mtrace I (70 :: ((mK0 (nI p) v kd x).2 ++ (mW0 (nI p) 2).2)); rw [mtrace_cons, mtrace_app], rfl⟩)
theorem c_Md_tells0 {I : qI} {t p kd : Nat} {x v : Int32} (hM : isMd S) (ht : I 114 37 = nI t) (hb : t + 110 < 2 ^ 31) (hkd : kd < 7) (hp : p < 6) (hv : I 116 p = v) (hk : I 115 p = nI kd) : qMet E y_Md_tells b_Md_tells 5 (some .int) 7 0 0 [.ref (qb E + 114), .int (nI p), .int (nI 0), .int x] S I J (qTr S I J (mT0 (nI p) v kd x)) := by
  have hT := hM.1
  have f1 := hM.r 0 rfl
  have g1 := hM.a 0 rfl
  have ep : (nI p).toNatClampNeg = p := qcl (by omega)
  have hin : vp_in (nI p) 6 := vp_in_nI hp (by omega)
  refine qMet.of (L := [some (.ref (qb E + 114)), some (.int (nI p)), some (.int (nI 0)), some (.int x), none]) (by decide +kernel) (Nat.le_of_ble_eq_true rfl) rfl ?_
  refine ldi_n_5_2 (pc := 0) d_Md_tells_0 ?_
  refine r_lookup (pc := 1) (off := 82) (tgt := 83) d_Md_tells_1 (by decide +kernel) (by decide +kernel) (by decide) ?_
  refine lda_n_5_0 (pc := 83) d_Md_tells_83 ?_
  refine r_bipush (pc := 84) (v := 12) d_Md_tells_84 rfl ?_
  refine r_callV (pc := 86) (As := [.int 12]) (k := 9) (N := 56) (T := T_Md) k_Md_345 im_Md_ran se_Md_ran rfl (by decide) rfl (by decide) d_Md_tells_86 hT (c_Md_ran hM ht (by omega)) rfl (Nat.le_of_ble_eq_true rfl) (by omega) (by omega) (by omega) (fun v S' I' J' hq => ?_)
  obtain ⟨rfl, rfl, rfl, rfl⟩ := hq
  refine lda_n_5_0 (pc := 89) d_Md_tells_89 ?_
  refine ldi_n_5_1 (pc := 90) d_Md_tells_90 ?_
  refine lda_n_5_0 (pc := 91) d_Md_tells_91 ?_
  refine g_Md_9 (pc := 92) rfl d_Md_tells_92 (by assumption) (by assumption) ?_
  refine ldi_n_5_1 (pc := 95) d_Md_tells_95 ?_
  refine r_iald (pc := 96) d_Md_tells_96 (by assumption) (by first | assumption | exact vp_in_nI (by omega) (by omega) | (unfold vp_in; decide)) ?_
  rw [ep, mbegin_row (by decide) (by decide), hk]
  refine ldi_n_5_3 (pc := 97) d_Md_tells_97 ?_
  refine r_callV (pc := 98) (As := [.int (nI p), .int (nI kd), .int x]) (k := 9) (N := 56) (T := T_Md) k_Md_355 im_Md_waits se_Md_waits rfl (by decide) rfl (by decide) d_Md_tells_98 hT (c_Md_waits (v := v) (kd := kd) hM (mbegin_n ht) (by omega) hkd hp (by rw [mbegin_row (by decide) (by decide)]; exact hv) (by rw [mbegin_row (by decide) (by decide)]; exact hk) hkd) rfl (Nat.le_of_ble_eq_true rfl) (by omega) (by omega) (by omega) (fun v S' I' J' hq => ?_)
  obtain ⟨rfl, rfl, rfl, rfl⟩ := hq
  refine r_iconst (pc := 101) (v := 2) d_Md_tells_101 rfl ?_
  refine r_imul (pc := 102) d_Md_tells_102 ?_
  exact r_iret d_Md_tells_103 rfl (by omega) (by omega) (⟨rfl, rfl, rfl, rfl⟩)
theorem c_Md_tellsU {I : qI} {t p kd k : Nat} {x v : Int32} (hM : isMd S) (ht : I 114 37 = nI t) (hb : t + 110 < 2 ^ 31) (hkd : kd < 7) (hp : p < 6) (hv : I 116 p = v) (hk : I 115 p = nI kd) (hk2 : k = 1 ∨ k = 2) : qMet E y_Md_tells b_Md_tells 5 (some .int) 8 0 0 [.ref (qb E + 114), .int (nI p), .int (nI k), .int x] S I J (qTr S I J (mT0 (nI p) v kd x)) := by
  have hT := hM.1
  refine qMet.of (L := [some (.ref (qb E + 114)), some (.int (nI p)), some (.int (nI k)), some (.int x), none]) (by decide +kernel) (Nat.le_of_ble_eq_true rfl) rfl ?_
  have rest : qW E y_Md_tells b_Md_tells (some .int) 8 0 0 (qTr S I J (mT0 (nI p) v kd x)) 0 0 104 [some (.ref (qb E + 114)), some (.int (nI p)), some (.int (nI k)), some (.int x), none] [] S I J := by
    refine lda_n_5_0 (pc := 104) d_Md_tells_104 ?_
    refine ldi_n_5_1 (pc := 105) d_Md_tells_105 ?_
    refine ldi_n_5_2 (pc := 106) d_Md_tells_106 ?_
    refine r_callS (pc := 107) (As := [.int (nI k)]) k_Md_352 sw_Md_above rfl (by decide) d_Md_tells_107 (c_Md_above (by omega)) rfl (Nat.le_of_ble_eq_true rfl) (by omega) (by omega) (by omega) (fun v S' I' J' hq => ?_)
    obtain ⟨rfl, rfl, rfl, rfl⟩ := hq
    rw [if_neg (by omega), if_neg (by omega), if_neg (by omega)]
    refine ldi_n_5_3 (pc := 110) d_Md_tells_110 ?_
    refine r_callV (pc := 111) (As := [.int (nI p), .int (nI 0), .int x]) (k := 9) (N := 56) (T := T_Md) k_Md_358 im_Md_tells se_Md_tells rfl (by decide) rfl (by decide) d_Md_tells_111 hT (c_Md_tells0 hM ht hb hkd hp hv hk) rfl (Nat.le_of_ble_eq_true rfl) (by omega) (by omega) (by omega) (fun v S' I' J' hq => ?_)
    obtain ⟨rfl, rfl, rfl, rfl⟩ := hq
    exact r_iret d_Md_tells_114 rfl (by omega) (by omega) (⟨rfl, rfl, rfl, rfl⟩)
  refine ldi_n_5_2 (pc := 0) d_Md_tells_0 ?_
  rcases hk2 with rfl | rfl
  · refine r_lookup (pc := 1) (off := 103) (tgt := 104) d_Md_tells_1 (by decide +kernel) (by decide +kernel) (by decide) ?_
    exact rest
  · refine r_lookup (pc := 1) (off := 103) (tgt := 104) d_Md_tells_1 (by decide +kernel) (by decide +kernel) (by decide) ?_
    exact rest
theorem c_Md_tells3 {I : qI} {t p kd : Nat} {x v : Int32} (hM : isMd S) (ht : I 114 37 = nI t) (hb : t + 130 < 2 ^ 31) (hkd : kd < 7) (hp : p < 6) (hv : I 116 p = v) (hk : I 115 p = nI kd) : qMet E y_Md_tells b_Md_tells 5 (some .int) 8 0 0 [.ref (qb E + 114), .int (nI p), .int (nI 3), .int x] S I J (qTr S I J ((mT0 (nI p) v kd x).1 + (mK (nI p) v kd kd 1).1, 40 :: ((mT0 (nI p) v kd x).2 ++ (mK (nI p) v kd kd 1).2))) := by
  have hT := hM.1
  have f1 := hM.r 0 rfl
  have g1 := hM.a 0 rfl
  have ep : (nI p).toNatClampNeg = p := qcl (by omega)
  have hin : vp_in (nI p) 6 := vp_in_nI hp (by omega)
  refine qMet.of (L := [some (.ref (qb E + 114)), some (.int (nI p)), some (.int (nI 3)), some (.int x), none]) (by decide +kernel) (Nat.le_of_ble_eq_true rfl) rfl ?_
  refine ldi_n_5_2 (pc := 0) d_Md_tells_0 ?_
  refine r_lookup (pc := 1) (off := 35) (tgt := 36) d_Md_tells_1 (by decide +kernel) (by decide +kernel) (by decide) ?_
  refine lda_n_5_0 (pc := 36) d_Md_tells_36 ?_
  refine r_bipush (pc := 37) (v := 40) d_Md_tells_37 rfl ?_
  refine r_callV (pc := 39) (As := [.int 40]) (k := 9) (N := 56) (T := T_Md) k_Md_345 im_Md_ran se_Md_ran rfl (by decide) rfl (by decide) d_Md_tells_39 hT (c_Md_ran hM ht (by omega)) rfl (Nat.le_of_ble_eq_true rfl) (by omega) (by omega) (by omega) (fun v S' I' J' hq => ?_)
  obtain ⟨rfl, rfl, rfl, rfl⟩ := hq
  refine lda_n_5_0 (pc := 42) d_Md_tells_42 ?_
  refine ldi_n_5_1 (pc := 43) d_Md_tells_43 ?_
  refine r_iconst (pc := 44) (v := 0) d_Md_tells_44 rfl ?_
  refine ldi_n_5_3 (pc := 45) d_Md_tells_45 ?_
  rw [q0]
  refine r_callV (pc := 46) (As := [.int (nI p), .int (nI 0), .int x]) (k := 9) (N := 56) (T := T_Md) k_Md_358 im_Md_tells se_Md_tells rfl (by decide) rfl (by decide) d_Md_tells_46 hT (c_Md_tells0 (v := v) (kd := kd) hM (mbegin_n ht) (by omega) hkd hp (by rw [mbegin_row (by decide) (by decide)]; exact hv) (by rw [mbegin_row (by decide) (by decide)]; exact hk)) rfl (Nat.le_of_ble_eq_true rfl) (by omega) (by omega) (by omega) (fun v S' I' J' hq => ?_)
  obtain ⟨rfl, rfl, rfl, rfl⟩ := hq
  have hl := mT0_len (i := nI p) (v := v) (x := x) (kd := kd)
  refine sti_5_4 (pc := 49) d_Md_tells_49 rfl ?_
  refine ldi_5_4 (pc := 51) d_Md_tells_51 ?_
  refine lda_n_5_0 (pc := 53) d_Md_tells_53 ?_
  refine ldi_n_5_1 (pc := 54) d_Md_tells_54 ?_
  refine lda_n_5_0 (pc := 55) d_Md_tells_55 ?_
  refine g_Md_9 (pc := 56) rfl d_Md_tells_56 (by assumption) (by assumption) ?_
  refine ldi_n_5_1 (pc := 59) d_Md_tells_59 ?_
  refine r_iald (pc := 60) d_Md_tells_60 (by assumption) (by first | assumption | exact vp_in_nI (by omega) (by omega) | (unfold vp_in; decide)) ?_
  rw [ep, mtrace_row (by decide) (by decide), mbegin_row (by decide) (by decide), hk]
  refine r_iconst (pc := 61) (v := 1) d_Md_tells_61 rfl ?_
  refine r_callV (pc := 62) (As := [.int (nI p), .int (nI kd), .int 1]) (k := 9) (N := 56) (T := T_Md) k_Md_355 im_Md_waits se_Md_waits rfl (by decide) rfl (by decide) d_Md_tells_62 hT (c_Md_waits (v := v) (kd := kd) hM (mtrace_n _ _ _ (mbegin_n ht)) (by omega) hkd hp (by rw [mtrace_row (by decide) (by decide), mbegin_row (by decide) (by decide)]; exact hv) (by rw [mtrace_row (by decide) (by decide), mbegin_row (by decide) (by decide)]; exact hk) hkd) rfl (Nat.le_of_ble_eq_true rfl) (by omega) (by omega) (by omega) (fun v S' I' J' hq => ?_)
  obtain ⟨rfl, rfl, rfl, rfl⟩ := hq
  refine r_iadd (pc := 65) d_Md_tells_65 ?_
  exact r_iret d_Md_tells_66 rfl (by omega) (by omega) (⟨rfl, rfl, by rw [mtrace_cons, mtrace_app], rfl⟩)
theorem c_Md_tells {I : qI} {t p kd k : Nat} {x v : Int32} (hM : isMd S) (ht : I 114 37 = nI t) (hb : t + 140 < 2 ^ 31) (hkd : kd < 7) (hp : p < 6) (hv : I 116 p = v) (hk : I 115 p = nI kd) (hk7 : k < 7) : qMet E y_Md_tells b_Md_tells 5 (some .int) 9 0 0 [.ref (qb E + 114), .int (nI p), .int (nI k), .int x] S I J (qTr S I J (mT (nI p) v kd k x)) := by
  have hT := hM.1
  have hk8 : k = 0 ∨ k = 1 ∨ k = 2 ∨ k = 3 ∨ k = 4 ∨ k = 5 ∨ k = 6 := by omega
  rcases hk8 with rfl | rfl | rfl | rfl | rfl | rfl | rfl
  · exact (c_Md_tells0 hM ht (by omega) hkd hp hv hk).deep (by omega)
  · exact (c_Md_tellsU hM ht (by omega) hkd hp hv hk (Or.inl rfl)).deep (by omega)
  · exact (c_Md_tellsU hM ht (by omega) hkd hp hv hk (Or.inr rfl)).deep (by omega)
  · exact (c_Md_tells3 hM ht (by omega) hkd hp hv hk).deep (by omega)
  · refine qMet.of (L := [some (.ref (qb E + 114)), some (.int (nI p)), some (.int (nI 4)), some (.int x), none]) (by decide +kernel) (Nat.le_of_ble_eq_true rfl) rfl ?_
    refine ldi_n_5_2 (pc := 0) d_Md_tells_0 ?_
    refine r_lookup (pc := 1) (off := 103) (tgt := 104) d_Md_tells_1 (by decide +kernel) (by decide +kernel) (by decide) ?_
    refine lda_n_5_0 (pc := 104) d_Md_tells_104 ?_
    refine ldi_n_5_1 (pc := 105) d_Md_tells_105 ?_
    refine ldi_n_5_2 (pc := 106) d_Md_tells_106 ?_
    refine r_callS (pc := 107) (As := [.int (nI 4)]) k_Md_352 sw_Md_above rfl (by decide) d_Md_tells_107 (c_Md_above (by omega)) rfl (Nat.le_of_ble_eq_true rfl) (by omega) (by omega) (by omega) (fun v S' I' J' hq => ?_)
    obtain ⟨rfl, rfl, rfl, rfl⟩ := hq
    refine ldi_n_5_3 (pc := 110) d_Md_tells_110 ?_
    refine r_callV (pc := 111) (As := [.int (nI p), .int (nI 1), .int x]) (k := 9) (N := 56) (T := T_Md) k_Md_358 im_Md_tells se_Md_tells rfl (by decide) rfl (by decide) d_Md_tells_111 hT (c_Md_tellsU (v := v) (kd := kd) hM ht (by omega) hkd hp hv hk (Or.inl rfl)) rfl (Nat.le_of_ble_eq_true rfl) (by omega) (by omega) (by omega) (fun v S' I' J' hq => ?_)
    obtain ⟨rfl, rfl, rfl, rfl⟩ := hq
    exact r_iret d_Md_tells_114 rfl (by omega) (by omega) (⟨rfl, rfl, rfl, rfl⟩)
  · refine qMet.of (L := [some (.ref (qb E + 114)), some (.int (nI p)), some (.int (nI 5)), some (.int x), none]) (by decide +kernel) (Nat.le_of_ble_eq_true rfl) rfl ?_
    refine ldi_n_5_2 (pc := 0) d_Md_tells_0 ?_
    refine r_lookup (pc := 1) (off := 66) (tgt := 67) d_Md_tells_1 (by decide +kernel) (by decide +kernel) (by decide) ?_
    refine lda_n_5_0 (pc := 67) d_Md_tells_67 ?_
    refine r_bipush (pc := 68) (v := 60) d_Md_tells_68 rfl ?_
    refine r_callV (pc := 70) (As := [.int 60]) (k := 9) (N := 56) (T := T_Md) k_Md_345 im_Md_ran se_Md_ran rfl (by decide) rfl (by decide) d_Md_tells_70 hT (c_Md_ran hM ht (by omega)) rfl (Nat.le_of_ble_eq_true rfl) (by omega) (by omega) (by omega) (fun v S' I' J' hq => ?_)
    obtain ⟨rfl, rfl, rfl, rfl⟩ := hq
    refine lda_n_5_0 (pc := 73) d_Md_tells_73 ?_
    refine ldi_n_5_1 (pc := 74) d_Md_tells_74 ?_
    refine r_iconst (pc := 75) (v := 2) d_Md_tells_75 rfl ?_
    refine ldi_n_5_3 (pc := 76) d_Md_tells_76 ?_
    refine ldi_n_5_1 (pc := 77) d_Md_tells_77 ?_
    refine r_isub (pc := 78) d_Md_tells_78 ?_
    refine r_callV (pc := 79) (As := [.int (nI p), .int (nI 2), .int (x - nI p)]) (k := 9) (N := 56) (T := T_Md) k_Md_358 im_Md_tells se_Md_tells rfl (by decide) rfl (by decide) d_Md_tells_79 hT (c_Md_tellsU (v := v) (kd := kd) hM (mbegin_n ht) (by omega) hkd hp (by rw [mbegin_row (by decide) (by decide)]; exact hv) (by rw [mbegin_row (by decide) (by decide)]; exact hk) (Or.inr rfl)) rfl (Nat.le_of_ble_eq_true rfl) (by omega) (by omega) (by omega) (fun v S' I' J' hq => ?_)
    obtain ⟨rfl, rfl, rfl, rfl⟩ := hq
    exact r_iret d_Md_tells_82 rfl (by omega) (by omega) (⟨rfl, rfl, rfl, rfl⟩)
  · refine qMet.of (L := [some (.ref (qb E + 114)), some (.int (nI p)), some (.int (nI 6)), some (.int x), none]) (by decide +kernel) (Nat.le_of_ble_eq_true rfl) rfl ?_
    refine ldi_n_5_2 (pc := 0) d_Md_tells_0 ?_
    refine r_lookup (pc := 1) (off := 103) (tgt := 104) d_Md_tells_1 (by decide +kernel) (by decide +kernel) (by decide) ?_
    refine lda_n_5_0 (pc := 104) d_Md_tells_104 ?_
    refine ldi_n_5_1 (pc := 105) d_Md_tells_105 ?_
    refine ldi_n_5_2 (pc := 106) d_Md_tells_106 ?_
    refine r_callS (pc := 107) (As := [.int (nI 6)]) k_Md_352 sw_Md_above rfl (by decide) d_Md_tells_107 (c_Md_above (by omega)) rfl (Nat.le_of_ble_eq_true rfl) (by omega) (by omega) (by omega) (fun v S' I' J' hq => ?_)
    obtain ⟨rfl, rfl, rfl, rfl⟩ := hq
    refine ldi_n_5_3 (pc := 110) d_Md_tells_110 ?_
    refine r_callV (pc := 111) (As := [.int (nI p), .int (nI 3), .int x]) (k := 9) (N := 56) (T := T_Md) k_Md_358 im_Md_tells se_Md_tells rfl (by decide) rfl (by decide) d_Md_tells_111 hT (c_Md_tells3 (v := v) (kd := kd) hM ht (by omega) hkd hp hv hk) rfl (Nat.le_of_ble_eq_true rfl) (by omega) (by omega) (by omega) (fun v S' I' J' hq => ?_)
    obtain ⟨rfl, rfl, rfl, rfl⟩ := hq
    exact r_iret d_Md_tells_114 rfl (by omega) (by omega) (⟨rfl, rfl, rfl, rfl⟩)
/-- an act, told exactly -/
def mAct (i v : Int32) (kd : Nat) (a x : Int32) : Int32 × List Int32 := if a = 0 then mW i v kd x else if a = 1 then mK i v kd kd x else mT i v kd kd x
theorem c_Md_act {I : qI} {c : Nat} {m a x : Int32} (hM : isMd S) (hc : I 114 0 = nI c) (c6 : c ≤ 6) (hK : ∀ p, p < 6 → ∃ k, k < 7 ∧ I 115 p = nI k) : qMet E y_Md_act b_Md_act 5 (some .int) 10 0 0 [.ref (qb E + 114), .int m, .int a, .int x] S I J (fun r S' I' J' => S = S' ∧ J = J' ∧ (((∀ p, p < c → m ≠ nI p) ∨ qwithin a 0 2 = 0) ∧ r = some (.int 0) ∧ I' = qup I 114 37 0 ∨ ∃ p k, p < c ∧ m = nI p ∧ k < 7 ∧ I 115 p = nI k ∧ ¬ qwithin a 0 2 = 0 ∧ r = some (.int (mAct (nI p) (I 116 p) k a x).1) ∧ I' = mtrace (qup I 114 37 0) (mAct (nI p) (I 116 p) k a x).2)) := by
  have hT := hM.1
  have f1 := hM.r 0 rfl
  have g1 := hM.a 0 rfl
  refine qMet.of (L := [some (.ref (qb E + 114)), some (.int m), some (.int a), some (.int x), none]) (by decide +kernel) (Nat.le_of_ble_eq_true rfl) rfl ?_
  refine lda_n_5_0 (pc := 0) d_Md_act_0 ?_
  refine r_iconst (pc := 1) (v := 0) d_Md_act_1 rfl ?_
  refine p_Md_342 (pc := 2) rfl d_Md_act_2 (by assumption) ?_
  refine lda_n_5_0 (pc := 5) d_Md_act_5 ?_
  refine ldi_n_5_1 (pc := 6) d_Md_act_6 ?_
  refine r_nmI (fun K hKd => ?_)
  have e0 : K 114 0 = nI c := by rw [hKd, qup_j (by decide)]; exact hc
  have e37 : K 114 37 = nI 0 := by rw [hKd, qup_at, nI_0]
  have e115 : K 115 = I 115 := by rw [hKd]; exact qup_row (by decide)
  have e116 : K 116 = I 116 := by rw [hKd]; exact qup_row (by decide)
  refine r_callV (pc := 7) (As := [.int m]) (k := 9) (N := 56) (T := T_Md) k_Md_127 im_Md_isOne se_Md_isOne rfl (by decide) rfl (by decide) d_Md_act_7 hT (c_Md_isOne hM) rfl (Nat.le_of_ble_eq_true rfl) (by omega) (by omega) (by omega) (fun v S' I' J' hq => ?_)
  obtain ⟨rfl, rfl, rfl, rfl⟩ := hq
  rw [e0]
  refine r_if_eq (pc := 10) (tgt := 22) d_Md_act_10 (by decide) (fun c1 => ?_) (fun c1 => ?_)
  · refine r_iconst (pc := 22) (v := 0) d_Md_act_22 rfl ?_
    exact r_iret d_Md_act_23 rfl (by omega) (by omega) (⟨rfl, rfl, Or.inl ⟨Or.inl (qisM_n (by omega) c1), rfl, hKd⟩⟩)
  · refine ldi_n_5_2 (pc := 13) d_Md_act_13 ?_
    refine r_iconst (pc := 14) (v := 0) d_Md_act_14 rfl ?_
    refine r_iconst (pc := 15) (v := 2) d_Md_act_15 rfl ?_
    refine r_callS (pc := 16) (As := [.int a, .int 0, .int 2]) k_Md_120 sw_Md_within rfl (by decide) d_Md_act_16 (c_Md_within a 0 2) rfl (Nat.le_of_ble_eq_true rfl) (by omega) (by omega) (by omega) (fun v S' I' J' hq => ?_)
    obtain ⟨rfl, rfl, rfl, rfl⟩ := hq
    refine r_if_ne (pc := 19) (tgt := 24) d_Md_act_19 (by decide) (fun c2 => ?_) (fun c2 => ?_)
    · obtain ⟨p, hp, rfl⟩ := qisM_y (by omega) c1
      obtain ⟨k, hk, ek⟩ := hK p (by omega)
      have ep : (nI p).toNatClampNeg = p := qcl (by omega)
      have hin : vp_in (nI p) 6 := vp_in_nI (by omega) (by omega)
      refine lda_n_5_0 (pc := 24) d_Md_act_24 ?_
      refine g_Md_9 (pc := 25) rfl d_Md_act_25 (by assumption) (by assumption) ?_
      refine ldi_n_5_1 (pc := 28) d_Md_act_28 ?_
      refine r_iald (pc := 29) d_Md_act_29 (by assumption) (by first | assumption | exact vp_in_nI (by omega) (by omega) | (unfold vp_in; decide)) ?_
      rw [ep, e115, ek]
      refine sti_5_4 (pc := 30) d_Md_act_30 rfl ?_
      refine ldi_n_5_2 (pc := 32) d_Md_act_32 ?_
      refine r_if_ne (pc := 33) (tgt := 47) d_Md_act_33 (by decide) (fun a0 => ?_) (fun a0 => ?_)
      · refine ldi_n_5_2 (pc := 47) d_Md_act_47 ?_
        refine r_iconst (pc := 48) (v := 1) d_Md_act_48 rfl ?_
        refine r_icmp_ne (pc := 49) (tgt := 63) d_Md_act_49 (by decide) (fun a1 => ?_) (fun a1 => ?_)
        · refine lda_n_5_0 (pc := 63) d_Md_act_63 ?_
          refine ldi_n_5_1 (pc := 64) d_Md_act_64 ?_
          refine ldi_5_4 (pc := 65) d_Md_act_65 ?_
          refine ldi_n_5_3 (pc := 67) d_Md_act_67 ?_
          refine r_callV (pc := 68) (As := [.int (nI p), .int (nI k), .int x]) (k := 9) (N := 56) (T := T_Md) k_Md_358 im_Md_tells se_Md_tells rfl (by decide) rfl (by decide) d_Md_act_68 hT (c_Md_tells (v := I 116 p) (kd := k) hM e37 (by omega) hk (by omega) (by rw [e116]) (by rw [e115]; exact ek) hk) rfl (Nat.le_of_ble_eq_true rfl) (by omega) (by omega) (by omega) (fun v S' I' J' hq => ?_)
          obtain ⟨rfl, rfl, rfl, rfl⟩ := hq
          exact r_iret d_Md_act_71 rfl (by omega) (by omega) (⟨rfl, rfl, Or.inr ⟨p, k, hp, rfl, hk, ek, c2, by unfold mAct; rw [if_neg a0, if_neg a1], by unfold mAct; rw [if_neg a0, if_neg a1, hKd]⟩⟩)
        · refine lda_n_5_0 (pc := 52) d_Md_act_52 ?_
          refine ldi_n_5_1 (pc := 53) d_Md_act_53 ?_
          refine ldi_5_4 (pc := 54) d_Md_act_54 ?_
          refine ldi_n_5_3 (pc := 56) d_Md_act_56 ?_
          refine r_callV (pc := 57) (As := [.int (nI p), .int (nI k), .int x]) (k := 9) (N := 56) (T := T_Md) k_Md_355 im_Md_waits se_Md_waits rfl (by decide) rfl (by decide) d_Md_act_57 hT (c_Md_waits (v := I 116 p) (kd := k) hM e37 (by omega) hk (by omega) (by rw [e116]) (by rw [e115]; exact ek) hk) rfl (Nat.le_of_ble_eq_true rfl) (by omega) (by omega) (by omega) (fun v S' I' J' hq => ?_)
          obtain ⟨rfl, rfl, rfl, rfl⟩ := hq
          refine r_goto (pc := 60) (tgt := 71) d_Md_act_60 (by decide) ?_
          exact r_iret d_Md_act_71 rfl (by omega) (by omega) (⟨rfl, rfl, Or.inr ⟨p, k, hp, rfl, hk, ek, c2, by unfold mAct; rw [if_neg a0, if_pos a1], by unfold mAct; rw [if_neg a0, if_pos a1, hKd]⟩⟩)
      · refine lda_n_5_0 (pc := 36) d_Md_act_36 ?_
        refine ldi_n_5_1 (pc := 37) d_Md_act_37 ?_
        refine ldi_5_4 (pc := 38) d_Md_act_38 ?_
        refine ldi_n_5_3 (pc := 40) d_Md_act_40 ?_
        refine r_callV (pc := 41) (As := [.int (nI p), .int (nI k), .int x]) (k := 9) (N := 56) (T := T_Md) k_Md_349 im_Md_weeps se_Md_weeps rfl (by decide) rfl (by decide) d_Md_act_41 hT (c_Md_weeps (v := I 116 p) hM e37 (by omega) hk (by omega) (by rw [e116])) rfl (Nat.le_of_ble_eq_true rfl) (by omega) (by omega) (by omega) (fun v S' I' J' hq => ?_)
        obtain ⟨rfl, rfl, rfl, rfl⟩ := hq
        refine r_goto (pc := 44) (tgt := 71) d_Md_act_44 (by decide) ?_
        exact r_iret d_Md_act_71 rfl (by omega) (by omega) (⟨rfl, rfl, Or.inr ⟨p, k, hp, rfl, hk, ek, c2, by unfold mAct; rw [if_pos a0], by unfold mAct; rw [if_pos a0, hKd]⟩⟩)
    · refine r_iconst (pc := 22) (v := 0) d_Md_act_22 rfl ?_
      exact r_iret d_Md_act_23 rfl (by omega) (by omega) (⟨rfl, rfl, Or.inl ⟨Or.inr c2, rfl, hKd⟩⟩)
end G13
