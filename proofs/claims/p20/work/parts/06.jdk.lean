/-! the JDK's own members -/
theorem qMet.ofF {E : qE} {y : MethodName} {cc : ByteArray} {nL : Nat} {ret : Option FieldType} {d mc ms : Nat} {av : List Value} {S : qSh} {I : qI} {J : qJ} {Q : qPost} {L : List (Option Value)} (hy : plainFor y = true) (hl : (lg_sl av).length ≤ nL) (hL : qent av nL = L) (k : qW E y cc ret d mc ms Q 0 0 0 L [] S I J) : qMet E y cc nL ret d mc ms av S I J Q := by
  intro l
  subst hL
  refine MetFree.of_bodySF (code := cc) (maxLocals := nL) (ret := ret) hy ?_ ?_
  · intro args s m h hn
    obtain ⟨meth, c, h1, h2, h3, h4, h5, h6, -, -⟩ := Cond.code_spec hn (atoms_spec (ws := Cond.code y cc nL ret :: qBIG) h _ List.mem_cons_self)
    exact ⟨meth, c, h1, h2, h3, h4, h5, h6⟩
  · intro p e s m args below meth c s₁ B hml hv _
    obtain ⟨rfl, hK, hH⟩ := hv
    have hh0 : s₁.heap = s.heap := by rw [B.state]; rfl
    have hts := atoms_spec (ws := Cond.code y cc nL ret :: qBIG) B.pre
    have hlen : (qent av nL).length = nL := by
      unfold qent; rw [List.length_append, qent_len, List.length_replicate]; omega
    have KW : W p l e (qRm d mc ms) s m av.toArray below meth c s.heap [] 0 0 (MQ below (qQ E Q) av.toArray s mc ms (qA E)) (entryFrame m av.toArray nL) := by
      rw [lg_entry_eq]
      exact k p l e s m _ below meth c s.heap [] _ ⟨B.exec, B.bytes, by rw [hlen]; exact hml, B.returns, fun w hw => hts w (List.mem_cons_of_mem _ hw), findClass_of_methodNamed B.named, B.notSynchronized, fun hn9 => (name_of_methodNamed B.named B.method).1.trans hn9⟩ hK hH va_S.rf (qLv.entry hl)
    obtain ⟨t, a1, o, b1, b2, b3⟩ := KW s₁ hh0 (Stand.of_body B)
    exact ⟨t, o, a1, b1, b2, ⟨b3.1, b3.2⟩⟩
section QJDK
variable {E : qE} {S : qSh} {I : qI} {J : qJ}
def qmax (a b : Int32) : Int32 := if a < b then b else a
def qmin (a b : Int32) : Int32 := if b < a then b else a
def qmaxl (a b : Int64) : Int64 := if a < b then b else a
theorem c_max (a b : Int32) : qMet E y_jM_max b_jM_max 2 (some .int) 0 0 0 [.int a, .int b] S I J (qPi S I J (qmax a b)) := by
  refine qMet.ofF (L := [some (.int a), some (.int b)]) (by decide +kernel) (Nat.le_of_ble_eq_true rfl) rfl ?_
  refine ldi_n_2_0 (pc := 0) d_jM_max_0 ?_
  refine ldi_n_2_1 (pc := 1) d_jM_max_1 ?_
  refine r_icmp_lt (pc := 2) (tgt := 9) d_jM_max_2 (by decide) (fun c2 => ?_) (fun c2 => ?_)
  · refine ldi_n_2_1 (pc := 9) d_jM_max_9 ?_
    refine r_iret d_jM_max_10 rfl (by omega) (by omega) ?_
    first | exact ⟨by rw [qmax, if_pos (by assumption)], rfl, rfl, rfl⟩ | exact ⟨by rw [qmax, if_neg (by assumption)], rfl, rfl, rfl⟩
  · refine ldi_n_2_0 (pc := 5) d_jM_max_5 ?_
    refine r_goto (pc := 6) (tgt := 10) d_jM_max_6 (by decide) ?_
    refine r_iret d_jM_max_10 rfl (by omega) (by omega) ?_
    first | exact ⟨by rw [qmax, if_pos (by assumption)], rfl, rfl, rfl⟩ | exact ⟨by rw [qmax, if_neg (by assumption)], rfl, rfl, rfl⟩
theorem c_min (a b : Int32) : qMet E y_jM_min b_jM_min 2 (some .int) 0 0 0 [.int a, .int b] S I J (qPi S I J (qmin a b)) := by
  refine qMet.ofF (L := [some (.int a), some (.int b)]) (by decide +kernel) (Nat.le_of_ble_eq_true rfl) rfl ?_
  refine ldi_n_2_0 (pc := 0) d_jM_min_0 ?_
  refine ldi_n_2_1 (pc := 1) d_jM_min_1 ?_
  refine r_icmp_gt (pc := 2) (tgt := 9) d_jM_min_2 (by decide) (fun c2 => ?_) (fun c2 => ?_)
  · refine ldi_n_2_1 (pc := 9) d_jM_min_9 ?_
    refine r_iret d_jM_min_10 rfl (by omega) (by omega) ?_
    first | exact ⟨by rw [qmin, if_pos (by assumption)], rfl, rfl, rfl⟩ | exact ⟨by rw [qmin, if_neg (by assumption)], rfl, rfl, rfl⟩
  · refine ldi_n_2_0 (pc := 5) d_jM_min_5 ?_
    refine r_goto (pc := 6) (tgt := 10) d_jM_min_6 (by decide) ?_
    refine r_iret d_jM_min_10 rfl (by omega) (by omega) ?_
    first | exact ⟨by rw [qmin, if_pos (by assumption)], rfl, rfl, rfl⟩ | exact ⟨by rw [qmin, if_neg (by assumption)], rfl, rfl, rfl⟩
theorem qcmp_lt {a b : Int64} : lg_cmp a b < 0 ↔ a < b := by
  have h := lg_cmp_ge a b
  rw [← Int32.not_le, h, Int64.not_le]
theorem c_maxL (a b : Int64) : qMet E y_jM_maxL b_jM_maxL 4 (some .long) 0 0 0 [.long a, .long b] S I J (qPl S I J (qmaxl a b)) := by
  refine qMet.ofF (L := [some (.long a), none, some (.long b), none]) (by decide +kernel) (Nat.le_of_ble_eq_true rfl) rfl ?_
  refine ldl_n_4_0 (pc := 0) d_jM_maxL_0 ?_
  refine ldl_n_4_2 (pc := 1) d_jM_maxL_1 ?_
  refine r_lcmp (pc := 2) d_jM_maxL_2 ?_
  refine r_if_lt (pc := 3) (tgt := 10) d_jM_maxL_3 (by decide) (fun c => ?_) (fun c => ?_)
  · rw [qcmp_lt] at c
    refine ldl_n_4_2 (pc := 10) d_jM_maxL_10 ?_
    refine r_lret d_jM_maxL_11 rfl (by omega) (by omega) ?_
    exact ⟨by rw [qmaxl, if_pos c], rfl, rfl, rfl⟩
  · rw [qcmp_lt] at c
    refine ldl_n_4_0 (pc := 6) d_jM_maxL_6 ?_
    refine r_goto (pc := 7) (tgt := 11) d_jM_maxL_7 (by decide) ?_
    refine r_lret d_jM_maxL_11 rfl (by omega) (by omega) ?_
    exact ⟨by rw [qmaxl, if_neg c], rfl, rfl, rfl⟩
/-- the place of a day among four -/
def qmod (x m : Int32) : Int32 := if 0 ≤ (x ^^^ m) then x - x / m * m else if x - x / m * m = 0 then x - x / m * m else x - x / m * m + m
theorem c_floorMod {x m : Int32} (hm : ¬ m = 0) : qMet E y_jM_floorMod b_jM_floorMod 3 (some .int) 0 0 0 [.int x, .int m] S I J (qPi S I J (qmod x m)) := by
  refine qMet.ofF (L := [some (.int x), some (.int m), none]) (by decide +kernel) (Nat.le_of_ble_eq_true rfl) rfl ?_
  refine ldi_n_3_0 (pc := 0) d_jM_floorMod_0 ?_
  refine ldi_n_3_1 (pc := 1) d_jM_floorMod_1 ?_
  refine r_irem (pc := 2) d_jM_floorMod_2 (hm) ?_
  refine sti_n_3_2 (pc := 3) d_jM_floorMod_3 rfl ?_
  refine ldi_n_3_0 (pc := 4) d_jM_floorMod_4 ?_
  refine ldi_n_3_1 (pc := 5) d_jM_floorMod_5 ?_
  refine r_ixor (pc := 6) d_jM_floorMod_6 ?_
  refine r_if_ge (pc := 7) (tgt := 18) d_jM_floorMod_7 (by decide) (fun c => ?_) (fun c => ?_)
  · refine ldi_n_3_2 (pc := 18) d_jM_floorMod_18 ?_
    refine r_iret d_jM_floorMod_19 rfl (by omega) (by omega) ?_
    exact ⟨by rw [qmod, if_pos c], rfl, rfl, rfl⟩
  · refine ldi_n_3_2 (pc := 10) d_jM_floorMod_10 ?_
    refine r_if_eq (pc := 11) (tgt := 18) d_jM_floorMod_11 (by decide) (fun c2 => ?_) (fun c2 => ?_)
    · refine ldi_n_3_2 (pc := 18) d_jM_floorMod_18 ?_
      refine r_iret d_jM_floorMod_19 rfl (by omega) (by omega) ?_
      exact ⟨by rw [qmod, if_neg c, if_pos c2], rfl, rfl, rfl⟩
    · refine ldi_n_3_2 (pc := 14) d_jM_floorMod_14 ?_
      refine ldi_n_3_1 (pc := 15) d_jM_floorMod_15 ?_
      refine r_iadd (pc := 16) d_jM_floorMod_16 ?_
      refine r_iret d_jM_floorMod_17 rfl (by omega) (by omega) ?_
      exact ⟨by rw [qmod, if_neg c, if_neg c2], rfl, rfl, rfl⟩
theorem c_coder {i : Nat} (hi : i < 7) : qMet E y_jS_coder b_jS_coder 1 (some .byte) 0 0 0 [.ref (qsK E i)] S I J (qPi S I J 0) := by
  refine qMet.of (L := [some (.ref (qsK E i))]) (by decide +kernel) (Nat.le_of_ble_eq_true rfl) rfl ?_
  refine r_compact rfl d_jS_coder_0 ?_
  refine r_if_eq (tgt := 13) d_jS_coder_3 (by decide) (fun c => absurd c (by decide)) (fun c => ?_)
  refine lda_n_1_0 d_jS_coder_6 ?_
  refine r_strC hi rfl d_jS_coder_7 ?_
  refine r_goto (tgt := 14) d_jS_coder_10 (by decide) ?_
  exact r_nret d_jS_coder_14 rfl (by decide +kernel) (by omega) (by omega) ⟨rfl, rfl, rfl, rfl⟩
theorem c_isLatin1 {i : Nat} (hi : i < 7) : qMet E y_jS_isLatin1 b_jS_isLatin1 1 (some .boolean) 0 0 0 [.ref (qsK E i)] S I J (qPi S I J 1) := by
  refine qMet.of (L := [some (.ref (qsK E i))]) (by decide +kernel) (Nat.le_of_ble_eq_true rfl) rfl ?_
  refine r_compact rfl d_jS_isLatin1_0 ?_
  refine r_if_eq (tgt := 17) d_jS_isLatin1_3 (by decide) (fun c => absurd c (by decide)) (fun c => ?_)
  refine lda_n_1_0 d_jS_isLatin1_6 ?_
  refine r_strC hi rfl d_jS_isLatin1_7 ?_
  refine r_if_ne (tgt := 17) d_jS_isLatin1_10 (by decide) (fun c => absurd rfl c) (fun c => ?_)
  refine r_iconst (v := 1) d_jS_isLatin1_13 rfl ?_
  refine r_goto (tgt := 18) d_jS_isLatin1_14 (by decide) ?_
  exact r_nret d_jS_isLatin1_18 rfl (by decide +kernel) (by omega) (by omega) ⟨rfl, rfl, rfl, rfl⟩
theorem qlen7 : ∀ i, i < 7 → Int32.ofNat (qLen.getD i 0) >>> ((0 : Int32) &&& 31) = nI (qLen.getD i 0) := by decide +kernel
theorem c_length {i : Nat} (hi : i < 7) : qMet E y_jS_length b_jS_length 1 (some .int) 1 0 0 [.ref (qsK E i)] S I J (qPi S I J (nI (qLen.getD i 0))) := by
  refine qMet.of (L := [some (.ref (qsK E i))]) (by decide +kernel) (Nat.le_of_ble_eq_true rfl) rfl ?_
  refine lda_n_1_0 d_jS_length_0 ?_
  refine r_strV hi rfl d_jS_length_1 ?_
  refine r_strL hi rfl d_jS_length_4 ?_
  refine lda_n_1_0 d_jS_length_5 ?_
  refine r_callStr (As := []) hi k_jS_335 im_jS_coder se_jS_coder rfl (by decide) d_jS_length_6 (c_coder hi) rfl (Nat.le_of_ble_eq_true rfl) (by omega) (by omega) (by omega) (fun v S' I' J' hq => ?_)
  obtain ⟨rfl, rfl, rfl, rfl⟩ := hq
  refine r_ishr d_jS_length_9 ?_
  exact r_iret d_jS_length_10 rfl (by omega) (by omega) ⟨by rw [qlen7 i hi], rfl, rfl, rfl⟩
theorem c_pCheck {x n : Int32} {r : Option Nat} (h0 : ¬ x < 0) (h1 : x < n) : qMet E y_jP_checkIndex b_jP_checkIndex 3 (some .int) 0 0 0 [.int x, .int n, va_rf r] S I J (qPi S I J x) := by
  have hL : qent [.int x, .int n, va_rf r] 3 = [some (.int x), some (.int n), some (va_rf r)] := by cases r <;> rfl
  have hs : (lg_sl [.int x, .int n, va_rf r]).length ≤ 3 := by cases r <;> exact Nat.le_of_ble_eq_true rfl
  refine qMet.of (L := [some (.int x), some (.int n), some (va_rf r)]) (by decide +kernel) hs hL ?_
  refine ldi_n_3_0 d_jP_checkIndex_0 ?_
  refine r_if_lt (tgt := 9) d_jP_checkIndex_1 (by decide) (fun c => absurd c h0) (fun c => ?_)
  refine ldi_n_3_0 d_jP_checkIndex_4 ?_
  refine ldi_n_3_1 d_jP_checkIndex_5 ?_
  refine r_icmp_lt (tgt := 16) d_jP_checkIndex_6 (by decide) (fun c => ?_) (fun c => absurd h1 c)
  refine ldi_n_3_0 d_jP_checkIndex_16 ?_
  exact r_iret d_jP_checkIndex_17 rfl (by omega) (by omega) ⟨rfl, rfl, rfl, rfl⟩
theorem c_sCheck {x n : Int32} (h0 : ¬ x < 0) (h1 : x < n) : qMet E y_jS_checkIndex b_jS_checkIndex 2 none 1 0 0 [.int x, .int n] S I J (fun v S' I' J' => v = none ∧ S = S' ∧ I = I' ∧ J = J') := by
  refine qMet.of (L := [some (.int x), some (.int n)]) (by decide +kernel) (Nat.le_of_ble_eq_true rfl) rfl ?_
  refine ldi_n_2_0 d_jS_checkIndex_0 ?_
  refine ldi_n_2_1 d_jS_checkIndex_1 ?_
  refine r_sioobe rfl d_jS_checkIndex_2 (fun r => ?_)
  refine r_callS (As := [.int x, .int n, va_rf r]) k_jS_1059 sw_jP_checkIndex rfl (by decide) d_jS_checkIndex_5 (c_pCheck h0 h1) rfl (Nat.le_of_ble_eq_true rfl) (by omega) (by omega) (by omega) (fun v S' I' J' hq => ?_)
  obtain ⟨rfl, rfl, rfl, rfl⟩ := hq
  refine r_pop d_jS_checkIndex_8 rfl ?_
  exact r_vret d_jS_checkIndex_9 rfl (by omega) (by omega) ⟨rfl, rfl, rfl, rfl⟩
def qchar (i k : Nat) : Int32 := (qByt.getD i []).getD k 0
theorem qchar_ok : ∀ i, i < 7 → qLen.getD i 0 < 100 ∧ ∀ k, k < qLen.getD i 0 → ((qchar i k &&& 255).toUInt32 % 65536).toInt32 = qchar i k ∧ narrow .char (.int (qchar i k)) = .int (qchar i k) ∧ (qchar i k).toInt8.toInt32 = qchar i k := by decide +kernel
theorem c_lCharAt {i k : Nat} (hi : i < 7) (hk : k < qLen.getD i 0) : qMet E y_jL_charAt b_jL_charAt 2 (some .char) 2 0 0 [.ref (qsV E i), .int (nI k)] S I J (qPi S I J (qchar i k)) := by
  have hn := (qchar_ok i hi).1
  obtain ⟨e1, e2, -⟩ := (qchar_ok i hi).2 k hk
  refine qMet.of (L := [some (.ref (qsV E i)), some (.int (nI k))]) (by decide +kernel) (Nat.le_of_ble_eq_true rfl) rfl ?_
  refine ldi_n_2_1 d_jL_charAt_0 ?_
  refine lda_n_2_0 d_jL_charAt_1 ?_
  refine r_strL (v := nI (qLen.getD i 0)) hi rfl d_jL_charAt_2 ?_
  refine r_callS (As := [.int (nI k), .int (nI (qLen.getD i 0))]) k_jL_9 sw_jS_checkIndex rfl (by decide) d_jL_charAt_3 (c_sCheck (nI_pos (by omega)) (nI_lt hk (by omega))) rfl (Nat.le_of_ble_eq_true rfl) (by omega) (by omega) (by omega) (fun v S' I' J' hq => ?_)
  obtain ⟨rfl, rfl, rfl, rfl⟩ := hq
  refine lda_n_2_0 d_jL_charAt_6 ?_
  refine ldi_n_2_1 d_jL_charAt_7 ?_
  refine r_strB hi (vp_in_nI hk (by omega)) d_jL_charAt_8 ?_
  rw [qcl (by omega)]
  refine r_sipush (v := 255) d_jL_charAt_9 rfl ?_
  refine r_iand d_jL_charAt_12 ?_
  refine r_i2c d_jL_charAt_13 ?_
  show qW _ _ _ _ _ _ _ _ _ _ _ _ [.int ((qchar i k &&& 255).toUInt32 % 65536).toInt32] _ _ _
  rw [e1]
  exact r_nret d_jL_charAt_14 rfl e2 (by omega) (by omega) ⟨rfl, rfl, rfl, rfl⟩
theorem c_charAt {i k : Nat} (hi : i < 7) (hk : k < qLen.getD i 0) : qMet E y_jS_charAt b_jS_charAt 2 (some .char) 3 0 0 [.ref (qsK E i), .int (nI k)] S I J (qPi S I J (qchar i k)) := by
  obtain ⟨-, e2, -⟩ := (qchar_ok i hi).2 k hk
  refine qMet.of (L := [some (.ref (qsK E i)), some (.int (nI k))]) (by decide +kernel) (Nat.le_of_ble_eq_true rfl) rfl ?_
  refine lda_n_2_0 d_jS_charAt_0 ?_
  refine r_callStr (As := []) hi k_jS_492 im_jS_isLatin1 se_jS_isLatin1 rfl (by decide) d_jS_charAt_1 (c_isLatin1 hi) rfl (Nat.le_of_ble_eq_true rfl) (by omega) (by omega) (by omega) (fun v S' I' J' hq => ?_)
  obtain ⟨rfl, rfl, rfl, rfl⟩ := hq
  refine r_if_eq (tgt := 16) d_jS_charAt_4 (by decide) (fun c => absurd c (by decide)) (fun c => ?_)
  refine lda_n_2_0 d_jS_charAt_7 ?_
  refine r_strV hi rfl d_jS_charAt_8 ?_
  refine ldi_n_2_1 d_jS_charAt_11 ?_
  refine r_callS (As := [.ref (qsV E i), .int (nI k)]) k_jS_495 sw_jL_charAt rfl (by decide) d_jS_charAt_12 (c_lCharAt hi hk) rfl (Nat.le_of_ble_eq_true rfl) (by omega) (by omega) (by omega) (fun v S' I' J' hq => ?_)
  obtain ⟨rfl, rfl, rfl, rfl⟩ := hq
  exact r_nret d_jS_charAt_15 rfl e2 (by omega) (by omega) ⟨rfl, rfl, rfl, rfl⟩
end QJDK
