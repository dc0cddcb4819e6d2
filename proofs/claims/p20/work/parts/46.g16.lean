/-! the JDK's search for a sign in a text that the program holds -/
def pfd : List Int32 → Nat → Int32 → Int32
  | [], _, _ => -1
  | c :: l, k, x => if c = x then nI k else pfd l (k + 1) x
theorem i2b_ok : ∀ k, k < 128 → (nI k).toInt8.toInt32 = nI k := by decide +kernel
section G16
variable {E : qE} {S : qSh} {I : qI} {J : qJ}
theorem c_canEncode {x : Nat} (hx : x < 128) : qMet E y_jL_canEncode b_jL_canEncode 1 (some .boolean) 0 0 0 [.int (nI x)] S I J (qPi S I J 1) := by
  refine qMet.of (L := [some (.int (nI x))]) (by decide +kernel) (Nat.le_of_ble_eq_true rfl) rfl ?_
  refine ldi_n_1_0 (pc := 0) d_jL_canEncode_0 ?_
  refine r_if_lt (pc := 1) (tgt := 15) d_jL_canEncode_1 (by decide) (fun c => ?_) (fun c => ?_)
  · exact absurd c (nI_pos (by omega))
  · refine ldi_n_1_0 (pc := 4) d_jL_canEncode_4 ?_
    refine r_sipush (pc := 5) (v := 255) d_jL_canEncode_5 rfl ?_
    refine r_icmp_gt (pc := 8) (tgt := 15) d_jL_canEncode_8 (by decide) (fun c2 => ?_) (fun c2 => ?_)
    · exact absurd c2 (Int32.not_lt.mpr (show nI x ≤ nI 255 from nI_le (by omega) (by omega)))
    · refine r_iconst (pc := 11) (v := 1) d_jL_canEncode_11 rfl ?_
      refine r_goto (pc := 12) (tgt := 16) d_jL_canEncode_12 (by decide) ?_
      exact r_nret d_jL_canEncode_16 rfl (qbool_n (by first | exact Or.inl rfl | exact Or.inr rfl | assumption | exact qwithin_b | exact qbit_b)) (by omega) (by omega) (⟨rfl, rfl, rfl, rfl⟩)
theorem c_indexOfChar {i x : Nat} (hi : i < 7) (hx : x < 128) : qMet E y_jL_indexOfChar b_jL_indexOfChar 6 (some .int) 0 0 0 [.ref (qsV E i), .int (nI x), .int 0, .int (nI (qLen.getD i 0))] S I J (qPi S I J (pfd (qByt.getD i []) 0 (nI x))) := by
  have hlen : qLen.getD i 0 = (qByt.getD i []).length := (by decide +kernel : ∀ i, i < 7 → qLen.getD i 0 = (qByt.getD i []).length) i hi
  have hl100 : qLen.getD i 0 < 100 := (qchar_ok i hi).1
  refine qMet.of (L := [some (.ref (qsV E i)), some (.int (nI x)), some (.int 0), some (.int (nI (qLen.getD i 0))), none, none]) (by decide +kernel) (Nat.le_of_ble_eq_true rfl) rfl ?_
  refine ldi_n_6_1 (pc := 0) d_jL_indexOfChar_0 ?_
  refine r_i2b (pc := 1) d_jL_indexOfChar_1 ?_
  rw [i2b_ok x hx]
  refine sti_6_4 (pc := 2) d_jL_indexOfChar_2 rfl ?_
  refine ldi_n_6_2 (pc := 4) d_jL_indexOfChar_4 ?_
  refine sti_6_5 (pc := 5) d_jL_indexOfChar_5 rfl ?_
  have key := qfor (P := fun k => pfd ((qByt.getD i []).drop k) k (nI x) = pfd (qByt.getD i []) 0 (nI x) → qW E y_jL_indexOfChar b_jL_indexOfChar (some .int) 0 0 0 (qPi S I J (pfd (qByt.getD i []) 0 (nI x))) 0 0 7 [some (.ref (qsV E i)), some (.int (nI x)), some (.int 0), some (.int (nI (qLen.getD i 0))), some (.int (nI x)), some (.int (nI k))] [] S I J) (qLen.getD i 0) ?_ ?_ 0 (by omega)
  · exact key rfl
  · intro e
    rw [hlen, List.drop_length] at e
    refine ldi_6_5 (pc := 7) d_jL_indexOfChar_7 ?_
    refine ldi_n_6_3 (pc := 9) d_jL_indexOfChar_9 ?_
    refine r_icmp_ge (pc := 10) (tgt := 31) d_jL_indexOfChar_10 (by decide) (fun c1 => ?_) (fun c1 => ?_)
    · refine r_iconst (pc := 31) (v := (-1)) d_jL_indexOfChar_31 rfl ?_
      exact r_iret d_jL_indexOfChar_32 rfl (by omega) (by omega) (⟨by rw [← e]; rfl, rfl, rfl, rfl⟩)
    · exact absurd (nI_le (Nat.le_refl _) (by omega)) c1
  · intro k hk ih e
    have hk2 : k < (qByt.getD i []).length := by omega
    have ec : (qByt.getD i []).drop k = qchar i k :: (qByt.getD i []).drop (k + 1) := by
      rw [List.drop_eq_getElem_cons hk2]
      unfold qchar
      generalize qByt.getD i [] = l at hk2
      rw [List.getD_eq_getElem?_getD, List.getElem?_eq_getElem hk2]
      rfl
    rw [ec, pfd] at e
    refine ldi_6_5 (pc := 7) d_jL_indexOfChar_7 ?_
    refine ldi_n_6_3 (pc := 9) d_jL_indexOfChar_9 ?_
    refine r_icmp_ge (pc := 10) (tgt := 31) d_jL_indexOfChar_10 (by decide) (fun c1 => ?_) (fun c1 => ?_)
    · exact absurd c1 (nI_ge hk (by omega))
    · refine lda_n_6_0 (pc := 13) d_jL_indexOfChar_13 ?_
      refine ldi_6_5 (pc := 14) d_jL_indexOfChar_14 ?_
      refine r_strB hi (vp_in_nI hk (by omega)) d_jL_indexOfChar_16 ?_
      rw [qcl (by omega)]
      refine ldi_6_4 (pc := 17) d_jL_indexOfChar_17 ?_
      refine r_icmp_ne (pc := 19) (tgt := 25) d_jL_indexOfChar_19 (by decide) (fun c2 => ?_) (fun c2 => ?_)
      · rw [if_neg (show ¬ qchar i k = nI x from c2)] at e
        refine inc_6_5 (pc := 25) (w := 1) d_jL_indexOfChar_25 rfl rfl ?_
        refine r_goto (pc := 28) (tgt := 7) d_jL_indexOfChar_28 (by decide) ?_
        rw [q1]
        exact ih e
      · rw [if_pos (show qchar i k = nI x from c2)] at e
        refine ldi_6_5 (pc := 22) d_jL_indexOfChar_22 ?_
        exact r_iret d_jL_indexOfChar_24 rfl (by omega) (by omega) (⟨by rw [← e], rfl, rfl, rfl⟩)
theorem c_lIndexOf {i x : Nat} (hi : i < 7) (hx : x < 128) : qMet E y_jL_indexOf b_jL_indexOf 4 (some .int) 1 0 0 [.ref (qsV E i), .int (nI x), .int 0, .int (nI (qLen.getD i 0))] S I J (qPi S I J (pfd (qByt.getD i []) 0 (nI x))) := by
  have hl100 : qLen.getD i 0 < 100 := (qchar_ok i hi).1
  have hl0 : 0 < qLen.getD i 0 := (by decide +kernel : ∀ i, i < 7 → 0 < qLen.getD i 0) i hi
  refine qMet.of (L := [some (.ref (qsV E i)), some (.int (nI x)), some (.int 0), some (.int (nI (qLen.getD i 0)))]) (by decide +kernel) (Nat.le_of_ble_eq_true rfl) rfl ?_
  refine ldi_n_4_1 (pc := 0) d_jL_indexOf_0 ?_
  refine r_callS (pc := 1) (As := [.int (nI x)]) k_jL_88 sw_jL_canEncode rfl (by decide) d_jL_indexOf_1 (c_canEncode hx) rfl (Nat.le_of_ble_eq_true rfl) (by omega) (by omega) (by omega) (fun v S' I' J' hq => ?_)
  obtain ⟨rfl, rfl, rfl, rfl⟩ := hq
  refine r_if_ne (pc := 4) (tgt := 9) d_jL_indexOf_4 (by decide) (fun c => ?_) (fun c => ?_)
  · refine ldi_n_4_2 (pc := 9) d_jL_indexOf_9 ?_
    refine r_iconst (pc := 10) (v := 0) d_jL_indexOf_10 rfl ?_
    refine r_callS (pc := 11) (As := [.int 0, .int 0]) k_jL_92 sw_jM_max rfl (by decide) d_jL_indexOf_11 (c_max 0 0) rfl (Nat.le_of_ble_eq_true rfl) (by omega) (by omega) (by omega) (fun v S' I' J' hq => ?_)
    obtain ⟨rfl, rfl, rfl, rfl⟩ := hq
    refine sti_n_4_2 (pc := 14) d_jL_indexOf_14 rfl ?_
    refine ldi_n_4_3 (pc := 15) d_jL_indexOf_15 ?_
    refine lda_n_4_0 (pc := 16) d_jL_indexOf_16 ?_
    refine r_strL (v := nI (qLen.getD i 0)) hi rfl d_jL_indexOf_17 ?_
    refine r_callS (pc := 18) (As := [.int (nI (qLen.getD i 0)), .int (nI (qLen.getD i 0))]) k_jL_38 sw_jM_min rfl (by decide) d_jL_indexOf_18 (c_min _ _) rfl (Nat.le_of_ble_eq_true rfl) (by omega) (by omega) (by omega) (fun v S' I' J' hq => ?_)
    obtain ⟨rfl, rfl, rfl, rfl⟩ := hq
    have e1 : qmin (nI (qLen.getD i 0)) (nI (qLen.getD i 0)) = nI (qLen.getD i 0) := by unfold qmin; split <;> rfl
    rw [e1]
    refine sti_n_4_3 (pc := 21) d_jL_indexOf_21 rfl ?_
    refine ldi_n_4_2 (pc := 22) d_jL_indexOf_22 ?_
    refine ldi_n_4_3 (pc := 23) d_jL_indexOf_23 ?_
    refine r_icmp_lt (pc := 24) (tgt := 29) d_jL_indexOf_24 (by decide) (fun c2 => ?_) (fun c2 => ?_)
    · refine lda_n_4_0 (pc := 29) d_jL_indexOf_29 ?_
      refine ldi_n_4_1 (pc := 30) d_jL_indexOf_30 ?_
      refine ldi_n_4_2 (pc := 31) d_jL_indexOf_31 ?_
      refine ldi_n_4_3 (pc := 32) d_jL_indexOf_32 ?_
      refine r_callS (pc := 33) (As := [.ref (qsV E i), .int (nI x), .int 0, .int (nI (qLen.getD i 0))]) k_jL_95 sw_jL_indexOfChar rfl (by decide) d_jL_indexOf_33 (c_indexOfChar hi hx) rfl (Nat.le_of_ble_eq_true rfl) (by omega) (by omega) (by omega) (fun v S' I' J' hq => ?_)
      obtain ⟨rfl, rfl, rfl, rfl⟩ := hq
      exact r_iret d_jL_indexOf_36 rfl (by omega) (by omega) (⟨rfl, rfl, rfl, rfl⟩)
    · exact absurd (show nI 0 < nI (qLen.getD i 0) from nI_lt hl0 (by omega)) c2
  · exact absurd c (by decide)
theorem c_indexOf2 {i x : Nat} (hi : i < 7) (hx : x < 128) : qMet E y_jS_indexOf2 b_jS_indexOf2 3 (some .int) 2 0 0 [.ref (qsK E i), .int (nI x), .int 0] S I J (qPi S I J (pfd (qByt.getD i []) 0 (nI x))) := by
  refine qMet.of (L := [some (.ref (qsK E i)), some (.int (nI x)), some (.int 0)]) (by decide +kernel) (Nat.le_of_ble_eq_true rfl) rfl ?_
  refine lda_n_3_0 (pc := 0) d_jS_indexOf2_0 ?_
  refine r_callStr (pc := 1) (As := []) hi k_jS_492 im_jS_isLatin1 se_jS_isLatin1 rfl (by decide) d_jS_indexOf2_1 (c_isLatin1 hi) rfl (Nat.le_of_ble_eq_true rfl) (by omega) (by omega) (by omega) (fun v S' I' J' hq => ?_)
  obtain ⟨rfl, rfl, rfl, rfl⟩ := hq
  refine r_if_eq (pc := 4) (tgt := 23) d_jS_indexOf2_4 (by decide) (fun c => ?_) (fun c => ?_)
  · exact absurd c (by decide)
  · refine lda_n_3_0 (pc := 7) d_jS_indexOf2_7 ?_
    refine r_strV hi rfl d_jS_indexOf2_8 ?_
    refine ldi_n_3_1 (pc := 11) d_jS_indexOf2_11 ?_
    refine ldi_n_3_2 (pc := 12) d_jS_indexOf2_12 ?_
    refine lda_n_3_0 (pc := 13) d_jS_indexOf2_13 ?_
    refine r_callStr (pc := 14) (As := []) hi k_jS_505 im_jS_length se_jS_length rfl (by decide) d_jS_indexOf2_14 (c_length hi) rfl (Nat.le_of_ble_eq_true rfl) (by omega) (by omega) (by omega) (fun v S' I' J' hq => ?_)
    obtain ⟨rfl, rfl, rfl, rfl⟩ := hq
    refine r_callS (pc := 17) (As := [.ref (qsV E i), .int (nI x), .int 0, .int (nI (qLen.getD i 0))]) k_jS_637 sw_jL_indexOf rfl (by decide) d_jS_indexOf2_17 (c_lIndexOf hi hx) rfl (Nat.le_of_ble_eq_true rfl) (by omega) (by omega) (by omega) (fun v S' I' J' hq => ?_)
    obtain ⟨rfl, rfl, rfl, rfl⟩ := hq
    refine r_goto (pc := 20) (tgt := 36) d_jS_indexOf2_20 (by decide) ?_
    exact r_iret d_jS_indexOf2_36 rfl (by omega) (by omega) (⟨rfl, rfl, rfl, rfl⟩)
theorem c_indexOf1 {i x : Nat} (hi : i < 7) (hx : x < 128) : qMet E y_jS_indexOf1 b_jS_indexOf1 2 (some .int) 3 0 0 [.ref (qsK E i), .int (nI x)] S I J (qPi S I J (pfd (qByt.getD i []) 0 (nI x))) := by
  refine qMet.of (L := [some (.ref (qsK E i)), some (.int (nI x))]) (by decide +kernel) (Nat.le_of_ble_eq_true rfl) rfl ?_
  refine lda_n_2_0 (pc := 0) d_jS_indexOf1_0 ?_
  refine ldi_n_2_1 (pc := 1) d_jS_indexOf1_1 ?_
  refine r_iconst (pc := 2) (v := 0) d_jS_indexOf1_2 rfl ?_
  refine r_callStr (pc := 3) (As := [.int (nI x), .int 0]) hi k_jS_633 im_jS_indexOf2 se_jS_indexOf2 rfl (by decide) d_jS_indexOf1_3 (c_indexOf2 hi hx) rfl (Nat.le_of_ble_eq_true rfl) (by omega) (by omega) (by omega) (fun v S' I' J' hq => ?_)
  obtain ⟨rfl, rfl, rfl, rfl⟩ := hq
  exact r_iret d_jS_indexOf1_6 rfl (by omega) (by omega) (⟨rfl, rfl, rfl, rfl⟩)
end G16
