/-! the fresh object and the fresh reference, as the law finds them; the walk -/
theorem qMgJ_row {S : qSh} {x a : Nat} {I : qI} : ∀ n, (∀ k, k < n → a ≠ qN S + 2 * k) → qMgJ S x I n a = I a := by
  intro n
  induction n with
  | zero => intro _; rfl
  | succ n ih =>
    intro h
    rw [qMgJ, qup_row (by rw [qN_mgL]; exact h n (Nat.lt_succ_self n)), ih (fun k hk => h k (Nat.lt_succ_of_lt hk))]
theorem onN2 : qN (qMg5 (qpush onA1 3 0) 6 1) = 21 := by decide +kernel
theorem onN3 : qN (qMg5 (qpush onA2 3 0) 33 1) = 48 := by decide +kernel
theorem onN4 : qN (qMg5 (qpush onA3 3 0) 60 1) = 75 := by decide +kernel
theorem onK_row {a : Nat} : ∀ t, (∀ k, k < t → a ≠ 102 + 2 * k) → onK t a = onI4 a := by
  intro t
  induction t with
  | zero => intro _; rfl
  | succ t ih =>
    intro h
    rw [onK, qup_row (h t (Nat.lt_succ_self t)), ih (fun k hk => h k (Nat.lt_succ_of_lt hk))]
theorem onI_zero {a : Nat} (h1 : ∀ k, k < 6 → a ≠ 102 + 2 * k) (h2 : ∀ k, k < 6 → a ≠ 21 + 2 * k) (h3 : ∀ k, k < 6 → a ≠ 48 + 2 * k) (h4 : ∀ k, k < 6 → a ≠ 75 + 2 * k) : onI a = fun _ => 0 := by
  unfold onI
  rw [onK_row 6 h1]
  unfold onI4 qMgI
  rw [qMgJ_row 6 (by rw [onN4]; exact h4)]
  unfold onI3 qMgI
  rw [qMgJ_row 6 (by rw [onN3]; exact h3)]
  unfold onI2 qMgI
  rw [qMgJ_row 6 (by rw [onN2]; exact h2)]
  rfl
theorem mdIl_row {a : Nat} (h1 : a ≠ 145) (h2 : a ≠ 114) : ∀ t, mdIl t a = onI a := by
  intro t
  induction t with
  | zero => exact qup_row h2
  | succ t ih => rw [mdIl, qup_row h1, ih]
theorem mdI_row {a : Nat} (h0 : a ≠ 145) (h9 : a ≠ 114) (h1 : ∀ k, k < 6 → a ≠ 102 + 2 * k) (h2 : ∀ k, k < 6 → a ≠ 21 + 2 * k) (h3 : ∀ k, k < 6 → a ≠ 48 + 2 * k) (h4 : ∀ k, k < 6 → a ≠ 75 + 2 * k) : mdI a = fun _ => 0 := by
  unfold mdI
  rw [mdIl_row h0 h9, onI_zero h1 h2 h3 h4]
theorem mdI_zero {a j : Nat} (h0 : a ≠ 145) (h9 : a ≠ 114) (h1 : ∀ k, k < 6 → a ≠ 102 + 2 * k) (h2 : ∀ k, k < 6 → a ≠ 21 + 2 * k) (h3 : ∀ k, k < 6 → a ≠ 48 + 2 * k) (h4 : ∀ k, k < 6 → a ≠ 75 + 2 * k) : mdI a j = 0 := by
  rw [mdI_row h0 h9 h1 h2 h3 h4]
theorem mdI_z {a j : Nat} (h : a < 21 ∨ (115 ≤ a ∧ a ≠ 145) ∨ (87 ≤ a ∧ a < 102) ∨ a = 33 ∨ a = 39 ∨ a = 60 ∨ a = 66) : mdI a j = 0 := mdI_zero (by omega) (by omega) (fun k hk => by omega) (fun k hk => by omega) (fun k hk => by omega) (fun k hk => by omega)
theorem mdIl_114 {j : Nat} (h : j ≠ 18) : ∀ t, mdIl t 114 j = onI 114 j := by
  intro t
  induction t with
  | zero => exact qup_j h
  | succ t ih => rw [mdIl, qup_o (by decide), ih]
theorem mdI_114 {j : Nat} (h : j ≠ 18) : mdI 114 j = 0 := by
  unfold mdI
  rw [mdIl_114 h, onI_zero (fun k hk => by omega) (fun k hk => by omega) (fun k hk => by omega) (fun k hk => by omega)]
theorem mdI_11418 : mdI 114 18 = -1 := by decide +kernel
set_option maxRecDepth 20000 in
theorem mdOn_ok : isOn mdSh 1 1 1 89 := by
  unfold isOn isMg isIs isRe isRo isAc isTa isNo isMo qT qAr
  repeat' apply And.intro
  all_goals decide +kernel
set_option maxRecDepth 20000 in
theorem mdN : qN mdSh = 148 := by decide +kernel
theorem mdQm6 : ∀ p, p < 6 → mdI (qm 6 p) 6 = 0 ∨ mdI (qm 6 p) 6 = 1 := by decide +kernel
theorem mdQm33 : ∀ p, p < 6 → mdI (qm 33 p) 6 = 0 ∨ mdI (qm 33 p) 6 = 1 := by decide +kernel
theorem mdQm60 : ∀ p, p < 6 → mdI (qm 60 p) 6 = 0 ∨ mdI (qm 60 p) 6 = 1 := by decide +kernel
theorem mdTp : ∀ t, t < 6 → mdI (102 + 2 * t) 1 = 0 := by decide +kernel
theorem md12 : mdI 12 3 = 0 ∧ mdI 9 3 = 0 := by decide +kernel
theorem mdZ : qZ mdSh mdI zJ := fun a ha => by
  rw [mdN] at ha
  exact ⟨mdI_row (by omega) (by omega) (fun k hk => by omega) (fun k hk => by omega) (fun k hk => by omega) (fun k hk => by omega), rfl⟩
theorem md_cDat : cDat mdI 1 1 := by
  have z : ∀ a j, (a < 21 ∨ (115 ≤ a ∧ a ≠ 145) ∨ (87 ≤ a ∧ a < 102) ∨ a = 33 ∨ a = 39 ∨ a = 60 ∨ a = 66) → mdI a j = nI 0 := fun a j h => mdI_z h
  have is : qIsOK mdI 1 := ⟨⟨0, by omega, z _ _ (by omega), fun j hj => absurd hj (Nat.not_lt_zero _)⟩, 0, by omega, z _ _ (by omega)⟩
  refine ⟨⟨⟨0, by omega, z _ _ (by omega)⟩, ⟨0, by omega, z _ _ (by omega)⟩, ⟨0, by omega, z _ _ (by omega)⟩, ⟨0, by omega, z _ _ (by omega)⟩, ⟨0, by omega, z _ _ (by omega)⟩, ⟨0, by omega, z _ _ (by omega)⟩, mdQm6, fun r _ => ⟨0, by omega, z _ _ (by omega)⟩⟩, is, is, ?_, ⟨mdQm60, fun r _ => ⟨0, by omega, z _ _ (by omega)⟩⟩, Or.inl (z _ _ (by omega)), ⟨0, by omega, z _ _ (by omega), fun j hj => absurd hj (Nat.not_lt_zero _)⟩, fun t ht => ⟨0, by omega, mdTp t ht⟩, 0, by omega, z _ _ (by omega)⟩
  exact ⟨mdQm33, fun r _ => ⟨0, by omega, z _ _ (by omega)⟩⟩
theorem md_rDat : rDat mdI := by
  have z : ∀ a j, (a < 21 ∨ (115 ≤ a ∧ a ≠ 145) ∨ (87 ≤ a ∧ a < 102) ∨ a = 33 ∨ a = 39 ∨ a = 60 ∨ a = 66) → mdI a j = nI 0 := fun a j h => mdI_z h
  have f : ∀ j, j ≠ 18 → mdI 114 j = nI 0 := fun j h => mdI_114 h
  have kz : ∀ j, j < 123 → kp mdI j = nI 0 := fun j hj => by
    obtain ⟨q1, q2⟩ := kpa_isl j hj
    have q3 := kpa_in j (by omega)
    unfold kp
    by_cases y : (kpa j).1 = 114
    · rw [y]; exact f _ (by have := q2 y; omega)
    · exact z _ _ (by have := kpa_c (j := j) (by omega); unfold kpc at this; omega)
  refine ⟨0, ⟨by omega, f _ (by decide), 0, by omega, f _ (by decide), fun h hh => absurd hh (Nat.not_lt_zero _)⟩, ⟨fun p hp => ⟨0, by omega, kz _ (by omega)⟩, ⟨0, by omega, kz _ (by omega), 0, by omega, kz _ (by omega), fun i hi => absurd hi (Nat.not_lt_zero _), fun i j _ hj => absurd hj (Nat.not_lt_zero _)⟩, fun k hk => ⟨0, by omega, kz _ (by omega)⟩, ⟨0, by omega, kz _ (by omega)⟩, ⟨0, by omega, kz _ (by omega)⟩, ⟨0, by omega, kz _ (by omega)⟩, ⟨0, by omega, kz _ (by omega)⟩, Or.inl ?_, fun i hi => ⟨0, by omega, kz _ (by omega)⟩, fun i hi => ⟨0, by omega, kz _ (by omega)⟩, fun i hi => ⟨0, by omega, kz _ (by omega)⟩⟩, Or.inl (f _ (by decide)), ⟨0, by omega, f _ (by decide), fun j hj => absurd hj (Nat.not_lt_zero _)⟩, ⟨0, f _ (by decide)⟩, ⟨0, by omega, f _ (by decide)⟩, fun t ht => ⟨0, by omega, z _ _ (by omega)⟩⟩
  unfold kp; rw [kpa_nf18]; exact mdI_11418
theorem md_kz : ∀ j, j < 123 → kp mdI j = 0 := by
  have z : ∀ a j, (a < 21 ∨ (115 ≤ a ∧ a ≠ 145) ∨ (87 ≤ a ∧ a < 102) ∨ a = 33 ∨ a = 39 ∨ a = 60 ∨ a = 66) → mdI a j = 0 := fun a j h => mdI_z h
  have f : ∀ j, j ≠ 18 → mdI 114 j = 0 := fun j h => mdI_114 h
  intro j hj
  obtain ⟨q1, q2⟩ := kpa_isl j hj
  have q3 := kpa_in j (by omega)
  unfold kp
  by_cases y : (kpa j).1 = 114
  · rw [y]; exact f _ (by have := q2 y; omega)
  · exact z _ _ (by have := kpa_c (j := j) (by omega); unfold kpc at this; omega)
theorem mdTp0 : ∀ t, t < 6 → mdI 145 t = -1 ∧ mdI (102 + 2 * t) 0 = -1 := by decide +kernel
theorem mdQm0 : ∀ p, p < 6 → mdI (qm 6 p) 0 = nI p := by decide +kernel
theorem md_tie : xTie mdI zJ := by
  have z : ∀ a j, (a < 21 ∨ (115 ≤ a ∧ a ≠ 145) ∨ (87 ≤ a ∧ a < 102) ∨ a = 33 ∨ a = 39 ∨ a = 60 ∨ a = 66) → mdI a j = 0 := fun a j h => mdI_z h
  refine ⟨⟨?_, ?_, ?_, ?_, ?_, ?_, fun c p hc e hp => ?_, fun l i hl e hi => ?_⟩, ?_, fun h => ?_, fun t ht => ?_, ⟨?_, fun j hj hk => ?_, mdQm0⟩, ?_, ?_, fun j hj hk => ?_⟩
  · rw [md_kz _ (by omega), z _ _ (by omega)]
  · rw [md_kz _ (by omega), z _ _ (by omega)]
  · rw [md_kz _ (by omega), z _ _ (by omega)]
  · rw [md_kz _ (by omega), z _ _ (by omega)]
  · rw [md_kz _ (by omega), z _ _ (by omega)]
  · rw [md_kz _ (by omega), z _ _ (by omega)]
  · rw [z _ _ (by omega)] at e
    have : 0 = c := (nI_eq (by omega) (by omega)).mp (show nI 0 = nI c from e)
    omega
  · rw [z _ _ (by omega)] at e
    have : 0 = l := (nI_eq (by omega) (by omega)).mp (show nI 0 = nI l from e)
    omega
  · rw [mdI_114 (by decide), z _ _ (by omega)]
  · rw [z _ _ (by omega)] at h; exact absurd h (by decide)
  · obtain ⟨b1, b2⟩ := mdTp0 t ht
    rw [b1, b2, mdTp t ht, z 146 _ (by omega)]
    exact ⟨rfl, rfl, fun _ _ => rfl, Or.inl ⟨rfl, rfl⟩⟩
  · rw [mdI_114 (by decide), z _ _ (by omega)]
  · rw [z 99 _ (by omega)] at hk
    exact absurd hk (Int32.not_lt.mpr ((nI_leI (a := 0) (by omega) (by omega)).mpr (Nat.zero_le _)))
  · rw [z 0 _ (by omega), mdI_114 (by decide)]
  · rw [z 87 _ (by omega), mdI_114 (by decide)]
  · rw [z 87 _ (by omega)] at hk
    exact absurd hk (nlt0 (by omega))
theorem md_g : xINV mdSh mdI zJ := by
  refine ⟨⟨1, 1, 1, 89, mdOn_ok, mdZ, by rw [mdN]; omega, ?_, md_cDat⟩, mdS_ok, md_rDat, md_tie⟩
  unfold cIds qW1
  omega
theorem md_v : vINV mdSh mdI zJ := by
  have z : ∀ a j, (a < 21 ∨ (115 ≤ a ∧ a ≠ 145) ∨ (87 ≤ a ∧ a < 102) ∨ a = 33 ∨ a = 39 ∨ a = 60 ∨ a = 66) → mdI a j = 0 := fun a j h => mdI_z h
  refine ⟨md_g, fun w hw => Or.inl ⟨mdI_11418, ?_, ?_⟩, fun c p hc e hp => ?_, fun h => ?_⟩
  · rw [mdOn_ok.p6.1] at hw
    obtain rfl := Option.some.inj hw
    exact z _ _ (by omega)
  · rw [mdOn_ok.p6.1] at hw
    obtain rfl := Option.some.inj hw
    exact z _ _ (by omega)
  · rw [z _ _ (by omega)] at e
    have : 0 = c := (nI_eq (by omega) (by omega)).mp (show nI 0 = nI c from e)
    omega
  · rw [z _ _ (by omega)] at h
    exact absurd h (by decide)
theorem mdQm330 : ∀ p, p < 6 → mdI (qm 33 p) 0 = nI p := by decide +kernel
theorem md_u : uINV mdSh mdI zJ := by
  have z : ∀ a j, (a < 21 ∨ (115 ≤ a ∧ a ≠ 145) ∨ (87 ≤ a ∧ a < 102) ∨ a = 33 ∨ a = 39 ∨ a = 60 ∨ a = 66) → mdI a j = 0 := fun a j h => mdI_z h
  have no : ∀ a z k, a < 21 → mdI a 3 = nI z → z ≤ 10 → k < z → False := fun a z' k ha e hz hk => u_zero (K := mdI) (z _ _ (by omega)) e hz hk
  refine ⟨md_v, ⟨fun z k hz e hk => (no (6 + 3) z k (by omega) e (by omega) hk).elim, fun z k hz e hk => (no (6 + 7) z k (by omega) e (by omega) hk).elim, fun z k hz e hk => (no (6 + 11) z k (by omega) e (by omega) hk).elim⟩, fun h => ?_, mdQm330⟩
  rw [z _ _ (by omega)] at h
  exact absurd h (by decide)
theorem md_t : tINV mdSh mdI zJ := by
  have z : ∀ a j, (a < 21 ∨ (115 ≤ a ∧ a ≠ 145) ∨ (87 ≤ a ∧ a < 102) ∨ a = 33 ∨ a = 39 ∨ a = 60 ∨ a = 66) → mdI a j = 0 := fun a j h => mdI_z h
  refine ⟨md_u, fun j hj hd => ?_, fun j hj hd => ?_, fun w hw => ?_, fun h => ?_⟩
  · have e : kp mdI j = 0 := by
      unfold kp
      exact z _ _ (by have := kpa_t j hj; omega)
    rw [e]
    exact bN.z
  · rw [z 139 j (by omega)]
    exact bN.z
  · rw [mdOn_ok.p6.1] at hw
    obtain rfl := Option.some.inj hw
    intro z' hz e j hj
    rw [z _ _ (by omega)] at e
    have : 0 = z' := (nI_eq (by omega) (by omega)).mp (show nI 0 = nI z' from e)
    omega
  · rw [z _ _ (by omega)] at h
    exact absurd h (by decide)
theorem lt6 : ∀ L, L < 6 → Int32.ofNat L - 6 < 0 := by decide +kernel
theorem lwgt {L t : Nat} (hL : L ≤ 3072) (ht : t ≤ 513) (h : ¬ Int32.ofNat L - 6 < nI (6 * t)) : 6 * t + 6 ≤ L := by
  rcases Nat.lt_or_ge L 6 with q | q
  · refine absurd (Int32.lt_of_lt_of_le (lt6 L q) ?_) h
    exact (nI_leI (a := 0) (by omega) (by omega)).mpr (Nat.zero_le _)
  · have e : Int32.ofNat L - 6 = nI (L - 6) := by
      have := lwi6 (L - 6)
      rw [show L - 6 + 6 = L by omega] at this
      show nI L - 6 = nI (L - 6)
      rw [← this, Int32.add_sub_cancel]
    rw [e, nI_ltI (by omega) (by omega)] at h
    omega
section LWW
variable {E : qE}
abbrev Q1 : qPost := fun v _ _ _ => v = some (.int 1)
theorem law_step {t c s : Nat} {S : qSh} {I : qI} {J : qJ} (hL : qsl E ≤ 3072) (ht : t ≤ 513) (hc : c + 5 ≤ 600000) (hs : s + 133 ≤ 7302250) (g : tINV S I J) (kend : 6 * t + 6 ≤ qsl E → qEnd E c s (6 * t) Q1) : qW E y_L_law b_L_law (some .boolean) 1312 600000 7302250 Q1 c s 18 [some (.ref (qsc E)), some (.ref (qb E + 0)), some (.ref (qb E + 114)), some (.int (nI (6 * t)))] [] S I J := by
  refine ldi_n_4_3 (pc := 18) d_L_law_18 ?_
  refine lda_n_4_0 (pc := 19) d_L_law_19 ?_
  refine r_slen (pc := 20) d_L_law_20 ?_
  refine r_bipush (pc := 21) (v := 6) d_L_law_21 rfl ?_
  refine r_isub (pc := 23) d_L_law_23 ?_
  refine r_icmp_gt (pc := 24) (tgt := 1279) d_L_law_24 (by decide) (fun c => ?_) (fun c => ?_)
  · refine r_iconst (pc := 1279) (v := 1) d_L_law_1279 rfl ?_
    exact r_nret d_L_law_1280 rfl (qbool_n (by first | exact Or.inl rfl | exact Or.inr rfl | assumption | exact qwithin_b | exact qbit_b)) (by omega) (by omega) (rfl)
  · have hn := lwgt hL ht c
    have kend := kend hn
    have hn : 6 * t + 5 < qsl E := by omega
    generalize 6 * t = n at *
    refine lda_n_4_0 (pc := 27) d_L_law_27 ?_
    refine ldi_n_4_3 (pc := 28) d_L_law_28 ?_
    refine r_scr (pc := 29) (n := n) (k := 0) (lwi0 n) d_L_law_29 (by omega) hL ?_
    refine r_bipush (pc := 30) (v := 63) d_L_law_30 rfl ?_
    refine r_iand (pc := 32) d_L_law_32 ?_
    generalize (qsx E (n + 0) &&& 63) = x
    by_cases e0 : x = 0
    · refine r_tableIn (pc := 33) (off := 151) (tgt := 184) d_L_law_33 (by rw [e0]; decide) (by rw [e0]; decide) (by rw [e0]; decide +kernel) (by decide) ?_
      exact lw_case0 hc hs hn hL g kend
    by_cases e1 : x = 1
    · refine r_tableIn (pc := 33) (off := 194) (tgt := 227) d_L_law_33 (by rw [e1]; decide) (by rw [e1]; decide) (by rw [e1]; decide +kernel) (by decide) ?_
      exact lw_case1 hc hs hn hL g kend
    by_cases e2 : x = 2
    · refine r_tableIn (pc := 33) (off := 227) (tgt := 260) d_L_law_33 (by rw [e2]; decide) (by rw [e2]; decide) (by rw [e2]; decide +kernel) (by decide) ?_
      exact lw_case2 hc hs hn hL g kend
    by_cases e3 : x = 3
    · refine r_tableIn (pc := 33) (off := 270) (tgt := 303) d_L_law_33 (by rw [e3]; decide) (by rw [e3]; decide) (by rw [e3]; decide +kernel) (by decide) ?_
      exact lw_case3 hc hs hn hL g kend
    by_cases e4 : x = 4
    · refine r_tableIn (pc := 33) (off := 319) (tgt := 352) d_L_law_33 (by rw [e4]; decide) (by rw [e4]; decide) (by rw [e4]; decide +kernel) (by decide) ?_
      exact lw_case4 hc hs hn hL g kend
    by_cases e5 : x = 5
    · refine r_tableIn (pc := 33) (off := 342) (tgt := 375) d_L_law_33 (by rw [e5]; decide) (by rw [e5]; decide) (by rw [e5]; decide +kernel) (by decide) ?_
      exact lw_case5 hc hs hn hL g kend
    by_cases e6 : x = 6
    · refine r_tableIn (pc := 33) (off := 375) (tgt := 408) d_L_law_33 (by rw [e6]; decide) (by rw [e6]; decide) (by rw [e6]; decide +kernel) (by decide) ?_
      exact lw_case6 hc hs hn hL g kend
    by_cases e7 : x = 7
    · refine r_tableIn (pc := 33) (off := 418) (tgt := 451) d_L_law_33 (by rw [e7]; decide) (by rw [e7]; decide) (by rw [e7]; decide +kernel) (by decide) ?_
      exact lw_case7 hc hs hn hL g kend
    by_cases e8 : x = 8
    · refine r_tableIn (pc := 33) (off := 441) (tgt := 474) d_L_law_33 (by rw [e8]; decide) (by rw [e8]; decide) (by rw [e8]; decide +kernel) (by decide) ?_
      exact lw_case8 hc hs hn hL g kend
    by_cases e9 : x = 9
    · refine r_tableIn (pc := 33) (off := 454) (tgt := 487) d_L_law_33 (by rw [e9]; decide) (by rw [e9]; decide) (by rw [e9]; decide +kernel) (by decide) ?_
      exact lw_case9 hc hs hn hL g kend
    by_cases e10 : x = 10
    · refine r_tableIn (pc := 33) (off := 477) (tgt := 510) d_L_law_33 (by rw [e10]; decide) (by rw [e10]; decide) (by rw [e10]; decide +kernel) (by decide) ?_
      exact lw_case10 hc hs hn hL g kend
    by_cases e11 : x = 11
    · refine r_tableIn (pc := 33) (off := 500) (tgt := 533) d_L_law_33 (by rw [e11]; decide) (by rw [e11]; decide) (by rw [e11]; decide +kernel) (by decide) ?_
      exact lw_case11 hc hs hn hL g kend
    by_cases e12 : x = 12
    · refine r_tableIn (pc := 33) (off := 533) (tgt := 566) d_L_law_33 (by rw [e12]; decide) (by rw [e12]; decide) (by rw [e12]; decide +kernel) (by decide) ?_
      exact lw_case12 hc hs hn hL g kend
    by_cases e13 : x = 13
    · refine r_tableIn (pc := 33) (off := 556) (tgt := 589) d_L_law_33 (by rw [e13]; decide) (by rw [e13]; decide) (by rw [e13]; decide +kernel) (by decide) ?_
      exact lw_case13 hc hs hn hL g kend
    by_cases e14 : x = 14
    · refine r_tableIn (pc := 33) (off := 569) (tgt := 602) d_L_law_33 (by rw [e14]; decide) (by rw [e14]; decide) (by rw [e14]; decide +kernel) (by decide) ?_
      exact lw_case14 hc hs hn hL g kend
    by_cases e15 : x = 15
    · refine r_tableIn (pc := 33) (off := 602) (tgt := 635) d_L_law_33 (by rw [e15]; decide) (by rw [e15]; decide) (by rw [e15]; decide +kernel) (by decide) ?_
      exact lw_case15 hc hs hn hL g kend
    by_cases e16 : x = 16
    · refine r_tableIn (pc := 33) (off := 645) (tgt := 678) d_L_law_33 (by rw [e16]; decide) (by rw [e16]; decide) (by rw [e16]; decide +kernel) (by decide) ?_
      exact lw_case16 hc hs hn hL g kend
    by_cases e17 : x = 17
    · refine r_tableIn (pc := 33) (off := 688) (tgt := 721) d_L_law_33 (by rw [e17]; decide) (by rw [e17]; decide) (by rw [e17]; decide +kernel) (by decide) ?_
      exact lw_case17 hc hs hn hL g kend
    by_cases e18 : x = 18
    · refine r_tableIn (pc := 33) (off := 721) (tgt := 754) d_L_law_33 (by rw [e18]; decide) (by rw [e18]; decide) (by rw [e18]; decide +kernel) (by decide) ?_
      exact lw_case18 hc hs hn hL g kend
    by_cases e19 : x = 19
    · refine r_tableIn (pc := 33) (off := 745) (tgt := 778) d_L_law_33 (by rw [e19]; decide) (by rw [e19]; decide) (by rw [e19]; decide +kernel) (by decide) ?_
      exact lw_case19 hc hs hn hL g kend
    by_cases e20 : x = 20
    · refine r_tableIn (pc := 33) (off := 778) (tgt := 811) d_L_law_33 (by rw [e20]; decide) (by rw [e20]; decide) (by rw [e20]; decide +kernel) (by decide) ?_
      exact lw_case20 hc hs hn hL g kend
    by_cases e21 : x = 21
    · refine r_tableIn (pc := 33) (off := 801) (tgt := 834) d_L_law_33 (by rw [e21]; decide) (by rw [e21]; decide) (by rw [e21]; decide +kernel) (by decide) ?_
      exact lw_case21 hc hs hn hL g kend
    by_cases e22 : x = 22
    · refine r_tableIn (pc := 33) (off := 834) (tgt := 867) d_L_law_33 (by rw [e22]; decide) (by rw [e22]; decide) (by rw [e22]; decide +kernel) (by decide) ?_
      exact lw_case22 hc hs hn hL g kend
    by_cases e23 : x = 23
    · refine r_tableIn (pc := 33) (off := 847) (tgt := 880) d_L_law_33 (by rw [e23]; decide) (by rw [e23]; decide) (by rw [e23]; decide +kernel) (by decide) ?_
      exact lw_case23 hc hs hn hL g kend
    by_cases e24 : x = 24
    · refine r_tableIn (pc := 33) (off := 880) (tgt := 913) d_L_law_33 (by rw [e24]; decide) (by rw [e24]; decide) (by rw [e24]; decide +kernel) (by decide) ?_
      exact lw_case24 hc hs hn hL g kend
    by_cases e25 : x = 25
    · refine r_tableIn (pc := 33) (off := 893) (tgt := 926) d_L_law_33 (by rw [e25]; decide) (by rw [e25]; decide) (by rw [e25]; decide +kernel) (by decide) ?_
      exact lw_case25 hc hs hn hL g kend
    by_cases e26 : x = 26
    · refine r_tableIn (pc := 33) (off := 906) (tgt := 939) d_L_law_33 (by rw [e26]; decide) (by rw [e26]; decide) (by rw [e26]; decide +kernel) (by decide) ?_
      exact lw_case26 hc hs hn hL g kend
    by_cases e27 : x = 27
    · refine r_tableIn (pc := 33) (off := 949) (tgt := 982) d_L_law_33 (by rw [e27]; decide) (by rw [e27]; decide) (by rw [e27]; decide +kernel) (by decide) ?_
      exact lw_case27 hc hs hn hL g kend
    by_cases e28 : x = 28
    · refine r_tableIn (pc := 33) (off := 972) (tgt := 1005) d_L_law_33 (by rw [e28]; decide) (by rw [e28]; decide) (by rw [e28]; decide +kernel) (by decide) ?_
      exact lw_case28 hc hs hn hL g kend
    by_cases e29 : x = 29
    · refine r_tableIn (pc := 33) (off := 1005) (tgt := 1038) d_L_law_33 (by rw [e29]; decide) (by rw [e29]; decide) (by rw [e29]; decide +kernel) (by decide) ?_
      exact lw_case29 hc hs hn hL g kend
    by_cases e30 : x = 30
    · refine r_tableIn (pc := 33) (off := 1028) (tgt := 1061) d_L_law_33 (by rw [e30]; decide) (by rw [e30]; decide) (by rw [e30]; decide +kernel) (by decide) ?_
      exact lw_case30 hc hs hn hL g kend
    by_cases e31 : x = 31
    · refine r_tableIn (pc := 33) (off := 1071) (tgt := 1104) d_L_law_33 (by rw [e31]; decide) (by rw [e31]; decide) (by rw [e31]; decide +kernel) (by decide) ?_
      exact lw_case31 hc hs hn hL g kend
    by_cases e32 : x = 32
    · refine r_tableIn (pc := 33) (off := 1144) (tgt := 1177) d_L_law_33 (by rw [e32]; decide) (by rw [e32]; decide) (by rw [e32]; decide +kernel) (by decide) ?_
      exact lw_case32 hc hs hn hL g kend
    by_cases e33 : x = 33
    · refine r_tableIn (pc := 33) (off := 1177) (tgt := 1210) d_L_law_33 (by rw [e33]; decide) (by rw [e33]; decide) (by rw [e33]; decide +kernel) (by decide) ?_
      exact lw_case33 hc hs hn hL g kend
    refine r_tableOut (pc := 33) (tgt := 1273) d_L_law_33 (by simp only [← Int32.toInt_inj, Int32.reduceToInt] at e0 e1 e2 e3 e4 e5 e6 e7 e8 e9 e10 e11 e12 e13 e14 e15 e16 e17 e18 e19 e20 e21 e22 e23 e24 e25 e26 e27 e28 e29 e30 e31 e32 e33; omega) (by decide) ?_
    exact kend _ _ _ _ _ (by omega) (by omega) g
theorem law_loop (hL : qsl E ≤ 3072) : ∀ (k t c s : Nat) (S : qSh) (I : qI) (J : qJ), t + k = 513 → c ≤ 148 + 5 * t → s ≤ 3767 + 133 * t → tINV S I J → qW E y_L_law b_L_law (some .boolean) 1312 600000 7302250 Q1 c s 18 [some (.ref (qsc E)), some (.ref (qb E + 0)), some (.ref (qb E + 114)), some (.int (nI (6 * t)))] [] S I J := by
  intro k
  induction k with
  | zero => intro t c s S I J htk hc hs g; exact law_step hL (by omega) (by omega) (by omega) g (fun h => by omega)
  | succ k ih =>
    intro t c s S I J htk hc hs g
    refine law_step hL (by omega) (by omega) (by omega) g (fun h c' s' S' I' J' hc' hs' g' => ?_)
    refine inc_4_3 (pc := 1273) (w := 6) d_L_law_1273 rfl rfl ?_
    refine r_goto (pc := 1276) (tgt := 18) d_L_law_1276 (by decide) ?_
    rw [lwi6]
    exact ih (t + 1) c' s' S' I' J' (by omega) (by omega) (by omega) g'
theorem law_walk (hsl : qsl E ≤ 3072) : qW E y_L_law b_L_law (some .boolean) 1312 600000 7302250 Q1 0 0 0 [some (.ref (qsc E)), none, none, none] [] onE zI zJ := by
  refine r_newG (pc := 0) (k := 8) (N := 11) (C := "OneMourner") (T := T_On) rfl (by decide) la_On ty_On_ok rfl (by decide +kernel) ck_L_7 ia_On ii_On d_L_law_0 (by omega) (by omega) ?_
  rw [(qZ.zero (S := onE)).i, (qZ.zero (S := onE)).j]
  change qW _ _ _ _ _ _ _ _ _ _ _ _ (.ref (qb E + 0) :: _) onA0 _ _
  have t0 : qT onA0 0 8 := by unfold qT; decide +kernel
  refine r_dup (pc := 3) d_L_law_3 rfl ?_
  refine r_callI (pc := 4) (As := []) k_L_9 im_On_init rfl rfl (by decide) d_L_law_4 (c_On_init) rfl (Nat.le_of_ble_eq_true rfl) (by omega) (by omega) (by omega) (fun v S' I' J' hq => ?_)
  obtain ⟨rfl, rfl, rfl, rfl, hz⟩ := hq
  refine sta_n_4_1 (pc := 7) d_L_law_7 rfl ?_
  refine r_newG (pc := 8) (k := 9) (N := 56) (C := "OneMournerModel") (T := T_Md) rfl (by decide) la_Md ty_Md_ok rfl (by decide +kernel) ck_L_10 ia_Md ii_Md d_L_law_8 (by omega) (by omega) ?_
  rw [hz.i, hz.j, onS_ok.2]
  change qW _ _ _ _ _ _ _ _ _ _ _ _ _ (mdS 0) _ _
  have t1 : qT (mdS 0) 114 9 := by unfold qT; decide +kernel
  refine r_dup (pc := 11) d_L_law_11 rfl ?_
  refine r_callI (pc := 12) (As := []) k_L_12 im_Md_init rfl rfl (by decide) d_L_law_12 (c_Md_init hz) rfl (Nat.le_of_ble_eq_true rfl) (by omega) (by omega) (by omega) (fun v S' I' J' hq => ?_)
  obtain ⟨rfl, rfl, rfl, rfl⟩ := hq
  refine sta_n_4_2 (pc := 15) d_L_law_15 rfl ?_
  refine r_iconst (pc := 16) (v := 0) d_L_law_16 rfl ?_
  refine sti_n_4_3 (pc := 17) d_L_law_17 rfl ?_
  exact law_loop hsl 513 0 _ _ _ _ _ (by omega) (by omega) (by omega) md_t
end LWW

