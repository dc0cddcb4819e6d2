/-! the reference in general: who is one, places, whether a clause holds, sums, PAIN -/
def mtst (x n s : Int32) : Int32 := if s = 0 then (if x < n then 1 else 0) else if s = 1 then (if x = n then 1 else 0) else if n < x then 1 else 0
def mlet (I : qI) (p : Nat) (w d l : Int32) : Int32 := if l = 0 then nI p else if l = 1 then I 115 p else if l = 2 then I 116 p else if l = 3 then I 117 p / 10 else if l = 4 then w else d - d / 10 * 10
def mtv (I : qI) (p : Nat) (w d c : Int32) : Int32 := mtst (mlet I p w d ((c - 3) / 300)) (c - 3 - (c - 3) / 100 * 100) ((c - 3) / 100 - (c - 3) / 100 / 3 * 3)
theorem mtst_b {x n s : Int32} : qbool (mtst x n s) := by unfold mtst; repeat' split
                                                          all_goals first | exact Or.inl rfl | exact Or.inr rfl
def mop (c x y : Int32) : Int32 := if c = 1 then (if x = 0 then 0 else if y = 0 then 0 else 1) else if x = 0 then (if y = 0 then 0 else 1) else 1
theorem mop_b {c x y : Int32} : qbool (mop c x y) := by unfold mop; repeat' split
                                                        all_goals first | exact Or.inl rfl | exact Or.inr rfl
def mstp (tv : Int32 → Int32) (c : Int32) (l : List Int32) : List Int32 := if 3 ≤ c then tv c :: l else if c = 0 then (match l with | x :: l => (if x = 0 then 1 else 0) :: l | [] => []) else (match l with | y :: x :: l => mop c x y :: l | l => l)
def mevl (tv : Int32 → Int32) (f : Nat → Int32) : Nat → Nat → List Int32 → List Int32
  | 0, _, l => l
  | n + 1, b, l => mevl tv f n (b + 1) (mstp tv (f b) l)
/-- a row of codes never takes what isn't there, nor stands higher than 110 -/
def dokN (f : Nat → Int32) : Nat → Nat → Nat → Prop
  | 0, _, t => 0 < t
  | n + 1, b, t => if 3 ≤ f b then t < 110 ∧ dokN f n (b + 1) (t + 1) else if f b = 0 then 1 ≤ t ∧ dokN f n (b + 1) t else 2 ≤ t ∧ dokN f n (b + 1) (t - 1)
def mStk (K : qI) (l : List Int32) : Prop := (∀ j, j < l.length → K 130 j = l.reverse.getD j 0) ∧ ∀ x ∈ l, qbool x
theorem mStk.push {K : qI} {l : List Int32} {x : Int32} (h : mStk K l) (hx : qbool x) : mStk (qup K 130 l.length x) (x :: l) := by
  refine ⟨fun j hj => ?_, fun y hy => ?_⟩
  · rw [List.reverse_cons]
    by_cases e : j = l.length
    · subst e; rw [qup_at]; simp
    · have h2 : j < l.length := by simp at hj; omega
      rw [qup_j e, h.1 j h2, List.getD_eq_getElem?_getD, List.getD_eq_getElem?_getD, List.getElem?_append_left (by simpa using h2)]
  · rcases List.mem_cons.mp hy with rfl | h2
    · exact hx
    · exact h.2 y h2
theorem mStk.top {K : qI} {l : List Int32} {x : Int32} (h : mStk K (x :: l)) : K 130 l.length = x := by
  rw [h.1 l.length (by simp)]; simp
theorem mStk.pop {K : qI} {l : List Int32} {x : Int32} (h : mStk K (x :: l)) : mStk K l := by
  refine ⟨fun j hj => ?_, fun y hy => h.2 y (List.mem_cons_of_mem _ hy)⟩
  rw [h.1 j (by simp; omega), List.reverse_cons, List.getD_eq_getElem?_getD, List.getD_eq_getElem?_getD, List.getElem?_append_left (by simpa using hj)]
theorem mnar {x : Int32} (h : qbool x) : vp_nar .boolean x = x := by rcases h with rfl | rfl <;> decide +kernel
theorem mb0 {x : Int32} : qbool (if x = 0 then 1 else 0) := by split <;> simp [qbool]
section G1
variable {E : qE} {S : qSh} {I : qI} {J : qJ}
theorem c_Md_isOne {x : Int32} (hM : isMd S) : qMet E y_Md_isOne b_Md_isOne 2 (some .boolean) 1 0 0 [.ref (qb E + 114), .int x] S I J (qPi S I J (qwithin x 0 (I 114 0 - 1))) := by
  have hT := hM.1
  refine qMet.of (L := [some (.ref (qb E + 114)), some (.int x)]) (by decide +kernel) (Nat.le_of_ble_eq_true rfl) rfl ?_
  refine ldi_n_2_1 (pc := 0) d_Md_isOne_0 ?_
  refine r_iconst (pc := 1) (v := 0) d_Md_isOne_1 rfl ?_
  refine lda_n_2_0 (pc := 2) d_Md_isOne_2 ?_
  refine g_Md_117 (pc := 3) rfl d_Md_isOne_3 (by assumption) ?_
  refine r_iconst (pc := 6) (v := 1) d_Md_isOne_6 rfl ?_
  refine r_isub (pc := 7) d_Md_isOne_7 ?_
  refine r_callS (pc := 8) (As := [.int x, .int 0, .int (I 114 0 - 1)]) k_Md_120 sw_Md_within rfl (by decide) d_Md_isOne_8 (c_Md_within _ _ _) rfl (Nat.le_of_ble_eq_true rfl) (by omega) (by omega) (by omega) (fun v S' I' J' hq => ?_)
  obtain ⟨rfl, rfl, rfl, rfl⟩ := hq
  exact r_nret d_Md_isOne_11 rfl (qbool_n (by first | exact Or.inl rfl | exact Or.inr rfl | assumption | exact qwithin_b | exact qbit_b)) (by omega) (by omega) (⟨rfl, rfl, rfl, rfl⟩)
theorem c_Md_placeOf {n : Nat} {x : Int32} (hM : isMd S) (hn : I 114 8 = nI n) (h6 : n ≤ 6) : qMet E y_Md_placeOf b_Md_placeOf 3 (some .int) 0 0 0 [.ref (qb E + 114), .int x] S I J (qPi S I J (qplace (I 122) x n n)) := by
  have hT := hM.1
  have f9 := hM.r 7 rfl
  have g9 := hM.a 7 rfl
  refine qMet.of (L := [some (.ref (qb E + 114)), some (.int x), none]) (by decide +kernel) (Nat.le_of_ble_eq_true rfl) rfl ?_
  refine r_iconst (pc := 0) (v := 0) d_Md_placeOf_0 rfl ?_
  refine sti_n_3_2 (pc := 1) d_Md_placeOf_1 rfl ?_
  rw [q0]
  have key := qfor (P := fun k => qW E y_Md_placeOf b_Md_placeOf (some .int) 0 0 0 (qPi S I J (qplace (I 122) x n (n - k))) 0 0 2 [some (.ref (qb E + 114)), some (.int x), some (.int (nI k))] [] S I J) n ?_ ?_ 0 (Nat.zero_le n)
  · simpa using key
  · refine ldi_n_3_2 (pc := 2) d_Md_placeOf_2 ?_
    refine lda_n_3_0 (pc := 3) d_Md_placeOf_3 ?_
    refine g_Md_124 (pc := 4) rfl d_Md_placeOf_4 (by assumption) ?_
    rw [hn]
    refine r_icmp_ge (pc := 7) (tgt := 28) d_Md_placeOf_7 (by decide) (fun c => ?_) (fun c => ?_)
    · refine r_bipush (pc := 28) (v := (-5)) d_Md_placeOf_28 rfl ?_
      refine r_iret d_Md_placeOf_30 rfl (by omega) (by omega) ?_
      simp [qPi, qplace]
    · exact absurd (nI_le (Nat.le_refl n) (by omega)) c
  · intro k hk ih
    refine ldi_n_3_2 (pc := 2) d_Md_placeOf_2 ?_
    refine lda_n_3_0 (pc := 3) d_Md_placeOf_3 ?_
    refine g_Md_124 (pc := 4) rfl d_Md_placeOf_4 (by assumption) ?_
    rw [hn]
    refine r_icmp_ge (pc := 7) (tgt := 28) d_Md_placeOf_7 (by decide) (fun c => ?_) (fun c => ?_)
    · exact absurd c (nI_ge hk (by omega))
    · have e : n - k = (n - (k + 1)) + 1 := by omega
      refine lda_n_3_0 (pc := 10) d_Md_placeOf_10 ?_
      refine g_Md_33 (pc := 11) rfl d_Md_placeOf_11 (by assumption) (by assumption) ?_
      refine ldi_n_3_2 (pc := 14) d_Md_placeOf_14 ?_
      refine r_iald (pc := 15) d_Md_placeOf_15 (by assumption) (by first | assumption | exact vp_in_nI (by omega) (by omega) | (unfold vp_in; decide)) ?_
      refine ldi_n_3_1 (pc := 16) d_Md_placeOf_16 ?_
      rw [qcl (by omega)]
      refine r_icmp_ne (pc := 17) (tgt := 22) d_Md_placeOf_17 (by decide) (fun c2 => ?_) (fun c2 => ?_)
      · refine inc_3_2 (pc := 22) (w := 1) d_Md_placeOf_22 rfl rfl ?_
        refine r_goto (pc := 25) (tgt := 2) d_Md_placeOf_25 (by decide) ?_
        rw [q1]
        have e2 : qplace (I 122) x n (n - k) = qplace (I 122) x n (n - (k + 1)) := by
          rw [e, qplace, show n - (n - (k + 1) + 1) = k by omega, if_neg c2]
        rw [e2]
        exact ih
      · refine ldi_n_3_2 (pc := 20) d_Md_placeOf_20 ?_
        refine r_iret d_Md_placeOf_21 rfl (by omega) (by omega) ?_
        exact ⟨by rw [e, qplace, show n - (n - (k + 1) + 1) = k by omega, if_pos c2], rfl, rfl, rfl⟩
theorem c_Md_allHurt {c : Nat} (hM : isMd S) (hc : I 114 0 = nI c) (h6 : c ≤ 6) : qMet E y_Md_allHurt b_Md_allHurt 3 (some .int) 0 0 0 [.ref (qb E + 114)] S I J (qPi S I J (qsumP (I 119) c)) := by
  have hT := hM.1
  have f5 := hM.r 4 rfl
  have g5 := hM.a 4 rfl
  refine qMet.of (L := [some (.ref (qb E + 114)), none, none]) (by decide +kernel) (Nat.le_of_ble_eq_true rfl) rfl ?_
  refine r_iconst (pc := 0) (v := 0) d_Md_allHurt_0 rfl ?_
  refine sti_n_3_1 (pc := 1) d_Md_allHurt_1 rfl ?_
  refine r_iconst (pc := 2) (v := 0) d_Md_allHurt_2 rfl ?_
  refine sti_n_3_2 (pc := 3) d_Md_allHurt_3 rfl ?_
  rw [q0]
  have key : ∀ k, k ≤ c → qW E y_Md_allHurt b_Md_allHurt (some .int) 0 0 0 (qPi S I J (qsumP (I 119) c)) 0 0 4 [some (.ref (qb E + 114)), some (.int (qsumP (I 119) k)), some (.int (nI k))] [] S I J := by
    refine qfor c ?_ ?_
    · refine ldi_n_3_2 (pc := 4) d_Md_allHurt_4 ?_
      refine lda_n_3_0 (pc := 5) d_Md_allHurt_5 ?_
      refine g_Md_117 (pc := 6) rfl d_Md_allHurt_6 (by assumption) ?_
      rw [hc]
      refine r_icmp_ge (pc := 9) (tgt := 27) d_Md_allHurt_9 (by decide) (fun h => ?_) (fun h => ?_)
      · refine ldi_n_3_1 (pc := 27) d_Md_allHurt_27 ?_
        exact r_iret d_Md_allHurt_28 rfl (by omega) (by omega) (⟨rfl, rfl, rfl, rfl⟩)
      · exact absurd (nI_le (Nat.le_refl c) (by omega)) h
    · intro k hk ih
      refine ldi_n_3_2 (pc := 4) d_Md_allHurt_4 ?_
      refine lda_n_3_0 (pc := 5) d_Md_allHurt_5 ?_
      refine g_Md_117 (pc := 6) rfl d_Md_allHurt_6 (by assumption) ?_
      rw [hc]
      refine r_icmp_ge (pc := 9) (tgt := 27) d_Md_allHurt_9 (by decide) (fun h => ?_) (fun h => ?_)
      · exact absurd h (nI_ge hk (by omega))
      · refine ldi_n_3_1 (pc := 12) d_Md_allHurt_12 ?_
        refine lda_n_3_0 (pc := 13) d_Md_allHurt_13 ?_
        refine g_Md_24 (pc := 14) rfl d_Md_allHurt_14 (by assumption) (by assumption) ?_
        refine ldi_n_3_2 (pc := 17) d_Md_allHurt_17 ?_
        refine r_iald (pc := 18) d_Md_allHurt_18 (by assumption) (by first | assumption | exact vp_in_nI (by omega) (by omega) | (unfold vp_in; decide)) ?_
        refine r_iadd (pc := 19) d_Md_allHurt_19 ?_
        refine sti_n_3_1 (pc := 20) d_Md_allHurt_20 rfl ?_
        refine inc_3_2 (pc := 21) (w := 1) d_Md_allHurt_21 rfl rfl ?_
        refine r_goto (pc := 24) (tgt := 4) d_Md_allHurt_24 (by decide) ?_
        rw [qcl (by omega), q1]
        exact ih
  exact key 0 (by omega)
theorem c_Md_allDone {c : Nat} (hM : isMd S) (hc : I 114 0 = nI c) (h6 : c ≤ 6) : qMet E y_Md_allDone b_Md_allDone 3 (some .int) 0 0 0 [.ref (qb E + 114)] S I J (qPi S I J (qsumP (I 120) c)) := by
  have hT := hM.1
  have f6 := hM.r 5 rfl
  have g6 := hM.a 5 rfl
  refine qMet.of (L := [some (.ref (qb E + 114)), none, none]) (by decide +kernel) (Nat.le_of_ble_eq_true rfl) rfl ?_
  refine r_iconst (pc := 0) (v := 0) d_Md_allDone_0 rfl ?_
  refine sti_n_3_1 (pc := 1) d_Md_allDone_1 rfl ?_
  refine r_iconst (pc := 2) (v := 0) d_Md_allDone_2 rfl ?_
  refine sti_n_3_2 (pc := 3) d_Md_allDone_3 rfl ?_
  rw [q0]
  have key : ∀ k, k ≤ c → qW E y_Md_allDone b_Md_allDone (some .int) 0 0 0 (qPi S I J (qsumP (I 120) c)) 0 0 4 [some (.ref (qb E + 114)), some (.int (qsumP (I 120) k)), some (.int (nI k))] [] S I J := by
    refine qfor c ?_ ?_
    · refine ldi_n_3_2 (pc := 4) d_Md_allDone_4 ?_
      refine lda_n_3_0 (pc := 5) d_Md_allDone_5 ?_
      refine g_Md_117 (pc := 6) rfl d_Md_allDone_6 (by assumption) ?_
      rw [hc]
      refine r_icmp_ge (pc := 9) (tgt := 27) d_Md_allDone_9 (by decide) (fun h => ?_) (fun h => ?_)
      · refine ldi_n_3_1 (pc := 27) d_Md_allDone_27 ?_
        exact r_iret d_Md_allDone_28 rfl (by omega) (by omega) (⟨rfl, rfl, rfl, rfl⟩)
      · exact absurd (nI_le (Nat.le_refl c) (by omega)) h
    · intro k hk ih
      refine ldi_n_3_2 (pc := 4) d_Md_allDone_4 ?_
      refine lda_n_3_0 (pc := 5) d_Md_allDone_5 ?_
      refine g_Md_117 (pc := 6) rfl d_Md_allDone_6 (by assumption) ?_
      rw [hc]
      refine r_icmp_ge (pc := 9) (tgt := 27) d_Md_allDone_9 (by decide) (fun h => ?_) (fun h => ?_)
      · exact absurd h (nI_ge hk (by omega))
      · refine ldi_n_3_1 (pc := 12) d_Md_allDone_12 ?_
        refine lda_n_3_0 (pc := 13) d_Md_allDone_13 ?_
        refine g_Md_27 (pc := 14) rfl d_Md_allDone_14 (by assumption) (by assumption) ?_
        refine ldi_n_3_2 (pc := 17) d_Md_allDone_17 ?_
        refine r_iald (pc := 18) d_Md_allDone_18 (by assumption) (by first | assumption | exact vp_in_nI (by omega) (by omega) | (unfold vp_in; decide)) ?_
        refine r_iadd (pc := 19) d_Md_allDone_19 ?_
        refine sti_n_3_1 (pc := 20) d_Md_allDone_20 rfl ?_
        refine inc_3_2 (pc := 21) (w := 1) d_Md_allDone_21 rfl rfl ?_
        refine r_goto (pc := 24) (tgt := 4) d_Md_allDone_24 (by decide) ?_
        rw [qcl (by omega), q1]
        exact ih
  exact key 0 (by omega)
theorem c_Md_letterOf {p : Nat} {w d l : Int32} (hM : isMd S) (hp : p < 6) : qMet E y_Md_letterOf b_Md_letterOf 5 (some .int) 0 0 0 [.ref (qb E + 114), .int (nI p), .int w, .int d, .int l] S I J (qPi S I J (mlet I p w d l)) := by
  have hT := hM.1
  have f1 := hM.r 0 rfl
  have g1 := hM.a 0 rfl
  have f2 := hM.r 1 rfl
  have g2 := hM.a 1 rfl
  have f3 := hM.r 2 rfl
  have g3 := hM.a 2 rfl
  have e : (nI p).toNatClampNeg = p := qcl (by omega)
  refine qMet.of (L := [some (.ref (qb E + 114)), some (.int (nI p)), some (.int w), some (.int d), some (.int l)]) (by decide +kernel) (Nat.le_of_ble_eq_true rfl) rfl ?_
  refine ldi_5_4 (pc := 0) d_Md_letterOf_0 ?_
  unfold mlet
  by_cases k0 : l = 0
  · rw [k0]
    refine r_tableIn (pc := 2) (off := 34) (tgt := 36) d_Md_letterOf_2 (by decide) (by decide) (by decide +kernel) (by decide) ?_
    refine ldi_n_5_1 (pc := 36) d_Md_letterOf_36 ?_
    refine r_iret d_Md_letterOf_37 rfl (by omega) (by omega) ?_
    exact ⟨rfl, rfl, rfl, rfl⟩
  rw [if_neg k0]
  by_cases k1 : l = 1
  · rw [k1]
    refine r_tableIn (pc := 2) (off := 36) (tgt := 38) d_Md_letterOf_2 (by decide) (by decide) (by decide +kernel) (by decide) ?_
    refine lda_n_5_0 (pc := 38) d_Md_letterOf_38 ?_
    refine g_Md_9 (pc := 39) rfl d_Md_letterOf_39 (by assumption) (by assumption) ?_
    refine ldi_n_5_1 (pc := 42) d_Md_letterOf_42 ?_
    refine r_iald (pc := 43) d_Md_letterOf_43 (by assumption) (by first | assumption | exact vp_in_nI (by omega) (by omega) | (unfold vp_in; decide)) ?_
    rw [e]
    exact r_iret d_Md_letterOf_44 rfl (by omega) (by omega) (⟨rfl, rfl, rfl, rfl⟩)
  rw [if_neg k1]
  by_cases k2 : l = 2
  · rw [k2]
    refine r_tableIn (pc := 2) (off := 43) (tgt := 45) d_Md_letterOf_2 (by decide) (by decide) (by decide +kernel) (by decide) ?_
    refine lda_n_5_0 (pc := 45) d_Md_letterOf_45 ?_
    refine g_Md_15 (pc := 46) rfl d_Md_letterOf_46 (by assumption) (by assumption) ?_
    refine ldi_n_5_1 (pc := 49) d_Md_letterOf_49 ?_
    refine r_iald (pc := 50) d_Md_letterOf_50 (by assumption) (by first | assumption | exact vp_in_nI (by omega) (by omega) | (unfold vp_in; decide)) ?_
    rw [e]
    exact r_iret d_Md_letterOf_51 rfl (by omega) (by omega) (⟨rfl, rfl, rfl, rfl⟩)
  rw [if_neg k2]
  by_cases k3 : l = 3
  · rw [k3]
    refine r_tableIn (pc := 2) (off := 50) (tgt := 52) d_Md_letterOf_2 (by decide) (by decide) (by decide +kernel) (by decide) ?_
    refine lda_n_5_0 (pc := 52) d_Md_letterOf_52 ?_
    refine g_Md_18 (pc := 53) rfl d_Md_letterOf_53 (by assumption) (by assumption) ?_
    refine ldi_n_5_1 (pc := 56) d_Md_letterOf_56 ?_
    refine r_iald (pc := 57) d_Md_letterOf_57 (by assumption) (by first | assumption | exact vp_in_nI (by omega) (by omega) | (unfold vp_in; decide)) ?_
    rw [e]
    refine r_bipush (pc := 58) (v := 10) d_Md_letterOf_58 rfl ?_
    refine r_idiv (pc := 60) d_Md_letterOf_60 (by decide) ?_
    exact r_iret d_Md_letterOf_61 rfl (by omega) (by omega) (⟨rfl, rfl, rfl, rfl⟩)
  rw [if_neg k3]
  by_cases k4 : l = 4
  · rw [k4]
    refine r_tableIn (pc := 2) (off := 60) (tgt := 62) d_Md_letterOf_2 (by decide) (by decide) (by decide +kernel) (by decide) ?_
    refine ldi_n_5_2 (pc := 62) d_Md_letterOf_62 ?_
    refine r_iret d_Md_letterOf_63 rfl (by omega) (by omega) ?_
    exact ⟨rfl, rfl, rfl, rfl⟩
  rw [if_neg k4]
  refine r_tableOut (pc := 2) (tgt := 64) d_Md_letterOf_2 (by simp only [← Int32.toInt_inj, Int32.reduceToInt] at k0 k1 k2 k3 k4; omega) (by decide) ?_
  refine ldi_n_5_3 (pc := 64) d_Md_letterOf_64 ?_
  refine r_bipush (pc := 65) (v := 10) d_Md_letterOf_65 rfl ?_
  refine r_irem (pc := 67) d_Md_letterOf_67 (by decide) ?_
  refine r_iret d_Md_letterOf_68 rfl (by omega) (by omega) ?_
  exact ⟨rfl, rfl, rfl, rfl⟩
end G1
