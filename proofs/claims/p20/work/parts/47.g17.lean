/-! the reference's reader: what it does, as functions of (place, codes) -/
abbrev pSt : Type := Nat × List Int32
section PXF
variable (f : Nat → Int32) (n : Nat)
def pis (c : Int32) (s : pSt) : Bool × pSt := if s.1 < n ∧ f s.1 = c then (true, s.1 + 1, s.2) else (false, s)
def pnumL : Nat → Int32 → Nat → Nat → Int32 × Nat × Nat
  | 0, v, k, a => (v, k, a)
  | m + 1, v, k, a => if a < n ∧ 48 ≤ f a ∧ f a ≤ 57 then pnumL m (10 * v + f a - 48) (k + 1) (a + 1) else (v, k, a)
def plet (i a : Nat) : Int32 := if a < n ∧ 0 < f a then pfd (qByt.getD i []) 0 (f a) else -1
def ptest (s : pSt) : Bool × pSt :=
  if plet f n 0 s.1 < 0 then (false, s)
  else if plet f n 6 (s.1 + 1) < 0 then (false, s.1 + 1, s.2)
  else if (pnumL f n 2 0 0 (s.1 + 2)).2.1 = 0 then (false, (pnumL f n 2 0 0 (s.1 + 2)).2.2, s.2)
  else (true, (pnumL f n 2 0 0 (s.1 + 2)).2.2, s.2 ++ [3 + 300 * plet f n 0 s.1 + 100 * plet f n 6 (s.1 + 1) + (pnumL f n 2 0 0 (s.1 + 2)).1])
def ploop (one : pSt → Bool × pSt) (c x : Int32) : Nat → pSt → Bool × pSt
  | 0, s => (true, s)
  | m + 1, s => if s.1 < n ∧ f s.1 = c then (if (one (s.1 + 1, s.2)).1 = true then ploop one c x m ((one (s.1 + 1, s.2)).2.1, (one (s.1 + 1, s.2)).2.2 ++ [x]) else one (s.1 + 1, s.2)) else (true, s)
def psq (one : pSt → Bool × pSt) (c x : Int32) (s : pSt) : Bool × pSt := if (one s).1 = true then ploop f n one c x 101 (one s).2 else one s
def pE (one : pSt → Bool × pSt) (s : pSt) : Bool × pSt := psq f n (psq f n one 38 1) 124 2 s
def pF : Nat → pSt → Bool × pSt
  | 0, s => ptest f n s
  | k + 1, s =>
    if s.1 < n ∧ f s.1 = 33 then (if (pF k (s.1 + 1, s.2)).1 = true then (true, (pF k (s.1 + 1, s.2)).2.1, (pF k (s.1 + 1, s.2)).2.2 ++ [0]) else pF k (s.1 + 1, s.2))
    else if s.1 < n ∧ f s.1 = 40 then (if (pE f n (pF k) (s.1 + 1, s.2)).1 = true then pis f n 41 (pE f n (pF k) (s.1 + 1, s.2)).2 else pE f n (pF k) (s.1 + 1, s.2))
    else ptest f n s
end PXF
/-- no more codes than signs read -/
def pgd (s : pSt) (r : Bool × pSt) : Prop := s.1 ≤ r.2.1 ∧ r.2.2.length + s.1 ≤ s.2.length + r.2.1
def pgood (one : pSt → Bool × pSt) : Prop := ∀ s, pgd s (one s)
theorem pnumL_good {f : Nat → Int32} {n : Nat} : ∀ (m : Nat) (v : Int32) (k a : Nat), (pnumL f n m v k a).2.2 + k = a + (pnumL f n m v k a).2.1 ∧ k ≤ (pnumL f n m v k a).2.1 ∧ (pnumL f n m v k a).2.1 ≤ k + m := by
  intro m
  induction m with
  | zero => intro v k a; exact ⟨rfl, Nat.le_refl _, Nat.le_refl _⟩
  | succ m ih =>
    intro v k a
    rw [pnumL]
    split
    · have := ih (10 * v + f a - 48) (k + 1) (a + 1)
      omega
    · exact ⟨rfl, Nat.le_refl _, Nat.le_add_right _ _⟩
theorem ptest_good {f : Nat → Int32} {n : Nat} : pgood (ptest f n) := by
  intro s
  have h := pnumL_good (f := f) (n := n) 2 0 0 (s.1 + 2)
  unfold ptest pgd
  split
  · simp
  · split
    · simp
    · split
      · simp only [Nat.add_zero] at h ⊢; omega
      · simp only [List.length_append, List.length_singleton]; omega
theorem ploop_good {f : Nat → Int32} {n : Nat} {one : pSt → Bool × pSt} {c x : Int32} (h : pgood one) : ∀ m, pgood (ploop f n one c x m) := by
  intro m
  induction m with
  | zero => intro s; exact ⟨Nat.le_refl _, Nat.le_refl _⟩
  | succ m ih =>
    intro s
    rw [ploop]
    have h1 := h (s.1 + 1, s.2)
    unfold pgd at h1 ⊢
    split
    · split
      · have h2 := ih ((one (s.1 + 1, s.2)).2.1, (one (s.1 + 1, s.2)).2.2 ++ [x])
        unfold pgd at h2
        simp only [List.length_append, List.length_singleton] at h1 h2 ⊢
        omega
      · simp only at h1 ⊢; omega
    · simp
theorem psq_good {f : Nat → Int32} {n : Nat} {one : pSt → Bool × pSt} {c x : Int32} (h : pgood one) : pgood (psq f n one c x) := by
  intro s
  have h1 := h s
  have h2 := ploop_good (f := f) (n := n) (c := c) (x := x) h 101 (one s).2
  unfold psq
  unfold pgd at *
  split
  · omega
  · exact h1
theorem pE_good {f : Nat → Int32} {n : Nat} {one : pSt → Bool × pSt} (h : pgood one) : pgood (pE f n one) := psq_good (psq_good h)
theorem pF_good {f : Nat → Int32} {n : Nat} : ∀ k, pgood (pF f n k) := by
  intro k
  induction k with
  | zero => exact ptest_good
  | succ k ih =>
    intro s
    rw [pF]
    have h1 := ih (s.1 + 1, s.2)
    have h2 := pE_good (f := f) (n := n) ih (s.1 + 1, s.2)
    unfold pgd at *
    split
    · split
      · simp only [List.length_append, List.length_singleton] at h1 ⊢; omega
      · simp only at h1 ⊢; omega
    · split
      · split
        · unfold pis
          split
          · simp only at h2 ⊢; omega
          · simp only at h2 ⊢; omega
        · simp only at h2 ⊢; omega
      · exact ptest_good s
/-- the reader's cells hold s; all else is as in I0 -/
def pRd (I0 : qI) (n cz op : Nat) (s : pSt) (I : qI) : Prop := (∀ a, a ≠ 114 → a ≠ 129 → I a = I0 a) ∧ (∀ j, j ≠ 13 → j ≠ 14 → j ≠ 15 → j ≠ 16 → j ≠ 25 → I 114 j = I0 114 j) ∧ I 114 13 = nI s.1 ∧ s.1 ≤ n ∧ I 114 16 = nI op ∧ I 114 25 = nI (cz + s.2.length) ∧ (∀ j, j < cz → I 129 j = I0 129 j) ∧ ∀ j, j < s.2.length → I 129 (cz + j) = s.2.getD j 0
def pTx (I0 : qI) (f : Nat → Int32) (n : Nat) : Prop := I0 114 11 = nI n ∧ n ≤ 100 ∧ ∀ j, j < n → I0 123 j = f j ∧ ∃ k, k < 128 ∧ f j = nI k
theorem pRd.at {I0 I : qI} {n cz op : Nat} {s : pSt} (h : pRd I0 n cz op s I) (hn : s.1 < n) : pRd I0 n cz op (s.1 + 1, s.2) (qup I 114 13 (I 114 13 + 1)) := by
  obtain ⟨h1, h2, h3, h4, h5, h6, h7, h8⟩ := h
  exact ⟨fun a a1 a2 => by rw [qup_row a1]; exact h1 a a1 a2, fun j j1 j2 j3 j4 j5 => by rw [qup_j j1]; exact h2 j j1 j2 j3 j4 j5, by rw [qup_at, h3, q1], hn, by rw [qup_j (by decide)]; exact h5, by rw [qup_j (by decide)]; exact h6, fun j hj => by rw [qup_o (by decide)]; exact h7 j hj, fun j hj => by rw [qup_o (by decide)]; exact h8 j hj⟩
theorem pRd.free {I0 I : qI} {n cz op : Nat} {s : pSt} {j0 : Nat} {x : Int32} (h : pRd I0 n cz op s I) (hj0 : j0 = 14 ∨ j0 = 15) : pRd I0 n cz op s (qup I 114 j0 x) := by
  obtain ⟨h1, h2, h3, h4, h5, h6, h7, h8⟩ := h
  exact ⟨fun a a1 a2 => by rw [qup_row a1]; exact h1 a a1 a2, fun j j1 j2 j3 j4 j5 => by rw [qup_j (by omega)]; exact h2 j j1 j2 j3 j4 j5, by rw [qup_j (by omega)]; exact h3, h4, by rw [qup_j (by omega)]; exact h5, by rw [qup_j (by omega)]; exact h6, fun j hj => by rw [qup_o (by decide)]; exact h7 j hj, fun j hj => by rw [qup_o (by decide)]; exact h8 j hj⟩
theorem pRd.op {I0 I : qI} {n cz op op2 : Nat} {s : pSt} {x : Int32} (h : pRd I0 n cz op s I) (e : x = nI op2) : pRd I0 n cz op2 s (qup I 114 16 x) := by
  obtain ⟨h1, h2, h3, h4, h5, h6, h7, h8⟩ := h
  exact ⟨fun a a1 a2 => by rw [qup_row a1]; exact h1 a a1 a2, fun j j1 j2 j3 j4 j5 => by rw [qup_j j4]; exact h2 j j1 j2 j3 j4 j5, by rw [qup_j (by decide)]; exact h3, h4, by rw [qup_at]; exact e, by rw [qup_j (by decide)]; exact h6, fun j hj => by rw [qup_o (by decide)]; exact h7 j hj, fun j hj => by rw [qup_o (by decide)]; exact h8 j hj⟩
theorem pRd.put {I0 I : qI} {n cz op : Nat} {s : pSt} {x : Int32} (h : pRd I0 n cz op s I) : pRd I0 n cz op (s.1, s.2 ++ [x]) (qup (qup I 114 25 (I 114 25 + 1)) 129 (cz + s.2.length) x) := by
  obtain ⟨h1, h2, h3, h4, h5, h6, h7, h8⟩ := h
  refine ⟨fun a a1 a2 => by rw [qup_row a2, qup_row a1]; exact h1 a a1 a2, fun j j1 j2 j3 j4 j5 => by rw [qup_o (by decide), qup_j j5]; exact h2 j j1 j2 j3 j4 j5, by rw [qup_o (by decide), qup_j (by decide)]; exact h3, h4, by rw [qup_o (by decide), qup_j (by decide)]; exact h5, ?_, fun j hj => by rw [qup_j (by omega), qup_o (by decide)]; exact h7 j hj, fun j hj => ?_⟩
  · rw [qup_o (by decide), qup_at, h6, q1]; simp [Nat.add_assoc]
  · by_cases e : j = s.2.length
    · subst e; rw [qup_at]; simp
    · have hj2 : j < s.2.length := by simp at hj; omega
      rw [qup_j (by omega), qup_o (by decide), h8 j hj2]
      simp [List.getD_eq_getElem?_getD, List.getElem?_append_left hj2]
theorem pb0 {b : Bool} (h : (if b = true then (1 : Int32) else 0) = 0) : ¬ b = true := by
  intro e; rw [if_pos e] at h; exact absurd h (by decide)
theorem pb1 {b : Bool} (h : ¬ (if b = true then (1 : Int32) else 0) = 0) : b = true := by
  cases b
  · exact absurd rfl h
  · rfl
abbrev pQ (S : qSh) (J : qJ) (I0 : qI) (n cz op : Nat) (r : Bool × pSt) : qPost := fun v S' I' J' => v = some (.int (if r.1 = true then 1 else 0)) ∧ S = S' ∧ pRd I0 n cz op r.2 I' ∧ J = J'
section G17
variable {E : qE} {S : qSh} {I0 I : qI} {J : qJ} {f : Nat → Int32} {n cz op : Nat} {s : pSt}
theorem c_Md_is {x : Int32} (hM : isMd S) (hx : pTx I0 f n) (h : pRd I0 n cz op s I) : qMet E y_Md_is b_Md_is 2 (some .boolean) 0 0 0 [.ref (qb E + 114), .int x] S I J (pQ S J I0 n cz op (pis f n x s)) := by
  have hT := hM.1
  have f12 := hM.r 8 rfl
  have g12 := hM.a 8 rfl
  obtain ⟨x1, x2, x3⟩ := hx
  have h0 := h
  obtain ⟨h1, h2, h3, h4, h5, h6, h7, h8⟩ := h
  have hn : I 114 11 = nI n := by rw [h2 11 (by decide) (by decide) (by decide) (by decide) (by decide)]; exact x1
  refine qMet.of (L := [some (.ref (qb E + 114)), some (.int x)]) (by decide +kernel) (Nat.le_of_ble_eq_true rfl) rfl ?_
  refine lda_n_2_0 (pc := 0) d_Md_is_0 ?_
  refine g_Md_146 (pc := 1) rfl d_Md_is_1 (by assumption) ?_
  refine lda_n_2_0 (pc := 4) d_Md_is_4 ?_
  refine g_Md_143 (pc := 5) rfl d_Md_is_5 (by assumption) ?_
  rw [h3, hn]
  refine r_icmp_eq (pc := 8) (tgt := 24) d_Md_is_8 (by decide) (fun c => ?_) (fun c => ?_)
  · have e : ¬ s.1 < n := by have := (nI_eq (by omega) (by omega)).mp c; omega
    rw [show pis f n x s = (false, s) from if_neg (fun q => e q.1)]
    refine r_iconst (pc := 24) (v := 0) d_Md_is_24 rfl ?_
    exact r_nret d_Md_is_25 rfl (qbool_n (by first | exact Or.inl rfl | exact Or.inr rfl | assumption | exact qwithin_b | exact qbit_b)) (by omega) (by omega) (⟨rfl, rfl, h0, rfl⟩)
  · have hlt : s.1 < n := by
      rcases Nat.lt_or_ge s.1 n with q | q
      · exact q
      · exact absurd (show nI s.1 = nI n by rw [show s.1 = n by omega]) c
    refine lda_n_2_0 (pc := 11) d_Md_is_11 ?_
    refine g_Md_36 (pc := 12) rfl d_Md_is_12 (by assumption) (by assumption) ?_
    refine lda_n_2_0 (pc := 15) d_Md_is_15 ?_
    refine g_Md_146 (pc := 16) rfl d_Md_is_16 (by assumption) ?_
    rw [h3]
    refine r_iald (pc := 19) d_Md_is_19 (by assumption) (by first | assumption | exact vp_in_nI (by omega) (by omega) | (unfold vp_in; decide)) ?_
    refine ldi_n_2_1 (pc := 20) d_Md_is_20 ?_
    rw [qcl (n := s.1) (by omega), h1 123 (by decide) (by decide), (x3 _ hlt).1]
    refine r_icmp_eq (pc := 21) (tgt := 26) d_Md_is_21 (by decide) (fun c2 => ?_) (fun c2 => ?_)
    · have e2 : f s.1 = x := c2
      rw [show pis f n x s = (true, s.1 + 1, s.2) from if_pos ⟨hlt, e2⟩]
      refine lda_n_2_0 (pc := 26) d_Md_is_26 ?_
      refine r_dup (pc := 27) d_Md_is_27 rfl ?_
      refine g_Md_146 (pc := 28) rfl d_Md_is_28 (by assumption) ?_
      refine r_iconst (pc := 31) (v := 1) d_Md_is_31 rfl ?_
      refine r_iadd (pc := 32) d_Md_is_32 ?_
      refine p_Md_146 (pc := 33) rfl d_Md_is_33 (by assumption) ?_
      refine r_iconst (pc := 36) (v := 1) d_Md_is_36 rfl ?_
      exact r_nret d_Md_is_37 rfl (qbool_n (by first | exact Or.inl rfl | exact Or.inr rfl | assumption | exact qwithin_b | exact qbit_b)) (by omega) (by omega) (⟨rfl, rfl, h0.at hlt, rfl⟩)
    · rw [show pis f n x s = (false, s) from if_neg (fun q => c2 q.2)]
      refine r_iconst (pc := 24) (v := 0) d_Md_is_24 rfl ?_
      exact r_nret d_Md_is_25 rfl (qbool_n (by first | exact Or.inl rfl | exact Or.inr rfl | assumption | exact qwithin_b | exact qbit_b)) (by omega) (by omega) (⟨rfl, rfl, h0, rfl⟩)
theorem c_Md_isDigit (hM : isMd S) (hx : pTx I0 f n) (h : pRd I0 n cz op s I) : qMet E y_Md_isDigit b_Md_isDigit 1 (some .boolean) 0 0 0 [.ref (qb E + 114)] S I J (qPi S I J (if s.1 < n ∧ 48 ≤ f s.1 ∧ f s.1 ≤ 57 then 1 else 0)) := by
  have hT := hM.1
  have f12 := hM.r 8 rfl
  have g12 := hM.a 8 rfl
  obtain ⟨x1, x2, x3⟩ := hx
  obtain ⟨h1, h2, h3, h4, h5, h6, h7, h8⟩ := h
  have hn : I 114 11 = nI n := by rw [h2 11 (by decide) (by decide) (by decide) (by decide) (by decide)]; exact x1
  refine qMet.of (L := [some (.ref (qb E + 114))]) (by decide +kernel) (Nat.le_of_ble_eq_true rfl) rfl ?_
  refine lda_n_1_0 (pc := 0) d_Md_isDigit_0 ?_
  refine g_Md_146 (pc := 1) rfl d_Md_isDigit_1 (by assumption) ?_
  refine lda_n_1_0 (pc := 4) d_Md_isDigit_4 ?_
  refine g_Md_143 (pc := 5) rfl d_Md_isDigit_5 (by assumption) ?_
  rw [h3, hn]
  refine r_icmp_ge (pc := 8) (tgt := 43) d_Md_isDigit_8 (by decide) (fun c => ?_) (fun c => ?_)
  · have e : ¬ s.1 < n := fun q => absurd c (nI_ge q (by omega))
    rw [if_neg (fun q => e q.1)]
    refine r_iconst (pc := 43) (v := 0) d_Md_isDigit_43 rfl ?_
    exact r_nret d_Md_isDigit_44 rfl (qbool_n (by first | exact Or.inl rfl | exact Or.inr rfl | assumption | exact qwithin_b | exact qbit_b)) (by omega) (by omega) (⟨rfl, rfl, rfl, rfl⟩)
  · have hlt : s.1 < n := by
      rcases Nat.lt_or_ge s.1 n with q | q
      · exact q
      · exact absurd (nI_le q (by omega)) c
    refine lda_n_1_0 (pc := 11) d_Md_isDigit_11 ?_
    refine g_Md_36 (pc := 12) rfl d_Md_isDigit_12 (by assumption) (by assumption) ?_
    refine lda_n_1_0 (pc := 15) d_Md_isDigit_15 ?_
    refine g_Md_146 (pc := 16) rfl d_Md_isDigit_16 (by assumption) ?_
    rw [h3]
    refine r_iald (pc := 19) d_Md_isDigit_19 (by assumption) (by first | assumption | exact vp_in_nI (by omega) (by omega) | (unfold vp_in; decide)) ?_
    refine r_bipush (pc := 20) (v := 48) d_Md_isDigit_20 rfl ?_
    rw [qcl (n := s.1) (by omega), h1 123 (by decide) (by decide), (x3 _ hlt).1]
    refine r_icmp_lt (pc := 22) (tgt := 43) d_Md_isDigit_22 (by decide) (fun c2 => ?_) (fun c2 => ?_)
    · rw [if_neg (fun q => Int32.not_le.mpr c2 q.2.1)]
      refine r_iconst (pc := 43) (v := 0) d_Md_isDigit_43 rfl ?_
      exact r_nret d_Md_isDigit_44 rfl (qbool_n (by first | exact Or.inl rfl | exact Or.inr rfl | assumption | exact qwithin_b | exact qbit_b)) (by omega) (by omega) (⟨rfl, rfl, rfl, rfl⟩)
    · refine lda_n_1_0 (pc := 25) d_Md_isDigit_25 ?_
      refine g_Md_36 (pc := 26) rfl d_Md_isDigit_26 (by assumption) (by assumption) ?_
      refine lda_n_1_0 (pc := 29) d_Md_isDigit_29 ?_
      refine g_Md_146 (pc := 30) rfl d_Md_isDigit_30 (by assumption) ?_
      rw [h3]
      refine r_iald (pc := 33) d_Md_isDigit_33 (by assumption) (by first | assumption | exact vp_in_nI (by omega) (by omega) | (unfold vp_in; decide)) ?_
      refine r_bipush (pc := 34) (v := 57) d_Md_isDigit_34 rfl ?_
      rw [qcl (n := s.1) (by omega), h1 123 (by decide) (by decide), (x3 _ hlt).1]
      refine r_icmp_gt (pc := 36) (tgt := 43) d_Md_isDigit_36 (by decide) (fun c3 => ?_) (fun c3 => ?_)
      · rw [if_neg (fun q => Int32.not_le.mpr c3 q.2.2)]
        refine r_iconst (pc := 43) (v := 0) d_Md_isDigit_43 rfl ?_
        exact r_nret d_Md_isDigit_44 rfl (qbool_n (by first | exact Or.inl rfl | exact Or.inr rfl | assumption | exact qwithin_b | exact qbit_b)) (by omega) (by omega) (⟨rfl, rfl, rfl, rfl⟩)
      · rw [if_pos ⟨hlt, Int32.not_lt.mp c2, Int32.not_lt.mp c3⟩]
        refine r_iconst (pc := 39) (v := 1) d_Md_isDigit_39 rfl ?_
        refine r_goto (pc := 40) (tgt := 44) d_Md_isDigit_40 (by decide) ?_
        exact r_nret d_Md_isDigit_44 rfl (qbool_n (by first | exact Or.inl rfl | exact Or.inr rfl | assumption | exact qwithin_b | exact qbit_b)) (by omega) (by omega) (⟨rfl, rfl, rfl, rfl⟩)
theorem c_Md_codes {x : Int32} (hM : isMd S) (h : pRd I0 n cz op s I) (hb : cz + s.2.length < 800) : qMet E y_Md_codes b_Md_codes 2 (some .boolean) 0 0 0 [.ref (qb E + 114), .int x] S I J (pQ S J I0 n cz op (true, s.1, s.2 ++ [x])) := by
  have hT := hM.1
  have f24 := hM.r 14 rfl
  have g24 := hM.a 14 rfl
  have h6 := h.2.2.2.2.2.1
  refine qMet.of (L := [some (.ref (qb E + 114)), some (.int x)]) (by decide +kernel) (Nat.le_of_ble_eq_true rfl) rfl ?_
  refine lda_n_2_0 (pc := 0) d_Md_codes_0 ?_
  refine g_Md_54 (pc := 1) rfl d_Md_codes_1 (by assumption) (by assumption) ?_
  refine lda_n_2_0 (pc := 4) d_Md_codes_4 ?_
  refine r_dup (pc := 5) d_Md_codes_5 rfl ?_
  refine g_Md_171 (pc := 6) rfl d_Md_codes_6 (by assumption) ?_
  refine r_dup_x1 (pc := 9) d_Md_codes_9 rfl rfl ?_
  refine r_iconst (pc := 10) (v := 1) d_Md_codes_10 rfl ?_
  refine r_iadd (pc := 11) d_Md_codes_11 ?_
  refine p_Md_171 (pc := 12) rfl d_Md_codes_12 (by assumption) ?_
  rw [show (I 114 25 : Int32) = I 114 25 from rfl]
  refine ldi_n_2_1 (pc := 15) d_Md_codes_15 ?_
  refine r_iast (pc := 16) d_Md_codes_16 (by assumption) (by rw [h6]; exact vp_in_nI hb (by omega)) ?_
  refine r_iconst (pc := 17) (v := 1) d_Md_codes_17 rfl ?_
  exact r_nret d_Md_codes_18 rfl (qbool_n (by first | exact Or.inl rfl | exact Or.inr rfl | assumption | exact qwithin_b | exact qbit_b)) (by omega) (by omega) (⟨rfl, rfl, by rw [h6, qcl (n := cz + s.2.length) (by omega), ← h6]; exact h.put, rfl⟩)
end G17
