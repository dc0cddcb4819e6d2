/-! the reference's islands stay in order -/
/-- a clause whose codes lie among the codes read -/
def POK (B : qI) (cz : Nat) (s : pSt) (c : Nat) : Prop := B 125 c = 2 ∨ ∃ u w x, s.2 = u ++ (w ++ x) ∧ B 127 c = nI (cz + u.length) ∧ B 128 c = nI w.length ∧ pwf w
section G23
variable {f : Nat → Int32} {n cz h : Nat}
theorem ptl_ok {B : qI} {c : Nat} {w v : Int32} {t : pSt} (hf : ∀ j, j < n → ∃ k, k < 128 ∧ f j = nI k) (hw : w = 0 ∨ w = 1 ∨ w = 2) (ht : (ptl f n B cz c w v t).1 = true) : (∃ x, (ptl f n B cz c w v t).2.1.2 = t.2 ++ x) ∧ POK (ptl f n B cz c w v t).2.2 cz (ptl f n B cz c w v t).2.1 c := by
  have r125 : pB1 B cz c w v t 125 c = w := by unfold pB1; rw [qup_o (by decide), qup_o (by decide), qup_at]
  have r127 : pB1 B cz c w v t 127 c = nI (cz + t.2.length) := by unfold pB1; rw [qup_at]
  unfold ptl at ht ⊢
  by_cases q : w < 2
  · rw [if_pos q] at ht ⊢
    by_cases q1 : (pis f n 32 t).1 = true
    · rw [if_pos q1] at ht ⊢
      by_cases q2 : (pE f n (pF f n 4) (pis f n 32 t).2).1 = true
      · rw [if_pos q2]
        obtain ⟨ww, x1, x2⟩ := pE_ext (f := f) (n := n) (pF_ext hf 4) (pis f n 32 t).2
        rw [pis_codes] at x1
        refine ⟨⟨ww, x1⟩, Or.inr ⟨t.2, ww, [], by simpa using x1, ?_, ?_, x2 q2⟩⟩
        · have z : ∀ x : Int32, qup (pB1 B cz c w v t) 128 c x 127 c = nI (cz + t.2.length) := fun x => by rw [qup_o (by decide), r127]
          exact z (nI ((pE f n (pF f n 4) (pis f n 32 t).2).2.2.length - t.2.length))
        · refine qup_at.trans ?_
          rw [x1, List.length_append, Nat.add_sub_cancel_left]
      · rw [if_neg q2] at ht; exact absurd ht Bool.false_ne_true
    · rw [if_neg q1] at ht; exact absurd ht Bool.false_ne_true
  · rw [if_neg q]
    refine ⟨⟨[], by simp⟩, Or.inl ?_⟩
    have z : qup (pB1 B cz c w v t) 128 c 0 125 c = w := by rw [qup_o (by decide), r125]
    refine Eq.trans z ?_
    rcases hw with rfl | rfl | rfl
    · exact absurd (by decide) q
    · exact absurd (by decide) q
    · rfl
theorem ptl_off {B : qI} {c a j : Nat} {w v : Int32} {t : pSt} (hj : j ≠ c) : (ptl f n B cz c w v t).2.2 a j = B a j := by
  have e : pB1 B cz c w v t a j = B a j := by unfold pB1; rw [qup_j hj, qup_j hj, qup_j hj]
  unfold ptl
  split
  · split
    · split
      · show qup _ 128 c _ a j = _
        rw [qup_j hj, e]
      · exact e
    · exact e
  · show qup _ 128 c _ a j = _
    rw [qup_j hj, e]
theorem pcl_off {B : qI} {c a j : Nat} {s : pSt} (hj : j ≠ c) : (pcl f n B cz c s).2.2 a j = B a j := by
  unfold pcl
  split
  · rfl
  · split
    · split
      · rfl
      · exact ptl_off hj
    · rfl
theorem pw_012 {a : Nat} (h : ¬ pw f n a = -1) : pw f n a = 0 ∨ pw f n a = 1 ∨ pw f n a = 2 := by
  unfold pw at h ⊢
  split
  · rename_i q
    rw [if_pos q] at h
    split
    · exact Or.inl rfl
    · rename_i q1
      rw [if_neg q1] at h
      split
      · exact Or.inr (Or.inl rfl)
      · rename_i q2
        rw [if_neg q2] at h
        split
        · exact Or.inr (Or.inr rfl)
        · rename_i q3
          rw [if_neg q3] at h
          exact absurd rfl h
  · rename_i q
    rw [if_neg q] at h
    exact absurd rfl h
theorem pcl_ok {B : qI} {c : Nat} {s : pSt} (hf : ∀ j, j < n → ∃ k, k < 128 ∧ f j = nI k) (ht : (pcl f n B cz c s).1 = true) : (∃ x, (pcl f n B cz c s).2.1.2 = s.2 ++ x) ∧ POK (pcl f n B cz c s).2.2 cz (pcl f n B cz c s).2.1 c := by
  have g1 := pall_len (f := f) (n := n) (qByt.getD (pwi f s.1) []) s
  unfold pcl at ht ⊢
  by_cases q : pw f n s.1 = -1
  · rw [if_pos q] at ht; exact absurd ht Bool.false_ne_true
  · rw [if_neg q] at ht ⊢
    by_cases q1 : (pall f n (qByt.getD (pwi f s.1) []) s).1 = true
    · rw [if_pos q1] at ht ⊢
      by_cases q2 : (pnumL f n 2 0 0 (pall f n (qByt.getD (pwi f s.1) []) s).2.1).2.1 = 0
      · rw [if_pos q2] at ht; exact absurd ht Bool.false_ne_true
      · rw [if_neg q2] at ht ⊢
        rw [g1.1] at ht ⊢
        exact ptl_ok hf (pw_012 q) ht
    · rw [if_neg q1] at ht; exact absurd ht Bool.false_ne_true
theorem POK.more {B B2 : qI} {s s2 : pSt} {c : Nat} {x : List Int32} (hp : POK B cz s c) (e : s2.2 = s.2 ++ x) (hB : ∀ a, B2 a c = B a c) : POK B2 cz s2 c := by
  rcases hp with q | ⟨u, w, y, e1, e2, e3, e4⟩
  · exact Or.inl (by rw [hB]; exact q)
  · exact Or.inr ⟨u, w, y ++ x, by rw [e, e1]; simp [List.append_assoc], by rw [hB]; exact e2, by rw [hB]; exact e3, e4⟩
theorem pisl_off : ∀ (k m : Nat) (B : qI) (s : pSt), (∀ a j, j < 10 * h → (pisl f n h cz k m B s).2.2.2 a j = B a j) ∧ (∀ a, a ≠ 125 → a ≠ 126 → a ≠ 127 → a ≠ 128 → (pisl f n h cz k m B s).2.2.2 a = B a) ∧ pgd s ((pisl f n h cz k m B s).1, (pisl f n h cz k m B s).2.2.1) ∧ m ≤ (pisl f n h cz k m B s).2.1 ∧ (pisl f n h cz k m B s).2.1 ≤ m + k := by
  intro k
  induction k with
  | zero => intro m B s; exact ⟨fun _ _ _ => rfl, fun _ _ _ _ _ => rfl, ⟨Nat.le_refl _, Nat.le_refl _⟩, Nat.le_refl _, Nat.le_refl _⟩
  | succ k ih =>
    intro m B s
    have r1 : ∀ a j, j < 10 * h → (pcl f n B cz (10 * h + m) s).2.2 a j = B a j := fun a j hj => pcl_off (by omega)
    have r2 : ∀ a, a ≠ 125 → a ≠ 126 → a ≠ 127 → a ≠ 128 → (pcl f n B cz (10 * h + m) s).2.2 a = B a := fun a x1 x2 x3 x4 => pcl_row x1 x2 x3 x4
    have gg := pcl_good (f := f) (n := n) (B := B) (cz := cz) (c := 10 * h + m) (s := s)
    rw [pisl]
    generalize pcl f n B cz (10 * h + m) s = r at *
    have g3 := pis_good (f := f) (n := n) (s := r.2.1) (x := 59)
    unfold pgd at *
    split
    · split
      · exact ⟨r1, r2, gg, by simp only; omega, by simp only; omega⟩
      · split
        · exact ⟨r1, r2, gg, by simp only; omega, by simp only; omega⟩
        · split
          · obtain ⟨i1, i2, i3, i4, i5⟩ := ih (m + 1) r.2.2 (pis f n 59 r.2.1).2
            refine ⟨fun a j hj => by rw [i1 a j hj, r1 a j hj], fun a x1 x2 x3 x4 => by rw [i2 a x1 x2 x3 x4, r2 a x1 x2 x3 x4], ?_, by omega, by omega⟩
            simp only at gg i3 ⊢
            omega
          · refine ⟨r1, r2, ?_, by simp only; omega, by simp only; omega⟩
            simp only at gg ⊢
            omega
    · exact ⟨r1, r2, gg, by simp only; omega, by simp only; omega⟩
theorem pisl_ok (hf : ∀ j, j < n → ∃ k, k < 128 ∧ f j = nI k) : ∀ (k m : Nat) (B : qI) (s : pSt), (pisl f n h cz k m B s).1 = true → (∀ i, i < m → POK B cz s (10 * h + i)) → ∀ i, i < (pisl f n h cz k m B s).2.1 → POK (pisl f n h cz k m B s).2.2.2 cz (pisl f n h cz k m B s).2.2.1 (10 * h + i) := by
  intro k
  induction k with
  | zero => intro m B s ht; exact absurd ht Bool.false_ne_true
  | succ k ih =>
    intro m B s ht hp i hi
    rw [pisl] at ht hi ⊢
    by_cases q : (pcl f n B cz (10 * h + m) s).1 = true
    · rw [if_pos q] at ht hi ⊢
      obtain ⟨⟨x, x1⟩, x2⟩ := pcl_ok hf q
      have all : ∀ i, i < m + 1 → POK (pcl f n B cz (10 * h + m) s).2.2 cz (pcl f n B cz (10 * h + m) s).2.1 (10 * h + i) := fun i hi => by
        by_cases e : i = m
        · subst e; exact x2
        · exact (hp i (by omega)).more x1 (fun a => pcl_off (by omega))
      by_cases q1 : (pcl f n B cz (10 * h + m) s).2.1.1 = n
      · rw [if_pos q1] at hi ⊢
        exact all i hi
      · rw [if_neg q1] at ht hi ⊢
        by_cases q2 : k = 0
        · rw [if_pos q2] at ht; exact absurd ht Bool.false_ne_true
        · rw [if_neg q2] at ht hi ⊢
          by_cases q3 : (pis f n 59 (pcl f n B cz (10 * h + m) s).2.1).1 = true
          · rw [if_pos q3] at ht hi ⊢
            exact ih (m + 1) _ _ ht (fun i hi => (all i hi).more (x := []) (by rw [pis_codes]; simp) (fun a => rfl)) i hi
          · rw [if_neg q3] at ht; exact absurd ht Bool.false_ne_true
    · rw [if_neg q] at ht; exact absurd ht Bool.false_ne_true
theorem dokN_cg {g1 g2 : Nat → Int32} : ∀ (m b t : Nat), (∀ j, j < m → g1 (b + j) = g2 (b + j)) → dokN g1 m b t → dokN g2 m b t := by
  intro m
  induction m with
  | zero => intro b t _ h; exact h
  | succ m ih =>
    intro b t hg h
    have e : g1 b = g2 b := hg 0 (Nat.succ_pos _)
    have hg2 : ∀ j, j < m → g1 (b + 1 + j) = g2 (b + 1 + j) := fun j hj => by rw [show b + 1 + j = b + (j + 1) by omega]; exact hg (j + 1) (Nat.succ_lt_succ hj)
    rw [dokN, e] at h
    rw [dokN]
    split
    · rename_i q
      rw [if_pos q] at h
      exact ⟨h.1, ih _ _ hg2 h.2⟩
    · rename_i q
      rw [if_neg q] at h
      split
      · rename_i q2
        rw [if_pos q2] at h
        exact ⟨h.1, ih _ _ hg2 h.2⟩
      · rename_i q2
        rw [if_neg q2] at h
        exact ⟨h.1, ih _ _ hg2 h.2⟩
/-- what an island leaves -/
def pAft (I I' : qI) : Prop := (∀ a, a ≠ 114 → (a < 124 ∨ 129 < a) → I' a = I a) ∧ (∀ j, j ≠ 11 → j ≠ 13 → j ≠ 14 → j ≠ 15 → j ≠ 16 → j ≠ 17 → j ≠ 18 → j ≠ 25 → I' 114 j = I 114 j) ∧ I' 114 11 = 0 ∧ ∃ op, I' 114 16 = nI op
theorem mIs.isl {S S' : qSh} {I I' : qI} {J J' : qJ} {v : Option Value} (hh : h < 6) (hc0 : cz ≤ 100 * h) (h25 : I 114 25 = nI cz) (h17 : I 114 17 = nI h) (hcl : ∀ h', h' < h → ∃ k, k ≤ 10 ∧ I 124 h' = nI k ∧ ∀ i, i < k → mClOK I cz (10 * h' + i)) (hx : pTx I f n) (hQ : pIQ S J n h cz (pisl f n h cz 10 0 I (0, [])) v S' I' J') :
    S = S' ∧ J = J' ∧ pAft I I' ∧ (((pisl f n h cz 10 0 I (0, [])).1 = true ∧ v = some (.int (nI h)) ∧ mIs I' (h + 1) ∧ I' 114 18 = nI h) ∨ (¬ (pisl f n h cz 10 0 I (0, [])).1 = true ∧ v = some (.int (-10 - nI (pisl f n h cz 10 0 I (0, [])).2.2.1.1)) ∧ mIs I' h ∧ I' 114 18 = I 114 18)) := by
  have hf : ∀ j, j < n → ∃ k, k < 128 ∧ f j = nI k := fun j hj => (hx.2.2 j hj).2
  have hn := hx.2.1
  obtain ⟨rfl, rfl, K, op, hK, hR⟩ := hQ
  obtain ⟨o1, o2, o3, o4, o5⟩ := pisl_off (f := f) (n := n) (h := h) (cz := cz) 10 0 I (0, [])
  have ok := pisl_ok (f := f) (n := n) (h := h) (cz := cz) hf 10 0 I (0, [])
  generalize pisl f n h cz 10 0 I (0, []) = R at *
  obtain ⟨rb, rm, rs, rB⟩ := R
  unfold pgd at o3
  simp only [List.length_nil] at o1 o2 o3 o4 o5 ok hK hR ⊢
  obtain ⟨k1, k2, k3, k4, k5, k6, k7, k8⟩ := hK
  have e129 : ∀ j, j < cz → K 129 j = I 129 j := fun j hj => by rw [k7 j hj, o2 129 (by decide) (by decide) (by decide) (by decide)]
  have old : ∀ (M : qI) (cz2 h' i : Nat), (∀ a, 125 ≤ a → a ≤ 129 → M a = K a) → cz ≤ cz2 → h' < h → i < 10 → mClOK I cz (10 * h' + i) → mClOK M cz2 (10 * h' + i) := by
    intro M cz2 h' i hM hz hh' hi hc
    have q : ∀ a, 125 ≤ a → a ≤ 128 → M a (10 * h' + i) = I a (10 * h' + i) := fun a a1 a2 => by rw [hM a a1 (by omega), k1 a (by omega) (by omega), o1 a _ (by omega)]
    rcases hc with c | ⟨b, m, c1, c2, c3, c4⟩
    · exact Or.inl (by rw [q 125 (by decide) (by decide)]; exact c)
    · refine Or.inr ⟨b, m, by rw [q 127 (by decide) (by decide)]; exact c1, by rw [q 128 (by decide) (by decide)]; exact c2, by omega, dokN_cg m b 0 (fun j hj => ?_) c4⟩
      rw [hM 129 (by decide) (by decide), e129 _ (by omega)]
  rcases hR with ⟨rt, rfl, rfl⟩ | ⟨rt, rfl, rfl⟩
  · have key : ∀ a, 125 ≤ a → a ≤ 129 → qup (qup (qup (qup K 114 11 0) 124 h (nI rm)) 114 18 (nI h)) 114 17 (nI (h + 1)) a = K a := fun a a1 a2 => by rw [qup_row (by omega), qup_row (by omega), qup_row (by omega), qup_row (by omega)]
    refine ⟨trivial, trivial, ⟨fun a a1 a2 => ?_, fun j j1 j2 j3 j4 j5 j6 j7 j8 => ?_, ?_, op, ?_⟩, Or.inl ⟨rt, rfl, ⟨by omega, by rw [qup_at], cz + rs.2.length, by omega, ?_, fun h' hh' => ?_⟩, by rw [qup_j (by decide), qup_at]⟩⟩
    · rw [qup_row a1, qup_row a1, qup_row (by omega), qup_row a1, k1 a a1 (by omega), o2 a (by omega) (by omega) (by omega) (by omega)]
    · rw [qup_j j6, qup_j j7, qup_o (by decide), qup_j j1, k2 j j2 j3 j4 j5 j8, o2 114 (by decide) (by decide) (by decide) (by decide)]
    · rw [qup_j (by decide), qup_j (by decide), qup_o (by decide), qup_at]
    · rw [qup_j (by decide), qup_j (by decide), qup_o (by decide), qup_j (by decide)]; exact k5
    · rw [qup_j (by decide), qup_j (by decide), qup_o (by decide), qup_j (by decide)]; exact k6
    · by_cases e : h' = h
      · subst e
        refine ⟨rm, by omega, by rw [qup_row (by decide), qup_row (by decide), qup_at], fun i hi => ?_⟩
        rcases ok rt (fun i hi => absurd hi (Nat.not_lt_zero _)) i hi with c | ⟨u, w, x, c1, c2, c3, c4⟩
        · exact Or.inl (by rw [key 125 (by decide) (by decide), k1 125 (by decide) (by decide)]; exact c)
        · have lc : rs.2.length = u.length + (w.length + x.length) := by rw [c1, List.length_append, List.length_append]
          refine Or.inr ⟨cz + u.length, w.length, by rw [key 127 (by decide) (by decide), k1 127 (by decide) (by decide)]; exact c2, by rw [key 128 (by decide) (by decide), k1 128 (by decide) (by decide)]; exact c3, by omega, ?_⟩
          rw [key 129 (by decide) (by decide)]
          refine dokN_of w (cz + u.length) 0 1 (fun j hj => ?_) (c4 0) (by decide) (by omega)
          rw [Nat.add_assoc, k8 (u.length + j) (by omega), c1]
          simp [List.getD_eq_getElem?_getD, List.getElem?_append_right, List.getElem?_append_left hj]
      · obtain ⟨k, c1, c2, c3⟩ := hcl h' (by omega)
        refine ⟨k, c1, ?_, fun i hi => old _ _ h' i key (by omega) (by omega) (by omega) (c3 i hi)⟩
        rw [qup_row (by decide), qup_row (by decide), qup_j e, qup_row (by decide), k1 124 (by decide) (by decide), o2 124 (by decide) (by decide) (by decide) (by decide)]
        exact c2
  · have key : ∀ a, 124 ≤ a → a ≤ 129 → qup (qup K 114 11 0) 114 25 (nI cz) a = K a := fun a a1 a2 => by rw [qup_row (by omega), qup_row (by omega)]
    refine ⟨trivial, trivial, ⟨fun a a1 a2 => ?_, fun j j1 j2 j3 j4 j5 j6 j7 j8 => ?_, ?_, op, ?_⟩, Or.inr ⟨rt, rfl, ⟨by omega, ?_, cz, hc0, by rw [qup_at], fun h' hh' => ?_⟩, ?_⟩⟩
    · rw [qup_row a1, qup_row a1, k1 a a1 (by omega), o2 a (by omega) (by omega) (by omega) (by omega)]
    · rw [qup_j j8, qup_j j1, k2 j j2 j3 j4 j5 j8, o2 114 (by decide) (by decide) (by decide) (by decide)]
    · rw [qup_j (by decide), qup_at]
    · rw [qup_j (by decide), qup_j (by decide)]; exact k5
    · rw [qup_j (by decide), qup_j (by decide), k2 17 (by decide) (by decide) (by decide) (by decide) (by decide), o2 114 (by decide) (by decide) (by decide) (by decide)]; exact h17
    · obtain ⟨k, c1, c2, c3⟩ := hcl h' hh'
      refine ⟨k, c1, ?_, fun i hi => old _ _ h' i (fun a a1 a2 => key a (by omega) a2) (Nat.le_refl _) hh' (by omega) (c3 i hi)⟩
      rw [key 124 (by decide) (by decide), k1 124 (by decide) (by decide), o2 124 (by decide) (by decide) (by decide) (by decide)]
      exact c2
    · rw [qup_j (by decide), qup_j (by decide), k2 18 (by decide) (by decide) (by decide) (by decide) (by decide), o2 114 (by decide) (by decide) (by decide) (by decide)]
end G23
