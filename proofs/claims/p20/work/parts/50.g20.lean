/-! the reference's reader: what it codes is well formed -/
theorem nI_subN {a b : Nat} (h : b ≤ a) : nI a - nI b = nI (a - b) := by
  conv => lhs; rw [show a = a - b + b by omega, ← nI_add]
  exact Int32.add_sub_cancel _ _
def dkL : List Int32 → Nat → Option Nat
  | [], t => some t
  | c :: l, t => if 3 ≤ c then dkL l (t + 1) else if c = 0 then (if 1 ≤ t then dkL l t else none) else (if 2 ≤ t then dkL l (t - 1) else none)
def pwf (w : List Int32) : Prop := ∀ t, dkL w t = some (t + 1)
def pext (one : pSt → Bool × pSt) : Prop := ∀ s, ∃ w, (one s).2.2 = s.2 ++ w ∧ ((one s).1 = true → pwf w)
theorem dkL_app : ∀ (a b : List Int32) (t : Nat), dkL (a ++ b) t = (dkL a t).bind (dkL b) := by
  intro a
  induction a with
  | nil => intro b t; rfl
  | cons c a ih =>
    intro b t
    rw [List.cons_append, dkL, dkL]
    split
    · exact ih b (t + 1)
    · split
      · split
        · exact ih b t
        · rfl
      · split
        · exact ih b (t - 1)
        · rfl
theorem dokN_of {g : Nat → Int32} : ∀ (w : List Int32) (b t t2 : Nat), (∀ j, j < w.length → g (b + j) = w.getD j 0) → dkL w t = some t2 → 0 < t2 → t + w.length ≤ 110 → dokN g w.length b t := by
  intro w
  induction w with
  | nil => intro b t t2 _ h h2 _; have : t = t2 := Option.some.inj h; show 0 < t; omega
  | cons c w ih =>
    intro b t t2 hg h h2 hl
    have hc : g b = c := by have := hg 0 (Nat.zero_lt_succ _); simpa using this
    have hg2 : ∀ j, j < w.length → g (b + 1 + j) = w.getD j 0 := fun j hj => by
      have := hg (j + 1) (Nat.succ_lt_succ hj)
      rw [show b + 1 + j = b + (j + 1) by omega, this]; simp
    rw [List.length_cons] at hl
    rw [List.length_cons, dokN, hc]
    rw [dkL] at h
    split
    · rename_i q
      rw [if_pos q] at h
      exact ⟨by omega, ih (b + 1) (t + 1) t2 hg2 h h2 (by omega)⟩
    · rename_i q
      rw [if_neg q] at h
      split
      · rename_i q2
        rw [if_pos q2] at h
        split at h
        · rename_i q3
          exact ⟨q3, ih (b + 1) t t2 hg2 h h2 (by omega)⟩
        · cases h
      · rename_i q2
        rw [if_neg q2] at h
        split at h
        · rename_i q3
          exact ⟨q3, ih (b + 1) (t - 1) t2 hg2 h h2 (by omega)⟩
        · cases h
theorem pfd_ok : ∀ (l : List Int32) (k : Nat) (x : Int32), pfd l k x = -1 ∨ ∃ j, k ≤ j ∧ j < k + l.length ∧ pfd l k x = nI j := by
  intro l
  induction l with
  | nil => intro k x; exact Or.inl rfl
  | cons c l ih =>
    intro k x
    rw [pfd]
    split
    · exact Or.inr ⟨k, Nat.le_refl _, by rw [List.length_cons]; omega, rfl⟩
    · rcases ih (k + 1) x with q | ⟨j, q1, q2, q3⟩
      · exact Or.inl q
      · exact Or.inr ⟨j, by omega, by rw [List.length_cons]; omega, q3⟩
section G20
variable {f : Nat → Int32} {n : Nat}
theorem plet_ok {i a : Nat} (h : ¬ plet f n i a < 0) : ∃ j, j < (qByt.getD i []).length ∧ plet f n i a = nI j := by
  unfold plet at h ⊢
  split at h
  · rename_i q
    rw [if_pos q]
    rcases pfd_ok (qByt.getD i []) 0 (f a) with w | ⟨j, -, w1, w2⟩
    · rw [w] at h; exact absurd (by decide) h
    · exact ⟨j, by omega, w2⟩
  · exact absurd (by decide) h
theorem pnum_ok (hf : ∀ j, j < n → ∃ k, k < 128 ∧ f j = nI k) : ∀ (m v0 k a : Nat), ∃ r, (pnumL f n m (nI v0) k a).1 = nI r ∧ r + 1 ≤ 10 ^ m * (v0 + 1) := by
  intro m
  induction m with
  | zero => intro v0 k a; exact ⟨v0, rfl, by simp⟩
  | succ m ih =>
    intro v0 k a
    rw [pnumL]
    split
    · rename_i q
      obtain ⟨d, d1, d2⟩ := hf a q.1
      have e1 : 48 ≤ d := (nI_leI (by omega) (by omega)).mp (show nI 48 ≤ nI d by rw [← d2]; exact q.2.1)
      have e2 : d ≤ 57 := (nI_leI (by omega) (by omega)).mp (show nI d ≤ nI 57 by rw [← d2]; exact q.2.2)
      have e3 : 10 * nI v0 + f a - 48 = nI (10 * v0 + (d - 48)) := by
        rw [d2, show (10 : Int32) = nI 10 from rfl, pk_mul, nI_add, show (48 : Int32) = nI 48 from rfl, nI_subN (by omega)]
        congr 1; omega
      rw [e3]
      obtain ⟨r, r1, r2⟩ := ih (10 * v0 + (d - 48)) (k + 1) (a + 1)
      refine ⟨r, r1, Nat.le_trans r2 ?_⟩
      rw [Nat.pow_succ, Nat.mul_assoc]
      exact Nat.mul_le_mul_left _ (by omega)
    · refine ⟨v0, rfl, ?_⟩
      have : 1 ≤ 10 ^ (m + 1) := Nat.one_le_pow _ _ (by decide)
      calc v0 + 1 = 1 * (v0 + 1) := (Nat.one_mul _).symm
        _ ≤ _ := Nat.mul_le_mul_right _ this
theorem pnum99 (hf : ∀ j, j < n → ∃ k, k < 128 ∧ f j = nI k) (a : Nat) : ∃ r, r ≤ 99 ∧ (pnumL f n 2 0 0 a).1 = nI r := by
  obtain ⟨r, r1, r2⟩ := pnum_ok hf 2 0 0 a
  exact ⟨r, by omega, r1⟩
theorem ptest_ext (hf : ∀ j, j < n → ∃ k, k < 128 ∧ f j = nI k) : pext (ptest f n) := by
  intro s
  unfold ptest
  split
  · exact ⟨[], by simp, fun q => absurd q Bool.false_ne_true⟩
  · rename_i h1
    split
    · exact ⟨[], by simp, fun q => absurd q Bool.false_ne_true⟩
    · rename_i h2
      split
      · exact ⟨[], by simp, fun q => absurd q Bool.false_ne_true⟩
      · refine ⟨_, rfl, fun _ t => ?_⟩
        obtain ⟨l, l1, l2⟩ := plet_ok h1
        obtain ⟨g, g1, g2⟩ := plet_ok h2
        obtain ⟨v, v1, v2⟩ := pnum99 hf (s.1 + 2)
        have l3 : l < 6 := Nat.lt_of_lt_of_le l1 (by decide +kernel)
        have g3 : g < 3 := Nat.lt_of_lt_of_le g1 (by decide +kernel)
        have e : 3 + 300 * plet f n 0 s.1 + 100 * plet f n 6 (s.1 + 1) + (pnumL f n 2 0 0 (s.1 + 2)).1 = nI (3 + 300 * l + 100 * g + v) := by
          rw [l2, g2, v2, show (300 : Int32) = nI 300 from rfl, show (100 : Int32) = nI 100 from rfl, show (3 : Int32) = nI 3 from rfl, pk_mul, pk_mul, nI_add, nI_add, nI_add]
        have e3 : (3 : Int32) ≤ nI (3 + 300 * l + 100 * g + v) := show nI 3 ≤ nI (3 + 300 * l + 100 * g + v) from nI_le (by omega) (by omega)
        rw [e, dkL, if_pos e3]
        rfl
theorem ploop_ext {one : pSt → Bool × pSt} {c x : Int32} (h3 : ¬ 3 ≤ x) (h0 : ¬ x = 0) (h : pext one) : ∀ (m : Nat) (s : pSt), ∃ w, (ploop f n one c x m s).2.2 = s.2 ++ w ∧ ((ploop f n one c x m s).1 = true → ∀ t, dkL w (t + 1) = some (t + 1)) := by
  intro m
  induction m with
  | zero => intro s; exact ⟨[], by simp [ploop], fun _ t => rfl⟩
  | succ m ih =>
    intro s
    rw [ploop]
    split
    · obtain ⟨w1, a1, a2⟩ := h (s.1 + 1, s.2)
      split
      · rename_i q
        obtain ⟨w2, b1, b2⟩ := ih ((one (s.1 + 1, s.2)).2.1, (one (s.1 + 1, s.2)).2.2 ++ [x])
        refine ⟨w1 ++ ([x] ++ w2), ?_, fun z t => ?_⟩
        · rw [b1]; simp only [a1, List.append_assoc]
        · rw [dkL_app, a2 q (t + 1)]
          show dkL ([x] ++ w2) (t + 2) = _
          rw [List.singleton_append, dkL, if_neg h3, if_neg h0, if_pos (by omega)]
          exact b2 z t
      · rename_i q
        exact ⟨w1, a1, fun z => absurd z q⟩
    · exact ⟨[], by simp, fun _ t => rfl⟩
theorem psq_ext {one : pSt → Bool × pSt} {c x : Int32} (h3 : ¬ 3 ≤ x) (h0 : ¬ x = 0) (h : pext one) : pext (psq f n one c x) := by
  intro s
  unfold psq
  obtain ⟨w1, a1, a2⟩ := h s
  split
  · rename_i q
    obtain ⟨w2, b1, b2⟩ := ploop_ext (f := f) (n := n) (c := c) h3 h0 h 101 (one s).2
    refine ⟨w1 ++ w2, by rw [b1, a1, List.append_assoc], fun z t => ?_⟩
    rw [dkL_app, a2 q t]
    exact b2 z t
  · rename_i q
    exact ⟨w1, a1, fun z => absurd z q⟩
theorem pE_ext {one : pSt → Bool × pSt} (h : pext one) : pext (pE f n one) := psq_ext (by decide) (by decide) (psq_ext (by decide) (by decide) h)
theorem pis_codes {c : Int32} {s : pSt} : (pis f n c s).2.2 = s.2 := by unfold pis; split <;> rfl
theorem pF_ext (hf : ∀ j, j < n → ∃ k, k < 128 ∧ f j = nI k) : ∀ k, pext (pF f n k) := by
  intro k
  induction k with
  | zero => exact ptest_ext hf
  | succ k ih =>
    intro s
    rw [pF]
    split
    · obtain ⟨w1, a1, a2⟩ := ih (s.1 + 1, s.2)
      split
      · rename_i q
        refine ⟨w1 ++ [0], by simp only [a1, List.append_assoc], fun _ t => ?_⟩
        rw [dkL_app, a2 q t]
        rfl
      · rename_i q
        exact ⟨w1, a1, fun z => absurd z q⟩
    · split
      · obtain ⟨w1, a1, a2⟩ := pE_ext (f := f) (n := n) ih (s.1 + 1, s.2)
        split
        · rename_i q
          exact ⟨w1, by rw [pis_codes]; exact a1, fun _ => a2 q⟩
        · rename_i q
          exact ⟨w1, a1, fun z => absurd z q⟩
      · exact ptest_ext hf s
end G20
