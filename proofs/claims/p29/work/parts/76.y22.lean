/-! the reference's invariant kept: seen, swapped -/
section H22
variable {E : qE} {S : qSh} {I : qI} {J : qJ}
theorem kpa_act : ∀ j, j < 124 → (kpa j).1 ≠ 138 ∧ ¬ ((kpa j).1 = 114 ∧ (kpa j).2 = 37) := by decide +kernel
/-- what touches the trace alone -/
theorem rDat.tr {I I' : qI} (h : rDat I) (e : ∀ a, a ≠ 114 → a ≠ 138 → I' a = I a) (f : ∀ j, j ≠ 37 → I' 114 j = I 114 j) (ht : ∃ t, t < 2 ^ 30 ∧ I' 114 37 = nI t) : rDat I' := by
  obtain ⟨n, h1, h2, h3, h4, h5, h6, h7⟩ := h
  refine ⟨n, h1.cg (f 17 (by decide)) (f 25 (by decide)) (fun a a1 a2 => e a (by omega) (by omega)), h2.cg (fun j hj => ?_), ?_, ?_, ?_, ht, ?_⟩
  · obtain ⟨q1, q2⟩ := kpa_act j hj
    unfold kp
    by_cases z : (kpa j).1 = 114
    · rw [z] at q2 ⊢
      exact f _ (fun w => q2 ⟨rfl, w⟩)
    · rw [e _ z q1]
  · rw [f 39 (by decide), e 139 (by decide) (by decide)]; exact h3
  · rw [f 11 (by decide), e 123 (by decide) (by decide)]; exact h4
  · rw [f 16 (by decide)]; exact h5
  · rw [e 146 (by decide) (by decide)]; exact h7
end H22
theorem mT_len {i v x : Int32} {kd k : Nat} : (mT i v kd k x).2.length ≤ 20 := by
  have h1 := mT0_len (i := i) (v := v) (x := x) (kd := kd)
  have h2 := mK_len (i := i) (v := v) (x := 1) (kd := kd) (k := kd)
  have h3 := mT0_len (i := i) (v := v) (x := x - i) (kd := kd)
  unfold mT
  (repeat' split) <;> (try simp only [List.length_cons, List.length_append]) <;> omega
theorem mAct_len {i v a x : Int32} {kd : Nat} : (mAct i v kd a x).2.length ≤ 20 := by
  unfold mAct
  split
  · exact Nat.le_trans mW_len (by decide)
  · split
    · exact Nat.le_trans mK_len (by decide)
    · exact mT_len
section H22b
variable {E : qE} {S : qSh} {I : qI} {J : qJ}
theorem R_act {m a x : Int32} (hM : isMd S) (h : rDat I) : qMet E y_Md_act b_Md_act 5 (some .int) 10 0 0 [.ref (qb E + 114), .int m, .int a, .int x] S I J (fun u S' I' J' => (∃ c, c ≤ 6 ∧ I 114 0 = nI c ∧ J' = J ∧ (((∀ p, p < c → m ≠ nI p) ∨ qwithin a 0 2 = 0) ∧ u = some (.int 0) ∧ I' = qup I 114 37 0 ∨ ∃ p k, p < c ∧ m = nI p ∧ k < 7 ∧ I 115 p = nI k ∧ ¬ qwithin a 0 2 = 0 ∧ u = some (.int (mAct (nI p) (I 116 p) k a x).1) ∧ I' = mtrace (qup I 114 37 0) (mAct (nI p) (I 116 p) k a x).2)) ∧ RQ0 S I J (rT I) u S' I' J') := by
  obtain ⟨c, c6, hc⟩ := h.c
  refine (c_Md_act hM hc c6 h.kinds).px (fun u S' I' J' hq => ⟨c, c6, hc, hq.2.1.symm, hq.2.2⟩) (fun v S' I' J' hq => ?_)
  obtain ⟨hS, rfl, hR⟩ := hq
  have key : (∀ a, a ≠ 114 → a ≠ 138 → I' a = I a) ∧ (∀ j, j ≠ 37 → I' 114 j = I 114 j) ∧ ∃ t, t < 2 ^ 30 ∧ I' 114 37 = nI t := by
    rcases hR with ⟨-, -, rfl⟩ | ⟨p, k, -, -, -, -, -, -, rfl⟩
    · exact ⟨fun b b1 _ => qup_row b1, fun j hj => qup_j hj, 0, by decide, qup_at⟩
    · refine ⟨fun b b1 b2 => by rw [mtrace_row b2 b1, qup_row b1], fun j hj => by rw [mtrace_f hj, qup_j hj], _, ?_, mtrace_n _ _ 0 qup_at⟩
      have := mAct_len (i := nI p) (v := I 116 p) (kd := k) (a := a) (x := x)
      omega
  obtain ⟨e, f, ht⟩ := key
  exact ⟨hS, h.tr e f ht, fun b hb => ⟨e b (by omega) (by omega), rfl⟩, f 0 (by decide), f 39 (by decide), congrFun (e 139 (by decide) (by decide)) 117⟩
end H22b
